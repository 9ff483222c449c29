/-! THE REFERENCE's ways -/
theorem anI_s {P : Int → Bool} {z N : Int} (h : z < N) : anI P z N = (P z || anI P (z + 1) N) := by unfold anI; rw [toNat_step h]; rfl
theorem hk1_t {K v : Int} (h : K / 2 ^ v.toNat % 2 ^ 1 = 1) : hk K v = true := hk_ne.mp (by omega)
theorem hk1_f {K v : Int} (h : ¬ K / 2 ^ v.toNat % 2 ^ 1 = 1) : hk K v = false := hk_eq.mp (by omega)
/-- the first k places hold P -/
def prB (P V : Int → Bool) (k : Int) : Int → Bool := fun c => if 0 ≤ c ∧ c < k then P c else V c
theorem prB_0 (P V : Int → Bool) : prB P V 0 = V := by funext c; unfold prB; rw [if_neg (by omega)]
theorem prB_s {P V : Int → Bool} {k : Int} {b : Bool} (hk : 0 ≤ k) (hb : P k = b) : upI (prB P V k) k b = prB P V (k + 1) := by
  funext c
  unfold upI prB
  by_cases q : c = k
  · subst q; rw [if_pos rfl, if_pos (by omega), hb]
  · rw [if_neg q]
    by_cases q2 : 0 ≤ c ∧ c < k
    · rw [if_pos q2, if_pos (by omega)]
    · rw [if_neg q2, if_neg (by omega)]
theorem prB_in {P V : Int → Bool} {k c : Int} (h : 0 ≤ c ∧ c < k) : prB P V k c = P c := by unfold prB; rw [if_pos h]
theorem upI_self {α : Type} (f : Int → α) (e : Int) : upI f e (f e) = f := by funext j; unfold upI; split <;> simp_all
/-- a byte as a tape of bytes holds it -/
def sbS (b : Int) : Int := (b + 128) % 256 - 128
theorem sbS_up (Tb : Int → Int) (L v : Int) : upI (fun j9 => sbS (Tb j9)) L (sbS v) = fun j9 => sbS (upI Tb L v j9) := by
  funext j
  unfold upI
  split <;> rfl
theorem sbS_byte {v : Int} (hv : -2147483648 ≤ v ∧ v ≤ 2147483647) {k : Int} (hk : 0 ≤ k ∧ k ≤ 3) : (v / 2 ^ (8 * k).toNat + 128) % 256 - 128 = sbS (byteS v k) := by
  unfold sbS byteS
  rcases (show k = 0 ∨ k = 1 ∨ k = 2 ∨ k = 3 by omega) with h | h | h | h <;> subst h <;> simp <;> omega
theorem sbS_rng (b : Int) : -128 ≤ sbS b ∧ sbS b ≤ 127 := by unfold sbS; omega
theorem sbS_255 {b : Int} (h : 0 ≤ b ∧ b ≤ 255) : sbS b % 2 ^ 8 = b := by unfold sbS; omega
theorem cutS_nxt_top {B : Int → Int} {p K i n : Int} (h : topS B p < 0) : cutS B p K (n - i).toNat = cutS B p K (n - (i + 1)).toNat := by have := topS_rng B p; rw [cutS_top (by omega), cutS_top (by omega)]
theorem cutS_nxt_no {B : Int → Int} {p K i n : Int} (h : hk K (B (144 * topS B p + p)) = false) : cutS B p K (n - i).toNat = cutS B p K (n - (i + 1)).toNat := by rw [cutS_no h, cutS_no h]
