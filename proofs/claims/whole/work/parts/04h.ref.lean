/-! THE REFERENCE's ways -/
theorem anI_s {P : Int → Bool} {z N : Int} (h : z < N) : anI P z N = (P z || anI P (z + 1) N) := by unfold anI; rw [toNat_step h]; rfl
theorem hk1_t {K v : Int} (h : K / 2 ^ v.toNat % 2 ^ 1 = 1) : hk K v = true := hk_ne.mp (by omega)
theorem hk1_f {K v : Int} (h : ¬ K / 2 ^ v.toNat % 2 ^ 1 = 1) : hk K v = false := hk_eq.mp (by omega)
/-- the first k places hold P -/
def prB (P V : Int → Bool) (k : Int) : Int → Bool := fun c => if 0 ≤ c ∧ c < k then P c else V c
theorem prB_0 (P V : Int → Bool) : prB P V 0 = V := by funext c; unfold prB; rw [if_neg (by omega)]
theorem prB_s {P V : Int → Bool} {k : Int} {b : Bool} (hk : 0 ≤ k) (hb : P k = b) : upI (prB P V k) k b = prB P V (k + 1) := by
  funext c
  unfold upI prB
  by_cases q : c = k
  · subst q; rw [if_pos rfl, if_pos (by omega), hb]
  · rw [if_neg q]
    by_cases q2 : 0 ≤ c ∧ c < k
    · rw [if_pos q2, if_pos (by omega)]
    · rw [if_neg q2, if_neg (by omega)]
theorem prB_in {P V : Int → Bool} {k c : Int} (h : 0 ≤ c ∧ c < k) : prB P V k c = P c := by unfold prB; rw [if_pos h]
theorem upI_self {α : Type} (f : Int → α) (e : Int) : upI f e (f e) = f := by funext j; unfold upI; split <;> simp_all
/-- a byte as a tape of bytes holds it -/
def sbS (b : Int) : Int := (b + 128) % 256 - 128
theorem sbS_up (Tb : Int → Int) (L v : Int) : upI (fun j9 => sbS (Tb j9)) L (sbS v) = fun j9 => sbS (upI Tb L v j9) := by
  funext j
  unfold upI
  split <;> rfl
theorem sbS_byte {v : Int} (hv : -2147483648 ≤ v ∧ v ≤ 2147483647) {k : Int} (hk : 0 ≤ k ∧ k ≤ 3) : (v / 2 ^ (8 * k).toNat + 128) % 256 - 128 = sbS (byteS v k) := by
  unfold sbS byteS
  rcases (show k = 0 ∨ k = 1 ∨ k = 2 ∨ k = 3 by omega) with h | h | h | h <;> subst h <;> simp <;> omega
theorem sbS_rng (b : Int) : -128 ≤ sbS b ∧ sbS b ≤ 127 := by unfold sbS; omega
theorem sbS_255 {b : Int} (h : 0 ≤ b ∧ b ≤ 255) : sbS b % 2 ^ 8 = b := by unfold sbS; omega
theorem cutS_nxt_top {B : Int → Int} {p K i n : Int} (h : topS B p < 0) : cutS B p K (n - i).toNat = cutS B p K (n - (i + 1)).toNat := by have := topS_rng B p; rw [cutS_top (by omega), cutS_top (by omega)]
theorem cutS_nxt_no {B : Int → Int} {p K i n : Int} (h : hk K (B (144 * topS B p + p)) = false) : cutS B p K (n - i).toNat = cutS B p K (n - (i + 1)).toNat := by rw [cutS_no h, cutS_no h]
theorem hk_one0 {B : Int → Int} (hB : BOK B) {c : Int} : hk 1 (B c) = decide (B c = 0) := hk_1 (hB c)
theorem okB1_t {B : Int → Int} {c : Int} (h : B c = 0) : okB 1 B c = true := by unfold okB; rw [h]; decide
theorem okB1_f {B : Int → Int} (hB : BOK B) {c : Int} (h : ¬ B c = 0) : okB 1 B c = false := by unfold okB; rw [hk_1 (hB c)]; simpa using h
theorem okB254_t {B : Int → Int} (hB : BOK B) {c : Int} (h : 0 < B c) : okB 254 B c = true := by unfold okB; rw [hk_254 (hB c)]; simp; omega
theorem okB254_f {B : Int → Int} (hB : BOK B) {c : Int} (h : B c ≤ 0) : okB 254 B c = false := by unfold okB; rw [hk_254 (hB c)]; have := hB c; simp; omega
theorem nearP_go {V : Int → Bool} {c w : Int} {b : Bool} (hw : w < 6) (hb : b = false) (h : (decide (bes c w ≠ -1) && V (bes c w)) = false) (hf : (b || anI (fun w => decide (bes c w ≠ -1) && V (bes c w)) w 6) = nearP V c) : (false || anI (fun w => decide (bes c w ≠ -1) && V (bes c w)) (w + 1) 6) = nearP V c := by
  rw [hb, anI_f hw h] at hf; exact hf
theorem nearP_yes {V : Int → Bool} {c w : Int} {b : Bool} (hw : w < 6) (h : (decide (bes c w ≠ -1) && V (bes c w)) = true) (hf : (b || anI (fun w => decide (bes c w ≠ -1) && V (bes c w)) w 6) = nearP V c) : (true || anI (fun w => decide (bes c w ≠ -1) && V (bes c w)) (w + 1) 6) = nearP V c := by
  rw [anI_t hw h, Bool.or_true] at hf; rw [← hf]; rfl
theorem nearP_old {V : Int → Bool} {c w : Int} {b : Bool} (hb : b = true) (hf : (b || anI (fun w => decide (bes c w ≠ -1) && V (bes c w)) w 6) = nearP V c) : (true || anI (fun w => decide (bes c w ≠ -1) && V (bes c w)) (w + 1) 6) = nearP V c := by
  rw [hb, Bool.true_or] at hf; rw [← hf]; rfl
theorem stuffP_t {B : Int → Int} {c : Int} (h : 0 < B c) : stuffP B c = true := by unfold stuffP; simp; omega
theorem stuffP_f {B : Int → Int} (hB : BOK B) {c : Int} (h : B c ≤ 0) : stuffP B c = false := by unfold stuffP; have := hB c; simp; omega
theorem visit_len_eq {s : BS} {c : Int} (h : s.1 c = false) : ((visit s c).2.length : Int) = (s.2.length : Int) + 1 := by rw [visit_f h]; simp
theorem bare_z {B : Int → Int} (hB : BOK B) {K : Int} (hK0 : hk K 0 = false) {c : Int} (h : B c ≤ 0) : bareP B K c = false := by unfold bareP; have := hB c; rw [show B c = 0 by omega, hK0]; rfl
theorem bare_k {B : Int → Int} {K c : Int} (h : hk K (B c) = false) : bareP B K c = false := by unfold bareP; rw [h]; rfl
theorem bare_h {B : Int → Int} {K c : Int} (h : hk K (B c) = true) (h2 : 2736 ≤ c) : bareP B K c = true := by unfold bareP expoP; rw [h, decide_eq_true h2]; rfl
theorem bare_n {B : Int → Int} {K c : Int} (h2 : c < 2736) (h3 : nearP (opnS B).1 c = false) : bareP B K c = false := by unfold bareP expoP; rw [h3, decide_eq_false (by omega)]; simp
theorem bare_y {B : Int → Int} {K c : Int} (h : hk K (B c) = true) (h3 : nearP (opnS B).1 c = true) : bareP B K c = true := by unfold bareP expoP; rw [h, h3]; simp
