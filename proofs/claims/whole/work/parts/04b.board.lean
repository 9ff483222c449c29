/-! SEARCHES: the first z from z on, below N, with P; whether there is one -/
def findUp (P : Int → Bool) (z : Int) : Nat → Int
  | 0 => -1
  | n + 1 => if P z then z else findUp P (z + 1) n
def anyUp (P : Int → Bool) (z : Int) : Nat → Bool
  | 0 => false
  | n + 1 => P z || anyUp P (z + 1) n
def fuI (P : Int → Bool) (z N : Int) : Int := findUp P z (N - z).toNat
def anI (P : Int → Bool) (z N : Int) : Bool := anyUp P z (N - z).toNat
theorem toNat_step {z N : Int} (h : z < N) : (N - z).toNat = (N - (z + 1)).toNat + 1 := by omega
theorem fuI_t {P : Int → Bool} {z N : Int} (h : z < N) (hp : P z = true) : fuI P z N = z := by unfold fuI; rw [toNat_step h, findUp, if_pos hp]
theorem fuI_f {P : Int → Bool} {z N : Int} (h : z < N) (hp : P z = false) : fuI P z N = fuI P (z + 1) N := by unfold fuI; rw [toNat_step h, findUp, if_neg (by rw [hp]; decide)]
theorem fuI_e {P : Int → Bool} {z N : Int} (h : N ≤ z) : fuI P z N = -1 := by unfold fuI; rw [show (N - z).toNat = 0 by omega]; rfl
theorem anI_t {P : Int → Bool} {z N : Int} (h : z < N) (hp : P z = true) : anI P z N = true := by unfold anI; rw [toNat_step h, anyUp, hp]; rfl
theorem anI_f {P : Int → Bool} {z N : Int} (h : z < N) (hp : P z = false) : anI P z N = anI P (z + 1) N := by unfold anI; rw [toNat_step h, anyUp, hp]; rfl
theorem anI_e {P : Int → Bool} {z N : Int} (h : N ≤ z) : anI P z N = false := by unfold anI; rw [show (N - z).toNat = 0 by omega]; rfl
/-- n cubes from above the top on -/
def layF (B : Int → Int) (p s lo hi : Int) : Int → Int := fun c => if 0 ≤ c ∧ c % 144 = p ∧ lo ≤ c / 144 ∧ c / 144 < hi then s else B c
theorem layF_0 {B : Int → Int} {p s lo : Int} : layF B p s lo lo = B := by funext c; unfold layF; rw [if_neg (by omega)]
theorem layF_s {B : Int → Int} {p s lo z : Int} (h1 : 0 ≤ lo) (h2 : lo ≤ z) (hp : 0 ≤ p ∧ p < 144) : upI (layF B p s lo z) (144 * z + p) s = layF B p s lo (z + 1) := by
  funext c
  unfold upI layF
  by_cases q : c = 144 * z + p
  · rw [if_pos q, if_pos (by omega)]
  · rw [if_neg q]
    by_cases q2 : 0 ≤ c ∧ c % 144 = p ∧ lo ≤ c / 144 ∧ c / 144 < z
    · rw [if_pos q2, if_pos (by omega)]
    · rw [if_neg q2, if_neg (by omega)]
def layS (B : Int → Int) (p s n : Int) : Int → Int := layF B p s (topS B p + 1) (if topS B p + 1 + n ≤ 20 then topS B p + 1 + n else 20)
theorem BOK_layF {B : Int → Int} (h : BOK B) {p s lo hi : Int} (hs : 0 ≤ s ∧ s ≤ 7) : BOK (layF B p s lo hi) := fun c => by
  unfold layF
  split
  · exact hs
  · exact h c
/-- a cut of one, of n -/
def cut1 (B : Int → Int) (p K : Int) : Int → Int := if topS B p = -1 then B else if hk K (B (144 * topS B p + p)) then upI B (144 * topS B p + p) 0 else B
def cutS (B : Int → Int) (p K : Int) : Nat → Int → Int
  | 0 => B
  | n + 1 => cutS (cut1 B p K) p K n
theorem cutS_same {B : Int → Int} {p K : Int} (h : cut1 B p K = B) (n : Nat) : cutS B p K n = B := by
  induction n with
  | zero => rfl
  | succ n ih => rw [cutS, h]; exact ih
theorem cutS_top {B : Int → Int} {p K : Int} (h : topS B p = -1) (n : Nat) : cutS B p K n = B := cutS_same (by unfold cut1; rw [if_pos h]) n
theorem cutS_no {B : Int → Int} {p K : Int} (h : hk K (B (144 * topS B p + p)) = false) (n : Nat) : cutS B p K n = B := cutS_same (by unfold cut1; rw [h]; split <;> rfl) n
theorem cutS_yes {B : Int → Int} {p K i n : Int} (hi : i < n) (h0 : ¬ topS B p = -1) (h : hk K (B (144 * topS B p + p)) = true) : cutS B p K (n - i).toNat = cutS (upI B (144 * topS B p + p) 0) p K (n - (i + 1)).toNat := by
  rw [toNat_step hi, cutS]
  unfold cut1
  rw [if_neg h0, if_pos h]
theorem BOK_cutS {p K : Int} (n : Nat) : ∀ {B : Int → Int}, BOK B → BOK (cutS B p K n) := by
  induction n with
  | zero => intro B h; exact h
  | succ n ih =>
    intro B h
    refine ih ?_
    unfold cut1
    split
    · exact h
    · split
      · exact BOK_upI h (by omega)
      · exact h
/-- a dope from height z on, n cubes -/
def dopeS (B : Int → Int) (p s t K : Int) (z : Int) : Nat → Int → Int
  | 0 => B
  | n + 1 => if z < 0 then B else if B (144 * z + p) = s ∨ hk K (B (144 * z + p)) = true then dopeS (if B (144 * z + p) = s then upI B (144 * z + p) t else B) p s t K (z - 1) n else B
theorem dopeS_neg {B : Int → Int} {p s t K z : Int} (h : z < 0) (n : Nat) : dopeS B p s t K z n = B := by cases n with | zero => rfl | succ n => rw [dopeS, if_pos h]
theorem dopeS_no {B : Int → Int} {p s t K z : Int} (h1 : B (144 * z + p) ≠ s) (h2 : hk K (B (144 * z + p)) = false) (n : Nat) : dopeS B p s t K z n = B := by
  cases n with
  | zero => rfl
  | succ n =>
    rw [dopeS]
    split
    · rfl
    · rw [if_neg (fun h => h.elim h1 (fun h => by rw [h2] at h; cases h))]
theorem dopeS_s {B : Int → Int} {p s t K z i n : Int} (hz : 0 ≤ z) (hi : i < n) (h1 : B (144 * z + p) = s) : dopeS B p s t K z (n - i).toNat = dopeS (upI B (144 * z + p) t) p s t K (z - 1) (n - (i + 1)).toNat := by
  rw [toNat_step hi, dopeS, if_neg (by omega), if_pos (Or.inl h1), if_pos h1]
theorem dopeS_k {B : Int → Int} {p s t K z i n : Int} (hz : 0 ≤ z) (hi : i < n) (h1 : ¬ B (144 * z + p) = s) (h2 : hk K (B (144 * z + p)) = true) : dopeS B p s t K z (n - i).toNat = dopeS B p s t K (z - 1) (n - (i + 1)).toNat := by
  rw [toNat_step hi, dopeS, if_neg (by omega), if_pos (Or.inr h2), if_neg h1]
theorem dopeS_e {B : Int → Int} {p s t K z i n : Int} (h : n ≤ i) : dopeS B p s t K z (n - i).toNat = B := by rw [show (n - i).toNat = 0 by omega]; rfl
theorem BOK_dopeS {p s t K : Int} (ht : 0 ≤ t ∧ t ≤ 7) (n : Nat) : ∀ {B : Int → Int} {z : Int}, BOK B → BOK (dopeS B p s t K z n) := by
  induction n with
  | zero => intro B z h; exact h
  | succ n ih =>
    intro B z h
    rw [dopeS]
    split
    · exact h
    · split
      · apply ih
        split
        · exact BOK_upI h ht
        · exact h
      · exact h
theorem hk_or {K s v : Int} (hK : 0 ≤ K) (hs : 0 ≤ s ∧ s ≤ 31) (hv : 0 ≤ v ∧ v ≤ 31) : hk (((K : Int).toNat ||| (1 * 2 ^ s.toNat : Int).toNat : Nat) : Int) v = (hk K v || decide (v = s)) := by
  obtain ⟨k, rfl⟩ := Int.eq_ofNat_of_zero_le hK
  obtain ⟨a, rfl⟩ := Int.eq_ofNat_of_zero_le hs.1
  obtain ⟨b, rfl⟩ := Int.eq_ofNat_of_zero_le hv.1
  have e1 : ((1 : Int) * 2 ^ ((a : Int).toNat)).toNat = 2 ^ a := by
    rw [Int.one_mul]
    have : ((2 : Int) ^ ((a : Int).toNat)) = ((2 ^ a : Nat) : Int) := by simp
    rw [this]; rfl
  have bit : ∀ x : Nat, hk (x : Int) (b : Int) = x.testBit b := by
    intro x
    unfold hk
    have e2 : (x : Int) / 2 ^ ((b : Int).toNat) % 2 = ((x / 2 ^ b % 2 : Nat) : Int) := by simp
    rw [e2, Nat.testBit_eq_decide_div_mod_eq]
    simp only [decide_eq_decide]
    omega
  rw [bit, bit, e1]
  show Nat.testBit (k ||| 2 ^ a) b = _
  rw [Nat.testBit_or, Nat.testBit_two_pow]
  congr 1
  simp only [decide_eq_decide]
  omega
/-! SPANS -/
def begS (B : Int → Int) (p z : Int) : Bool := decide (z = 0 ∨ B (144 * z + p) ≠ B (144 * z + p - 144))
noncomputable def spansS (B : Int → Int) (p : Int) : Int := cntI (begS B p) (topS B p + 1)
noncomputable def lowS (B : Int → Int) (p i : Int) : Int := fuI (fun z => begS B p z && decide (cntI (begS B p) z = i)) 0 (topS B p + 1)
def endN (B : Int → Int) (p v e : Int) : Nat → Int
  | 0 => e
  | n + 1 => if B (144 * e + p) = v then endN B p v (e + 1) n else e
def endI (B : Int → Int) (p v e : Int) : Int := endN B p v e (20 - e).toNat
theorem endI_t {B : Int → Int} {p v e : Int} (h : e < 20) (hv : B (144 * e + p) = v) : endI B p v e = endI B p v (e + 1) := by unfold endI; rw [toNat_step h, endN, if_pos hv]
theorem endI_f {B : Int → Int} {p v e : Int} (h : e < 20) (hv : ¬ B (144 * e + p) = v) : endI B p v e = e := by unfold endI; rw [toNat_step h, endN, if_neg hv]
theorem endI_e {B : Int → Int} {p v e : Int} (h : 20 ≤ e) : endI B p v e = e := by unfold endI; rw [show (20 - e).toNat = 0 by omega]; rfl
def endS (B : Int → Int) (p z : Int) : Int := endI B p (B (144 * z + p)) (z + 1)
theorem endN_rng (B : Int → Int) (p v : Int) (n : Nat) : ∀ e : Int, e ≤ endN B p v e n ∧ endN B p v e n ≤ e + n := by
  induction n with
  | zero => intro e; exact ⟨Int.le_refl _, by simp [endN]⟩
  | succ n ih => intro e; have := ih (e + 1); unfold endN; split <;> omega
theorem endS_rng (B : Int → Int) (p : Int) {z : Int} (h : 0 ≤ z ∧ z < 20) : z < endS B p z ∧ endS B p z ≤ 20 := by
  have := endN_rng B p (B (144 * z + p)) (20 - (z + 1)).toNat (z + 1)
  unfold endS endI
  omega
def thinB (B : Int → Int) (p s n z : Int) : Bool := decide (B (144 * z + p) = s) && (begS B p z && decide (endS B p z - z < n))
def thinS (B : Int → Int) (p s n : Int) : Bool := anI (thinB B p s n) 0 20
theorem lowS_rng (B : Int → Int) (p i : Int) : -1 ≤ lowS B p i ∧ lowS B p i ≤ 19 := by
  have key : ∀ (n : Nat) (P : Int → Bool) (z : Int), 0 ≤ z → -1 ≤ findUp P z n ∧ findUp P z n ≤ max (-1) (z + n - 1) := by
    intro n P
    induction n with
    | zero => intro z hz; simp only [findUp]; omega
    | succ n ih => intro z hz; have := ih (z + 1) (by omega); unfold findUp; split <;> omega
  have h := topS_rng B p
  have := key (topS B p + 1 - 0).toNat (fun z => begS B p z && decide (cntI (begS B p) z = i)) 0 (by omega)
  unfold lowS fuI
  omega
