/-! what a step does, on the reference's side -/
theorem atI_cg {V : Int → Bool} {B : Int → Int} {d o u n K o2 u2 n2 K2 : Int} (h : ∀ (F : Int → Int) (p : Int), plF F p d o u n K = plF F p d o2 u2 n2 K2) (p : Int) : atI V B d o u n K p = atI V B d o2 u2 n2 K2 p := by
  by_cases hp : p < 0
  · rw [atI_eq, atI_eq, show p.toNat = 0 by omega]; rfl
  · obtain ⟨k, rfl⟩ := Int.eq_ofNat_of_zero_le (show 0 ≤ p by omega)
    clear hp
    induction k with
    | zero => rw [show ((0 : Nat) : Int) = 0 from rfl, atI_0, atI_0]
    | succ k ih => rw [show ((k + 1 : Nat) : Int) = (k : Int) + 1 by omega, atI_s (by omega), atI_s (by omega), ih, h]
theorem at_fld {A : Int → Bool} {B : Int → Int} {mk d o u t s : Int} {g : Int → Int} (hF : FLD g o u t s) (hd : d = g 0 + 1) (h0 : 0 ≤ g 0 ∧ g 0 ≤ 2) : atI (mkV A mk) B d o u t s 144 = rdB A g mk B := by
  unfold rdB
  rw [if_pos h0.2, ← hd]
  refine atI_cg (fun F p => ?_) 144
  obtain ⟨f0, f1, f2, _⟩ := hF
  unfold plF
  by_cases q1 : d = 1
  · have := f0 (by omega)
    rw [if_pos q1, if_pos q1, this.1, this.2]
  · rw [if_neg q1, if_neg q1]
    by_cases q2 : d = 2
    · have := f1 (by omega)
      rw [if_pos q2, if_pos q2, this.1, this.2]
    · have := f2 (by omega)
      rw [if_neg q2, if_neg q2, this.1, this.2.1, this.2.2.1, this.2.2.2]
theorem etchS_s {K n : Int} {B : Int → Int} (h : 0 < n) {C : Int → Bool} (hC : ∀ c : Int, 0 ≤ c → c < 2880 → C c = bareP B K c) : etchS K n.toNat B = etchS K (n - 1).toNat (putP C B 0) := by
  rw [show n.toNat = (n - 1).toNat + 1 by omega, putP_cong hC]
  rfl
theorem preP_fs {P : Int → Bool} {B : Int → Int} {s k v : Int} (hk : 0 ≤ k ∧ k < 2880) (h : P k = true) : upI (preP P B s k) k s = preP P B s (k + 1) := preP_t hk h
def ftF (B : Int → Int) (a c : Int) : Int → Int := putP (fun q => decide (a ≤ q) && decide (q < c)) B 0
theorem ftF_0 (B : Int → Int) (a : Int) : ftF B a a = B := putP_none (fun c _ _ => by
  cases e : (decide (a ≤ c) && decide (c < a)) with
  | false => rfl
  | true => rw [Bool.and_eq_true, decide_eq_true_eq, decide_eq_true_eq] at e; omega)
theorem ftF_s {B : Int → Int} {a c : Int} (h : a ≤ c ∧ 0 ≤ c ∧ c < 2880) : upI (ftF B a c) c 0 = ftF B a (c + 1) := by
  funext j
  unfold ftF putP
  by_cases e : j = c
  · rw [e, upI_s, if_pos ⟨h.2.1, h.2.2, by show (decide (a ≤ c) && decide (c < c + 1)) = true; rw [decide_eq_true h.1, decide_eq_true (by omega)]; rfl⟩]
  · rw [upI_n e]
    have : (decide (a ≤ j) && decide (j < c)) = (decide (a ≤ j) && decide (j < c + 1)) := by congr 1; exact decide_eq_decide.mpr (by omega)
    show (if 0 ≤ j ∧ j < 2880 ∧ (decide (a ≤ j) && decide (j < c)) = true then 0 else B j) = (if 0 ≤ j ∧ j < 2880 ∧ (decide (a ≤ j) && decide (j < c + 1)) = true then 0 else B j)
    rw [this]
theorem ftF_e {B : Int → Int} {h c : Int} (hc : 2880 ≤ c) : ftF B (144 * h) c = flatS B h := putP_cong (fun q _ x => by
  show (decide (144 * h ≤ q) && decide (q < c)) = decide (144 * h ≤ q)
  rw [decide_eq_true (show q < c by omega), Bool.and_true])
