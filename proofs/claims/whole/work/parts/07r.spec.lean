/-! THE LAYOUT of a program in the reference: where the class's steps lie, where their repeats end -/
def curO (d : Int) (O : Int → Int) : Int := if d = 0 then -1 else O (d - 1)
def clsd (d : Int) (O : Int → Int) (r : Int) : Prop := ∀ j : Int, 0 ≤ j → j < d → O j ≠ r
def ATp (n m d : Int) (O : Int → Int) (G : Int → Int → Int) (φ β pr : Int → Int) (x c p : Int) : Prop := ((0 ≤ x ∧ x < n) ∧ φ x = p ∧ pr x = c) ∨ ((0 ≤ c ∧ c < n) ∧ G c 0 = 13 ∧ clsd d O c ∧ p = β c ∧ x = G c 7) ∨ (x = n ∧ c = curO d O ∧ p = m)
def LAY (n m d : Int) (O : Int → Int) (G : Int → Int → Int) (OP ST ON TW TM SE PL OT φ β pr de : Int → Int) : Prop :=
  (0 ≤ m ∧ m + d ≤ 2 * n ∧ 0 ≤ d ∧ 0 ≤ n) ∧
  (∀ i : Int, 0 ≤ i → i < n → (0 ≤ φ i ∧ φ i < m) ∧ ST (φ i) = G i 0 + 1 ∧ PL (φ i) = G i 1 ∧ FLD (G i) (ON (φ i)) (TW (φ i)) (TM (φ i)) (SE (φ i))) ∧
  (∀ i j : Int, 0 ≤ i → i < j → j < n → φ i < φ j) ∧
  (∀ j : Int, 0 ≤ j → j < d → OP j = φ (O j) ∧ (0 ≤ O j ∧ O j < n) ∧ G (O j) 0 = 13 ∧ de (O j) = j ∧ pr (O j) = if j = 0 then -1 else O (j - 1)) ∧
  (∀ i : Int, 0 ≤ i → i < n → ((pr i = -1 ∧ de i = 0) ∨ (0 ≤ pr i ∧ pr i < i ∧ G (pr i) 0 = 13 ∧ de i = de (pr i) + 1)) ∧ (G i 0 = 13 → de i ≤ 3)) ∧
  (∀ r : Int, 0 ≤ r → r < n → G r 0 = 13 → clsd d O r → (0 ≤ β r ∧ β r < m) ∧ ST (β r) = 15 ∧ OT (β r) = φ r ∧ OT (φ r) = β r ∧ (0 ≤ G r 7 ∧ G r 7 ≤ n) ∧ ∀ i : Int, 0 ≤ i → i < n → pr i = r → i < G r 7) ∧
  ATp n m d O G φ β pr 0 (-1) 0 ∧
  (∀ i : Int, 0 ≤ i → i < n → ¬ G i 0 = 13 → ATp n m d O G φ β pr (i + 1) (pr i) (φ i + 1)) ∧
  (∀ r : Int, 0 ≤ r → r < n → G r 0 = 13 → ATp n m d O G φ β pr (r + 1) r (φ r + 1)) ∧
  (∀ r : Int, 0 ≤ r → r < n → G r 0 = 13 → clsd d O r → ATp n m d O G φ β pr (G r 7) (pr r) (β r + 1))
theorem LAY_0 (O : Int → Int) (G : Int → Int → Int) (OP ST ON TW TM SE PL OT φ β pr de : Int → Int) : LAY 0 0 0 O G OP ST ON TW TM SE PL OT φ β pr de := by
  refine ⟨by omega, fun i a b => by omega, fun i j a b c => by omega, fun j a b => by omega, fun i a b => by omega, fun r a b => by omega, Or.inr (Or.inr ⟨rfl, rfl, rfl⟩), fun i a b => by omega, fun r a b => by omega, fun r a b => by omega⟩
theorem LAY_add {n m d w f o u t s : Int} {O : Int → Int} {G : Int → Int → Int} {OP ST ON TW TM SE PL OT φ β pr de g : Int → Int} (h : LAY n m d O G OP ST ON TW TM SE PL OT φ β pr de) (hg0 : g 0 = w) (hg1 : g 1 = f) (hF : FLD g o u t s) (hd : w = 13 → d < 4) :
    LAY (n + 1) (m + 1) (if w = 13 then d + 1 else d) (if w = 13 then upI O d n else O) (upI G n g) (if w = 13 then upI OP d m else OP) (upI ST m (w + 1)) (upI ON m o) (upI TW m u) (upI TM m t) (upI SE m s) (upI PL m f) (upI OT m 0) (upI φ n m) β (upI pr n (curO d O)) (upI de n d) := by
  obtain ⟨h1, h2, h3, h4, h5, h6, h7, h8, h9, h10⟩ := h
  have hO : ∀ j : Int, 0 ≤ j → j < d → (if w = 13 then upI O d n else O) j = O j := fun j a b => by
    split
    · rw [upI_n (by omega)]
    · rfl
  have hcur : curO (if w = 13 then d + 1 else d) (if w = 13 then upI O d n else O) = if w = 13 then n else curO d O := by
    unfold curO
    by_cases q : w = 13
    · rw [if_pos q, if_pos q, if_pos q, if_neg (by omega), show d + 1 - 1 = d by omega, upI_s]
    · rw [if_neg q, if_neg q, if_neg q]
  have hcl : ∀ r : Int, r < n → clsd d O r → clsd (if w = 13 then d + 1 else d) (if w = 13 then upI O d n else O) r := by
    intro r a b j x y
    by_cases q : w = 13
    · rw [if_pos q] at y ⊢
      by_cases e : j = d
      · rw [e, upI_s]; omega
      · rw [upI_n e]; exact b j x (by omega)
    · rw [if_neg q] at y ⊢; exact b j x y
  have hcl2 : ∀ r : Int, clsd (if w = 13 then d + 1 else d) (if w = 13 then upI O d n else O) r → clsd d O r := by
    intro r b j x y
    have := b j x (by split <;> omega)
    rw [hO j x y] at this; exact this
  have hcr : ∀ r : Int, 0 ≤ r → clsd d O r → curO d O ≠ r := by
    intro r a b
    unfold curO
    by_cases q : d = 0
    · rw [if_pos q]; omega
    · rw [if_neg q]; exact b (d - 1) (by omega) (by omega)
  have hAT : ∀ x c p : Int, ATp n m d O G φ β pr x c p → ATp (n + 1) (m + 1) (if w = 13 then d + 1 else d) (if w = 13 then upI O d n else O) (upI G n g) (upI φ n m) β (upI pr n (curO d O)) x c p := by
    rintro x c p (⟨a, b, e⟩ | ⟨a, a2, b, e, z⟩ | ⟨a, b, e⟩)
    · exact Or.inl ⟨by omega, by rw [upI_n (by omega)]; exact b, by rw [upI_n (by omega)]; exact e⟩
    · exact Or.inr (Or.inl ⟨by omega, by rw [upI_n (by omega)]; exact a2, hcl c a.2 b, e, by rw [upI_n (by omega)]; exact z⟩)
    · exact Or.inl ⟨by omega, by rw [a, upI_s]; exact e.symm, by rw [a, upI_s]; exact b.symm⟩
  refine ⟨by split <;> omega, fun i a b => ?_, fun i j a b c => ?_, fun j a b => ?_, fun i a b => ?_, fun r a b c e => ?_, hAT _ _ _ h7, fun i a b c => ?_, fun r a b c => ?_, fun r a b c e => ?_⟩
  · by_cases q : i = n
    · rw [q, upI_s, upI_s, upI_s, upI_s, upI_s, upI_s, upI_s, upI_s, hg0, hg1]; exact ⟨by omega, rfl, rfl, hF⟩
    · have := h2 i a (by omega)
      rw [upI_n q, upI_n q, upI_n (by omega), upI_n (by omega), upI_n (by omega), upI_n (by omega), upI_n (by omega), upI_n (by omega)]
      exact ⟨by omega, this.2⟩
  · by_cases q : j = n
    · have := h2 i a (by omega)
      rw [q, upI_s, upI_n (by omega)]; omega
    · rw [upI_n q, upI_n (by omega)]; exact h3 i j a b (by omega)
  · by_cases q : w = 13
    · rw [if_pos q, if_pos q]
      rw [if_pos q] at b
      by_cases e : j = d
      · rw [e, upI_s, upI_s, upI_s, upI_s, upI_s, upI_s]
        refine ⟨rfl, by omega, by rw [hg0]; exact q, rfl, ?_⟩
        unfold curO
        by_cases z : d = 0
        · rw [if_pos z, if_pos z]
        · rw [if_neg z, if_neg z, upI_n (by omega)]
      · have := h4 j a (by omega)
        rw [upI_n e, upI_n e, upI_n (by omega), upI_n (by omega), upI_n (by omega), upI_n (by omega), upI_n (show j - 1 ≠ d by omega)]
        exact ⟨this.1, by omega, this.2.2.1, this.2.2.2.1, this.2.2.2.2⟩
    · rw [if_neg q, if_neg q]
      rw [if_neg q] at b
      have := h4 j a b
      rw [upI_n (by omega), upI_n (by omega), upI_n (by omega), upI_n (by omega)]
      exact ⟨this.1, by omega, this.2.2.1, this.2.2.2.1, this.2.2.2.2⟩
  · by_cases q : i = n
    · rw [q, upI_s, upI_s, upI_s, hg0]
      refine ⟨?_, fun z => by have := hd z; omega⟩
      unfold curO
      by_cases z : d = 0
      · rw [if_pos z]; exact Or.inl ⟨rfl, z⟩
      · have := h4 (d - 1) (by omega) (by omega)
        rw [if_neg z, upI_n (by omega), upI_n (by omega)]
        exact Or.inr ⟨this.2.1.1, this.2.1.2, this.2.2.1, by omega⟩
    · have := h5 i a (by omega)
      rw [upI_n q, upI_n q, upI_n q]
      refine ⟨?_, this.2⟩
      rcases this.1 with z | z
      · exact Or.inl z
      · rw [upI_n (by omega), upI_n (by omega)]; exact Or.inr z
  · have hrn : r ≠ n := fun q => by
      rw [q, upI_s, hg0] at c
      rw [if_pos c, if_pos c] at e
      exact e d (by omega) (by omega) (by rw [upI_s]; exact q.symm)
    rw [upI_n hrn] at c
    have := h6 r a (by omega) c (hcl2 r e)
    rw [upI_n hrn, upI_n hrn, upI_n (by omega), upI_n (by omega), upI_n (by have := h2 r a (by omega); omega)]
    refine ⟨by omega, this.2.1, this.2.2.1, this.2.2.2.1, by omega, fun i x y z => ?_⟩
    by_cases q : i = n
    · rw [q, upI_s] at z; exact absurd z (hcr r a (hcl2 r e))
    · rw [upI_n q] at z; exact this.2.2.2.2.2 i x (by omega) z
  · by_cases q : i = n
    · rw [q, upI_s, hg0] at c
      rw [q, upI_s, upI_s]
      exact Or.inr (Or.inr ⟨rfl, by rw [hcur, if_neg c], rfl⟩)
    · rw [upI_n q] at c
      rw [upI_n q, upI_n q]
      exact hAT _ _ _ (h8 i a (by omega) c)
  · by_cases q : r = n
    · rw [q, upI_s, hg0] at c
      rw [q, upI_s]
      exact Or.inr (Or.inr ⟨rfl, by rw [hcur, if_pos c], rfl⟩)
    · rw [upI_n q] at c
      rw [upI_n q]
      exact hAT _ _ _ (h9 r a (by omega) c)
  · have hrn : r ≠ n := fun q => by
      rw [q, upI_s, hg0] at c
      rw [if_pos c, if_pos c] at e
      exact e d (by omega) (by omega) (by rw [upI_s]; exact q.symm)
    rw [upI_n hrn] at c
    rw [upI_n hrn, upI_n hrn]
    exact hAT _ _ _ (h10 r a (by omega) c (hcl2 r e))
theorem LAY_close {n m d f : Int} {O : Int → Int} {G : Int → Int → Int} {OP ST ON TW TM SE PL OT φ β pr de : Int → Int} (h : LAY n m d O G OP ST ON TW TM SE PL OT φ β pr de) (hd : 0 < d) :
    LAY n (m + 1) (d - 1) O (upI G (O (d - 1)) (upI (G (O (d - 1))) 7 n)) OP (upI ST m 15) (upI ON m 0) (upI TW m 0) (upI TM m 0) (upI SE m 0) (upI PL m f) (upI (upI OT m (OP (d - 1))) (OP (d - 1)) m) φ (upI β (O (d - 1)) m) pr de := by
  obtain ⟨h1, h2, h3, h4, h5, h6, h7, h8, h9, h10⟩ := h
  have hr := h4 (d - 1) (by omega) (by omega)
  have hOP := hr.1
  have hφ := (h2 _ hr.2.1.1 hr.2.1.2)
  rw [hOP]
  generalize hR : O (d - 1) = R at *
  have hinj : ∀ i j : Int, 0 ≤ i → i < n → 0 ≤ j → j < n → i ≠ j → φ i ≠ φ j := fun i j a b c e z => by
    rcases Int.lt_or_gt_of_ne z with q | q
    · have := h3 i j a q e; omega
    · have := h3 j i c q b; omega
  have hG : ∀ i k : Int, k ≠ 7 → upI G R (upI (G R) 7 n) i k = G i k := fun i k q => by
    by_cases e : i = R
    · rw [e, upI_s, upI_n q]
    · rw [upI_n e]
  have hcl : ∀ r : Int, clsd d O r → clsd (d - 1) O r := fun r b j x y => b j x (by omega)
  have hcl2 : ∀ r : Int, r ≠ R → clsd (d - 1) O r → clsd d O r := fun r q b j x y => by
    by_cases e : j = d - 1
    · rw [e, hR]; exact fun z => q z.symm
    · exact b j x (by omega)
  have hRn : ∀ r : Int, clsd d O r → r ≠ R := fun r b e => b (d - 1) (by omega) (by omega) (by rw [hR]; exact e.symm)
  have hRc : clsd (d - 1) O R := fun j x y e => by
    have := h4 j x (by omega)
    rw [e] at this
    omega
  have hcur : curO d O = R := by unfold curO; rw [if_neg (by omega)]; exact hR
  have hcur2 : curO (d - 1) O = pr R := by
    rw [hr.2.2.2.2]
    unfold curO
    rfl
  have hAT : ∀ x c p : Int, ATp n m d O G φ β pr x c p → ATp n (m + 1) (d - 1) O (upI G R (upI (G R) 7 n)) φ (upI β R m) pr x c p := by
    rintro x c p (⟨a, b, e⟩ | ⟨a, a2, b, e, z⟩ | ⟨a, b, e⟩)
    · exact Or.inl ⟨a, b, e⟩
    · refine Or.inr (Or.inl ⟨a, by rw [hG c 0 (by omega)]; exact a2, hcl c b, ?_, ?_⟩)
      · rw [upI_n (hRn c b)]; exact e
      · rw [upI_n (hRn c b)]; exact z
    · rw [hcur] at b
      refine Or.inr (Or.inl ⟨by omega, by rw [b, hG R 0 (by omega)]; exact hr.2.2.1, by rw [b]; exact hRc, ?_, ?_⟩)
      · rw [b, upI_s]; exact e
      · rw [b, upI_s, upI_s]; exact a
  refine ⟨by omega, fun i a b => ?_, h3, fun j a b => ?_, fun i a b => ?_, fun r a b c e => ?_, hAT _ _ _ h7, fun i a b c => ?_, fun r a b c => ?_, fun r a b c e => ?_⟩
  · have := h2 i a b
    rw [hG i 0 (by omega), hG i 1 (by omega), upI_n (e := m) (by omega), upI_n (e := m) (by omega), upI_n (e := m) (by omega), upI_n (e := m) (by omega), upI_n (e := m) (by omega), upI_n (e := m) (by omega)]
    refine ⟨by omega, this.2.1, this.2.2.1, ?_⟩
    have hf := this.2.2.2
    unfold FLD at hf ⊢
    rw [hG i 0 (by omega), hG i 2 (by omega), hG i 3 (by omega), hG i 4 (by omega), hG i 5 (by omega), hG i 6 (by omega)]
    exact hf
  · have := h4 j a (by omega)
    rw [hG _ 0 (by omega)]
    exact this
  · have := h5 i a b
    rw [hG i 0 (by omega), hG _ 0 (by omega)]
    exact this
  · rw [hG r 0 (by omega)] at c
    by_cases q : r = R
    · rw [q, upI_s, upI_s, upI_s, upI_s, upI_s, upI_n (show m ≠ φ R by omega), upI_s]
      exact ⟨by omega, rfl, rfl, rfl, by omega, fun i x y z => y⟩
    · have := h6 r a b c (hcl2 r q e)
      have h2r := h2 r a b
      have hβ : β r ≠ φ R := fun z => by
        have := this.2.1
        rw [z, hφ.2.1, hr.2.2.1] at this
        omega
      rw [upI_n q, upI_n q, upI_n (by omega), upI_n hβ, upI_n (by omega), upI_n (hinj r R a b hr.2.1.1 hr.2.1.2 q), upI_n (by omega)]
      exact ⟨by omega, this.2⟩
  · rw [hG i 0 (by omega)] at c
    exact hAT _ _ _ (h8 i a b c)
  · rw [hG r 0 (by omega)] at c
    exact hAT _ _ _ (h9 r a b c)
  · rw [hG r 0 (by omega)] at c
    by_cases q : r = R
    · rw [q, upI_s, upI_s, upI_s]
      exact Or.inr (Or.inr ⟨rfl, hcur2.symm, rfl⟩)
    · rw [upI_n q, upI_n q]
      exact hAT _ _ _ (h10 r a b c (hcl2 r q e))
