/-! RUNNING, the two sides together -/
def QRT (n m : Int) (G : Int → Int → Int) (φ β pr de : Int → Int) (nx dp k : Int) (bs be rl RO rs : Int → Int) : Prop :=
  (∀ j : Int, 0 ≤ j → j < dp → (0 ≤ rs j ∧ rs j < n) ∧ G (rs j) 0 = 13 ∧ de (rs j) = j ∧ pr (rs j) = (if j = 0 then -1 else rs (j - 1)) ∧ bs j = rs j + 1 ∧ be j = G (rs j) 7 ∧ rl j = RO (φ (rs j)) ∧ 1 ≤ rl j) ∧
  ATp n m 0 (fun _ => 0) G φ β pr nx (if dp = 0 then -1 else rs (dp - 1)) k
/-- class and reference after as many turns -/
def QR (n m : Int) (G : Int → Int → Int) (φ β pr de : Int → Int) (c : Int × QS) (k dn fl mk : Int) (f RO : Int → Int) : Prop :=
  c.1 = fl ∧ c.2.2.2.2.1 = dn ∧ c.2.2.2.1 = mk ∧ c.2.2.2.2.2.2.1 = f ∧ (fl = 0 → ∃ rs : Int → Int, QRT n m G φ β pr de c.2.1 c.2.2.1 k c.2.2.2.2.2.2.2.1 c.2.2.2.2.2.2.2.2.1 c.2.2.2.2.2.2.2.2.2 RO rs) ∧ (¬ fl = 0 → ∃ i : Int, (0 ≤ i ∧ i < n) ∧ k = φ i ∧ c.2.2.2.2.2.1 = G i 1)
/-- the layout, once all is closed -/
def LYE (n m : Int) (G : Int → Int → Int) (ST ON TW TM SE PL OT φ β pr de : Int → Int) : Prop :=
  (0 ≤ m ∧ 0 ≤ n ∧ n ≤ 60 ∧ m ≤ 120) ∧
  (∀ i : Int, 0 ≤ i → i < n → VS (G i) ∧ (0 ≤ φ i ∧ φ i < m) ∧ ST (φ i) = G i 0 + 1 ∧ PL (φ i) = G i 1 ∧ FLD (G i) (ON (φ i)) (TW (φ i)) (TM (φ i)) (SE (φ i))) ∧
  (∀ i j : Int, 0 ≤ i → i < n → 0 ≤ j → j < n → i ≠ j → φ i ≠ φ j) ∧
  (∀ i : Int, 0 ≤ i → i < n → ((pr i = -1 ∧ de i = 0) ∨ (0 ≤ pr i ∧ pr i < i ∧ G (pr i) 0 = 13 ∧ de i = de (pr i) + 1)) ∧ (G i 0 = 13 → de i ≤ 3)) ∧
  (∀ r : Int, 0 ≤ r → r < n → G r 0 = 13 → (0 ≤ β r ∧ β r < m) ∧ ST (β r) = 15 ∧ OT (β r) = φ r ∧ OT (φ r) = β r ∧ (∀ i : Int, 0 ≤ i → i < n → pr i = r → i < G r 7) ∧
    ATp n m 0 (fun _ => 0) G φ β pr (r + 1) r (φ r + 1) ∧ ATp n m 0 (fun _ => 0) G φ β pr (G r 7) (pr r) (β r + 1)) ∧
  ATp n m 0 (fun _ => 0) G φ β pr 0 (-1) 0 ∧
  (∀ i : Int, 0 ≤ i → i < n → ¬ G i 0 = 13 → ATp n m 0 (fun _ => 0) G φ β pr (i + 1) (pr i) (φ i + 1))
theorem ATp_0 {n m d : Int} {O : Int → Int} {G : Int → Int → Int} {φ β pr : Int → Int} {x c p : Int} (hd : d = 0) (h : ATp n m d O G φ β pr x c p) : ATp n m 0 (fun _ => 0) G φ β pr x c p := by
  subst hd
  rcases h with h | ⟨a, b, _, d, e⟩ | ⟨a, b, d⟩
  · exact Or.inl h
  · exact Or.inr (Or.inl ⟨a, b, fun j x y => by omega, d, e⟩)
  · refine Or.inr (Or.inr ⟨a, ?_, d⟩)
    rw [b]; unfold curO; rw [if_pos rfl, if_pos rfl]
theorem LYE_of {n m d : Int} {O : Int → Int} {G : Int → Int → Int} {OP ST ON TW TM SE PL OT φ β pr de : Int → Int} (h : LAY n m d O G OP ST ON TW TM SE PL OT φ β pr de) (hd : d = 0) (hn : n ≤ 60) (hV : ∀ q : Int, 0 ≤ q → q < n → VS (G q)) : LYE n m G ST ON TW TM SE PL OT φ β pr de := by
  obtain ⟨h1, h2, h3, h4, h5, h6, h7, h8, h9, h10⟩ := h
  have hc : ∀ r : Int, clsd d O r := fun r j a b => by omega
  refine ⟨by omega, fun i a b => ⟨hV i a b, h2 i a b⟩, fun i j a b c e q z => ?_, h5, fun r a b c => ?_, ATp_0 hd h7, fun i a b c => ATp_0 hd (h8 i a b c)⟩
  · rcases Int.lt_or_gt_of_ne q with w | w
    · have := h3 i j a w e; omega
    · have := h3 j i c w b; omega
  · have := h6 r a b c (hc r)
    exact ⟨this.1, this.2.1, this.2.2.1, this.2.2.2.1, this.2.2.2.2.2, ATp_0 hd (h9 r a b c), ATp_0 hd (h10 r a b c (hc r))⟩
theorem QR_0 {n m : Int} {G : Int → Int → Int} {ST ON TW TM SE PL OT φ β pr de : Int → Int} (h : LYE n m G ST ON TW TM SE PL OT φ β pr de) (sb : Int) (B bs be rl RO : Int → Int) : QR n m G φ β pr de ((0, 0, 0, -1, 0, sb, B, bs, be, rl) : Int × QS) 0 0 0 (-1) B RO := by
  refine ⟨rfl, rfl, rfl, rfl, fun _ => ⟨fun _ => 0, fun j a b => absurd (show j < 0 from b) (by omega), ?_⟩, fun z => absurd rfl z⟩
  dsimp only
  rw [if_pos rfl]
  exact h.2.2.2.2.2.1
/-- a BACK -/
theorem QR_back {n m : Int} {G : Int → Int → Int} {ST ON TW TM SE PL OT φ β pr de : Int → Int} (h : LYE n m G ST ON TW TM SE PL OT φ β pr de) {A : Int → Bool} {c : Int × QS} {k dn mk : Int} {f RO : Int → Int} (hq : QR n m G φ β pr de c k dn 0 mk f RO) (hk : k < m) (hS : ST k = 15) (hdp : 0 ≤ c.2.2.1) :
    (0 ≤ OT k ∧ OT k < m) ∧ (0 < c.2.2.1 ∧ RO (OT k) = c.2.2.2.2.2.2.2.2.2 (c.2.2.1 - 1)) ∧ qRun n c ∧ QR n m G φ β pr de (qsS A G c) (if 0 < RO (OT k) - 1 then OT k + 1 else k + 1) dn 0 mk f (upI RO (OT k) (RO (OT k) - 1)) := by
  obtain ⟨l1, l2, l3, l4, l5, l6, l7⟩ := h
  obtain ⟨z, nx, dp, mk0, dn0, sb, B, bs, be, rl⟩ := c
  obtain ⟨e1, e2, e3, e4, e5, _⟩ := hq
  dsimp only at e1 e2 e3 e4 e5 hdp
  subst e1; subst e2; subst e3; subst e4
  obtain ⟨rs, hr, hA⟩ := e5 rfl
  rcases hA with ⟨a, b, _⟩ | ⟨a, a2, _, b, d⟩ | ⟨a, b, d⟩
  · have := (l2 nx a.1 a.2)
    have h9 := this.2.2.1
    rw [b, hS] at h9
    have := this.1.1
    omega
  · by_cases hd0 : dp = 0
    · rw [if_pos hd0] at a; omega
    · rw [if_neg hd0] at a a2 b d
      have ht := hr (dp - 1) (by omega) (by omega)
      have hl := l5 (rs (dp - 1)) a.1 a.2 a2
      have hOT : OT k = φ (rs (dp - 1)) := by rw [b]; exact hl.2.2.1
      have hφ := (l2 (rs (dp - 1)) a.1 a.2).2.1
      have hE : nx = be (dp - 1) := by rw [ht.2.2.2.2.2.1]; exact d
      have hne : ∀ j : Int, 0 ≤ j → j < dp - 1 → φ (rs j) ≠ φ (rs (dp - 1)) := fun j x y => by
        have hj := hr j x (by omega)
        refine l3 _ _ hj.1.1 hj.1.2 a.1 a.2 (fun q => ?_)
        have := hj.2.2.1
        rw [q, ht.2.2.1] at this
        omega
      have hrl := ht.2.2.2.2.2.2.1
      rw [hOT]
      refine ⟨hφ, ⟨by show 0 < dp; omega, hrl.symm⟩, ⟨rfl, Or.inl ⟨by show 0 < dp; omega, hE⟩⟩, ?_⟩
      unfold qsS
      rw [if_pos ⟨by show 0 < dp; omega, hE⟩]
      unfold erS
      refine ⟨rfl, rfl, rfl, rfl, fun _ => ?_, fun q => absurd rfl q⟩
      dsimp only
      rw [← hrl]
      by_cases q : 0 < rl (dp - 1) - 1
      · rw [if_pos q, if_pos q, if_pos q]
        refine ⟨rs, fun j x y => ?_, ?_⟩
        · by_cases w : j = dp - 1
          · rw [w, upI_s, upI_s]
            exact ⟨ht.1, ht.2.1, ht.2.2.1, ht.2.2.2.1, ht.2.2.2.2.1, ht.2.2.2.2.2.1, rfl, by omega⟩
          · have hj := hr j x y
            rw [upI_n w, upI_n (hne j x (by omega))]
            exact hj
        · rw [if_neg hd0, ht.2.2.2.2.1]
          exact hl.2.2.2.2.2.1
      · rw [if_neg q, if_neg q, if_neg q]
        refine ⟨rs, fun j x y => ?_, ?_⟩
        · have hj := hr j x (by omega)
          rw [upI_n (show j ≠ dp - 1 by omega), upI_n (hne j x y)]
          exact hj
        · have h9 := hl.2.2.2.2.2.2
          rw [ht.2.2.2.1] at h9
          rw [d, b]
          by_cases w : dp - 1 = 0
          · rw [if_pos w] at h9 ⊢; exact h9
          · rw [if_neg w] at h9 ⊢; exact h9
  · omega
/-- where a step stands -/
theorem QR_at {n m : Int} {G : Int → Int → Int} {ST ON TW TM SE PL OT φ β pr de : Int → Int} (h : LYE n m G ST ON TW TM SE PL OT φ β pr de) {A : Int → Bool} {c : Int × QS} {k dn mk : Int} {f RO : Int → Int} (hq : QR n m G φ β pr de c k dn 0 mk f RO) (hk : k < m) (hS : ¬ ST k = 15) (hdp : 0 ≤ c.2.2.1) :
    (0 ≤ c.2.1 ∧ c.2.1 < n) ∧ k = φ c.2.1 ∧ qRun n c ∧ qsS A G c = taS A (G c.2.1) c.2.1 c.2.2.1 c.2.2.2.1 c.2.2.2.2.1 c.2.2.2.2.2.1 c.2.2.2.2.2.2.1 c.2.2.2.2.2.2.2.1 c.2.2.2.2.2.2.2.2.1 c.2.2.2.2.2.2.2.2.2 ∧ de c.2.1 = c.2.2.1 := by
  obtain ⟨l1, l2, l3, l4, l5, l6, l7⟩ := h
  obtain ⟨e1, e2, e3, e4, e5, _⟩ := hq
  obtain ⟨rs, hr, hA⟩ := e5 rfl
  rcases hA with ⟨a, b, d⟩ | ⟨a, a2, _, b, d⟩ | ⟨a, b, d⟩
  · have hnE : ¬ (0 < c.2.2.1 ∧ c.2.1 = c.2.2.2.2.2.2.2.2.1 (c.2.2.1 - 1)) := by
      rintro ⟨x, y⟩
      have ht := hr (c.2.2.1 - 1) (by omega) (by omega)
      rw [ht.2.2.2.2.2.1] at y
      rw [if_neg (by omega)] at d
      have := (l5 _ ht.1.1 ht.1.2 ht.2.1).2.2.2.2.1 c.2.1 a.1 a.2 d
      omega
    refine ⟨a, b.symm, ⟨e1, Or.inr (by omega)⟩, by unfold qsS; rw [if_neg hnE], ?_⟩
    have h4 := (l4 c.2.1 a.1 a.2).1
    by_cases w : c.2.2.1 = 0
    · rw [if_pos w] at d; omega
    · rw [if_neg w] at d
      have ht := hr (c.2.2.1 - 1) (by omega) (by omega)
      rcases h4 with h4 | h4
      · omega
      · rw [h4.2.2.2, d, ht.2.2.1]; omega
  · by_cases w : c.2.2.1 = 0
    · rw [if_pos w] at a; omega
    · rw [if_neg w] at a a2 b
      have := (l5 _ a.1 a.2 a2).2.1
      rw [← b] at this
      exact absurd this hS
  · omega
theorem QR_end {n m : Int} {G : Int → Int → Int} {ST ON TW TM SE PL OT φ β pr de : Int → Int} (h : LYE n m G ST ON TW TM SE PL OT φ β pr de) {c : Int × QS} {k dn fl mk : Int} {f RO : Int → Int} (hq : QR n m G φ β pr de c k dn fl mk f RO) (he : ¬ fl = 0 ∨ m ≤ k) (hdp : 0 ≤ c.2.2.1) : ¬ qRun n c := by
  obtain ⟨l1, l2, l3, l4, l5, l6, l7⟩ := h
  obtain ⟨e1, e2, e3, e4, e5, _⟩ := hq
  rintro ⟨x, y⟩
  have hz : fl = 0 := e1.symm.trans x
  have hmk : m ≤ k := he.resolve_left (fun z => z hz)
  obtain ⟨rs, hr, hA⟩ := e5 hz
  rcases hA with ⟨a, b, d⟩ | ⟨a, a2, _, b, d⟩ | ⟨a, b, d⟩
  · have h9 := (l2 c.2.1 a.1 a.2).2.1.2
    rw [b] at h9
    exact absurd h9 (Int.not_lt.mpr hmk)
  · by_cases w : c.2.2.1 = 0
    · rw [if_pos w] at a; omega
    · rw [if_neg w] at a a2 b
      have h9 := (l5 _ a.1 a.2 a2).1.2
      rw [← b] at h9
      exact absurd h9 (Int.not_lt.mpr hmk)
  · by_cases w : c.2.2.1 = 0
    · rcases y with y | y
      · have := y.1; omega
      · omega
    · rw [if_neg w] at b
      have ht := hr (c.2.2.1 - 1) (by omega) (by omega)
      have b2 : rs (c.2.2.1 - 1) = -1 := b
      omega
theorem QR_300 {n m : Int} {G : Int → Int → Int} {ST ON TW TM SE PL OT φ β pr de : Int → Int} (h : LYE n m G ST ON TW TM SE PL OT φ β pr de) {A : Int → Bool} {c : Int × QS} {k dn mk : Int} {f RO : Int → Int} (hq : QR n m G φ β pr de c k dn 0 mk f RO) (hk : k < m) (hS : ¬ ST k = 15) (hdp : 0 ≤ c.2.2.1) (hdn : dn = 300) : QR n m G φ β pr de (qsS A G c) k dn 3 mk f RO := by
  have ha := QR_at h (A := A) hq hk hS hdp
  obtain ⟨e1, e2, e3, e4, _⟩ := hq
  rw [ha.2.2.2.1]
  unfold taS
  rw [if_pos (by omega)]
  exact ⟨rfl, e2, e3, e4, fun z => absurd (show (3 : Int) = 0 from z) (by decide), fun _ => ⟨c.2.1, ha.1, ha.2.1, rfl⟩⟩
theorem QR_rep {n m : Int} {G : Int → Int → Int} {ST ON TW TM SE PL OT φ β pr de : Int → Int} (h : LYE n m G ST ON TW TM SE PL OT φ β pr de) {A : Int → Bool} {c : Int × QS} {k dn mk : Int} {f RO : Int → Int} (hq : QR n m G φ β pr de c k dn 0 mk f RO) (hk : k < m) (hS : ST k = 14) (hdp : 0 ≤ c.2.2.1) (hdn : dn < 300) :
    (0 ≤ TM k ∧ TM k ≤ 9) ∧ (0 ≤ OT k ∧ OT k < m) ∧ QR n m G φ β pr de (qsS A G c) (if 0 < TM k then k + 1 else OT k + 1) (dn + 1) 0 mk f (upI RO k (TM k)) := by
  have ha := QR_at h (A := A) hq hk (by omega) hdp
  have hh := h
  obtain ⟨l1, l2, l3, l4, l5, l6, l7⟩ := hh
  obtain ⟨hn, hkφ, hrun, hqs, hde⟩ := ha
  have hi := l2 _ hn.1 hn.2
  rw [← hkφ, hS] at hi
  have hw : G c.2.1 0 = 13 := by omega
  have hT : TM k = G c.2.1 5 := hi.2.2.2.2.2.2.2.2.2.2.2.2 hw
  have hV := hi.1.2.2.2.2.2.2.2.2 hw
  have hl := l5 _ hn.1 hn.2 hw
  rw [← hkφ] at hl
  have h4 := l4 _ hn.1 hn.2
  have hd3 := h4.2 hw
  obtain ⟨e1, e2, e3, e4, e5, _⟩ := hq
  obtain ⟨rs, hr, hA⟩ := e5 rfl
  have hpr : pr c.2.1 = if c.2.2.1 = 0 then -1 else rs (c.2.2.1 - 1) := by
    rcases hA with ⟨a, b, d⟩ | ⟨a, a2, _, b, d⟩ | ⟨a, b, d⟩
    · exact d
    · by_cases w : c.2.2.1 = 0
      · rw [if_pos w] at a; omega
      · rw [if_neg w] at a a2 b
        have := (l5 _ a.1 a.2 a2).2.1
        rw [← b] at this; omega
    · omega
  have hne : ∀ j : Int, 0 ≤ j → j < c.2.2.1 → φ (rs j) ≠ k := fun j x y => by
    have hj := hr j x y
    rw [hkφ]
    refine l3 _ _ hj.1.1 hj.1.2 hn.1 hn.2 (fun q => ?_)
    have := hj.2.2.1
    rw [q, hde] at this
    omega
  refine ⟨by omega, by rw [hl.2.2.2.1]; exact hl.1, ?_⟩
  rw [hqs]
  unfold taS
  rw [if_neg (by omega)]
  have hF : rdF (G c.2.1) c.2.2.2.2.2.2.1 = 0 := by unfold rdF; rw [if_neg (by omega), if_neg (by omega)]
  have hK : rdK (G c.2.1) c.2.2.2.1 = mk := by unfold rdK; rw [if_neg (by omega), if_neg (by omega)]; exact e3
  have hB : rdB A (G c.2.1) c.2.2.2.1 c.2.2.2.2.2.2.1 = f := by
    unfold rdB
    rw [if_neg (by omega), if_neg (by omega), if_neg (by omega), if_neg (by omega), if_neg (by omega), if_neg (by omega), if_neg (by omega)]; exact e4
  rw [hF, hK, hB]
  refine ⟨rfl, by show c.2.2.2.2.1 + 1 = dn + 1; omega, rfl, rfl, fun _ => ?_, fun q => absurd rfl q⟩
  dsimp only
  by_cases q : 0 < TM k
  · rw [if_neg (fun z => by omega), if_pos ⟨hw, by omega, by omega⟩, if_pos q, if_pos ⟨hw, by omega, by omega⟩, if_pos ⟨hw, by omega, by omega⟩, if_pos ⟨hw, by omega, by omega⟩]
    refine ⟨upI rs c.2.2.1 c.2.1, fun j x y => ?_, ?_⟩
    · by_cases w : j = c.2.2.1
      · rw [w, upI_s, upI_s, upI_s, upI_s, ← hkφ, upI_s]
        refine ⟨hn, hw, hde, ?_, rfl, rfl, hT.symm, by omega⟩
        rw [hpr]
        by_cases u : c.2.2.1 = 0
        · rw [if_pos u, if_pos u]
        · rw [if_neg u, if_neg u, upI_n (by omega)]
      · have hj := hr j x (by omega)
        rw [upI_n w, upI_n w, upI_n w, upI_n w, upI_n (show j - 1 ≠ c.2.2.1 by omega), upI_n (hne j x (by omega))]
        exact hj
    · rw [if_neg (by omega), show c.2.2.1 + 1 - 1 = c.2.2.1 by omega, upI_s]
      exact hl.2.2.2.2.2.1
  · rw [if_pos ⟨hw, by omega⟩, if_neg (fun z => z.2.1 (by omega)), if_neg q, if_neg (fun z => z.2.1 (by omega)), if_neg (fun z => z.2.1 (by omega)), if_neg (fun z => z.2.1 (by omega))]
    refine ⟨rs, fun j x y => ?_, ?_⟩
    · have hj := hr j x y
      rw [upI_n (hne j x y)]
      exact hj
    · rw [hl.2.2.2.1, ← hpr]
      exact hl.2.2.2.2.2.2
theorem QR_st {n m : Int} {G : Int → Int → Int} {ST ON TW TM SE PL OT φ β pr de : Int → Int} (h : LYE n m G ST ON TW TM SE PL OT φ β pr de) {A : Int → Bool} {c : Int × QS} {k dn mk : Int} {f RO : Int → Int} (hq : QR n m G φ β pr de c k dn 0 mk f RO) (hk : k < m) (hS : ¬ ST k = 15) (hS2 : ¬ ST k = 14) (hdp : 0 ≤ c.2.2.1) (hdn : dn < 300) :
    (VS (G c.2.1) ∧ ST k = G c.2.1 0 + 1 ∧ FLD (G c.2.1) (ON k) (TW k) (TM k) (SE k) ∧ G c.2.1 0 ≤ 12) ∧ QR n m G φ β pr de (qsS A G c) (if rdF (G c.2.1) f = 0 then k + 1 else k) (dn + 1) (rdF (G c.2.1) f) (rdK (G c.2.1) mk) (rdB A (G c.2.1) mk f) RO := by
  have ha := QR_at h (A := A) hq hk hS hdp
  have hh := h
  obtain ⟨l1, l2, l3, l4, l5, l6, l7⟩ := hh
  obtain ⟨hn, hkφ, hrun, hqs, hde⟩ := ha
  have hi := l2 _ hn.1 hn.2
  rw [← hkφ] at hi
  have hw : ¬ G c.2.1 0 = 13 := by omega
  have hV0 := hi.1.1
  have h12 : G c.2.1 0 ≤ 12 := by omega
  obtain ⟨e1, e2, e3, e4, e5, _⟩ := hq
  obtain ⟨rs, hr, hA⟩ := e5 rfl
  have hpr : pr c.2.1 = if c.2.2.1 = 0 then -1 else rs (c.2.2.1 - 1) := by
    rcases hA with ⟨a, b, d⟩ | ⟨a, a2, _, b, d⟩ | ⟨a, b, d⟩
    · exact d
    · by_cases w : c.2.2.1 = 0
      · rw [if_pos w] at a; omega
      · rw [if_neg w] at a a2 b
        have := (l5 _ a.1 a.2 a2).2.1
        rw [← b] at this; exact absurd this hS
    · omega
  refine ⟨⟨hi.1, hi.2.2.1, hi.2.2.2.2, h12⟩, ?_⟩
  rw [hqs]
  unfold taS
  rw [if_neg (by omega), if_neg (fun z => hw z.1), if_neg (fun z => hw z.1), if_neg (fun z => hw z.1), if_neg (fun z => hw z.1), if_neg (fun z => hw z.1), e3, e4]
  refine ⟨rfl, by show c.2.2.2.2.1 + 1 = dn + 1; omega, rfl, rfl, fun z => ?_, fun z => ?_⟩
  · rw [if_pos z]
    refine ⟨rs, hr, ?_⟩
    dsimp only
    rw [← hpr, hkφ]
    exact l7 _ hn.1 hn.2 hw
  · rw [if_neg z]
    exact ⟨c.2.1, hn, hkφ, rfl⟩
