/-! SPANS and counts, as the reference walks them -/
def SE (s : BS) : Prop := SV s ∧ (s.2.length : Int) = cntI s.1 2880
theorem SE_visit {s : BS} {c : Int} (h : SE s) (hc : 0 ≤ c ∧ c < 2880) : SE (visit s c) := by
  refine ⟨SV_visit h.1 hc, ?_⟩
  cases hv : s.1 c with
  | true => rw [visit_t hv]; exact h.2
  | false =>
    rw [visit_f hv]
    show ((s.2 ++ [c]).length : Int) = cntI (upI s.1 c true) 2880
    rw [cntI_upd s.1 hv hc, List.length_append]
    have := h.2
    simp only [List.length_cons, List.length_nil]
    omega
theorem stepW_ind {P : BS → Prop} {ok : Int → Bool} {c : Int} (hP : ∀ u d, P u → 0 ≤ d ∧ d < 2880 → ok d = true → P (visit u d)) (hc : 0 ≤ c ∧ c < 2880) {s : BS} (h : P s) (w : Nat) : P (stepW ok c w s) := by
  induction w with
  | zero => exact h
  | succ w ih =>
    unfold stepW
    split
    · rename_i q
      have := @bes_rng c w hc
      exact hP _ _ ih (by omega) q.2
    · exact ih
theorem bfs_ind {P : BS → Prop} {ok : Int → Bool} (hP : ∀ u d, P u → 0 ≤ d ∧ d < 2880 → ok d = true → P (visit u d)) (hS : ∀ u, P u → SV u) {s : BS} (h : P s) : P (bfs ok s) := by
  rw [bfs_eq]
  have key : ∀ n : Nat, P (bfsN ok n s) := by
    intro n
    induction n with
    | zero => exact h
    | succ n ih =>
      unfold bfsN
      split
      · rename_i q
        have := SV_get (hS _ ih) (i := (n : Int)) (by omega)
        exact stepW_ind hP this ih 6
      · exact ih
  exact key 2880
theorem seedN_SE (ok : Int → Bool) {lo : Int} (hlo : 0 ≤ lo) (k : Nat) (hk : lo + k ≤ 2880) : SE (seedN ok lo k) := by
  induction k with
  | zero => exact ⟨seedN_SV ok hlo 0 hk, (cntI_none (fun _ => rfl) 2880).symm⟩
  | succ k ih =>
    unfold seedN
    split
    · exact SE_visit (ih (by omega)) (by omega)
    · exact ih (by omega)
theorem opnS_len (B : Int → Int) : ((opnS B).2.length : Int) = openN B := by
  have hn : opnS B = bfs (okB 1 B) (sdI (okB 1 B) (144 * 19) 144) := rfl
  have h : SE (opnS B) := by
    rw [hn]
    exact bfs_ind (fun u d h1 h2 _ => SE_visit h1 h2) (fun u h => h.1) (by rw [sdI_eq]; exact seedN_SE _ (by omega) _ (by omega))
  exact h.2
theorem cntI_mono (p : Int → Bool) {a b : Int} (ha : 0 ≤ a) (hb : a ≤ b) : cntI p a ≤ cntI p b := by
  obtain ⟨n, rfl⟩ : ∃ n : Nat, b = a + n := ⟨(b - a).toNat, by omega⟩
  clear hb
  induction n with
  | zero => exact Int.le_of_eq (by rw [show a + ((0 : Nat) : Int) = a by omega])
  | succ n ih =>
    rw [show a + ((n + 1 : Nat) : Int) = a + n + 1 by omega, cntI_s p (by omega)]
    have : 0 ≤ bI (p (a + n)) := by cases p (a + n) <;> decide
    omega
theorem cntI_has (p : Int → Bool) {i : Int} (hi : 0 ≤ i) {N : Int} (hN : 0 ≤ N) (h : i < cntI p N) : ∃ z, 0 ≤ z ∧ z < N ∧ p z = true ∧ cntI p z = i := by
  obtain ⟨n, rfl⟩ := Int.eq_ofNat_of_zero_le hN
  clear hN
  induction n with
  | zero => rw [show ((0 : Nat) : Int) = 0 from rfl, cntI_0] at h; omega
  | succ n ih =>
    by_cases q : i < cntI p n
    · obtain ⟨z, h1, h2, h3, h4⟩ := ih q
      exact ⟨z, h1, by omega, h3, h4⟩
    · cases e : p n with
      | true =>
        rw [show ((n + 1 : Nat) : Int) = (n : Int) + 1 by omega, cntI_t (by omega) e] at h
        exact ⟨n, by omega, by omega, e, by omega⟩
      | false =>
        rw [show ((n + 1 : Nat) : Int) = (n : Int) + 1 by omega, cntI_f (by omega) e] at h
        exact absurd h q
theorem fuI_sat {P : Int → Bool} {a N : Int} (h : fuI P a N ≠ -1) (ha : 0 ≤ a) : P (fuI P a N) = true ∧ a ≤ fuI P a N ∧ fuI P a N < N := by
  unfold fuI at *
  have key : ∀ (n : Nat) (a : Int), findUp P a n ≠ -1 → P (findUp P a n) = true ∧ a ≤ findUp P a n ∧ findUp P a n < a + n := by
    intro n
    induction n with
    | zero => intro a h; exact absurd rfl h
    | succ n ih =>
      intro a h
      unfold findUp at h ⊢
      split
      · rename_i q; exact ⟨q, Int.le_refl _, by omega⟩
      · rename_i q
        rw [if_neg q] at h
        have := ih (a + 1) h
        exact ⟨this.1, by omega, by omega⟩
  have := key _ a h
  have h3 : 0 < (N - a).toNat := by
    cases q : (N - a).toNat with
    | zero => rw [q] at h; exact absurd rfl h
    | succ n => omega
  exact ⟨this.1, this.2.1, by omega⟩
noncomputable def spQ (B : Int → Int) (p i : Int) : Int → Bool := fun z => begS B p z && decide (cntI (begS B p) z = i)
theorem lowS_e (B : Int → Int) (p i : Int) : lowS B p i = fuI (spQ B p i) 0 (topS B p + 1) := rfl
theorem lowS_sat {B : Int → Int} {p i : Int} (h : lowS B p i ≠ -1) : begS B p (lowS B p i) = true ∧ cntI (begS B p) (lowS B p i) = i ∧ 0 ≤ lowS B p i ∧ lowS B p i ≤ topS B p := by
  have := fuI_sat (P := spQ B p i) (a := 0) (N := topS B p + 1) h (by omega)
  rw [← lowS_e] at this
  have h1 := this.1
  unfold spQ at h1
  simp at h1
  exact ⟨h1.1, h1.2, this.2.1, by omega⟩
theorem lowS_neg {B : Int → Int} {p i : Int} (h : i < 0) : lowS B p i = -1 := by
  by_cases q : lowS B p i = -1
  · exact q
  · have h1 := lowS_sat q
    have h2 := cntI_rng (begS B p) h1.2.2.1
    omega
theorem lowS_top (B : Int → Int) (p i : Int) : lowS B p i ≤ topS B p := by
  by_cases h : lowS B p i = -1
  · have := topS_rng B p; omega
  · exact (lowS_sat h).2.2.2
theorem lowS_ex {B : Int → Int} {p i : Int} (h : 0 ≤ i ∧ i < spansS B p) : lowS B p i ≠ -1 := by
  have ht := topS_rng B p
  obtain ⟨z, h1, h2, h3, h4⟩ := cntI_has (begS B p) h.1 (by omega) (show i < cntI (begS B p) (topS B p + 1) from h.2)
  have := fuI_ex (P := spQ B p i) (N := topS B p + 1) ⟨h1, h2⟩ (by unfold spQ; rw [h3, h4]; simp)
  rw [← lowS_e] at this
  omega
theorem lowS_at {B : Int → Int} {p z : Int} (h : 0 ≤ z ∧ z ≤ topS B p) (hb : begS B p z = true) : lowS B p (cntI (begS B p) z) = z := by
  have h1 := fuI_ex (P := spQ B p (cntI (begS B p) z)) (N := topS B p + 1) (c := z) (by omega) (by unfold spQ; rw [hb]; simp)
  rw [← lowS_e] at h1
  have h2 := lowS_sat (B := B) (p := p) (i := cntI (begS B p) z) (by omega)
  by_cases q : lowS B p (cntI (begS B p) z) = z
  · exact q
  · have h3 := cntI_mono (begS B p) (a := lowS B p (cntI (begS B p) z) + 1) (b := z) (by omega) (by omega)
    rw [cntI_t (by omega) h2.1] at h3
    omega
theorem begS_0 {B : Int → Int} {p z : Int} (h : z = 0) : begS B p z = true := by unfold begS; simp [h]
theorem begS_t {B : Int → Int} {p z d e : Int} (h : ¬ B d = B e) (hd : d = 144 * z + p) (he : e = 144 * z + p - 144) : begS B p z = true := by
  subst hd he; unfold begS; simp; exact Or.inr h
theorem begS_f {B : Int → Int} {p z d e : Int} (h : B d = B e) (hd : d = 144 * z + p) (he : e = 144 * z + p - 144) (hz : ¬ z = 0) : begS B p z = false := by
  subst hd he; unfold begS; simp; exact ⟨hz, h⟩
theorem spQ_b {B : Int → Int} {p i z : Int} (h : begS B p z = false) : spQ B p i z = false := by unfold spQ; rw [h]; rfl
theorem spQ_n {B : Int → Int} {p i z m : Int} (h : ¬ m = i) (hm : m = cntI (begS B p) z) : spQ B p i z = false := by unfold spQ; rw [← hm, decide_eq_false h, Bool.and_false]
theorem spQ_t {B : Int → Int} {p i z m : Int} (hb : begS B p z = true) (h : m = i) (hm : m = cntI (begS B p) z) : spQ B p i z = true := by unfold spQ; rw [← hm, decide_eq_true h, hb]; rfl
/-- spans counted (b), or the low end of one -/
noncomputable def spV (B : Int → Int) (p i : Int) (b : Bool) : Int := if b then spansS B p else lowS B p i
theorem spansS_rng (B : Int → Int) (p : Int) : 0 ≤ spansS B p ∧ spansS B p ≤ 20 := by
  have ht := topS_rng B p
  have := cntI_rng (begS B p) (k := topS B p + 1) (by omega)
  unfold spansS; omega
theorem spV_0 {B : Int → Int} {p i : Int} : spV B p i false = lowS B p i := rfl
theorem spV_1 {B : Int → Int} {p i : Int} : spV B p i true = spansS B p := rfl
theorem spV_rng (B : Int → Int) (p i : Int) (b : Bool) : -1 ≤ spV B p i b ∧ spV B p i b ≤ 20 := by
  have h1 := spansS_rng B p
  have h2 := lowS_rng B p i
  unfold spV; split <;> omega
theorem endS_top {B : Int → Int} {p z n : Int} (hz : 0 ≤ z ∧ z ≤ topS B p) (hn : n = topS B p + 1) (hl : z < n → B (144 * (n - 1) + p) = B (144 * z + p)) : endI B p (B (144 * z + p)) n = n := by
  have ht := topS_rng B p
  by_cases q : n = 20
  · exact endI_e (by omega)
  · refine endI_f (by omega) ?_
    have h1 : B (144 * n + p) = 0 := topS_above (by omega) (by omega)
    have h2 : B (144 * topS B p + p) ≠ 0 := topS_ne (by omega)
    have h3 := hl (by omega)
    rw [show n - 1 = topS B p by omega] at h3
    rw [h1, ← h3]
    exact fun e => h2 e.symm
theorem anI_none {P : Int → Bool} {a N : Int} (h : ∀ z, a ≤ z → z < N → P z = false) : anI P a N = false := by
  by_cases q : N ≤ a
  · exact anI_e q
  · rw [anI_f (by omega) (h a (by omega) (by omega))]
    exact anI_none (fun z h1 h2 => h z (by omega) h2)
termination_by (N - a).toNat
theorem anI_has {P : Int → Bool} {a N z : Int} (h1 : a ≤ z) (h2 : z < N) (h : P z = true) : anI P a N = true := by
  by_cases q : P a = true
  · exact anI_t (by omega) q
  · rw [anI_f (by omega) (by simpa using q)]
    have : a ≠ z := fun e => q (by rw [e]; exact h)
    exact anI_has (by omega) h2 h
termination_by (N - a).toNat
theorem thinS_f {B : Int → Int} {p s n : Int} (hs : 1 ≤ s) (h : ∀ j : Int, 0 ≤ j → j < spansS B p → ¬ (B (144 * lowS B p j + p) = s ∧ endS B p (lowS B p j) - lowS B p j < n)) : thinS B p s n = false := by
  refine anI_none fun z h1 h2 => ?_
  unfold thinB
  by_cases q : z ≤ topS B p
  · cases e : begS B p z with
    | false => simp
    | true =>
      have h3 := lowS_at ⟨h1, q⟩ e
      have h4 := cntI_rng (begS B p) h1
      have h5 := cntI_mono (begS B p) (a := z + 1) (b := topS B p + 1) (by omega) (by omega)
      rw [cntI_t h1 e] at h5
      have h6 := h (cntI (begS B p) z) h4.1 (by unfold spansS; omega)
      rw [h3] at h6
      by_cases e1 : B (144 * z + p) = s
      · rw [decide_eq_false (show ¬ endS B p z - z < n from fun x => h6 ⟨e1, x⟩)]; simp
      · rw [decide_eq_false e1]; rfl
  · rw [show B (144 * z + p) = 0 from topS_above (by omega) (by omega), decide_eq_false (show ¬ (0 : Int) = s by omega)]; rfl
theorem thinS_t {B : Int → Int} {p s n j : Int} (h0 : 0 ≤ lowS B p j) (h1 : B (144 * lowS B p j + p) = s) (h2 : endS B p (lowS B p j) - lowS B p j < n) : thinS B p s n = true := by
  have h3 := lowS_sat (B := B) (p := p) (i := j) (by omega)
  have ht := topS_rng B p
  refine anI_has (z := lowS B p j) h0 (by omega) ?_
  unfold thinB
  rw [decide_eq_true h1, h3.1, decide_eq_true h2]; rfl
