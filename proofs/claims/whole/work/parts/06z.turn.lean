/-! TURNING: the class's wave is the reference's rounds -/
def nbO (c d : Int) (w : Nat) : Prop := ∃ v : Nat, v < w ∧ bes c v = d ∧ d ≠ -1
theorem nbO_s {c d : Int} {w : Nat} : nbO c d (w + 1) ↔ nbO c d w ∨ (bes c w = d ∧ d ≠ -1) := by
  constructor
  · rintro ⟨v, a, b⟩
    by_cases q : v = w
    · subst q; exact Or.inr b
    · exact Or.inl ⟨v, by omega, b⟩
  · rintro (⟨v, a, b⟩ | b)
    · exact ⟨v, by omega, b⟩
    · exact ⟨w, by omega, b⟩
theorem tbW_ch {s t c : Int} (hst : s ≠ t) {x : TX} (hl : ∀ d, x.2.1 d = true → x.1 d ≠ s) (hm : ∀ d, d ∈ x.2.2 ↔ x.2.1 d = true) (w : Nat) :
    (∀ d, (nbO c d w ∧ x.1 d = s → (tbW s t c w x).1 d = t) ∧ (¬ (nbO c d w ∧ x.1 d = s) → (tbW s t c w x).1 d = x.1 d)) ∧ (∀ d, (tbW s t c w x).2.1 d = true ↔ x.2.1 d = true ∨ (nbO c d w ∧ x.1 d = s)) ∧ (∀ d, d ∈ (tbW s t c w x).2.2 ↔ (tbW s t c w x).2.1 d = true) ∧ (∀ i : Nat, i < x.2.2.length → (tbW s t c w x).2.2.getD i 0 = x.2.2.getD i 0 ∧ i < (tbW s t c w x).2.2.length) := by
  induction w with
  | zero =>
    have hn : ∀ d, ¬ nbO c d 0 := fun d ⟨v, a, _⟩ => by omega
    refine ⟨fun d => ⟨fun q => absurd q.1 (hn d), fun _ => rfl⟩, fun d => ⟨Or.inl, fun q => ?_⟩, hm, fun i h => ⟨rfl, h⟩⟩
    rcases q with q | q
    · exact q
    · exact absurd q.1 (hn d)
  | succ w ih =>
    obtain ⟨i1, i2, i3, i4⟩ := ih
    unfold tbW
    by_cases q : bes c w ≠ -1 ∧ (tbW s t c w x).1 (bes c w) = s
    · rw [if_pos q]
      have hx : x.1 (bes c w) = s := by
        by_cases u : nbO c (bes c w) w ∧ x.1 (bes c w) = s
        · exact u.2
        · rw [← (i1 (bes c w)).2 u]; exact q.2
      have hnw : ¬ nbO c (bes c w) w := fun u => by
        have := (i1 (bes c w)).1 ⟨u, hx⟩
        rw [q.2] at this; exact hst this
      have hv : (tbW s t c w x).2.1 (bes c w) = false := by
        cases e : (tbW s t c w x).2.1 (bes c w) with
        | false => rfl
        | true =>
          rcases (i2 _).mp e with u | u
          · exact absurd hx (hl _ u)
          · exact absurd u.1 hnw
      dsimp only
      refine ⟨fun d => ⟨fun u => ?_, fun u => ?_⟩, fun d => ?_, fun d => ?_, fun i h => ?_⟩
      · by_cases e : d = bes c w
        · rw [e, upI_s]
        · rw [upI_n e]
          refine (i1 d).1 ⟨?_, u.2⟩
          rcases nbO_s.mp u.1 with z | z
          · exact z
          · exact absurd z.1.symm e
      · by_cases e : d = bes c w
        · exact absurd ⟨nbO_s.mpr (Or.inr ⟨e.symm, by rw [e]; exact q.1⟩), by rw [e]; exact hx⟩ u
        · rw [upI_n e]
          exact (i1 d).2 (fun z => u ⟨nbO_s.mpr (Or.inl z.1), z.2⟩)
      · rw [visit_1, Bool.or_eq_true, i2, decide_eq_true_eq, nbO_s]
        constructor
        · rintro ((z | z) | z)
          · exact Or.inl z
          · exact Or.inr ⟨Or.inl z.1, z.2⟩
          · exact Or.inr ⟨Or.inr ⟨z.symm, by rw [z]; exact q.1⟩, by rw [z]; exact hx⟩
        · rintro (z | ⟨z | z, y⟩)
          · exact Or.inl (Or.inl z)
          · exact Or.inl (Or.inr ⟨z, y⟩)
          · exact Or.inr z.1.symm
      · rw [visit_f hv]
        show d ∈ _ ++ [_] ↔ upI _ _ true d = true
        rw [List.mem_append, List.mem_singleton, i3]
        by_cases e : d = bes c w
        · rw [e, upI_s]; exact ⟨fun _ => rfl, fun _ => Or.inr rfl⟩
        · rw [upI_n e]; exact ⟨fun z => z.resolve_right e, Or.inl⟩
      · have h1 := i4 i h
        have h2 := visit_len (tbW s t c w x).2 (bes c w)
        exact ⟨by rw [visit_get h1.2]; exact h1.1, by omega⟩
    · rw [if_neg q]
      have hno : ∀ d, (nbO c d (w + 1) ∧ x.1 d = s) ↔ (nbO c d w ∧ x.1 d = s) := by
        intro d
        rw [nbO_s]
        constructor
        · rintro ⟨z | z, y⟩
          · exact ⟨z, y⟩
          · refine ⟨?_, y⟩
            by_cases u : nbO c d w
            · exact u
            · refine absurd ⟨by rw [z.1]; exact z.2, ?_⟩ q
              rw [z.1, (i1 d).2 (fun k => u k.1)]; exact y
        · rintro ⟨z, y⟩; exact ⟨Or.inl z, y⟩
      refine ⟨fun d => by rw [hno]; exact i1 d, fun d => by rw [hno]; exact i2 d, i3, i4⟩
/-- beside one of the list, from a to before i -/
def nbL (l : List Int) (a : Int) (k : Nat) (d : Int) : Prop := ∃ j : Nat, j < k ∧ nbO (l.getD (a + j).toNat 0) d 6
theorem tbN_ch {s t : Int} (hst : s ≠ t) (l : List Int) (a : Int) {x : TX} (hl : ∀ d, x.2.1 d = true → x.1 d ≠ s) (hm : ∀ d, d ∈ x.2.2 ↔ x.2.1 d = true) (k : Nat) :
    (∀ d, (nbL l a k d ∧ x.1 d = s → (tbN s t l a k x).1 d = t) ∧ (¬ (nbL l a k d ∧ x.1 d = s) → (tbN s t l a k x).1 d = x.1 d)) ∧ (∀ d, (tbN s t l a k x).2.1 d = true ↔ x.2.1 d = true ∨ (nbL l a k d ∧ x.1 d = s)) ∧ (∀ d, d ∈ (tbN s t l a k x).2.2 ↔ (tbN s t l a k x).2.1 d = true) ∧ (∀ i : Nat, i < x.2.2.length → (tbN s t l a k x).2.2.getD i 0 = x.2.2.getD i 0 ∧ i < (tbN s t l a k x).2.2.length) := by
  induction k with
  | zero =>
    have hn : ∀ d, ¬ nbL l a 0 d := fun d ⟨v, z, _⟩ => by omega
    refine ⟨fun d => ⟨fun q => absurd q.1 (hn d), fun _ => rfl⟩, fun d => ⟨Or.inl, fun q => ?_⟩, hm, fun i h => ⟨rfl, h⟩⟩
    rcases q with q | q
    · exact q
    · exact absurd q.1 (hn d)
  | succ k ih =>
    obtain ⟨i1, i2, i3, i4⟩ := ih
    have hL : ∀ d, nbL l a (k + 1) d ↔ nbL l a k d ∨ nbO (l.getD (a + k).toNat 0) d 6 := by
      intro d
      constructor
      · rintro ⟨j, z, y⟩
        by_cases q : j = k
        · subst q; exact Or.inr y
        · exact Or.inl ⟨j, by omega, y⟩
      · rintro (⟨j, z, y⟩ | y)
        · exact ⟨j, by omega, y⟩
        · exact ⟨k, by omega, y⟩
    have hl2 : ∀ d, (tbN s t l a k x).2.1 d = true → (tbN s t l a k x).1 d ≠ s := by
      intro d hd
      by_cases u : nbL l a k d ∧ x.1 d = s
      · rw [(i1 d).1 u]; exact hst.symm
      · rw [(i1 d).2 u]
        rcases (i2 d).mp hd with z | z
        · exact hl d z
        · exact absurd z u
    have hh := tbW_ch (s := s) (t := t) (c := l.getD (a + k).toNat 0) hst hl2 i3 6
    obtain ⟨j1, j2, j3, j4⟩ := hh
    show (∀ d, (_ → (tbW s t (l.getD (a + k).toNat 0) 6 (tbN s t l a k x)).1 d = t) ∧ (_ → (tbW s t (l.getD (a + k).toNat 0) 6 (tbN s t l a k x)).1 d = x.1 d)) ∧ (∀ d, (tbW s t (l.getD (a + k).toNat 0) 6 (tbN s t l a k x)).2.1 d = true ↔ _) ∧ (∀ d, d ∈ (tbW s t (l.getD (a + k).toNat 0) 6 (tbN s t l a k x)).2.2 ↔ (tbW s t (l.getD (a + k).toNat 0) 6 (tbN s t l a k x)).2.1 d = true) ∧ (∀ i : Nat, i < x.2.2.length → (tbW s t (l.getD (a + k).toNat 0) 6 (tbN s t l a k x)).2.2.getD i 0 = x.2.2.getD i 0 ∧ i < (tbW s t (l.getD (a + k).toNat 0) 6 (tbN s t l a k x)).2.2.length)
    refine ⟨fun d => ⟨fun u => ?_, fun u => ?_⟩, fun d => ?_, j3, fun i h => ?_⟩
    · by_cases v : nbL l a k d
      · have h9 := (i1 d).1 ⟨v, u.2⟩
        rw [(j1 d).2 (fun z => by rw [h9] at z; exact hst z.2.symm)]; exact h9
      · exact (j1 d).1 ⟨((hL d).mp u.1).resolve_left v, by rw [(i1 d).2 (fun z => v z.1)]; exact u.2⟩
    · have h8 : ¬ (nbL l a k d ∧ x.1 d = s) := fun z => u ⟨(hL d).mpr (Or.inl z.1), z.2⟩
      have h9 := (i1 d).2 h8
      rw [(j1 d).2 (fun z => by rw [h9] at z; exact u ⟨(hL d).mpr (Or.inr z.1), z.2⟩)]; exact h9
    · rw [j2, i2, hL]
      by_cases v : nbL l a k d ∧ x.1 d = s
      · rw [(i1 d).1 v]
        exact ⟨fun _ => Or.inr ⟨Or.inl v.1, v.2⟩, fun _ => Or.inl (Or.inr v)⟩
      · rw [(i1 d).2 v]
        constructor
        · rintro ((z | z) | z)
          · exact Or.inl z
          · exact absurd z v
          · exact Or.inr ⟨Or.inr z.1, z.2⟩
        · rintro (z | ⟨z | z, y⟩)
          · exact Or.inl (Or.inl z)
          · exact absurd ⟨z, y⟩ v
          · exact Or.inr ⟨z, y⟩
    · have h1 := i4 i h
      have h2 := j4 i h1.2
      exact ⟨h2.1.trans h1.1, h2.2⟩
/-- the two sides after as many rounds -/
def WRK (s : Int) (y : TX × Int) (z : (Int → Int) × (Int → Bool)) : Prop := y.1.1 = z.1 ∧ (∀ d, 0 ≤ d → d < 2880 → z.2 d = y.1.2.1 d) ∧ (∀ d, y.1.2.1 d = true → (0 ≤ d ∧ d < 2880) ∧ y.1.1 d ≠ s) ∧ (∀ d, d ∈ y.1.2.2 ↔ y.1.2.1 d = true) ∧ 0 ≤ y.2 ∧ y.2 ≤ (y.1.2.2.length : Int) ∧ ∀ j : Nat, (j : Int) < y.2 → ∀ d, nbO (y.1.2.2.getD j 0) d 6 → y.1.1 d ≠ s
theorem nbO_rng {c d : Int} (hc : 0 ≤ c ∧ c < 2880) (h : nbO c d 6) : 0 ≤ d ∧ d < 2880 := by
  obtain ⟨v, a, b, e⟩ := h
  have := @bes_rng c v hc
  omega
theorem nbO_sym {c d : Int} (hc : 0 ≤ c ∧ c < 2880) (h : nbO c d 6) : nbO d c 6 := by
  obtain ⟨v, a, b, e⟩ := h
  obtain ⟨u, h1, h2⟩ := bes_sym (c := c) (w := (v : Int)) hc (by omega) (by rw [b]; exact e)
  rw [b] at h2
  exact ⟨u, h1, h2, by omega⟩
theorem nearP_nb {P : Int → Bool} {c : Int} : nearP P c = true ↔ ∃ d, nbO c d 6 ∧ P d = true := by
  unfold nearP
  constructor
  · intro h
    by_cases q : ∃ d, nbO c d 6 ∧ P d = true
    · exact q
    · rw [anI_none (fun z a b => by
        cases e : (decide (bes c z ≠ -1) && P (bes c z)) with
        | false => rfl
        | true =>
          rw [Bool.and_eq_true] at e
          exact absurd ⟨bes c z, ⟨z.toNat, by omega, by rw [show ((z.toNat : Nat) : Int) = z by omega], of_decide_eq_true e.1⟩, e.2⟩ q)] at h
      exact absurd h (by decide)
  · rintro ⟨d, ⟨v, a, b, e⟩, f⟩
    exact anI_has (z := (v : Int)) (by omega) (by omega) (by rw [b, f, decide_eq_true e]; rfl)
theorem WRK_step {s t : Int} (hst : s ≠ t) {y : TX × Int} {f : Int → Int} {g : Int → Bool} (h : WRK s y (f, g)) : WRK s (tuG s t y) (putP (fun c => decide (f c = s) && nearP g c) f t, fun c => g c || (decide (f c = s) && nearP g c)) := by
  obtain ⟨h1, h2, h3, h4, h5, h6, h7⟩ := h
  dsimp only at h1 h2
  subst h1
  have hin : ∀ j : Nat, j < y.1.2.2.length → (0 ≤ y.1.2.2.getD j 0 ∧ y.1.2.2.getD j 0 < 2880) ∧ y.1.2.1 (y.1.2.2.getD j 0) = true := fun j hj => by
    have hm : y.1.2.2.getD j 0 ∈ y.1.2.2 := by rw [getD_lt hj]; exact List.getElem_mem hj
    have := (h4 _).mp hm
    exact ⟨(h3 _ this).1, this⟩
  have hnear : ∀ d, 0 ≤ d → d < 2880 → y.1.1 d = s → (nearP g d = true ↔ nbL y.1.2.2 y.2 ((y.1.2.2.length : Int) - y.2).toNat d) := by
    intro d a b hd
    rw [nearP_nb]
    constructor
    · rintro ⟨c, hc, hg⟩
      have hcr := nbO_rng ⟨a, b⟩ hc
      rw [h2 c hcr.1 hcr.2] at hg
      obtain ⟨j, hj, e⟩ := List.getElem_of_mem ((h4 c).mpr hg)
      have e2 : y.1.2.2.getD j 0 = c := by rw [getD_lt hj]; exact e
      by_cases q : (j : Int) < y.2
      · exact absurd hd (h7 j q d (by rw [e2]; exact nbO_sym ⟨a, b⟩ hc))
      · exact ⟨j - y.2.toNat, by omega, by rw [show (y.2 + ((j - y.2.toNat : Nat) : Int)).toNat = j by omega, e2]; exact nbO_sym ⟨a, b⟩ hc⟩
    · rintro ⟨j, hj, hn⟩
      have hlt : (y.2 + j).toNat < y.1.2.2.length := by omega
      have hi := hin _ hlt
      exact ⟨_, nbO_sym hi.1 hn, by rw [h2 _ hi.1.1 hi.1.2]; exact hi.2⟩
  unfold tuG
  by_cases q : y.2 < (y.1.2.2.length : Int)
  · rw [if_pos q]
    have hh := tbN_ch hst y.1.2.2 y.2 (fun d hd => (h3 d hd).2) h4 ((y.1.2.2.length : Int) - y.2).toNat
    obtain ⟨j1, j2, j3, j4⟩ := hh
    have hL : tbL s t y.1.2.2 y.2 (y.1.2.2.length : Int) y.1 = tbN s t y.1.2.2 y.2 ((y.1.2.2.length : Int) - y.2).toNat y.1 := rfl
    have hnr : ∀ d, nbL y.1.2.2 y.2 ((y.1.2.2.length : Int) - y.2).toNat d → 0 ≤ d ∧ d < 2880 := fun d ⟨j, hj, hn⟩ => nbO_rng (hin _ (by omega)).1 hn
    unfold WRK
    dsimp only
    rw [hL]
    refine ⟨?_, ?_, ?_, j3, by omega, ?_, ?_⟩
    · funext d
      unfold putP
      by_cases r : 0 ≤ d ∧ d < 2880
      · by_cases e : y.1.1 d = s
        · by_cases u : nbL y.1.2.2 y.2 ((y.1.2.2.length : Int) - y.2).toNat d
          · rw [(j1 d).1 ⟨u, e⟩, if_pos ⟨r.1, r.2, by show (decide (y.1.1 d = s) && nearP g d) = true; rw [decide_eq_true e, (hnear d r.1 r.2 e).mpr u]; rfl⟩]
          · rw [(j1 d).2 (fun z => u z.1), if_neg (fun z => u ((hnear d r.1 r.2 e).mp (by have := show (decide (y.1.1 d = s) && nearP g d) = true from z.2.2; rw [decide_eq_true e] at this; exact this)))]
        · rw [(j1 d).2 (fun z => e z.2), if_neg (fun z => by have := show (decide (y.1.1 d = s) && nearP g d) = true from z.2.2; rw [decide_eq_false e] at this; exact absurd this (by simp))]
      · rw [(j1 d).2 (fun z => r (hnr d z.1)), if_neg (fun z => r ⟨z.1, z.2.1⟩)]
    · intro d a b
      rw [Bool.eq_iff_iff, Bool.or_eq_true, j2, h2 d a b, Bool.and_eq_true, decide_eq_true_eq]
      constructor
      · rintro (z | z)
        · exact Or.inl z
        · exact Or.inr ⟨(hnear d a b z.1).mp z.2, z.1⟩
      · rintro (z | z)
        · exact Or.inl z
        · exact Or.inr ⟨z.2, (hnear d a b z.2).mpr z.1⟩
    · intro d hd
      rcases (j2 d).mp hd with z | z
      · refine ⟨(h3 d z).1, ?_⟩
        rw [(j1 d).2 (fun u => (h3 d z).2 u.2)]; exact (h3 d z).2
      · exact ⟨hnr d z.1, by rw [(j1 d).1 z]; exact hst.symm⟩
    · have h9 : y.1.2.2.length ≤ (tbN s t y.1.2.2 y.2 ((y.1.2.2.length : Int) - y.2).toNat y.1).2.2.length := by
        have := (j4 (y.1.2.2.length - 1) (by omega)).2
        omega
      omega
    · intro j hj d hn
      have hj2 : j < y.1.2.2.length := by omega
      rw [(j4 j hj2).1] at hn
      by_cases e : nbL y.1.2.2 y.2 ((y.1.2.2.length : Int) - y.2).toNat d ∧ y.1.1 d = s
      · rw [(j1 d).1 e]; exact hst.symm
      · rw [(j1 d).2 e]
        by_cases r : (j : Int) < y.2
        · exact h7 j r d hn
        · exact fun z => e ⟨⟨j - y.2.toNat, by omega, by rw [show (y.2 + ((j - y.2.toNat : Nat) : Int)).toNat = j by omega]; exact hn⟩, z⟩
  · rw [if_neg q]
    have hno : ∀ d, 0 ≤ d → d < 2880 → (decide (y.1.1 d = s) && nearP g d) = false := by
      intro d a b
      by_cases e : y.1.1 d = s
      · rw [decide_eq_true e, Bool.true_and]
        cases u : nearP g d with
        | false => rfl
        | true =>
          obtain ⟨j, hj, _⟩ := (hnear d a b e).mp u
          omega
      · rw [decide_eq_false e]; rfl
    refine ⟨(putP_none (P := fun c => decide (y.1.1 c = s) && nearP g c) hno).symm, fun d a b => ?_, h3, h4, h5, h6, h7⟩
    dsimp only
    rw [hno d a b, Bool.or_false]; exact h2 d a b
theorem WRK_0 {B : Int → Int} {s t : Int} (hB : BOK B) (hs : 1 ≤ s ∧ s ≤ 7) (ht : 0 ≤ t ∧ t ≤ 7) (hst : s ≠ t) : WRK s (tuB B s t) (turnI B s t 1) := by
  have hTV := tuB_TV hB hs ht hst
  rw [show (1 : Int) = 0 + 1 by omega, turnI_s (by omega), turnI_0]
  refine ⟨rfl, fun d a b => ?_, fun d hd => ?_, fun d => ?_, Int.le_refl _, ?_, fun j hj => ?_⟩
  · show (false || bareP B (1 * 2 ^ s.toNat) d) = (decide (0 ≤ d ∧ d < 2880) && bareP B (1 * 2 ^ s.toNat) d)
    rw [decide_eq_true ⟨a, b⟩]; rfl
  · have hd2 : (decide (0 ≤ d ∧ d < 2880) && bareP B (1 * 2 ^ s.toNat) d) = true := hd
    rw [Bool.and_eq_true, decide_eq_true_eq] at hd2
    exact ⟨hd2.1, hTV.2.2 d hd2.1.1 hd2.1.2 hd⟩
  · show d ∈ pkI (bareP B (1 * 2 ^ s.toNat)) 2880 ↔ (decide (0 ≤ d ∧ d < 2880) && bareP B (1 * 2 ^ s.toNat) d) = true
    rw [pkI_mem (by omega), Bool.and_eq_true, decide_eq_true_eq]
    exact ⟨fun h => ⟨⟨h.1, h.2.1⟩, h.2.2⟩, fun h => ⟨h.1.1, h.1.2, h.2⟩⟩
  · show (0 : Int) ≤ _; omega
  · have h9 : (j : Int) < 0 := hj
    omega
theorem WRK_n {B : Int → Int} {s t : Int} (hB : BOK B) (hs : 1 ≤ s ∧ s ≤ 7) (ht : 0 ≤ t ∧ t ≤ 7) (hst : s ≠ t) (k : Nat) : WRK s (tuI s t k (tuB B s t)) (turnI B s t (k + 1)) := by
  induction k with
  | zero => exact WRK_0 hB hs ht hst
  | succ k ih =>
    rw [show ((k + 1 : Nat) : Int) = (k : Int) + 1 by omega, tuI_s (by omega), turnI_s (i := (k : Int) + 1) (by omega)]
    have hP : turnP B s t ((k : Int) + 1) = fun c => decide ((turnI B s t ((k : Int) + 1)).1 c = s) && nearP (turnI B s t ((k : Int) + 1)).2 c := by
      funext c
      exact turnP_n (by omega) (by omega) rfl rfl
    rw [hP]
    exact WRK_step hst ih
theorem turn_eq {B : Int → Int} {s t n : Int} (hB : BOK B) (hs : 1 ≤ s ∧ s ≤ 7) (ht : 0 ≤ t ∧ t ≤ 7) (hn : 1 ≤ n) : turnC B s t n = turnR B s t n := by
  unfold turnC turnR
  by_cases q : s = t
  · rw [if_pos q, if_pos q]
  · rw [if_neg q, if_neg q]
    have := (WRK_n hB hs ht q (n - 1).toNat).1
    rw [show (((n - 1).toNat : Nat) : Int) = n - 1 by omega, show n - 1 + 1 = n by omega] at this
    exact this
theorem BOK_turnR {B : Int → Int} {s t n : Int} (hB : BOK B) (ht : 0 ≤ t ∧ t ≤ 7) : BOK (turnR B s t n) := by
  unfold turnR turnI
  split
  · exact hB
  · generalize n.toNat = k
    induction k with
    | zero => exact hB
    | succ k ih => exact BOK_putP ih _ ht
