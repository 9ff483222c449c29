/-! WHAT IS READ IS VALID -/
theorem sch_in {kk : Nat} {q : Int} (hk : kk < 24) (h : 0 ≤ q ∧ q < slen kk) : 0 ≤ sch kk q ∧ sch kk q ≤ 127 := by have := sch_rng hk h; omega
abbrev numC (c : Int) : Prop := c = 104 ∨ c = 107 ∨ c = 110 ∨ c = 112 ∨ c = 119
def loC (c : Int) : Int := if c = 110 then 1 else 0
def hiC (c : Int) : Int := if c = 104 ∨ c = 110 then 20 else if c = 107 then 7 else if c = 112 then 9 else 99
theorem rp_num {Tb : Int → Int} {k f e c : Int} (hc : numC c) : rpF Tb k f e c = nmS k (vluS Tb k f e) (loC c) (hiC c) := by
  unfold rpF loC hiC
  rcases hc with h | h | h | h | h <;> subst h <;> rfl
theorem nmS_0 {k v lo hi : Int} (h : nmS k v lo hi = 0) : k = 2 ∧ lo ≤ v ∧ v ≤ hi := by
  unfold nmS at h
  by_cases q : k = 2
  · rw [if_pos q] at h
    by_cases r : lo ≤ v ∧ v ≤ hi
    · exact ⟨q, r⟩
    · rw [if_neg r] at h; omega
  · rw [if_neg q] at h; omega
theorem fuS_0 {v : Int} (h : fuS v = 0) : v ≠ -1 := by
  unfold fuS at h
  by_cases q : v = -1
  · rw [if_pos q] at h; omega
  · exact q
theorem rpU_0 (Tb : Int → Int) (k f e c : Int) (s : Int → Int) : rpU Tb k f e c s 0 = s 0 ∧ rpU Tb k f e c s 1 = s 1 ∧ rpU Tb k f e c s 7 = s 7 := by
  unfold rpU
  repeat' split
  all_goals exact ⟨rfl, rfl, rfl⟩
theorem rpU_2 {Tb : Int → Int} {k f e c : Int} {s : Int → Int} : rpU Tb k f e c s 2 = if c = 115 then stfS Tb k f e else s 2 := by
  unfold rpU
  by_cases h1 : c = 84
  · rw [if_pos h1, if_neg (by omega)]; rfl
  · rw [if_neg h1]
    by_cases h2 : c = 114
    · rw [if_pos h2, if_neg (by omega)]; rfl
    · rw [if_neg h2]
      by_cases h3 : c = 115
      · rw [if_pos h3, if_pos h3]; rfl
      · rw [if_neg h3, if_neg h3]
        repeat' split
        all_goals rfl
theorem rpU_3 {Tb : Int → Int} {k f e c : Int} {s : Int → Int} : rpU Tb k f e c s 3 = if c = 116 then stfS Tb k f e else s 3 := by
  unfold rpU
  by_cases h1 : c = 84
  · rw [if_pos h1, if_neg (by omega)]; rfl
  · rw [if_neg h1]
    by_cases h2 : c = 114
    · rw [if_pos h2, if_neg (by omega)]; rfl
    · rw [if_neg h2]
      by_cases h3 : c = 115
      · rw [if_pos h3, if_neg (by omega)]; rfl
      · rw [if_neg h3]
        by_cases h4 : c = 116
        · rw [if_pos h4, if_pos h4]; rfl
        · rw [if_neg h4, if_neg h4]
          split
          · rfl
          · rfl
theorem rpU_4 {Tb : Int → Int} {k f e c : Int} {s : Int → Int} : rpU Tb k f e c s 4 = if c = 84 then stsS Tb k f e else s 4 := by
  unfold rpU
  by_cases h1 : c = 84
  · rw [if_pos h1, if_pos h1]; rfl
  · rw [if_neg h1, if_neg h1]
    repeat' split
    all_goals rfl
theorem rpU_6 {Tb : Int → Int} {k f e c : Int} {s : Int → Int} : rpU Tb k f e c s 6 = if c = 114 then relS Tb k f else s 6 := by
  unfold rpU
  by_cases h1 : c = 84
  · rw [if_pos h1, if_neg (by omega)]; rfl
  · rw [if_neg h1]
    by_cases h2 : c = 114
    · rw [if_pos h2, if_pos h2]; rfl
    · rw [if_neg h2, if_neg h2]
      repeat' split
      all_goals rfl
theorem rpU_5 {Tb : Int → Int} {k f e c : Int} {s : Int → Int} : (numC c ∧ k = 2 → rpU Tb k f e c s 5 = vluS Tb k f e) ∧ (¬ (numC c ∧ k = 2) → rpU Tb k f e c s 5 = s 5) := by
  unfold rpU numC
  by_cases h1 : c = 84
  · rw [if_pos h1]; exact ⟨fun z => by omega, fun _ => rfl⟩
  · rw [if_neg h1]
    by_cases h2 : c = 114
    · rw [if_pos h2]; exact ⟨fun z => by omega, fun _ => rfl⟩
    · rw [if_neg h2]
      by_cases h3 : c = 115
      · rw [if_pos h3]; exact ⟨fun z => by omega, fun _ => rfl⟩
      · rw [if_neg h3]
        by_cases h4 : c = 116
        · rw [if_pos h4]; exact ⟨fun z => by omega, fun _ => rfl⟩
        · rw [if_neg h4]
          by_cases h5 : (c = 104 ∨ c = 107 ∨ c = 110 ∨ c = 112 ∨ c = 119) ∧ k = 2
          · rw [if_pos h5]; exact ⟨fun _ => rfl, fun z => absurd h5 z⟩
          · rw [if_neg h5]; exact ⟨fun z => absurd z h5, fun _ => rfl⟩
theorem lsI_b0 (Tb : Int → Int) {f z : Int} (h : f ≤ z) : lsI Tb f z = -1 ∨ (0 ≤ lsI Tb f z ∧ lsI Tb f z ≤ 255) ∧ hk (lsI Tb f z) 0 = false := by
  obtain ⟨n, rfl⟩ : ∃ n : Nat, z = f + n := ⟨(z - f).toNat, by omega⟩
  clear h
  induction n with
  | zero => rw [show f + ((0 : Nat) : Int) = f by omega, lsI_0]; exact Or.inr ⟨by omega, by unfold hk; simp⟩
  | succ n ih =>
    have hr := lsI_rng Tb (f := f) (z := f + n + 1) (by omega)
    rw [show f + ((n + 1 : Nat) : Int) = f + n + 1 by omega]
    rcases hr with hr | hr
    · exact Or.inl hr
    · refine Or.inr ⟨hr, ?_⟩
      rw [lsI_s (by omega)] at hr ⊢
      by_cases q : lsI Tb f (f + n) = -1 ∨ sfT (Tb (f + n)) = -1 ∨ hk (lsI Tb f (f + n)) (sfT (Tb (f + n))) = true
      · rw [if_pos q] at hr; omega
      · rw [if_neg q]
        have h2 := sfT_rng (Tb (f + n))
        have h3 : lsI Tb f (f + n) ≠ -1 := fun z => q (Or.inl z)
        have h4 : sfT (Tb (f + n)) ≠ -1 := fun z => q (Or.inr (Or.inl z))
        have h5 := ih.resolve_left h3
        have h6 := @hk_or (lsI Tb f (f + n)) (sfT (Tb (f + n))) 0 (by omega) (by omega) (by omega)
        unfold orK
        rw [h6, h5.2, decide_eq_false (by omega)]; rfl
/-- what a step's fields are after its form, if it had no fault -/
theorem rfN_ok {Tb : Int → Int} {L : Int} {kk : Nat} (n : Nat) : ∀ (i f : Int) (s : Int → Int), 0 ≤ i → i + n = slen kk → 0 ≤ f ∧ f ≤ L → (rfN Tb L kk n i f s).1 = 0 →
    ((rfN Tb L kk n i f s).2.2 0 = s 0 ∧ (rfN Tb L kk n i f s).2.2 1 = s 1 ∧ (rfN Tb L kk n i f s).2.2 7 = s 7) ∧
    ((1 ≤ s 2 ∧ s 2 ≤ 7) ∨ (∃ q : Int, i ≤ q ∧ q < slen kk ∧ sch kk q = 115) → 1 ≤ (rfN Tb L kk n i f s).2.2 2 ∧ (rfN Tb L kk n i f s).2.2 2 ≤ 7) ∧
    ((1 ≤ s 3 ∧ s 3 ≤ 7) ∨ (∃ q : Int, i ≤ q ∧ q < slen kk ∧ sch kk q = 116) → 1 ≤ (rfN Tb L kk n i f s).2.2 3 ∧ (rfN Tb L kk n i f s).2.2 3 ≤ 7) ∧
    (((0 ≤ s 4 ∧ s 4 ≤ 255) ∧ hk (s 4) 0 = false) ∨ (∃ q : Int, i ≤ q ∧ q < slen kk ∧ sch kk q = 84) → (0 ≤ (rfN Tb L kk n i f s).2.2 4 ∧ (rfN Tb L kk n i f s).2.2 4 ≤ 255) ∧ hk ((rfN Tb L kk n i f s).2.2 4) 0 = false) ∧
    ((s 6 = 60 ∨ s 6 = 61 ∨ s 6 = 62) ∨ (∃ q : Int, i ≤ q ∧ q < slen kk ∧ sch kk q = 114) → (rfN Tb L kk n i f s).2.2 6 = 60 ∨ (rfN Tb L kk n i f s).2.2 6 = 61 ∨ (rfN Tb L kk n i f s).2.2 6 = 62) ∧
    (∀ c : Int, numC c → (∀ q : Int, i ≤ q → q < slen kk → numC (sch kk q) → sch kk q = c) → (loC c ≤ s 5 ∧ s 5 ≤ hiC c) ∨ (∃ q : Int, i ≤ q ∧ q < slen kk ∧ sch kk q = c) → loC c ≤ (rfN Tb L kk n i f s).2.2 5 ∧ (rfN Tb L kk n i f s).2.2 5 ≤ hiC c) := by
  induction n with
  | zero =>
    intro i f s hi hn hf h0
    have hno : ∀ c : Int, ¬ ∃ q : Int, i ≤ q ∧ q < slen kk ∧ sch kk q = c := fun c ⟨q, a, b, _⟩ => by omega
    exact ⟨⟨rfl, rfl, rfl⟩, fun z => z.resolve_right (hno _), fun z => z.resolve_right (hno _), fun z => z.resolve_right (hno _), fun z => z.resolve_right (hno _), fun c _ _ z => z.resolve_right (hno _)⟩
  | succ n ih =>
    intro i f s hi hn hf h0
    have ht := @tok_ok Tb L f hf
    have hF := @tkF_ok Tb L f hf
    unfold rfN at h0 ⊢
    by_cases q0 : rpF Tb (tkK Tb L f) f (tkE Tb L f) (sch kk i) = 0
    · rw [if_pos q0] at h0 ⊢
      have hI := ih (i + 1) (tkF Tb L (tkE Tb L f)) (rpU Tb (tkK Tb L f) f (tkE Tb L f) (sch kk i) s) (by omega) (by omega) (by omega) h0
      obtain ⟨a0, a2, a3, a4, a6, a5⟩ := hI
      have hU := rpU_0 Tb (tkK Tb L f) f (tkE Tb L f) (sch kk i) s
      have hex : ∀ c : Int, (∃ q : Int, i ≤ q ∧ q < slen kk ∧ sch kk q = c) → sch kk i = c ∨ ∃ q : Int, i + 1 ≤ q ∧ q < slen kk ∧ sch kk q = c := by
        rintro c ⟨q, a, b, e⟩
        by_cases w : q = i
        · rw [w] at e; exact Or.inl e
        · exact Or.inr ⟨q, by omega, b, e⟩
      refine ⟨⟨a0.1.trans hU.1, a0.2.1.trans hU.2.1, a0.2.2.trans hU.2.2⟩, fun z => a2 ?_, fun z => a3 ?_, fun z => a4 ?_, fun z => a6 ?_, fun c hc huniq z => a5 c hc (fun q a b e => huniq q (by omega) b e) ?_⟩
      · rw [rpU_2]
        by_cases w : sch kk i = 115
        · rw [if_pos w]
          left
          have h9 : fuS (stfS Tb (tkK Tb L f) f (tkE Tb L f)) = 0 := by rw [w] at q0; exact q0
          exact (stfS_rng _ _ _ _).resolve_left (fuS_0 h9)
        · rw [if_neg w]; exact z.imp id (fun y => (hex _ y).resolve_left w)
      · rw [rpU_3]
        by_cases w : sch kk i = 116
        · rw [if_pos w]
          left
          have h9 : fuS (stfS Tb (tkK Tb L f) f (tkE Tb L f)) = 0 := by rw [w] at q0; exact q0
          exact (stfS_rng _ _ _ _).resolve_left (fuS_0 h9)
        · rw [if_neg w]; exact z.imp id (fun y => (hex _ y).resolve_left w)
      · rw [rpU_4]
        by_cases w : sch kk i = 84
        · rw [if_pos w]
          left
          have h9 : fuS (stsS Tb (tkK Tb L f) f (tkE Tb L f)) = 0 := by rw [w] at q0; exact q0
          have h8 := fuS_0 h9
          unfold stsS at h8 ⊢
          by_cases u : tkK Tb L f = 1
          · rw [if_pos u] at h8 ⊢; exact (lsI_b0 Tb (by omega)).resolve_left h8
          · rw [if_neg u] at h8; exact absurd rfl h8
        · rw [if_neg w]; exact z.imp id (fun y => (hex _ y).resolve_left w)
      · rw [rpU_6]
        by_cases w : sch kk i = 114
        · rw [if_pos w]
          left
          have h9 : fuS (relS Tb (tkK Tb L f) f) = 0 := by rw [w] at q0; exact q0
          have h8 := fuS_0 h9
          unfold relS at h8 ⊢
          (repeat' split at h8) <;> (repeat' split) <;> omega
        · rw [if_neg w]; exact z.imp id (fun y => (hex _ y).resolve_left w)
      · by_cases w : numC (sch kk i)
        · have hw := huniq i (by omega) (by omega) w
          rw [rp_num w, hw] at q0
          have h9 := nmS_0 q0
          left
          rw [rpU_5.1 ⟨w, h9.1⟩]; exact h9.2
        · rw [rpU_5.2 (fun y => w y.1)]
          exact z.imp id (fun y => (hex _ y).resolve_left (fun u => w (by rw [u]; exact hc)))
    · rw [if_neg q0] at h0; exact absurd h0 q0
def ncK (kk : Nat) : Int := if kk < 18 then 110 else if kk < 20 then 104 else if kk = 20 then 107 else if kk = 21 then 119 else 112
theorem ncK_u : ∀ kk : Nat, kk < 24 → ∀ i : Nat, i < 7 → (14 ≤ kk ∧ (i : Int) < slen kk ∧ (sch kk i = 104 ∨ sch kk i = 107 ∨ sch kk i = 110 ∨ sch kk i = 112 ∨ sch kk i = 119)) → sch kk i = ncK kk := by decide +kernel
theorem ncK_q {kk : Nat} (h1 : kk < 24) (h2 : 14 ≤ kk) (q : Int) (a : 0 ≤ q) (b : q < slen kk) (c : numC (sch kk q)) : sch kk q = ncK kk := by
  have := slen_rng h1
  obtain ⟨n, rfl⟩ := Int.eq_ofNat_of_zero_le a
  exact ncK_u kk h1 n (by omega) ⟨h2, b, c⟩
/-- all of a valid step but where a repeat's body ends -/
def VSw (s : Int → Int) : Prop := VS (upI s 7 0)
theorem VSw_VS {s : Int → Int} (h : VSw s) (h7 : s 0 = 13 → 0 ≤ s 7 ∧ s 7 ≤ 60) : VS s := by
  obtain ⟨a0, a1, a2, a3, a4, a5, a6, a8, a9⟩ := h
  exact ⟨a0, a1, a2, a3, a4, a5, a6, a8, fun z => ⟨(a9 z).1, h7 z⟩⟩
theorem VSw_7 {s : Int → Int} (h : VSw s) (v : Int) : VSw (upI s 7 v) := by
  unfold VSw at *
  rw [show upI (upI s 7 v) 7 0 = upI s 7 0 by funext j; unfold upI; split <;> rfl]
  exact h
theorem form_ok {Tb : Int → Int} {L f w : Int} {s : Int → Int} (hw : 0 ≤ w ∧ w ≤ 13) (hf : 0 ≤ f ∧ f ≤ L) (hs : s 0 = w) (h0 : (rfS Tb L (fmK w) 0 f s).1 = 0) : VSw (rfS Tb L (fmK w) 0 f s).2.2 ∧ (rfS Tb L (fmK w) 0 f s).2.2 0 = w ∧ (rfS Tb L (fmK w) 0 f s).2.2 1 = s 1 ∧ (rfS Tb L (fmK w) 0 f s).2.2 7 = s 7 := by
  have hm := fmK_lt w
  have hsl := slen_rng hm.2
  unfold rfS at h0 ⊢
  have hR := rfN_ok (Tb := Tb) (L := L) (kk := fmK w) (slen (fmK w) - 0).toNat 0 f s (by omega) (by omega) hf h0
  obtain ⟨a0, a2, a3, a4, a6, a5⟩ := hR
  refine ⟨?_, a0.1.trans hs, a0.2.1, a0.2.2⟩
  have a5 := fun c hc => a5 c hc
  have h5 := ncK_q hm.2 hm.1
  have ew := a0.1.trans hs
  generalize (rfN Tb L (fmK w) (slen (fmK w) - 0).toNat 0 f s).2.2 = u at *
  rcases (show w = 0 ∨ w = 1 ∨ w = 2 ∨ w = 3 ∨ w = 4 ∨ w = 5 ∨ w = 6 ∨ w = 7 ∨ w = 8 ∨ w = 9 ∨ w = 10 ∨ w = 11 ∨ w = 12 ∨ w = 13 by omega) with e9 | e9 | e9 | e9 | e9 | e9 | e9 | e9 | e9 | e9 | e9 | e9 | e9 | e9 <;> subst e9
  · skip
    have b2 := a2 (Or.inr ⟨0, by decide, by decide +kernel, by decide +kernel⟩)
    have b5 := a5 110 (by decide) (fun q a b e => (h5 q a b e).trans (by decide +kernel)) (Or.inr ⟨1, by decide, by decide +kernel, by decide +kernel⟩)
    rw [show loC 110 = 1 by decide, show hiC 110 = 20 by decide] at b5
    unfold VSw VS
    simp only [show upI u 7 0 0 = u 0 from rfl, show upI u 7 0 2 = u 2 from rfl, show upI u 7 0 3 = u 3 from rfl, show upI u 7 0 4 = u 4 from rfl, show upI u 7 0 5 = u 5 from rfl, show upI u 7 0 6 = u 6 from rfl, show upI u 7 0 7 = 0 from rfl, ew]
    refine ⟨by omega, fun z => by omega, fun z => by omega, fun z => absurd z (by omega), fun z => by omega, fun z => by omega, fun z => by omega, fun z => by omega, fun z => by omega⟩
  · skip
    have b4 := a4 (Or.inr ⟨0, by decide, by decide +kernel, by decide +kernel⟩)
    have b5 := a5 110 (by decide) (fun q a b e => (h5 q a b e).trans (by decide +kernel)) (Or.inr ⟨1, by decide, by decide +kernel, by decide +kernel⟩)
    rw [show loC 110 = 1 by decide, show hiC 110 = 20 by decide] at b5
    unfold VSw VS
    simp only [show upI u 7 0 0 = u 0 from rfl, show upI u 7 0 2 = u 2 from rfl, show upI u 7 0 3 = u 3 from rfl, show upI u 7 0 4 = u 4 from rfl, show upI u 7 0 5 = u 5 from rfl, show upI u 7 0 6 = u 6 from rfl, show upI u 7 0 7 = 0 from rfl, ew]
    refine ⟨by omega, fun z => by omega, fun z => by omega, fun z => b4, fun z => by omega, fun z => by omega, fun z => by omega, fun z => by omega, fun z => by omega⟩
  · skip
    have b2 := a2 (Or.inr ⟨0, by decide, by decide +kernel, by decide +kernel⟩)
    have b3 := a3 (Or.inr ⟨1, by decide, by decide +kernel, by decide +kernel⟩)
    have b4 := a4 (Or.inr ⟨3, by decide, by decide +kernel, by decide +kernel⟩)
    have b5 := a5 110 (by decide) (fun q a b e => (h5 q a b e).trans (by decide +kernel)) (Or.inr ⟨2, by decide, by decide +kernel, by decide +kernel⟩)
    rw [show loC 110 = 1 by decide, show hiC 110 = 20 by decide] at b5
    unfold VSw VS
    simp only [show upI u 7 0 0 = u 0 from rfl, show upI u 7 0 2 = u 2 from rfl, show upI u 7 0 3 = u 3 from rfl, show upI u 7 0 4 = u 4 from rfl, show upI u 7 0 5 = u 5 from rfl, show upI u 7 0 6 = u 6 from rfl, show upI u 7 0 7 = 0 from rfl, ew]
    refine ⟨by omega, fun z => by omega, fun z => by omega, fun z => b4, fun z => by omega, fun z => by omega, fun z => by omega, fun z => by omega, fun z => by omega⟩
  · skip
    have b2 := a2 (Or.inr ⟨0, by decide, by decide +kernel, by decide +kernel⟩)
    have b5 := a5 110 (by decide) (fun q a b e => (h5 q a b e).trans (by decide +kernel)) (Or.inr ⟨1, by decide, by decide +kernel, by decide +kernel⟩)
    rw [show loC 110 = 1 by decide, show hiC 110 = 20 by decide] at b5
    unfold VSw VS
    simp only [show upI u 7 0 0 = u 0 from rfl, show upI u 7 0 2 = u 2 from rfl, show upI u 7 0 3 = u 3 from rfl, show upI u 7 0 4 = u 4 from rfl, show upI u 7 0 5 = u 5 from rfl, show upI u 7 0 6 = u 6 from rfl, show upI u 7 0 7 = 0 from rfl, ew]
    refine ⟨by omega, fun z => by omega, fun z => by omega, fun z => absurd z (by omega), fun z => by omega, fun z => by omega, fun z => by omega, fun z => by omega, fun z => by omega⟩
  · skip
    have b4 := a4 (Or.inr ⟨0, by decide, by decide +kernel, by decide +kernel⟩)
    have b5 := a5 110 (by decide) (fun q a b e => (h5 q a b e).trans (by decide +kernel)) (Or.inr ⟨1, by decide, by decide +kernel, by decide +kernel⟩)
    rw [show loC 110 = 1 by decide, show hiC 110 = 20 by decide] at b5
    unfold VSw VS
    simp only [show upI u 7 0 0 = u 0 from rfl, show upI u 7 0 2 = u 2 from rfl, show upI u 7 0 3 = u 3 from rfl, show upI u 7 0 4 = u 4 from rfl, show upI u 7 0 5 = u 5 from rfl, show upI u 7 0 6 = u 6 from rfl, show upI u 7 0 7 = 0 from rfl, ew]
    refine ⟨by omega, fun z => by omega, fun z => by omega, fun z => b4, fun z => by omega, fun z => by omega, fun z => by omega, fun z => by omega, fun z => by omega⟩
  · skip
    have b2 := a2 (Or.inr ⟨0, by decide, by decide +kernel, by decide +kernel⟩)
    have b3 := a3 (Or.inr ⟨1, by decide, by decide +kernel, by decide +kernel⟩)
    have b5 := a5 110 (by decide) (fun q a b e => (h5 q a b e).trans (by decide +kernel)) (Or.inr ⟨2, by decide, by decide +kernel, by decide +kernel⟩)
    rw [show loC 110 = 1 by decide, show hiC 110 = 20 by decide] at b5
    unfold VSw VS
    simp only [show upI u 7 0 0 = u 0 from rfl, show upI u 7 0 2 = u 2 from rfl, show upI u 7 0 3 = u 3 from rfl, show upI u 7 0 4 = u 4 from rfl, show upI u 7 0 5 = u 5 from rfl, show upI u 7 0 6 = u 6 from rfl, show upI u 7 0 7 = 0 from rfl, ew]
    refine ⟨by omega, fun z => by omega, fun z => by omega, fun z => absurd z (by omega), fun z => by omega, fun z => by omega, fun z => by omega, fun z => by omega, fun z => by omega⟩
  · skip
    have b2 := a2 (Or.inr ⟨0, by decide, by decide +kernel, by decide +kernel⟩)
    have b5 := a5 104 (by decide) (fun q a b e => (h5 q a b e).trans (by decide +kernel)) (Or.inr ⟨1, by decide, by decide +kernel, by decide +kernel⟩)
    rw [show loC 104 = 0 by decide, show hiC 104 = 20 by decide] at b5
    unfold VSw VS
    simp only [show upI u 7 0 0 = u 0 from rfl, show upI u 7 0 2 = u 2 from rfl, show upI u 7 0 3 = u 3 from rfl, show upI u 7 0 4 = u 4 from rfl, show upI u 7 0 5 = u 5 from rfl, show upI u 7 0 6 = u 6 from rfl, show upI u 7 0 7 = 0 from rfl, ew]
    refine ⟨by omega, fun z => by omega, fun z => by omega, fun z => absurd z (by omega), fun z => by omega, fun z => by omega, fun z => by omega, fun z => by omega, fun z => by omega⟩
  · skip
    have b5 := a5 104 (by decide) (fun q a b e => (h5 q a b e).trans (by decide +kernel)) (Or.inr ⟨0, by decide, by decide +kernel, by decide +kernel⟩)
    rw [show loC 104 = 0 by decide, show hiC 104 = 20 by decide] at b5
    unfold VSw VS
    simp only [show upI u 7 0 0 = u 0 from rfl, show upI u 7 0 2 = u 2 from rfl, show upI u 7 0 3 = u 3 from rfl, show upI u 7 0 4 = u 4 from rfl, show upI u 7 0 5 = u 5 from rfl, show upI u 7 0 6 = u 6 from rfl, show upI u 7 0 7 = 0 from rfl, ew]
    refine ⟨by omega, fun z => by omega, fun z => by omega, fun z => absurd z (by omega), fun z => by omega, fun z => by omega, fun z => by omega, fun z => by omega, fun z => by omega⟩
  · skip
    unfold VSw VS
    simp only [show upI u 7 0 0 = u 0 from rfl, show upI u 7 0 2 = u 2 from rfl, show upI u 7 0 3 = u 3 from rfl, show upI u 7 0 4 = u 4 from rfl, show upI u 7 0 5 = u 5 from rfl, show upI u 7 0 6 = u 6 from rfl, show upI u 7 0 7 = 0 from rfl, ew]
    refine ⟨by omega, fun z => by omega, fun z => by omega, fun z => absurd z (by omega), fun z => by omega, fun z => by omega, fun z => by omega, fun z => by omega, fun z => by omega⟩
  · skip
    have b5 := a5 107 (by decide) (fun q a b e => (h5 q a b e).trans (by decide +kernel)) (Or.inr ⟨0, by decide, by decide +kernel, by decide +kernel⟩)
    rw [show loC 107 = 0 by decide, show hiC 107 = 7 by decide] at b5
    unfold VSw VS
    simp only [show upI u 7 0 0 = u 0 from rfl, show upI u 7 0 2 = u 2 from rfl, show upI u 7 0 3 = u 3 from rfl, show upI u 7 0 4 = u 4 from rfl, show upI u 7 0 5 = u 5 from rfl, show upI u 7 0 6 = u 6 from rfl, show upI u 7 0 7 = 0 from rfl, ew]
    refine ⟨by omega, fun z => by omega, fun z => by omega, fun z => absurd z (by omega), fun z => by omega, fun z => by omega, fun z => by omega, fun z => by omega, fun z => by omega⟩
  · skip
    unfold VSw VS
    simp only [show upI u 7 0 0 = u 0 from rfl, show upI u 7 0 2 = u 2 from rfl, show upI u 7 0 3 = u 3 from rfl, show upI u 7 0 4 = u 4 from rfl, show upI u 7 0 5 = u 5 from rfl, show upI u 7 0 6 = u 6 from rfl, show upI u 7 0 7 = 0 from rfl, ew]
    refine ⟨by omega, fun z => by omega, fun z => by omega, fun z => absurd z (by omega), fun z => by omega, fun z => by omega, fun z => by omega, fun z => by omega, fun z => by omega⟩
  · skip
    have b2 := a2 (Or.inr ⟨0, by decide, by decide +kernel, by decide +kernel⟩)
    have b6 := a6 (Or.inr ⟨1, by decide, by decide +kernel, by decide +kernel⟩)
    have b5 := a5 119 (by decide) (fun q a b e => (h5 q a b e).trans (by decide +kernel)) (Or.inr ⟨2, by decide, by decide +kernel, by decide +kernel⟩)
    rw [show loC 119 = 0 by decide, show hiC 119 = 99 by decide] at b5
    unfold VSw VS
    simp only [show upI u 7 0 0 = u 0 from rfl, show upI u 7 0 2 = u 2 from rfl, show upI u 7 0 3 = u 3 from rfl, show upI u 7 0 4 = u 4 from rfl, show upI u 7 0 5 = u 5 from rfl, show upI u 7 0 6 = u 6 from rfl, show upI u 7 0 7 = 0 from rfl, ew]
    refine ⟨by omega, fun z => by omega, fun z => by omega, fun z => absurd z (by omega), fun z => by omega, fun z => by omega, fun z => by omega, fun z => by omega, fun z => by omega⟩
  · skip
    unfold VSw VS
    simp only [show upI u 7 0 0 = u 0 from rfl, show upI u 7 0 2 = u 2 from rfl, show upI u 7 0 3 = u 3 from rfl, show upI u 7 0 4 = u 4 from rfl, show upI u 7 0 5 = u 5 from rfl, show upI u 7 0 6 = u 6 from rfl, show upI u 7 0 7 = 0 from rfl, ew]
    refine ⟨by omega, fun z => by omega, fun z => by omega, fun z => absurd z (by omega), fun z => by omega, fun z => by omega, fun z => by omega, fun z => by omega, fun z => by omega⟩
  · skip
    have b5 := a5 112 (by decide) (fun q a b e => (h5 q a b e).trans (by decide +kernel)) (Or.inr ⟨0, by decide, by decide +kernel, by decide +kernel⟩)
    rw [show loC 112 = 0 by decide, show hiC 112 = 9 by decide] at b5
    unfold VSw VS
    simp only [show upI u 7 0 0 = u 0 from rfl, show upI u 7 0 2 = u 2 from rfl, show upI u 7 0 3 = u 3 from rfl, show upI u 7 0 4 = u 4 from rfl, show upI u 7 0 5 = u 5 from rfl, show upI u 7 0 6 = u 6 from rfl, show upI u 7 0 7 = 0 from rfl, ew]
    refine ⟨by omega, fun z => by omega, fun z => by omega, fun z => absurd z (by omega), fun z => by omega, fun z => by omega, fun z => by omega, fun z => by omega, fun z => by omega⟩
