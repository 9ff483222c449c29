/-! the reading as a machine: what is valid along it -/
def pvOK (c : PS) : Prop := c.1 = 0 → (∀ q : Int, 0 ≤ q → q < c.2.2.1 → VSw (c.2.2.2.2.2 q)) ∧ ∀ q : Int, 0 ≤ q → q < c.2.2.1 → c.2.2.2.2.2 q 0 = 13 → (∃ j : Int, 0 ≤ j ∧ j < c.2.2.2.1 ∧ c.2.2.2.2.1 j = q) ∨ (0 ≤ c.2.2.2.2.2 q 7 ∧ c.2.2.2.2.2 q 7 ≤ 60)
theorem pv_rs {Tb : Int → Int} {L f n d : Int} {O : Int → Int} {G : Int → Int → Int} (hf : 0 ≤ f ∧ f ≤ L) (d0 : 0 ≤ d) (h : pvOK (0, f, n, d, O, G)) : pvOK (rsS Tb L f n d O G) := by
  have h := h rfl
  dsimp only at h
  have hsw := swS_rng Tb (tkK Tb L f) f (tkE Tb L f)
  have hF := @tkF_ok Tb L f hf
  unfold rsS
  by_cases h1 : swS Tb (tkK Tb L f) f (tkE Tb L f) = -1
  · rw [if_pos h1]; exact fun z => absurd (show (1 : Int) = 0 from z) (by decide)
  · rw [if_neg h1]
    by_cases h2 : swS Tb (tkK Tb L f) f (tkE Tb L f) = 13 ∧ 4 ≤ d
    · rw [if_pos h2]; exact fun z => absurd (show (3 : Int) = 0 from z) (by decide)
    · rw [if_neg h2]
      by_cases h3 : 60 ≤ n
      · rw [if_pos h3]; exact fun z => absurd (show (4 : Int) = 0 from z) (by decide)
      · rw [if_neg h3]
        intro h0
        dsimp only at h0 ⊢
        have hR := form_ok (Tb := Tb) (L := L) (f := tkF Tb L (tkE Tb L f)) (w := swS Tb (tkK Tb L f) f (tkE Tb L f)) (s := upI (upI (G n) 0 (swS Tb (tkK Tb L f) f (tkE Tb L f))) 1 f) (by omega) (by omega) rfl h0
        generalize (rfS Tb L (fmK (swS Tb (tkK Tb L f) f (tkE Tb L f))) 0 (tkF Tb L (tkE Tb L f)) (upI (upI (G n) 0 (swS Tb (tkK Tb L f) f (tkE Tb L f))) 1 f)).2.2 = u at *
        refine ⟨fun q a b => ?_, fun q a b e => ?_⟩
        · by_cases w : q = n
          · rw [w, upI_s]; exact hR.1
          · rw [upI_n w]; exact h.1 q a (by omega)
        · by_cases w : q = n
          · rw [w, upI_s] at e
            have h9 : swS Tb (tkK Tb L f) f (tkE Tb L f) = 13 := hR.2.1.symm.trans e
            left
            rw [if_pos h9, if_pos h9]; exact ⟨d, d0, by omega, by rw [upI_s]; exact w.symm⟩
          · rw [upI_n w] at e ⊢
            rcases h.2 q a (by omega) e with ⟨j, x, y, z⟩ | y
            · left
              by_cases h9 : swS Tb (tkK Tb L f) f (tkE Tb L f) = 13
              · rw [if_pos h9, if_pos h9]; exact ⟨j, x, by omega, by rw [upI_n (by omega)]; exact z⟩
              · rw [if_neg h9, if_neg h9]; exact ⟨j, x, y, z⟩
            · exact Or.inr y
theorem pv_re {Tb : Int → Int} {L f n d : Int} {O : Int → Int} {G : Int → Int → Int} (hn : 0 ≤ n ∧ n ≤ 60) (h : pvOK (0, f, n, d, O, G)) : pvOK (reS Tb L f n d O G) := by
  have h := h rfl
  dsimp only at h
  unfold reS
  intro _
  dsimp only
  refine ⟨fun q a b => ?_, fun q a b e => ?_⟩
  · by_cases w : q = O (d - 1)
    · rw [w, upI_s]; exact VSw_7 (by rw [← w]; exact h.1 q a b) n
    · rw [upI_n w]; exact h.1 q a b
  · by_cases w : q = O (d - 1)
    · rw [w, upI_s, upI_s]; exact Or.inr hn
    · rw [upI_n w] at e ⊢
      rcases h.2 q a b e with ⟨j, x, y, z⟩ | y
      · by_cases u : j = d - 1
        · rw [u] at z; exact absurd z.symm w
        · exact Or.inl ⟨j, x, by omega, z⟩
      · exact Or.inr y
theorem pv_ps {Tb : Int → Int} {L : Int} {c : PS} (hok : psOK L c) (hR : psR Tb L c) (h : pvOK c) : pvOK (psS Tb L c) := by
  obtain ⟨z, f, n, d, O, G⟩ := c
  obtain ⟨h1, h2, h3, h4, h5⟩ := hok
  have hz : z = 0 := hR.1
  subst hz
  unfold psS
  dsimp only at *
  split
  · exact pv_re h3 h
  · exact pv_rs h2 h4.1 h
theorem ps_all {Tb : Int → Int} {L : Int} {c0 : PS} (hok : psOK L c0) (hpv : pvOK c0) {N : Int} (hN : 0 ≤ N) (hrun : ∀ q : Int, 0 ≤ q → q < N → psR Tb L (psI Tb L c0 q)) : psOK L (psI Tb L c0 N) ∧ pvOK (psI Tb L c0 N) := by
  obtain ⟨n, rfl⟩ := Int.eq_ofNat_of_zero_le hN
  clear hN
  induction n with
  | zero => rw [show ((0 : Nat) : Int) = 0 from rfl, psI_0]; exact ⟨hok, hpv⟩
  | succ n ih =>
    have h1 := ih (fun q a b => hrun q a (by omega))
    have h2 := hrun n (by omega) (by omega)
    rw [show ((n + 1 : Nat) : Int) = (n : Int) + 1 by omega, psI_s (by omega)]
    exact ⟨(ps_ok h1.1 h2).1, pv_ps h1.1 h2 h1.2⟩
/-- the machine's start -/
abbrev ps0 (Tb : Int → Int) (L : Int) (O : Int → Int) (G : Int → Int → Int) : PS := (0, tkF Tb L 0, 0, 0, O, G)
theorem ps0_ok {Tb : Int → Int} {L : Int} (hL : 0 ≤ L) (O : Int → Int) (G : Int → Int → Int) : psOK L (ps0 Tb L O G) ∧ pvOK (ps0 Tb L O G) := by
  have h9 := @tkF_rng Tb L 0 hL
  exact ⟨⟨⟨show (0 : Int) ≤ 0 by decide, show (0 : Int) ≤ 4 by decide⟩, h9, ⟨show (0 : Int) ≤ 0 by decide, show (0 : Int) ≤ 60 by decide⟩, ⟨show (0 : Int) ≤ 0 by decide, show (0 : Int) ≤ 4 by decide⟩, fun q9 a b => absurd (show q9 < 0 from b) (by omega)⟩, fun _ => ⟨fun q a b => absurd (show q < 0 from b) (by omega), fun q a b => absurd (show q < 0 from b) (by omega)⟩⟩
/-- a program that was read: its steps are valid -/
theorem ps_VS {Tb : Int → Int} {L : Int} (hL : 0 ≤ L) {O : Int → Int} {G : Int → Int → Int} {N : Int} (hN : 0 ≤ N) (hrun : ∀ q : Int, 0 ≤ q → q < N → psR Tb L (psI Tb L (ps0 Tb L O G) q)) {c : PS} (hc : psI Tb L (ps0 Tb L O G) N = c) (h0 : c.1 = 0) (hd : ¬ 0 < c.2.2.2.1) : ∀ q : Int, 0 ≤ q → q < c.2.2.1 → VS (c.2.2.2.2.2 q) := by
  have h := ps_all (ps0_ok hL O G).1 (ps0_ok (Tb := Tb) hL O G).2 hN hrun
  rw [hc] at h
  have hp := h.2 h0
  intro q a b
  refine VSw_VS (hp.1 q a b) (fun e => ?_)
  rcases hp.2 q a b e with ⟨j, x, y, _⟩ | y
  · omega
  · exact y
/-- a run: what was read, what was done, what is left -/
def rnFt (c1 : PS) : Int := if c1.1 = 0 ∧ 0 < c1.2.2.2.1 then 1 else c1.1
def RNC (A : Int → Bool) (Tb : Int → Int) (L : Int) (O : Int → Int) (G : Int → Int → Int) (B : Int → Int) (sb : Int) (bs be rl : Int → Int) (HR : Int → Int → Int) (row kept : Int) (c1 : PS) (N1 : Int) (c2 : Int × QS) (N2 rz sb1 : Int) (B1 : Int → Int) (HR1 : Int → Int → Int) (row1 kept1 : Int) : Prop :=
  (0 ≤ N1 ∧ psI Tb L (ps0 Tb L O G) N1 = c1 ∧ ¬ psR Tb L c1 ∧ (∀ q : Int, 0 ≤ q → q < N1 → psR Tb L (psI Tb L (ps0 Tb L O G) q)) ∧ psOK L c1) ∧
  (¬ rnFt c1 = 0 → rz = -10 - rnFt c1 ∧ sb1 = c1.2.1 ∧ B1 = B ∧ HR1 = HR ∧ row1 = row ∧ kept1 = kept) ∧
  (rnFt c1 = 0 → (0 ≤ N2 ∧ qsI A c1.2.2.2.2.2 ((0, 0, 0, -1, 0, sb, B, bs, be, rl) : Int × QS) N2 = c2 ∧ ¬ qRun c1.2.2.1 c2 ∧ (∀ q : Int, 0 ≤ q → q < N2 → qRun c1.2.2.1 (qsI A c1.2.2.2.2.2 ((0, 0, 0, -1, 0, sb, B, bs, be, rl) : Int × QS) q)) ∧ qOK N2 c2) ∧ HR1 = upI HR row B ∧
    (¬ c2.1 = 0 → rz = -20 - c2.1 ∧ sb1 = c2.2.2.2.2.2.1 ∧ B1 = B ∧ row1 = row ∧ kept1 = kept) ∧ (c2.1 = 0 → rz = c2.2.2.2.2.1 ∧ sb1 = -1 ∧ B1 = c2.2.2.2.2.2.2.1 ∧ row1 = (row + 1) % 7 ∧ kept1 = if kept + 1 < 6 then kept + 1 else 6))
theorem rnFt_0 {c1 : PS} (h : rnFt c1 = 0) : c1.1 = 0 ∧ ¬ 0 < c1.2.2.2.1 := by
  unfold rnFt at h
  by_cases q : c1.1 = 0 ∧ 0 < c1.2.2.2.1
  · rw [if_pos q] at h; omega
  · rw [if_neg q] at h; exact ⟨h, fun z => q ⟨h, z⟩⟩
