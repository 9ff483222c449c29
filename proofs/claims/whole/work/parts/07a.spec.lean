/-! RUNNING: what a step does, the runner as a machine -/
theorem BOK_fillS {B : Int → Int} (h : BOK B) {s e : Int} (hs : 0 ≤ s ∧ s ≤ 7) : BOK (fillS B s e) := BOK_putP h _ hs
theorem BOK_flatS {B : Int → Int} (h : BOK B) {e : Int} : BOK (flatS B e) := BOK_putP h _ (by omega)
theorem BOK_dropS {B : Int → Int} (h : BOK B) : BOK (dropS B) := BOK_putP h _ (by omega)
theorem BOK_atI {V : Int → Bool} {B : Int → Int} {d o u n K : Int} (hB : BOK B) (ho : d = 1 → 0 ≤ o ∧ o ≤ 7) (hu : ¬ d = 1 → ¬ d = 2 → 0 ≤ u ∧ u ≤ 7) (k : Nat) : BOK (atI V B d o u n K k) := by
  induction k with
  | zero => rw [show ((0 : Nat) : Int) = 0 from rfl, atI_0]; exact hB
  | succ k ih =>
    rw [show ((k + 1 : Nat) : Int) = (k : Int) + 1 by omega, atI_s (by omega)]
    split
    · unfold plF
      by_cases q : d = 1
      · rw [if_pos q]; exact BOK_layS ih (ho q)
      · rw [if_neg q]
        by_cases r : d = 2
        · rw [if_pos r]; exact BOK_cutS _ ih
        · rw [if_neg r]; exact BOK_dopeS (hu q r) _ ih
    · exact ih
/-- a step that was read without a fault -/
def VS (s : Int → Int) : Prop := (0 ≤ s 0 ∧ s 0 ≤ 13) ∧ ((s 0 = 0 ∨ s 0 = 2 ∨ s 0 = 3 ∨ s 0 = 5 ∨ s 0 = 6 ∨ s 0 = 11) → 1 ≤ s 2 ∧ s 2 ≤ 7) ∧ ((s 0 = 2 ∨ s 0 = 5) → 1 ≤ s 3 ∧ s 3 ≤ 7) ∧ ((s 0 = 1 ∨ s 0 = 2 ∨ s 0 = 4) → (0 ≤ s 4 ∧ s 4 ≤ 255) ∧ hk (s 4) 0 = false) ∧ (s 0 ≤ 5 → 1 ≤ s 5 ∧ s 5 ≤ 20) ∧ ((s 0 = 6 ∨ s 0 = 7) → 0 ≤ s 5 ∧ s 5 ≤ 20) ∧ (s 0 = 9 → 0 ≤ s 5 ∧ s 5 ≤ 7) ∧ (s 0 = 11 → (0 ≤ s 5 ∧ s 5 ≤ 99) ∧ (s 6 = 60 ∨ s 6 = 61 ∨ s 6 = 62)) ∧ (s 0 = 13 → (0 ≤ s 5 ∧ s 5 ≤ 9) ∧ 0 ≤ s 7 ∧ s 7 ≤ 60)
noncomputable def rdB (A : Int → Bool) (s : Int → Int) (mk : Int) (B : Int → Int) : Int → Int := if s 0 ≤ 2 then atI (mkV A mk) B (s 0 + 1) (s 2) (s 3) (s 5) (s 4) 144 else if s 0 = 3 then coatS (s 2) (s 5).toNat B else if s 0 = 4 then etchS (s 4) (s 5).toNat B else if s 0 = 5 then turnC B (s 2) (s 3) (s 5) else if s 0 = 6 then fillS B (s 2) (s 5) else if s 0 = 7 then flatS B (s 5) else if s 0 = 8 then dropS B else B
noncomputable def rdF (s : Int → Int) (B : Int → Int) : Int := if s 0 = 11 then (if wantS B (s 2) (s 6) (s 5) = true then 0 else 1) else if s 0 = 12 then (if floatN B = 0 then 0 else 2) else 0
def rdK (s : Int → Int) (mk : Int) : Int := if s 0 = 9 then s 5 else if s 0 = 10 then -1 else mk
theorem rdB_ok {A : Int → Bool} {s : Int → Int} {mk : Int} {B : Int → Int} (hs : VS s) (hB : BOK B) : BOK (rdB A s mk B) := by
  obtain ⟨h0, h1, h2, h3, h4, h5, h6, h7, h8⟩ := hs
  unfold rdB
  by_cases q0 : s 0 ≤ 2
  · rw [if_pos q0]
    exact BOK_atI hB (fun z => by have := h1 (by omega); omega) (fun z y => by have := h2 (by omega); omega) 144
  · rw [if_neg q0]
    by_cases q1 : s 0 = 3
    · rw [if_pos q1]; exact BOK_coatS (by have := h1 (by omega); omega) _ hB
    · rw [if_neg q1]
      by_cases q2 : s 0 = 4
      · rw [if_pos q2]; exact BOK_etchS _ hB
      · rw [if_neg q2]
        by_cases q3 : s 0 = 5
        · have a := h1 (by omega)
          have b := h2 (by omega)
          have c := h4 (by omega)
          rw [if_pos q3, turn_eq hB a (by omega) c.1]; exact BOK_turnR hB (by omega)
        · rw [if_neg q3]
          by_cases q4 : s 0 = 6
          · rw [if_pos q4]; exact BOK_fillS hB (by have := h1 (by omega); omega)
          · rw [if_neg q4]
            by_cases q5 : s 0 = 7
            · rw [if_pos q5]; exact BOK_flatS hB
            · rw [if_neg q5]
              split
              · exact BOK_dropS hB
              · exact hB
/-- the runner's state: next, depth, mask, done, byte, board, starts, ends, rounds -/
abbrev QS : Type := Int × Int × Int × Int × Int × (Int → Int) × (Int → Int) × (Int → Int) × (Int → Int)
noncomputable def taS (A : Int → Bool) (s : Int → Int) (nx dp mk dn sb : Int) (B bs be rl : Int → Int) : Int × QS :=
  if 300 ≤ dn then (3, nx, dp, mk, dn, s 1, B, bs, be, rl) else
  (rdF s B, if s 0 = 13 ∧ s 5 = 0 then s 7 else nx + 1, if s 0 = 13 ∧ ¬ s 5 = 0 ∧ dp < 4 then dp + 1 else dp, rdK s mk, dn + 1, s 1, rdB A s mk B,
    if s 0 = 13 ∧ ¬ s 5 = 0 ∧ dp < 4 then upI bs dp (nx + 1) else bs, if s 0 = 13 ∧ ¬ s 5 = 0 ∧ dp < 4 then upI be dp (s 7) else be, if s 0 = 13 ∧ ¬ s 5 = 0 ∧ dp < 4 then upI rl dp (s 5) else rl)
def erS (nx dp mk dn sb : Int) (B bs be rl : Int → Int) : Int × QS := (0, if 0 < rl (dp - 1) - 1 then bs (dp - 1) else nx, if 0 < rl (dp - 1) - 1 then dp else dp - 1, mk, dn, sb, B, bs, be, upI rl (dp - 1) (rl (dp - 1) - 1))
def qEnd (c : Int × QS) : Prop := 0 < c.2.2.1 ∧ c.2.1 = c.2.2.2.2.2.2.2.2.1 (c.2.2.1 - 1)
def qRun (n : Int) (c : Int × QS) : Prop := c.1 = 0 ∧ (qEnd c ∨ c.2.1 < n ∧ c.2.1 < 60)
noncomputable def qsS (A : Int → Bool) (G : Int → Int → Int) (c : Int × QS) : Int × QS := if 0 < c.2.2.1 ∧ c.2.1 = c.2.2.2.2.2.2.2.2.1 (c.2.2.1 - 1) then erS c.2.1 c.2.2.1 c.2.2.2.1 c.2.2.2.2.1 c.2.2.2.2.2.1 c.2.2.2.2.2.2.1 c.2.2.2.2.2.2.2.1 c.2.2.2.2.2.2.2.2.1 c.2.2.2.2.2.2.2.2.2 else taS A (G c.2.1) c.2.1 c.2.2.1 c.2.2.2.1 c.2.2.2.2.1 c.2.2.2.2.2.1 c.2.2.2.2.2.2.1 c.2.2.2.2.2.2.2.1 c.2.2.2.2.2.2.2.2.1 c.2.2.2.2.2.2.2.2.2
noncomputable def qsN (A : Int → Bool) (G : Int → Int → Int) (c : Int × QS) : Nat → Int × QS
  | 0 => c
  | i + 1 => qsS A G (qsN A G c i)
theorem qsI_e : ∃ F : (Int → Bool) → (Int → Int → Int) → Int × QS → Int → Int × QS, ∀ A G c i, F A G c i = qsN A G c i.toNat := ⟨fun A G c i => qsN A G c i.toNat, fun _ _ _ _ => rfl⟩
noncomputable def qsI : (Int → Bool) → (Int → Int → Int) → Int × QS → Int → Int × QS := Classical.choose qsI_e
theorem qsI_eq (A : Int → Bool) (G : Int → Int → Int) (c : Int × QS) (i : Int) : qsI A G c i = qsN A G c i.toNat := Classical.choose_spec qsI_e A G c i
theorem qsI_0 (A : Int → Bool) (G : Int → Int → Int) (c : Int × QS) : qsI A G c 0 = c := by rw [qsI_eq]; rfl
theorem qsI_s {A : Int → Bool} {G : Int → Int → Int} {c : Int × QS} {i : Int} (h : 0 ≤ i) : qsI A G c (i + 1) = qsS A G (qsI A G c i) := by
  rw [qsI_eq, qsI_eq]
  obtain ⟨k, rfl⟩ := Int.eq_ofNat_of_zero_le h
  rfl
/-- the rounds that are still open -/
def sumR (rl : Int → Int) (dp : Int) : Int := (if 0 < dp then rl 0 else 0) + (if 1 < dp then rl 1 else 0) + (if 2 < dp then rl 2 else 0) + (if 3 < dp then rl 3 else 0)
/-- what holds of the runner's states; i turns have been done -/
def qOK (i : Int) (c : Int × QS) : Prop := (0 ≤ c.1 ∧ c.1 ≤ 3) ∧ (0 ≤ c.2.1 ∧ c.2.1 ≤ 60) ∧ (0 ≤ c.2.2.1 ∧ c.2.2.1 ≤ 4) ∧ (-1 ≤ c.2.2.2.1 ∧ c.2.2.2.1 ≤ 7) ∧ (0 ≤ c.2.2.2.2.1 ∧ c.2.2.2.2.1 ≤ 300) ∧ BOK c.2.2.2.2.2.2.1 ∧ (∀ j : Int, 0 ≤ j → j < c.2.2.1 → (0 ≤ c.2.2.2.2.2.2.2.1 j ∧ c.2.2.2.2.2.2.2.1 j ≤ 60) ∧ (0 ≤ c.2.2.2.2.2.2.2.2.1 j ∧ c.2.2.2.2.2.2.2.2.1 j ≤ 60) ∧ 1 ≤ c.2.2.2.2.2.2.2.2.2 j ∧ c.2.2.2.2.2.2.2.2.2 j ≤ 9) ∧ (c.1 = 0 → i + 10 * (300 - c.2.2.2.2.1) + sumR c.2.2.2.2.2.2.2.2.2 c.2.2.1 ≤ 3000)
theorem sumR_up {rl : Int → Int} {dp v : Int} (h : 0 ≤ dp ∧ dp < 4) : sumR (upI rl dp v) (dp + 1) = sumR rl dp + v := by
  unfold sumR
  rcases (show dp = 0 ∨ dp = 1 ∨ dp = 2 ∨ dp = 3 by omega) with q | q | q | q <;> subst q <;> simp [upI] <;> omega
theorem sumR_at {rl : Int → Int} {dp v : Int} (h : 0 < dp ∧ dp ≤ 4) : sumR (upI rl (dp - 1) v) dp = sumR rl dp - rl (dp - 1) + v := by
  unfold sumR
  rcases (show dp = 1 ∨ dp = 2 ∨ dp = 3 ∨ dp = 4 by omega) with q | q | q | q <;> subst q <;> simp [upI] <;> omega
theorem sumR_dn {rl : Int → Int} {dp : Int} (h : 0 < dp ∧ dp ≤ 4) : sumR rl (dp - 1) = sumR rl dp - rl (dp - 1) := by
  unfold sumR
  rcases (show dp = 1 ∨ dp = 2 ∨ dp = 3 ∨ dp = 4 by omega) with q | q | q | q <;> subst q <;> simp <;> omega
theorem sumR_nn {rl : Int → Int} {dp : Int} (h : ∀ j : Int, 0 ≤ j → j < dp → 1 ≤ rl j ∧ rl j ≤ 9) : 0 ≤ sumR rl dp := by
  unfold sumR
  have h0 := h 0
  have h1 := h 1
  have h2 := h 2
  have h3 := h 3
  repeat' split
  all_goals omega
theorem rdF_rng (s : Int → Int) (B : Int → Int) : 0 ≤ rdF s B ∧ rdF s B ≤ 2 := by
  unfold rdF
  repeat' split
  all_goals omega
theorem ta_ok {A : Int → Bool} {s : Int → Int} {i nx dp mk dn sb : Int} {B bs be rl : Int → Int} (hs : VS s) (h : qOK i (0, nx, dp, mk, dn, sb, B, bs, be, rl)) (hnx : nx < 60) : qOK (i + 1) (taS A s nx dp mk dn sb B bs be rl) := by
  obtain ⟨a0, a1, a2, a3, a4, a5, a6, a7⟩ := h
  dsimp only at a0 a1 a2 a3 a4 a5 a6 a7
  have a7 := a7 rfl
  unfold taS
  by_cases q : 300 ≤ dn
  · rw [if_pos q]
    exact ⟨by dsimp only; omega, a1, a2, a3, a4, a5, a6, fun z => absurd (show (3 : Int) = 0 from z) (by decide)⟩
  · rw [if_neg q]
    have hF := rdF_rng s B
    have hk : -1 ≤ rdK s mk ∧ rdK s mk ≤ 7 := by
      unfold rdK
      have := hs.2.2.2.2.2.2.1
      repeat' split
      all_goals omega
    have hr := hs.2.2.2.2.2.2.2.2
    unfold qOK
    dsimp only
    by_cases w : s 0 = 13 ∧ ¬ s 5 = 0 ∧ dp < 4
    · have hr := hr w.1
      rw [if_neg (fun z => w.2.1 z.2), if_pos w, if_pos w, if_pos w, if_pos w]
      refine ⟨by omega, by omega, by omega, hk, by omega, rdB_ok hs a5, fun j p r => ?_, fun z => ?_⟩
      · by_cases e : j = dp
        · rw [e, upI_s, upI_s, upI_s]; omega
        · rw [upI_n e, upI_n e, upI_n e]; exact a6 j p (by omega)
      · rw [sumR_up (by omega)]; omega
    · rw [if_neg w, if_neg w, if_neg w, if_neg w]
      refine ⟨by omega, ?_, a2, hk, by omega, rdB_ok hs a5, a6, fun z => by omega⟩
      split
      · rename_i z; have := hr z.1; omega
      · omega
theorem er_ok {i nx dp mk dn sb : Int} {B bs be rl : Int → Int} (h : qOK i (0, nx, dp, mk, dn, sb, B, bs, be, rl)) (hdp : 0 < dp) : qOK (i + 1) (erS nx dp mk dn sb B bs be rl) := by
  obtain ⟨a0, a1, a2, a3, a4, a5, a6, a7⟩ := h
  dsimp only at a0 a1 a2 a3 a4 a5 a6 a7
  have a7 := a7 rfl
  have hl := a6 (dp - 1) (by omega) (by omega)
  unfold erS qOK
  dsimp only
  have hj : ∀ j : Int, 0 ≤ j → j < dp → j ≠ dp - 1 → (0 ≤ bs j ∧ bs j ≤ 60) ∧ (0 ≤ be j ∧ be j ≤ 60) ∧ 1 ≤ upI rl (dp - 1) (rl (dp - 1) - 1) j ∧ upI rl (dp - 1) (rl (dp - 1) - 1) j ≤ 9 := fun j p r e => by
    rw [upI_n e]; exact a6 j p r
  by_cases q : 0 < rl (dp - 1) - 1
  · rw [if_pos q, if_pos q]
    refine ⟨by omega, by omega, a2, a3, a4, a5, fun j p r => ?_, fun _ => ?_⟩
    · by_cases e : j = dp - 1
      · rw [e, upI_s]; omega
      · exact hj j p r e
    · rw [sumR_at (by omega)]; omega
  · rw [if_neg q, if_neg q]
    refine ⟨by omega, a1, by omega, a3, a4, a5, fun j p r => hj j p (by omega) (by omega), fun _ => ?_⟩
    rw [sumR_dn (by omega), sumR_at (by omega), upI_s]; omega
theorem ta_okc {A : Int → Bool} {s : Int → Int} {i : Int} {c : Int × QS} (hs : VS s) (h : qOK i c) (hz : c.1 = 0) (hnx : c.2.1 < 60) : qOK (i + 1) (taS A s c.2.1 c.2.2.1 c.2.2.2.1 c.2.2.2.2.1 c.2.2.2.2.2.1 c.2.2.2.2.2.2.1 c.2.2.2.2.2.2.2.1 c.2.2.2.2.2.2.2.2.1 c.2.2.2.2.2.2.2.2.2) := by
  obtain ⟨z, nx, dp, mk, dn, sb, B, bs, be, rl⟩ := c
  dsimp only at hz hnx
  subst hz
  exact ta_ok hs h hnx
theorem er_okc {i : Int} {c : Int × QS} (h : qOK i c) (hz : c.1 = 0) (hdp : 0 < c.2.2.1) : qOK (i + 1) (erS c.2.1 c.2.2.1 c.2.2.2.1 c.2.2.2.2.1 c.2.2.2.2.2.1 c.2.2.2.2.2.2.1 c.2.2.2.2.2.2.2.1 c.2.2.2.2.2.2.2.2.1 c.2.2.2.2.2.2.2.2.2) := by
  obtain ⟨z, nx, dp, mk, dn, sb, B, bs, be, rl⟩ := c
  dsimp only at hz hdp
  subst hz
  exact er_ok h hdp
theorem qOK_le {i : Int} {c : Int × QS} (h : qOK i c) (hz : c.1 = 0) : i ≤ 3000 := by
  obtain ⟨a0, a1, a2, a3, a4, a5, a6, a7⟩ := h
  have := a7 hz
  have := sumR_nn (rl := c.2.2.2.2.2.2.2.2.2) (dp := c.2.2.1) (fun j p r => (a6 j p r).2.2)
  omega
