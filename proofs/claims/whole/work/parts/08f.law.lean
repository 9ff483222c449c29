/-! WHAT JOINS THE TWO SIDES: the runs are one, the ring of boards against the row of boards -/
def HRel (HR : Int → Int → Int) (row kept : Int) (H : Int → Int) : Prop := ∀ t c : Int, 0 ≤ t → t < kept → 0 ≤ c → c < 2880 → H (2880 * t + c) = HR ((row - kept + t) % 7) c
theorem least_one {α : Type} {P : α → Prop} {f : Int → α} {N M : Int} {a b : α} (h1 : 0 ≤ N ∧ f N = a ∧ ¬ P a ∧ (∀ q : Int, 0 ≤ q → q < N → P (f q))) (h2 : 0 ≤ M ∧ f M = b ∧ ¬ P b ∧ (∀ q : Int, 0 ≤ q → q < M → P (f q))) : a = b := by
  obtain ⟨n1, n2, n3, n4⟩ := h1
  obtain ⟨m1, m2, m3, m4⟩ := h2
  rcases Int.lt_trichotomy N M with q | q | q
  · have := m4 N n1 q
    rw [n2] at this
    exact absurd this n3
  · rw [← n2, ← m2, q]
  · have := n4 M m1 q
    rw [m2] at this
    exact absurd this m3
theorem HRel_fail {HR : Int → Int → Int} {row kept : Int} {H B : Int → Int} (hr : 0 ≤ row ∧ row ≤ 6) (hk : 0 ≤ kept ∧ kept ≤ 6) (h : HRel HR row kept H) : HRel (upI HR row B) row kept H := fun t c a b d e => by
  rw [h t c a b d e, upI_n (show (row - kept + t) % 7 ≠ row by omega)]
theorem HRel_keep {HR : Int → Int → Int} {row kept : Int} {H B : Int → Int} (hr : 0 ≤ row ∧ row ≤ 6) (hk : 0 ≤ kept ∧ kept ≤ 6) (h : HRel HR row kept H) : HRel (upI HR row B) ((row + 1) % 7) (if kept + 1 < 6 then kept + 1 else 6) (keepH H B kept) := fun t c a b d e => by
  unfold keepH
  by_cases k6 : kept = 6
  · have e1 : (if kept + 1 < 6 then kept + 1 else 6) = 6 := by split <;> omega
    rw [e1] at b ⊢
    rw [if_pos k6]
    unfold cpF
    by_cases t5 : t = 5
    · rw [if_pos (by omega), show ((row + 1) % 7 - 6 + t) % 7 = row by omega, upI_s]
      congr 1; omega
    · rw [if_neg (by omega)]
      unfold shF
      rw [if_pos (by omega), show 2880 * t + c + 2880 = 2880 * (t + 1) + c by omega, h (t + 1) c (by omega) (by omega) d e, upI_n (show ((row + 1) % 7 - 6 + t) % 7 ≠ row by omega)]
      congr 1; omega
  · have e1 : (if kept + 1 < 6 then kept + 1 else 6) = kept + 1 := by split <;> omega
    rw [e1] at b ⊢
    rw [if_neg k6]
    unfold cpF
    by_cases tk : t = kept
    · rw [if_pos (by omega), show ((row + 1) % 7 - (kept + 1) + t) % 7 = row by omega, upI_s]
      congr 1; omega
    · rw [if_neg (by omega), h t c a (by omega) d e, upI_n (show ((row + 1) % 7 - (kept + 1) + t) % 7 ≠ row by omega)]
      congr 1; omega
theorem HRel_undo {HR : Int → Int → Int} {row kept : Int} {H : Int → Int} (hr : 0 ≤ row ∧ row ≤ 6) (hk : 0 ≤ kept ∧ kept ≤ 6) (h : HRel HR row kept H) : HRel HR (if kept = 0 then row else (row + 6) % 7) (if kept = 0 then kept else kept - 1) H := fun t c a b d e => by
  by_cases k0 : kept = 0
  · rw [if_pos k0] at b; omega
  · rw [if_neg k0] at b ⊢
    rw [if_neg k0, h t c a (by omega) d e]
    congr 1; omega
theorem undo_eq {HR : Int → Int → Int} {row kept : Int} {H B : Int → Int} (hr : 0 ≤ row ∧ row ≤ 6) (hk : 0 ≤ kept ∧ kept ≤ 6) (h : HRel HR row kept H) (c : Int) (hc : 0 ≤ c ∧ c < 2880) : undoB B H kept c = (if kept = 0 then B else HR ((row + 6) % 7)) c := by
  unfold undoB
  by_cases k0 : kept = 0
  · rw [if_pos k0, if_pos k0]
  · rw [if_neg k0, if_neg k0]
    unfold bdF
    rw [if_pos (by omega)]
    have := h (kept - 1) c (by omega) (by omega) hc.1 hc.2
    rw [this]
    congr 1; omega
theorem run_eq {A : Int → Bool} {Tb : Int → Int} {L : Int} {O : Int → Int} {G : Int → Int → Int} {B : Int → Int} {sr : Int} {bs be rl : Int → Int} {HR : Int → Int → Int} {row kept : Int} {H : Int → Int} {c1 c1' : PS} {N1 N1' : Int} {c2 c2' : Int × QS} {N2 N2' rz rz' sb1 pl1 : Int} {B1 B1' : Int → Int} {HR1 : Int → Int → Int} {row1 kept1 kept1' : Int} {H1 : Int → Int}
    (hB : BOK B) (hHB : ∀ k : Int, BOK (HR k)) (hr : 0 ≤ row ∧ row ≤ 6) (hk : 0 ≤ kept ∧ kept ≤ 6) (hH : HRel HR row kept H)
    (h : RNC A Tb L O G B sr bs be rl HR row kept c1 N1 c2 N2 rz sb1 B1 HR1 row1 kept1) (g : RNR A Tb L O G B sr bs be rl H kept c1' N1' c2' N2' rz' pl1 B1' H1 kept1') :
    rz = rz' ∧ sb1 = pl1 ∧ B1 = B1' ∧ kept1 = kept1' ∧ HRel HR1 row1 kept1 H1 ∧ BOK B1 ∧ (∀ k : Int, BOK (HR1 k)) ∧ (0 ≤ row1 ∧ row1 ≤ 6) ∧ (0 ≤ kept1 ∧ kept1 ≤ 6) := by
  obtain ⟨⟨a1, a2, a3, a4, _⟩, ha, hb⟩ := h
  obtain ⟨g1, ga, gb⟩ := g
  have e1 : c1 = c1' := least_one (P := psR Tb L) ⟨a1, a2, a3, a4⟩ g1
  subst e1
  by_cases f : rnFt c1 = 0
  · obtain ⟨⟨b1, b2, b3, b4, b5⟩, b6, b7, b8⟩ := hb f
    obtain ⟨d1, d7, d8⟩ := gb f
    have e2 : c2 = c2' := least_one (P := qRun c1.2.2.1) ⟨b1, b2, b3, b4⟩ d1
    subst e2
    subst b6
    have hHB1 : ∀ k : Int, BOK (upI HR row B k) := fun k => by
      by_cases q : k = row
      · rw [q, upI_s]; exact hB
      · rw [upI_n q]; exact hHB k
    by_cases z : c2.1 = 0
    · obtain ⟨x1, x2, x3, x4, x5⟩ := b8 z
      obtain ⟨y1, y2, y3, y4, y5⟩ := d8 z
      subst x4; subst x5; subst y4
      have e6 : (if kept + 1 < 6 then kept + 1 else 6) = (if kept = 6 then 6 else kept + 1) := by
        split <;> split <;> omega
      refine ⟨x1.trans y1.symm, x2.trans y2.symm, x3.trans y3.symm, e6.trans y5.symm, HRel_keep hr hk hH, by rw [x3]; exact b5.2.2.2.2.2.1, hHB1, by omega, by split <;> omega⟩
    · obtain ⟨x1, x2, x3, x4, x5⟩ := b7 z
      obtain ⟨y1, y2, y3, y4, y5⟩ := d7 z
      subst x4; subst x5; subst y4; subst y5
      exact ⟨x1.trans y1.symm, x2.trans y2.symm, x3.trans y3.symm, rfl, HRel_fail hr hk hH, by rw [x3]; exact hB, hHB1, hr, hk⟩
  · obtain ⟨x1, x2, x3, x4, x5, x6⟩ := ha f
    obtain ⟨y1, y2, y3, y4, y5⟩ := ga f
    subst x4; subst x5; subst x6; subst y4; subst y5
    exact ⟨x1.trans y1.symm, x2.trans y2.symm, x3.trans y3.symm, rfl, hH, by rw [x3]; exact hB, hHB, hr, hk⟩
theorem BOK_b0 : BOK (b0F 144) := fun c => by unfold b0F; split <;> omega
theorem BOK_z0 : BOK z0 := fun c => by unfold z0; omega
theorem TOK_z0 : TOK z0 := fun c => by unfold z0; omega
theorem TOK_feed {Tb : Int → Int} (h : TOK Tb) (L a b c d e : Int) : TOK (feedS Tb L a b c d e).2.1 := by
  unfold feedS
  split
  · exact h
  · exact TOK_putB (TOK_putB (TOK_putB (TOK_putB (TOK_putB h _ _) _ _) _ _) _ _) _ _
theorem feed_L {Tb : Int → Int} {L : Int} (h : 0 ≤ L ∧ L ≤ 600) (a b c d e : Int) : 0 ≤ (feedS Tb L a b c d e).2.2 ∧ (feedS Tb L a b c d e).2.2 ≤ 600 := by
  unfold feedS
  split
  · exact h
  · dsimp only; omega
theorem cut_L {L : Int} (h : 0 ≤ L ∧ L ≤ 600) (n : Int) : 0 ≤ (cutR L n).2 ∧ (cutR L n).2 ≤ 600 := by
  unfold cutR
  split <;> dsimp only <;> omega
theorem sec_pb {Pg : Int → Int} {pb : Int} (h : 0 ≤ pb ∧ pb ≤ 260) (B : Int → Int) (x w : Int) : 0 ≤ (secR Pg pb B x w).2.2 ∧ (secR Pg pb B x w).2.2 ≤ 260 := by
  unfold secR
  split <;> dsimp only <;> omega
