/-! a run, on the reference's side -/
def mvF (F B : Int → Int) (y : Int) : Int → Int := fun c => if 0 ≤ c ∧ c < y then B c else F c
theorem mvF_0 (F B : Int → Int) : mvF F B 0 = F := by funext c; unfold mvF; rw [if_neg (by omega)]
theorem mvF_s {F B : Int → Int} {y : Int} (h : 0 ≤ y) : upI (mvF F B y) y (B y) = mvF F B (y + 1) := by
  funext c
  unfold mvF
  by_cases e : c = y
  · rw [e, upI_s, if_pos (by omega)]
  · rw [upI_n e]
    by_cases q : 0 ≤ c ∧ c < y
    · rw [if_pos q, if_pos (by omega)]
    · rw [if_neg q, if_neg (by omega)]
def RNR (A : Int → Bool) (Tb : Int → Int) (L : Int) (O : Int → Int) (G : Int → Int → Int) (B : Int → Int) (sb : Int) (bs be rl : Int → Int) (H : Int → Int) (kept : Int) (c1 : PS) (N1 : Int) (c2 : Int × QS) (N2 rz pl1 : Int) (B1 H1 : Int → Int) (kept1 : Int) : Prop :=
  (0 ≤ N1 ∧ psI Tb L (ps0 Tb L O G) N1 = c1 ∧ ¬ psR Tb L c1 ∧ (∀ q : Int, 0 ≤ q → q < N1 → psR Tb L (psI Tb L (ps0 Tb L O G) q))) ∧
  (¬ rnFt c1 = 0 → rz = -10 - rnFt c1 ∧ pl1 = c1.2.1 ∧ B1 = B ∧ H1 = H ∧ kept1 = kept) ∧
  (rnFt c1 = 0 → (0 ≤ N2 ∧ qsI A c1.2.2.2.2.2 ((0, 0, 0, -1, 0, sb, B, bs, be, rl) : Int × QS) N2 = c2 ∧ ¬ qRun c1.2.2.1 c2 ∧ (∀ q : Int, 0 ≤ q → q < N2 → qRun c1.2.2.1 (qsI A c1.2.2.2.2.2 ((0, 0, 0, -1, 0, sb, B, bs, be, rl) : Int × QS) q))) ∧
    (¬ c2.1 = 0 → rz = -20 - c2.1 ∧ pl1 = c2.2.2.2.2.2.1 ∧ B1 = B ∧ H1 = H ∧ kept1 = kept) ∧ (c2.1 = 0 → rz = c2.2.2.2.2.1 ∧ pl1 = -1 ∧ B1 = c2.2.2.2.2.2.2.1 ∧ H1 = keepH H B kept ∧ kept1 = if kept = 6 then 6 else kept + 1))
theorem qs_ok {A : Int → Bool} {G : Int → Int → Int} {n i : Int} {c : Int × QS} (hn : n ≤ 60) (hV : ∀ q : Int, 0 ≤ q → q < n → VS (G q)) (h : qOK i c) (hr : qRun n c) : qOK (i + 1) (qsS A G c) := by
  have hz := hr.1
  unfold qsS
  by_cases q : 0 < c.2.2.1 ∧ c.2.1 = c.2.2.2.2.2.2.2.2.1 (c.2.2.1 - 1)
  · rw [if_pos q]; exact er_okc h hz q.1
  · rw [if_neg q]
    have h2 := hr.2.resolve_left q
    exact ta_okc (hV _ h.2.1.1 h2.1) h hz (by omega)
theorem q0_ok {sb : Int} {B bs be rl : Int → Int} (hB : BOK B) : qOK 0 ((0, 0, 0, -1, 0, sb, B, bs, be, rl) : Int × QS) :=
  ⟨⟨show (0 : Int) ≤ 0 by decide, show (0 : Int) ≤ 3 by decide⟩, ⟨show (0 : Int) ≤ 0 by decide, show (0 : Int) ≤ 60 by decide⟩, ⟨show (0 : Int) ≤ 0 by decide, show (0 : Int) ≤ 4 by decide⟩, ⟨show (-1 : Int) ≤ -1 by decide, show (-1 : Int) ≤ 7 by decide⟩, ⟨show (0 : Int) ≤ 0 by decide, show (0 : Int) ≤ 300 by decide⟩, hB, fun q9 a b => absurd (show q9 < 0 from b) (by omega), fun _ => show (0 : Int) + 10 * (300 - 0) + sumR rl 0 ≤ 3000 by unfold sumR; simp⟩
theorem QR_pl {n m : Int} {G : Int → Int → Int} {ST ON TW TM SE PL OT φ β pr de : Int → Int} (h : LYE n m G ST ON TW TM SE PL OT φ β pr de) {c : Int × QS} {k dn fl mk : Int} {f RO : Int → Int} (hq : QR n m G φ β pr de c k dn fl mk f RO) (hf : ¬ fl = 0) : (0 ≤ k ∧ k < m) ∧ PL k = c.2.2.2.2.2.1 := by
  obtain ⟨e1, e2, e3, e4, e5, e6⟩ := hq
  obtain ⟨i, a, b, d⟩ := e6 hf
  have := h.2.1 i a.1 a.2
  rw [b, d]
  exact ⟨this.2.1, this.2.2.2.1⟩
theorem LYE_ST {n m : Int} {G : Int → Int → Int} {ST ON TW TM SE PL OT φ β pr de : Int → Int} (h : LYE n m G ST ON TW TM SE PL OT φ β pr de) {c : Int × QS} {k dn mk : Int} {f RO : Int → Int} (hq : QR n m G φ β pr de c k dn 0 mk f RO) (hk : k < m) (hdp : 0 ≤ c.2.2.1) : 0 ≤ ST k ∧ ST k ≤ 15 := by
  by_cases q : ST k = 15
  · omega
  · have ha := QR_at h (A := fun _ => false) hq hk q hdp
    have hi := h.2.1 _ ha.1.1 ha.1.2
    rw [← ha.2.1] at hi
    have h0 := hi.1.1
    have h1 := hi.2.2.1
    clear ha hi hq
    omega
