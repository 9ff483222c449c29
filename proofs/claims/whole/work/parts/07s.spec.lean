/-! READING, the two sides together -/
theorem kd_swT {Tb : Int → Int} {L f : Int} (hT : TOK Tb) (hf : 0 ≤ f ∧ f ≤ L) (h : tkT Tb L f = 300) : kdR (tkX Tb L f) (tkZ Tb L f) = swS Tb (tkK Tb L f) f (tkE Tb L f) + 1 := kd_sw hf (by have := @tkT_k Tb L f hT; omega)
theorem sw_no {Tb : Int → Int} {k f e : Int} (h : ¬ k = 1) : swS Tb k f e = -1 := by
  unfold swS
  refine fuI_none (fun z a b => ?_) (by omega)
  show wdS Tb k f e z.toNat = false
  unfold wdS; rw [decide_eq_false (fun z => h z.1)]; rfl
theorem sw_noT {Tb : Int → Int} {L f : Int} (hT : TOK Tb) (h : ¬ tkT Tb L f = 300) : swS Tb (tkK Tb L f) f (tkE Tb L f) = -1 := sw_no (by have := @tkT_k Tb L f hT; omega)
def TSR (Tb : Int → Int) (L f fa m n d : Int) (OP ST ON TW TM SE PL OT : Int → Int) (ft1 fa1 f1 m1 n1 d1 : Int) (OP1 ST1 ON1 TW1 TM1 SE1 PL1 OT1 : Int → Int) : Prop :=
  (swS Tb (tkK Tb L f) f (tkE Tb L f) = -1 → ft1 = 1 ∧ fa1 = f) ∧
  (¬ swS Tb (tkK Tb L f) f (tkE Tb L f) = -1 → (swS Tb (tkK Tb L f) f (tkE Tb L f) = 13 ∧ d = 4) → ft1 = 3 ∧ fa1 = f) ∧
  (¬ swS Tb (tkK Tb L f) f (tkE Tb L f) = -1 → ¬ (swS Tb (tkK Tb L f) f (tkE Tb L f) = 13 ∧ d = 4) → n = 60 → ft1 = 4 ∧ fa1 = f) ∧
  (¬ swS Tb (tkK Tb L f) f (tkE Tb L f) = -1 → ¬ (swS Tb (tkK Tb L f) f (tkE Tb L f) = 13 ∧ d = 4) → ¬ n = 60 → ∃ o u t s : Int,
    chN Tb L (csK (swS Tb (tkK Tb L f) f (tkE Tb L f)) ++ [lsC (swS Tb (tkK Tb L f) f (tkE Tb L f))]) 0 fa (tkF Tb L (tkE Tb L f)) ft1 fa1 f1 (vsK (swS Tb (tkK Tb L f) f (tkE Tb L f)) o u t s ++ [0]) ∧
    ST1 = upI ST m (swS Tb (tkK Tb L f) f (tkE Tb L f) + 1) ∧ ON1 = upI ON m o ∧ TW1 = upI TW m u ∧ TM1 = upI TM m t ∧ SE1 = upI SE m s ∧ PL1 = upI PL m f ∧ OT1 = upI OT m 0 ∧ m1 = m + 1 ∧ n1 = n + 1 ∧
    d1 = (if swS Tb (tkK Tb L f) f (tkE Tb L f) = 13 then d + 1 else d) ∧ OP1 = (if swS Tb (tkK Tb L f) f (tkE Tb L f) = 13 then upI OP d m else OP))
def RDL (Tb : Int → Int) (L : Int) (c : PS) (ft fa f m n d : Int) (OP ST ON TW TM SE PL OT : Int → Int) : Prop :=
  psOK L c ∧ pvOK c ∧ ((c.1 = ft ∧ (¬ ft = 0 → fa = c.2.1) ∧ (ft = 0 → f = c.2.1 ∧ n = c.2.2.1 ∧ d = c.2.2.2.1 ∧ ∃ φ β pr de : Int → Int, LAY n m d c.2.2.2.2.1 c.2.2.2.2.2 OP ST ON TW TM SE PL OT φ β pr de)) ∨ (¬ psR Tb L c ∧ ft = rnFt c ∧ ¬ ft = 0 ∧ fa = c.2.1))
theorem RDL_rng {Tb : Int → Int} {L : Int} {c : PS} {fa f m n d : Int} {OP ST ON TW TM SE PL OT : Int → Int} (h : RDL Tb L c 0 fa f m n d OP ST ON TW TM SE PL OT) : c.1 = 0 ∧ f = c.2.1 ∧ n = c.2.2.1 ∧ d = c.2.2.2.1 ∧ (0 ≤ f ∧ f ≤ L) ∧ (0 ≤ n ∧ n ≤ 60) ∧ (0 ≤ d ∧ d ≤ 4) ∧ (0 ≤ m ∧ m ≤ 120) ∧ (0 < d → 0 ≤ OP (d - 1) ∧ OP (d - 1) < m) := by
  obtain ⟨h1, h2, h3 | h3⟩ := h
  · obtain ⟨a, _, b⟩ := h3
    obtain ⟨b1, b2, b3, φ, β, pr, de, hL⟩ := b rfl
    have p2 := h1.2.1
    have p3 := h1.2.2.1
    have p4 := h1.2.2.2.1
    have l1 := hL.1
    refine ⟨a, b1, b2, b3, by omega, by omega, by omega, by omega, fun q => ?_⟩
    have l4 := hL.2.2.2.1 (d - 1) (by omega) (by omega)
    have l2 := (hL.2.1 _ l4.2.1.1 l4.2.1.2).1
    rw [l4.1]; exact l2
  · exact absurd rfl h3.2.2.1
theorem RD_take {Tb : Int → Int} {L : Int} {c : PS} {fa f m n d : Int} {OP ST ON TW TM SE PL OT : Int → Int} {ft1 fa1 f1 m1 n1 d1 : Int} {OP1 ST1 ON1 TW1 TM1 SE1 PL1 OT1 : Int → Int} (h : RDL Tb L c 0 fa f m n d OP ST ON TW TM SE PL OT) (hnb : ¬ (0 < d ∧ tkK Tb L f = 3 ∧ Tb f = 125)) (hrun : ¬ tkK Tb L f = 0 ∨ 0 < d) (ht : TSR Tb L f fa m n d OP ST ON TW TM SE PL OT ft1 fa1 f1 m1 n1 d1 OP1 ST1 ON1 TW1 TM1 SE1 PL1 OT1) :
    RDL Tb L (if tkK Tb L f = 0 then c else psS Tb L c) ft1 fa1 f1 m1 n1 d1 OP1 ST1 ON1 TW1 TM1 SE1 PL1 OT1 ∧ (ft1 = 0 → f < f1) := by
  have hR := RDL_rng h
  obtain ⟨c0, r1, r2, r3, r4, r5, r6, r7, _⟩ := hR
  obtain ⟨h1, h2, h3⟩ := h
  have h3 := h3.resolve_right (fun z => absurd rfl z.2.2.1)
  obtain ⟨_, _, b⟩ := h3
  obtain ⟨_, _, _, φ, β, pr, de, hL⟩ := b rfl
  by_cases q : tkK Tb L f = 0
  · rw [if_pos q]
    have hw := sw_no (Tb := Tb) (k := tkK Tb L f) (f := f) (e := tkE Tb L f) (by omega)
    have := ht.1 hw
    refine ⟨⟨h1, h2, Or.inr ⟨fun z => z.2 (by rw [← r1]; exact q), ?_, by omega, by omega⟩⟩, fun z => by omega⟩
    rw [this.1]; unfold rnFt; rw [if_pos ⟨c0, by omega⟩]
  · rw [if_neg q]
    have hps : psR Tb L c := ⟨c0, by rw [← r1]; exact q⟩
    have hok := ps_ok h1 hps
    have hpv := pv_ps h1 hps h2
    have hE : psS Tb L c = rsS Tb L f n d c.2.2.2.2.1 c.2.2.2.2.2 := by
      unfold psS; rw [← r1, ← r2, ← r3, if_neg hnb]
    rw [hE] at hok hpv ⊢
    rw [← r1] at hok
    have hsw := swS_rng Tb (tkK Tb L f) f (tkE Tb L f)
    have hF := @tkF_ok Tb L f r4
    refine ⟨⟨hok.1, hpv, Or.inl ?_⟩, fun z => ?_⟩
    · by_cases w1 : swS Tb (tkK Tb L f) f (tkE Tb L f) = -1
      · have a := ht.1 w1
        unfold rsS; rw [if_pos w1]
        exact ⟨a.1.symm, fun _ => a.2, fun z => by omega⟩
      · by_cases w2 : swS Tb (tkK Tb L f) f (tkE Tb L f) = 13 ∧ d = 4
        · have a := ht.2.1 w1 w2
          unfold rsS; rw [if_neg w1, if_pos (by omega)]
          exact ⟨a.1.symm, fun _ => a.2, fun z => by omega⟩
        · by_cases w3 : n = 60
          · have a := ht.2.2.1 w1 w2 w3
            unfold rsS; rw [if_neg w1, if_neg (by omega), if_pos (by omega)]
            exact ⟨a.1.symm, fun _ => a.2, fun z => by omega⟩
          · obtain ⟨o, u, t, s, hch, e1, e2, e3, e4, e5, e6, e7, e8, e9, e10, e11⟩ := ht.2.2.2 w1 w2 w3
            unfold rsS; rw [if_neg w1, if_neg (by omega), if_neg (by omega)]
            dsimp only
            generalize hW : swS Tb (tkK Tb L f) f (tkE Tb L f) = w at *
            rw [← form_cs (by omega)] at hch
            have hsl := slen_rng (fmK_lt w).2
            have hC := ch_rf (Tb := Tb) (L := L) (kk := fmK w) (slen (fmK w) - 0).toNat 0 fa (tkF Tb L (tkE Tb L f)) ft1 fa1 f1 (upI (upI (c.2.2.2.2.2 n) 0 w) 1 f) _ (by omega) (by omega) (by omega) hch
            have hrf : rfN Tb L (fmK w) (slen (fmK w) - 0).toNat 0 (tkF Tb L (tkE Tb L f)) (upI (upI (c.2.2.2.2.2 n) 0 w) 1 f) = rfS Tb L (fmK w) 0 (tkF Tb L (tkE Tb L f)) (upI (upI (c.2.2.2.2.2 n) 0 w) 1 f) := rfl
            rw [hrf] at hC
            refine ⟨hC.1.symm, hC.2.2, fun z => ⟨(hC.2.1 z).1, e9, e10, upI φ n m, β, upI pr n (curO d c.2.2.2.2.1), upI de n d, ?_⟩⟩
            have hfo := form_ok (Tb := Tb) (L := L) (f := tkF Tb L (tkE Tb L f)) (w := w) (s := upI (upI (c.2.2.2.2.2 n) 0 w) 1 f) (by omega) (by omega) rfl (hC.1.symm.trans z)
            have hfl := fld_of (w := w) (o := o) (u := u) (t := t) (s := s) (x := 0) (g := (rfS Tb L (fmK w) 0 (tkF Tb L (tkE Tb L f)) (upI (upI (c.2.2.2.2.2 n) 0 w) 1 f)).2.2) (d := upI (upI (c.2.2.2.2.2 n) 0 w) 1 f) (by omega) hfo.2.1 (fun j a b => by
              have := (hC.2.1 z).2 j a b
              rw [show (0 : Int).toNat = 0 from rfl, List.drop_zero, form_cs (by omega)] at this
              exact this)
            rw [e1, e2, e3, e4, e5, e6, e7, e8, e9, e10, e11]
            exact LAY_add hL hfo.2.1 hfo.2.2.1 hfl (fun y => by omega)
    · -- progress
      by_cases w1 : swS Tb (tkK Tb L f) f (tkE Tb L f) = -1
      · have a := ht.1 w1; omega
      · by_cases w2 : swS Tb (tkK Tb L f) f (tkE Tb L f) = 13 ∧ d = 4
        · have a := ht.2.1 w1 w2; omega
        · by_cases w3 : n = 60
          · have a := ht.2.2.1 w1 w2 w3; omega
          · obtain ⟨o, u, t, s, hch, _⟩ := ht.2.2.2 w1 w2 w3
            generalize hW : swS Tb (tkK Tb L f) f (tkE Tb L f) = w at *
            rw [← form_cs (by omega)] at hch
            have hsl := slen_rng (fmK_lt w).2
            have hC := ch_rf (Tb := Tb) (L := L) (kk := fmK w) (slen (fmK w) - 0).toNat 0 fa (tkF Tb L (tkE Tb L f)) ft1 fa1 f1 (upI (upI (c.2.2.2.2.2 n) 0 w) 1 f) _ (by omega) (by omega) (by omega) hch
            have hg := rfS_rng (Tb := Tb) (L := L) (kk := fmK w) (i := 0) (f := tkF Tb L (tkE Tb L f)) (s := upI (upI (c.2.2.2.2.2 n) 0 w) 1 f) (by omega)
            have hk := (@tok_ok Tb L f r4).2.2.1 q
            have := (hC.2.1 z).1
            have hrf : rfN Tb L (fmK w) (slen (fmK w) - 0).toNat 0 (tkF Tb L (tkE Tb L f)) (upI (upI (c.2.2.2.2.2 n) 0 w) 1 f) = rfS Tb L (fmK w) 0 (tkF Tb L (tkE Tb L f)) (upI (upI (c.2.2.2.2.2 n) 0 w) 1 f) := rfl
            rw [hrf] at this
            omega
theorem RD_back {Tb : Int → Int} {L : Int} {c : PS} {fa f m n d : Int} {OP ST ON TW TM SE PL OT : Int → Int} {ft1 fa1 f1 : Int} (h : RDL Tb L c 0 fa f m n d OP ST ON TW TM SE PL OT) (hd : 0 < d) (hk : tkK Tb L f = 3 ∧ Tb f = 125) (hop : op1 Tb L 59 0 fa (tkF Tb L (tkE Tb L f)) 0 ft1 fa1 f1) :
    RDL Tb L (psS Tb L c) ft1 fa1 f1 (m + 1) n (d - 1) OP (upI ST m 15) (upI ON m 0) (upI TW m 0) (upI TM m 0) (upI SE m 0) (upI PL m f) (upI (upI (upI OT m 0) m (OP (d - 1))) (OP (d - 1)) m) ∧ (ft1 = 0 → f < f1) := by
  have hR := RDL_rng h
  obtain ⟨c0, r1, r2, r3, r4, r5, r6, r7, _⟩ := hR
  obtain ⟨h1, h2, h3⟩ := h
  have h3 := h3.resolve_right (fun z => absurd rfl z.2.2.1)
  obtain ⟨_, _, b⟩ := h3
  obtain ⟨_, _, _, φ, β, pr, de, hL⟩ := b rfl
  have hps : psR Tb L c := ⟨c0, by rw [← r1]; omega⟩
  have hok := ps_ok h1 hps
  have hpv := pv_ps h1 hps h2
  have hE : psS Tb L c = reS Tb L f n d c.2.2.2.2.1 c.2.2.2.2.2 := by
    unfold psS; rw [← r1, ← r2, ← r3, if_pos ⟨hd, hk.1, hk.2⟩]
  rw [hE] at hok hpv ⊢
  have hF := @tkF_ok Tb L f r4
  have hF2 := @tkF_ok Tb L (tkF Tb L (tkE Tb L f)) (by omega)
  have hkk := (@tok_ok Tb L f r4).2.2.1 (by omega)
  have hE2 := @tkE_rng Tb L (tkF Tb L (tkE Tb L f)) (by omega)
  have hrp : rpF Tb (tkK Tb L (tkF Tb L (tkE Tb L f))) (tkF Tb L (tkE Tb L f)) (tkE Tb L (tkF Tb L (tkE Tb L f))) 59 = if tkK Tb L (tkF Tb L (tkE Tb L f)) = 3 ∧ Tb (tkF Tb L (tkE Tb L f)) = 59 then 0 else 1 := rfl
  refine ⟨⟨hok.1, hpv, Or.inl ?_⟩, fun z => ?_⟩
  · unfold reS
    dsimp only
    rcases hop with ⟨z, _⟩ | ⟨_, a, _, x, y, z⟩ | ⟨_, a, x, y, z⟩
    · exact absurd rfl z
    · rw [hrp] at a
      have hy : tkK Tb L (tkF Tb L (tkE Tb L f)) = 3 ∧ Tb (tkF Tb L (tkE Tb L f)) = 59 := by
        by_cases w : tkK Tb L (tkF Tb L (tkE Tb L f)) = 3 ∧ Tb (tkF Tb L (tkE Tb L f)) = 59
        · exact w
        · rw [if_neg w] at a; omega
      rw [if_pos hy, if_pos hy]
      exact ⟨x.symm, fun w => absurd x w, fun _ => ⟨z, r2.symm ▸ rfl, rfl, φ, _, pr, de, by rw [upI_upI]; exact LAY_close hL hd⟩⟩
    · rw [hrp] at a x
      have hy : ¬ (tkK Tb L (tkF Tb L (tkE Tb L f)) = 3 ∧ Tb (tkF Tb L (tkE Tb L f)) = 59) := fun w => by rw [if_pos w] at a; exact a rfl
      rw [if_neg hy] at x ⊢
      rw [if_neg hy]
      exact ⟨x.symm, fun _ => y, fun w => by omega⟩
  · rcases hop with ⟨w, _⟩ | ⟨_, a, _, x, y, w⟩ | ⟨_, a, x, y, w⟩
    · exact absurd rfl w
    · omega
    · omega
def RDF (Tb : Int → Int) (L : Int) (c : PS) (ft fa m : Int) (OP ST ON TW TM SE PL OT : Int → Int) : Prop := (¬ psR Tb L c ∧ psOK L c ∧ pvOK c) ∧ ft = rnFt c ∧ (¬ ft = 0 → fa = c.2.1) ∧ (ft = 0 → ∃ φ β pr de : Int → Int, LAY c.2.2.1 m c.2.2.2.1 c.2.2.2.2.1 c.2.2.2.2.2 OP ST ON TW TM SE PL OT φ β pr de)
theorem RD_end {Tb : Int → Int} {L : Int} {c : PS} {ft fa f m n d : Int} {OP ST ON TW TM SE PL OT : Int → Int} (h : RDL Tb L c ft fa f m n d OP ST ON TW TM SE PL OT) (he : ¬ ft = 0 ∨ (tkK Tb L f = 0 ∧ d ≤ 0)) : RDF Tb L c ft fa m OP ST ON TW TM SE PL OT := by
  obtain ⟨h1, h2, h3 | h3⟩ := h
  · obtain ⟨a, b, e⟩ := h3
    by_cases q : ft = 0
    · obtain ⟨e1, e2, e3, e4⟩ := e q
      have he := he.resolve_left (fun z => z q)
      refine ⟨⟨fun z => z.2 (by rw [← e1]; exact he.1), h1, h2⟩, ?_, fun z => absurd q z, fun _ => ?_⟩
      · unfold rnFt; rw [if_neg (by omega)]; exact a.symm
      · rw [← e2, ← e3]; exact e4
    · refine ⟨⟨fun z => q (a.symm.trans z.1), h1, h2⟩, ?_, b, fun z => absurd z q⟩
      unfold rnFt; rw [if_neg (by omega)]; exact a.symm
  · exact ⟨⟨h3.1, h1, h2⟩, h3.2.1, fun _ => h3.2.2.2, fun z => absurd z h3.2.2.1⟩
theorem RD_0 {Tb : Int → Int} {L : Int} (hL : 0 ≤ L) (O : Int → Int) (G : Int → Int → Int) (fa : Int) (OP ST ON TW TM SE PL OT : Int → Int) : RDL Tb L (ps0 Tb L O G) 0 fa (tkF Tb L 0) 0 0 0 OP ST ON TW TM SE PL OT := by
  have h := ps0_ok (Tb := Tb) hL O G
  exact ⟨h.1, h.2, Or.inl ⟨rfl, fun z => absurd rfl z, fun _ => ⟨rfl, rfl, rfl, fun i => i, fun i => i, fun i => i, fun i => i, LAY_0 _ _ _ _ _ _ _ _ _ _ _ _ _ _⟩⟩⟩
