/-! PROGRAMS: what is read of a part, of a form, of a step; the reading as a machine -/
def relS (Tb : Int → Int) (k f : Int) : Int := if k = 3 ∧ Tb f = 61 then 61 else if k = 3 ∧ Tb f = 60 then 60 else if k = 3 ∧ Tb f = 62 then 62 else -1
def nmS (k v lo hi : Int) : Int := if k = 2 then (if lo ≤ v ∧ v ≤ hi then 0 else 2) else 1
def fuS (v : Int) : Int := if v = -1 then 1 else 0
def rpF (Tb : Int → Int) (k f e c : Int) : Int := if c = 84 then fuS (stsS Tb k f e) else if c = 104 then nmS k (vluS Tb k f e) 0 20 else if c = 107 then nmS k (vluS Tb k f e) 0 7 else if c = 110 then nmS k (vluS Tb k f e) 1 20 else if c = 112 then nmS k (vluS Tb k f e) 0 9 else if c = 114 then fuS (relS Tb k f) else if c = 115 then fuS (stfS Tb k f e) else if c = 116 then fuS (stfS Tb k f e) else if c = 119 then nmS k (vluS Tb k f e) 0 99 else if k = 3 ∧ Tb f = c then 0 else 1
def rpU (Tb : Int → Int) (k f e c : Int) (s : Int → Int) : Int → Int := if c = 84 then upI s 4 (stsS Tb k f e) else if c = 114 then upI s 6 (relS Tb k f) else if c = 115 then upI s 2 (stfS Tb k f e) else if c = 116 then upI s 3 (stfS Tb k f e) else if (c = 104 ∨ c = 107 ∨ c = 110 ∨ c = 112 ∨ c = 119) ∧ k = 2 then upI s 5 (vluS Tb k f e) else s
theorem nmS_rng (k v lo hi : Int) : 0 ≤ nmS k v lo hi ∧ nmS k v lo hi ≤ 2 := by unfold nmS; split <;> (try split) <;> omega
theorem fuS_rng (v : Int) : 0 ≤ fuS v ∧ fuS v ≤ 1 := by unfold fuS; split <;> omega
theorem rpF_rng (Tb : Int → Int) (k f e c : Int) : 0 ≤ rpF Tb k f e c ∧ rpF Tb k f e c ≤ 4 := by
  have h1 := fuS_rng (stsS Tb k f e)
  have h2 := fuS_rng (relS Tb k f)
  have h3 := fuS_rng (stfS Tb k f e)
  have h4 := nmS_rng k (vluS Tb k f e) 0 20
  have h5 := nmS_rng k (vluS Tb k f e) 0 7
  have h6 := nmS_rng k (vluS Tb k f e) 1 20
  have h7 := nmS_rng k (vluS Tb k f e) 0 9
  have h8 := nmS_rng k (vluS Tb k f e) 0 99
  unfold rpF
  repeat' split
  all_goals omega
theorem vluS_rng {Tb : Int → Int} {k f e : Int} (hf : f ≤ e) (hd : k = 2 → ∀ y : Int, f ≤ y → y < e → 48 ≤ Tb y ∧ Tb y ≤ 57) : -1 ≤ vluS Tb k f e ∧ vluS Tb k f e ≤ 99 := by
  unfold vluS
  split
  · rename_i q
    have := nvI_rng hf (hd q.1)
    omega
  · omega
theorem stsS_rng {Tb : Int → Int} {k f e : Int} (h : f ≤ e) : stsS Tb k f e = -1 ∨ 0 ≤ stsS Tb k f e ∧ stsS Tb k f e ≤ 255 := by
  unfold stsS
  split
  · exact lsI_rng Tb h
  · exact Or.inl rfl
theorem relS_rng (Tb : Int → Int) (k f : Int) : -1 ≤ relS Tb k f ∧ relS Tb k f ≤ 62 := by unfold relS; repeat' split
                                                                                          all_goals omega
/-- what holds of the token at f -/
theorem tok_ok {Tb : Int → Int} {L f : Int} (h : 0 ≤ f ∧ f ≤ L) : (0 ≤ tkK Tb L f ∧ tkK Tb L f ≤ 3) ∧ (0 ≤ f ∧ f ≤ tkE Tb L f ∧ tkE Tb L f ≤ L) ∧ (¬ tkK Tb L f = 0 → f < tkE Tb L f) ∧ (tkK Tb L f = 2 → ∀ y : Int, f ≤ y → y < tkE Tb L f → 48 ≤ Tb y ∧ Tb y ≤ 57) ∧ (tkK Tb L f = 1 → ∀ y : Int, f ≤ y → y < tkE Tb L f → 97 ≤ Tb y ∧ Tb y ≤ 122) := by
  have h1 := tkK_rng Tb L f
  have h2 := @tkE_rng Tb L f h.2
  have h3 : ¬ tkK Tb L f = 0 → f < L := fun q => by
    by_cases w : f < L
    · exact w
    · exact absurd (tk_0 w).1 q
  have h4 : ∀ kd : Int, kd ≠ 3 → kd ≠ 0 → tkK Tb L f = kd → ∀ y : Int, f ≤ y → y < tkE Tb L f → kdT (Tb y) = kd := by
    intro kd k3 k0 hk y a b
    have hl := h3 (by omega)
    have hkd : kdT (Tb f) = kd := by rw [← hk]; unfold tkK; rw [if_pos hl]
    by_cases w : y = f
    · rw [w]; exact hkd
    · unfold tkE at b
      rw [if_pos hl, if_neg (by omega)] at b
      have := (scI_spec (P := smP Tb f) (a := f + 1) (N := L) (by omega)).2.2.1 y (by omega) b
      have h5 : kdT (Tb y) = kdT (Tb f) := of_decide_eq_true this
      rw [h5, hkd]
  exact ⟨h1, by omega, fun q => h2.2.2 (h3 q), fun q y a b => kdT_2.mp (h4 2 (by omega) (by omega) q y a b), fun q y a b => kdT_1.mp (h4 1 (by omega) (by omega) q y a b)⟩
theorem tkF_ok {Tb : Int → Int} {L f : Int} (h : 0 ≤ f ∧ f ≤ L) : 0 ≤ tkF Tb L (tkE Tb L f) ∧ tkF Tb L (tkE Tb L f) ≤ L ∧ tkE Tb L f ≤ tkF Tb L (tkE Tb L f) := by
  have h2 := @tkE_rng Tb L f h.2
  have h3 := @tkF_rng Tb L (tkE Tb L f) (by omega)
  omega
def rfN (Tb : Int → Int) (L : Int) (kk : Nat) : Nat → Int → Int → (Int → Int) → Int × Int × (Int → Int)
  | 0, _, f, s => (0, f, s)
  | n + 1, i, f, s => if rpF Tb (tkK Tb L f) f (tkE Tb L f) (sch kk i) = 0 then rfN Tb L kk n (i + 1) (tkF Tb L (tkE Tb L f)) (rpU Tb (tkK Tb L f) f (tkE Tb L f) (sch kk i) s) else (rpF Tb (tkK Tb L f) f (tkE Tb L f) (sch kk i), f, rpU Tb (tkK Tb L f) f (tkE Tb L f) (sch kk i) s)
def rfS (Tb : Int → Int) (L : Int) (kk : Nat) (i f : Int) (s : Int → Int) : Int × Int × (Int → Int) := rfN Tb L kk (slen kk - i).toNat i f s
theorem rfS_e {Tb : Int → Int} {L : Int} {kk : Nat} {i f : Int} {s : Int → Int} (h : slen kk ≤ i) : rfS Tb L kk i f s = (0, f, s) := by unfold rfS; rw [show (slen kk - i).toNat = 0 by omega]; rfl
theorem rfS_t {Tb : Int → Int} {L : Int} {kk : Nat} {i f : Int} {s : Int → Int} (h : i < slen kk) (h0 : rpF Tb (tkK Tb L f) f (tkE Tb L f) (sch kk i) = 0) : rfS Tb L kk i f s = rfS Tb L kk (i + 1) (tkF Tb L (tkE Tb L f)) (rpU Tb (tkK Tb L f) f (tkE Tb L f) (sch kk i) s) := by unfold rfS; rw [toNat_step h, rfN, if_pos h0]
theorem rfS_f {Tb : Int → Int} {L : Int} {kk : Nat} {i f : Int} {s : Int → Int} (h : i < slen kk) (h0 : ¬ rpF Tb (tkK Tb L f) f (tkE Tb L f) (sch kk i) = 0) : rfS Tb L kk i f s = (rpF Tb (tkK Tb L f) f (tkE Tb L f) (sch kk i), f, rpU Tb (tkK Tb L f) f (tkE Tb L f) (sch kk i) s) := by unfold rfS; rw [toNat_step h, rfN, if_neg h0]
theorem rfS_rng {Tb : Int → Int} {L : Int} {kk : Nat} {i f : Int} {s : Int → Int} (hf : 0 ≤ f ∧ f ≤ L) : (0 ≤ (rfS Tb L kk i f s).1 ∧ (rfS Tb L kk i f s).1 ≤ 4) ∧ f ≤ (rfS Tb L kk i f s).2.1 ∧ (rfS Tb L kk i f s).2.1 ≤ L := by
  have key : ∀ (n : Nat) (i f : Int) (s : Int → Int), 0 ≤ f ∧ f ≤ L → (0 ≤ (rfN Tb L kk n i f s).1 ∧ (rfN Tb L kk n i f s).1 ≤ 4) ∧ f ≤ (rfN Tb L kk n i f s).2.1 ∧ (rfN Tb L kk n i f s).2.1 ≤ L := by
    intro n
    induction n with
    | zero => intro i f s h; exact ⟨⟨Int.le_refl _, by show (0 : Int) ≤ 4; omega⟩, Int.le_refl _, h.2⟩
    | succ n ih =>
      intro i f s h
      have h1 := rpF_rng Tb (tkK Tb L f) f (tkE Tb L f) (sch kk i)
      have h2 := @tkF_ok Tb L f h
      have h3 := @tkE_rng Tb L f h.2
      unfold rfN
      split
      · have := ih (i + 1) (tkF Tb L (tkE Tb L f)) (rpU Tb (tkK Tb L f) f (tkE Tb L f) (sch kk i) s) (by omega)
        exact ⟨this.1, by omega, this.2.2⟩
      · exact ⟨h1, Int.le_refl _, h.2⟩
  exact key _ i f s hf
/-! a step is read; a repeat ends -/
abbrev PS : Type := Int × Int × Int × Int × (Int → Int) × (Int → Int → Int)
def rsS (Tb : Int → Int) (L f n d : Int) (O : Int → Int) (G : Int → Int → Int) : PS :=
  if swS Tb (tkK Tb L f) f (tkE Tb L f) = -1 then (1, f, n, d, O, G) else if swS Tb (tkK Tb L f) f (tkE Tb L f) = 13 ∧ 4 ≤ d then (3, f, n, d, O, G) else if 60 ≤ n then (4, f, n, d, O, G) else
  ((rfS Tb L (fmK (swS Tb (tkK Tb L f) f (tkE Tb L f))) 0 (tkF Tb L (tkE Tb L f)) (upI (upI (G n) 0 (swS Tb (tkK Tb L f) f (tkE Tb L f))) 1 f)).1,
   (rfS Tb L (fmK (swS Tb (tkK Tb L f) f (tkE Tb L f))) 0 (tkF Tb L (tkE Tb L f)) (upI (upI (G n) 0 (swS Tb (tkK Tb L f) f (tkE Tb L f))) 1 f)).2.1, n + 1,
   if swS Tb (tkK Tb L f) f (tkE Tb L f) = 13 then d + 1 else d, if swS Tb (tkK Tb L f) f (tkE Tb L f) = 13 then upI O d n else O,
   upI G n (rfS Tb L (fmK (swS Tb (tkK Tb L f) f (tkE Tb L f))) 0 (tkF Tb L (tkE Tb L f)) (upI (upI (G n) 0 (swS Tb (tkK Tb L f) f (tkE Tb L f))) 1 f)).2.2)
def reS (Tb : Int → Int) (L f n d : Int) (O : Int → Int) (G : Int → Int → Int) : PS :=
  (if tkK Tb L (tkF Tb L (tkE Tb L f)) = 3 ∧ Tb (tkF Tb L (tkE Tb L f)) = 59 then 0 else 1,
   if tkK Tb L (tkF Tb L (tkE Tb L f)) = 3 ∧ Tb (tkF Tb L (tkE Tb L f)) = 59 then tkF Tb L (tkE Tb L (tkF Tb L (tkE Tb L f))) else tkF Tb L (tkE Tb L f),
   n, d - 1, O, upI G (O (d - 1)) (upI (G (O (d - 1))) 7 n))
def psS (Tb : Int → Int) (L : Int) (c : PS) : PS := if 0 < c.2.2.2.1 ∧ tkK Tb L c.2.1 = 3 ∧ Tb c.2.1 = 125 then reS Tb L c.2.1 c.2.2.1 c.2.2.2.1 c.2.2.2.2.1 c.2.2.2.2.2 else rsS Tb L c.2.1 c.2.2.1 c.2.2.2.1 c.2.2.2.2.1 c.2.2.2.2.2
def psN (Tb : Int → Int) (L : Int) (c : PS) : Nat → PS
  | 0 => c
  | i + 1 => psS Tb L (psN Tb L c i)
theorem psI_e : ∃ F : (Int → Int) → Int → PS → Int → PS, ∀ Tb L c i, F Tb L c i = psN Tb L c i.toNat := ⟨fun Tb L c i => psN Tb L c i.toNat, fun _ _ _ _ => rfl⟩
noncomputable def psI : (Int → Int) → Int → PS → Int → PS := Classical.choose psI_e
theorem psI_eq (Tb : Int → Int) (L : Int) (c : PS) (i : Int) : psI Tb L c i = psN Tb L c i.toNat := Classical.choose_spec psI_e Tb L c i
theorem psI_0 (Tb : Int → Int) (L : Int) (c : PS) : psI Tb L c 0 = c := by rw [psI_eq]; rfl
theorem psI_s {Tb : Int → Int} {L : Int} {c : PS} {i : Int} (h : 0 ≤ i) : psI Tb L c (i + 1) = psS Tb L (psI Tb L c i) := by
  rw [psI_eq, psI_eq]
  obtain ⟨k, rfl⟩ := Int.eq_ofNat_of_zero_le h
  rfl
def psR (Tb : Int → Int) (L : Int) (c : PS) : Prop := c.1 = 0 ∧ ¬ tkK Tb L c.2.1 = 0
/-- what holds of the machine's states -/
def psOK (L : Int) (c : PS) : Prop := (0 ≤ c.1 ∧ c.1 ≤ 4) ∧ (0 ≤ c.2.1 ∧ c.2.1 ≤ L) ∧ (0 ≤ c.2.2.1 ∧ c.2.2.1 ≤ 60) ∧ (0 ≤ c.2.2.2.1 ∧ c.2.2.2.1 ≤ 4) ∧ ∀ j : Int, 0 ≤ j → j < c.2.2.2.1 → 0 ≤ c.2.2.2.2.1 j ∧ c.2.2.2.2.1 j < c.2.2.1
theorem swS_rng (Tb : Int → Int) (k f e : Int) : -1 ≤ swS Tb k f e ∧ swS Tb k f e ≤ 13 := by
  have := fuI_rng (fun w => wdS Tb k f e w.toNat) (z := 0) (N := 14) (by omega)
  unfold swS; omega
theorem rs_ok {Tb : Int → Int} {L f n d : Int} {O : Int → Int} {G : Int → Int → Int} (hf : 0 ≤ f ∧ f ≤ L) (hn : 0 ≤ n ∧ n ≤ 60) (hd : 0 ≤ d ∧ d ≤ 4) (hO : ∀ j : Int, 0 ≤ j → j < d → 0 ≤ O j ∧ O j < n) : psOK L (rsS Tb L f n d O G) ∧ ((rsS Tb L f n d O G).1 = 0 → f < (rsS Tb L f n d O G).2.1) := by
  have ht := @tok_ok Tb L f hf
  have hF := @tkF_ok Tb L f hf
  unfold rsS
  by_cases h1 : swS Tb (tkK Tb L f) f (tkE Tb L f) = -1
  · rw [if_pos h1]; exact ⟨⟨⟨show (0 : Int) ≤ 1 by decide, show (1 : Int) ≤ 4 by decide⟩, hf, hn, hd, hO⟩, fun q => absurd (show (1 : Int) = 0 from q) (by decide)⟩
  · rw [if_neg h1]
    by_cases h2 : swS Tb (tkK Tb L f) f (tkE Tb L f) = 13 ∧ 4 ≤ d
    · rw [if_pos h2]; exact ⟨⟨⟨show (0 : Int) ≤ 3 by decide, show (3 : Int) ≤ 4 by decide⟩, hf, hn, hd, hO⟩, fun q => absurd (show (3 : Int) = 0 from q) (by decide)⟩
    · rw [if_neg h2]
      by_cases h3 : 60 ≤ n
      · rw [if_pos h3]; exact ⟨⟨⟨show (0 : Int) ≤ 4 by decide, show (4 : Int) ≤ 4 by decide⟩, hf, hn, hd, hO⟩, fun q => absurd (show (4 : Int) = 0 from q) (by decide)⟩
      · rw [if_neg h3]
        have hr := rfS_rng (Tb := Tb) (L := L) (kk := fmK (swS Tb (tkK Tb L f) f (tkE Tb L f))) (i := 0) (f := tkF Tb L (tkE Tb L f)) (s := upI (upI (G n) 0 (swS Tb (tkK Tb L f) f (tkE Tb L f))) 1 f) (by omega)
        have hk0 : ¬ tkK Tb L f = 0 := fun q => h1 (by
          unfold swS
          refine fuI_none (fun z _ _ => ?_) (by omega)
          show wdS Tb (tkK Tb L f) f (tkE Tb L f) z.toNat = false
          unfold wdS; rw [decide_eq_false (by omega)]; rfl)
        have h9 := ht.2.2.1 hk0
        refine ⟨⟨hr.1, ⟨?_, hr.2.2⟩, ?_, ?_, ?_⟩, fun _ => ?_⟩
        · dsimp only; omega
        · dsimp only; omega
        · dsimp only; split <;> omega
        · dsimp only
          intro j a b
          by_cases q : swS Tb (tkK Tb L f) f (tkE Tb L f) = 13
          · rw [if_pos q] at b ⊢
            by_cases w : j = d
            · rw [w, upI_s]; omega
            · rw [upI_n w]; have := hO j a (by omega); omega
          · rw [if_neg q] at b ⊢; have := hO j a b; omega
        · dsimp only; omega
theorem re_ok {Tb : Int → Int} {L f n d : Int} {O : Int → Int} {G : Int → Int → Int} (hf : 0 ≤ f ∧ f ≤ L) (hn : 0 ≤ n ∧ n ≤ 60) (hd : 0 < d ∧ d ≤ 4) (hO : ∀ j : Int, 0 ≤ j → j < d → 0 ≤ O j ∧ O j < n) (hk : ¬ tkK Tb L f = 0) : psOK L (reS Tb L f n d O G) ∧ ((reS Tb L f n d O G).1 = 0 → f < (reS Tb L f n d O G).2.1) := by
  have ht := (@tok_ok Tb L f hf).2.2.1 hk
  have hF := @tkF_ok Tb L f hf
  have hF2 := @tkF_ok Tb L (tkF Tb L (tkE Tb L f)) (by omega)
  have ht2 := @tkE_rng Tb L (tkF Tb L (tkE Tb L f)) (by omega)
  unfold reS psOK
  dsimp only
  refine ⟨⟨by split <;> omega, by split <;> omega, hn, by omega, fun j a b => hO j a (by omega)⟩, fun _ => by split <;> omega⟩
theorem ps_ok {Tb : Int → Int} {L : Int} {c : PS} (h : psOK L c) (hR : psR Tb L c) : psOK L (psS Tb L c) ∧ ((psS Tb L c).1 = 0 → c.2.1 < (psS Tb L c).2.1) := by
  obtain ⟨h1, h2, h3, h4, h5⟩ := h
  unfold psS
  by_cases q : 0 < c.2.2.2.1 ∧ tkK Tb L c.2.1 = 3 ∧ Tb c.2.1 = 125
  · rw [if_pos q]; exact re_ok h2 h3 ⟨q.1, h4.2⟩ h5 hR.2
  · rw [if_neg q]; exact rs_ok h2 h3 h4 h5
