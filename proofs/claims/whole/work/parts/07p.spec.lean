/-! CHAINS of parts -/
theorem op_rng {Tb : Int → Int} {L c ft fa f v ft1 fa1 f1 : Int} (hft : 0 ≤ ft ∧ ft ≤ 4) (hf : 0 ≤ f ∧ f ≤ L) (h : op1 Tb L c ft fa f v ft1 fa1 f1) : (0 ≤ ft1 ∧ ft1 ≤ 4) ∧ (0 ≤ f1 ∧ f1 ≤ L) := by
  have hF := @tkF_ok Tb L f hf
  have hr := rpF_rng Tb (tkK Tb L f) f (tkE Tb L f) c
  rcases h with ⟨_, a, _, b⟩ | ⟨_, _, _, a, _, b⟩ | ⟨_, _, a, _, b⟩ <;> subst a <;> subst b <;> omega
def chN (Tb : Int → Int) (L : Int) : List Int → Int → Int → Int → Int → Int → Int → List Int → Prop
  | [], ft, fa, f, ft1, fa1, f1, vs => vs = [] ∧ ft1 = ft ∧ fa1 = fa ∧ f1 = f
  | c :: cs, ft, fa, f, ft1, fa1, f1, vs => ∃ (v ft2 fa2 f2 : Int) (vs2 : List Int), vs = v :: vs2 ∧ op1 Tb L c ft fa f v ft2 fa2 f2 ∧ chN Tb L cs ft2 fa2 f2 ft1 fa1 f1 vs2
theorem chN_bad {Tb : Int → Int} {L : Int} (cs : List Int) : ∀ (ft fa f ft1 fa1 f1 : Int) (vs : List Int), ¬ ft = 0 → chN Tb L cs ft fa f ft1 fa1 f1 vs → ft1 = ft ∧ fa1 = fa := by
  induction cs with
  | nil => intro ft fa f ft1 fa1 f1 vs _ h; exact ⟨h.2.1, h.2.2.1⟩
  | cons c cs ih =>
    rintro ft fa f ft1 fa1 f1 vs h0 ⟨v, ft2, fa2, f2, vs2, _, h1, h2⟩
    rcases h1 with ⟨_, a, b, _⟩ | ⟨z, _⟩ | ⟨z, _⟩
    · subst a; subst b; exact ih _ _ _ _ _ _ _ h0 h2
    · exact absurd z h0
    · exact absurd z h0
/-- the field that a part goes to -/
def fldC (c : Int) : Int := if c = 84 then 4 else if c = 114 then 6 else if c = 115 then 2 else if c = 116 then 3 else if numC c then 5 else -1
def fvS : List Int → List Int → Int → Int → Int
  | c :: cs, v :: vs, i, d => fvS cs vs i (if fldC c = i then v else d)
  | _, _, _, d => d
theorem rpU_fv {Tb : Int → Int} {L f c : Int} {s : Int → Int} (h0 : rpF Tb (tkK Tb L f) f (tkE Tb L f) c = 0) (i : Int) (hi : 2 ≤ i ∧ i ≤ 6) : rpU Tb (tkK Tb L f) f (tkE Tb L f) c s i = if fldC c = i then opV Tb L c f else s i := by
  unfold rpU fldC opV
  by_cases h1 : c = 84
  · subst h1
    rw [if_pos rfl, if_pos rfl, if_pos rfl]
    by_cases q : (4 : Int) = i
    · rw [← q, upI_s, if_pos rfl]
    · rw [upI_n (fun z => q z.symm), if_neg q]
  · rw [if_neg h1, if_neg h1, if_neg h1]
    by_cases h2 : c = 114
    · subst h2
      rw [if_pos rfl, if_pos rfl, if_pos rfl]
      by_cases q : (6 : Int) = i
      · rw [← q, upI_s, if_pos rfl]
      · rw [upI_n (fun z => q z.symm), if_neg q]
    · rw [if_neg h2, if_neg h2, if_neg h2]
      by_cases h3 : c = 115
      · subst h3
        rw [if_pos rfl, if_pos rfl, if_pos (Or.inl rfl)]
        by_cases q : (2 : Int) = i
        · rw [← q, upI_s, if_pos rfl]
        · rw [upI_n (fun z => q z.symm), if_neg q]
      · rw [if_neg h3, if_neg h3]
        by_cases h4 : c = 116
        · subst h4
          rw [if_pos rfl, if_pos rfl, if_pos (Or.inr rfl)]
          by_cases q : (3 : Int) = i
          · rw [← q, upI_s, if_pos rfl]
          · rw [upI_n (fun z => q z.symm), if_neg q]
        · rw [if_neg h4, if_neg h4, if_neg (show ¬ (c = 115 ∨ c = 116) from fun z => z.elim h3 h4)]
          by_cases h5 : numC c
          · rw [rp_num h5] at h0
            have hk := (nmS_0 h0).1
            rw [if_pos ⟨h5, hk⟩, if_pos h5, if_pos h5]
            by_cases q : (5 : Int) = i
            · rw [← q, upI_s, if_pos rfl]
            · rw [upI_n (fun z => q z.symm), if_neg q]
          · rw [if_neg (fun z => h5 z.1), if_neg h5, if_neg (by omega)]
/-- the chain of a form is what the class reads of it -/
theorem ch_rf {Tb : Int → Int} {L : Int} {kk : Nat} (n : Nat) : ∀ (i fa f ft1 fa1 f1 : Int) (s : Int → Int) (vs : List Int), 0 ≤ i → i + n = slen kk → (0 ≤ f ∧ f ≤ L) → chN Tb L ((strZ.getD kk []).drop i.toNat) 0 fa f ft1 fa1 f1 vs →
    ft1 = (rfN Tb L kk n i f s).1 ∧ (ft1 = 0 → f1 = (rfN Tb L kk n i f s).2.1 ∧ ∀ j : Int, 2 ≤ j → j ≤ 6 → (rfN Tb L kk n i f s).2.2 j = fvS ((strZ.getD kk []).drop i.toNat) vs j (s j)) ∧ (¬ ft1 = 0 → fa1 = (rfN Tb L kk n i f s).2.1) := by
  induction n with
  | zero =>
    intro i fa f ft1 fa1 f1 s vs hi hn hf h
    have hl : (strZ.getD kk []).drop i.toNat = [] := List.drop_eq_nil_of_le (by have : slen kk = ((strZ.getD kk []).length : Int) := rfl; omega)
    rw [hl] at h ⊢
    obtain ⟨a, b, c, d⟩ := h
    subst a
    exact ⟨b, fun _ => ⟨d, fun j _ _ => rfl⟩, fun z => absurd b z⟩
  | succ n ih =>
    intro i fa f ft1 fa1 f1 s vs hi hn hf h
    have hlt : i.toNat < (strZ.getD kk []).length := by have : slen kk = ((strZ.getD kk []).length : Int) := rfl; omega
    have hl : (strZ.getD kk []).drop i.toNat = sch kk i :: (strZ.getD kk []).drop (i + 1).toNat := by
      rw [show (i + 1).toNat = i.toNat + 1 by omega, List.drop_eq_getElem_cons hlt]
      unfold sch
      rw [getD_lt hlt]
    rw [hl] at h ⊢
    obtain ⟨v, ft2, fa2, f2, vs2, e0, h1, h2⟩ := h
    subst e0
    have hF := @tkF_ok Tb L f hf
    unfold rfN
    rcases h1 with ⟨z, _⟩ | ⟨_, a, b, c, d, e⟩ | ⟨_, a, b, c, d⟩
    · exact absurd rfl z
    · subst c; subst e
      rw [if_pos a]
      have hI := ih (i + 1) fa2 (tkF Tb L (tkE Tb L f)) ft1 fa1 f1 (rpU Tb (tkK Tb L f) f (tkE Tb L f) (sch kk i) s) vs2 (by omega) (by omega) (by omega) h2
      refine ⟨hI.1, fun z => ⟨(hI.2.1 z).1, fun j x y => ?_⟩, hI.2.2⟩
      rw [(hI.2.1 z).2 j x y, rpU_fv a j ⟨x, y⟩, b]
      rfl
    · subst b
      rw [if_neg a]
      have hB := chN_bad _ _ _ _ _ _ _ _ a h2
      exact ⟨hB.1, fun z => absurd (hB.1.symm.trans z) a, fun _ => hB.2.trans c⟩
/-! what a kind's parts are -/
def csK (w : Int) : List Int := if w = 0 ∨ w = 3 then [115, 110] else if w = 1 ∨ w = 4 then [84, 110] else if w = 2 then [115, 116, 110, 84] else if w = 5 then [115, 116, 110] else if w = 6 then [115, 104] else if w = 7 then [104] else if w = 9 then [107] else if w = 11 then [115, 114, 119] else if w = 13 then [112] else []
def vsK (w o u t s : Int) : List Int := if w = 0 ∨ w = 3 then [o, t] else if w = 1 ∨ w = 4 then [s, t] else if w = 2 then [o, u, t, s] else if w = 5 then [o, u, t] else if w = 6 then [o, t] else if w = 7 then [t] else if w = 9 then [t] else if w = 11 then [o, u, t] else if w = 13 then [t] else []
def trR (Tb : Int → Int) (L w ft fa f o u t s o0 u0 t0 s0 ft1 fa1 f1 : Int) : Prop := chN Tb L (csK w) ft fa f ft1 fa1 f1 (vsK w o u t s)
theorem chN_app {Tb : Int → Int} {L c : Int} (cs : List Int) : ∀ (ft fa f ft1 fa1 f1 ft2 fa2 f2 v : Int) (vs : List Int), chN Tb L cs ft fa f ft1 fa1 f1 vs → op1 Tb L c ft1 fa1 f1 v ft2 fa2 f2 → chN Tb L (cs ++ [c]) ft fa f ft2 fa2 f2 (vs ++ [v]) := by
  induction cs with
  | nil =>
    rintro ft fa f ft1 fa1 f1 ft2 fa2 f2 v vs ⟨a, b, d, e⟩ h
    subst a; subst b; subst d; subst e
    exact ⟨v, ft2, fa2, f2, [], rfl, h, rfl, rfl, rfl, rfl⟩
  | cons c0 cs ih =>
    rintro ft fa f ft1 fa1 f1 ft2 fa2 f2 v vs ⟨v0, x, y, z, vs2, a, b, d⟩ h
    subst a
    exact ⟨v0, x, y, z, vs2 ++ [v], rfl, b, ih _ _ _ _ _ _ _ _ _ _ _ d h⟩
/-- the last sign of a form -/
def lsC (w : Int) : Int := if w = 13 then 123 else 59
theorem form_cs {w : Int} (hw : 0 ≤ w ∧ w ≤ 13) : (strZ.getD (fmK w) []) = csK w ++ [lsC w] := by
  rcases (show w = 0 ∨ w = 1 ∨ w = 2 ∨ w = 3 ∨ w = 4 ∨ w = 5 ∨ w = 6 ∨ w = 7 ∨ w = 8 ∨ w = 9 ∨ w = 10 ∨ w = 11 ∨ w = 12 ∨ w = 13 by omega) with e | e | e | e | e | e | e | e | e | e | e | e | e | e <;> subst e <;> rfl
/-- a step's fields and the reference's entries -/
def FLD (g : Int → Int) (o u t s : Int) : Prop := (g 0 = 0 ∨ g 0 = 3 → o = g 2 ∧ t = g 5) ∧ (g 0 = 1 ∨ g 0 = 4 → s = g 4 ∧ t = g 5) ∧ (g 0 = 2 → o = g 2 ∧ u = g 3 ∧ t = g 5 ∧ s = g 4) ∧ (g 0 = 5 → o = g 2 ∧ u = g 3 ∧ t = g 5) ∧ (g 0 = 6 → o = g 2 ∧ t = g 5) ∧ (g 0 = 7 → t = g 5) ∧ (g 0 = 9 → t = g 5) ∧ (g 0 = 11 → o = g 2 ∧ u = g 6 ∧ t = g 5) ∧ (g 0 = 13 → t = g 5)
theorem fld_of {w o u t s x : Int} {g d : Int → Int} (hw : 0 ≤ w ∧ w ≤ 13) (h0 : g 0 = w) (h : ∀ j : Int, 2 ≤ j → j ≤ 6 → g j = fvS (csK w ++ [lsC w]) (vsK w o u t s ++ [x]) j (d j)) : FLD g o u t s := by
  have h2 := h 2 (by omega) (by omega)
  have h3 := h 3 (by omega) (by omega)
  have h4 := h 4 (by omega) (by omega)
  have h5 := h 5 (by omega) (by omega)
  have h6 := h 6 (by omega) (by omega)
  unfold FLD
  rw [h0]
  rcases (show w = 0 ∨ w = 1 ∨ w = 2 ∨ w = 3 ∨ w = 4 ∨ w = 5 ∨ w = 6 ∨ w = 7 ∨ w = 8 ∨ w = 9 ∨ w = 10 ∨ w = 11 ∨ w = 12 ∨ w = 13 by omega) with e | e | e | e | e | e | e | e | e | e | e | e | e | e <;> subst e
  · have b2 : g 2 = o := h2
    have b5 : g 5 = t := h5
    omega
  · have b4 : g 4 = s := h4
    have b5 : g 5 = t := h5
    omega
  · have b2 : g 2 = o := h2
    have b3 : g 3 = u := h3
    have b4 : g 4 = s := h4
    have b5 : g 5 = t := h5
    omega
  · have b2 : g 2 = o := h2
    have b5 : g 5 = t := h5
    omega
  · have b4 : g 4 = s := h4
    have b5 : g 5 = t := h5
    omega
  · have b2 : g 2 = o := h2
    have b3 : g 3 = u := h3
    have b5 : g 5 = t := h5
    omega
  · have b2 : g 2 = o := h2
    have b5 : g 5 = t := h5
    omega
  · have b5 : g 5 = t := h5
    omega
  · omega
  · have b5 : g 5 = t := h5
    omega
  · omega
  · have b2 : g 2 = o := h2
    have b6 : g 6 = u := h6
    have b5 : g 5 = t := h5
    omega
  · omega
  · have b5 : g 5 = t := h5
    omega
theorem upI_upI {α : Type} (f : Int → α) (i : Int) (a b : α) : upI (upI f i a) i b = upI f i b := by
  funext j
  by_cases e : j = i
  · rw [e, upI_s, upI_s]
  · rw [upI_n e, upI_n e, upI_n e]
