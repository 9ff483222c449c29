/-! ROWS FOR THE LAW'S OWN METHOD -/
def XS (X : JX) (b Ls : Nat) (xs : Nat → Int32) : Prop :=
  match X with
  | (p, l, e, R', s, m, args, below, meth, c, D, A, H0, nL', Q) => va_X b Ls xs s H0 ∧ b < H0.size ∧ ¬ A b
noncomputable def sx (xs : Nat → Int32) (i : Int) : Int := (xs i.toNat).toInt
theorem sx_rng (xs : Nat → Int32) (i : Int) : -2147483648 ≤ sx xs i ∧ sx xs i ≤ 2147483647 := iI_rng _
section JLAW
variable {X : JX} {T : Nat → ClassId} {cc : ByteArray} {own : String} {Ts : List Cond} {R : Room} {nL : Nat} {cells slots pc : Nat} {lv : List (Nat × Value)} {stk : List Value} {ws : va_W}
theorem j_sld (h : CxOK X T cc own Ts R nL) {b Ls : Nat} {xs : Nat → Int32} (hxs : XS X b Ls xs) {e0 : Int} (e1 : Int) (hd : decode cc pc = .ok (.iaload, 1)) (hee : e0 = e1) (he : 0 ≤ e1 ∧ e1 < (Ls : Int)) (hL : Ls ≤ 3584) (k : J X cells slots (pc + 1) lv (.int (iI (sx xs e1)) :: stk) ws) : J X cells slots pc lv (.int (iI e0) :: .ref b :: stk) ws := by
  obtain ⟨p, l, e, R', s, m, args, below, meth, c, D, A, H0, nL', Q⟩ := X
  obtain ⟨hx, hb, hml, hnl, hR', hown, hts, hK, hN, hA, hlk, hE⟩ := h
  subst hnl; subst hR'; subst hee
  obtain ⟨h1, h2, h3⟩ := hxs
  intro H locs ls hP hD hS hl
  refine va_sld hx hb h1 h2 h3 hS (iI_in he (by omega)) hd ?_
  rw [iI_clamp (by omega), ← iI_self (xs e0.toNat)]
  exact k H locs ls hP hD hS hl
theorem j_slen (h : CxOK X T cc own Ts R nL) {b Ls : Nat} {xs : Nat → Int32} (hxs : XS X b Ls xs) (hd : decode cc pc = .ok (.arraylength, 1)) (k : J X cells slots (pc + 1) lv (.int (iI (Ls : Int)) :: stk) ws) : J X cells slots pc lv (.ref b :: stk) ws := by
  obtain ⟨p, l, e, R', s, m, args, below, meth, c, D, A, H0, nL', Q⟩ := X
  obtain ⟨hx, hb, hml, hnl, hR', hown, hts, hK, hN, hA, hlk, hE⟩ := h
  subst hnl; subst hR'
  obtain ⟨h1, h2, h3⟩ := hxs
  intro H locs ls hP hD hS hl
  refine va_slen hx hb h1 h2 h3 hS hd ?_
  have e9 : Int32.ofNat Ls = iI (Ls : Int) := Int32.ofInt_eq_ofNat.symm
  rw [e9]
  exact k H locs ls hP hD hS hl
theorem j_same (h : CxOK X T cc own Ts R nL) {a b : Int} {off : Int} (tgt : Nat) (hd : decode cc pc = .ok (.if_icmp .eq off, 3)) (ht : (pc : Int) + off = (tgt : Int)) (e9 : a = b) (kt : J X cells slots tgt lv stk ws) : J X cells slots pc lv (.int (iI b) :: .int (iI a) :: stk) ws := by
  obtain ⟨p, l, e, R', s, m, args, below, meth, c, D, A, H0, nL', Q⟩ := X
  obtain ⟨hx, hb, hml, hnl, hR', hown, hts, hK, hN, hA, hlk, hE⟩ := h
  subst hnl; subst hR'
  intro H locs ls hP hD hS hl
  exact lv_icmp_eq hx hb hd ht (fun q => kt H locs ls hP hD hS hl) (fun q => absurd (congrArg iI e9) q)
end JLAW
/-- what holds between two calls -/
def LREL (B Tb : Int → Int) (L pb : Int) (HR : Int → Int → Int) (row kept : Int) (H : Int → Int) : Prop := BOK B ∧ TOK Tb ∧ (0 ≤ L ∧ L ≤ 600) ∧ (0 ≤ pb ∧ pb ≤ 260) ∧ (∀ k : Int, BOK (HR k)) ∧ (0 ≤ row ∧ row ≤ 6) ∧ (0 ≤ kept ∧ kept ≤ 6) ∧ HRel HR row kept H
