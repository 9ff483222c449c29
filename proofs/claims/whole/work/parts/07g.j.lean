/-! an element of an array of arrays -/
section JAA
variable {X : JX} {T : Nat → ClassId} {cc : ByteArray} {own : String} {Ts : List Cond} {R : Room} {nL : Nat} {cells slots pc : Nat} {lv : List (Nat × Value)} {stk : List Value} {ws : va_W}
theorem j_aaldA (h : CxOK X T cc own Ts R nL) {a n b : Nat} {f : Nat → Option Nat} {e0 : Int} (e1 : Int) (hd : decode cc pc = .ok (.aaload, 1)) (q : Nat) (hq : ws[q]? = some (a, .inl (T 4, n, .inr (.inr (.inr (.inr f)))))) (hn : n ≤ 2147483647) (hee : e0 = e1) (he : 0 ≤ e1 ∧ e1 < (n : Int)) (hv : f e1.toNat = some b) (k : J X cells slots (pc + 1) lv (.ref b :: stk) ws) : J X cells slots pc lv (.int (iI e0) :: .ref a :: stk) ws := by
  obtain ⟨p, l, e, R', s, m, args, below, meth, c, D, A, H0, nL', Q⟩ := X
  obtain ⟨hx, hb, hml, hnl, hR', hown, hts, hK, hN, hA, hlk, hE⟩ := h
  subst hnl; subst hR'
  intro H locs ls hP hD hS hl
  subst hee
  have hin := iI_in he hn
  have hlt : (iI e0).toNatClampNeg < n := Nat.not_le.mp fun q => hin (Or.inr q)
  have hv2 : va_rf (f (iI e0).toNatClampNeg) = .ref b := by rw [iI_clamp (by omega), hv]; rfl
  exact W.aald (v := .ref b) (ty := .array .int) hx hb (hP q _ hq) ((hK.2 4 _ rfl).1 n (fun j => va_rf (f j))) rfl (fun q => by cases q) (by show ¬ (iI e0 < 0 ∨ (arrV _ _ _).slots.size ≤ _); rw [arrV_size]; exact hin) (by show (arrV _ _ _).slots[_]? = _; rw [arrV_read _ _ hlt, ← hv2]) rfl rfl hd (k H locs ls hP hD hS hl)
end JAA
