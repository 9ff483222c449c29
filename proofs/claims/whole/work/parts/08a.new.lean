/-! MAKING: new objects and arrays -/
def z0 : Int → Int := fun _ => 0
def zB : Int → Bool := fun _ => false
/-- the array classes over steps and over rows are there -/
def AO2 (U : State) : Prop := va_AO "LayerShop$Step" U ∧ (Cond.arrayOver (.array .int)).before #[] U = true
theorem AO2.moved {u U : State} (hvm : u.vm.Alike U.vm) (h : AO2 u) : AO2 U := ⟨h.1.moved hvm, Jvm.Stand.arrayOver_alikeB hvm h.2⟩
def XAO (X : JX) : Prop :=
  match X with
  | (p, l, e, R', s, m, args, below, meth, c, D, A, H0, nL', Q) => AO2 s
section JNEW
variable {X : JX} {T : Nat → ClassId} {cc : ByteArray} {own : String} {Ts : List Cond} {R : Room} {nL : Nat} {cells slots pc : Nat} {lv : List (Nat × Value)} {stk : List Value} {ws : va_W}
theorem j_objInit (h : CxOK X T cc own Ts R nL) {index b : Nat} (hd : decode cc pc = .ok (.invokespecial index, 3)) (w1 : Cond.methodLink own index objectInit ∈ Ts) (w2 : Cond.instanceMethod objectInit ∈ Ts) (w3 : Cond.code objectInit ⟨#[0xb1]⟩ 1 none ∈ Ts) (hf : 1 ≤ R.frames) (hlo : (stk.map fun v => v.category).sum + 12 ≤ R.locals) (k : J X cells slots (pc + 3) lv stk ws) : J X cells slots pc lv (.ref b :: stk) ws := by
  obtain ⟨p, l, e, R', s, m, args, below, meth, c, D, A, H0, nL', Q⟩ := X
  obtain ⟨hx, hb, hml, hnl, hR', hown, hts, hK, hN, hA, hlk, hE⟩ := h
  subst hnl; subst hR'
  intro H locs ls hP hD hS hl
  refine W.objInit hx hb hown (hts _ w1) (hts _ w2) (hts _ w3) rfl (by rw [hml]; exact hl.1) rfl hd hf ?_ ?_
  · show 2 * 0 + _ + 12 ≤ _
    omega
  · exact k H locs ls hP hD hS hl
def NwOK (own : String) (index : Nat) (Ts : List Cond) (ci : Nat) (fs : List Value) (N : Nat) : Prop := ∃ (C : String) (TT : u_T) (ty : Nat → FieldType), vwCl[ci]? = some (C, TT, N) ∧ (∀ w ∈ u_ws C TT N, w ∈ Ts) ∧ (∀ k, k < N → parseFieldDescriptor (TT k).2.2.1 = some (ty k)) ∧ (∀ j, j < N → defaultValue (ty j) = vp_V fs j) ∧ Cond.classLink own index C ∈ Ts ∧ Cond.instantiable C N ∈ Ts ∧ Cond.initialized C ∈ Ts
theorem j_new (h : CxOK X T cc own Ts R nL) {index ci N cells' slots' : Nat} {fs : List Value} (hd : decode cc pc = .ok (.new index, 3)) (hk : NwOK own index Ts ci fs N) (hroom : cells + 1 ≤ R.cells ∧ slots + N ≤ R.slots) (hce : cells + 1 = cells') (hsl : slots + N = slots') (k : ∀ q : Nat, J X cells' slots' (pc + 3) lv (.ref q :: stk) (ws ++ [(q, .inr (ci, fs))])) : J X cells slots pc lv stk ws := by
  obtain ⟨p, l, e, R', s, m, args, below, meth, c, D, A, H0, nL', Q⟩ := X
  obtain ⟨hx, hb, hml, hnl, hR', hown, hts, hK, hN, hA, hlk, hE⟩ := h
  subst hnl; subst hR'; subst hce; subst hsl
  obtain ⟨C, TT, ty, hc, hin, hty, hfs, w1, w2, w3⟩ := hk
  intro H locs ls hP hD hS hl
  exact va_new hx hb hts hin ty hty hown (hts _ w1) (hts _ w2) (hts _ w3) hK hP hD hS hA hc hfs hroom.1 hroom.2 hd (fun q H1 hP1 hD1 hS1 => k q H1 locs ls hP1 hD1 hS1 hl)
theorem ta_eq {D : va_G} {s : State} {T : Nat → ClassId} {tys : List (ClassId × FieldType)} {t : Nat} {cA : ClassId} {ty : FieldType} (hK : va_K D vwCl (tyG T) s) (ht : (tyG T)[t]? = some (T t, ty)) (hA : va_RA s cA ty) : cA = T t := by
  have h1 := (hK.2 t _ ht).2
  cases ty with
  | object C =>
    obtain ⟨_, _, _, _, _, e1⟩ := hA
    obtain ⟨_, _, _, _, _, e2⟩ := h1
    exact Option.some.inj (e1.symm.trans e2)
  | _ => exact Option.some.inj (hA.symm.trans h1)
theorem j_newa (h : CxOK X T cc own Ts R nL) {atype : ArrayType} {ty : FieldType} {t N cells' slots' : Nat} {n : Int} (a0 : vp_A) (hd : decode cc pc = .ok (.newarray atype, 2)) (hty : newarray.typeOf atype = ty) (ht : (tyG T)[t]? = some (T t, ty)) (hw : Cond.arrayClass ty ∈ Ts) (ha : ∀ cA : ClassId, vp_cell cA a0 = arrV cA N (fun _ => defaultValue ty)) (hn : n = (N : Int)) (hN : N ≤ 20000) (hcb : componentBytes ty ≤ 8) (hroom : cells + 1 ≤ R.cells ∧ slots + N ≤ R.slots) (hce : cells + 1 = cells') (hsl : slots + N = slots') (k : ∀ q : Nat, J X cells' slots' (pc + 2) lv (.ref q :: stk) (ws ++ [(q, .inl (T t, a0))])) : J X cells slots pc lv (.int (iI n) :: stk) ws := by
  obtain ⟨p, l, e, R', s, m, args, below, meth, c, D, A, H0, nL', Q⟩ := X
  obtain ⟨hx, hb, hml, hnl, hR', hown, hts, hK, hN9, hA, hlk, hE⟩ := h
  subst hnl; subst hR'; subst hce; subst hsl; subst hty; subst hn
  intro H locs ls hP hD hS hl
  refine va_newa (tys := tyG T) hx hb (hts _ hw) rfl hK hP hD hS hA ha ?_ ?_ ?_ hroom.1 hroom.2 hd (fun q cA H1 hK1 hP1 hD1 hS1 => ?_)
  · rw [← iI_0, iI_lt (by omega) (by omega)]; omega
  · rw [iI_clamp (by omega)]; omega
  · exact Nat.le_trans (Nat.mul_le_mul hN hcb) (by decide)
  · have e1 := ta_eq (tys := []) hK ht (hK1.2 5 (cA, newarray.typeOf atype) rfl).2
    subst e1
    exact k q H1 locs ls hP1 hD1 hS1 hl
theorem z_i (N : Nat) : ∀ cA : ClassId, vp_cell cA (N, .inl (fun j : Nat => iI (z0 j))) = arrV cA N (fun _ => defaultValue .int) := fun cA => rfl
theorem z_b (N : Nat) : ∀ cA : ClassId, vp_cell cA (N, .inl (fun j : Nat => iI (z0 j))) = arrV cA N (fun _ => defaultValue .byte) := fun cA => rfl
theorem z_z (N : Nat) : ∀ cA : ClassId, vp_cell cA (N, .inl (fun j : Nat => iI (bI (zB j)))) = arrV cA N (fun _ => defaultValue .boolean) := fun cA => rfl
/-- an array of steps -/
theorem j_newq (h : CxOK X T cc own Ts R nL) (hao : XAO X) {index N cells' slots' : Nat} {n : Int} (hd : decode cc pc = .ok (.anewarray index, 3)) (w1 : Cond.classLink own index "LayerShop$Step" ∈ Ts) (hn : n = (N : Int)) (hN : N ≤ 20000) (hroom : cells + 1 ≤ R.cells ∧ slots + N ≤ R.slots) (hce : cells + 1 = cells') (hsl : slots + N = slots') (k : ∀ q : Nat, J X cells' slots' (pc + 3) lv (.ref q :: stk) (ws ++ [(q, .inl (T 3, N, .inr (.inr (.inr (.inr (fun _ => none))))))])) : J X cells slots pc lv (.int (iI n) :: stk) ws := by
  obtain ⟨p, l, e, R', s, m, args, below, meth, c, D, A, H0, nL', Q⟩ := X
  obtain ⟨hx, hb, hml, hnl, hR', hown, hts, hK, hN9, hA, hlk, hE⟩ := h
  subst hnl; subst hR'; subst hce; subst hsl; subst hn
  intro H locs ls hP hD hS hl
  refine va_newq (tys := tyG T) hx hb hown (hts _ w1) hao.1 hK hP hD hS hA ?_ ?_ ?_ hroom.1 hroom.2 hd (fun q cA H1 hK1 hP1 hD1 hS1 => ?_)
  · rw [← iI_0, iI_lt (by omega) (by omega)]; omega
  · rw [iI_clamp (by omega)]; omega
  · omega
  · have e1 := ta_eq (tys := []) (t := 3) hK rfl (hK1.2 5 (cA, .object "LayerShop$Step") rfl).2
    subst e1
    exact k q H1 locs ls hP1 hD1 hS1 hl
theorem j_astq (h : CxOK X T cc own Ts R nL) {a n v : Nat} {f : Nat → Option Nat} {vs : List Value} {e0 : Int} (e1 : Int) {ws' : va_W} (hd : decode cc pc = .ok (.aastore, 1)) (q qk : Nat) (hq : ws[q]? = some (a, .inl (T 3, n, .inr (.inr (.inr (.inr f)))))) (hv : ws[qk]? = some (v, .inr (7, vs))) (hn : n ≤ 2147483647) (hee : e0 = e1) (he : 0 ≤ e1 ∧ e1 < (n : Int)) (hw : ws.set q (a, .inl (T 3, n, .inr (.inr (.inr (.inr (va_up f e1.toNat (some v))))))) = ws') (k : J X cells slots (pc + 1) lv stk ws') : J X cells slots pc lv (.ref v :: .int (iI e0) :: .ref a :: stk) ws := by
  obtain ⟨p, l, e, R', s, m, args, below, meth, c, D, A, H0, nL', Q⟩ := X
  obtain ⟨hx, hb, hml, hnl, hR', hown, hts, hK, hN9, hA, hlk, hE⟩ := h
  subst hnl; subst hR'; subst hee; subst hw
  intro H locs ls hP hD hS hl
  refine va_astq (t0 := 3) (ci := 7) hx hb hK hP hD hS q qk hq rfl hv rfl (iI_in he hn) hd (fun H1 locs1 hP1 hD1 hS1 => ?_)
  rw [iI_clamp (by omega)] at hP1 hD1
  exact k H1 locs1 ls hP1 hD1 hS1 hl
end JNEW
theorem outer_eq (cA : ClassId) (N h0 : Nat) : Jvm.Free.Multi.outerC cA N h0 N = vp_cell cA (N, .inr (.inr (.inr (.inr (fun k => some (h0 + 1 + k)))))) := by
  obtain ⟨o1, o2, o3⟩ := Jvm.Free.Multi.outerC_facts cA N h0 N
  obtain ⟨p1, p2⟩ := Jvm.Free.Multi.outerC_plain cA N h0 N
  have os := fun (j : Nat) (hj : j < N) => Jvm.Free.Multi.outerC_slot cA N h0 N j hj
  rw [vp_cell_q]
  generalize Jvm.Free.Multi.outerC cA N h0 N = C at *
  obtain ⟨c1, c2, c3, c4, c5⟩ := C
  dsimp only at o1 o2 o3 p1 p2 os
  subst o1; subst o2; subst p1; subst p2
  unfold arrV
  congr 1
  apply Array.ext
  · rw [o3]; simp
  · intro i h1 h2
    have h3 := os i (by omega)
    rw [Array.getElem?_eq_getElem h1, if_pos (by omega)] at h3
    rw [Option.some.inj h3]
    simp [va_rf]
section JMUL
variable {X : JX} {T : Nat → ClassId} {cc : ByteArray} {own : String} {Ts : List Cond} {R : Room} {nL : Nat} {cells slots pc : Nat} {lv : List (Nat × Value)} {stk : List Value} {ws : va_W}
/-- rows of rows -/
theorem j_newm (h : CxOK X T cc own Ts R nL) (hao : XAO X) {index cells' slots' : Nat} (hd : decode cc pc = .ok (.multianewarray index 2, 4)) (w1 : Cond.classLink own index "[[I" ∈ Ts) (w3 : Cond.arrayClass .int ∈ Ts) (hroom : cells + 8 ≤ R.cells ∧ slots + 20167 ≤ R.slots) (hce : cells + 8 = cells') (hsl : slots + 20167 = slots') (k : ∀ q : Nat, ∀ hp : Nat → Nat, J X cells' slots' (pc + 4) lv (.ref q :: stk) (ws ++ [(q, .inl (T 4, 7, .inr (.inr (.inr (.inr (fun i9 : Nat => some (hp i9))))))), (hp 0, .inl (T 0, 2880, .inl (fun j : Nat => iI (z0 j)))), (hp 1, .inl (T 0, 2880, .inl (fun j : Nat => iI (z0 j)))), (hp 2, .inl (T 0, 2880, .inl (fun j : Nat => iI (z0 j)))), (hp 3, .inl (T 0, 2880, .inl (fun j : Nat => iI (z0 j)))), (hp 4, .inl (T 0, 2880, .inl (fun j : Nat => iI (z0 j)))), (hp 5, .inl (T 0, 2880, .inl (fun j : Nat => iI (z0 j)))), (hp 6, .inl (T 0, 2880, .inl (fun j : Nat => iI (z0 j))))])) : J X cells slots pc lv (.int (iI 2880) :: .int (iI 7) :: stk) ws := by
  obtain ⟨p, l, e, R', s, m, args, below, meth, c, D, A, H0, nL', Q⟩ := X
  obtain ⟨hx, hb, hml, hnl, hR', hown, hts, hK, hN9, hA, hlk, hE⟩ := h
  subst hnl; subst hR'; subst hce; subst hsl
  intro H locs ls hP hD hS hl
  intro S0 hS0 Xs
  have n7 : (iI 7).toNatClampNeg = 7 := rfl
  have n2 : (iI 2880).toNatClampNeg = 2880 := rfl
  obtain ⟨vm₁, cA, comp, hW, hfA, hfC, hO, hI, X1, st⟩ := Xs.multianewarray2F hx (g := F0 m pc ls (.int (iI 2880) :: .int (iI 7) :: stk)) (ty := .int) hown (hts _ w1) hao.2 (hts _ w3) rfl (by rw [hb]; exact hd) rfl (by decide) (by decide) (by rw [n7]; decide) (by rw [n2]; decide) (by rw [n2]; decide) rfl rfl (by rw [n7]; omega) (by rw [n7, n2]; omega)
  rw [n7, n2] at X1 st
  rw [show cells + 1 + 7 = cells + 8 by omega, show slots + 7 + 7 * 2880 = slots + 20167 by omega] at X1
  have hcA : cA = T 4 := Option.some.inj (hfA.symm.trans (hK.2 4 _ rfl).2)
  have hco : comp = T 0 := Option.some.inj (hfC.symm.trans (hK.2 0 _ rfl).2)
  subst hcA; subst hco
  obtain ⟨f1, f2, f3, f4⟩ := Jvm.Free.Multi.fill_facts (S0.setVm vm₁) (T 4) (T 0) 7 2880 (defaultValue .int) 7
  have fo := fun (a : Addr) (ha : a < S0.heap.size) => Jvm.Free.Multi.fill_old (S0.setVm vm₁) (T 4) (T 0) 7 2880 (defaultValue .int) (a := a) ha 7
  have fi := fun (j : Nat) (hj : j < 7) => Jvm.Free.Multi.fill_inner (S0.setVm vm₁) (T 4) (T 0) 7 2880 (defaultValue .int) 7 j hj
  generalize hF : Jvm.Free.Multi.fill (S0.setVm vm₁) (T 4) (T 0) 7 2880 (defaultValue .int) 7 = F at *
  subst hS0
  have z1 : F.heap.size = S0.heap.size + 8 := by rw [f1]; rfl
  have hso : ∀ a : Nat, a < S0.heap.size → F.heap[a]? = S0.heap[a]? := fun a ha => fo a ha
  have hs2 : F.heap[S0.heap.size]? = some (vp_cell (T 4) (7, .inr (.inr (.inr (.inr (fun k => some (S0.heap.size + 1 + k))))))) := by rw [← outer_eq]; exact f2
  have hs3 : ∀ j : Nat, j < 7 → F.heap[S0.heap.size + 1 + j]? = some (vp_cell (T 0) (2880, .inl (fun j : Nat => iI (z0 j)))) := fun j hj => by
    refine (fi j hj).trans ?_
    rw [z_i, ← arrV_new]; rfl
  have key := k S0.heap.size (fun i => S0.heap.size + 1 + i) F.heap locs ls ?_ ?_ ?_ hl F rfl X1
  · obtain ⟨t, a, b⟩ := key
    exact ⟨t, st t a, b⟩
  · refine (hP.kept (fun k x hx => hso x.1 ((hP k x hx).lt))).app (fun k x hx => ?_)
    rcases k with _ | _ | _ | _ | _ | _ | _ | _ | k
    · cases hx; exact hs2
    · cases hx; exact hs3 0 (by omega)
    · cases hx; exact hs3 1 (by omega)
    · cases hx; exact hs3 2 (by omega)
    · cases hx; exact hs3 3 (by omega)
    · cases hx; exact hs3 4 (by omega)
    · cases hx; exact hs3 5 (by omega)
    · cases hx; exact hs3 6 (by omega)
    · simp at hx
  · have hsz := hS.1
    refine ⟨fun i j x y hx hy e1 => ?_, fun k x hx => ?_⟩
    · have key : ∀ (i : Nat) (x : Nat × va_E), (ws ++ [(S0.heap.size, .inl (T 4, 7, .inr (.inr (.inr (.inr (fun i9 : Nat => some ((fun i : Nat => S0.heap.size + 1 + i) i9))))))), ((fun i : Nat => S0.heap.size + 1 + i) 0, .inl (T 0, 2880, .inl (fun j : Nat => iI (z0 j)))), ((fun i : Nat => S0.heap.size + 1 + i) 1, .inl (T 0, 2880, .inl (fun j : Nat => iI (z0 j)))), ((fun i : Nat => S0.heap.size + 1 + i) 2, .inl (T 0, 2880, .inl (fun j : Nat => iI (z0 j)))), ((fun i : Nat => S0.heap.size + 1 + i) 3, .inl (T 0, 2880, .inl (fun j : Nat => iI (z0 j)))), ((fun i : Nat => S0.heap.size + 1 + i) 4, .inl (T 0, 2880, .inl (fun j : Nat => iI (z0 j)))), ((fun i : Nat => S0.heap.size + 1 + i) 5, .inl (T 0, 2880, .inl (fun j : Nat => iI (z0 j)))), ((fun i : Nat => S0.heap.size + 1 + i) 6, .inl (T 0, 2880, .inl (fun j : Nat => iI (z0 j))))] : va_W)[i]? = some x → (ws[i]? = some x ∧ i < ws.length ∧ x.1 < S0.heap.size) ∨ (ws.length ≤ i ∧ x.1 = S0.heap.size + (i - ws.length)) := fun i x hx => by
        by_cases hl9 : i < ws.length
        · rw [List.getElem?_append_left hl9] at hx
          exact Or.inl ⟨hx, hl9, (hP i x hx).lt⟩
        · rw [List.getElem?_append_right (by omega)] at hx
          refine Or.inr ⟨by omega, ?_⟩
          generalize i - ws.length = d at hx ⊢
          rcases d with _ | _ | _ | _ | _ | _ | _ | _ | d
          all_goals first | (cases hx; rfl) | (simp at hx)
      rcases key i x hx with ⟨a, b, c⟩ | ⟨a, b⟩ <;> rcases key j y hy with ⟨a', b', c'⟩ | ⟨a', b'⟩
      · exact hD.1 i j x y a a' e1
      · omega
      · omega
      · omega
    · by_cases hl9 : k < ws.length
      · rw [List.getElem?_append_left hl9] at hx
        exact hD.2 k x hx
      · rw [List.getElem?_append_right (by omega)] at hx
        refine hA _ ?_
        generalize k - ws.length = d at hx
        rcases d with _ | _ | _ | _ | _ | _ | _ | _ | d
        all_goals first | (cases hx; exact hsz) | (cases hx; show _ ≤ S0.heap.size + 1 + _; omega) | (simp at hx)
  · exact ⟨Nat.le_trans hS.1 (by omega), fun x h1 h2 => (hso x (Nat.lt_of_lt_of_le h1 hS.1)).trans (hS.2.1 x h1 h2), hS.2.2⟩
end JMUL
def CtPA (T : Nat → ClassId) (D : va_G) (sz : Nat) (ws : va_W) (U : State) : Prop := CtP T D sz ws U ∧ AO2 U
def CtVA (T : Nat → ClassId) (y : MethodName) (wm : List Cond) (rm : Room) (mc ms : Nat) (av : List Value) (ws : va_W) (post : va_W → Prop) : Prop := ∀ (l : Launch) (D : va_G) (sz : Nat), Met l y wm rm (va_Pc av (CtPA T D sz ws)) (va_Qv post (CtB D sz ws) (va_A ws sz)) mc ms (va_A ws sz)
theorem CtPA.blind {T : Nat → ClassId} {D : va_G} {sz : Nat} {ws : va_W} {av : List Value} : FrameBlind (va_Pc av (CtPA T D sz ws)) := fun a U g mk q => by
  obtain ⟨q0, ⟨q1, q2, q3, q4, q5, q6⟩, q7⟩ := q
  exact ⟨q0, ⟨q1, NW.same rfl q2, q3, va_K.moved (u := U) (U := U.calling g mk a) (Vm.Alike.refl U.vm) q4, q5, SS.same (u := U) rfl q6⟩, AO2.moved (u := U) (U := U.calling g mk a) (Vm.Alike.refl U.vm) q7⟩
theorem ctVA_of {T : Nat → ClassId} {y : MethodName} {wm ws' : List Cond} {rm : Room} {mc ms : Nat} {av : List Value} {ws : va_W} {post : va_W → Prop} {cc : ByteArray} {maxL : Nat} {ret : Option FieldType} (hy : plainName y.cls = true) (hw : wm = Cond.code y cc maxL ret :: ws') (hret : ret = none) (hsl : (lg_sl av).length ≤ maxL)
    (k : ∀ X : JX, CxOK X T cc y.cls wm rm maxL → XAO X → (y.name = "<init>" → XInit X) → RtV X cc mc ms post → J X 0 0 0 (lv_args 0 av) [] ws) : CtVA T y wm rm mc ms av ws post := by
  intro l D sz
  refine Met.ofW (cc := cc) (maxL := maxL) (ret := ret) hy hw ?_
  intro p e s m args below meth c s₁ B hml hv
  obtain ⟨rfl, ⟨hsz, hN, hP, hK, hD0, hE⟩, hAO⟩ := hv
  have hx := B.exec
  have hb := B.bytes
  have hr := B.returns
  have hts := atoms_spec (ws := wm) B.pre
  have hown : s.vm.findClass y.cls = some m.cls := findClass_of_methodNamed B.named
  have hlocks := B.notSynchronized
  subst hsz
  have hD := hD0.self (sz := s.heap.size)
  have hl := lv_entry av (n := maxL) hsl
  rw [lg_entry_eq]
  refine k (p, l, e, (headSpec wm rm).room, s, m, av.toArray, below, meth, c, D, va_A ws s.heap.size, s.heap, maxL, MQ below (va_Qv post (CtB D s.heap.size ws) (va_A ws s.heap.size)) av.toArray s mc ms (va_A ws s.heap.size)) ⟨hx, hb, hml, rfl, rfl, hown, hts, hK, hN, fun q h => Or.inr h, hlocks, hE⟩ hAO (fun h => (name_of_methodNamed B.named B.method).1.trans h) ?_ s.heap [] _ hP hD va_S.rf hl
  intro pc lv u hd hp H locs ls hP1 hD1 hS1 hl1
  exact W.vret hx hb (hr.trans hret) (fun t ht hW => ⟨⟨u, rfl, hp, by rw [ht]; exact hP1, hD1⟩, hS1.F ht⟩) hS1.2.2 hd
section JCALLA
variable {X : JX} {T : Nat → ClassId} {cc : ByteArray} {own : String} {Ts : List Cond} {R : Room} {nL : Nat} {cells slots pc : Nat} {lv : List (Nat × Value)} {stk : List Value} {ws : va_W}
theorem j_callIvA (h : CxOK X T cc own Ts R nL) (hao : XAO X) {y : MethodName} {b : Nat} {index : Nat} {bytes : ByteArray} {maxL n mc ms : Nat} {wm : List Cond} {rm : Room} {As st0 : List Value} {wc wr : va_W} {post : va_W → Prop} {cells' slots' : Nat}
    (hd : decode cc pc = .ok (.invokespecial index, 3)) (hM : CtVA T y wm rm mc ms (Value.ref b :: As) wc post) (hk : CkOK y wm rm mc ms bytes maxL none n) (hG : GoodIn Ts wm) (hini : Cond.initialized y.cls ∈ Ts) (hlk9 : Cond.methodLink own index y ∈ Ts) (him : Cond.instanceMethod y ∈ Ts) (hyn : y.name = "<init>") (hR : rmFit rm maxL R) (hAs : As.length = n) (hst0 : st0 = As.reverse ++ .ref b :: stk) (hcat : (stk.map fun v => v.category).sum ≤ 8) (hroom : cells + mc ≤ R.cells ∧ slots + ms ≤ R.slots) (hce : cells + mc = cells') (hsl : slots + ms = slots')
    (isC isR : List Nat) (hC : isC.map (fun i => ws[i]?) = wc.map some) (hRr : isR.map (fun i => ws[i]?) = wr.map some) (hnC : va_nd isC = true) (hnR : va_nd isR = true) (hdis : ∀ i ∈ isR, i ∉ isC)
    (k : ∀ (u : va_W), post u → J X cells' slots' (pc + 3) lv (stk) (wr ++ u)) : J X cells slots pc lv st0 ws := by
  obtain ⟨p, l, e, R', s, m, args, below, meth, c, D, A, H0, nL', Q⟩ := X
  obtain ⟨hx, hb, hml, hnl, hR', hown, hts, hK, hN, hA, hlk, hE⟩ := h
  subst hnl; subst hR'; subst hst0; subst hce; subst hsl
  obtain ⟨⟨ws', hwm⟩, hrc, hrs, hd0⟩ := hk
  intro H locs ls hP hD hS hl
  have hsubC : isC.filterMap (fun i => ws[i]?) = wc := by
    have h1 := congrArg (List.filterMap id) hC
    simpa [List.filterMap_map, Function.comp_def] using h1
  have hPc := hP.sub isC hsubC
  have hDc := hD.sub isC hnC hC
  have hFc := va_free (wc := wc) hD hS hA isC hC
  have hpre : ∀ U : State, U.heap = H → s.WarmedH U.vm → va_Pc (Value.ref b :: As) (CtPA T D H.size wc) (Value.ref b :: As).toArray U := fun U hU hW => ⟨rfl, ⟨by rw [hU], NW.warm hW hN, by rw [hU]; exact hPc, va_K.moved hW.alike hK, hDc.weaken (fun _ _ _ _ => trivial), by rw [hU]; exact SS.warm hW ((hE.kept hS.2.1).narrow hFc)⟩, AO2.moved hW.alike hao⟩
  refine va_callv (va_runI (As := As) (rest := stk) ⟨hx, hb, hml, hown, hts⟩ (hM l D H.size) (cwI n hts hG hwm hrc hrs (hts _ hini) (hts _ hlk9) (hts _ him) hyn hd0 hR) ⟨CtPA.blind, fun U hU hW => hpre U hU hW⟩ rfl hAs hl.1 rfl (lv_room hcat) hd hroom) hS (fun q _ h => hFc q h) hFc (fun u t H1 locs1 ht hvm hw hB hz1 hk1 hS1 => ?_)
  obtain ⟨hP1, hD1⟩ := hB
  rw [ht] at hP1
  obtain ⟨hP2, hD2⟩ := va_join (wr := wr) (w1 := u) hP hD isC isR hC hRr hnR hdis hk1 hFc hP1 hD1
  exact k u hw H1 locs1 ls hP2 hD2 hS1 hl
theorem j_callINvA (h : CxOK X T cc own Ts R nL) (hao : XAO X) {y : MethodName} {b : Nat} {host : String} {index : Nat} {bytes : ByteArray} {maxL n mc ms : Nat} {wm : List Cond} {rm : Room} {As st0 : List Value} {wc wr : va_W} {post : va_W → Prop} {cells' slots' : Nat}
    (hd : decode cc pc = .ok (.invokespecial index, 3)) (hM : CtVA T y wm rm mc ms (Value.ref b :: As) wc post) (hk : CkOK y wm rm mc ms bytes maxL none n) (hG : GoodIn Ts wm) (hnw : (own, index, y, host) ∈ NWm) (hini : Cond.initialized y.cls ∈ Ts) (him : Cond.instanceMethod y ∈ Ts) (hyn : y.name = "<init>") (hR : rmFit rm maxL R) (hAs : As.length = n) (hst0 : st0 = As.reverse ++ .ref b :: stk) (hcat : (stk.map fun v => v.category).sum ≤ 8) (hroom : cells + mc ≤ R.cells ∧ slots + ms ≤ R.slots) (hce : cells + mc = cells') (hsl : slots + ms = slots')
    (isC isR : List Nat) (hC : isC.map (fun i => ws[i]?) = wc.map some) (hRr : isR.map (fun i => ws[i]?) = wr.map some) (hnC : va_nd isC = true) (hnR : va_nd isR = true) (hdis : ∀ i ∈ isR, i ∉ isC)
    (k : ∀ (u : va_W), post u → J X cells' slots' (pc + 3) lv (stk) (wr ++ u)) : J X cells slots pc lv st0 ws := by
  obtain ⟨p, l, e, R', s, m, args, below, meth, c, D, A, H0, nL', Q⟩ := X
  obtain ⟨hx, hb, hml, hnl, hR', hown, hts, hK, hN, hA, hlk, hE⟩ := h
  subst hnl; subst hR'; subst hst0; subst hce; subst hsl
  obtain ⟨⟨ws', hwm⟩, hrc, hrs, hd0⟩ := hk
  intro H locs ls hP hD hS hl
  have hsubC : isC.filterMap (fun i => ws[i]?) = wc := by
    have h1 := congrArg (List.filterMap id) hC
    simpa [List.filterMap_map, Function.comp_def] using h1
  have hPc := hP.sub isC hsubC
  have hDc := hD.sub isC hnC hC
  have hFc := va_free (wc := wc) hD hS hA isC hC
  have hpre : ∀ U : State, U.heap = H → s.WarmedH U.vm → va_Pc (Value.ref b :: As) (CtPA T D H.size wc) (Value.ref b :: As).toArray U := fun U hU hW => ⟨rfl, ⟨by rw [hU], NW.warm hW hN, by rw [hU]; exact hPc, va_K.moved hW.alike hK, hDc.weaken (fun _ _ _ _ => trivial), by rw [hU]; exact SS.warm hW ((hE.kept hS.2.1).narrow hFc)⟩, AO2.moved hW.alike hao⟩
  refine va_callv (va_runIN (As := As) (rest := stk) ⟨hx, hb, hml, hown, hts⟩ (hM l D H.size) ⟨va_cnB n hts hG hwm hrc hrs (hN.2 _ hnw) (hts _ hini) hd0 hR, hyn, hts _ him⟩ ⟨CtPA.blind, fun U hU hW => hpre U hU hW⟩ rfl hAs hl.1 rfl (lv_room hcat) hd hroom) hS (fun q _ h => hFc q h) hFc (fun u t H1 locs1 ht hvm hw hB hz1 hk1 hS1 => ?_)
  obtain ⟨hP1, hD1⟩ := hB
  rw [ht] at hP1
  obtain ⟨hP2, hD2⟩ := va_join (wr := wr) (w1 := u) hP hD isC isR hC hRr hnR hdis hk1 hFc hP1 hD1
  exact k u hw H1 locs1 ls hP2 hD2 hS1 hl
/-- an array's references, where they count -/
theorem refs_cong {t : ClassId} {n : Nat} {f g : Nat → Option Nat} (h : ∀ j : Nat, j < n → f j = g j) : vp_cell t (n, .inr (.inr (.inr (.inr f)))) = vp_cell t (n, .inr (.inr (.inr (.inr g)))) := by
  rw [vp_cell_q, vp_cell_q]
  unfold arrV
  congr 1
  apply Array.ext
  · simp
  · intro i h1 h2
    simp only [Array.getElem_ofFn]
    rw [h i (by simpa using h1)]
theorem j_refs {a n : Nat} {t : ClassId} {f g : Nat → Option Nat} {ws' : va_W} (q : Nat) (hq : ws[q]? = some (a, .inl (t, n, .inr (.inr (.inr (.inr f)))))) (hfg : ∀ j : Nat, j < n → f j = g j) (hw : ws.set q (a, .inl (t, n, .inr (.inr (.inr (.inr g))))) = ws') (k : J X cells slots pc lv stk ws') : J X cells slots pc lv stk ws := by
  obtain ⟨p, l, e, R', s, m, args, below, meth, c, D, A, H0, nL', Q⟩ := X
  intro H locs ls hP hD hS h
  subst hw
  refine k H locs ls (fun i r hr => ?_) (hD.set hq) hS h
  rw [List.getElem?_set] at hr
  by_cases e1 : q = i
  · subst e1
    rw [if_pos rfl] at hr
    split at hr
    · cases hr
      have h1 := hP q _ hq
      show H[a]? = some (vp_cell t (n, .inr (.inr (.inr (.inr g)))))
      rw [← refs_cong hfg]
      exact h1
    · cases hr
  · rw [if_neg e1] at hr
    exact hP i r hr
def stepsN (n : Nat) (sp : Int → Nat) : va_W := (List.range n).map (fun i : Nat => (sp i, .inr (7, sfs z0)))
theorem stepsN_60 (sp : Int → Nat) : stepsN 60 sp = stepsW sp (fun _ => z0) := rfl
def spA (sp : Int → Nat) (y : Int) : Nat → Option Nat := fun i => if (i : Int) < y then some (sp i) else none
theorem spA_0 (sp : Int → Nat) : (fun _ : Nat => (none : Option Nat)) = spA sp 0 := by funext i; unfold spA; rw [if_neg (by omega)]
theorem spA_s {sp : Int → Nat} {y : Int} {q : Nat} (h : 0 ≤ y) : va_up (spA sp y) y.toNat (some q) = spA (upI sp y q) (y + 1) := by
  funext i
  unfold va_up spA
  by_cases e : i = y.toNat
  · rw [if_pos e, if_pos (by omega), show ((i : Nat) : Int) = y by omega, upI_s]
  · rw [if_neg e]
    by_cases g : (i : Int) < y
    · rw [if_pos g, if_pos (by omega), upI_n (show (i : Int) ≠ y by omega)]
    · rw [if_neg g, if_neg (by omega)]
theorem stepsN_s {sp : Int → Nat} {y : Int} {q : Nat} (h : 0 ≤ y) : stepsN (y + 1).toNat (upI sp y q) = stepsN y.toNat sp ++ [(q, .inr (7, sfs z0))] := by
  unfold stepsN
  rw [show (y + 1).toNat = y.toNat + 1 by omega, List.range_succ, List.map_append]
  congr 1
  · apply List.map_congr_left
    intro i hi
    have := List.mem_range.mp hi
    rw [upI_n (show (i : Int) ≠ y by omega)]
  · show [(upI sp y q ((y.toNat : Nat) : Int), _)] = _
    rw [show ((y.toNat : Nat) : Int) = y by omega, upI_s]
theorem j_grow {E : va_W} {sp : Int → Nat} {y : Int} {q : Nat} (hy : 0 ≤ y) (k : J X cells slots pc lv stk (E ++ stepsN (y + 1).toNat (upI sp y q))) : J X cells slots pc lv stk ((E ++ [(q, .inr (7, sfs z0))]) ++ stepsN y.toNat sp) := by
  refine j_perm ?_ k
  rw [stepsN_s hy, List.append_assoc]
  exact List.Perm.append_left E List.perm_append_comm
end JCALLA
