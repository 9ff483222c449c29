/-! CONTRACTS: from the cells ws, with arguments av, the method answers r and leaves the cells u, as post says; mc cells of ms slots are new -/
def CtP (T : Nat → ClassId) (D : va_G) (sz : Nat) (ws : va_W) (U : State) : Prop := U.heap.size = sz ∧ NW U ∧ va_P D vwCl ws U.heap ∧ va_K D vwCl (tyG T) U ∧ va_D (fun _ => True) ws ∧ SS T (va_A ws sz) U U.heap
def CtB (D : va_G) (sz : Nat) (ws u : va_W) (t : State) : Prop := va_P D vwCl u t.heap ∧ va_D (va_A ws sz) u
def CtI (T : Nat → ClassId) (y : MethodName) (wm : List Cond) (rm : Room) (mc ms : Nat) (av : List Value) (ws : va_W) (post : Int32 → va_W → Prop) : Prop := ∀ (l : Launch) (D : va_G) (sz : Nat), Met l y wm rm (va_Pc av (CtP T D sz ws)) (va_Qi post (CtB D sz ws) (va_A ws sz)) mc ms (va_A ws sz)
def CtL (T : Nat → ClassId) (y : MethodName) (wm : List Cond) (rm : Room) (mc ms : Nat) (av : List Value) (ws : va_W) (post : Int64 → va_W → Prop) : Prop := ∀ (l : Launch) (D : va_G) (sz : Nat), Met l y wm rm (va_Pc av (CtP T D sz ws)) (va_Ql post (CtB D sz ws) (va_A ws sz)) mc ms (va_A ws sz)
def CtV (T : Nat → ClassId) (y : MethodName) (wm : List Cond) (rm : Room) (mc ms : Nat) (av : List Value) (ws : va_W) (post : va_W → Prop) : Prop := ∀ (l : Launch) (D : va_G) (sz : Nat), Met l y wm rm (va_Pc av (CtP T D sz ws)) (va_Qv post (CtB D sz ws) (va_A ws sz)) mc ms (va_A ws sz)
theorem CtP.blind {T : Nat → ClassId} {D : va_G} {sz : Nat} {ws : va_W} {av : List Value} : FrameBlind (va_Pc av (CtP T D sz ws)) := fun a U g mk q => by
  obtain ⟨q0, q1, q2, q3, q4, q5, q6⟩ := q
  exact ⟨q0, q1, NW.same rfl q2, q3, va_K.moved (u := U) (U := U.calling g mk a) (Vm.Alike.refl U.vm) q4, q5, SS.same (u := U) rfl q6⟩
/-- how a contract ends -/
def RtI (X : JX) (cc : ByteArray) (mc ms : Nat) (post : Int32 → va_W → Prop) : Prop := ∀ (pc : Nat) (lv : List (Nat × Value)) (r : Int32) (u : va_W), decode cc pc = .ok (.ireturn, 1) → post r u → J X mc ms pc lv [.int r] u
def RtL (X : JX) (cc : ByteArray) (mc ms : Nat) (post : Int64 → va_W → Prop) : Prop := ∀ (pc : Nat) (lv : List (Nat × Value)) (r : Int64) (u : va_W), decode cc pc = .ok (.lreturn, 1) → post r u → J X mc ms pc lv [.long r] u
def RtV (X : JX) (cc : ByteArray) (mc ms : Nat) (post : va_W → Prop) : Prop := ∀ (pc : Nat) (lv : List (Nat × Value)) (u : va_W), decode cc pc = .ok (.return_, 1) → post u → J X mc ms pc lv [] u

theorem ctI_of {T : Nat → ClassId} {y : MethodName} {wm ws' : List Cond} {rm : Room} {mc ms : Nat} {av : List Value} {ws : va_W} {post : Int32 → va_W → Prop} {cc : ByteArray} {maxL : Nat} {ret : Option FieldType} (hy : plainName y.cls = true) (hw : wm = Cond.code y cc maxL ret :: ws') {ty : FieldType} (hret : ret = some ty) (hnar : ∀ r u, post r u → narrow ty (.int r) = .int r) (hsl : (lg_sl av).length ≤ maxL)
    (k : ∀ X : JX, CxOK X T cc y.cls wm rm maxL → (y.name = "<init>" → XInit X) → RtI X cc mc ms post → J X 0 0 0 (lv_args 0 av) [] ws) : CtI T y wm rm mc ms av ws post := by
  intro l D sz
  refine Met.ofW (cc := cc) (maxL := maxL) (ret := ret) hy hw ?_
  intro p e s m args below meth c s₁ B hml hv
  obtain ⟨rfl, hsz, hN, hP, hK, hD0, hE⟩ := hv
  have hx := B.exec
  have hb := B.bytes
  have hr := B.returns
  have hts := atoms_spec (ws := wm) B.pre
  have hown : s.vm.findClass y.cls = some m.cls := findClass_of_methodNamed B.named
  have hlocks := B.notSynchronized
  subst hsz
  have hD := hD0.self (sz := s.heap.size)
  have hl := lv_entry av (n := maxL) hsl
  rw [lg_entry_eq]
  refine k (p, l, e, (headSpec wm rm).room, s, m, av.toArray, below, meth, c, D, va_A ws s.heap.size, s.heap, maxL, MQ below (va_Qi post (CtB D s.heap.size ws) (va_A ws s.heap.size)) av.toArray s mc ms (va_A ws s.heap.size)) ⟨hx, hb, hml, rfl, rfl, hown, hts, hK, hN, fun q h => Or.inr h, hlocks, hE⟩ (fun h => (name_of_methodNamed B.named B.method).1.trans h) ?_ s.heap [] _ hP hD va_S.rf hl
  intro pc lv r u hd hp H locs ls hP1 hD1 hS1 hl1
  exact W.zret hx hb (hr.trans hret) (hnar r u hp) (fun t ht hW => ⟨⟨r, u, rfl, hp, by rw [ht]; exact hP1, hD1⟩, hS1.F ht⟩) hS1.2.2 hd
theorem ctV_of {T : Nat → ClassId} {y : MethodName} {wm ws' : List Cond} {rm : Room} {mc ms : Nat} {av : List Value} {ws : va_W} {post : va_W → Prop} {cc : ByteArray} {maxL : Nat} {ret : Option FieldType} (hy : plainName y.cls = true) (hw : wm = Cond.code y cc maxL ret :: ws') (hret : ret = none) (hsl : (lg_sl av).length ≤ maxL)
    (k : ∀ X : JX, CxOK X T cc y.cls wm rm maxL → (y.name = "<init>" → XInit X) → RtV X cc mc ms post → J X 0 0 0 (lv_args 0 av) [] ws) : CtV T y wm rm mc ms av ws post := by
  intro l D sz
  refine Met.ofW (cc := cc) (maxL := maxL) (ret := ret) hy hw ?_
  intro p e s m args below meth c s₁ B hml hv
  obtain ⟨rfl, hsz, hN, hP, hK, hD0, hE⟩ := hv
  have hx := B.exec
  have hb := B.bytes
  have hr := B.returns
  have hts := atoms_spec (ws := wm) B.pre
  have hown : s.vm.findClass y.cls = some m.cls := findClass_of_methodNamed B.named
  have hlocks := B.notSynchronized
  subst hsz
  have hD := hD0.self (sz := s.heap.size)
  have hl := lv_entry av (n := maxL) hsl
  rw [lg_entry_eq]
  refine k (p, l, e, (headSpec wm rm).room, s, m, av.toArray, below, meth, c, D, va_A ws s.heap.size, s.heap, maxL, MQ below (va_Qv post (CtB D s.heap.size ws) (va_A ws s.heap.size)) av.toArray s mc ms (va_A ws s.heap.size)) ⟨hx, hb, hml, rfl, rfl, hown, hts, hK, hN, fun q h => Or.inr h, hlocks, hE⟩ (fun h => (name_of_methodNamed B.named B.method).1.trans h) ?_ s.heap [] _ hP hD va_S.rf hl
  intro pc lv u hd hp H locs ls hP1 hD1 hS1 hl1
  exact W.vret hx hb (hr.trans hret) (fun t ht hW => ⟨⟨u, rfl, hp, by rw [ht]; exact hP1, hD1⟩, hS1.F ht⟩) hS1.2.2 hd
theorem ctL_of {T : Nat → ClassId} {y : MethodName} {wm ws' : List Cond} {rm : Room} {mc ms : Nat} {av : List Value} {ws : va_W} {post : Int64 → va_W → Prop} {cc : ByteArray} {maxL : Nat} {ret : Option FieldType} (hy : plainName y.cls = true) (hw : wm = Cond.code y cc maxL ret :: ws') (hret : ret = some .long) (hsl : (lg_sl av).length ≤ maxL)
    (k : ∀ X : JX, CxOK X T cc y.cls wm rm maxL → (y.name = "<init>" → XInit X) → RtL X cc mc ms post → J X 0 0 0 (lv_args 0 av) [] ws) : CtL T y wm rm mc ms av ws post := by
  intro l D sz
  refine Met.ofW (cc := cc) (maxL := maxL) (ret := ret) hy hw ?_
  intro p e s m args below meth c s₁ B hml hv
  obtain ⟨rfl, hsz, hN, hP, hK, hD0, hE⟩ := hv
  have hx := B.exec
  have hb := B.bytes
  have hr := B.returns
  have hts := atoms_spec (ws := wm) B.pre
  have hown : s.vm.findClass y.cls = some m.cls := findClass_of_methodNamed B.named
  have hlocks := B.notSynchronized
  subst hsz
  have hD := hD0.self (sz := s.heap.size)
  have hl := lv_entry av (n := maxL) hsl
  rw [lg_entry_eq]
  refine k (p, l, e, (headSpec wm rm).room, s, m, av.toArray, below, meth, c, D, va_A ws s.heap.size, s.heap, maxL, MQ below (va_Ql post (CtB D s.heap.size ws) (va_A ws s.heap.size)) av.toArray s mc ms (va_A ws s.heap.size)) ⟨hx, hb, hml, rfl, rfl, hown, hts, hK, hN, fun q h => Or.inr h, hlocks, hE⟩ (fun h => (name_of_methodNamed B.named B.method).1.trans h) ?_ s.heap [] _ hP hD va_S.rf hl
  intro pc lv r u hd hp H locs ls hP1 hD1 hS1 hl1
  exact W.lret hx hb (hr.trans hret) (fun t ht hW => ⟨⟨r, u, rfl, hp, by rw [ht]; exact hP1, hD1⟩, hS1.F ht⟩) hS1.2.2 hd
/-- what of a callee the caller's rows ask: its code word, its room, its parameters -/
def CkOK (y : MethodName) (wm : List Cond) (rm : Room) (mc ms : Nat) (bytes : ByteArray) (maxL : Nat) (ret : Option FieldType) (n : Nat) : Prop := (∃ ws', wm = Cond.code y bytes maxL ret :: ws') ∧ rm.cells = mc ∧ rm.slots = ms ∧ (y.cls ≠ "java/lang/invoke/MethodHandle" ∧ y.cls ≠ "java/lang/invoke/VarHandle" ∧ (parseMethodDescriptor y.desc).map (fun d => d.parameters.length) = some n)
abbrev rmFit (rm : Room) (maxL : Nat) (R : Room) : Prop := rm.frames + 1 ≤ R.frames ∧ 8 + (maxL + 11) + rm.locals ≤ R.locals
section JCALL
variable {X : JX} {T : Nat → ClassId} {cc : ByteArray} {own : String} {Ts : List Cond} {R : Room} {nL : Nat} {cells slots pc : Nat} {lv : List (Nat × Value)} {stk : List Value} {ws : va_W}

theorem j_callVi (h : CxOK X T cc own Ts R nL) {y : MethodName} {b : Nat} {C : String} {index : Nat} {bytes : ByteArray} {maxL n mc ms : Nat} {ret : Option FieldType} {wm : List Cond} {rm : Room} {As st0 : List Value} {wc wr : va_W} {post : Int32 → va_W → Prop} {cells' slots' : Nat}
    (hd : decode cc pc = .ok (.invokevirtual index, 3)) (hM : CtI T y wm rm mc ms (Value.ref b :: As) wc post) (hk : CkOK y wm rm mc ms bytes maxL ret n) (hG : GoodIn Ts (wsV own index C y wm)) (hyC : y.cls = C) {ci : Nat} {TT : u_T} {N : Nat} {fs : List Value} (hci : vwCl[ci]? = some (C, TT, N)) (q0 : Nat) (hq0 : ws[q0]? = some (b, .inr (ci, fs))) (hR : rmFit rm maxL R) (hAs : As.length = n) (hst0 : st0 = As.reverse ++ .ref b :: stk) (hcat : (stk.map fun v => v.category).sum ≤ 8) (hroom : cells + mc ≤ R.cells ∧ slots + ms ≤ R.slots) (hce : cells + mc = cells') (hsl : slots + ms = slots')
    (isC isR : List Nat) (hC : isC.map (fun i => ws[i]?) = wc.map some) (hRr : isR.map (fun i => ws[i]?) = wr.map some) (hnC : va_nd isC = true) (hnR : va_nd isR = true) (hdis : ∀ i ∈ isR, i ∉ isC)
    (k : ∀ (r : Int32) (u : va_W), post r u → J X cells' slots' (pc + 3) lv (.int r :: stk) (wr ++ u)) : J X cells slots pc lv st0 ws := by
  obtain ⟨p, l, e, R', s, m, args, below, meth, c, D, A, H0, nL', Q⟩ := X
  obtain ⟨hx, hb, hml, hnl, hR', hown, hts, hK, hN, hA, hlk, hE⟩ := h
  subst hnl; subst hR'; subst hst0; subst hce; subst hsl
  obtain ⟨⟨ws', hwm⟩, hrc, hrs, hd0⟩ := hk
  intro H locs ls hP hD hS hl
  have hsubC : isC.filterMap (fun i => ws[i]?) = wc := by
    have h1 := congrArg (List.filterMap id) hC
    simpa [List.filterMap_map, Function.comp_def] using h1
  have hPc := hP.sub isC hsubC
  have hDc := hD.sub isC hnC hC
  have hFc := va_free (wc := wc) hD hS hA isC hC
  have hpre : ∀ U : State, U.heap = H → s.WarmedH U.vm → va_Pc (Value.ref b :: As) (CtP T D H.size wc) (Value.ref b :: As).toArray U := fun U hU hW => ⟨rfl, by rw [hU], NW.warm hW hN, by rw [hU]; exact hPc, va_K.moved hW.alike hK, hDc.weaken (fun _ _ _ _ => trivial), by rw [hU]; exact SS.warm hW ((hE.kept hS.2.1).narrow hFc)⟩
  refine va_calli (va_runV (As := As) (rest := stk) ⟨hx, hb, hml, hown, hts⟩ (hM l D H.size) (cwV n hts hG hwm hrc hrs ⟨hyC, hd0⟩ hR) ⟨CtP.blind, va_recv hK hP hci hq0, fun U hU hW => hpre U hU hW⟩ rfl hAs hl.1 rfl (lv_room hcat) hd hroom) hS (fun q _ h => hFc q h) hFc (fun r u t H1 locs1 ht hvm hw hB hz1 hk1 hS1 => ?_)
  obtain ⟨hP1, hD1⟩ := hB
  rw [ht] at hP1
  obtain ⟨hP2, hD2⟩ := va_join (wr := wr) (w1 := u) hP hD isC isR hC hRr hnR hdis hk1 hFc hP1 hD1
  exact k r u hw H1 locs1 ls hP2 hD2 hS1 hl
theorem j_callVv (h : CxOK X T cc own Ts R nL) {y : MethodName} {b : Nat} {C : String} {index : Nat} {bytes : ByteArray} {maxL n mc ms : Nat} {ret : Option FieldType} {wm : List Cond} {rm : Room} {As st0 : List Value} {wc wr : va_W} {post : va_W → Prop} {cells' slots' : Nat}
    (hd : decode cc pc = .ok (.invokevirtual index, 3)) (hM : CtV T y wm rm mc ms (Value.ref b :: As) wc post) (hk : CkOK y wm rm mc ms bytes maxL ret n) (hG : GoodIn Ts (wsV own index C y wm)) (hyC : y.cls = C) {ci : Nat} {TT : u_T} {N : Nat} {fs : List Value} (hci : vwCl[ci]? = some (C, TT, N)) (q0 : Nat) (hq0 : ws[q0]? = some (b, .inr (ci, fs))) (hR : rmFit rm maxL R) (hAs : As.length = n) (hst0 : st0 = As.reverse ++ .ref b :: stk) (hcat : (stk.map fun v => v.category).sum ≤ 8) (hroom : cells + mc ≤ R.cells ∧ slots + ms ≤ R.slots) (hce : cells + mc = cells') (hsl : slots + ms = slots')
    (isC isR : List Nat) (hC : isC.map (fun i => ws[i]?) = wc.map some) (hRr : isR.map (fun i => ws[i]?) = wr.map some) (hnC : va_nd isC = true) (hnR : va_nd isR = true) (hdis : ∀ i ∈ isR, i ∉ isC)
    (k : ∀ (u : va_W), post u → J X cells' slots' (pc + 3) lv (stk) (wr ++ u)) : J X cells slots pc lv st0 ws := by
  obtain ⟨p, l, e, R', s, m, args, below, meth, c, D, A, H0, nL', Q⟩ := X
  obtain ⟨hx, hb, hml, hnl, hR', hown, hts, hK, hN, hA, hlk, hE⟩ := h
  subst hnl; subst hR'; subst hst0; subst hce; subst hsl
  obtain ⟨⟨ws', hwm⟩, hrc, hrs, hd0⟩ := hk
  intro H locs ls hP hD hS hl
  have hsubC : isC.filterMap (fun i => ws[i]?) = wc := by
    have h1 := congrArg (List.filterMap id) hC
    simpa [List.filterMap_map, Function.comp_def] using h1
  have hPc := hP.sub isC hsubC
  have hDc := hD.sub isC hnC hC
  have hFc := va_free (wc := wc) hD hS hA isC hC
  have hpre : ∀ U : State, U.heap = H → s.WarmedH U.vm → va_Pc (Value.ref b :: As) (CtP T D H.size wc) (Value.ref b :: As).toArray U := fun U hU hW => ⟨rfl, by rw [hU], NW.warm hW hN, by rw [hU]; exact hPc, va_K.moved hW.alike hK, hDc.weaken (fun _ _ _ _ => trivial), by rw [hU]; exact SS.warm hW ((hE.kept hS.2.1).narrow hFc)⟩
  refine va_callv (va_runV (As := As) (rest := stk) ⟨hx, hb, hml, hown, hts⟩ (hM l D H.size) (cwV n hts hG hwm hrc hrs ⟨hyC, hd0⟩ hR) ⟨CtP.blind, va_recv hK hP hci hq0, fun U hU hW => hpre U hU hW⟩ rfl hAs hl.1 rfl (lv_room hcat) hd hroom) hS (fun q _ h => hFc q h) hFc (fun u t H1 locs1 ht hvm hw hB hz1 hk1 hS1 => ?_)
  obtain ⟨hP1, hD1⟩ := hB
  rw [ht] at hP1
  obtain ⟨hP2, hD2⟩ := va_join (wr := wr) (w1 := u) hP hD isC isR hC hRr hnR hdis hk1 hFc hP1 hD1
  exact k u hw H1 locs1 ls hP2 hD2 hS1 hl
theorem j_callVl (h : CxOK X T cc own Ts R nL) {y : MethodName} {b : Nat} {C : String} {index : Nat} {bytes : ByteArray} {maxL n mc ms : Nat} {ret : Option FieldType} {wm : List Cond} {rm : Room} {As st0 : List Value} {wc wr : va_W} {post : Int64 → va_W → Prop} {cells' slots' : Nat}
    (hd : decode cc pc = .ok (.invokevirtual index, 3)) (hM : CtL T y wm rm mc ms (Value.ref b :: As) wc post) (hk : CkOK y wm rm mc ms bytes maxL ret n) (hG : GoodIn Ts (wsV own index C y wm)) (hyC : y.cls = C) {ci : Nat} {TT : u_T} {N : Nat} {fs : List Value} (hci : vwCl[ci]? = some (C, TT, N)) (q0 : Nat) (hq0 : ws[q0]? = some (b, .inr (ci, fs))) (hR : rmFit rm maxL R) (hAs : As.length = n) (hst0 : st0 = As.reverse ++ .ref b :: stk) (hcat : (stk.map fun v => v.category).sum ≤ 8) (hroom : cells + mc ≤ R.cells ∧ slots + ms ≤ R.slots) (hce : cells + mc = cells') (hsl : slots + ms = slots')
    (isC isR : List Nat) (hC : isC.map (fun i => ws[i]?) = wc.map some) (hRr : isR.map (fun i => ws[i]?) = wr.map some) (hnC : va_nd isC = true) (hnR : va_nd isR = true) (hdis : ∀ i ∈ isR, i ∉ isC)
    (k : ∀ (r : Int64) (u : va_W), post r u → J X cells' slots' (pc + 3) lv (.long r :: stk) (wr ++ u)) : J X cells slots pc lv st0 ws := by
  obtain ⟨p, l, e, R', s, m, args, below, meth, c, D, A, H0, nL', Q⟩ := X
  obtain ⟨hx, hb, hml, hnl, hR', hown, hts, hK, hN, hA, hlk, hE⟩ := h
  subst hnl; subst hR'; subst hst0; subst hce; subst hsl
  obtain ⟨⟨ws', hwm⟩, hrc, hrs, hd0⟩ := hk
  intro H locs ls hP hD hS hl
  have hsubC : isC.filterMap (fun i => ws[i]?) = wc := by
    have h1 := congrArg (List.filterMap id) hC
    simpa [List.filterMap_map, Function.comp_def] using h1
  have hPc := hP.sub isC hsubC
  have hDc := hD.sub isC hnC hC
  have hFc := va_free (wc := wc) hD hS hA isC hC
  have hpre : ∀ U : State, U.heap = H → s.WarmedH U.vm → va_Pc (Value.ref b :: As) (CtP T D H.size wc) (Value.ref b :: As).toArray U := fun U hU hW => ⟨rfl, by rw [hU], NW.warm hW hN, by rw [hU]; exact hPc, va_K.moved hW.alike hK, hDc.weaken (fun _ _ _ _ => trivial), by rw [hU]; exact SS.warm hW ((hE.kept hS.2.1).narrow hFc)⟩
  refine va_calll (va_runV (As := As) (rest := stk) ⟨hx, hb, hml, hown, hts⟩ (hM l D H.size) (cwV n hts hG hwm hrc hrs ⟨hyC, hd0⟩ hR) ⟨CtP.blind, va_recv hK hP hci hq0, fun U hU hW => hpre U hU hW⟩ rfl hAs hl.1 rfl (lv_room hcat) hd hroom) hS (fun q _ h => hFc q h) hFc (fun r u t H1 locs1 ht hvm hw hB hz1 hk1 hS1 => ?_)
  obtain ⟨hP1, hD1⟩ := hB
  rw [ht] at hP1
  obtain ⟨hP2, hD2⟩ := va_join (wr := wr) (w1 := u) hP hD isC isR hC hRr hnR hdis hk1 hFc hP1 hD1
  exact k r u hw H1 locs1 ls hP2 hD2 hS1 hl
theorem j_callSi (h : CxOK X T cc own Ts R nL) {y : MethodName} {index : Nat} {bytes : ByteArray} {maxL n mc ms : Nat} {ret : Option FieldType} {wm : List Cond} {rm : Room} {As st0 : List Value} {wc wr : va_W} {post : Int32 → va_W → Prop} {cells' slots' : Nat}
    (hd : decode cc pc = .ok (.invokestatic index, 3)) (hM : CtI T y wm rm mc ms As wc post) (hk : CkOK y wm rm mc ms bytes maxL ret n) (hG : GoodIn Ts (va_wsS own index y wm)) (hR : rmFit rm maxL R) (hAs : As.length = n) (hst0 : st0 = As.reverse ++ stk) (hcat : (stk.map fun v => v.category).sum ≤ 8) (hroom : cells + mc ≤ R.cells ∧ slots + ms ≤ R.slots) (hce : cells + mc = cells') (hsl : slots + ms = slots')
    (isC isR : List Nat) (hC : isC.map (fun i => ws[i]?) = wc.map some) (hRr : isR.map (fun i => ws[i]?) = wr.map some) (hnC : va_nd isC = true) (hnR : va_nd isR = true) (hdis : ∀ i ∈ isR, i ∉ isC)
    (k : ∀ (r : Int32) (u : va_W), post r u → J X cells' slots' (pc + 3) lv (.int r :: stk) (wr ++ u)) : J X cells slots pc lv st0 ws := by
  obtain ⟨p, l, e, R', s, m, args, below, meth, c, D, A, H0, nL', Q⟩ := X
  obtain ⟨hx, hb, hml, hnl, hR', hown, hts, hK, hN, hA, hlk, hE⟩ := h
  subst hnl; subst hR'; subst hst0; subst hce; subst hsl
  obtain ⟨⟨ws', hwm⟩, hrc, hrs, hd0⟩ := hk
  intro H locs ls hP hD hS hl
  have hsubC : isC.filterMap (fun i => ws[i]?) = wc := by
    have h1 := congrArg (List.filterMap id) hC
    simpa [List.filterMap_map, Function.comp_def] using h1
  have hPc := hP.sub isC hsubC
  have hDc := hD.sub isC hnC hC
  have hFc := va_free (wc := wc) hD hS hA isC hC
  have hpre : ∀ U : State, U.heap = H → s.WarmedH U.vm → va_Pc As (CtP T D H.size wc) (As).toArray U := fun U hU hW => ⟨rfl, by rw [hU], NW.warm hW hN, by rw [hU]; exact hPc, va_K.moved hW.alike hK, hDc.weaken (fun _ _ _ _ => trivial), by rw [hU]; exact SS.warm hW ((hE.kept hS.2.1).narrow hFc)⟩
  refine va_calli (va_runS (As := As) (rest := stk) ⟨hx, hb, hml, hown, hts⟩ (hM l D H.size) (va_cwS n hts hG hwm hrc hrs hd0 hR) ⟨CtP.blind, fun U hU hW => hpre U hU hW⟩ rfl hAs hl.1 rfl (lv_room hcat) hd hroom) hS (fun q _ h => hFc q h) hFc (fun r u t H1 locs1 ht hvm hw hB hz1 hk1 hS1 => ?_)
  obtain ⟨hP1, hD1⟩ := hB
  rw [ht] at hP1
  obtain ⟨hP2, hD2⟩ := va_join (wr := wr) (w1 := u) hP hD isC isR hC hRr hnR hdis hk1 hFc hP1 hD1
  exact k r u hw H1 locs1 ls hP2 hD2 hS1 hl
theorem j_callSv (h : CxOK X T cc own Ts R nL) {y : MethodName} {index : Nat} {bytes : ByteArray} {maxL n mc ms : Nat} {ret : Option FieldType} {wm : List Cond} {rm : Room} {As st0 : List Value} {wc wr : va_W} {post : va_W → Prop} {cells' slots' : Nat}
    (hd : decode cc pc = .ok (.invokestatic index, 3)) (hM : CtV T y wm rm mc ms As wc post) (hk : CkOK y wm rm mc ms bytes maxL ret n) (hG : GoodIn Ts (va_wsS own index y wm)) (hR : rmFit rm maxL R) (hAs : As.length = n) (hst0 : st0 = As.reverse ++ stk) (hcat : (stk.map fun v => v.category).sum ≤ 8) (hroom : cells + mc ≤ R.cells ∧ slots + ms ≤ R.slots) (hce : cells + mc = cells') (hsl : slots + ms = slots')
    (isC isR : List Nat) (hC : isC.map (fun i => ws[i]?) = wc.map some) (hRr : isR.map (fun i => ws[i]?) = wr.map some) (hnC : va_nd isC = true) (hnR : va_nd isR = true) (hdis : ∀ i ∈ isR, i ∉ isC)
    (k : ∀ (u : va_W), post u → J X cells' slots' (pc + 3) lv (stk) (wr ++ u)) : J X cells slots pc lv st0 ws := by
  obtain ⟨p, l, e, R', s, m, args, below, meth, c, D, A, H0, nL', Q⟩ := X
  obtain ⟨hx, hb, hml, hnl, hR', hown, hts, hK, hN, hA, hlk, hE⟩ := h
  subst hnl; subst hR'; subst hst0; subst hce; subst hsl
  obtain ⟨⟨ws', hwm⟩, hrc, hrs, hd0⟩ := hk
  intro H locs ls hP hD hS hl
  have hsubC : isC.filterMap (fun i => ws[i]?) = wc := by
    have h1 := congrArg (List.filterMap id) hC
    simpa [List.filterMap_map, Function.comp_def] using h1
  have hPc := hP.sub isC hsubC
  have hDc := hD.sub isC hnC hC
  have hFc := va_free (wc := wc) hD hS hA isC hC
  have hpre : ∀ U : State, U.heap = H → s.WarmedH U.vm → va_Pc As (CtP T D H.size wc) (As).toArray U := fun U hU hW => ⟨rfl, by rw [hU], NW.warm hW hN, by rw [hU]; exact hPc, va_K.moved hW.alike hK, hDc.weaken (fun _ _ _ _ => trivial), by rw [hU]; exact SS.warm hW ((hE.kept hS.2.1).narrow hFc)⟩
  refine va_callv (va_runS (As := As) (rest := stk) ⟨hx, hb, hml, hown, hts⟩ (hM l D H.size) (va_cwS n hts hG hwm hrc hrs hd0 hR) ⟨CtP.blind, fun U hU hW => hpre U hU hW⟩ rfl hAs hl.1 rfl (lv_room hcat) hd hroom) hS (fun q _ h => hFc q h) hFc (fun u t H1 locs1 ht hvm hw hB hz1 hk1 hS1 => ?_)
  obtain ⟨hP1, hD1⟩ := hB
  rw [ht] at hP1
  obtain ⟨hP2, hD2⟩ := va_join (wr := wr) (w1 := u) hP hD isC isR hC hRr hnR hdis hk1 hFc hP1 hD1
  exact k u hw H1 locs1 ls hP2 hD2 hS1 hl
theorem j_callSl (h : CxOK X T cc own Ts R nL) {y : MethodName} {index : Nat} {bytes : ByteArray} {maxL n mc ms : Nat} {ret : Option FieldType} {wm : List Cond} {rm : Room} {As st0 : List Value} {wc wr : va_W} {post : Int64 → va_W → Prop} {cells' slots' : Nat}
    (hd : decode cc pc = .ok (.invokestatic index, 3)) (hM : CtL T y wm rm mc ms As wc post) (hk : CkOK y wm rm mc ms bytes maxL ret n) (hG : GoodIn Ts (va_wsS own index y wm)) (hR : rmFit rm maxL R) (hAs : As.length = n) (hst0 : st0 = As.reverse ++ stk) (hcat : (stk.map fun v => v.category).sum ≤ 8) (hroom : cells + mc ≤ R.cells ∧ slots + ms ≤ R.slots) (hce : cells + mc = cells') (hsl : slots + ms = slots')
    (isC isR : List Nat) (hC : isC.map (fun i => ws[i]?) = wc.map some) (hRr : isR.map (fun i => ws[i]?) = wr.map some) (hnC : va_nd isC = true) (hnR : va_nd isR = true) (hdis : ∀ i ∈ isR, i ∉ isC)
    (k : ∀ (r : Int64) (u : va_W), post r u → J X cells' slots' (pc + 3) lv (.long r :: stk) (wr ++ u)) : J X cells slots pc lv st0 ws := by
  obtain ⟨p, l, e, R', s, m, args, below, meth, c, D, A, H0, nL', Q⟩ := X
  obtain ⟨hx, hb, hml, hnl, hR', hown, hts, hK, hN, hA, hlk, hE⟩ := h
  subst hnl; subst hR'; subst hst0; subst hce; subst hsl
  obtain ⟨⟨ws', hwm⟩, hrc, hrs, hd0⟩ := hk
  intro H locs ls hP hD hS hl
  have hsubC : isC.filterMap (fun i => ws[i]?) = wc := by
    have h1 := congrArg (List.filterMap id) hC
    simpa [List.filterMap_map, Function.comp_def] using h1
  have hPc := hP.sub isC hsubC
  have hDc := hD.sub isC hnC hC
  have hFc := va_free (wc := wc) hD hS hA isC hC
  have hpre : ∀ U : State, U.heap = H → s.WarmedH U.vm → va_Pc As (CtP T D H.size wc) (As).toArray U := fun U hU hW => ⟨rfl, by rw [hU], NW.warm hW hN, by rw [hU]; exact hPc, va_K.moved hW.alike hK, hDc.weaken (fun _ _ _ _ => trivial), by rw [hU]; exact SS.warm hW ((hE.kept hS.2.1).narrow hFc)⟩
  refine va_calll (va_runS (As := As) (rest := stk) ⟨hx, hb, hml, hown, hts⟩ (hM l D H.size) (va_cwS n hts hG hwm hrc hrs hd0 hR) ⟨CtP.blind, fun U hU hW => hpre U hU hW⟩ rfl hAs hl.1 rfl (lv_room hcat) hd hroom) hS (fun q _ h => hFc q h) hFc (fun r u t H1 locs1 ht hvm hw hB hz1 hk1 hS1 => ?_)
  obtain ⟨hP1, hD1⟩ := hB
  rw [ht] at hP1
  obtain ⟨hP2, hD2⟩ := va_join (wr := wr) (w1 := u) hP hD isC isR hC hRr hnR hdis hk1 hFc hP1 hD1
  exact k r u hw H1 locs1 ls hP2 hD2 hS1 hl
theorem j_callSNi (h : CxOK X T cc own Ts R nL) {y : MethodName} {host : String} {index : Nat} {bytes : ByteArray} {maxL n mc ms : Nat} {ret : Option FieldType} {wm : List Cond} {rm : Room} {As st0 : List Value} {wc wr : va_W} {post : Int32 → va_W → Prop} {cells' slots' : Nat}
    (hd : decode cc pc = .ok (.invokestatic index, 3)) (hM : CtI T y wm rm mc ms As wc post) (hk : CkOK y wm rm mc ms bytes maxL ret n) (hG : GoodIn Ts wm) (hnw : (own, index, y, host) ∈ NWm) (hini : Cond.initialized y.cls ∈ Ts) (hst : Cond.static y ∈ Ts) (hR : rmFit rm maxL R) (hAs : As.length = n) (hst0 : st0 = As.reverse ++ stk) (hcat : (stk.map fun v => v.category).sum ≤ 8) (hroom : cells + mc ≤ R.cells ∧ slots + ms ≤ R.slots) (hce : cells + mc = cells') (hsl : slots + ms = slots')
    (isC isR : List Nat) (hC : isC.map (fun i => ws[i]?) = wc.map some) (hRr : isR.map (fun i => ws[i]?) = wr.map some) (hnC : va_nd isC = true) (hnR : va_nd isR = true) (hdis : ∀ i ∈ isR, i ∉ isC)
    (k : ∀ (r : Int32) (u : va_W), post r u → J X cells' slots' (pc + 3) lv (.int r :: stk) (wr ++ u)) : J X cells slots pc lv st0 ws := by
  obtain ⟨p, l, e, R', s, m, args, below, meth, c, D, A, H0, nL', Q⟩ := X
  obtain ⟨hx, hb, hml, hnl, hR', hown, hts, hK, hN, hA, hlk, hE⟩ := h
  subst hnl; subst hR'; subst hst0; subst hce; subst hsl
  obtain ⟨⟨ws', hwm⟩, hrc, hrs, hd0⟩ := hk
  intro H locs ls hP hD hS hl
  have hsubC : isC.filterMap (fun i => ws[i]?) = wc := by
    have h1 := congrArg (List.filterMap id) hC
    simpa [List.filterMap_map, Function.comp_def] using h1
  have hPc := hP.sub isC hsubC
  have hDc := hD.sub isC hnC hC
  have hFc := va_free (wc := wc) hD hS hA isC hC
  have hpre : ∀ U : State, U.heap = H → s.WarmedH U.vm → va_Pc As (CtP T D H.size wc) (As).toArray U := fun U hU hW => ⟨rfl, by rw [hU], NW.warm hW hN, by rw [hU]; exact hPc, va_K.moved hW.alike hK, hDc.weaken (fun _ _ _ _ => trivial), by rw [hU]; exact SS.warm hW ((hE.kept hS.2.1).narrow hFc)⟩
  refine va_calli (va_runSN (As := As) (rest := stk) ⟨hx, hb, hml, hown, hts⟩ (hM l D H.size) ⟨va_cnB n hts hG hwm hrc hrs (hN.2 _ hnw) (hts _ hini) hd0 hR, hts _ hst, trivial⟩ ⟨CtP.blind, fun U hU hW => hpre U hU hW⟩ rfl hAs hl.1 rfl (lv_room hcat) hd hroom) hS (fun q _ h => hFc q h) hFc (fun r u t H1 locs1 ht hvm hw hB hz1 hk1 hS1 => ?_)
  obtain ⟨hP1, hD1⟩ := hB
  rw [ht] at hP1
  obtain ⟨hP2, hD2⟩ := va_join (wr := wr) (w1 := u) hP hD isC isR hC hRr hnR hdis hk1 hFc hP1 hD1
  exact k r u hw H1 locs1 ls hP2 hD2 hS1 hl
theorem j_callSNv (h : CxOK X T cc own Ts R nL) {y : MethodName} {host : String} {index : Nat} {bytes : ByteArray} {maxL n mc ms : Nat} {ret : Option FieldType} {wm : List Cond} {rm : Room} {As st0 : List Value} {wc wr : va_W} {post : va_W → Prop} {cells' slots' : Nat}
    (hd : decode cc pc = .ok (.invokestatic index, 3)) (hM : CtV T y wm rm mc ms As wc post) (hk : CkOK y wm rm mc ms bytes maxL ret n) (hG : GoodIn Ts wm) (hnw : (own, index, y, host) ∈ NWm) (hini : Cond.initialized y.cls ∈ Ts) (hst : Cond.static y ∈ Ts) (hR : rmFit rm maxL R) (hAs : As.length = n) (hst0 : st0 = As.reverse ++ stk) (hcat : (stk.map fun v => v.category).sum ≤ 8) (hroom : cells + mc ≤ R.cells ∧ slots + ms ≤ R.slots) (hce : cells + mc = cells') (hsl : slots + ms = slots')
    (isC isR : List Nat) (hC : isC.map (fun i => ws[i]?) = wc.map some) (hRr : isR.map (fun i => ws[i]?) = wr.map some) (hnC : va_nd isC = true) (hnR : va_nd isR = true) (hdis : ∀ i ∈ isR, i ∉ isC)
    (k : ∀ (u : va_W), post u → J X cells' slots' (pc + 3) lv (stk) (wr ++ u)) : J X cells slots pc lv st0 ws := by
  obtain ⟨p, l, e, R', s, m, args, below, meth, c, D, A, H0, nL', Q⟩ := X
  obtain ⟨hx, hb, hml, hnl, hR', hown, hts, hK, hN, hA, hlk, hE⟩ := h
  subst hnl; subst hR'; subst hst0; subst hce; subst hsl
  obtain ⟨⟨ws', hwm⟩, hrc, hrs, hd0⟩ := hk
  intro H locs ls hP hD hS hl
  have hsubC : isC.filterMap (fun i => ws[i]?) = wc := by
    have h1 := congrArg (List.filterMap id) hC
    simpa [List.filterMap_map, Function.comp_def] using h1
  have hPc := hP.sub isC hsubC
  have hDc := hD.sub isC hnC hC
  have hFc := va_free (wc := wc) hD hS hA isC hC
  have hpre : ∀ U : State, U.heap = H → s.WarmedH U.vm → va_Pc As (CtP T D H.size wc) (As).toArray U := fun U hU hW => ⟨rfl, by rw [hU], NW.warm hW hN, by rw [hU]; exact hPc, va_K.moved hW.alike hK, hDc.weaken (fun _ _ _ _ => trivial), by rw [hU]; exact SS.warm hW ((hE.kept hS.2.1).narrow hFc)⟩
  refine va_callv (va_runSN (As := As) (rest := stk) ⟨hx, hb, hml, hown, hts⟩ (hM l D H.size) ⟨va_cnB n hts hG hwm hrc hrs (hN.2 _ hnw) (hts _ hini) hd0 hR, hts _ hst, trivial⟩ ⟨CtP.blind, fun U hU hW => hpre U hU hW⟩ rfl hAs hl.1 rfl (lv_room hcat) hd hroom) hS (fun q _ h => hFc q h) hFc (fun u t H1 locs1 ht hvm hw hB hz1 hk1 hS1 => ?_)
  obtain ⟨hP1, hD1⟩ := hB
  rw [ht] at hP1
  obtain ⟨hP2, hD2⟩ := va_join (wr := wr) (w1 := u) hP hD isC isR hC hRr hnR hdis hk1 hFc hP1 hD1
  exact k u hw H1 locs1 ls hP2 hD2 hS1 hl
theorem j_callSNl (h : CxOK X T cc own Ts R nL) {y : MethodName} {host : String} {index : Nat} {bytes : ByteArray} {maxL n mc ms : Nat} {ret : Option FieldType} {wm : List Cond} {rm : Room} {As st0 : List Value} {wc wr : va_W} {post : Int64 → va_W → Prop} {cells' slots' : Nat}
    (hd : decode cc pc = .ok (.invokestatic index, 3)) (hM : CtL T y wm rm mc ms As wc post) (hk : CkOK y wm rm mc ms bytes maxL ret n) (hG : GoodIn Ts wm) (hnw : (own, index, y, host) ∈ NWm) (hini : Cond.initialized y.cls ∈ Ts) (hst : Cond.static y ∈ Ts) (hR : rmFit rm maxL R) (hAs : As.length = n) (hst0 : st0 = As.reverse ++ stk) (hcat : (stk.map fun v => v.category).sum ≤ 8) (hroom : cells + mc ≤ R.cells ∧ slots + ms ≤ R.slots) (hce : cells + mc = cells') (hsl : slots + ms = slots')
    (isC isR : List Nat) (hC : isC.map (fun i => ws[i]?) = wc.map some) (hRr : isR.map (fun i => ws[i]?) = wr.map some) (hnC : va_nd isC = true) (hnR : va_nd isR = true) (hdis : ∀ i ∈ isR, i ∉ isC)
    (k : ∀ (r : Int64) (u : va_W), post r u → J X cells' slots' (pc + 3) lv (.long r :: stk) (wr ++ u)) : J X cells slots pc lv st0 ws := by
  obtain ⟨p, l, e, R', s, m, args, below, meth, c, D, A, H0, nL', Q⟩ := X
  obtain ⟨hx, hb, hml, hnl, hR', hown, hts, hK, hN, hA, hlk, hE⟩ := h
  subst hnl; subst hR'; subst hst0; subst hce; subst hsl
  obtain ⟨⟨ws', hwm⟩, hrc, hrs, hd0⟩ := hk
  intro H locs ls hP hD hS hl
  have hsubC : isC.filterMap (fun i => ws[i]?) = wc := by
    have h1 := congrArg (List.filterMap id) hC
    simpa [List.filterMap_map, Function.comp_def] using h1
  have hPc := hP.sub isC hsubC
  have hDc := hD.sub isC hnC hC
  have hFc := va_free (wc := wc) hD hS hA isC hC
  have hpre : ∀ U : State, U.heap = H → s.WarmedH U.vm → va_Pc As (CtP T D H.size wc) (As).toArray U := fun U hU hW => ⟨rfl, by rw [hU], NW.warm hW hN, by rw [hU]; exact hPc, va_K.moved hW.alike hK, hDc.weaken (fun _ _ _ _ => trivial), by rw [hU]; exact SS.warm hW ((hE.kept hS.2.1).narrow hFc)⟩
  refine va_calll (va_runSN (As := As) (rest := stk) ⟨hx, hb, hml, hown, hts⟩ (hM l D H.size) ⟨va_cnB n hts hG hwm hrc hrs (hN.2 _ hnw) (hts _ hini) hd0 hR, hts _ hst, trivial⟩ ⟨CtP.blind, fun U hU hW => hpre U hU hW⟩ rfl hAs hl.1 rfl (lv_room hcat) hd hroom) hS (fun q _ h => hFc q h) hFc (fun r u t H1 locs1 ht hvm hw hB hz1 hk1 hS1 => ?_)
  obtain ⟨hP1, hD1⟩ := hB
  rw [ht] at hP1
  obtain ⟨hP2, hD2⟩ := va_join (wr := wr) (w1 := u) hP hD isC isR hC hRr hnR hdis hk1 hFc hP1 hD1
  exact k r u hw H1 locs1 ls hP2 hD2 hS1 hl
theorem j_callIv (h : CxOK X T cc own Ts R nL) {y : MethodName} {b : Nat} {index : Nat} {bytes : ByteArray} {maxL n mc ms : Nat} {wm : List Cond} {rm : Room} {As st0 : List Value} {wc wr : va_W} {post : va_W → Prop} {cells' slots' : Nat}
    (hd : decode cc pc = .ok (.invokespecial index, 3)) (hM : CtV T y wm rm mc ms (Value.ref b :: As) wc post) (hk : CkOK y wm rm mc ms bytes maxL none n) (hG : GoodIn Ts wm) (hini : Cond.initialized y.cls ∈ Ts) (hlk9 : Cond.methodLink own index y ∈ Ts) (him : Cond.instanceMethod y ∈ Ts) (hyn : y.name = "<init>") (hR : rmFit rm maxL R) (hAs : As.length = n) (hst0 : st0 = As.reverse ++ .ref b :: stk) (hcat : (stk.map fun v => v.category).sum ≤ 8) (hroom : cells + mc ≤ R.cells ∧ slots + ms ≤ R.slots) (hce : cells + mc = cells') (hsl : slots + ms = slots')
    (isC isR : List Nat) (hC : isC.map (fun i => ws[i]?) = wc.map some) (hRr : isR.map (fun i => ws[i]?) = wr.map some) (hnC : va_nd isC = true) (hnR : va_nd isR = true) (hdis : ∀ i ∈ isR, i ∉ isC)
    (k : ∀ (u : va_W), post u → J X cells' slots' (pc + 3) lv (stk) (wr ++ u)) : J X cells slots pc lv st0 ws := by
  obtain ⟨p, l, e, R', s, m, args, below, meth, c, D, A, H0, nL', Q⟩ := X
  obtain ⟨hx, hb, hml, hnl, hR', hown, hts, hK, hN, hA, hlk, hE⟩ := h
  subst hnl; subst hR'; subst hst0; subst hce; subst hsl
  obtain ⟨⟨ws', hwm⟩, hrc, hrs, hd0⟩ := hk
  intro H locs ls hP hD hS hl
  have hsubC : isC.filterMap (fun i => ws[i]?) = wc := by
    have h1 := congrArg (List.filterMap id) hC
    simpa [List.filterMap_map, Function.comp_def] using h1
  have hPc := hP.sub isC hsubC
  have hDc := hD.sub isC hnC hC
  have hFc := va_free (wc := wc) hD hS hA isC hC
  have hpre : ∀ U : State, U.heap = H → s.WarmedH U.vm → va_Pc (Value.ref b :: As) (CtP T D H.size wc) (Value.ref b :: As).toArray U := fun U hU hW => ⟨rfl, by rw [hU], NW.warm hW hN, by rw [hU]; exact hPc, va_K.moved hW.alike hK, hDc.weaken (fun _ _ _ _ => trivial), by rw [hU]; exact SS.warm hW ((hE.kept hS.2.1).narrow hFc)⟩
  refine va_callv (va_runI (As := As) (rest := stk) ⟨hx, hb, hml, hown, hts⟩ (hM l D H.size) (cwI n hts hG hwm hrc hrs (hts _ hini) (hts _ hlk9) (hts _ him) hyn hd0 hR) ⟨CtP.blind, fun U hU hW => hpre U hU hW⟩ rfl hAs hl.1 rfl (lv_room hcat) hd hroom) hS (fun q _ h => hFc q h) hFc (fun u t H1 locs1 ht hvm hw hB hz1 hk1 hS1 => ?_)
  obtain ⟨hP1, hD1⟩ := hB
  rw [ht] at hP1
  obtain ⟨hP2, hD2⟩ := va_join (wr := wr) (w1 := u) hP hD isC isR hC hRr hnR hdis hk1 hFc hP1 hD1
  exact k u hw H1 locs1 ls hP2 hD2 hS1 hl
theorem j_callINv (h : CxOK X T cc own Ts R nL) {y : MethodName} {b : Nat} {host : String} {index : Nat} {bytes : ByteArray} {maxL n mc ms : Nat} {wm : List Cond} {rm : Room} {As st0 : List Value} {wc wr : va_W} {post : va_W → Prop} {cells' slots' : Nat}
    (hd : decode cc pc = .ok (.invokespecial index, 3)) (hM : CtV T y wm rm mc ms (Value.ref b :: As) wc post) (hk : CkOK y wm rm mc ms bytes maxL none n) (hG : GoodIn Ts wm) (hnw : (own, index, y, host) ∈ NWm) (hini : Cond.initialized y.cls ∈ Ts) (him : Cond.instanceMethod y ∈ Ts) (hyn : y.name = "<init>") (hR : rmFit rm maxL R) (hAs : As.length = n) (hst0 : st0 = As.reverse ++ .ref b :: stk) (hcat : (stk.map fun v => v.category).sum ≤ 8) (hroom : cells + mc ≤ R.cells ∧ slots + ms ≤ R.slots) (hce : cells + mc = cells') (hsl : slots + ms = slots')
    (isC isR : List Nat) (hC : isC.map (fun i => ws[i]?) = wc.map some) (hRr : isR.map (fun i => ws[i]?) = wr.map some) (hnC : va_nd isC = true) (hnR : va_nd isR = true) (hdis : ∀ i ∈ isR, i ∉ isC)
    (k : ∀ (u : va_W), post u → J X cells' slots' (pc + 3) lv (stk) (wr ++ u)) : J X cells slots pc lv st0 ws := by
  obtain ⟨p, l, e, R', s, m, args, below, meth, c, D, A, H0, nL', Q⟩ := X
  obtain ⟨hx, hb, hml, hnl, hR', hown, hts, hK, hN, hA, hlk, hE⟩ := h
  subst hnl; subst hR'; subst hst0; subst hce; subst hsl
  obtain ⟨⟨ws', hwm⟩, hrc, hrs, hd0⟩ := hk
  intro H locs ls hP hD hS hl
  have hsubC : isC.filterMap (fun i => ws[i]?) = wc := by
    have h1 := congrArg (List.filterMap id) hC
    simpa [List.filterMap_map, Function.comp_def] using h1
  have hPc := hP.sub isC hsubC
  have hDc := hD.sub isC hnC hC
  have hFc := va_free (wc := wc) hD hS hA isC hC
  have hpre : ∀ U : State, U.heap = H → s.WarmedH U.vm → va_Pc (Value.ref b :: As) (CtP T D H.size wc) (Value.ref b :: As).toArray U := fun U hU hW => ⟨rfl, by rw [hU], NW.warm hW hN, by rw [hU]; exact hPc, va_K.moved hW.alike hK, hDc.weaken (fun _ _ _ _ => trivial), by rw [hU]; exact SS.warm hW ((hE.kept hS.2.1).narrow hFc)⟩
  refine va_callv (va_runIN (As := As) (rest := stk) ⟨hx, hb, hml, hown, hts⟩ (hM l D H.size) ⟨va_cnB n hts hG hwm hrc hrs (hN.2 _ hnw) (hts _ hini) hd0 hR, hyn, hts _ him⟩ ⟨CtP.blind, fun U hU hW => hpre U hU hW⟩ rfl hAs hl.1 rfl (lv_room hcat) hd hroom) hS (fun q _ h => hFc q h) hFc (fun u t H1 locs1 ht hvm hw hB hz1 hk1 hS1 => ?_)
  obtain ⟨hP1, hD1⟩ := hB
  rw [ht] at hP1
  obtain ⟨hP2, hD2⟩ := va_join (wr := wr) (w1 := u) hP hD isC isR hC hRr hnR hdis hk1 hFc hP1 hD1
  exact k u hw H1 locs1 ls hP2 hD2 hS1 hl
end JCALL
theorem nz_bool (b : Bool) : narrow .boolean (.int (iI (bI b))) = .int (iI (bI b)) := by cases b <;> rfl
