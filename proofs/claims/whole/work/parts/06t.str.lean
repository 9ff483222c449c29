/-! STRINGS: the constants of LayerShop, their lengths and letters; results that are references; worlds with an opaque tail -/
abbrev strZ : List (List Int) := [[108, 97, 121], [99, 117, 116], [100, 111, 112, 101], [99, 111, 97, 116], [101, 116, 99, 104], [116, 117, 114, 110], [102, 105, 108, 108], [102, 108, 97, 116], [100, 114, 111, 112], [109, 97, 115, 107], [98, 97, 114, 101], [119, 97, 110, 116], [119, 104, 111, 108, 101], [114, 101, 112, 101, 97, 116], [115, 110, 59], [84, 110, 59], [115, 116, 110, 84, 59], [115, 116, 110, 59], [115, 104, 59], [104, 59], [107, 59], [115, 114, 119, 59], [112, 123], [59]]
def slen (kk : Nat) : Int := ((strZ.getD kk []).length : Int)
def sch (kk : Nat) (i : Int) : Int := (strZ.getD kk []).getD i.toNat 0
theorem slen_e : ∀ kk : Nat, kk < 24 → strL.getD kk 0 = (strZ.getD kk []).length ∧ (strZ.getD kk []).length ≤ 6 := by decide +kernel
theorem slen_rng {kk : Nat} (h : kk < 24) : 0 ≤ slen kk ∧ slen kk ≤ 6 := by have := (slen_e kk h).2; unfold slen; omega
theorem sch_all : ∀ kk : Nat, kk < 24 → ∀ i : Nat, i < 7 → (strB.getD kk []).getD i 0 = iI ((strZ.getD kk []).getD i 0) ∧ 0 ≤ (strZ.getD kk []).getD i 0 ∧ (strZ.getD kk []).getD i 0 < 128 := by decide +kernel
theorem sch_rng {kk : Nat} (h : kk < 24) {i : Int} (hi : 0 ≤ i ∧ i < slen kk) : 0 ≤ sch kk i ∧ sch kk i < 128 := by
  have := slen_rng h
  exact (sch_all kk h i.toNat (by omega)).2
theorem i2c_sm : ∀ n : Nat, n < 128 → ((iI n).toUInt32 % 65536).toInt32 = iI n := by decide +kernel
theorem i2c_z {z : Int} (h : 0 ≤ z ∧ z < 128) : ((iI z).toUInt32 % 65536).toInt32 = iI z := by
  obtain ⟨n, rfl⟩ := Int.eq_ofNat_of_zero_le h.1
  exact i2c_sm n (by omega)
section JSTR
variable {X : JX} {T : Nat → ClassId} {cc : ByteArray} {own : String} {Ts : List Cond} {R : Room} {nL : Nat} {cells slots pc : Nat} {lv : List (Nat × Value)} {stk : List Value} {ws : va_W}
theorem j_ldcS (h : CxOK X T cc own Ts R nL) {index : Nat} (kk : Nat) (hd : decode cc pc = .ok (.ldc index, 2)) (ho : own = "LayerShop") (hk : kk < 24) (hi : 243 + 2 * kk = index) (k : J X cells slots (pc + 2) lv (.ref (T (100 + kk)) :: stk) ws) : J X cells slots pc lv (stk) ws := by
  obtain ⟨p, l, e, R', s, m, args, below, meth, c, D, A, H0, nL', Q⟩ := X
  obtain ⟨hx, hb, hml, hnl, hR', hown, hts, hK, hN, hA, hlk, hE⟩ := h
  subst hnl; subst hR'
  intro H locs ls hP hD hS hl
  subst ho; subst hi
  exact va_ldcS hx hb hown (hE.2.2 kk hk) hd (k H locs ls hP hD hS hl)
theorem j_ldcwS (h : CxOK X T cc own Ts R nL) {index : Nat} (kk : Nat) (hd : decode cc pc = .ok (.ldc_w index, 3)) (ho : own = "LayerShop") (hk : kk < 24) (hi : 243 + 2 * kk = index) (k : J X cells slots (pc + 3) lv (.ref (T (100 + kk)) :: stk) ws) : J X cells slots pc lv (stk) ws := by
  obtain ⟨p, l, e, R', s, m, args, below, meth, c, D, A, H0, nL', Q⟩ := X
  obtain ⟨hx, hb, hml, hnl, hR', hown, hts, hK, hN, hA, hlk, hE⟩ := h
  subst hnl; subst hR'
  intro H locs ls hP hD hS hl
  subst ho; subst hi
  intro t ht Y
  obtain ⟨t2, a1, b1⟩ := k H locs ls hP hD hS hl t ht Y
  exact ⟨t2, Y.ldcStringW hx (own := "LayerShop") (index := 243 + 2 * kk) (a := T (100 + kk)) hown (hE.2.2 kk hk).1 (hE.2.2 kk hk).2 (g := F0 m pc ls stk) rfl (by rw [hb]; exact hd) t2 a1, b1⟩
theorem j_getSV (h : CxOK X T cc own Ts R nL) {index : Nat} (kk : Nat) (hd : decode cc pc = .ok (.getfield index, 3)) (ho : own = "java/lang/String") (hk : kk < 24) (hw : Cond.fieldLink own index "java/lang/String" "value" "[B" ∈ Ts) (k : J X cells slots (pc + 3) lv (.ref (T (200 + kk)) :: stk) ws) : J X cells slots pc lv (.ref (T (100 + kk)) :: stk) ws := by
  obtain ⟨p, l, e, R', s, m, args, below, meth, c, D, A, H0, nL', Q⟩ := X
  obtain ⟨hx, hb, hml, hnl, hR', hown, hts, hK, hN, hA, hlk, hE⟩ := h
  subst hnl; subst hR'
  intro H locs ls hP hD hS hl
  subst ho
  obtain ⟨cf, kf, fi, f, cell, h1, h2, h3, h4, h5, h6⟩ := (hE.1.1 kk hk).2.2.1.kept hS.2.1
  exact W.getf hx hb hown (hts _ hw) h1 h2 h3 h4 (v := .ref (T (200 + kk))) h5 rfl rfl hd (k H locs ls hP hD hS hl)
theorem j_getSC (h : CxOK X T cc own Ts R nL) {index : Nat} (kk : Nat) (hd : decode cc pc = .ok (.getfield index, 3)) (ho : own = "java/lang/String") (hk : kk < 24) (hw : Cond.fieldLink own index "java/lang/String" "coder" "B" ∈ Ts) (k : J X cells slots (pc + 3) lv (.int (iI 0) :: stk) ws) : J X cells slots pc lv (.ref (T (100 + kk)) :: stk) ws := by
  obtain ⟨p, l, e, R', s, m, args, below, meth, c, D, A, H0, nL', Q⟩ := X
  obtain ⟨hx, hb, hml, hnl, hR', hown, hts, hK, hN, hA, hlk, hE⟩ := h
  subst hnl; subst hR'
  intro H locs ls hP hD hS hl
  subst ho
  obtain ⟨cf, kf, fi, f, cell, h1, h2, h3, h4, h5, h6⟩ := (hE.1.1 kk hk).2.1.kept hS.2.1
  exact W.getf hx hb hown (hts _ hw) h1 h2 h3 h4 (v := .int 0) h5 rfl rfl hd (k H locs ls hP hD hS hl)
theorem j_alenS (h : CxOK X T cc own Ts R nL) (kk : Nat) (hd : decode cc pc = .ok (.arraylength, 1)) (hk : kk < 24) (k : J X cells slots (pc + 1) lv (.int (iI (slen kk)) :: stk) ws) : J X cells slots pc lv (.ref (T (200 + kk)) :: stk) ws := by
  obtain ⟨p, l, e, R', s, m, args, below, meth, c, D, A, H0, nL', Q⟩ := X
  obtain ⟨hx, hb, hml, hnl, hR', hown, hts, hK, hN, hA, hlk, hE⟩ := h
  subst hnl; subst hR'
  intro H locs ls hP hD hS hl
  obtain ⟨cell, h1, h2, h3, h4, h5, h6, h7⟩ := (hE.1.1 kk hk).2.2.2
  have e : iI (slen kk) = Int32.ofNat (strL.getD kk 0) := by rw [(slen_e kk hk).1]; rfl
  rw [e] at k
  exact W.alen (n := Int32.ofNat (strL.getD kk 0)) hx hb (by rw [hS.2.1 _ (Array.getElem?_eq_some_iff.mp h1).1 h7]; exact h1) h2 h5 rfl rfl hd (k H locs ls hP hD hS hl)
theorem j_baldS (h : CxOK X T cc own Ts R nL) (kk : Nat) (i : Int) (hd : decode cc pc = .ok (.baload, 1)) (hk : kk < 24) (hi : 0 ≤ i ∧ i < slen kk) (k : J X cells slots (pc + 1) lv (.int (iI (sch kk i)) :: stk) ws) : J X cells slots pc lv (.int (iI i) :: .ref (T (200 + kk)) :: stk) ws := by
  obtain ⟨p, l, e, R', s, m, args, below, meth, c, D, A, H0, nL', Q⟩ := X
  obtain ⟨hx, hb, hml, hnl, hR', hown, hts, hK, hN, hA, hlk, hE⟩ := h
  subst hnl; subst hR'
  intro H locs ls hP hD hS hl
  obtain ⟨cell, h1, h2, h3, h4, h5, h6, h7⟩ := (hE.1.1 kk hk).2.2.2
  have hs := slen_rng hk
  have hlen : ((strL.getD kk 0 : Nat) : Int) = slen kk := by rw [(slen_e kk hk).1]; rfl
  have hcl : (iI i).toNatClampNeg = i.toNat := iI_clamp (by omega)
  have hv : (.int ((strB.getD kk []).getD (iI i).toNatClampNeg 0) : Value) = .int (iI (sch kk i)) := by
    rw [hcl, (sch_all kk hk i.toNat (by omega)).1]; rfl
  have hin : vp_in (iI i) (strL.getD kk 0) := iI_in (by omega) (by omega)
  have hlt : (iI i).toNatClampNeg < strL.getD kk 0 := Nat.not_le.mp fun q => hin (Or.inr q)
  have hin' : ¬ (iI i < 0 ∨ cell.slots.size ≤ (iI i).toNatClampNeg) := by
    intro q
    rcases q with q | q
    · exact hin (Or.inl q)
    · omega
  exact W.bald (v := .int (iI (sch kk i))) hx hb (by rw [hS.2.1 _ (Array.getElem?_eq_some_iff.mp h1).1 h7]; exact h1) h2 h3 hin' (by rw [h6 _ hlt]; exact congrArg some hv) rfl rfl hd (k H locs ls hP hD hS hl)
theorem j_gstZ (h : CxOK X T cc own Ts R nL) {index : Nat} (hd : decode cc pc = .ok (.getstatic index, 3)) (hw : Cond.fieldLink own index "java/lang/String" "COMPACT_STRINGS" "Z" ∈ Ts) (k : J X cells slots (pc + 3) lv (.int (iI 1) :: stk) ws) : J X cells slots pc lv (stk) ws := by
  obtain ⟨p, l, e, R', s, m, args, below, meth, c, D, A, H0, nL', Q⟩ := X
  obtain ⟨hx, hb, hml, hnl, hR', hown, hts, hK, hN, hA, hlk, hE⟩ := h
  subst hnl; subst hR'
  intro H locs ls hP hD hS hl
  obtain ⟨cf, kf, fi, f, a, cell, h1, h2, h3, h4, h5, h6, h7, h8⟩ := hE.2.1.1
  exact W.gets hx hb hown (hts _ hw) h1 h2 h3 h4 (by rw [hS.2.1 a (Array.getElem?_eq_some_iff.mp h5).1 h8]; exact h5) (fun e => by rw [e] at h6; cases h6) h7 rfl hd (k H locs ls hP hD hS hl)
theorem j_gstQ (h : CxOK X T cc own Ts R nL) {index : Nat} (hd : decode cc pc = .ok (.getstatic index, 3)) (hw : Cond.fieldLink own index "jdk/internal/util/Preconditions" "SIOOBE_FORMATTER" "Ljava/util/function/BiFunction;" ∈ Ts) (k : ∀ v : Value, (v = .null ∨ ∃ t, v = .ref t) → J X cells slots (pc + 3) lv (v :: stk) ws) : J X cells slots pc lv stk ws := by
  obtain ⟨p, l, e, R', s, m, args, below, meth, c, D, A, H0, nL', Q⟩ := X
  obtain ⟨hx, hb, hml, hnl, hR', hown, hts, hK, hN, hA, hlk, hE⟩ := h
  subst hnl; subst hR'
  intro H locs ls hP hD hS hl
  rcases hE.2.1.2 with hz | ⟨t, hz⟩
  · obtain ⟨cf, kf, fi, f, a, cell, h1, h2, h3, h4, h5, h6, h7, h8⟩ := hz
    exact W.gets hx hb hown (hts _ hw) h1 h2 h3 h4 (by rw [hS.2.1 a (Array.getElem?_eq_some_iff.mp h5).1 h8]; exact h5) (fun e => by rw [e] at h6; cases h6) h7 rfl hd (k .null (Or.inl rfl) H locs ls hP hD hS hl)
  · obtain ⟨cf, kf, fi, f, a, cell, h1, h2, h3, h4, h5, h6, h7, h8⟩ := hz
    exact W.gets hx hb hown (hts _ hw) h1 h2 h3 h4 (by rw [hS.2.1 a (Array.getElem?_eq_some_iff.mp h5).1 h8]; exact h5) (fun e => by rw [e] at h6; cases h6) h7 rfl hd (k (.ref t) (Or.inr ⟨t, rfl⟩) H locs ls hP hD hS hl)
theorem j_i2c (h : CxOK X T cc own Ts R nL) {z : Int} (hd : decode cc pc = .ok (.i2c, 1)) (hz : 0 ≤ z ∧ z < 128) (k : J X cells slots (pc + 1) lv (.int (iI z) :: stk) ws) : J X cells slots pc lv (.int (iI z) :: stk) ws := by
  obtain ⟨p, l, e, R', s, m, args, below, meth, c, D, A, H0, nL', Q⟩ := X
  obtain ⟨hx, hb, hml, hnl, hR', hown, hts, hK, hN, hA, hlk, hE⟩ := h
  subst hnl; subst hR'
  intro H locs ls hP hD hS hl
  exact lv_i2c hx hb hd (i2c_z hz) (k H locs ls hP hD hS hl)
theorem j_callVSi (h : CxOK X T cc own Ts R nL) {y : MethodName} {kk : Nat} {C : String} {index : Nat} {bytes : ByteArray} {maxL n mc ms : Nat} {ret : Option FieldType} {wm : List Cond} {rm : Room} {As st0 : List Value} {wc wr : va_W} {post : Int32 → va_W → Prop} {cells' slots' : Nat}
    (hd : decode cc pc = .ok (.invokevirtual index, 3)) (hM : CtI T y wm rm mc ms (Value.ref (T (100 + kk)) :: As) wc post) (hk : CkOK y wm rm mc ms bytes maxL ret n) (hG : GoodIn Ts (wsV own index C y wm)) (hyC : y.cls = C) (hC0 : C = "java/lang/String") (hkk : kk < 24) (hR : rmFit rm maxL R) (hAs : As.length = n) (hst0 : st0 = As.reverse ++ .ref (T (100 + kk)) :: stk) (hcat : (stk.map fun v => v.category).sum ≤ 8) (hroom : cells + mc ≤ R.cells ∧ slots + ms ≤ R.slots) (hce : cells + mc = cells') (hsl : slots + ms = slots')
    (isC isR : List Nat) (hC : isC.map (fun i => ws[i]?) = wc.map some) (hRr : isR.map (fun i => ws[i]?) = wr.map some) (hnC : va_nd isC = true) (hnR : va_nd isR = true) (hdis : ∀ i ∈ isR, i ∉ isC)
    (k : ∀ (r : Int32) (u : va_W), post r u → J X cells' slots' (pc + 3) lv (.int r :: stk) (wr ++ u)) : J X cells slots pc lv st0 ws := by
  obtain ⟨p, l, e, R', s, m, args, below, meth, c, D, A, H0, nL', Q⟩ := X
  obtain ⟨hx, hb, hml, hnl, hR', hown, hts, hK, hN, hA, hlk, hE⟩ := h
  subst hnl; subst hR'; subst hst0; subst hce; subst hsl
  obtain ⟨⟨ws', hwm⟩, hrc, hrs, hd0⟩ := hk
  intro H locs ls hP hD hS hl
  have hsubC : isC.filterMap (fun i => ws[i]?) = wc := by
    have h1 := congrArg (List.filterMap id) hC
    simpa [List.filterMap_map, Function.comp_def] using h1
  have hPc := hP.sub isC hsubC
  have hDc := hD.sub isC hnC hC
  have hFc := va_free (wc := wc) hD hS hA isC hC
  have hpre : ∀ U : State, U.heap = H → s.WarmedH U.vm → va_Pc (Value.ref (T (100 + kk)) :: As) (CtP T D H.size wc) (Value.ref (T (100 + kk)) :: As).toArray U := fun U hU hW => ⟨rfl, by rw [hU], NW.warm hW hN, by rw [hU]; exact hPc, va_K.moved hW.alike hK, hDc.weaken (fun _ _ _ _ => trivial), by rw [hU]; exact SS.warm hW ((hE.kept hS.2.1).narrow hFc)⟩
  refine va_calli (va_runV (As := As) (rest := stk) ⟨hx, hb, hml, hown, hts⟩ (hM l D H.size) (cwV n hts hG hwm hrc hrs ⟨hyC, hd0⟩ hR) ⟨CtP.blind, (by obtain ⟨cell, g1, g2, g3, -⟩ := (hE.1.1 kk hkk).1.kept hS.2.1; exact ⟨cell, g1, g2, by rw [hC0]; exact g3⟩), fun U hU hW => hpre U hU hW⟩ rfl hAs hl.1 rfl (lv_room hcat) hd hroom) hS (fun q _ h => hFc q h) hFc (fun r u t H1 locs1 ht hvm hw hB hz1 hk1 hS1 => ?_)
  obtain ⟨hP1, hD1⟩ := hB
  rw [ht] at hP1
  obtain ⟨hP2, hD2⟩ := va_join (wr := wr) (w1 := u) hP hD isC isR hC hRr hnR hdis hk1 hFc hP1 hD1
  exact k r u hw H1 locs1 ls hP2 hD2 hS1 hl

def CtR (T : Nat → ClassId) (y : MethodName) (wm : List Cond) (rm : Room) (mc ms : Nat) (av : List Value) (ws : va_W) (post : Nat → va_W → Prop) : Prop := ∀ (l : Launch) (D : va_G) (sz : Nat), Met l y wm rm (va_Pc av (CtP T D sz ws)) (va_Qr (S := Nat × va_W) (fun u => post u.1 u.2) (fun u a t => a = u.1 ∧ CtB D sz ws u.2 t) (va_A ws sz)) mc ms (va_A ws sz)
def RtR (X : JX) (cc : ByteArray) (mc ms : Nat) (post : Nat → va_W → Prop) : Prop := ∀ (pc : Nat) (lv : List (Nat × Value)) (r : Nat) (u : va_W), decode cc pc = .ok (.areturn, 1) → post r u → J X mc ms pc lv [.ref r] u
theorem ctR_of {T : Nat → ClassId} {y : MethodName} {wm ws' : List Cond} {rm : Room} {mc ms : Nat} {av : List Value} {ws : va_W} {post : Nat → va_W → Prop} {cc : ByteArray} {maxL : Nat} {ret : Option FieldType} (hy : plainName y.cls = true) (hw : wm = Cond.code y cc maxL ret :: ws') {ty : FieldType} (hret : ret = some ty) (hrt : (∃ n, ty = .object n) ∨ ∃ t, ty = .array t) (hsl : (lg_sl av).length ≤ maxL)
    (k : ∀ X : JX, CxOK X T cc y.cls wm rm maxL → (y.name = "<init>" → XInit X) → RtR X cc mc ms post → J X 0 0 0 (lv_args 0 av) [] ws) : CtR T y wm rm mc ms av ws post := by
  intro l D sz
  refine Met.ofW (cc := cc) (maxL := maxL) (ret := ret) hy hw ?_
  intro p e s m args below meth c s₁ B hml hv
  obtain ⟨rfl, hsz, hN, hP, hK, hD0, hE⟩ := hv
  have hx := B.exec
  have hb := B.bytes
  have hr := B.returns
  have hts := atoms_spec (ws := wm) B.pre
  have hown : s.vm.findClass y.cls = some m.cls := findClass_of_methodNamed B.named
  have hlocks := B.notSynchronized
  subst hsz
  have hD := hD0.self (sz := s.heap.size)
  have hl := lv_entry av (n := maxL) hsl
  rw [lg_entry_eq]
  refine k (p, l, e, (headSpec wm rm).room, s, m, av.toArray, below, meth, c, D, va_A ws s.heap.size, s.heap, maxL, MQ below (va_Qr (S := Nat × va_W) (fun u => post u.1 u.2) (fun u a t => a = u.1 ∧ CtB D s.heap.size ws u.2 t) (va_A ws s.heap.size)) av.toArray s mc ms (va_A ws s.heap.size)) ⟨hx, hb, hml, rfl, rfl, hown, hts, hK, hN, fun q h => Or.inr h, hlocks, hE⟩ (fun h => (name_of_methodNamed B.named B.method).1.trans h) ?_ s.heap [] _ hP hD va_S.rf hl
  intro pc lv r u hd hp H locs ls hP1 hD1 hS1 hl1
  exact W.aret hx hb (hr.trans hret) hrt (Or.inr ⟨r, rfl⟩) (fun t ht hW => ⟨⟨(r, u), r, rfl, hp, rfl, by rw [ht]; exact hP1, hD1⟩, hS1.F ht⟩) hS1.2.2 hd

theorem j_callSNr (h : CxOK X T cc own Ts R nL) {y : MethodName} {host : String} {index : Nat} {bytes : ByteArray} {maxL n mc ms : Nat} {ret : Option FieldType} {wm : List Cond} {rm : Room} {As st0 : List Value} {wc wr : va_W} {post : Nat → va_W → Prop} {cells' slots' : Nat}
    (hd : decode cc pc = .ok (.invokestatic index, 3)) (hM : CtR T y wm rm mc ms As wc post) (hk : CkOK y wm rm mc ms bytes maxL ret n) (hG : GoodIn Ts wm) (hnw : (own, index, y, host) ∈ NWm) (hini : Cond.initialized y.cls ∈ Ts) (hst : Cond.static y ∈ Ts) (hR : rmFit rm maxL R) (hAs : As.length = n) (hst0 : st0 = As.reverse ++ stk) (hcat : (stk.map fun v => v.category).sum ≤ 8) (hroom : cells + mc ≤ R.cells ∧ slots + ms ≤ R.slots) (hce : cells + mc = cells') (hsl : slots + ms = slots')
    (isC isR : List Nat) (hC : isC.map (fun i => ws[i]?) = wc.map some) (hRr : isR.map (fun i => ws[i]?) = wr.map some) (hnC : va_nd isC = true) (hnR : va_nd isR = true) (hdis : ∀ i ∈ isR, i ∉ isC)
    (k : ∀ (r : Nat) (u : va_W), post r u → J X cells' slots' (pc + 3) lv (.ref r :: stk) (wr ++ u)) : J X cells slots pc lv st0 ws := by
  obtain ⟨p, l, e, R', s, m, args, below, meth, c, D, A, H0, nL', Q⟩ := X
  obtain ⟨hx, hb, hml, hnl, hR', hown, hts, hK, hN, hA, hlk, hE⟩ := h
  subst hnl; subst hR'; subst hst0; subst hce; subst hsl
  obtain ⟨⟨ws', hwm⟩, hrc, hrs, hd0⟩ := hk
  intro H locs ls hP hD hS hl
  have hsubC : isC.filterMap (fun i => ws[i]?) = wc := by
    have h1 := congrArg (List.filterMap id) hC
    simpa [List.filterMap_map, Function.comp_def] using h1
  have hPc := hP.sub isC hsubC
  have hDc := hD.sub isC hnC hC
  have hFc := va_free (wc := wc) hD hS hA isC hC
  have hpre : ∀ U : State, U.heap = H → s.WarmedH U.vm → va_Pc As (CtP T D H.size wc) (As).toArray U := fun U hU hW => ⟨rfl, by rw [hU], NW.warm hW hN, by rw [hU]; exact hPc, va_K.moved hW.alike hK, hDc.weaken (fun _ _ _ _ => trivial), by rw [hU]; exact SS.warm hW ((hE.kept hS.2.1).narrow hFc)⟩
  refine va_callr (va_runSN (As := As) (rest := stk) ⟨hx, hb, hml, hown, hts⟩ (hM l D H.size) ⟨va_cnB n hts hG hwm hrc hrs (hN.2 _ hnw) (hts _ hini) hd0 hR, hts _ hst, trivial⟩ ⟨CtP.blind, fun U hU hW => hpre U hU hW⟩ rfl hAs hl.1 rfl (lv_room hcat) hd hroom) hS (fun q _ h => hFc q h) hFc (fun u r t H1 locs1 ht hvm hw hB hz1 hk1 hS1 => ?_)
  obtain ⟨r2, u⟩ := u
  obtain ⟨hr2, hP1, hD1⟩ := hB
  dsimp only at hr2 hw hP1 hD1
  subst hr2
  rw [ht] at hP1
  obtain ⟨hP2, hD2⟩ := va_join (wr := wr) (w1 := u) hP hD isC isR hC hRr hnR hdis hk1 hFc hP1 hD1
  exact k r u hw H1 locs1 ls hP2 hD2 hS1 hl

end JSTR
/-! a world with an opaque tail -/
def tlR (isR : List Nat) (n : Nat) (tl : va_W) : List Nat := isR ++ (List.range tl.length).map (fun i => n + i)
theorem tl_map (E tl : va_W) : (List.range tl.length).map (fun i => (E ++ tl)[E.length + i]?) = tl.map some := by
  apply List.ext_getElem?
  intro i
  rw [List.getElem?_map, List.getElem?_map]
  by_cases h : i < tl.length
  · rw [List.getElem?_range h, List.getElem?_eq_getElem h]
    simp only [Option.map_some]
    rw [List.getElem?_append_right (by omega), show E.length + i - E.length = i by omega, List.getElem?_eq_getElem h]
  · rw [List.getElem?_eq_none (by rw [List.length_range]; omega), List.getElem?_eq_none (by omega)]
    rfl
theorem tlR_ok {E tl wr : va_W} {isR : List Nat} (h : isR.map (fun i => E[i]?) = wr.map some) : (tlR isR E.length tl).map (fun i => (E ++ tl)[i]?) = (wr ++ tl).map some := by
  unfold tlR
  rw [List.map_append, List.map_append, List.map_map]
  congr 1
  · rw [← h]
    apply List.map_congr_left
    intro i hi
    have h1 : E[i]? ∈ isR.map (fun i => E[i]?) := List.mem_map.mpr ⟨i, hi, rfl⟩
    rw [h] at h1
    obtain ⟨z, -, hz⟩ := List.mem_map.mp h1
    exact List.getElem?_append_left (List.getElem?_eq_some_iff.mp hz.symm).1
  · exact tl_map E tl
theorem tlR_dis {isR isC : List Nat} {n : Nat} {tl : va_W} (h : ∀ i ∈ isR, i ∉ isC) (hn : isC.all (fun i => decide (i < n)) = true) : ∀ i ∈ tlR isR n tl, i ∉ isC := by
  intro i hi
  rcases List.mem_append.mp hi with q | q
  · exact h i q
  · obtain ⟨j, -, rfl⟩ := List.mem_map.mp q
    intro hc
    have := of_decide_eq_true (List.all_eq_true.mp hn _ hc)
    omega

theorem va_nd_of {l : List Nat} (h : l.Nodup) : va_nd l = true := by
  induction l with
  | nil => rfl
  | cons a l ih =>
    rw [List.nodup_cons] at h
    show (decide (a ∉ l) && va_nd l) = true
    rw [decide_eq_true h.1, ih h.2]; rfl
theorem va_nd_to {l : List Nat} (h : va_nd l = true) : l.Nodup := by
  induction l with
  | nil => exact List.nodup_nil
  | cons a l ih =>
    have h2 : (decide (a ∉ l) && va_nd l) = true := h
    rw [Bool.and_eq_true] at h2
    exact List.nodup_cons.mpr ⟨of_decide_eq_true h2.1, ih h2.2⟩
theorem tlR_nd {isR : List Nat} {n : Nat} {tl : va_W} (h : va_nd isR = true) (hn : isR.all (fun i => decide (i < n)) = true) : va_nd (tlR isR n tl) = true := by
  apply va_nd_of
  unfold tlR
  refine List.nodup_append.mpr ⟨va_nd_to h, ?_, ?_⟩
  · exact (List.nodup_range).map _ (fun a b hab e => hab (by omega))
  · intro a ha b hb
    obtain ⟨j, -, rfl⟩ := List.mem_map.mp hb
    have := of_decide_eq_true (List.all_eq_true.mp hn _ ha)
    omega
theorem tlR_dis2 {isR isC : List Nat} {n : Nat} {tl : va_W} (h : ∀ i ∈ isR, i ∉ isC) (hn : isR.all (fun i => decide (i < n)) = true) : ∀ i ∈ isR, i ∉ tlR isC n tl := by
  intro i hi hc
  rcases List.mem_append.mp hc with q | q
  · exact h i hi q
  · obtain ⟨j, -, rfl⟩ := List.mem_map.mp q
    have := of_decide_eq_true (List.all_eq_true.mp hn _ hi)
    omega
section JTL
variable {X : JX} {T : Nat → ClassId} {cc : ByteArray} {own : String} {Ts : List Cond} {R : Room} {nL : Nat} {cells slots pc : Nat} {lv : List (Nat × Value)} {stk : List Value} {ws : va_W}
theorem perm_ix {w w' : va_W} (h : w'.Perm w) : ∃ is : List Nat, is.map (fun i => w[i]?) = w'.map some ∧ is.Nodup := by
  induction h with
  | nil => exact ⟨[], rfl, List.nodup_nil⟩
  | @cons x l1 l2 _ ih =>
    obtain ⟨is, h1, h2⟩ := ih
    refine ⟨0 :: is.map (fun i => i + 1), ?_, List.nodup_cons.mpr ⟨?_, h2.map _ (fun a b hab e => hab (by omega))⟩⟩
    · rw [List.map_cons, List.map_cons, List.map_map]
      congr 1
    · intro q
      obtain ⟨i, -, e⟩ := List.mem_map.mp q
      omega
  | swap x y l =>
    refine ⟨1 :: 0 :: (List.range l.length).map (fun i => i + 2), ?_, ?_⟩
    · have h9 : (List.range l.length).map (fun i => (x :: y :: l)[i + 2]?) = l.map some := by
        rw [← tl_map [x, y] l]
        apply List.map_congr_left
        intro i _
        show (x :: y :: l)[i + 2]? = (x :: y :: l)[2 + i]?
        rw [Nat.add_comm]
      rw [List.map_cons, List.map_cons, List.map_map]
      exact congrArg (fun z => some y :: some x :: z) h9
    · refine List.nodup_cons.mpr ⟨?_, List.nodup_cons.mpr ⟨?_, List.nodup_range.map _ (fun a b hab e => hab (by omega))⟩⟩
      · intro q
        rcases List.mem_cons.mp q with q | q
        · omega
        · obtain ⟨i, -, e⟩ := List.mem_map.mp q; omega
      · intro q
        obtain ⟨i, -, e⟩ := List.mem_map.mp q; omega
  | @trans l1 l2 l3 _ _ ih1 ih2 =>
    obtain ⟨is1, a1, a2⟩ := ih1
    obtain ⟨is2, b1, b2⟩ := ih2
    have hlen : is2.length = l2.length := by have := congrArg List.length b1; simpa using this
    have hlt : ∀ i ∈ is1, i < is2.length := by
      intro i hi
      have h1 : l2[i]? ∈ is1.map (fun i => l2[i]?) := List.mem_map.mpr ⟨i, hi, rfl⟩
      rw [a1] at h1
      obtain ⟨z, -, hz⟩ := List.mem_map.mp h1
      rw [hlen]
      exact (List.getElem?_eq_some_iff.mp hz.symm).1
    refine ⟨is1.map (fun i => is2.getD i 0), ?_, ?_⟩
    · rw [List.map_map, ← a1]
      apply List.map_congr_left
      intro i hi
      have h3 := hlt i hi
      have h4 : (is2.map (fun i => l3[i]?))[i]? = (l2.map some)[i]? := by rw [b1]
      rw [List.getElem?_map, List.getElem?_map, List.getElem?_eq_getElem h3, List.getElem?_eq_getElem (by omega)] at h4
      simp only [Option.map_some, Option.some.injEq] at h4
      show l3[is2.getD i 0]? = l2[i]?
      rw [List.getD_eq_getElem?_getD, List.getElem?_eq_getElem h3, List.getElem?_eq_getElem (l := l2) (show i < l2.length by omega)]
      exact h4
    · have hinj : ∀ i ∈ is1, ∀ j ∈ is1, is2.getD i 0 = is2.getD j 0 → i = j := by
        intro i hi j hj e
        rw [List.getD_eq_getElem?_getD, List.getD_eq_getElem?_getD, List.getElem?_eq_getElem (hlt i hi), List.getElem?_eq_getElem (hlt j hj)] at e
        rcases Nat.lt_trichotomy i j with q | q | q
        · exact absurd e (List.pairwise_iff_getElem.mp b2 i j (hlt i hi) (hlt j hj) q)
        · exact q
        · exact absurd e.symm (List.pairwise_iff_getElem.mp b2 j i (hlt j hj) (hlt i hi) q)
      clear a1 hlt
      induction is1 with
      | nil => exact List.nodup_nil
      | cons a l ih =>
        rw [List.nodup_cons] at a2
        refine List.nodup_cons.mpr ⟨fun q => ?_, ih a2.2 (fun i hi j hj => hinj i (List.mem_cons_of_mem _ hi) j (List.mem_cons_of_mem _ hj))⟩
        obtain ⟨j, hj, e⟩ := List.mem_map.mp q
        have := hinj a List.mem_cons_self j (List.mem_cons_of_mem _ hj) e.symm
        rw [this] at a2
        exact a2.1 hj
theorem j_perm {ws' : va_W} (hp : ws'.Perm ws) (k : J X cells slots pc lv stk ws') : J X cells slots pc lv stk ws := by
  obtain ⟨is, h1, h2⟩ := perm_ix hp
  exact j_ws is h1 (va_nd_of h2) k
/-- what a call leaves, the tail last again -/
theorem j_tls {wr u tl : va_W} (k : J X cells slots pc lv stk ((wr ++ u) ++ tl)) : J X cells slots pc lv stk ((wr ++ tl) ++ u) := by
  refine j_perm ?_ k
  rw [List.append_assoc, List.append_assoc]
  exact List.Perm.append_left _ List.perm_append_comm
theorem j_wst (is : List Nat) {E E' tl : va_W} (hs : is.map (fun i => E[i]?) = E'.map some) (hn : va_nd is = true) (hb : is.all (fun i => decide (i < E.length)) = true) (k : J X cells slots pc lv stk (E' ++ tl)) : J X cells slots pc lv stk (E ++ tl) := j_ws (tlR is E.length tl) (tlR_ok hs) (tlR_nd hn hb) k
/-! the sixty steps of a program -/
def sfs (g : Int → Int) : List Value := [.int (iI (g 0)), .int (iI (g 1)), .int (iI (g 2)), .int (iI (g 3)), .int (iI (g 4)), .int (iI (g 5)), .int (iI (g 6)), .int (iI (g 7))]
def stepsW (sp : Int → Nat) (G : Int → Int → Int) : va_W := (List.range 60).map (fun i : Nat => (sp i, .inr (7, sfs (G i))))
def restW (sp : Int → Nat) (G : Int → Int → Int) (i : Int) : va_W := ((List.range 60).filter (fun j => decide (j ≠ i.toNat))).map (fun i : Nat => (sp i, .inr (7, sfs (G i))))
theorem range_perm (n i : Nat) (h : i < n) : (i :: (List.range n).filter (fun j => decide (j ≠ i))).Perm (List.range n) := by
  induction n with
  | zero => omega
  | succ n ih =>
    rw [List.range_succ, List.filter_append]
    by_cases e : i = n
    · subst e
      have h1 : (List.range i).filter (fun j => decide (j ≠ i)) = List.range i := by
        apply List.filter_eq_self.mpr
        intro a ha
        have := List.mem_range.mp ha
        exact decide_eq_true (by omega)
      have h2 : [i].filter (fun j => decide (j ≠ i)) = [] := by simp
      rw [h1, h2, List.append_nil]
      exact (List.perm_append_singleton i (List.range i)).symm
    · have h2 : [n].filter (fun j => decide (j ≠ i)) = [n] := by
        rw [List.filter_cons, if_pos (decide_eq_true (show n ≠ i by omega))]; rfl
      rw [h2]
      exact (ih (by omega)).append_right [n]
theorem steps_perm {sp : Int → Nat} {G : Int → Int → Int} {i : Int} (h : 0 ≤ i ∧ i < 60) : ((sp i, .inr (7, sfs (G i))) :: restW sp G i : va_W).Perm (stepsW sp G) := by
  have := (range_perm 60 i.toNat (by omega)).map (fun i : Nat => ((sp i, .inr (7, sfs (G i))) : Nat × va_E))
  rw [List.map_cons, show ((i.toNat : Nat) : Int) = i by omega] at this
  exact this
theorem rest_up {sp : Int → Nat} {G : Int → Int → Int} {i : Int} (h : 0 ≤ i) (v : Int → Int) : restW sp (upI G i v) i = restW sp G i := by
  unfold restW
  apply List.map_congr_left
  intro j hj
  have := of_decide_eq_true (List.mem_filter.mp hj).2
  rw [upI_n (show ((j : Nat) : Int) ≠ i by omega)]
theorem j_foc {E : va_W} {sp : Int → Nat} {G : Int → Int → Int} (i : Int) (h : 0 ≤ i ∧ i < 60) (k : J X cells slots pc lv stk ((sp i, .inr (7, sfs (G i))) :: (E ++ restW sp G i))) : J X cells slots pc lv stk (E ++ stepsW sp G) := by
  refine j_perm ?_ k
  exact List.perm_middle.symm.trans (List.Perm.append_left E (steps_perm h))
theorem j_unf {E : va_W} {sp : Int → Nat} {G : Int → Int → Int} (i : Int) (h : 0 ≤ i ∧ i < 60) (v : Int → Int) (k : J X cells slots pc lv stk (E ++ stepsW sp (upI G i v))) : J X cells slots pc lv stk ((sp i, .inr (7, sfs v)) :: (E ++ restW sp G i)) := by
  refine j_perm ?_ k
  have h1 := steps_perm (sp := sp) (G := upI G i v) h
  rw [upI_s, rest_up h.1] at h1
  exact (List.Perm.append_left E h1.symm).trans List.perm_middle
theorem j_aald (h : CxOK X T cc own Ts R nL) {a n b : Nat} {f : Nat → Option Nat} {e0 : Int} (e1 : Int) (hd : decode cc pc = .ok (.aaload, 1)) (q : Nat) (hq : ws[q]? = some (a, .inl (T 3, n, .inr (.inr (.inr (.inr f)))))) (hn : n ≤ 2147483647) (hee : e0 = e1) (he : 0 ≤ e1 ∧ e1 < (n : Int)) (hv : f e1.toNat = some b) (k : J X cells slots (pc + 1) lv (.ref b :: stk) ws) : J X cells slots pc lv (.int (iI e0) :: .ref a :: stk) ws := by
  obtain ⟨p, l, e, R', s, m, args, below, meth, c, D, A, H0, nL', Q⟩ := X
  obtain ⟨hx, hb, hml, hnl, hR', hown, hts, hK, hN, hA, hlk, hE⟩ := h
  subst hnl; subst hR'
  intro H locs ls hP hD hS hl
  subst hee
  refine va_aldq (C := "LayerShop$Step") hx hb hK hP q 3 hq rfl (iI_in he hn) hd ?_
  rw [iI_clamp (by omega), hv]
  exact k H locs ls hP hD hS hl
end JTL
