/-! THE NEST WORDS, once for all: private members of nest mates -/
abbrev NWf : List (String × Nat × String × String × String × String) := [("LayerShop", 118, "LayerShop$Tape", "length", "I", "LayerShop"), ("LayerShop", 129, "LayerShop$Tokens", "from", "I", "LayerShop"), ("LayerShop", 132, "LayerShop$Board", "cubes", "[I", "LayerShop"), ("LayerShop", 146, "LayerShop$Runner", "stepByte", "I", "LayerShop"), ("LayerShop", 152, "LayerShop$Runner", "done", "I", "LayerShop"), ("LayerShop", 219, "LayerShop$Devices", "places", "I", "LayerShop"), ("LayerShop", 222, "LayerShop$Devices", "groups", "I", "LayerShop"), ("LayerShop", 225, "LayerShop$Devices", "least", "I", "LayerShop"), ("LayerShop", 228, "LayerShop$Devices", "most", "I", "LayerShop"), ("LayerShop$Board", 23, "LayerShop$Step", "kinds", "I", "LayerShop"), ("LayerShop$Board", 29, "LayerShop$Step", "stuff", "I", "LayerShop"), ("LayerShop$Board", 32, "LayerShop$Step", "number", "I", "LayerShop"), ("LayerShop$Board", 35, "LayerShop$Step", "other", "I", "LayerShop"), ("LayerShop$Devices", 69, "LayerShop$Board", "cubes", "[I", "LayerShop"), ("LayerShop$Program", 104, "LayerShop$Step", "kinds", "I", "LayerShop"), ("LayerShop$Program", 110, "LayerShop$Step", "relation", "I", "LayerShop"), ("LayerShop$Program", 123, "LayerShop$Step", "number", "I", "LayerShop"), ("LayerShop$Program", 49, "LayerShop$Step", "bodyEnd", "I", "LayerShop"), ("LayerShop$Program", 59, "LayerShop$Step", "word", "I", "LayerShop"), ("LayerShop$Program", 62, "LayerShop$Tokens", "from", "I", "LayerShop"), ("LayerShop$Program", 65, "LayerShop$Step", "firstByte", "I", "LayerShop"), ("LayerShop$Program", 92, "LayerShop$Step", "stuff", "I", "LayerShop"), ("LayerShop$Program", 98, "LayerShop$Step", "other", "I", "LayerShop"), ("LayerShop$Runner", 103, "LayerShop$Step", "other", "I", "LayerShop"), ("LayerShop$Runner", 123, "LayerShop$Step", "bodyEnd", "I", "LayerShop"), ("LayerShop$Runner", 132, "LayerShop$Step", "relation", "I", "LayerShop"), ("LayerShop$Runner", 52, "LayerShop$Program", "size", "I", "LayerShop"), ("LayerShop$Runner", 57, "LayerShop$Program", "steps", "[LLayerShop$Step;", "LayerShop"), ("LayerShop$Runner", 65, "LayerShop$Step", "firstByte", "I", "LayerShop"), ("LayerShop$Runner", 70, "LayerShop$Step", "word", "I", "LayerShop"), ("LayerShop$Runner", 87, "LayerShop$Step", "number", "I", "LayerShop"), ("LayerShop$Runner", 90, "LayerShop$Step", "stuff", "I", "LayerShop"), ("LayerShop$Runner", 97, "LayerShop$Step", "kinds", "I", "LayerShop"), ("LayerShop$Tokens", 28, "LayerShop$Tape", "length", "I", "LayerShop"), ("LayerShop$Tokens", 33, "LayerShop$Tape", "bytes", "[I", "LayerShop"), ("LayerShop$Works", 19, "LayerShop$Board", "cubes", "[I", "LayerShop")]
abbrev NWm : List (String × Nat × MethodName × String) := [("LayerShop", 18, ⟨"LayerShop$Flood", "<init>", "()V"⟩, "LayerShop"), ("LayerShop", 34, ⟨"LayerShop$Masks", "<init>", "()V"⟩, "LayerShop"), ("LayerShop", 41, ⟨"LayerShop$Tape", "<init>", "()V"⟩, "LayerShop"), ("LayerShop", 73, ⟨"LayerShop$History", "<init>", "()V"⟩, "LayerShop"), ("LayerShop$Board", 15, ⟨"LayerShop", "hasKind", "(II)Z"⟩, "LayerShop"), ("LayerShop$Devices", 42, ⟨"LayerShop", "within", "(III)Z"⟩, "LayerShop"), ("LayerShop$Devices", 75, ⟨"LayerShop", "beside", "(II)I"⟩, "LayerShop"), ("LayerShop$Flood", 35, ⟨"LayerShop", "hasKind", "(II)Z"⟩, "LayerShop"), ("LayerShop$Flood", 46, ⟨"LayerShop", "beside", "(II)I"⟩, "LayerShop"), ("LayerShop$Program", 126, ⟨"LayerShop", "within", "(III)Z"⟩, "LayerShop"), ("LayerShop$Program", 28, ⟨"LayerShop$Step", "<init>", "()V"⟩, "LayerShop"), ("LayerShop$Program", 68, ⟨"LayerShop", "formOf", "(I)Ljava/lang/String;"⟩, "LayerShop"), ("LayerShop$Tokens", 45, ⟨"LayerShop", "nameOf", "(I)Ljava/lang/String;"⟩, "LayerShop"), ("LayerShop$Tokens", 56, ⟨"LayerShop", "hasKind", "(II)Z"⟩, "LayerShop"), ("LayerShop$Tokens", 69, ⟨"LayerShop", "within", "(III)Z"⟩, "LayerShop"), ("LayerShop$Works", 66, ⟨"LayerShop", "hasKind", "(II)Z"⟩, "LayerShop"), ("LayerShop$Works", 79, ⟨"LayerShop", "beside", "(II)I"⟩, "LayerShop")]
def NW (U : State) : Prop := (∀ q ∈ NWf, va_Nw (.fieldLinkNest q.1 q.2.1 q.2.2.1 q.2.2.2.1 q.2.2.2.2.1 q.2.2.2.2.2) U) ∧ (∀ q ∈ NWm, va_Nw (.methodLinkNest q.1 q.2.1 q.2.2.1 q.2.2.2) U)
theorem NW.same {u U : State} (h : u.vm = U.vm) (hZ : NW u) : NW U := ⟨fun q hq => va_Nw.same rfl h (hZ.1 q hq), fun q hq => va_Nw.same rfl h (hZ.2 q hq)⟩
theorem NW.warm {s U : State} (hW : s.WarmedH U.vm) (hZ : NW s) : NW U := ⟨fun q hq => va_Nw.warmF hW (hZ.1 q hq), fun q hq => va_Nw.warmM hW (hZ.2 q hq)⟩
/-- the array classes: T 0 int[], T 1 boolean[], T 2 byte[], T 3 Step[], T 4 int[][] -/
abbrev tyG (T : Nat → ClassId) : List (ClassId × FieldType) := [(T 0, .int), (T 1, .boolean), (T 2, .byte), (T 3, .object "LayerShop$Step"), (T 4, .array .int)]
/-! THE STRING CONSTANTS of LayerShop: text k at T (100 + k), its bytes at T (200 + k) -/
abbrev strT : List String := ["lay", "cut", "dope", "coat", "etch", "turn", "fill", "flat", "drop", "mask", "bare", "want", "whole", "repeat", "sn;", "Tn;", "stnT;", "stn;", "sh;", "h;", "k;", "srw;", "p{", ";"]
abbrev strL : List Nat := [3, 3, 4, 4, 4, 4, 4, 4, 4, 4, 4, 4, 5, 6, 3, 3, 5, 4, 3, 2, 2, 4, 2, 1]
abbrev strB : List (List Int32) := [[108, 97, 121], [99, 117, 116], [100, 111, 112, 101], [99, 111, 97, 116], [101, 116, 99, 104], [116, 117, 114, 110], [102, 105, 108, 108], [102, 108, 97, 116], [100, 114, 111, 112], [109, 97, 115, 107], [98, 97, 114, 101], [119, 97, 110, 116], [119, 104, 111, 108, 101], [114, 101, 112, 101, 97, 116], [115, 110, 59], [84, 110, 59], [115, 116, 110, 84, 59], [115, 116, 110, 59], [115, 104, 59], [104, 59], [107, 59], [115, 114, 119, 59], [112, 123], [59]]
def SZ (A : Nat → Prop) (U : State) (H : Heap) : Prop := va_Z "java/lang/String" "COMPACT_STRINGS" "Z" (.int 1) A U H ∧ va_Zq "jdk/internal/util/Preconditions" "SIOOBE_FORMATTER" "Ljava/util/function/BiFunction;" A U H
theorem SZ.narrow {A B : Nat → Prop} {U : State} {H : Heap} (h : SZ A U H) (hAB : ∀ q, B q → A q) : SZ B U H := ⟨h.1.narrow hAB, h.2.narrow hAB⟩
theorem SZ.kept {A : Nat → Prop} {U : State} {H H1 : Heap} (h : SZ A U H) (hq : ∀ a : Nat, a < H.size → ¬ A a → H1[a]? = H[a]?) : SZ A U H1 := ⟨h.1.kept hq, h.2.kept hq⟩
theorem SZ.moved {A : Nat → Prop} {u U : State} {H : Heap} (hv : u.vm.Alike U.vm) (h : SZ A u H) : SZ A U H := ⟨h.1.moved hv, h.2.moved hv⟩
def SS (T : Nat → ClassId) (A : Nat → Prop) (U : State) (H : Heap) : Prop := vk_S 24 strL strB (fun k => T (100 + k)) (fun k => T (200 + k)) A U H ∧ SZ A U H ∧ ∀ k : Nat, k < 24 → vk_R "LayerShop" (243 + 2 * k) (strT.getD k "") (T (100 + k)) U
theorem SS.narrow {T : Nat → ClassId} {A B : Nat → Prop} {U : State} {H : Heap} (h : SS T A U H) (hAB : ∀ q, B q → A q) : SS T B U H := ⟨h.1.narrow hAB, h.2.1.narrow hAB, h.2.2⟩
theorem SS.kept {T : Nat → ClassId} {A : Nat → Prop} {U : State} {H H1 : Heap} (h : SS T A U H) (hq : ∀ a : Nat, a < H.size → ¬ A a → H1[a]? = H[a]?) : SS T A U H1 := ⟨h.1.kept hq, h.2.1.kept hq, h.2.2⟩
theorem SS.warm {T : Nat → ClassId} {A : Nat → Prop} {s U : State} {H : Heap} (hW : s.WarmedH U.vm) (h : SS T A s H) : SS T A U H := ⟨h.1.moved hW.alike, h.2.1.moved hW.alike, fun k hk => (h.2.2 k hk).warm hW⟩
theorem SS.same {T : Nat → ClassId} {A : Nat → Prop} {u U : State} {H : Heap} (hv : U.vm = u.vm) (h : SS T A u H) : SS T A U H := ⟨h.1.moved (by rw [hv]; exact Vm.Alike.refl _), h.2.1.moved (by rw [hv]; exact Vm.Alike.refl _), fun k hk => (h.2.2 k hk).same hv⟩
/-! THE CONTEXT of a method that runs, the judgement -/
abbrev JX : Type := Program × Launch × Env × Room × State × MethodId × Array Value × List Frame × Method × Code × va_G × (Nat → Prop) × Heap × Nat × (State → Prop)
def J (X : JX) (cells slots pc : Nat) (lv : List (Nat × Value)) (stk : List Value) (ws : va_W) : Prop :=
  match X with
  | (p, l, e, R, s, m, args, below, meth, c, D, A, H0, nL, Q) => ∀ (H : Heap) (locs : List Loc) (ls : Array Slot), va_P D vwCl ws H → va_D A ws → va_S A H0 H locs → lv_has ls nL lv → W p l e R s m args below meth c H locs cells slots Q (F0 m pc ls stk)
def CxOK (X : JX) (T : Nat → ClassId) (cc : ByteArray) (own : String) (Ts : List Cond) (R : Room) (nL : Nat) : Prop :=
  match X with
  | (p, l, e, R', s, m, args, below, meth, c, D, A, H0, nL', Q) => p.tables.exec = Jvm.exec ∧ c.code = cc ∧ c.maxLocals = nL' ∧ nL' = nL ∧ R' = R ∧ s.vm.findClass own = some m.cls ∧ (∀ w ∈ Ts, w.before args s = true) ∧ va_K D vwCl (tyG T) s ∧ NW s ∧ (∀ q, H0.size ≤ q → A q) ∧ meth.locks = false ∧ SS T A s H0
def XInit (X : JX) : Prop :=
  match X with
  | (p, l, e, R', s, m, args, below, meth, c, D, A, H0, nL', Q) => meth.name = "<init>"
theorem CxOK.ts {X : JX} {T cc own Ts R nL} (h : CxOK X T cc own Ts R nL) : True := trivial

section JROWS
variable {X : JX} {T : Nat → ClassId} {cc : ByteArray} {own : String} {Ts : List Cond} {R : Room} {nL : Nat} {cells slots pc : Nat} {lv : List (Nat × Value)} {stk : List Value} {ws : va_W}
theorem j_lv (ks : List Nat) {lv' : List (Nat × Value)} (hl : lv_pick lv ks = lv') (k : J X cells slots pc lv' stk ws) : J X cells slots pc lv stk ws := by
  obtain ⟨p, l, e, R', s, m, args, below, meth, c, D, A, H0, nL', Q⟩ := X
  intro H locs ls hP hD hS h
  exact k H locs ls hP hD hS (lv_sub h ks hl)
theorem j_ws (is : List Nat) {ws' : va_W} (hs : is.map (fun i => ws[i]?) = ws'.map some) (hn : va_nd is = true) (k : J X cells slots pc lv stk ws') : J X cells slots pc lv stk ws := by
  obtain ⟨p, l, e, R', s, m, args, below, meth, c, D, A, H0, nL', Q⟩ := X
  intro H locs ls hP hD hS h
  have hs2 : is.filterMap (fun i => ws[i]?) = ws' := by
    have h1 := congrArg (List.filterMap id) hs
    simpa [List.filterMap_map, Function.comp_def] using h1
  exact k H locs ls (hP.sub is hs2) (hD.sub is hn hs) hS h
theorem j_eq {pc' cells' slots' : Nat} {lv' : List (Nat × Value)} {stk' : List Value} {ws' : va_W} (e0 : cells = cells') (e1 : slots = slots') (e2 : pc = pc') (e3 : lv = lv') (e4 : stk = stk') (e5 : ws = ws') (k : J X cells' slots' pc' lv' stk' ws') : J X cells slots pc lv stk ws := by subst e0 e1 e2 e3 e4 e5; exact k
theorem j_widen {cells' slots' : Nat} (e0 : cells ≤ cells') (e1 : slots ≤ slots') (k : J X cells' slots' pc lv stk ws) : J X cells slots pc lv stk ws := by
  obtain ⟨p, l, e, R', s, m, args, below, meth, c, D, A, H0, nL', Q⟩ := X
  intro H locs ls hP hD hS h
  exact W.widen e0 e1 (k H locs ls hP hD hS h)
theorem j_iconst (h : CxOK X T cc own Ts R nL) {z : Int} (hd : decode cc pc = .ok (.iconst z, 1))  (k : J X cells slots (pc + 1) lv (.int (iI z) :: stk) ws) : J X cells slots pc lv (stk) ws := by
  obtain ⟨p, l, e, R', s, m, args, below, meth, c, D, A, H0, nL', Q⟩ := X
  obtain ⟨hx, hb, hml, hnl, hR', hown, hts, hK, hN, hA, hlk, hE⟩ := h
  subst hnl; subst hR'
  intro H locs ls hP hD hS hl
  exact lv_iconst (v := iI z) hx hb hd rfl (k H locs ls hP hD hS hl)
theorem j_bipush (h : CxOK X T cc own Ts R nL) {z : Int} (hd : decode cc pc = .ok (.bipush z, 2)) (hz : -128 ≤ z ∧ z ≤ 127) (k : J X cells slots (pc + 2) lv (.int (iI z) :: stk) ws) : J X cells slots pc lv (stk) ws := by
  obtain ⟨p, l, e, R', s, m, args, below, meth, c, D, A, H0, nL', Q⟩ := X
  obtain ⟨hx, hb, hml, hnl, hR', hown, hts, hK, hN, hA, hlk, hE⟩ := h
  subst hnl; subst hR'
  intro H locs ls hP hD hS hl
  exact lv_bipush (v := iI z) hx hb hd (by rw [Int8.toInt32_ofInt (by show (-128 : Int) ≤ z; omega) (by show z ≤ (127 : Int); omega)]; rfl) (k H locs ls hP hD hS hl)
theorem j_sipush (h : CxOK X T cc own Ts R nL) {z : Int} (hd : decode cc pc = .ok (.sipush z, 3)) (hz : -32768 ≤ z ∧ z ≤ 32767) (k : J X cells slots (pc + 3) lv (.int (iI z) :: stk) ws) : J X cells slots pc lv (stk) ws := by
  obtain ⟨p, l, e, R', s, m, args, below, meth, c, D, A, H0, nL', Q⟩ := X
  obtain ⟨hx, hb, hml, hnl, hR', hown, hts, hK, hN, hA, hlk, hE⟩ := h
  subst hnl; subst hR'
  intro H locs ls hP hD hS hl
  exact lv_sipush (v := iI z) hx hb hd (by rw [Int16.toInt32_ofInt (by show (-32768 : Int) ≤ z; omega) (by show z ≤ (32767 : Int); omega)]; rfl) (k H locs ls hP hD hS hl)
theorem j_ldc2 (h : CxOK X T cc own Ts R nL) {z : Int} {index : Nat} (v : Int64) (hd : decode cc pc = .ok (.ldc2_w index, 3)) (hv : lI z = v) (hc : Cond.constantLong own index v ∈ Ts) (k : J X cells slots (pc + 3) lv (.long (lI z) :: stk) ws) : J X cells slots pc lv stk ws := by
  obtain ⟨p, l, e, R', s, m, args, below, meth, c, D, A, H0, nL', Q⟩ := X
  obtain ⟨hx, hb, hml, hnl, hR', hown, hts, hK, hN, hA, hlk, hE⟩ := h
  subst hnl; subst hR'
  intro H locs ls hP hD hS hl
  subst hv
  exact lv_ldc2 hx hb hown (hts _ hc) hd (k H locs ls hP hD hS hl)
theorem j_lconst (h : CxOK X T cc own Ts R nL) {n : Fin 2} (hd : decode cc pc = .ok (.lconst n, 1))  (k : J X cells slots (pc + 1) lv (.long (lI (n : Nat)) :: stk) ws) : J X cells slots pc lv (stk) ws := by
  obtain ⟨p, l, e, R', s, m, args, below, meth, c, D, A, H0, nL', Q⟩ := X
  obtain ⟨hx, hb, hml, hnl, hR', hown, hts, hK, hN, hA, hlk, hE⟩ := h
  subst hnl; subst hR'
  intro H locs ls hP hD hS hl
  exact lv_lconst (v := lI (n : Nat)) hx hb hd (by rw [lI_nat (by omega)]; rfl) (k H locs ls hP hD hS hl)
theorem j_iload_n (h : CxOK X T cc own Ts R nL) {k0 : Fin 4} {i : Nat} {x : Int32} (hd : decode cc pc = .ok (.iload_n k0, 1)) (q : Nat) (hi : (k0 : Nat) = i) (hl0 : lv[q]? = some (i, .int x)) (k : J X cells slots (pc + 1) lv (.int x :: stk) ws) : J X cells slots pc lv (stk) ws := by
  obtain ⟨p, l, e, R', s, m, args, below, meth, c, D, A, H0, nL', Q⟩ := X
  obtain ⟨hx, hb, hml, hnl, hR', hown, hts, hK, hN, hA, hlk, hE⟩ := h
  subst hnl; subst hR'
  intro H locs ls hP hD hS hl
  exact lv_iload_n hx hb hd hi (lv_at hl q hl0) (k H locs ls hP hD hS hl)
theorem j_iload (h : CxOK X T cc own Ts R nL) {i : Nat} {x : Int32} (hd : decode cc pc = .ok (.iload i, 2)) (q : Nat) (hl0 : lv[q]? = some (i, .int x)) (k : J X cells slots (pc + 2) lv (.int x :: stk) ws) : J X cells slots pc lv (stk) ws := by
  obtain ⟨p, l, e, R', s, m, args, below, meth, c, D, A, H0, nL', Q⟩ := X
  obtain ⟨hx, hb, hml, hnl, hR', hown, hts, hK, hN, hA, hlk, hE⟩ := h
  subst hnl; subst hR'
  intro H locs ls hP hD hS hl
  exact lv_iload hx hb hd (lv_at hl q hl0) (k H locs ls hP hD hS hl)
theorem j_lload_n (h : CxOK X T cc own Ts R nL) {k0 : Fin 4} {i : Nat} {x : Int64} (hd : decode cc pc = .ok (.lload_n k0, 1)) (q : Nat) (hi : (k0 : Nat) = i) (hl0 : lv[q]? = some (i, .long x)) (k : J X cells slots (pc + 1) lv (.long x :: stk) ws) : J X cells slots pc lv (stk) ws := by
  obtain ⟨p, l, e, R', s, m, args, below, meth, c, D, A, H0, nL', Q⟩ := X
  obtain ⟨hx, hb, hml, hnl, hR', hown, hts, hK, hN, hA, hlk, hE⟩ := h
  subst hnl; subst hR'
  intro H locs ls hP hD hS hl
  exact lv_lload_n hx hb hd hi (lv_at hl q hl0) (k H locs ls hP hD hS hl)
theorem j_lload (h : CxOK X T cc own Ts R nL) {i : Nat} {x : Int64} (hd : decode cc pc = .ok (.lload i, 2)) (q : Nat) (hl0 : lv[q]? = some (i, .long x)) (k : J X cells slots (pc + 2) lv (.long x :: stk) ws) : J X cells slots pc lv (stk) ws := by
  obtain ⟨p, l, e, R', s, m, args, below, meth, c, D, A, H0, nL', Q⟩ := X
  obtain ⟨hx, hb, hml, hnl, hR', hown, hts, hK, hN, hA, hlk, hE⟩ := h
  subst hnl; subst hR'
  intro H locs ls hP hD hS hl
  exact lv_lload hx hb hd (lv_at hl q hl0) (k H locs ls hP hD hS hl)
theorem j_aload_n (h : CxOK X T cc own Ts R nL) {k0 : Fin 4} {i : Nat} {x : Nat} (hd : decode cc pc = .ok (.aload_n k0, 1)) (q : Nat) (hi : (k0 : Nat) = i) (hl0 : lv[q]? = some (i, .ref x)) (k : J X cells slots (pc + 1) lv (.ref x :: stk) ws) : J X cells slots pc lv (stk) ws := by
  obtain ⟨p, l, e, R', s, m, args, below, meth, c, D, A, H0, nL', Q⟩ := X
  obtain ⟨hx, hb, hml, hnl, hR', hown, hts, hK, hN, hA, hlk, hE⟩ := h
  subst hnl; subst hR'
  intro H locs ls hP hD hS hl
  exact lv_aload_n hx hb hd hi (lv_at hl q hl0) (k H locs ls hP hD hS hl)
theorem j_aload (h : CxOK X T cc own Ts R nL) {i : Nat} {x : Nat} (hd : decode cc pc = .ok (.aload i, 2)) (q : Nat) (hl0 : lv[q]? = some (i, .ref x)) (k : J X cells slots (pc + 2) lv (.ref x :: stk) ws) : J X cells slots pc lv (stk) ws := by
  obtain ⟨p, l, e, R', s, m, args, below, meth, c, D, A, H0, nL', Q⟩ := X
  obtain ⟨hx, hb, hml, hnl, hR', hown, hts, hK, hN, hA, hlk, hE⟩ := h
  subst hnl; subst hR'
  intro H locs ls hP hD hS hl
  exact lv_aload hx hb hd (lv_at hl q hl0) (k H locs ls hP hD hS hl)
theorem j_istore_n (h : CxOK X T cc own Ts R nL) {k0 : Fin 4} {i : Nat} {x : Int32} {lv' : List (Nat × Value)} (hd : decode cc pc = .ok (.istore_n k0, 1)) (ks : List Nat) (hi : (k0 : Nat) = i) (hn : i < nL) (hl0 : lv_pick ((i, Value.int x) :: lv.filter (fun q => !(q.1 == i) && !(q.1 + 1 == i && q.2.category == 2))) ks = lv') (k : J X cells slots (pc + 1) lv' stk ws) : J X cells slots pc lv (.int x :: stk) ws := by
  obtain ⟨p, l, e, R', s, m, args, below, meth, c, D, A, H0, nL', Q⟩ := X
  obtain ⟨hx, hb, hml, hnl, hR', hown, hts, hK, hN, hA, hlk, hE⟩ := h
  subst hnl; subst hR'
  intro H locs ls hP hD hS hl
  exact lv_istore_n hx hb hd hi hl hn rfl (fun ls hl => k H locs ls hP hD hS (lv_sub hl ks hl0))
theorem j_istore (h : CxOK X T cc own Ts R nL) {i : Nat} {x : Int32} {lv' : List (Nat × Value)} (hd : decode cc pc = .ok (.istore i, 2)) (ks : List Nat) (hn : i < nL) (hl0 : lv_pick ((i, Value.int x) :: lv.filter (fun q => !(q.1 == i) && !(q.1 + 1 == i && q.2.category == 2))) ks = lv') (k : J X cells slots (pc + 2) lv' stk ws) : J X cells slots pc lv (.int x :: stk) ws := by
  obtain ⟨p, l, e, R', s, m, args, below, meth, c, D, A, H0, nL', Q⟩ := X
  obtain ⟨hx, hb, hml, hnl, hR', hown, hts, hK, hN, hA, hlk, hE⟩ := h
  subst hnl; subst hR'
  intro H locs ls hP hD hS hl
  exact lv_istore hx hb hd hl hn rfl (fun ls hl => k H locs ls hP hD hS (lv_sub hl ks hl0))
theorem j_lstore_n (h : CxOK X T cc own Ts R nL) {k0 : Fin 4} {i : Nat} {x : Int64} {lv' : List (Nat × Value)} (hd : decode cc pc = .ok (.lstore_n k0, 1)) (ks : List Nat) (hi : (k0 : Nat) = i) (hn : i + 1 < nL) (hl0 : lv_pick ((i, Value.long x) :: lv.filter (fun q => !(q.1 == i) && (!(q.1 == i + 1) && !(q.1 + 1 == i && q.2.category == 2)))) ks = lv') (k : J X cells slots (pc + 1) lv' stk ws) : J X cells slots pc lv (.long x :: stk) ws := by
  obtain ⟨p, l, e, R', s, m, args, below, meth, c, D, A, H0, nL', Q⟩ := X
  obtain ⟨hx, hb, hml, hnl, hR', hown, hts, hK, hN, hA, hlk, hE⟩ := h
  subst hnl; subst hR'
  intro H locs ls hP hD hS hl
  exact lv_lstore_n hx hb hd hi hl hn rfl (fun ls hl => k H locs ls hP hD hS (lv_sub hl ks hl0))
theorem j_lstore (h : CxOK X T cc own Ts R nL) {i : Nat} {x : Int64} {lv' : List (Nat × Value)} (hd : decode cc pc = .ok (.lstore i, 2)) (ks : List Nat) (hn : i + 1 < nL) (hl0 : lv_pick ((i, Value.long x) :: lv.filter (fun q => !(q.1 == i) && (!(q.1 == i + 1) && !(q.1 + 1 == i && q.2.category == 2)))) ks = lv') (k : J X cells slots (pc + 2) lv' stk ws) : J X cells slots pc lv (.long x :: stk) ws := by
  obtain ⟨p, l, e, R', s, m, args, below, meth, c, D, A, H0, nL', Q⟩ := X
  obtain ⟨hx, hb, hml, hnl, hR', hown, hts, hK, hN, hA, hlk, hE⟩ := h
  subst hnl; subst hR'
  intro H locs ls hP hD hS hl
  exact lv_lstore hx hb hd hl hn rfl (fun ls hl => k H locs ls hP hD hS (lv_sub hl ks hl0))
theorem j_astore_n (h : CxOK X T cc own Ts R nL) {k0 : Fin 4} {i : Nat} {x : Nat} {lv' : List (Nat × Value)} (hd : decode cc pc = .ok (.astore_n k0, 1)) (ks : List Nat) (hi : (k0 : Nat) = i) (hn : i < nL) (hl0 : lv_pick ((i, Value.ref x) :: lv.filter (fun q => !(q.1 == i) && !(q.1 + 1 == i && q.2.category == 2))) ks = lv') (k : J X cells slots (pc + 1) lv' stk ws) : J X cells slots pc lv (.ref x :: stk) ws := by
  obtain ⟨p, l, e, R', s, m, args, below, meth, c, D, A, H0, nL', Q⟩ := X
  obtain ⟨hx, hb, hml, hnl, hR', hown, hts, hK, hN, hA, hlk, hE⟩ := h
  subst hnl; subst hR'
  intro H locs ls hP hD hS hl
  exact lv_astore_n hx hb hd hi hl hn rfl (fun ls hl => k H locs ls hP hD hS (lv_sub hl ks hl0))
theorem j_astore (h : CxOK X T cc own Ts R nL) {i : Nat} {x : Nat} {lv' : List (Nat × Value)} (hd : decode cc pc = .ok (.astore i, 2)) (ks : List Nat) (hn : i < nL) (hl0 : lv_pick ((i, Value.ref x) :: lv.filter (fun q => !(q.1 == i) && !(q.1 + 1 == i && q.2.category == 2))) ks = lv') (k : J X cells slots (pc + 2) lv' stk ws) : J X cells slots pc lv (.ref x :: stk) ws := by
  obtain ⟨p, l, e, R', s, m, args, below, meth, c, D, A, H0, nL', Q⟩ := X
  obtain ⟨hx, hb, hml, hnl, hR', hown, hts, hK, hN, hA, hlk, hE⟩ := h
  subst hnl; subst hR'
  intro H locs ls hP hD hS hl
  exact lv_astore hx hb hd hl hn rfl (fun ls hl => k H locs ls hP hD hS (lv_sub hl ks hl0))
theorem j_iinc (h : CxOK X T cc own Ts R nL) {i : Nat} {z n : Int} {lv' : List (Nat × Value)} (hd : decode cc pc = .ok (.iinc i n, 3)) (q : Nat) (ks : List Nat) (hq : lv[q]? = some (i, .int (iI z))) (hn : i < nL) (hl0 : lv_pick ((i, Value.int (iI (z + n))) :: lv.filter (fun q => !(q.1 == i) && !(q.1 + 1 == i && q.2.category == 2))) ks = lv') (k : J X cells slots (pc + 3) lv' stk ws) : J X cells slots pc lv stk ws := by
  obtain ⟨p, l, e, R', s, m, args, below, meth, c, D, A, H0, nL', Q⟩ := X
  obtain ⟨hx, hb, hml, hnl, hR', hown, hts, hK, hN, hA, hlk, hE⟩ := h
  subst hnl; subst hR'
  intro H locs ls hP hD hS hl
  exact lv_iinc (v := iI (z + n)) hx hb hd hl hq (by rw [← iI_add]; rfl) hn rfl (fun ls hl => k H locs ls hP hD hS (lv_sub hl ks hl0))
theorem j_iadd (h : CxOK X T cc own Ts R nL) {a b : Int} (hd : decode cc pc = .ok (.iadd, 1)) (k : J X cells slots (pc + 1) lv (.int (iI (a + b)) :: stk) ws) : J X cells slots pc lv (.int (iI b) :: .int (iI a) :: stk) ws := by
  obtain ⟨p, l, e, R', s, m, args, below, meth, c, D, A, H0, nL', Q⟩ := X
  obtain ⟨hx, hb, hml, hnl, hR', hown, hts, hK, hN, hA, hlk, hE⟩ := h
  subst hnl; subst hR'
  intro H locs ls hP hD hS hl
  refine lv_iadd hx hb hd ?_
  rw [iI_add]
  exact k H locs ls hP hD hS hl
theorem j_isub (h : CxOK X T cc own Ts R nL) {a b : Int} (hd : decode cc pc = .ok (.isub, 1)) (k : J X cells slots (pc + 1) lv (.int (iI (a - b)) :: stk) ws) : J X cells slots pc lv (.int (iI b) :: .int (iI a) :: stk) ws := by
  obtain ⟨p, l, e, R', s, m, args, below, meth, c, D, A, H0, nL', Q⟩ := X
  obtain ⟨hx, hb, hml, hnl, hR', hown, hts, hK, hN, hA, hlk, hE⟩ := h
  subst hnl; subst hR'
  intro H locs ls hP hD hS hl
  refine lv_isub hx hb hd ?_
  rw [iI_sub]
  exact k H locs ls hP hD hS hl
theorem j_imul (h : CxOK X T cc own Ts R nL) {a b : Int} (hd : decode cc pc = .ok (.imul, 1)) (k : J X cells slots (pc + 1) lv (.int (iI (a * b)) :: stk) ws) : J X cells slots pc lv (.int (iI b) :: .int (iI a) :: stk) ws := by
  obtain ⟨p, l, e, R', s, m, args, below, meth, c, D, A, H0, nL', Q⟩ := X
  obtain ⟨hx, hb, hml, hnl, hR', hown, hts, hK, hN, hA, hlk, hE⟩ := h
  subst hnl; subst hR'
  intro H locs ls hP hD hS hl
  refine lv_imul hx hb hd ?_
  rw [iI_mul]
  exact k H locs ls hP hD hS hl
theorem j_ladd (h : CxOK X T cc own Ts R nL) {a b : Int} (hd : decode cc pc = .ok (.ladd, 1)) (k : J X cells slots (pc + 1) lv (.long (lI (a + b)) :: stk) ws) : J X cells slots pc lv (.long (lI b) :: .long (lI a) :: stk) ws := by
  obtain ⟨p, l, e, R', s, m, args, below, meth, c, D, A, H0, nL', Q⟩ := X
  obtain ⟨hx, hb, hml, hnl, hR', hown, hts, hK, hN, hA, hlk, hE⟩ := h
  subst hnl; subst hR'
  intro H locs ls hP hD hS hl
  refine lv_ladd hx hb hd ?_
  rw [lI_add]
  exact k H locs ls hP hD hS hl
theorem j_lsub (h : CxOK X T cc own Ts R nL) {a b : Int} (hd : decode cc pc = .ok (.lsub, 1)) (k : J X cells slots (pc + 1) lv (.long (lI (a - b)) :: stk) ws) : J X cells slots pc lv (.long (lI b) :: .long (lI a) :: stk) ws := by
  obtain ⟨p, l, e, R', s, m, args, below, meth, c, D, A, H0, nL', Q⟩ := X
  obtain ⟨hx, hb, hml, hnl, hR', hown, hts, hK, hN, hA, hlk, hE⟩ := h
  subst hnl; subst hR'
  intro H locs ls hP hD hS hl
  refine lv_lsub hx hb hd ?_
  rw [lI_sub]
  exact k H locs ls hP hD hS hl
theorem j_lmul (h : CxOK X T cc own Ts R nL) {a b : Int} (hd : decode cc pc = .ok (.lmul, 1)) (k : J X cells slots (pc + 1) lv (.long (lI (a * b)) :: stk) ws) : J X cells slots pc lv (.long (lI b) :: .long (lI a) :: stk) ws := by
  obtain ⟨p, l, e, R', s, m, args, below, meth, c, D, A, H0, nL', Q⟩ := X
  obtain ⟨hx, hb, hml, hnl, hR', hown, hts, hK, hN, hA, hlk, hE⟩ := h
  subst hnl; subst hR'
  intro H locs ls hP hD hS hl
  refine lv_lmul hx hb hd ?_
  rw [lI_mul]
  exact k H locs ls hP hD hS hl
theorem j_irem (h : CxOK X T cc own Ts R nL) {a b : Int} (hd : decode cc pc = .ok (.irem, 1)) (ha : 0 ≤ a ∧ a ≤ 2147483647) (hb0 : 0 < b ∧ b ≤ 2147483647) (k : J X cells slots (pc + 1) lv (.int (iI (a % b)) :: stk) ws) : J X cells slots pc lv (.int (iI b) :: .int (iI a) :: stk) ws := by
  obtain ⟨p, l, e, R', s, m, args, below, meth, c, D, A, H0, nL', Q⟩ := X
  obtain ⟨hx, hb, hml, hnl, hR', hown, hts, hK, hN, hA, hlk, hE⟩ := h
  subst hnl; subst hR'
  intro H locs ls hP hD hS hl
  refine lv_irem hx hb hd (iI_ne0 hb0) ?_
  rw [iI_rem ha hb0]
  exact k H locs ls hP hD hS hl
theorem j_idiv (h : CxOK X T cc own Ts R nL) {a b : Int} (hd : decode cc pc = .ok (.idiv, 1)) (ha : 0 ≤ a ∧ a ≤ 2147483647) (hb0 : 0 < b ∧ b ≤ 2147483647) (k : J X cells slots (pc + 1) lv (.int (iI (a / b)) :: stk) ws) : J X cells slots pc lv (.int (iI b) :: .int (iI a) :: stk) ws := by
  obtain ⟨p, l, e, R', s, m, args, below, meth, c, D, A, H0, nL', Q⟩ := X
  obtain ⟨hx, hb, hml, hnl, hR', hown, hts, hK, hN, hA, hlk, hE⟩ := h
  subst hnl; subst hR'
  intro H locs ls hP hD hS hl
  refine lv_idiv hx hb hd (iI_ne0 hb0) ?_
  rw [iI_div ha hb0]
  exact k H locs ls hP hD hS hl
theorem j_lrem (h : CxOK X T cc own Ts R nL) {a b : Int} (hd : decode cc pc = .ok (.lrem, 1)) (ha : 0 ≤ a ∧ a ≤ 9223372036854775807) (hb0 : 0 < b ∧ b ≤ 9223372036854775807) (k : J X cells slots (pc + 1) lv (.long (lI (a % b)) :: stk) ws) : J X cells slots pc lv (.long (lI b) :: .long (lI a) :: stk) ws := by
  obtain ⟨p, l, e, R', s, m, args, below, meth, c, D, A, H0, nL', Q⟩ := X
  obtain ⟨hx, hb, hml, hnl, hR', hown, hts, hK, hN, hA, hlk, hE⟩ := h
  subst hnl; subst hR'
  intro H locs ls hP hD hS hl
  refine lv_lrem hx hb hd (lI_ne0 hb0) ?_
  rw [lI_rem ha hb0]
  exact k H locs ls hP hD hS hl
theorem j_ldiv (h : CxOK X T cc own Ts R nL) {a b : Int} (hd : decode cc pc = .ok (.ldiv, 1)) (ha : 0 ≤ a ∧ a ≤ 9223372036854775807) (hb0 : 0 < b ∧ b ≤ 9223372036854775807) (k : J X cells slots (pc + 1) lv (.long (lI (a / b)) :: stk) ws) : J X cells slots pc lv (.long (lI b) :: .long (lI a) :: stk) ws := by
  obtain ⟨p, l, e, R', s, m, args, below, meth, c, D, A, H0, nL', Q⟩ := X
  obtain ⟨hx, hb, hml, hnl, hR', hown, hts, hK, hN, hA, hlk, hE⟩ := h
  subst hnl; subst hR'
  intro H locs ls hP hD hS hl
  refine lv_ldiv hx hb hd (lI_ne0 hb0) ?_
  rw [lI_div ha hb0]
  exact k H locs ls hP hD hS hl
theorem j_iandm (h : CxOK X T cc own Ts R nL) {a b : Int} (hd : decode cc pc = .ok (.iand, 1)) (n : Nat) (hm : b = 2 ^ n - 1) (hn : n ≤ 31) (k : J X cells slots (pc + 1) lv (.int (iI (a % 2 ^ n)) :: stk) ws) : J X cells slots pc lv (.int (iI b) :: .int (iI a) :: stk) ws := by
  obtain ⟨p, l, e, R', s, m, args, below, meth, c, D, A, H0, nL', Q⟩ := X
  obtain ⟨hx, hb, hml, hnl, hR', hown, hts, hK, hN, hA, hlk, hE⟩ := h
  subst hnl; subst hR'
  intro H locs ls hP hD hS hl
  refine lv_iand hx hb hd ?_
  rw [iI_andm a n hm hn]
  exact k H locs ls hP hD hS hl
theorem j_ior (h : CxOK X T cc own Ts R nL) {a b : Int} (hd : decode cc pc = .ok (.ior, 1)) (ha : 0 ≤ a) (hb0 : 0 ≤ b) (k : J X cells slots (pc + 1) lv (.int (iI ((a.toNat ||| b.toNat : Nat) : Int)) :: stk) ws) : J X cells slots pc lv (.int (iI b) :: .int (iI a) :: stk) ws := by
  obtain ⟨p, l, e, R', s, m, args, below, meth, c, D, A, H0, nL', Q⟩ := X
  obtain ⟨hx, hb, hml, hnl, hR', hown, hts, hK, hN, hA, hlk, hE⟩ := h
  subst hnl; subst hR'
  intro H locs ls hP hD hS hl
  refine lv_ior hx hb hd ?_
  obtain ⟨a1, rfl⟩ := Int.eq_ofNat_of_zero_le ha
  obtain ⟨b1, rfl⟩ := Int.eq_ofNat_of_zero_le hb0
  rw [iI_or]
  exact k H locs ls hP hD hS hl
theorem j_ishl (h : CxOK X T cc own Ts R nL) {a b : Int} (hd : decode cc pc = .ok (.ishl, 1)) (hb0 : 0 ≤ b ∧ b ≤ 31) (k : J X cells slots (pc + 1) lv (.int (iI (a * 2 ^ b.toNat)) :: stk) ws) : J X cells slots pc lv (.int (iI b) :: .int (iI a) :: stk) ws := by
  obtain ⟨p, l, e, R', s, m, args, below, meth, c, D, A, H0, nL', Q⟩ := X
  obtain ⟨hx, hb, hml, hnl, hR', hown, hts, hK, hN, hA, hlk, hE⟩ := h
  subst hnl; subst hR'
  intro H locs ls hP hD hS hl
  refine lv_ishl hx hb hd ?_
  rw [iI_shl a hb0]
  exact k H locs ls hP hD hS hl
theorem j_ishr (h : CxOK X T cc own Ts R nL) {a b : Int} (hd : decode cc pc = .ok (.ishr, 1)) (ha : -2147483648 ≤ a ∧ a ≤ 2147483647) (hb0 : 0 ≤ b ∧ b ≤ 31) (k : J X cells slots (pc + 1) lv (.int (iI (a / 2 ^ b.toNat)) :: stk) ws) : J X cells slots pc lv (.int (iI b) :: .int (iI a) :: stk) ws := by
  obtain ⟨p, l, e, R', s, m, args, below, meth, c, D, A, H0, nL', Q⟩ := X
  obtain ⟨hx, hb, hml, hnl, hR', hown, hts, hK, hN, hA, hlk, hE⟩ := h
  subst hnl; subst hR'
  intro H locs ls hP hD hS hl
  refine lv_ishr hx hb hd ?_
  rw [iI_shr ha hb0]
  exact k H locs ls hP hD hS hl
theorem j_iushr (h : CxOK X T cc own Ts R nL) {a b : Int} (hd : decode cc pc = .ok (.iushr, 1)) (hb0 : 0 ≤ b ∧ b ≤ 31) (k : J X cells slots (pc + 1) lv (.int (iI (a % 4294967296 / 2 ^ b.toNat)) :: stk) ws) : J X cells slots pc lv (.int (iI b) :: .int (iI a) :: stk) ws := by
  obtain ⟨p, l, e, R', s, m, args, below, meth, c, D, A, H0, nL', Q⟩ := X
  obtain ⟨hx, hb, hml, hnl, hR', hown, hts, hK, hN, hA, hlk, hE⟩ := h
  subst hnl; subst hR'
  intro H locs ls hP hD hS hl
  exact lv_iushr hx hb hd (iI_ushr a hb0) (k H locs ls hP hD hS hl)
theorem j_i2b (h : CxOK X T cc own Ts R nL) {a : Int} (hd : decode cc pc = .ok (.i2b, 1)) (k : J X cells slots (pc + 1) lv (.int (iI ((a + 128) % 256 - 128)) :: stk) ws) : J X cells slots pc lv (.int (iI a) :: stk) ws := by
  obtain ⟨p, l, e, R', s, m, args, below, meth, c, D, A, H0, nL', Q⟩ := X
  obtain ⟨hx, hb, hml, hnl, hR', hown, hts, hK, hN, hA, hlk, hE⟩ := h
  subst hnl; subst hR'
  intro H locs ls hP hD hS hl
  exact lv_i2b hx hb hd (iI_i2b a) (k H locs ls hP hD hS hl)
theorem j_i2l (h : CxOK X T cc own Ts R nL) {a : Int} (hd : decode cc pc = .ok (.i2l, 1)) (ha : -2147483648 ≤ a ∧ a ≤ 2147483647) (k : J X cells slots (pc + 1) lv (.long (lI a) :: stk) ws) : J X cells slots pc lv (.int (iI a) :: stk) ws := by
  obtain ⟨p, l, e, R', s, m, args, below, meth, c, D, A, H0, nL', Q⟩ := X
  obtain ⟨hx, hb, hml, hnl, hR', hown, hts, hK, hN, hA, hlk, hE⟩ := h
  subst hnl; subst hR'
  intro H locs ls hP hD hS hl
  exact lv_i2l hx hb hd (iI_l ha) (k H locs ls hP hD hS hl)
theorem j_l2i (h : CxOK X T cc own Ts R nL) {a : Int} (hd : decode cc pc = .ok (.l2i, 1)) (k : J X cells slots (pc + 1) lv (.int (iI a) :: stk) ws) : J X cells slots pc lv (.long (lI a) :: stk) ws := by
  obtain ⟨p, l, e, R', s, m, args, below, meth, c, D, A, H0, nL', Q⟩ := X
  obtain ⟨hx, hb, hml, hnl, hR', hown, hts, hK, hN, hA, hlk, hE⟩ := h
  subst hnl; subst hR'
  intro H locs ls hP hD hS hl
  exact lv_l2i hx hb hd (lI_i a) (k H locs ls hP hD hS hl)
theorem j_lcmp (h : CxOK X T cc own Ts R nL) {a b : Int} (hd : decode cc pc = .ok (.lcmp, 1)) (ha : -9223372036854775808 ≤ a ∧ a ≤ 9223372036854775807) (hb0 : -9223372036854775808 ≤ b ∧ b ≤ 9223372036854775807) (k : J X cells slots (pc + 1) lv (.int (iI (cmpI a b)) :: stk) ws) : J X cells slots pc lv (.long (lI b) :: .long (lI a) :: stk) ws := by
  obtain ⟨p, l, e, R', s, m, args, below, meth, c, D, A, H0, nL', Q⟩ := X
  obtain ⟨hx, hb, hml, hnl, hR', hown, hts, hK, hN, hA, hlk, hE⟩ := h
  subst hnl; subst hR'
  intro H locs ls hP hD hS hl
  refine W.lcmp hx hb hd ?_
  rw [lI_cmp ha hb0]
  exact k H locs ls hP hD hS hl
theorem j_dup (h : CxOK X T cc own Ts R nL) {x : Value} (hd : decode cc pc = .ok (.dup, 1)) (hc : x.category = 1) (k : J X cells slots (pc + 1) lv (x :: x :: stk) ws) : J X cells slots pc lv (x :: stk) ws := by
  obtain ⟨p, l, e, R', s, m, args, below, meth, c, D, A, H0, nL', Q⟩ := X
  obtain ⟨hx, hb, hml, hnl, hR', hown, hts, hK, hN, hA, hlk, hE⟩ := h
  subst hnl; subst hR'
  intro H locs ls hP hD hS hl
  exact lv_dup hx hb hd hc (k H locs ls hP hD hS hl)
theorem j_pop (h : CxOK X T cc own Ts R nL) {x : Value} (hd : decode cc pc = .ok (.pop, 1)) (hc : x.category = 1) (k : J X cells slots (pc + 1) lv (stk) ws) : J X cells slots pc lv (x :: stk) ws := by
  obtain ⟨p, l, e, R', s, m, args, below, meth, c, D, A, H0, nL', Q⟩ := X
  obtain ⟨hx, hb, hml, hnl, hR', hown, hts, hK, hN, hA, hlk, hE⟩ := h
  subst hnl; subst hR'
  intro H locs ls hP hD hS hl
  exact lv_pop hx hb hd hc (k H locs ls hP hD hS hl)
theorem j_dup2 (h : CxOK X T cc own Ts R nL) {x y : Value} (hd : decode cc pc = .ok (.dup2, 1)) (hc : x.category = 1) (hc2 : y.category = 1) (k : J X cells slots (pc + 1) lv (x :: y :: x :: y :: stk) ws) : J X cells slots pc lv (x :: y :: stk) ws := by
  obtain ⟨p, l, e, R', s, m, args, below, meth, c, D, A, H0, nL', Q⟩ := X
  obtain ⟨hx, hb, hml, hnl, hR', hown, hts, hK, hN, hA, hlk, hE⟩ := h
  subst hnl; subst hR'
  intro H locs ls hP hD hS hl
  exact lv_dup2_11 hx hb hd hc hc2 (k H locs ls hP hD hS hl)
theorem j_goto (h : CxOK X T cc own Ts R nL) {off : Int} {tgt : Nat} (hd : decode cc pc = .ok (.goto off, 3)) (ht : (pc : Int) + off = (tgt : Int)) (k : J X cells slots tgt lv stk ws) : J X cells slots pc lv stk ws := by
  obtain ⟨p, l, e, R', s, m, args, below, meth, c, D, A, H0, nL', Q⟩ := X
  obtain ⟨hx, hb, hml, hnl, hR', hown, hts, hK, hN, hA, hlk, hE⟩ := h
  subst hnl; subst hR'
  intro H locs ls hP hD hS hl
  exact lv_goto hx hb hd ht (k H locs ls hP hD hS hl)
theorem j_icmp_eq (h : CxOK X T cc own Ts R nL) {a b : Int} {off : Int} (tgt : Nat) (hd : decode cc pc = .ok (.if_icmp .eq off, 3)) (ht : (pc : Int) + off = (tgt : Int)) (ha : -2147483648 ≤ a ∧ a ≤ 2147483647) (hb0 : -2147483648 ≤ b ∧ b ≤ 2147483647) (kt : a = b → J X cells slots tgt lv stk ws) (kf : ¬ a = b → J X cells slots (pc + 3) lv stk ws) : J X cells slots pc lv (.int (iI b) :: .int (iI a) :: stk) ws := by
  obtain ⟨p, l, e, R', s, m, args, below, meth, c, D, A, H0, nL', Q⟩ := X
  obtain ⟨hx, hb, hml, hnl, hR', hown, hts, hK, hN, hA, hlk, hE⟩ := h
  subst hnl; subst hR'
  intro H locs ls hP hD hS hl
  exact lv_icmp_eq hx hb hd ht (fun q => kt ((iI_eq ha hb0).mp q) H locs ls hP hD hS hl) (fun q => kf (fun z => q ((iI_eq ha hb0).mpr z)) H locs ls hP hD hS hl)
theorem j_if_eq (h : CxOK X T cc own Ts R nL) {a : Int} {off : Int} (tgt : Nat) (hd : decode cc pc = .ok (.ifCond .eq off, 3)) (ht : (pc : Int) + off = (tgt : Int)) (ha : -2147483648 ≤ a ∧ a ≤ 2147483647) (kt : a = 0 → J X cells slots tgt lv stk ws) (kf : ¬ a = 0 → J X cells slots (pc + 3) lv stk ws) : J X cells slots pc lv (.int (iI a) :: stk) ws := by
  obtain ⟨p, l, e, R', s, m, args, below, meth, c, D, A, H0, nL', Q⟩ := X
  obtain ⟨hx, hb, hml, hnl, hR', hown, hts, hK, hN, hA, hlk, hE⟩ := h
  subst hnl; subst hR'
  intro H locs ls hP hD hS hl
  have hb0 : -2147483648 ≤ (0 : Int) ∧ (0 : Int) ≤ 2147483647 := by omega
  exact lv_if_eq hx hb hd ht (fun q => kt ((iI_eq ha hb0).mp q) H locs ls hP hD hS hl) (fun q => kf (fun z => q ((iI_eq ha hb0).mpr z)) H locs ls hP hD hS hl)
theorem j_icmp_ne (h : CxOK X T cc own Ts R nL) {a b : Int} {off : Int} (tgt : Nat) (hd : decode cc pc = .ok (.if_icmp .ne off, 3)) (ht : (pc : Int) + off = (tgt : Int)) (ha : -2147483648 ≤ a ∧ a ≤ 2147483647) (hb0 : -2147483648 ≤ b ∧ b ≤ 2147483647) (kt : ¬ a = b → J X cells slots tgt lv stk ws) (kf : a = b → J X cells slots (pc + 3) lv stk ws) : J X cells slots pc lv (.int (iI b) :: .int (iI a) :: stk) ws := by
  obtain ⟨p, l, e, R', s, m, args, below, meth, c, D, A, H0, nL', Q⟩ := X
  obtain ⟨hx, hb, hml, hnl, hR', hown, hts, hK, hN, hA, hlk, hE⟩ := h
  subst hnl; subst hR'
  intro H locs ls hP hD hS hl
  exact lv_icmp_ne hx hb hd ht (fun q => kt (fun z => q ((iI_eq ha hb0).mpr z)) H locs ls hP hD hS hl) (fun q => kf ((iI_eq ha hb0).mp q) H locs ls hP hD hS hl)
theorem j_if_ne (h : CxOK X T cc own Ts R nL) {a : Int} {off : Int} (tgt : Nat) (hd : decode cc pc = .ok (.ifCond .ne off, 3)) (ht : (pc : Int) + off = (tgt : Int)) (ha : -2147483648 ≤ a ∧ a ≤ 2147483647) (kt : ¬ a = 0 → J X cells slots tgt lv stk ws) (kf : a = 0 → J X cells slots (pc + 3) lv stk ws) : J X cells slots pc lv (.int (iI a) :: stk) ws := by
  obtain ⟨p, l, e, R', s, m, args, below, meth, c, D, A, H0, nL', Q⟩ := X
  obtain ⟨hx, hb, hml, hnl, hR', hown, hts, hK, hN, hA, hlk, hE⟩ := h
  subst hnl; subst hR'
  intro H locs ls hP hD hS hl
  have hb0 : -2147483648 ≤ (0 : Int) ∧ (0 : Int) ≤ 2147483647 := by omega
  exact lv_if_ne hx hb hd ht (fun q => kt (fun z => q ((iI_eq ha hb0).mpr z)) H locs ls hP hD hS hl) (fun q => kf ((iI_eq ha hb0).mp q) H locs ls hP hD hS hl)
theorem j_icmp_lt (h : CxOK X T cc own Ts R nL) {a b : Int} {off : Int} (tgt : Nat) (hd : decode cc pc = .ok (.if_icmp .lt off, 3)) (ht : (pc : Int) + off = (tgt : Int)) (ha : -2147483648 ≤ a ∧ a ≤ 2147483647) (hb0 : -2147483648 ≤ b ∧ b ≤ 2147483647) (kt : a < b → J X cells slots tgt lv stk ws) (kf : b ≤ a → J X cells slots (pc + 3) lv stk ws) : J X cells slots pc lv (.int (iI b) :: .int (iI a) :: stk) ws := by
  obtain ⟨p, l, e, R', s, m, args, below, meth, c, D, A, H0, nL', Q⟩ := X
  obtain ⟨hx, hb, hml, hnl, hR', hown, hts, hK, hN, hA, hlk, hE⟩ := h
  subst hnl; subst hR'
  intro H locs ls hP hD hS hl
  exact lv_icmp_lt hx hb hd ht (fun q => kt ((iI_lt ha hb0).mp q) H locs ls hP hD hS hl) (fun q => kf (Int.not_lt.mp (fun z => q ((iI_lt ha hb0).mpr z))) H locs ls hP hD hS hl)
theorem j_if_lt (h : CxOK X T cc own Ts R nL) {a : Int} {off : Int} (tgt : Nat) (hd : decode cc pc = .ok (.ifCond .lt off, 3)) (ht : (pc : Int) + off = (tgt : Int)) (ha : -2147483648 ≤ a ∧ a ≤ 2147483647) (kt : a < 0 → J X cells slots tgt lv stk ws) (kf : 0 ≤ a → J X cells slots (pc + 3) lv stk ws) : J X cells slots pc lv (.int (iI a) :: stk) ws := by
  obtain ⟨p, l, e, R', s, m, args, below, meth, c, D, A, H0, nL', Q⟩ := X
  obtain ⟨hx, hb, hml, hnl, hR', hown, hts, hK, hN, hA, hlk, hE⟩ := h
  subst hnl; subst hR'
  intro H locs ls hP hD hS hl
  have hb0 : -2147483648 ≤ (0 : Int) ∧ (0 : Int) ≤ 2147483647 := by omega
  exact lv_if_lt hx hb hd ht (fun q => kt ((iI_lt ha hb0).mp q) H locs ls hP hD hS hl) (fun q => kf (Int.not_lt.mp (fun z => q ((iI_lt ha hb0).mpr z))) H locs ls hP hD hS hl)
theorem j_icmp_ge (h : CxOK X T cc own Ts R nL) {a b : Int} {off : Int} (tgt : Nat) (hd : decode cc pc = .ok (.if_icmp .ge off, 3)) (ht : (pc : Int) + off = (tgt : Int)) (ha : -2147483648 ≤ a ∧ a ≤ 2147483647) (hb0 : -2147483648 ≤ b ∧ b ≤ 2147483647) (kt : b ≤ a → J X cells slots tgt lv stk ws) (kf : a < b → J X cells slots (pc + 3) lv stk ws) : J X cells slots pc lv (.int (iI b) :: .int (iI a) :: stk) ws := by
  obtain ⟨p, l, e, R', s, m, args, below, meth, c, D, A, H0, nL', Q⟩ := X
  obtain ⟨hx, hb, hml, hnl, hR', hown, hts, hK, hN, hA, hlk, hE⟩ := h
  subst hnl; subst hR'
  intro H locs ls hP hD hS hl
  exact lv_icmp_ge hx hb hd ht (fun q => kt ((iI_le hb0 ha).mp q) H locs ls hP hD hS hl) (fun q => kf (Int.not_le.mp (fun z => q ((iI_le hb0 ha).mpr z))) H locs ls hP hD hS hl)
theorem j_if_ge (h : CxOK X T cc own Ts R nL) {a : Int} {off : Int} (tgt : Nat) (hd : decode cc pc = .ok (.ifCond .ge off, 3)) (ht : (pc : Int) + off = (tgt : Int)) (ha : -2147483648 ≤ a ∧ a ≤ 2147483647) (kt : 0 ≤ a → J X cells slots tgt lv stk ws) (kf : a < 0 → J X cells slots (pc + 3) lv stk ws) : J X cells slots pc lv (.int (iI a) :: stk) ws := by
  obtain ⟨p, l, e, R', s, m, args, below, meth, c, D, A, H0, nL', Q⟩ := X
  obtain ⟨hx, hb, hml, hnl, hR', hown, hts, hK, hN, hA, hlk, hE⟩ := h
  subst hnl; subst hR'
  intro H locs ls hP hD hS hl
  have hb0 : -2147483648 ≤ (0 : Int) ∧ (0 : Int) ≤ 2147483647 := by omega
  exact lv_if_ge hx hb hd ht (fun q => kt ((iI_le hb0 ha).mp q) H locs ls hP hD hS hl) (fun q => kf (Int.not_le.mp (fun z => q ((iI_le hb0 ha).mpr z))) H locs ls hP hD hS hl)
theorem j_icmp_gt (h : CxOK X T cc own Ts R nL) {a b : Int} {off : Int} (tgt : Nat) (hd : decode cc pc = .ok (.if_icmp .gt off, 3)) (ht : (pc : Int) + off = (tgt : Int)) (ha : -2147483648 ≤ a ∧ a ≤ 2147483647) (hb0 : -2147483648 ≤ b ∧ b ≤ 2147483647) (kt : b < a → J X cells slots tgt lv stk ws) (kf : a ≤ b → J X cells slots (pc + 3) lv stk ws) : J X cells slots pc lv (.int (iI b) :: .int (iI a) :: stk) ws := by
  obtain ⟨p, l, e, R', s, m, args, below, meth, c, D, A, H0, nL', Q⟩ := X
  obtain ⟨hx, hb, hml, hnl, hR', hown, hts, hK, hN, hA, hlk, hE⟩ := h
  subst hnl; subst hR'
  intro H locs ls hP hD hS hl
  exact lv_icmp_gt hx hb hd ht (fun q => kt ((iI_lt hb0 ha).mp q) H locs ls hP hD hS hl) (fun q => kf (Int.not_lt.mp (fun z => q ((iI_lt hb0 ha).mpr z))) H locs ls hP hD hS hl)
theorem j_if_gt (h : CxOK X T cc own Ts R nL) {a : Int} {off : Int} (tgt : Nat) (hd : decode cc pc = .ok (.ifCond .gt off, 3)) (ht : (pc : Int) + off = (tgt : Int)) (ha : -2147483648 ≤ a ∧ a ≤ 2147483647) (kt : 0 < a → J X cells slots tgt lv stk ws) (kf : a ≤ 0 → J X cells slots (pc + 3) lv stk ws) : J X cells slots pc lv (.int (iI a) :: stk) ws := by
  obtain ⟨p, l, e, R', s, m, args, below, meth, c, D, A, H0, nL', Q⟩ := X
  obtain ⟨hx, hb, hml, hnl, hR', hown, hts, hK, hN, hA, hlk, hE⟩ := h
  subst hnl; subst hR'
  intro H locs ls hP hD hS hl
  have hb0 : -2147483648 ≤ (0 : Int) ∧ (0 : Int) ≤ 2147483647 := by omega
  exact lv_if_gt hx hb hd ht (fun q => kt ((iI_lt hb0 ha).mp q) H locs ls hP hD hS hl) (fun q => kf (Int.not_lt.mp (fun z => q ((iI_lt hb0 ha).mpr z))) H locs ls hP hD hS hl)
theorem j_icmp_le (h : CxOK X T cc own Ts R nL) {a b : Int} {off : Int} (tgt : Nat) (hd : decode cc pc = .ok (.if_icmp .le off, 3)) (ht : (pc : Int) + off = (tgt : Int)) (ha : -2147483648 ≤ a ∧ a ≤ 2147483647) (hb0 : -2147483648 ≤ b ∧ b ≤ 2147483647) (kt : a ≤ b → J X cells slots tgt lv stk ws) (kf : b < a → J X cells slots (pc + 3) lv stk ws) : J X cells slots pc lv (.int (iI b) :: .int (iI a) :: stk) ws := by
  obtain ⟨p, l, e, R', s, m, args, below, meth, c, D, A, H0, nL', Q⟩ := X
  obtain ⟨hx, hb, hml, hnl, hR', hown, hts, hK, hN, hA, hlk, hE⟩ := h
  subst hnl; subst hR'
  intro H locs ls hP hD hS hl
  exact lv_icmp_le hx hb hd ht (fun q => kt ((iI_le ha hb0).mp q) H locs ls hP hD hS hl) (fun q => kf (Int.not_le.mp (fun z => q ((iI_le ha hb0).mpr z))) H locs ls hP hD hS hl)
theorem j_if_le (h : CxOK X T cc own Ts R nL) {a : Int} {off : Int} (tgt : Nat) (hd : decode cc pc = .ok (.ifCond .le off, 3)) (ht : (pc : Int) + off = (tgt : Int)) (ha : -2147483648 ≤ a ∧ a ≤ 2147483647) (kt : a ≤ 0 → J X cells slots tgt lv stk ws) (kf : 0 < a → J X cells slots (pc + 3) lv stk ws) : J X cells slots pc lv (.int (iI a) :: stk) ws := by
  obtain ⟨p, l, e, R', s, m, args, below, meth, c, D, A, H0, nL', Q⟩ := X
  obtain ⟨hx, hb, hml, hnl, hR', hown, hts, hK, hN, hA, hlk, hE⟩ := h
  subst hnl; subst hR'
  intro H locs ls hP hD hS hl
  have hb0 : -2147483648 ≤ (0 : Int) ∧ (0 : Int) ≤ 2147483647 := by omega
  exact lv_if_le hx hb hd ht (fun q => kt ((iI_le ha hb0).mp q) H locs ls hP hD hS hl) (fun q => kf (Int.not_le.mp (fun z => q ((iI_le ha hb0).mpr z))) H locs ls hP hD hS hl)
theorem j_ifeqB (h : CxOK X T cc own Ts R nL) {b : Bool} {off : Int} (tgt : Nat) (hd : decode cc pc = .ok (.ifCond .eq off, 3)) (ht : (pc : Int) + off = (tgt : Int)) (kt : b = false → J X cells slots tgt lv stk ws) (kf : b = true → J X cells slots (pc + 3) lv stk ws) : J X cells slots pc lv (.int (iI (bI b)) :: stk) ws := by
  obtain ⟨p, l, e, R', s, m, args, below, meth, c, D, A, H0, nL', Q⟩ := X
  obtain ⟨hx, hb, hml, hnl, hR', hown, hts, hK, hN, hA, hlk, hE⟩ := h
  subst hnl; subst hR'
  intro H locs ls hP hD hS hl
  cases b with
  | false => exact lv_if_eq hx hb hd ht (fun q => kt rfl H locs ls hP hD hS hl) (fun q => absurd rfl q)
  | true => exact lv_if_eq hx hb hd ht (fun q => absurd q (by decide)) (fun q => kf rfl H locs ls hP hD hS hl)
theorem j_ifneB (h : CxOK X T cc own Ts R nL) {b : Bool} {off : Int} (tgt : Nat) (hd : decode cc pc = .ok (.ifCond .ne off, 3)) (ht : (pc : Int) + off = (tgt : Int)) (kt : b = true → J X cells slots tgt lv stk ws) (kf : b = false → J X cells slots (pc + 3) lv stk ws) : J X cells slots pc lv (.int (iI (bI b)) :: stk) ws := by
  obtain ⟨p, l, e, R', s, m, args, below, meth, c, D, A, H0, nL', Q⟩ := X
  obtain ⟨hx, hb, hml, hnl, hR', hown, hts, hK, hN, hA, hlk, hE⟩ := h
  subst hnl; subst hR'
  intro H locs ls hP hD hS hl
  cases b with
  | true => exact lv_if_ne hx hb hd ht (fun q => kt rfl H locs ls hP hD hS hl) (fun q => absurd q (by decide))
  | false => exact lv_if_ne hx hb hd ht (fun q => absurd rfl q) (fun q => kf rfl H locs ls hP hD hS hl)
theorem j_tabIn (h : CxOK X T cc own Ts R nL) {dflt lo hi : Int} {offs : Array Int} {len : Nat} {a : Int} {off : Int} (tgt : Nat) (hd : decode cc pc = .ok (.tableswitch dflt lo hi offs, len)) (ha : -2147483648 ≤ a ∧ a ≤ 2147483647) (h1 : lo ≤ a) (h2 : a ≤ hi) (ho : offs[(a - lo).toNat]? = some off) (ht : (pc : Int) + off = (tgt : Int)) (k : J X cells slots tgt lv stk ws) : J X cells slots pc lv (.int (iI a) :: stk) ws := by
  obtain ⟨p, l, e, R', s, m, args, below, meth, c, D, A, H0, nL', Q⟩ := X
  obtain ⟨hx, hb, hml, hnl, hR', hown, hts, hK, hN, hA, hlk, hE⟩ := h
  subst hnl; subst hR'
  intro H locs ls hP hD hS hl
  exact lv_tableIn hx hb hd (by rw [iI_toInt ha]; omega) (by rw [iI_toInt ha]; omega) (by rw [iI_toInt ha]; exact ho) ht (k H locs ls hP hD hS hl)
theorem j_tabOut (h : CxOK X T cc own Ts R nL) {dflt lo hi : Int} {offs : Array Int} {len : Nat} {a : Int} (tgt : Nat) (hd : decode cc pc = .ok (.tableswitch dflt lo hi offs, len)) (ha : -2147483648 ≤ a ∧ a ≤ 2147483647) (h1 : a < lo ∨ hi < a) (ht : (pc : Int) + dflt = (tgt : Int)) (k : J X cells slots tgt lv stk ws) : J X cells slots pc lv (.int (iI a) :: stk) ws := by
  obtain ⟨p, l, e, R', s, m, args, below, meth, c, D, A, H0, nL', Q⟩ := X
  obtain ⟨hx, hb, hml, hnl, hR', hown, hts, hK, hN, hA, hlk, hE⟩ := h
  subst hnl; subst hR'
  intro H locs ls hP hD hS hl
  exact lv_tableOut hx hb hd (by rw [iI_toInt ha]; exact h1) ht (k H locs ls hP hD hS hl)
theorem j_lookup (h : CxOK X T cc own Ts R nL) {dflt : Int} {ps : Array (Int × Int)} {len : Nat} {a : Int} {off : Int} (tgt : Nat) (hd : decode cc pc = .ok (.lookupswitch dflt ps, len)) (hp : (ps.toList.zip (ps.toList.drop 1)).all (fun (a, next) => a.1 < next.1) = true) (ha : -2147483648 ≤ a ∧ a ≤ 2147483647) (ho : Op.lookupswitch.offset ps.toList dflt a = off) (ht : (pc : Int) + off = (tgt : Int)) (k : J X cells slots tgt lv stk ws) : J X cells slots pc lv (.int (iI a) :: stk) ws := by
  obtain ⟨p, l, e, R', s, m, args, below, meth, c, D, A, H0, nL', Q⟩ := X
  obtain ⟨hx, hb, hml, hnl, hR', hown, hts, hK, hN, hA, hlk, hE⟩ := h
  subst hnl; subst hR'
  intro H locs ls hP hD hS hl
  exact lv_lookup hx hb hd hp (by rw [iI_toInt ha]; exact ho) ht (k H locs ls hP hD hS hl)
theorem j_iald (h : CxOK X T cc own Ts R nL) {a n : Nat} {f : Int → Int} {e0 : Int} (e1 : Int) (hd : decode cc pc = .ok (.iaload, 1)) (q : Nat) (hq : ws[q]? = some (a, .inl (T 0, n, .inl (fun j : Nat => iI (f j))))) (hn : n ≤ 2147483647) (hee : e0 = e1) (he : 0 ≤ e1 ∧ e1 < (n : Int)) (k : J X cells slots (pc + 1) lv (.int (iI (f e1)) :: stk) ws) : J X cells slots pc lv (.int (iI e0) :: .ref a :: stk) ws := by
  obtain ⟨p, l, e, R', s, m, args, below, meth, c, D, A, H0, nL', Q⟩ := X
  obtain ⟨hx, hb, hml, hnl, hR', hown, hts, hK, hN, hA, hlk, hE⟩ := h
  subst hnl; subst hR'
  intro H locs ls hP hD hS hl
  subst hee
  refine va_iald hx hb hK hP q 0 hq rfl (iI_in he hn) hd ?_
  have e9 : ((e0.toNat : Nat) : Int) = e0 := by omega
  rw [iI_clamp (by omega)]
  show W _ _ _ _ _ _ _ _ _ _ _ _ _ _ _ (F0 m (pc + 1) ls (.int (iI (f ((e0.toNat : Nat) : Int))) :: stk))
  rw [e9]
  exact k H locs ls hP hD hS hl
theorem j_zald (h : CxOK X T cc own Ts R nL) {a n : Nat} {f : Int → Bool} {e0 : Int} (e1 : Int) (hd : decode cc pc = .ok (.baload, 1)) (q : Nat) (hq : ws[q]? = some (a, .inl (T 1, n, .inl (fun j : Nat => iI (bI (f j)))))) (hn : n ≤ 2147483647) (hee : e0 = e1) (he : 0 ≤ e1 ∧ e1 < (n : Int)) (k : J X cells slots (pc + 1) lv (.int (iI (bI (f e1))) :: stk) ws) : J X cells slots pc lv (.int (iI e0) :: .ref a :: stk) ws := by
  obtain ⟨p, l, e, R', s, m, args, below, meth, c, D, A, H0, nL', Q⟩ := X
  obtain ⟨hx, hb, hml, hnl, hR', hown, hts, hK, hN, hA, hlk, hE⟩ := h
  subst hnl; subst hR'
  intro H locs ls hP hD hS hl
  subst hee
  refine va_zald hx hb hK hP q 1 hq rfl (iI_in he hn) hd ?_
  have e9 : ((e0.toNat : Nat) : Int) = e0 := by omega
  rw [iI_clamp (by omega)]
  show W _ _ _ _ _ _ _ _ _ _ _ _ _ _ _ (F0 m (pc + 1) ls (.int (iI (bI (f ((e0.toNat : Nat) : Int)))) :: stk))
  rw [e9]
  exact k H locs ls hP hD hS hl
theorem j_bald (h : CxOK X T cc own Ts R nL) {a n : Nat} {f : Int → Int} {e0 : Int} (e1 : Int) (hd : decode cc pc = .ok (.baload, 1)) (q : Nat) (hq : ws[q]? = some (a, .inl (T 2, n, .inl (fun j : Nat => iI (f j))))) (hn : n ≤ 2147483647) (hee : e0 = e1) (he : 0 ≤ e1 ∧ e1 < (n : Int)) (k : J X cells slots (pc + 1) lv (.int (iI (f e1)) :: stk) ws) : J X cells slots pc lv (.int (iI e0) :: .ref a :: stk) ws := by
  obtain ⟨p, l, e, R', s, m, args, below, meth, c, D, A, H0, nL', Q⟩ := X
  obtain ⟨hx, hb, hml, hnl, hR', hown, hts, hK, hN, hA, hlk, hE⟩ := h
  subst hnl; subst hR'
  intro H locs ls hP hD hS hl
  subst hee
  refine va_bald hx hb hK hP q 2 hq rfl (iI_in he hn) hd ?_
  have e9 : ((e0.toNat : Nat) : Int) = e0 := by omega
  rw [iI_clamp (by omega)]
  show W _ _ _ _ _ _ _ _ _ _ _ _ _ _ _ (F0 m (pc + 1) ls (.int (iI (f ((e0.toNat : Nat) : Int))) :: stk))
  rw [e9]
  exact k H locs ls hP hD hS hl
theorem j_iast (h : CxOK X T cc own Ts R nL) {a n : Nat} {f : Int → Int} {e0 : Int} {v : Int} {ws' : va_W} (e1 : Int) (hd : decode cc pc = .ok (.iastore, 1)) (q : Nat) (hq : ws[q]? = some (a, .inl (T 0, n, .inl (fun j : Nat => iI (f j))))) (hn : n ≤ 2147483647) (hee : e0 = e1) (he : 0 ≤ e1 ∧ e1 < (n : Int)) (hw : ws.set q (a, .inl (T 0, n, .inl (fun j : Nat => iI (upI f e1 v j)))) = ws') (k : J X cells slots (pc + 1) lv stk ws') : J X cells slots pc lv (.int (iI v) :: .int (iI e0) :: .ref a :: stk) ws := by
  obtain ⟨p, l, e, R', s, m, args, below, meth, c, D, A, H0, nL', Q⟩ := X
  obtain ⟨hx, hb, hml, hnl, hR', hown, hts, hK, hN, hA, hlk, hE⟩ := h
  subst hnl; subst hR'
  intro H locs ls hP hD hS hl
  subst hee
  refine va_iast hx hb hK hP hD hS q 0 hq rfl (iI_in he hn) hd (fun H1 locs1 hP1 hD1 hS1 => ?_)
  rw [iI_clamp (by omega), upI_iI f he.1] at hP1 hD1
  subst hw
  exact k H1 locs1 ls hP1 hD1 hS1 hl
theorem j_zast (h : CxOK X T cc own Ts R nL) {a n : Nat} {f : Int → Bool} {e0 : Int} {v : Bool} {ws' : va_W} (e1 : Int) (hd : decode cc pc = .ok (.bastore, 1)) (q : Nat) (hq : ws[q]? = some (a, .inl (T 1, n, .inl (fun j : Nat => iI (bI (f j)))))) (hn : n ≤ 2147483647) (hee : e0 = e1) (he : 0 ≤ e1 ∧ e1 < (n : Int)) (hw : ws.set q (a, .inl (T 1, n, .inl (fun j : Nat => iI (bI (upI f e1 v j))))) = ws') (k : J X cells slots (pc + 1) lv stk ws') : J X cells slots pc lv (.int (iI (bI v)) :: .int (iI e0) :: .ref a :: stk) ws := by
  obtain ⟨p, l, e, R', s, m, args, below, meth, c, D, A, H0, nL', Q⟩ := X
  obtain ⟨hx, hb, hml, hnl, hR', hown, hts, hK, hN, hA, hlk, hE⟩ := h
  subst hnl; subst hR'
  intro H locs ls hP hD hS hl
  subst hee
  refine va_zast hx hb hK hP hD hS q 1 hq rfl (iI_in he hn) hd (fun H1 locs1 hP1 hD1 hS1 => ?_)
  rw [iI_clamp (by omega), iI_zst, upI_bI f he.1] at hP1 hD1
  subst hw
  exact k H1 locs1 ls hP1 hD1 hS1 hl
theorem j_bast (h : CxOK X T cc own Ts R nL) {a n : Nat} {f : Int → Int} {e0 : Int} {v : Int} {ws' : va_W} (e1 : Int) (hd : decode cc pc = .ok (.bastore, 1)) (q : Nat) (hq : ws[q]? = some (a, .inl (T 2, n, .inl (fun j : Nat => iI (f j))))) (hn : n ≤ 2147483647) (hee : e0 = e1) (he : 0 ≤ e1 ∧ e1 < (n : Int)) (hv : -128 ≤ v ∧ v ≤ 127) (hw : ws.set q (a, .inl (T 2, n, .inl (fun j : Nat => iI (upI f e1 v j)))) = ws') (k : J X cells slots (pc + 1) lv stk ws') : J X cells slots pc lv (.int (iI v) :: .int (iI e0) :: .ref a :: stk) ws := by
  obtain ⟨p, l, e, R', s, m, args, below, meth, c, D, A, H0, nL', Q⟩ := X
  obtain ⟨hx, hb, hml, hnl, hR', hown, hts, hK, hN, hA, hlk, hE⟩ := h
  subst hnl; subst hR'
  intro H locs ls hP hD hS hl
  subst hee
  refine va_bast hx hb hK hP hD hS q 2 hq rfl (iI_in he hn) hd (fun H1 locs1 hP1 hD1 hS1 => ?_)
  rw [iI_clamp (by omega), iI_bst hv, upI_iI f he.1] at hP1 hD1
  subst hw
  exact k H1 locs1 ls hP1 hD1 hS1 hl
theorem j_alen (h : CxOK X T cc own Ts R nL) {a : Nat} {x : vp_A} {t0 : Nat} {ty : FieldType} (hd : decode cc pc = .ok (.arraylength, 1)) (q : Nat) (hq : ws[q]? = some (a, .inl (T t0, x))) (ht : (tyG T)[t0]? = some (T t0, ty)) (k : J X cells slots (pc + 1) lv (.int (iI (x.1 : Int)) :: stk) ws) : J X cells slots pc lv (.ref a :: stk) ws := by
  obtain ⟨p, l, e, R', s, m, args, below, meth, c, D, A, H0, nL', Q⟩ := X
  obtain ⟨hx, hb, hml, hnl, hR', hown, hts, hK, hN, hA, hlk, hE⟩ := h
  subst hnl; subst hR'
  intro H locs ls hP hD hS hl
  exact va_alen hx hb hK hP q t0 hq ht (by unfold iI; exact Int32.ofInt_eq_ofNat.symm) hd (k H locs ls hP hD hS hl)
theorem j_aldq (h : CxOK X T cc own Ts R nL) {a b n : Nat} {f : Nat → Option Nat} {e0 : Int} {t0 : Nat} {C : String} (hd : decode cc pc = .ok (.aaload, 1)) (q : Nat) (hq : ws[q]? = some (a, .inl (T t0, n, .inr (.inr (.inr (.inr f)))))) (ht : (tyG T)[t0]? = some (T t0, .object C)) (hn : n ≤ 2147483647) (he : 0 ≤ e0 ∧ e0 < (n : Int)) (hf : f e0.toNat = some b) (k : J X cells slots (pc + 1) lv (.ref b :: stk) ws) : J X cells slots pc lv (.int (iI e0) :: .ref a :: stk) ws := by
  obtain ⟨p, l, e, R', s, m, args, below, meth, c, D, A, H0, nL', Q⟩ := X
  obtain ⟨hx, hb, hml, hnl, hR', hown, hts, hK, hN, hA, hlk, hE⟩ := h
  subst hnl; subst hR'
  intro H locs ls hP hD hS hl
  refine va_aldq hx hb hK hP q t0 hq ht (iI_in he hn) hd ?_
  rw [iI_clamp (by omega), hf]
  exact k H locs ls hP hD hS hl
/-- what the tables say of a field that a method reaches: field k of class ci, by the pool number index -/
def FlOK (own : String) (index : Nat) (Ts : List Cond) (ci k : Nat) : Prop := ∃ (C : String) (TT : u_T) (N : Nat), vwCl[ci]? = some (C, TT, N) ∧ k < N ∧ (∀ w ∈ u_ws C TT N, w ∈ Ts) ∧ Cond.fieldLink own index (TT k).1 (TT k).2.1 (TT k).2.2.1 ∈ Ts
def FnOK (own : String) (index : Nat) (Ts : List Cond) (ci k : Nat) : Prop := ∃ (C : String) (TT : u_T) (N : Nat) (host : String), vwCl[ci]? = some (C, TT, N) ∧ k < N ∧ (∀ w ∈ u_ws C TT N, w ∈ Ts) ∧ (own, index, (TT k).1, (TT k).2.1, (TT k).2.2.1, host) ∈ NWf
def FiOK (own : String) (index : Nat) (Ts : List Cond) (ci k : Nat) : Prop := ∃ (C : String) (TT : u_T) (N : Nat), vwCl[ci]? = some (C, TT, N) ∧ k < N ∧ (∀ w ∈ u_ws C TT N, w ∈ Ts) ∧ Cond.fieldLink own index (TT k).1 (TT k).2.1 (TT k).2.2.1 ∈ Ts ∧ (TT k).1 = own
/-- what a store asks of a field -/
def PuOK (ci k : Nat) (fin : Bool) (ty : FieldType) : Prop := ∃ (C : String) (TT : u_T) (N : Nat) (ty0 : Nat → FieldType), vwCl[ci]? = some (C, TT, N) ∧ (∀ k, k < N → parseFieldDescriptor (TT k).2.2.1 = some (ty0 k)) ∧ (∀ a, a < N → ∀ b, b < N → a ≠ b → (TT a).2.1 ≠ (TT b).2.1) ∧ (TT k).2.2.2 = fin ∧ ty0 k = ty
theorem j_get (h : CxOK X T cc own Ts R nL) {a index ci k0 : Nat} {fs : List Value} {v : Value} (hd : decode cc pc = .ok (.getfield index, 3)) (hf : FlOK own index Ts ci k0) (q : Nat) (hq : ws[q]? = some (a, .inr (ci, fs))) (hv : fs[k0]? = some v) (k : J X cells slots (pc + 3) lv (v :: stk) ws) : J X cells slots pc lv (.ref a :: stk) ws := by
  obtain ⟨p, l, e, R', s, m, args, below, meth, c, D, A, H0, nL', Q⟩ := X
  obtain ⟨hx, hb, hml, hnl, hR', hown, hts, hK, hN, hA, hlk, hE⟩ := h
  subst hnl; subst hR'
  intro H locs ls hP hD hS hl
  obtain ⟨C, TT, N, hc, hk, hin, hlink⟩ := hf
  exact va_get hx hb hts hin hown hK hP q hq hc k0 hk (hts _ hlink) (fun _ h9 => h9) hv hd (k H locs ls hP hD hS hl)
theorem j_getN (h : CxOK X T cc own Ts R nL) {a index ci k0 : Nat} {fs : List Value} {v : Value} (hd : decode cc pc = .ok (.getfield index, 3)) (hf : FnOK own index Ts ci k0) (q : Nat) (hq : ws[q]? = some (a, .inr (ci, fs))) (hv : fs[k0]? = some v) (k : J X cells slots (pc + 3) lv (v :: stk) ws) : J X cells slots pc lv (.ref a :: stk) ws := by
  obtain ⟨p, l, e, R', s, m, args, below, meth, c, D, A, H0, nL', Q⟩ := X
  obtain ⟨hx, hb, hml, hnl, hR', hown, hts, hK, hN, hA, hlk, hE⟩ := h
  subst hnl; subst hR'
  intro H locs ls hP hD hS hl
  obtain ⟨C, TT, N, host, hc, hk, hin, hlink⟩ := hf
  exact va_getN hx hb hts hin hown hK hP q hq hc k0 hk (va_Nw.use rfl (hN.1 _ hlink)) (fun _ h9 => h9) hv hd (k H locs ls hP hD hS hl)
theorem j_put (h : CxOK X T cc own Ts R nL) {a index ci k0 : Nat} {fs : List Value} {v : Value} {ty : FieldType} {ws' : va_W} (hd : decode cc pc = .ok (.putfield index, 3)) (hf : FlOK own index Ts ci k0) (hp : PuOK ci k0 false ty) (q : Nat) (hq : ws[q]? = some (a, .inr (ci, fs))) (hnar : narrow ty v = v) (hfit : fits ty v = true) (hlen : k0 < fs.length) (hw : ws.set q (a, .inr (ci, fs.set k0 v)) = ws') (k : J X cells slots (pc + 3) lv stk ws') : J X cells slots pc lv (v :: .ref a :: stk) ws := by
  obtain ⟨p, l, e, R', s, m, args, below, meth, c, D, A, H0, nL', Q⟩ := X
  obtain ⟨hx, hb, hml, hnl, hR', hown, hts, hK, hN, hA, hlk, hE⟩ := h
  subst hnl; subst hR'
  intro H locs ls hP hD hS hl
  obtain ⟨C, TT, N, hc, hk, hin, hlink⟩ := hf
  obtain ⟨C2, T2, N2, ty0, hc2, hty, hnm, hfin, hty1⟩ := hp
  cases hc.symm.trans hc2
  subst hw
  exact va_put hx hb hts hin ty0 hty hnm hown hK hP hD hS q hq hc k0 hk (hts _ hlink) (fun _ h9 => h9) hfin (by rw [hty k0 hk, hty1]) hnar hfit hlen hd (fun H1 locs1 hP1 hD1 hS1 => k H1 locs1 ls hP1 hD1 hS1 hl)
theorem j_putN (h : CxOK X T cc own Ts R nL) {a index ci k0 : Nat} {fs : List Value} {v : Value} {ty : FieldType} {ws' : va_W} (hd : decode cc pc = .ok (.putfield index, 3)) (hf : FnOK own index Ts ci k0) (hp : PuOK ci k0 false ty) (q : Nat) (hq : ws[q]? = some (a, .inr (ci, fs))) (hnar : narrow ty v = v) (hfit : fits ty v = true) (hlen : k0 < fs.length) (hw : ws.set q (a, .inr (ci, fs.set k0 v)) = ws') (k : J X cells slots (pc + 3) lv stk ws') : J X cells slots pc lv (v :: .ref a :: stk) ws := by
  obtain ⟨p, l, e, R', s, m, args, below, meth, c, D, A, H0, nL', Q⟩ := X
  obtain ⟨hx, hb, hml, hnl, hR', hown, hts, hK, hN, hA, hlk, hE⟩ := h
  subst hnl; subst hR'
  intro H locs ls hP hD hS hl
  obtain ⟨C, TT, N, host, hc, hk, hin, hlink⟩ := hf
  obtain ⟨C2, T2, N2, ty0, hc2, hty, hnm, hfin, hty1⟩ := hp
  cases hc.symm.trans hc2
  subst hw
  exact va_putN hx hb hts hin ty0 hty hnm hown hK hP hD hS q hq hc k0 hk (va_Nw.use rfl (hN.1 _ hlink)) (fun _ h9 => h9) hfin (by rw [hty k0 hk, hty1]) hnar hfit hlen hd (fun H1 locs1 hP1 hD1 hS1 => k H1 locs1 ls hP1 hD1 hS1 hl)
theorem j_putF (h : CxOK X T cc own Ts R nL) (hinit : XInit X) {a index ci k0 : Nat} {fs : List Value} {v : Value} {ty : FieldType} {ws' : va_W} (hd : decode cc pc = .ok (.putfield index, 3)) (hf : FiOK own index Ts ci k0) (hp : PuOK ci k0 true ty) (q : Nat) (hq : ws[q]? = some (a, .inr (ci, fs))) (hnar : narrow ty v = v) (hfit : fits ty v = true) (hlen : k0 < fs.length) (hw : ws.set q (a, .inr (ci, fs.set k0 v)) = ws') (k : J X cells slots (pc + 3) lv stk ws') : J X cells slots pc lv (v :: .ref a :: stk) ws := by
  obtain ⟨p, l, e, R', s, m, args, below, meth, c, D, A, H0, nL', Q⟩ := X
  obtain ⟨hx, hb, hml, hnl, hR', hown, hts, hK, hN, hA, hlk, hE⟩ := h
  subst hnl; subst hR'
  intro H locs ls hP hD hS hl
  obtain ⟨C, TT, N, hc, hk, hin, hlink, hdecl⟩ := hf
  obtain ⟨C2, T2, N2, ty0, hc2, hty, hnm, hfin, hty1⟩ := hp
  cases hc.symm.trans hc2
  subst hw
  exact va_putF hx hb hts hin ty0 hty hnm hown hK hP hD hS q hq hc k0 hk (hts _ hlink) (fun _ h9 => h9) hfin hinit hdecl (by rw [hty k0 hk, hty1]) hnar hfit hlen hd (fun H1 locs1 hP1 hD1 hS1 => k H1 locs1 ls hP1 hD1 hS1 hl)
theorem j_iincW (h : CxOK X T cc own Ts R nL) {i : Nat} {z n : Int} {lv' : List (Nat × Value)} (hd : decode cc pc = .ok (.iinc i n, 6)) (q : Nat) (ks : List Nat) (hq : lv[q]? = some (i, .int (iI z))) (hn : i < nL) (hl0 : lv_pick ((i, Value.int (iI (z + n))) :: lv.filter (fun q => !(q.1 == i) && !(q.1 + 1 == i && q.2.category == 2))) ks = lv') (k : J X cells slots (pc + 6) lv' stk ws) : J X cells slots pc lv stk ws := by
  obtain ⟨p, l, e, R', s, m, args, below, meth, c, D, A, H0, nL', Q⟩ := X
  obtain ⟨hx, hb, hml, hnl, hR', hown, hts, hK, hN, hA, hlk, hE⟩ := h
  subst hnl; subst hR'
  intro H locs ls hP hD hS hl
  exact lv_iincW (v := iI (z + n)) hx hb hd hl hq (by rw [← iI_add]; rfl) hn rfl (fun ls hl => k H locs ls hP hD hS (lv_sub hl ks hl0))
theorem j_mmax (h : CxOK X T cc own Ts R nL) {a b : Int} {index : Nat} (hd : decode cc pc = .ok (.invokestatic index, 3)) (ha : -2147483648 ≤ a ∧ a ≤ 2147483647) (hb0 : -2147483648 ≤ b ∧ b ≤ 2147483647) (h1 : Cond.methodLink own index Lib.Math.max.name ∈ Ts) (h2 : Cond.static Lib.Math.max.name ∈ Ts) (h3 : Cond.initialized "java/lang/Math" ∈ Ts) (h4 : Cond.code Lib.Math.max.name Lib.Math.max.code 2 (some .int) ∈ Ts) (hf : 1 ≤ R.frames) (hlo : (stk.map fun v => v.category).sum + 13 ≤ R.locals) (hc : cells ≤ R.cells) (hs : slots ≤ R.slots) (k : J X cells slots (pc + 3) lv (.int (iI (if a < b then b else a)) :: stk) ws) : J X cells slots pc lv (.int (iI b) :: .int (iI a) :: stk) ws := by
  obtain ⟨p, l, e, R', s, m, args, below, meth, c, D, A, H0, nL', Q⟩ := X
  obtain ⟨hx, hb, hml, hnl, hR', hown, hts, hK, hN, hA, hlk, hE⟩ := h
  subst hnl; subst hR'
  intro H locs ls hP hD hS hl
  have e : (if iI a < iI b then iI b else iI a) = iI (if a < b then b else a) := by
    by_cases q : a < b
    · rw [if_pos ((iI_lt ha hb0).mpr q), if_pos q]
    · rw [if_neg (fun z => q ((iI_lt ha hb0).mp z)), if_neg q]
  refine va_mmax hx hb (hml.trans hl.1.symm) hown (hts _ h1) (hts _ h2) (hts _ h3) (hts _ h4) hf hlo hc hs hd ?_
  rw [e]
  exact k H locs ls hP hD hS hl
theorem j_mmin (h : CxOK X T cc own Ts R nL) {a b : Int} {index : Nat} (hd : decode cc pc = .ok (.invokestatic index, 3)) (ha : -2147483648 ≤ a ∧ a ≤ 2147483647) (hb0 : -2147483648 ≤ b ∧ b ≤ 2147483647) (h1 : Cond.methodLink own index Lib.Math.min.name ∈ Ts) (h2 : Cond.static Lib.Math.min.name ∈ Ts) (h3 : Cond.initialized "java/lang/Math" ∈ Ts) (h4 : Cond.code Lib.Math.min.name Lib.Math.min.code 2 (some .int) ∈ Ts) (hf : 1 ≤ R.frames) (hlo : (stk.map fun v => v.category).sum + 13 ≤ R.locals) (hc : cells ≤ R.cells) (hs : slots ≤ R.slots) (k : J X cells slots (pc + 3) lv (.int (iI (if b < a then b else a)) :: stk) ws) : J X cells slots pc lv (.int (iI b) :: .int (iI a) :: stk) ws := by
  obtain ⟨p, l, e, R', s, m, args, below, meth, c, D, A, H0, nL', Q⟩ := X
  obtain ⟨hx, hb, hml, hnl, hR', hown, hts, hK, hN, hA, hlk, hE⟩ := h
  subst hnl; subst hR'
  intro H locs ls hP hD hS hl
  have e : (if iI b < iI a then iI b else iI a) = iI (if b < a then b else a) := by
    by_cases q : b < a
    · rw [if_pos ((iI_lt hb0 ha).mpr q), if_pos q]
    · rw [if_neg (fun z => q ((iI_lt hb0 ha).mp z)), if_neg q]
  refine va_mmin hx hb (hml.trans hl.1.symm) hown (hts _ h1) (hts _ h2) (hts _ h3) (hts _ h4) hf hlo hc hs hd ?_
  rw [e]
  exact k H locs ls hP hD hS hl
theorem j_copy (h : CxOK X T cc own Ts R nL) {a0 a1 n0 n1 : Nat} {f g : Int → Int} {sp dp n : Int} {index : Nat} {ws' : va_W} (hd : decode cc pc = .ok (.invokestatic index, 3)) (q0 q1 : Nat) (hq0 : ws[q0]? = some (a0, .inl (T 0, n0, .inl (fun j : Nat => iI (f j))))) (hq1 : ws[q1]? = some (a1, .inl (T 0, n1, .inl (fun j : Nat => iI (g j))))) (h1 : 0 ≤ sp) (h2 : 0 ≤ dp) (h3 : 0 ≤ n) (h4 : sp + n ≤ n0) (h5 : dp + n ≤ n1) (h6 : n0 ≤ 2147483647) (h7 : n1 ≤ 2147483647) (w1 : Cond.methodLink own index arraycopyName ∈ Ts) (w2 : Cond.native arraycopyName ∈ Ts) (w3 : Cond.static arraycopyName ∈ Ts) (w4 : Cond.initialized "java/lang/System" ∈ Ts) (hf : 1 ≤ R.frames) (hlo : (stk.map fun v => v.category).sum + (nativeFrameWords "java/lang/System" "arraycopy" 5 + 11) ≤ R.locals) (hw : ws.set q1 (a1, .inl (T 0, n1, .inl (fun j : Nat => iI (cpI f g sp dp n j)))) = ws') (k : J X cells slots (pc + 3) lv stk ws') : J X cells slots pc lv (.int (iI n) :: .int (iI dp) :: .ref a1 :: .int (iI sp) :: .ref a0 :: stk) ws := by
  obtain ⟨p, l, e, R', s, m, args, below, meth, c, D, A, H0, nL', Q⟩ := X
  obtain ⟨hx, hb, hml, hnl, hR', hown, hts, hK, hN, hA, hlk, hE⟩ := h
  subst hnl; subst hR'
  intro H locs ls hP hD hS hl
  have g1 : ∀ z : Int, 0 ≤ z → z ≤ 2147483647 → ¬ iI z < 0 := fun z z1 z2 => by rw [← iI_0, iI_lt (by omega) (by omega)]; omega
  refine va_copyi hx hb (hml.trans hl.1.symm) hown (hts _ w1) (hts _ w2) (hts _ w3) (hts _ w4) hK hP hD hS q0 q1 0 0 hq0 hq1 rfl rfl rfl (g1 _ h1 (by omega)) (g1 _ h2 (by omega)) (g1 _ h3 (by omega)) (by rw [iI_clamp (by omega), iI_clamp (by omega)]; omega) (by rw [iI_clamp (by omega), iI_clamp (by omega)]; omega) (fun i hi => rfl) hf hlo hd (fun H1 locs1 hP1 hD1 hS1 => ?_)
  rw [iI_clamp (by omega), iI_clamp (by omega), iI_clamp (by omega), cpI_iI f g h1 h2 h3] at hP1 hD1
  subst hw
  exact k H1 locs1 ls hP1 hD1 hS1 hl
theorem arr_cong {t : ClassId} {n : Nat} {f g : Nat → Int32} (h : ∀ j : Nat, j < n → f j = g j) : vp_cell t (n, .inl f) = vp_cell t (n, .inl g) := by
  rw [vp_cell_i, vp_cell_i]
  unfold arrV
  congr 1
  apply Array.ext
  · simp
  · intro i h1 h2
    simp only [Array.getElem_ofFn]
    rw [h i (by simpa using h1)]
/-- an array's contents, where they count -/
theorem j_arr {a n : Nat} {t : ClassId} {f g : Nat → Int32} {ws' : va_W} (q : Nat) (hq : ws[q]? = some (a, .inl (t, n, .inl f))) (hfg : ∀ j : Nat, j < n → f j = g j) (hw : ws.set q (a, .inl (t, n, .inl g)) = ws') (k : J X cells slots pc lv stk ws') : J X cells slots pc lv stk ws := by
  obtain ⟨p, l, e, R', s, m, args, below, meth, c, D, A, H0, nL', Q⟩ := X
  intro H locs ls hP hD hS h
  subst hw
  refine k H locs ls (fun i r hr => ?_) (hD.set hq) hS h
  rw [List.getElem?_set] at hr
  by_cases e1 : q = i
  · subst e1
    rw [if_pos rfl] at hr
    split at hr
    · cases hr
      have h1 := hP q _ hq
      show H[a]? = some (vp_cell t (n, .inl g))
      rw [← arr_cong hfg]
      exact h1
    · cases hr
  · rw [if_neg e1] at hr
    exact hP i r hr
end JROWS
