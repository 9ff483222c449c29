/-! THE START: what the Statement gives, as the context wants it -/
theorem st_arr {s : State} {c : ClassId} {k : Class} {comp : ClassId} {ty : FieldType} (h2 : s.vm.classes[c]? = some k) (h3 : k.kind = .array comp ty) : ArrOfT s c ty := fun n z => ⟨(fun k h => by cases h), k, h2, comp, h3⟩
theorem st_K {args : Array Value} {s : State} (hts : ∀ w ∈ lw_tbl, w.before args s = true) : ∃ (D : va_G) (t0 t1 t2 t3 t4 : ClassId), va_K D vwCl [(t0, .int), (t1, .boolean), (t2, .byte), (t3, .object "LayerShop$Step"), (t4, .array .int)] s := by
  have hL : ∀ w ∈ wsL_law, w.before args s = true := fun w hw => hts w (wsL_law_in w hw)
  obtain ⟨c0, i0, k0⟩ := u_known (C := RX0) (T := TX0) (N := 1) (n := 1) hL inlX0 (hts (.instantiable RX0 1) (by decide +kernel))
  obtain ⟨c1, i1, k1⟩ := u_known (C := RX1) (T := TX1) (N := 9) (n := 9) hL inlX1 (hts (.instantiable RX1 9) (by decide +kernel))
  obtain ⟨c2, i2, k2⟩ := u_known (C := RX2) (T := TX2) (N := 3) (n := 3) hL inlX2 (hts (.instantiable RX2 3) (by decide +kernel))
  obtain ⟨c3, i3, k3⟩ := u_known (C := RX3) (T := TX3) (N := 3) (n := 3) hL inlX3 (hts (.instantiable RX3 3) (by decide +kernel))
  obtain ⟨c4, i4, k4⟩ := u_known (C := RX4) (T := TX4) (N := 1) (n := 1) hL inlX4 (hts (.instantiable RX4 1) (by decide +kernel))
  obtain ⟨c5, i5, k5⟩ := u_known (C := RX5) (T := TX5) (N := 4) (n := 4) hL inlX5 (hts (.instantiable RX5 4) (by decide +kernel))
  obtain ⟨c6, i6, k6⟩ := u_known (C := RX6) (T := TX6) (N := 11) (n := 11) hL inlX6 (hts (.instantiable RX6 11) (by decide +kernel))
  obtain ⟨c7, i7, k7⟩ := u_known (C := RX7) (T := TX7) (N := 8) (n := 8) hL inlX7 (hts (.instantiable RX7 8) (by decide +kernel))
  obtain ⟨c8, i8, k8⟩ := u_known (C := RX8) (T := TX8) (N := 2) (n := 2) hL inlX8 (hts (.instantiable RX8 2) (by decide +kernel))
  obtain ⟨c9, i9, k9⟩ := u_known (C := RX9) (T := TX9) (N := 4) (n := 4) hL inlX9 (hts (.instantiable RX9 4) (by decide +kernel))
  obtain ⟨c10, i10, k10⟩ := u_known (C := RX10) (T := TX10) (N := 4) (n := 4) hL inlX10 (hts (.instantiable RX10 4) (by decide +kernel))
  obtain ⟨c11, i11, k11⟩ := u_known (C := RX11) (T := TX11) (N := 13) (n := 13) hL inlX11 (hts (.instantiable RX11 13) (by decide +kernel))
  obtain ⟨c12, i12, k12⟩ := u_known (C := RX12) (T := TX12) (N := 40) (n := 40) hL inlX12 (hts (.instantiable RX12 40) (by decide +kernel))
  obtain ⟨a0, ka0, q0, f0, g0, e0⟩ := Cond.arrayClass_spec (hts (.arrayClass .int) (by decide +kernel))
  obtain ⟨a1, ka1, q1, f1, g1, e1⟩ := Cond.arrayClass_spec (hts (.arrayClass .boolean) (by decide +kernel))
  obtain ⟨a2, ka2, q2, f2, g2, e2⟩ := Cond.arrayClass_spec (hts (.arrayClass .byte) (by decide +kernel))
  obtain ⟨q3, a3, ka3, f3, -, g3, e3, n3⟩ := Cond.arrayOver_spec (hts (.arrayOver (.object "LayerShop$Step")) (by decide +kernel))
  obtain ⟨q4, a4, ka4, f4, g4, e4, n4⟩ := Cond.arrayOver_specA (t := .int) (hts (.arrayOver (.array .int)) (by decide +kernel))
  refine ⟨(fun k => if k = 0 then c0 else if k = 1 then c1 else if k = 2 then c2 else if k = 3 then c3 else if k = 4 then c4 else if k = 5 then c5 else if k = 6 then c6 else if k = 7 then c7 else if k = 8 then c8 else if k = 9 then c9 else if k = 10 then c10 else if k = 11 then c11 else c12, fun k => if k = 0 then i0 else if k = 1 then i1 else if k = 2 then i2 else if k = 3 then i3 else if k = 4 then i4 else if k = 5 then i5 else if k = 6 then i6 else if k = 7 then i7 else if k = 8 then i8 else if k = 9 then i9 else if k = 10 then i10 else if k = 11 then i11 else i12), a0, a1, a2, a3, a4, ?_, ?_⟩
  · intro k q hq
    match k, hq with
    | 0, hq => cases hq; exact k0
    | 1, hq => cases hq; exact k1
    | 2, hq => cases hq; exact k2
    | 3, hq => cases hq; exact k3
    | 4, hq => cases hq; exact k4
    | 5, hq => cases hq; exact k5
    | 6, hq => cases hq; exact k6
    | 7, hq => cases hq; exact k7
    | 8, hq => cases hq; exact k8
    | 9, hq => cases hq; exact k9
    | 10, hq => cases hq; exact k10
    | 11, hq => cases hq; exact k11
    | 12, hq => cases hq; exact k12
    | k + 13, hq => simp [vwCl] at hq
  · intro k q hq
    match k, hq with
    | 0, hq => cases hq; exact ⟨st_arr g0 e0, f0⟩
    | 1, hq => cases hq; exact ⟨st_arr g1 e1, f1⟩
    | 2, hq => cases hq; exact ⟨st_arr g2 e2, f2⟩
    | 3, hq => cases hq; exact ⟨st_arr g3 e3, ka3, q3, g3, e3, f3, n3⟩
    | 4, hq => cases hq; exact ⟨st_arr g4 e4, n4⟩
    | k + 5, hq => simp at hq
theorem st_nwf : ∀ q ∈ NWf, Cond.fieldLinkNest q.1 q.2.1 q.2.2.1 q.2.2.2.1 q.2.2.2.2.1 q.2.2.2.2.2 ∈ lw_tbl := by decide +kernel
theorem st_nwm : ∀ q ∈ NWm, Cond.methodLinkNest q.1 q.2.1 q.2.2.1 q.2.2.2 ∈ lw_tbl := by decide +kernel
theorem st_NW {args : Array Value} {s : State} (hts : ∀ w ∈ lw_tbl, w.before args s = true) : NW s := ⟨fun q hq => va_Nw.of rfl (hts _ (st_nwf q hq)), fun q hq => va_Nw.of rfl (hts _ (st_nwm q hq))⟩
def stF : List Cond := flatC (Jvm.Cond.and given_1 narrow_1)
def tmS (i : Nat) : Term := .string "LayerShop" (243 + 2 * i)
def pE : List Nat := [9, 16, 24, 34, 45, 57, 70, 84, 99, 115, 132, 150, 169, 190, 213, 234, 256, 281, 306, 331, 356, 382, 411, 439]
def pC : List Nat := [10, 17, 25, 35, 46, 58, 71, 85, 100, 116, 133, 151, 170, 191, 214, 235, 257, 282, 307, 332, 357, 383, 412, 440]
def pA : List Nat := [11, 18, 26, 36, 47, 59, 72, 86, 101, 117, 134, 152, 171, 192, 215, 236, 258, 283, 308, 333, 358, 384, 413, 441]
def pL : List Nat := [12, 19, 27, 37, 48, 60, 73, 87, 102, 118, 135, 153, 172, 193, 216, 237, 259, 284, 309, 334, 359, 385, 414, 442]
def pB : List (List Nat) := [[13, 14, 15], [20, 21, 22], [28, 29, 30, 31], [38, 39, 40, 41], [49, 50, 51, 52], [61, 62, 63, 64], [74, 75, 76, 77], [88, 89, 90, 91], [103, 104, 105, 106], [119, 120, 121, 122], [136, 137, 138, 139], [154, 155, 156, 157], [173, 174, 175, 176, 177], [194, 195, 196, 197, 198, 199], [217, 218, 219], [238, 239, 240], [260, 261, 262, 263, 264], [285, 286, 287, 288], [310, 311, 312], [335, 336], [360, 361], [386, 387, 388, 389], [415, 416], [443]]
def pN : List (List Nat) := [[], [23], [32, 33], [42, 43, 44], [53, 54, 55, 56], [65, 66, 67, 68, 69], [78, 79, 80, 81, 82, 83], [92, 93, 94, 95, 96, 97, 98], [107, 108, 109, 110, 111, 112, 113, 114], [123, 124, 125, 126, 127, 128, 129, 130, 131], [140, 141, 142, 143, 144, 145, 146, 147, 148, 149], [158, 159, 160, 161, 162, 163, 164, 165, 166, 167, 168], [178, 179, 180, 181, 182, 183, 184, 185, 186, 187, 188, 189], [200, 201, 202, 203, 204, 205, 206, 207, 208, 209, 210, 211, 212], [220, 221, 222, 223, 224, 225, 226, 227, 228, 229, 230, 231, 232, 233], [241, 242, 243, 244, 245, 246, 247, 248, 249, 250, 251, 252, 253, 254, 255], [265, 266, 267, 268, 269, 270, 271, 272, 273, 274, 275, 276, 277, 278, 279, 280], [289, 290, 291, 292, 293, 294, 295, 296, 297, 298, 299, 300, 301, 302, 303, 304, 305], [313, 314, 315, 316, 317, 318, 319, 320, 321, 322, 323, 324, 325, 326, 327, 328, 329, 330], [337, 338, 339, 340, 341, 342, 343, 344, 345, 346, 347, 348, 349, 350, 351, 352, 353, 354, 355], [362, 363, 364, 365, 366, 367, 368, 369, 370, 371, 372, 373, 374, 375, 376, 377, 378, 379, 380, 381], [390, 391, 392, 393, 394, 395, 396, 397, 398, 399, 400, 401, 402, 403, 404, 405, 406, 407, 408, 409, 410], [417, 418, 419, 420, 421, 422, 423, 424, 425, 426, 427, 428, 429, 430, 431, 432, 433, 434, 435, 436, 437, 438], [444, 445, 446, 447, 448, 449, 450, 451, 452, 453, 454, 455, 456, 457, 458, 459, 460, 461, 462, 463, 464, 465, 466]]
set_option maxRecDepth 100000 in
theorem st_ex : ∀ i : Nat, i < 24 → stF[pE.getD i 0]? = some (Cond.exactly (tmS i) "java/lang/String") := by decide +kernel
set_option maxRecDepth 100000 in
theorem st_co : ∀ i : Nat, i < 24 → stF[pC.getD i 0]? = some (Cond.eq (.field (tmS i) "java/lang/String" "coder" "B") (.int 0)) := by decide +kernel
set_option maxRecDepth 100000 in
theorem st_ar : ∀ i : Nat, i < 24 → stF[pA.getD i 0]? = some (Cond.arrayOf (Term.field (tmS i) "java/lang/String" "value" "[B") .byte) := by decide +kernel
set_option maxRecDepth 100000 in
theorem st_le : ∀ i : Nat, i < 24 → stF[pL.getD i 0]? = some (Cond.eq (.length (Term.field (tmS i) "java/lang/String" "value" "[B")) (.int (Int32.ofNat (strL.getD i 0)))) := by decide +kernel
set_option maxRecDepth 100000 in
theorem st_el : ∀ i : Nat, i < 24 → ∀ j : Nat, j < strL.getD i 0 → stF[(pB.getD i []).getD j 0]? = some (Cond.eq (.elem (Term.field (tmS i) "java/lang/String" "value" "[B") (.int (Int32.ofNat j))) (.int ((strB.getD i []).getD j 0))) := by decide +kernel
set_option maxRecDepth 100000 in
theorem st_ne : ∀ i : Nat, i < 24 → ∀ j : Nat, j < i → stF[(pN.getD i []).getD j 0]? = some (Cond.not (Cond.eq (tmS j) (tmS i))) := by decide +kernel
set_option maxRecDepth 100000 in
theorem st_z : stF[4]? = some (Cond.eq (.static "java/lang/String" "COMPACT_STRINGS" "Z") (.int 1)) := by decide +kernel
set_option maxRecDepth 100000 in
theorem st_zq : stF[5]? = some (Cond.isRef (.static "jdk/internal/util/Preconditions" "SIOOBE_FORMATTER" "Ljava/util/function/BiFunction;")) := by decide +kernel
set_option maxRecDepth 100000 in
theorem st_sr : ∀ k : Nat, k < 24 → Cond.stringRef "LayerShop" (243 + 2 * k) (strT.getD k "") ∈ lw_tbl := by decide +kernel
theorem vk_S_congr {N : Nat} {len : List Nat} {byt : List (List Int32)} {k1 v1 k2 v2 : Nat → Nat} {A : Nat → Prop} {U : State} {H : Heap} (h : vk_S N len byt k1 v1 A U H) (e1 : ∀ i, i < N → k2 i = k1 i) (e2 : ∀ i, i < N → v2 i = v1 i) : vk_S N len byt k2 v2 A U H := ⟨fun i hi => by rw [e1 i hi, e2 i hi]; exact h.1 i hi, fun i j hi hj e => h.2 i j hi hj (by rw [← e1 i hi, ← e1 j hj]; exact e)⟩
def tyS (t0 t1 t2 t3 t4 : Nat) (adK adV : Nat → Nat) : Nat → Nat := fun n => if n < 100 then (if n = 0 then t0 else if n = 1 then t1 else if n = 2 then t2 else if n = 3 then t3 else t4) else if n < 200 then adK (n - 100) else adV (n - 200)
theorem tyS_K (t0 t1 t2 t3 t4 : Nat) (adK adV : Nat → Nat) (i : Nat) (h : i < 24) : tyS t0 t1 t2 t3 t4 adK adV (100 + i) = adK i := by
  unfold tyS
  rw [if_neg (by omega), if_pos (by omega), Nat.add_sub_cancel_left]
theorem tyS_V (t0 t1 t2 t3 t4 : Nat) (adK adV : Nat → Nat) (i : Nat) : tyS t0 t1 t2 t3 t4 adK adV (200 + i) = adV i := by
  unfold tyS
  rw [if_neg (by omega), if_neg (by omega), Nat.add_sub_cancel_left]
theorem st_S {args : Array Value} {s : State} (hts : ∀ w ∈ lw_tbl, w.before args s = true) (hgv : (Jvm.Cond.and given_1 narrow_1).before args s = true) {A : Nat → Prop} (hA : ∀ a : Nat, a < s.heap.size → ¬ A a) (t0 t1 t2 t3 t4 : Nat) : ∃ adK adV : Nat → Nat, SS (tyS t0 t1 t2 t3 t4 adK adV) A s s.heap := by
  have hs : ∀ (k : Nat) (w : Cond), stF[k]? = some w → w.before args s = true := fun k w h => flat_of_before _ hgv w (List.mem_of_getElem? h)
  obtain ⟨adK, adV, hV, hE⟩ := vk_Sof (args := args) (s := s) (N := 24) (tm := tmS) (len := strL) (byt := strB) (A := A) (by decide) (fun i hi => hs _ _ (st_ex i hi)) (fun i hi => hs _ _ (st_co i hi)) (fun i hi => hs _ _ (st_ar i hi)) (fun i hi => hs _ _ (st_le i hi)) (fun i hi j hj => hs _ _ (st_el i hi j hj)) (fun i j hi hj hn => by
    rcases Nat.lt_or_gt_of_ne hn with q | q
    · exact Or.inl (hs _ _ (st_ne j hj i q))
    · exact Or.inr (hs _ _ (st_ne i hi j q))) hA
  refine ⟨adK, adV, vk_S_congr hV (fun i hi => tyS_K _ _ _ _ _ _ _ i hi) (fun i _ => tyS_V _ _ _ _ _ _ _ i), ⟨va_Zof (hts _ (by decide +kernel)) (hts _ (by decide +kernel)) (va_eqt (hs _ _ st_z)) hA, va_Zqof (hts _ (by decide +kernel)) (hts _ (by decide +kernel)) (hs _ _ st_zq) hA⟩, fun k hk => ?_⟩
  rw [tyS_K _ _ _ _ _ _ _ k hk]
  exact vk_R.of (hts _ (st_sr k hk)) (hE k hk)
