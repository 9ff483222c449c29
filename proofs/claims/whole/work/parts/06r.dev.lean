abbrev rmX1_beginsAt : Room := { frames := 1, cells := 0, slots := 0, locals := 23 }
theorem in_X1_beginsAt_X1 : ∀ w ∈ u_ws RX1 TX1 9, w ∈ wsX1_beginsAt := fun w hw => List.mem_cons_of_mem _ (List.mem_append_left _ (List.mem_append_right _ (hw)))
theorem f_X1_beginsAt_15 : FlOK RX1 15 wsX1_beginsAt 1 2 := ⟨_, _, _, rfl, by decide, in_X1_beginsAt_X1, List.mem_of_getElem? (i := 1) rfl⟩
theorem f_X1_beginsAt_38 : FlOK RX1 38 wsX1_beginsAt 1 0 := ⟨_, _, _, rfl, by decide, in_X1_beginsAt_X1, List.mem_of_getElem? (i := 2) rfl⟩
theorem in_X1_beginsAt_X0 : ∀ w ∈ u_ws RX0 TX0 1, w ∈ wsX1_beginsAt := fun w hw => List.mem_cons_of_mem _ (List.mem_append_right _ (hw))
theorem f_X1_beginsAt_69 : FnOK RX1 69 wsX1_beginsAt 0 0 := ⟨_, _, _, "LayerShop", rfl, by decide, in_X1_beginsAt_X0, List.mem_of_getElem? (i := 13) rfl⟩
theorem f_X1_beginsAt_9 : FlOK RX1 9 wsX1_beginsAt 1 1 := ⟨_, _, _, rfl, by decide, in_X1_beginsAt_X1, List.mem_of_getElem? (i := 3) rfl⟩
set_option maxHeartbeats 600000 in
set_option maxRecDepth 100000 in
/-- whether an order begins at a height -/
theorem ct_X1_beginsAt (T : Nat → ClassId) (h1 : Nat) (h0 : Nat) (od : Nat) (w0 : Nat) (dq : Nat) (ol : Int) (pl : Int) (gr : Int) (le : Int) (mo : Int) (c0 : Nat) (B : Int → Int) (D : Int → Int) (p : Int) (z : Int) (hB : BOK B) (hp : 0 ≤ p ∧ p < 144) (hm : 1 ≤ ol ∧ ol ≤ 4) (hD : (∀ k9 : Int, 0 ≤ k9 → k9 < ol → 1 ≤ D k9 ∧ D k9 ≤ 7)) (hz : 0 ≤ z ∧ z ≤ 19) : CtI T yX1_beginsAt wsX1_beginsAt rmX1_beginsAt 0 0 [.ref h1, .int (iI p), .int (iI z)] [(h1, .inr (1, [.ref h0, .ref od, .int (iI ol), .ref w0, .ref dq, .int (iI pl), .int (iI gr), .int (iI le), .int (iI mo)])), (h0, .inr (0, [.ref c0])), (c0, .inl (T 0, 2880, .inl (fun j : Nat => iI (B j)))), (od, .inl (T 0, 4, .inl (fun j : Nat => iI (D j))))] (fun r8 u => r8 = (iI (bI (begA B p D ol 0 z))) ∧ u = [(h1, .inr (1, [.ref h0, .ref od, .int (iI ol), .ref w0, .ref dq, .int (iI pl), .int (iI gr), .int (iI le), .int (iI mo)])), (h0, .inr (0, [.ref c0])), (c0, .inl (T 0, 2880, .inl (fun j : Nat => iI (B j)))), (od, .inl (T 0, 4, .inl (fun j : Nat => iI (D j))))]) := by
  refine ctI_of (cc := cX1_beginsAt) (maxL := 5) (ret := (some .boolean)) (by decide +kernel) rfl rfl (fun r u hp => by obtain ⟨rfl, -⟩ := hp; exact nz_bool _) (Nat.le_of_ble_eq_true rfl) (fun X h hinit hr => ?_)
  refine j_eq (lv' := [(0, .ref h1), (1, .int (iI p)), (2, .int (iI z))]) rfl rfl rfl rfl rfl rfl ?_
  refine j_iload_n h dX1_beginsAt_0 2 rfl rfl ?_
  refine j_istore_n (lv' := [(0, .ref h1), (1, .int (iI p)), (2, .int (iI z)), (3, .int (iI z))]) h dX1_beginsAt_1 [1, 2, 3, 0] rfl (by decide) rfl ?_
  refine j_iconst h dX1_beginsAt_2 ?_
  refine j_istore (lv' := [(0, .ref h1), (1, .int (iI p)), (2, .int (iI z)), (3, .int (iI z)), (4, .int (iI 0))]) h dX1_beginsAt_3 [1, 2, 3, 4, 0] (by decide) rfl ?_
  have lp5 : ∀ (n5 : Nat) (y : Int) (i : Int) (hi : 0 ≤ i ∧ i ≤ ol) (hy : 0 ≤ y ∧ y ≤ 20) (hq : begA B p D ol i y = begA B p D ol 0 z), ((ol - i).toNat) < n5 → J X 0 0 5 [(0, .ref h1), (1, .int (iI p)), (2, .int (iI z)), (3, .int (iI y)), (4, .int (iI i))] [] [(h1, .inr (1, [.ref h0, .ref od, .int (iI ol), .ref w0, .ref dq, .int (iI pl), .int (iI gr), .int (iI le), .int (iI mo)])), (h0, .inr (0, [.ref c0])), (c0, .inl (T 0, 2880, .inl (fun j : Nat => iI (B j)))), (od, .inl (T 0, 4, .inl (fun j : Nat => iI (D j))))] := by
    intro n5
    induction n5 with
    | zero => exact fun y i hi hy hq hn5 => absurd hn5 (Nat.not_lt_zero _)
    | succ n5 ih5 =>
      intro y i hi hy hq hn5
      refine j_iload h dX1_beginsAt_5 4 rfl ?_
      refine j_aload_n h dX1_beginsAt_7 0 rfl rfl ?_
      refine j_get h dX1_beginsAt_8 f_X1_beginsAt_15 0 rfl rfl ?_
      refine j_icmp_ge h 69 dX1_beginsAt_11 (by decide) (by omega) (by omega) (fun c1 => ?_) (fun c1 => ?_)
      · skip
        refine j_iconst h dX1_beginsAt_69 ?_
        exact hr _ _ _ _ dX1_beginsAt_70 ⟨(congrArg (fun b9 => iI (bI b9)) (show true = (begA B p D ol 0 z) by rw [← hq]; first | exact (begA_e (by omega)).symm | exact (begA_f (by omega) (Or.inl (by omega))).symm | exact (begA_f (by omega) (Or.inr c1)).symm)), rfl⟩
      · skip
        refine j_iload h dX1_beginsAt_14 4 rfl ?_
        refine j_iconst h dX1_beginsAt_16 ?_
        refine j_icmp_ge h 69 dX1_beginsAt_17 (by decide) (by omega) (by omega) (fun c2 => ?_) (fun c2 => ?_)
        · skip
          refine j_iconst h dX1_beginsAt_69 ?_
          exact hr _ _ _ _ dX1_beginsAt_70 ⟨(congrArg (fun b9 => iI (bI b9)) (show true = (begA B p D ol 0 z) by rw [← hq]; first | exact (begA_e (by omega)).symm | exact (begA_f (by omega) (Or.inl (by omega))).symm | exact (begA_f (by omega) (Or.inr c2)).symm)), rfl⟩
        · skip
          refine j_iload_n h dX1_beginsAt_20 3 rfl rfl ?_
          refine j_bipush h dX1_beginsAt_21 (by decide) ?_
          refine j_icmp_ge h 51 dX1_beginsAt_23 (by decide) (by omega) (by omega) (fun c3 => ?_) (fun c3 => ?_)
          · skip
            refine j_iconst h dX1_beginsAt_51 ?_
            exact hr _ _ _ _ dX1_beginsAt_52 ⟨(congrArg (fun b9 => iI (bI b9)) (show false = (begA B p D ol 0 z) by rw [← hq]; first | exact (begA_e (by omega)).symm | exact (begA_f (by omega) (Or.inl (by omega))).symm | exact (begA_f (by omega) (Or.inr c3)).symm)), rfl⟩
          · skip
            refine j_aload_n h dX1_beginsAt_26 0 rfl rfl ?_
            refine j_get h dX1_beginsAt_27 f_X1_beginsAt_38 0 rfl rfl ?_
            refine j_getN h dX1_beginsAt_30 f_X1_beginsAt_69 1 rfl rfl ?_
            refine j_iload_n h dX1_beginsAt_33 3 rfl rfl ?_
            refine j_sipush h dX1_beginsAt_34 (by decide) ?_
            refine j_imul h dX1_beginsAt_37 ?_
            refine j_iload_n h dX1_beginsAt_38 1 rfl rfl ?_
            refine j_iadd h dX1_beginsAt_39 ?_
            refine j_iald (f := B) h (144 * y + p) dX1_beginsAt_40 2 rfl (by decide) (by omega) (by omega) ?_
            have e4 := hB (144 * y + p)
            refine j_aload_n h dX1_beginsAt_41 0 rfl rfl ?_
            refine j_get h dX1_beginsAt_42 f_X1_beginsAt_9 0 rfl rfl ?_
            refine j_iload h dX1_beginsAt_45 4 rfl ?_
            refine j_iald (f := D) h i dX1_beginsAt_47 3 rfl (by decide) (by omega) (by omega) ?_
            have hd9 := hD i (by omega) (by omega)
            refine j_icmp_eq h 53 dX1_beginsAt_48 (by decide) (by omega) (by omega) (fun c5 => ?_) (fun c5 => ?_)
            · skip
              refine j_aload_n h dX1_beginsAt_53 0 rfl rfl ?_
              refine j_get h dX1_beginsAt_54 f_X1_beginsAt_38 0 rfl rfl ?_
              refine j_iload_n h dX1_beginsAt_57 1 rfl rfl ?_
              refine j_iload_n h dX1_beginsAt_58 3 rfl rfl ?_
              refine j_callVi (As := [.int (iI p), .int (iI y)]) (wr := [(h1, .inr (1, [.ref h0, .ref od, .int (iI ol), .ref w0, .ref dq, .int (iI pl), .int (iI gr), .int (iI le), .int (iI mo)])), (od, .inl (T 0, 4, .inl (fun j : Nat => iI (D j))))]) (cells' := 0) (slots' := 0) h dX1_beginsAt_59 (ct_X0_endOfSpan T h0 c0 B p y (by first | assumption | omega) (by first | assumption | omega) (by first | assumption | omega)) k_X0_endOfSpan gX1_beginsAt_X0_endOfSpan rfl rfl 1 rfl ⟨Nat.le_of_ble_eq_true rfl, Nat.le_of_ble_eq_true rfl⟩ rfl rfl (Nat.le_of_ble_eq_true rfl) ⟨Nat.le_of_ble_eq_true rfl, Nat.le_of_ble_eq_true rfl⟩ rfl rfl [1, 2] [0, 3] rfl rfl rfl rfl (by decide) (fun r9 u9 p6 => ?_)
              obtain ⟨rfl, rfl⟩ := p6
              have he9 := @endS_rng B p y (by omega)
              refine j_eq (ws' := [(h1, .inr (1, [.ref h0, .ref od, .int (iI ol), .ref w0, .ref dq, .int (iI pl), .int (iI gr), .int (iI le), .int (iI mo)])), (od, .inl (T 0, 4, .inl (fun j : Nat => iI (D j)))), (h0, .inr (0, [.ref c0])), (c0, .inl (T 0, 2880, .inl (fun j : Nat => iI (B j))))]) rfl rfl rfl rfl rfl rfl ?_
              refine j_istore_n (lv' := [(0, .ref h1), (1, .int (iI p)), (2, .int (iI z)), (3, .int (iI (endS B p y))), (4, .int (iI i))]) h dX1_beginsAt_62 [1, 2, 3, 0, 4] rfl (by decide) rfl ?_
              refine j_iinc (lv' := [(0, .ref h1), (1, .int (iI p)), (2, .int (iI z)), (3, .int (iI (endS B p y))), (4, .int (iI (i + 1)))]) h dX1_beginsAt_63 4 [1, 2, 3, 4, 0] rfl (by decide) rfl ?_
              refine j_goto (tgt := 5) h dX1_beginsAt_66 (by decide) ?_
              refine j_ws (ws' := [(h1, .inr (1, [.ref h0, .ref od, .int (iI ol), .ref w0, .ref dq, .int (iI pl), .int (iI gr), .int (iI le), .int (iI mo)])), (h0, .inr (0, [.ref c0])), (c0, .inl (T 0, 2880, .inl (fun j : Nat => iI (B j)))), (od, .inl (T 0, 4, .inl (fun j : Nat => iI (D j))))]) [0, 2, 3, 1] rfl rfl ?_
              exact ih5 (endS B p y) (i + 1) (by first | assumption | omega) (by first | assumption | omega) (by rw [← begA_t (by omega) (by omega) c5]; exact hq) (by omega)
            · skip
              refine j_iconst h dX1_beginsAt_51 ?_
              exact hr _ _ _ _ dX1_beginsAt_52 ⟨(congrArg (fun b9 => iI (bI b9)) (show false = (begA B p D ol 0 z) by rw [← hq]; first | exact (begA_e (by omega)).symm | exact (begA_f (by omega) (Or.inl (by omega))).symm | exact (begA_f (by omega) (Or.inr c5)).symm)), rfl⟩
  exact lp5 _ z 0 (by first | assumption | omega) (by first | assumption | omega) (by rfl) (Nat.lt_succ_self _)

abbrev rmX1_isAt : Room := { frames := 2, cells := 0, slots := 0, locals := 47 }
theorem in_X1_isAt_X1 : ∀ w ∈ u_ws RX1 TX1 9, w ∈ wsX1_isAt := fun w hw => List.mem_cons_of_mem _ (List.mem_append_left _ (List.mem_append_right _ (hw)))
theorem f_X1_isAt_38 : FlOK RX1 38 wsX1_isAt 1 0 := ⟨_, _, _, rfl, by decide, in_X1_isAt_X1, List.mem_of_getElem? (i := 1) rfl⟩
theorem k_X1_beginsAt : CkOK yX1_beginsAt wsX1_beginsAt rmX1_beginsAt 0 0 cX1_beginsAt 5 (some .boolean) 2 := ⟨⟨_, rfl⟩, rfl, rfl, by decide +kernel⟩
set_option maxHeartbeats 600000 in
set_option maxRecDepth 100000 in
/-- whether the order is at a place -/
theorem ct_X1_isAt (T : Nat → ClassId) (h1 : Nat) (h0 : Nat) (od : Nat) (w0 : Nat) (dq : Nat) (ol : Int) (pl : Int) (gr : Int) (le : Int) (mo : Int) (c0 : Nat) (B : Int → Int) (D : Int → Int) (p : Int) (hB : BOK B) (hp : 0 ≤ p ∧ p < 144) (hm : 1 ≤ ol ∧ ol ≤ 4) (hD : (∀ k9 : Int, 0 ≤ k9 → k9 < ol → 1 ≤ D k9 ∧ D k9 ≤ 7)) : CtI T yX1_isAt wsX1_isAt rmX1_isAt 0 0 [.ref h1, .int (iI p)] [(h1, .inr (1, [.ref h0, .ref od, .int (iI ol), .ref w0, .ref dq, .int (iI pl), .int (iI gr), .int (iI le), .int (iI mo)])), (h0, .inr (0, [.ref c0])), (c0, .inl (T 0, 2880, .inl (fun j : Nat => iI (B j)))), (od, .inl (T 0, 4, .inl (fun j : Nat => iI (D j))))] (fun r8 u => r8 = (iI (bI (hasD B D ol p))) ∧ u = [(h1, .inr (1, [.ref h0, .ref od, .int (iI ol), .ref w0, .ref dq, .int (iI pl), .int (iI gr), .int (iI le), .int (iI mo)])), (h0, .inr (0, [.ref c0])), (c0, .inl (T 0, 2880, .inl (fun j : Nat => iI (B j)))), (od, .inl (T 0, 4, .inl (fun j : Nat => iI (D j))))]) := by
  refine ctI_of (cc := cX1_isAt) (maxL := 3) (ret := (some .boolean)) (by decide +kernel) rfl rfl (fun r u hp => by obtain ⟨rfl, -⟩ := hp; exact nz_bool _) (Nat.le_of_ble_eq_true rfl) (fun X h hinit hr => ?_)
  refine j_eq (lv' := [(0, .ref h1), (1, .int (iI p))]) rfl rfl rfl rfl rfl rfl ?_
  refine j_iconst h dX1_isAt_0 ?_
  refine j_istore_n (lv' := [(0, .ref h1), (1, .int (iI p)), (2, .int (iI 0))]) h dX1_isAt_1 [1, 2, 0] rfl (by decide) rfl ?_
  have lp2 : ∀ (n2 : Nat) (y : Int) (hy : 0 ≤ y ∧ y ≤ 20) (hq : anI (fun z => begS B p z && begA B p D ol 0 z) y 20 = hasD B D ol p), ((20 - y).toNat) < n2 → J X 0 0 2 [(0, .ref h1), (1, .int (iI p)), (2, .int (iI y))] [] [(h1, .inr (1, [.ref h0, .ref od, .int (iI ol), .ref w0, .ref dq, .int (iI pl), .int (iI gr), .int (iI le), .int (iI mo)])), (h0, .inr (0, [.ref c0])), (c0, .inl (T 0, 2880, .inl (fun j : Nat => iI (B j)))), (od, .inl (T 0, 4, .inl (fun j : Nat => iI (D j))))] := by
    intro n2
    induction n2 with
    | zero => exact fun y hy hq hn2 => absurd hn2 (Nat.not_lt_zero _)
    | succ n2 ih2 =>
      intro y hy hq hn2
      refine j_iload_n h dX1_isAt_2 2 rfl rfl ?_
      refine j_bipush h dX1_isAt_3 (by decide) ?_
      refine j_icmp_ge h 37 dX1_isAt_5 (by decide) (by omega) (by omega) (fun c1 => ?_) (fun c1 => ?_)
      · skip
        refine j_iconst h dX1_isAt_37 ?_
        exact hr _ _ _ _ dX1_isAt_38 ⟨(congrArg (fun b9 => iI (bI b9)) (show false = (hasD B D ol p) by rw [← hq]; first | exact (anI_e (by omega)).symm | exact (anI_t (P := (fun z => begS B p z && begA B p D ol 0 z)) (by omega) (by show (begS B p y && begA B p D ol 0 y) = true; rw [NOCOND, c1]; rfl)).symm)), rfl⟩
      · skip
        refine j_aload_n h dX1_isAt_8 0 rfl rfl ?_
        refine j_get h dX1_isAt_9 f_X1_isAt_38 0 rfl rfl ?_
        refine j_iload_n h dX1_isAt_12 1 rfl rfl ?_
        refine j_iload_n h dX1_isAt_13 2 rfl rfl ?_
        refine j_callVi (As := [.int (iI p), .int (iI y)]) (wr := [(h1, .inr (1, [.ref h0, .ref od, .int (iI ol), .ref w0, .ref dq, .int (iI pl), .int (iI gr), .int (iI le), .int (iI mo)])), (od, .inl (T 0, 4, .inl (fun j : Nat => iI (D j))))]) (cells' := 0) (slots' := 0) h dX1_isAt_14 (ct_X0_beginsSpan T h0 c0 B p y (by first | assumption | omega) (by first | assumption | omega) (by first | assumption | omega)) k_X0_beginsSpan gX1_isAt_X0_beginsSpan rfl rfl 1 rfl ⟨Nat.le_of_ble_eq_true rfl, Nat.le_of_ble_eq_true rfl⟩ rfl rfl (Nat.le_of_ble_eq_true rfl) ⟨Nat.le_of_ble_eq_true rfl, Nat.le_of_ble_eq_true rfl⟩ rfl rfl [1, 2] [0, 3] rfl rfl rfl rfl (by decide) (fun r9 u9 p2 => ?_)
        obtain ⟨rfl, rfl⟩ := p2
        refine j_eq (ws' := [(h1, .inr (1, [.ref h0, .ref od, .int (iI ol), .ref w0, .ref dq, .int (iI pl), .int (iI gr), .int (iI le), .int (iI mo)])), (od, .inl (T 0, 4, .inl (fun j : Nat => iI (D j)))), (h0, .inr (0, [.ref c0])), (c0, .inl (T 0, 2880, .inl (fun j : Nat => iI (B j))))]) rfl rfl rfl rfl rfl rfl ?_
        refine j_ifeqB h 31 dX1_isAt_17 (by decide) (fun c3 => ?_) (fun c3 => ?_)
        · skip
          refine j_iinc (lv' := [(0, .ref h1), (1, .int (iI p)), (2, .int (iI (y + 1)))]) h dX1_isAt_31 2 [1, 2, 0] rfl (by decide) rfl ?_
          refine j_goto (tgt := 2) h dX1_isAt_34 (by decide) ?_
          refine j_ws (ws' := [(h1, .inr (1, [.ref h0, .ref od, .int (iI ol), .ref w0, .ref dq, .int (iI pl), .int (iI gr), .int (iI le), .int (iI mo)])), (h0, .inr (0, [.ref c0])), (c0, .inl (T 0, 2880, .inl (fun j : Nat => iI (B j)))), (od, .inl (T 0, 4, .inl (fun j : Nat => iI (D j))))]) [0, 2, 3, 1] rfl rfl ?_
          exact ih2 (y + 1) (by first | assumption | omega) (by rw [← anI_f (P := (fun z => begS B p z && begA B p D ol 0 z)) (by omega) (by show (begS B p y && begA B p D ol 0 y) = false; rw [c3]; rfl)]; exact hq) (by omega)
        · skip
          refine j_aload_n h dX1_isAt_20 0 rfl rfl ?_
          refine j_iload_n h dX1_isAt_21 1 rfl rfl ?_
          refine j_iload_n h dX1_isAt_22 2 rfl rfl ?_
          refine j_callVi (As := [.int (iI p), .int (iI y)]) (wr := []) (cells' := 0) (slots' := 0) h dX1_isAt_23 (ct_X1_beginsAt T h1 h0 od w0 dq ol pl gr le mo c0 B D p y (by first | assumption | omega) (by first | assumption | omega) (by first | assumption | omega) (by first | assumption | omega) (by first | assumption | omega)) k_X1_beginsAt gX1_isAt_X1_beginsAt rfl rfl 0 rfl ⟨Nat.le_of_ble_eq_true rfl, Nat.le_of_ble_eq_true rfl⟩ rfl rfl (Nat.le_of_ble_eq_true rfl) ⟨Nat.le_of_ble_eq_true rfl, Nat.le_of_ble_eq_true rfl⟩ rfl rfl [0, 2, 3, 1] [] rfl rfl rfl rfl (by decide) (fun r9 u9 p4 => ?_)
          obtain ⟨rfl, rfl⟩ := p4
          refine j_eq (ws' := [(h1, .inr (1, [.ref h0, .ref od, .int (iI ol), .ref w0, .ref dq, .int (iI pl), .int (iI gr), .int (iI le), .int (iI mo)])), (h0, .inr (0, [.ref c0])), (c0, .inl (T 0, 2880, .inl (fun j : Nat => iI (B j)))), (od, .inl (T 0, 4, .inl (fun j : Nat => iI (D j))))]) rfl rfl rfl rfl rfl rfl ?_
          refine j_ifeqB h 31 dX1_isAt_26 (by decide) (fun c5 => ?_) (fun c5 => ?_)
          · skip
            refine j_iinc (lv' := [(0, .ref h1), (1, .int (iI p)), (2, .int (iI (y + 1)))]) h dX1_isAt_31 2 [1, 2, 0] rfl (by decide) rfl ?_
            refine j_goto (tgt := 2) h dX1_isAt_34 (by decide) ?_
            exact ih2 (y + 1) (by first | assumption | omega) (by rw [← anI_f (P := (fun z => begS B p z && begA B p D ol 0 z)) (by omega) (by show (begS B p y && begA B p D ol 0 y) = false; rw [c5, Bool.and_false])]; exact hq) (by omega)
          · skip
            refine j_iconst h dX1_isAt_29 ?_
            exact hr _ _ _ _ dX1_isAt_30 ⟨(congrArg (fun b9 => iI (bI b9)) (show true = (hasD B D ol p) by rw [← hq]; first | exact (anI_e (by omega)).symm | exact (anI_t (P := (fun z => begS B p z && begA B p D ol 0 z)) (by omega) (by show (begS B p y && begA B p D ol 0 y) = true; rw [c3, c5]; rfl)).symm)), rfl⟩
  exact lp2 _ 0 (by first | assumption | omega) (by rfl) (Nat.lt_succ_self _)

abbrev rmX1_takeGroup : Room := { frames := 1, cells := 0, slots := 0, locals := 21 }
theorem in_X1_takeGroup_X1 : ∀ w ∈ u_ws RX1 TX1 9, w ∈ wsX1_takeGroup := fun w hw => List.mem_cons_of_mem _ (List.mem_append_right _ (hw))
theorem f_X1_takeGroup_23 : FlOK RX1 23 wsX1_takeGroup 1 4 := ⟨_, _, _, rfl, by decide, in_X1_takeGroup_X1, List.mem_of_getElem? (i := 1) rfl⟩
theorem f_X1_takeGroup_19 : FlOK RX1 19 wsX1_takeGroup 1 3 := ⟨_, _, _, rfl, by decide, in_X1_takeGroup_X1, List.mem_of_getElem? (i := 2) rfl⟩
set_option maxHeartbeats 600000 in
set_option maxRecDepth 100000 in
/-- what is joined to a place waits no more; how many they are -/
theorem ct_X1_takeGroup (T : Nat → ClassId) (h1 : Nat) (h0 : Nat) (od : Nat) (w0 : Nat) (dq : Nat) (ol : Int) (pl : Int) (gr : Int) (le : Int) (mo : Int) (W : Int → Bool) (Q : Int → Int) (p : Int) (hp : 0 ≤ p ∧ p < 144) : CtI T yX1_takeGroup wsX1_takeGroup rmX1_takeGroup 0 0 [.ref h1, .int (iI p)] [(h1, .inr (1, [.ref h0, .ref od, .int (iI ol), .ref w0, .ref dq, .int (iI pl), .int (iI gr), .int (iI le), .int (iI mo)])), (w0, .inl (T 1, 144, .inl (fun j : Nat => iI (bI (W j))))), (dq, .inl (T 0, 144, .inl (fun j : Nat => iI (Q j))))] (fun r8 u => ∃ Q1 : Int → Int, r8 = (iI ((tkS W p).2.length : Int)) ∧ u = [(h1, .inr (1, [.ref h0, .ref od, .int (iI ol), .ref w0, .ref dq, .int (iI pl), .int (iI gr), .int (iI le), .int (iI mo)])), (w0, .inl (T 1, 144, .inl (fun j : Nat => iI (bI ((tkW W p) j))))), (dq, .inl (T 0, 144, .inl (fun j : Nat => iI (Q1 j))))]) := by
  refine ctI_of (cc := cX1_takeGroup) (maxL := 6) (ret := (some .int)) (by decide +kernel) rfl rfl (fun r u hp => by obtain ⟨_, rfl, -⟩ := hp; rfl) (Nat.le_of_ble_eq_true rfl) (fun X h hinit hr => ?_)
  refine j_eq (lv' := [(0, .ref h1), (1, .int (iI p))]) rfl rfl rfl rfl rfl rfl ?_
  refine j_iconst h dX1_takeGroup_0 ?_
  refine j_istore_n (lv' := [(0, .ref h1), (1, .int (iI p)), (2, .int (iI 1))]) h dX1_takeGroup_1 [1, 2, 0] rfl (by decide) rfl ?_
  refine j_aload_n h dX1_takeGroup_2 0 rfl rfl ?_
  refine j_get h dX1_takeGroup_3 f_X1_takeGroup_23 0 rfl rfl ?_
  refine j_iconst h dX1_takeGroup_6 ?_
  refine j_iload_n h dX1_takeGroup_7 1 rfl rfl ?_
  refine j_iast (f := Q) (ws' := [(h1, .inr (1, [.ref h0, .ref od, .int (iI ol), .ref w0, .ref dq, .int (iI pl), .int (iI gr), .int (iI le), .int (iI mo)])), (w0, .inl (T 1, 144, .inl (fun j : Nat => iI (bI (W j))))), (dq, .inl (T 0, 144, .inl (fun j : Nat => iI ((upI Q 0 p) j))))]) h 0 dX1_takeGroup_8 2 rfl (by decide) (by omega) (by omega) rfl ?_
  refine j_aload_n h dX1_takeGroup_9 0 rfl rfl ?_
  refine j_get h dX1_takeGroup_10 f_X1_takeGroup_19 0 rfl rfl ?_
  refine j_iload_n h dX1_takeGroup_13 1 rfl rfl ?_
  refine j_iconst h dX1_takeGroup_14 ?_
  refine j_zast (v := false) (f := W) (ws' := [(h1, .inr (1, [.ref h0, .ref od, .int (iI ol), .ref w0, .ref dq, .int (iI pl), .int (iI gr), .int (iI le), .int (iI mo)])), (w0, .inl (T 1, 144, .inl (fun j : Nat => iI (bI ((upI W p false) j))))), (dq, .inl (T 0, 144, .inl (fun j : Nat => iI ((upI Q 0 p) j))))]) h p dX1_takeGroup_15 1 rfl (by decide) (by omega) (by omega) rfl ?_
  refine j_iconst h dX1_takeGroup_16 ?_
  refine j_istore_n (lv' := [(0, .ref h1), (1, .int (iI p)), (2, .int (iI 1)), (3, .int (iI 0))]) h dX1_takeGroup_17 [1, 2, 3, 0] rfl (by decide) rfl ?_
  have lp18 : ∀ (n18 : Nat) (i : Int) (t : BS) (nq9 : Int) (hi : 0 ≤ i ∧ i ≤ 144) (ht : t = bfI (ok4 W) i (visit ((fun _ => false, []) : BS) p)) (hst : S5 t) (hn : nq9 = (t.2.length : Int)), ((144 - i).toNat) < n18 → J X 0 0 18 [(0, .ref h1), (1, .int (iI p)), (2, .int (iI nq9)), (3, .int (iI i))] [] [(h1, .inr (1, [.ref h0, .ref od, .int (iI ol), .ref w0, .ref dq, .int (iI pl), .int (iI gr), .int (iI le), .int (iI mo)])), (w0, .inl (T 1, 144, .inl (fun j : Nat => iI (bI ((wvF W t) j))))), (dq, .inl (T 0, 144, .inl (fun j : Nat => iI ((qF Q t.2) j))))] := by
    intro n18
    induction n18 with
    | zero => exact fun i t nq9 hi ht hst hn hn18 => absurd hn18 (Nat.not_lt_zero _)
    | succ n18 ih18 =>
      intro i t nq9 hi ht hst hn hn18
      have hl9 := S5_len hst
      refine j_iload_n h dX1_takeGroup_18 3 rfl rfl ?_
      refine j_iload_n h dX1_takeGroup_19 2 rfl rfl ?_
      refine j_icmp_ge h 106 dX1_takeGroup_20 (by decide) (by omega) (by omega) (fun c401 => ?_) (fun c401 => ?_)
      · skip
        refine j_iload_n h dX1_takeGroup_106 2 rfl rfl ?_
        exact hr _ _ _ _ dX1_takeGroup_107 ⟨qF Q t.2, (congrArg iI (show (nq9 : Int) = ((tkS W p).2.length : Int) by rw [hn, show t = tkS W p from (ht.trans (bfI_end (by omega) (by rw [← ht]; omega)))])), (by have e9 : t = tkS W p := (ht.trans (bfI_end (by omega) (by rw [← ht]; omega))); have h9 : S5 (tkS W p) := (by rw [← e9]; exact hst); rw [← tkW_wv h9, ← e9])⟩
      · skip
        refine j_iload_n h dX1_takeGroup_23 3 rfl rfl ?_
        refine j_sipush h dX1_takeGroup_24 (by decide) ?_
        refine j_icmp_ge h 106 dX1_takeGroup_27 (by decide) (by omega) (by omega) (fun c402 => ?_) (fun c402 => ?_)
        · skip
          refine j_iload_n h dX1_takeGroup_106 2 rfl rfl ?_
          exact hr _ _ _ _ dX1_takeGroup_107 ⟨qF Q t.2, (congrArg iI (show (nq9 : Int) = ((tkS W p).2.length : Int) by rw [hn, show t = tkS W p from (ht.trans (bfI_end (by omega) (by rw [← ht]; omega)))])), (by have e9 : t = tkS W p := (ht.trans (bfI_end (by omega) (by rw [← ht]; omega))); have h9 : S5 (tkS W p) := (by rw [← e9]; exact hst); rw [← tkW_wv h9, ← e9])⟩
        · skip
          refine j_iconst h dX1_takeGroup_30 ?_
          refine j_istore (lv' := [(0, .ref h1), (1, .int (iI p)), (2, .int (iI nq9)), (3, .int (iI i)), (4, .int (iI 0))]) h dX1_takeGroup_31 [1, 2, 3, 4, 0] (by decide) rfl ?_
          have lp33 : ∀ (n33 : Nat) (w : Int) (u : BS) (nq8 : Int) (hw : 0 ≤ w ∧ w ≤ 4) (hu : u = stW (ok4 W) (t.2.getD i.toNat 0) w t) (hsu : S5 u) (hn2 : nq8 = (u.2.length : Int)) (hq : i < (u.2.length : Int) ∧ u.2.getD i.toNat 0 = t.2.getD i.toNat 0), ((4 - w).toNat) < n33 → J X 0 0 33 [(0, .ref h1), (1, .int (iI p)), (2, .int (iI nq8)), (3, .int (iI i)), (4, .int (iI w))] [] [(h1, .inr (1, [.ref h0, .ref od, .int (iI ol), .ref w0, .ref dq, .int (iI pl), .int (iI gr), .int (iI le), .int (iI mo)])), (w0, .inl (T 1, 144, .inl (fun j : Nat => iI (bI ((wvF W u) j))))), (dq, .inl (T 0, 144, .inl (fun j : Nat => iI ((qF Q u.2) j))))] := by
            intro n33
            induction n33 with
            | zero => exact fun w u nq8 hw hu hsu hn2 hq hn33 => absurd hn33 (Nat.not_lt_zero _)
            | succ n33 ih33 =>
              intro w u nq8 hw hu hsu hn2 hq hn33
              have hl8 := S5_len hsu
              have hcr := S4_get hst.1 (i := i) (by omega)
              refine j_iload h dX1_takeGroup_33 4 rfl ?_
              refine j_iconst h dX1_takeGroup_35 ?_
              refine j_icmp_ge h 100 dX1_takeGroup_36 (by decide) (by omega) (by omega) (fun c403 => ?_) (fun c403 => ?_)
              · skip
                refine j_iinc (lv' := [(0, .ref h1), (1, .int (iI p)), (2, .int (iI nq8)), (3, .int (iI (i + 1))), (4, .int (iI w))]) h dX1_takeGroup_100 3 [1, 2, 3, 0, 4] rfl (by decide) rfl ?_
                refine j_goto (tgt := 18) h dX1_takeGroup_103 (by decide) ?_
                refine j_lv (lv' := [(0, .ref h1), (1, .int (iI p)), (2, .int (iI nq8)), (3, .int (iI (i + 1)))]) [0, 1, 2, 3] rfl ?_
                exact ih18 (i + 1) u nq8 (by first | assumption | omega) (by rw [bfI_s (by omega) (by rw [← ht]; omega), ← ht, stW4 (S4_get hst.1 (by omega))]; rw [show w = 4 by omega] at hu; exact hu) (by exact hsu) (by exact hn2) (by omega)
              · skip
                refine j_aload_n h dX1_takeGroup_39 0 rfl rfl ?_
                refine j_get h dX1_takeGroup_40 f_X1_takeGroup_23 0 rfl rfl ?_
                refine j_iload_n h dX1_takeGroup_43 3 rfl rfl ?_
                refine j_iald (f := qF Q u.2) h i dX1_takeGroup_44 2 rfl (by decide) (by omega) (by omega) ?_
                rw [show ((qF Q u.2) i) = (t.2.getD i.toNat 0) by rw [qF_at (by omega)]; exact hq.2]
                refine j_iload h dX1_takeGroup_45 4 rfl ?_
                refine j_callSNi (As := [.int (iI (t.2.getD i.toNat 0)), .int (iI w)]) (wr := [(h1, .inr (1, [.ref h0, .ref od, .int (iI ol), .ref w0, .ref dq, .int (iI pl), .int (iI gr), .int (iI le), .int (iI mo)])), (w0, .inl (T 1, 144, .inl (fun j : Nat => iI (bI ((wvF W u) j))))), (dq, .inl (T 0, 144, .inl (fun j : Nat => iI ((qF Q u.2) j))))]) (cells' := 0) (slots' := 0) h dX1_takeGroup_47 (ct_X11_beside T (t.2.getD i.toNat 0) w (by first | assumption | omega) (by first | assumption | omega)) k_X11_beside gX1_takeGroup_X11_beside_n75 (List.mem_of_getElem? (i := 6) rfl) (List.mem_of_getElem? (i := 4) rfl) (List.mem_of_getElem? (i := 3) rfl) ⟨Nat.le_of_ble_eq_true rfl, Nat.le_of_ble_eq_true rfl⟩ rfl rfl (Nat.le_of_ble_eq_true rfl) ⟨Nat.le_of_ble_eq_true rfl, Nat.le_of_ble_eq_true rfl⟩ rfl rfl [] [0, 1, 2] rfl rfl rfl rfl (by decide) (fun r9 u9 p404 => ?_)
                obtain ⟨rfl, rfl⟩ := p404
                have hb9 := @bes_rng (t.2.getD i.toNat 0) w (by omega)
                refine j_eq (ws' := [(h1, .inr (1, [.ref h0, .ref od, .int (iI ol), .ref w0, .ref dq, .int (iI pl), .int (iI gr), .int (iI le), .int (iI mo)])), (w0, .inl (T 1, 144, .inl (fun j : Nat => iI (bI ((wvF W u) j))))), (dq, .inl (T 0, 144, .inl (fun j : Nat => iI ((qF Q u.2) j))))]) rfl rfl rfl rfl rfl rfl ?_
                have hb4 := bes4 (c := (t.2.getD i.toNat 0)) (w := w) (by omega) (by omega)
                refine j_istore (lv' := [(0, .ref h1), (1, .int (iI p)), (2, .int (iI nq8)), (3, .int (iI i)), (4, .int (iI w)), (5, .int (iI (bes (t.2.getD i.toNat 0) w)))]) h dX1_takeGroup_50 [1, 2, 3, 4, 5, 0] (by decide) rfl ?_
                refine j_iload h dX1_takeGroup_52 5 rfl ?_
                refine j_iconst h dX1_takeGroup_54 ?_
                refine j_icmp_eq h 94 dX1_takeGroup_55 (by decide) (by omega) (by omega) (fun c405 => ?_) (fun c405 => ?_)
                · skip
                  refine j_iinc (lv' := [(0, .ref h1), (1, .int (iI p)), (2, .int (iI nq8)), (3, .int (iI i)), (4, .int (iI (w + 1))), (5, .int (iI (bes (t.2.getD i.toNat 0) w)))]) h dX1_takeGroup_94 4 [1, 2, 3, 4, 0, 5] rfl (by decide) rfl ?_
                  refine j_goto (tgt := 33) h dX1_takeGroup_97 (by decide) ?_
                  refine j_lv (lv' := [(0, .ref h1), (1, .int (iI p)), (2, .int (iI nq8)), (3, .int (iI i)), (4, .int (iI (w + 1)))]) [0, 1, 2, 3, 4] rfl ?_
                  exact ih33 (w + 1) u nq8 (by first | assumption | omega) (by rw [stW_no (ok := ok4 W) (by omega) (by omega)]; exact hu) (by exact hsu) (by exact hn2) (by exact hq) (by omega)
                · skip
                  refine j_aload_n h dX1_takeGroup_58 0 rfl rfl ?_
                  refine j_get h dX1_takeGroup_59 f_X1_takeGroup_19 0 rfl rfl ?_
                  refine j_iload h dX1_takeGroup_62 5 rfl ?_
                  refine j_zald (f := wvF W u) h (bes (t.2.getD i.toNat 0) w) dX1_takeGroup_64 1 rfl (by decide) (by omega) (by omega) ?_
                  refine j_ifeqB h 94 dX1_takeGroup_65 (by decide) (fun c406 => ?_) (fun c406 => ?_)
                  · skip
                    refine j_iinc (lv' := [(0, .ref h1), (1, .int (iI p)), (2, .int (iI nq8)), (3, .int (iI i)), (4, .int (iI (w + 1))), (5, .int (iI (bes (t.2.getD i.toNat 0) w)))]) h dX1_takeGroup_94 4 [1, 2, 3, 4, 0, 5] rfl (by decide) rfl ?_
                    refine j_goto (tgt := 33) h dX1_takeGroup_97 (by decide) ?_
                    refine j_lv (lv' := [(0, .ref h1), (1, .int (iI p)), (2, .int (iI nq8)), (3, .int (iI i)), (4, .int (iI (w + 1)))]) [0, 1, 2, 3, 4] rfl ?_
                    exact ih33 (w + 1) u nq8 (by first | assumption | omega) (by exact stW_wv (by omega) (by omega) hu c406) (by exact hsu) (by exact hn2) (by exact hq) (by omega)
                  · skip
                    have hlt9 := S5_lt hsu (by omega) c406
                    refine j_iload_n h dX1_takeGroup_68 2 rfl rfl ?_
                    refine j_sipush h dX1_takeGroup_69 (by decide) ?_
                    refine j_icmp_ge h 94 dX1_takeGroup_72 (by decide) (by omega) (by omega) (fun c407 => ?_) (fun c407 => ?_)
                    · skip
                      exact absurd c407 (by omega)
                    · skip
                      refine j_aload_n h dX1_takeGroup_75 0 rfl rfl ?_
                      refine j_get h dX1_takeGroup_76 f_X1_takeGroup_19 0 rfl rfl ?_
                      refine j_iload h dX1_takeGroup_79 5 rfl ?_
                      refine j_iconst h dX1_takeGroup_81 ?_
                      refine j_zast (v := false) (f := wvF W u) (ws' := [(h1, .inr (1, [.ref h0, .ref od, .int (iI ol), .ref w0, .ref dq, .int (iI pl), .int (iI gr), .int (iI le), .int (iI mo)])), (w0, .inl (T 1, 144, .inl (fun j : Nat => iI (bI ((upI (wvF W u) (bes (t.2.getD i.toNat 0) w) false) j))))), (dq, .inl (T 0, 144, .inl (fun j : Nat => iI ((qF Q u.2) j))))]) h (bes (t.2.getD i.toNat 0) w) dX1_takeGroup_82 1 rfl (by decide) (by omega) (by omega) rfl ?_
                      refine j_aload_n h dX1_takeGroup_83 0 rfl rfl ?_
                      refine j_get h dX1_takeGroup_84 f_X1_takeGroup_23 0 rfl rfl ?_
                      refine j_iload_n h dX1_takeGroup_87 2 rfl rfl ?_
                      refine j_iload h dX1_takeGroup_88 5 rfl ?_
                      refine j_iast (f := qF Q u.2) (ws' := [(h1, .inr (1, [.ref h0, .ref od, .int (iI ol), .ref w0, .ref dq, .int (iI pl), .int (iI gr), .int (iI le), .int (iI mo)])), (w0, .inl (T 1, 144, .inl (fun j : Nat => iI (bI ((upI (wvF W u) (bes (t.2.getD i.toNat 0) w) false) j))))), (dq, .inl (T 0, 144, .inl (fun j : Nat => iI ((upI (qF Q u.2) nq8 (bes (t.2.getD i.toNat 0) w)) j))))]) h nq8 dX1_takeGroup_90 2 rfl (by decide) (by omega) (by omega) rfl ?_
                      refine j_iinc (lv' := [(0, .ref h1), (1, .int (iI p)), (2, .int (iI (nq8 + 1))), (3, .int (iI i)), (4, .int (iI w)), (5, .int (iI (bes (t.2.getD i.toNat 0) w)))]) h dX1_takeGroup_91 2 [1, 2, 0, 3, 4, 5] rfl (by decide) rfl ?_
                      refine j_iinc (lv' := [(0, .ref h1), (1, .int (iI p)), (2, .int (iI (nq8 + 1))), (3, .int (iI i)), (4, .int (iI (w + 1))), (5, .int (iI (bes (t.2.getD i.toNat 0) w)))]) h dX1_takeGroup_94 4 [1, 2, 3, 4, 0, 5] rfl (by decide) rfl ?_
                      refine j_goto (tgt := 33) h dX1_takeGroup_97 (by decide) ?_
                      refine j_lv (lv' := [(0, .ref h1), (1, .int (iI p)), (2, .int (iI (nq8 + 1))), (3, .int (iI i)), (4, .int (iI (w + 1)))]) [0, 1, 2, 3, 4] rfl ?_
                      refine j_eq (ws' := [(h1, .inr (1, [.ref h0, .ref od, .int (iI ol), .ref w0, .ref dq, .int (iI pl), .int (iI gr), .int (iI le), .int (iI mo)])), (w0, .inl (T 1, 144, .inl (fun j : Nat => iI (bI ((wvF W (visit u (bes (t.2.getD i.toNat 0) w))) j))))), (dq, .inl (T 0, 144, .inl (fun j : Nat => iI ((qF Q (visit u (bes (t.2.getD i.toNat 0) w)).2) j))))]) rfl rfl rfl rfl rfl (by rw [wvF_v (by assumption), qF_v (W := W) (by assumption) hn2]) ?_
                      exact ih33 (w + 1) (visit u (bes (t.2.getD i.toNat 0) w)) (nq8 + 1) (by first | assumption | omega) (by rw [stW_yes (ok := ok4 W) (by omega) (by omega) (ok4_t (by omega) (wvF_t c406).1), ← hu]) (by exact S5_visit hsu (by omega)) (by rw [visit_len_eq (wvF_t c406).2]; omega) (by have := visit_len u (bes (t.2.getD i.toNat 0) w); exact ⟨by omega, by rw [visit_get (by omega)]; exact hq.2⟩) (by omega)
          exact lp33 _ 0 t nq9 (by first | assumption | omega) (by rfl) (by exact hst) (by exact hn) (by exact ⟨by omega, rfl⟩) (Nat.lt_succ_self _)
  refine j_eq (ws' := [(h1, .inr (1, [.ref h0, .ref od, .int (iI ol), .ref w0, .ref dq, .int (iI pl), .int (iI gr), .int (iI le), .int (iI mo)])), (w0, .inl (T 1, 144, .inl (fun j : Nat => iI (bI ((wvF W (visit ((fun _ => false, []) : BS) p)) j))))), (dq, .inl (T 0, 144, .inl (fun j : Nat => iI ((qF Q (visit ((fun _ => false, []) : BS) p).2) j))))]) rfl rfl rfl rfl rfl (by rw [tg_w, tg_q]) ?_
  exact lp18 _ 0 (visit ((fun _ => false, []) : BS) p) 1 (by first | assumption | omega) (by rfl) (by exact S5_visit S5_0 hp) (by rfl) (Nat.lt_succ_self _)

