abbrev rmX11_isPlace : Room := { frames := 1, cells := 0, slots := 0, locals := 22 }
theorem k_X11_within : CkOK yX11_within wsX11_within rmX11_within 0 0 cX11_within 3 (some .boolean) 3 := ⟨⟨_, rfl⟩, rfl, rfl, by decide +kernel⟩
set_option maxHeartbeats 600000 in
set_option maxRecDepth 100000 in
theorem ct_X11_isPlace (T : Nat → ClassId) (a : Int) (ha : -2147483648 ≤ a ∧ a ≤ 2147483647) : CtI T yX11_isPlace wsX11_isPlace rmX11_isPlace 0 0 [.int (iI a)] [] (fun r8 u => r8 = (iI (bI (decide (0 ≤ a ∧ a ≤ 143)))) ∧ u = []) := by
  refine ctI_of (cc := cX11_isPlace) (maxL := 1) (ret := (some .boolean)) (by decide +kernel) rfl rfl (fun r u hp => by obtain ⟨rfl, -⟩ := hp; exact nz_bool _) (Nat.le_of_ble_eq_true rfl) (fun X h hinit hr => ?_)
  refine j_eq (lv' := [(0, .int (iI a))]) rfl rfl rfl rfl rfl rfl ?_
  refine j_iload_n h dX11_isPlace_0 0 rfl rfl ?_
  refine j_iconst h dX11_isPlace_1 ?_
  refine j_sipush h dX11_isPlace_2 (by decide) ?_
  refine j_callSi (As := [.int (iI a), .int (iI 0), .int (iI 143)]) (wr := []) (cells' := 0) (slots' := 0) h dX11_isPlace_5 (ct_X11_within T a 0 143 (by first | assumption | omega) (by first | assumption | omega) (by first | assumption | omega)) k_X11_within gX11_isPlace_X11_within ⟨Nat.le_of_ble_eq_true rfl, Nat.le_of_ble_eq_true rfl⟩ rfl rfl (Nat.le_of_ble_eq_true rfl) ⟨Nat.le_of_ble_eq_true rfl, Nat.le_of_ble_eq_true rfl⟩ rfl rfl [] [] rfl rfl rfl rfl (by decide) (fun r9 u9 p1 => ?_)
  obtain ⟨rfl, rfl⟩ := p1
  refine j_eq (ws' := []) rfl rfl rfl rfl rfl rfl ?_
  exact hr _ _ _ _ dX11_isPlace_8 ⟨rfl, rfl⟩

abbrev rmX11_isHeight : Room := { frames := 1, cells := 0, slots := 0, locals := 22 }
set_option maxHeartbeats 600000 in
set_option maxRecDepth 100000 in
theorem ct_X11_isHeight (T : Nat → ClassId) (a : Int) (ha : -2147483648 ≤ a ∧ a ≤ 2147483647) : CtI T yX11_isHeight wsX11_isHeight rmX11_isHeight 0 0 [.int (iI a)] [] (fun r8 u => r8 = (iI (bI (decide (0 ≤ a ∧ a ≤ 19)))) ∧ u = []) := by
  refine ctI_of (cc := cX11_isHeight) (maxL := 1) (ret := (some .boolean)) (by decide +kernel) rfl rfl (fun r u hp => by obtain ⟨rfl, -⟩ := hp; exact nz_bool _) (Nat.le_of_ble_eq_true rfl) (fun X h hinit hr => ?_)
  refine j_eq (lv' := [(0, .int (iI a))]) rfl rfl rfl rfl rfl rfl ?_
  refine j_iload_n h dX11_isHeight_0 0 rfl rfl ?_
  refine j_iconst h dX11_isHeight_1 ?_
  refine j_bipush h dX11_isHeight_2 (by decide) ?_
  refine j_callSi (As := [.int (iI a), .int (iI 0), .int (iI 19)]) (wr := []) (cells' := 0) (slots' := 0) h dX11_isHeight_4 (ct_X11_within T a 0 19 (by first | assumption | omega) (by first | assumption | omega) (by first | assumption | omega)) k_X11_within gX11_isHeight_X11_within ⟨Nat.le_of_ble_eq_true rfl, Nat.le_of_ble_eq_true rfl⟩ rfl rfl (Nat.le_of_ble_eq_true rfl) ⟨Nat.le_of_ble_eq_true rfl, Nat.le_of_ble_eq_true rfl⟩ rfl rfl [] [] rfl rfl rfl rfl (by decide) (fun r9 u9 p1 => ?_)
  obtain ⟨rfl, rfl⟩ := p1
  refine j_eq (ws' := []) rfl rfl rfl rfl rfl rfl ?_
  exact hr _ _ _ _ dX11_isHeight_7 ⟨rfl, rfl⟩

abbrev rmX11_isSet : Room := { frames := 1, cells := 0, slots := 0, locals := 22 }
set_option maxHeartbeats 600000 in
set_option maxRecDepth 100000 in
theorem ct_X11_isSet (T : Nat → ClassId) (a : Int) (ha : -2147483648 ≤ a ∧ a ≤ 2147483647) : CtI T yX11_isSet wsX11_isSet rmX11_isSet 0 0 [.int (iI a)] [] (fun r8 u => r8 = (iI (bI (decide (0 ≤ a ∧ a ≤ 127)))) ∧ u = []) := by
  refine ctI_of (cc := cX11_isSet) (maxL := 1) (ret := (some .boolean)) (by decide +kernel) rfl rfl (fun r u hp => by obtain ⟨rfl, -⟩ := hp; exact nz_bool _) (Nat.le_of_ble_eq_true rfl) (fun X h hinit hr => ?_)
  refine j_eq (lv' := [(0, .int (iI a))]) rfl rfl rfl rfl rfl rfl ?_
  refine j_iload_n h dX11_isSet_0 0 rfl rfl ?_
  refine j_iconst h dX11_isSet_1 ?_
  refine j_bipush h dX11_isSet_2 (by decide) ?_
  refine j_callSi (As := [.int (iI a), .int (iI 0), .int (iI 127)]) (wr := []) (cells' := 0) (slots' := 0) h dX11_isSet_4 (ct_X11_within T a 0 127 (by first | assumption | omega) (by first | assumption | omega) (by first | assumption | omega)) k_X11_within gX11_isSet_X11_within ⟨Nat.le_of_ble_eq_true rfl, Nat.le_of_ble_eq_true rfl⟩ rfl rfl (Nat.le_of_ble_eq_true rfl) ⟨Nat.le_of_ble_eq_true rfl, Nat.le_of_ble_eq_true rfl⟩ rfl rfl [] [] rfl rfl rfl rfl (by decide) (fun r9 u9 p1 => ?_)
  obtain ⟨rfl, rfl⟩ := p1
  refine j_eq (ws' := []) rfl rfl rfl rfl rfl rfl ?_
  exact hr _ _ _ _ dX11_isSet_7 ⟨rfl, rfl⟩

abbrev rmX11_kindsOf : Room := { frames := 0, cells := 0, slots := 0, locals := 0 }
set_option maxHeartbeats 600000 in
set_option maxRecDepth 100000 in
theorem ct_X11_kindsOf (T : Nat → ClassId) (a : Int) (ha : -2147483648 ≤ a ∧ a ≤ 2147483647) : CtI T yX11_kindsOf wsX11_kindsOf rmX11_kindsOf 0 0 [.int (iI a)] [] (fun r8 u => r8 = (iI (2 * a)) ∧ u = []) := by
  refine ctI_of (cc := cX11_kindsOf) (maxL := 1) (ret := (some .int)) (by decide +kernel) rfl rfl (fun r u hp => by obtain ⟨rfl, -⟩ := hp; rfl) (Nat.le_of_ble_eq_true rfl) (fun X h hinit hr => ?_)
  refine j_eq (lv' := [(0, .int (iI a))]) rfl rfl rfl rfl rfl rfl ?_
  refine j_iload_n h dX11_kindsOf_0 0 rfl rfl ?_
  refine j_iconst h dX11_kindsOf_1 ?_
  refine j_ishl h dX11_kindsOf_2 (by omega) ?_
  exact hr _ _ _ _ dX11_kindsOf_3 ⟨(congrArg iI (show ((a * 2 ^ (1 : Int).toNat) : Int) = (2 * a) by show a * 2 ^ 1 = 2 * a; omega)), rfl⟩

abbrev rmX11_rect : Room := { frames := 2, cells := 0, slots := 0, locals := 45 }
theorem in_X11_rect_X11 : ∀ w ∈ u_ws RX11 TX11 13, w ∈ wsX11_rect := fun w hw => List.mem_cons_of_mem _ (List.mem_append_left _ (List.mem_append_right _ (hw)))
theorem f_X11_rect_35 : FlOK RX11 35 wsX11_rect 11 3 := ⟨_, _, _, rfl, by decide, in_X11_rect_X11, List.mem_of_getElem? (i := 1) rfl⟩
theorem k_X4_size : CkOK yX4_size wsX4_size rmX4_size 0 0 cX4_size 4 (some .int) 1 := ⟨⟨_, rfl⟩, rfl, rfl, by decide +kernel⟩
theorem k_X4_put : CkOK yX4_put wsX4_put rmX4_put 0 0 cX4_put 4 none 3 := ⟨⟨_, rfl⟩, rfl, rfl, by decide +kernel⟩
set_option maxHeartbeats 600000 in
set_option maxRecDepth 100000 in
/-- rect -/
theorem ct_X11_rect (T : Nat → ClassId) (h11 : Nat) (h0 : Nat) (h2 : Nat) (h10 : Nat) (h4 : Nat) (h8 : Nat) (h9 : Nat) (h5 : Nat) (h6 : Nat) (h3 : Nat) (h1 : Nat) (pg : Nat) (pb : Int) (sb : Int) (k0 : Nat) (A : Int → Bool) (k : Int) (x0 : Int) (y0 : Int) (x1 : Int) (y1 : Int) (b : Bool) (hk : -2147483648 ≤ k ∧ k ≤ 2147483647) (hx0 : -2147483648 ≤ x0 ∧ x0 ≤ 2147483647) (hy0 : -2147483648 ≤ y0 ∧ y0 ≤ 2147483647) (hx1 : -2147483648 ≤ x1 ∧ x1 ≤ 2147483647) (hy1 : -2147483648 ≤ y1 ∧ y1 ≤ 2147483647) : CtI T yX11_rect wsX11_rect rmX11_rect 0 0 [.ref h11, .int (iI k), .int (iI x0), .int (iI y0), .int (iI x1), .int (iI y1), .int (iI (bI b))] [(h11, .inr (11, [.ref h0, .ref h2, .ref h10, .ref h4, .ref h8, .ref h9, .ref h5, .ref h6, .ref h3, .ref h1, .ref pg, .int (iI pb), .int (iI sb)])), (h4, .inr (4, [.ref k0])), (k0, .inl (T 1, 1152, .inl (fun j : Nat => iI (bI (A j)))))] (fun r8 u => r8 = (iI ((rectS A k x0 y0 x1 y1 b).1)) ∧ u = [(h11, .inr (11, [.ref h0, .ref h2, .ref h10, .ref h4, .ref h8, .ref h9, .ref h5, .ref h6, .ref h3, .ref h1, .ref pg, .int (iI pb), .int (iI sb)])), (h4, .inr (4, [.ref k0])), (k0, .inl (T 1, 1152, .inl (fun j : Nat => iI (bI (((rectS A k x0 y0 x1 y1 b).2) j)))))]) := by
  refine ctI_of (cc := cX11_rect) (maxL := 9) (ret := (some .int)) (by decide +kernel) rfl rfl (fun r u hp => by obtain ⟨rfl, -⟩ := hp; rfl) (Nat.le_of_ble_eq_true rfl) (fun X h hinit hr => ?_)
  refine j_eq (lv' := [(0, .ref h11), (1, .int (iI k)), (2, .int (iI x0)), (3, .int (iI y0)), (4, .int (iI x1)), (5, .int (iI y1)), (6, .int (iI (bI b)))]) rfl rfl rfl rfl rfl rfl ?_
  refine j_iload_n h dX11_rect_0 1 rfl rfl ?_
  refine j_iconst h dX11_rect_1 ?_
  refine j_bipush h dX11_rect_2 (by decide) ?_
  refine j_callSi (As := [.int (iI k), .int (iI 0), .int (iI 7)]) (wr := [(h11, .inr (11, [.ref h0, .ref h2, .ref h10, .ref h4, .ref h8, .ref h9, .ref h5, .ref h6, .ref h3, .ref h1, .ref pg, .int (iI pb), .int (iI sb)])), (h4, .inr (4, [.ref k0])), (k0, .inl (T 1, 1152, .inl (fun j : Nat => iI (bI (A j)))))]) (cells' := 0) (slots' := 0) h dX11_rect_4 (ct_X11_within T k 0 7 (by first | assumption | omega) (by first | assumption | omega) (by first | assumption | omega)) k_X11_within gX11_rect_X11_within ⟨Nat.le_of_ble_eq_true rfl, Nat.le_of_ble_eq_true rfl⟩ rfl rfl (Nat.le_of_ble_eq_true rfl) ⟨Nat.le_of_ble_eq_true rfl, Nat.le_of_ble_eq_true rfl⟩ rfl rfl [] [0, 1, 2] rfl rfl rfl rfl (by decide) (fun r9 u9 p1 => ?_)
  obtain ⟨rfl, rfl⟩ := p1
  refine j_eq (ws' := [(h11, .inr (11, [.ref h0, .ref h2, .ref h10, .ref h4, .ref h8, .ref h9, .ref h5, .ref h6, .ref h3, .ref h1, .ref pg, .int (iI pb), .int (iI sb)])), (h4, .inr (4, [.ref k0])), (k0, .inl (T 1, 1152, .inl (fun j : Nat => iI (bI (A j)))))]) rfl rfl rfl rfl rfl rfl ?_
  refine j_ifneB h 13 dX11_rect_7 (by decide) (fun c2 => ?_) (fun c2 => ?_)
  · skip
    replace c2 := of_decide_eq_true c2
    refine j_iload_n h dX11_rect_13 2 rfl rfl ?_
    refine j_if_lt h 47 dX11_rect_14 (by decide) (by omega) (fun c3 => ?_) (fun c3 => ?_)
    · skip
      refine j_bipush h dX11_rect_47 (by decide) ?_
      exact hr _ _ _ _ dX11_rect_49 ⟨(congrArg iI (show ((-102) : Int) = (rectS A k x0 y0 x1 y1 b).1 by unfold rectS; (repeat (first | rw [if_pos (by omega)] | rw [if_neg (by omega)])) <;> (try (rw [show y = y1 + 1 by omega]; rfl)))), (show ([(h11, .inr (11, [.ref h0, .ref h2, .ref h10, .ref h4, .ref h8, .ref h9, .ref h5, .ref h6, .ref h3, .ref h1, .ref pg, .int (iI pb), .int (iI sb)])), (h4, .inr (4, [.ref k0])), (k0, .inl (T 1, 1152, .inl (fun j : Nat => iI (bI (A j)))))] : va_W) = [(h11, .inr (11, [.ref h0, .ref h2, .ref h10, .ref h4, .ref h8, .ref h9, .ref h5, .ref h6, .ref h3, .ref h1, .ref pg, .int (iI pb), .int (iI sb)])), (h4, .inr (4, [.ref k0])), (k0, .inl (T 1, 1152, .inl (fun j : Nat => iI (bI (((rectS A k x0 y0 x1 y1 b).2) j)))))] by unfold rectS; (repeat (first | rw [if_pos (by omega)] | rw [if_neg (by omega)])) <;> (try (rw [show y = y1 + 1 by omega])))⟩
    · skip
      refine j_iload h dX11_rect_17 4 rfl ?_
      refine j_iload_n h dX11_rect_19 2 rfl rfl ?_
      refine j_icmp_lt h 47 dX11_rect_20 (by decide) (by omega) (by omega) (fun c4 => ?_) (fun c4 => ?_)
      · skip
        refine j_bipush h dX11_rect_47 (by decide) ?_
        exact hr _ _ _ _ dX11_rect_49 ⟨(congrArg iI (show ((-102) : Int) = (rectS A k x0 y0 x1 y1 b).1 by unfold rectS; (repeat (first | rw [if_pos (by omega)] | rw [if_neg (by omega)])) <;> (try (rw [show y = y1 + 1 by omega]; rfl)))), (show ([(h11, .inr (11, [.ref h0, .ref h2, .ref h10, .ref h4, .ref h8, .ref h9, .ref h5, .ref h6, .ref h3, .ref h1, .ref pg, .int (iI pb), .int (iI sb)])), (h4, .inr (4, [.ref k0])), (k0, .inl (T 1, 1152, .inl (fun j : Nat => iI (bI (A j)))))] : va_W) = [(h11, .inr (11, [.ref h0, .ref h2, .ref h10, .ref h4, .ref h8, .ref h9, .ref h5, .ref h6, .ref h3, .ref h1, .ref pg, .int (iI pb), .int (iI sb)])), (h4, .inr (4, [.ref k0])), (k0, .inl (T 1, 1152, .inl (fun j : Nat => iI (bI (((rectS A k x0 y0 x1 y1 b).2) j)))))] by unfold rectS; (repeat (first | rw [if_pos (by omega)] | rw [if_neg (by omega)])) <;> (try (rw [show y = y1 + 1 by omega])))⟩
      · skip
        refine j_iload h dX11_rect_23 4 rfl ?_
        refine j_bipush h dX11_rect_25 (by decide) ?_
        refine j_icmp_ge h 47 dX11_rect_27 (by decide) (by omega) (by omega) (fun c5 => ?_) (fun c5 => ?_)
        · skip
          refine j_bipush h dX11_rect_47 (by decide) ?_
          exact hr _ _ _ _ dX11_rect_49 ⟨(congrArg iI (show ((-102) : Int) = (rectS A k x0 y0 x1 y1 b).1 by unfold rectS; (repeat (first | rw [if_pos (by omega)] | rw [if_neg (by omega)])) <;> (try (rw [show y = y1 + 1 by omega]; rfl)))), (show ([(h11, .inr (11, [.ref h0, .ref h2, .ref h10, .ref h4, .ref h8, .ref h9, .ref h5, .ref h6, .ref h3, .ref h1, .ref pg, .int (iI pb), .int (iI sb)])), (h4, .inr (4, [.ref k0])), (k0, .inl (T 1, 1152, .inl (fun j : Nat => iI (bI (A j)))))] : va_W) = [(h11, .inr (11, [.ref h0, .ref h2, .ref h10, .ref h4, .ref h8, .ref h9, .ref h5, .ref h6, .ref h3, .ref h1, .ref pg, .int (iI pb), .int (iI sb)])), (h4, .inr (4, [.ref k0])), (k0, .inl (T 1, 1152, .inl (fun j : Nat => iI (bI (((rectS A k x0 y0 x1 y1 b).2) j)))))] by unfold rectS; (repeat (first | rw [if_pos (by omega)] | rw [if_neg (by omega)])) <;> (try (rw [show y = y1 + 1 by omega])))⟩
        · skip
          refine j_iload_n h dX11_rect_30 3 rfl rfl ?_
          refine j_if_lt h 47 dX11_rect_31 (by decide) (by omega) (fun c6 => ?_) (fun c6 => ?_)
          · skip
            refine j_bipush h dX11_rect_47 (by decide) ?_
            exact hr _ _ _ _ dX11_rect_49 ⟨(congrArg iI (show ((-102) : Int) = (rectS A k x0 y0 x1 y1 b).1 by unfold rectS; (repeat (first | rw [if_pos (by omega)] | rw [if_neg (by omega)])) <;> (try (rw [show y = y1 + 1 by omega]; rfl)))), (show ([(h11, .inr (11, [.ref h0, .ref h2, .ref h10, .ref h4, .ref h8, .ref h9, .ref h5, .ref h6, .ref h3, .ref h1, .ref pg, .int (iI pb), .int (iI sb)])), (h4, .inr (4, [.ref k0])), (k0, .inl (T 1, 1152, .inl (fun j : Nat => iI (bI (A j)))))] : va_W) = [(h11, .inr (11, [.ref h0, .ref h2, .ref h10, .ref h4, .ref h8, .ref h9, .ref h5, .ref h6, .ref h3, .ref h1, .ref pg, .int (iI pb), .int (iI sb)])), (h4, .inr (4, [.ref k0])), (k0, .inl (T 1, 1152, .inl (fun j : Nat => iI (bI (((rectS A k x0 y0 x1 y1 b).2) j)))))] by unfold rectS; (repeat (first | rw [if_pos (by omega)] | rw [if_neg (by omega)])) <;> (try (rw [show y = y1 + 1 by omega])))⟩
          · skip
            refine j_iload h dX11_rect_34 5 rfl ?_
            refine j_iload_n h dX11_rect_36 3 rfl rfl ?_
            refine j_icmp_lt h 47 dX11_rect_37 (by decide) (by omega) (by omega) (fun c7 => ?_) (fun c7 => ?_)
            · skip
              refine j_bipush h dX11_rect_47 (by decide) ?_
              exact hr _ _ _ _ dX11_rect_49 ⟨(congrArg iI (show ((-102) : Int) = (rectS A k x0 y0 x1 y1 b).1 by unfold rectS; (repeat (first | rw [if_pos (by omega)] | rw [if_neg (by omega)])) <;> (try (rw [show y = y1 + 1 by omega]; rfl)))), (show ([(h11, .inr (11, [.ref h0, .ref h2, .ref h10, .ref h4, .ref h8, .ref h9, .ref h5, .ref h6, .ref h3, .ref h1, .ref pg, .int (iI pb), .int (iI sb)])), (h4, .inr (4, [.ref k0])), (k0, .inl (T 1, 1152, .inl (fun j : Nat => iI (bI (A j)))))] : va_W) = [(h11, .inr (11, [.ref h0, .ref h2, .ref h10, .ref h4, .ref h8, .ref h9, .ref h5, .ref h6, .ref h3, .ref h1, .ref pg, .int (iI pb), .int (iI sb)])), (h4, .inr (4, [.ref k0])), (k0, .inl (T 1, 1152, .inl (fun j : Nat => iI (bI (((rectS A k x0 y0 x1 y1 b).2) j)))))] by unfold rectS; (repeat (first | rw [if_pos (by omega)] | rw [if_neg (by omega)])) <;> (try (rw [show y = y1 + 1 by omega])))⟩
            · skip
              refine j_iload h dX11_rect_40 5 rfl ?_
              refine j_bipush h dX11_rect_42 (by decide) ?_
              refine j_icmp_lt h 50 dX11_rect_44 (by decide) (by omega) (by omega) (fun c8 => ?_) (fun c8 => ?_)
              · skip
                refine j_iload_n h dX11_rect_50 3 rfl rfl ?_
                refine j_istore (lv' := [(0, .ref h11), (1, .int (iI k)), (2, .int (iI x0)), (3, .int (iI y0)), (4, .int (iI x1)), (5, .int (iI y1)), (6, .int (iI (bI b))), (7, .int (iI y0))]) h dX11_rect_51 [1, 2, 3, 4, 5, 6, 7, 0] (by decide) rfl ?_
                have lp53 : ∀ (n53 : Nat) (y : Int) (hy : y0 ≤ y ∧ y ≤ y1 + 1), ((y1 + 1 - y).toNat) < n53 → J X 0 0 53 [(0, .ref h11), (1, .int (iI k)), (2, .int (iI x0)), (3, .int (iI y0)), (4, .int (iI x1)), (5, .int (iI y1)), (6, .int (iI (bI b))), (7, .int (iI y))] [] [(h11, .inr (11, [.ref h0, .ref h2, .ref h10, .ref h4, .ref h8, .ref h9, .ref h5, .ref h6, .ref h3, .ref h1, .ref pg, .int (iI pb), .int (iI sb)])), (h4, .inr (4, [.ref k0])), (k0, .inl (T 1, 1152, .inl (fun j : Nat => iI (bI ((rcF A k x0 x1 y0 b y x0) j)))))] := by
                  intro n53
                  induction n53 with
                  | zero => exact fun y hy hn53 => absurd hn53 (Nat.not_lt_zero _)
                  | succ n53 ih53 =>
                    intro y hy hn53
                    refine j_iload h dX11_rect_53 7 rfl ?_
                    refine j_iload h dX11_rect_55 5 rfl ?_
                    refine j_icmp_gt h 100 dX11_rect_57 (by decide) (by omega) (by omega) (fun c9 => ?_) (fun c9 => ?_)
                    · skip
                      refine j_aload_n h dX11_rect_100 0 rfl rfl ?_
                      refine j_get h dX11_rect_101 f_X11_rect_35 0 rfl rfl ?_
                      refine j_iload_n h dX11_rect_104 1 rfl rfl ?_
                      refine j_callVi (As := [.int (iI k)]) (wr := [(h11, .inr (11, [.ref h0, .ref h2, .ref h10, .ref h4, .ref h8, .ref h9, .ref h5, .ref h6, .ref h3, .ref h1, .ref pg, .int (iI pb), .int (iI sb)]))]) (cells' := 0) (slots' := 0) h dX11_rect_105 (ct_X4_size T h4 k0 (rcF A k x0 x1 y0 b y x0) k (by first | assumption | omega)) k_X4_size gX11_rect_X4_size rfl rfl 1 rfl ⟨Nat.le_of_ble_eq_true rfl, Nat.le_of_ble_eq_true rfl⟩ rfl rfl (Nat.le_of_ble_eq_true rfl) ⟨Nat.le_of_ble_eq_true rfl, Nat.le_of_ble_eq_true rfl⟩ rfl rfl [1, 2] [0] rfl rfl rfl rfl (by decide) (fun r9 u9 p10 => ?_)
                      obtain ⟨rfl, rfl⟩ := p10
                      refine j_eq (ws' := [(h11, .inr (11, [.ref h0, .ref h2, .ref h10, .ref h4, .ref h8, .ref h9, .ref h5, .ref h6, .ref h3, .ref h1, .ref pg, .int (iI pb), .int (iI sb)])), (h4, .inr (4, [.ref k0])), (k0, .inl (T 1, 1152, .inl (fun j : Nat => iI (bI ((rcF A k x0 x1 y0 b y x0) j)))))]) rfl rfl rfl rfl rfl rfl ?_
                      exact hr _ _ _ _ dX11_rect_108 ⟨(congrArg iI (show (cntI (fun p => (rcF A k x0 x1 y0 b y x0) (144 * k + p)) 144 : Int) = (rectS A k x0 y0 x1 y1 b).1 by unfold rectS; (repeat (first | rw [if_pos (by omega)] | rw [if_neg (by omega)])) <;> (try (rw [show y = y1 + 1 by omega]; rfl)))), (show ([(h11, .inr (11, [.ref h0, .ref h2, .ref h10, .ref h4, .ref h8, .ref h9, .ref h5, .ref h6, .ref h3, .ref h1, .ref pg, .int (iI pb), .int (iI sb)])), (h4, .inr (4, [.ref k0])), (k0, .inl (T 1, 1152, .inl (fun j : Nat => iI (bI ((rcF A k x0 x1 y0 b y x0) j)))))] : va_W) = [(h11, .inr (11, [.ref h0, .ref h2, .ref h10, .ref h4, .ref h8, .ref h9, .ref h5, .ref h6, .ref h3, .ref h1, .ref pg, .int (iI pb), .int (iI sb)])), (h4, .inr (4, [.ref k0])), (k0, .inl (T 1, 1152, .inl (fun j : Nat => iI (bI (((rectS A k x0 y0 x1 y1 b).2) j)))))] by unfold rectS; (repeat (first | rw [if_pos (by omega)] | rw [if_neg (by omega)])) <;> (try (rw [show y = y1 + 1 by omega])))⟩
                    · skip
                      refine j_iload_n h dX11_rect_60 2 rfl rfl ?_
                      refine j_istore (lv' := [(0, .ref h11), (1, .int (iI k)), (2, .int (iI x0)), (3, .int (iI y0)), (4, .int (iI x1)), (5, .int (iI y1)), (6, .int (iI (bI b))), (7, .int (iI y)), (8, .int (iI x0))]) h dX11_rect_61 [1, 2, 3, 4, 5, 6, 7, 8, 0] (by decide) rfl ?_
                      have lp63 : ∀ (n63 : Nat) (x : Int) (hx : x0 ≤ x ∧ x ≤ x1 + 1), ((x1 + 1 - x).toNat) < n63 → J X 0 0 63 [(0, .ref h11), (1, .int (iI k)), (2, .int (iI x0)), (3, .int (iI y0)), (4, .int (iI x1)), (5, .int (iI y1)), (6, .int (iI (bI b))), (7, .int (iI y)), (8, .int (iI x))] [] [(h11, .inr (11, [.ref h0, .ref h2, .ref h10, .ref h4, .ref h8, .ref h9, .ref h5, .ref h6, .ref h3, .ref h1, .ref pg, .int (iI pb), .int (iI sb)])), (h4, .inr (4, [.ref k0])), (k0, .inl (T 1, 1152, .inl (fun j : Nat => iI (bI ((rcF A k x0 x1 y0 b y x) j)))))] := by
                        intro n63
                        induction n63 with
                        | zero => exact fun x hx hn63 => absurd hn63 (Nat.not_lt_zero _)
                        | succ n63 ih63 =>
                          intro x hx hn63
                          refine j_iload h dX11_rect_63 8 rfl ?_
                          refine j_iload h dX11_rect_65 4 rfl ?_
                          refine j_icmp_gt h 94 dX11_rect_67 (by decide) (by omega) (by omega) (fun c11 => ?_) (fun c11 => ?_)
                          · skip
                            refine j_iinc (lv' := [(0, .ref h11), (1, .int (iI k)), (2, .int (iI x0)), (3, .int (iI y0)), (4, .int (iI x1)), (5, .int (iI y1)), (6, .int (iI (bI b))), (7, .int (iI (y + 1))), (8, .int (iI x))]) h dX11_rect_94 7 [1, 2, 3, 4, 5, 6, 7, 0, 8] rfl (by decide) rfl ?_
                            refine j_goto (tgt := 53) h dX11_rect_97 (by decide) ?_
                            refine j_lv (lv' := [(0, .ref h11), (1, .int (iI k)), (2, .int (iI x0)), (3, .int (iI y0)), (4, .int (iI x1)), (5, .int (iI y1)), (6, .int (iI (bI b))), (7, .int (iI (y + 1)))]) [0, 1, 2, 3, 4, 5, 6, 7] rfl ?_
                            refine j_eq (ws' := [(h11, .inr (11, [.ref h0, .ref h2, .ref h10, .ref h4, .ref h8, .ref h9, .ref h5, .ref h6, .ref h3, .ref h1, .ref pg, .int (iI pb), .int (iI sb)])), (h4, .inr (4, [.ref k0])), (k0, .inl (T 1, 1152, .inl (fun j : Nat => iI (bI ((rcF A k x0 x1 y0 b (y + 1) x0) j)))))]) rfl rfl rfl rfl rfl (by rw [rcF_r (by omega) (by omega)]) ?_
                            exact ih53 (y + 1) (by first | assumption | omega) (by omega)
                          · skip
                            refine j_aload_n h dX11_rect_70 0 rfl rfl ?_
                            refine j_get h dX11_rect_71 f_X11_rect_35 0 rfl rfl ?_
                            refine j_iload_n h dX11_rect_74 1 rfl rfl ?_
                            refine j_bipush h dX11_rect_75 (by decide) ?_
                            refine j_iload h dX11_rect_77 7 rfl ?_
                            refine j_imul h dX11_rect_79 ?_
                            refine j_iload h dX11_rect_80 8 rfl ?_
                            refine j_iadd h dX11_rect_82 ?_
                            refine j_iload h dX11_rect_83 6 rfl ?_
                            refine j_callVv (As := [.int (iI k), .int (iI ((12 * y) + x)), .int (iI (bI b))]) (wr := [(h11, .inr (11, [.ref h0, .ref h2, .ref h10, .ref h4, .ref h8, .ref h9, .ref h5, .ref h6, .ref h3, .ref h1, .ref pg, .int (iI pb), .int (iI sb)]))]) (cells' := 0) (slots' := 0) h dX11_rect_85 (ct_X4_put T h4 k0 (rcF A k x0 x1 y0 b y x) k ((12 * y) + x) b (by first | assumption | omega) (by first | assumption | omega)) k_X4_put gX11_rect_X4_put rfl rfl 1 rfl ⟨Nat.le_of_ble_eq_true rfl, Nat.le_of_ble_eq_true rfl⟩ rfl rfl (Nat.le_of_ble_eq_true rfl) ⟨Nat.le_of_ble_eq_true rfl, Nat.le_of_ble_eq_true rfl⟩ rfl rfl [1, 2] [0] rfl rfl rfl rfl (by decide) (fun u9 p12 => ?_)
                            obtain rfl := p12
                            refine j_eq (ws' := [(h11, .inr (11, [.ref h0, .ref h2, .ref h10, .ref h4, .ref h8, .ref h9, .ref h5, .ref h6, .ref h3, .ref h1, .ref pg, .int (iI pb), .int (iI sb)])), (h4, .inr (4, [.ref k0])), (k0, .inl (T 1, 1152, .inl (fun j : Nat => iI (bI ((upI (rcF A k x0 x1 y0 b y x) (144 * k + ((12 * y) + x)) b) j)))))]) rfl rfl rfl rfl rfl rfl ?_
                            refine j_iinc (lv' := [(0, .ref h11), (1, .int (iI k)), (2, .int (iI x0)), (3, .int (iI y0)), (4, .int (iI x1)), (5, .int (iI y1)), (6, .int (iI (bI b))), (7, .int (iI y)), (8, .int (iI (x + 1)))]) h dX11_rect_88 8 [1, 2, 3, 4, 5, 6, 7, 8, 0] rfl (by decide) rfl ?_
                            refine j_goto (tgt := 63) h dX11_rect_91 (by decide) ?_
                            refine j_eq (ws' := [(h11, .inr (11, [.ref h0, .ref h2, .ref h10, .ref h4, .ref h8, .ref h9, .ref h5, .ref h6, .ref h3, .ref h1, .ref pg, .int (iI pb), .int (iI sb)])), (h4, .inr (4, [.ref k0])), (k0, .inl (T 1, 1152, .inl (fun j : Nat => iI (bI ((rcF A k x0 x1 y0 b y (x + 1)) j)))))]) rfl rfl rfl rfl rfl (by rw [rcF_s (by omega) (by omega) (by omega)]) ?_
                            exact ih63 (x + 1) (by first | assumption | omega) (by omega)
                      exact lp63 _ x0 (by first | assumption | omega) (Nat.lt_succ_self _)
                refine j_eq (ws' := [(h11, .inr (11, [.ref h0, .ref h2, .ref h10, .ref h4, .ref h8, .ref h9, .ref h5, .ref h6, .ref h3, .ref h1, .ref pg, .int (iI pb), .int (iI sb)])), (h4, .inr (4, [.ref k0])), (k0, .inl (T 1, 1152, .inl (fun j : Nat => iI (bI ((rcF A k x0 x1 y0 b y0 x0) j)))))]) rfl rfl rfl rfl rfl (by rw [rcF_0]) ?_
                exact lp53 _ y0 (by first | assumption | omega) (Nat.lt_succ_self _)
              · skip
                refine j_bipush h dX11_rect_47 (by decide) ?_
                exact hr _ _ _ _ dX11_rect_49 ⟨(congrArg iI (show ((-102) : Int) = (rectS A k x0 y0 x1 y1 b).1 by unfold rectS; (repeat (first | rw [if_pos (by omega)] | rw [if_neg (by omega)])) <;> (try (rw [show y = y1 + 1 by omega]; rfl)))), (show ([(h11, .inr (11, [.ref h0, .ref h2, .ref h10, .ref h4, .ref h8, .ref h9, .ref h5, .ref h6, .ref h3, .ref h1, .ref pg, .int (iI pb), .int (iI sb)])), (h4, .inr (4, [.ref k0])), (k0, .inl (T 1, 1152, .inl (fun j : Nat => iI (bI (A j)))))] : va_W) = [(h11, .inr (11, [.ref h0, .ref h2, .ref h10, .ref h4, .ref h8, .ref h9, .ref h5, .ref h6, .ref h3, .ref h1, .ref pg, .int (iI pb), .int (iI sb)])), (h4, .inr (4, [.ref k0])), (k0, .inl (T 1, 1152, .inl (fun j : Nat => iI (bI (((rectS A k x0 y0 x1 y1 b).2) j)))))] by unfold rectS; (repeat (first | rw [if_pos (by omega)] | rw [if_neg (by omega)])) <;> (try (rw [show y = y1 + 1 by omega])))⟩
  · skip
    replace c2 := of_decide_eq_false c2
    refine j_bipush h dX11_rect_10 (by decide) ?_
    exact hr _ _ _ _ dX11_rect_12 ⟨(congrArg iI (show ((-101) : Int) = (rectS A k x0 y0 x1 y1 b).1 by unfold rectS; (repeat (first | rw [if_pos (by omega)] | rw [if_neg (by omega)])) <;> (try (rw [show y = y1 + 1 by omega]; rfl)))), (show ([(h11, .inr (11, [.ref h0, .ref h2, .ref h10, .ref h4, .ref h8, .ref h9, .ref h5, .ref h6, .ref h3, .ref h1, .ref pg, .int (iI pb), .int (iI sb)])), (h4, .inr (4, [.ref k0])), (k0, .inl (T 1, 1152, .inl (fun j : Nat => iI (bI (A j)))))] : va_W) = [(h11, .inr (11, [.ref h0, .ref h2, .ref h10, .ref h4, .ref h8, .ref h9, .ref h5, .ref h6, .ref h3, .ref h1, .ref pg, .int (iI pb), .int (iI sb)])), (h4, .inr (4, [.ref k0])), (k0, .inl (T 1, 1152, .inl (fun j : Nat => iI (bI (((rectS A k x0 y0 x1 y1 b).2) j)))))] by unfold rectS; (repeat (first | rw [if_pos (by omega)] | rw [if_neg (by omega)])) <;> (try (rw [show y = y1 + 1 by omega])))⟩

abbrev rmX11_masked : Room := { frames := 2, cells := 0, slots := 0, locals := 42 }
theorem k_X11_isPlace : CkOK yX11_isPlace wsX11_isPlace rmX11_isPlace 0 0 cX11_isPlace 1 (some .boolean) 1 := ⟨⟨_, rfl⟩, rfl, rfl, by decide +kernel⟩
theorem in_X11_masked_X11 : ∀ w ∈ u_ws RX11 TX11 13, w ∈ wsX11_masked := fun w hw => List.mem_cons_of_mem _ (List.mem_append_left _ (List.mem_append_right _ (hw)))
theorem f_X11_masked_35 : FlOK RX11 35 wsX11_masked 11 3 := ⟨_, _, _, rfl, by decide, in_X11_masked_X11, List.mem_of_getElem? (i := 1) rfl⟩
set_option maxHeartbeats 600000 in
set_option maxRecDepth 100000 in
/-- masked -/
theorem ct_X11_masked (T : Nat → ClassId) (h11 : Nat) (h0 : Nat) (h2 : Nat) (h10 : Nat) (h4 : Nat) (h8 : Nat) (h9 : Nat) (h5 : Nat) (h6 : Nat) (h3 : Nat) (h1 : Nat) (pg : Nat) (pb : Int) (sb : Int) (k0 : Nat) (A : Int → Bool) (k : Int) (p : Int) (hk : -2147483648 ≤ k ∧ k ≤ 2147483647) (hp : -2147483648 ≤ p ∧ p ≤ 2147483647) : CtI T yX11_masked wsX11_masked rmX11_masked 0 0 [.ref h11, .int (iI k), .int (iI p)] [(h11, .inr (11, [.ref h0, .ref h2, .ref h10, .ref h4, .ref h8, .ref h9, .ref h5, .ref h6, .ref h3, .ref h1, .ref pg, .int (iI pb), .int (iI sb)])), (h4, .inr (4, [.ref k0])), (k0, .inl (T 1, 1152, .inl (fun j : Nat => iI (bI (A j)))))] (fun r8 u => r8 = (iI (maskedS A k p)) ∧ u = [(h11, .inr (11, [.ref h0, .ref h2, .ref h10, .ref h4, .ref h8, .ref h9, .ref h5, .ref h6, .ref h3, .ref h1, .ref pg, .int (iI pb), .int (iI sb)])), (h4, .inr (4, [.ref k0])), (k0, .inl (T 1, 1152, .inl (fun j : Nat => iI (bI (A j)))))]) := by
  refine ctI_of (cc := cX11_masked) (maxL := 3) (ret := (some .int)) (by decide +kernel) rfl rfl (fun r u hp => by obtain ⟨rfl, -⟩ := hp; rfl) (Nat.le_of_ble_eq_true rfl) (fun X h hinit hr => ?_)
  refine j_eq (lv' := [(0, .ref h11), (1, .int (iI k)), (2, .int (iI p))]) rfl rfl rfl rfl rfl rfl ?_
  refine j_iload_n h dX11_masked_0 1 rfl rfl ?_
  refine j_iconst h dX11_masked_1 ?_
  refine j_bipush h dX11_masked_2 (by decide) ?_
  refine j_callSi (As := [.int (iI k), .int (iI 0), .int (iI 7)]) (wr := [(h11, .inr (11, [.ref h0, .ref h2, .ref h10, .ref h4, .ref h8, .ref h9, .ref h5, .ref h6, .ref h3, .ref h1, .ref pg, .int (iI pb), .int (iI sb)])), (h4, .inr (4, [.ref k0])), (k0, .inl (T 1, 1152, .inl (fun j : Nat => iI (bI (A j)))))]) (cells' := 0) (slots' := 0) h dX11_masked_4 (ct_X11_within T k 0 7 (by first | assumption | omega) (by first | assumption | omega) (by first | assumption | omega)) k_X11_within gX11_masked_X11_within ⟨Nat.le_of_ble_eq_true rfl, Nat.le_of_ble_eq_true rfl⟩ rfl rfl (Nat.le_of_ble_eq_true rfl) ⟨Nat.le_of_ble_eq_true rfl, Nat.le_of_ble_eq_true rfl⟩ rfl rfl [] [0, 1, 2] rfl rfl rfl rfl (by decide) (fun r9 u9 p1 => ?_)
  obtain ⟨rfl, rfl⟩ := p1
  refine j_eq (ws' := [(h11, .inr (11, [.ref h0, .ref h2, .ref h10, .ref h4, .ref h8, .ref h9, .ref h5, .ref h6, .ref h3, .ref h1, .ref pg, .int (iI pb), .int (iI sb)])), (h4, .inr (4, [.ref k0])), (k0, .inl (T 1, 1152, .inl (fun j : Nat => iI (bI (A j)))))]) rfl rfl rfl rfl rfl rfl ?_
  refine j_ifeqB h 17 dX11_masked_7 (by decide) (fun c2 => ?_) (fun c2 => ?_)
  · skip
    replace c2 := of_decide_eq_false c2
    refine j_bipush h dX11_masked_17 (by decide) ?_
    exact hr _ _ _ _ dX11_masked_19 ⟨(congrArg iI (show ((-101) : Int) = (maskedS A k p) by unfold maskedS; (repeat (first | rw [if_pos (by omega)] | rw [if_neg (by omega)])) <;> (try (rw [c2]; rfl)))), rfl⟩
  · skip
    replace c2 := of_decide_eq_true c2
    refine j_iload_n h dX11_masked_10 2 rfl rfl ?_
    refine j_callSi (As := [.int (iI p)]) (wr := [(h11, .inr (11, [.ref h0, .ref h2, .ref h10, .ref h4, .ref h8, .ref h9, .ref h5, .ref h6, .ref h3, .ref h1, .ref pg, .int (iI pb), .int (iI sb)])), (h4, .inr (4, [.ref k0])), (k0, .inl (T 1, 1152, .inl (fun j : Nat => iI (bI (A j)))))]) (cells' := 0) (slots' := 0) h dX11_masked_11 (ct_X11_isPlace T p (by first | assumption | omega)) k_X11_isPlace gX11_masked_X11_isPlace ⟨Nat.le_of_ble_eq_true rfl, Nat.le_of_ble_eq_true rfl⟩ rfl rfl (Nat.le_of_ble_eq_true rfl) ⟨Nat.le_of_ble_eq_true rfl, Nat.le_of_ble_eq_true rfl⟩ rfl rfl [] [0, 1, 2] rfl rfl rfl rfl (by decide) (fun r9 u9 p3 => ?_)
    obtain ⟨rfl, rfl⟩ := p3
    refine j_eq (ws' := [(h11, .inr (11, [.ref h0, .ref h2, .ref h10, .ref h4, .ref h8, .ref h9, .ref h5, .ref h6, .ref h3, .ref h1, .ref pg, .int (iI pb), .int (iI sb)])), (h4, .inr (4, [.ref k0])), (k0, .inl (T 1, 1152, .inl (fun j : Nat => iI (bI (A j)))))]) rfl rfl rfl rfl rfl rfl ?_
    refine j_ifneB h 20 dX11_masked_14 (by decide) (fun c4 => ?_) (fun c4 => ?_)
    · skip
      replace c4 := of_decide_eq_true c4
      refine j_aload_n h dX11_masked_20 0 rfl rfl ?_
      refine j_get h dX11_masked_21 f_X11_masked_35 0 rfl rfl ?_
      refine j_iload_n h dX11_masked_24 1 rfl rfl ?_
      refine j_iload_n h dX11_masked_25 2 rfl rfl ?_
      refine j_callVi (As := [.int (iI k), .int (iI p)]) (wr := [(h11, .inr (11, [.ref h0, .ref h2, .ref h10, .ref h4, .ref h8, .ref h9, .ref h5, .ref h6, .ref h3, .ref h1, .ref pg, .int (iI pb), .int (iI sb)]))]) (cells' := 0) (slots' := 0) h dX11_masked_26 (ct_X4_has T h4 k0 A k p (by first | assumption | omega) (by first | assumption | omega)) k_X4_has gX11_masked_X4_has rfl rfl 1 rfl ⟨Nat.le_of_ble_eq_true rfl, Nat.le_of_ble_eq_true rfl⟩ rfl rfl (Nat.le_of_ble_eq_true rfl) ⟨Nat.le_of_ble_eq_true rfl, Nat.le_of_ble_eq_true rfl⟩ rfl rfl [1, 2] [0] rfl rfl rfl rfl (by decide) (fun r9 u9 p5 => ?_)
      obtain ⟨rfl, rfl⟩ := p5
      refine j_eq (ws' := [(h11, .inr (11, [.ref h0, .ref h2, .ref h10, .ref h4, .ref h8, .ref h9, .ref h5, .ref h6, .ref h3, .ref h1, .ref pg, .int (iI pb), .int (iI sb)])), (h4, .inr (4, [.ref k0])), (k0, .inl (T 1, 1152, .inl (fun j : Nat => iI (bI (A j)))))]) rfl rfl rfl rfl rfl rfl ?_
      refine j_ifeqB h 36 dX11_masked_29 (by decide) (fun c6 => ?_) (fun c6 => ?_)
      · skip
        refine j_iconst h dX11_masked_36 ?_
        exact hr _ _ _ _ dX11_masked_37 ⟨(congrArg iI (show (0 : Int) = (maskedS A k p) by unfold maskedS; (repeat (first | rw [if_pos (by omega)] | rw [if_neg (by omega)])) <;> (try (rw [c6]; rfl)))), rfl⟩
      · skip
        refine j_iconst h dX11_masked_32 ?_
        refine j_goto (tgt := 37) h dX11_masked_33 (by decide) ?_
        exact hr _ _ _ _ dX11_masked_37 ⟨(congrArg iI (show (1 : Int) = (maskedS A k p) by unfold maskedS; (repeat (first | rw [if_pos (by omega)] | rw [if_neg (by omega)])) <;> (try (rw [c6]; rfl)))), rfl⟩
    · skip
      replace c4 := of_decide_eq_false c4
      refine j_bipush h dX11_masked_17 (by decide) ?_
      exact hr _ _ _ _ dX11_masked_19 ⟨(congrArg iI (show ((-101) : Int) = (maskedS A k p) by unfold maskedS; (repeat (first | rw [if_pos (by omega)] | rw [if_neg (by omega)])) <;> (try (rw [c4]; rfl)))), rfl⟩

abbrev rmX11_turned : Room := { frames := 2, cells := 0, slots := 0, locals := 45 }
theorem in_X11_turned_X11 : ∀ w ∈ u_ws RX11 TX11 13, w ∈ wsX11_turned := fun w hw => List.mem_cons_of_mem _ (List.mem_append_left _ (List.mem_append_right _ (hw)))
theorem f_X11_turned_35 : FlOK RX11 35 wsX11_turned 11 3 := ⟨_, _, _, rfl, by decide, in_X11_turned_X11, List.mem_of_getElem? (i := 1) rfl⟩
set_option maxHeartbeats 600000 in
set_option maxRecDepth 100000 in
/-- turned -/
theorem ct_X11_turned (T : Nat → ClassId) (h11 : Nat) (h0 : Nat) (h2 : Nat) (h10 : Nat) (h4 : Nat) (h8 : Nat) (h9 : Nat) (h5 : Nat) (h6 : Nat) (h3 : Nat) (h1 : Nat) (pg : Nat) (pb : Int) (sb : Int) (k0 : Nat) (A : Int → Bool) (k : Int) (hk : -2147483648 ≤ k ∧ k ≤ 2147483647) : CtI T yX11_turned wsX11_turned rmX11_turned 0 0 [.ref h11, .int (iI k)] [(h11, .inr (11, [.ref h0, .ref h2, .ref h10, .ref h4, .ref h8, .ref h9, .ref h5, .ref h6, .ref h3, .ref h1, .ref pg, .int (iI pb), .int (iI sb)])), (h4, .inr (4, [.ref k0])), (k0, .inl (T 1, 1152, .inl (fun j : Nat => iI (bI (A j)))))] (fun r8 u => r8 = (iI ((turnedS A k).1)) ∧ u = [(h11, .inr (11, [.ref h0, .ref h2, .ref h10, .ref h4, .ref h8, .ref h9, .ref h5, .ref h6, .ref h3, .ref h1, .ref pg, .int (iI pb), .int (iI sb)])), (h4, .inr (4, [.ref k0])), (k0, .inl (T 1, 1152, .inl (fun j : Nat => iI (bI (((turnedS A k).2) j)))))]) := by
  refine ctI_of (cc := cX11_turned) (maxL := 3) (ret := (some .int)) (by decide +kernel) rfl rfl (fun r u hp => by obtain ⟨rfl, -⟩ := hp; rfl) (Nat.le_of_ble_eq_true rfl) (fun X h hinit hr => ?_)
  refine j_eq (lv' := [(0, .ref h11), (1, .int (iI k))]) rfl rfl rfl rfl rfl rfl ?_
  refine j_iload_n h dX11_turned_0 1 rfl rfl ?_
  refine j_iconst h dX11_turned_1 ?_
  refine j_bipush h dX11_turned_2 (by decide) ?_
  refine j_callSi (As := [.int (iI k), .int (iI 0), .int (iI 7)]) (wr := [(h11, .inr (11, [.ref h0, .ref h2, .ref h10, .ref h4, .ref h8, .ref h9, .ref h5, .ref h6, .ref h3, .ref h1, .ref pg, .int (iI pb), .int (iI sb)])), (h4, .inr (4, [.ref k0])), (k0, .inl (T 1, 1152, .inl (fun j : Nat => iI (bI (A j)))))]) (cells' := 0) (slots' := 0) h dX11_turned_4 (ct_X11_within T k 0 7 (by first | assumption | omega) (by first | assumption | omega) (by first | assumption | omega)) k_X11_within gX11_turned_X11_within ⟨Nat.le_of_ble_eq_true rfl, Nat.le_of_ble_eq_true rfl⟩ rfl rfl (Nat.le_of_ble_eq_true rfl) ⟨Nat.le_of_ble_eq_true rfl, Nat.le_of_ble_eq_true rfl⟩ rfl rfl [] [0, 1, 2] rfl rfl rfl rfl (by decide) (fun r9 u9 p1 => ?_)
  obtain ⟨rfl, rfl⟩ := p1
  refine j_eq (ws' := [(h11, .inr (11, [.ref h0, .ref h2, .ref h10, .ref h4, .ref h8, .ref h9, .ref h5, .ref h6, .ref h3, .ref h1, .ref pg, .int (iI pb), .int (iI sb)])), (h4, .inr (4, [.ref k0])), (k0, .inl (T 1, 1152, .inl (fun j : Nat => iI (bI (A j)))))]) rfl rfl rfl rfl rfl rfl ?_
  refine j_ifneB h 13 dX11_turned_7 (by decide) (fun c2 => ?_) (fun c2 => ?_)
  · skip
    replace c2 := of_decide_eq_true c2
    refine j_iconst h dX11_turned_13 ?_
    refine j_istore_n (lv' := [(0, .ref h11), (1, .int (iI k)), (2, .int (iI 0))]) h dX11_turned_14 [1, 2, 0] rfl (by decide) rfl ?_
    have lp15 : ∀ (n15 : Nat) (i : Int) (hi : 0 ≤ i ∧ i ≤ 144), ((144 - i).toNat) < n15 → J X 0 0 15 [(0, .ref h11), (1, .int (iI k)), (2, .int (iI i))] [] [(h11, .inr (11, [.ref h0, .ref h2, .ref h10, .ref h4, .ref h8, .ref h9, .ref h5, .ref h6, .ref h3, .ref h1, .ref pg, .int (iI pb), .int (iI sb)])), (h4, .inr (4, [.ref k0])), (k0, .inl (T 1, 1152, .inl (fun j : Nat => iI (bI ((trF A k i) j)))))] := by
      intro n15
      induction n15 with
      | zero => exact fun i hi hn15 => absurd hn15 (Nat.not_lt_zero _)
      | succ n15 ih15 =>
        intro i hi hn15
        refine j_iload_n h dX11_turned_15 2 rfl rfl ?_
        refine j_sipush h dX11_turned_16 (by decide) ?_
        refine j_icmp_ge h 54 dX11_turned_19 (by decide) (by omega) (by omega) (fun c3 => ?_) (fun c3 => ?_)
        · skip
          refine j_aload_n h dX11_turned_54 0 rfl rfl ?_
          refine j_get h dX11_turned_55 f_X11_turned_35 0 rfl rfl ?_
          refine j_iload_n h dX11_turned_58 1 rfl rfl ?_
          refine j_callVi (As := [.int (iI k)]) (wr := [(h11, .inr (11, [.ref h0, .ref h2, .ref h10, .ref h4, .ref h8, .ref h9, .ref h5, .ref h6, .ref h3, .ref h1, .ref pg, .int (iI pb), .int (iI sb)]))]) (cells' := 0) (slots' := 0) h dX11_turned_59 (ct_X4_size T h4 k0 (trF A k i) k (by first | assumption | omega)) k_X4_size gX11_turned_X4_size rfl rfl 1 rfl ⟨Nat.le_of_ble_eq_true rfl, Nat.le_of_ble_eq_true rfl⟩ rfl rfl (Nat.le_of_ble_eq_true rfl) ⟨Nat.le_of_ble_eq_true rfl, Nat.le_of_ble_eq_true rfl⟩ rfl rfl [1, 2] [0] rfl rfl rfl rfl (by decide) (fun r9 u9 p4 => ?_)
          obtain ⟨rfl, rfl⟩ := p4
          refine j_eq (ws' := [(h11, .inr (11, [.ref h0, .ref h2, .ref h10, .ref h4, .ref h8, .ref h9, .ref h5, .ref h6, .ref h3, .ref h1, .ref pg, .int (iI pb), .int (iI sb)])), (h4, .inr (4, [.ref k0])), (k0, .inl (T 1, 1152, .inl (fun j : Nat => iI (bI ((trF A k i) j)))))]) rfl rfl rfl rfl rfl rfl ?_
          exact hr _ _ _ _ dX11_turned_62 ⟨(congrArg iI (show (cntI (fun p => (trF A k i) (144 * k + p)) 144 : Int) = (turnedS A k).1 by unfold turnedS; (repeat (first | rw [if_pos (by omega)] | rw [if_neg (by omega)])) <;> (try (rw [show i = 144 by omega]; rfl)))), (show ([(h11, .inr (11, [.ref h0, .ref h2, .ref h10, .ref h4, .ref h8, .ref h9, .ref h5, .ref h6, .ref h3, .ref h1, .ref pg, .int (iI pb), .int (iI sb)])), (h4, .inr (4, [.ref k0])), (k0, .inl (T 1, 1152, .inl (fun j : Nat => iI (bI ((trF A k i) j)))))] : va_W) = [(h11, .inr (11, [.ref h0, .ref h2, .ref h10, .ref h4, .ref h8, .ref h9, .ref h5, .ref h6, .ref h3, .ref h1, .ref pg, .int (iI pb), .int (iI sb)])), (h4, .inr (4, [.ref k0])), (k0, .inl (T 1, 1152, .inl (fun j : Nat => iI (bI (((turnedS A k).2) j)))))] by unfold turnedS; (repeat (first | rw [if_pos (by omega)] | rw [if_neg (by omega)])) <;> (try (rw [show i = 144 by omega])))⟩
        · skip
          refine j_aload_n h dX11_turned_22 0 rfl rfl ?_
          refine j_get h dX11_turned_23 f_X11_turned_35 0 rfl rfl ?_
          refine j_iload_n h dX11_turned_26 1 rfl rfl ?_
          refine j_iload_n h dX11_turned_27 2 rfl rfl ?_
          refine j_aload_n h dX11_turned_28 0 rfl rfl ?_
          refine j_get h dX11_turned_29 f_X11_turned_35 0 rfl rfl ?_
          refine j_iload_n h dX11_turned_32 1 rfl rfl ?_
          refine j_iload_n h dX11_turned_33 2 rfl rfl ?_
          refine j_callVi (As := [.int (iI k), .int (iI i)]) (wr := [(h11, .inr (11, [.ref h0, .ref h2, .ref h10, .ref h4, .ref h8, .ref h9, .ref h5, .ref h6, .ref h3, .ref h1, .ref pg, .int (iI pb), .int (iI sb)]))]) (cells' := 0) (slots' := 0) h dX11_turned_34 (ct_X4_has T h4 k0 (trF A k i) k i (by first | assumption | omega) (by first | assumption | omega)) k_X4_has gX11_turned_X4_has rfl rfl 1 rfl ⟨Nat.le_of_ble_eq_true rfl, Nat.le_of_ble_eq_true rfl⟩ rfl rfl (Nat.le_of_ble_eq_true rfl) ⟨Nat.le_of_ble_eq_true rfl, Nat.le_of_ble_eq_true rfl⟩ rfl rfl [1, 2] [0] rfl rfl rfl rfl (by decide) (fun r9 u9 p5 => ?_)
          obtain ⟨rfl, rfl⟩ := p5
          refine j_eq (ws' := [(h11, .inr (11, [.ref h0, .ref h2, .ref h10, .ref h4, .ref h8, .ref h9, .ref h5, .ref h6, .ref h3, .ref h1, .ref pg, .int (iI pb), .int (iI sb)])), (h4, .inr (4, [.ref k0])), (k0, .inl (T 1, 1152, .inl (fun j : Nat => iI (bI ((trF A k i) j)))))]) rfl rfl rfl rfl rfl rfl ?_
          refine j_ifneB h 44 dX11_turned_37 (by decide) (fun c6 => ?_) (fun c6 => ?_)
          · skip
            refine j_iconst h dX11_turned_44 ?_
            refine j_callVv (As := [.int (iI k), .int (iI i), .int (iI (bI false))]) (wr := [(h11, .inr (11, [.ref h0, .ref h2, .ref h10, .ref h4, .ref h8, .ref h9, .ref h5, .ref h6, .ref h3, .ref h1, .ref pg, .int (iI pb), .int (iI sb)]))]) (cells' := 0) (slots' := 0) h dX11_turned_45 (ct_X4_put T h4 k0 (trF A k i) k i false (by first | assumption | omega) (by first | assumption | omega)) k_X4_put gX11_turned_X4_put rfl rfl 1 rfl ⟨Nat.le_of_ble_eq_true rfl, Nat.le_of_ble_eq_true rfl⟩ rfl rfl (Nat.le_of_ble_eq_true rfl) ⟨Nat.le_of_ble_eq_true rfl, Nat.le_of_ble_eq_true rfl⟩ rfl rfl [1, 2] [0] rfl rfl rfl rfl (by decide) (fun u9 p7 => ?_)
            obtain rfl := p7
            refine j_eq (ws' := [(h11, .inr (11, [.ref h0, .ref h2, .ref h10, .ref h4, .ref h8, .ref h9, .ref h5, .ref h6, .ref h3, .ref h1, .ref pg, .int (iI pb), .int (iI sb)])), (h4, .inr (4, [.ref k0])), (k0, .inl (T 1, 1152, .inl (fun j : Nat => iI (bI ((upI (trF A k i) (144 * k + i) false) j)))))]) rfl rfl rfl rfl rfl rfl ?_
            refine j_iinc (lv' := [(0, .ref h11), (1, .int (iI k)), (2, .int (iI (i + 1)))]) h dX11_turned_48 2 [1, 2, 0] rfl (by decide) rfl ?_
            refine j_goto (tgt := 15) h dX11_turned_51 (by decide) ?_
            refine j_eq (ws' := [(h11, .inr (11, [.ref h0, .ref h2, .ref h10, .ref h4, .ref h8, .ref h9, .ref h5, .ref h6, .ref h3, .ref h1, .ref pg, .int (iI pb), .int (iI sb)])), (h4, .inr (4, [.ref k0])), (k0, .inl (T 1, 1152, .inl (fun j : Nat => iI (bI ((trF A k (i + 1)) j)))))]) rfl rfl rfl rfl rfl (by rw [trF_s (by omega) (by omega) (by rw [c6]; rfl)]) ?_
            exact ih15 (i + 1) (by first | assumption | omega) (by omega)
          · skip
            refine j_iconst h dX11_turned_40 ?_
            refine j_goto (tgt := 45) h dX11_turned_41 (by decide) ?_
            refine j_callVv (As := [.int (iI k), .int (iI i), .int (iI (bI true))]) (wr := [(h11, .inr (11, [.ref h0, .ref h2, .ref h10, .ref h4, .ref h8, .ref h9, .ref h5, .ref h6, .ref h3, .ref h1, .ref pg, .int (iI pb), .int (iI sb)]))]) (cells' := 0) (slots' := 0) h dX11_turned_45 (ct_X4_put T h4 k0 (trF A k i) k i true (by first | assumption | omega) (by first | assumption | omega)) k_X4_put gX11_turned_X4_put rfl rfl 1 rfl ⟨Nat.le_of_ble_eq_true rfl, Nat.le_of_ble_eq_true rfl⟩ rfl rfl (Nat.le_of_ble_eq_true rfl) ⟨Nat.le_of_ble_eq_true rfl, Nat.le_of_ble_eq_true rfl⟩ rfl rfl [1, 2] [0] rfl rfl rfl rfl (by decide) (fun u9 p8 => ?_)
            obtain rfl := p8
            refine j_eq (ws' := [(h11, .inr (11, [.ref h0, .ref h2, .ref h10, .ref h4, .ref h8, .ref h9, .ref h5, .ref h6, .ref h3, .ref h1, .ref pg, .int (iI pb), .int (iI sb)])), (h4, .inr (4, [.ref k0])), (k0, .inl (T 1, 1152, .inl (fun j : Nat => iI (bI ((upI (trF A k i) (144 * k + i) true) j)))))]) rfl rfl rfl rfl rfl rfl ?_
            refine j_iinc (lv' := [(0, .ref h11), (1, .int (iI k)), (2, .int (iI (i + 1)))]) h dX11_turned_48 2 [1, 2, 0] rfl (by decide) rfl ?_
            refine j_goto (tgt := 15) h dX11_turned_51 (by decide) ?_
            refine j_eq (ws' := [(h11, .inr (11, [.ref h0, .ref h2, .ref h10, .ref h4, .ref h8, .ref h9, .ref h5, .ref h6, .ref h3, .ref h1, .ref pg, .int (iI pb), .int (iI sb)])), (h4, .inr (4, [.ref k0])), (k0, .inl (T 1, 1152, .inl (fun j : Nat => iI (bI ((trF A k (i + 1)) j)))))]) rfl rfl rfl rfl rfl (by rw [trF_s (by omega) (by omega) (by rw [c6]; rfl)]) ?_
            exact ih15 (i + 1) (by first | assumption | omega) (by omega)
    refine j_eq (ws' := [(h11, .inr (11, [.ref h0, .ref h2, .ref h10, .ref h4, .ref h8, .ref h9, .ref h5, .ref h6, .ref h3, .ref h1, .ref pg, .int (iI pb), .int (iI sb)])), (h4, .inr (4, [.ref k0])), (k0, .inl (T 1, 1152, .inl (fun j : Nat => iI (bI ((trF A k 0) j)))))]) rfl rfl rfl rfl rfl (by rw [trF_0]) ?_
    exact lp15 _ 0 (by first | assumption | omega) (Nat.lt_succ_self _)
  · skip
    replace c2 := of_decide_eq_false c2
    refine j_bipush h dX11_turned_10 (by decide) ?_
    exact hr _ _ _ _ dX11_turned_12 ⟨(congrArg iI (show ((-101) : Int) = (turnedS A k).1 by unfold turnedS; (repeat (first | rw [if_pos (by omega)] | rw [if_neg (by omega)])) <;> (try (rw [show i = 144 by omega]; rfl)))), (show ([(h11, .inr (11, [.ref h0, .ref h2, .ref h10, .ref h4, .ref h8, .ref h9, .ref h5, .ref h6, .ref h3, .ref h1, .ref pg, .int (iI pb), .int (iI sb)])), (h4, .inr (4, [.ref k0])), (k0, .inl (T 1, 1152, .inl (fun j : Nat => iI (bI (A j)))))] : va_W) = [(h11, .inr (11, [.ref h0, .ref h2, .ref h10, .ref h4, .ref h8, .ref h9, .ref h5, .ref h6, .ref h3, .ref h1, .ref pg, .int (iI pb), .int (iI sb)])), (h4, .inr (4, [.ref k0])), (k0, .inl (T 1, 1152, .inl (fun j : Nat => iI (bI (((turnedS A k).2) j)))))] by unfold turnedS; (repeat (first | rw [if_pos (by omega)] | rw [if_neg (by omega)])) <;> (try (rw [show i = 144 by omega])))⟩

abbrev rmX11_feed : Room := { frames := 1, cells := 0, slots := 0, locals := 22 }
theorem in_X11_feed_X11 : ∀ w ∈ u_ws RX11 TX11 13, w ∈ wsX11_feed := fun w hw => List.mem_cons_of_mem _ (List.mem_append_left _ (List.mem_append_right _ (hw)))
theorem f_X11_feed_42 : FlOK RX11 42 wsX11_feed 11 4 := ⟨_, _, _, rfl, by decide, in_X11_feed_X11, List.mem_of_getElem? (i := 1) rfl⟩
theorem in_X11_feed_X8 : ∀ w ∈ u_ws RX8 TX8 2, w ∈ wsX11_feed := fun w hw => List.mem_cons_of_mem _ (List.mem_append_right _ (hw))
theorem f_X11_feed_118 : FnOK RX11 118 wsX11_feed 8 1 := ⟨_, _, _, "LayerShop", rfl, by decide, in_X11_feed_X8, List.mem_of_getElem? (i := 0) rfl⟩
theorem k_X8_append : CkOK yX8_append wsX8_append rmX8_append 0 0 cX8_append 3 none 1 := ⟨⟨_, rfl⟩, rfl, rfl, by decide +kernel⟩
set_option maxHeartbeats 600000 in
set_option maxRecDepth 100000 in
/-- feed -/
theorem ct_X11_feed (T : Nat → ClassId) (h11 : Nat) (h0 : Nat) (h2 : Nat) (h10 : Nat) (h4 : Nat) (h8 : Nat) (h9 : Nat) (h5 : Nat) (h6 : Nat) (h3 : Nat) (h1 : Nat) (pg : Nat) (pb : Int) (sb : Int) (b0 : Nat) (L : Int) (Tb : Int → Int) (a : Int) (b : Int) (c : Int) (d : Int) (e : Int) (hL : 0 ≤ L ∧ L ≤ 600) (ha : -2147483648 ≤ a ∧ a ≤ 2147483647) (hb : -2147483648 ≤ b ∧ b ≤ 2147483647) (hc : -2147483648 ≤ c ∧ c ≤ 2147483647) (hd : -2147483648 ≤ d ∧ d ≤ 2147483647) (he : -2147483648 ≤ e ∧ e ≤ 2147483647) : CtI T yX11_feed wsX11_feed rmX11_feed 0 0 [.ref h11, .int (iI a), .int (iI b), .int (iI c), .int (iI d), .int (iI e)] [(h11, .inr (11, [.ref h0, .ref h2, .ref h10, .ref h4, .ref h8, .ref h9, .ref h5, .ref h6, .ref h3, .ref h1, .ref pg, .int (iI pb), .int (iI sb)])), (h8, .inr (8, [.ref b0, .int (iI L)])), (b0, .inl (T 0, 600, .inl (fun j : Nat => iI (Tb j))))] (fun r8 u => r8 = (iI ((feedS Tb L a b c d e).1)) ∧ u = [(h11, .inr (11, [.ref h0, .ref h2, .ref h10, .ref h4, .ref h8, .ref h9, .ref h5, .ref h6, .ref h3, .ref h1, .ref pg, .int (iI pb), .int (iI sb)])), (h8, .inr (8, [.ref b0, .int (iI ((feedS Tb L a b c d e).2.2))])), (b0, .inl (T 0, 600, .inl (fun j : Nat => iI (((feedS Tb L a b c d e).2.1) j))))]) := by
  refine ctI_of (cc := cX11_feed) (maxL := 6) (ret := (some .int)) (by decide +kernel) rfl rfl (fun r u hp => by obtain ⟨rfl, -⟩ := hp; rfl) (Nat.le_of_ble_eq_true rfl) (fun X h hinit hr => ?_)
  refine j_eq (lv' := [(0, .ref h11), (1, .int (iI a)), (2, .int (iI b)), (3, .int (iI c)), (4, .int (iI d)), (5, .int (iI e))]) rfl rfl rfl rfl rfl rfl ?_
  refine j_aload_n h dX11_feed_0 0 rfl rfl ?_
  refine j_get h dX11_feed_1 f_X11_feed_42 0 rfl rfl ?_
  refine j_getN h dX11_feed_4 f_X11_feed_118 1 rfl rfl ?_
  refine j_bipush h dX11_feed_7 (by decide) ?_
  refine j_iadd h dX11_feed_9 ?_
  refine j_sipush h dX11_feed_10 (by decide) ?_
  refine j_icmp_le h 19 dX11_feed_13 (by decide) (by omega) (by omega) (fun c1 => ?_) (fun c1 => ?_)
  · skip
    refine j_aload_n h dX11_feed_19 0 rfl rfl ?_
    refine j_get h dX11_feed_20 f_X11_feed_42 0 rfl rfl ?_
    refine j_iload_n h dX11_feed_23 1 rfl rfl ?_
    refine j_callVv (As := [.int (iI a)]) (wr := [(h11, .inr (11, [.ref h0, .ref h2, .ref h10, .ref h4, .ref h8, .ref h9, .ref h5, .ref h6, .ref h3, .ref h1, .ref pg, .int (iI pb), .int (iI sb)]))]) (cells' := 0) (slots' := 0) h dX11_feed_24 (ct_X8_append T h8 b0 L Tb a (by first | assumption | omega) (by first | assumption | omega)) k_X8_append gX11_feed_X8_append rfl rfl 1 rfl ⟨Nat.le_of_ble_eq_true rfl, Nat.le_of_ble_eq_true rfl⟩ rfl rfl (Nat.le_of_ble_eq_true rfl) ⟨Nat.le_of_ble_eq_true rfl, Nat.le_of_ble_eq_true rfl⟩ rfl rfl [1, 2] [0] rfl rfl rfl rfl (by decide) (fun u9 p2 => ?_)
    obtain rfl := p2
    refine j_eq (ws' := [(h11, .inr (11, [.ref h0, .ref h2, .ref h10, .ref h4, .ref h8, .ref h9, .ref h5, .ref h6, .ref h3, .ref h1, .ref pg, .int (iI pb), .int (iI sb)])), (h8, .inr (8, [.ref b0, .int (iI (L + 4))])), (b0, .inl (T 0, 600, .inl (fun j : Nat => iI ((putB Tb L a) j))))]) rfl rfl rfl rfl rfl rfl ?_
    refine j_aload_n h dX11_feed_27 0 rfl rfl ?_
    refine j_get h dX11_feed_28 f_X11_feed_42 0 rfl rfl ?_
    refine j_iload_n h dX11_feed_31 2 rfl rfl ?_
    refine j_callVv (As := [.int (iI b)]) (wr := [(h11, .inr (11, [.ref h0, .ref h2, .ref h10, .ref h4, .ref h8, .ref h9, .ref h5, .ref h6, .ref h3, .ref h1, .ref pg, .int (iI pb), .int (iI sb)]))]) (cells' := 0) (slots' := 0) h dX11_feed_32 (ct_X8_append T h8 b0 (L + 4) (putB Tb L a) b (by first | assumption | omega) (by first | assumption | omega)) k_X8_append gX11_feed_X8_append rfl rfl 1 rfl ⟨Nat.le_of_ble_eq_true rfl, Nat.le_of_ble_eq_true rfl⟩ rfl rfl (Nat.le_of_ble_eq_true rfl) ⟨Nat.le_of_ble_eq_true rfl, Nat.le_of_ble_eq_true rfl⟩ rfl rfl [1, 2] [0] rfl rfl rfl rfl (by decide) (fun u9 p3 => ?_)
    obtain rfl := p3
    refine j_eq (ws' := [(h11, .inr (11, [.ref h0, .ref h2, .ref h10, .ref h4, .ref h8, .ref h9, .ref h5, .ref h6, .ref h3, .ref h1, .ref pg, .int (iI pb), .int (iI sb)])), (h8, .inr (8, [.ref b0, .int (iI ((L + 4) + 4))])), (b0, .inl (T 0, 600, .inl (fun j : Nat => iI ((putB (putB Tb L a) (L + 4) b) j))))]) rfl rfl rfl rfl rfl rfl ?_
    refine j_aload_n h dX11_feed_35 0 rfl rfl ?_
    refine j_get h dX11_feed_36 f_X11_feed_42 0 rfl rfl ?_
    refine j_iload_n h dX11_feed_39 3 rfl rfl ?_
    refine j_callVv (As := [.int (iI c)]) (wr := [(h11, .inr (11, [.ref h0, .ref h2, .ref h10, .ref h4, .ref h8, .ref h9, .ref h5, .ref h6, .ref h3, .ref h1, .ref pg, .int (iI pb), .int (iI sb)]))]) (cells' := 0) (slots' := 0) h dX11_feed_40 (ct_X8_append T h8 b0 ((L + 4) + 4) (putB (putB Tb L a) (L + 4) b) c (by first | assumption | omega) (by first | assumption | omega)) k_X8_append gX11_feed_X8_append rfl rfl 1 rfl ⟨Nat.le_of_ble_eq_true rfl, Nat.le_of_ble_eq_true rfl⟩ rfl rfl (Nat.le_of_ble_eq_true rfl) ⟨Nat.le_of_ble_eq_true rfl, Nat.le_of_ble_eq_true rfl⟩ rfl rfl [1, 2] [0] rfl rfl rfl rfl (by decide) (fun u9 p4 => ?_)
    obtain rfl := p4
    refine j_eq (ws' := [(h11, .inr (11, [.ref h0, .ref h2, .ref h10, .ref h4, .ref h8, .ref h9, .ref h5, .ref h6, .ref h3, .ref h1, .ref pg, .int (iI pb), .int (iI sb)])), (h8, .inr (8, [.ref b0, .int (iI (((L + 4) + 4) + 4))])), (b0, .inl (T 0, 600, .inl (fun j : Nat => iI ((putB (putB (putB Tb L a) (L + 4) b) ((L + 4) + 4) c) j))))]) rfl rfl rfl rfl rfl rfl ?_
    refine j_aload_n h dX11_feed_43 0 rfl rfl ?_
    refine j_get h dX11_feed_44 f_X11_feed_42 0 rfl rfl ?_
    refine j_iload h dX11_feed_47 4 rfl ?_
    refine j_callVv (As := [.int (iI d)]) (wr := [(h11, .inr (11, [.ref h0, .ref h2, .ref h10, .ref h4, .ref h8, .ref h9, .ref h5, .ref h6, .ref h3, .ref h1, .ref pg, .int (iI pb), .int (iI sb)]))]) (cells' := 0) (slots' := 0) h dX11_feed_49 (ct_X8_append T h8 b0 (((L + 4) + 4) + 4) (putB (putB (putB Tb L a) (L + 4) b) ((L + 4) + 4) c) d (by first | assumption | omega) (by first | assumption | omega)) k_X8_append gX11_feed_X8_append rfl rfl 1 rfl ⟨Nat.le_of_ble_eq_true rfl, Nat.le_of_ble_eq_true rfl⟩ rfl rfl (Nat.le_of_ble_eq_true rfl) ⟨Nat.le_of_ble_eq_true rfl, Nat.le_of_ble_eq_true rfl⟩ rfl rfl [1, 2] [0] rfl rfl rfl rfl (by decide) (fun u9 p5 => ?_)
    obtain rfl := p5
    refine j_eq (ws' := [(h11, .inr (11, [.ref h0, .ref h2, .ref h10, .ref h4, .ref h8, .ref h9, .ref h5, .ref h6, .ref h3, .ref h1, .ref pg, .int (iI pb), .int (iI sb)])), (h8, .inr (8, [.ref b0, .int (iI ((((L + 4) + 4) + 4) + 4))])), (b0, .inl (T 0, 600, .inl (fun j : Nat => iI ((putB (putB (putB (putB Tb L a) (L + 4) b) ((L + 4) + 4) c) (((L + 4) + 4) + 4) d) j))))]) rfl rfl rfl rfl rfl rfl ?_
    refine j_aload_n h dX11_feed_52 0 rfl rfl ?_
    refine j_get h dX11_feed_53 f_X11_feed_42 0 rfl rfl ?_
    refine j_iload h dX11_feed_56 5 rfl ?_
    refine j_callVv (As := [.int (iI e)]) (wr := [(h11, .inr (11, [.ref h0, .ref h2, .ref h10, .ref h4, .ref h8, .ref h9, .ref h5, .ref h6, .ref h3, .ref h1, .ref pg, .int (iI pb), .int (iI sb)]))]) (cells' := 0) (slots' := 0) h dX11_feed_58 (ct_X8_append T h8 b0 ((((L + 4) + 4) + 4) + 4) (putB (putB (putB (putB Tb L a) (L + 4) b) ((L + 4) + 4) c) (((L + 4) + 4) + 4) d) e (by first | assumption | omega) (by first | assumption | omega)) k_X8_append gX11_feed_X8_append rfl rfl 1 rfl ⟨Nat.le_of_ble_eq_true rfl, Nat.le_of_ble_eq_true rfl⟩ rfl rfl (Nat.le_of_ble_eq_true rfl) ⟨Nat.le_of_ble_eq_true rfl, Nat.le_of_ble_eq_true rfl⟩ rfl rfl [1, 2] [0] rfl rfl rfl rfl (by decide) (fun u9 p6 => ?_)
    obtain rfl := p6
    refine j_eq (ws' := [(h11, .inr (11, [.ref h0, .ref h2, .ref h10, .ref h4, .ref h8, .ref h9, .ref h5, .ref h6, .ref h3, .ref h1, .ref pg, .int (iI pb), .int (iI sb)])), (h8, .inr (8, [.ref b0, .int (iI (((((L + 4) + 4) + 4) + 4) + 4))])), (b0, .inl (T 0, 600, .inl (fun j : Nat => iI ((putB (putB (putB (putB (putB Tb L a) (L + 4) b) ((L + 4) + 4) c) (((L + 4) + 4) + 4) d) ((((L + 4) + 4) + 4) + 4) e) j))))]) rfl rfl rfl rfl rfl rfl ?_
    refine j_aload_n h dX11_feed_61 0 rfl rfl ?_
    refine j_get h dX11_feed_62 f_X11_feed_42 0 rfl rfl ?_
    refine j_getN h dX11_feed_65 f_X11_feed_118 1 rfl rfl ?_
    exact hr _ _ _ _ dX11_feed_68 ⟨(congrArg iI (show ((((((L + 4) + 4) + 4) + 4) + 4) : Int) = (feedS Tb L a b c d e).1 by unfold feedS; (repeat (first | rw [if_pos (by omega)] | rw [if_neg (by omega)])) <;> (try omega))), (show ([(h11, .inr (11, [.ref h0, .ref h2, .ref h10, .ref h4, .ref h8, .ref h9, .ref h5, .ref h6, .ref h3, .ref h1, .ref pg, .int (iI pb), .int (iI sb)])), (h8, .inr (8, [.ref b0, .int (iI (((((L + 4) + 4) + 4) + 4) + 4))])), (b0, .inl (T 0, 600, .inl (fun j : Nat => iI ((putB (putB (putB (putB (putB Tb L a) (L + 4) b) ((L + 4) + 4) c) (((L + 4) + 4) + 4) d) ((((L + 4) + 4) + 4) + 4) e) j))))] : va_W) = [(h11, .inr (11, [.ref h0, .ref h2, .ref h10, .ref h4, .ref h8, .ref h9, .ref h5, .ref h6, .ref h3, .ref h1, .ref pg, .int (iI pb), .int (iI sb)])), (h8, .inr (8, [.ref b0, .int (iI ((feedS Tb L a b c d e).2.2))])), (b0, .inl (T 0, 600, .inl (fun j : Nat => iI (((feedS Tb L a b c d e).2.1) j))))] by unfold feedS; first | rw [if_pos (by omega)] | (rw [if_neg (by omega)]; simp [Int.add_assoc]))⟩
  · skip
    refine j_bipush h dX11_feed_16 (by decide) ?_
    exact hr _ _ _ _ dX11_feed_18 ⟨(congrArg iI (show ((-104) : Int) = (feedS Tb L a b c d e).1 by unfold feedS; (repeat (first | rw [if_pos (by omega)] | rw [if_neg (by omega)])) <;> (try omega))), (show ([(h11, .inr (11, [.ref h0, .ref h2, .ref h10, .ref h4, .ref h8, .ref h9, .ref h5, .ref h6, .ref h3, .ref h1, .ref pg, .int (iI pb), .int (iI sb)])), (h8, .inr (8, [.ref b0, .int (iI L)])), (b0, .inl (T 0, 600, .inl (fun j : Nat => iI (Tb j))))] : va_W) = [(h11, .inr (11, [.ref h0, .ref h2, .ref h10, .ref h4, .ref h8, .ref h9, .ref h5, .ref h6, .ref h3, .ref h1, .ref pg, .int (iI pb), .int (iI sb)])), (h8, .inr (8, [.ref b0, .int (iI ((feedS Tb L a b c d e).2.2))])), (b0, .inl (T 0, 600, .inl (fun j : Nat => iI (((feedS Tb L a b c d e).2.1) j))))] by unfold feedS; first | rw [if_pos (by omega)] | (rw [if_neg (by omega)]; simp [Int.add_assoc]))⟩

abbrev rmX11_cut : Room := { frames := 1, cells := 0, slots := 0, locals := 22 }
theorem in_X11_cut_X11 : ∀ w ∈ u_ws RX11 TX11 13, w ∈ wsX11_cut := fun w hw => List.mem_cons_of_mem _ (List.mem_append_left _ (List.mem_append_right _ (hw)))
theorem f_X11_cut_42 : FlOK RX11 42 wsX11_cut 11 4 := ⟨_, _, _, rfl, by decide, in_X11_cut_X11, List.mem_of_getElem? (i := 1) rfl⟩
theorem in_X11_cut_X8 : ∀ w ∈ u_ws RX8 TX8 2, w ∈ wsX11_cut := fun w hw => List.mem_cons_of_mem _ (List.mem_append_right _ (hw))
theorem f_X11_cut_118 : FnOK RX11 118 wsX11_cut 8 1 := ⟨_, _, _, "LayerShop", rfl, by decide, in_X11_cut_X8, List.mem_of_getElem? (i := 0) rfl⟩
set_option maxHeartbeats 600000 in
set_option maxRecDepth 100000 in
/-- cut -/
theorem ct_X11_cut (T : Nat → ClassId) (h11 : Nat) (h0 : Nat) (h2 : Nat) (h10 : Nat) (h4 : Nat) (h8 : Nat) (h9 : Nat) (h5 : Nat) (h6 : Nat) (h3 : Nat) (h1 : Nat) (pg : Nat) (pb : Int) (sb : Int) (b0 : Nat) (L : Int) (n : Int) (hL : 0 ≤ L ∧ L ≤ 600) (hn : -2147483648 ≤ n ∧ n ≤ 2147483647) : CtI T yX11_cut wsX11_cut rmX11_cut 0 0 [.ref h11, .int (iI n)] [(h11, .inr (11, [.ref h0, .ref h2, .ref h10, .ref h4, .ref h8, .ref h9, .ref h5, .ref h6, .ref h3, .ref h1, .ref pg, .int (iI pb), .int (iI sb)])), (h8, .inr (8, [.ref b0, .int (iI L)]))] (fun r8 u => r8 = (iI ((cutR L n).1)) ∧ u = [(h11, .inr (11, [.ref h0, .ref h2, .ref h10, .ref h4, .ref h8, .ref h9, .ref h5, .ref h6, .ref h3, .ref h1, .ref pg, .int (iI pb), .int (iI sb)])), (h8, .inr (8, [.ref b0, .int (iI ((cutR L n).2))]))]) := by
  refine ctI_of (cc := cX11_cut) (maxL := 3) (ret := (some .int)) (by decide +kernel) rfl rfl (fun r u hp => by obtain ⟨rfl, -⟩ := hp; rfl) (Nat.le_of_ble_eq_true rfl) (fun X h hinit hr => ?_)
  refine j_eq (lv' := [(0, .ref h11), (1, .int (iI n))]) rfl rfl rfl rfl rfl rfl ?_
  refine j_iload_n h dX11_cut_0 1 rfl rfl ?_
  refine j_iconst h dX11_cut_1 ?_
  refine j_aload_n h dX11_cut_2 0 rfl rfl ?_
  refine j_get h dX11_cut_3 f_X11_cut_42 0 rfl rfl ?_
  refine j_getN h dX11_cut_6 f_X11_cut_118 1 rfl rfl ?_
  refine j_callSi (As := [.int (iI n), .int (iI 0), .int (iI L)]) (wr := [(h11, .inr (11, [.ref h0, .ref h2, .ref h10, .ref h4, .ref h8, .ref h9, .ref h5, .ref h6, .ref h3, .ref h1, .ref pg, .int (iI pb), .int (iI sb)])), (h8, .inr (8, [.ref b0, .int (iI L)]))]) (cells' := 0) (slots' := 0) h dX11_cut_9 (ct_X11_within T n 0 L (by first | assumption | omega) (by first | assumption | omega) (by first | assumption | omega)) k_X11_within gX11_cut_X11_within ⟨Nat.le_of_ble_eq_true rfl, Nat.le_of_ble_eq_true rfl⟩ rfl rfl (Nat.le_of_ble_eq_true rfl) ⟨Nat.le_of_ble_eq_true rfl, Nat.le_of_ble_eq_true rfl⟩ rfl rfl [] [0, 1] rfl rfl rfl rfl (by decide) (fun r9 u9 p1 => ?_)
  obtain ⟨rfl, rfl⟩ := p1
  refine j_eq (ws' := [(h11, .inr (11, [.ref h0, .ref h2, .ref h10, .ref h4, .ref h8, .ref h9, .ref h5, .ref h6, .ref h3, .ref h1, .ref pg, .int (iI pb), .int (iI sb)])), (h8, .inr (8, [.ref b0, .int (iI L)]))]) rfl rfl rfl rfl rfl rfl ?_
  refine j_ifneB h 18 dX11_cut_12 (by decide) (fun c2 => ?_) (fun c2 => ?_)
  · skip
    replace c2 := of_decide_eq_true c2
    refine j_aload_n h dX11_cut_18 0 rfl rfl ?_
    refine j_get h dX11_cut_19 f_X11_cut_42 0 rfl rfl ?_
    refine j_getN h dX11_cut_22 f_X11_cut_118 1 rfl rfl ?_
    refine j_iload_n h dX11_cut_25 1 rfl rfl ?_
    refine j_isub h dX11_cut_26 ?_
    refine j_istore_n (lv' := [(0, .ref h11), (1, .int (iI n)), (2, .int (iI (L - n)))]) h dX11_cut_27 [1, 2, 0] rfl (by decide) rfl ?_
    refine j_aload_n h dX11_cut_28 0 rfl rfl ?_
    refine j_get h dX11_cut_29 f_X11_cut_42 0 rfl rfl ?_
    refine j_iload_n h dX11_cut_32 1 rfl rfl ?_
    refine j_putN (ws' := [(h11, .inr (11, [.ref h0, .ref h2, .ref h10, .ref h4, .ref h8, .ref h9, .ref h5, .ref h6, .ref h3, .ref h1, .ref pg, .int (iI pb), .int (iI sb)])), (h8, .inr (8, [.ref b0, .int (iI n)]))]) h dX11_cut_33 f_X11_cut_118 p_X8_1 1 rfl rfl rfl (Nat.le_of_ble_eq_true rfl) rfl ?_
    refine j_iload_n h dX11_cut_36 2 rfl rfl ?_
    exact hr _ _ _ _ dX11_cut_37 ⟨(congrArg iI (show ((L - n) : Int) = (cutR L n).1 by unfold cutR; (repeat (first | rw [if_pos (by omega)] | rw [if_neg (by omega)])))), (show ([(h11, .inr (11, [.ref h0, .ref h2, .ref h10, .ref h4, .ref h8, .ref h9, .ref h5, .ref h6, .ref h3, .ref h1, .ref pg, .int (iI pb), .int (iI sb)])), (h8, .inr (8, [.ref b0, .int (iI n)]))] : va_W) = [(h11, .inr (11, [.ref h0, .ref h2, .ref h10, .ref h4, .ref h8, .ref h9, .ref h5, .ref h6, .ref h3, .ref h1, .ref pg, .int (iI pb), .int (iI sb)])), (h8, .inr (8, [.ref b0, .int (iI ((cutR L n).2))]))] by unfold cutR; (repeat (first | rw [if_pos (by omega)] | rw [if_neg (by omega)])))⟩
  · skip
    replace c2 := of_decide_eq_false c2
    refine j_bipush h dX11_cut_15 (by decide) ?_
    exact hr _ _ _ _ dX11_cut_17 ⟨(congrArg iI (show ((-102) : Int) = (cutR L n).1 by unfold cutR; (repeat (first | rw [if_pos (by omega)] | rw [if_neg (by omega)])))), (show ([(h11, .inr (11, [.ref h0, .ref h2, .ref h10, .ref h4, .ref h8, .ref h9, .ref h5, .ref h6, .ref h3, .ref h1, .ref pg, .int (iI pb), .int (iI sb)])), (h8, .inr (8, [.ref b0, .int (iI L)]))] : va_W) = [(h11, .inr (11, [.ref h0, .ref h2, .ref h10, .ref h4, .ref h8, .ref h9, .ref h5, .ref h6, .ref h3, .ref h1, .ref pg, .int (iI pb), .int (iI sb)])), (h8, .inr (8, [.ref b0, .int (iI ((cutR L n).2))]))] by unfold cutR; (repeat (first | rw [if_pos (by omega)] | rw [if_neg (by omega)])))⟩

abbrev rmX11_place : Room := { frames := 0, cells := 0, slots := 0, locals := 0 }
theorem in_X11_place_X11 : ∀ w ∈ u_ws RX11 TX11 13, w ∈ wsX11_place := fun w hw => List.mem_cons_of_mem _ (List.mem_append_right _ (hw))
theorem f_X11_place_95 : FlOK RX11 95 wsX11_place 11 12 := ⟨_, _, _, rfl, by decide, in_X11_place_X11, List.mem_of_getElem? (i := 1) rfl⟩
set_option maxHeartbeats 600000 in
set_option maxRecDepth 100000 in
/-- place -/
theorem ct_X11_place (T : Nat → ClassId) (h11 : Nat) (h0 : Nat) (h2 : Nat) (h10 : Nat) (h4 : Nat) (h8 : Nat) (h9 : Nat) (h5 : Nat) (h6 : Nat) (h3 : Nat) (h1 : Nat) (pg : Nat) (pb : Int) (sb : Int)  : CtI T yX11_place wsX11_place rmX11_place 0 0 [.ref h11] [(h11, .inr (11, [.ref h0, .ref h2, .ref h10, .ref h4, .ref h8, .ref h9, .ref h5, .ref h6, .ref h3, .ref h1, .ref pg, .int (iI pb), .int (iI sb)]))] (fun r8 u => r8 = (iI sb) ∧ u = [(h11, .inr (11, [.ref h0, .ref h2, .ref h10, .ref h4, .ref h8, .ref h9, .ref h5, .ref h6, .ref h3, .ref h1, .ref pg, .int (iI pb), .int (iI sb)]))]) := by
  refine ctI_of (cc := cX11_place) (maxL := 1) (ret := (some .int)) (by decide +kernel) rfl rfl (fun r u hp => by obtain ⟨rfl, -⟩ := hp; rfl) (Nat.le_of_ble_eq_true rfl) (fun X h hinit hr => ?_)
  refine j_eq (lv' := [(0, .ref h11)]) rfl rfl rfl rfl rfl rfl ?_
  refine j_aload_n h dX11_place_0 0 rfl rfl ?_
  refine j_get h dX11_place_1 f_X11_place_95 0 rfl rfl ?_
  exact hr _ _ _ _ dX11_place_4 ⟨rfl, rfl⟩

abbrev rmX11_at : Room := { frames := 2, cells := 0, slots := 0, locals := 42 }
theorem k_X11_isHeight : CkOK yX11_isHeight wsX11_isHeight rmX11_isHeight 0 0 cX11_isHeight 1 (some .boolean) 1 := ⟨⟨_, rfl⟩, rfl, rfl, by decide +kernel⟩
theorem in_X11_at_X11 : ∀ w ∈ u_ws RX11 TX11 13, w ∈ wsX11_at := fun w hw => List.mem_cons_of_mem _ (List.mem_append_left _ (List.mem_append_right _ (hw)))
theorem f_X11_at_12 : FlOK RX11 12 wsX11_at 11 0 := ⟨_, _, _, rfl, by decide, in_X11_at_X11, List.mem_of_getElem? (i := 1) rfl⟩
theorem in_X11_at_X0 : ∀ w ∈ u_ws RX0 TX0 1, w ∈ wsX11_at := fun w hw => List.mem_cons_of_mem _ (List.mem_append_right _ (hw))
theorem f_X11_at_132 : FnOK RX11 132 wsX11_at 0 0 := ⟨_, _, _, "LayerShop", rfl, by decide, in_X11_at_X0, List.mem_of_getElem? (i := 2) rfl⟩
set_option maxHeartbeats 600000 in
set_option maxRecDepth 100000 in
/-- at -/
theorem ct_X11_at (T : Nat → ClassId) (h11 : Nat) (h0 : Nat) (h2 : Nat) (h10 : Nat) (h4 : Nat) (h8 : Nat) (h9 : Nat) (h5 : Nat) (h6 : Nat) (h3 : Nat) (h1 : Nat) (pg : Nat) (pb : Int) (sb : Int) (c0 : Nat) (B : Int → Int) (p : Int) (z : Int) (hB : BOK B) (hp : -2147483648 ≤ p ∧ p ≤ 2147483647) (hz : -2147483648 ≤ z ∧ z ≤ 2147483647) : CtI T yX11_at wsX11_at rmX11_at 0 0 [.ref h11, .int (iI p), .int (iI z)] [(h11, .inr (11, [.ref h0, .ref h2, .ref h10, .ref h4, .ref h8, .ref h9, .ref h5, .ref h6, .ref h3, .ref h1, .ref pg, .int (iI pb), .int (iI sb)])), (h0, .inr (0, [.ref c0])), (c0, .inl (T 0, 2880, .inl (fun j : Nat => iI (B j))))] (fun r8 u => r8 = (iI (atR B p z)) ∧ u = [(h11, .inr (11, [.ref h0, .ref h2, .ref h10, .ref h4, .ref h8, .ref h9, .ref h5, .ref h6, .ref h3, .ref h1, .ref pg, .int (iI pb), .int (iI sb)])), (h0, .inr (0, [.ref c0])), (c0, .inl (T 0, 2880, .inl (fun j : Nat => iI (B j))))]) := by
  refine ctI_of (cc := cX11_at) (maxL := 3) (ret := (some .int)) (by decide +kernel) rfl rfl (fun r u hp => by obtain ⟨rfl, -⟩ := hp; rfl) (Nat.le_of_ble_eq_true rfl) (fun X h hinit hr => ?_)
  refine j_eq (lv' := [(0, .ref h11), (1, .int (iI p)), (2, .int (iI z))]) rfl rfl rfl rfl rfl rfl ?_
  refine j_iload_n h dX11_at_0 1 rfl rfl ?_
  refine j_callSi (As := [.int (iI p)]) (wr := [(h11, .inr (11, [.ref h0, .ref h2, .ref h10, .ref h4, .ref h8, .ref h9, .ref h5, .ref h6, .ref h3, .ref h1, .ref pg, .int (iI pb), .int (iI sb)])), (h0, .inr (0, [.ref c0])), (c0, .inl (T 0, 2880, .inl (fun j : Nat => iI (B j))))]) (cells' := 0) (slots' := 0) h dX11_at_1 (ct_X11_isPlace T p (by first | assumption | omega)) k_X11_isPlace gX11_at_X11_isPlace ⟨Nat.le_of_ble_eq_true rfl, Nat.le_of_ble_eq_true rfl⟩ rfl rfl (Nat.le_of_ble_eq_true rfl) ⟨Nat.le_of_ble_eq_true rfl, Nat.le_of_ble_eq_true rfl⟩ rfl rfl [] [0, 1, 2] rfl rfl rfl rfl (by decide) (fun r9 u9 p1 => ?_)
  obtain ⟨rfl, rfl⟩ := p1
  refine j_eq (ws' := [(h11, .inr (11, [.ref h0, .ref h2, .ref h10, .ref h4, .ref h8, .ref h9, .ref h5, .ref h6, .ref h3, .ref h1, .ref pg, .int (iI pb), .int (iI sb)])), (h0, .inr (0, [.ref c0])), (c0, .inl (T 0, 2880, .inl (fun j : Nat => iI (B j))))]) rfl rfl rfl rfl rfl rfl ?_
  refine j_ifeqB h 14 dX11_at_4 (by decide) (fun c2 => ?_) (fun c2 => ?_)
  · skip
    replace c2 := of_decide_eq_false c2
    refine j_bipush h dX11_at_14 (by decide) ?_
    exact hr _ _ _ _ dX11_at_16 ⟨(congrArg iI (show ((-101) : Int) = (atR B p z) by unfold atR; (repeat (first | rw [if_pos (by omega)] | rw [if_neg (by omega)])))), rfl⟩
  · skip
    replace c2 := of_decide_eq_true c2
    refine j_iload_n h dX11_at_7 2 rfl rfl ?_
    refine j_callSi (As := [.int (iI z)]) (wr := [(h11, .inr (11, [.ref h0, .ref h2, .ref h10, .ref h4, .ref h8, .ref h9, .ref h5, .ref h6, .ref h3, .ref h1, .ref pg, .int (iI pb), .int (iI sb)])), (h0, .inr (0, [.ref c0])), (c0, .inl (T 0, 2880, .inl (fun j : Nat => iI (B j))))]) (cells' := 0) (slots' := 0) h dX11_at_8 (ct_X11_isHeight T z (by first | assumption | omega)) k_X11_isHeight gX11_at_X11_isHeight ⟨Nat.le_of_ble_eq_true rfl, Nat.le_of_ble_eq_true rfl⟩ rfl rfl (Nat.le_of_ble_eq_true rfl) ⟨Nat.le_of_ble_eq_true rfl, Nat.le_of_ble_eq_true rfl⟩ rfl rfl [] [0, 1, 2] rfl rfl rfl rfl (by decide) (fun r9 u9 p3 => ?_)
    obtain ⟨rfl, rfl⟩ := p3
    refine j_eq (ws' := [(h11, .inr (11, [.ref h0, .ref h2, .ref h10, .ref h4, .ref h8, .ref h9, .ref h5, .ref h6, .ref h3, .ref h1, .ref pg, .int (iI pb), .int (iI sb)])), (h0, .inr (0, [.ref c0])), (c0, .inl (T 0, 2880, .inl (fun j : Nat => iI (B j))))]) rfl rfl rfl rfl rfl rfl ?_
    refine j_ifneB h 17 dX11_at_11 (by decide) (fun c4 => ?_) (fun c4 => ?_)
    · skip
      replace c4 := of_decide_eq_true c4
      refine j_aload_n h dX11_at_17 0 rfl rfl ?_
      refine j_get h dX11_at_18 f_X11_at_12 0 rfl rfl ?_
      refine j_getN h dX11_at_21 f_X11_at_132 1 rfl rfl ?_
      refine j_iload_n h dX11_at_24 2 rfl rfl ?_
      refine j_sipush h dX11_at_25 (by decide) ?_
      refine j_imul h dX11_at_28 ?_
      refine j_iload_n h dX11_at_29 1 rfl rfl ?_
      refine j_iadd h dX11_at_30 ?_
      refine j_iald (f := B) h (144 * z + p) dX11_at_31 2 rfl (by decide) (by omega) (by omega) ?_
      have e5 := hB (144 * z + p)
      exact hr _ _ _ _ dX11_at_32 ⟨(congrArg iI (show ((B (144 * z + p)) : Int) = (atR B p z) by unfold atR; (repeat (first | rw [if_pos (by omega)] | rw [if_neg (by omega)])))), rfl⟩
    · skip
      replace c4 := of_decide_eq_false c4
      refine j_bipush h dX11_at_14 (by decide) ?_
      exact hr _ _ _ _ dX11_at_16 ⟨(congrArg iI (show ((-101) : Int) = (atR B p z) by unfold atR; (repeat (first | rw [if_pos (by omega)] | rw [if_neg (by omega)])))), rfl⟩

abbrev rmX11_top : Room := { frames := 2, cells := 0, slots := 0, locals := 42 }
theorem in_X11_top_X11 : ∀ w ∈ u_ws RX11 TX11 13, w ∈ wsX11_top := fun w hw => List.mem_cons_of_mem _ (List.mem_append_left _ (List.mem_append_right _ (hw)))
theorem f_X11_top_12 : FlOK RX11 12 wsX11_top 11 0 := ⟨_, _, _, rfl, by decide, in_X11_top_X11, List.mem_of_getElem? (i := 1) rfl⟩
set_option maxHeartbeats 600000 in
set_option maxRecDepth 100000 in
/-- top -/
theorem ct_X11_top (T : Nat → ClassId) (h11 : Nat) (h0 : Nat) (h2 : Nat) (h10 : Nat) (h4 : Nat) (h8 : Nat) (h9 : Nat) (h5 : Nat) (h6 : Nat) (h3 : Nat) (h1 : Nat) (pg : Nat) (pb : Int) (sb : Int) (c0 : Nat) (B : Int → Int) (p : Int) (hB : BOK B) (hp : -2147483648 ≤ p ∧ p ≤ 2147483647) : CtI T yX11_top wsX11_top rmX11_top 0 0 [.ref h11, .int (iI p)] [(h11, .inr (11, [.ref h0, .ref h2, .ref h10, .ref h4, .ref h8, .ref h9, .ref h5, .ref h6, .ref h3, .ref h1, .ref pg, .int (iI pb), .int (iI sb)])), (h0, .inr (0, [.ref c0])), (c0, .inl (T 0, 2880, .inl (fun j : Nat => iI (B j))))] (fun r8 u => r8 = (iI (topR B p)) ∧ u = [(h11, .inr (11, [.ref h0, .ref h2, .ref h10, .ref h4, .ref h8, .ref h9, .ref h5, .ref h6, .ref h3, .ref h1, .ref pg, .int (iI pb), .int (iI sb)])), (h0, .inr (0, [.ref c0])), (c0, .inl (T 0, 2880, .inl (fun j : Nat => iI (B j))))]) := by
  refine ctI_of (cc := cX11_top) (maxL := 2) (ret := (some .int)) (by decide +kernel) rfl rfl (fun r u hp => by obtain ⟨rfl, -⟩ := hp; rfl) (Nat.le_of_ble_eq_true rfl) (fun X h hinit hr => ?_)
  refine j_eq (lv' := [(0, .ref h11), (1, .int (iI p))]) rfl rfl rfl rfl rfl rfl ?_
  refine j_iload_n h dX11_top_0 1 rfl rfl ?_
  refine j_callSi (As := [.int (iI p)]) (wr := [(h11, .inr (11, [.ref h0, .ref h2, .ref h10, .ref h4, .ref h8, .ref h9, .ref h5, .ref h6, .ref h3, .ref h1, .ref pg, .int (iI pb), .int (iI sb)])), (h0, .inr (0, [.ref c0])), (c0, .inl (T 0, 2880, .inl (fun j : Nat => iI (B j))))]) (cells' := 0) (slots' := 0) h dX11_top_1 (ct_X11_isPlace T p (by first | assumption | omega)) k_X11_isPlace gX11_top_X11_isPlace ⟨Nat.le_of_ble_eq_true rfl, Nat.le_of_ble_eq_true rfl⟩ rfl rfl (Nat.le_of_ble_eq_true rfl) ⟨Nat.le_of_ble_eq_true rfl, Nat.le_of_ble_eq_true rfl⟩ rfl rfl [] [0, 1, 2] rfl rfl rfl rfl (by decide) (fun r9 u9 p1 => ?_)
  obtain ⟨rfl, rfl⟩ := p1
  refine j_eq (ws' := [(h11, .inr (11, [.ref h0, .ref h2, .ref h10, .ref h4, .ref h8, .ref h9, .ref h5, .ref h6, .ref h3, .ref h1, .ref pg, .int (iI pb), .int (iI sb)])), (h0, .inr (0, [.ref c0])), (c0, .inl (T 0, 2880, .inl (fun j : Nat => iI (B j))))]) rfl rfl rfl rfl rfl rfl ?_
  refine j_ifeqB h 18 dX11_top_4 (by decide) (fun c2 => ?_) (fun c2 => ?_)
  · skip
    replace c2 := of_decide_eq_false c2
    refine j_bipush h dX11_top_18 (by decide) ?_
    exact hr _ _ _ _ dX11_top_20 ⟨(congrArg iI (show ((-101) : Int) = (topR B p) by unfold topR; (repeat (first | rw [if_pos (by omega)] | rw [if_neg (by omega)])))), rfl⟩
  · skip
    replace c2 := of_decide_eq_true c2
    refine j_aload_n h dX11_top_7 0 rfl rfl ?_
    refine j_get h dX11_top_8 f_X11_top_12 0 rfl rfl ?_
    refine j_iload_n h dX11_top_11 1 rfl rfl ?_
    refine j_callVi (As := [.int (iI p)]) (wr := [(h11, .inr (11, [.ref h0, .ref h2, .ref h10, .ref h4, .ref h8, .ref h9, .ref h5, .ref h6, .ref h3, .ref h1, .ref pg, .int (iI pb), .int (iI sb)]))]) (cells' := 0) (slots' := 0) h dX11_top_12 (ct_X0_highest T h0 c0 B p (by first | assumption | omega) (by first | assumption | omega)) k_X0_highest gX11_top_X0_highest rfl rfl 1 rfl ⟨Nat.le_of_ble_eq_true rfl, Nat.le_of_ble_eq_true rfl⟩ rfl rfl (Nat.le_of_ble_eq_true rfl) ⟨Nat.le_of_ble_eq_true rfl, Nat.le_of_ble_eq_true rfl⟩ rfl rfl [1, 2] [0] rfl rfl rfl rfl (by decide) (fun r9 u9 p3 => ?_)
    obtain ⟨rfl, rfl⟩ := p3
    have hz9 := topS_rng B p
    refine j_eq (ws' := [(h11, .inr (11, [.ref h0, .ref h2, .ref h10, .ref h4, .ref h8, .ref h9, .ref h5, .ref h6, .ref h3, .ref h1, .ref pg, .int (iI pb), .int (iI sb)])), (h0, .inr (0, [.ref c0])), (c0, .inl (T 0, 2880, .inl (fun j : Nat => iI (B j))))]) rfl rfl rfl rfl rfl rfl ?_
    refine j_goto (tgt := 20) h dX11_top_15 (by decide) ?_
    exact hr _ _ _ _ dX11_top_20 ⟨(congrArg iI (show (topS B p : Int) = (topR B p) by unfold topR; (repeat (first | rw [if_pos (by omega)] | rw [if_neg (by omega)])))), rfl⟩

abbrev rmX11_span : Room := { frames := 2, cells := 0, slots := 0, locals := 47 }
theorem in_X11_span_X11 : ∀ w ∈ u_ws RX11 TX11 13, w ∈ wsX11_span := fun w hw => List.mem_cons_of_mem _ (List.mem_append_left _ (List.mem_append_right _ (hw)))
theorem f_X11_span_12 : FlOK RX11 12 wsX11_span 11 0 := ⟨_, _, _, rfl, by decide, in_X11_span_X11, List.mem_of_getElem? (i := 1) rfl⟩
theorem k_X0_lowOfSpan : CkOK yX0_lowOfSpan wsX0_lowOfSpan rmX0_lowOfSpan 0 0 cX0_lowOfSpan 6 (some .int) 2 := ⟨⟨_, rfl⟩, rfl, rfl, by decide +kernel⟩
theorem in_X11_span_X0 : ∀ w ∈ u_ws RX0 TX0 1, w ∈ wsX11_span := fun w hw => List.mem_cons_of_mem _ (List.mem_append_right _ (hw))
theorem f_X11_span_132 : FnOK RX11 132 wsX11_span 0 0 := ⟨_, _, _, "LayerShop", rfl, by decide, in_X11_span_X0, List.mem_of_getElem? (i := 2) rfl⟩
theorem k_X0_countSpans : CkOK yX0_countSpans wsX0_countSpans rmX0_countSpans 0 0 cX0_countSpans 5 (some .int) 1 := ⟨⟨_, rfl⟩, rfl, rfl, by decide +kernel⟩
set_option maxHeartbeats 600000 in
set_option maxRecDepth 100000 in
/-- span -/
theorem ct_X11_span (T : Nat → ClassId) (h11 : Nat) (h0 : Nat) (h2 : Nat) (h10 : Nat) (h4 : Nat) (h8 : Nat) (h9 : Nat) (h5 : Nat) (h6 : Nat) (h3 : Nat) (h1 : Nat) (pg : Nat) (pb : Int) (sb : Int) (c0 : Nat) (B : Int → Int) (p : Int) (i : Int) (w : Int) (hB : BOK B) (hp : -2147483648 ≤ p ∧ p ≤ 2147483647) (hi : -2147483648 ≤ i ∧ i ≤ 2147483647) (hw : -2147483648 ≤ w ∧ w ≤ 2147483647) : CtI T yX11_span wsX11_span rmX11_span 0 0 [.ref h11, .int (iI p), .int (iI i), .int (iI w)] [(h11, .inr (11, [.ref h0, .ref h2, .ref h10, .ref h4, .ref h8, .ref h9, .ref h5, .ref h6, .ref h3, .ref h1, .ref pg, .int (iI pb), .int (iI sb)])), (h0, .inr (0, [.ref c0])), (c0, .inl (T 0, 2880, .inl (fun j : Nat => iI (B j))))] (fun r8 u => r8 = (iI (spanR B p i w)) ∧ u = [(h11, .inr (11, [.ref h0, .ref h2, .ref h10, .ref h4, .ref h8, .ref h9, .ref h5, .ref h6, .ref h3, .ref h1, .ref pg, .int (iI pb), .int (iI sb)])), (h0, .inr (0, [.ref c0])), (c0, .inl (T 0, 2880, .inl (fun j : Nat => iI (B j))))]) := by
  refine ctI_of (cc := cX11_span) (maxL := 5) (ret := (some .int)) (by decide +kernel) rfl rfl (fun r u hp => by obtain ⟨rfl, -⟩ := hp; rfl) (Nat.le_of_ble_eq_true rfl) (fun X h hinit hr => ?_)
  refine j_eq (lv' := [(0, .ref h11), (1, .int (iI p)), (2, .int (iI i)), (3, .int (iI w))]) rfl rfl rfl rfl rfl rfl ?_
  refine j_iload_n h dX11_span_0 1 rfl rfl ?_
  refine j_callSi (As := [.int (iI p)]) (wr := [(h11, .inr (11, [.ref h0, .ref h2, .ref h10, .ref h4, .ref h8, .ref h9, .ref h5, .ref h6, .ref h3, .ref h1, .ref pg, .int (iI pb), .int (iI sb)])), (h0, .inr (0, [.ref c0])), (c0, .inl (T 0, 2880, .inl (fun j : Nat => iI (B j))))]) (cells' := 0) (slots' := 0) h dX11_span_1 (ct_X11_isPlace T p (by first | assumption | omega)) k_X11_isPlace gX11_span_X11_isPlace ⟨Nat.le_of_ble_eq_true rfl, Nat.le_of_ble_eq_true rfl⟩ rfl rfl (Nat.le_of_ble_eq_true rfl) ⟨Nat.le_of_ble_eq_true rfl, Nat.le_of_ble_eq_true rfl⟩ rfl rfl [] [0, 1, 2] rfl rfl rfl rfl (by decide) (fun r9 u9 p1 => ?_)
  obtain ⟨rfl, rfl⟩ := p1
  refine j_eq (ws' := [(h11, .inr (11, [.ref h0, .ref h2, .ref h10, .ref h4, .ref h8, .ref h9, .ref h5, .ref h6, .ref h3, .ref h1, .ref pg, .int (iI pb), .int (iI sb)])), (h0, .inr (0, [.ref c0])), (c0, .inl (T 0, 2880, .inl (fun j : Nat => iI (B j))))]) rfl rfl rfl rfl rfl rfl ?_
  refine j_ifneB h 10 dX11_span_4 (by decide) (fun c2 => ?_) (fun c2 => ?_)
  · skip
    replace c2 := of_decide_eq_true c2
    refine j_iload_n h dX11_span_10 2 rfl rfl ?_
    refine j_iconst h dX11_span_11 ?_
    refine j_icmp_ne h 24 dX11_span_12 (by decide) (by omega) (by omega) (fun c3 => ?_) (fun c3 => ?_)
    · skip
      refine j_aload_n h dX11_span_24 0 rfl rfl ?_
      refine j_get h dX11_span_25 f_X11_span_12 0 rfl rfl ?_
      refine j_iload_n h dX11_span_28 1 rfl rfl ?_
      refine j_iload_n h dX11_span_29 2 rfl rfl ?_
      refine j_callVi (As := [.int (iI p), .int (iI i)]) (wr := [(h11, .inr (11, [.ref h0, .ref h2, .ref h10, .ref h4, .ref h8, .ref h9, .ref h5, .ref h6, .ref h3, .ref h1, .ref pg, .int (iI pb), .int (iI sb)]))]) (cells' := 0) (slots' := 0) h dX11_span_30 (ct_X0_lowOfSpan T h0 c0 B p i (by first | assumption | omega) (by first | assumption | omega) (by first | assumption | omega)) k_X0_lowOfSpan gX11_span_X0_lowOfSpan rfl rfl 1 rfl ⟨Nat.le_of_ble_eq_true rfl, Nat.le_of_ble_eq_true rfl⟩ rfl rfl (Nat.le_of_ble_eq_true rfl) ⟨Nat.le_of_ble_eq_true rfl, Nat.le_of_ble_eq_true rfl⟩ rfl rfl [1, 2] [0] rfl rfl rfl rfl (by decide) (fun r9 u9 p4 => ?_)
      obtain ⟨rfl, rfl⟩ := p4
      have hl9 := lowS_rng B p i
      refine j_eq (ws' := [(h11, .inr (11, [.ref h0, .ref h2, .ref h10, .ref h4, .ref h8, .ref h9, .ref h5, .ref h6, .ref h3, .ref h1, .ref pg, .int (iI pb), .int (iI sb)])), (h0, .inr (0, [.ref c0])), (c0, .inl (T 0, 2880, .inl (fun j : Nat => iI (B j))))]) rfl rfl rfl rfl rfl rfl ?_
      refine j_istore (lv' := [(0, .ref h11), (1, .int (iI p)), (2, .int (iI i)), (3, .int (iI w)), (4, .int (iI (lowS B p i)))]) h dX11_span_33 [1, 2, 3, 4, 0] (by decide) rfl ?_
      refine j_iload h dX11_span_35 4 rfl ?_
      refine j_iconst h dX11_span_37 ?_
      refine j_icmp_ne h 44 dX11_span_38 (by decide) (by omega) (by omega) (fun c5 => ?_) (fun c5 => ?_)
      · skip
        refine j_iload_n h dX11_span_44 3 rfl rfl ?_
        rcases (show w = 0 ∨ w = 1 ∨ w = 2 ∨ (w < 0 ∨ 2 < w) by omega) with c6 | c6 | c6 | c6
        · skip
          refine j_tabIn h 72 dX11_span_45 (by omega) (by omega) (by omega) (by rw [c6]; rfl) (by decide) ?_
          refine j_aload_n h dX11_span_72 0 rfl rfl ?_
          refine j_get h dX11_span_73 f_X11_span_12 0 rfl rfl ?_
          refine j_getN h dX11_span_76 f_X11_span_132 1 rfl rfl ?_
          refine j_iload h dX11_span_79 4 rfl ?_
          refine j_sipush h dX11_span_81 (by decide) ?_
          refine j_imul h dX11_span_84 ?_
          refine j_iload_n h dX11_span_85 1 rfl rfl ?_
          refine j_iadd h dX11_span_86 ?_
          refine j_iald (f := B) h (144 * (lowS B p i) + p) dX11_span_87 2 rfl (by decide) (by omega) (by omega) ?_
          have e7 := hB (144 * (lowS B p i) + p)
          exact hr _ _ _ _ dX11_span_88 ⟨(congrArg iI (show ((B (144 * (lowS B p i) + p)) : Int) = (spanR B p i w) by unfold spanR; (repeat (first | rw [if_pos (by omega)] | rw [if_neg (by omega)])))), rfl⟩
        · skip
          refine j_tabIn h 89 dX11_span_45 (by omega) (by omega) (by omega) (by rw [c6]; rfl) (by decide) ?_
          refine j_aload_n h dX11_span_89 0 rfl rfl ?_
          refine j_get h dX11_span_90 f_X11_span_12 0 rfl rfl ?_
          refine j_iload_n h dX11_span_93 1 rfl rfl ?_
          refine j_iload h dX11_span_94 4 rfl ?_
          refine j_callVi (As := [.int (iI p), .int (iI (lowS B p i))]) (wr := [(h11, .inr (11, [.ref h0, .ref h2, .ref h10, .ref h4, .ref h8, .ref h9, .ref h5, .ref h6, .ref h3, .ref h1, .ref pg, .int (iI pb), .int (iI sb)]))]) (cells' := 0) (slots' := 0) h dX11_span_96 (ct_X0_endOfSpan T h0 c0 B p (lowS B p i) (by first | assumption | omega) (by first | assumption | omega) (by first | assumption | omega)) k_X0_endOfSpan gX11_span_X0_endOfSpan rfl rfl 1 rfl ⟨Nat.le_of_ble_eq_true rfl, Nat.le_of_ble_eq_true rfl⟩ rfl rfl (Nat.le_of_ble_eq_true rfl) ⟨Nat.le_of_ble_eq_true rfl, Nat.le_of_ble_eq_true rfl⟩ rfl rfl [1, 2] [0] rfl rfl rfl rfl (by decide) (fun r9 u9 p8 => ?_)
          obtain ⟨rfl, rfl⟩ := p8
          have he9 := @endS_rng B p (lowS B p i) (by omega)
          refine j_eq (ws' := [(h11, .inr (11, [.ref h0, .ref h2, .ref h10, .ref h4, .ref h8, .ref h9, .ref h5, .ref h6, .ref h3, .ref h1, .ref pg, .int (iI pb), .int (iI sb)])), (h0, .inr (0, [.ref c0])), (c0, .inl (T 0, 2880, .inl (fun j : Nat => iI (B j))))]) rfl rfl rfl rfl rfl rfl ?_
          refine j_iload h dX11_span_99 4 rfl ?_
          refine j_isub h dX11_span_101 ?_
          exact hr _ _ _ _ dX11_span_102 ⟨(congrArg iI (show ((endS B p (lowS B p i) - lowS B p i) : Int) = (spanR B p i w) by unfold spanR; (repeat (first | rw [if_pos (by omega)] | rw [if_neg (by omega)])))), rfl⟩
        · skip
          refine j_tabIn h 103 dX11_span_45 (by omega) (by omega) (by omega) (by rw [c6]; rfl) (by decide) ?_
          refine j_iload h dX11_span_103 4 rfl ?_
          exact hr _ _ _ _ dX11_span_105 ⟨(congrArg iI (show (lowS B p i : Int) = (spanR B p i w) by unfold spanR; (repeat (first | rw [if_pos (by omega)] | rw [if_neg (by omega)])))), rfl⟩
        · skip
          refine j_tabOut h 106 dX11_span_45 (by omega) (by omega) (by decide) ?_
          refine j_bipush h dX11_span_106 (by decide) ?_
          exact hr _ _ _ _ dX11_span_108 ⟨(congrArg iI (show ((-102) : Int) = (spanR B p i w) by unfold spanR; (repeat (first | rw [if_pos (by omega)] | rw [if_neg (by omega)])))), rfl⟩
      · skip
        refine j_bipush h dX11_span_41 (by decide) ?_
        exact hr _ _ _ _ dX11_span_43 ⟨(congrArg iI (show ((-101) : Int) = (spanR B p i w) by unfold spanR; (repeat (first | rw [if_pos (by omega)] | rw [if_neg (by omega)])))), rfl⟩
    · skip
      refine j_aload_n h dX11_span_15 0 rfl rfl ?_
      refine j_get h dX11_span_16 f_X11_span_12 0 rfl rfl ?_
      refine j_iload_n h dX11_span_19 1 rfl rfl ?_
      refine j_callVi (As := [.int (iI p)]) (wr := [(h11, .inr (11, [.ref h0, .ref h2, .ref h10, .ref h4, .ref h8, .ref h9, .ref h5, .ref h6, .ref h3, .ref h1, .ref pg, .int (iI pb), .int (iI sb)]))]) (cells' := 0) (slots' := 0) h dX11_span_20 (ct_X0_countSpans T h0 c0 B p (by first | assumption | omega) (by first | assumption | omega)) k_X0_countSpans gX11_span_X0_countSpans rfl rfl 1 rfl ⟨Nat.le_of_ble_eq_true rfl, Nat.le_of_ble_eq_true rfl⟩ rfl rfl (Nat.le_of_ble_eq_true rfl) ⟨Nat.le_of_ble_eq_true rfl, Nat.le_of_ble_eq_true rfl⟩ rfl rfl [1, 2] [0] rfl rfl rfl rfl (by decide) (fun r9 u9 p9 => ?_)
      obtain ⟨rfl, rfl⟩ := p9
      refine j_eq (ws' := [(h11, .inr (11, [.ref h0, .ref h2, .ref h10, .ref h4, .ref h8, .ref h9, .ref h5, .ref h6, .ref h3, .ref h1, .ref pg, .int (iI pb), .int (iI sb)])), (h0, .inr (0, [.ref c0])), (c0, .inl (T 0, 2880, .inl (fun j : Nat => iI (B j))))]) rfl rfl rfl rfl rfl rfl ?_
      exact hr _ _ _ _ dX11_span_23 ⟨(congrArg iI (show (spansS B p : Int) = (spanR B p i w) by unfold spanR; (repeat (first | rw [if_pos (by omega)] | rw [if_neg (by omega)])))), rfl⟩
  · skip
    replace c2 := of_decide_eq_false c2
    refine j_bipush h dX11_span_7 (by decide) ?_
    exact hr _ _ _ _ dX11_span_9 ⟨(congrArg iI (show ((-101) : Int) = (spanR B p i w) by unfold spanR; (repeat (first | rw [if_pos (by omega)] | rw [if_neg (by omega)])))), rfl⟩

abbrev rmX11_thin : Room := { frames := 2, cells := 0, slots := 0, locals := 48 }
theorem in_X11_thin_X11 : ∀ w ∈ u_ws RX11 TX11 13, w ∈ wsX11_thin := fun w hw => List.mem_cons_of_mem _ (List.mem_append_left _ (List.mem_append_right _ (hw)))
theorem f_X11_thin_12 : FlOK RX11 12 wsX11_thin 11 0 := ⟨_, _, _, rfl, by decide, in_X11_thin_X11, List.mem_of_getElem? (i := 1) rfl⟩
theorem k_X0_hasThinSpan : CkOK yX0_hasThinSpan wsX0_hasThinSpan rmX0_hasThinSpan 0 0 cX0_hasThinSpan 6 (some .boolean) 3 := ⟨⟨_, rfl⟩, rfl, rfl, by decide +kernel⟩
set_option maxHeartbeats 600000 in
set_option maxRecDepth 100000 in
/-- thin -/
theorem ct_X11_thin (T : Nat → ClassId) (h11 : Nat) (h0 : Nat) (h2 : Nat) (h10 : Nat) (h4 : Nat) (h8 : Nat) (h9 : Nat) (h5 : Nat) (h6 : Nat) (h3 : Nat) (h1 : Nat) (pg : Nat) (pb : Int) (sb : Int) (c0 : Nat) (B : Int → Int) (s : Int) (n : Int) (hB : BOK B) (hs : -2147483648 ≤ s ∧ s ≤ 2147483647) (hn : -2147483648 ≤ n ∧ n ≤ 2147483647) : CtI T yX11_thin wsX11_thin rmX11_thin 0 0 [.ref h11, .int (iI s), .int (iI n)] [(h11, .inr (11, [.ref h0, .ref h2, .ref h10, .ref h4, .ref h8, .ref h9, .ref h5, .ref h6, .ref h3, .ref h1, .ref pg, .int (iI pb), .int (iI sb)])), (h0, .inr (0, [.ref c0])), (c0, .inl (T 0, 2880, .inl (fun j : Nat => iI (B j))))] (fun r8 u => r8 = (iI (thinR B s n)) ∧ u = [(h11, .inr (11, [.ref h0, .ref h2, .ref h10, .ref h4, .ref h8, .ref h9, .ref h5, .ref h6, .ref h3, .ref h1, .ref pg, .int (iI pb), .int (iI sb)])), (h0, .inr (0, [.ref c0])), (c0, .inl (T 0, 2880, .inl (fun j : Nat => iI (B j))))]) := by
  refine ctI_of (cc := cX11_thin) (maxL := 4) (ret := (some .int)) (by decide +kernel) rfl rfl (fun r u hp => by obtain ⟨rfl, -⟩ := hp; rfl) (Nat.le_of_ble_eq_true rfl) (fun X h hinit hr => ?_)
  refine j_eq (lv' := [(0, .ref h11), (1, .int (iI s)), (2, .int (iI n))]) rfl rfl rfl rfl rfl rfl ?_
  refine j_iload_n h dX11_thin_0 1 rfl rfl ?_
  refine j_iconst h dX11_thin_1 ?_
  refine j_bipush h dX11_thin_2 (by decide) ?_
  refine j_callSi (As := [.int (iI s), .int (iI 1), .int (iI 7)]) (wr := [(h11, .inr (11, [.ref h0, .ref h2, .ref h10, .ref h4, .ref h8, .ref h9, .ref h5, .ref h6, .ref h3, .ref h1, .ref pg, .int (iI pb), .int (iI sb)])), (h0, .inr (0, [.ref c0])), (c0, .inl (T 0, 2880, .inl (fun j : Nat => iI (B j))))]) (cells' := 0) (slots' := 0) h dX11_thin_4 (ct_X11_within T s 1 7 (by first | assumption | omega) (by first | assumption | omega) (by first | assumption | omega)) k_X11_within gX11_thin_X11_within ⟨Nat.le_of_ble_eq_true rfl, Nat.le_of_ble_eq_true rfl⟩ rfl rfl (Nat.le_of_ble_eq_true rfl) ⟨Nat.le_of_ble_eq_true rfl, Nat.le_of_ble_eq_true rfl⟩ rfl rfl [] [0, 1, 2] rfl rfl rfl rfl (by decide) (fun r9 u9 p1 => ?_)
  obtain ⟨rfl, rfl⟩ := p1
  refine j_eq (ws' := [(h11, .inr (11, [.ref h0, .ref h2, .ref h10, .ref h4, .ref h8, .ref h9, .ref h5, .ref h6, .ref h3, .ref h1, .ref pg, .int (iI pb), .int (iI sb)])), (h0, .inr (0, [.ref c0])), (c0, .inl (T 0, 2880, .inl (fun j : Nat => iI (B j))))]) rfl rfl rfl rfl rfl rfl ?_
  refine j_ifeqB h 20 dX11_thin_7 (by decide) (fun c2 => ?_) (fun c2 => ?_)
  · skip
    replace c2 := of_decide_eq_false c2
    refine j_bipush h dX11_thin_20 (by decide) ?_
    exact hr _ _ _ _ dX11_thin_22 ⟨(congrArg iI (show ((-102) : Int) = (thinR B s n) by unfold thinR; (repeat (first | rw [if_pos (by omega)] | rw [if_neg (by omega)])) <;> (try (rw [← hf]; first | rw [fuI_e (by omega)] | rw [fuI_t (P := (fun p => thinS B p s n)) (by omega) c2])))), rfl⟩
  · skip
    replace c2 := of_decide_eq_true c2
    refine j_iload_n h dX11_thin_10 2 rfl rfl ?_
    refine j_iconst h dX11_thin_11 ?_
    refine j_bipush h dX11_thin_12 (by decide) ?_
    refine j_callSi (As := [.int (iI n), .int (iI 1), .int (iI 20)]) (wr := [(h11, .inr (11, [.ref h0, .ref h2, .ref h10, .ref h4, .ref h8, .ref h9, .ref h5, .ref h6, .ref h3, .ref h1, .ref pg, .int (iI pb), .int (iI sb)])), (h0, .inr (0, [.ref c0])), (c0, .inl (T 0, 2880, .inl (fun j : Nat => iI (B j))))]) (cells' := 0) (slots' := 0) h dX11_thin_14 (ct_X11_within T n 1 20 (by first | assumption | omega) (by first | assumption | omega) (by first | assumption | omega)) k_X11_within gX11_thin_X11_within ⟨Nat.le_of_ble_eq_true rfl, Nat.le_of_ble_eq_true rfl⟩ rfl rfl (Nat.le_of_ble_eq_true rfl) ⟨Nat.le_of_ble_eq_true rfl, Nat.le_of_ble_eq_true rfl⟩ rfl rfl [] [0, 1, 2] rfl rfl rfl rfl (by decide) (fun r9 u9 p3 => ?_)
    obtain ⟨rfl, rfl⟩ := p3
    refine j_eq (ws' := [(h11, .inr (11, [.ref h0, .ref h2, .ref h10, .ref h4, .ref h8, .ref h9, .ref h5, .ref h6, .ref h3, .ref h1, .ref pg, .int (iI pb), .int (iI sb)])), (h0, .inr (0, [.ref c0])), (c0, .inl (T 0, 2880, .inl (fun j : Nat => iI (B j))))]) rfl rfl rfl rfl rfl rfl ?_
    refine j_ifneB h 23 dX11_thin_17 (by decide) (fun c4 => ?_) (fun c4 => ?_)
    · skip
      replace c4 := of_decide_eq_true c4
      refine j_iconst h dX11_thin_23 ?_
      refine j_istore_n (lv' := [(0, .ref h11), (1, .int (iI s)), (2, .int (iI n)), (3, .int (iI 0))]) h dX11_thin_24 [1, 2, 3, 0] rfl (by decide) rfl ?_
      have lp25 : ∀ (n25 : Nat) (k : Int) (hk : 0 ≤ k ∧ k ≤ 144) (hf : fuI (fun p => thinS B p s n) k 144 = fuI (fun p => thinS B p s n) 0 144), ((144 - k).toNat) < n25 → J X 0 0 25 [(0, .ref h11), (1, .int (iI s)), (2, .int (iI n)), (3, .int (iI k))] [] [(h11, .inr (11, [.ref h0, .ref h2, .ref h10, .ref h4, .ref h8, .ref h9, .ref h5, .ref h6, .ref h3, .ref h1, .ref pg, .int (iI pb), .int (iI sb)])), (h0, .inr (0, [.ref c0])), (c0, .inl (T 0, 2880, .inl (fun j : Nat => iI (B j))))] := by
        intro n25
        induction n25 with
        | zero => exact fun k hk hf hn25 => absurd hn25 (Nat.not_lt_zero _)
        | succ n25 ih25 =>
          intro k hk hf hn25
          refine j_iload_n h dX11_thin_25 3 rfl rfl ?_
          refine j_sipush h dX11_thin_26 (by decide) ?_
          refine j_icmp_ge h 53 dX11_thin_29 (by decide) (by omega) (by omega) (fun c5 => ?_) (fun c5 => ?_)
          · skip
            refine j_iconst h dX11_thin_53 ?_
            exact hr _ _ _ _ dX11_thin_54 ⟨(congrArg iI (show (-1 : Int) = (thinR B s n) by unfold thinR; (repeat (first | rw [if_pos (by omega)] | rw [if_neg (by omega)])) <;> (try (rw [← hf]; first | rw [fuI_e (by omega)] | rw [fuI_t (P := (fun p => thinS B p s n)) (by omega) c5])))), rfl⟩
          · skip
            refine j_aload_n h dX11_thin_32 0 rfl rfl ?_
            refine j_get h dX11_thin_33 f_X11_thin_12 0 rfl rfl ?_
            refine j_iload_n h dX11_thin_36 3 rfl rfl ?_
            refine j_iload_n h dX11_thin_37 1 rfl rfl ?_
            refine j_iload_n h dX11_thin_38 2 rfl rfl ?_
            refine j_callVi (As := [.int (iI k), .int (iI s), .int (iI n)]) (wr := [(h11, .inr (11, [.ref h0, .ref h2, .ref h10, .ref h4, .ref h8, .ref h9, .ref h5, .ref h6, .ref h3, .ref h1, .ref pg, .int (iI pb), .int (iI sb)]))]) (cells' := 0) (slots' := 0) h dX11_thin_39 (ct_X0_hasThinSpan T h0 c0 B k s n (by first | assumption | omega) (by first | assumption | omega) (by first | assumption | omega) (by first | assumption | omega)) k_X0_hasThinSpan gX11_thin_X0_hasThinSpan rfl rfl 1 rfl ⟨Nat.le_of_ble_eq_true rfl, Nat.le_of_ble_eq_true rfl⟩ rfl rfl (Nat.le_of_ble_eq_true rfl) ⟨Nat.le_of_ble_eq_true rfl, Nat.le_of_ble_eq_true rfl⟩ rfl rfl [1, 2] [0] rfl rfl rfl rfl (by decide) (fun r9 u9 p6 => ?_)
            obtain ⟨rfl, rfl⟩ := p6
            refine j_eq (ws' := [(h11, .inr (11, [.ref h0, .ref h2, .ref h10, .ref h4, .ref h8, .ref h9, .ref h5, .ref h6, .ref h3, .ref h1, .ref pg, .int (iI pb), .int (iI sb)])), (h0, .inr (0, [.ref c0])), (c0, .inl (T 0, 2880, .inl (fun j : Nat => iI (B j))))]) rfl rfl rfl rfl rfl rfl ?_
            refine j_ifeqB h 47 dX11_thin_42 (by decide) (fun c7 => ?_) (fun c7 => ?_)
            · skip
              refine j_iinc (lv' := [(0, .ref h11), (1, .int (iI s)), (2, .int (iI n)), (3, .int (iI (k + 1)))]) h dX11_thin_47 3 [1, 2, 3, 0] rfl (by decide) rfl ?_
              refine j_goto (tgt := 25) h dX11_thin_50 (by decide) ?_
              exact ih25 (k + 1) (by first | assumption | omega) (by rw [← fuI_f (P := (fun p => thinS B p s n)) (by omega) c7]; exact hf) (by omega)
            · skip
              refine j_iload_n h dX11_thin_45 3 rfl rfl ?_
              exact hr _ _ _ _ dX11_thin_46 ⟨(congrArg iI (show (k : Int) = (thinR B s n) by unfold thinR; (repeat (first | rw [if_pos (by omega)] | rw [if_neg (by omega)])) <;> (try (rw [← hf]; first | rw [fuI_e (by omega)] | rw [fuI_t (P := (fun p => thinS B p s n)) (by omega) c7])))), rfl⟩
      exact lp25 _ 0 (by first | assumption | omega) (by rfl) (Nat.lt_succ_self _)
    · skip
      replace c4 := of_decide_eq_false c4
      refine j_bipush h dX11_thin_20 (by decide) ?_
      exact hr _ _ _ _ dX11_thin_22 ⟨(congrArg iI (show ((-102) : Int) = (thinR B s n) by unfold thinR; (repeat (first | rw [if_pos (by omega)] | rw [if_neg (by omega)])) <;> (try (rw [← hf]; first | rw [fuI_e (by omega)] | rw [fuI_t (P := (fun p => thinS B p s n)) (by omega) c4])))), rfl⟩

abbrev rmX11_digest : Room := { frames := 0, cells := 0, slots := 0, locals := 0 }
theorem in_X11_digest_X11 : ∀ w ∈ u_ws RX11 TX11 13, w ∈ wsX11_digest := fun w hw => List.mem_cons_of_mem _ (List.mem_append_left _ (List.mem_append_right _ (hw)))
theorem f_X11_digest_12 : FlOK RX11 12 wsX11_digest 11 0 := ⟨_, _, _, rfl, by decide, in_X11_digest_X11, List.mem_of_getElem? (i := 1) rfl⟩
theorem in_X11_digest_X0 : ∀ w ∈ u_ws RX0 TX0 1, w ∈ wsX11_digest := fun w hw => List.mem_cons_of_mem _ (List.mem_append_right _ (hw))
theorem f_X11_digest_132 : FnOK RX11 132 wsX11_digest 0 0 := ⟨_, _, _, "LayerShop", rfl, by decide, in_X11_digest_X0, List.mem_of_getElem? (i := 2) rfl⟩
set_option maxHeartbeats 600000 in
set_option maxRecDepth 100000 in
/-- digest -/
theorem ct_X11_digest (T : Nat → ClassId) (h11 : Nat) (h0 : Nat) (h2 : Nat) (h10 : Nat) (h4 : Nat) (h8 : Nat) (h9 : Nat) (h5 : Nat) (h6 : Nat) (h3 : Nat) (h1 : Nat) (pg : Nat) (pb : Int) (sb : Int) (c0 : Nat) (B : Int → Int) (hB : BOK B) : CtI T yX11_digest wsX11_digest rmX11_digest 0 0 [.ref h11] [(h11, .inr (11, [.ref h0, .ref h2, .ref h10, .ref h4, .ref h8, .ref h9, .ref h5, .ref h6, .ref h3, .ref h1, .ref pg, .int (iI pb), .int (iI sb)])), (h0, .inr (0, [.ref c0])), (c0, .inl (T 0, 2880, .inl (fun j : Nat => iI (B j))))] (fun r8 u => r8 = (iI (digI B 2880)) ∧ u = [(h11, .inr (11, [.ref h0, .ref h2, .ref h10, .ref h4, .ref h8, .ref h9, .ref h5, .ref h6, .ref h3, .ref h1, .ref pg, .int (iI pb), .int (iI sb)])), (h0, .inr (0, [.ref c0])), (c0, .inl (T 0, 2880, .inl (fun j : Nat => iI (B j))))]) := by
  refine ctI_of (cc := cX11_digest) (maxL := 3) (ret := (some .int)) (by decide +kernel) rfl rfl (fun r u hp => by obtain ⟨rfl, -⟩ := hp; rfl) (Nat.le_of_ble_eq_true rfl) (fun X h hinit hr => ?_)
  refine j_eq (lv' := [(0, .ref h11)]) rfl rfl rfl rfl rfl rfl ?_
  refine j_bipush h dX11_digest_0 (by decide) ?_
  refine j_istore_n (lv' := [(0, .ref h11), (1, .int (iI 7))]) h dX11_digest_2 [1, 0] rfl (by decide) rfl ?_
  refine j_iconst h dX11_digest_3 ?_
  refine j_istore_n (lv' := [(0, .ref h11), (1, .int (iI 7)), (2, .int (iI 0))]) h dX11_digest_4 [1, 2, 0] rfl (by decide) rfl ?_
  have lp5 : ∀ (n5 : Nat) (k : Int) (d : Int) (hk : 0 ≤ k ∧ k ≤ 2880) (hd : d = digI B k), ((2880 - k).toNat) < n5 → J X 0 0 5 [(0, .ref h11), (1, .int (iI d)), (2, .int (iI k))] [] [(h11, .inr (11, [.ref h0, .ref h2, .ref h10, .ref h4, .ref h8, .ref h9, .ref h5, .ref h6, .ref h3, .ref h1, .ref pg, .int (iI pb), .int (iI sb)])), (h0, .inr (0, [.ref c0])), (c0, .inl (T 0, 2880, .inl (fun j : Nat => iI (B j))))] := by
    intro n5
    induction n5 with
    | zero => exact fun k d hk hd hn5 => absurd hn5 (Nat.not_lt_zero _)
    | succ n5 ih5 =>
      intro k d hk hd hn5
      refine j_iload_n h dX11_digest_5 2 rfl rfl ?_
      refine j_sipush h dX11_digest_6 (by decide) ?_
      refine j_icmp_ge h 33 dX11_digest_9 (by decide) (by omega) (by omega) (fun c1 => ?_) (fun c1 => ?_)
      · skip
        refine j_iload_n h dX11_digest_33 1 rfl rfl ?_
        exact hr _ _ _ _ dX11_digest_34 ⟨(congrArg iI (show (d : Int) = (digI B 2880) by rw [hd, show k = 2880 by omega])), rfl⟩
      · skip
        refine j_bipush h dX11_digest_12 (by decide) ?_
        refine j_iload_n h dX11_digest_14 1 rfl rfl ?_
        refine j_imul h dX11_digest_15 ?_
        refine j_aload_n h dX11_digest_16 0 rfl rfl ?_
        refine j_get h dX11_digest_17 f_X11_digest_12 0 rfl rfl ?_
        refine j_getN h dX11_digest_20 f_X11_digest_132 1 rfl rfl ?_
        refine j_iload_n h dX11_digest_23 2 rfl rfl ?_
        refine j_iald (f := B) h k dX11_digest_24 2 rfl (by decide) (by omega) (by omega) ?_
        have e2 := hB k
        refine j_iadd h dX11_digest_25 ?_
        refine j_istore_n (lv' := [(0, .ref h11), (1, .int (iI ((31 * d) + (B k)))), (2, .int (iI k))]) h dX11_digest_26 [1, 0, 2] rfl (by decide) rfl ?_
        refine j_iinc (lv' := [(0, .ref h11), (1, .int (iI ((31 * d) + (B k)))), (2, .int (iI (k + 1)))]) h dX11_digest_27 2 [1, 2, 0] rfl (by decide) rfl ?_
        refine j_goto (tgt := 5) h dX11_digest_30 (by decide) ?_
        exact ih5 (k + 1) ((31 * d) + (B k)) (by first | assumption | omega) (by rw [digI_s (by omega), ← hd]) (by omega)
  exact lp5 _ 0 7 (by first | assumption | omega) (by exact (digI_0 B).symm) (Nat.lt_succ_self _)

abbrev rmX11_volume : Room := { frames := 4, cells := 0, slots := 0, locals := 89 }
theorem in_X11_volume_X11 : ∀ w ∈ u_ws RX11 TX11 13, w ∈ wsX11_volume := fun w hw => List.mem_cons_of_mem _ (List.mem_append_left _ (List.mem_append_left _ (List.mem_append_left _ (List.mem_append_right _ (hw)))))
theorem f_X11_volume_28 : FlOK RX11 28 wsX11_volume 11 2 := ⟨_, _, _, rfl, by decide, in_X11_volume_X11, List.mem_of_getElem? (i := 1) rfl⟩
theorem k_X10_countOpen : CkOK yX10_countOpen wsX10_countOpen rmX10_countOpen 0 0 cX10_countOpen 1 (some .int) 0 := ⟨⟨_, rfl⟩, rfl, rfl, by decide +kernel⟩
theorem k_X10_countFloating : CkOK yX10_countFloating wsX10_countFloating rmX10_countFloating 0 0 cX10_countFloating 1 (some .int) 0 := ⟨⟨_, rfl⟩, rfl, rfl, by decide +kernel⟩
theorem f_X11_volume_12 : FlOK RX11 12 wsX11_volume 11 0 := ⟨_, _, _, rfl, by decide, in_X11_volume_X11, List.mem_of_getElem? (i := 2) rfl⟩
theorem k_X0_count : CkOK yX0_count wsX0_count rmX0_count 0 0 cX0_count 4 (some .int) 1 := ⟨⟨_, rfl⟩, rfl, rfl, by decide +kernel⟩
set_option maxHeartbeats 600000 in
set_option maxRecDepth 100000 in
/-- volume -/
theorem ct_X11_volume (T : Nat → ClassId) (h11 : Nat) (h0 : Nat) (h2 : Nat) (h10 : Nat) (h4 : Nat) (h8 : Nat) (h9 : Nat) (h5 : Nat) (h6 : Nat) (h3 : Nat) (h1 : Nat) (pg : Nat) (pb : Int) (sb : Int) (c0 : Nat) (m0 : Nat) (q0 : Nat) (pk0 : Nat) (np : Int) (n : Int) (M : Int → Int) (Q : Int → Int) (B : Int → Int) (w : Int) (hB : BOK B) (hw : -2147483648 ≤ w ∧ w ≤ 2147483647) : CtI T yX11_volume wsX11_volume rmX11_volume 0 0 [.ref h11, .int (iI w)] [(h11, .inr (11, [.ref h0, .ref h2, .ref h10, .ref h4, .ref h8, .ref h9, .ref h5, .ref h6, .ref h3, .ref h1, .ref pg, .int (iI pb), .int (iI sb)])), (h0, .inr (0, [.ref c0])), (h10, .inr (10, [.ref c0, .ref h2, .ref pk0, .int (iI np)])), (h2, .inr (2, [.ref m0, .ref q0, .int (iI n)])), (m0, .inl (T 0, 2880, .inl (fun j : Nat => iI (M j)))), (q0, .inl (T 0, 2880, .inl (fun j : Nat => iI (Q j)))), (c0, .inl (T 0, 2880, .inl (fun j : Nat => iI (B j))))] (fun r8 u => ∃ n2 : Int, ∃ M2 : Int → Int, ∃ Q2 : Int → Int, r8 = (iI (volS B w)) ∧ u = [(h11, .inr (11, [.ref h0, .ref h2, .ref h10, .ref h4, .ref h8, .ref h9, .ref h5, .ref h6, .ref h3, .ref h1, .ref pg, .int (iI pb), .int (iI sb)])), (h0, .inr (0, [.ref c0])), (h10, .inr (10, [.ref c0, .ref h2, .ref pk0, .int (iI np)])), (h2, .inr (2, [.ref m0, .ref q0, .int (iI n2)])), (m0, .inl (T 0, 2880, .inl (fun j : Nat => iI (M2 j)))), (q0, .inl (T 0, 2880, .inl (fun j : Nat => iI (Q2 j)))), (c0, .inl (T 0, 2880, .inl (fun j : Nat => iI (B j))))]) := by
  refine ctI_of (cc := cX11_volume) (maxL := 2) (ret := (some .int)) (by decide +kernel) rfl rfl (fun r u hp => by obtain ⟨_, _, _, rfl, -⟩ := hp; rfl) (Nat.le_of_ble_eq_true rfl) (fun X h hinit hr => ?_)
  refine j_eq (lv' := [(0, .ref h11), (1, .int (iI w))]) rfl rfl rfl rfl rfl rfl ?_
  refine j_iload_n h dX11_volume_0 1 rfl rfl ?_
  refine j_iconst h dX11_volume_1 ?_
  refine j_bipush h dX11_volume_2 (by decide) ?_
  refine j_callSi (As := [.int (iI w), .int (iI 0), .int (iI 11)]) (wr := [(h11, .inr (11, [.ref h0, .ref h2, .ref h10, .ref h4, .ref h8, .ref h9, .ref h5, .ref h6, .ref h3, .ref h1, .ref pg, .int (iI pb), .int (iI sb)])), (h0, .inr (0, [.ref c0])), (h10, .inr (10, [.ref c0, .ref h2, .ref pk0, .int (iI np)])), (h2, .inr (2, [.ref m0, .ref q0, .int (iI n)])), (m0, .inl (T 0, 2880, .inl (fun j : Nat => iI (M j)))), (q0, .inl (T 0, 2880, .inl (fun j : Nat => iI (Q j)))), (c0, .inl (T 0, 2880, .inl (fun j : Nat => iI (B j))))]) (cells' := 0) (slots' := 0) h dX11_volume_4 (ct_X11_within T w 0 11 (by first | assumption | omega) (by first | assumption | omega) (by first | assumption | omega)) k_X11_within gX11_volume_X11_within ⟨Nat.le_of_ble_eq_true rfl, Nat.le_of_ble_eq_true rfl⟩ rfl rfl (Nat.le_of_ble_eq_true rfl) ⟨Nat.le_of_ble_eq_true rfl, Nat.le_of_ble_eq_true rfl⟩ rfl rfl [] [0, 1, 2, 3, 4, 5, 6] rfl rfl rfl rfl (by decide) (fun r9 u9 p1 => ?_)
  obtain ⟨rfl, rfl⟩ := p1
  refine j_eq (ws' := [(h11, .inr (11, [.ref h0, .ref h2, .ref h10, .ref h4, .ref h8, .ref h9, .ref h5, .ref h6, .ref h3, .ref h1, .ref pg, .int (iI pb), .int (iI sb)])), (h0, .inr (0, [.ref c0])), (h10, .inr (10, [.ref c0, .ref h2, .ref pk0, .int (iI np)])), (h2, .inr (2, [.ref m0, .ref q0, .int (iI n)])), (m0, .inl (T 0, 2880, .inl (fun j : Nat => iI (M j)))), (q0, .inl (T 0, 2880, .inl (fun j : Nat => iI (Q j)))), (c0, .inl (T 0, 2880, .inl (fun j : Nat => iI (B j))))]) rfl rfl rfl rfl rfl rfl ?_
  refine j_ifneB h 13 dX11_volume_7 (by decide) (fun c2 => ?_) (fun c2 => ?_)
  · skip
    replace c2 := of_decide_eq_true c2
    refine j_iload_n h dX11_volume_13 1 rfl rfl ?_
    rcases (show w = 8 ∨ w = 9 ∨ w = 10 ∨ w = 11 ∨ (w < 8 ∨ 11 < w) by omega) with c3 | c3 | c3 | c3 | c3
    · skip
      refine j_tabIn h 44 dX11_volume_14 (by omega) (by omega) (by omega) (by rw [c3]; rfl) (by decide) ?_
      refine j_aload_n h dX11_volume_44 0 rfl rfl ?_
      refine j_get h dX11_volume_45 f_X11_volume_28 0 rfl rfl ?_
      refine j_callVi (As := []) (wr := [(h11, .inr (11, [.ref h0, .ref h2, .ref h10, .ref h4, .ref h8, .ref h9, .ref h5, .ref h6, .ref h3, .ref h1, .ref pg, .int (iI pb), .int (iI sb)])), (h0, .inr (0, [.ref c0]))]) (cells' := 0) (slots' := 0) h dX11_volume_48 (ct_X10_countOpen T h10 c0 h2 pk0 np m0 q0 n M Q B (by first | assumption | omega)) k_X10_countOpen gX11_volume_X10_countOpen rfl rfl 2 rfl ⟨Nat.le_of_ble_eq_true rfl, Nat.le_of_ble_eq_true rfl⟩ rfl rfl (Nat.le_of_ble_eq_true rfl) ⟨Nat.le_of_ble_eq_true rfl, Nat.le_of_ble_eq_true rfl⟩ rfl rfl [2, 3, 4, 5, 6] [0, 1] rfl rfl rfl rfl (by decide) (fun r9 u9 p4 => ?_)
      obtain ⟨n15, M16, Q17, rfl, rfl⟩ := p4
      refine j_eq (ws' := [(h11, .inr (11, [.ref h0, .ref h2, .ref h10, .ref h4, .ref h8, .ref h9, .ref h5, .ref h6, .ref h3, .ref h1, .ref pg, .int (iI pb), .int (iI sb)])), (h0, .inr (0, [.ref c0])), (h10, .inr (10, [.ref c0, .ref h2, .ref pk0, .int (iI np)])), (h2, .inr (2, [.ref m0, .ref q0, .int (iI n15)])), (m0, .inl (T 0, 2880, .inl (fun j : Nat => iI (M16 j)))), (q0, .inl (T 0, 2880, .inl (fun j : Nat => iI (Q17 j)))), (c0, .inl (T 0, 2880, .inl (fun j : Nat => iI (B j))))]) rfl rfl rfl rfl rfl rfl ?_
      exact hr _ _ _ _ dX11_volume_51 ⟨n15, M16, Q17, (congrArg iI (show (openN B : Int) = (volS B w) by unfold volS; (repeat (first | rw [if_pos (by omega)] | rw [if_neg (by omega)])) <;> (first | rfl | (rw [vol_254 hB]) | (rw [vol_1 hB]) | (rw [vol_s hB (by omega)])))), rfl⟩
    · skip
      refine j_tabIn h 52 dX11_volume_14 (by omega) (by omega) (by omega) (by rw [c3]; rfl) (by decide) ?_
      refine j_aload_n h dX11_volume_52 0 rfl rfl ?_
      refine j_get h dX11_volume_53 f_X11_volume_28 0 rfl rfl ?_
      refine j_callVi (As := []) (wr := [(h11, .inr (11, [.ref h0, .ref h2, .ref h10, .ref h4, .ref h8, .ref h9, .ref h5, .ref h6, .ref h3, .ref h1, .ref pg, .int (iI pb), .int (iI sb)])), (h0, .inr (0, [.ref c0]))]) (cells' := 0) (slots' := 0) h dX11_volume_56 (ct_X10_countFloating T h10 c0 h2 pk0 np m0 q0 n M Q B (by first | assumption | omega)) k_X10_countFloating gX11_volume_X10_countFloating rfl rfl 2 rfl ⟨Nat.le_of_ble_eq_true rfl, Nat.le_of_ble_eq_true rfl⟩ rfl rfl (Nat.le_of_ble_eq_true rfl) ⟨Nat.le_of_ble_eq_true rfl, Nat.le_of_ble_eq_true rfl⟩ rfl rfl [2, 3, 4, 5, 6] [0, 1] rfl rfl rfl rfl (by decide) (fun r9 u9 p8 => ?_)
      obtain ⟨n19, M110, Q111, rfl, rfl⟩ := p8
      refine j_eq (ws' := [(h11, .inr (11, [.ref h0, .ref h2, .ref h10, .ref h4, .ref h8, .ref h9, .ref h5, .ref h6, .ref h3, .ref h1, .ref pg, .int (iI pb), .int (iI sb)])), (h0, .inr (0, [.ref c0])), (h10, .inr (10, [.ref c0, .ref h2, .ref pk0, .int (iI np)])), (h2, .inr (2, [.ref m0, .ref q0, .int (iI n19)])), (m0, .inl (T 0, 2880, .inl (fun j : Nat => iI (M110 j)))), (q0, .inl (T 0, 2880, .inl (fun j : Nat => iI (Q111 j)))), (c0, .inl (T 0, 2880, .inl (fun j : Nat => iI (B j))))]) rfl rfl rfl rfl rfl rfl ?_
      exact hr _ _ _ _ dX11_volume_59 ⟨n19, M110, Q111, (congrArg iI (show (floatN B : Int) = (volS B w) by unfold volS; (repeat (first | rw [if_pos (by omega)] | rw [if_neg (by omega)])) <;> (first | rfl | (rw [vol_254 hB]) | (rw [vol_1 hB]) | (rw [vol_s hB (by omega)])))), rfl⟩
    · skip
      refine j_tabIn h 60 dX11_volume_14 (by omega) (by omega) (by omega) (by rw [c3]; rfl) (by decide) ?_
      refine j_aload_n h dX11_volume_60 0 rfl rfl ?_
      refine j_get h dX11_volume_61 f_X11_volume_12 0 rfl rfl ?_
      refine j_sipush h dX11_volume_64 (by decide) ?_
      refine j_callVi (As := [.int (iI 254)]) (wr := [(h11, .inr (11, [.ref h0, .ref h2, .ref h10, .ref h4, .ref h8, .ref h9, .ref h5, .ref h6, .ref h3, .ref h1, .ref pg, .int (iI pb), .int (iI sb)])), (h10, .inr (10, [.ref c0, .ref h2, .ref pk0, .int (iI np)])), (h2, .inr (2, [.ref m0, .ref q0, .int (iI n)])), (m0, .inl (T 0, 2880, .inl (fun j : Nat => iI (M j)))), (q0, .inl (T 0, 2880, .inl (fun j : Nat => iI (Q j))))]) (cells' := 0) (slots' := 0) h dX11_volume_67 (ct_X0_count T h0 c0 B 254 (by first | assumption | omega) (by first | assumption | omega)) k_X0_count gX11_volume_X0_count rfl rfl 1 rfl ⟨Nat.le_of_ble_eq_true rfl, Nat.le_of_ble_eq_true rfl⟩ rfl rfl (Nat.le_of_ble_eq_true rfl) ⟨Nat.le_of_ble_eq_true rfl, Nat.le_of_ble_eq_true rfl⟩ rfl rfl [1, 6] [0, 2, 3, 4, 5] rfl rfl rfl rfl (by decide) (fun r9 u9 p12 => ?_)
      obtain ⟨rfl, rfl⟩ := p12
      have hn9 := cntI_rng (fun c => hk 254 (B c)) (k := 2880) (by omega)
      refine j_eq (ws' := [(h11, .inr (11, [.ref h0, .ref h2, .ref h10, .ref h4, .ref h8, .ref h9, .ref h5, .ref h6, .ref h3, .ref h1, .ref pg, .int (iI pb), .int (iI sb)])), (h10, .inr (10, [.ref c0, .ref h2, .ref pk0, .int (iI np)])), (h2, .inr (2, [.ref m0, .ref q0, .int (iI n)])), (m0, .inl (T 0, 2880, .inl (fun j : Nat => iI (M j)))), (q0, .inl (T 0, 2880, .inl (fun j : Nat => iI (Q j)))), (h0, .inr (0, [.ref c0])), (c0, .inl (T 0, 2880, .inl (fun j : Nat => iI (B j))))]) rfl rfl rfl rfl rfl rfl ?_
      refine j_ws (ws' := [(h11, .inr (11, [.ref h0, .ref h2, .ref h10, .ref h4, .ref h8, .ref h9, .ref h5, .ref h6, .ref h3, .ref h1, .ref pg, .int (iI pb), .int (iI sb)])), (h0, .inr (0, [.ref c0])), (h10, .inr (10, [.ref c0, .ref h2, .ref pk0, .int (iI np)])), (h2, .inr (2, [.ref m0, .ref q0, .int (iI n)])), (m0, .inl (T 0, 2880, .inl (fun j : Nat => iI (M j)))), (q0, .inl (T 0, 2880, .inl (fun j : Nat => iI (Q j)))), (c0, .inl (T 0, 2880, .inl (fun j : Nat => iI (B j))))]) [0, 5, 1, 2, 3, 4, 6] rfl rfl ?_
      exact hr _ _ _ _ dX11_volume_70 ⟨n, M, Q, (congrArg iI (show (cntI (fun c => hk 254 (B c)) 2880 : Int) = (volS B w) by unfold volS; (repeat (first | rw [if_pos (by omega)] | rw [if_neg (by omega)])) <;> (first | rfl | (rw [vol_254 hB]) | (rw [vol_1 hB]) | (rw [vol_s hB (by omega)])))), rfl⟩
    · skip
      refine j_tabIn h 71 dX11_volume_14 (by omega) (by omega) (by omega) (by rw [c3]; rfl) (by decide) ?_
      refine j_aload_n h dX11_volume_71 0 rfl rfl ?_
      refine j_get h dX11_volume_72 f_X11_volume_12 0 rfl rfl ?_
      refine j_iconst h dX11_volume_75 ?_
      refine j_callVi (As := [.int (iI 1)]) (wr := [(h11, .inr (11, [.ref h0, .ref h2, .ref h10, .ref h4, .ref h8, .ref h9, .ref h5, .ref h6, .ref h3, .ref h1, .ref pg, .int (iI pb), .int (iI sb)])), (h10, .inr (10, [.ref c0, .ref h2, .ref pk0, .int (iI np)])), (h2, .inr (2, [.ref m0, .ref q0, .int (iI n)])), (m0, .inl (T 0, 2880, .inl (fun j : Nat => iI (M j)))), (q0, .inl (T 0, 2880, .inl (fun j : Nat => iI (Q j))))]) (cells' := 0) (slots' := 0) h dX11_volume_76 (ct_X0_count T h0 c0 B 1 (by first | assumption | omega) (by first | assumption | omega)) k_X0_count gX11_volume_X0_count rfl rfl 1 rfl ⟨Nat.le_of_ble_eq_true rfl, Nat.le_of_ble_eq_true rfl⟩ rfl rfl (Nat.le_of_ble_eq_true rfl) ⟨Nat.le_of_ble_eq_true rfl, Nat.le_of_ble_eq_true rfl⟩ rfl rfl [1, 6] [0, 2, 3, 4, 5] rfl rfl rfl rfl (by decide) (fun r9 u9 p13 => ?_)
      obtain ⟨rfl, rfl⟩ := p13
      have hn9 := cntI_rng (fun c => hk 1 (B c)) (k := 2880) (by omega)
      refine j_eq (ws' := [(h11, .inr (11, [.ref h0, .ref h2, .ref h10, .ref h4, .ref h8, .ref h9, .ref h5, .ref h6, .ref h3, .ref h1, .ref pg, .int (iI pb), .int (iI sb)])), (h10, .inr (10, [.ref c0, .ref h2, .ref pk0, .int (iI np)])), (h2, .inr (2, [.ref m0, .ref q0, .int (iI n)])), (m0, .inl (T 0, 2880, .inl (fun j : Nat => iI (M j)))), (q0, .inl (T 0, 2880, .inl (fun j : Nat => iI (Q j)))), (h0, .inr (0, [.ref c0])), (c0, .inl (T 0, 2880, .inl (fun j : Nat => iI (B j))))]) rfl rfl rfl rfl rfl rfl ?_
      refine j_aload_n h dX11_volume_79 0 rfl rfl ?_
      refine j_get h dX11_volume_80 f_X11_volume_28 0 rfl rfl ?_
      refine j_callVi (As := []) (wr := [(h11, .inr (11, [.ref h0, .ref h2, .ref h10, .ref h4, .ref h8, .ref h9, .ref h5, .ref h6, .ref h3, .ref h1, .ref pg, .int (iI pb), .int (iI sb)])), (h0, .inr (0, [.ref c0]))]) (cells' := 0) (slots' := 0) h dX11_volume_83 (ct_X10_countOpen T h10 c0 h2 pk0 np m0 q0 n M Q B (by first | assumption | omega)) k_X10_countOpen gX11_volume_X10_countOpen rfl rfl 1 rfl ⟨Nat.le_of_ble_eq_true rfl, Nat.le_of_ble_eq_true rfl⟩ rfl rfl (Nat.le_of_ble_eq_true rfl) ⟨Nat.le_of_ble_eq_true rfl, Nat.le_of_ble_eq_true rfl⟩ rfl rfl [1, 2, 3, 4, 6] [0, 5] rfl rfl rfl rfl (by decide) (fun r9 u9 p14 => ?_)
      obtain ⟨n115, M116, Q117, rfl, rfl⟩ := p14
      refine j_eq (ws' := [(h11, .inr (11, [.ref h0, .ref h2, .ref h10, .ref h4, .ref h8, .ref h9, .ref h5, .ref h6, .ref h3, .ref h1, .ref pg, .int (iI pb), .int (iI sb)])), (h0, .inr (0, [.ref c0])), (h10, .inr (10, [.ref c0, .ref h2, .ref pk0, .int (iI np)])), (h2, .inr (2, [.ref m0, .ref q0, .int (iI n115)])), (m0, .inl (T 0, 2880, .inl (fun j : Nat => iI (M116 j)))), (q0, .inl (T 0, 2880, .inl (fun j : Nat => iI (Q117 j)))), (c0, .inl (T 0, 2880, .inl (fun j : Nat => iI (B j))))]) rfl rfl rfl rfl rfl rfl ?_
      refine j_isub h dX11_volume_86 ?_
      exact hr _ _ _ _ dX11_volume_87 ⟨n115, M116, Q117, (congrArg iI (show ((cntI (fun c => hk 1 (B c)) 2880 - openN B) : Int) = (volS B w) by unfold volS; (repeat (first | rw [if_pos (by omega)] | rw [if_neg (by omega)])) <;> (first | rfl | (rw [vol_254 hB]) | (rw [vol_1 hB]) | (rw [vol_s hB (by omega)])))), rfl⟩
    · skip
      refine j_tabOut h 88 dX11_volume_14 (by omega) (by omega) (by decide) ?_
      refine j_aload_n h dX11_volume_88 0 rfl rfl ?_
      refine j_get h dX11_volume_89 f_X11_volume_12 0 rfl rfl ?_
      refine j_iconst h dX11_volume_92 ?_
      have hp2 := pow2_rng (s := w) (by omega)
      refine j_iload_n h dX11_volume_93 1 rfl rfl ?_
      refine j_ishl h dX11_volume_94 (by omega) ?_
      refine j_callVi (As := [.int (iI (1 * 2 ^ w.toNat))]) (wr := [(h11, .inr (11, [.ref h0, .ref h2, .ref h10, .ref h4, .ref h8, .ref h9, .ref h5, .ref h6, .ref h3, .ref h1, .ref pg, .int (iI pb), .int (iI sb)])), (h10, .inr (10, [.ref c0, .ref h2, .ref pk0, .int (iI np)])), (h2, .inr (2, [.ref m0, .ref q0, .int (iI n)])), (m0, .inl (T 0, 2880, .inl (fun j : Nat => iI (M j)))), (q0, .inl (T 0, 2880, .inl (fun j : Nat => iI (Q j))))]) (cells' := 0) (slots' := 0) h dX11_volume_95 (ct_X0_count T h0 c0 B (1 * 2 ^ w.toNat) (by first | assumption | omega) (by first | assumption | omega)) k_X0_count gX11_volume_X0_count rfl rfl 1 rfl ⟨Nat.le_of_ble_eq_true rfl, Nat.le_of_ble_eq_true rfl⟩ rfl rfl (Nat.le_of_ble_eq_true rfl) ⟨Nat.le_of_ble_eq_true rfl, Nat.le_of_ble_eq_true rfl⟩ rfl rfl [1, 6] [0, 2, 3, 4, 5] rfl rfl rfl rfl (by decide) (fun r9 u9 p18 => ?_)
      obtain ⟨rfl, rfl⟩ := p18
      have hn9 := cntI_rng (fun c => hk (1 * 2 ^ w.toNat) (B c)) (k := 2880) (by omega)
      refine j_eq (ws' := [(h11, .inr (11, [.ref h0, .ref h2, .ref h10, .ref h4, .ref h8, .ref h9, .ref h5, .ref h6, .ref h3, .ref h1, .ref pg, .int (iI pb), .int (iI sb)])), (h10, .inr (10, [.ref c0, .ref h2, .ref pk0, .int (iI np)])), (h2, .inr (2, [.ref m0, .ref q0, .int (iI n)])), (m0, .inl (T 0, 2880, .inl (fun j : Nat => iI (M j)))), (q0, .inl (T 0, 2880, .inl (fun j : Nat => iI (Q j)))), (h0, .inr (0, [.ref c0])), (c0, .inl (T 0, 2880, .inl (fun j : Nat => iI (B j))))]) rfl rfl rfl rfl rfl rfl ?_
      refine j_ws (ws' := [(h11, .inr (11, [.ref h0, .ref h2, .ref h10, .ref h4, .ref h8, .ref h9, .ref h5, .ref h6, .ref h3, .ref h1, .ref pg, .int (iI pb), .int (iI sb)])), (h0, .inr (0, [.ref c0])), (h10, .inr (10, [.ref c0, .ref h2, .ref pk0, .int (iI np)])), (h2, .inr (2, [.ref m0, .ref q0, .int (iI n)])), (m0, .inl (T 0, 2880, .inl (fun j : Nat => iI (M j)))), (q0, .inl (T 0, 2880, .inl (fun j : Nat => iI (Q j)))), (c0, .inl (T 0, 2880, .inl (fun j : Nat => iI (B j))))]) [0, 5, 1, 2, 3, 4, 6] rfl rfl ?_
      exact hr _ _ _ _ dX11_volume_98 ⟨n, M, Q, (congrArg iI (show (cntI (fun c => hk (1 * 2 ^ w.toNat) (B c)) 2880 : Int) = (volS B w) by unfold volS; (repeat (first | rw [if_pos (by omega)] | rw [if_neg (by omega)])) <;> (first | rfl | (rw [vol_254 hB]) | (rw [vol_1 hB]) | (rw [vol_s hB (by omega)])))), rfl⟩
  · skip
    replace c2 := of_decide_eq_false c2
    refine j_bipush h dX11_volume_10 (by decide) ?_
    exact hr _ _ _ _ dX11_volume_12 ⟨n, M, Q, (congrArg iI (show ((-102) : Int) = (volS B w) by unfold volS; (repeat (first | rw [if_pos (by omega)] | rw [if_neg (by omega)])) <;> (first | rfl | (rw [vol_254 hB]) | (rw [vol_1 hB]) | (rw [vol_s hB (by omega)])))), rfl⟩

abbrev rmX11_nets : Room := { frames := 3, cells := 0, slots := 0, locals := 72 }
theorem k_X11_isSet : CkOK yX11_isSet wsX11_isSet rmX11_isSet 0 0 cX11_isSet 1 (some .boolean) 1 := ⟨⟨_, rfl⟩, rfl, rfl, by decide +kernel⟩
theorem in_X11_nets_X11 : ∀ w ∈ u_ws RX11 TX11 13, w ∈ wsX11_nets := fun w hw => List.mem_cons_of_mem _ (List.mem_append_left _ (List.mem_append_left _ (List.mem_append_right _ (hw))))
theorem f_X11_nets_19 : FlOK RX11 19 wsX11_nets 11 1 := ⟨_, _, _, rfl, by decide, in_X11_nets_X11, List.mem_of_getElem? (i := 1) rfl⟩
theorem f_X11_nets_12 : FlOK RX11 12 wsX11_nets 11 0 := ⟨_, _, _, rfl, by decide, in_X11_nets_X11, List.mem_of_getElem? (i := 2) rfl⟩
theorem in_X11_nets_X0 : ∀ w ∈ u_ws RX0 TX0 1, w ∈ wsX11_nets := fun w hw => List.mem_cons_of_mem _ (List.mem_append_left _ (List.mem_append_right _ (hw)))
theorem f_X11_nets_132 : FnOK RX11 132 wsX11_nets 0 0 := ⟨_, _, _, "LayerShop", rfl, by decide, in_X11_nets_X0, List.mem_of_getElem? (i := 2) rfl⟩
theorem k_X11_kindsOf : CkOK yX11_kindsOf wsX11_kindsOf rmX11_kindsOf 0 0 cX11_kindsOf 1 (some .int) 1 := ⟨⟨_, rfl⟩, rfl, rfl, by decide +kernel⟩
theorem k_X2_markNets : CkOK yX2_markNets wsX2_markNets rmX2_markNets 0 0 cX2_markNets 5 (some .int) 2 := ⟨⟨_, rfl⟩, rfl, rfl, by decide +kernel⟩
set_option maxHeartbeats 600000 in
set_option maxRecDepth 100000 in
/-- nets -/
theorem ct_X11_nets (T : Nat → ClassId) (h11 : Nat) (h0 : Nat) (h2 : Nat) (h10 : Nat) (h4 : Nat) (h8 : Nat) (h9 : Nat) (h5 : Nat) (h6 : Nat) (h3 : Nat) (h1 : Nat) (pg : Nat) (pb : Int) (sb : Int) (c0 : Nat) (m0 : Nat) (q0 : Nat) (n : Int) (M : Int → Int) (Q : Int → Int) (B : Int → Int) (t : Int) (hB : BOK B) (ht : -2147483648 ≤ t ∧ t ≤ 2147483647) : CtI T yX11_nets wsX11_nets rmX11_nets 0 0 [.ref h11, .int (iI t)] [(h11, .inr (11, [.ref h0, .ref h2, .ref h10, .ref h4, .ref h8, .ref h9, .ref h5, .ref h6, .ref h3, .ref h1, .ref pg, .int (iI pb), .int (iI sb)])), (h0, .inr (0, [.ref c0])), (h2, .inr (2, [.ref m0, .ref q0, .int (iI n)])), (m0, .inl (T 0, 2880, .inl (fun j : Nat => iI (M j)))), (q0, .inl (T 0, 2880, .inl (fun j : Nat => iI (Q j)))), (c0, .inl (T 0, 2880, .inl (fun j : Nat => iI (B j))))] (fun r8 u => ∃ n2 : Int, ∃ M2 : Int → Int, ∃ Q2 : Int → Int, r8 = (iI (netsR B t)) ∧ u = [(h11, .inr (11, [.ref h0, .ref h2, .ref h10, .ref h4, .ref h8, .ref h9, .ref h5, .ref h6, .ref h3, .ref h1, .ref pg, .int (iI pb), .int (iI sb)])), (h0, .inr (0, [.ref c0])), (h2, .inr (2, [.ref m0, .ref q0, .int (iI n2)])), (m0, .inl (T 0, 2880, .inl (fun j : Nat => iI (M2 j)))), (q0, .inl (T 0, 2880, .inl (fun j : Nat => iI (Q2 j)))), (c0, .inl (T 0, 2880, .inl (fun j : Nat => iI (B j))))]) := by
  refine ctI_of (cc := cX11_nets) (maxL := 2) (ret := (some .int)) (by decide +kernel) rfl rfl (fun r u hp => by obtain ⟨_, _, _, rfl, -⟩ := hp; rfl) (Nat.le_of_ble_eq_true rfl) (fun X h hinit hr => ?_)
  refine j_eq (lv' := [(0, .ref h11), (1, .int (iI t))]) rfl rfl rfl rfl rfl rfl ?_
  refine j_iload_n h dX11_nets_0 1 rfl rfl ?_
  refine j_callSi (As := [.int (iI t)]) (wr := [(h11, .inr (11, [.ref h0, .ref h2, .ref h10, .ref h4, .ref h8, .ref h9, .ref h5, .ref h6, .ref h3, .ref h1, .ref pg, .int (iI pb), .int (iI sb)])), (h0, .inr (0, [.ref c0])), (h2, .inr (2, [.ref m0, .ref q0, .int (iI n)])), (m0, .inl (T 0, 2880, .inl (fun j : Nat => iI (M j)))), (q0, .inl (T 0, 2880, .inl (fun j : Nat => iI (Q j)))), (c0, .inl (T 0, 2880, .inl (fun j : Nat => iI (B j))))]) (cells' := 0) (slots' := 0) h dX11_nets_1 (ct_X11_isSet T t (by first | assumption | omega)) k_X11_isSet gX11_nets_X11_isSet ⟨Nat.le_of_ble_eq_true rfl, Nat.le_of_ble_eq_true rfl⟩ rfl rfl (Nat.le_of_ble_eq_true rfl) ⟨Nat.le_of_ble_eq_true rfl, Nat.le_of_ble_eq_true rfl⟩ rfl rfl [] [0, 1, 2, 3, 4, 5] rfl rfl rfl rfl (by decide) (fun r9 u9 p1 => ?_)
  obtain ⟨rfl, rfl⟩ := p1
  refine j_eq (ws' := [(h11, .inr (11, [.ref h0, .ref h2, .ref h10, .ref h4, .ref h8, .ref h9, .ref h5, .ref h6, .ref h3, .ref h1, .ref pg, .int (iI pb), .int (iI sb)])), (h0, .inr (0, [.ref c0])), (h2, .inr (2, [.ref m0, .ref q0, .int (iI n)])), (m0, .inl (T 0, 2880, .inl (fun j : Nat => iI (M j)))), (q0, .inl (T 0, 2880, .inl (fun j : Nat => iI (Q j)))), (c0, .inl (T 0, 2880, .inl (fun j : Nat => iI (B j))))]) rfl rfl rfl rfl rfl rfl ?_
  refine j_ifeqB h 28 dX11_nets_4 (by decide) (fun c2 => ?_) (fun c2 => ?_)
  · skip
    replace c2 := of_decide_eq_false c2
    refine j_bipush h dX11_nets_28 (by decide) ?_
    exact hr _ _ _ _ dX11_nets_30 ⟨n, M, Q, (congrArg iI (show ((-102) : Int) = (netsR B t) by unfold netsR; (repeat (first | rw [if_pos (by omega)] | rw [if_neg (by omega)])))), rfl⟩
  · skip
    replace c2 := of_decide_eq_true c2
    refine j_aload_n h dX11_nets_7 0 rfl rfl ?_
    refine j_get h dX11_nets_8 f_X11_nets_19 0 rfl rfl ?_
    refine j_aload_n h dX11_nets_11 0 rfl rfl ?_
    refine j_get h dX11_nets_12 f_X11_nets_12 0 rfl rfl ?_
    refine j_getN h dX11_nets_15 f_X11_nets_132 1 rfl rfl ?_
    refine j_iload_n h dX11_nets_18 1 rfl rfl ?_
    refine j_callSi (As := [.int (iI t)]) (wr := [(h11, .inr (11, [.ref h0, .ref h2, .ref h10, .ref h4, .ref h8, .ref h9, .ref h5, .ref h6, .ref h3, .ref h1, .ref pg, .int (iI pb), .int (iI sb)])), (h0, .inr (0, [.ref c0])), (h2, .inr (2, [.ref m0, .ref q0, .int (iI n)])), (m0, .inl (T 0, 2880, .inl (fun j : Nat => iI (M j)))), (q0, .inl (T 0, 2880, .inl (fun j : Nat => iI (Q j)))), (c0, .inl (T 0, 2880, .inl (fun j : Nat => iI (B j))))]) (cells' := 0) (slots' := 0) h dX11_nets_19 (ct_X11_kindsOf T t (by first | assumption | omega)) k_X11_kindsOf gX11_nets_X11_kindsOf ⟨Nat.le_of_ble_eq_true rfl, Nat.le_of_ble_eq_true rfl⟩ rfl rfl (Nat.le_of_ble_eq_true rfl) ⟨Nat.le_of_ble_eq_true rfl, Nat.le_of_ble_eq_true rfl⟩ rfl rfl [] [0, 1, 2, 3, 4, 5] rfl rfl rfl rfl (by decide) (fun r9 u9 p3 => ?_)
    obtain ⟨rfl, rfl⟩ := p3
    refine j_eq (ws' := [(h11, .inr (11, [.ref h0, .ref h2, .ref h10, .ref h4, .ref h8, .ref h9, .ref h5, .ref h6, .ref h3, .ref h1, .ref pg, .int (iI pb), .int (iI sb)])), (h0, .inr (0, [.ref c0])), (h2, .inr (2, [.ref m0, .ref q0, .int (iI n)])), (m0, .inl (T 0, 2880, .inl (fun j : Nat => iI (M j)))), (q0, .inl (T 0, 2880, .inl (fun j : Nat => iI (Q j)))), (c0, .inl (T 0, 2880, .inl (fun j : Nat => iI (B j))))]) rfl rfl rfl rfl rfl rfl ?_
    refine j_callVi (As := [.ref c0, .int (iI (2 * t))]) (wr := [(h11, .inr (11, [.ref h0, .ref h2, .ref h10, .ref h4, .ref h8, .ref h9, .ref h5, .ref h6, .ref h3, .ref h1, .ref pg, .int (iI pb), .int (iI sb)])), (h0, .inr (0, [.ref c0]))]) (cells' := 0) (slots' := 0) h dX11_nets_22 (ct_X2_markNets T h2 m0 q0 c0 M Q n B (2 * t) (by first | assumption | omega) (by first | assumption | omega)) k_X2_markNets gX11_nets_X2_markNets rfl rfl 2 rfl ⟨Nat.le_of_ble_eq_true rfl, Nat.le_of_ble_eq_true rfl⟩ rfl rfl (Nat.le_of_ble_eq_true rfl) ⟨Nat.le_of_ble_eq_true rfl, Nat.le_of_ble_eq_true rfl⟩ rfl rfl [2, 3, 4, 5] [0, 1] rfl rfl rfl rfl (by decide) (fun r9 u9 p4 => ?_)
    obtain ⟨n25, Q26, rfl, rfl⟩ := p4
    have hnc9 := netC_rng (2 * t) B
    have hnm9 := netM_rng (2 * t) B
    refine j_eq (ws' := [(h11, .inr (11, [.ref h0, .ref h2, .ref h10, .ref h4, .ref h8, .ref h9, .ref h5, .ref h6, .ref h3, .ref h1, .ref pg, .int (iI pb), .int (iI sb)])), (h0, .inr (0, [.ref c0])), (h2, .inr (2, [.ref m0, .ref q0, .int (iI n25)])), (m0, .inl (T 0, 2880, .inl (fun j : Nat => iI ((netM (2 * t) B) j)))), (q0, .inl (T 0, 2880, .inl (fun j : Nat => iI (Q26 j)))), (c0, .inl (T 0, 2880, .inl (fun j : Nat => iI (B j))))]) rfl rfl rfl rfl rfl rfl ?_
    refine j_goto (tgt := 30) h dX11_nets_25 (by decide) ?_
    exact hr _ _ _ _ dX11_nets_30 ⟨n25, (netM (2 * t) B), Q26, (congrArg iI (show (netC (2 * t) B : Int) = (netsR B t) by unfold netsR; (repeat (first | rw [if_pos (by omega)] | rw [if_neg (by omega)])))), rfl⟩

abbrev rmX11_netOf : Room := { frames := 3, cells := 0, slots := 0, locals := 72 }
theorem in_X11_netOf_X11 : ∀ w ∈ u_ws RX11 TX11 13, w ∈ wsX11_netOf := fun w hw => List.mem_cons_of_mem _ (List.mem_append_left _ (List.mem_append_left _ (List.mem_append_right _ (hw))))
theorem f_X11_netOf_19 : FlOK RX11 19 wsX11_netOf 11 1 := ⟨_, _, _, rfl, by decide, in_X11_netOf_X11, List.mem_of_getElem? (i := 1) rfl⟩
theorem f_X11_netOf_12 : FlOK RX11 12 wsX11_netOf 11 0 := ⟨_, _, _, rfl, by decide, in_X11_netOf_X11, List.mem_of_getElem? (i := 2) rfl⟩
theorem in_X11_netOf_X0 : ∀ w ∈ u_ws RX0 TX0 1, w ∈ wsX11_netOf := fun w hw => List.mem_cons_of_mem _ (List.mem_append_left _ (List.mem_append_right _ (hw)))
theorem f_X11_netOf_132 : FnOK RX11 132 wsX11_netOf 0 0 := ⟨_, _, _, "LayerShop", rfl, by decide, in_X11_netOf_X0, List.mem_of_getElem? (i := 2) rfl⟩
theorem k_X2_netAt : CkOK yX2_netAt wsX2_netAt rmX2_netAt 0 0 cX2_netAt 2 (some .int) 1 := ⟨⟨_, rfl⟩, rfl, rfl, by decide +kernel⟩
set_option maxHeartbeats 600000 in
set_option maxRecDepth 100000 in
/-- netOf -/
theorem ct_X11_netOf (T : Nat → ClassId) (h11 : Nat) (h0 : Nat) (h2 : Nat) (h10 : Nat) (h4 : Nat) (h8 : Nat) (h9 : Nat) (h5 : Nat) (h6 : Nat) (h3 : Nat) (h1 : Nat) (pg : Nat) (pb : Int) (sb : Int) (c0 : Nat) (m0 : Nat) (q0 : Nat) (n : Int) (M : Int → Int) (Q : Int → Int) (B : Int → Int) (p : Int) (z : Int) (t : Int) (hB : BOK B) (hp : -2147483648 ≤ p ∧ p ≤ 2147483647) (hz : -2147483648 ≤ z ∧ z ≤ 2147483647) (ht : -2147483648 ≤ t ∧ t ≤ 2147483647) : CtI T yX11_netOf wsX11_netOf rmX11_netOf 0 0 [.ref h11, .int (iI p), .int (iI z), .int (iI t)] [(h11, .inr (11, [.ref h0, .ref h2, .ref h10, .ref h4, .ref h8, .ref h9, .ref h5, .ref h6, .ref h3, .ref h1, .ref pg, .int (iI pb), .int (iI sb)])), (h0, .inr (0, [.ref c0])), (h2, .inr (2, [.ref m0, .ref q0, .int (iI n)])), (m0, .inl (T 0, 2880, .inl (fun j : Nat => iI (M j)))), (q0, .inl (T 0, 2880, .inl (fun j : Nat => iI (Q j)))), (c0, .inl (T 0, 2880, .inl (fun j : Nat => iI (B j))))] (fun r8 u => ∃ n2 : Int, ∃ M2 : Int → Int, ∃ Q2 : Int → Int, r8 = (iI (netOfR B p z t)) ∧ u = [(h11, .inr (11, [.ref h0, .ref h2, .ref h10, .ref h4, .ref h8, .ref h9, .ref h5, .ref h6, .ref h3, .ref h1, .ref pg, .int (iI pb), .int (iI sb)])), (h0, .inr (0, [.ref c0])), (h2, .inr (2, [.ref m0, .ref q0, .int (iI n2)])), (m0, .inl (T 0, 2880, .inl (fun j : Nat => iI (M2 j)))), (q0, .inl (T 0, 2880, .inl (fun j : Nat => iI (Q2 j)))), (c0, .inl (T 0, 2880, .inl (fun j : Nat => iI (B j))))]) := by
  refine ctI_of (cc := cX11_netOf) (maxL := 4) (ret := (some .int)) (by decide +kernel) rfl rfl (fun r u hp => by obtain ⟨_, _, _, rfl, -⟩ := hp; rfl) (Nat.le_of_ble_eq_true rfl) (fun X h hinit hr => ?_)
  refine j_eq (lv' := [(0, .ref h11), (1, .int (iI p)), (2, .int (iI z)), (3, .int (iI t))]) rfl rfl rfl rfl rfl rfl ?_
  refine j_iload_n h dX11_netOf_0 1 rfl rfl ?_
  refine j_callSi (As := [.int (iI p)]) (wr := [(h11, .inr (11, [.ref h0, .ref h2, .ref h10, .ref h4, .ref h8, .ref h9, .ref h5, .ref h6, .ref h3, .ref h1, .ref pg, .int (iI pb), .int (iI sb)])), (h0, .inr (0, [.ref c0])), (h2, .inr (2, [.ref m0, .ref q0, .int (iI n)])), (m0, .inl (T 0, 2880, .inl (fun j : Nat => iI (M j)))), (q0, .inl (T 0, 2880, .inl (fun j : Nat => iI (Q j)))), (c0, .inl (T 0, 2880, .inl (fun j : Nat => iI (B j))))]) (cells' := 0) (slots' := 0) h dX11_netOf_1 (ct_X11_isPlace T p (by first | assumption | omega)) k_X11_isPlace gX11_netOf_X11_isPlace ⟨Nat.le_of_ble_eq_true rfl, Nat.le_of_ble_eq_true rfl⟩ rfl rfl (Nat.le_of_ble_eq_true rfl) ⟨Nat.le_of_ble_eq_true rfl, Nat.le_of_ble_eq_true rfl⟩ rfl rfl [] [0, 1, 2, 3, 4, 5] rfl rfl rfl rfl (by decide) (fun r9 u9 p1 => ?_)
  obtain ⟨rfl, rfl⟩ := p1
  refine j_eq (ws' := [(h11, .inr (11, [.ref h0, .ref h2, .ref h10, .ref h4, .ref h8, .ref h9, .ref h5, .ref h6, .ref h3, .ref h1, .ref pg, .int (iI pb), .int (iI sb)])), (h0, .inr (0, [.ref c0])), (h2, .inr (2, [.ref m0, .ref q0, .int (iI n)])), (m0, .inl (T 0, 2880, .inl (fun j : Nat => iI (M j)))), (q0, .inl (T 0, 2880, .inl (fun j : Nat => iI (Q j)))), (c0, .inl (T 0, 2880, .inl (fun j : Nat => iI (B j))))]) rfl rfl rfl rfl rfl rfl ?_
  refine j_ifeqB h 14 dX11_netOf_4 (by decide) (fun c2 => ?_) (fun c2 => ?_)
  · skip
    replace c2 := of_decide_eq_false c2
    refine j_bipush h dX11_netOf_14 (by decide) ?_
    exact hr _ _ _ _ dX11_netOf_16 ⟨n, M, Q, (congrArg iI (show ((-101) : Int) = (netOfR B p z t) by unfold netOfR; (repeat (first | rw [if_pos (by omega)] | rw [if_neg (by omega)])) <;> (try (congr 2; omega)))), rfl⟩
  · skip
    replace c2 := of_decide_eq_true c2
    refine j_iload_n h dX11_netOf_7 2 rfl rfl ?_
    refine j_callSi (As := [.int (iI z)]) (wr := [(h11, .inr (11, [.ref h0, .ref h2, .ref h10, .ref h4, .ref h8, .ref h9, .ref h5, .ref h6, .ref h3, .ref h1, .ref pg, .int (iI pb), .int (iI sb)])), (h0, .inr (0, [.ref c0])), (h2, .inr (2, [.ref m0, .ref q0, .int (iI n)])), (m0, .inl (T 0, 2880, .inl (fun j : Nat => iI (M j)))), (q0, .inl (T 0, 2880, .inl (fun j : Nat => iI (Q j)))), (c0, .inl (T 0, 2880, .inl (fun j : Nat => iI (B j))))]) (cells' := 0) (slots' := 0) h dX11_netOf_8 (ct_X11_isHeight T z (by first | assumption | omega)) k_X11_isHeight gX11_netOf_X11_isHeight ⟨Nat.le_of_ble_eq_true rfl, Nat.le_of_ble_eq_true rfl⟩ rfl rfl (Nat.le_of_ble_eq_true rfl) ⟨Nat.le_of_ble_eq_true rfl, Nat.le_of_ble_eq_true rfl⟩ rfl rfl [] [0, 1, 2, 3, 4, 5] rfl rfl rfl rfl (by decide) (fun r9 u9 p3 => ?_)
    obtain ⟨rfl, rfl⟩ := p3
    refine j_eq (ws' := [(h11, .inr (11, [.ref h0, .ref h2, .ref h10, .ref h4, .ref h8, .ref h9, .ref h5, .ref h6, .ref h3, .ref h1, .ref pg, .int (iI pb), .int (iI sb)])), (h0, .inr (0, [.ref c0])), (h2, .inr (2, [.ref m0, .ref q0, .int (iI n)])), (m0, .inl (T 0, 2880, .inl (fun j : Nat => iI (M j)))), (q0, .inl (T 0, 2880, .inl (fun j : Nat => iI (Q j)))), (c0, .inl (T 0, 2880, .inl (fun j : Nat => iI (B j))))]) rfl rfl rfl rfl rfl rfl ?_
    refine j_ifneB h 17 dX11_netOf_11 (by decide) (fun c4 => ?_) (fun c4 => ?_)
    · skip
      replace c4 := of_decide_eq_true c4
      refine j_iload_n h dX11_netOf_17 3 rfl rfl ?_
      refine j_callSi (As := [.int (iI t)]) (wr := [(h11, .inr (11, [.ref h0, .ref h2, .ref h10, .ref h4, .ref h8, .ref h9, .ref h5, .ref h6, .ref h3, .ref h1, .ref pg, .int (iI pb), .int (iI sb)])), (h0, .inr (0, [.ref c0])), (h2, .inr (2, [.ref m0, .ref q0, .int (iI n)])), (m0, .inl (T 0, 2880, .inl (fun j : Nat => iI (M j)))), (q0, .inl (T 0, 2880, .inl (fun j : Nat => iI (Q j)))), (c0, .inl (T 0, 2880, .inl (fun j : Nat => iI (B j))))]) (cells' := 0) (slots' := 0) h dX11_netOf_18 (ct_X11_isSet T t (by first | assumption | omega)) k_X11_isSet gX11_netOf_X11_isSet ⟨Nat.le_of_ble_eq_true rfl, Nat.le_of_ble_eq_true rfl⟩ rfl rfl (Nat.le_of_ble_eq_true rfl) ⟨Nat.le_of_ble_eq_true rfl, Nat.le_of_ble_eq_true rfl⟩ rfl rfl [] [0, 1, 2, 3, 4, 5] rfl rfl rfl rfl (by decide) (fun r9 u9 p5 => ?_)
      obtain ⟨rfl, rfl⟩ := p5
      refine j_eq (ws' := [(h11, .inr (11, [.ref h0, .ref h2, .ref h10, .ref h4, .ref h8, .ref h9, .ref h5, .ref h6, .ref h3, .ref h1, .ref pg, .int (iI pb), .int (iI sb)])), (h0, .inr (0, [.ref c0])), (h2, .inr (2, [.ref m0, .ref q0, .int (iI n)])), (m0, .inl (T 0, 2880, .inl (fun j : Nat => iI (M j)))), (q0, .inl (T 0, 2880, .inl (fun j : Nat => iI (Q j)))), (c0, .inl (T 0, 2880, .inl (fun j : Nat => iI (B j))))]) rfl rfl rfl rfl rfl rfl ?_
      refine j_ifneB h 27 dX11_netOf_21 (by decide) (fun c6 => ?_) (fun c6 => ?_)
      · skip
        replace c6 := of_decide_eq_true c6
        refine j_aload_n h dX11_netOf_27 0 rfl rfl ?_
        refine j_get h dX11_netOf_28 f_X11_netOf_19 0 rfl rfl ?_
        refine j_aload_n h dX11_netOf_31 0 rfl rfl ?_
        refine j_get h dX11_netOf_32 f_X11_netOf_12 0 rfl rfl ?_
        refine j_getN h dX11_netOf_35 f_X11_netOf_132 1 rfl rfl ?_
        refine j_iload_n h dX11_netOf_38 3 rfl rfl ?_
        refine j_callSi (As := [.int (iI t)]) (wr := [(h11, .inr (11, [.ref h0, .ref h2, .ref h10, .ref h4, .ref h8, .ref h9, .ref h5, .ref h6, .ref h3, .ref h1, .ref pg, .int (iI pb), .int (iI sb)])), (h0, .inr (0, [.ref c0])), (h2, .inr (2, [.ref m0, .ref q0, .int (iI n)])), (m0, .inl (T 0, 2880, .inl (fun j : Nat => iI (M j)))), (q0, .inl (T 0, 2880, .inl (fun j : Nat => iI (Q j)))), (c0, .inl (T 0, 2880, .inl (fun j : Nat => iI (B j))))]) (cells' := 0) (slots' := 0) h dX11_netOf_39 (ct_X11_kindsOf T t (by first | assumption | omega)) k_X11_kindsOf gX11_netOf_X11_kindsOf ⟨Nat.le_of_ble_eq_true rfl, Nat.le_of_ble_eq_true rfl⟩ rfl rfl (Nat.le_of_ble_eq_true rfl) ⟨Nat.le_of_ble_eq_true rfl, Nat.le_of_ble_eq_true rfl⟩ rfl rfl [] [0, 1, 2, 3, 4, 5] rfl rfl rfl rfl (by decide) (fun r9 u9 p7 => ?_)
        obtain ⟨rfl, rfl⟩ := p7
        refine j_eq (ws' := [(h11, .inr (11, [.ref h0, .ref h2, .ref h10, .ref h4, .ref h8, .ref h9, .ref h5, .ref h6, .ref h3, .ref h1, .ref pg, .int (iI pb), .int (iI sb)])), (h0, .inr (0, [.ref c0])), (h2, .inr (2, [.ref m0, .ref q0, .int (iI n)])), (m0, .inl (T 0, 2880, .inl (fun j : Nat => iI (M j)))), (q0, .inl (T 0, 2880, .inl (fun j : Nat => iI (Q j)))), (c0, .inl (T 0, 2880, .inl (fun j : Nat => iI (B j))))]) rfl rfl rfl rfl rfl rfl ?_
        refine j_callVi (As := [.ref c0, .int (iI (2 * t))]) (wr := [(h11, .inr (11, [.ref h0, .ref h2, .ref h10, .ref h4, .ref h8, .ref h9, .ref h5, .ref h6, .ref h3, .ref h1, .ref pg, .int (iI pb), .int (iI sb)])), (h0, .inr (0, [.ref c0]))]) (cells' := 0) (slots' := 0) h dX11_netOf_42 (ct_X2_markNets T h2 m0 q0 c0 M Q n B (2 * t) (by first | assumption | omega) (by first | assumption | omega)) k_X2_markNets gX11_netOf_X2_markNets rfl rfl 2 rfl ⟨Nat.le_of_ble_eq_true rfl, Nat.le_of_ble_eq_true rfl⟩ rfl rfl (Nat.le_of_ble_eq_true rfl) ⟨Nat.le_of_ble_eq_true rfl, Nat.le_of_ble_eq_true rfl⟩ rfl rfl [2, 3, 4, 5] [0, 1] rfl rfl rfl rfl (by decide) (fun r9 u9 p8 => ?_)
        obtain ⟨n29, Q210, rfl, rfl⟩ := p8
        have hnc9 := netC_rng (2 * t) B
        have hnm9 := netM_rng (2 * t) B
        refine j_eq (ws' := [(h11, .inr (11, [.ref h0, .ref h2, .ref h10, .ref h4, .ref h8, .ref h9, .ref h5, .ref h6, .ref h3, .ref h1, .ref pg, .int (iI pb), .int (iI sb)])), (h0, .inr (0, [.ref c0])), (h2, .inr (2, [.ref m0, .ref q0, .int (iI n29)])), (m0, .inl (T 0, 2880, .inl (fun j : Nat => iI ((netM (2 * t) B) j)))), (q0, .inl (T 0, 2880, .inl (fun j : Nat => iI (Q210 j)))), (c0, .inl (T 0, 2880, .inl (fun j : Nat => iI (B j))))]) rfl rfl rfl rfl rfl rfl ?_
        refine j_pop h dX11_netOf_45 rfl ?_
        refine j_aload_n h dX11_netOf_46 0 rfl rfl ?_
        refine j_get h dX11_netOf_47 f_X11_netOf_19 0 rfl rfl ?_
        refine j_iload_n h dX11_netOf_50 2 rfl rfl ?_
        refine j_sipush h dX11_netOf_51 (by decide) ?_
        refine j_imul h dX11_netOf_54 ?_
        refine j_iload_n h dX11_netOf_55 1 rfl rfl ?_
        refine j_iadd h dX11_netOf_56 ?_
        refine j_callVi (As := [.int (iI ((z * 144) + p))]) (wr := [(h11, .inr (11, [.ref h0, .ref h2, .ref h10, .ref h4, .ref h8, .ref h9, .ref h5, .ref h6, .ref h3, .ref h1, .ref pg, .int (iI pb), .int (iI sb)])), (h0, .inr (0, [.ref c0])), (q0, .inl (T 0, 2880, .inl (fun j : Nat => iI (Q210 j)))), (c0, .inl (T 0, 2880, .inl (fun j : Nat => iI (B j))))]) (cells' := 0) (slots' := 0) h dX11_netOf_57 (ct_X2_netAt T h2 m0 q0 n29 (netM (2 * t) B) ((z * 144) + p) (by first | assumption | omega) (by first | assumption | omega)) k_X2_netAt gX11_netOf_X2_netAt rfl rfl 2 rfl ⟨Nat.le_of_ble_eq_true rfl, Nat.le_of_ble_eq_true rfl⟩ rfl rfl (Nat.le_of_ble_eq_true rfl) ⟨Nat.le_of_ble_eq_true rfl, Nat.le_of_ble_eq_true rfl⟩ rfl rfl [2, 3] [0, 1, 4, 5] rfl rfl rfl rfl (by decide) (fun r9 u9 p11 => ?_)
        obtain ⟨rfl, rfl⟩ := p11
        refine j_eq (ws' := [(h11, .inr (11, [.ref h0, .ref h2, .ref h10, .ref h4, .ref h8, .ref h9, .ref h5, .ref h6, .ref h3, .ref h1, .ref pg, .int (iI pb), .int (iI sb)])), (h0, .inr (0, [.ref c0])), (q0, .inl (T 0, 2880, .inl (fun j : Nat => iI (Q210 j)))), (c0, .inl (T 0, 2880, .inl (fun j : Nat => iI (B j)))), (h2, .inr (2, [.ref m0, .ref q0, .int (iI n29)])), (m0, .inl (T 0, 2880, .inl (fun j : Nat => iI ((netM (2 * t) B) j))))]) rfl rfl rfl rfl rfl rfl ?_
        refine j_ws (ws' := [(h11, .inr (11, [.ref h0, .ref h2, .ref h10, .ref h4, .ref h8, .ref h9, .ref h5, .ref h6, .ref h3, .ref h1, .ref pg, .int (iI pb), .int (iI sb)])), (h0, .inr (0, [.ref c0])), (h2, .inr (2, [.ref m0, .ref q0, .int (iI n29)])), (m0, .inl (T 0, 2880, .inl (fun j : Nat => iI ((netM (2 * t) B) j)))), (q0, .inl (T 0, 2880, .inl (fun j : Nat => iI (Q210 j)))), (c0, .inl (T 0, 2880, .inl (fun j : Nat => iI (B j))))]) [0, 1, 4, 5, 2, 3] rfl rfl ?_
        exact hr _ _ _ _ dX11_netOf_60 ⟨n29, (netM (2 * t) B), Q210, (congrArg iI (show (((netM (2 * t) B) ((z * 144) + p) - 1) : Int) = (netOfR B p z t) by unfold netOfR; (repeat (first | rw [if_pos (by omega)] | rw [if_neg (by omega)])) <;> (try (congr 2; omega)))), rfl⟩
      · skip
        replace c6 := of_decide_eq_false c6
        refine j_bipush h dX11_netOf_24 (by decide) ?_
        exact hr _ _ _ _ dX11_netOf_26 ⟨n, M, Q, (congrArg iI (show ((-102) : Int) = (netOfR B p z t) by unfold netOfR; (repeat (first | rw [if_pos (by omega)] | rw [if_neg (by omega)])) <;> (try (congr 2; omega)))), rfl⟩
    · skip
      replace c4 := of_decide_eq_false c4
      refine j_bipush h dX11_netOf_14 (by decide) ?_
      exact hr _ _ _ _ dX11_netOf_16 ⟨n, M, Q, (congrArg iI (show ((-101) : Int) = (netOfR B p z t) by unfold netOfR; (repeat (first | rw [if_pos (by omega)] | rw [if_neg (by omega)])) <;> (try (congr 2; omega)))), rfl⟩

abbrev rmX11_net : Room := { frames := 3, cells := 0, slots := 0, locals := 72 }
theorem in_X11_net_X11 : ∀ w ∈ u_ws RX11 TX11 13, w ∈ wsX11_net := fun w hw => List.mem_cons_of_mem _ (List.mem_append_left _ (List.mem_append_left _ (List.mem_append_right _ (hw))))
theorem f_X11_net_19 : FlOK RX11 19 wsX11_net 11 1 := ⟨_, _, _, rfl, by decide, in_X11_net_X11, List.mem_of_getElem? (i := 1) rfl⟩
theorem f_X11_net_12 : FlOK RX11 12 wsX11_net 11 0 := ⟨_, _, _, rfl, by decide, in_X11_net_X11, List.mem_of_getElem? (i := 2) rfl⟩
theorem in_X11_net_X0 : ∀ w ∈ u_ws RX0 TX0 1, w ∈ wsX11_net := fun w hw => List.mem_cons_of_mem _ (List.mem_append_left _ (List.mem_append_right _ (hw)))
theorem f_X11_net_132 : FnOK RX11 132 wsX11_net 0 0 := ⟨_, _, _, "LayerShop", rfl, by decide, in_X11_net_X0, List.mem_of_getElem? (i := 2) rfl⟩
theorem k_X2_leastOfNet : CkOK yX2_leastOfNet wsX2_leastOfNet rmX2_leastOfNet 0 0 cX2_leastOfNet 3 (some .int) 1 := ⟨⟨_, rfl⟩, rfl, rfl, by decide +kernel⟩
theorem k_X2_sizeOfNet : CkOK yX2_sizeOfNet wsX2_sizeOfNet rmX2_sizeOfNet 0 0 cX2_sizeOfNet 4 (some .int) 1 := ⟨⟨_, rfl⟩, rfl, rfl, by decide +kernel⟩
theorem k_X2_greatestOfNet : CkOK yX2_greatestOfNet wsX2_greatestOfNet rmX2_greatestOfNet 0 0 cX2_greatestOfNet 3 (some .int) 1 := ⟨⟨_, rfl⟩, rfl, rfl, by decide +kernel⟩
theorem k_X2_placesOfNet : CkOK yX2_placesOfNet wsX2_placesOfNet rmX2_placesOfNet 0 0 cX2_placesOfNet 4 (some .int) 1 := ⟨⟨_, rfl⟩, rfl, rfl, by decide +kernel⟩
set_option maxHeartbeats 600000 in
set_option maxRecDepth 100000 in
/-- net -/
theorem ct_X11_net (T : Nat → ClassId) (h11 : Nat) (h0 : Nat) (h2 : Nat) (h10 : Nat) (h4 : Nat) (h8 : Nat) (h9 : Nat) (h5 : Nat) (h6 : Nat) (h3 : Nat) (h1 : Nat) (pg : Nat) (pb : Int) (sb : Int) (c0 : Nat) (m0 : Nat) (q0 : Nat) (n : Int) (M : Int → Int) (Q : Int → Int) (B : Int → Int) (i : Int) (t : Int) (w : Int) (hB : BOK B) (hi : -2147483648 ≤ i ∧ i ≤ 2147483647) (ht : -2147483648 ≤ t ∧ t ≤ 2147483647) (hw : -2147483648 ≤ w ∧ w ≤ 2147483647) : CtI T yX11_net wsX11_net rmX11_net 0 0 [.ref h11, .int (iI i), .int (iI t), .int (iI w)] [(h11, .inr (11, [.ref h0, .ref h2, .ref h10, .ref h4, .ref h8, .ref h9, .ref h5, .ref h6, .ref h3, .ref h1, .ref pg, .int (iI pb), .int (iI sb)])), (h0, .inr (0, [.ref c0])), (h2, .inr (2, [.ref m0, .ref q0, .int (iI n)])), (m0, .inl (T 0, 2880, .inl (fun j : Nat => iI (M j)))), (q0, .inl (T 0, 2880, .inl (fun j : Nat => iI (Q j)))), (c0, .inl (T 0, 2880, .inl (fun j : Nat => iI (B j))))] (fun r8 u => ∃ n2 : Int, ∃ M2 : Int → Int, ∃ Q2 : Int → Int, r8 = (iI (netR B i t w)) ∧ u = [(h11, .inr (11, [.ref h0, .ref h2, .ref h10, .ref h4, .ref h8, .ref h9, .ref h5, .ref h6, .ref h3, .ref h1, .ref pg, .int (iI pb), .int (iI sb)])), (h0, .inr (0, [.ref c0])), (h2, .inr (2, [.ref m0, .ref q0, .int (iI n2)])), (m0, .inl (T 0, 2880, .inl (fun j : Nat => iI (M2 j)))), (q0, .inl (T 0, 2880, .inl (fun j : Nat => iI (Q2 j)))), (c0, .inl (T 0, 2880, .inl (fun j : Nat => iI (B j))))]) := by
  refine ctI_of (cc := cX11_net) (maxL := 4) (ret := (some .int)) (by decide +kernel) rfl rfl (fun r u hp => by obtain ⟨_, _, _, rfl, -⟩ := hp; rfl) (Nat.le_of_ble_eq_true rfl) (fun X h hinit hr => ?_)
  refine j_eq (lv' := [(0, .ref h11), (1, .int (iI i)), (2, .int (iI t)), (3, .int (iI w))]) rfl rfl rfl rfl rfl rfl ?_
  refine j_iload_n h dX11_net_0 2 rfl rfl ?_
  refine j_callSi (As := [.int (iI t)]) (wr := [(h11, .inr (11, [.ref h0, .ref h2, .ref h10, .ref h4, .ref h8, .ref h9, .ref h5, .ref h6, .ref h3, .ref h1, .ref pg, .int (iI pb), .int (iI sb)])), (h0, .inr (0, [.ref c0])), (h2, .inr (2, [.ref m0, .ref q0, .int (iI n)])), (m0, .inl (T 0, 2880, .inl (fun j : Nat => iI (M j)))), (q0, .inl (T 0, 2880, .inl (fun j : Nat => iI (Q j)))), (c0, .inl (T 0, 2880, .inl (fun j : Nat => iI (B j))))]) (cells' := 0) (slots' := 0) h dX11_net_1 (ct_X11_isSet T t (by first | assumption | omega)) k_X11_isSet gX11_net_X11_isSet ⟨Nat.le_of_ble_eq_true rfl, Nat.le_of_ble_eq_true rfl⟩ rfl rfl (Nat.le_of_ble_eq_true rfl) ⟨Nat.le_of_ble_eq_true rfl, Nat.le_of_ble_eq_true rfl⟩ rfl rfl [] [0, 1, 2, 3, 4, 5] rfl rfl rfl rfl (by decide) (fun r9 u9 p1 => ?_)
  obtain ⟨rfl, rfl⟩ := p1
  refine j_eq (ws' := [(h11, .inr (11, [.ref h0, .ref h2, .ref h10, .ref h4, .ref h8, .ref h9, .ref h5, .ref h6, .ref h3, .ref h1, .ref pg, .int (iI pb), .int (iI sb)])), (h0, .inr (0, [.ref c0])), (h2, .inr (2, [.ref m0, .ref q0, .int (iI n)])), (m0, .inl (T 0, 2880, .inl (fun j : Nat => iI (M j)))), (q0, .inl (T 0, 2880, .inl (fun j : Nat => iI (Q j)))), (c0, .inl (T 0, 2880, .inl (fun j : Nat => iI (B j))))]) rfl rfl rfl rfl rfl rfl ?_
  refine j_ifneB h 10 dX11_net_4 (by decide) (fun c2 => ?_) (fun c2 => ?_)
  · skip
    replace c2 := of_decide_eq_true c2
    refine j_iload_n h dX11_net_10 1 rfl rfl ?_
    refine j_iconst h dX11_net_11 ?_
    refine j_aload_n h dX11_net_12 0 rfl rfl ?_
    refine j_get h dX11_net_13 f_X11_net_19 0 rfl rfl ?_
    refine j_aload_n h dX11_net_16 0 rfl rfl ?_
    refine j_get h dX11_net_17 f_X11_net_12 0 rfl rfl ?_
    refine j_getN h dX11_net_20 f_X11_net_132 1 rfl rfl ?_
    refine j_iload_n h dX11_net_23 2 rfl rfl ?_
    refine j_callSi (As := [.int (iI t)]) (wr := [(h11, .inr (11, [.ref h0, .ref h2, .ref h10, .ref h4, .ref h8, .ref h9, .ref h5, .ref h6, .ref h3, .ref h1, .ref pg, .int (iI pb), .int (iI sb)])), (h0, .inr (0, [.ref c0])), (h2, .inr (2, [.ref m0, .ref q0, .int (iI n)])), (m0, .inl (T 0, 2880, .inl (fun j : Nat => iI (M j)))), (q0, .inl (T 0, 2880, .inl (fun j : Nat => iI (Q j)))), (c0, .inl (T 0, 2880, .inl (fun j : Nat => iI (B j))))]) (cells' := 0) (slots' := 0) h dX11_net_24 (ct_X11_kindsOf T t (by first | assumption | omega)) k_X11_kindsOf gX11_net_X11_kindsOf ⟨Nat.le_of_ble_eq_true rfl, Nat.le_of_ble_eq_true rfl⟩ rfl rfl (Nat.le_of_ble_eq_true rfl) ⟨Nat.le_of_ble_eq_true rfl, Nat.le_of_ble_eq_true rfl⟩ rfl rfl [] [0, 1, 2, 3, 4, 5] rfl rfl rfl rfl (by decide) (fun r9 u9 p3 => ?_)
    obtain ⟨rfl, rfl⟩ := p3
    refine j_eq (ws' := [(h11, .inr (11, [.ref h0, .ref h2, .ref h10, .ref h4, .ref h8, .ref h9, .ref h5, .ref h6, .ref h3, .ref h1, .ref pg, .int (iI pb), .int (iI sb)])), (h0, .inr (0, [.ref c0])), (h2, .inr (2, [.ref m0, .ref q0, .int (iI n)])), (m0, .inl (T 0, 2880, .inl (fun j : Nat => iI (M j)))), (q0, .inl (T 0, 2880, .inl (fun j : Nat => iI (Q j)))), (c0, .inl (T 0, 2880, .inl (fun j : Nat => iI (B j))))]) rfl rfl rfl rfl rfl rfl ?_
    refine j_callVi (As := [.ref c0, .int (iI (2 * t))]) (wr := [(h11, .inr (11, [.ref h0, .ref h2, .ref h10, .ref h4, .ref h8, .ref h9, .ref h5, .ref h6, .ref h3, .ref h1, .ref pg, .int (iI pb), .int (iI sb)])), (h0, .inr (0, [.ref c0]))]) (cells' := 0) (slots' := 0) h dX11_net_27 (ct_X2_markNets T h2 m0 q0 c0 M Q n B (2 * t) (by first | assumption | omega) (by first | assumption | omega)) k_X2_markNets gX11_net_X2_markNets rfl rfl 2 rfl ⟨Nat.le_of_ble_eq_true rfl, Nat.le_of_ble_eq_true rfl⟩ rfl rfl (Nat.le_of_ble_eq_true rfl) ⟨Nat.le_of_ble_eq_true rfl, Nat.le_of_ble_eq_true rfl⟩ rfl rfl [2, 3, 4, 5] [0, 1] rfl rfl rfl rfl (by decide) (fun r9 u9 p4 => ?_)
    obtain ⟨n25, Q26, rfl, rfl⟩ := p4
    have hnc9 := netC_rng (2 * t) B
    have hnm9 := netM_rng (2 * t) B
    refine j_eq (ws' := [(h11, .inr (11, [.ref h0, .ref h2, .ref h10, .ref h4, .ref h8, .ref h9, .ref h5, .ref h6, .ref h3, .ref h1, .ref pg, .int (iI pb), .int (iI sb)])), (h0, .inr (0, [.ref c0])), (h2, .inr (2, [.ref m0, .ref q0, .int (iI n25)])), (m0, .inl (T 0, 2880, .inl (fun j : Nat => iI ((netM (2 * t) B) j)))), (q0, .inl (T 0, 2880, .inl (fun j : Nat => iI (Q26 j)))), (c0, .inl (T 0, 2880, .inl (fun j : Nat => iI (B j))))]) rfl rfl rfl rfl rfl rfl ?_
    refine j_iconst h dX11_net_30 ?_
    refine j_isub h dX11_net_31 ?_
    refine j_callSi (As := [.int (iI i), .int (iI 0), .int (iI (netC (2 * t) B - 1))]) (wr := [(h11, .inr (11, [.ref h0, .ref h2, .ref h10, .ref h4, .ref h8, .ref h9, .ref h5, .ref h6, .ref h3, .ref h1, .ref pg, .int (iI pb), .int (iI sb)])), (h0, .inr (0, [.ref c0])), (h2, .inr (2, [.ref m0, .ref q0, .int (iI n25)])), (m0, .inl (T 0, 2880, .inl (fun j : Nat => iI ((netM (2 * t) B) j)))), (q0, .inl (T 0, 2880, .inl (fun j : Nat => iI (Q26 j)))), (c0, .inl (T 0, 2880, .inl (fun j : Nat => iI (B j))))]) (cells' := 0) (slots' := 0) h dX11_net_32 (ct_X11_within T i 0 (netC (2 * t) B - 1) (by first | assumption | omega) (by first | assumption | omega) (by first | assumption | omega)) k_X11_within gX11_net_X11_within ⟨Nat.le_of_ble_eq_true rfl, Nat.le_of_ble_eq_true rfl⟩ rfl rfl (Nat.le_of_ble_eq_true rfl) ⟨Nat.le_of_ble_eq_true rfl, Nat.le_of_ble_eq_true rfl⟩ rfl rfl [] [0, 1, 2, 3, 4, 5] rfl rfl rfl rfl (by decide) (fun r9 u9 p7 => ?_)
    obtain ⟨rfl, rfl⟩ := p7
    refine j_eq (ws' := [(h11, .inr (11, [.ref h0, .ref h2, .ref h10, .ref h4, .ref h8, .ref h9, .ref h5, .ref h6, .ref h3, .ref h1, .ref pg, .int (iI pb), .int (iI sb)])), (h0, .inr (0, [.ref c0])), (h2, .inr (2, [.ref m0, .ref q0, .int (iI n25)])), (m0, .inl (T 0, 2880, .inl (fun j : Nat => iI ((netM (2 * t) B) j)))), (q0, .inl (T 0, 2880, .inl (fun j : Nat => iI (Q26 j)))), (c0, .inl (T 0, 2880, .inl (fun j : Nat => iI (B j))))]) rfl rfl rfl rfl rfl rfl ?_
    refine j_ifneB h 41 dX11_net_35 (by decide) (fun c8 => ?_) (fun c8 => ?_)
    · skip
      replace c8 := of_decide_eq_true c8
      refine j_iload_n h dX11_net_41 3 rfl rfl ?_
      rcases (show w = 0 ∨ w = 1 ∨ w = 2 ∨ w = 3 ∨ w = 4 ∨ (w < 0 ∨ 4 < w) by omega) with c9 | c9 | c9 | c9 | c9 | c9
      · skip
        refine j_tabIn h 76 dX11_net_42 (by omega) (by omega) (by omega) (by rw [c9]; rfl) (by decide) ?_
        refine j_aload_n h dX11_net_76 0 rfl rfl ?_
        refine j_get h dX11_net_77 f_X11_net_19 0 rfl rfl ?_
        refine j_iload_n h dX11_net_80 1 rfl rfl ?_
        refine j_callVi (As := [.int (iI i)]) (wr := [(h11, .inr (11, [.ref h0, .ref h2, .ref h10, .ref h4, .ref h8, .ref h9, .ref h5, .ref h6, .ref h3, .ref h1, .ref pg, .int (iI pb), .int (iI sb)])), (h0, .inr (0, [.ref c0])), (q0, .inl (T 0, 2880, .inl (fun j : Nat => iI (Q26 j)))), (c0, .inl (T 0, 2880, .inl (fun j : Nat => iI (B j))))]) (cells' := 0) (slots' := 0) h dX11_net_81 (ct_X2_leastOfNet T h2 m0 q0 n25 (netM (2 * t) B) i (by first | assumption | omega) (by first | assumption | omega)) k_X2_leastOfNet gX11_net_X2_leastOfNet rfl rfl 2 rfl ⟨Nat.le_of_ble_eq_true rfl, Nat.le_of_ble_eq_true rfl⟩ rfl rfl (Nat.le_of_ble_eq_true rfl) ⟨Nat.le_of_ble_eq_true rfl, Nat.le_of_ble_eq_true rfl⟩ rfl rfl [2, 3] [0, 1, 4, 5] rfl rfl rfl rfl (by decide) (fun r9 u9 p10 => ?_)
        obtain ⟨rfl, rfl⟩ := p10
        have hf9 := @fuI_rng (fun c => decide ((netM (2 * t) B) c = i + 1)) 0 2880 (by omega)
        refine j_eq (ws' := [(h11, .inr (11, [.ref h0, .ref h2, .ref h10, .ref h4, .ref h8, .ref h9, .ref h5, .ref h6, .ref h3, .ref h1, .ref pg, .int (iI pb), .int (iI sb)])), (h0, .inr (0, [.ref c0])), (q0, .inl (T 0, 2880, .inl (fun j : Nat => iI (Q26 j)))), (c0, .inl (T 0, 2880, .inl (fun j : Nat => iI (B j)))), (h2, .inr (2, [.ref m0, .ref q0, .int (iI n25)])), (m0, .inl (T 0, 2880, .inl (fun j : Nat => iI ((netM (2 * t) B) j))))]) rfl rfl rfl rfl rfl rfl ?_
        refine j_ws (ws' := [(h11, .inr (11, [.ref h0, .ref h2, .ref h10, .ref h4, .ref h8, .ref h9, .ref h5, .ref h6, .ref h3, .ref h1, .ref pg, .int (iI pb), .int (iI sb)])), (h0, .inr (0, [.ref c0])), (h2, .inr (2, [.ref m0, .ref q0, .int (iI n25)])), (m0, .inl (T 0, 2880, .inl (fun j : Nat => iI ((netM (2 * t) B) j)))), (q0, .inl (T 0, 2880, .inl (fun j : Nat => iI (Q26 j)))), (c0, .inl (T 0, 2880, .inl (fun j : Nat => iI (B j))))]) [0, 1, 4, 5, 2, 3] rfl rfl ?_
        exact hr _ _ _ _ dX11_net_84 ⟨n25, (netM (2 * t) B), Q26, (congrArg iI (show (fuI (fun c => decide ((netM (2 * t) B) c = i + 1)) 0 2880 : Int) = (netR B i t w) by unfold netR; (repeat (first | rw [if_pos (by omega)] | rw [if_neg (by omega)])) <;> rfl)), rfl⟩
      · skip
        refine j_tabIn h 85 dX11_net_42 (by omega) (by omega) (by omega) (by rw [c9]; rfl) (by decide) ?_
        refine j_aload_n h dX11_net_85 0 rfl rfl ?_
        refine j_get h dX11_net_86 f_X11_net_19 0 rfl rfl ?_
        refine j_iload_n h dX11_net_89 1 rfl rfl ?_
        refine j_callVi (As := [.int (iI i)]) (wr := [(h11, .inr (11, [.ref h0, .ref h2, .ref h10, .ref h4, .ref h8, .ref h9, .ref h5, .ref h6, .ref h3, .ref h1, .ref pg, .int (iI pb), .int (iI sb)])), (h0, .inr (0, [.ref c0])), (q0, .inl (T 0, 2880, .inl (fun j : Nat => iI (Q26 j)))), (c0, .inl (T 0, 2880, .inl (fun j : Nat => iI (B j))))]) (cells' := 0) (slots' := 0) h dX11_net_90 (ct_X2_sizeOfNet T h2 m0 q0 n25 (netM (2 * t) B) i (by first | assumption | omega) (by first | assumption | omega)) k_X2_sizeOfNet gX11_net_X2_sizeOfNet rfl rfl 2 rfl ⟨Nat.le_of_ble_eq_true rfl, Nat.le_of_ble_eq_true rfl⟩ rfl rfl (Nat.le_of_ble_eq_true rfl) ⟨Nat.le_of_ble_eq_true rfl, Nat.le_of_ble_eq_true rfl⟩ rfl rfl [2, 3] [0, 1, 4, 5] rfl rfl rfl rfl (by decide) (fun r9 u9 p11 => ?_)
        obtain ⟨rfl, rfl⟩ := p11
        refine j_eq (ws' := [(h11, .inr (11, [.ref h0, .ref h2, .ref h10, .ref h4, .ref h8, .ref h9, .ref h5, .ref h6, .ref h3, .ref h1, .ref pg, .int (iI pb), .int (iI sb)])), (h0, .inr (0, [.ref c0])), (q0, .inl (T 0, 2880, .inl (fun j : Nat => iI (Q26 j)))), (c0, .inl (T 0, 2880, .inl (fun j : Nat => iI (B j)))), (h2, .inr (2, [.ref m0, .ref q0, .int (iI n25)])), (m0, .inl (T 0, 2880, .inl (fun j : Nat => iI ((netM (2 * t) B) j))))]) rfl rfl rfl rfl rfl rfl ?_
        refine j_ws (ws' := [(h11, .inr (11, [.ref h0, .ref h2, .ref h10, .ref h4, .ref h8, .ref h9, .ref h5, .ref h6, .ref h3, .ref h1, .ref pg, .int (iI pb), .int (iI sb)])), (h0, .inr (0, [.ref c0])), (h2, .inr (2, [.ref m0, .ref q0, .int (iI n25)])), (m0, .inl (T 0, 2880, .inl (fun j : Nat => iI ((netM (2 * t) B) j)))), (q0, .inl (T 0, 2880, .inl (fun j : Nat => iI (Q26 j)))), (c0, .inl (T 0, 2880, .inl (fun j : Nat => iI (B j))))]) [0, 1, 4, 5, 2, 3] rfl rfl ?_
        exact hr _ _ _ _ dX11_net_93 ⟨n25, (netM (2 * t) B), Q26, (congrArg iI (show (cntI (fun c => decide ((netM (2 * t) B) c = i + 1)) 2880 : Int) = (netR B i t w) by unfold netR; (repeat (first | rw [if_pos (by omega)] | rw [if_neg (by omega)])) <;> rfl)), rfl⟩
      · skip
        refine j_tabIn h 94 dX11_net_42 (by omega) (by omega) (by omega) (by rw [c9]; rfl) (by decide) ?_
        refine j_aload_n h dX11_net_94 0 rfl rfl ?_
        refine j_get h dX11_net_95 f_X11_net_19 0 rfl rfl ?_
        refine j_iload_n h dX11_net_98 1 rfl rfl ?_
        refine j_callVi (As := [.int (iI i)]) (wr := [(h11, .inr (11, [.ref h0, .ref h2, .ref h10, .ref h4, .ref h8, .ref h9, .ref h5, .ref h6, .ref h3, .ref h1, .ref pg, .int (iI pb), .int (iI sb)])), (h0, .inr (0, [.ref c0])), (q0, .inl (T 0, 2880, .inl (fun j : Nat => iI (Q26 j)))), (c0, .inl (T 0, 2880, .inl (fun j : Nat => iI (B j))))]) (cells' := 0) (slots' := 0) h dX11_net_99 (ct_X2_leastOfNet T h2 m0 q0 n25 (netM (2 * t) B) i (by first | assumption | omega) (by first | assumption | omega)) k_X2_leastOfNet gX11_net_X2_leastOfNet rfl rfl 2 rfl ⟨Nat.le_of_ble_eq_true rfl, Nat.le_of_ble_eq_true rfl⟩ rfl rfl (Nat.le_of_ble_eq_true rfl) ⟨Nat.le_of_ble_eq_true rfl, Nat.le_of_ble_eq_true rfl⟩ rfl rfl [2, 3] [0, 1, 4, 5] rfl rfl rfl rfl (by decide) (fun r9 u9 p12 => ?_)
        obtain ⟨rfl, rfl⟩ := p12
        have hf9 := @fuI_rng (fun c => decide ((netM (2 * t) B) c = i + 1)) 0 2880 (by omega)
        refine j_eq (ws' := [(h11, .inr (11, [.ref h0, .ref h2, .ref h10, .ref h4, .ref h8, .ref h9, .ref h5, .ref h6, .ref h3, .ref h1, .ref pg, .int (iI pb), .int (iI sb)])), (h0, .inr (0, [.ref c0])), (q0, .inl (T 0, 2880, .inl (fun j : Nat => iI (Q26 j)))), (c0, .inl (T 0, 2880, .inl (fun j : Nat => iI (B j)))), (h2, .inr (2, [.ref m0, .ref q0, .int (iI n25)])), (m0, .inl (T 0, 2880, .inl (fun j : Nat => iI ((netM (2 * t) B) j))))]) rfl rfl rfl rfl rfl rfl ?_
        refine j_sipush h dX11_net_102 (by decide) ?_
        refine j_idiv h dX11_net_105 (by have := netP_fu (B := B) (t := t) (i := i) (by omega); unfold netP at this; omega) (by omega) ?_
        refine j_ws (ws' := [(h11, .inr (11, [.ref h0, .ref h2, .ref h10, .ref h4, .ref h8, .ref h9, .ref h5, .ref h6, .ref h3, .ref h1, .ref pg, .int (iI pb), .int (iI sb)])), (h0, .inr (0, [.ref c0])), (h2, .inr (2, [.ref m0, .ref q0, .int (iI n25)])), (m0, .inl (T 0, 2880, .inl (fun j : Nat => iI ((netM (2 * t) B) j)))), (q0, .inl (T 0, 2880, .inl (fun j : Nat => iI (Q26 j)))), (c0, .inl (T 0, 2880, .inl (fun j : Nat => iI (B j))))]) [0, 1, 4, 5, 2, 3] rfl rfl ?_
        exact hr _ _ _ _ dX11_net_106 ⟨n25, (netM (2 * t) B), Q26, (congrArg iI (show ((fuI (fun c => decide ((netM (2 * t) B) c = i + 1)) 0 2880 / 144) : Int) = (netR B i t w) by unfold netR; (repeat (first | rw [if_pos (by omega)] | rw [if_neg (by omega)])) <;> rfl)), rfl⟩
      · skip
        refine j_tabIn h 107 dX11_net_42 (by omega) (by omega) (by omega) (by rw [c9]; rfl) (by decide) ?_
        refine j_aload_n h dX11_net_107 0 rfl rfl ?_
        refine j_get h dX11_net_108 f_X11_net_19 0 rfl rfl ?_
        refine j_iload_n h dX11_net_111 1 rfl rfl ?_
        refine j_callVi (As := [.int (iI i)]) (wr := [(h11, .inr (11, [.ref h0, .ref h2, .ref h10, .ref h4, .ref h8, .ref h9, .ref h5, .ref h6, .ref h3, .ref h1, .ref pg, .int (iI pb), .int (iI sb)])), (h0, .inr (0, [.ref c0])), (q0, .inl (T 0, 2880, .inl (fun j : Nat => iI (Q26 j)))), (c0, .inl (T 0, 2880, .inl (fun j : Nat => iI (B j))))]) (cells' := 0) (slots' := 0) h dX11_net_112 (ct_X2_greatestOfNet T h2 m0 q0 n25 (netM (2 * t) B) i (by first | assumption | omega) (by first | assumption | omega)) k_X2_greatestOfNet gX11_net_X2_greatestOfNet rfl rfl 2 rfl ⟨Nat.le_of_ble_eq_true rfl, Nat.le_of_ble_eq_true rfl⟩ rfl rfl (Nat.le_of_ble_eq_true rfl) ⟨Nat.le_of_ble_eq_true rfl, Nat.le_of_ble_eq_true rfl⟩ rfl rfl [2, 3] [0, 1, 4, 5] rfl rfl rfl rfl (by decide) (fun r9 u9 p13 => ?_)
        obtain ⟨rfl, rfl⟩ := p13
        have hf9 := @fdI_rng (fun c => decide ((netM (2 * t) B) c = i + 1)) 2880 (by omega)
        refine j_eq (ws' := [(h11, .inr (11, [.ref h0, .ref h2, .ref h10, .ref h4, .ref h8, .ref h9, .ref h5, .ref h6, .ref h3, .ref h1, .ref pg, .int (iI pb), .int (iI sb)])), (h0, .inr (0, [.ref c0])), (q0, .inl (T 0, 2880, .inl (fun j : Nat => iI (Q26 j)))), (c0, .inl (T 0, 2880, .inl (fun j : Nat => iI (B j)))), (h2, .inr (2, [.ref m0, .ref q0, .int (iI n25)])), (m0, .inl (T 0, 2880, .inl (fun j : Nat => iI ((netM (2 * t) B) j))))]) rfl rfl rfl rfl rfl rfl ?_
        refine j_sipush h dX11_net_115 (by decide) ?_
        refine j_idiv h dX11_net_118 (by have := netP_fd (B := B) (t := t) (i := i) (by omega); unfold netP at this; omega) (by omega) ?_
        refine j_ws (ws' := [(h11, .inr (11, [.ref h0, .ref h2, .ref h10, .ref h4, .ref h8, .ref h9, .ref h5, .ref h6, .ref h3, .ref h1, .ref pg, .int (iI pb), .int (iI sb)])), (h0, .inr (0, [.ref c0])), (h2, .inr (2, [.ref m0, .ref q0, .int (iI n25)])), (m0, .inl (T 0, 2880, .inl (fun j : Nat => iI ((netM (2 * t) B) j)))), (q0, .inl (T 0, 2880, .inl (fun j : Nat => iI (Q26 j)))), (c0, .inl (T 0, 2880, .inl (fun j : Nat => iI (B j))))]) [0, 1, 4, 5, 2, 3] rfl rfl ?_
        exact hr _ _ _ _ dX11_net_119 ⟨n25, (netM (2 * t) B), Q26, (congrArg iI (show ((fdI (fun c => decide ((netM (2 * t) B) c = i + 1)) 2880 / 144) : Int) = (netR B i t w) by unfold netR; (repeat (first | rw [if_pos (by omega)] | rw [if_neg (by omega)])) <;> rfl)), rfl⟩
      · skip
        refine j_tabIn h 120 dX11_net_42 (by omega) (by omega) (by omega) (by rw [c9]; rfl) (by decide) ?_
        refine j_aload_n h dX11_net_120 0 rfl rfl ?_
        refine j_get h dX11_net_121 f_X11_net_19 0 rfl rfl ?_
        refine j_iload_n h dX11_net_124 1 rfl rfl ?_
        refine j_callVi (As := [.int (iI i)]) (wr := [(h11, .inr (11, [.ref h0, .ref h2, .ref h10, .ref h4, .ref h8, .ref h9, .ref h5, .ref h6, .ref h3, .ref h1, .ref pg, .int (iI pb), .int (iI sb)])), (h0, .inr (0, [.ref c0])), (q0, .inl (T 0, 2880, .inl (fun j : Nat => iI (Q26 j)))), (c0, .inl (T 0, 2880, .inl (fun j : Nat => iI (B j))))]) (cells' := 0) (slots' := 0) h dX11_net_125 (ct_X2_placesOfNet T h2 m0 q0 n25 (netM (2 * t) B) i (by first | assumption | omega) (by first | assumption | omega)) k_X2_placesOfNet gX11_net_X2_placesOfNet rfl rfl 2 rfl ⟨Nat.le_of_ble_eq_true rfl, Nat.le_of_ble_eq_true rfl⟩ rfl rfl (Nat.le_of_ble_eq_true rfl) ⟨Nat.le_of_ble_eq_true rfl, Nat.le_of_ble_eq_true rfl⟩ rfl rfl [2, 3] [0, 1, 4, 5] rfl rfl rfl rfl (by decide) (fun r9 u9 p14 => ?_)
        obtain ⟨rfl, rfl⟩ := p14
        refine j_eq (ws' := [(h11, .inr (11, [.ref h0, .ref h2, .ref h10, .ref h4, .ref h8, .ref h9, .ref h5, .ref h6, .ref h3, .ref h1, .ref pg, .int (iI pb), .int (iI sb)])), (h0, .inr (0, [.ref c0])), (q0, .inl (T 0, 2880, .inl (fun j : Nat => iI (Q26 j)))), (c0, .inl (T 0, 2880, .inl (fun j : Nat => iI (B j)))), (h2, .inr (2, [.ref m0, .ref q0, .int (iI n25)])), (m0, .inl (T 0, 2880, .inl (fun j : Nat => iI ((netM (2 * t) B) j))))]) rfl rfl rfl rfl rfl rfl ?_
        refine j_ws (ws' := [(h11, .inr (11, [.ref h0, .ref h2, .ref h10, .ref h4, .ref h8, .ref h9, .ref h5, .ref h6, .ref h3, .ref h1, .ref pg, .int (iI pb), .int (iI sb)])), (h0, .inr (0, [.ref c0])), (h2, .inr (2, [.ref m0, .ref q0, .int (iI n25)])), (m0, .inl (T 0, 2880, .inl (fun j : Nat => iI ((netM (2 * t) B) j)))), (q0, .inl (T 0, 2880, .inl (fun j : Nat => iI (Q26 j)))), (c0, .inl (T 0, 2880, .inl (fun j : Nat => iI (B j))))]) [0, 1, 4, 5, 2, 3] rfl rfl ?_
        exact hr _ _ _ _ dX11_net_128 ⟨n25, (netM (2 * t) B), Q26, (congrArg iI (show (cntI (overP (netM (2 * t) B) i) 144 : Int) = (netR B i t w) by unfold netR; (repeat (first | rw [if_pos (by omega)] | rw [if_neg (by omega)])) <;> rfl)), rfl⟩
      · skip
        refine j_tabOut h 129 dX11_net_42 (by omega) (by omega) (by decide) ?_
        refine j_bipush h dX11_net_129 (by decide) ?_
        exact hr _ _ _ _ dX11_net_131 ⟨n25, (netM (2 * t) B), Q26, (congrArg iI (show ((-102) : Int) = (netR B i t w) by unfold netR; (repeat (first | rw [if_pos (by omega)] | rw [if_neg (by omega)])) <;> rfl)), rfl⟩
    · skip
      replace c8 := of_decide_eq_false c8
      refine j_bipush h dX11_net_38 (by decide) ?_
      exact hr _ _ _ _ dX11_net_40 ⟨n25, (netM (2 * t) B), Q26, (congrArg iI (show ((-101) : Int) = (netR B i t w) by unfold netR; (repeat (first | rw [if_pos (by omega)] | rw [if_neg (by omega)])) <;> rfl)), rfl⟩
  · skip
    replace c2 := of_decide_eq_false c2
    refine j_bipush h dX11_net_7 (by decide) ?_
    exact hr _ _ _ _ dX11_net_9 ⟨n, M, Q, (congrArg iI (show ((-102) : Int) = (netR B i t w) by unfold netR; (repeat (first | rw [if_pos (by omega)] | rw [if_neg (by omega)])) <;> rfl)), rfl⟩

abbrev rmX11_joined : Room := { frames := 3, cells := 0, slots := 0, locals := 72 }
theorem in_X11_joined_X11 : ∀ w ∈ u_ws RX11 TX11 13, w ∈ wsX11_joined := fun w hw => List.mem_cons_of_mem _ (List.mem_append_left _ (List.mem_append_left _ (List.mem_append_right _ (hw))))
theorem f_X11_joined_12 : FlOK RX11 12 wsX11_joined 11 0 := ⟨_, _, _, rfl, by decide, in_X11_joined_X11, List.mem_of_getElem? (i := 1) rfl⟩
theorem f_X11_joined_19 : FlOK RX11 19 wsX11_joined 11 1 := ⟨_, _, _, rfl, by decide, in_X11_joined_X11, List.mem_of_getElem? (i := 2) rfl⟩
theorem in_X11_joined_X0 : ∀ w ∈ u_ws RX0 TX0 1, w ∈ wsX11_joined := fun w hw => List.mem_cons_of_mem _ (List.mem_append_left _ (List.mem_append_right _ (hw)))
theorem f_X11_joined_132 : FnOK RX11 132 wsX11_joined 0 0 := ⟨_, _, _, "LayerShop", rfl, by decide, in_X11_joined_X0, List.mem_of_getElem? (i := 2) rfl⟩
set_option maxHeartbeats 600000 in
set_option maxRecDepth 100000 in
/-- joined -/
theorem ct_X11_joined (T : Nat → ClassId) (h11 : Nat) (h0 : Nat) (h2 : Nat) (h10 : Nat) (h4 : Nat) (h8 : Nat) (h9 : Nat) (h5 : Nat) (h6 : Nat) (h3 : Nat) (h1 : Nat) (pg : Nat) (pb : Int) (sb : Int) (c0 : Nat) (m0 : Nat) (q0 : Nat) (n : Int) (M : Int → Int) (Q : Int → Int) (B : Int → Int) (p : Int) (q : Int) (t : Int) (hB : BOK B) (hp : -2147483648 ≤ p ∧ p ≤ 2147483647) (hq : -2147483648 ≤ q ∧ q ≤ 2147483647) (ht : -2147483648 ≤ t ∧ t ≤ 2147483647) : CtI T yX11_joined wsX11_joined rmX11_joined 0 0 [.ref h11, .int (iI p), .int (iI q), .int (iI t)] [(h11, .inr (11, [.ref h0, .ref h2, .ref h10, .ref h4, .ref h8, .ref h9, .ref h5, .ref h6, .ref h3, .ref h1, .ref pg, .int (iI pb), .int (iI sb)])), (h0, .inr (0, [.ref c0])), (h2, .inr (2, [.ref m0, .ref q0, .int (iI n)])), (m0, .inl (T 0, 2880, .inl (fun j : Nat => iI (M j)))), (q0, .inl (T 0, 2880, .inl (fun j : Nat => iI (Q j)))), (c0, .inl (T 0, 2880, .inl (fun j : Nat => iI (B j))))] (fun r8 u => ∃ n2 : Int, ∃ M2 : Int → Int, ∃ Q2 : Int → Int, r8 = (iI (joinR B p q t)) ∧ u = [(h11, .inr (11, [.ref h0, .ref h2, .ref h10, .ref h4, .ref h8, .ref h9, .ref h5, .ref h6, .ref h3, .ref h1, .ref pg, .int (iI pb), .int (iI sb)])), (h0, .inr (0, [.ref c0])), (h2, .inr (2, [.ref m0, .ref q0, .int (iI n2)])), (m0, .inl (T 0, 2880, .inl (fun j : Nat => iI (M2 j)))), (q0, .inl (T 0, 2880, .inl (fun j : Nat => iI (Q2 j)))), (c0, .inl (T 0, 2880, .inl (fun j : Nat => iI (B j))))]) := by
  refine ctI_of (cc := cX11_joined) (maxL := 7) (ret := (some .int)) (by decide +kernel) rfl rfl (fun r u hp => by obtain ⟨_, _, _, rfl, -⟩ := hp; rfl) (Nat.le_of_ble_eq_true rfl) (fun X h hinit hr => ?_)
  refine j_eq (lv' := [(0, .ref h11), (1, .int (iI p)), (2, .int (iI q)), (3, .int (iI t))]) rfl rfl rfl rfl rfl rfl ?_
  refine j_iload_n h dX11_joined_0 1 rfl rfl ?_
  refine j_callSi (As := [.int (iI p)]) (wr := [(h11, .inr (11, [.ref h0, .ref h2, .ref h10, .ref h4, .ref h8, .ref h9, .ref h5, .ref h6, .ref h3, .ref h1, .ref pg, .int (iI pb), .int (iI sb)])), (h0, .inr (0, [.ref c0])), (h2, .inr (2, [.ref m0, .ref q0, .int (iI n)])), (m0, .inl (T 0, 2880, .inl (fun j : Nat => iI (M j)))), (q0, .inl (T 0, 2880, .inl (fun j : Nat => iI (Q j)))), (c0, .inl (T 0, 2880, .inl (fun j : Nat => iI (B j))))]) (cells' := 0) (slots' := 0) h dX11_joined_1 (ct_X11_isPlace T p (by first | assumption | omega)) k_X11_isPlace gX11_joined_X11_isPlace ⟨Nat.le_of_ble_eq_true rfl, Nat.le_of_ble_eq_true rfl⟩ rfl rfl (Nat.le_of_ble_eq_true rfl) ⟨Nat.le_of_ble_eq_true rfl, Nat.le_of_ble_eq_true rfl⟩ rfl rfl [] [0, 1, 2, 3, 4, 5] rfl rfl rfl rfl (by decide) (fun r9 u9 p1 => ?_)
  obtain ⟨rfl, rfl⟩ := p1
  refine j_eq (ws' := [(h11, .inr (11, [.ref h0, .ref h2, .ref h10, .ref h4, .ref h8, .ref h9, .ref h5, .ref h6, .ref h3, .ref h1, .ref pg, .int (iI pb), .int (iI sb)])), (h0, .inr (0, [.ref c0])), (h2, .inr (2, [.ref m0, .ref q0, .int (iI n)])), (m0, .inl (T 0, 2880, .inl (fun j : Nat => iI (M j)))), (q0, .inl (T 0, 2880, .inl (fun j : Nat => iI (Q j)))), (c0, .inl (T 0, 2880, .inl (fun j : Nat => iI (B j))))]) rfl rfl rfl rfl rfl rfl ?_
  refine j_ifeqB h 14 dX11_joined_4 (by decide) (fun c2 => ?_) (fun c2 => ?_)
  · skip
    replace c2 := of_decide_eq_false c2
    refine j_bipush h dX11_joined_14 (by decide) ?_
    exact hr _ _ _ _ dX11_joined_16 ⟨n, M, Q, (congrArg iI (show ((-101) : Int) = (joinR B p q t) by unfold joinR; (repeat (first | rw [if_pos (by omega)] | rw [if_neg (by omega)])) <;> (try omega))), rfl⟩
  · skip
    replace c2 := of_decide_eq_true c2
    refine j_iload_n h dX11_joined_7 2 rfl rfl ?_
    refine j_callSi (As := [.int (iI q)]) (wr := [(h11, .inr (11, [.ref h0, .ref h2, .ref h10, .ref h4, .ref h8, .ref h9, .ref h5, .ref h6, .ref h3, .ref h1, .ref pg, .int (iI pb), .int (iI sb)])), (h0, .inr (0, [.ref c0])), (h2, .inr (2, [.ref m0, .ref q0, .int (iI n)])), (m0, .inl (T 0, 2880, .inl (fun j : Nat => iI (M j)))), (q0, .inl (T 0, 2880, .inl (fun j : Nat => iI (Q j)))), (c0, .inl (T 0, 2880, .inl (fun j : Nat => iI (B j))))]) (cells' := 0) (slots' := 0) h dX11_joined_8 (ct_X11_isPlace T q (by first | assumption | omega)) k_X11_isPlace gX11_joined_X11_isPlace ⟨Nat.le_of_ble_eq_true rfl, Nat.le_of_ble_eq_true rfl⟩ rfl rfl (Nat.le_of_ble_eq_true rfl) ⟨Nat.le_of_ble_eq_true rfl, Nat.le_of_ble_eq_true rfl⟩ rfl rfl [] [0, 1, 2, 3, 4, 5] rfl rfl rfl rfl (by decide) (fun r9 u9 p3 => ?_)
    obtain ⟨rfl, rfl⟩ := p3
    refine j_eq (ws' := [(h11, .inr (11, [.ref h0, .ref h2, .ref h10, .ref h4, .ref h8, .ref h9, .ref h5, .ref h6, .ref h3, .ref h1, .ref pg, .int (iI pb), .int (iI sb)])), (h0, .inr (0, [.ref c0])), (h2, .inr (2, [.ref m0, .ref q0, .int (iI n)])), (m0, .inl (T 0, 2880, .inl (fun j : Nat => iI (M j)))), (q0, .inl (T 0, 2880, .inl (fun j : Nat => iI (Q j)))), (c0, .inl (T 0, 2880, .inl (fun j : Nat => iI (B j))))]) rfl rfl rfl rfl rfl rfl ?_
    refine j_ifneB h 17 dX11_joined_11 (by decide) (fun c4 => ?_) (fun c4 => ?_)
    · skip
      replace c4 := of_decide_eq_true c4
      refine j_iload_n h dX11_joined_17 3 rfl rfl ?_
      refine j_callSi (As := [.int (iI t)]) (wr := [(h11, .inr (11, [.ref h0, .ref h2, .ref h10, .ref h4, .ref h8, .ref h9, .ref h5, .ref h6, .ref h3, .ref h1, .ref pg, .int (iI pb), .int (iI sb)])), (h0, .inr (0, [.ref c0])), (h2, .inr (2, [.ref m0, .ref q0, .int (iI n)])), (m0, .inl (T 0, 2880, .inl (fun j : Nat => iI (M j)))), (q0, .inl (T 0, 2880, .inl (fun j : Nat => iI (Q j)))), (c0, .inl (T 0, 2880, .inl (fun j : Nat => iI (B j))))]) (cells' := 0) (slots' := 0) h dX11_joined_18 (ct_X11_isSet T t (by first | assumption | omega)) k_X11_isSet gX11_joined_X11_isSet ⟨Nat.le_of_ble_eq_true rfl, Nat.le_of_ble_eq_true rfl⟩ rfl rfl (Nat.le_of_ble_eq_true rfl) ⟨Nat.le_of_ble_eq_true rfl, Nat.le_of_ble_eq_true rfl⟩ rfl rfl [] [0, 1, 2, 3, 4, 5] rfl rfl rfl rfl (by decide) (fun r9 u9 p5 => ?_)
      obtain ⟨rfl, rfl⟩ := p5
      refine j_eq (ws' := [(h11, .inr (11, [.ref h0, .ref h2, .ref h10, .ref h4, .ref h8, .ref h9, .ref h5, .ref h6, .ref h3, .ref h1, .ref pg, .int (iI pb), .int (iI sb)])), (h0, .inr (0, [.ref c0])), (h2, .inr (2, [.ref m0, .ref q0, .int (iI n)])), (m0, .inl (T 0, 2880, .inl (fun j : Nat => iI (M j)))), (q0, .inl (T 0, 2880, .inl (fun j : Nat => iI (Q j)))), (c0, .inl (T 0, 2880, .inl (fun j : Nat => iI (B j))))]) rfl rfl rfl rfl rfl rfl ?_
      refine j_ifneB h 27 dX11_joined_21 (by decide) (fun c6 => ?_) (fun c6 => ?_)
      · skip
        replace c6 := of_decide_eq_true c6
        refine j_aload_n h dX11_joined_27 0 rfl rfl ?_
        refine j_get h dX11_joined_28 f_X11_joined_12 0 rfl rfl ?_
        refine j_iload_n h dX11_joined_31 1 rfl rfl ?_
        refine j_callVi (As := [.int (iI p)]) (wr := [(h11, .inr (11, [.ref h0, .ref h2, .ref h10, .ref h4, .ref h8, .ref h9, .ref h5, .ref h6, .ref h3, .ref h1, .ref pg, .int (iI pb), .int (iI sb)])), (h2, .inr (2, [.ref m0, .ref q0, .int (iI n)])), (m0, .inl (T 0, 2880, .inl (fun j : Nat => iI (M j)))), (q0, .inl (T 0, 2880, .inl (fun j : Nat => iI (Q j))))]) (cells' := 0) (slots' := 0) h dX11_joined_32 (ct_X0_highest T h0 c0 B p (by first | assumption | omega) (by first | assumption | omega)) k_X0_highest gX11_joined_X0_highest rfl rfl 1 rfl ⟨Nat.le_of_ble_eq_true rfl, Nat.le_of_ble_eq_true rfl⟩ rfl rfl (Nat.le_of_ble_eq_true rfl) ⟨Nat.le_of_ble_eq_true rfl, Nat.le_of_ble_eq_true rfl⟩ rfl rfl [1, 5] [0, 2, 3, 4] rfl rfl rfl rfl (by decide) (fun r9 u9 p7 => ?_)
        obtain ⟨rfl, rfl⟩ := p7
        have hz9 := topS_rng B p
        refine j_eq (ws' := [(h11, .inr (11, [.ref h0, .ref h2, .ref h10, .ref h4, .ref h8, .ref h9, .ref h5, .ref h6, .ref h3, .ref h1, .ref pg, .int (iI pb), .int (iI sb)])), (h2, .inr (2, [.ref m0, .ref q0, .int (iI n)])), (m0, .inl (T 0, 2880, .inl (fun j : Nat => iI (M j)))), (q0, .inl (T 0, 2880, .inl (fun j : Nat => iI (Q j)))), (h0, .inr (0, [.ref c0])), (c0, .inl (T 0, 2880, .inl (fun j : Nat => iI (B j))))]) rfl rfl rfl rfl rfl rfl ?_
        refine j_istore (lv' := [(0, .ref h11), (1, .int (iI p)), (2, .int (iI q)), (3, .int (iI t)), (4, .int (iI (topS B p)))]) h dX11_joined_35 [1, 2, 3, 4, 0] (by decide) rfl ?_
        refine j_aload_n h dX11_joined_37 0 rfl rfl ?_
        refine j_get h dX11_joined_38 f_X11_joined_12 0 rfl rfl ?_
        refine j_iload_n h dX11_joined_41 2 rfl rfl ?_
        refine j_callVi (As := [.int (iI q)]) (wr := [(h11, .inr (11, [.ref h0, .ref h2, .ref h10, .ref h4, .ref h8, .ref h9, .ref h5, .ref h6, .ref h3, .ref h1, .ref pg, .int (iI pb), .int (iI sb)])), (h2, .inr (2, [.ref m0, .ref q0, .int (iI n)])), (m0, .inl (T 0, 2880, .inl (fun j : Nat => iI (M j)))), (q0, .inl (T 0, 2880, .inl (fun j : Nat => iI (Q j))))]) (cells' := 0) (slots' := 0) h dX11_joined_42 (ct_X0_highest T h0 c0 B q (by first | assumption | omega) (by first | assumption | omega)) k_X0_highest gX11_joined_X0_highest rfl rfl 4 rfl ⟨Nat.le_of_ble_eq_true rfl, Nat.le_of_ble_eq_true rfl⟩ rfl rfl (Nat.le_of_ble_eq_true rfl) ⟨Nat.le_of_ble_eq_true rfl, Nat.le_of_ble_eq_true rfl⟩ rfl rfl [4, 5] [0, 1, 2, 3] rfl rfl rfl rfl (by decide) (fun r9 u9 p8 => ?_)
        obtain ⟨rfl, rfl⟩ := p8
        have hz9 := topS_rng B q
        refine j_eq (ws' := [(h11, .inr (11, [.ref h0, .ref h2, .ref h10, .ref h4, .ref h8, .ref h9, .ref h5, .ref h6, .ref h3, .ref h1, .ref pg, .int (iI pb), .int (iI sb)])), (h2, .inr (2, [.ref m0, .ref q0, .int (iI n)])), (m0, .inl (T 0, 2880, .inl (fun j : Nat => iI (M j)))), (q0, .inl (T 0, 2880, .inl (fun j : Nat => iI (Q j)))), (h0, .inr (0, [.ref c0])), (c0, .inl (T 0, 2880, .inl (fun j : Nat => iI (B j))))]) rfl rfl rfl rfl rfl rfl ?_
        refine j_istore (lv' := [(0, .ref h11), (1, .int (iI p)), (2, .int (iI q)), (3, .int (iI t)), (4, .int (iI (topS B p))), (5, .int (iI (topS B q)))]) h dX11_joined_45 [1, 2, 3, 4, 5, 0] (by decide) rfl ?_
        refine j_iload h dX11_joined_47 4 rfl ?_
        refine j_iconst h dX11_joined_49 ?_
        refine j_icmp_eq h 59 dX11_joined_50 (by decide) (by omega) (by omega) (fun c9 => ?_) (fun c9 => ?_)
        · skip
          refine j_iconst h dX11_joined_59 ?_
          refine j_ws (ws' := [(h11, .inr (11, [.ref h0, .ref h2, .ref h10, .ref h4, .ref h8, .ref h9, .ref h5, .ref h6, .ref h3, .ref h1, .ref pg, .int (iI pb), .int (iI sb)])), (h0, .inr (0, [.ref c0])), (h2, .inr (2, [.ref m0, .ref q0, .int (iI n)])), (m0, .inl (T 0, 2880, .inl (fun j : Nat => iI (M j)))), (q0, .inl (T 0, 2880, .inl (fun j : Nat => iI (Q j)))), (c0, .inl (T 0, 2880, .inl (fun j : Nat => iI (B j))))]) [0, 4, 1, 2, 3, 5] rfl rfl ?_
          exact hr _ _ _ _ dX11_joined_60 ⟨n, M, Q, (congrArg iI (show (0 : Int) = (joinR B p q t) by unfold joinR; (repeat (first | rw [if_pos (by omega)] | rw [if_neg (by omega)])) <;> (try omega))), rfl⟩
        · skip
          refine j_iload h dX11_joined_53 5 rfl ?_
          refine j_iconst h dX11_joined_55 ?_
          refine j_icmp_ne h 61 dX11_joined_56 (by decide) (by omega) (by omega) (fun c10 => ?_) (fun c10 => ?_)
          · skip
            refine j_aload_n h dX11_joined_61 0 rfl rfl ?_
            refine j_get h dX11_joined_62 f_X11_joined_19 0 rfl rfl ?_
            refine j_aload_n h dX11_joined_65 0 rfl rfl ?_
            refine j_get h dX11_joined_66 f_X11_joined_12 0 rfl rfl ?_
            refine j_getN h dX11_joined_69 f_X11_joined_132 4 rfl rfl ?_
            refine j_iload_n h dX11_joined_72 3 rfl rfl ?_
            refine j_callSi (As := [.int (iI t)]) (wr := [(h11, .inr (11, [.ref h0, .ref h2, .ref h10, .ref h4, .ref h8, .ref h9, .ref h5, .ref h6, .ref h3, .ref h1, .ref pg, .int (iI pb), .int (iI sb)])), (h2, .inr (2, [.ref m0, .ref q0, .int (iI n)])), (m0, .inl (T 0, 2880, .inl (fun j : Nat => iI (M j)))), (q0, .inl (T 0, 2880, .inl (fun j : Nat => iI (Q j)))), (h0, .inr (0, [.ref c0])), (c0, .inl (T 0, 2880, .inl (fun j : Nat => iI (B j))))]) (cells' := 0) (slots' := 0) h dX11_joined_73 (ct_X11_kindsOf T t (by first | assumption | omega)) k_X11_kindsOf gX11_joined_X11_kindsOf ⟨Nat.le_of_ble_eq_true rfl, Nat.le_of_ble_eq_true rfl⟩ rfl rfl (Nat.le_of_ble_eq_true rfl) ⟨Nat.le_of_ble_eq_true rfl, Nat.le_of_ble_eq_true rfl⟩ rfl rfl [] [0, 1, 2, 3, 4, 5] rfl rfl rfl rfl (by decide) (fun r9 u9 p11 => ?_)
            obtain ⟨rfl, rfl⟩ := p11
            refine j_eq (ws' := [(h11, .inr (11, [.ref h0, .ref h2, .ref h10, .ref h4, .ref h8, .ref h9, .ref h5, .ref h6, .ref h3, .ref h1, .ref pg, .int (iI pb), .int (iI sb)])), (h2, .inr (2, [.ref m0, .ref q0, .int (iI n)])), (m0, .inl (T 0, 2880, .inl (fun j : Nat => iI (M j)))), (q0, .inl (T 0, 2880, .inl (fun j : Nat => iI (Q j)))), (h0, .inr (0, [.ref c0])), (c0, .inl (T 0, 2880, .inl (fun j : Nat => iI (B j))))]) rfl rfl rfl rfl rfl rfl ?_
            refine j_callVi (As := [.ref c0, .int (iI (2 * t))]) (wr := [(h11, .inr (11, [.ref h0, .ref h2, .ref h10, .ref h4, .ref h8, .ref h9, .ref h5, .ref h6, .ref h3, .ref h1, .ref pg, .int (iI pb), .int (iI sb)])), (h0, .inr (0, [.ref c0]))]) (cells' := 0) (slots' := 0) h dX11_joined_76 (ct_X2_markNets T h2 m0 q0 c0 M Q n B (2 * t) (by first | assumption | omega) (by first | assumption | omega)) k_X2_markNets gX11_joined_X2_markNets rfl rfl 1 rfl ⟨Nat.le_of_ble_eq_true rfl, Nat.le_of_ble_eq_true rfl⟩ rfl rfl (Nat.le_of_ble_eq_true rfl) ⟨Nat.le_of_ble_eq_true rfl, Nat.le_of_ble_eq_true rfl⟩ rfl rfl [1, 2, 3, 5] [0, 4] rfl rfl rfl rfl (by decide) (fun r9 u9 p12 => ?_)
            obtain ⟨n213, Q214, rfl, rfl⟩ := p12
            have hnc9 := netC_rng (2 * t) B
            have hnm9 := netM_rng (2 * t) B
            refine j_eq (ws' := [(h11, .inr (11, [.ref h0, .ref h2, .ref h10, .ref h4, .ref h8, .ref h9, .ref h5, .ref h6, .ref h3, .ref h1, .ref pg, .int (iI pb), .int (iI sb)])), (h0, .inr (0, [.ref c0])), (h2, .inr (2, [.ref m0, .ref q0, .int (iI n213)])), (m0, .inl (T 0, 2880, .inl (fun j : Nat => iI ((netM (2 * t) B) j)))), (q0, .inl (T 0, 2880, .inl (fun j : Nat => iI (Q214 j)))), (c0, .inl (T 0, 2880, .inl (fun j : Nat => iI (B j))))]) rfl rfl rfl rfl rfl rfl ?_
            refine j_pop h dX11_joined_79 rfl ?_
            refine j_aload_n h dX11_joined_80 0 rfl rfl ?_
            refine j_get h dX11_joined_81 f_X11_joined_19 0 rfl rfl ?_
            refine j_iload h dX11_joined_84 4 rfl ?_
            refine j_sipush h dX11_joined_86 (by decide) ?_
            refine j_imul h dX11_joined_89 ?_
            refine j_iload_n h dX11_joined_90 1 rfl rfl ?_
            refine j_iadd h dX11_joined_91 ?_
            refine j_callVi (As := [.int (iI ((topS B p * 144) + p))]) (wr := [(h11, .inr (11, [.ref h0, .ref h2, .ref h10, .ref h4, .ref h8, .ref h9, .ref h5, .ref h6, .ref h3, .ref h1, .ref pg, .int (iI pb), .int (iI sb)])), (h0, .inr (0, [.ref c0])), (q0, .inl (T 0, 2880, .inl (fun j : Nat => iI (Q214 j)))), (c0, .inl (T 0, 2880, .inl (fun j : Nat => iI (B j))))]) (cells' := 0) (slots' := 0) h dX11_joined_92 (ct_X2_netAt T h2 m0 q0 n213 (netM (2 * t) B) ((topS B p * 144) + p) (by first | assumption | omega) (by first | assumption | omega)) k_X2_netAt gX11_joined_X2_netAt rfl rfl 2 rfl ⟨Nat.le_of_ble_eq_true rfl, Nat.le_of_ble_eq_true rfl⟩ rfl rfl (Nat.le_of_ble_eq_true rfl) ⟨Nat.le_of_ble_eq_true rfl, Nat.le_of_ble_eq_true rfl⟩ rfl rfl [2, 3] [0, 1, 4, 5] rfl rfl rfl rfl (by decide) (fun r9 u9 p15 => ?_)
            obtain ⟨rfl, rfl⟩ := p15
            refine j_eq (ws' := [(h11, .inr (11, [.ref h0, .ref h2, .ref h10, .ref h4, .ref h8, .ref h9, .ref h5, .ref h6, .ref h3, .ref h1, .ref pg, .int (iI pb), .int (iI sb)])), (h0, .inr (0, [.ref c0])), (q0, .inl (T 0, 2880, .inl (fun j : Nat => iI (Q214 j)))), (c0, .inl (T 0, 2880, .inl (fun j : Nat => iI (B j)))), (h2, .inr (2, [.ref m0, .ref q0, .int (iI n213)])), (m0, .inl (T 0, 2880, .inl (fun j : Nat => iI ((netM (2 * t) B) j))))]) rfl rfl rfl rfl rfl rfl ?_
            rw [show ((netM (2 * t) B) ((topS B p * 144) + p) - 1) = (netM (2 * t) B (144 * topS B p + p) - 1) by rw [Int.mul_comm (topS B p) 144]]
            have hn5 := netM_rng (2 * t) B (144 * topS B p + p)
            refine j_istore (lv' := [(0, .ref h11), (1, .int (iI p)), (2, .int (iI q)), (3, .int (iI t)), (4, .int (iI (topS B p))), (5, .int (iI (topS B q))), (6, .int (iI (netM (2 * t) B (144 * topS B p + p) - 1)))]) h dX11_joined_95 [1, 2, 3, 4, 5, 6, 0] (by decide) rfl ?_
            refine j_iload h dX11_joined_97 6 rfl ?_
            refine j_iconst h dX11_joined_99 ?_
            refine j_icmp_eq h 127 dX11_joined_100 (by decide) (by omega) (by omega) (fun c16 => ?_) (fun c16 => ?_)
            · skip
              refine j_iconst h dX11_joined_127 ?_
              refine j_ws (ws' := [(h11, .inr (11, [.ref h0, .ref h2, .ref h10, .ref h4, .ref h8, .ref h9, .ref h5, .ref h6, .ref h3, .ref h1, .ref pg, .int (iI pb), .int (iI sb)])), (h0, .inr (0, [.ref c0])), (h2, .inr (2, [.ref m0, .ref q0, .int (iI n213)])), (m0, .inl (T 0, 2880, .inl (fun j : Nat => iI ((netM (2 * t) B) j)))), (q0, .inl (T 0, 2880, .inl (fun j : Nat => iI (Q214 j)))), (c0, .inl (T 0, 2880, .inl (fun j : Nat => iI (B j))))]) [0, 1, 4, 5, 2, 3] rfl rfl ?_
              exact hr _ _ _ _ dX11_joined_128 ⟨n213, (netM (2 * t) B), Q214, (congrArg iI (show (0 : Int) = (joinR B p q t) by unfold joinR; (repeat (first | rw [if_pos (by omega)] | rw [if_neg (by omega)])) <;> (try omega))), rfl⟩
            · skip
              refine j_iload h dX11_joined_103 6 rfl ?_
              refine j_aload_n h dX11_joined_105 0 rfl rfl ?_
              refine j_get h dX11_joined_106 f_X11_joined_19 0 rfl rfl ?_
              refine j_iload h dX11_joined_109 5 rfl ?_
              refine j_sipush h dX11_joined_111 (by decide) ?_
              refine j_imul h dX11_joined_114 ?_
              refine j_iload_n h dX11_joined_115 2 rfl rfl ?_
              refine j_iadd h dX11_joined_116 ?_
              refine j_callVi (As := [.int (iI ((topS B q * 144) + q))]) (wr := [(h11, .inr (11, [.ref h0, .ref h2, .ref h10, .ref h4, .ref h8, .ref h9, .ref h5, .ref h6, .ref h3, .ref h1, .ref pg, .int (iI pb), .int (iI sb)])), (h0, .inr (0, [.ref c0])), (q0, .inl (T 0, 2880, .inl (fun j : Nat => iI (Q214 j)))), (c0, .inl (T 0, 2880, .inl (fun j : Nat => iI (B j))))]) (cells' := 0) (slots' := 0) h dX11_joined_117 (ct_X2_netAt T h2 m0 q0 n213 (netM (2 * t) B) ((topS B q * 144) + q) (by first | assumption | omega) (by first | assumption | omega)) k_X2_netAt gX11_joined_X2_netAt rfl rfl 4 rfl ⟨Nat.le_of_ble_eq_true rfl, Nat.le_of_ble_eq_true rfl⟩ rfl rfl (Nat.le_of_ble_eq_true rfl) ⟨Nat.le_of_ble_eq_true rfl, Nat.le_of_ble_eq_true rfl⟩ rfl rfl [4, 5] [0, 1, 2, 3] rfl rfl rfl rfl (by decide) (fun r9 u9 p17 => ?_)
              obtain ⟨rfl, rfl⟩ := p17
              refine j_eq (ws' := [(h11, .inr (11, [.ref h0, .ref h2, .ref h10, .ref h4, .ref h8, .ref h9, .ref h5, .ref h6, .ref h3, .ref h1, .ref pg, .int (iI pb), .int (iI sb)])), (h0, .inr (0, [.ref c0])), (q0, .inl (T 0, 2880, .inl (fun j : Nat => iI (Q214 j)))), (c0, .inl (T 0, 2880, .inl (fun j : Nat => iI (B j)))), (h2, .inr (2, [.ref m0, .ref q0, .int (iI n213)])), (m0, .inl (T 0, 2880, .inl (fun j : Nat => iI ((netM (2 * t) B) j))))]) rfl rfl rfl rfl rfl rfl ?_
              rw [show ((netM (2 * t) B) ((topS B q * 144) + q) - 1) = (netM (2 * t) B (144 * topS B q + q) - 1) by rw [Int.mul_comm (topS B q) 144]]
              have hn6 := netM_rng (2 * t) B (144 * topS B q + q)
              refine j_icmp_ne h 127 dX11_joined_120 (by decide) (by omega) (by omega) (fun c18 => ?_) (fun c18 => ?_)
              · skip
                refine j_iconst h dX11_joined_127 ?_
                refine j_ws (ws' := [(h11, .inr (11, [.ref h0, .ref h2, .ref h10, .ref h4, .ref h8, .ref h9, .ref h5, .ref h6, .ref h3, .ref h1, .ref pg, .int (iI pb), .int (iI sb)])), (h0, .inr (0, [.ref c0])), (h2, .inr (2, [.ref m0, .ref q0, .int (iI n213)])), (m0, .inl (T 0, 2880, .inl (fun j : Nat => iI ((netM (2 * t) B) j)))), (q0, .inl (T 0, 2880, .inl (fun j : Nat => iI (Q214 j)))), (c0, .inl (T 0, 2880, .inl (fun j : Nat => iI (B j))))]) [0, 1, 4, 5, 2, 3] rfl rfl ?_
                exact hr _ _ _ _ dX11_joined_128 ⟨n213, (netM (2 * t) B), Q214, (congrArg iI (show (0 : Int) = (joinR B p q t) by unfold joinR; (repeat (first | rw [if_pos (by omega)] | rw [if_neg (by omega)])) <;> (try omega))), rfl⟩
              · skip
                refine j_iconst h dX11_joined_123 ?_
                refine j_goto (tgt := 128) h dX11_joined_124 (by decide) ?_
                refine j_ws (ws' := [(h11, .inr (11, [.ref h0, .ref h2, .ref h10, .ref h4, .ref h8, .ref h9, .ref h5, .ref h6, .ref h3, .ref h1, .ref pg, .int (iI pb), .int (iI sb)])), (h0, .inr (0, [.ref c0])), (h2, .inr (2, [.ref m0, .ref q0, .int (iI n213)])), (m0, .inl (T 0, 2880, .inl (fun j : Nat => iI ((netM (2 * t) B) j)))), (q0, .inl (T 0, 2880, .inl (fun j : Nat => iI (Q214 j)))), (c0, .inl (T 0, 2880, .inl (fun j : Nat => iI (B j))))]) [0, 1, 4, 5, 2, 3] rfl rfl ?_
                exact hr _ _ _ _ dX11_joined_128 ⟨n213, (netM (2 * t) B), Q214, (congrArg iI (show (1 : Int) = (joinR B p q t) by unfold joinR; (repeat (first | rw [if_pos (by omega)] | rw [if_neg (by omega)])) <;> (try omega))), rfl⟩
          · skip
            refine j_iconst h dX11_joined_59 ?_
            refine j_ws (ws' := [(h11, .inr (11, [.ref h0, .ref h2, .ref h10, .ref h4, .ref h8, .ref h9, .ref h5, .ref h6, .ref h3, .ref h1, .ref pg, .int (iI pb), .int (iI sb)])), (h0, .inr (0, [.ref c0])), (h2, .inr (2, [.ref m0, .ref q0, .int (iI n)])), (m0, .inl (T 0, 2880, .inl (fun j : Nat => iI (M j)))), (q0, .inl (T 0, 2880, .inl (fun j : Nat => iI (Q j)))), (c0, .inl (T 0, 2880, .inl (fun j : Nat => iI (B j))))]) [0, 4, 1, 2, 3, 5] rfl rfl ?_
            exact hr _ _ _ _ dX11_joined_60 ⟨n, M, Q, (congrArg iI (show (0 : Int) = (joinR B p q t) by unfold joinR; (repeat (first | rw [if_pos (by omega)] | rw [if_neg (by omega)])) <;> (try omega))), rfl⟩
      · skip
        replace c6 := of_decide_eq_false c6
        refine j_bipush h dX11_joined_24 (by decide) ?_
        exact hr _ _ _ _ dX11_joined_26 ⟨n, M, Q, (congrArg iI (show ((-102) : Int) = (joinR B p q t) by unfold joinR; (repeat (first | rw [if_pos (by omega)] | rw [if_neg (by omega)])) <;> (try omega))), rfl⟩
    · skip
      replace c4 := of_decide_eq_false c4
      refine j_bipush h dX11_joined_14 (by decide) ?_
      exact hr _ _ _ _ dX11_joined_16 ⟨n, M, Q, (congrArg iI (show ((-101) : Int) = (joinR B p q t) by unfold joinR; (repeat (first | rw [if_pos (by omega)] | rw [if_neg (by omega)])) <;> (try omega))), rfl⟩

abbrev rmX11_print : Room := { frames := 0, cells := 0, slots := 0, locals := 0 }
theorem in_X11_print_X11 : ∀ w ∈ u_ws RX11 TX11 13, w ∈ wsX11_print := fun w hw => List.mem_cons_of_mem _ (List.mem_append_right _ (hw))
theorem f_X11_print_91 : FlOK RX11 91 wsX11_print 11 11 := ⟨_, _, _, rfl, by decide, in_X11_print_X11, List.mem_of_getElem? (i := 1) rfl⟩
theorem f_X11_print_87 : FlOK RX11 87 wsX11_print 11 10 := ⟨_, _, _, rfl, by decide, in_X11_print_X11, List.mem_of_getElem? (i := 2) rfl⟩
theorem p_X11_11 : PuOK 11 11 false (.int) := ⟨_, _, _, tyX11, rfl, tyX11_ok, nmX11, rfl, rfl⟩
set_option maxHeartbeats 600000 in
set_option maxRecDepth 100000 in
/-- a sign comes behind the page -/
theorem ct_X11_print (T : Nat → ClassId) (h11 : Nat) (h0 : Nat) (h2 : Nat) (h10 : Nat) (h4 : Nat) (h8 : Nat) (h9 : Nat) (h5 : Nat) (h6 : Nat) (h3 : Nat) (h1 : Nat) (pg : Nat) (pb : Int) (sb : Int) (Pg : Int → Int) (v : Int) (hpb : 0 ≤ pb ∧ pb < 260) : CtV T yX11_print wsX11_print rmX11_print 0 0 [.ref h11, .int (iI v)] [(h11, .inr (11, [.ref h0, .ref h2, .ref h10, .ref h4, .ref h8, .ref h9, .ref h5, .ref h6, .ref h3, .ref h1, .ref pg, .int (iI pb), .int (iI sb)])), (pg, .inl (T 0, 260, .inl (fun j : Nat => iI (Pg j))))] (fun u => u = [(h11, .inr (11, [.ref h0, .ref h2, .ref h10, .ref h4, .ref h8, .ref h9, .ref h5, .ref h6, .ref h3, .ref h1, .ref pg, .int (iI (pb + 1)), .int (iI sb)])), (pg, .inl (T 0, 260, .inl (fun j : Nat => iI ((upI Pg pb v) j))))]) := by
  refine ctV_of (cc := cX11_print) (maxL := 2) (ret := none) (by decide +kernel) rfl rfl (Nat.le_of_ble_eq_true rfl) (fun X h hinit hr => ?_)
  refine j_eq (lv' := [(0, .ref h11), (1, .int (iI v))]) rfl rfl rfl rfl rfl rfl ?_
  refine j_aload_n h dX11_print_0 0 rfl rfl ?_
  refine j_get h dX11_print_1 f_X11_print_91 0 rfl rfl ?_
  refine j_sipush h dX11_print_4 (by decide) ?_
  refine j_icmp_ge h 30 dX11_print_7 (by decide) (by omega) (by omega) (fun c1 => ?_) (fun c1 => ?_)
  · skip
    exact absurd c1 (by omega)
  · skip
    refine j_aload_n h dX11_print_10 0 rfl rfl ?_
    refine j_get h dX11_print_11 f_X11_print_87 0 rfl rfl ?_
    refine j_aload_n h dX11_print_14 0 rfl rfl ?_
    refine j_get h dX11_print_15 f_X11_print_91 0 rfl rfl ?_
    refine j_iload_n h dX11_print_18 1 rfl rfl ?_
    refine j_iast (f := Pg) (ws' := [(h11, .inr (11, [.ref h0, .ref h2, .ref h10, .ref h4, .ref h8, .ref h9, .ref h5, .ref h6, .ref h3, .ref h1, .ref pg, .int (iI pb), .int (iI sb)])), (pg, .inl (T 0, 260, .inl (fun j : Nat => iI ((upI Pg pb v) j))))]) h pb dX11_print_19 1 rfl (by decide) (by omega) (by omega) rfl ?_
    refine j_aload_n h dX11_print_20 0 rfl rfl ?_
    refine j_dup h dX11_print_21 rfl ?_
    refine j_get h dX11_print_22 f_X11_print_91 0 rfl rfl ?_
    refine j_iconst h dX11_print_25 ?_
    refine j_iadd h dX11_print_26 ?_
    refine j_put (ws' := [(h11, .inr (11, [.ref h0, .ref h2, .ref h10, .ref h4, .ref h8, .ref h9, .ref h5, .ref h6, .ref h3, .ref h1, .ref pg, .int (iI (pb + 1)), .int (iI sb)])), (pg, .inl (T 0, 260, .inl (fun j : Nat => iI ((upI Pg pb v) j))))]) h dX11_print_27 f_X11_print_91 p_X11_11 0 rfl rfl rfl (Nat.le_of_ble_eq_true rfl) rfl ?_
    exact hr _ _ _ dX11_print_30 rfl

abbrev rmX11_signOf : Room := { frames := 1, cells := 0, slots := 0, locals := 21 }
theorem in_X11_signOf_X11 : ∀ w ∈ u_ws RX11 TX11 13, w ∈ wsX11_signOf := fun w hw => List.mem_cons_of_mem _ (List.mem_append_left _ (List.mem_append_left _ (List.mem_append_right _ (hw))))
theorem f_X11_signOf_12 : FlOK RX11 12 wsX11_signOf 11 0 := ⟨_, _, _, rfl, by decide, in_X11_signOf_X11, List.mem_of_getElem? (i := 1) rfl⟩
theorem in_X11_signOf_X0 : ∀ w ∈ u_ws RX0 TX0 1, w ∈ wsX11_signOf := fun w hw => List.mem_cons_of_mem _ (List.mem_append_left _ (List.mem_append_right _ (hw)))
theorem f_X11_signOf_132 : FnOK RX11 132 wsX11_signOf 0 0 := ⟨_, _, _, "LayerShop", rfl, by decide, in_X11_signOf_X0, List.mem_of_getElem? (i := 2) rfl⟩
theorem f_X11_signOf_19 : FlOK RX11 19 wsX11_signOf 11 1 := ⟨_, _, _, rfl, by decide, in_X11_signOf_X11, List.mem_of_getElem? (i := 2) rfl⟩
set_option maxHeartbeats 600000 in
set_option maxRecDepth 100000 in
/-- how a cube is printed -/
theorem ct_X11_signOf (T : Nat → ClassId) (h11 : Nat) (h0 : Nat) (h2 : Nat) (h10 : Nat) (h4 : Nat) (h8 : Nat) (h9 : Nat) (h5 : Nat) (h6 : Nat) (h3 : Nat) (h1 : Nat) (pg : Nat) (pb : Int) (sb : Int) (c0 : Nat) (m0 : Nat) (q0 : Nat) (n : Int) (B : Int → Int) (c : Int) (hB : BOK B) (hc : 0 ≤ c ∧ c < 2880) : CtI T yX11_signOf wsX11_signOf rmX11_signOf 0 0 [.ref h11, .int (iI c)] [(h11, .inr (11, [.ref h0, .ref h2, .ref h10, .ref h4, .ref h8, .ref h9, .ref h5, .ref h6, .ref h3, .ref h1, .ref pg, .int (iI pb), .int (iI sb)])), (h0, .inr (0, [.ref c0])), (c0, .inl (T 0, 2880, .inl (fun j : Nat => iI (B j)))), (h2, .inr (2, [.ref m0, .ref q0, .int (iI n)])), (m0, .inl (T 0, 2880, .inl (fun j : Nat => iI ((fun c9 => bI ((opnS B).1 c9)) j))))] (fun r8 u => r8 = (iI (signS B c)) ∧ u = [(h11, .inr (11, [.ref h0, .ref h2, .ref h10, .ref h4, .ref h8, .ref h9, .ref h5, .ref h6, .ref h3, .ref h1, .ref pg, .int (iI pb), .int (iI sb)])), (h0, .inr (0, [.ref c0])), (c0, .inl (T 0, 2880, .inl (fun j : Nat => iI (B j)))), (h2, .inr (2, [.ref m0, .ref q0, .int (iI n)])), (m0, .inl (T 0, 2880, .inl (fun j : Nat => iI ((fun c9 => bI ((opnS B).1 c9)) j))))]) := by
  refine ctI_of (cc := cX11_signOf) (maxL := 3) (ret := (some .int)) (by decide +kernel) rfl rfl (fun r u hp => by obtain ⟨rfl, -⟩ := hp; rfl) (Nat.le_of_ble_eq_true rfl) (fun X h hinit hr => ?_)
  refine j_eq (lv' := [(0, .ref h11), (1, .int (iI c))]) rfl rfl rfl rfl rfl rfl ?_
  refine j_aload_n h dX11_signOf_0 0 rfl rfl ?_
  refine j_get h dX11_signOf_1 f_X11_signOf_12 0 rfl rfl ?_
  refine j_getN h dX11_signOf_4 f_X11_signOf_132 1 rfl rfl ?_
  refine j_iload_n h dX11_signOf_7 1 rfl rfl ?_
  refine j_iald (f := B) h c dX11_signOf_8 2 rfl (by decide) (by omega) (by omega) ?_
  have e1 := hB c
  refine j_istore_n (lv' := [(0, .ref h11), (1, .int (iI c)), (2, .int (iI (B c)))]) h dX11_signOf_9 [1, 2, 0] rfl (by decide) rfl ?_
  refine j_iload_n h dX11_signOf_10 2 rfl rfl ?_
  refine j_if_eq h 21 dX11_signOf_11 (by decide) (by omega) (fun c2 => ?_) (fun c2 => ?_)
  · skip
    refine j_aload_n h dX11_signOf_21 0 rfl rfl ?_
    refine j_get h dX11_signOf_22 f_X11_signOf_19 0 rfl rfl ?_
    refine j_iload_n h dX11_signOf_25 1 rfl rfl ?_
    refine j_callVi (As := [.int (iI c)]) (wr := [(h11, .inr (11, [.ref h0, .ref h2, .ref h10, .ref h4, .ref h8, .ref h9, .ref h5, .ref h6, .ref h3, .ref h1, .ref pg, .int (iI pb), .int (iI sb)])), (h0, .inr (0, [.ref c0])), (c0, .inl (T 0, 2880, .inl (fun j : Nat => iI (B j))))]) (cells' := 0) (slots' := 0) h dX11_signOf_26 (ct_X2_isMarked T h2 m0 q0 n ((opnS B).1) c (by first | assumption | omega)) k_X2_isMarked gX11_signOf_X2_isMarked rfl rfl 3 rfl ⟨Nat.le_of_ble_eq_true rfl, Nat.le_of_ble_eq_true rfl⟩ rfl rfl (Nat.le_of_ble_eq_true rfl) ⟨Nat.le_of_ble_eq_true rfl, Nat.le_of_ble_eq_true rfl⟩ rfl rfl [3, 4] [0, 1, 2] rfl rfl rfl rfl (by decide) (fun r9 u9 p3 => ?_)
    obtain ⟨rfl, rfl⟩ := p3
    refine j_eq (ws' := [(h11, .inr (11, [.ref h0, .ref h2, .ref h10, .ref h4, .ref h8, .ref h9, .ref h5, .ref h6, .ref h3, .ref h1, .ref pg, .int (iI pb), .int (iI sb)])), (h0, .inr (0, [.ref c0])), (c0, .inl (T 0, 2880, .inl (fun j : Nat => iI (B j)))), (h2, .inr (2, [.ref m0, .ref q0, .int (iI n)])), (m0, .inl (T 0, 2880, .inl (fun j : Nat => iI ((fun c9 => bI (((opnS B).1) c9)) j))))]) rfl rfl rfl rfl rfl rfl ?_
    refine j_ifeqB h 37 dX11_signOf_29 (by decide) (fun c4 => ?_) (fun c4 => ?_)
    · skip
      refine j_bipush h dX11_signOf_37 (by decide) ?_
      exact hr _ _ _ _ dX11_signOf_39 ⟨(congrArg iI (show (45 : Int) = (signS B c) by unfold signS; first | (rw [if_pos (by omega)]; omega) | (rw [if_neg (by omega), c4]; rfl))), rfl⟩
    · skip
      refine j_bipush h dX11_signOf_32 (by decide) ?_
      refine j_goto (tgt := 39) h dX11_signOf_34 (by decide) ?_
      exact hr _ _ _ _ dX11_signOf_39 ⟨(congrArg iI (show (46 : Int) = (signS B c) by unfold signS; first | (rw [if_pos (by omega)]; omega) | (rw [if_neg (by omega), c4]; rfl))), rfl⟩
  · skip
    refine j_bipush h dX11_signOf_14 (by decide) ?_
    refine j_iload_n h dX11_signOf_16 2 rfl rfl ?_
    refine j_iadd h dX11_signOf_17 ?_
    refine j_iconst h dX11_signOf_18 ?_
    refine j_isub h dX11_signOf_19 ?_
    exact hr _ _ _ _ dX11_signOf_20 ⟨(congrArg iI (show (((97 + (B c)) - 1) : Int) = (signS B c) by unfold signS; first | (rw [if_pos (by omega)]; omega) | (rw [if_neg (by omega), c2]; rfl))), rfl⟩

abbrev rmX11_section : Room := { frames := 3, cells := 0, slots := 0, locals := 69 }
theorem in_X11_section_X11 : ∀ w ∈ u_ws RX11 TX11 13, w ∈ wsX11_section := fun w hw => List.mem_cons_of_mem _ (List.mem_append_left _ (List.mem_append_left _ (List.mem_append_right _ (hw))))
theorem f_X11_section_19 : FlOK RX11 19 wsX11_section 11 1 := ⟨_, _, _, rfl, by decide, in_X11_section_X11, List.mem_of_getElem? (i := 1) rfl⟩
theorem f_X11_section_12 : FlOK RX11 12 wsX11_section 11 0 := ⟨_, _, _, rfl, by decide, in_X11_section_X11, List.mem_of_getElem? (i := 2) rfl⟩
theorem in_X11_section_X0 : ∀ w ∈ u_ws RX0 TX0 1, w ∈ wsX11_section := fun w hw => List.mem_cons_of_mem _ (List.mem_append_left _ (List.mem_append_right _ (hw)))
theorem f_X11_section_132 : FnOK RX11 132 wsX11_section 0 0 := ⟨_, _, _, "LayerShop", rfl, by decide, in_X11_section_X0, List.mem_of_getElem? (i := 2) rfl⟩
theorem f_X11_section_91 : FlOK RX11 91 wsX11_section 11 11 := ⟨_, _, _, rfl, by decide, in_X11_section_X11, List.mem_of_getElem? (i := 3) rfl⟩
theorem k_X11_print : CkOK yX11_print wsX11_print rmX11_print 0 0 cX11_print 2 none 1 := ⟨⟨_, rfl⟩, rfl, rfl, by decide +kernel⟩
theorem k_X11_signOf : CkOK yX11_signOf wsX11_signOf rmX11_signOf 0 0 cX11_signOf 3 (some .int) 1 := ⟨⟨_, rfl⟩, rfl, rfl, by decide +kernel⟩
set_option maxHeartbeats 600000 in
set_option maxRecDepth 100000 in
/-- section -/
theorem ct_X11_section (T : Nat → ClassId) (h11 : Nat) (h0 : Nat) (h2 : Nat) (h10 : Nat) (h4 : Nat) (h8 : Nat) (h9 : Nat) (h5 : Nat) (h6 : Nat) (h3 : Nat) (h1 : Nat) (pg : Nat) (pb : Int) (sb : Int) (c0 : Nat) (m0 : Nat) (q0 : Nat) (n : Int) (M : Int → Int) (Q : Int → Int) (B : Int → Int) (Pg : Int → Int) (x : Int) (w : Int) (hB : BOK B) (hx : -2147483648 ≤ x ∧ x ≤ 2147483647) (hw : -2147483648 ≤ w ∧ w ≤ 2147483647) : CtI T yX11_section wsX11_section rmX11_section 0 0 [.ref h11, .int (iI x), .int (iI w)] [(h11, .inr (11, [.ref h0, .ref h2, .ref h10, .ref h4, .ref h8, .ref h9, .ref h5, .ref h6, .ref h3, .ref h1, .ref pg, .int (iI pb), .int (iI sb)])), (h0, .inr (0, [.ref c0])), (h2, .inr (2, [.ref m0, .ref q0, .int (iI n)])), (m0, .inl (T 0, 2880, .inl (fun j : Nat => iI (M j)))), (q0, .inl (T 0, 2880, .inl (fun j : Nat => iI (Q j)))), (c0, .inl (T 0, 2880, .inl (fun j : Nat => iI (B j)))), (pg, .inl (T 0, 260, .inl (fun j : Nat => iI (Pg j))))] (fun r8 u => ∃ n2 : Int, ∃ M2 : Int → Int, ∃ Q2 : Int → Int, r8 = (iI ((secR Pg pb B x w).1)) ∧ u = [(h11, .inr (11, [.ref h0, .ref h2, .ref h10, .ref h4, .ref h8, .ref h9, .ref h5, .ref h6, .ref h3, .ref h1, .ref pg, .int (iI ((secR Pg pb B x w).2.2)), .int (iI sb)])), (h0, .inr (0, [.ref c0])), (h2, .inr (2, [.ref m0, .ref q0, .int (iI n2)])), (m0, .inl (T 0, 2880, .inl (fun j : Nat => iI (M2 j)))), (q0, .inl (T 0, 2880, .inl (fun j : Nat => iI (Q2 j)))), (c0, .inl (T 0, 2880, .inl (fun j : Nat => iI (B j)))), (pg, .inl (T 0, 260, .inl (fun j : Nat => iI (((secR Pg pb B x w).2.1) j))))]) := by
  refine ctI_of (cc := cX11_section) (maxL := 6) (ret := (some .int)) (by decide +kernel) rfl rfl (fun r u hp => by obtain ⟨_, _, _, rfl, -⟩ := hp; rfl) (Nat.le_of_ble_eq_true rfl) (fun X h hinit hr => ?_)
  refine j_eq (lv' := [(0, .ref h11), (1, .int (iI x)), (2, .int (iI w))]) rfl rfl rfl rfl rfl rfl ?_
  refine j_iload_n h dX11_section_0 1 rfl rfl ?_
  refine j_iconst h dX11_section_1 ?_
  refine j_iconst h dX11_section_2 ?_
  refine j_callSi (As := [.int (iI x), .int (iI 0), .int (iI 1)]) (wr := [(h11, .inr (11, [.ref h0, .ref h2, .ref h10, .ref h4, .ref h8, .ref h9, .ref h5, .ref h6, .ref h3, .ref h1, .ref pg, .int (iI pb), .int (iI sb)])), (h0, .inr (0, [.ref c0])), (h2, .inr (2, [.ref m0, .ref q0, .int (iI n)])), (m0, .inl (T 0, 2880, .inl (fun j : Nat => iI (M j)))), (q0, .inl (T 0, 2880, .inl (fun j : Nat => iI (Q j)))), (c0, .inl (T 0, 2880, .inl (fun j : Nat => iI (B j)))), (pg, .inl (T 0, 260, .inl (fun j : Nat => iI (Pg j))))]) (cells' := 0) (slots' := 0) h dX11_section_3 (ct_X11_within T x 0 1 (by first | assumption | omega) (by first | assumption | omega) (by first | assumption | omega)) k_X11_within gX11_section_X11_within ⟨Nat.le_of_ble_eq_true rfl, Nat.le_of_ble_eq_true rfl⟩ rfl rfl (Nat.le_of_ble_eq_true rfl) ⟨Nat.le_of_ble_eq_true rfl, Nat.le_of_ble_eq_true rfl⟩ rfl rfl [] [0, 1, 2, 3, 4, 5, 6] rfl rfl rfl rfl (by decide) (fun r9 u9 p1 => ?_)
  obtain ⟨rfl, rfl⟩ := p1
  refine j_eq (ws' := [(h11, .inr (11, [.ref h0, .ref h2, .ref h10, .ref h4, .ref h8, .ref h9, .ref h5, .ref h6, .ref h3, .ref h1, .ref pg, .int (iI pb), .int (iI sb)])), (h0, .inr (0, [.ref c0])), (h2, .inr (2, [.ref m0, .ref q0, .int (iI n)])), (m0, .inl (T 0, 2880, .inl (fun j : Nat => iI (M j)))), (q0, .inl (T 0, 2880, .inl (fun j : Nat => iI (Q j)))), (c0, .inl (T 0, 2880, .inl (fun j : Nat => iI (B j)))), (pg, .inl (T 0, 260, .inl (fun j : Nat => iI (Pg j))))]) rfl rfl rfl rfl rfl rfl ?_
  refine j_ifeqB h 19 dX11_section_6 (by decide) (fun c2 => ?_) (fun c2 => ?_)
  · skip
    replace c2 := of_decide_eq_false c2
    refine j_bipush h dX11_section_19 (by decide) ?_
    exact hr _ _ _ _ dX11_section_21 ⟨n, M, Q, (congrArg iI (show ((-102) : Int) = (secR Pg pb B x w).1 by unfold secR; first | rw [if_pos (by omega)] | (rw [if_neg (by omega), show z = -1 by omega]; rfl))), (by unfold secR; first | rw [if_pos (by omega)] | rw [if_neg (by omega), show z = -1 by omega]; rfl)⟩
  · skip
    replace c2 := of_decide_eq_true c2
    refine j_iload_n h dX11_section_9 2 rfl rfl ?_
    refine j_iconst h dX11_section_10 ?_
    refine j_bipush h dX11_section_11 (by decide) ?_
    refine j_callSi (As := [.int (iI w), .int (iI 0), .int (iI 11)]) (wr := [(h11, .inr (11, [.ref h0, .ref h2, .ref h10, .ref h4, .ref h8, .ref h9, .ref h5, .ref h6, .ref h3, .ref h1, .ref pg, .int (iI pb), .int (iI sb)])), (h0, .inr (0, [.ref c0])), (h2, .inr (2, [.ref m0, .ref q0, .int (iI n)])), (m0, .inl (T 0, 2880, .inl (fun j : Nat => iI (M j)))), (q0, .inl (T 0, 2880, .inl (fun j : Nat => iI (Q j)))), (c0, .inl (T 0, 2880, .inl (fun j : Nat => iI (B j)))), (pg, .inl (T 0, 260, .inl (fun j : Nat => iI (Pg j))))]) (cells' := 0) (slots' := 0) h dX11_section_13 (ct_X11_within T w 0 11 (by first | assumption | omega) (by first | assumption | omega) (by first | assumption | omega)) k_X11_within gX11_section_X11_within ⟨Nat.le_of_ble_eq_true rfl, Nat.le_of_ble_eq_true rfl⟩ rfl rfl (Nat.le_of_ble_eq_true rfl) ⟨Nat.le_of_ble_eq_true rfl, Nat.le_of_ble_eq_true rfl⟩ rfl rfl [] [0, 1, 2, 3, 4, 5, 6] rfl rfl rfl rfl (by decide) (fun r9 u9 p3 => ?_)
    obtain ⟨rfl, rfl⟩ := p3
    refine j_eq (ws' := [(h11, .inr (11, [.ref h0, .ref h2, .ref h10, .ref h4, .ref h8, .ref h9, .ref h5, .ref h6, .ref h3, .ref h1, .ref pg, .int (iI pb), .int (iI sb)])), (h0, .inr (0, [.ref c0])), (h2, .inr (2, [.ref m0, .ref q0, .int (iI n)])), (m0, .inl (T 0, 2880, .inl (fun j : Nat => iI (M j)))), (q0, .inl (T 0, 2880, .inl (fun j : Nat => iI (Q j)))), (c0, .inl (T 0, 2880, .inl (fun j : Nat => iI (B j)))), (pg, .inl (T 0, 260, .inl (fun j : Nat => iI (Pg j))))]) rfl rfl rfl rfl rfl rfl ?_
    refine j_ifneB h 22 dX11_section_16 (by decide) (fun c4 => ?_) (fun c4 => ?_)
    · skip
      replace c4 := of_decide_eq_true c4
      refine j_aload_n h dX11_section_22 0 rfl rfl ?_
      refine j_get h dX11_section_23 f_X11_section_19 0 rfl rfl ?_
      refine j_aload_n h dX11_section_26 0 rfl rfl ?_
      refine j_get h dX11_section_27 f_X11_section_12 0 rfl rfl ?_
      refine j_getN h dX11_section_30 f_X11_section_132 1 rfl rfl ?_
      refine j_callVv (As := [.ref c0]) (wr := [(h11, .inr (11, [.ref h0, .ref h2, .ref h10, .ref h4, .ref h8, .ref h9, .ref h5, .ref h6, .ref h3, .ref h1, .ref pg, .int (iI pb), .int (iI sb)])), (h0, .inr (0, [.ref c0])), (pg, .inl (T 0, 260, .inl (fun j : Nat => iI (Pg j))))]) (cells' := 0) (slots' := 0) h dX11_section_33 (ct_X2_markOpen T h2 m0 q0 c0 M Q n B (by first | assumption | omega)) k_X2_markOpen gX11_section_X2_markOpen rfl rfl 2 rfl ⟨Nat.le_of_ble_eq_true rfl, Nat.le_of_ble_eq_true rfl⟩ rfl rfl (Nat.le_of_ble_eq_true rfl) ⟨Nat.le_of_ble_eq_true rfl, Nat.le_of_ble_eq_true rfl⟩ rfl rfl [2, 3, 4, 5] [0, 1, 6] rfl rfl rfl rfl (by decide) (fun u9 p5 => ?_)
      obtain rfl := p5
      refine j_eq (ws' := [(h11, .inr (11, [.ref h0, .ref h2, .ref h10, .ref h4, .ref h8, .ref h9, .ref h5, .ref h6, .ref h3, .ref h1, .ref pg, .int (iI pb), .int (iI sb)])), (h0, .inr (0, [.ref c0])), (pg, .inl (T 0, 260, .inl (fun j : Nat => iI (Pg j)))), (h2, .inr (2, [.ref m0, .ref q0, .int (iI ((opnS B).2.length : Int))])), (m0, .inl (T 0, 2880, .inl (fun j : Nat => iI ((fun c9 => bI ((opnS B).1 c9)) j)))), (q0, .inl (T 0, 2880, .inl (fun j : Nat => iI ((qF Q (opnS B).2) j)))), (c0, .inl (T 0, 2880, .inl (fun j : Nat => iI (B j))))]) rfl rfl rfl rfl rfl rfl ?_
      refine j_aload_n h dX11_section_36 0 rfl rfl ?_
      refine j_iconst h dX11_section_37 ?_
      refine j_put (ws' := [(h11, .inr (11, [.ref h0, .ref h2, .ref h10, .ref h4, .ref h8, .ref h9, .ref h5, .ref h6, .ref h3, .ref h1, .ref pg, .int (iI 0), .int (iI sb)])), (h0, .inr (0, [.ref c0])), (pg, .inl (T 0, 260, .inl (fun j : Nat => iI (Pg j)))), (h2, .inr (2, [.ref m0, .ref q0, .int (iI ((opnS B).2.length : Int))])), (m0, .inl (T 0, 2880, .inl (fun j : Nat => iI ((fun c9 => bI ((opnS B).1 c9)) j)))), (q0, .inl (T 0, 2880, .inl (fun j : Nat => iI ((qF Q (opnS B).2) j)))), (c0, .inl (T 0, 2880, .inl (fun j : Nat => iI (B j))))]) h dX11_section_38 f_X11_section_91 p_X11_11 0 rfl rfl rfl (Nat.le_of_ble_eq_true rfl) rfl ?_
      refine j_bipush h dX11_section_41 (by decide) ?_
      refine j_istore_n (lv' := [(0, .ref h11), (1, .int (iI x)), (2, .int (iI w)), (3, .int (iI 19))]) h dX11_section_43 [1, 2, 3, 0] rfl (by decide) rfl ?_
      have lp44 : ∀ (n44 : Nat) (z : Int) (hz : -1 ≤ z ∧ z ≤ 19), ((z + 1).toNat) < n44 → J X 0 0 44 [(0, .ref h11), (1, .int (iI x)), (2, .int (iI w)), (3, .int (iI z))] [] [(h11, .inr (11, [.ref h0, .ref h2, .ref h10, .ref h4, .ref h8, .ref h9, .ref h5, .ref h6, .ref h3, .ref h1, .ref pg, .int (iI (13 * (19 - z))), .int (iI sb)])), (h0, .inr (0, [.ref c0])), (pg, .inl (T 0, 260, .inl (fun j : Nat => iI ((pgF Pg B x w (13 * (19 - z))) j)))), (h2, .inr (2, [.ref m0, .ref q0, .int (iI ((opnS B).2.length : Int))])), (m0, .inl (T 0, 2880, .inl (fun j : Nat => iI ((fun c9 => bI ((opnS B).1 c9)) j)))), (q0, .inl (T 0, 2880, .inl (fun j : Nat => iI ((qF Q (opnS B).2) j)))), (c0, .inl (T 0, 2880, .inl (fun j : Nat => iI (B j))))] := by
        intro n44
        induction n44 with
        | zero => exact fun z hz hn44 => absurd hn44 (Nat.not_lt_zero _)
        | succ n44 ih44 =>
          intro z hz hn44
          refine j_iload_n h dX11_section_44 3 rfl rfl ?_
          refine j_if_lt h 115 dX11_section_45 (by decide) (by omega) (fun c6 => ?_) (fun c6 => ?_)
          · skip
            refine j_aload_n h dX11_section_115 0 rfl rfl ?_
            refine j_get h dX11_section_116 f_X11_section_91 0 rfl rfl ?_
            refine j_ws (ws' := [(h11, .inr (11, [.ref h0, .ref h2, .ref h10, .ref h4, .ref h8, .ref h9, .ref h5, .ref h6, .ref h3, .ref h1, .ref pg, .int (iI (13 * (19 - z))), .int (iI sb)])), (h0, .inr (0, [.ref c0])), (h2, .inr (2, [.ref m0, .ref q0, .int (iI ((opnS B).2.length : Int))])), (m0, .inl (T 0, 2880, .inl (fun j : Nat => iI ((fun c9 => bI ((opnS B).1 c9)) j)))), (q0, .inl (T 0, 2880, .inl (fun j : Nat => iI ((qF Q (opnS B).2) j)))), (c0, .inl (T 0, 2880, .inl (fun j : Nat => iI (B j)))), (pg, .inl (T 0, 260, .inl (fun j : Nat => iI ((pgF Pg B x w (13 * (19 - z))) j))))]) [0, 1, 3, 4, 5, 6, 2] rfl rfl ?_
            exact hr _ _ _ _ dX11_section_119 ⟨((opnS B).2.length : Int), (fun c9 => bI ((opnS B).1 c9)), (qF Q (opnS B).2), (congrArg iI (show (13 * (19 - z) : Int) = (secR Pg pb B x w).1 by unfold secR; first | rw [if_pos (by omega)] | (rw [if_neg (by omega), show z = -1 by omega]; rfl))), (by unfold secR; first | rw [if_pos (by omega)] | rw [if_neg (by omega), show z = -1 by omega]; rfl)⟩
          · skip
            refine j_iconst h dX11_section_48 ?_
            refine j_istore (lv' := [(0, .ref h11), (1, .int (iI x)), (2, .int (iI w)), (3, .int (iI z)), (4, .int (iI 0))]) h dX11_section_49 [1, 2, 3, 4, 0] (by decide) rfl ?_
            have lp51 : ∀ (n51 : Nat) (i : Int) (hi : 0 ≤ i ∧ i ≤ 12), ((12 - i).toNat) < n51 → J X 0 0 51 [(0, .ref h11), (1, .int (iI x)), (2, .int (iI w)), (3, .int (iI z)), (4, .int (iI i))] [] [(h11, .inr (11, [.ref h0, .ref h2, .ref h10, .ref h4, .ref h8, .ref h9, .ref h5, .ref h6, .ref h3, .ref h1, .ref pg, .int (iI (13 * (19 - z) + i)), .int (iI sb)])), (h0, .inr (0, [.ref c0])), (pg, .inl (T 0, 260, .inl (fun j : Nat => iI ((pgF Pg B x w (13 * (19 - z) + i)) j)))), (h2, .inr (2, [.ref m0, .ref q0, .int (iI ((opnS B).2.length : Int))])), (m0, .inl (T 0, 2880, .inl (fun j : Nat => iI ((fun c9 => bI ((opnS B).1 c9)) j)))), (q0, .inl (T 0, 2880, .inl (fun j : Nat => iI ((qF Q (opnS B).2) j)))), (c0, .inl (T 0, 2880, .inl (fun j : Nat => iI (B j))))] := by
              intro n51
              induction n51 with
              | zero => exact fun i hi hn51 => absurd hn51 (Nat.not_lt_zero _)
              | succ n51 ih51 =>
                intro i hi hn51
                refine j_iload h dX11_section_51 4 rfl ?_
                refine j_bipush h dX11_section_53 (by decide) ?_
                refine j_icmp_ge h 103 dX11_section_55 (by decide) (by omega) (by omega) (fun c7 => ?_) (fun c7 => ?_)
                · skip
                  refine j_aload_n h dX11_section_103 0 rfl rfl ?_
                  refine j_bipush h dX11_section_104 (by decide) ?_
                  refine j_callVv (As := [.int (iI 10)]) (wr := [(h0, .inr (0, [.ref c0])), (h2, .inr (2, [.ref m0, .ref q0, .int (iI ((opnS B).2.length : Int))])), (m0, .inl (T 0, 2880, .inl (fun j : Nat => iI ((fun c9 => bI ((opnS B).1 c9)) j)))), (q0, .inl (T 0, 2880, .inl (fun j : Nat => iI ((qF Q (opnS B).2) j)))), (c0, .inl (T 0, 2880, .inl (fun j : Nat => iI (B j))))]) (cells' := 0) (slots' := 0) h dX11_section_106 (ct_X11_print T h11 h0 h2 h10 h4 h8 h9 h5 h6 h3 h1 pg (13 * (19 - z) + i) sb (pgF Pg B x w (13 * (19 - z) + i)) 10 (by omega)) k_X11_print gX11_section_X11_print rfl rfl 0 rfl ⟨Nat.le_of_ble_eq_true rfl, Nat.le_of_ble_eq_true rfl⟩ rfl rfl (Nat.le_of_ble_eq_true rfl) ⟨Nat.le_of_ble_eq_true rfl, Nat.le_of_ble_eq_true rfl⟩ rfl rfl [0, 2] [1, 3, 4, 5, 6] rfl rfl rfl rfl (by decide) (fun u9 p8 => ?_)
                  obtain rfl := p8
                  refine j_eq (ws' := [(h0, .inr (0, [.ref c0])), (h2, .inr (2, [.ref m0, .ref q0, .int (iI ((opnS B).2.length : Int))])), (m0, .inl (T 0, 2880, .inl (fun j : Nat => iI ((fun c9 => bI ((opnS B).1 c9)) j)))), (q0, .inl (T 0, 2880, .inl (fun j : Nat => iI ((qF Q (opnS B).2) j)))), (c0, .inl (T 0, 2880, .inl (fun j : Nat => iI (B j)))), (h11, .inr (11, [.ref h0, .ref h2, .ref h10, .ref h4, .ref h8, .ref h9, .ref h5, .ref h6, .ref h3, .ref h1, .ref pg, .int (iI ((13 * (19 - z) + i) + 1)), .int (iI sb)])), (pg, .inl (T 0, 260, .inl (fun j : Nat => iI ((upI (pgF Pg B x w (13 * (19 - z) + i)) (13 * (19 - z) + i) 10) j))))]) rfl rfl rfl rfl rfl rfl ?_
                  refine j_iinc (lv' := [(0, .ref h11), (1, .int (iI x)), (2, .int (iI w)), (3, .int (iI (z + (-1)))), (4, .int (iI i))]) h dX11_section_109 3 [1, 2, 3, 0, 4] rfl (by decide) rfl ?_
                  refine j_goto (tgt := 44) h dX11_section_112 (by decide) ?_
                  refine j_ws (ws' := [(h11, .inr (11, [.ref h0, .ref h2, .ref h10, .ref h4, .ref h8, .ref h9, .ref h5, .ref h6, .ref h3, .ref h1, .ref pg, .int (iI ((13 * (19 - z) + i) + 1)), .int (iI sb)])), (h0, .inr (0, [.ref c0])), (pg, .inl (T 0, 260, .inl (fun j : Nat => iI ((upI (pgF Pg B x w (13 * (19 - z) + i)) (13 * (19 - z) + i) 10) j)))), (h2, .inr (2, [.ref m0, .ref q0, .int (iI ((opnS B).2.length : Int))])), (m0, .inl (T 0, 2880, .inl (fun j : Nat => iI ((fun c9 => bI ((opnS B).1 c9)) j)))), (q0, .inl (T 0, 2880, .inl (fun j : Nat => iI ((qF Q (opnS B).2) j)))), (c0, .inl (T 0, 2880, .inl (fun j : Nat => iI (B j))))]) [5, 0, 6, 1, 2, 3, 4] rfl rfl ?_
                  refine j_lv (lv' := [(0, .ref h11), (1, .int (iI x)), (2, .int (iI w)), (3, .int (iI (z + (-1))))]) [0, 1, 2, 3] rfl ?_
                  refine j_eq (ws' := [(h11, .inr (11, [.ref h0, .ref h2, .ref h10, .ref h4, .ref h8, .ref h9, .ref h5, .ref h6, .ref h3, .ref h1, .ref pg, .int (iI (13 * (19 - (z + (-1))))), .int (iI sb)])), (h0, .inr (0, [.ref c0])), (pg, .inl (T 0, 260, .inl (fun j : Nat => iI ((pgF Pg B x w (13 * (19 - (z + (-1))))) j)))), (h2, .inr (2, [.ref m0, .ref q0, .int (iI ((opnS B).2.length : Int))])), (m0, .inl (T 0, 2880, .inl (fun j : Nat => iI ((fun c9 => bI ((opnS B).1 c9)) j)))), (q0, .inl (T 0, 2880, .inl (fun j : Nat => iI ((qF Q (opnS B).2) j)))), (c0, .inl (T 0, 2880, .inl (fun j : Nat => iI (B j))))]) rfl rfl rfl rfl rfl (by have hi2 : i = 12 := (by omega); subst hi2; rw [pgF_s (Pg := Pg) (B := B) (ax := x) (wh := w) (k := 13 * (19 - z) + 12) (v := 10) (by omega) (sec_nl (by omega)), show 13 * (19 - z) + 12 + 1 = 13 * (19 - (z + -1)) by omega]) ?_
                  exact ih44 (z + (-1)) (by first | assumption | omega) (by omega)
                · skip
                  refine j_iload_n h dX11_section_58 1 rfl rfl ?_
                  refine j_if_ne h 72 dX11_section_59 (by decide) (by omega) (fun c9 => ?_) (fun c9 => ?_)
                  · skip
                    refine j_bipush h dX11_section_72 (by decide) ?_
                    refine j_iload h dX11_section_74 4 rfl ?_
                    refine j_imul h dX11_section_76 ?_
                    refine j_iload_n h dX11_section_77 2 rfl rfl ?_
                    refine j_iadd h dX11_section_78 ?_
                    refine j_istore (lv' := [(0, .ref h11), (1, .int (iI x)), (2, .int (iI w)), (3, .int (iI z)), (4, .int (iI i)), (5, .int (iI ((12 * i) + w)))]) h dX11_section_79 [1, 2, 3, 4, 5, 0] (by decide) rfl ?_
                    refine j_aload_n h dX11_section_81 0 rfl rfl ?_
                    refine j_aload_n h dX11_section_82 0 rfl rfl ?_
                    refine j_iload_n h dX11_section_83 3 rfl rfl ?_
                    refine j_sipush h dX11_section_84 (by decide) ?_
                    refine j_imul h dX11_section_87 ?_
                    refine j_iload h dX11_section_88 5 rfl ?_
                    refine j_iadd h dX11_section_90 ?_
                    refine j_callVi (As := [.int (iI ((z * 144) + ((12 * i) + w)))]) (wr := [(pg, .inl (T 0, 260, .inl (fun j : Nat => iI ((pgF Pg B x w (13 * (19 - z) + i)) j)))), (q0, .inl (T 0, 2880, .inl (fun j : Nat => iI ((qF Q (opnS B).2) j))))]) (cells' := 0) (slots' := 0) h dX11_section_91 (ct_X11_signOf T h11 h0 h2 h10 h4 h8 h9 h5 h6 h3 h1 pg (13 * (19 - z) + i) sb c0 m0 q0 ((opnS B).2.length : Int) B ((z * 144) + ((12 * i) + w)) (by first | assumption | omega) (by omega)) k_X11_signOf gX11_section_X11_signOf rfl rfl 0 rfl ⟨Nat.le_of_ble_eq_true rfl, Nat.le_of_ble_eq_true rfl⟩ rfl rfl (Nat.le_of_ble_eq_true rfl) ⟨Nat.le_of_ble_eq_true rfl, Nat.le_of_ble_eq_true rfl⟩ rfl rfl [0, 1, 6, 3, 4] [2, 5] rfl rfl rfl rfl (by decide) (fun r9 u9 p10 => ?_)
                    obtain ⟨rfl, rfl⟩ := p10
                    refine j_eq (ws' := [(pg, .inl (T 0, 260, .inl (fun j : Nat => iI ((pgF Pg B x w (13 * (19 - z) + i)) j)))), (q0, .inl (T 0, 2880, .inl (fun j : Nat => iI ((qF Q (opnS B).2) j)))), (h11, .inr (11, [.ref h0, .ref h2, .ref h10, .ref h4, .ref h8, .ref h9, .ref h5, .ref h6, .ref h3, .ref h1, .ref pg, .int (iI (13 * (19 - z) + i)), .int (iI sb)])), (h0, .inr (0, [.ref c0])), (c0, .inl (T 0, 2880, .inl (fun j : Nat => iI (B j)))), (h2, .inr (2, [.ref m0, .ref q0, .int (iI ((opnS B).2.length : Int))])), (m0, .inl (T 0, 2880, .inl (fun j : Nat => iI ((fun c9 => bI ((opnS B).1 c9)) j))))]) rfl rfl rfl rfl rfl rfl ?_
                    refine j_callVv (As := [.int (iI (signS B ((z * 144) + ((12 * i) + w))))]) (wr := [(q0, .inl (T 0, 2880, .inl (fun j : Nat => iI ((qF Q (opnS B).2) j)))), (h0, .inr (0, [.ref c0])), (c0, .inl (T 0, 2880, .inl (fun j : Nat => iI (B j)))), (h2, .inr (2, [.ref m0, .ref q0, .int (iI ((opnS B).2.length : Int))])), (m0, .inl (T 0, 2880, .inl (fun j : Nat => iI ((fun c9 => bI ((opnS B).1 c9)) j))))]) (cells' := 0) (slots' := 0) h dX11_section_94 (ct_X11_print T h11 h0 h2 h10 h4 h8 h9 h5 h6 h3 h1 pg (13 * (19 - z) + i) sb (pgF Pg B x w (13 * (19 - z) + i)) (signS B ((z * 144) + ((12 * i) + w))) (by omega)) k_X11_print gX11_section_X11_print rfl rfl 2 rfl ⟨Nat.le_of_ble_eq_true rfl, Nat.le_of_ble_eq_true rfl⟩ rfl rfl (Nat.le_of_ble_eq_true rfl) ⟨Nat.le_of_ble_eq_true rfl, Nat.le_of_ble_eq_true rfl⟩ rfl rfl [2, 0] [1, 3, 4, 5, 6] rfl rfl rfl rfl (by decide) (fun u9 p11 => ?_)
                    obtain rfl := p11
                    refine j_eq (ws' := [(q0, .inl (T 0, 2880, .inl (fun j : Nat => iI ((qF Q (opnS B).2) j)))), (h0, .inr (0, [.ref c0])), (c0, .inl (T 0, 2880, .inl (fun j : Nat => iI (B j)))), (h2, .inr (2, [.ref m0, .ref q0, .int (iI ((opnS B).2.length : Int))])), (m0, .inl (T 0, 2880, .inl (fun j : Nat => iI ((fun c9 => bI ((opnS B).1 c9)) j)))), (h11, .inr (11, [.ref h0, .ref h2, .ref h10, .ref h4, .ref h8, .ref h9, .ref h5, .ref h6, .ref h3, .ref h1, .ref pg, .int (iI ((13 * (19 - z) + i) + 1)), .int (iI sb)])), (pg, .inl (T 0, 260, .inl (fun j : Nat => iI ((upI (pgF Pg B x w (13 * (19 - z) + i)) (13 * (19 - z) + i) (signS B ((z * 144) + ((12 * i) + w)))) j))))]) rfl rfl rfl rfl rfl rfl ?_
                    refine j_iinc (lv' := [(0, .ref h11), (1, .int (iI x)), (2, .int (iI w)), (3, .int (iI z)), (4, .int (iI (i + 1))), (5, .int (iI ((12 * i) + w)))]) h dX11_section_97 4 [1, 2, 3, 4, 0, 5] rfl (by decide) rfl ?_
                    refine j_goto (tgt := 51) h dX11_section_100 (by decide) ?_
                    refine j_ws (ws' := [(h11, .inr (11, [.ref h0, .ref h2, .ref h10, .ref h4, .ref h8, .ref h9, .ref h5, .ref h6, .ref h3, .ref h1, .ref pg, .int (iI ((13 * (19 - z) + i) + 1)), .int (iI sb)])), (h0, .inr (0, [.ref c0])), (pg, .inl (T 0, 260, .inl (fun j : Nat => iI ((upI (pgF Pg B x w (13 * (19 - z) + i)) (13 * (19 - z) + i) (signS B ((z * 144) + ((12 * i) + w)))) j)))), (h2, .inr (2, [.ref m0, .ref q0, .int (iI ((opnS B).2.length : Int))])), (m0, .inl (T 0, 2880, .inl (fun j : Nat => iI ((fun c9 => bI ((opnS B).1 c9)) j)))), (q0, .inl (T 0, 2880, .inl (fun j : Nat => iI ((qF Q (opnS B).2) j)))), (c0, .inl (T 0, 2880, .inl (fun j : Nat => iI (B j))))]) [5, 1, 6, 3, 4, 0, 2] rfl rfl ?_
                    refine j_lv (lv' := [(0, .ref h11), (1, .int (iI x)), (2, .int (iI w)), (3, .int (iI z)), (4, .int (iI (i + 1)))]) [0, 1, 2, 3, 4] rfl ?_
                    refine j_eq (ws' := [(h11, .inr (11, [.ref h0, .ref h2, .ref h10, .ref h4, .ref h8, .ref h9, .ref h5, .ref h6, .ref h3, .ref h1, .ref pg, .int (iI (13 * (19 - z) + (i + 1))), .int (iI sb)])), (h0, .inr (0, [.ref c0])), (pg, .inl (T 0, 260, .inl (fun j : Nat => iI ((pgF Pg B x w (13 * (19 - z) + (i + 1))) j)))), (h2, .inr (2, [.ref m0, .ref q0, .int (iI ((opnS B).2.length : Int))])), (m0, .inl (T 0, 2880, .inl (fun j : Nat => iI ((fun c9 => bI ((opnS B).1 c9)) j)))), (q0, .inl (T 0, 2880, .inl (fun j : Nat => iI ((qF Q (opnS B).2) j)))), (c0, .inl (T 0, 2880, .inl (fun j : Nat => iI (B j))))]) rfl rfl rfl rfl rfl (by rw [pgF_s (by omega) (sec_at (x := x) (w := w) (z := z) (i := i) (c := ((z * 144) + ((12 * i) + w))) (by omega) (by omega) (by rw [if_neg c9]; omega)), show 13 * (19 - z) + i + 1 = 13 * (19 - z) + (i + 1) by omega]) ?_
                    exact ih51 (i + 1) (by first | assumption | omega) (by omega)
                  · skip
                    refine j_bipush h dX11_section_62 (by decide) ?_
                    refine j_iload_n h dX11_section_64 2 rfl rfl ?_
                    refine j_imul h dX11_section_65 ?_
                    refine j_iload h dX11_section_66 4 rfl ?_
                    refine j_iadd h dX11_section_68 ?_
                    refine j_goto (tgt := 79) h dX11_section_69 (by decide) ?_
                    refine j_istore (lv' := [(0, .ref h11), (1, .int (iI x)), (2, .int (iI w)), (3, .int (iI z)), (4, .int (iI i)), (5, .int (iI ((12 * w) + i)))]) h dX11_section_79 [1, 2, 3, 4, 5, 0] (by decide) rfl ?_
                    refine j_aload_n h dX11_section_81 0 rfl rfl ?_
                    refine j_aload_n h dX11_section_82 0 rfl rfl ?_
                    refine j_iload_n h dX11_section_83 3 rfl rfl ?_
                    refine j_sipush h dX11_section_84 (by decide) ?_
                    refine j_imul h dX11_section_87 ?_
                    refine j_iload h dX11_section_88 5 rfl ?_
                    refine j_iadd h dX11_section_90 ?_
                    refine j_callVi (As := [.int (iI ((z * 144) + ((12 * w) + i)))]) (wr := [(pg, .inl (T 0, 260, .inl (fun j : Nat => iI ((pgF Pg B x w (13 * (19 - z) + i)) j)))), (q0, .inl (T 0, 2880, .inl (fun j : Nat => iI ((qF Q (opnS B).2) j))))]) (cells' := 0) (slots' := 0) h dX11_section_91 (ct_X11_signOf T h11 h0 h2 h10 h4 h8 h9 h5 h6 h3 h1 pg (13 * (19 - z) + i) sb c0 m0 q0 ((opnS B).2.length : Int) B ((z * 144) + ((12 * w) + i)) (by first | assumption | omega) (by omega)) k_X11_signOf gX11_section_X11_signOf rfl rfl 0 rfl ⟨Nat.le_of_ble_eq_true rfl, Nat.le_of_ble_eq_true rfl⟩ rfl rfl (Nat.le_of_ble_eq_true rfl) ⟨Nat.le_of_ble_eq_true rfl, Nat.le_of_ble_eq_true rfl⟩ rfl rfl [0, 1, 6, 3, 4] [2, 5] rfl rfl rfl rfl (by decide) (fun r9 u9 p12 => ?_)
                    obtain ⟨rfl, rfl⟩ := p12
                    refine j_eq (ws' := [(pg, .inl (T 0, 260, .inl (fun j : Nat => iI ((pgF Pg B x w (13 * (19 - z) + i)) j)))), (q0, .inl (T 0, 2880, .inl (fun j : Nat => iI ((qF Q (opnS B).2) j)))), (h11, .inr (11, [.ref h0, .ref h2, .ref h10, .ref h4, .ref h8, .ref h9, .ref h5, .ref h6, .ref h3, .ref h1, .ref pg, .int (iI (13 * (19 - z) + i)), .int (iI sb)])), (h0, .inr (0, [.ref c0])), (c0, .inl (T 0, 2880, .inl (fun j : Nat => iI (B j)))), (h2, .inr (2, [.ref m0, .ref q0, .int (iI ((opnS B).2.length : Int))])), (m0, .inl (T 0, 2880, .inl (fun j : Nat => iI ((fun c9 => bI ((opnS B).1 c9)) j))))]) rfl rfl rfl rfl rfl rfl ?_
                    refine j_callVv (As := [.int (iI (signS B ((z * 144) + ((12 * w) + i))))]) (wr := [(q0, .inl (T 0, 2880, .inl (fun j : Nat => iI ((qF Q (opnS B).2) j)))), (h0, .inr (0, [.ref c0])), (c0, .inl (T 0, 2880, .inl (fun j : Nat => iI (B j)))), (h2, .inr (2, [.ref m0, .ref q0, .int (iI ((opnS B).2.length : Int))])), (m0, .inl (T 0, 2880, .inl (fun j : Nat => iI ((fun c9 => bI ((opnS B).1 c9)) j))))]) (cells' := 0) (slots' := 0) h dX11_section_94 (ct_X11_print T h11 h0 h2 h10 h4 h8 h9 h5 h6 h3 h1 pg (13 * (19 - z) + i) sb (pgF Pg B x w (13 * (19 - z) + i)) (signS B ((z * 144) + ((12 * w) + i))) (by omega)) k_X11_print gX11_section_X11_print rfl rfl 2 rfl ⟨Nat.le_of_ble_eq_true rfl, Nat.le_of_ble_eq_true rfl⟩ rfl rfl (Nat.le_of_ble_eq_true rfl) ⟨Nat.le_of_ble_eq_true rfl, Nat.le_of_ble_eq_true rfl⟩ rfl rfl [2, 0] [1, 3, 4, 5, 6] rfl rfl rfl rfl (by decide) (fun u9 p13 => ?_)
                    obtain rfl := p13
                    refine j_eq (ws' := [(q0, .inl (T 0, 2880, .inl (fun j : Nat => iI ((qF Q (opnS B).2) j)))), (h0, .inr (0, [.ref c0])), (c0, .inl (T 0, 2880, .inl (fun j : Nat => iI (B j)))), (h2, .inr (2, [.ref m0, .ref q0, .int (iI ((opnS B).2.length : Int))])), (m0, .inl (T 0, 2880, .inl (fun j : Nat => iI ((fun c9 => bI ((opnS B).1 c9)) j)))), (h11, .inr (11, [.ref h0, .ref h2, .ref h10, .ref h4, .ref h8, .ref h9, .ref h5, .ref h6, .ref h3, .ref h1, .ref pg, .int (iI ((13 * (19 - z) + i) + 1)), .int (iI sb)])), (pg, .inl (T 0, 260, .inl (fun j : Nat => iI ((upI (pgF Pg B x w (13 * (19 - z) + i)) (13 * (19 - z) + i) (signS B ((z * 144) + ((12 * w) + i)))) j))))]) rfl rfl rfl rfl rfl rfl ?_
                    refine j_iinc (lv' := [(0, .ref h11), (1, .int (iI x)), (2, .int (iI w)), (3, .int (iI z)), (4, .int (iI (i + 1))), (5, .int (iI ((12 * w) + i)))]) h dX11_section_97 4 [1, 2, 3, 4, 0, 5] rfl (by decide) rfl ?_
                    refine j_goto (tgt := 51) h dX11_section_100 (by decide) ?_
                    refine j_ws (ws' := [(h11, .inr (11, [.ref h0, .ref h2, .ref h10, .ref h4, .ref h8, .ref h9, .ref h5, .ref h6, .ref h3, .ref h1, .ref pg, .int (iI ((13 * (19 - z) + i) + 1)), .int (iI sb)])), (h0, .inr (0, [.ref c0])), (pg, .inl (T 0, 260, .inl (fun j : Nat => iI ((upI (pgF Pg B x w (13 * (19 - z) + i)) (13 * (19 - z) + i) (signS B ((z * 144) + ((12 * w) + i)))) j)))), (h2, .inr (2, [.ref m0, .ref q0, .int (iI ((opnS B).2.length : Int))])), (m0, .inl (T 0, 2880, .inl (fun j : Nat => iI ((fun c9 => bI ((opnS B).1 c9)) j)))), (q0, .inl (T 0, 2880, .inl (fun j : Nat => iI ((qF Q (opnS B).2) j)))), (c0, .inl (T 0, 2880, .inl (fun j : Nat => iI (B j))))]) [5, 1, 6, 3, 4, 0, 2] rfl rfl ?_
                    refine j_lv (lv' := [(0, .ref h11), (1, .int (iI x)), (2, .int (iI w)), (3, .int (iI z)), (4, .int (iI (i + 1)))]) [0, 1, 2, 3, 4] rfl ?_
                    refine j_eq (ws' := [(h11, .inr (11, [.ref h0, .ref h2, .ref h10, .ref h4, .ref h8, .ref h9, .ref h5, .ref h6, .ref h3, .ref h1, .ref pg, .int (iI (13 * (19 - z) + (i + 1))), .int (iI sb)])), (h0, .inr (0, [.ref c0])), (pg, .inl (T 0, 260, .inl (fun j : Nat => iI ((pgF Pg B x w (13 * (19 - z) + (i + 1))) j)))), (h2, .inr (2, [.ref m0, .ref q0, .int (iI ((opnS B).2.length : Int))])), (m0, .inl (T 0, 2880, .inl (fun j : Nat => iI ((fun c9 => bI ((opnS B).1 c9)) j)))), (q0, .inl (T 0, 2880, .inl (fun j : Nat => iI ((qF Q (opnS B).2) j)))), (c0, .inl (T 0, 2880, .inl (fun j : Nat => iI (B j))))]) rfl rfl rfl rfl rfl (by rw [pgF_s (by omega) (sec_at (x := x) (w := w) (z := z) (i := i) (c := ((z * 144) + ((12 * w) + i))) (by omega) (by omega) (by rw [if_pos c9]; omega)), show 13 * (19 - z) + i + 1 = 13 * (19 - z) + (i + 1) by omega]) ?_
                    exact ih51 (i + 1) (by first | assumption | omega) (by omega)
            refine j_eq (ws' := [(h11, .inr (11, [.ref h0, .ref h2, .ref h10, .ref h4, .ref h8, .ref h9, .ref h5, .ref h6, .ref h3, .ref h1, .ref pg, .int (iI (13 * (19 - z) + 0)), .int (iI sb)])), (h0, .inr (0, [.ref c0])), (pg, .inl (T 0, 260, .inl (fun j : Nat => iI ((pgF Pg B x w (13 * (19 - z) + 0)) j)))), (h2, .inr (2, [.ref m0, .ref q0, .int (iI ((opnS B).2.length : Int))])), (m0, .inl (T 0, 2880, .inl (fun j : Nat => iI ((fun c9 => bI ((opnS B).1 c9)) j)))), (q0, .inl (T 0, 2880, .inl (fun j : Nat => iI ((qF Q (opnS B).2) j)))), (c0, .inl (T 0, 2880, .inl (fun j : Nat => iI (B j))))]) rfl rfl rfl rfl rfl (by rw [show (13 * (19 - z) + 0 : Int) = 13 * (19 - z) by omega]) ?_
            exact lp51 _ 0 (by first | assumption | omega) (Nat.lt_succ_self _)
      refine j_eq (ws' := [(h11, .inr (11, [.ref h0, .ref h2, .ref h10, .ref h4, .ref h8, .ref h9, .ref h5, .ref h6, .ref h3, .ref h1, .ref pg, .int (iI (13 * (19 - 19))), .int (iI sb)])), (h0, .inr (0, [.ref c0])), (pg, .inl (T 0, 260, .inl (fun j : Nat => iI ((pgF Pg B x w (13 * (19 - 19))) j)))), (h2, .inr (2, [.ref m0, .ref q0, .int (iI ((opnS B).2.length : Int))])), (m0, .inl (T 0, 2880, .inl (fun j : Nat => iI ((fun c9 => bI ((opnS B).1 c9)) j)))), (q0, .inl (T 0, 2880, .inl (fun j : Nat => iI ((qF Q (opnS B).2) j)))), (c0, .inl (T 0, 2880, .inl (fun j : Nat => iI (B j))))]) rfl rfl rfl rfl rfl (by rw [show (13 * (19 - 19) : Int) = 0 from rfl, pgF_0]) ?_
      exact lp44 _ 19 (by first | assumption | omega) (Nat.lt_succ_self _)
    · skip
      replace c4 := of_decide_eq_false c4
      refine j_bipush h dX11_section_19 (by decide) ?_
      exact hr _ _ _ _ dX11_section_21 ⟨n, M, Q, (congrArg iI (show ((-102) : Int) = (secR Pg pb B x w).1 by unfold secR; first | rw [if_pos (by omega)] | (rw [if_neg (by omega), show z = -1 by omega]; rfl))), (by unfold secR; first | rw [if_pos (by omega)] | rw [if_neg (by omega), show z = -1 by omega]; rfl)⟩

abbrev rmX11_out : Room := { frames := 1, cells := 0, slots := 0, locals := 22 }
theorem in_X11_out_X11 : ∀ w ∈ u_ws RX11 TX11 13, w ∈ wsX11_out := fun w hw => List.mem_cons_of_mem _ (List.mem_append_right _ (hw))
theorem f_X11_out_91 : FlOK RX11 91 wsX11_out 11 11 := ⟨_, _, _, rfl, by decide, in_X11_out_X11, List.mem_of_getElem? (i := 1) rfl⟩
theorem f_X11_out_87 : FlOK RX11 87 wsX11_out 11 10 := ⟨_, _, _, rfl, by decide, in_X11_out_X11, List.mem_of_getElem? (i := 2) rfl⟩
set_option maxHeartbeats 600000 in
set_option maxRecDepth 100000 in
/-- out -/
theorem ct_X11_out (T : Nat → ClassId) (h11 : Nat) (h0 : Nat) (h2 : Nat) (h10 : Nat) (h4 : Nat) (h8 : Nat) (h9 : Nat) (h5 : Nat) (h6 : Nat) (h3 : Nat) (h1 : Nat) (pg : Nat) (pb : Int) (sb : Int) (Pg : Int → Int) (i : Int) (hpb : 0 ≤ pb ∧ pb ≤ 260) (hi : -2147483648 ≤ i ∧ i ≤ 2147483647) : CtI T yX11_out wsX11_out rmX11_out 0 0 [.ref h11, .int (iI i)] [(h11, .inr (11, [.ref h0, .ref h2, .ref h10, .ref h4, .ref h8, .ref h9, .ref h5, .ref h6, .ref h3, .ref h1, .ref pg, .int (iI pb), .int (iI sb)])), (pg, .inl (T 0, 260, .inl (fun j : Nat => iI (Pg j))))] (fun r8 u => r8 = (iI (outR Pg pb i)) ∧ u = [(h11, .inr (11, [.ref h0, .ref h2, .ref h10, .ref h4, .ref h8, .ref h9, .ref h5, .ref h6, .ref h3, .ref h1, .ref pg, .int (iI pb), .int (iI sb)])), (pg, .inl (T 0, 260, .inl (fun j : Nat => iI (Pg j))))]) := by
  refine ctI_of (cc := cX11_out) (maxL := 2) (ret := (some .int)) (by decide +kernel) rfl rfl (fun r u hp => by obtain ⟨rfl, -⟩ := hp; rfl) (Nat.le_of_ble_eq_true rfl) (fun X h hinit hr => ?_)
  refine j_eq (lv' := [(0, .ref h11), (1, .int (iI i))]) rfl rfl rfl rfl rfl rfl ?_
  refine j_iload_n h dX11_out_0 1 rfl rfl ?_
  refine j_iconst h dX11_out_1 ?_
  refine j_aload_n h dX11_out_2 0 rfl rfl ?_
  refine j_get h dX11_out_3 f_X11_out_91 0 rfl rfl ?_
  refine j_iconst h dX11_out_6 ?_
  refine j_isub h dX11_out_7 ?_
  refine j_callSi (As := [.int (iI i), .int (iI 0), .int (iI (pb - 1))]) (wr := [(h11, .inr (11, [.ref h0, .ref h2, .ref h10, .ref h4, .ref h8, .ref h9, .ref h5, .ref h6, .ref h3, .ref h1, .ref pg, .int (iI pb), .int (iI sb)])), (pg, .inl (T 0, 260, .inl (fun j : Nat => iI (Pg j))))]) (cells' := 0) (slots' := 0) h dX11_out_8 (ct_X11_within T i 0 (pb - 1) (by first | assumption | omega) (by first | assumption | omega) (by first | assumption | omega)) k_X11_within gX11_out_X11_within ⟨Nat.le_of_ble_eq_true rfl, Nat.le_of_ble_eq_true rfl⟩ rfl rfl (Nat.le_of_ble_eq_true rfl) ⟨Nat.le_of_ble_eq_true rfl, Nat.le_of_ble_eq_true rfl⟩ rfl rfl [] [0, 1] rfl rfl rfl rfl (by decide) (fun r9 u9 p1 => ?_)
  obtain ⟨rfl, rfl⟩ := p1
  refine j_eq (ws' := [(h11, .inr (11, [.ref h0, .ref h2, .ref h10, .ref h4, .ref h8, .ref h9, .ref h5, .ref h6, .ref h3, .ref h1, .ref pg, .int (iI pb), .int (iI sb)])), (pg, .inl (T 0, 260, .inl (fun j : Nat => iI (Pg j))))]) rfl rfl rfl rfl rfl rfl ?_
  refine j_ifeqB h 23 dX11_out_11 (by decide) (fun c2 => ?_) (fun c2 => ?_)
  · skip
    replace c2 := of_decide_eq_false c2
    refine j_iconst h dX11_out_23 ?_
    exact hr _ _ _ _ dX11_out_24 ⟨(congrArg iI (show (-1 : Int) = (outR Pg pb i) by unfold outR; (repeat (first | rw [if_pos (by omega)] | rw [if_neg (by omega)])))), rfl⟩
  · skip
    replace c2 := of_decide_eq_true c2
    refine j_aload_n h dX11_out_14 0 rfl rfl ?_
    refine j_get h dX11_out_15 f_X11_out_87 0 rfl rfl ?_
    refine j_iload_n h dX11_out_18 1 rfl rfl ?_
    refine j_iald (f := Pg) h i dX11_out_19 1 rfl (by decide) (by omega) (by omega) ?_
    refine j_goto (tgt := 24) h dX11_out_20 (by decide) ?_
    exact hr _ _ _ _ dX11_out_24 ⟨(congrArg iI (show ((Pg i) : Int) = (outR Pg pb i) by unfold outR; (repeat (first | rw [if_pos (by omega)] | rw [if_neg (by omega)])))), rfl⟩

