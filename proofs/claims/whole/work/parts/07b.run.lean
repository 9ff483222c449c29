abbrev rmX6_changePlace : Room := { frames := 2, cells := 0, slots := 0, locals := 48 }
theorem in_X6_changePlace_X7 : ∀ w ∈ u_ws RX7 TX7 8, w ∈ wsX6_changePlace := fun w hw => List.mem_cons_of_mem _ (List.mem_append_left _ (List.mem_append_left _ (List.mem_append_right _ (hw))))
theorem f_X6_changePlace_70 : FnOK RX6 70 wsX6_changePlace 7 0 := ⟨_, _, _, "LayerShop", rfl, by decide, in_X6_changePlace_X7, List.mem_of_getElem? (i := 29) rfl⟩
theorem in_X6_changePlace_X6 : ∀ w ∈ u_ws RX6 TX6 11, w ∈ wsX6_changePlace := fun w hw => List.mem_cons_of_mem _ (List.mem_append_left _ (List.mem_append_right _ (hw)))
theorem f_X6_changePlace_37 : FlOK RX6 37 wsX6_changePlace 6 0 := ⟨_, _, _, rfl, by decide, in_X6_changePlace_X6, List.mem_of_getElem? (i := 1) rfl⟩
theorem f_X6_changePlace_90 : FnOK RX6 90 wsX6_changePlace 7 2 := ⟨_, _, _, "LayerShop", rfl, by decide, in_X6_changePlace_X7, List.mem_of_getElem? (i := 31) rfl⟩
theorem f_X6_changePlace_87 : FnOK RX6 87 wsX6_changePlace 7 5 := ⟨_, _, _, "LayerShop", rfl, by decide, in_X6_changePlace_X7, List.mem_of_getElem? (i := 30) rfl⟩
theorem k_X0_layOn : CkOK yX0_layOn wsX0_layOn rmX0_layOn 0 0 cX0_layOn 6 none 3 := ⟨⟨_, rfl⟩, rfl, rfl, by decide +kernel⟩
theorem f_X6_changePlace_97 : FnOK RX6 97 wsX6_changePlace 7 4 := ⟨_, _, _, "LayerShop", rfl, by decide, in_X6_changePlace_X7, List.mem_of_getElem? (i := 32) rfl⟩
theorem k_X0_cutDown : CkOK yX0_cutDown wsX0_cutDown rmX0_cutDown 0 0 cX0_cutDown 6 none 3 := ⟨⟨_, rfl⟩, rfl, rfl, by decide +kernel⟩
theorem k_X0_dopeDown : CkOK yX0_dopeDown wsX0_dopeDown rmX0_dopeDown 0 0 cX0_dopeDown 7 none 2 := ⟨⟨_, rfl⟩, rfl, rfl, by decide +kernel⟩
set_option maxHeartbeats 600000 in
set_option maxRecDepth 100000 in
theorem ct_X6_changePlace (T : Nat → ClassId) (h6 : Nat) (h0 : Nat) (h10 : Nat) (h4 : Nat) (bs0 : Nat) (be0 : Nat) (rl0 : Nat) (dp : Int) (nx : Int) (mk : Int) (dn : Int) (sb : Int) (q0 : Nat) (s : Int → Int) (c0 : Nat) (B : Int → Int) (p : Int) (hB : BOK B) (hp : 0 ≤ p ∧ p < 144) (hs : VS s) (hw : s 0 ≤ 2) : CtV T yX6_changePlace wsX6_changePlace rmX6_changePlace 0 0 [.ref h6, .ref q0, .int (iI p)] [(h6, .inr (6, [.ref h0, .ref h10, .ref h4, .ref bs0, .ref be0, .ref rl0, .int (iI dp), .int (iI nx), .int (iI mk), .int (iI dn), .int (iI sb)])), (h0, .inr (0, [.ref c0])), (c0, .inl (T 0, 2880, .inl (fun j : Nat => iI (B j)))), (q0, .inr (7, [.int (iI (s 0)), .int (iI (s 1)), .int (iI (s 2)), .int (iI (s 3)), .int (iI (s 4)), .int (iI (s 5)), .int (iI (s 6)), .int (iI (s 7))]))] (fun u => u = [(h6, .inr (6, [.ref h0, .ref h10, .ref h4, .ref bs0, .ref be0, .ref rl0, .int (iI dp), .int (iI nx), .int (iI mk), .int (iI dn), .int (iI sb)])), (h0, .inr (0, [.ref c0])), (c0, .inl (T 0, 2880, .inl (fun j : Nat => iI ((plF B p (s 0 + 1) (s 2) (s 3) (s 5) (s 4)) j)))), (q0, .inr (7, [.int (iI (s 0)), .int (iI (s 1)), .int (iI (s 2)), .int (iI (s 3)), .int (iI (s 4)), .int (iI (s 5)), .int (iI (s 6)), .int (iI (s 7))]))]) := by
  refine ctV_of (cc := cX6_changePlace) (maxL := 3) (ret := none) (by decide +kernel) rfl rfl (Nat.le_of_ble_eq_true rfl) (fun X h hinit hr => ?_)
  refine j_eq (lv' := [(0, .ref h6), (1, .ref q0), (2, .int (iI p))]) rfl rfl rfl rfl rfl rfl ?_
  have hs0 := hs.1
  have hs1 := hs.2.1
  have hs2 := hs.2.2.1
  have hs3 := hs.2.2.2.1
  have hs4 := hs.2.2.2.2.1
  have hs5 := hs.2.2.2.2.2.1
  have hs6 := hs.2.2.2.2.2.2.1
  have hs7 := hs.2.2.2.2.2.2.2.1
  have hs8 := hs.2.2.2.2.2.2.2.2
  refine j_aload_n h dX6_changePlace_0 1 rfl rfl ?_
  refine j_getN h dX6_changePlace_1 f_X6_changePlace_70 3 rfl rfl ?_
  rcases (show (s 0) = 0 ∨ (s 0) = 1 ∨ (¬ (s 0) = 0 ∧ ¬ (s 0) = 1) by omega) with c1 | c1 | c1
  · skip
    refine j_lookup (off := 28) h 32 dX6_changePlace_4 (by decide) (by omega) (by rw [c1]; rfl) (by decide) ?_
    refine j_aload_n h dX6_changePlace_32 0 rfl rfl ?_
    refine j_get h dX6_changePlace_33 f_X6_changePlace_37 0 rfl rfl ?_
    refine j_iload_n h dX6_changePlace_36 2 rfl rfl ?_
    refine j_aload_n h dX6_changePlace_37 1 rfl rfl ?_
    refine j_getN h dX6_changePlace_38 f_X6_changePlace_90 3 rfl rfl ?_
    refine j_aload_n h dX6_changePlace_41 1 rfl rfl ?_
    refine j_getN h dX6_changePlace_42 f_X6_changePlace_87 3 rfl rfl ?_
    refine j_callVv (As := [.int (iI p), .int (iI (s 2)), .int (iI (s 5))]) (wr := [(h6, .inr (6, [.ref h0, .ref h10, .ref h4, .ref bs0, .ref be0, .ref rl0, .int (iI dp), .int (iI nx), .int (iI mk), .int (iI dn), .int (iI sb)])), (q0, .inr (7, [.int (iI (s 0)), .int (iI (s 1)), .int (iI (s 2)), .int (iI (s 3)), .int (iI (s 4)), .int (iI (s 5)), .int (iI (s 6)), .int (iI (s 7))]))]) (cells' := 0) (slots' := 0) h dX6_changePlace_45 (ct_X0_layOn T h0 c0 B p (s 2) (s 5) (by first | assumption | omega) (by first | assumption | omega) (by first | assumption | omega)) k_X0_layOn gX6_changePlace_X0_layOn rfl rfl 1 rfl ⟨Nat.le_of_ble_eq_true rfl, Nat.le_of_ble_eq_true rfl⟩ rfl rfl (Nat.le_of_ble_eq_true rfl) ⟨Nat.le_of_ble_eq_true rfl, Nat.le_of_ble_eq_true rfl⟩ rfl rfl [1, 2] [0, 3] rfl rfl rfl rfl (by decide) (fun u9 p2 => ?_)
    obtain rfl := p2
    refine j_eq (ws' := [(h6, .inr (6, [.ref h0, .ref h10, .ref h4, .ref bs0, .ref be0, .ref rl0, .int (iI dp), .int (iI nx), .int (iI mk), .int (iI dn), .int (iI sb)])), (q0, .inr (7, [.int (iI (s 0)), .int (iI (s 1)), .int (iI (s 2)), .int (iI (s 3)), .int (iI (s 4)), .int (iI (s 5)), .int (iI (s 6)), .int (iI (s 7))])), (h0, .inr (0, [.ref c0])), (c0, .inl (T 0, 2880, .inl (fun j : Nat => iI ((layS B p (s 2) (s 5)) j))))]) rfl rfl rfl rfl rfl rfl ?_
    refine j_goto (tgt := 79) h dX6_changePlace_48 (by decide) ?_
    refine j_ws (ws' := [(h6, .inr (6, [.ref h0, .ref h10, .ref h4, .ref bs0, .ref be0, .ref rl0, .int (iI dp), .int (iI nx), .int (iI mk), .int (iI dn), .int (iI sb)])), (h0, .inr (0, [.ref c0])), (c0, .inl (T 0, 2880, .inl (fun j : Nat => iI ((layS B p (s 2) (s 5)) j)))), (q0, .inr (7, [.int (iI (s 0)), .int (iI (s 1)), .int (iI (s 2)), .int (iI (s 3)), .int (iI (s 4)), .int (iI (s 5)), .int (iI (s 6)), .int (iI (s 7))]))]) [0, 2, 3, 1] rfl rfl ?_
    exact hr _ _ _ dX6_changePlace_79 (show ([(h6, .inr (6, [.ref h0, .ref h10, .ref h4, .ref bs0, .ref be0, .ref rl0, .int (iI dp), .int (iI nx), .int (iI mk), .int (iI dn), .int (iI sb)])), (h0, .inr (0, [.ref c0])), (c0, .inl (T 0, 2880, .inl (fun j : Nat => iI ((layS B p (s 2) (s 5)) j)))), (q0, .inr (7, [.int (iI (s 0)), .int (iI (s 1)), .int (iI (s 2)), .int (iI (s 3)), .int (iI (s 4)), .int (iI (s 5)), .int (iI (s 6)), .int (iI (s 7))]))] : va_W) = [(h6, .inr (6, [.ref h0, .ref h10, .ref h4, .ref bs0, .ref be0, .ref rl0, .int (iI dp), .int (iI nx), .int (iI mk), .int (iI dn), .int (iI sb)])), (h0, .inr (0, [.ref c0])), (c0, .inl (T 0, 2880, .inl (fun j : Nat => iI ((plF B p (s 0 + 1) (s 2) (s 3) (s 5) (s 4)) j)))), (q0, .inr (7, [.int (iI (s 0)), .int (iI (s 1)), .int (iI (s 2)), .int (iI (s 3)), .int (iI (s 4)), .int (iI (s 5)), .int (iI (s 6)), .int (iI (s 7))]))] by unfold plF; (repeat (first | rw [if_pos (by omega)] | rw [if_neg (by omega)])))
  · skip
    refine j_lookup (off := 47) h 51 dX6_changePlace_4 (by decide) (by omega) (by rw [c1]; rfl) (by decide) ?_
    refine j_aload_n h dX6_changePlace_51 0 rfl rfl ?_
    refine j_get h dX6_changePlace_52 f_X6_changePlace_37 0 rfl rfl ?_
    refine j_iload_n h dX6_changePlace_55 2 rfl rfl ?_
    refine j_aload_n h dX6_changePlace_56 1 rfl rfl ?_
    refine j_getN h dX6_changePlace_57 f_X6_changePlace_97 3 rfl rfl ?_
    refine j_aload_n h dX6_changePlace_60 1 rfl rfl ?_
    refine j_getN h dX6_changePlace_61 f_X6_changePlace_87 3 rfl rfl ?_
    refine j_callVv (As := [.int (iI p), .int (iI (s 4)), .int (iI (s 5))]) (wr := [(h6, .inr (6, [.ref h0, .ref h10, .ref h4, .ref bs0, .ref be0, .ref rl0, .int (iI dp), .int (iI nx), .int (iI mk), .int (iI dn), .int (iI sb)])), (q0, .inr (7, [.int (iI (s 0)), .int (iI (s 1)), .int (iI (s 2)), .int (iI (s 3)), .int (iI (s 4)), .int (iI (s 5)), .int (iI (s 6)), .int (iI (s 7))]))]) (cells' := 0) (slots' := 0) h dX6_changePlace_64 (ct_X0_cutDown T h0 c0 B p (s 4) (s 5) (by first | assumption | omega) (by first | assumption | omega) (by first | assumption | omega) (by first | assumption | omega)) k_X0_cutDown gX6_changePlace_X0_cutDown rfl rfl 1 rfl ⟨Nat.le_of_ble_eq_true rfl, Nat.le_of_ble_eq_true rfl⟩ rfl rfl (Nat.le_of_ble_eq_true rfl) ⟨Nat.le_of_ble_eq_true rfl, Nat.le_of_ble_eq_true rfl⟩ rfl rfl [1, 2] [0, 3] rfl rfl rfl rfl (by decide) (fun u9 p3 => ?_)
    obtain rfl := p3
    refine j_eq (ws' := [(h6, .inr (6, [.ref h0, .ref h10, .ref h4, .ref bs0, .ref be0, .ref rl0, .int (iI dp), .int (iI nx), .int (iI mk), .int (iI dn), .int (iI sb)])), (q0, .inr (7, [.int (iI (s 0)), .int (iI (s 1)), .int (iI (s 2)), .int (iI (s 3)), .int (iI (s 4)), .int (iI (s 5)), .int (iI (s 6)), .int (iI (s 7))])), (h0, .inr (0, [.ref c0])), (c0, .inl (T 0, 2880, .inl (fun j : Nat => iI ((cutS B p (s 4) (s 5).toNat) j))))]) rfl rfl rfl rfl rfl rfl ?_
    refine j_goto (tgt := 79) h dX6_changePlace_67 (by decide) ?_
    refine j_ws (ws' := [(h6, .inr (6, [.ref h0, .ref h10, .ref h4, .ref bs0, .ref be0, .ref rl0, .int (iI dp), .int (iI nx), .int (iI mk), .int (iI dn), .int (iI sb)])), (h0, .inr (0, [.ref c0])), (c0, .inl (T 0, 2880, .inl (fun j : Nat => iI ((cutS B p (s 4) (s 5).toNat) j)))), (q0, .inr (7, [.int (iI (s 0)), .int (iI (s 1)), .int (iI (s 2)), .int (iI (s 3)), .int (iI (s 4)), .int (iI (s 5)), .int (iI (s 6)), .int (iI (s 7))]))]) [0, 2, 3, 1] rfl rfl ?_
    exact hr _ _ _ dX6_changePlace_79 (show ([(h6, .inr (6, [.ref h0, .ref h10, .ref h4, .ref bs0, .ref be0, .ref rl0, .int (iI dp), .int (iI nx), .int (iI mk), .int (iI dn), .int (iI sb)])), (h0, .inr (0, [.ref c0])), (c0, .inl (T 0, 2880, .inl (fun j : Nat => iI ((cutS B p (s 4) (s 5).toNat) j)))), (q0, .inr (7, [.int (iI (s 0)), .int (iI (s 1)), .int (iI (s 2)), .int (iI (s 3)), .int (iI (s 4)), .int (iI (s 5)), .int (iI (s 6)), .int (iI (s 7))]))] : va_W) = [(h6, .inr (6, [.ref h0, .ref h10, .ref h4, .ref bs0, .ref be0, .ref rl0, .int (iI dp), .int (iI nx), .int (iI mk), .int (iI dn), .int (iI sb)])), (h0, .inr (0, [.ref c0])), (c0, .inl (T 0, 2880, .inl (fun j : Nat => iI ((plF B p (s 0 + 1) (s 2) (s 3) (s 5) (s 4)) j)))), (q0, .inr (7, [.int (iI (s 0)), .int (iI (s 1)), .int (iI (s 2)), .int (iI (s 3)), .int (iI (s 4)), .int (iI (s 5)), .int (iI (s 6)), .int (iI (s 7))]))] by unfold plF; (repeat (first | rw [if_pos (by omega)] | rw [if_neg (by omega)])))
  · skip
    refine j_lookup (off := 66) h 70 dX6_changePlace_4 (by decide) (by omega) (by show Op.lookupswitch.offset [(0, 28), (1, 47)] (66) _ = _; (repeat rw [Op.lookupswitch.offset_cons, if_neg (by omega)]); rfl) (by decide) ?_
    refine j_aload_n h dX6_changePlace_70 0 rfl rfl ?_
    refine j_get h dX6_changePlace_71 f_X6_changePlace_37 0 rfl rfl ?_
    refine j_iload_n h dX6_changePlace_74 2 rfl rfl ?_
    refine j_aload_n h dX6_changePlace_75 1 rfl rfl ?_
    refine j_callVv (As := [.int (iI p), .ref q0]) (wr := [(h6, .inr (6, [.ref h0, .ref h10, .ref h4, .ref bs0, .ref be0, .ref rl0, .int (iI dp), .int (iI nx), .int (iI mk), .int (iI dn), .int (iI sb)]))]) (cells' := 0) (slots' := 0) h dX6_changePlace_76 (ct_X0_dopeDown T h0 c0 B q0 (s 0) (s 1) (s 2) (s 3) (s 4) (s 5) (s 6) (s 7) p (by first | assumption | omega) (by first | assumption | omega) (by first | assumption | omega) (by first | assumption | omega) (by first | assumption | omega) (by first | assumption | omega)) k_X0_dopeDown gX6_changePlace_X0_dopeDown rfl rfl 1 rfl ⟨Nat.le_of_ble_eq_true rfl, Nat.le_of_ble_eq_true rfl⟩ rfl rfl (Nat.le_of_ble_eq_true rfl) ⟨Nat.le_of_ble_eq_true rfl, Nat.le_of_ble_eq_true rfl⟩ rfl rfl [1, 2, 3] [0] rfl rfl rfl rfl (by decide) (fun u9 p4 => ?_)
    obtain rfl := p4
    refine j_eq (ws' := [(h6, .inr (6, [.ref h0, .ref h10, .ref h4, .ref bs0, .ref be0, .ref rl0, .int (iI dp), .int (iI nx), .int (iI mk), .int (iI dn), .int (iI sb)])), (h0, .inr (0, [.ref c0])), (c0, .inl (T 0, 2880, .inl (fun j : Nat => iI ((dopeS B p (s 2) (s 3) (s 4) (topS B p) (s 5).toNat) j)))), (q0, .inr (7, [.int (iI (s 0)), .int (iI (s 1)), .int (iI (s 2)), .int (iI (s 3)), .int (iI (s 4)), .int (iI (s 5)), .int (iI (s 6)), .int (iI (s 7))]))]) rfl rfl rfl rfl rfl rfl ?_
    exact hr _ _ _ dX6_changePlace_79 (show ([(h6, .inr (6, [.ref h0, .ref h10, .ref h4, .ref bs0, .ref be0, .ref rl0, .int (iI dp), .int (iI nx), .int (iI mk), .int (iI dn), .int (iI sb)])), (h0, .inr (0, [.ref c0])), (c0, .inl (T 0, 2880, .inl (fun j : Nat => iI ((dopeS B p (s 2) (s 3) (s 4) (topS B p) (s 5).toNat) j)))), (q0, .inr (7, [.int (iI (s 0)), .int (iI (s 1)), .int (iI (s 2)), .int (iI (s 3)), .int (iI (s 4)), .int (iI (s 5)), .int (iI (s 6)), .int (iI (s 7))]))] : va_W) = [(h6, .inr (6, [.ref h0, .ref h10, .ref h4, .ref bs0, .ref be0, .ref rl0, .int (iI dp), .int (iI nx), .int (iI mk), .int (iI dn), .int (iI sb)])), (h0, .inr (0, [.ref c0])), (c0, .inl (T 0, 2880, .inl (fun j : Nat => iI ((plF B p (s 0 + 1) (s 2) (s 3) (s 5) (s 4)) j)))), (q0, .inr (7, [.int (iI (s 0)), .int (iI (s 1)), .int (iI (s 2)), .int (iI (s 3)), .int (iI (s 4)), .int (iI (s 5)), .int (iI (s 6)), .int (iI (s 7))]))] by unfold plF; (repeat (first | rw [if_pos (by omega)] | rw [if_neg (by omega)])))

abbrev rmX6_changePlaces : Room := { frames := 3, cells := 0, slots := 0, locals := 70 }
theorem in_X6_changePlaces_X6 : ∀ w ∈ u_ws RX6 TX6 11, w ∈ wsX6_changePlaces := fun w hw => List.mem_cons_of_mem _ (List.mem_append_left _ (List.mem_append_left _ (List.mem_append_left _ (List.mem_append_right _ (hw)))))
theorem f_X6_changePlaces_28 : FlOK RX6 28 wsX6_changePlaces 6 8 := ⟨_, _, _, rfl, by decide, in_X6_changePlaces_X6, List.mem_of_getElem? (i := 1) rfl⟩
theorem k_X6_changePlace : CkOK yX6_changePlace wsX6_changePlace rmX6_changePlace 0 0 cX6_changePlace 3 none 2 := ⟨⟨_, rfl⟩, rfl, rfl, by decide +kernel⟩
theorem f_X6_changePlaces_45 : FlOK RX6 45 wsX6_changePlaces 6 2 := ⟨_, _, _, rfl, by decide, in_X6_changePlaces_X6, List.mem_of_getElem? (i := 2) rfl⟩
set_option maxHeartbeats 600000 in
set_option maxRecDepth 100000 in
theorem ct_X6_changePlaces (T : Nat → ClassId) (h6 : Nat) (h0 : Nat) (h10 : Nat) (h4 : Nat) (bs0 : Nat) (be0 : Nat) (rl0 : Nat) (dp : Int) (nx : Int) (mk : Int) (dn : Int) (sb : Int) (q0 : Nat) (s : Int → Int) (c0 : Nat) (B : Int → Int) (k0 : Nat) (A : Int → Bool) (hB : BOK B) (hs : VS s) (hw : s 0 ≤ 2) (hmk : -1 ≤ mk ∧ mk ≤ 7) : CtV T yX6_changePlaces wsX6_changePlaces rmX6_changePlaces 0 0 [.ref h6, .ref q0] [(h6, .inr (6, [.ref h0, .ref h10, .ref h4, .ref bs0, .ref be0, .ref rl0, .int (iI dp), .int (iI nx), .int (iI mk), .int (iI dn), .int (iI sb)])), (h0, .inr (0, [.ref c0])), (c0, .inl (T 0, 2880, .inl (fun j : Nat => iI (B j)))), (h4, .inr (4, [.ref k0])), (k0, .inl (T 1, 1152, .inl (fun j : Nat => iI (bI (A j))))), (q0, .inr (7, [.int (iI (s 0)), .int (iI (s 1)), .int (iI (s 2)), .int (iI (s 3)), .int (iI (s 4)), .int (iI (s 5)), .int (iI (s 6)), .int (iI (s 7))]))] (fun u => u = [(h6, .inr (6, [.ref h0, .ref h10, .ref h4, .ref bs0, .ref be0, .ref rl0, .int (iI dp), .int (iI nx), .int (iI mk), .int (iI dn), .int (iI sb)])), (h0, .inr (0, [.ref c0])), (c0, .inl (T 0, 2880, .inl (fun j : Nat => iI ((atI (mkV A mk) B (s 0 + 1) (s 2) (s 3) (s 5) (s 4) 144) j)))), (h4, .inr (4, [.ref k0])), (k0, .inl (T 1, 1152, .inl (fun j : Nat => iI (bI (A j))))), (q0, .inr (7, [.int (iI (s 0)), .int (iI (s 1)), .int (iI (s 2)), .int (iI (s 3)), .int (iI (s 4)), .int (iI (s 5)), .int (iI (s 6)), .int (iI (s 7))]))]) := by
  refine ctV_of (cc := cX6_changePlaces) (maxL := 3) (ret := none) (by decide +kernel) rfl rfl (Nat.le_of_ble_eq_true rfl) (fun X h hinit hr => ?_)
  refine j_eq (lv' := [(0, .ref h6), (1, .ref q0)]) rfl rfl rfl rfl rfl rfl ?_
  have hs0 := hs.1
  have hs1 := hs.2.1
  have hs2 := hs.2.2.1
  have hs3 := hs.2.2.2.1
  have hs4 := hs.2.2.2.2.1
  have hs5 := hs.2.2.2.2.2.1
  have hs6 := hs.2.2.2.2.2.2.1
  have hs7 := hs.2.2.2.2.2.2.2.1
  have hs8 := hs.2.2.2.2.2.2.2.2
  refine j_iconst h dX6_changePlaces_0 ?_
  refine j_istore_n (lv' := [(0, .ref h6), (1, .ref q0), (2, .int (iI 0))]) h dX6_changePlaces_1 [1, 2, 0] rfl (by decide) rfl ?_
  have lp2 : ∀ (n2 : Nat) (p : Int) (f : Int → Int) (hp : 0 ≤ p ∧ p ≤ 144) (he : f = (atI (mkV A mk) B (s 0 + 1) (s 2) (s 3) (s 5) (s 4) p)) (hf : BOK f), ((144 - p).toNat) < n2 → J X 0 0 2 [(0, .ref h6), (1, .ref q0), (2, .int (iI p))] [] [(h6, .inr (6, [.ref h0, .ref h10, .ref h4, .ref bs0, .ref be0, .ref rl0, .int (iI dp), .int (iI nx), .int (iI mk), .int (iI dn), .int (iI sb)])), (h0, .inr (0, [.ref c0])), (c0, .inl (T 0, 2880, .inl (fun j : Nat => iI (f j)))), (h4, .inr (4, [.ref k0])), (k0, .inl (T 1, 1152, .inl (fun j : Nat => iI (bI (A j))))), (q0, .inr (7, [.int (iI (s 0)), .int (iI (s 1)), .int (iI (s 2)), .int (iI (s 3)), .int (iI (s 4)), .int (iI (s 5)), .int (iI (s 6)), .int (iI (s 7))]))] := by
    intro n2
    induction n2 with
    | zero => exact fun p f hp he hf hn2 => absurd hn2 (Nat.not_lt_zero _)
    | succ n2 ih2 =>
      intro p f hp he hf hn2
      refine j_iload_n h dX6_changePlaces_2 2 rfl rfl ?_
      refine j_sipush h dX6_changePlaces_3 (by decide) ?_
      refine j_icmp_ge h 44 dX6_changePlaces_6 (by decide) (by omega) (by omega) (fun c1 => ?_) (fun c1 => ?_)
      · skip
        exact hr _ _ _ dX6_changePlaces_44 (show ([(h6, .inr (6, [.ref h0, .ref h10, .ref h4, .ref bs0, .ref be0, .ref rl0, .int (iI dp), .int (iI nx), .int (iI mk), .int (iI dn), .int (iI sb)])), (h0, .inr (0, [.ref c0])), (c0, .inl (T 0, 2880, .inl (fun j : Nat => iI (f j)))), (h4, .inr (4, [.ref k0])), (k0, .inl (T 1, 1152, .inl (fun j : Nat => iI (bI (A j))))), (q0, .inr (7, [.int (iI (s 0)), .int (iI (s 1)), .int (iI (s 2)), .int (iI (s 3)), .int (iI (s 4)), .int (iI (s 5)), .int (iI (s 6)), .int (iI (s 7))]))] : va_W) = [(h6, .inr (6, [.ref h0, .ref h10, .ref h4, .ref bs0, .ref be0, .ref rl0, .int (iI dp), .int (iI nx), .int (iI mk), .int (iI dn), .int (iI sb)])), (h0, .inr (0, [.ref c0])), (c0, .inl (T 0, 2880, .inl (fun j : Nat => iI ((atI (mkV A mk) B (s 0 + 1) (s 2) (s 3) (s 5) (s 4) 144) j)))), (h4, .inr (4, [.ref k0])), (k0, .inl (T 1, 1152, .inl (fun j : Nat => iI (bI (A j))))), (q0, .inr (7, [.int (iI (s 0)), .int (iI (s 1)), .int (iI (s 2)), .int (iI (s 3)), .int (iI (s 4)), .int (iI (s 5)), .int (iI (s 6)), .int (iI (s 7))]))] by rw [he, show p = 144 by omega])
      · skip
        refine j_aload_n h dX6_changePlaces_9 0 rfl rfl ?_
        refine j_get h dX6_changePlaces_10 f_X6_changePlaces_28 0 rfl rfl ?_
        refine j_iconst h dX6_changePlaces_13 ?_
        refine j_icmp_eq h 32 dX6_changePlaces_14 (by decide) (by omega) (by omega) (fun c2 => ?_) (fun c2 => ?_)
        · skip
          refine j_aload_n h dX6_changePlaces_32 0 rfl rfl ?_
          refine j_aload_n h dX6_changePlaces_33 1 rfl rfl ?_
          refine j_iload_n h dX6_changePlaces_34 2 rfl rfl ?_
          refine j_callVv (As := [.ref q0, .int (iI p)]) (wr := [(h4, .inr (4, [.ref k0])), (k0, .inl (T 1, 1152, .inl (fun j : Nat => iI (bI (A j)))))]) (cells' := 0) (slots' := 0) h dX6_changePlaces_35 (ct_X6_changePlace T h6 h0 h10 h4 bs0 be0 rl0 dp nx mk dn sb q0 s c0 f p (by first | assumption | omega) (by first | assumption | omega) (by first | assumption | omega) (by first | assumption | omega)) k_X6_changePlace gX6_changePlaces_X6_changePlace rfl rfl 0 rfl ⟨Nat.le_of_ble_eq_true rfl, Nat.le_of_ble_eq_true rfl⟩ rfl rfl (Nat.le_of_ble_eq_true rfl) ⟨Nat.le_of_ble_eq_true rfl, Nat.le_of_ble_eq_true rfl⟩ rfl rfl [0, 1, 2, 5] [3, 4] rfl rfl rfl rfl (by decide) (fun u9 p3 => ?_)
          obtain rfl := p3
          refine j_eq (ws' := [(h4, .inr (4, [.ref k0])), (k0, .inl (T 1, 1152, .inl (fun j : Nat => iI (bI (A j))))), (h6, .inr (6, [.ref h0, .ref h10, .ref h4, .ref bs0, .ref be0, .ref rl0, .int (iI dp), .int (iI nx), .int (iI mk), .int (iI dn), .int (iI sb)])), (h0, .inr (0, [.ref c0])), (c0, .inl (T 0, 2880, .inl (fun j : Nat => iI ((plF f p (s 0 + 1) (s 2) (s 3) (s 5) (s 4)) j)))), (q0, .inr (7, [.int (iI (s 0)), .int (iI (s 1)), .int (iI (s 2)), .int (iI (s 3)), .int (iI (s 4)), .int (iI (s 5)), .int (iI (s 6)), .int (iI (s 7))]))]) rfl rfl rfl rfl rfl rfl ?_
          refine j_iinc (lv' := [(0, .ref h6), (1, .ref q0), (2, .int (iI (p + 1)))]) h dX6_changePlaces_38 2 [1, 2, 0] rfl (by decide) rfl ?_
          refine j_goto (tgt := 2) h dX6_changePlaces_41 (by decide) ?_
          refine j_ws (ws' := [(h6, .inr (6, [.ref h0, .ref h10, .ref h4, .ref bs0, .ref be0, .ref rl0, .int (iI dp), .int (iI nx), .int (iI mk), .int (iI dn), .int (iI sb)])), (h0, .inr (0, [.ref c0])), (c0, .inl (T 0, 2880, .inl (fun j : Nat => iI ((plF f p (s 0 + 1) (s 2) (s 3) (s 5) (s 4)) j)))), (h4, .inr (4, [.ref k0])), (k0, .inl (T 1, 1152, .inl (fun j : Nat => iI (bI (A j))))), (q0, .inr (7, [.int (iI (s 0)), .int (iI (s 1)), .int (iI (s 2)), .int (iI (s 3)), .int (iI (s 4)), .int (iI (s 5)), .int (iI (s 6)), .int (iI (s 7))]))]) [2, 3, 4, 0, 1, 5] rfl rfl ?_
          exact ih2 (p + 1) (plF f p (s 0 + 1) (s 2) (s 3) (s 5) (s 4)) (by first | assumption | omega) (by rw [atI_s (by omega), if_pos (mkV_t (e := 0) (Or.inl (by omega))), ← he]) (by rw [show plF f p (s 0 + 1) (s 2) (s 3) (s 5) (s 4) = (atI (mkV A mk) B (s 0 + 1) (s 2) (s 3) (s 5) (s 4) ((p + 1).toNat : Int)) by rw [show (((p + 1).toNat : Nat) : Int) = p + 1 by omega, atI_s (by omega), if_pos (mkV_t (e := 0) (Or.inl (by omega))), ← he]]; exact BOK_atI (k := (p + 1).toNat) hB (fun z => by omega) (fun z y => by omega)) (by omega)
        · skip
          refine j_aload_n h dX6_changePlaces_17 0 rfl rfl ?_
          refine j_get h dX6_changePlaces_18 f_X6_changePlaces_45 0 rfl rfl ?_
          refine j_aload_n h dX6_changePlaces_21 0 rfl rfl ?_
          refine j_get h dX6_changePlaces_22 f_X6_changePlaces_28 0 rfl rfl ?_
          refine j_iload_n h dX6_changePlaces_25 2 rfl rfl ?_
          refine j_callVi (As := [.int (iI mk), .int (iI p)]) (wr := [(h6, .inr (6, [.ref h0, .ref h10, .ref h4, .ref bs0, .ref be0, .ref rl0, .int (iI dp), .int (iI nx), .int (iI mk), .int (iI dn), .int (iI sb)])), (h0, .inr (0, [.ref c0])), (c0, .inl (T 0, 2880, .inl (fun j : Nat => iI (f j)))), (q0, .inr (7, [.int (iI (s 0)), .int (iI (s 1)), .int (iI (s 2)), .int (iI (s 3)), .int (iI (s 4)), .int (iI (s 5)), .int (iI (s 6)), .int (iI (s 7))]))]) (cells' := 0) (slots' := 0) h dX6_changePlaces_26 (ct_X4_has T h4 k0 A mk p (by first | assumption | omega) (by first | assumption | omega)) k_X4_has gX6_changePlaces_X4_has rfl rfl 3 rfl ⟨Nat.le_of_ble_eq_true rfl, Nat.le_of_ble_eq_true rfl⟩ rfl rfl (Nat.le_of_ble_eq_true rfl) ⟨Nat.le_of_ble_eq_true rfl, Nat.le_of_ble_eq_true rfl⟩ rfl rfl [3, 4] [0, 1, 2, 5] rfl rfl rfl rfl (by decide) (fun r9 u9 p4 => ?_)
          obtain ⟨rfl, rfl⟩ := p4
          refine j_eq (ws' := [(h6, .inr (6, [.ref h0, .ref h10, .ref h4, .ref bs0, .ref be0, .ref rl0, .int (iI dp), .int (iI nx), .int (iI mk), .int (iI dn), .int (iI sb)])), (h0, .inr (0, [.ref c0])), (c0, .inl (T 0, 2880, .inl (fun j : Nat => iI (f j)))), (q0, .inr (7, [.int (iI (s 0)), .int (iI (s 1)), .int (iI (s 2)), .int (iI (s 3)), .int (iI (s 4)), .int (iI (s 5)), .int (iI (s 6)), .int (iI (s 7))])), (h4, .inr (4, [.ref k0])), (k0, .inl (T 1, 1152, .inl (fun j : Nat => iI (bI (A j)))))]) rfl rfl rfl rfl rfl rfl ?_
          refine j_ifeqB h 38 dX6_changePlaces_29 (by decide) (fun c5 => ?_) (fun c5 => ?_)
          · skip
            refine j_iinc (lv' := [(0, .ref h6), (1, .ref q0), (2, .int (iI (p + 1)))]) h dX6_changePlaces_38 2 [1, 2, 0] rfl (by decide) rfl ?_
            refine j_goto (tgt := 2) h dX6_changePlaces_41 (by decide) ?_
            refine j_ws (ws' := [(h6, .inr (6, [.ref h0, .ref h10, .ref h4, .ref bs0, .ref be0, .ref rl0, .int (iI dp), .int (iI nx), .int (iI mk), .int (iI dn), .int (iI sb)])), (h0, .inr (0, [.ref c0])), (c0, .inl (T 0, 2880, .inl (fun j : Nat => iI (f j)))), (h4, .inr (4, [.ref k0])), (k0, .inl (T 1, 1152, .inl (fun j : Nat => iI (bI (A j))))), (q0, .inr (7, [.int (iI (s 0)), .int (iI (s 1)), .int (iI (s 2)), .int (iI (s 3)), .int (iI (s 4)), .int (iI (s 5)), .int (iI (s 6)), .int (iI (s 7))]))]) [0, 1, 2, 4, 5, 3] rfl rfl ?_
            exact ih2 (p + 1) f (by first | assumption | omega) (by exact he.trans (atI_f (by omega) (by omega) c5 (by omega)).symm) (by exact hf) (by omega)
          · skip
            refine j_aload_n h dX6_changePlaces_32 0 rfl rfl ?_
            refine j_aload_n h dX6_changePlaces_33 1 rfl rfl ?_
            refine j_iload_n h dX6_changePlaces_34 2 rfl rfl ?_
            refine j_callVv (As := [.ref q0, .int (iI p)]) (wr := [(h4, .inr (4, [.ref k0])), (k0, .inl (T 1, 1152, .inl (fun j : Nat => iI (bI (A j)))))]) (cells' := 0) (slots' := 0) h dX6_changePlaces_35 (ct_X6_changePlace T h6 h0 h10 h4 bs0 be0 rl0 dp nx mk dn sb q0 s c0 f p (by first | assumption | omega) (by first | assumption | omega) (by first | assumption | omega) (by first | assumption | omega)) k_X6_changePlace gX6_changePlaces_X6_changePlace rfl rfl 0 rfl ⟨Nat.le_of_ble_eq_true rfl, Nat.le_of_ble_eq_true rfl⟩ rfl rfl (Nat.le_of_ble_eq_true rfl) ⟨Nat.le_of_ble_eq_true rfl, Nat.le_of_ble_eq_true rfl⟩ rfl rfl [0, 1, 2, 3] [4, 5] rfl rfl rfl rfl (by decide) (fun u9 p6 => ?_)
            obtain rfl := p6
            refine j_eq (ws' := [(h4, .inr (4, [.ref k0])), (k0, .inl (T 1, 1152, .inl (fun j : Nat => iI (bI (A j))))), (h6, .inr (6, [.ref h0, .ref h10, .ref h4, .ref bs0, .ref be0, .ref rl0, .int (iI dp), .int (iI nx), .int (iI mk), .int (iI dn), .int (iI sb)])), (h0, .inr (0, [.ref c0])), (c0, .inl (T 0, 2880, .inl (fun j : Nat => iI ((plF f p (s 0 + 1) (s 2) (s 3) (s 5) (s 4)) j)))), (q0, .inr (7, [.int (iI (s 0)), .int (iI (s 1)), .int (iI (s 2)), .int (iI (s 3)), .int (iI (s 4)), .int (iI (s 5)), .int (iI (s 6)), .int (iI (s 7))]))]) rfl rfl rfl rfl rfl rfl ?_
            refine j_iinc (lv' := [(0, .ref h6), (1, .ref q0), (2, .int (iI (p + 1)))]) h dX6_changePlaces_38 2 [1, 2, 0] rfl (by decide) rfl ?_
            refine j_goto (tgt := 2) h dX6_changePlaces_41 (by decide) ?_
            refine j_ws (ws' := [(h6, .inr (6, [.ref h0, .ref h10, .ref h4, .ref bs0, .ref be0, .ref rl0, .int (iI dp), .int (iI nx), .int (iI mk), .int (iI dn), .int (iI sb)])), (h0, .inr (0, [.ref c0])), (c0, .inl (T 0, 2880, .inl (fun j : Nat => iI ((plF f p (s 0 + 1) (s 2) (s 3) (s 5) (s 4)) j)))), (h4, .inr (4, [.ref k0])), (k0, .inl (T 1, 1152, .inl (fun j : Nat => iI (bI (A j))))), (q0, .inr (7, [.int (iI (s 0)), .int (iI (s 1)), .int (iI (s 2)), .int (iI (s 3)), .int (iI (s 4)), .int (iI (s 5)), .int (iI (s 6)), .int (iI (s 7))]))]) [2, 3, 4, 0, 1, 5] rfl rfl ?_
            exact ih2 (p + 1) (plF f p (s 0 + 1) (s 2) (s 3) (s 5) (s 4)) (by first | assumption | omega) (by rw [atI_s (by omega), if_pos (mkV_t (Or.inr ⟨c5, by omega⟩)), ← he]) (by rw [show plF f p (s 0 + 1) (s 2) (s 3) (s 5) (s 4) = (atI (mkV A mk) B (s 0 + 1) (s 2) (s 3) (s 5) (s 4) ((p + 1).toNat : Int)) by rw [show (((p + 1).toNat : Nat) : Int) = p + 1 by omega, atI_s (by omega), if_pos (mkV_t (Or.inr ⟨c5, by omega⟩)), ← he]]; exact BOK_atI (k := (p + 1).toNat) hB (fun z => by omega) (fun z y => by omega)) (by omega)
  exact lp2 _ 0 B (by first | assumption | omega) (by exact (atI_0 _ _ _ _ _ _ _).symm) (by exact hB) (Nat.lt_succ_self _)

abbrev rmX6_isMet : Room := { frames := 2, cells := 0, slots := 0, locals := 44 }
theorem in_X6_isMet_X6 : ∀ w ∈ u_ws RX6 TX6 11, w ∈ wsX6_isMet := fun w hw => List.mem_cons_of_mem _ (List.mem_append_left _ (List.mem_append_left _ (List.mem_append_right _ (hw))))
theorem f_X6_isMet_37 : FlOK RX6 37 wsX6_isMet 6 0 := ⟨_, _, _, rfl, by decide, in_X6_isMet_X6, List.mem_of_getElem? (i := 1) rfl⟩
theorem in_X6_isMet_X7 : ∀ w ∈ u_ws RX7 TX7 8, w ∈ wsX6_isMet := fun w hw => List.mem_cons_of_mem _ (List.mem_append_left _ (List.mem_append_right _ (hw)))
theorem f_X6_isMet_90 : FnOK RX6 90 wsX6_isMet 7 2 := ⟨_, _, _, "LayerShop", rfl, by decide, in_X6_isMet_X7, List.mem_of_getElem? (i := 31) rfl⟩
theorem f_X6_isMet_87 : FnOK RX6 87 wsX6_isMet 7 5 := ⟨_, _, _, "LayerShop", rfl, by decide, in_X6_isMet_X7, List.mem_of_getElem? (i := 30) rfl⟩
theorem f_X6_isMet_132 : FnOK RX6 132 wsX6_isMet 7 6 := ⟨_, _, _, "LayerShop", rfl, by decide, in_X6_isMet_X7, List.mem_of_getElem? (i := 25) rfl⟩
set_option maxHeartbeats 600000 in
set_option maxRecDepth 100000 in
theorem ct_X6_isMet (T : Nat → ClassId) (h6 : Nat) (h0 : Nat) (h10 : Nat) (h4 : Nat) (bs0 : Nat) (be0 : Nat) (rl0 : Nat) (dp : Int) (nx : Int) (mk : Int) (dn : Int) (sb : Int) (q0 : Nat) (s : Int → Int) (c0 : Nat) (B : Int → Int) (hB : BOK B) (hs : VS s) (hw : s 0 = 11) : CtI T yX6_isMet wsX6_isMet rmX6_isMet 0 0 [.ref h6, .ref q0] [(h6, .inr (6, [.ref h0, .ref h10, .ref h4, .ref bs0, .ref be0, .ref rl0, .int (iI dp), .int (iI nx), .int (iI mk), .int (iI dn), .int (iI sb)])), (h0, .inr (0, [.ref c0])), (c0, .inl (T 0, 2880, .inl (fun j : Nat => iI (B j)))), (q0, .inr (7, [.int (iI (s 0)), .int (iI (s 1)), .int (iI (s 2)), .int (iI (s 3)), .int (iI (s 4)), .int (iI (s 5)), .int (iI (s 6)), .int (iI (s 7))]))] (fun r8 u => r8 = (iI (bI (wantS B (s 2) (s 6) (s 5)))) ∧ u = [(h6, .inr (6, [.ref h0, .ref h10, .ref h4, .ref bs0, .ref be0, .ref rl0, .int (iI dp), .int (iI nx), .int (iI mk), .int (iI dn), .int (iI sb)])), (h0, .inr (0, [.ref c0])), (c0, .inl (T 0, 2880, .inl (fun j : Nat => iI (B j)))), (q0, .inr (7, [.int (iI (s 0)), .int (iI (s 1)), .int (iI (s 2)), .int (iI (s 3)), .int (iI (s 4)), .int (iI (s 5)), .int (iI (s 6)), .int (iI (s 7))]))]) := by
  refine ctI_of (cc := cX6_isMet) (maxL := 4) (ret := (some .boolean)) (by decide +kernel) rfl rfl (fun r u hp => by obtain ⟨rfl, -⟩ := hp; exact nz_bool _) (Nat.le_of_ble_eq_true rfl) (fun X h hinit hr => ?_)
  refine j_eq (lv' := [(0, .ref h6), (1, .ref q0)]) rfl rfl rfl rfl rfl rfl ?_
  have hs0 := hs.1
  have hs1 := hs.2.1
  have hs2 := hs.2.2.1
  have hs3 := hs.2.2.2.1
  have hs4 := hs.2.2.2.2.1
  have hs5 := hs.2.2.2.2.2.1
  have hs6 := hs.2.2.2.2.2.2.1
  have hs7 := hs.2.2.2.2.2.2.2.1
  have hs8 := hs.2.2.2.2.2.2.2.2
  have hp9 := pow2_rng (s := s 2) (by omega)
  refine j_aload_n h dX6_isMet_0 0 rfl rfl ?_
  refine j_get h dX6_isMet_1 f_X6_isMet_37 0 rfl rfl ?_
  refine j_iconst h dX6_isMet_4 ?_
  refine j_aload_n h dX6_isMet_5 1 rfl rfl ?_
  refine j_getN h dX6_isMet_6 f_X6_isMet_90 3 rfl rfl ?_
  refine j_ishl h dX6_isMet_9 (by omega) ?_
  refine j_callVi (As := [.int (iI (1 * 2 ^ (s 2).toNat))]) (wr := [(h6, .inr (6, [.ref h0, .ref h10, .ref h4, .ref bs0, .ref be0, .ref rl0, .int (iI dp), .int (iI nx), .int (iI mk), .int (iI dn), .int (iI sb)])), (q0, .inr (7, [.int (iI (s 0)), .int (iI (s 1)), .int (iI (s 2)), .int (iI (s 3)), .int (iI (s 4)), .int (iI (s 5)), .int (iI (s 6)), .int (iI (s 7))]))]) (cells' := 0) (slots' := 0) h dX6_isMet_10 (ct_X0_count T h0 c0 B (1 * 2 ^ (s 2).toNat) (by first | assumption | omega) (by first | assumption | omega)) k_X0_count gX6_isMet_X0_count rfl rfl 1 rfl ⟨Nat.le_of_ble_eq_true rfl, Nat.le_of_ble_eq_true rfl⟩ rfl rfl (Nat.le_of_ble_eq_true rfl) ⟨Nat.le_of_ble_eq_true rfl, Nat.le_of_ble_eq_true rfl⟩ rfl rfl [1, 2] [0, 3] rfl rfl rfl rfl (by decide) (fun r9 u9 p1 => ?_)
  obtain ⟨rfl, rfl⟩ := p1
  have hn9 := cntI_rng (fun c => hk (1 * 2 ^ (s 2).toNat) (B c)) (k := 2880) (by omega)
  refine j_eq (ws' := [(h6, .inr (6, [.ref h0, .ref h10, .ref h4, .ref bs0, .ref be0, .ref rl0, .int (iI dp), .int (iI nx), .int (iI mk), .int (iI dn), .int (iI sb)])), (q0, .inr (7, [.int (iI (s 0)), .int (iI (s 1)), .int (iI (s 2)), .int (iI (s 3)), .int (iI (s 4)), .int (iI (s 5)), .int (iI (s 6)), .int (iI (s 7))])), (h0, .inr (0, [.ref c0])), (c0, .inl (T 0, 2880, .inl (fun j : Nat => iI (B j))))]) rfl rfl rfl rfl rfl rfl ?_
  rw [show cntI (fun c => hk (1 * 2 ^ (s 2).toNat) (B c)) 2880 = (vol B (s 2)) by exact vol_s hB (by omega)]
  have hvr := vol_rng B (s 2)
  refine j_istore_n (lv' := [(0, .ref h6), (1, .ref q0), (2, .int (iI (vol B (s 2))))]) h dX6_isMet_13 [1, 2, 0] rfl (by decide) rfl ?_
  refine j_bipush h dX6_isMet_14 (by decide) ?_
  refine j_aload_n h dX6_isMet_16 1 rfl rfl ?_
  refine j_getN h dX6_isMet_17 f_X6_isMet_87 1 rfl rfl ?_
  refine j_imul h dX6_isMet_20 ?_
  refine j_istore_n (lv' := [(0, .ref h6), (1, .ref q0), (2, .int (iI (vol B (s 2)))), (3, .int (iI (10 * (s 5))))]) h dX6_isMet_21 [1, 2, 3, 0] rfl (by decide) rfl ?_
  refine j_aload_n h dX6_isMet_22 1 rfl rfl ?_
  refine j_getN h dX6_isMet_23 f_X6_isMet_132 1 rfl rfl ?_
  rcases (show (s 6) = 60 ∨ (s 6) = 62 ∨ (¬ (s 6) = 60 ∧ ¬ (s 6) = 62) by omega) with c2 | c2 | c2
  · skip
    refine j_lookup (off := 26) h 52 dX6_isMet_26 (by decide) (by omega) (by rw [c2]; rfl) (by decide) ?_
    refine j_iload_n h dX6_isMet_52 2 rfl rfl ?_
    refine j_iload_n h dX6_isMet_53 3 rfl rfl ?_
    refine j_icmp_ge h 61 dX6_isMet_54 (by decide) (by omega) (by omega) (fun c3 => ?_) (fun c3 => ?_)
    · skip
      refine j_iconst h dX6_isMet_61 ?_
      refine j_ws (ws' := [(h6, .inr (6, [.ref h0, .ref h10, .ref h4, .ref bs0, .ref be0, .ref rl0, .int (iI dp), .int (iI nx), .int (iI mk), .int (iI dn), .int (iI sb)])), (h0, .inr (0, [.ref c0])), (c0, .inl (T 0, 2880, .inl (fun j : Nat => iI (B j)))), (q0, .inr (7, [.int (iI (s 0)), .int (iI (s 1)), .int (iI (s 2)), .int (iI (s 3)), .int (iI (s 4)), .int (iI (s 5)), .int (iI (s 6)), .int (iI (s 7))]))]) [0, 2, 3, 1] rfl rfl ?_
      exact hr _ _ _ _ dX6_isMet_62 ⟨(congrArg (fun b9 => iI (bI b9)) (show false = (wantS B (s 2) (s 6) (s 5)) by unfold wantS; (repeat (first | rw [if_pos (by omega)] | rw [if_neg (by omega)])) <;> (symm; simp; omega))), rfl⟩
    · skip
      refine j_iconst h dX6_isMet_57 ?_
      refine j_goto (tgt := 62) h dX6_isMet_58 (by decide) ?_
      refine j_ws (ws' := [(h6, .inr (6, [.ref h0, .ref h10, .ref h4, .ref bs0, .ref be0, .ref rl0, .int (iI dp), .int (iI nx), .int (iI mk), .int (iI dn), .int (iI sb)])), (h0, .inr (0, [.ref c0])), (c0, .inl (T 0, 2880, .inl (fun j : Nat => iI (B j)))), (q0, .inr (7, [.int (iI (s 0)), .int (iI (s 1)), .int (iI (s 2)), .int (iI (s 3)), .int (iI (s 4)), .int (iI (s 5)), .int (iI (s 6)), .int (iI (s 7))]))]) [0, 2, 3, 1] rfl rfl ?_
      exact hr _ _ _ _ dX6_isMet_62 ⟨(congrArg (fun b9 => iI (bI b9)) (show true = (wantS B (s 2) (s 6) (s 5)) by unfold wantS; (repeat (first | rw [if_pos (by omega)] | rw [if_neg (by omega)])) <;> (symm; simp; omega))), rfl⟩
  · skip
    refine j_lookup (off := 37) h 63 dX6_isMet_26 (by decide) (by omega) (by rw [c2]; rfl) (by decide) ?_
    refine j_iload_n h dX6_isMet_63 2 rfl rfl ?_
    refine j_iload_n h dX6_isMet_64 3 rfl rfl ?_
    refine j_icmp_le h 72 dX6_isMet_65 (by decide) (by omega) (by omega) (fun c4 => ?_) (fun c4 => ?_)
    · skip
      refine j_iconst h dX6_isMet_72 ?_
      refine j_ws (ws' := [(h6, .inr (6, [.ref h0, .ref h10, .ref h4, .ref bs0, .ref be0, .ref rl0, .int (iI dp), .int (iI nx), .int (iI mk), .int (iI dn), .int (iI sb)])), (h0, .inr (0, [.ref c0])), (c0, .inl (T 0, 2880, .inl (fun j : Nat => iI (B j)))), (q0, .inr (7, [.int (iI (s 0)), .int (iI (s 1)), .int (iI (s 2)), .int (iI (s 3)), .int (iI (s 4)), .int (iI (s 5)), .int (iI (s 6)), .int (iI (s 7))]))]) [0, 2, 3, 1] rfl rfl ?_
      exact hr _ _ _ _ dX6_isMet_73 ⟨(congrArg (fun b9 => iI (bI b9)) (show false = (wantS B (s 2) (s 6) (s 5)) by unfold wantS; (repeat (first | rw [if_pos (by omega)] | rw [if_neg (by omega)])) <;> (symm; simp; omega))), rfl⟩
    · skip
      refine j_iconst h dX6_isMet_68 ?_
      refine j_goto (tgt := 73) h dX6_isMet_69 (by decide) ?_
      refine j_ws (ws' := [(h6, .inr (6, [.ref h0, .ref h10, .ref h4, .ref bs0, .ref be0, .ref rl0, .int (iI dp), .int (iI nx), .int (iI mk), .int (iI dn), .int (iI sb)])), (h0, .inr (0, [.ref c0])), (c0, .inl (T 0, 2880, .inl (fun j : Nat => iI (B j)))), (q0, .inr (7, [.int (iI (s 0)), .int (iI (s 1)), .int (iI (s 2)), .int (iI (s 3)), .int (iI (s 4)), .int (iI (s 5)), .int (iI (s 6)), .int (iI (s 7))]))]) [0, 2, 3, 1] rfl rfl ?_
      exact hr _ _ _ _ dX6_isMet_73 ⟨(congrArg (fun b9 => iI (bI b9)) (show true = (wantS B (s 2) (s 6) (s 5)) by unfold wantS; (repeat (first | rw [if_pos (by omega)] | rw [if_neg (by omega)])) <;> (symm; simp; omega))), rfl⟩
  · skip
    refine j_lookup (off := 48) h 74 dX6_isMet_26 (by decide) (by omega) (by show Op.lookupswitch.offset [(60, 26), (62, 37)] (48) _ = _; (repeat rw [Op.lookupswitch.offset_cons, if_neg (by omega)]); rfl) (by decide) ?_
    refine j_iload_n h dX6_isMet_74 2 rfl rfl ?_
    refine j_iload_n h dX6_isMet_75 3 rfl rfl ?_
    refine j_icmp_ne h 83 dX6_isMet_76 (by decide) (by omega) (by omega) (fun c5 => ?_) (fun c5 => ?_)
    · skip
      refine j_iconst h dX6_isMet_83 ?_
      refine j_ws (ws' := [(h6, .inr (6, [.ref h0, .ref h10, .ref h4, .ref bs0, .ref be0, .ref rl0, .int (iI dp), .int (iI nx), .int (iI mk), .int (iI dn), .int (iI sb)])), (h0, .inr (0, [.ref c0])), (c0, .inl (T 0, 2880, .inl (fun j : Nat => iI (B j)))), (q0, .inr (7, [.int (iI (s 0)), .int (iI (s 1)), .int (iI (s 2)), .int (iI (s 3)), .int (iI (s 4)), .int (iI (s 5)), .int (iI (s 6)), .int (iI (s 7))]))]) [0, 2, 3, 1] rfl rfl ?_
      exact hr _ _ _ _ dX6_isMet_84 ⟨(congrArg (fun b9 => iI (bI b9)) (show false = (wantS B (s 2) (s 6) (s 5)) by unfold wantS; (repeat (first | rw [if_pos (by omega)] | rw [if_neg (by omega)])) <;> (symm; simp; omega))), rfl⟩
    · skip
      refine j_iconst h dX6_isMet_79 ?_
      refine j_goto (tgt := 84) h dX6_isMet_80 (by decide) ?_
      refine j_ws (ws' := [(h6, .inr (6, [.ref h0, .ref h10, .ref h4, .ref bs0, .ref be0, .ref rl0, .int (iI dp), .int (iI nx), .int (iI mk), .int (iI dn), .int (iI sb)])), (h0, .inr (0, [.ref c0])), (c0, .inl (T 0, 2880, .inl (fun j : Nat => iI (B j)))), (q0, .inr (7, [.int (iI (s 0)), .int (iI (s 1)), .int (iI (s 2)), .int (iI (s 3)), .int (iI (s 4)), .int (iI (s 5)), .int (iI (s 6)), .int (iI (s 7))]))]) [0, 2, 3, 1] rfl rfl ?_
      exact hr _ _ _ _ dX6_isMet_84 ⟨(congrArg (fun b9 => iI (bI b9)) (show true = (wantS B (s 2) (s 6) (s 5)) by unfold wantS; (repeat (first | rw [if_pos (by omega)] | rw [if_neg (by omega)])) <;> (symm; simp; omega))), rfl⟩

abbrev rmX6_beginRepeat : Room := { frames := 0, cells := 0, slots := 0, locals := 0 }
theorem in_X6_beginRepeat_X7 : ∀ w ∈ u_ws RX7 TX7 8, w ∈ wsX6_beginRepeat := fun w hw => List.mem_cons_of_mem _ (List.mem_append_left _ (List.mem_append_right _ (hw)))
theorem f_X6_beginRepeat_87 : FnOK RX6 87 wsX6_beginRepeat 7 5 := ⟨_, _, _, "LayerShop", rfl, by decide, in_X6_beginRepeat_X7, List.mem_of_getElem? (i := 30) rfl⟩
theorem in_X6_beginRepeat_X6 : ∀ w ∈ u_ws RX6 TX6 11, w ∈ wsX6_beginRepeat := fun w hw => List.mem_cons_of_mem _ (List.mem_append_right _ (hw))
theorem f_X6_beginRepeat_21 : FlOK RX6 21 wsX6_beginRepeat 6 6 := ⟨_, _, _, rfl, by decide, in_X6_beginRepeat_X6, List.mem_of_getElem? (i := 2) rfl⟩
theorem f_X6_beginRepeat_9 : FlOK RX6 9 wsX6_beginRepeat 6 3 := ⟨_, _, _, rfl, by decide, in_X6_beginRepeat_X6, List.mem_of_getElem? (i := 3) rfl⟩
theorem f_X6_beginRepeat_25 : FlOK RX6 25 wsX6_beginRepeat 6 7 := ⟨_, _, _, rfl, by decide, in_X6_beginRepeat_X6, List.mem_of_getElem? (i := 1) rfl⟩
theorem f_X6_beginRepeat_15 : FlOK RX6 15 wsX6_beginRepeat 6 4 := ⟨_, _, _, rfl, by decide, in_X6_beginRepeat_X6, List.mem_of_getElem? (i := 4) rfl⟩
theorem f_X6_beginRepeat_123 : FnOK RX6 123 wsX6_beginRepeat 7 7 := ⟨_, _, _, "LayerShop", rfl, by decide, in_X6_beginRepeat_X7, List.mem_of_getElem? (i := 24) rfl⟩
theorem f_X6_beginRepeat_18 : FlOK RX6 18 wsX6_beginRepeat 6 5 := ⟨_, _, _, rfl, by decide, in_X6_beginRepeat_X6, List.mem_of_getElem? (i := 5) rfl⟩
theorem p_X6_6 : PuOK 6 6 false (.int) := ⟨_, _, _, tyX6, rfl, tyX6_ok, nmX6, rfl, rfl⟩
theorem p_X6_7 : PuOK 6 7 false (.int) := ⟨_, _, _, tyX6, rfl, tyX6_ok, nmX6, rfl, rfl⟩
set_option maxHeartbeats 600000 in
set_option maxRecDepth 100000 in
theorem ct_X6_beginRepeat (T : Nat → ClassId) (h6 : Nat) (h0 : Nat) (h10 : Nat) (h4 : Nat) (bs0 : Nat) (be0 : Nat) (rl0 : Nat) (dp : Int) (nx : Int) (mk : Int) (dn : Int) (sb : Int) (q0 : Nat) (s : Int → Int) (bs : Int → Int) (be : Int → Int) (rl : Int → Int) (hs : VS s) (hw : s 0 = 13) (hdp : 0 ≤ dp ∧ dp ≤ 4) (hnx : 0 ≤ nx ∧ nx ≤ 60) : CtV T yX6_beginRepeat wsX6_beginRepeat rmX6_beginRepeat 0 0 [.ref h6, .ref q0] [(h6, .inr (6, [.ref h0, .ref h10, .ref h4, .ref bs0, .ref be0, .ref rl0, .int (iI dp), .int (iI nx), .int (iI mk), .int (iI dn), .int (iI sb)])), (bs0, .inl (T 0, 4, .inl (fun j : Nat => iI (bs j)))), (be0, .inl (T 0, 4, .inl (fun j : Nat => iI (be j)))), (rl0, .inl (T 0, 4, .inl (fun j : Nat => iI (rl j)))), (q0, .inr (7, [.int (iI (s 0)), .int (iI (s 1)), .int (iI (s 2)), .int (iI (s 3)), .int (iI (s 4)), .int (iI (s 5)), .int (iI (s 6)), .int (iI (s 7))]))] (fun u => u = [(h6, .inr (6, [.ref h0, .ref h10, .ref h4, .ref bs0, .ref be0, .ref rl0, .int (iI (if ¬ s 5 = 0 ∧ dp < 4 then dp + 1 else dp)), .int (iI (if s 5 = 0 then s 7 else nx)), .int (iI mk), .int (iI dn), .int (iI sb)])), (bs0, .inl (T 0, 4, .inl (fun j : Nat => iI ((if ¬ s 5 = 0 ∧ dp < 4 then upI bs dp nx else bs) j)))), (be0, .inl (T 0, 4, .inl (fun j : Nat => iI ((if ¬ s 5 = 0 ∧ dp < 4 then upI be dp (s 7) else be) j)))), (rl0, .inl (T 0, 4, .inl (fun j : Nat => iI ((if ¬ s 5 = 0 ∧ dp < 4 then upI rl dp (s 5) else rl) j)))), (q0, .inr (7, [.int (iI (s 0)), .int (iI (s 1)), .int (iI (s 2)), .int (iI (s 3)), .int (iI (s 4)), .int (iI (s 5)), .int (iI (s 6)), .int (iI (s 7))]))]) := by
  refine ctV_of (cc := cX6_beginRepeat) (maxL := 2) (ret := none) (by decide +kernel) rfl rfl (Nat.le_of_ble_eq_true rfl) (fun X h hinit hr => ?_)
  refine j_eq (lv' := [(0, .ref h6), (1, .ref q0)]) rfl rfl rfl rfl rfl rfl ?_
  have hs0 := hs.1
  have hs1 := hs.2.1
  have hs2 := hs.2.2.1
  have hs3 := hs.2.2.2.1
  have hs4 := hs.2.2.2.2.1
  have hs5 := hs.2.2.2.2.2.1
  have hs6 := hs.2.2.2.2.2.2.1
  have hs7 := hs.2.2.2.2.2.2.2.1
  have hs8 := hs.2.2.2.2.2.2.2.2
  refine j_aload_n h dX6_beginRepeat_0 1 rfl rfl ?_
  refine j_getN h dX6_beginRepeat_1 f_X6_beginRepeat_87 4 rfl rfl ?_
  refine j_if_ne h 18 dX6_beginRepeat_4 (by decide) (by omega) (fun c1 => ?_) (fun c1 => ?_)
  · skip
    refine j_aload_n h dX6_beginRepeat_18 0 rfl rfl ?_
    refine j_get h dX6_beginRepeat_19 f_X6_beginRepeat_21 0 rfl rfl ?_
    refine j_iconst h dX6_beginRepeat_22 ?_
    refine j_icmp_ge h 75 dX6_beginRepeat_23 (by decide) (by omega) (by omega) (fun c2 => ?_) (fun c2 => ?_)
    · skip
      exact hr _ _ _ dX6_beginRepeat_75 (show ([(h6, .inr (6, [.ref h0, .ref h10, .ref h4, .ref bs0, .ref be0, .ref rl0, .int (iI dp), .int (iI nx), .int (iI mk), .int (iI dn), .int (iI sb)])), (bs0, .inl (T 0, 4, .inl (fun j : Nat => iI (bs j)))), (be0, .inl (T 0, 4, .inl (fun j : Nat => iI (be j)))), (rl0, .inl (T 0, 4, .inl (fun j : Nat => iI (rl j)))), (q0, .inr (7, [.int (iI (s 0)), .int (iI (s 1)), .int (iI (s 2)), .int (iI (s 3)), .int (iI (s 4)), .int (iI (s 5)), .int (iI (s 6)), .int (iI (s 7))]))] : va_W) = [(h6, .inr (6, [.ref h0, .ref h10, .ref h4, .ref bs0, .ref be0, .ref rl0, .int (iI (if ¬ s 5 = 0 ∧ dp < 4 then dp + 1 else dp)), .int (iI (if s 5 = 0 then s 7 else nx)), .int (iI mk), .int (iI dn), .int (iI sb)])), (bs0, .inl (T 0, 4, .inl (fun j : Nat => iI ((if ¬ s 5 = 0 ∧ dp < 4 then upI bs dp nx else bs) j)))), (be0, .inl (T 0, 4, .inl (fun j : Nat => iI ((if ¬ s 5 = 0 ∧ dp < 4 then upI be dp (s 7) else be) j)))), (rl0, .inl (T 0, 4, .inl (fun j : Nat => iI ((if ¬ s 5 = 0 ∧ dp < 4 then upI rl dp (s 5) else rl) j)))), (q0, .inr (7, [.int (iI (s 0)), .int (iI (s 1)), .int (iI (s 2)), .int (iI (s 3)), .int (iI (s 4)), .int (iI (s 5)), .int (iI (s 6)), .int (iI (s 7))]))] by (repeat (first | rw [if_pos (by omega)] | rw [if_neg (by omega)])))
    · skip
      refine j_aload_n h dX6_beginRepeat_26 0 rfl rfl ?_
      refine j_get h dX6_beginRepeat_27 f_X6_beginRepeat_9 0 rfl rfl ?_
      refine j_aload_n h dX6_beginRepeat_30 0 rfl rfl ?_
      refine j_get h dX6_beginRepeat_31 f_X6_beginRepeat_21 0 rfl rfl ?_
      refine j_aload_n h dX6_beginRepeat_34 0 rfl rfl ?_
      refine j_get h dX6_beginRepeat_35 f_X6_beginRepeat_25 0 rfl rfl ?_
      refine j_iast (f := bs) (ws' := [(h6, .inr (6, [.ref h0, .ref h10, .ref h4, .ref bs0, .ref be0, .ref rl0, .int (iI dp), .int (iI nx), .int (iI mk), .int (iI dn), .int (iI sb)])), (bs0, .inl (T 0, 4, .inl (fun j : Nat => iI ((upI bs dp nx) j)))), (be0, .inl (T 0, 4, .inl (fun j : Nat => iI (be j)))), (rl0, .inl (T 0, 4, .inl (fun j : Nat => iI (rl j)))), (q0, .inr (7, [.int (iI (s 0)), .int (iI (s 1)), .int (iI (s 2)), .int (iI (s 3)), .int (iI (s 4)), .int (iI (s 5)), .int (iI (s 6)), .int (iI (s 7))]))]) h dp dX6_beginRepeat_38 1 rfl (by decide) (by omega) (by omega) rfl ?_
      refine j_aload_n h dX6_beginRepeat_39 0 rfl rfl ?_
      refine j_get h dX6_beginRepeat_40 f_X6_beginRepeat_15 0 rfl rfl ?_
      refine j_aload_n h dX6_beginRepeat_43 0 rfl rfl ?_
      refine j_get h dX6_beginRepeat_44 f_X6_beginRepeat_21 0 rfl rfl ?_
      refine j_aload_n h dX6_beginRepeat_47 1 rfl rfl ?_
      refine j_getN h dX6_beginRepeat_48 f_X6_beginRepeat_123 4 rfl rfl ?_
      refine j_iast (f := be) (ws' := [(h6, .inr (6, [.ref h0, .ref h10, .ref h4, .ref bs0, .ref be0, .ref rl0, .int (iI dp), .int (iI nx), .int (iI mk), .int (iI dn), .int (iI sb)])), (bs0, .inl (T 0, 4, .inl (fun j : Nat => iI ((upI bs dp nx) j)))), (be0, .inl (T 0, 4, .inl (fun j : Nat => iI ((upI be dp (s 7)) j)))), (rl0, .inl (T 0, 4, .inl (fun j : Nat => iI (rl j)))), (q0, .inr (7, [.int (iI (s 0)), .int (iI (s 1)), .int (iI (s 2)), .int (iI (s 3)), .int (iI (s 4)), .int (iI (s 5)), .int (iI (s 6)), .int (iI (s 7))]))]) h dp dX6_beginRepeat_51 2 rfl (by decide) (by omega) (by omega) rfl ?_
      refine j_aload_n h dX6_beginRepeat_52 0 rfl rfl ?_
      refine j_get h dX6_beginRepeat_53 f_X6_beginRepeat_18 0 rfl rfl ?_
      refine j_aload_n h dX6_beginRepeat_56 0 rfl rfl ?_
      refine j_get h dX6_beginRepeat_57 f_X6_beginRepeat_21 0 rfl rfl ?_
      refine j_aload_n h dX6_beginRepeat_60 1 rfl rfl ?_
      refine j_getN h dX6_beginRepeat_61 f_X6_beginRepeat_87 4 rfl rfl ?_
      refine j_iast (f := rl) (ws' := [(h6, .inr (6, [.ref h0, .ref h10, .ref h4, .ref bs0, .ref be0, .ref rl0, .int (iI dp), .int (iI nx), .int (iI mk), .int (iI dn), .int (iI sb)])), (bs0, .inl (T 0, 4, .inl (fun j : Nat => iI ((upI bs dp nx) j)))), (be0, .inl (T 0, 4, .inl (fun j : Nat => iI ((upI be dp (s 7)) j)))), (rl0, .inl (T 0, 4, .inl (fun j : Nat => iI ((upI rl dp (s 5)) j)))), (q0, .inr (7, [.int (iI (s 0)), .int (iI (s 1)), .int (iI (s 2)), .int (iI (s 3)), .int (iI (s 4)), .int (iI (s 5)), .int (iI (s 6)), .int (iI (s 7))]))]) h dp dX6_beginRepeat_64 3 rfl (by decide) (by omega) (by omega) rfl ?_
      refine j_aload_n h dX6_beginRepeat_65 0 rfl rfl ?_
      refine j_dup h dX6_beginRepeat_66 rfl ?_
      refine j_get h dX6_beginRepeat_67 f_X6_beginRepeat_21 0 rfl rfl ?_
      refine j_iconst h dX6_beginRepeat_70 ?_
      refine j_iadd h dX6_beginRepeat_71 ?_
      refine j_put (ws' := [(h6, .inr (6, [.ref h0, .ref h10, .ref h4, .ref bs0, .ref be0, .ref rl0, .int (iI (dp + 1)), .int (iI nx), .int (iI mk), .int (iI dn), .int (iI sb)])), (bs0, .inl (T 0, 4, .inl (fun j : Nat => iI ((upI bs dp nx) j)))), (be0, .inl (T 0, 4, .inl (fun j : Nat => iI ((upI be dp (s 7)) j)))), (rl0, .inl (T 0, 4, .inl (fun j : Nat => iI ((upI rl dp (s 5)) j)))), (q0, .inr (7, [.int (iI (s 0)), .int (iI (s 1)), .int (iI (s 2)), .int (iI (s 3)), .int (iI (s 4)), .int (iI (s 5)), .int (iI (s 6)), .int (iI (s 7))]))]) h dX6_beginRepeat_72 f_X6_beginRepeat_21 p_X6_6 0 rfl rfl rfl (Nat.le_of_ble_eq_true rfl) rfl ?_
      exact hr _ _ _ dX6_beginRepeat_75 (show ([(h6, .inr (6, [.ref h0, .ref h10, .ref h4, .ref bs0, .ref be0, .ref rl0, .int (iI (dp + 1)), .int (iI nx), .int (iI mk), .int (iI dn), .int (iI sb)])), (bs0, .inl (T 0, 4, .inl (fun j : Nat => iI ((upI bs dp nx) j)))), (be0, .inl (T 0, 4, .inl (fun j : Nat => iI ((upI be dp (s 7)) j)))), (rl0, .inl (T 0, 4, .inl (fun j : Nat => iI ((upI rl dp (s 5)) j)))), (q0, .inr (7, [.int (iI (s 0)), .int (iI (s 1)), .int (iI (s 2)), .int (iI (s 3)), .int (iI (s 4)), .int (iI (s 5)), .int (iI (s 6)), .int (iI (s 7))]))] : va_W) = [(h6, .inr (6, [.ref h0, .ref h10, .ref h4, .ref bs0, .ref be0, .ref rl0, .int (iI (if ¬ s 5 = 0 ∧ dp < 4 then dp + 1 else dp)), .int (iI (if s 5 = 0 then s 7 else nx)), .int (iI mk), .int (iI dn), .int (iI sb)])), (bs0, .inl (T 0, 4, .inl (fun j : Nat => iI ((if ¬ s 5 = 0 ∧ dp < 4 then upI bs dp nx else bs) j)))), (be0, .inl (T 0, 4, .inl (fun j : Nat => iI ((if ¬ s 5 = 0 ∧ dp < 4 then upI be dp (s 7) else be) j)))), (rl0, .inl (T 0, 4, .inl (fun j : Nat => iI ((if ¬ s 5 = 0 ∧ dp < 4 then upI rl dp (s 5) else rl) j)))), (q0, .inr (7, [.int (iI (s 0)), .int (iI (s 1)), .int (iI (s 2)), .int (iI (s 3)), .int (iI (s 4)), .int (iI (s 5)), .int (iI (s 6)), .int (iI (s 7))]))] by (repeat (first | rw [if_pos (by omega)] | rw [if_neg (by omega)])))
  · skip
    refine j_aload_n h dX6_beginRepeat_7 0 rfl rfl ?_
    refine j_aload_n h dX6_beginRepeat_8 1 rfl rfl ?_
    refine j_getN h dX6_beginRepeat_9 f_X6_beginRepeat_123 4 rfl rfl ?_
    refine j_put (ws' := [(h6, .inr (6, [.ref h0, .ref h10, .ref h4, .ref bs0, .ref be0, .ref rl0, .int (iI dp), .int (iI (s 7)), .int (iI mk), .int (iI dn), .int (iI sb)])), (bs0, .inl (T 0, 4, .inl (fun j : Nat => iI (bs j)))), (be0, .inl (T 0, 4, .inl (fun j : Nat => iI (be j)))), (rl0, .inl (T 0, 4, .inl (fun j : Nat => iI (rl j)))), (q0, .inr (7, [.int (iI (s 0)), .int (iI (s 1)), .int (iI (s 2)), .int (iI (s 3)), .int (iI (s 4)), .int (iI (s 5)), .int (iI (s 6)), .int (iI (s 7))]))]) h dX6_beginRepeat_12 f_X6_beginRepeat_25 p_X6_7 0 rfl rfl rfl (Nat.le_of_ble_eq_true rfl) rfl ?_
    refine j_goto (tgt := 75) h dX6_beginRepeat_15 (by decide) ?_
    exact hr _ _ _ dX6_beginRepeat_75 (show ([(h6, .inr (6, [.ref h0, .ref h10, .ref h4, .ref bs0, .ref be0, .ref rl0, .int (iI dp), .int (iI (s 7)), .int (iI mk), .int (iI dn), .int (iI sb)])), (bs0, .inl (T 0, 4, .inl (fun j : Nat => iI (bs j)))), (be0, .inl (T 0, 4, .inl (fun j : Nat => iI (be j)))), (rl0, .inl (T 0, 4, .inl (fun j : Nat => iI (rl j)))), (q0, .inr (7, [.int (iI (s 0)), .int (iI (s 1)), .int (iI (s 2)), .int (iI (s 3)), .int (iI (s 4)), .int (iI (s 5)), .int (iI (s 6)), .int (iI (s 7))]))] : va_W) = [(h6, .inr (6, [.ref h0, .ref h10, .ref h4, .ref bs0, .ref be0, .ref rl0, .int (iI (if ¬ s 5 = 0 ∧ dp < 4 then dp + 1 else dp)), .int (iI (if s 5 = 0 then s 7 else nx)), .int (iI mk), .int (iI dn), .int (iI sb)])), (bs0, .inl (T 0, 4, .inl (fun j : Nat => iI ((if ¬ s 5 = 0 ∧ dp < 4 then upI bs dp nx else bs) j)))), (be0, .inl (T 0, 4, .inl (fun j : Nat => iI ((if ¬ s 5 = 0 ∧ dp < 4 then upI be dp (s 7) else be) j)))), (rl0, .inl (T 0, 4, .inl (fun j : Nat => iI ((if ¬ s 5 = 0 ∧ dp < 4 then upI rl dp (s 5) else rl) j)))), (q0, .inr (7, [.int (iI (s 0)), .int (iI (s 1)), .int (iI (s 2)), .int (iI (s 3)), .int (iI (s 4)), .int (iI (s 5)), .int (iI (s 6)), .int (iI (s 7))]))] by (repeat (first | rw [if_pos (by omega)] | rw [if_neg (by omega)])))

abbrev rmX6_endRound : Room := { frames := 0, cells := 0, slots := 0, locals := 0 }
theorem in_X6_endRound_X6 : ∀ w ∈ u_ws RX6 TX6 11, w ∈ wsX6_endRound := fun w hw => List.mem_cons_of_mem _ (List.mem_append_right _ (hw))
theorem f_X6_endRound_18 : FlOK RX6 18 wsX6_endRound 6 5 := ⟨_, _, _, rfl, by decide, in_X6_endRound_X6, List.mem_of_getElem? (i := 1) rfl⟩
theorem f_X6_endRound_21 : FlOK RX6 21 wsX6_endRound 6 6 := ⟨_, _, _, rfl, by decide, in_X6_endRound_X6, List.mem_of_getElem? (i := 2) rfl⟩
theorem f_X6_endRound_9 : FlOK RX6 9 wsX6_endRound 6 3 := ⟨_, _, _, rfl, by decide, in_X6_endRound_X6, List.mem_of_getElem? (i := 3) rfl⟩
theorem f_X6_endRound_25 : FlOK RX6 25 wsX6_endRound 6 7 := ⟨_, _, _, rfl, by decide, in_X6_endRound_X6, List.mem_of_getElem? (i := 4) rfl⟩
set_option maxHeartbeats 600000 in
set_option maxRecDepth 100000 in
theorem ct_X6_endRound (T : Nat → ClassId) (h6 : Nat) (h0 : Nat) (h10 : Nat) (h4 : Nat) (bs0 : Nat) (be0 : Nat) (rl0 : Nat) (dp : Int) (nx : Int) (mk : Int) (dn : Int) (sb : Int) (bs : Int → Int) (rl : Int → Int) (hdp : 0 < dp ∧ dp ≤ 4) (hrl : 1 ≤ rl (dp - 1) ∧ rl (dp - 1) ≤ 9) : CtV T yX6_endRound wsX6_endRound rmX6_endRound 0 0 [.ref h6] [(h6, .inr (6, [.ref h0, .ref h10, .ref h4, .ref bs0, .ref be0, .ref rl0, .int (iI dp), .int (iI nx), .int (iI mk), .int (iI dn), .int (iI sb)])), (bs0, .inl (T 0, 4, .inl (fun j : Nat => iI (bs j)))), (rl0, .inl (T 0, 4, .inl (fun j : Nat => iI (rl j))))] (fun u => u = [(h6, .inr (6, [.ref h0, .ref h10, .ref h4, .ref bs0, .ref be0, .ref rl0, .int (iI (if 0 < rl (dp - 1) - 1 then dp else dp - 1)), .int (iI (if 0 < rl (dp - 1) - 1 then bs (dp - 1) else nx)), .int (iI mk), .int (iI dn), .int (iI sb)])), (bs0, .inl (T 0, 4, .inl (fun j : Nat => iI (bs j)))), (rl0, .inl (T 0, 4, .inl (fun j : Nat => iI ((upI rl (dp - 1) (rl (dp - 1) - 1)) j))))]) := by
  refine ctV_of (cc := cX6_endRound) (maxL := 1) (ret := none) (by decide +kernel) rfl rfl (Nat.le_of_ble_eq_true rfl) (fun X h hinit hr => ?_)
  refine j_eq (lv' := [(0, .ref h6)]) rfl rfl rfl rfl rfl rfl ?_
  refine j_aload_n h dX6_endRound_0 0 rfl rfl ?_
  refine j_get h dX6_endRound_1 f_X6_endRound_18 0 rfl rfl ?_
  refine j_aload_n h dX6_endRound_4 0 rfl rfl ?_
  refine j_get h dX6_endRound_5 f_X6_endRound_21 0 rfl rfl ?_
  refine j_iconst h dX6_endRound_8 ?_
  refine j_isub h dX6_endRound_9 ?_
  refine j_dup2 h dX6_endRound_10 rfl rfl ?_
  refine j_iald (f := rl) h (dp - 1) dX6_endRound_11 2 rfl (by decide) (by omega) (by omega) ?_
  refine j_iconst h dX6_endRound_12 ?_
  refine j_isub h dX6_endRound_13 ?_
  refine j_iast (f := rl) (ws' := [(h6, .inr (6, [.ref h0, .ref h10, .ref h4, .ref bs0, .ref be0, .ref rl0, .int (iI dp), .int (iI nx), .int (iI mk), .int (iI dn), .int (iI sb)])), (bs0, .inl (T 0, 4, .inl (fun j : Nat => iI (bs j)))), (rl0, .inl (T 0, 4, .inl (fun j : Nat => iI ((upI rl (dp - 1) ((rl (dp - 1)) - 1)) j))))]) h (dp - 1) dX6_endRound_14 2 rfl (by decide) (by omega) (by omega) rfl ?_
  refine j_aload_n h dX6_endRound_15 0 rfl rfl ?_
  refine j_get h dX6_endRound_16 f_X6_endRound_18 0 rfl rfl ?_
  refine j_aload_n h dX6_endRound_19 0 rfl rfl ?_
  refine j_get h dX6_endRound_20 f_X6_endRound_21 0 rfl rfl ?_
  refine j_iconst h dX6_endRound_23 ?_
  refine j_isub h dX6_endRound_24 ?_
  refine j_iald (f := (upI rl (dp - 1) ((rl (dp - 1)) - 1))) h (dp - 1) dX6_endRound_25 2 rfl (by decide) (by omega) (by omega) ?_
  rw [show ((upI rl (dp - 1) ((rl (dp - 1)) - 1)) (dp - 1)) = (rl (dp - 1) - 1) by exact upI_s]
  refine j_if_le h 47 dX6_endRound_26 (by decide) (by omega) (fun c1 => ?_) (fun c1 => ?_)
  · skip
    refine j_aload_n h dX6_endRound_47 0 rfl rfl ?_
    refine j_dup h dX6_endRound_48 rfl ?_
    refine j_get h dX6_endRound_49 f_X6_endRound_21 0 rfl rfl ?_
    refine j_iconst h dX6_endRound_52 ?_
    refine j_isub h dX6_endRound_53 ?_
    refine j_put (ws' := [(h6, .inr (6, [.ref h0, .ref h10, .ref h4, .ref bs0, .ref be0, .ref rl0, .int (iI (dp - 1)), .int (iI nx), .int (iI mk), .int (iI dn), .int (iI sb)])), (bs0, .inl (T 0, 4, .inl (fun j : Nat => iI (bs j)))), (rl0, .inl (T 0, 4, .inl (fun j : Nat => iI ((upI rl (dp - 1) ((rl (dp - 1)) - 1)) j))))]) h dX6_endRound_54 f_X6_endRound_21 p_X6_6 0 rfl rfl rfl (Nat.le_of_ble_eq_true rfl) rfl ?_
    exact hr _ _ _ dX6_endRound_57 (show ([(h6, .inr (6, [.ref h0, .ref h10, .ref h4, .ref bs0, .ref be0, .ref rl0, .int (iI (dp - 1)), .int (iI nx), .int (iI mk), .int (iI dn), .int (iI sb)])), (bs0, .inl (T 0, 4, .inl (fun j : Nat => iI (bs j)))), (rl0, .inl (T 0, 4, .inl (fun j : Nat => iI ((upI rl (dp - 1) ((rl (dp - 1)) - 1)) j))))] : va_W) = [(h6, .inr (6, [.ref h0, .ref h10, .ref h4, .ref bs0, .ref be0, .ref rl0, .int (iI (if 0 < rl (dp - 1) - 1 then dp else dp - 1)), .int (iI (if 0 < rl (dp - 1) - 1 then bs (dp - 1) else nx)), .int (iI mk), .int (iI dn), .int (iI sb)])), (bs0, .inl (T 0, 4, .inl (fun j : Nat => iI (bs j)))), (rl0, .inl (T 0, 4, .inl (fun j : Nat => iI ((upI rl (dp - 1) (rl (dp - 1) - 1)) j))))] by (repeat (first | rw [if_pos (by omega)] | rw [if_neg (by omega)])))
  · skip
    refine j_aload_n h dX6_endRound_29 0 rfl rfl ?_
    refine j_aload_n h dX6_endRound_30 0 rfl rfl ?_
    refine j_get h dX6_endRound_31 f_X6_endRound_9 0 rfl rfl ?_
    refine j_aload_n h dX6_endRound_34 0 rfl rfl ?_
    refine j_get h dX6_endRound_35 f_X6_endRound_21 0 rfl rfl ?_
    refine j_iconst h dX6_endRound_38 ?_
    refine j_isub h dX6_endRound_39 ?_
    refine j_iald (f := bs) h (dp - 1) dX6_endRound_40 1 rfl (by decide) (by omega) (by omega) ?_
    refine j_put (ws' := [(h6, .inr (6, [.ref h0, .ref h10, .ref h4, .ref bs0, .ref be0, .ref rl0, .int (iI dp), .int (iI (bs (dp - 1))), .int (iI mk), .int (iI dn), .int (iI sb)])), (bs0, .inl (T 0, 4, .inl (fun j : Nat => iI (bs j)))), (rl0, .inl (T 0, 4, .inl (fun j : Nat => iI ((upI rl (dp - 1) ((rl (dp - 1)) - 1)) j))))]) h dX6_endRound_41 f_X6_endRound_25 p_X6_7 0 rfl rfl rfl (Nat.le_of_ble_eq_true rfl) rfl ?_
    refine j_goto (tgt := 57) h dX6_endRound_44 (by decide) ?_
    exact hr _ _ _ dX6_endRound_57 (show ([(h6, .inr (6, [.ref h0, .ref h10, .ref h4, .ref bs0, .ref be0, .ref rl0, .int (iI dp), .int (iI (bs (dp - 1))), .int (iI mk), .int (iI dn), .int (iI sb)])), (bs0, .inl (T 0, 4, .inl (fun j : Nat => iI (bs j)))), (rl0, .inl (T 0, 4, .inl (fun j : Nat => iI ((upI rl (dp - 1) ((rl (dp - 1)) - 1)) j))))] : va_W) = [(h6, .inr (6, [.ref h0, .ref h10, .ref h4, .ref bs0, .ref be0, .ref rl0, .int (iI (if 0 < rl (dp - 1) - 1 then dp else dp - 1)), .int (iI (if 0 < rl (dp - 1) - 1 then bs (dp - 1) else nx)), .int (iI mk), .int (iI dn), .int (iI sb)])), (bs0, .inl (T 0, 4, .inl (fun j : Nat => iI (bs j)))), (rl0, .inl (T 0, 4, .inl (fun j : Nat => iI ((upI rl (dp - 1) (rl (dp - 1) - 1)) j))))] by (repeat (first | rw [if_pos (by omega)] | rw [if_neg (by omega)])))

