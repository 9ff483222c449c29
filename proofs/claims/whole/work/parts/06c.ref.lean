abbrev rmX12_at : Room := { frames := 2, cells := 0, slots := 0, locals := 45 }
theorem k_X12_noPlace : CkOK yX12_noPlace wsX12_noPlace rmX12_noPlace 0 0 cX12_noPlace 1 (some .boolean) 1 := ⟨⟨_, rfl⟩, rfl, rfl, by decide +kernel⟩
theorem in_X12_at_X12 : ∀ w ∈ u_ws RX12 TX12 40, w ∈ wsX12_at := fun w hw => List.mem_cons_of_mem _ (List.mem_append_right _ (hw))
theorem f_X12_at_7 : FlOK RX12 7 wsX12_at 12 0 := ⟨_, _, _, rfl, by decide, in_X12_at_X12, List.mem_of_getElem? (i := 2) rfl⟩
set_option maxHeartbeats 600000 in
set_option maxRecDepth 100000 in
/-- at -/
theorem ct_X12_at (T : Nat → ClassId) (g0 : Nat) (r : Nat → Nat) (x_taped : Int) (x_at : Int) (x_token : Int) (x_from : Int) (x_word : Int) (x_value : Int) (x_size : Int) (x_fault : Int) (x_faultAt : Int) (x_steps : Int) (x_counted : Int) (x_opens : Int) (x_queued : Int) (x_theMask : Int) (x_kept : Int) (x_placed : Int) (x_orderMany : Int) (x_outs : Int) (B : Int → Int) (p : Int) (z : Int) (hB : BOK B) (hp : -2147483648 ≤ p ∧ p ≤ 2147483647) (hz : -2147483648 ≤ z ∧ z ≤ 2147483647) : CtI T yX12_at wsX12_at rmX12_at 0 0 [.ref g0, .int (iI p), .int (iI z)] [(g0, .inr (12, .ref (r 0) :: .ref (r 1) :: .ref (r 2) :: .int (iI x_taped) :: .int (iI x_at) :: .int (iI x_token) :: .int (iI x_from) :: .long (lI x_word) :: .int (iI x_value) :: .int (iI x_size) :: .int (iI x_fault) :: .int (iI x_faultAt) :: .ref (r 3) :: .ref (r 4) :: .ref (r 5) :: .ref (r 6) :: .ref (r 7) :: .ref (r 8) :: .ref (r 9) :: .int (iI x_steps) :: .int (iI x_counted) :: .ref (r 10) :: .int (iI x_opens) :: .ref (r 11) :: .ref (r 12) :: .int (iI x_queued) :: .ref (r 13) :: .ref (r 14) :: .int (iI x_theMask) :: .ref (r 15) :: .ref (r 16) :: .int (iI x_kept) :: .int (iI x_placed) :: .ref (r 17) :: .ref (r 18) :: .ref (r 19) :: .int (iI x_orderMany) :: .ref (r 20) :: .ref (r 21) :: .int (iI x_outs) :: [])), ((r 0), .inl (T 0, 2880, .inl (fun j : Nat => iI (B j))))] (fun r8 u => r8 = (iI (atR B p z)) ∧ u = [(g0, .inr (12, .ref (r 0) :: .ref (r 1) :: .ref (r 2) :: .int (iI x_taped) :: .int (iI x_at) :: .int (iI x_token) :: .int (iI x_from) :: .long (lI x_word) :: .int (iI x_value) :: .int (iI x_size) :: .int (iI x_fault) :: .int (iI x_faultAt) :: .ref (r 3) :: .ref (r 4) :: .ref (r 5) :: .ref (r 6) :: .ref (r 7) :: .ref (r 8) :: .ref (r 9) :: .int (iI x_steps) :: .int (iI x_counted) :: .ref (r 10) :: .int (iI x_opens) :: .ref (r 11) :: .ref (r 12) :: .int (iI x_queued) :: .ref (r 13) :: .ref (r 14) :: .int (iI x_theMask) :: .ref (r 15) :: .ref (r 16) :: .int (iI x_kept) :: .int (iI x_placed) :: .ref (r 17) :: .ref (r 18) :: .ref (r 19) :: .int (iI x_orderMany) :: .ref (r 20) :: .ref (r 21) :: .int (iI x_outs) :: [])), ((r 0), .inl (T 0, 2880, .inl (fun j : Nat => iI (B j))))]) := by
  refine ctI_of (cc := cX12_at) (maxL := 3) (ret := (some .int)) (by decide +kernel) rfl rfl (fun r u hp => by obtain ⟨rfl, -⟩ := hp; rfl) (Nat.le_of_ble_eq_true rfl) (fun X h hinit hr => ?_)
  refine j_eq (lv' := [(0, .ref g0), (1, .int (iI p)), (2, .int (iI z))]) rfl rfl rfl rfl rfl rfl ?_
  refine j_iload_n h dX12_at_0 1 rfl rfl ?_
  refine j_callSi (As := [.int (iI p)]) (wr := [(g0, .inr (12, .ref (r 0) :: .ref (r 1) :: .ref (r 2) :: .int (iI x_taped) :: .int (iI x_at) :: .int (iI x_token) :: .int (iI x_from) :: .long (lI x_word) :: .int (iI x_value) :: .int (iI x_size) :: .int (iI x_fault) :: .int (iI x_faultAt) :: .ref (r 3) :: .ref (r 4) :: .ref (r 5) :: .ref (r 6) :: .ref (r 7) :: .ref (r 8) :: .ref (r 9) :: .int (iI x_steps) :: .int (iI x_counted) :: .ref (r 10) :: .int (iI x_opens) :: .ref (r 11) :: .ref (r 12) :: .int (iI x_queued) :: .ref (r 13) :: .ref (r 14) :: .int (iI x_theMask) :: .ref (r 15) :: .ref (r 16) :: .int (iI x_kept) :: .int (iI x_placed) :: .ref (r 17) :: .ref (r 18) :: .ref (r 19) :: .int (iI x_orderMany) :: .ref (r 20) :: .ref (r 21) :: .int (iI x_outs) :: [])), ((r 0), .inl (T 0, 2880, .inl (fun j : Nat => iI (B j))))]) (cells' := 0) (slots' := 0) h dX12_at_1 (ct_X12_noPlace T p (by first | assumption | omega)) k_X12_noPlace gX12_at_X12_noPlace ⟨Nat.le_of_ble_eq_true rfl, Nat.le_of_ble_eq_true rfl⟩ rfl rfl (Nat.le_of_ble_eq_true rfl) ⟨Nat.le_of_ble_eq_true rfl, Nat.le_of_ble_eq_true rfl⟩ rfl rfl [] [0, 1] rfl rfl rfl rfl (by decide) (fun r9 u9 p1 => ?_)
  obtain ⟨rfl, rfl⟩ := p1
  refine j_eq (ws' := [(g0, .inr (12, .ref (r 0) :: .ref (r 1) :: .ref (r 2) :: .int (iI x_taped) :: .int (iI x_at) :: .int (iI x_token) :: .int (iI x_from) :: .long (lI x_word) :: .int (iI x_value) :: .int (iI x_size) :: .int (iI x_fault) :: .int (iI x_faultAt) :: .ref (r 3) :: .ref (r 4) :: .ref (r 5) :: .ref (r 6) :: .ref (r 7) :: .ref (r 8) :: .ref (r 9) :: .int (iI x_steps) :: .int (iI x_counted) :: .ref (r 10) :: .int (iI x_opens) :: .ref (r 11) :: .ref (r 12) :: .int (iI x_queued) :: .ref (r 13) :: .ref (r 14) :: .int (iI x_theMask) :: .ref (r 15) :: .ref (r 16) :: .int (iI x_kept) :: .int (iI x_placed) :: .ref (r 17) :: .ref (r 18) :: .ref (r 19) :: .int (iI x_orderMany) :: .ref (r 20) :: .ref (r 21) :: .int (iI x_outs) :: [])), ((r 0), .inl (T 0, 2880, .inl (fun j : Nat => iI (B j))))]) rfl rfl rfl rfl rfl rfl ?_
  refine j_ifneB h 19 dX12_at_4 (by decide) (fun c2 => ?_) (fun c2 => ?_)
  · skip
    replace c2 := of_decide_eq_true c2
    refine j_bipush h dX12_at_19 (by decide) ?_
    refine j_goto (tgt := 36) h dX12_at_21 (by decide) ?_
    exact hr _ _ _ _ dX12_at_36 ⟨(congrArg iI (show ((-101) : Int) = (atR B p z) by unfold atR; (repeat (first | rw [if_pos (by omega)] | rw [if_neg (by omega)])))), rfl⟩
  · skip
    replace c2 := of_decide_eq_false c2
    refine j_iload_n h dX12_at_7 2 rfl rfl ?_
    refine j_i2l h dX12_at_8 (by omega) ?_
    refine j_lconst h dX12_at_9 ?_
    refine j_eq rfl rfl rfl rfl (stk' := [.long (lI 0), .long (lI z)]) rfl rfl ?_
    refine j_ldc2 (z := 19) h 19 dX12_at_10 (by decide +kernel) (List.mem_of_getElem? (i := 1) rfl) ?_
    refine j_callSi (As := [.long (lI z), .long (lI 0), .long (lI 19)]) (wr := [(g0, .inr (12, .ref (r 0) :: .ref (r 1) :: .ref (r 2) :: .int (iI x_taped) :: .int (iI x_at) :: .int (iI x_token) :: .int (iI x_from) :: .long (lI x_word) :: .int (iI x_value) :: .int (iI x_size) :: .int (iI x_fault) :: .int (iI x_faultAt) :: .ref (r 3) :: .ref (r 4) :: .ref (r 5) :: .ref (r 6) :: .ref (r 7) :: .ref (r 8) :: .ref (r 9) :: .int (iI x_steps) :: .int (iI x_counted) :: .ref (r 10) :: .int (iI x_opens) :: .ref (r 11) :: .ref (r 12) :: .int (iI x_queued) :: .ref (r 13) :: .ref (r 14) :: .int (iI x_theMask) :: .ref (r 15) :: .ref (r 16) :: .int (iI x_kept) :: .int (iI x_placed) :: .ref (r 17) :: .ref (r 18) :: .ref (r 19) :: .int (iI x_orderMany) :: .ref (r 20) :: .ref (r 21) :: .int (iI x_outs) :: [])), ((r 0), .inl (T 0, 2880, .inl (fun j : Nat => iI (B j))))]) (cells' := 0) (slots' := 0) h dX12_at_13 (ct_X12_in T z 0 19 (by first | assumption | omega) (by first | assumption | omega) (by first | assumption | omega)) k_X12_in gX12_at_X12_in ⟨Nat.le_of_ble_eq_true rfl, Nat.le_of_ble_eq_true rfl⟩ rfl rfl (Nat.le_of_ble_eq_true rfl) ⟨Nat.le_of_ble_eq_true rfl, Nat.le_of_ble_eq_true rfl⟩ rfl rfl [] [0, 1] rfl rfl rfl rfl (by decide) (fun r9 u9 p3 => ?_)
    obtain ⟨rfl, rfl⟩ := p3
    refine j_eq (ws' := [(g0, .inr (12, .ref (r 0) :: .ref (r 1) :: .ref (r 2) :: .int (iI x_taped) :: .int (iI x_at) :: .int (iI x_token) :: .int (iI x_from) :: .long (lI x_word) :: .int (iI x_value) :: .int (iI x_size) :: .int (iI x_fault) :: .int (iI x_faultAt) :: .ref (r 3) :: .ref (r 4) :: .ref (r 5) :: .ref (r 6) :: .ref (r 7) :: .ref (r 8) :: .ref (r 9) :: .int (iI x_steps) :: .int (iI x_counted) :: .ref (r 10) :: .int (iI x_opens) :: .ref (r 11) :: .ref (r 12) :: .int (iI x_queued) :: .ref (r 13) :: .ref (r 14) :: .int (iI x_theMask) :: .ref (r 15) :: .ref (r 16) :: .int (iI x_kept) :: .int (iI x_placed) :: .ref (r 17) :: .ref (r 18) :: .ref (r 19) :: .int (iI x_orderMany) :: .ref (r 20) :: .ref (r 21) :: .int (iI x_outs) :: [])), ((r 0), .inl (T 0, 2880, .inl (fun j : Nat => iI (B j))))]) rfl rfl rfl rfl rfl rfl ?_
    refine j_ifneB h 24 dX12_at_16 (by decide) (fun c4 => ?_) (fun c4 => ?_)
    · skip
      replace c4 := of_decide_eq_true c4
      refine j_aload_n h dX12_at_24 0 rfl rfl ?_
      refine j_get h dX12_at_25 f_X12_at_7 0 rfl rfl ?_
      refine j_sipush h dX12_at_28 (by decide) ?_
      refine j_iload_n h dX12_at_31 2 rfl rfl ?_
      refine j_imul h dX12_at_32 ?_
      refine j_iload_n h dX12_at_33 1 rfl rfl ?_
      refine j_iadd h dX12_at_34 ?_
      refine j_iald (f := B) h (144 * z + p) dX12_at_35 1 rfl (by decide) (by omega) (by omega) ?_
      have e5 := hB (144 * z + p)
      exact hr _ _ _ _ dX12_at_36 ⟨(congrArg iI (show ((B (144 * z + p)) : Int) = (atR B p z) by unfold atR; (repeat (first | rw [if_pos (by omega)] | rw [if_neg (by omega)])))), rfl⟩
    · skip
      replace c4 := of_decide_eq_false c4
      refine j_bipush h dX12_at_19 (by decide) ?_
      refine j_goto (tgt := 36) h dX12_at_21 (by decide) ?_
      exact hr _ _ _ _ dX12_at_36 ⟨(congrArg iI (show ((-101) : Int) = (atR B p z) by unfold atR; (repeat (first | rw [if_pos (by omega)] | rw [if_neg (by omega)])))), rfl⟩

abbrev rmX12_top : Room := { frames := 2, cells := 0, slots := 0, locals := 45 }
set_option maxHeartbeats 600000 in
set_option maxRecDepth 100000 in
/-- top -/
theorem ct_X12_top (T : Nat → ClassId) (g0 : Nat) (r : Nat → Nat) (x_taped : Int) (x_at : Int) (x_token : Int) (x_from : Int) (x_word : Int) (x_value : Int) (x_size : Int) (x_fault : Int) (x_faultAt : Int) (x_steps : Int) (x_counted : Int) (x_opens : Int) (x_queued : Int) (x_theMask : Int) (x_kept : Int) (x_placed : Int) (x_orderMany : Int) (x_outs : Int) (B : Int → Int) (p : Int) (hB : BOK B) (hp : -2147483648 ≤ p ∧ p ≤ 2147483647) : CtI T yX12_top wsX12_top rmX12_top 0 0 [.ref g0, .int (iI p)] [(g0, .inr (12, .ref (r 0) :: .ref (r 1) :: .ref (r 2) :: .int (iI x_taped) :: .int (iI x_at) :: .int (iI x_token) :: .int (iI x_from) :: .long (lI x_word) :: .int (iI x_value) :: .int (iI x_size) :: .int (iI x_fault) :: .int (iI x_faultAt) :: .ref (r 3) :: .ref (r 4) :: .ref (r 5) :: .ref (r 6) :: .ref (r 7) :: .ref (r 8) :: .ref (r 9) :: .int (iI x_steps) :: .int (iI x_counted) :: .ref (r 10) :: .int (iI x_opens) :: .ref (r 11) :: .ref (r 12) :: .int (iI x_queued) :: .ref (r 13) :: .ref (r 14) :: .int (iI x_theMask) :: .ref (r 15) :: .ref (r 16) :: .int (iI x_kept) :: .int (iI x_placed) :: .ref (r 17) :: .ref (r 18) :: .ref (r 19) :: .int (iI x_orderMany) :: .ref (r 20) :: .ref (r 21) :: .int (iI x_outs) :: [])), ((r 0), .inl (T 0, 2880, .inl (fun j : Nat => iI (B j))))] (fun r8 u => r8 = (iI (topR B p)) ∧ u = [(g0, .inr (12, .ref (r 0) :: .ref (r 1) :: .ref (r 2) :: .int (iI x_taped) :: .int (iI x_at) :: .int (iI x_token) :: .int (iI x_from) :: .long (lI x_word) :: .int (iI x_value) :: .int (iI x_size) :: .int (iI x_fault) :: .int (iI x_faultAt) :: .ref (r 3) :: .ref (r 4) :: .ref (r 5) :: .ref (r 6) :: .ref (r 7) :: .ref (r 8) :: .ref (r 9) :: .int (iI x_steps) :: .int (iI x_counted) :: .ref (r 10) :: .int (iI x_opens) :: .ref (r 11) :: .ref (r 12) :: .int (iI x_queued) :: .ref (r 13) :: .ref (r 14) :: .int (iI x_theMask) :: .ref (r 15) :: .ref (r 16) :: .int (iI x_kept) :: .int (iI x_placed) :: .ref (r 17) :: .ref (r 18) :: .ref (r 19) :: .int (iI x_orderMany) :: .ref (r 20) :: .ref (r 21) :: .int (iI x_outs) :: [])), ((r 0), .inl (T 0, 2880, .inl (fun j : Nat => iI (B j))))]) := by
  refine ctI_of (cc := cX12_top) (maxL := 2) (ret := (some .int)) (by decide +kernel) rfl rfl (fun r u hp => by obtain ⟨rfl, -⟩ := hp; rfl) (Nat.le_of_ble_eq_true rfl) (fun X h hinit hr => ?_)
  refine j_eq (lv' := [(0, .ref g0), (1, .int (iI p))]) rfl rfl rfl rfl rfl rfl ?_
  refine j_iload_n h dX12_top_0 1 rfl rfl ?_
  refine j_callSi (As := [.int (iI p)]) (wr := [(g0, .inr (12, .ref (r 0) :: .ref (r 1) :: .ref (r 2) :: .int (iI x_taped) :: .int (iI x_at) :: .int (iI x_token) :: .int (iI x_from) :: .long (lI x_word) :: .int (iI x_value) :: .int (iI x_size) :: .int (iI x_fault) :: .int (iI x_faultAt) :: .ref (r 3) :: .ref (r 4) :: .ref (r 5) :: .ref (r 6) :: .ref (r 7) :: .ref (r 8) :: .ref (r 9) :: .int (iI x_steps) :: .int (iI x_counted) :: .ref (r 10) :: .int (iI x_opens) :: .ref (r 11) :: .ref (r 12) :: .int (iI x_queued) :: .ref (r 13) :: .ref (r 14) :: .int (iI x_theMask) :: .ref (r 15) :: .ref (r 16) :: .int (iI x_kept) :: .int (iI x_placed) :: .ref (r 17) :: .ref (r 18) :: .ref (r 19) :: .int (iI x_orderMany) :: .ref (r 20) :: .ref (r 21) :: .int (iI x_outs) :: [])), ((r 0), .inl (T 0, 2880, .inl (fun j : Nat => iI (B j))))]) (cells' := 0) (slots' := 0) h dX12_top_1 (ct_X12_noPlace T p (by first | assumption | omega)) k_X12_noPlace gX12_top_X12_noPlace ⟨Nat.le_of_ble_eq_true rfl, Nat.le_of_ble_eq_true rfl⟩ rfl rfl (Nat.le_of_ble_eq_true rfl) ⟨Nat.le_of_ble_eq_true rfl, Nat.le_of_ble_eq_true rfl⟩ rfl rfl [] [0, 1] rfl rfl rfl rfl (by decide) (fun r9 u9 p1 => ?_)
  obtain ⟨rfl, rfl⟩ := p1
  refine j_eq (ws' := [(g0, .inr (12, .ref (r 0) :: .ref (r 1) :: .ref (r 2) :: .int (iI x_taped) :: .int (iI x_at) :: .int (iI x_token) :: .int (iI x_from) :: .long (lI x_word) :: .int (iI x_value) :: .int (iI x_size) :: .int (iI x_fault) :: .int (iI x_faultAt) :: .ref (r 3) :: .ref (r 4) :: .ref (r 5) :: .ref (r 6) :: .ref (r 7) :: .ref (r 8) :: .ref (r 9) :: .int (iI x_steps) :: .int (iI x_counted) :: .ref (r 10) :: .int (iI x_opens) :: .ref (r 11) :: .ref (r 12) :: .int (iI x_queued) :: .ref (r 13) :: .ref (r 14) :: .int (iI x_theMask) :: .ref (r 15) :: .ref (r 16) :: .int (iI x_kept) :: .int (iI x_placed) :: .ref (r 17) :: .ref (r 18) :: .ref (r 19) :: .int (iI x_orderMany) :: .ref (r 20) :: .ref (r 21) :: .int (iI x_outs) :: [])), ((r 0), .inl (T 0, 2880, .inl (fun j : Nat => iI (B j))))]) rfl rfl rfl rfl rfl rfl ?_
  refine j_ifeqB h 12 dX12_top_4 (by decide) (fun c2 => ?_) (fun c2 => ?_)
  · skip
    replace c2 := of_decide_eq_false c2
    refine j_aload_n h dX12_top_12 0 rfl rfl ?_
    refine j_iload_n h dX12_top_13 1 rfl rfl ?_
    refine j_callVi (As := [.int (iI p)]) (wr := []) (cells' := 0) (slots' := 0) h dX12_top_14 (ct_X12_topOf T g0 r x_taped x_at x_token x_from x_word x_value x_size x_fault x_faultAt x_steps x_counted x_opens x_queued x_theMask x_kept x_placed x_orderMany x_outs B p (by first | assumption | omega) (by first | assumption | omega)) k_X12_topOf gX12_top_X12_topOf rfl rfl 0 rfl ⟨Nat.le_of_ble_eq_true rfl, Nat.le_of_ble_eq_true rfl⟩ rfl rfl (Nat.le_of_ble_eq_true rfl) ⟨Nat.le_of_ble_eq_true rfl, Nat.le_of_ble_eq_true rfl⟩ rfl rfl [0, 1] [] rfl rfl rfl rfl (by decide) (fun r9 u9 p3 => ?_)
    obtain ⟨rfl, rfl⟩ := p3
    have hz9 := topS_rng B p
    refine j_eq (ws' := [(g0, .inr (12, .ref (r 0) :: .ref (r 1) :: .ref (r 2) :: .int (iI x_taped) :: .int (iI x_at) :: .int (iI x_token) :: .int (iI x_from) :: .long (lI x_word) :: .int (iI x_value) :: .int (iI x_size) :: .int (iI x_fault) :: .int (iI x_faultAt) :: .ref (r 3) :: .ref (r 4) :: .ref (r 5) :: .ref (r 6) :: .ref (r 7) :: .ref (r 8) :: .ref (r 9) :: .int (iI x_steps) :: .int (iI x_counted) :: .ref (r 10) :: .int (iI x_opens) :: .ref (r 11) :: .ref (r 12) :: .int (iI x_queued) :: .ref (r 13) :: .ref (r 14) :: .int (iI x_theMask) :: .ref (r 15) :: .ref (r 16) :: .int (iI x_kept) :: .int (iI x_placed) :: .ref (r 17) :: .ref (r 18) :: .ref (r 19) :: .int (iI x_orderMany) :: .ref (r 20) :: .ref (r 21) :: .int (iI x_outs) :: [])), ((r 0), .inl (T 0, 2880, .inl (fun j : Nat => iI (B j))))]) rfl rfl rfl rfl rfl rfl ?_
    exact hr _ _ _ _ dX12_top_17 ⟨(congrArg iI (show (topS B p : Int) = (topR B p) by unfold topR; (repeat (first | rw [if_pos (by omega)] | rw [if_neg (by omega)])))), rfl⟩
  · skip
    replace c2 := of_decide_eq_true c2
    refine j_bipush h dX12_top_7 (by decide) ?_
    refine j_goto (tgt := 17) h dX12_top_9 (by decide) ?_
    exact hr _ _ _ _ dX12_top_17 ⟨(congrArg iI (show ((-101) : Int) = (topR B p) by unfold topR; (repeat (first | rw [if_pos (by omega)] | rw [if_neg (by omega)])))), rfl⟩

abbrev rmX12_spanAt : Room := { frames := 1, cells := 0, slots := 0, locals := 22 }
theorem in_X12_spanAt_X12 : ∀ w ∈ u_ws RX12 TX12 40, w ∈ wsX12_spanAt := fun w hw => List.mem_cons_of_mem _ (List.mem_append_right _ (hw))
theorem f_X12_spanAt_7 : FlOK RX12 7 wsX12_spanAt 12 0 := ⟨_, _, _, rfl, by decide, in_X12_spanAt_X12, List.mem_of_getElem? (i := 1) rfl⟩
set_option maxHeartbeats 600000 in
set_option maxRecDepth 100000 in
/-- how many spans up to the top (b = 1); the low end of one, or -1 (b = 0) -/
theorem ct_X12_spanAt (T : Nat → ClassId) (g0 : Nat) (r : Nat → Nat) (x_taped : Int) (x_at : Int) (x_token : Int) (x_from : Int) (x_word : Int) (x_value : Int) (x_size : Int) (x_fault : Int) (x_faultAt : Int) (x_steps : Int) (x_counted : Int) (x_opens : Int) (x_queued : Int) (x_theMask : Int) (x_kept : Int) (x_placed : Int) (x_orderMany : Int) (x_outs : Int) (B : Int → Int) (p : Int) (i : Int) (b : Bool) (hB : BOK B) (hp : 0 ≤ p ∧ p < 144) (hi : -2147483648 ≤ i ∧ i ≤ 2147483647) : CtI T yX12_spanAt wsX12_spanAt rmX12_spanAt 0 0 [.ref g0, .int (iI p), .int (iI i), .int (iI (bI b))] [(g0, .inr (12, .ref (r 0) :: .ref (r 1) :: .ref (r 2) :: .int (iI x_taped) :: .int (iI x_at) :: .int (iI x_token) :: .int (iI x_from) :: .long (lI x_word) :: .int (iI x_value) :: .int (iI x_size) :: .int (iI x_fault) :: .int (iI x_faultAt) :: .ref (r 3) :: .ref (r 4) :: .ref (r 5) :: .ref (r 6) :: .ref (r 7) :: .ref (r 8) :: .ref (r 9) :: .int (iI x_steps) :: .int (iI x_counted) :: .ref (r 10) :: .int (iI x_opens) :: .ref (r 11) :: .ref (r 12) :: .int (iI x_queued) :: .ref (r 13) :: .ref (r 14) :: .int (iI x_theMask) :: .ref (r 15) :: .ref (r 16) :: .int (iI x_kept) :: .int (iI x_placed) :: .ref (r 17) :: .ref (r 18) :: .ref (r 19) :: .int (iI x_orderMany) :: .ref (r 20) :: .ref (r 21) :: .int (iI x_outs) :: [])), ((r 0), .inl (T 0, 2880, .inl (fun j : Nat => iI (B j))))] (fun r8 u => r8 = (iI (spV B p i b)) ∧ u = [(g0, .inr (12, .ref (r 0) :: .ref (r 1) :: .ref (r 2) :: .int (iI x_taped) :: .int (iI x_at) :: .int (iI x_token) :: .int (iI x_from) :: .long (lI x_word) :: .int (iI x_value) :: .int (iI x_size) :: .int (iI x_fault) :: .int (iI x_faultAt) :: .ref (r 3) :: .ref (r 4) :: .ref (r 5) :: .ref (r 6) :: .ref (r 7) :: .ref (r 8) :: .ref (r 9) :: .int (iI x_steps) :: .int (iI x_counted) :: .ref (r 10) :: .int (iI x_opens) :: .ref (r 11) :: .ref (r 12) :: .int (iI x_queued) :: .ref (r 13) :: .ref (r 14) :: .int (iI x_theMask) :: .ref (r 15) :: .ref (r 16) :: .int (iI x_kept) :: .int (iI x_placed) :: .ref (r 17) :: .ref (r 18) :: .ref (r 19) :: .int (iI x_orderMany) :: .ref (r 20) :: .ref (r 21) :: .int (iI x_outs) :: [])), ((r 0), .inl (T 0, 2880, .inl (fun j : Nat => iI (B j))))]) := by
  refine ctI_of (cc := cX12_spanAt) (maxL := 7) (ret := (some .int)) (by decide +kernel) rfl rfl (fun r u hp => by obtain ⟨rfl, -⟩ := hp; rfl) (Nat.le_of_ble_eq_true rfl) (fun X h hinit hr => ?_)
  refine j_eq (lv' := [(0, .ref g0), (1, .int (iI p)), (2, .int (iI i)), (3, .int (iI (bI b)))]) rfl rfl rfl rfl rfl rfl ?_
  refine j_aload_n h dX12_spanAt_0 0 rfl rfl ?_
  refine j_iload_n h dX12_spanAt_1 1 rfl rfl ?_
  refine j_callVi (As := [.int (iI p)]) (wr := []) (cells' := 0) (slots' := 0) h dX12_spanAt_2 (ct_X12_topOf T g0 r x_taped x_at x_token x_from x_word x_value x_size x_fault x_faultAt x_steps x_counted x_opens x_queued x_theMask x_kept x_placed x_orderMany x_outs B p (by first | assumption | omega) (by first | assumption | omega)) k_X12_topOf gX12_spanAt_X12_topOf rfl rfl 0 rfl ⟨Nat.le_of_ble_eq_true rfl, Nat.le_of_ble_eq_true rfl⟩ rfl rfl (Nat.le_of_ble_eq_true rfl) ⟨Nat.le_of_ble_eq_true rfl, Nat.le_of_ble_eq_true rfl⟩ rfl rfl [0, 1] [] rfl rfl rfl rfl (by decide) (fun r9 u9 p1 => ?_)
  obtain ⟨rfl, rfl⟩ := p1
  have hz9 := topS_rng B p
  refine j_eq (ws' := [(g0, .inr (12, .ref (r 0) :: .ref (r 1) :: .ref (r 2) :: .int (iI x_taped) :: .int (iI x_at) :: .int (iI x_token) :: .int (iI x_from) :: .long (lI x_word) :: .int (iI x_value) :: .int (iI x_size) :: .int (iI x_fault) :: .int (iI x_faultAt) :: .ref (r 3) :: .ref (r 4) :: .ref (r 5) :: .ref (r 6) :: .ref (r 7) :: .ref (r 8) :: .ref (r 9) :: .int (iI x_steps) :: .int (iI x_counted) :: .ref (r 10) :: .int (iI x_opens) :: .ref (r 11) :: .ref (r 12) :: .int (iI x_queued) :: .ref (r 13) :: .ref (r 14) :: .int (iI x_theMask) :: .ref (r 15) :: .ref (r 16) :: .int (iI x_kept) :: .int (iI x_placed) :: .ref (r 17) :: .ref (r 18) :: .ref (r 19) :: .int (iI x_orderMany) :: .ref (r 20) :: .ref (r 21) :: .int (iI x_outs) :: [])), ((r 0), .inl (T 0, 2880, .inl (fun j : Nat => iI (B j))))]) rfl rfl rfl rfl rfl rfl ?_
  refine j_istore (lv' := [(0, .ref g0), (1, .int (iI p)), (2, .int (iI i)), (3, .int (iI (bI b))), (4, .int (iI (topS B p)))]) h dX12_spanAt_5 [1, 2, 3, 4, 0] (by decide) rfl ?_
  refine j_iconst h dX12_spanAt_7 ?_
  refine j_istore (lv' := [(0, .ref g0), (1, .int (iI p)), (2, .int (iI i)), (3, .int (iI (bI b))), (4, .int (iI (topS B p))), (5, .int (iI 0))]) h dX12_spanAt_8 [1, 2, 3, 4, 5, 0] (by decide) rfl ?_
  refine j_iconst h dX12_spanAt_10 ?_
  refine j_istore (lv' := [(0, .ref g0), (1, .int (iI p)), (2, .int (iI i)), (3, .int (iI (bI b))), (4, .int (iI (topS B p))), (5, .int (iI 0)), (6, .int (iI 0))]) h dX12_spanAt_11 [1, 2, 3, 4, 5, 6, 0] (by decide) rfl ?_
  have lp13 : ∀ (n13 : Nat) (z : Int) (m : Int) (hz : 0 ≤ z ∧ z ≤ topS B p + 1) (hm : m = cntI (begS B p) z) (hf : b = false → fuI (spQ B p i) z (topS B p + 1) = lowS B p i), ((20 - z).toNat) < n13 → J X 0 0 13 [(0, .ref g0), (1, .int (iI p)), (2, .int (iI i)), (3, .int (iI (bI b))), (4, .int (iI (topS B p))), (5, .int (iI m)), (6, .int (iI z))] [] [(g0, .inr (12, .ref (r 0) :: .ref (r 1) :: .ref (r 2) :: .int (iI x_taped) :: .int (iI x_at) :: .int (iI x_token) :: .int (iI x_from) :: .long (lI x_word) :: .int (iI x_value) :: .int (iI x_size) :: .int (iI x_fault) :: .int (iI x_faultAt) :: .ref (r 3) :: .ref (r 4) :: .ref (r 5) :: .ref (r 6) :: .ref (r 7) :: .ref (r 8) :: .ref (r 9) :: .int (iI x_steps) :: .int (iI x_counted) :: .ref (r 10) :: .int (iI x_opens) :: .ref (r 11) :: .ref (r 12) :: .int (iI x_queued) :: .ref (r 13) :: .ref (r 14) :: .int (iI x_theMask) :: .ref (r 15) :: .ref (r 16) :: .int (iI x_kept) :: .int (iI x_placed) :: .ref (r 17) :: .ref (r 18) :: .ref (r 19) :: .int (iI x_orderMany) :: .ref (r 20) :: .ref (r 21) :: .int (iI x_outs) :: [])), ((r 0), .inl (T 0, 2880, .inl (fun j : Nat => iI (B j))))] := by
    intro n13
    induction n13 with
    | zero => exact fun z m hz hm hf hn13 => absurd hn13 (Nat.not_lt_zero _)
    | succ n13 ih13 =>
      intro z m hz hm hf hn13
      have hc9 := cntI_rng (begS B p) (k := z) (by omega)
      refine j_iload h dX12_spanAt_13 6 rfl ?_
      refine j_iload h dX12_spanAt_15 4 rfl ?_
      refine j_icmp_gt h 80 dX12_spanAt_17 (by decide) (by omega) (by omega) (fun c2 => ?_) (fun c2 => ?_)
      · skip
        refine j_iload_n h dX12_spanAt_80 3 rfl rfl ?_
        refine j_ifeqB h 89 dX12_spanAt_81 (by decide) (fun c3 => ?_) (fun c3 => ?_)
        · skip
          refine j_iconst h dX12_spanAt_89 ?_
          exact hr _ _ _ _ dX12_spanAt_90 ⟨(congrArg iI (show (-1 : Int) = spV B p i b by rw [c3]; show _ = lowS B p i; rw [← hf c3, fuI_e (by omega)])), rfl⟩
        · skip
          refine j_iload h dX12_spanAt_84 5 rfl ?_
          refine j_goto (tgt := 90) h dX12_spanAt_86 (by decide) ?_
          exact hr _ _ _ _ dX12_spanAt_90 ⟨(congrArg iI (show (m : Int) = spV B p i b by rw [c3]; show _ = spansS B p; rw [hm, show z = topS B p + 1 by omega]; rfl)), rfl⟩
      · skip
        refine j_iload h dX12_spanAt_20 6 rfl ?_
        refine j_if_eq h 58 dX12_spanAt_22 (by decide) (by omega) (fun c4 => ?_) (fun c4 => ?_)
        · skip
          refine j_iload_n h dX12_spanAt_58 3 rfl rfl ?_
          refine j_ifneB h 71 dX12_spanAt_59 (by decide) (fun c5 => ?_) (fun c5 => ?_)
          · skip
            refine j_iinc (lv' := [(0, .ref g0), (1, .int (iI p)), (2, .int (iI i)), (3, .int (iI (bI b))), (4, .int (iI (topS B p))), (5, .int (iI (m + 1))), (6, .int (iI z))]) h dX12_spanAt_71 5 [1, 2, 3, 4, 5, 0, 6] rfl (by decide) rfl ?_
            refine j_iinc (lv' := [(0, .ref g0), (1, .int (iI p)), (2, .int (iI i)), (3, .int (iI (bI b))), (4, .int (iI (topS B p))), (5, .int (iI (m + 1))), (6, .int (iI (z + 1)))]) h dX12_spanAt_74 6 [1, 2, 3, 4, 5, 6, 0] rfl (by decide) rfl ?_
            refine j_goto (tgt := 13) h dX12_spanAt_77 (by decide) ?_
            exact ih13 (z + 1) (m + 1) (by first | assumption | omega) (by rw [cntI_t (p := begS B p) (by omega) (begS_0 (by omega))]; omega) (by exact fun q => absurd (q.symm.trans c5) (by decide)) (by omega)
          · skip
            refine j_iload h dX12_spanAt_62 5 rfl ?_
            refine j_iload_n h dX12_spanAt_64 2 rfl rfl ?_
            refine j_icmp_ne h 71 dX12_spanAt_65 (by decide) (by omega) (by omega) (fun c6 => ?_) (fun c6 => ?_)
            · skip
              refine j_iinc (lv' := [(0, .ref g0), (1, .int (iI p)), (2, .int (iI i)), (3, .int (iI (bI b))), (4, .int (iI (topS B p))), (5, .int (iI (m + 1))), (6, .int (iI z))]) h dX12_spanAt_71 5 [1, 2, 3, 4, 5, 0, 6] rfl (by decide) rfl ?_
              refine j_iinc (lv' := [(0, .ref g0), (1, .int (iI p)), (2, .int (iI i)), (3, .int (iI (bI b))), (4, .int (iI (topS B p))), (5, .int (iI (m + 1))), (6, .int (iI (z + 1)))]) h dX12_spanAt_74 6 [1, 2, 3, 4, 5, 6, 0] rfl (by decide) rfl ?_
              refine j_goto (tgt := 13) h dX12_spanAt_77 (by decide) ?_
              exact ih13 (z + 1) (m + 1) (by first | assumption | omega) (by rw [cntI_t (p := begS B p) (by omega) (begS_0 (by omega))]; omega) (by exact fun q => (fuI_f (by omega) (spQ_n c6 hm)).symm.trans (hf q)) (by omega)
            · skip
              refine j_iload h dX12_spanAt_68 6 rfl ?_
              exact hr _ _ _ _ dX12_spanAt_70 ⟨(congrArg iI (show (z : Int) = spV B p i b by rw [c5]; show _ = lowS B p i; rw [← hf c5, fuI_t (by omega) (spQ_t (begS_0 (by omega)) c6 hm)])), rfl⟩
        · skip
          refine j_aload_n h dX12_spanAt_25 0 rfl rfl ?_
          refine j_get h dX12_spanAt_26 f_X12_spanAt_7 0 rfl rfl ?_
          refine j_sipush h dX12_spanAt_29 (by decide) ?_
          refine j_iload h dX12_spanAt_32 6 rfl ?_
          refine j_imul h dX12_spanAt_34 ?_
          refine j_iload_n h dX12_spanAt_35 1 rfl rfl ?_
          refine j_iadd h dX12_spanAt_36 ?_
          refine j_iald (f := B) h (144 * z + p) dX12_spanAt_37 1 rfl (by decide) (by omega) (by omega) ?_
          have e7 := hB (144 * z + p)
          refine j_aload_n h dX12_spanAt_38 0 rfl rfl ?_
          refine j_get h dX12_spanAt_39 f_X12_spanAt_7 0 rfl rfl ?_
          refine j_sipush h dX12_spanAt_42 (by decide) ?_
          refine j_iload h dX12_spanAt_45 6 rfl ?_
          refine j_imul h dX12_spanAt_47 ?_
          refine j_sipush h dX12_spanAt_48 (by decide) ?_
          refine j_isub h dX12_spanAt_51 ?_
          refine j_iload_n h dX12_spanAt_52 1 rfl rfl ?_
          refine j_iadd h dX12_spanAt_53 ?_
          refine j_iald (f := B) h (144 * z + p - 144) dX12_spanAt_54 1 rfl (by decide) (by omega) (by omega) ?_
          have e8 := hB (144 * z + p - 144)
          refine j_icmp_eq h 74 dX12_spanAt_55 (by decide) (by omega) (by omega) (fun c9 => ?_) (fun c9 => ?_)
          · skip
            refine j_iinc (lv' := [(0, .ref g0), (1, .int (iI p)), (2, .int (iI i)), (3, .int (iI (bI b))), (4, .int (iI (topS B p))), (5, .int (iI m)), (6, .int (iI (z + 1)))]) h dX12_spanAt_74 6 [1, 2, 3, 4, 5, 6, 0] rfl (by decide) rfl ?_
            refine j_goto (tgt := 13) h dX12_spanAt_77 (by decide) ?_
            exact ih13 (z + 1) m (by first | assumption | omega) (by rw [cntI_f (p := begS B p) (by omega) (begS_f c9 (by omega) (by omega) (by omega))]; omega) (by exact fun q => (fuI_f (by omega) (spQ_b (begS_f c9 (by omega) (by omega) (by omega)))).symm.trans (hf q)) (by omega)
          · skip
            refine j_iload_n h dX12_spanAt_58 3 rfl rfl ?_
            refine j_ifneB h 71 dX12_spanAt_59 (by decide) (fun c10 => ?_) (fun c10 => ?_)
            · skip
              refine j_iinc (lv' := [(0, .ref g0), (1, .int (iI p)), (2, .int (iI i)), (3, .int (iI (bI b))), (4, .int (iI (topS B p))), (5, .int (iI (m + 1))), (6, .int (iI z))]) h dX12_spanAt_71 5 [1, 2, 3, 4, 5, 0, 6] rfl (by decide) rfl ?_
              refine j_iinc (lv' := [(0, .ref g0), (1, .int (iI p)), (2, .int (iI i)), (3, .int (iI (bI b))), (4, .int (iI (topS B p))), (5, .int (iI (m + 1))), (6, .int (iI (z + 1)))]) h dX12_spanAt_74 6 [1, 2, 3, 4, 5, 6, 0] rfl (by decide) rfl ?_
              refine j_goto (tgt := 13) h dX12_spanAt_77 (by decide) ?_
              exact ih13 (z + 1) (m + 1) (by first | assumption | omega) (by rw [cntI_t (p := begS B p) (by omega) (begS_t c9 (by omega) (by omega))]; omega) (by exact fun q => absurd (q.symm.trans c10) (by decide)) (by omega)
            · skip
              refine j_iload h dX12_spanAt_62 5 rfl ?_
              refine j_iload_n h dX12_spanAt_64 2 rfl rfl ?_
              refine j_icmp_ne h 71 dX12_spanAt_65 (by decide) (by omega) (by omega) (fun c11 => ?_) (fun c11 => ?_)
              · skip
                refine j_iinc (lv' := [(0, .ref g0), (1, .int (iI p)), (2, .int (iI i)), (3, .int (iI (bI b))), (4, .int (iI (topS B p))), (5, .int (iI (m + 1))), (6, .int (iI z))]) h dX12_spanAt_71 5 [1, 2, 3, 4, 5, 0, 6] rfl (by decide) rfl ?_
                refine j_iinc (lv' := [(0, .ref g0), (1, .int (iI p)), (2, .int (iI i)), (3, .int (iI (bI b))), (4, .int (iI (topS B p))), (5, .int (iI (m + 1))), (6, .int (iI (z + 1)))]) h dX12_spanAt_74 6 [1, 2, 3, 4, 5, 6, 0] rfl (by decide) rfl ?_
                refine j_goto (tgt := 13) h dX12_spanAt_77 (by decide) ?_
                exact ih13 (z + 1) (m + 1) (by first | assumption | omega) (by rw [cntI_t (p := begS B p) (by omega) (begS_t c9 (by omega) (by omega))]; omega) (by exact fun q => (fuI_f (by omega) (spQ_n c11 hm)).symm.trans (hf q)) (by omega)
              · skip
                refine j_iload h dX12_spanAt_68 6 rfl ?_
                exact hr _ _ _ _ dX12_spanAt_70 ⟨(congrArg iI (show (z : Int) = spV B p i b by rw [c10]; show _ = lowS B p i; rw [← hf c10, fuI_t (by omega) (spQ_t (begS_t c9 (by omega) (by omega)) c11 hm)])), rfl⟩
  exact lp13 _ 0 0 (by first | assumption | omega) (by exact (cntI_0 _).symm) (by exact fun _ => rfl) (Nat.lt_succ_self _)

abbrev rmX12_highOf : Room := { frames := 1, cells := 0, slots := 0, locals := 22 }
theorem in_X12_highOf_X12 : ∀ w ∈ u_ws RX12 TX12 40, w ∈ wsX12_highOf := fun w hw => List.mem_cons_of_mem _ (List.mem_append_right _ (hw))
theorem f_X12_highOf_7 : FlOK RX12 7 wsX12_highOf 12 0 := ⟨_, _, _, rfl, by decide, in_X12_highOf_X12, List.mem_of_getElem? (i := 1) rfl⟩
set_option maxHeartbeats 600000 in
set_option maxRecDepth 100000 in
/-- how high a span is -/
theorem ct_X12_highOf (T : Nat → ClassId) (g0 : Nat) (r : Nat → Nat) (x_taped : Int) (x_at : Int) (x_token : Int) (x_from : Int) (x_word : Int) (x_value : Int) (x_size : Int) (x_fault : Int) (x_faultAt : Int) (x_steps : Int) (x_counted : Int) (x_opens : Int) (x_queued : Int) (x_theMask : Int) (x_kept : Int) (x_placed : Int) (x_orderMany : Int) (x_outs : Int) (B : Int → Int) (p : Int) (z : Int) (hB : BOK B) (hp : 0 ≤ p ∧ p < 144) (hz0 : 0 ≤ z ∧ z ≤ topS B p) : CtI T yX12_highOf wsX12_highOf rmX12_highOf 0 0 [.ref g0, .int (iI p), .int (iI z)] [(g0, .inr (12, .ref (r 0) :: .ref (r 1) :: .ref (r 2) :: .int (iI x_taped) :: .int (iI x_at) :: .int (iI x_token) :: .int (iI x_from) :: .long (lI x_word) :: .int (iI x_value) :: .int (iI x_size) :: .int (iI x_fault) :: .int (iI x_faultAt) :: .ref (r 3) :: .ref (r 4) :: .ref (r 5) :: .ref (r 6) :: .ref (r 7) :: .ref (r 8) :: .ref (r 9) :: .int (iI x_steps) :: .int (iI x_counted) :: .ref (r 10) :: .int (iI x_opens) :: .ref (r 11) :: .ref (r 12) :: .int (iI x_queued) :: .ref (r 13) :: .ref (r 14) :: .int (iI x_theMask) :: .ref (r 15) :: .ref (r 16) :: .int (iI x_kept) :: .int (iI x_placed) :: .ref (r 17) :: .ref (r 18) :: .ref (r 19) :: .int (iI x_orderMany) :: .ref (r 20) :: .ref (r 21) :: .int (iI x_outs) :: [])), ((r 0), .inl (T 0, 2880, .inl (fun j : Nat => iI (B j))))] (fun r8 u => r8 = (iI (endS B p z - z)) ∧ u = [(g0, .inr (12, .ref (r 0) :: .ref (r 1) :: .ref (r 2) :: .int (iI x_taped) :: .int (iI x_at) :: .int (iI x_token) :: .int (iI x_from) :: .long (lI x_word) :: .int (iI x_value) :: .int (iI x_size) :: .int (iI x_fault) :: .int (iI x_faultAt) :: .ref (r 3) :: .ref (r 4) :: .ref (r 5) :: .ref (r 6) :: .ref (r 7) :: .ref (r 8) :: .ref (r 9) :: .int (iI x_steps) :: .int (iI x_counted) :: .ref (r 10) :: .int (iI x_opens) :: .ref (r 11) :: .ref (r 12) :: .int (iI x_queued) :: .ref (r 13) :: .ref (r 14) :: .int (iI x_theMask) :: .ref (r 15) :: .ref (r 16) :: .int (iI x_kept) :: .int (iI x_placed) :: .ref (r 17) :: .ref (r 18) :: .ref (r 19) :: .int (iI x_orderMany) :: .ref (r 20) :: .ref (r 21) :: .int (iI x_outs) :: [])), ((r 0), .inl (T 0, 2880, .inl (fun j : Nat => iI (B j))))]) := by
  refine ctI_of (cc := cX12_highOf) (maxL := 5) (ret := (some .int)) (by decide +kernel) rfl rfl (fun r u hp => by obtain ⟨rfl, -⟩ := hp; rfl) (Nat.le_of_ble_eq_true rfl) (fun X h hinit hr => ?_)
  refine j_eq (lv' := [(0, .ref g0), (1, .int (iI p)), (2, .int (iI z))]) rfl rfl rfl rfl rfl rfl ?_
  refine j_aload_n h dX12_highOf_0 0 rfl rfl ?_
  refine j_iload_n h dX12_highOf_1 1 rfl rfl ?_
  refine j_callVi (As := [.int (iI p)]) (wr := []) (cells' := 0) (slots' := 0) h dX12_highOf_2 (ct_X12_topOf T g0 r x_taped x_at x_token x_from x_word x_value x_size x_fault x_faultAt x_steps x_counted x_opens x_queued x_theMask x_kept x_placed x_orderMany x_outs B p (by first | assumption | omega) (by first | assumption | omega)) k_X12_topOf gX12_highOf_X12_topOf rfl rfl 0 rfl ⟨Nat.le_of_ble_eq_true rfl, Nat.le_of_ble_eq_true rfl⟩ rfl rfl (Nat.le_of_ble_eq_true rfl) ⟨Nat.le_of_ble_eq_true rfl, Nat.le_of_ble_eq_true rfl⟩ rfl rfl [0, 1] [] rfl rfl rfl rfl (by decide) (fun r9 u9 p1 => ?_)
  obtain ⟨rfl, rfl⟩ := p1
  have hz9 := topS_rng B p
  refine j_eq (ws' := [(g0, .inr (12, .ref (r 0) :: .ref (r 1) :: .ref (r 2) :: .int (iI x_taped) :: .int (iI x_at) :: .int (iI x_token) :: .int (iI x_from) :: .long (lI x_word) :: .int (iI x_value) :: .int (iI x_size) :: .int (iI x_fault) :: .int (iI x_faultAt) :: .ref (r 3) :: .ref (r 4) :: .ref (r 5) :: .ref (r 6) :: .ref (r 7) :: .ref (r 8) :: .ref (r 9) :: .int (iI x_steps) :: .int (iI x_counted) :: .ref (r 10) :: .int (iI x_opens) :: .ref (r 11) :: .ref (r 12) :: .int (iI x_queued) :: .ref (r 13) :: .ref (r 14) :: .int (iI x_theMask) :: .ref (r 15) :: .ref (r 16) :: .int (iI x_kept) :: .int (iI x_placed) :: .ref (r 17) :: .ref (r 18) :: .ref (r 19) :: .int (iI x_orderMany) :: .ref (r 20) :: .ref (r 21) :: .int (iI x_outs) :: [])), ((r 0), .inl (T 0, 2880, .inl (fun j : Nat => iI (B j))))]) rfl rfl rfl rfl rfl rfl ?_
  refine j_istore_n (lv' := [(0, .ref g0), (1, .int (iI p)), (2, .int (iI z)), (3, .int (iI (topS B p)))]) h dX12_highOf_5 [1, 2, 3, 0] rfl (by decide) rfl ?_
  refine j_iload_n h dX12_highOf_6 2 rfl rfl ?_
  refine j_istore (lv' := [(0, .ref g0), (1, .int (iI p)), (2, .int (iI z)), (3, .int (iI (topS B p))), (4, .int (iI z))]) h dX12_highOf_7 [1, 2, 3, 4, 0] (by decide) rfl ?_
  have lp9 : ∀ (n9 : Nat) (n : Int) (hn : z ≤ n ∧ n ≤ topS B p + 1) (he : endI B p (B (144 * z + p)) n = endS B p z) (hl : z < n → B (144 * (n - 1) + p) = B (144 * z + p)), ((20 - n).toNat) < n9 → J X 0 0 9 [(0, .ref g0), (1, .int (iI p)), (2, .int (iI z)), (3, .int (iI (topS B p))), (4, .int (iI n))] [] [(g0, .inr (12, .ref (r 0) :: .ref (r 1) :: .ref (r 2) :: .int (iI x_taped) :: .int (iI x_at) :: .int (iI x_token) :: .int (iI x_from) :: .long (lI x_word) :: .int (iI x_value) :: .int (iI x_size) :: .int (iI x_fault) :: .int (iI x_faultAt) :: .ref (r 3) :: .ref (r 4) :: .ref (r 5) :: .ref (r 6) :: .ref (r 7) :: .ref (r 8) :: .ref (r 9) :: .int (iI x_steps) :: .int (iI x_counted) :: .ref (r 10) :: .int (iI x_opens) :: .ref (r 11) :: .ref (r 12) :: .int (iI x_queued) :: .ref (r 13) :: .ref (r 14) :: .int (iI x_theMask) :: .ref (r 15) :: .ref (r 16) :: .int (iI x_kept) :: .int (iI x_placed) :: .ref (r 17) :: .ref (r 18) :: .ref (r 19) :: .int (iI x_orderMany) :: .ref (r 20) :: .ref (r 21) :: .int (iI x_outs) :: [])), ((r 0), .inl (T 0, 2880, .inl (fun j : Nat => iI (B j))))] := by
    intro n9
    induction n9 with
    | zero => exact fun n hn he hl hn9 => absurd hn9 (Nat.not_lt_zero _)
    | succ n9 ih9 =>
      intro n hn he hl hn9
      refine j_iload h dX12_highOf_9 4 rfl ?_
      refine j_iload_n h dX12_highOf_11 3 rfl rfl ?_
      refine j_icmp_gt h 49 dX12_highOf_12 (by decide) (by omega) (by omega) (fun c2 => ?_) (fun c2 => ?_)
      · skip
        refine j_iload h dX12_highOf_49 4 rfl ?_
        refine j_iload_n h dX12_highOf_51 2 rfl rfl ?_
        refine j_isub h dX12_highOf_52 ?_
        exact hr _ _ _ _ dX12_highOf_53 ⟨(congrArg iI (show ((n - z) : Int) = (endS B p z - z) by rw [← he, endS_top hz0 (by omega) hl])), rfl⟩
      · skip
        refine j_aload_n h dX12_highOf_15 0 rfl rfl ?_
        refine j_get h dX12_highOf_16 f_X12_highOf_7 0 rfl rfl ?_
        refine j_sipush h dX12_highOf_19 (by decide) ?_
        refine j_iload h dX12_highOf_22 4 rfl ?_
        refine j_imul h dX12_highOf_24 ?_
        refine j_iload_n h dX12_highOf_25 1 rfl rfl ?_
        refine j_iadd h dX12_highOf_26 ?_
        refine j_iald (f := B) h (144 * n + p) dX12_highOf_27 1 rfl (by decide) (by omega) (by omega) ?_
        have e3 := hB (144 * n + p)
        refine j_aload_n h dX12_highOf_28 0 rfl rfl ?_
        refine j_get h dX12_highOf_29 f_X12_highOf_7 0 rfl rfl ?_
        refine j_sipush h dX12_highOf_32 (by decide) ?_
        refine j_iload_n h dX12_highOf_35 2 rfl rfl ?_
        refine j_imul h dX12_highOf_36 ?_
        refine j_iload_n h dX12_highOf_37 1 rfl rfl ?_
        refine j_iadd h dX12_highOf_38 ?_
        refine j_iald (f := B) h (144 * z + p) dX12_highOf_39 1 rfl (by decide) (by omega) (by omega) ?_
        have e4 := hB (144 * z + p)
        refine j_icmp_ne h 49 dX12_highOf_40 (by decide) (by omega) (by omega) (fun c5 => ?_) (fun c5 => ?_)
        · skip
          refine j_iload h dX12_highOf_49 4 rfl ?_
          refine j_iload_n h dX12_highOf_51 2 rfl rfl ?_
          refine j_isub h dX12_highOf_52 ?_
          exact hr _ _ _ _ dX12_highOf_53 ⟨(congrArg iI (show ((n - z) : Int) = (endS B p z - z) by rw [← he, endI_f (by omega) c5])), rfl⟩
        · skip
          refine j_iinc (lv' := [(0, .ref g0), (1, .int (iI p)), (2, .int (iI z)), (3, .int (iI (topS B p))), (4, .int (iI (n + 1)))]) h dX12_highOf_43 4 [1, 2, 3, 4, 0] rfl (by decide) rfl ?_
          refine j_goto (tgt := 9) h dX12_highOf_46 (by decide) ?_
          exact ih9 (n + 1) (by first | assumption | omega) (by rw [← endI_t (by omega) c5]; exact he) (by intro h; rw [show n + 1 - 1 = n by omega]; exact c5) (by omega)
  exact lp9 _ z (by first | assumption | omega) (by rw [endI_t (by omega) rfl]; rfl) (by intro h; omega) (Nat.lt_succ_self _)

abbrev rmX12_span : Room := { frames := 2, cells := 0, slots := 0, locals := 48 }
theorem k_X12_spanAt : CkOK yX12_spanAt wsX12_spanAt rmX12_spanAt 0 0 cX12_spanAt 7 (some .int) 3 := ⟨⟨_, rfl⟩, rfl, rfl, by decide +kernel⟩
theorem k_X12_highOf : CkOK yX12_highOf wsX12_highOf rmX12_highOf 0 0 cX12_highOf 5 (some .int) 2 := ⟨⟨_, rfl⟩, rfl, rfl, by decide +kernel⟩
theorem in_X12_span_X12 : ∀ w ∈ u_ws RX12 TX12 40, w ∈ wsX12_span := fun w hw => List.mem_cons_of_mem _ (List.mem_append_right _ (hw))
theorem f_X12_span_7 : FlOK RX12 7 wsX12_span 12 0 := ⟨_, _, _, rfl, by decide, in_X12_span_X12, List.mem_of_getElem? (i := 1) rfl⟩
set_option maxHeartbeats 600000 in
set_option maxRecDepth 100000 in
/-- span -/
theorem ct_X12_span (T : Nat → ClassId) (g0 : Nat) (r : Nat → Nat) (x_taped : Int) (x_at : Int) (x_token : Int) (x_from : Int) (x_word : Int) (x_value : Int) (x_size : Int) (x_fault : Int) (x_faultAt : Int) (x_steps : Int) (x_counted : Int) (x_opens : Int) (x_queued : Int) (x_theMask : Int) (x_kept : Int) (x_placed : Int) (x_orderMany : Int) (x_outs : Int) (B : Int → Int) (p : Int) (i : Int) (w : Int) (hB : BOK B) (hp : -2147483648 ≤ p ∧ p ≤ 2147483647) (hi : -2147483648 ≤ i ∧ i ≤ 2147483647) (hw : -2147483648 ≤ w ∧ w ≤ 2147483647) : CtI T yX12_span wsX12_span rmX12_span 0 0 [.ref g0, .int (iI p), .int (iI i), .int (iI w)] [(g0, .inr (12, .ref (r 0) :: .ref (r 1) :: .ref (r 2) :: .int (iI x_taped) :: .int (iI x_at) :: .int (iI x_token) :: .int (iI x_from) :: .long (lI x_word) :: .int (iI x_value) :: .int (iI x_size) :: .int (iI x_fault) :: .int (iI x_faultAt) :: .ref (r 3) :: .ref (r 4) :: .ref (r 5) :: .ref (r 6) :: .ref (r 7) :: .ref (r 8) :: .ref (r 9) :: .int (iI x_steps) :: .int (iI x_counted) :: .ref (r 10) :: .int (iI x_opens) :: .ref (r 11) :: .ref (r 12) :: .int (iI x_queued) :: .ref (r 13) :: .ref (r 14) :: .int (iI x_theMask) :: .ref (r 15) :: .ref (r 16) :: .int (iI x_kept) :: .int (iI x_placed) :: .ref (r 17) :: .ref (r 18) :: .ref (r 19) :: .int (iI x_orderMany) :: .ref (r 20) :: .ref (r 21) :: .int (iI x_outs) :: [])), ((r 0), .inl (T 0, 2880, .inl (fun j : Nat => iI (B j))))] (fun r8 u => r8 = (iI (spanR B p i w)) ∧ u = [(g0, .inr (12, .ref (r 0) :: .ref (r 1) :: .ref (r 2) :: .int (iI x_taped) :: .int (iI x_at) :: .int (iI x_token) :: .int (iI x_from) :: .long (lI x_word) :: .int (iI x_value) :: .int (iI x_size) :: .int (iI x_fault) :: .int (iI x_faultAt) :: .ref (r 3) :: .ref (r 4) :: .ref (r 5) :: .ref (r 6) :: .ref (r 7) :: .ref (r 8) :: .ref (r 9) :: .int (iI x_steps) :: .int (iI x_counted) :: .ref (r 10) :: .int (iI x_opens) :: .ref (r 11) :: .ref (r 12) :: .int (iI x_queued) :: .ref (r 13) :: .ref (r 14) :: .int (iI x_theMask) :: .ref (r 15) :: .ref (r 16) :: .int (iI x_kept) :: .int (iI x_placed) :: .ref (r 17) :: .ref (r 18) :: .ref (r 19) :: .int (iI x_orderMany) :: .ref (r 20) :: .ref (r 21) :: .int (iI x_outs) :: [])), ((r 0), .inl (T 0, 2880, .inl (fun j : Nat => iI (B j))))]) := by
  refine ctI_of (cc := cX12_span) (maxL := 5) (ret := (some .int)) (by decide +kernel) rfl rfl (fun r u hp => by obtain ⟨rfl, -⟩ := hp; rfl) (Nat.le_of_ble_eq_true rfl) (fun X h hinit hr => ?_)
  refine j_eq (lv' := [(0, .ref g0), (1, .int (iI p)), (2, .int (iI i)), (3, .int (iI w))]) rfl rfl rfl rfl rfl rfl ?_
  refine j_iload_n h dX12_span_0 1 rfl rfl ?_
  refine j_callSi (As := [.int (iI p)]) (wr := [(g0, .inr (12, .ref (r 0) :: .ref (r 1) :: .ref (r 2) :: .int (iI x_taped) :: .int (iI x_at) :: .int (iI x_token) :: .int (iI x_from) :: .long (lI x_word) :: .int (iI x_value) :: .int (iI x_size) :: .int (iI x_fault) :: .int (iI x_faultAt) :: .ref (r 3) :: .ref (r 4) :: .ref (r 5) :: .ref (r 6) :: .ref (r 7) :: .ref (r 8) :: .ref (r 9) :: .int (iI x_steps) :: .int (iI x_counted) :: .ref (r 10) :: .int (iI x_opens) :: .ref (r 11) :: .ref (r 12) :: .int (iI x_queued) :: .ref (r 13) :: .ref (r 14) :: .int (iI x_theMask) :: .ref (r 15) :: .ref (r 16) :: .int (iI x_kept) :: .int (iI x_placed) :: .ref (r 17) :: .ref (r 18) :: .ref (r 19) :: .int (iI x_orderMany) :: .ref (r 20) :: .ref (r 21) :: .int (iI x_outs) :: [])), ((r 0), .inl (T 0, 2880, .inl (fun j : Nat => iI (B j))))]) (cells' := 0) (slots' := 0) h dX12_span_1 (ct_X12_noPlace T p (by first | assumption | omega)) k_X12_noPlace gX12_span_X12_noPlace ⟨Nat.le_of_ble_eq_true rfl, Nat.le_of_ble_eq_true rfl⟩ rfl rfl (Nat.le_of_ble_eq_true rfl) ⟨Nat.le_of_ble_eq_true rfl, Nat.le_of_ble_eq_true rfl⟩ rfl rfl [] [0, 1] rfl rfl rfl rfl (by decide) (fun r9 u9 p1 => ?_)
  obtain ⟨rfl, rfl⟩ := p1
  refine j_eq (ws' := [(g0, .inr (12, .ref (r 0) :: .ref (r 1) :: .ref (r 2) :: .int (iI x_taped) :: .int (iI x_at) :: .int (iI x_token) :: .int (iI x_from) :: .long (lI x_word) :: .int (iI x_value) :: .int (iI x_size) :: .int (iI x_fault) :: .int (iI x_faultAt) :: .ref (r 3) :: .ref (r 4) :: .ref (r 5) :: .ref (r 6) :: .ref (r 7) :: .ref (r 8) :: .ref (r 9) :: .int (iI x_steps) :: .int (iI x_counted) :: .ref (r 10) :: .int (iI x_opens) :: .ref (r 11) :: .ref (r 12) :: .int (iI x_queued) :: .ref (r 13) :: .ref (r 14) :: .int (iI x_theMask) :: .ref (r 15) :: .ref (r 16) :: .int (iI x_kept) :: .int (iI x_placed) :: .ref (r 17) :: .ref (r 18) :: .ref (r 19) :: .int (iI x_orderMany) :: .ref (r 20) :: .ref (r 21) :: .int (iI x_outs) :: [])), ((r 0), .inl (T 0, 2880, .inl (fun j : Nat => iI (B j))))]) rfl rfl rfl rfl rfl rfl ?_
  refine j_ifeqB h 10 dX12_span_4 (by decide) (fun c2 => ?_) (fun c2 => ?_)
  · skip
    replace c2 := of_decide_eq_false c2
    refine j_iload_n h dX12_span_10 2 rfl rfl ?_
    refine j_iconst h dX12_span_11 ?_
    refine j_icmp_ne h 23 dX12_span_12 (by decide) (by omega) (by omega) (fun c3 => ?_) (fun c3 => ?_)
    · skip
      refine j_iload_n h dX12_span_23 2 rfl rfl ?_
      refine j_if_ge h 31 dX12_span_24 (by decide) (by omega) (fun c4 => ?_) (fun c4 => ?_)
      · skip
        refine j_aload_n h dX12_span_31 0 rfl rfl ?_
        refine j_iload_n h dX12_span_32 1 rfl rfl ?_
        refine j_iload_n h dX12_span_33 2 rfl rfl ?_
        refine j_iconst h dX12_span_34 ?_
        refine j_callVi (As := [.int (iI p), .int (iI i), .int (iI (bI false))]) (wr := []) (cells' := 0) (slots' := 0) h dX12_span_35 (ct_X12_spanAt T g0 r x_taped x_at x_token x_from x_word x_value x_size x_fault x_faultAt x_steps x_counted x_opens x_queued x_theMask x_kept x_placed x_orderMany x_outs B p i false (by first | assumption | omega) (by first | assumption | omega) (by first | assumption | omega)) k_X12_spanAt gX12_span_X12_spanAt rfl rfl 0 rfl ⟨Nat.le_of_ble_eq_true rfl, Nat.le_of_ble_eq_true rfl⟩ rfl rfl (Nat.le_of_ble_eq_true rfl) ⟨Nat.le_of_ble_eq_true rfl, Nat.le_of_ble_eq_true rfl⟩ rfl rfl [0, 1] [] rfl rfl rfl rfl (by decide) (fun r9 u9 p5 => ?_)
        obtain ⟨rfl, rfl⟩ := p5
        have hv9 := spV_rng B p i false
        refine j_eq (ws' := [(g0, .inr (12, .ref (r 0) :: .ref (r 1) :: .ref (r 2) :: .int (iI x_taped) :: .int (iI x_at) :: .int (iI x_token) :: .int (iI x_from) :: .long (lI x_word) :: .int (iI x_value) :: .int (iI x_size) :: .int (iI x_fault) :: .int (iI x_faultAt) :: .ref (r 3) :: .ref (r 4) :: .ref (r 5) :: .ref (r 6) :: .ref (r 7) :: .ref (r 8) :: .ref (r 9) :: .int (iI x_steps) :: .int (iI x_counted) :: .ref (r 10) :: .int (iI x_opens) :: .ref (r 11) :: .ref (r 12) :: .int (iI x_queued) :: .ref (r 13) :: .ref (r 14) :: .int (iI x_theMask) :: .ref (r 15) :: .ref (r 16) :: .int (iI x_kept) :: .int (iI x_placed) :: .ref (r 17) :: .ref (r 18) :: .ref (r 19) :: .int (iI x_orderMany) :: .ref (r 20) :: .ref (r 21) :: .int (iI x_outs) :: [])), ((r 0), .inl (T 0, 2880, .inl (fun j : Nat => iI (B j))))]) rfl rfl rfl rfl rfl rfl ?_
        rw [show spV B p i false = (lowS B p i) by first | rfl | exact spV_0]
        have hw9 := lowS_rng B p i; have hx9 := lowS_top B p i
        refine j_istore (lv' := [(0, .ref g0), (1, .int (iI p)), (2, .int (iI i)), (3, .int (iI w)), (4, .int (iI (lowS B p i)))]) h dX12_span_38 [1, 2, 3, 4, 0] (by decide) rfl ?_
        refine j_iload h dX12_span_40 4 rfl ?_
        refine j_if_ge h 48 dX12_span_42 (by decide) (by omega) (fun c6 => ?_) (fun c6 => ?_)
        · skip
          refine j_iload_n h dX12_span_48 3 rfl rfl ?_
          refine j_if_ne h 68 dX12_span_49 (by decide) (by omega) (fun c7 => ?_) (fun c7 => ?_)
          · skip
            refine j_iload_n h dX12_span_68 3 rfl rfl ?_
            refine j_iconst h dX12_span_69 ?_
            refine j_icmp_ne h 83 dX12_span_70 (by decide) (by omega) (by omega) (fun c8 => ?_) (fun c8 => ?_)
            · skip
              refine j_iload_n h dX12_span_83 3 rfl rfl ?_
              refine j_iconst h dX12_span_84 ?_
              refine j_icmp_ne h 93 dX12_span_85 (by decide) (by omega) (by omega) (fun c9 => ?_) (fun c9 => ?_)
              · skip
                refine j_bipush h dX12_span_93 (by decide) ?_
                exact hr _ _ _ _ dX12_span_95 ⟨(congrArg iI (show ((-102) : Int) = (spanR B p i w) by unfold spanR; (repeat (first | rw [if_pos (by omega)] | rw [if_neg (by omega)])))), rfl⟩
              · skip
                refine j_iload h dX12_span_88 4 rfl ?_
                refine j_goto (tgt := 95) h dX12_span_90 (by decide) ?_
                exact hr _ _ _ _ dX12_span_95 ⟨(congrArg iI (show ((lowS B p i) : Int) = (spanR B p i w) by unfold spanR; (repeat (first | rw [if_pos (by omega)] | rw [if_neg (by omega)])))), rfl⟩
            · skip
              refine j_aload_n h dX12_span_73 0 rfl rfl ?_
              refine j_iload_n h dX12_span_74 1 rfl rfl ?_
              refine j_iload h dX12_span_75 4 rfl ?_
              refine j_callVi (As := [.int (iI p), .int (iI (lowS B p i))]) (wr := []) (cells' := 0) (slots' := 0) h dX12_span_77 (ct_X12_highOf T g0 r x_taped x_at x_token x_from x_word x_value x_size x_fault x_faultAt x_steps x_counted x_opens x_queued x_theMask x_kept x_placed x_orderMany x_outs B p (lowS B p i) (by first | assumption | omega) (by first | assumption | omega) (by first | assumption | omega)) k_X12_highOf gX12_span_X12_highOf rfl rfl 0 rfl ⟨Nat.le_of_ble_eq_true rfl, Nat.le_of_ble_eq_true rfl⟩ rfl rfl (Nat.le_of_ble_eq_true rfl) ⟨Nat.le_of_ble_eq_true rfl, Nat.le_of_ble_eq_true rfl⟩ rfl rfl [0, 1] [] rfl rfl rfl rfl (by decide) (fun r9 u9 p10 => ?_)
              obtain ⟨rfl, rfl⟩ := p10
              have he9 := @endS_rng B p (lowS B p i) (by have := topS_rng B p; omega)
              refine j_eq (ws' := [(g0, .inr (12, .ref (r 0) :: .ref (r 1) :: .ref (r 2) :: .int (iI x_taped) :: .int (iI x_at) :: .int (iI x_token) :: .int (iI x_from) :: .long (lI x_word) :: .int (iI x_value) :: .int (iI x_size) :: .int (iI x_fault) :: .int (iI x_faultAt) :: .ref (r 3) :: .ref (r 4) :: .ref (r 5) :: .ref (r 6) :: .ref (r 7) :: .ref (r 8) :: .ref (r 9) :: .int (iI x_steps) :: .int (iI x_counted) :: .ref (r 10) :: .int (iI x_opens) :: .ref (r 11) :: .ref (r 12) :: .int (iI x_queued) :: .ref (r 13) :: .ref (r 14) :: .int (iI x_theMask) :: .ref (r 15) :: .ref (r 16) :: .int (iI x_kept) :: .int (iI x_placed) :: .ref (r 17) :: .ref (r 18) :: .ref (r 19) :: .int (iI x_orderMany) :: .ref (r 20) :: .ref (r 21) :: .int (iI x_outs) :: [])), ((r 0), .inl (T 0, 2880, .inl (fun j : Nat => iI (B j))))]) rfl rfl rfl rfl rfl rfl ?_
              refine j_goto (tgt := 95) h dX12_span_80 (by decide) ?_
              exact hr _ _ _ _ dX12_span_95 ⟨(congrArg iI (show ((endS B p (lowS B p i) - (lowS B p i)) : Int) = (spanR B p i w) by unfold spanR; (repeat (first | rw [if_pos (by omega)] | rw [if_neg (by omega)])))), rfl⟩
          · skip
            refine j_aload_n h dX12_span_52 0 rfl rfl ?_
            refine j_get h dX12_span_53 f_X12_span_7 0 rfl rfl ?_
            refine j_sipush h dX12_span_56 (by decide) ?_
            refine j_iload h dX12_span_59 4 rfl ?_
            refine j_imul h dX12_span_61 ?_
            refine j_iload_n h dX12_span_62 1 rfl rfl ?_
            refine j_iadd h dX12_span_63 ?_
            refine j_iald (f := B) h (144 * (lowS B p i) + p) dX12_span_64 1 rfl (by decide) (by omega) (by omega) ?_
            have e11 := hB (144 * (lowS B p i) + p)
            refine j_goto (tgt := 95) h dX12_span_65 (by decide) ?_
            exact hr _ _ _ _ dX12_span_95 ⟨(congrArg iI (show ((B (144 * (lowS B p i) + p)) : Int) = (spanR B p i w) by unfold spanR; (repeat (first | rw [if_pos (by omega)] | rw [if_neg (by omega)])))), rfl⟩
        · skip
          refine j_bipush h dX12_span_45 (by decide) ?_
          exact hr _ _ _ _ dX12_span_47 ⟨(congrArg iI (show ((-101) : Int) = (spanR B p i w) by unfold spanR; (repeat (first | rw [if_pos (by omega)] | rw [if_neg (by omega)])))), rfl⟩
      · skip
        have hn9 := lowS_neg (B := B) (p := p) (i := i) (by omega)
        refine j_iconst h dX12_span_27 ?_
        refine j_goto (tgt := 38) h dX12_span_28 (by decide) ?_
        refine j_istore (lv' := [(0, .ref g0), (1, .int (iI p)), (2, .int (iI i)), (3, .int (iI w)), (4, .int (iI (-1)))]) h dX12_span_38 [1, 2, 3, 4, 0] (by decide) rfl ?_
        refine j_iload h dX12_span_40 4 rfl ?_
        refine j_if_ge h 48 dX12_span_42 (by decide) (by omega) (fun c12 => ?_) (fun c12 => ?_)
        · skip
          exact absurd c12 (by decide)
        · skip
          refine j_bipush h dX12_span_45 (by decide) ?_
          exact hr _ _ _ _ dX12_span_47 ⟨(congrArg iI (show ((-101) : Int) = (spanR B p i w) by unfold spanR; (repeat (first | rw [if_pos (by omega)] | rw [if_neg (by omega)])))), rfl⟩
    · skip
      refine j_aload_n h dX12_span_15 0 rfl rfl ?_
      refine j_iload_n h dX12_span_16 1 rfl rfl ?_
      refine j_iconst h dX12_span_17 ?_
      refine j_iconst h dX12_span_18 ?_
      refine j_callVi (As := [.int (iI p), .int (iI 0), .int (iI (bI true))]) (wr := []) (cells' := 0) (slots' := 0) h dX12_span_19 (ct_X12_spanAt T g0 r x_taped x_at x_token x_from x_word x_value x_size x_fault x_faultAt x_steps x_counted x_opens x_queued x_theMask x_kept x_placed x_orderMany x_outs B p 0 true (by first | assumption | omega) (by first | assumption | omega) (by first | assumption | omega)) k_X12_spanAt gX12_span_X12_spanAt rfl rfl 0 rfl ⟨Nat.le_of_ble_eq_true rfl, Nat.le_of_ble_eq_true rfl⟩ rfl rfl (Nat.le_of_ble_eq_true rfl) ⟨Nat.le_of_ble_eq_true rfl, Nat.le_of_ble_eq_true rfl⟩ rfl rfl [0, 1] [] rfl rfl rfl rfl (by decide) (fun r9 u9 p13 => ?_)
      obtain ⟨rfl, rfl⟩ := p13
      have hv9 := spV_rng B p 0 true
      refine j_eq (ws' := [(g0, .inr (12, .ref (r 0) :: .ref (r 1) :: .ref (r 2) :: .int (iI x_taped) :: .int (iI x_at) :: .int (iI x_token) :: .int (iI x_from) :: .long (lI x_word) :: .int (iI x_value) :: .int (iI x_size) :: .int (iI x_fault) :: .int (iI x_faultAt) :: .ref (r 3) :: .ref (r 4) :: .ref (r 5) :: .ref (r 6) :: .ref (r 7) :: .ref (r 8) :: .ref (r 9) :: .int (iI x_steps) :: .int (iI x_counted) :: .ref (r 10) :: .int (iI x_opens) :: .ref (r 11) :: .ref (r 12) :: .int (iI x_queued) :: .ref (r 13) :: .ref (r 14) :: .int (iI x_theMask) :: .ref (r 15) :: .ref (r 16) :: .int (iI x_kept) :: .int (iI x_placed) :: .ref (r 17) :: .ref (r 18) :: .ref (r 19) :: .int (iI x_orderMany) :: .ref (r 20) :: .ref (r 21) :: .int (iI x_outs) :: [])), ((r 0), .inl (T 0, 2880, .inl (fun j : Nat => iI (B j))))]) rfl rfl rfl rfl rfl rfl ?_
      rw [show spV B p 0 true = (spansS B p) by first | rfl | exact spV_1]
      exact hr _ _ _ _ dX12_span_22 ⟨(congrArg iI (show ((spansS B p) : Int) = (spanR B p i w) by unfold spanR; (repeat (first | rw [if_pos (by omega)] | rw [if_neg (by omega)])))), rfl⟩
  · skip
    replace c2 := of_decide_eq_true c2
    refine j_bipush h dX12_span_7 (by decide) ?_
    exact hr _ _ _ _ dX12_span_9 ⟨(congrArg iI (show ((-101) : Int) = (spanR B p i w) by unfold spanR; (repeat (first | rw [if_pos (by omega)] | rw [if_neg (by omega)])))), rfl⟩

abbrev rmX12_thin : Room := { frames := 2, cells := 0, slots := 0, locals := 48 }
theorem in_X12_thin_X12 : ∀ w ∈ u_ws RX12 TX12 40, w ∈ wsX12_thin := fun w hw => List.mem_cons_of_mem _ (List.mem_append_right _ (hw))
theorem f_X12_thin_7 : FlOK RX12 7 wsX12_thin 12 0 := ⟨_, _, _, rfl, by decide, in_X12_thin_X12, List.mem_of_getElem? (i := 3) rfl⟩
set_option maxHeartbeats 600000 in
set_option maxRecDepth 100000 in
/-- thin -/
theorem ct_X12_thin (T : Nat → ClassId) (g0 : Nat) (r : Nat → Nat) (x_taped : Int) (x_at : Int) (x_token : Int) (x_from : Int) (x_word : Int) (x_value : Int) (x_size : Int) (x_fault : Int) (x_faultAt : Int) (x_steps : Int) (x_counted : Int) (x_opens : Int) (x_queued : Int) (x_theMask : Int) (x_kept : Int) (x_placed : Int) (x_orderMany : Int) (x_outs : Int) (B : Int → Int) (s : Int) (n : Int) (hB : BOK B) (hs : -2147483648 ≤ s ∧ s ≤ 2147483647) (hn : -2147483648 ≤ n ∧ n ≤ 2147483647) : CtI T yX12_thin wsX12_thin rmX12_thin 0 0 [.ref g0, .int (iI s), .int (iI n)] [(g0, .inr (12, .ref (r 0) :: .ref (r 1) :: .ref (r 2) :: .int (iI x_taped) :: .int (iI x_at) :: .int (iI x_token) :: .int (iI x_from) :: .long (lI x_word) :: .int (iI x_value) :: .int (iI x_size) :: .int (iI x_fault) :: .int (iI x_faultAt) :: .ref (r 3) :: .ref (r 4) :: .ref (r 5) :: .ref (r 6) :: .ref (r 7) :: .ref (r 8) :: .ref (r 9) :: .int (iI x_steps) :: .int (iI x_counted) :: .ref (r 10) :: .int (iI x_opens) :: .ref (r 11) :: .ref (r 12) :: .int (iI x_queued) :: .ref (r 13) :: .ref (r 14) :: .int (iI x_theMask) :: .ref (r 15) :: .ref (r 16) :: .int (iI x_kept) :: .int (iI x_placed) :: .ref (r 17) :: .ref (r 18) :: .ref (r 19) :: .int (iI x_orderMany) :: .ref (r 20) :: .ref (r 21) :: .int (iI x_outs) :: [])), ((r 0), .inl (T 0, 2880, .inl (fun j : Nat => iI (B j))))] (fun r8 u => r8 = (iI (thinR B s n)) ∧ u = [(g0, .inr (12, .ref (r 0) :: .ref (r 1) :: .ref (r 2) :: .int (iI x_taped) :: .int (iI x_at) :: .int (iI x_token) :: .int (iI x_from) :: .long (lI x_word) :: .int (iI x_value) :: .int (iI x_size) :: .int (iI x_fault) :: .int (iI x_faultAt) :: .ref (r 3) :: .ref (r 4) :: .ref (r 5) :: .ref (r 6) :: .ref (r 7) :: .ref (r 8) :: .ref (r 9) :: .int (iI x_steps) :: .int (iI x_counted) :: .ref (r 10) :: .int (iI x_opens) :: .ref (r 11) :: .ref (r 12) :: .int (iI x_queued) :: .ref (r 13) :: .ref (r 14) :: .int (iI x_theMask) :: .ref (r 15) :: .ref (r 16) :: .int (iI x_kept) :: .int (iI x_placed) :: .ref (r 17) :: .ref (r 18) :: .ref (r 19) :: .int (iI x_orderMany) :: .ref (r 20) :: .ref (r 21) :: .int (iI x_outs) :: [])), ((r 0), .inl (T 0, 2880, .inl (fun j : Nat => iI (B j))))]) := by
  refine ctI_of (cc := cX12_thin) (maxL := 7) (ret := (some .int)) (by decide +kernel) rfl rfl (fun r u hp => by obtain ⟨rfl, -⟩ := hp; rfl) (Nat.le_of_ble_eq_true rfl) (fun X h hinit hr => ?_)
  refine j_eq (lv' := [(0, .ref g0), (1, .int (iI s)), (2, .int (iI n))]) rfl rfl rfl rfl rfl rfl ?_
  refine j_iload_n h dX12_thin_0 1 rfl rfl ?_
  refine j_i2l h dX12_thin_1 (by omega) ?_
  refine j_lconst h dX12_thin_2 ?_
  refine j_eq rfl rfl rfl rfl (stk' := [.long (lI 1), .long (lI s)]) rfl rfl ?_
  refine j_ldc2 (z := 7) h 7 dX12_thin_3 (by decide +kernel) (List.mem_of_getElem? (i := 1) rfl) ?_
  refine j_callSi (As := [.long (lI s), .long (lI 1), .long (lI 7)]) (wr := [(g0, .inr (12, .ref (r 0) :: .ref (r 1) :: .ref (r 2) :: .int (iI x_taped) :: .int (iI x_at) :: .int (iI x_token) :: .int (iI x_from) :: .long (lI x_word) :: .int (iI x_value) :: .int (iI x_size) :: .int (iI x_fault) :: .int (iI x_faultAt) :: .ref (r 3) :: .ref (r 4) :: .ref (r 5) :: .ref (r 6) :: .ref (r 7) :: .ref (r 8) :: .ref (r 9) :: .int (iI x_steps) :: .int (iI x_counted) :: .ref (r 10) :: .int (iI x_opens) :: .ref (r 11) :: .ref (r 12) :: .int (iI x_queued) :: .ref (r 13) :: .ref (r 14) :: .int (iI x_theMask) :: .ref (r 15) :: .ref (r 16) :: .int (iI x_kept) :: .int (iI x_placed) :: .ref (r 17) :: .ref (r 18) :: .ref (r 19) :: .int (iI x_orderMany) :: .ref (r 20) :: .ref (r 21) :: .int (iI x_outs) :: [])), ((r 0), .inl (T 0, 2880, .inl (fun j : Nat => iI (B j))))]) (cells' := 0) (slots' := 0) h dX12_thin_6 (ct_X12_in T s 1 7 (by first | assumption | omega) (by first | assumption | omega) (by first | assumption | omega)) k_X12_in gX12_thin_X12_in ⟨Nat.le_of_ble_eq_true rfl, Nat.le_of_ble_eq_true rfl⟩ rfl rfl (Nat.le_of_ble_eq_true rfl) ⟨Nat.le_of_ble_eq_true rfl, Nat.le_of_ble_eq_true rfl⟩ rfl rfl [] [0, 1] rfl rfl rfl rfl (by decide) (fun r9 u9 p1 => ?_)
  obtain ⟨rfl, rfl⟩ := p1
  refine j_eq (ws' := [(g0, .inr (12, .ref (r 0) :: .ref (r 1) :: .ref (r 2) :: .int (iI x_taped) :: .int (iI x_at) :: .int (iI x_token) :: .int (iI x_from) :: .long (lI x_word) :: .int (iI x_value) :: .int (iI x_size) :: .int (iI x_fault) :: .int (iI x_faultAt) :: .ref (r 3) :: .ref (r 4) :: .ref (r 5) :: .ref (r 6) :: .ref (r 7) :: .ref (r 8) :: .ref (r 9) :: .int (iI x_steps) :: .int (iI x_counted) :: .ref (r 10) :: .int (iI x_opens) :: .ref (r 11) :: .ref (r 12) :: .int (iI x_queued) :: .ref (r 13) :: .ref (r 14) :: .int (iI x_theMask) :: .ref (r 15) :: .ref (r 16) :: .int (iI x_kept) :: .int (iI x_placed) :: .ref (r 17) :: .ref (r 18) :: .ref (r 19) :: .int (iI x_orderMany) :: .ref (r 20) :: .ref (r 21) :: .int (iI x_outs) :: [])), ((r 0), .inl (T 0, 2880, .inl (fun j : Nat => iI (B j))))]) rfl rfl rfl rfl rfl rfl ?_
  refine j_ifeqB h 24 dX12_thin_9 (by decide) (fun c2 => ?_) (fun c2 => ?_)
  · skip
    replace c2 := of_decide_eq_false c2
    refine j_bipush h dX12_thin_24 (by decide) ?_
    exact hr _ _ _ _ dX12_thin_26 ⟨(congrArg iI (show ((-102) : Int) = (thinR B s n) by unfold thinR; (repeat (first | rw [if_pos (by omega)] | rw [if_neg (by omega)])) <;> (try (rw [← hf]; first | rw [fuI_e (by omega)] | rw [fuI_t (P := (fun p => thinS B p s n)) (by omega) (thinS_t (j := i) (by omega) NOCOND (by omega))])))), rfl⟩
  · skip
    replace c2 := of_decide_eq_true c2
    refine j_iload_n h dX12_thin_12 2 rfl rfl ?_
    refine j_i2l h dX12_thin_13 (by omega) ?_
    refine j_lconst h dX12_thin_14 ?_
    refine j_eq rfl rfl rfl rfl (stk' := [.long (lI 1), .long (lI n)]) rfl rfl ?_
    refine j_ldc2 (z := 20) h 20 dX12_thin_15 (by decide +kernel) (List.mem_of_getElem? (i := 2) rfl) ?_
    refine j_callSi (As := [.long (lI n), .long (lI 1), .long (lI 20)]) (wr := [(g0, .inr (12, .ref (r 0) :: .ref (r 1) :: .ref (r 2) :: .int (iI x_taped) :: .int (iI x_at) :: .int (iI x_token) :: .int (iI x_from) :: .long (lI x_word) :: .int (iI x_value) :: .int (iI x_size) :: .int (iI x_fault) :: .int (iI x_faultAt) :: .ref (r 3) :: .ref (r 4) :: .ref (r 5) :: .ref (r 6) :: .ref (r 7) :: .ref (r 8) :: .ref (r 9) :: .int (iI x_steps) :: .int (iI x_counted) :: .ref (r 10) :: .int (iI x_opens) :: .ref (r 11) :: .ref (r 12) :: .int (iI x_queued) :: .ref (r 13) :: .ref (r 14) :: .int (iI x_theMask) :: .ref (r 15) :: .ref (r 16) :: .int (iI x_kept) :: .int (iI x_placed) :: .ref (r 17) :: .ref (r 18) :: .ref (r 19) :: .int (iI x_orderMany) :: .ref (r 20) :: .ref (r 21) :: .int (iI x_outs) :: [])), ((r 0), .inl (T 0, 2880, .inl (fun j : Nat => iI (B j))))]) (cells' := 0) (slots' := 0) h dX12_thin_18 (ct_X12_in T n 1 20 (by first | assumption | omega) (by first | assumption | omega) (by first | assumption | omega)) k_X12_in gX12_thin_X12_in ⟨Nat.le_of_ble_eq_true rfl, Nat.le_of_ble_eq_true rfl⟩ rfl rfl (Nat.le_of_ble_eq_true rfl) ⟨Nat.le_of_ble_eq_true rfl, Nat.le_of_ble_eq_true rfl⟩ rfl rfl [] [0, 1] rfl rfl rfl rfl (by decide) (fun r9 u9 p3 => ?_)
    obtain ⟨rfl, rfl⟩ := p3
    refine j_eq (ws' := [(g0, .inr (12, .ref (r 0) :: .ref (r 1) :: .ref (r 2) :: .int (iI x_taped) :: .int (iI x_at) :: .int (iI x_token) :: .int (iI x_from) :: .long (lI x_word) :: .int (iI x_value) :: .int (iI x_size) :: .int (iI x_fault) :: .int (iI x_faultAt) :: .ref (r 3) :: .ref (r 4) :: .ref (r 5) :: .ref (r 6) :: .ref (r 7) :: .ref (r 8) :: .ref (r 9) :: .int (iI x_steps) :: .int (iI x_counted) :: .ref (r 10) :: .int (iI x_opens) :: .ref (r 11) :: .ref (r 12) :: .int (iI x_queued) :: .ref (r 13) :: .ref (r 14) :: .int (iI x_theMask) :: .ref (r 15) :: .ref (r 16) :: .int (iI x_kept) :: .int (iI x_placed) :: .ref (r 17) :: .ref (r 18) :: .ref (r 19) :: .int (iI x_orderMany) :: .ref (r 20) :: .ref (r 21) :: .int (iI x_outs) :: [])), ((r 0), .inl (T 0, 2880, .inl (fun j : Nat => iI (B j))))]) rfl rfl rfl rfl rfl rfl ?_
    refine j_ifneB h 27 dX12_thin_21 (by decide) (fun c4 => ?_) (fun c4 => ?_)
    · skip
      replace c4 := of_decide_eq_true c4
      refine j_iconst h dX12_thin_27 ?_
      refine j_istore_n (lv' := [(0, .ref g0), (1, .int (iI s)), (2, .int (iI n)), (3, .int (iI 0))]) h dX12_thin_28 [1, 2, 3, 0] rfl (by decide) rfl ?_
      have lp29 : ∀ (n29 : Nat) (k : Int) (hk : 0 ≤ k ∧ k ≤ 144) (hf : fuI (fun p => thinS B p s n) k 144 = fuI (fun p => thinS B p s n) 0 144), ((144 - k).toNat) < n29 → J X 0 0 29 [(0, .ref g0), (1, .int (iI s)), (2, .int (iI n)), (3, .int (iI k))] [] [(g0, .inr (12, .ref (r 0) :: .ref (r 1) :: .ref (r 2) :: .int (iI x_taped) :: .int (iI x_at) :: .int (iI x_token) :: .int (iI x_from) :: .long (lI x_word) :: .int (iI x_value) :: .int (iI x_size) :: .int (iI x_fault) :: .int (iI x_faultAt) :: .ref (r 3) :: .ref (r 4) :: .ref (r 5) :: .ref (r 6) :: .ref (r 7) :: .ref (r 8) :: .ref (r 9) :: .int (iI x_steps) :: .int (iI x_counted) :: .ref (r 10) :: .int (iI x_opens) :: .ref (r 11) :: .ref (r 12) :: .int (iI x_queued) :: .ref (r 13) :: .ref (r 14) :: .int (iI x_theMask) :: .ref (r 15) :: .ref (r 16) :: .int (iI x_kept) :: .int (iI x_placed) :: .ref (r 17) :: .ref (r 18) :: .ref (r 19) :: .int (iI x_orderMany) :: .ref (r 20) :: .ref (r 21) :: .int (iI x_outs) :: [])), ((r 0), .inl (T 0, 2880, .inl (fun j : Nat => iI (B j))))] := by
        intro n29
        induction n29 with
        | zero => exact fun k hk hf hn29 => absurd hn29 (Nat.not_lt_zero _)
        | succ n29 ih29 =>
          intro k hk hf hn29
          refine j_iload_n h dX12_thin_29 3 rfl rfl ?_
          refine j_sipush h dX12_thin_30 (by decide) ?_
          refine j_icmp_ge h 107 dX12_thin_33 (by decide) (by omega) (by omega) (fun c5 => ?_) (fun c5 => ?_)
          · skip
            refine j_iconst h dX12_thin_107 ?_
            exact hr _ _ _ _ dX12_thin_108 ⟨(congrArg iI (show (-1 : Int) = (thinR B s n) by unfold thinR; (repeat (first | rw [if_pos (by omega)] | rw [if_neg (by omega)])) <;> (try (rw [← hf]; first | rw [fuI_e (by omega)] | rw [fuI_t (P := (fun p => thinS B p s n)) (by omega) (thinS_t (j := i) (by omega) c4 (by omega))])))), rfl⟩
          · skip
            refine j_aload_n h dX12_thin_36 0 rfl rfl ?_
            refine j_iload_n h dX12_thin_37 3 rfl rfl ?_
            refine j_iconst h dX12_thin_38 ?_
            refine j_iconst h dX12_thin_39 ?_
            refine j_callVi (As := [.int (iI k), .int (iI 0), .int (iI (bI true))]) (wr := []) (cells' := 0) (slots' := 0) h dX12_thin_40 (ct_X12_spanAt T g0 r x_taped x_at x_token x_from x_word x_value x_size x_fault x_faultAt x_steps x_counted x_opens x_queued x_theMask x_kept x_placed x_orderMany x_outs B k 0 true (by first | assumption | omega) (by first | assumption | omega) (by first | assumption | omega)) k_X12_spanAt gX12_thin_X12_spanAt rfl rfl 0 rfl ⟨Nat.le_of_ble_eq_true rfl, Nat.le_of_ble_eq_true rfl⟩ rfl rfl (Nat.le_of_ble_eq_true rfl) ⟨Nat.le_of_ble_eq_true rfl, Nat.le_of_ble_eq_true rfl⟩ rfl rfl [0, 1] [] rfl rfl rfl rfl (by decide) (fun r9 u9 p6 => ?_)
            obtain ⟨rfl, rfl⟩ := p6
            have hv9 := spV_rng B k 0 true
            refine j_eq (ws' := [(g0, .inr (12, .ref (r 0) :: .ref (r 1) :: .ref (r 2) :: .int (iI x_taped) :: .int (iI x_at) :: .int (iI x_token) :: .int (iI x_from) :: .long (lI x_word) :: .int (iI x_value) :: .int (iI x_size) :: .int (iI x_fault) :: .int (iI x_faultAt) :: .ref (r 3) :: .ref (r 4) :: .ref (r 5) :: .ref (r 6) :: .ref (r 7) :: .ref (r 8) :: .ref (r 9) :: .int (iI x_steps) :: .int (iI x_counted) :: .ref (r 10) :: .int (iI x_opens) :: .ref (r 11) :: .ref (r 12) :: .int (iI x_queued) :: .ref (r 13) :: .ref (r 14) :: .int (iI x_theMask) :: .ref (r 15) :: .ref (r 16) :: .int (iI x_kept) :: .int (iI x_placed) :: .ref (r 17) :: .ref (r 18) :: .ref (r 19) :: .int (iI x_orderMany) :: .ref (r 20) :: .ref (r 21) :: .int (iI x_outs) :: [])), ((r 0), .inl (T 0, 2880, .inl (fun j : Nat => iI (B j))))]) rfl rfl rfl rfl rfl rfl ?_
            rw [show spV B k 0 true = (spansS B k) by first | rfl | exact spV_1]
            have hr9 := spansS_rng B k
            refine j_istore (lv' := [(0, .ref g0), (1, .int (iI s)), (2, .int (iI n)), (3, .int (iI k)), (4, .int (iI (spansS B k)))]) h dX12_thin_43 [1, 2, 3, 4, 0] (by decide) rfl ?_
            refine j_iconst h dX12_thin_45 ?_
            refine j_istore (lv' := [(0, .ref g0), (1, .int (iI s)), (2, .int (iI n)), (3, .int (iI k)), (4, .int (iI (spansS B k))), (5, .int (iI 0))]) h dX12_thin_46 [1, 2, 3, 4, 5, 0] (by decide) rfl ?_
            have lp48 : ∀ (n48 : Nat) (i : Int) (hi : 0 ≤ i ∧ i ≤ spansS B k) (hq : ∀ j : Int, 0 ≤ j → j < i → ¬ (B (144 * lowS B k j + k) = s ∧ endS B k (lowS B k j) - lowS B k j < n)), ((20 - i).toNat) < n48 → J X 0 0 48 [(0, .ref g0), (1, .int (iI s)), (2, .int (iI n)), (3, .int (iI k)), (4, .int (iI (spansS B k))), (5, .int (iI i))] [] [(g0, .inr (12, .ref (r 0) :: .ref (r 1) :: .ref (r 2) :: .int (iI x_taped) :: .int (iI x_at) :: .int (iI x_token) :: .int (iI x_from) :: .long (lI x_word) :: .int (iI x_value) :: .int (iI x_size) :: .int (iI x_fault) :: .int (iI x_faultAt) :: .ref (r 3) :: .ref (r 4) :: .ref (r 5) :: .ref (r 6) :: .ref (r 7) :: .ref (r 8) :: .ref (r 9) :: .int (iI x_steps) :: .int (iI x_counted) :: .ref (r 10) :: .int (iI x_opens) :: .ref (r 11) :: .ref (r 12) :: .int (iI x_queued) :: .ref (r 13) :: .ref (r 14) :: .int (iI x_theMask) :: .ref (r 15) :: .ref (r 16) :: .int (iI x_kept) :: .int (iI x_placed) :: .ref (r 17) :: .ref (r 18) :: .ref (r 19) :: .int (iI x_orderMany) :: .ref (r 20) :: .ref (r 21) :: .int (iI x_outs) :: [])), ((r 0), .inl (T 0, 2880, .inl (fun j : Nat => iI (B j))))] := by
              intro n48
              induction n48 with
              | zero => exact fun i hi hq hn48 => absurd hn48 (Nat.not_lt_zero _)
              | succ n48 ih48 =>
                intro i hi hq hn48
                have hr8 := spansS_rng B k
                refine j_iload h dX12_thin_48 5 rfl ?_
                refine j_iload h dX12_thin_50 4 rfl ?_
                refine j_icmp_ge h 101 dX12_thin_52 (by decide) (by omega) (by omega) (fun c7 => ?_) (fun c7 => ?_)
                · skip
                  refine j_iinc (lv' := [(0, .ref g0), (1, .int (iI s)), (2, .int (iI n)), (3, .int (iI (k + 1))), (4, .int (iI (spansS B k))), (5, .int (iI i))]) h dX12_thin_101 3 [1, 2, 3, 0, 4, 5] rfl (by decide) rfl ?_
                  refine j_goto (tgt := 29) h dX12_thin_104 (by decide) ?_
                  refine j_lv (lv' := [(0, .ref g0), (1, .int (iI s)), (2, .int (iI n)), (3, .int (iI (k + 1)))]) [0, 1, 2, 3] rfl ?_
                  exact ih29 (k + 1) (by first | assumption | omega) (by rw [← fuI_f (P := (fun p => thinS B p s n)) (by omega) (thinS_f (by omega) (fun j h1 h2 => hq j h1 (by omega)))]; exact hf) (by omega)
                · skip
                  refine j_aload_n h dX12_thin_55 0 rfl rfl ?_
                  refine j_iload_n h dX12_thin_56 3 rfl rfl ?_
                  refine j_iload h dX12_thin_57 5 rfl ?_
                  refine j_iconst h dX12_thin_59 ?_
                  refine j_callVi (As := [.int (iI k), .int (iI i), .int (iI (bI false))]) (wr := []) (cells' := 0) (slots' := 0) h dX12_thin_60 (ct_X12_spanAt T g0 r x_taped x_at x_token x_from x_word x_value x_size x_fault x_faultAt x_steps x_counted x_opens x_queued x_theMask x_kept x_placed x_orderMany x_outs B k i false (by first | assumption | omega) (by first | assumption | omega) (by first | assumption | omega)) k_X12_spanAt gX12_thin_X12_spanAt rfl rfl 0 rfl ⟨Nat.le_of_ble_eq_true rfl, Nat.le_of_ble_eq_true rfl⟩ rfl rfl (Nat.le_of_ble_eq_true rfl) ⟨Nat.le_of_ble_eq_true rfl, Nat.le_of_ble_eq_true rfl⟩ rfl rfl [0, 1] [] rfl rfl rfl rfl (by decide) (fun r9 u9 p8 => ?_)
                  obtain ⟨rfl, rfl⟩ := p8
                  have hv9 := spV_rng B k i false
                  refine j_eq (ws' := [(g0, .inr (12, .ref (r 0) :: .ref (r 1) :: .ref (r 2) :: .int (iI x_taped) :: .int (iI x_at) :: .int (iI x_token) :: .int (iI x_from) :: .long (lI x_word) :: .int (iI x_value) :: .int (iI x_size) :: .int (iI x_fault) :: .int (iI x_faultAt) :: .ref (r 3) :: .ref (r 4) :: .ref (r 5) :: .ref (r 6) :: .ref (r 7) :: .ref (r 8) :: .ref (r 9) :: .int (iI x_steps) :: .int (iI x_counted) :: .ref (r 10) :: .int (iI x_opens) :: .ref (r 11) :: .ref (r 12) :: .int (iI x_queued) :: .ref (r 13) :: .ref (r 14) :: .int (iI x_theMask) :: .ref (r 15) :: .ref (r 16) :: .int (iI x_kept) :: .int (iI x_placed) :: .ref (r 17) :: .ref (r 18) :: .ref (r 19) :: .int (iI x_orderMany) :: .ref (r 20) :: .ref (r 21) :: .int (iI x_outs) :: [])), ((r 0), .inl (T 0, 2880, .inl (fun j : Nat => iI (B j))))]) rfl rfl rfl rfl rfl rfl ?_
                  rw [show spV B k i false = (lowS B k i) by first | rfl | exact spV_0]
                  have hw9 := lowS_rng B k i; have hx9 := lowS_top B k i; have hy9 := lowS_ex (B := B) (p := k) (i := i) (by omega)
                  refine j_istore (lv' := [(0, .ref g0), (1, .int (iI s)), (2, .int (iI n)), (3, .int (iI k)), (4, .int (iI (spansS B k))), (5, .int (iI i)), (6, .int (iI (lowS B k i)))]) h dX12_thin_63 [1, 2, 3, 4, 5, 6, 0] (by decide) rfl ?_
                  refine j_aload_n h dX12_thin_65 0 rfl rfl ?_
                  refine j_get h dX12_thin_66 f_X12_thin_7 0 rfl rfl ?_
                  refine j_sipush h dX12_thin_69 (by decide) ?_
                  refine j_iload h dX12_thin_72 6 rfl ?_
                  refine j_imul h dX12_thin_74 ?_
                  refine j_iload_n h dX12_thin_75 3 rfl rfl ?_
                  refine j_iadd h dX12_thin_76 ?_
                  refine j_iald (f := B) h (144 * (lowS B k i) + k) dX12_thin_77 1 rfl (by decide) (by omega) (by omega) ?_
                  have e9 := hB (144 * (lowS B k i) + k)
                  refine j_iload_n h dX12_thin_78 1 rfl rfl ?_
                  refine j_icmp_ne h 95 dX12_thin_79 (by decide) (by omega) (by omega) (fun c10 => ?_) (fun c10 => ?_)
                  · skip
                    refine j_iinc (lv' := [(0, .ref g0), (1, .int (iI s)), (2, .int (iI n)), (3, .int (iI k)), (4, .int (iI (spansS B k))), (5, .int (iI (i + 1))), (6, .int (iI (lowS B k i)))]) h dX12_thin_95 5 [1, 2, 3, 4, 5, 0, 6] rfl (by decide) rfl ?_
                    refine j_goto (tgt := 48) h dX12_thin_98 (by decide) ?_
                    refine j_lv (lv' := [(0, .ref g0), (1, .int (iI s)), (2, .int (iI n)), (3, .int (iI k)), (4, .int (iI (spansS B k))), (5, .int (iI (i + 1)))]) [0, 1, 2, 3, 4, 5] rfl ?_
                    exact ih48 (i + 1) (by first | assumption | omega) (by intro j h1 h2 h3; by_cases q : j = i; (subst q; exact c10 h3.1); exact hq j h1 (by omega) h3) (by omega)
                  · skip
                    refine j_aload_n h dX12_thin_82 0 rfl rfl ?_
                    refine j_iload_n h dX12_thin_83 3 rfl rfl ?_
                    refine j_iload h dX12_thin_84 6 rfl ?_
                    refine j_callVi (As := [.int (iI k), .int (iI (lowS B k i))]) (wr := []) (cells' := 0) (slots' := 0) h dX12_thin_86 (ct_X12_highOf T g0 r x_taped x_at x_token x_from x_word x_value x_size x_fault x_faultAt x_steps x_counted x_opens x_queued x_theMask x_kept x_placed x_orderMany x_outs B k (lowS B k i) (by first | assumption | omega) (by first | assumption | omega) (by first | assumption | omega)) k_X12_highOf gX12_thin_X12_highOf rfl rfl 0 rfl ⟨Nat.le_of_ble_eq_true rfl, Nat.le_of_ble_eq_true rfl⟩ rfl rfl (Nat.le_of_ble_eq_true rfl) ⟨Nat.le_of_ble_eq_true rfl, Nat.le_of_ble_eq_true rfl⟩ rfl rfl [0, 1] [] rfl rfl rfl rfl (by decide) (fun r9 u9 p11 => ?_)
                    obtain ⟨rfl, rfl⟩ := p11
                    have he9 := @endS_rng B k (lowS B k i) (by have := topS_rng B k; omega)
                    refine j_eq (ws' := [(g0, .inr (12, .ref (r 0) :: .ref (r 1) :: .ref (r 2) :: .int (iI x_taped) :: .int (iI x_at) :: .int (iI x_token) :: .int (iI x_from) :: .long (lI x_word) :: .int (iI x_value) :: .int (iI x_size) :: .int (iI x_fault) :: .int (iI x_faultAt) :: .ref (r 3) :: .ref (r 4) :: .ref (r 5) :: .ref (r 6) :: .ref (r 7) :: .ref (r 8) :: .ref (r 9) :: .int (iI x_steps) :: .int (iI x_counted) :: .ref (r 10) :: .int (iI x_opens) :: .ref (r 11) :: .ref (r 12) :: .int (iI x_queued) :: .ref (r 13) :: .ref (r 14) :: .int (iI x_theMask) :: .ref (r 15) :: .ref (r 16) :: .int (iI x_kept) :: .int (iI x_placed) :: .ref (r 17) :: .ref (r 18) :: .ref (r 19) :: .int (iI x_orderMany) :: .ref (r 20) :: .ref (r 21) :: .int (iI x_outs) :: [])), ((r 0), .inl (T 0, 2880, .inl (fun j : Nat => iI (B j))))]) rfl rfl rfl rfl rfl rfl ?_
                    refine j_iload_n h dX12_thin_89 2 rfl rfl ?_
                    refine j_icmp_ge h 95 dX12_thin_90 (by decide) (by omega) (by omega) (fun c12 => ?_) (fun c12 => ?_)
                    · skip
                      refine j_iinc (lv' := [(0, .ref g0), (1, .int (iI s)), (2, .int (iI n)), (3, .int (iI k)), (4, .int (iI (spansS B k))), (5, .int (iI (i + 1))), (6, .int (iI (lowS B k i)))]) h dX12_thin_95 5 [1, 2, 3, 4, 5, 0, 6] rfl (by decide) rfl ?_
                      refine j_goto (tgt := 48) h dX12_thin_98 (by decide) ?_
                      refine j_lv (lv' := [(0, .ref g0), (1, .int (iI s)), (2, .int (iI n)), (3, .int (iI k)), (4, .int (iI (spansS B k))), (5, .int (iI (i + 1)))]) [0, 1, 2, 3, 4, 5] rfl ?_
                      exact ih48 (i + 1) (by first | assumption | omega) (by intro j h1 h2 h3; by_cases q : j = i; (subst q; omega); exact hq j h1 (by omega) h3) (by omega)
                    · skip
                      refine j_iload_n h dX12_thin_93 3 rfl rfl ?_
                      exact hr _ _ _ _ dX12_thin_94 ⟨(congrArg iI (show (k : Int) = (thinR B s n) by unfold thinR; (repeat (first | rw [if_pos (by omega)] | rw [if_neg (by omega)])) <;> (try (rw [← hf]; first | rw [fuI_e (by omega)] | rw [fuI_t (P := (fun p => thinS B p s n)) (by omega) (thinS_t (j := i) (by omega) c10 (by omega))])))), rfl⟩
            exact lp48 _ 0 (by first | assumption | omega) (by intro j h1 h2; omega) (Nat.lt_succ_self _)
      exact lp29 _ 0 (by first | assumption | omega) (by rfl) (Nat.lt_succ_self _)
    · skip
      replace c4 := of_decide_eq_false c4
      refine j_bipush h dX12_thin_24 (by decide) ?_
      exact hr _ _ _ _ dX12_thin_26 ⟨(congrArg iI (show ((-102) : Int) = (thinR B s n) by unfold thinR; (repeat (first | rw [if_pos (by omega)] | rw [if_neg (by omega)])) <;> (try (rw [← hf]; first | rw [fuI_e (by omega)] | rw [fuI_t (P := (fun p => thinS B p s n)) (by omega) (thinS_t (j := i) (by omega) c2 (by omega))])))), rfl⟩

abbrev rmX12_volume : Room := { frames := 4, cells := 0, slots := 0, locals := 91 }
theorem k_X12_volumeOf : CkOK yX12_volumeOf wsX12_volumeOf rmX12_volumeOf 0 0 cX12_volumeOf 4 (some .int) 1 := ⟨⟨_, rfl⟩, rfl, rfl, by decide +kernel⟩
theorem in_X12_volume_X12 : ∀ w ∈ u_ws RX12 TX12 40, w ∈ wsX12_volume := fun w hw => List.mem_cons_of_mem _ (List.mem_append_right _ (hw))
theorem f_X12_volume_205 : FlOK RX12 205 wsX12_volume 12 25 := ⟨_, _, _, rfl, by decide, in_X12_volume_X12, List.mem_of_getElem? (i := 2) rfl⟩
theorem k_X12_floating : CkOK yX12_floating wsX12_floating rmX12_floating 0 0 cX12_floating 3 (some .int) 0 := ⟨⟨_, rfl⟩, rfl, rfl, by decide +kernel⟩
set_option maxHeartbeats 600000 in
set_option maxRecDepth 100000 in
/-- volume -/
theorem ct_X12_volume (T : Nat → ClassId) (g0 : Nat) (r : Nat → Nat) (x_taped : Int) (x_at : Int) (x_token : Int) (x_from : Int) (x_word : Int) (x_value : Int) (x_size : Int) (x_fault : Int) (x_faultAt : Int) (x_steps : Int) (x_counted : Int) (x_opens : Int) (x_queued : Int) (x_theMask : Int) (x_kept : Int) (x_placed : Int) (x_orderMany : Int) (x_outs : Int) (V : Int → Bool) (Q : Int → Int) (B : Int → Int) (w : Int) (hB : BOK B) (hw : -2147483648 ≤ w ∧ w ≤ 2147483647) : CtI T yX12_volume wsX12_volume rmX12_volume 0 0 [.ref g0, .int (iI w)] [(g0, .inr (12, .ref (r 0) :: .ref (r 1) :: .ref (r 2) :: .int (iI x_taped) :: .int (iI x_at) :: .int (iI x_token) :: .int (iI x_from) :: .long (lI x_word) :: .int (iI x_value) :: .int (iI x_size) :: .int (iI x_fault) :: .int (iI x_faultAt) :: .ref (r 3) :: .ref (r 4) :: .ref (r 5) :: .ref (r 6) :: .ref (r 7) :: .ref (r 8) :: .ref (r 9) :: .int (iI x_steps) :: .int (iI x_counted) :: .ref (r 10) :: .int (iI x_opens) :: .ref (r 11) :: .ref (r 12) :: .int (iI x_queued) :: .ref (r 13) :: .ref (r 14) :: .int (iI x_theMask) :: .ref (r 15) :: .ref (r 16) :: .int (iI x_kept) :: .int (iI x_placed) :: .ref (r 17) :: .ref (r 18) :: .ref (r 19) :: .int (iI x_orderMany) :: .ref (r 20) :: .ref (r 21) :: .int (iI x_outs) :: [])), ((r 11), .inl (T 1, 2880, .inl (fun j : Nat => iI (bI (V j))))), ((r 12), .inl (T 0, 2880, .inl (fun j : Nat => iI (Q j)))), ((r 0), .inl (T 0, 2880, .inl (fun j : Nat => iI (B j))))] (fun r8 u => ∃ n1 : Int, ∃ V1 : Int → Bool, ∃ Q1 : Int → Int, r8 = (iI (volS B w)) ∧ u = [(g0, .inr (12, .ref (r 0) :: .ref (r 1) :: .ref (r 2) :: .int (iI x_taped) :: .int (iI x_at) :: .int (iI x_token) :: .int (iI x_from) :: .long (lI x_word) :: .int (iI x_value) :: .int (iI x_size) :: .int (iI x_fault) :: .int (iI x_faultAt) :: .ref (r 3) :: .ref (r 4) :: .ref (r 5) :: .ref (r 6) :: .ref (r 7) :: .ref (r 8) :: .ref (r 9) :: .int (iI x_steps) :: .int (iI x_counted) :: .ref (r 10) :: .int (iI x_opens) :: .ref (r 11) :: .ref (r 12) :: .int (iI n1) :: .ref (r 13) :: .ref (r 14) :: .int (iI x_theMask) :: .ref (r 15) :: .ref (r 16) :: .int (iI x_kept) :: .int (iI x_placed) :: .ref (r 17) :: .ref (r 18) :: .ref (r 19) :: .int (iI x_orderMany) :: .ref (r 20) :: .ref (r 21) :: .int (iI x_outs) :: [])), ((r 11), .inl (T 1, 2880, .inl (fun j : Nat => iI (bI (V1 j))))), ((r 12), .inl (T 0, 2880, .inl (fun j : Nat => iI (Q1 j)))), ((r 0), .inl (T 0, 2880, .inl (fun j : Nat => iI (B j))))]) := by
  refine ctI_of (cc := cX12_volume) (maxL := 2) (ret := (some .int)) (by decide +kernel) rfl rfl (fun r u hp => by obtain ⟨_, _, _, rfl, -⟩ := hp; rfl) (Nat.le_of_ble_eq_true rfl) (fun X h hinit hr => ?_)
  refine j_eq (lv' := [(0, .ref g0), (1, .int (iI w))]) rfl rfl rfl rfl rfl rfl ?_
  refine j_iload_n h dX12_volume_0 1 rfl rfl ?_
  refine j_i2l h dX12_volume_1 (by omega) ?_
  refine j_lconst h dX12_volume_2 ?_
  refine j_eq rfl rfl rfl rfl (stk' := [.long (lI 0), .long (lI w)]) rfl rfl ?_
  refine j_ldc2 (z := 11) h 11 dX12_volume_3 (by decide +kernel) (List.mem_of_getElem? (i := 1) rfl) ?_
  refine j_callSi (As := [.long (lI w), .long (lI 0), .long (lI 11)]) (wr := [(g0, .inr (12, .ref (r 0) :: .ref (r 1) :: .ref (r 2) :: .int (iI x_taped) :: .int (iI x_at) :: .int (iI x_token) :: .int (iI x_from) :: .long (lI x_word) :: .int (iI x_value) :: .int (iI x_size) :: .int (iI x_fault) :: .int (iI x_faultAt) :: .ref (r 3) :: .ref (r 4) :: .ref (r 5) :: .ref (r 6) :: .ref (r 7) :: .ref (r 8) :: .ref (r 9) :: .int (iI x_steps) :: .int (iI x_counted) :: .ref (r 10) :: .int (iI x_opens) :: .ref (r 11) :: .ref (r 12) :: .int (iI x_queued) :: .ref (r 13) :: .ref (r 14) :: .int (iI x_theMask) :: .ref (r 15) :: .ref (r 16) :: .int (iI x_kept) :: .int (iI x_placed) :: .ref (r 17) :: .ref (r 18) :: .ref (r 19) :: .int (iI x_orderMany) :: .ref (r 20) :: .ref (r 21) :: .int (iI x_outs) :: [])), ((r 11), .inl (T 1, 2880, .inl (fun j : Nat => iI (bI (V j))))), ((r 12), .inl (T 0, 2880, .inl (fun j : Nat => iI (Q j)))), ((r 0), .inl (T 0, 2880, .inl (fun j : Nat => iI (B j))))]) (cells' := 0) (slots' := 0) h dX12_volume_6 (ct_X12_in T w 0 11 (by first | assumption | omega) (by first | assumption | omega) (by first | assumption | omega)) k_X12_in gX12_volume_X12_in ⟨Nat.le_of_ble_eq_true rfl, Nat.le_of_ble_eq_true rfl⟩ rfl rfl (Nat.le_of_ble_eq_true rfl) ⟨Nat.le_of_ble_eq_true rfl, Nat.le_of_ble_eq_true rfl⟩ rfl rfl [] [0, 1, 2, 3] rfl rfl rfl rfl (by decide) (fun r9 u9 p1 => ?_)
  obtain ⟨rfl, rfl⟩ := p1
  refine j_eq (ws' := [(g0, .inr (12, .ref (r 0) :: .ref (r 1) :: .ref (r 2) :: .int (iI x_taped) :: .int (iI x_at) :: .int (iI x_token) :: .int (iI x_from) :: .long (lI x_word) :: .int (iI x_value) :: .int (iI x_size) :: .int (iI x_fault) :: .int (iI x_faultAt) :: .ref (r 3) :: .ref (r 4) :: .ref (r 5) :: .ref (r 6) :: .ref (r 7) :: .ref (r 8) :: .ref (r 9) :: .int (iI x_steps) :: .int (iI x_counted) :: .ref (r 10) :: .int (iI x_opens) :: .ref (r 11) :: .ref (r 12) :: .int (iI x_queued) :: .ref (r 13) :: .ref (r 14) :: .int (iI x_theMask) :: .ref (r 15) :: .ref (r 16) :: .int (iI x_kept) :: .int (iI x_placed) :: .ref (r 17) :: .ref (r 18) :: .ref (r 19) :: .int (iI x_orderMany) :: .ref (r 20) :: .ref (r 21) :: .int (iI x_outs) :: [])), ((r 11), .inl (T 1, 2880, .inl (fun j : Nat => iI (bI (V j))))), ((r 12), .inl (T 0, 2880, .inl (fun j : Nat => iI (Q j)))), ((r 0), .inl (T 0, 2880, .inl (fun j : Nat => iI (B j))))]) rfl rfl rfl rfl rfl rfl ?_
  refine j_ifneB h 15 dX12_volume_9 (by decide) (fun c2 => ?_) (fun c2 => ?_)
  · skip
    replace c2 := of_decide_eq_true c2
    refine j_iload_n h dX12_volume_15 1 rfl rfl ?_
    refine j_bipush h dX12_volume_16 (by decide) ?_
    refine j_icmp_ge h 27 dX12_volume_18 (by decide) (by omega) (by omega) (fun c3 => ?_) (fun c3 => ?_)
    · skip
      refine j_iload_n h dX12_volume_27 1 rfl rfl ?_
      refine j_bipush h dX12_volume_28 (by decide) ?_
      refine j_icmp_ne h 38 dX12_volume_30 (by decide) (by omega) (by omega) (fun c4 => ?_) (fun c4 => ?_)
      · skip
        refine j_iload_n h dX12_volume_38 1 rfl rfl ?_
        refine j_bipush h dX12_volume_39 (by decide) ?_
        refine j_icmp_ne h 54 dX12_volume_41 (by decide) (by omega) (by omega) (fun c5 => ?_) (fun c5 => ?_)
        · skip
          refine j_aload_n h dX12_volume_54 0 rfl rfl ?_
          refine j_callVv (As := []) (wr := []) (cells' := 0) (slots' := 0) h dX12_volume_55 (ct_X12_findOpen T g0 r x_taped x_at x_token x_from x_word x_value x_size x_fault x_faultAt x_steps x_counted x_opens x_queued x_theMask x_kept x_placed x_orderMany x_outs V Q B (by first | assumption | omega)) k_X12_findOpen gX12_volume_X12_findOpen rfl rfl 0 rfl ⟨Nat.le_of_ble_eq_true rfl, Nat.le_of_ble_eq_true rfl⟩ rfl rfl (Nat.le_of_ble_eq_true rfl) ⟨Nat.le_of_ble_eq_true rfl, Nat.le_of_ble_eq_true rfl⟩ rfl rfl [0, 1, 2, 3] [] rfl rfl rfl rfl (by decide) (fun u9 p6 => ?_)
          obtain rfl := p6
          have hlo9 := SV_len (opnS_SV B)
          refine j_eq (ws' := [(g0, .inr (12, .ref (r 0) :: .ref (r 1) :: .ref (r 2) :: .int (iI x_taped) :: .int (iI x_at) :: .int (iI x_token) :: .int (iI x_from) :: .long (lI x_word) :: .int (iI x_value) :: .int (iI x_size) :: .int (iI x_fault) :: .int (iI x_faultAt) :: .ref (r 3) :: .ref (r 4) :: .ref (r 5) :: .ref (r 6) :: .ref (r 7) :: .ref (r 8) :: .ref (r 9) :: .int (iI x_steps) :: .int (iI x_counted) :: .ref (r 10) :: .int (iI x_opens) :: .ref (r 11) :: .ref (r 12) :: .int (iI ((opnS B).2.length : Int)) :: .ref (r 13) :: .ref (r 14) :: .int (iI x_theMask) :: .ref (r 15) :: .ref (r 16) :: .int (iI x_kept) :: .int (iI x_placed) :: .ref (r 17) :: .ref (r 18) :: .ref (r 19) :: .int (iI x_orderMany) :: .ref (r 20) :: .ref (r 21) :: .int (iI x_outs) :: [])), ((r 11), .inl (T 1, 2880, .inl (fun j : Nat => iI (bI (((opnS B).1) j))))), ((r 12), .inl (T 0, 2880, .inl (fun j : Nat => iI ((qF Q (opnS B).2) j)))), ((r 0), .inl (T 0, 2880, .inl (fun j : Nat => iI (B j))))]) rfl rfl rfl rfl rfl rfl ?_
          refine j_iload_n h dX12_volume_58 1 rfl rfl ?_
          refine j_bipush h dX12_volume_59 (by decide) ?_
          refine j_icmp_ne h 71 dX12_volume_61 (by decide) (by omega) (by omega) (fun c7 => ?_) (fun c7 => ?_)
          · skip
            refine j_aload_n h dX12_volume_71 0 rfl rfl ?_
            refine j_iconst h dX12_volume_72 ?_
            refine j_callVi (As := [.int (iI 0)]) (wr := [((r 11), .inl (T 1, 2880, .inl (fun j : Nat => iI (bI (((opnS B).1) j))))), ((r 12), .inl (T 0, 2880, .inl (fun j : Nat => iI ((qF Q (opnS B).2) j))))]) (cells' := 0) (slots' := 0) h dX12_volume_73 (ct_X12_volumeOf T g0 r x_taped x_at x_token x_from x_word x_value x_size x_fault x_faultAt x_steps x_counted x_opens ((opnS B).2.length : Int) x_theMask x_kept x_placed x_orderMany x_outs B 0 (by first | assumption | omega) (by first | assumption | omega)) k_X12_volumeOf gX12_volume_X12_volumeOf rfl rfl 0 rfl ⟨Nat.le_of_ble_eq_true rfl, Nat.le_of_ble_eq_true rfl⟩ rfl rfl (Nat.le_of_ble_eq_true rfl) ⟨Nat.le_of_ble_eq_true rfl, Nat.le_of_ble_eq_true rfl⟩ rfl rfl [0, 3] [1, 2] rfl rfl rfl rfl (by decide) (fun r9 u9 p8 => ?_)
            obtain ⟨rfl, rfl⟩ := p8
            have hv9 := vol_rng B 0
            refine j_eq (ws' := [((r 11), .inl (T 1, 2880, .inl (fun j : Nat => iI (bI (((opnS B).1) j))))), ((r 12), .inl (T 0, 2880, .inl (fun j : Nat => iI ((qF Q (opnS B).2) j)))), (g0, .inr (12, .ref (r 0) :: .ref (r 1) :: .ref (r 2) :: .int (iI x_taped) :: .int (iI x_at) :: .int (iI x_token) :: .int (iI x_from) :: .long (lI x_word) :: .int (iI x_value) :: .int (iI x_size) :: .int (iI x_fault) :: .int (iI x_faultAt) :: .ref (r 3) :: .ref (r 4) :: .ref (r 5) :: .ref (r 6) :: .ref (r 7) :: .ref (r 8) :: .ref (r 9) :: .int (iI x_steps) :: .int (iI x_counted) :: .ref (r 10) :: .int (iI x_opens) :: .ref (r 11) :: .ref (r 12) :: .int (iI ((opnS B).2.length : Int)) :: .ref (r 13) :: .ref (r 14) :: .int (iI x_theMask) :: .ref (r 15) :: .ref (r 16) :: .int (iI x_kept) :: .int (iI x_placed) :: .ref (r 17) :: .ref (r 18) :: .ref (r 19) :: .int (iI x_orderMany) :: .ref (r 20) :: .ref (r 21) :: .int (iI x_outs) :: [])), ((r 0), .inl (T 0, 2880, .inl (fun j : Nat => iI (B j))))]) rfl rfl rfl rfl rfl rfl ?_
            refine j_aload_n h dX12_volume_76 0 rfl rfl ?_
            refine j_get h dX12_volume_77 f_X12_volume_205 2 rfl rfl ?_
            refine j_isub h dX12_volume_80 ?_
            refine j_ws (ws' := [(g0, .inr (12, .ref (r 0) :: .ref (r 1) :: .ref (r 2) :: .int (iI x_taped) :: .int (iI x_at) :: .int (iI x_token) :: .int (iI x_from) :: .long (lI x_word) :: .int (iI x_value) :: .int (iI x_size) :: .int (iI x_fault) :: .int (iI x_faultAt) :: .ref (r 3) :: .ref (r 4) :: .ref (r 5) :: .ref (r 6) :: .ref (r 7) :: .ref (r 8) :: .ref (r 9) :: .int (iI x_steps) :: .int (iI x_counted) :: .ref (r 10) :: .int (iI x_opens) :: .ref (r 11) :: .ref (r 12) :: .int (iI ((opnS B).2.length : Int)) :: .ref (r 13) :: .ref (r 14) :: .int (iI x_theMask) :: .ref (r 15) :: .ref (r 16) :: .int (iI x_kept) :: .int (iI x_placed) :: .ref (r 17) :: .ref (r 18) :: .ref (r 19) :: .int (iI x_orderMany) :: .ref (r 20) :: .ref (r 21) :: .int (iI x_outs) :: [])), ((r 11), .inl (T 1, 2880, .inl (fun j : Nat => iI (bI (((opnS B).1) j))))), ((r 12), .inl (T 0, 2880, .inl (fun j : Nat => iI ((qF Q (opnS B).2) j)))), ((r 0), .inl (T 0, 2880, .inl (fun j : Nat => iI (B j))))]) [2, 0, 1, 3] rfl rfl ?_
            exact hr _ _ _ _ dX12_volume_81 ⟨((opnS B).2.length : Int), (opnS B).1, (qF Q (opnS B).2), (congrArg iI (show ((vol B 0 - ((opnS B).2.length : Int)) : Int) = (volS B w) by unfold volS; (repeat (first | rw [if_pos (by omega)] | rw [if_neg (by omega)])) <;> (try (rw [opnS_len])))), rfl⟩
          · skip
            refine j_aload_n h dX12_volume_64 0 rfl rfl ?_
            refine j_get h dX12_volume_65 f_X12_volume_205 0 rfl rfl ?_
            refine j_goto (tgt := 81) h dX12_volume_68 (by decide) ?_
            exact hr _ _ _ _ dX12_volume_81 ⟨((opnS B).2.length : Int), (opnS B).1, (qF Q (opnS B).2), (congrArg iI (show (((opnS B).2.length : Int) : Int) = (volS B w) by unfold volS; (repeat (first | rw [if_pos (by omega)] | rw [if_neg (by omega)])) <;> (try (rw [opnS_len])))), rfl⟩
        · skip
          refine j_sipush h dX12_volume_44 (by decide) ?_
          refine j_aload_n h dX12_volume_47 0 rfl rfl ?_
          refine j_iconst h dX12_volume_48 ?_
          refine j_callVi (As := [.int (iI 0)]) (wr := [((r 11), .inl (T 1, 2880, .inl (fun j : Nat => iI (bI (V j))))), ((r 12), .inl (T 0, 2880, .inl (fun j : Nat => iI (Q j))))]) (cells' := 0) (slots' := 0) h dX12_volume_49 (ct_X12_volumeOf T g0 r x_taped x_at x_token x_from x_word x_value x_size x_fault x_faultAt x_steps x_counted x_opens x_queued x_theMask x_kept x_placed x_orderMany x_outs B 0 (by first | assumption | omega) (by first | assumption | omega)) k_X12_volumeOf gX12_volume_X12_volumeOf rfl rfl 0 rfl ⟨Nat.le_of_ble_eq_true rfl, Nat.le_of_ble_eq_true rfl⟩ rfl rfl (Nat.le_of_ble_eq_true rfl) ⟨Nat.le_of_ble_eq_true rfl, Nat.le_of_ble_eq_true rfl⟩ rfl rfl [0, 3] [1, 2] rfl rfl rfl rfl (by decide) (fun r9 u9 p9 => ?_)
          obtain ⟨rfl, rfl⟩ := p9
          have hv9 := vol_rng B 0
          refine j_eq (ws' := [((r 11), .inl (T 1, 2880, .inl (fun j : Nat => iI (bI (V j))))), ((r 12), .inl (T 0, 2880, .inl (fun j : Nat => iI (Q j)))), (g0, .inr (12, .ref (r 0) :: .ref (r 1) :: .ref (r 2) :: .int (iI x_taped) :: .int (iI x_at) :: .int (iI x_token) :: .int (iI x_from) :: .long (lI x_word) :: .int (iI x_value) :: .int (iI x_size) :: .int (iI x_fault) :: .int (iI x_faultAt) :: .ref (r 3) :: .ref (r 4) :: .ref (r 5) :: .ref (r 6) :: .ref (r 7) :: .ref (r 8) :: .ref (r 9) :: .int (iI x_steps) :: .int (iI x_counted) :: .ref (r 10) :: .int (iI x_opens) :: .ref (r 11) :: .ref (r 12) :: .int (iI x_queued) :: .ref (r 13) :: .ref (r 14) :: .int (iI x_theMask) :: .ref (r 15) :: .ref (r 16) :: .int (iI x_kept) :: .int (iI x_placed) :: .ref (r 17) :: .ref (r 18) :: .ref (r 19) :: .int (iI x_orderMany) :: .ref (r 20) :: .ref (r 21) :: .int (iI x_outs) :: [])), ((r 0), .inl (T 0, 2880, .inl (fun j : Nat => iI (B j))))]) rfl rfl rfl rfl rfl rfl ?_
          refine j_isub h dX12_volume_52 ?_
          refine j_ws (ws' := [(g0, .inr (12, .ref (r 0) :: .ref (r 1) :: .ref (r 2) :: .int (iI x_taped) :: .int (iI x_at) :: .int (iI x_token) :: .int (iI x_from) :: .long (lI x_word) :: .int (iI x_value) :: .int (iI x_size) :: .int (iI x_fault) :: .int (iI x_faultAt) :: .ref (r 3) :: .ref (r 4) :: .ref (r 5) :: .ref (r 6) :: .ref (r 7) :: .ref (r 8) :: .ref (r 9) :: .int (iI x_steps) :: .int (iI x_counted) :: .ref (r 10) :: .int (iI x_opens) :: .ref (r 11) :: .ref (r 12) :: .int (iI x_queued) :: .ref (r 13) :: .ref (r 14) :: .int (iI x_theMask) :: .ref (r 15) :: .ref (r 16) :: .int (iI x_kept) :: .int (iI x_placed) :: .ref (r 17) :: .ref (r 18) :: .ref (r 19) :: .int (iI x_orderMany) :: .ref (r 20) :: .ref (r 21) :: .int (iI x_outs) :: [])), ((r 11), .inl (T 1, 2880, .inl (fun j : Nat => iI (bI (V j))))), ((r 12), .inl (T 0, 2880, .inl (fun j : Nat => iI (Q j)))), ((r 0), .inl (T 0, 2880, .inl (fun j : Nat => iI (B j))))]) [2, 0, 1, 3] rfl rfl ?_
          exact hr _ _ _ _ dX12_volume_53 ⟨x_queued, V, Q, (congrArg iI (show ((2880 - vol B 0) : Int) = (volS B w) by unfold volS; (repeat (first | rw [if_pos (by omega)] | rw [if_neg (by omega)])) <;> (try (rw [opnS_len])))), rfl⟩
      · skip
        refine j_aload_n h dX12_volume_33 0 rfl rfl ?_
        refine j_callVi (As := []) (wr := []) (cells' := 0) (slots' := 0) h dX12_volume_34 (ct_X12_floating T g0 r x_taped x_at x_token x_from x_word x_value x_size x_fault x_faultAt x_steps x_counted x_opens x_queued x_theMask x_kept x_placed x_orderMany x_outs V Q B (by first | assumption | omega)) k_X12_floating gX12_volume_X12_floating rfl rfl 0 rfl ⟨Nat.le_of_ble_eq_true rfl, Nat.le_of_ble_eq_true rfl⟩ rfl rfl (Nat.le_of_ble_eq_true rfl) ⟨Nat.le_of_ble_eq_true rfl, Nat.le_of_ble_eq_true rfl⟩ rfl rfl [0, 1, 2, 3] [] rfl rfl rfl rfl (by decide) (fun r9 u9 p10 => ?_)
        obtain ⟨n111, V112, Q113, rfl, rfl⟩ := p10
        have hv8 := floatN_rng B
        refine j_eq (ws' := [(g0, .inr (12, .ref (r 0) :: .ref (r 1) :: .ref (r 2) :: .int (iI x_taped) :: .int (iI x_at) :: .int (iI x_token) :: .int (iI x_from) :: .long (lI x_word) :: .int (iI x_value) :: .int (iI x_size) :: .int (iI x_fault) :: .int (iI x_faultAt) :: .ref (r 3) :: .ref (r 4) :: .ref (r 5) :: .ref (r 6) :: .ref (r 7) :: .ref (r 8) :: .ref (r 9) :: .int (iI x_steps) :: .int (iI x_counted) :: .ref (r 10) :: .int (iI x_opens) :: .ref (r 11) :: .ref (r 12) :: .int (iI n111) :: .ref (r 13) :: .ref (r 14) :: .int (iI x_theMask) :: .ref (r 15) :: .ref (r 16) :: .int (iI x_kept) :: .int (iI x_placed) :: .ref (r 17) :: .ref (r 18) :: .ref (r 19) :: .int (iI x_orderMany) :: .ref (r 20) :: .ref (r 21) :: .int (iI x_outs) :: [])), ((r 11), .inl (T 1, 2880, .inl (fun j : Nat => iI (bI (V112 j))))), ((r 12), .inl (T 0, 2880, .inl (fun j : Nat => iI (Q113 j)))), ((r 0), .inl (T 0, 2880, .inl (fun j : Nat => iI (B j))))]) rfl rfl rfl rfl rfl rfl ?_
        exact hr _ _ _ _ dX12_volume_37 ⟨n111, V112, Q113, (congrArg iI (show (floatN B : Int) = (volS B w) by unfold volS; (repeat (first | rw [if_pos (by omega)] | rw [if_neg (by omega)])) <;> (try (rw [opnS_len])))), rfl⟩
    · skip
      refine j_aload_n h dX12_volume_21 0 rfl rfl ?_
      refine j_iload_n h dX12_volume_22 1 rfl rfl ?_
      refine j_callVi (As := [.int (iI w)]) (wr := [((r 11), .inl (T 1, 2880, .inl (fun j : Nat => iI (bI (V j))))), ((r 12), .inl (T 0, 2880, .inl (fun j : Nat => iI (Q j))))]) (cells' := 0) (slots' := 0) h dX12_volume_23 (ct_X12_volumeOf T g0 r x_taped x_at x_token x_from x_word x_value x_size x_fault x_faultAt x_steps x_counted x_opens x_queued x_theMask x_kept x_placed x_orderMany x_outs B w (by first | assumption | omega) (by first | assumption | omega)) k_X12_volumeOf gX12_volume_X12_volumeOf rfl rfl 0 rfl ⟨Nat.le_of_ble_eq_true rfl, Nat.le_of_ble_eq_true rfl⟩ rfl rfl (Nat.le_of_ble_eq_true rfl) ⟨Nat.le_of_ble_eq_true rfl, Nat.le_of_ble_eq_true rfl⟩ rfl rfl [0, 3] [1, 2] rfl rfl rfl rfl (by decide) (fun r9 u9 p14 => ?_)
      obtain ⟨rfl, rfl⟩ := p14
      have hv9 := vol_rng B w
      refine j_eq (ws' := [((r 11), .inl (T 1, 2880, .inl (fun j : Nat => iI (bI (V j))))), ((r 12), .inl (T 0, 2880, .inl (fun j : Nat => iI (Q j)))), (g0, .inr (12, .ref (r 0) :: .ref (r 1) :: .ref (r 2) :: .int (iI x_taped) :: .int (iI x_at) :: .int (iI x_token) :: .int (iI x_from) :: .long (lI x_word) :: .int (iI x_value) :: .int (iI x_size) :: .int (iI x_fault) :: .int (iI x_faultAt) :: .ref (r 3) :: .ref (r 4) :: .ref (r 5) :: .ref (r 6) :: .ref (r 7) :: .ref (r 8) :: .ref (r 9) :: .int (iI x_steps) :: .int (iI x_counted) :: .ref (r 10) :: .int (iI x_opens) :: .ref (r 11) :: .ref (r 12) :: .int (iI x_queued) :: .ref (r 13) :: .ref (r 14) :: .int (iI x_theMask) :: .ref (r 15) :: .ref (r 16) :: .int (iI x_kept) :: .int (iI x_placed) :: .ref (r 17) :: .ref (r 18) :: .ref (r 19) :: .int (iI x_orderMany) :: .ref (r 20) :: .ref (r 21) :: .int (iI x_outs) :: [])), ((r 0), .inl (T 0, 2880, .inl (fun j : Nat => iI (B j))))]) rfl rfl rfl rfl rfl rfl ?_
      refine j_ws (ws' := [(g0, .inr (12, .ref (r 0) :: .ref (r 1) :: .ref (r 2) :: .int (iI x_taped) :: .int (iI x_at) :: .int (iI x_token) :: .int (iI x_from) :: .long (lI x_word) :: .int (iI x_value) :: .int (iI x_size) :: .int (iI x_fault) :: .int (iI x_faultAt) :: .ref (r 3) :: .ref (r 4) :: .ref (r 5) :: .ref (r 6) :: .ref (r 7) :: .ref (r 8) :: .ref (r 9) :: .int (iI x_steps) :: .int (iI x_counted) :: .ref (r 10) :: .int (iI x_opens) :: .ref (r 11) :: .ref (r 12) :: .int (iI x_queued) :: .ref (r 13) :: .ref (r 14) :: .int (iI x_theMask) :: .ref (r 15) :: .ref (r 16) :: .int (iI x_kept) :: .int (iI x_placed) :: .ref (r 17) :: .ref (r 18) :: .ref (r 19) :: .int (iI x_orderMany) :: .ref (r 20) :: .ref (r 21) :: .int (iI x_outs) :: [])), ((r 11), .inl (T 1, 2880, .inl (fun j : Nat => iI (bI (V j))))), ((r 12), .inl (T 0, 2880, .inl (fun j : Nat => iI (Q j)))), ((r 0), .inl (T 0, 2880, .inl (fun j : Nat => iI (B j))))]) [2, 0, 1, 3] rfl rfl ?_
      exact hr _ _ _ _ dX12_volume_26 ⟨x_queued, V, Q, (congrArg iI (show (vol B w : Int) = (volS B w) by unfold volS; (repeat (first | rw [if_pos (by omega)] | rw [if_neg (by omega)])) <;> (try (rw [opnS_len])))), rfl⟩
  · skip
    replace c2 := of_decide_eq_false c2
    refine j_bipush h dX12_volume_12 (by decide) ?_
    exact hr _ _ _ _ dX12_volume_14 ⟨x_queued, V, Q, (congrArg iI (show ((-102) : Int) = (volS B w) by unfold volS; (repeat (first | rw [if_pos (by omega)] | rw [if_neg (by omega)])) <;> (try (rw [opnS_len])))), rfl⟩

