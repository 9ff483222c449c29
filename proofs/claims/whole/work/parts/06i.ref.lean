abbrev rmX12_isWanted : Room := { frames := 1, cells := 0, slots := 0, locals := 23 }
theorem in_X12_isWanted_X12 : ∀ w ∈ u_ws RX12 TX12 40, w ∈ wsX12_isWanted := fun w hw => List.mem_cons_of_mem _ (List.mem_append_right _ (hw))
theorem f_X12_isWanted_24 : FlOK RX12 24 wsX12_isWanted 12 13 := ⟨_, _, _, rfl, by decide, in_X12_isWanted_X12, List.mem_of_getElem? (i := 1) rfl⟩
theorem f_X12_isWanted_30 : FlOK RX12 30 wsX12_isWanted 12 15 := ⟨_, _, _, rfl, by decide, in_X12_isWanted_X12, List.mem_of_getElem? (i := 2) rfl⟩
theorem f_X12_isWanted_27 : FlOK RX12 27 wsX12_isWanted 12 14 := ⟨_, _, _, rfl, by decide, in_X12_isWanted_X12, List.mem_of_getElem? (i := 3) rfl⟩
set_option maxHeartbeats 600000 in
set_option maxRecDepth 100000 in
/-- whether a volume is as a step asks -/
theorem ct_X12_isWanted (T : Nat → ClassId) (g0 : Nat) (r : Nat → Nat) (x_taped : Int) (x_at : Int) (x_token : Int) (x_from : Int) (x_word : Int) (x_value : Int) (x_size : Int) (x_fault : Int) (x_faultAt : Int) (x_steps : Int) (x_counted : Int) (x_opens : Int) (x_queued : Int) (x_theMask : Int) (x_kept : Int) (x_placed : Int) (x_orderMany : Int) (x_outs : Int) (B : Int → Int) (O : Int → Int) (U : Int → Int) (N : Int → Int) (k : Int) (hB : BOK B) (hk : 0 ≤ k ∧ k < 140) (hO : 0 ≤ O k ∧ O k ≤ 7) (hU : 0 ≤ U k ∧ U k ≤ 127) (hN : 0 ≤ N k ∧ N k ≤ 1000) : CtI T yX12_isWanted wsX12_isWanted rmX12_isWanted 0 0 [.ref g0, .int (iI k)] [(g0, .inr (12, .ref (r 0) :: .ref (r 1) :: .ref (r 2) :: .int (iI x_taped) :: .int (iI x_at) :: .int (iI x_token) :: .int (iI x_from) :: .long (lI x_word) :: .int (iI x_value) :: .int (iI x_size) :: .int (iI x_fault) :: .int (iI x_faultAt) :: .ref (r 3) :: .ref (r 4) :: .ref (r 5) :: .ref (r 6) :: .ref (r 7) :: .ref (r 8) :: .ref (r 9) :: .int (iI x_steps) :: .int (iI x_counted) :: .ref (r 10) :: .int (iI x_opens) :: .ref (r 11) :: .ref (r 12) :: .int (iI x_queued) :: .ref (r 13) :: .ref (r 14) :: .int (iI x_theMask) :: .ref (r 15) :: .ref (r 16) :: .int (iI x_kept) :: .int (iI x_placed) :: .ref (r 17) :: .ref (r 18) :: .ref (r 19) :: .int (iI x_orderMany) :: .ref (r 20) :: .ref (r 21) :: .int (iI x_outs) :: [])), ((r 0), .inl (T 0, 2880, .inl (fun j : Nat => iI (B j)))), ((r 4), .inl (T 0, 140, .inl (fun j : Nat => iI (O j)))), ((r 5), .inl (T 0, 140, .inl (fun j : Nat => iI (U j)))), ((r 6), .inl (T 0, 140, .inl (fun j : Nat => iI (N j))))] (fun r8 u => r8 = (iI (bI (wantS B (O k) (U k) (N k)))) ∧ u = [(g0, .inr (12, .ref (r 0) :: .ref (r 1) :: .ref (r 2) :: .int (iI x_taped) :: .int (iI x_at) :: .int (iI x_token) :: .int (iI x_from) :: .long (lI x_word) :: .int (iI x_value) :: .int (iI x_size) :: .int (iI x_fault) :: .int (iI x_faultAt) :: .ref (r 3) :: .ref (r 4) :: .ref (r 5) :: .ref (r 6) :: .ref (r 7) :: .ref (r 8) :: .ref (r 9) :: .int (iI x_steps) :: .int (iI x_counted) :: .ref (r 10) :: .int (iI x_opens) :: .ref (r 11) :: .ref (r 12) :: .int (iI x_queued) :: .ref (r 13) :: .ref (r 14) :: .int (iI x_theMask) :: .ref (r 15) :: .ref (r 16) :: .int (iI x_kept) :: .int (iI x_placed) :: .ref (r 17) :: .ref (r 18) :: .ref (r 19) :: .int (iI x_orderMany) :: .ref (r 20) :: .ref (r 21) :: .int (iI x_outs) :: [])), ((r 0), .inl (T 0, 2880, .inl (fun j : Nat => iI (B j)))), ((r 4), .inl (T 0, 140, .inl (fun j : Nat => iI (O j)))), ((r 5), .inl (T 0, 140, .inl (fun j : Nat => iI (U j)))), ((r 6), .inl (T 0, 140, .inl (fun j : Nat => iI (N j))))]) := by
  refine ctI_of (cc := cX12_isWanted) (maxL := 4) (ret := (some .boolean)) (by decide +kernel) rfl rfl (fun r u hp => by obtain ⟨rfl, -⟩ := hp; exact nz_bool _) (Nat.le_of_ble_eq_true rfl) (fun X h hinit hr => ?_)
  refine j_eq (lv' := [(0, .ref g0), (1, .int (iI k))]) rfl rfl rfl rfl rfl rfl ?_
  refine j_aload_n h dX12_isWanted_0 0 rfl rfl ?_
  refine j_aload_n h dX12_isWanted_1 0 rfl rfl ?_
  refine j_get h dX12_isWanted_2 f_X12_isWanted_24 0 rfl rfl ?_
  refine j_iload_n h dX12_isWanted_5 1 rfl rfl ?_
  refine j_iald (f := O) h k dX12_isWanted_6 2 rfl (by decide) (by omega) (by omega) ?_
  refine j_callVi (As := [.int (iI (O k))]) (wr := [((r 4), .inl (T 0, 140, .inl (fun j : Nat => iI (O j)))), ((r 5), .inl (T 0, 140, .inl (fun j : Nat => iI (U j)))), ((r 6), .inl (T 0, 140, .inl (fun j : Nat => iI (N j))))]) (cells' := 0) (slots' := 0) h dX12_isWanted_7 (ct_X12_volumeOf T g0 r x_taped x_at x_token x_from x_word x_value x_size x_fault x_faultAt x_steps x_counted x_opens x_queued x_theMask x_kept x_placed x_orderMany x_outs B (O k) (by first | assumption | omega) (by first | assumption | omega)) k_X12_volumeOf gX12_isWanted_X12_volumeOf rfl rfl 0 rfl ⟨Nat.le_of_ble_eq_true rfl, Nat.le_of_ble_eq_true rfl⟩ rfl rfl (Nat.le_of_ble_eq_true rfl) ⟨Nat.le_of_ble_eq_true rfl, Nat.le_of_ble_eq_true rfl⟩ rfl rfl [0, 1] [2, 3, 4] rfl rfl rfl rfl (by decide) (fun r9 u9 p1 => ?_)
  obtain ⟨rfl, rfl⟩ := p1
  have hv9 := vol_rng B (O k)
  refine j_eq (ws' := [((r 4), .inl (T 0, 140, .inl (fun j : Nat => iI (O j)))), ((r 5), .inl (T 0, 140, .inl (fun j : Nat => iI (U j)))), ((r 6), .inl (T 0, 140, .inl (fun j : Nat => iI (N j)))), (g0, .inr (12, .ref (r 0) :: .ref (r 1) :: .ref (r 2) :: .int (iI x_taped) :: .int (iI x_at) :: .int (iI x_token) :: .int (iI x_from) :: .long (lI x_word) :: .int (iI x_value) :: .int (iI x_size) :: .int (iI x_fault) :: .int (iI x_faultAt) :: .ref (r 3) :: .ref (r 4) :: .ref (r 5) :: .ref (r 6) :: .ref (r 7) :: .ref (r 8) :: .ref (r 9) :: .int (iI x_steps) :: .int (iI x_counted) :: .ref (r 10) :: .int (iI x_opens) :: .ref (r 11) :: .ref (r 12) :: .int (iI x_queued) :: .ref (r 13) :: .ref (r 14) :: .int (iI x_theMask) :: .ref (r 15) :: .ref (r 16) :: .int (iI x_kept) :: .int (iI x_placed) :: .ref (r 17) :: .ref (r 18) :: .ref (r 19) :: .int (iI x_orderMany) :: .ref (r 20) :: .ref (r 21) :: .int (iI x_outs) :: [])), ((r 0), .inl (T 0, 2880, .inl (fun j : Nat => iI (B j))))]) rfl rfl rfl rfl rfl rfl ?_
  refine j_istore_n (lv' := [(0, .ref g0), (1, .int (iI k)), (2, .int (iI (vol B (O k))))]) h dX12_isWanted_10 [1, 2, 0] rfl (by decide) rfl ?_
  refine j_bipush h dX12_isWanted_11 (by decide) ?_
  refine j_aload_n h dX12_isWanted_13 0 rfl rfl ?_
  refine j_get h dX12_isWanted_14 f_X12_isWanted_30 3 rfl rfl ?_
  refine j_iload_n h dX12_isWanted_17 1 rfl rfl ?_
  refine j_iald (f := N) h k dX12_isWanted_18 2 rfl (by decide) (by omega) (by omega) ?_
  refine j_imul h dX12_isWanted_19 ?_
  refine j_istore_n (lv' := [(0, .ref g0), (1, .int (iI k)), (2, .int (iI (vol B (O k)))), (3, .int (iI (10 * (N k))))]) h dX12_isWanted_20 [1, 2, 3, 0] rfl (by decide) rfl ?_
  refine j_aload_n h dX12_isWanted_21 0 rfl rfl ?_
  refine j_get h dX12_isWanted_22 f_X12_isWanted_27 3 rfl rfl ?_
  refine j_iload_n h dX12_isWanted_25 1 rfl rfl ?_
  refine j_iald (f := U) h k dX12_isWanted_26 1 rfl (by decide) (by omega) (by omega) ?_
  refine j_bipush h dX12_isWanted_27 (by decide) ?_
  refine j_icmp_ne h 45 dX12_isWanted_29 (by decide) (by omega) (by omega) (fun c2 => ?_) (fun c2 => ?_)
  · skip
    refine j_aload_n h dX12_isWanted_45 0 rfl rfl ?_
    refine j_get h dX12_isWanted_46 f_X12_isWanted_27 3 rfl rfl ?_
    refine j_iload_n h dX12_isWanted_49 1 rfl rfl ?_
    refine j_iald (f := U) h k dX12_isWanted_50 1 rfl (by decide) (by omega) (by omega) ?_
    refine j_bipush h dX12_isWanted_51 (by decide) ?_
    refine j_icmp_ne h 69 dX12_isWanted_53 (by decide) (by omega) (by omega) (fun c3 => ?_) (fun c3 => ?_)
    · skip
      refine j_iload_n h dX12_isWanted_69 2 rfl rfl ?_
      refine j_iload_n h dX12_isWanted_70 3 rfl rfl ?_
      refine j_icmp_le h 78 dX12_isWanted_71 (by decide) (by omega) (by omega) (fun c4 => ?_) (fun c4 => ?_)
      · skip
        refine j_iconst h dX12_isWanted_78 ?_
        refine j_ws (ws' := [(g0, .inr (12, .ref (r 0) :: .ref (r 1) :: .ref (r 2) :: .int (iI x_taped) :: .int (iI x_at) :: .int (iI x_token) :: .int (iI x_from) :: .long (lI x_word) :: .int (iI x_value) :: .int (iI x_size) :: .int (iI x_fault) :: .int (iI x_faultAt) :: .ref (r 3) :: .ref (r 4) :: .ref (r 5) :: .ref (r 6) :: .ref (r 7) :: .ref (r 8) :: .ref (r 9) :: .int (iI x_steps) :: .int (iI x_counted) :: .ref (r 10) :: .int (iI x_opens) :: .ref (r 11) :: .ref (r 12) :: .int (iI x_queued) :: .ref (r 13) :: .ref (r 14) :: .int (iI x_theMask) :: .ref (r 15) :: .ref (r 16) :: .int (iI x_kept) :: .int (iI x_placed) :: .ref (r 17) :: .ref (r 18) :: .ref (r 19) :: .int (iI x_orderMany) :: .ref (r 20) :: .ref (r 21) :: .int (iI x_outs) :: [])), ((r 0), .inl (T 0, 2880, .inl (fun j : Nat => iI (B j)))), ((r 4), .inl (T 0, 140, .inl (fun j : Nat => iI (O j)))), ((r 5), .inl (T 0, 140, .inl (fun j : Nat => iI (U j)))), ((r 6), .inl (T 0, 140, .inl (fun j : Nat => iI (N j))))]) [3, 4, 0, 1, 2] rfl rfl ?_
        exact hr _ _ _ _ dX12_isWanted_79 ⟨(congrArg (fun b9 => iI (bI b9)) (show false = wantS B (O k) (U k) (N k) by unfold wantS; (repeat (first | rw [if_pos (by omega)] | rw [if_neg (by omega)])); symm; simp; omega)), rfl⟩
      · skip
        refine j_iconst h dX12_isWanted_74 ?_
        refine j_goto (tgt := 79) h dX12_isWanted_75 (by decide) ?_
        refine j_ws (ws' := [(g0, .inr (12, .ref (r 0) :: .ref (r 1) :: .ref (r 2) :: .int (iI x_taped) :: .int (iI x_at) :: .int (iI x_token) :: .int (iI x_from) :: .long (lI x_word) :: .int (iI x_value) :: .int (iI x_size) :: .int (iI x_fault) :: .int (iI x_faultAt) :: .ref (r 3) :: .ref (r 4) :: .ref (r 5) :: .ref (r 6) :: .ref (r 7) :: .ref (r 8) :: .ref (r 9) :: .int (iI x_steps) :: .int (iI x_counted) :: .ref (r 10) :: .int (iI x_opens) :: .ref (r 11) :: .ref (r 12) :: .int (iI x_queued) :: .ref (r 13) :: .ref (r 14) :: .int (iI x_theMask) :: .ref (r 15) :: .ref (r 16) :: .int (iI x_kept) :: .int (iI x_placed) :: .ref (r 17) :: .ref (r 18) :: .ref (r 19) :: .int (iI x_orderMany) :: .ref (r 20) :: .ref (r 21) :: .int (iI x_outs) :: [])), ((r 0), .inl (T 0, 2880, .inl (fun j : Nat => iI (B j)))), ((r 4), .inl (T 0, 140, .inl (fun j : Nat => iI (O j)))), ((r 5), .inl (T 0, 140, .inl (fun j : Nat => iI (U j)))), ((r 6), .inl (T 0, 140, .inl (fun j : Nat => iI (N j))))]) [3, 4, 0, 1, 2] rfl rfl ?_
        exact hr _ _ _ _ dX12_isWanted_79 ⟨(congrArg (fun b9 => iI (bI b9)) (show true = wantS B (O k) (U k) (N k) by unfold wantS; (repeat (first | rw [if_pos (by omega)] | rw [if_neg (by omega)])); symm; simp; omega)), rfl⟩
    · skip
      refine j_iload_n h dX12_isWanted_56 2 rfl rfl ?_
      refine j_iload_n h dX12_isWanted_57 3 rfl rfl ?_
      refine j_icmp_ge h 65 dX12_isWanted_58 (by decide) (by omega) (by omega) (fun c5 => ?_) (fun c5 => ?_)
      · skip
        refine j_iconst h dX12_isWanted_65 ?_
        refine j_goto (tgt := 79) h dX12_isWanted_66 (by decide) ?_
        refine j_ws (ws' := [(g0, .inr (12, .ref (r 0) :: .ref (r 1) :: .ref (r 2) :: .int (iI x_taped) :: .int (iI x_at) :: .int (iI x_token) :: .int (iI x_from) :: .long (lI x_word) :: .int (iI x_value) :: .int (iI x_size) :: .int (iI x_fault) :: .int (iI x_faultAt) :: .ref (r 3) :: .ref (r 4) :: .ref (r 5) :: .ref (r 6) :: .ref (r 7) :: .ref (r 8) :: .ref (r 9) :: .int (iI x_steps) :: .int (iI x_counted) :: .ref (r 10) :: .int (iI x_opens) :: .ref (r 11) :: .ref (r 12) :: .int (iI x_queued) :: .ref (r 13) :: .ref (r 14) :: .int (iI x_theMask) :: .ref (r 15) :: .ref (r 16) :: .int (iI x_kept) :: .int (iI x_placed) :: .ref (r 17) :: .ref (r 18) :: .ref (r 19) :: .int (iI x_orderMany) :: .ref (r 20) :: .ref (r 21) :: .int (iI x_outs) :: [])), ((r 0), .inl (T 0, 2880, .inl (fun j : Nat => iI (B j)))), ((r 4), .inl (T 0, 140, .inl (fun j : Nat => iI (O j)))), ((r 5), .inl (T 0, 140, .inl (fun j : Nat => iI (U j)))), ((r 6), .inl (T 0, 140, .inl (fun j : Nat => iI (N j))))]) [3, 4, 0, 1, 2] rfl rfl ?_
        exact hr _ _ _ _ dX12_isWanted_79 ⟨(congrArg (fun b9 => iI (bI b9)) (show false = wantS B (O k) (U k) (N k) by unfold wantS; (repeat (first | rw [if_pos (by omega)] | rw [if_neg (by omega)])); symm; simp; omega)), rfl⟩
      · skip
        refine j_iconst h dX12_isWanted_61 ?_
        refine j_goto (tgt := 79) h dX12_isWanted_62 (by decide) ?_
        refine j_ws (ws' := [(g0, .inr (12, .ref (r 0) :: .ref (r 1) :: .ref (r 2) :: .int (iI x_taped) :: .int (iI x_at) :: .int (iI x_token) :: .int (iI x_from) :: .long (lI x_word) :: .int (iI x_value) :: .int (iI x_size) :: .int (iI x_fault) :: .int (iI x_faultAt) :: .ref (r 3) :: .ref (r 4) :: .ref (r 5) :: .ref (r 6) :: .ref (r 7) :: .ref (r 8) :: .ref (r 9) :: .int (iI x_steps) :: .int (iI x_counted) :: .ref (r 10) :: .int (iI x_opens) :: .ref (r 11) :: .ref (r 12) :: .int (iI x_queued) :: .ref (r 13) :: .ref (r 14) :: .int (iI x_theMask) :: .ref (r 15) :: .ref (r 16) :: .int (iI x_kept) :: .int (iI x_placed) :: .ref (r 17) :: .ref (r 18) :: .ref (r 19) :: .int (iI x_orderMany) :: .ref (r 20) :: .ref (r 21) :: .int (iI x_outs) :: [])), ((r 0), .inl (T 0, 2880, .inl (fun j : Nat => iI (B j)))), ((r 4), .inl (T 0, 140, .inl (fun j : Nat => iI (O j)))), ((r 5), .inl (T 0, 140, .inl (fun j : Nat => iI (U j)))), ((r 6), .inl (T 0, 140, .inl (fun j : Nat => iI (N j))))]) [3, 4, 0, 1, 2] rfl rfl ?_
        exact hr _ _ _ _ dX12_isWanted_79 ⟨(congrArg (fun b9 => iI (bI b9)) (show true = wantS B (O k) (U k) (N k) by unfold wantS; (repeat (first | rw [if_pos (by omega)] | rw [if_neg (by omega)])); symm; simp; omega)), rfl⟩
  · skip
    refine j_iload_n h dX12_isWanted_32 2 rfl rfl ?_
    refine j_iload_n h dX12_isWanted_33 3 rfl rfl ?_
    refine j_icmp_ne h 41 dX12_isWanted_34 (by decide) (by omega) (by omega) (fun c6 => ?_) (fun c6 => ?_)
    · skip
      refine j_iconst h dX12_isWanted_41 ?_
      refine j_goto (tgt := 79) h dX12_isWanted_42 (by decide) ?_
      refine j_ws (ws' := [(g0, .inr (12, .ref (r 0) :: .ref (r 1) :: .ref (r 2) :: .int (iI x_taped) :: .int (iI x_at) :: .int (iI x_token) :: .int (iI x_from) :: .long (lI x_word) :: .int (iI x_value) :: .int (iI x_size) :: .int (iI x_fault) :: .int (iI x_faultAt) :: .ref (r 3) :: .ref (r 4) :: .ref (r 5) :: .ref (r 6) :: .ref (r 7) :: .ref (r 8) :: .ref (r 9) :: .int (iI x_steps) :: .int (iI x_counted) :: .ref (r 10) :: .int (iI x_opens) :: .ref (r 11) :: .ref (r 12) :: .int (iI x_queued) :: .ref (r 13) :: .ref (r 14) :: .int (iI x_theMask) :: .ref (r 15) :: .ref (r 16) :: .int (iI x_kept) :: .int (iI x_placed) :: .ref (r 17) :: .ref (r 18) :: .ref (r 19) :: .int (iI x_orderMany) :: .ref (r 20) :: .ref (r 21) :: .int (iI x_outs) :: [])), ((r 0), .inl (T 0, 2880, .inl (fun j : Nat => iI (B j)))), ((r 4), .inl (T 0, 140, .inl (fun j : Nat => iI (O j)))), ((r 5), .inl (T 0, 140, .inl (fun j : Nat => iI (U j)))), ((r 6), .inl (T 0, 140, .inl (fun j : Nat => iI (N j))))]) [3, 4, 0, 1, 2] rfl rfl ?_
      exact hr _ _ _ _ dX12_isWanted_79 ⟨(congrArg (fun b9 => iI (bI b9)) (show false = wantS B (O k) (U k) (N k) by unfold wantS; (repeat (first | rw [if_pos (by omega)] | rw [if_neg (by omega)])); symm; simp; omega)), rfl⟩
    · skip
      refine j_iconst h dX12_isWanted_37 ?_
      refine j_goto (tgt := 79) h dX12_isWanted_38 (by decide) ?_
      refine j_ws (ws' := [(g0, .inr (12, .ref (r 0) :: .ref (r 1) :: .ref (r 2) :: .int (iI x_taped) :: .int (iI x_at) :: .int (iI x_token) :: .int (iI x_from) :: .long (lI x_word) :: .int (iI x_value) :: .int (iI x_size) :: .int (iI x_fault) :: .int (iI x_faultAt) :: .ref (r 3) :: .ref (r 4) :: .ref (r 5) :: .ref (r 6) :: .ref (r 7) :: .ref (r 8) :: .ref (r 9) :: .int (iI x_steps) :: .int (iI x_counted) :: .ref (r 10) :: .int (iI x_opens) :: .ref (r 11) :: .ref (r 12) :: .int (iI x_queued) :: .ref (r 13) :: .ref (r 14) :: .int (iI x_theMask) :: .ref (r 15) :: .ref (r 16) :: .int (iI x_kept) :: .int (iI x_placed) :: .ref (r 17) :: .ref (r 18) :: .ref (r 19) :: .int (iI x_orderMany) :: .ref (r 20) :: .ref (r 21) :: .int (iI x_outs) :: [])), ((r 0), .inl (T 0, 2880, .inl (fun j : Nat => iI (B j)))), ((r 4), .inl (T 0, 140, .inl (fun j : Nat => iI (O j)))), ((r 5), .inl (T 0, 140, .inl (fun j : Nat => iI (U j)))), ((r 6), .inl (T 0, 140, .inl (fun j : Nat => iI (N j))))]) [3, 4, 0, 1, 2] rfl rfl ?_
      exact hr _ _ _ _ dX12_isWanted_79 ⟨(congrArg (fun b9 => iI (bI b9)) (show true = wantS B (O k) (U k) (N k) by unfold wantS; (repeat (first | rw [if_pos (by omega)] | rw [if_neg (by omega)])); symm; simp; omega)), rfl⟩

