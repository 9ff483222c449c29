abbrev rmX12_in : Room := { frames := 0, cells := 0, slots := 0, locals := 0 }
set_option maxHeartbeats 600000 in
set_option maxRecDepth 100000 in
theorem ct_X12_in (T : Nat → ClassId) (a : Int) (b : Int) (e : Int) (ha : -9223372036854775808 ≤ a ∧ a ≤ 9223372036854775807) (hb : -9223372036854775808 ≤ b ∧ b ≤ 9223372036854775807) (he : -9223372036854775808 ≤ e ∧ e ≤ 9223372036854775807) : CtI T yX12_in wsX12_in rmX12_in 0 0 [.long (lI a), .long (lI b), .long (lI e)] [] (fun r8 u => r8 = (iI (bI (decide (b ≤ a ∧ a ≤ e)))) ∧ u = []) := by
  refine ctI_of (cc := cX12_in) (maxL := 6) (ret := (some .boolean)) (by decide +kernel) rfl rfl (fun r u hp => by obtain ⟨rfl, -⟩ := hp; exact nz_bool _) (Nat.le_of_ble_eq_true rfl) (fun X h hinit hr => ?_)
  refine j_eq (lv' := [(0, .long (lI a)), (2, .long (lI b)), (4, .long (lI e))]) rfl rfl rfl rfl rfl rfl ?_
  refine j_lload_n h dX12_in_0 0 rfl rfl ?_
  refine j_lload_n h dX12_in_1 1 rfl rfl ?_
  refine j_lcmp h dX12_in_2 (by omega) (by omega) ?_
  refine j_if_lt h 17 dX12_in_3 (by decide) (by first | (have := cmpI_rng a b; omega) | omega) (fun c1 => ?_) (fun c1 => ?_)
  · skip
    have c1 : a < b := by first | exact cmpI_lt.mp c1 | exact cmpI_lt.mp (by omega)
    refine j_iconst h dX12_in_17 ?_
    exact hr _ _ _ _ dX12_in_18 ⟨(congrArg (fun b9 => iI (bI b9)) (show false = decide (b ≤ a ∧ a ≤ e) by symm; simp; omega)), rfl⟩
  · skip
    have c1 : ¬ (a < b) := fun z9 => by have z8 := cmpI_lt.mpr z9; omega
    refine j_lload_n h dX12_in_6 0 rfl rfl ?_
    refine j_lload h dX12_in_7 2 rfl ?_
    refine j_lcmp h dX12_in_9 (by omega) (by omega) ?_
    refine j_if_gt h 17 dX12_in_10 (by decide) (by first | (have := cmpI_rng a e; omega) | omega) (fun c2 => ?_) (fun c2 => ?_)
    · skip
      have c2 : ¬ (a ≤ e) := fun z9 => by have z8 := cmpI_le.mpr z9; omega
      refine j_iconst h dX12_in_17 ?_
      exact hr _ _ _ _ dX12_in_18 ⟨(congrArg (fun b9 => iI (bI b9)) (show false = decide (b ≤ a ∧ a ≤ e) by symm; simp; omega)), rfl⟩
    · skip
      have c2 : a ≤ e := by first | exact cmpI_le.mp c2 | exact cmpI_le.mp (by omega)
      refine j_iconst h dX12_in_13 ?_
      refine j_goto (tgt := 18) h dX12_in_14 (by decide) ?_
      exact hr _ _ _ _ dX12_in_18 ⟨(congrArg (fun b9 => iI (bI b9)) (show true = decide (b ≤ a ∧ a ≤ e) by symm; simp; omega)), rfl⟩

abbrev rmX12_noPlace : Room := { frames := 1, cells := 0, slots := 0, locals := 25 }
theorem k_X12_in : CkOK yX12_in wsX12_in rmX12_in 0 0 cX12_in 6 (some .boolean) 3 := ⟨⟨_, rfl⟩, rfl, rfl, by decide +kernel⟩
set_option maxHeartbeats 600000 in
set_option maxRecDepth 100000 in
theorem ct_X12_noPlace (T : Nat → ClassId) (a : Int) (ha : -2147483648 ≤ a ∧ a ≤ 2147483647) : CtI T yX12_noPlace wsX12_noPlace rmX12_noPlace 0 0 [.int (iI a)] [] (fun r8 u => r8 = (iI (bI (decide (a < 0 ∨ 143 < a)))) ∧ u = []) := by
  refine ctI_of (cc := cX12_noPlace) (maxL := 1) (ret := (some .boolean)) (by decide +kernel) rfl rfl (fun r u hp => by obtain ⟨rfl, -⟩ := hp; exact nz_bool _) (Nat.le_of_ble_eq_true rfl) (fun X h hinit hr => ?_)
  refine j_eq (lv' := [(0, .int (iI a))]) rfl rfl rfl rfl rfl rfl ?_
  refine j_iload_n h dX12_noPlace_0 0 rfl rfl ?_
  refine j_i2l h dX12_noPlace_1 (by omega) ?_
  refine j_lconst h dX12_noPlace_2 ?_
  refine j_eq rfl rfl rfl rfl (stk' := [.long (lI 0), .long (lI a)]) rfl rfl ?_
  refine j_ldc2 (z := 143) h 143 dX12_noPlace_3 (by decide +kernel) (List.mem_of_getElem? (i := 1) rfl) ?_
  refine j_callSi (As := [.long (lI a), .long (lI 0), .long (lI 143)]) (wr := []) (cells' := 0) (slots' := 0) h dX12_noPlace_6 (ct_X12_in T a 0 143 (by first | assumption | omega) (by first | assumption | omega) (by first | assumption | omega)) k_X12_in gX12_noPlace_X12_in ⟨Nat.le_of_ble_eq_true rfl, Nat.le_of_ble_eq_true rfl⟩ rfl rfl (Nat.le_of_ble_eq_true rfl) ⟨Nat.le_of_ble_eq_true rfl, Nat.le_of_ble_eq_true rfl⟩ rfl rfl [] [] rfl rfl rfl rfl (by decide) (fun r9 u9 p1 => ?_)
  obtain ⟨rfl, rfl⟩ := p1
  refine j_eq (ws' := []) rfl rfl rfl rfl rfl rfl ?_
  refine j_ifneB h 16 dX12_noPlace_9 (by decide) (fun c2 => ?_) (fun c2 => ?_)
  · skip
    replace c2 := of_decide_eq_true c2
    refine j_iconst h dX12_noPlace_16 ?_
    exact hr _ _ _ _ dX12_noPlace_17 ⟨(congrArg (fun b9 => iI (bI b9)) (show false = decide (a < 0 ∨ 143 < a) by simp; omega)), rfl⟩
  · skip
    replace c2 := of_decide_eq_false c2
    refine j_iconst h dX12_noPlace_12 ?_
    refine j_goto (tgt := 17) h dX12_noPlace_13 (by decide) ?_
    exact hr _ _ _ _ dX12_noPlace_17 ⟨(congrArg (fun b9 => iI (bI b9)) (show true = decide (a < 0 ∨ 143 < a) by simp; omega)), rfl⟩

abbrev rmX12_beside : Room := { frames := 0, cells := 0, slots := 0, locals := 0 }
set_option maxHeartbeats 600000 in
set_option maxRecDepth 100000 in
/-- the cube beside a cube on a way -/
theorem ct_X12_beside (T : Nat → ClassId) (c : Int) (w : Int) (hc : 0 ≤ c ∧ c < 2880) (hw : 0 ≤ w ∧ w ≤ 5) : CtI T yX12_beside wsX12_beside rmX12_beside 0 0 [.int (iI c), .int (iI w)] [] (fun r8 u => r8 = (iI (bes c w)) ∧ u = []) := by
  refine ctI_of (cc := cX12_beside) (maxL := 5) (ret := (some .int)) (by decide +kernel) rfl rfl (fun r u hp => by obtain ⟨rfl, -⟩ := hp; rfl) (Nat.le_of_ble_eq_true rfl) (fun X h hinit hr => ?_)
  refine j_eq (lv' := [(0, .int (iI c)), (1, .int (iI w))]) rfl rfl rfl rfl rfl rfl ?_
  refine j_iload_n h dX12_beside_0 0 rfl rfl ?_
  refine j_bipush h dX12_beside_1 (by decide) ?_
  refine j_irem h dX12_beside_3 (by omega) (by omega) ?_
  refine j_istore_n (lv' := [(0, .int (iI c)), (1, .int (iI w)), (2, .int (iI (c % 12)))]) h dX12_beside_4 [1, 2, 0] rfl (by decide) rfl ?_
  refine j_iload_n h dX12_beside_5 0 rfl rfl ?_
  refine j_bipush h dX12_beside_6 (by decide) ?_
  refine j_idiv h dX12_beside_8 (by omega) (by omega) ?_
  refine j_bipush h dX12_beside_9 (by decide) ?_
  refine j_irem h dX12_beside_11 (by omega) (by omega) ?_
  refine j_istore_n (lv' := [(0, .int (iI c)), (1, .int (iI w)), (2, .int (iI (c % 12))), (3, .int (iI ((c / 12) % 12)))]) h dX12_beside_12 [1, 2, 3, 0] rfl (by decide) rfl ?_
  refine j_iload_n h dX12_beside_13 0 rfl rfl ?_
  refine j_sipush h dX12_beside_14 (by decide) ?_
  refine j_idiv h dX12_beside_17 (by omega) (by omega) ?_
  refine j_istore (lv' := [(0, .int (iI c)), (1, .int (iI w)), (2, .int (iI (c % 12))), (3, .int (iI ((c / 12) % 12))), (4, .int (iI (c / 144)))]) h dX12_beside_18 [1, 2, 3, 4, 0] (by decide) rfl ?_
  refine j_iload_n h dX12_beside_20 1 rfl rfl ?_
  rcases (show w = 0 ∨ w = 1 ∨ w = 2 ∨ w = 3 ∨ w = 4 ∨ (w < 0 ∨ 4 < w) by omega) with c1 | c1 | c1 | c1 | c1 | c1
  · skip
    refine j_tabIn h 56 dX12_beside_21 (by omega) (by omega) (by omega) (by rw [c1]; rfl) (by decide) ?_
    refine j_iload_n h dX12_beside_56 2 rfl rfl ?_
    refine j_if_le h 66 dX12_beside_57 (by decide) (by omega) (fun c2 => ?_) (fun c2 => ?_)
    · skip
      refine j_iconst h dX12_beside_66 ?_
      exact hr _ _ _ _ dX12_beside_67 ⟨(congrArg iI (show (-1 : Int) = bes c w by unfold bes; split <;> (try split) <;> (try split) <;> (try split) <;> (try split) <;> (try split) <;> omega)), rfl⟩
    · skip
      refine j_iload_n h dX12_beside_60 0 rfl rfl ?_
      refine j_iconst h dX12_beside_61 ?_
      refine j_isub h dX12_beside_62 ?_
      refine j_goto (tgt := 67) h dX12_beside_63 (by decide) ?_
      exact hr _ _ _ _ dX12_beside_67 ⟨(congrArg iI (show ((c - 1) : Int) = bes c w by unfold bes; split <;> (try split) <;> (try split) <;> (try split) <;> (try split) <;> (try split) <;> omega)), rfl⟩
  · skip
    refine j_tabIn h 68 dX12_beside_21 (by omega) (by omega) (by omega) (by rw [c1]; rfl) (by decide) ?_
    refine j_iload_n h dX12_beside_68 2 rfl rfl ?_
    refine j_bipush h dX12_beside_69 (by decide) ?_
    refine j_icmp_ge h 80 dX12_beside_71 (by decide) (by omega) (by omega) (fun c3 => ?_) (fun c3 => ?_)
    · skip
      refine j_iconst h dX12_beside_80 ?_
      exact hr _ _ _ _ dX12_beside_81 ⟨(congrArg iI (show (-1 : Int) = bes c w by unfold bes; split <;> (try split) <;> (try split) <;> (try split) <;> (try split) <;> (try split) <;> omega)), rfl⟩
    · skip
      refine j_iload_n h dX12_beside_74 0 rfl rfl ?_
      refine j_iconst h dX12_beside_75 ?_
      refine j_iadd h dX12_beside_76 ?_
      refine j_goto (tgt := 81) h dX12_beside_77 (by decide) ?_
      exact hr _ _ _ _ dX12_beside_81 ⟨(congrArg iI (show ((c + 1) : Int) = bes c w by unfold bes; split <;> (try split) <;> (try split) <;> (try split) <;> (try split) <;> (try split) <;> omega)), rfl⟩
  · skip
    refine j_tabIn h 82 dX12_beside_21 (by omega) (by omega) (by omega) (by rw [c1]; rfl) (by decide) ?_
    refine j_iload_n h dX12_beside_82 3 rfl rfl ?_
    refine j_if_le h 93 dX12_beside_83 (by decide) (by omega) (fun c4 => ?_) (fun c4 => ?_)
    · skip
      refine j_iconst h dX12_beside_93 ?_
      exact hr _ _ _ _ dX12_beside_94 ⟨(congrArg iI (show (-1 : Int) = bes c w by unfold bes; split <;> (try split) <;> (try split) <;> (try split) <;> (try split) <;> (try split) <;> omega)), rfl⟩
    · skip
      refine j_iload_n h dX12_beside_86 0 rfl rfl ?_
      refine j_bipush h dX12_beside_87 (by decide) ?_
      refine j_isub h dX12_beside_89 ?_
      refine j_goto (tgt := 94) h dX12_beside_90 (by decide) ?_
      exact hr _ _ _ _ dX12_beside_94 ⟨(congrArg iI (show ((c - 12) : Int) = bes c w by unfold bes; split <;> (try split) <;> (try split) <;> (try split) <;> (try split) <;> (try split) <;> omega)), rfl⟩
  · skip
    refine j_tabIn h 95 dX12_beside_21 (by omega) (by omega) (by omega) (by rw [c1]; rfl) (by decide) ?_
    refine j_iload_n h dX12_beside_95 3 rfl rfl ?_
    refine j_bipush h dX12_beside_96 (by decide) ?_
    refine j_icmp_ge h 108 dX12_beside_98 (by decide) (by omega) (by omega) (fun c5 => ?_) (fun c5 => ?_)
    · skip
      refine j_iconst h dX12_beside_108 ?_
      exact hr _ _ _ _ dX12_beside_109 ⟨(congrArg iI (show (-1 : Int) = bes c w by unfold bes; split <;> (try split) <;> (try split) <;> (try split) <;> (try split) <;> (try split) <;> omega)), rfl⟩
    · skip
      refine j_iload_n h dX12_beside_101 0 rfl rfl ?_
      refine j_bipush h dX12_beside_102 (by decide) ?_
      refine j_iadd h dX12_beside_104 ?_
      refine j_goto (tgt := 109) h dX12_beside_105 (by decide) ?_
      exact hr _ _ _ _ dX12_beside_109 ⟨(congrArg iI (show ((c + 12) : Int) = bes c w by unfold bes; split <;> (try split) <;> (try split) <;> (try split) <;> (try split) <;> (try split) <;> omega)), rfl⟩
  · skip
    refine j_tabIn h 110 dX12_beside_21 (by omega) (by omega) (by omega) (by rw [c1]; rfl) (by decide) ?_
    refine j_iload h dX12_beside_110 4 rfl ?_
    refine j_if_le h 123 dX12_beside_112 (by decide) (by omega) (fun c6 => ?_) (fun c6 => ?_)
    · skip
      refine j_iconst h dX12_beside_123 ?_
      exact hr _ _ _ _ dX12_beside_124 ⟨(congrArg iI (show (-1 : Int) = bes c w by unfold bes; split <;> (try split) <;> (try split) <;> (try split) <;> (try split) <;> (try split) <;> omega)), rfl⟩
    · skip
      refine j_iload_n h dX12_beside_115 0 rfl rfl ?_
      refine j_sipush h dX12_beside_116 (by decide) ?_
      refine j_isub h dX12_beside_119 ?_
      refine j_goto (tgt := 124) h dX12_beside_120 (by decide) ?_
      exact hr _ _ _ _ dX12_beside_124 ⟨(congrArg iI (show ((c - 144) : Int) = bes c w by unfold bes; split <;> (try split) <;> (try split) <;> (try split) <;> (try split) <;> (try split) <;> omega)), rfl⟩
  · skip
    refine j_tabOut h 125 dX12_beside_21 (by omega) (by omega) (by decide) ?_
    refine j_iload h dX12_beside_125 4 rfl ?_
    refine j_bipush h dX12_beside_127 (by decide) ?_
    refine j_icmp_ge h 140 dX12_beside_129 (by decide) (by omega) (by omega) (fun c7 => ?_) (fun c7 => ?_)
    · skip
      refine j_iconst h dX12_beside_140 ?_
      exact hr _ _ _ _ dX12_beside_141 ⟨(congrArg iI (show (-1 : Int) = bes c w by unfold bes; split <;> (try split) <;> (try split) <;> (try split) <;> (try split) <;> (try split) <;> omega)), rfl⟩
    · skip
      refine j_iload_n h dX12_beside_132 0 rfl rfl ?_
      refine j_sipush h dX12_beside_133 (by decide) ?_
      refine j_iadd h dX12_beside_136 ?_
      refine j_goto (tgt := 141) h dX12_beside_137 (by decide) ?_
      exact hr _ _ _ _ dX12_beside_141 ⟨(congrArg iI (show ((c + 144) : Int) = bes c w by unfold bes; split <;> (try split) <;> (try split) <;> (try split) <;> (try split) <;> (try split) <;> omega)), rfl⟩

abbrev rmX12_many : Room := { frames := 0, cells := 0, slots := 0, locals := 0 }
theorem in_X12_many_X12 : ∀ w ∈ u_ws RX12 TX12 40, w ∈ wsX12_many := fun w hw => List.mem_cons_of_mem _ (List.mem_append_right _ (hw))
theorem f_X12_many_13 : FlOK RX12 13 wsX12_many 12 1 := ⟨_, _, _, rfl, by decide, in_X12_many_X12, List.mem_of_getElem? (i := 1) rfl⟩
set_option maxHeartbeats 600000 in
set_option maxRecDepth 100000 in
/-- how many places a mask has -/
theorem ct_X12_many (T : Nat → ClassId) (g0 : Nat) (r : Nat → Nat) (x_taped : Int) (x_at : Int) (x_token : Int) (x_from : Int) (x_word : Int) (x_value : Int) (x_size : Int) (x_fault : Int) (x_faultAt : Int) (x_steps : Int) (x_counted : Int) (x_opens : Int) (x_queued : Int) (x_theMask : Int) (x_kept : Int) (x_placed : Int) (x_orderMany : Int) (x_outs : Int) (A : Int → Bool) (k : Int) (hk : 0 ≤ k ∧ k ≤ 7) : CtI T yX12_many wsX12_many rmX12_many 0 0 [.ref g0, .int (iI k)] [(g0, .inr (12, .ref (r 0) :: .ref (r 1) :: .ref (r 2) :: .int (iI x_taped) :: .int (iI x_at) :: .int (iI x_token) :: .int (iI x_from) :: .long (lI x_word) :: .int (iI x_value) :: .int (iI x_size) :: .int (iI x_fault) :: .int (iI x_faultAt) :: .ref (r 3) :: .ref (r 4) :: .ref (r 5) :: .ref (r 6) :: .ref (r 7) :: .ref (r 8) :: .ref (r 9) :: .int (iI x_steps) :: .int (iI x_counted) :: .ref (r 10) :: .int (iI x_opens) :: .ref (r 11) :: .ref (r 12) :: .int (iI x_queued) :: .ref (r 13) :: .ref (r 14) :: .int (iI x_theMask) :: .ref (r 15) :: .ref (r 16) :: .int (iI x_kept) :: .int (iI x_placed) :: .ref (r 17) :: .ref (r 18) :: .ref (r 19) :: .int (iI x_orderMany) :: .ref (r 20) :: .ref (r 21) :: .int (iI x_outs) :: [])), ((r 1), .inl (T 1, 1152, .inl (fun j : Nat => iI (bI (A j)))))] (fun r8 u => r8 = (iI (sizeP A k)) ∧ u = [(g0, .inr (12, .ref (r 0) :: .ref (r 1) :: .ref (r 2) :: .int (iI x_taped) :: .int (iI x_at) :: .int (iI x_token) :: .int (iI x_from) :: .long (lI x_word) :: .int (iI x_value) :: .int (iI x_size) :: .int (iI x_fault) :: .int (iI x_faultAt) :: .ref (r 3) :: .ref (r 4) :: .ref (r 5) :: .ref (r 6) :: .ref (r 7) :: .ref (r 8) :: .ref (r 9) :: .int (iI x_steps) :: .int (iI x_counted) :: .ref (r 10) :: .int (iI x_opens) :: .ref (r 11) :: .ref (r 12) :: .int (iI x_queued) :: .ref (r 13) :: .ref (r 14) :: .int (iI x_theMask) :: .ref (r 15) :: .ref (r 16) :: .int (iI x_kept) :: .int (iI x_placed) :: .ref (r 17) :: .ref (r 18) :: .ref (r 19) :: .int (iI x_orderMany) :: .ref (r 20) :: .ref (r 21) :: .int (iI x_outs) :: [])), ((r 1), .inl (T 1, 1152, .inl (fun j : Nat => iI (bI (A j)))))]) := by
  refine ctI_of (cc := cX12_many) (maxL := 4) (ret := (some .int)) (by decide +kernel) rfl rfl (fun r u hp => by obtain ⟨rfl, -⟩ := hp; rfl) (Nat.le_of_ble_eq_true rfl) (fun X h hinit hr => ?_)
  refine j_eq (lv' := [(0, .ref g0), (1, .int (iI k))]) rfl rfl rfl rfl rfl rfl ?_
  refine j_iconst h dX12_many_0 ?_
  refine j_istore_n (lv' := [(0, .ref g0), (1, .int (iI k)), (2, .int (iI 0))]) h dX12_many_1 [1, 2, 0] rfl (by decide) rfl ?_
  refine j_iconst h dX12_many_2 ?_
  refine j_istore_n (lv' := [(0, .ref g0), (1, .int (iI k)), (2, .int (iI 0)), (3, .int (iI 0))]) h dX12_many_3 [1, 2, 3, 0] rfl (by decide) rfl ?_
  have lp4 : ∀ (n4 : Nat) (j : Int) (m : Int) (hj : 0 ≤ j ∧ j ≤ 144) (hn : m = cntI (fun p => A (144 * k + p)) j), ((144 - j).toNat) < n4 → J X 0 0 4 [(0, .ref g0), (1, .int (iI k)), (2, .int (iI m)), (3, .int (iI j))] [] [(g0, .inr (12, .ref (r 0) :: .ref (r 1) :: .ref (r 2) :: .int (iI x_taped) :: .int (iI x_at) :: .int (iI x_token) :: .int (iI x_from) :: .long (lI x_word) :: .int (iI x_value) :: .int (iI x_size) :: .int (iI x_fault) :: .int (iI x_faultAt) :: .ref (r 3) :: .ref (r 4) :: .ref (r 5) :: .ref (r 6) :: .ref (r 7) :: .ref (r 8) :: .ref (r 9) :: .int (iI x_steps) :: .int (iI x_counted) :: .ref (r 10) :: .int (iI x_opens) :: .ref (r 11) :: .ref (r 12) :: .int (iI x_queued) :: .ref (r 13) :: .ref (r 14) :: .int (iI x_theMask) :: .ref (r 15) :: .ref (r 16) :: .int (iI x_kept) :: .int (iI x_placed) :: .ref (r 17) :: .ref (r 18) :: .ref (r 19) :: .int (iI x_orderMany) :: .ref (r 20) :: .ref (r 21) :: .int (iI x_outs) :: [])), ((r 1), .inl (T 1, 1152, .inl (fun j : Nat => iI (bI (A j)))))] := by
    intro n4
    induction n4 with
    | zero => exact fun j m hj hn hn4 => absurd hn4 (Nat.not_lt_zero _)
    | succ n4 ih4 =>
      intro j m hj hn hn4
      refine j_iload_n h dX12_many_4 3 rfl rfl ?_
      refine j_sipush h dX12_many_5 (by decide) ?_
      refine j_icmp_ge h 40 dX12_many_8 (by decide) (by omega) (by omega) (fun c1 => ?_) (fun c1 => ?_)
      · skip
        refine j_iload_n h dX12_many_40 2 rfl rfl ?_
        exact hr _ _ _ _ dX12_many_41 ⟨(congrArg iI (show (m : Int) = (sizeP A k) by rw [hn, show j = 144 by omega]; rfl)), rfl⟩
      · skip
        refine j_iload_n h dX12_many_11 2 rfl rfl ?_
        refine j_aload_n h dX12_many_12 0 rfl rfl ?_
        refine j_get h dX12_many_13 f_X12_many_13 0 rfl rfl ?_
        refine j_sipush h dX12_many_16 (by decide) ?_
        refine j_iload_n h dX12_many_19 1 rfl rfl ?_
        refine j_imul h dX12_many_20 ?_
        refine j_iload_n h dX12_many_21 3 rfl rfl ?_
        refine j_iadd h dX12_many_22 ?_
        refine j_zald (f := A) h (144 * k + j) dX12_many_23 1 rfl (by decide) (by omega) (by omega) ?_
        refine j_ifeqB h 31 dX12_many_24 (by decide) (fun c2 => ?_) (fun c2 => ?_)
        · skip
          refine j_iconst h dX12_many_31 ?_
          refine j_iadd h dX12_many_32 ?_
          refine j_istore_n (lv' := [(0, .ref g0), (1, .int (iI k)), (2, .int (iI (m + 0))), (3, .int (iI j))]) h dX12_many_33 [1, 2, 0, 3] rfl (by decide) rfl ?_
          refine j_iinc (lv' := [(0, .ref g0), (1, .int (iI k)), (2, .int (iI (m + 0))), (3, .int (iI (j + 1)))]) h dX12_many_34 3 [1, 2, 3, 0] rfl (by decide) rfl ?_
          refine j_goto (tgt := 4) h dX12_many_37 (by decide) ?_
          exact ih4 (j + 1) (m + 0) (by first | assumption | omega) (by rw [cntI_f (p := (fun p => A (144 * k + p))) (by omega) c2]; omega) (by omega)
        · skip
          refine j_iconst h dX12_many_27 ?_
          refine j_goto (tgt := 32) h dX12_many_28 (by decide) ?_
          refine j_iadd h dX12_many_32 ?_
          refine j_istore_n (lv' := [(0, .ref g0), (1, .int (iI k)), (2, .int (iI (m + 1))), (3, .int (iI j))]) h dX12_many_33 [1, 2, 0, 3] rfl (by decide) rfl ?_
          refine j_iinc (lv' := [(0, .ref g0), (1, .int (iI k)), (2, .int (iI (m + 1))), (3, .int (iI (j + 1)))]) h dX12_many_34 3 [1, 2, 3, 0] rfl (by decide) rfl ?_
          refine j_goto (tgt := 4) h dX12_many_37 (by decide) ?_
          exact ih4 (j + 1) (m + 1) (by first | assumption | omega) (by rw [cntI_t (p := (fun p => A (144 * k + p))) (by omega) c2]; omega) (by omega)
  exact lp4 _ 0 0 (by first | assumption | omega) (by exact (cntI_0 _).symm) (Nat.lt_succ_self _)

abbrev rmX12_rect : Room := { frames := 1, cells := 0, slots := 0, locals := 25 }
theorem k_X12_many : CkOK yX12_many wsX12_many rmX12_many 0 0 cX12_many 4 (some .int) 1 := ⟨⟨_, rfl⟩, rfl, rfl, by decide +kernel⟩
theorem in_X12_rect_X12 : ∀ w ∈ u_ws RX12 TX12 40, w ∈ wsX12_rect := fun w hw => List.mem_cons_of_mem _ (List.mem_append_right _ (hw))
theorem f_X12_rect_13 : FlOK RX12 13 wsX12_rect 12 1 := ⟨_, _, _, rfl, by decide, in_X12_rect_X12, List.mem_of_getElem? (i := 3) rfl⟩
set_option maxHeartbeats 600000 in
set_option maxRecDepth 100000 in
/-- rect -/
theorem ct_X12_rect (T : Nat → ClassId) (g0 : Nat) (r : Nat → Nat) (x_taped : Int) (x_at : Int) (x_token : Int) (x_from : Int) (x_word : Int) (x_value : Int) (x_size : Int) (x_fault : Int) (x_faultAt : Int) (x_steps : Int) (x_counted : Int) (x_opens : Int) (x_queued : Int) (x_theMask : Int) (x_kept : Int) (x_placed : Int) (x_orderMany : Int) (x_outs : Int) (A : Int → Bool) (k : Int) (x0 : Int) (y0 : Int) (x1 : Int) (y1 : Int) (b : Bool) (hk : -2147483648 ≤ k ∧ k ≤ 2147483647) (hx0 : -2147483648 ≤ x0 ∧ x0 ≤ 2147483647) (hy0 : -2147483648 ≤ y0 ∧ y0 ≤ 2147483647) (hx1 : -2147483648 ≤ x1 ∧ x1 ≤ 2147483647) (hy1 : -2147483648 ≤ y1 ∧ y1 ≤ 2147483647) : CtI T yX12_rect wsX12_rect rmX12_rect 0 0 [.ref g0, .int (iI k), .int (iI x0), .int (iI y0), .int (iI x1), .int (iI y1), .int (iI (bI b))] [(g0, .inr (12, .ref (r 0) :: .ref (r 1) :: .ref (r 2) :: .int (iI x_taped) :: .int (iI x_at) :: .int (iI x_token) :: .int (iI x_from) :: .long (lI x_word) :: .int (iI x_value) :: .int (iI x_size) :: .int (iI x_fault) :: .int (iI x_faultAt) :: .ref (r 3) :: .ref (r 4) :: .ref (r 5) :: .ref (r 6) :: .ref (r 7) :: .ref (r 8) :: .ref (r 9) :: .int (iI x_steps) :: .int (iI x_counted) :: .ref (r 10) :: .int (iI x_opens) :: .ref (r 11) :: .ref (r 12) :: .int (iI x_queued) :: .ref (r 13) :: .ref (r 14) :: .int (iI x_theMask) :: .ref (r 15) :: .ref (r 16) :: .int (iI x_kept) :: .int (iI x_placed) :: .ref (r 17) :: .ref (r 18) :: .ref (r 19) :: .int (iI x_orderMany) :: .ref (r 20) :: .ref (r 21) :: .int (iI x_outs) :: [])), ((r 1), .inl (T 1, 1152, .inl (fun j : Nat => iI (bI (A j)))))] (fun r8 u => r8 = (iI ((rectS A k x0 y0 x1 y1 b).1)) ∧ u = [(g0, .inr (12, .ref (r 0) :: .ref (r 1) :: .ref (r 2) :: .int (iI x_taped) :: .int (iI x_at) :: .int (iI x_token) :: .int (iI x_from) :: .long (lI x_word) :: .int (iI x_value) :: .int (iI x_size) :: .int (iI x_fault) :: .int (iI x_faultAt) :: .ref (r 3) :: .ref (r 4) :: .ref (r 5) :: .ref (r 6) :: .ref (r 7) :: .ref (r 8) :: .ref (r 9) :: .int (iI x_steps) :: .int (iI x_counted) :: .ref (r 10) :: .int (iI x_opens) :: .ref (r 11) :: .ref (r 12) :: .int (iI x_queued) :: .ref (r 13) :: .ref (r 14) :: .int (iI x_theMask) :: .ref (r 15) :: .ref (r 16) :: .int (iI x_kept) :: .int (iI x_placed) :: .ref (r 17) :: .ref (r 18) :: .ref (r 19) :: .int (iI x_orderMany) :: .ref (r 20) :: .ref (r 21) :: .int (iI x_outs) :: [])), ((r 1), .inl (T 1, 1152, .inl (fun j : Nat => iI (bI (((rectS A k x0 y0 x1 y1 b).2) j)))))]) := by
  refine ctI_of (cc := cX12_rect) (maxL := 9) (ret := (some .int)) (by decide +kernel) rfl rfl (fun r u hp => by obtain ⟨rfl, -⟩ := hp; rfl) (Nat.le_of_ble_eq_true rfl) (fun X h hinit hr => ?_)
  refine j_eq (lv' := [(0, .ref g0), (1, .int (iI k)), (2, .int (iI x0)), (3, .int (iI y0)), (4, .int (iI x1)), (5, .int (iI y1)), (6, .int (iI (bI b)))]) rfl rfl rfl rfl rfl rfl ?_
  refine j_iload_n h dX12_rect_0 1 rfl rfl ?_
  refine j_i2l h dX12_rect_1 (by omega) ?_
  refine j_lconst h dX12_rect_2 ?_
  refine j_eq rfl rfl rfl rfl (stk' := [.long (lI 0), .long (lI k)]) rfl rfl ?_
  refine j_ldc2 (z := 7) h 7 dX12_rect_3 (by decide +kernel) (List.mem_of_getElem? (i := 1) rfl) ?_
  refine j_callSi (As := [.long (lI k), .long (lI 0), .long (lI 7)]) (wr := [(g0, .inr (12, .ref (r 0) :: .ref (r 1) :: .ref (r 2) :: .int (iI x_taped) :: .int (iI x_at) :: .int (iI x_token) :: .int (iI x_from) :: .long (lI x_word) :: .int (iI x_value) :: .int (iI x_size) :: .int (iI x_fault) :: .int (iI x_faultAt) :: .ref (r 3) :: .ref (r 4) :: .ref (r 5) :: .ref (r 6) :: .ref (r 7) :: .ref (r 8) :: .ref (r 9) :: .int (iI x_steps) :: .int (iI x_counted) :: .ref (r 10) :: .int (iI x_opens) :: .ref (r 11) :: .ref (r 12) :: .int (iI x_queued) :: .ref (r 13) :: .ref (r 14) :: .int (iI x_theMask) :: .ref (r 15) :: .ref (r 16) :: .int (iI x_kept) :: .int (iI x_placed) :: .ref (r 17) :: .ref (r 18) :: .ref (r 19) :: .int (iI x_orderMany) :: .ref (r 20) :: .ref (r 21) :: .int (iI x_outs) :: [])), ((r 1), .inl (T 1, 1152, .inl (fun j : Nat => iI (bI (A j)))))]) (cells' := 0) (slots' := 0) h dX12_rect_6 (ct_X12_in T k 0 7 (by first | assumption | omega) (by first | assumption | omega) (by first | assumption | omega)) k_X12_in gX12_rect_X12_in ⟨Nat.le_of_ble_eq_true rfl, Nat.le_of_ble_eq_true rfl⟩ rfl rfl (Nat.le_of_ble_eq_true rfl) ⟨Nat.le_of_ble_eq_true rfl, Nat.le_of_ble_eq_true rfl⟩ rfl rfl [] [0, 1] rfl rfl rfl rfl (by decide) (fun r9 u9 p1 => ?_)
  obtain ⟨rfl, rfl⟩ := p1
  refine j_eq (ws' := [(g0, .inr (12, .ref (r 0) :: .ref (r 1) :: .ref (r 2) :: .int (iI x_taped) :: .int (iI x_at) :: .int (iI x_token) :: .int (iI x_from) :: .long (lI x_word) :: .int (iI x_value) :: .int (iI x_size) :: .int (iI x_fault) :: .int (iI x_faultAt) :: .ref (r 3) :: .ref (r 4) :: .ref (r 5) :: .ref (r 6) :: .ref (r 7) :: .ref (r 8) :: .ref (r 9) :: .int (iI x_steps) :: .int (iI x_counted) :: .ref (r 10) :: .int (iI x_opens) :: .ref (r 11) :: .ref (r 12) :: .int (iI x_queued) :: .ref (r 13) :: .ref (r 14) :: .int (iI x_theMask) :: .ref (r 15) :: .ref (r 16) :: .int (iI x_kept) :: .int (iI x_placed) :: .ref (r 17) :: .ref (r 18) :: .ref (r 19) :: .int (iI x_orderMany) :: .ref (r 20) :: .ref (r 21) :: .int (iI x_outs) :: [])), ((r 1), .inl (T 1, 1152, .inl (fun j : Nat => iI (bI (A j)))))]) rfl rfl rfl rfl rfl rfl ?_
  refine j_ifneB h 15 dX12_rect_9 (by decide) (fun c2 => ?_) (fun c2 => ?_)
  · skip
    replace c2 := of_decide_eq_true c2
    refine j_iload_n h dX12_rect_15 2 rfl rfl ?_
    refine j_i2l h dX12_rect_16 (by omega) ?_
    refine j_lconst h dX12_rect_17 ?_
    refine j_eq rfl rfl rfl rfl (stk' := [.long (lI 0), .long (lI x0)]) rfl rfl ?_
    refine j_ldc2 (z := 11) h 11 dX12_rect_18 (by decide +kernel) (List.mem_of_getElem? (i := 2) rfl) ?_
    refine j_callSi (As := [.long (lI x0), .long (lI 0), .long (lI 11)]) (wr := [(g0, .inr (12, .ref (r 0) :: .ref (r 1) :: .ref (r 2) :: .int (iI x_taped) :: .int (iI x_at) :: .int (iI x_token) :: .int (iI x_from) :: .long (lI x_word) :: .int (iI x_value) :: .int (iI x_size) :: .int (iI x_fault) :: .int (iI x_faultAt) :: .ref (r 3) :: .ref (r 4) :: .ref (r 5) :: .ref (r 6) :: .ref (r 7) :: .ref (r 8) :: .ref (r 9) :: .int (iI x_steps) :: .int (iI x_counted) :: .ref (r 10) :: .int (iI x_opens) :: .ref (r 11) :: .ref (r 12) :: .int (iI x_queued) :: .ref (r 13) :: .ref (r 14) :: .int (iI x_theMask) :: .ref (r 15) :: .ref (r 16) :: .int (iI x_kept) :: .int (iI x_placed) :: .ref (r 17) :: .ref (r 18) :: .ref (r 19) :: .int (iI x_orderMany) :: .ref (r 20) :: .ref (r 21) :: .int (iI x_outs) :: [])), ((r 1), .inl (T 1, 1152, .inl (fun j : Nat => iI (bI (A j)))))]) (cells' := 0) (slots' := 0) h dX12_rect_21 (ct_X12_in T x0 0 11 (by first | assumption | omega) (by first | assumption | omega) (by first | assumption | omega)) k_X12_in gX12_rect_X12_in ⟨Nat.le_of_ble_eq_true rfl, Nat.le_of_ble_eq_true rfl⟩ rfl rfl (Nat.le_of_ble_eq_true rfl) ⟨Nat.le_of_ble_eq_true rfl, Nat.le_of_ble_eq_true rfl⟩ rfl rfl [] [0, 1] rfl rfl rfl rfl (by decide) (fun r9 u9 p3 => ?_)
    obtain ⟨rfl, rfl⟩ := p3
    refine j_eq (ws' := [(g0, .inr (12, .ref (r 0) :: .ref (r 1) :: .ref (r 2) :: .int (iI x_taped) :: .int (iI x_at) :: .int (iI x_token) :: .int (iI x_from) :: .long (lI x_word) :: .int (iI x_value) :: .int (iI x_size) :: .int (iI x_fault) :: .int (iI x_faultAt) :: .ref (r 3) :: .ref (r 4) :: .ref (r 5) :: .ref (r 6) :: .ref (r 7) :: .ref (r 8) :: .ref (r 9) :: .int (iI x_steps) :: .int (iI x_counted) :: .ref (r 10) :: .int (iI x_opens) :: .ref (r 11) :: .ref (r 12) :: .int (iI x_queued) :: .ref (r 13) :: .ref (r 14) :: .int (iI x_theMask) :: .ref (r 15) :: .ref (r 16) :: .int (iI x_kept) :: .int (iI x_placed) :: .ref (r 17) :: .ref (r 18) :: .ref (r 19) :: .int (iI x_orderMany) :: .ref (r 20) :: .ref (r 21) :: .int (iI x_outs) :: [])), ((r 1), .inl (T 1, 1152, .inl (fun j : Nat => iI (bI (A j)))))]) rfl rfl rfl rfl rfl rfl ?_
    refine j_ifeqB h 67 dX12_rect_24 (by decide) (fun c4 => ?_) (fun c4 => ?_)
    · skip
      replace c4 := of_decide_eq_false c4
      refine j_bipush h dX12_rect_67 (by decide) ?_
      exact hr _ _ _ _ dX12_rect_69 ⟨(congrArg iI (show ((-102) : Int) = (rectS A k x0 y0 x1 y1 b).1 by unfold rectS; (repeat (first | rw [if_pos (by omega)] | rw [if_neg (by omega)])) <;> (try (rw [show y = y1 + 1 by omega] <;> rfl)))), (show ([(g0, .inr (12, .ref (r 0) :: .ref (r 1) :: .ref (r 2) :: .int (iI x_taped) :: .int (iI x_at) :: .int (iI x_token) :: .int (iI x_from) :: .long (lI x_word) :: .int (iI x_value) :: .int (iI x_size) :: .int (iI x_fault) :: .int (iI x_faultAt) :: .ref (r 3) :: .ref (r 4) :: .ref (r 5) :: .ref (r 6) :: .ref (r 7) :: .ref (r 8) :: .ref (r 9) :: .int (iI x_steps) :: .int (iI x_counted) :: .ref (r 10) :: .int (iI x_opens) :: .ref (r 11) :: .ref (r 12) :: .int (iI x_queued) :: .ref (r 13) :: .ref (r 14) :: .int (iI x_theMask) :: .ref (r 15) :: .ref (r 16) :: .int (iI x_kept) :: .int (iI x_placed) :: .ref (r 17) :: .ref (r 18) :: .ref (r 19) :: .int (iI x_orderMany) :: .ref (r 20) :: .ref (r 21) :: .int (iI x_outs) :: [])), ((r 1), .inl (T 1, 1152, .inl (fun j : Nat => iI (bI (A j)))))] : va_W) = [(g0, .inr (12, .ref (r 0) :: .ref (r 1) :: .ref (r 2) :: .int (iI x_taped) :: .int (iI x_at) :: .int (iI x_token) :: .int (iI x_from) :: .long (lI x_word) :: .int (iI x_value) :: .int (iI x_size) :: .int (iI x_fault) :: .int (iI x_faultAt) :: .ref (r 3) :: .ref (r 4) :: .ref (r 5) :: .ref (r 6) :: .ref (r 7) :: .ref (r 8) :: .ref (r 9) :: .int (iI x_steps) :: .int (iI x_counted) :: .ref (r 10) :: .int (iI x_opens) :: .ref (r 11) :: .ref (r 12) :: .int (iI x_queued) :: .ref (r 13) :: .ref (r 14) :: .int (iI x_theMask) :: .ref (r 15) :: .ref (r 16) :: .int (iI x_kept) :: .int (iI x_placed) :: .ref (r 17) :: .ref (r 18) :: .ref (r 19) :: .int (iI x_orderMany) :: .ref (r 20) :: .ref (r 21) :: .int (iI x_outs) :: [])), ((r 1), .inl (T 1, 1152, .inl (fun j : Nat => iI (bI (((rectS A k x0 y0 x1 y1 b).2) j)))))] by unfold rectS; (repeat (first | rw [if_pos (by omega)] | rw [if_neg (by omega)])) <;> (try (rw [show y = y1 + 1 by omega])))⟩
    · skip
      replace c4 := of_decide_eq_true c4
      refine j_iload_n h dX12_rect_27 3 rfl rfl ?_
      refine j_i2l h dX12_rect_28 (by omega) ?_
      refine j_lconst h dX12_rect_29 ?_
      refine j_eq rfl rfl rfl rfl (stk' := [.long (lI 0), .long (lI y0)]) rfl rfl ?_
      refine j_ldc2 (z := 11) h 11 dX12_rect_30 (by decide +kernel) (List.mem_of_getElem? (i := 2) rfl) ?_
      refine j_callSi (As := [.long (lI y0), .long (lI 0), .long (lI 11)]) (wr := [(g0, .inr (12, .ref (r 0) :: .ref (r 1) :: .ref (r 2) :: .int (iI x_taped) :: .int (iI x_at) :: .int (iI x_token) :: .int (iI x_from) :: .long (lI x_word) :: .int (iI x_value) :: .int (iI x_size) :: .int (iI x_fault) :: .int (iI x_faultAt) :: .ref (r 3) :: .ref (r 4) :: .ref (r 5) :: .ref (r 6) :: .ref (r 7) :: .ref (r 8) :: .ref (r 9) :: .int (iI x_steps) :: .int (iI x_counted) :: .ref (r 10) :: .int (iI x_opens) :: .ref (r 11) :: .ref (r 12) :: .int (iI x_queued) :: .ref (r 13) :: .ref (r 14) :: .int (iI x_theMask) :: .ref (r 15) :: .ref (r 16) :: .int (iI x_kept) :: .int (iI x_placed) :: .ref (r 17) :: .ref (r 18) :: .ref (r 19) :: .int (iI x_orderMany) :: .ref (r 20) :: .ref (r 21) :: .int (iI x_outs) :: [])), ((r 1), .inl (T 1, 1152, .inl (fun j : Nat => iI (bI (A j)))))]) (cells' := 0) (slots' := 0) h dX12_rect_33 (ct_X12_in T y0 0 11 (by first | assumption | omega) (by first | assumption | omega) (by first | assumption | omega)) k_X12_in gX12_rect_X12_in ⟨Nat.le_of_ble_eq_true rfl, Nat.le_of_ble_eq_true rfl⟩ rfl rfl (Nat.le_of_ble_eq_true rfl) ⟨Nat.le_of_ble_eq_true rfl, Nat.le_of_ble_eq_true rfl⟩ rfl rfl [] [0, 1] rfl rfl rfl rfl (by decide) (fun r9 u9 p5 => ?_)
      obtain ⟨rfl, rfl⟩ := p5
      refine j_eq (ws' := [(g0, .inr (12, .ref (r 0) :: .ref (r 1) :: .ref (r 2) :: .int (iI x_taped) :: .int (iI x_at) :: .int (iI x_token) :: .int (iI x_from) :: .long (lI x_word) :: .int (iI x_value) :: .int (iI x_size) :: .int (iI x_fault) :: .int (iI x_faultAt) :: .ref (r 3) :: .ref (r 4) :: .ref (r 5) :: .ref (r 6) :: .ref (r 7) :: .ref (r 8) :: .ref (r 9) :: .int (iI x_steps) :: .int (iI x_counted) :: .ref (r 10) :: .int (iI x_opens) :: .ref (r 11) :: .ref (r 12) :: .int (iI x_queued) :: .ref (r 13) :: .ref (r 14) :: .int (iI x_theMask) :: .ref (r 15) :: .ref (r 16) :: .int (iI x_kept) :: .int (iI x_placed) :: .ref (r 17) :: .ref (r 18) :: .ref (r 19) :: .int (iI x_orderMany) :: .ref (r 20) :: .ref (r 21) :: .int (iI x_outs) :: [])), ((r 1), .inl (T 1, 1152, .inl (fun j : Nat => iI (bI (A j)))))]) rfl rfl rfl rfl rfl rfl ?_
      refine j_ifeqB h 67 dX12_rect_36 (by decide) (fun c6 => ?_) (fun c6 => ?_)
      · skip
        replace c6 := of_decide_eq_false c6
        refine j_bipush h dX12_rect_67 (by decide) ?_
        exact hr _ _ _ _ dX12_rect_69 ⟨(congrArg iI (show ((-102) : Int) = (rectS A k x0 y0 x1 y1 b).1 by unfold rectS; (repeat (first | rw [if_pos (by omega)] | rw [if_neg (by omega)])) <;> (try (rw [show y = y1 + 1 by omega] <;> rfl)))), (show ([(g0, .inr (12, .ref (r 0) :: .ref (r 1) :: .ref (r 2) :: .int (iI x_taped) :: .int (iI x_at) :: .int (iI x_token) :: .int (iI x_from) :: .long (lI x_word) :: .int (iI x_value) :: .int (iI x_size) :: .int (iI x_fault) :: .int (iI x_faultAt) :: .ref (r 3) :: .ref (r 4) :: .ref (r 5) :: .ref (r 6) :: .ref (r 7) :: .ref (r 8) :: .ref (r 9) :: .int (iI x_steps) :: .int (iI x_counted) :: .ref (r 10) :: .int (iI x_opens) :: .ref (r 11) :: .ref (r 12) :: .int (iI x_queued) :: .ref (r 13) :: .ref (r 14) :: .int (iI x_theMask) :: .ref (r 15) :: .ref (r 16) :: .int (iI x_kept) :: .int (iI x_placed) :: .ref (r 17) :: .ref (r 18) :: .ref (r 19) :: .int (iI x_orderMany) :: .ref (r 20) :: .ref (r 21) :: .int (iI x_outs) :: [])), ((r 1), .inl (T 1, 1152, .inl (fun j : Nat => iI (bI (A j)))))] : va_W) = [(g0, .inr (12, .ref (r 0) :: .ref (r 1) :: .ref (r 2) :: .int (iI x_taped) :: .int (iI x_at) :: .int (iI x_token) :: .int (iI x_from) :: .long (lI x_word) :: .int (iI x_value) :: .int (iI x_size) :: .int (iI x_fault) :: .int (iI x_faultAt) :: .ref (r 3) :: .ref (r 4) :: .ref (r 5) :: .ref (r 6) :: .ref (r 7) :: .ref (r 8) :: .ref (r 9) :: .int (iI x_steps) :: .int (iI x_counted) :: .ref (r 10) :: .int (iI x_opens) :: .ref (r 11) :: .ref (r 12) :: .int (iI x_queued) :: .ref (r 13) :: .ref (r 14) :: .int (iI x_theMask) :: .ref (r 15) :: .ref (r 16) :: .int (iI x_kept) :: .int (iI x_placed) :: .ref (r 17) :: .ref (r 18) :: .ref (r 19) :: .int (iI x_orderMany) :: .ref (r 20) :: .ref (r 21) :: .int (iI x_outs) :: [])), ((r 1), .inl (T 1, 1152, .inl (fun j : Nat => iI (bI (((rectS A k x0 y0 x1 y1 b).2) j)))))] by unfold rectS; (repeat (first | rw [if_pos (by omega)] | rw [if_neg (by omega)])) <;> (try (rw [show y = y1 + 1 by omega])))⟩
      · skip
        replace c6 := of_decide_eq_true c6
        refine j_iload h dX12_rect_39 4 rfl ?_
        refine j_i2l h dX12_rect_41 (by omega) ?_
        refine j_iload_n h dX12_rect_42 2 rfl rfl ?_
        refine j_i2l h dX12_rect_43 (by omega) ?_
        refine j_ldc2 (z := 11) h 11 dX12_rect_44 (by decide +kernel) (List.mem_of_getElem? (i := 2) rfl) ?_
        refine j_callSi (As := [.long (lI x1), .long (lI x0), .long (lI 11)]) (wr := [(g0, .inr (12, .ref (r 0) :: .ref (r 1) :: .ref (r 2) :: .int (iI x_taped) :: .int (iI x_at) :: .int (iI x_token) :: .int (iI x_from) :: .long (lI x_word) :: .int (iI x_value) :: .int (iI x_size) :: .int (iI x_fault) :: .int (iI x_faultAt) :: .ref (r 3) :: .ref (r 4) :: .ref (r 5) :: .ref (r 6) :: .ref (r 7) :: .ref (r 8) :: .ref (r 9) :: .int (iI x_steps) :: .int (iI x_counted) :: .ref (r 10) :: .int (iI x_opens) :: .ref (r 11) :: .ref (r 12) :: .int (iI x_queued) :: .ref (r 13) :: .ref (r 14) :: .int (iI x_theMask) :: .ref (r 15) :: .ref (r 16) :: .int (iI x_kept) :: .int (iI x_placed) :: .ref (r 17) :: .ref (r 18) :: .ref (r 19) :: .int (iI x_orderMany) :: .ref (r 20) :: .ref (r 21) :: .int (iI x_outs) :: [])), ((r 1), .inl (T 1, 1152, .inl (fun j : Nat => iI (bI (A j)))))]) (cells' := 0) (slots' := 0) h dX12_rect_47 (ct_X12_in T x1 x0 11 (by first | assumption | omega) (by first | assumption | omega) (by first | assumption | omega)) k_X12_in gX12_rect_X12_in ⟨Nat.le_of_ble_eq_true rfl, Nat.le_of_ble_eq_true rfl⟩ rfl rfl (Nat.le_of_ble_eq_true rfl) ⟨Nat.le_of_ble_eq_true rfl, Nat.le_of_ble_eq_true rfl⟩ rfl rfl [] [0, 1] rfl rfl rfl rfl (by decide) (fun r9 u9 p7 => ?_)
        obtain ⟨rfl, rfl⟩ := p7
        refine j_eq (ws' := [(g0, .inr (12, .ref (r 0) :: .ref (r 1) :: .ref (r 2) :: .int (iI x_taped) :: .int (iI x_at) :: .int (iI x_token) :: .int (iI x_from) :: .long (lI x_word) :: .int (iI x_value) :: .int (iI x_size) :: .int (iI x_fault) :: .int (iI x_faultAt) :: .ref (r 3) :: .ref (r 4) :: .ref (r 5) :: .ref (r 6) :: .ref (r 7) :: .ref (r 8) :: .ref (r 9) :: .int (iI x_steps) :: .int (iI x_counted) :: .ref (r 10) :: .int (iI x_opens) :: .ref (r 11) :: .ref (r 12) :: .int (iI x_queued) :: .ref (r 13) :: .ref (r 14) :: .int (iI x_theMask) :: .ref (r 15) :: .ref (r 16) :: .int (iI x_kept) :: .int (iI x_placed) :: .ref (r 17) :: .ref (r 18) :: .ref (r 19) :: .int (iI x_orderMany) :: .ref (r 20) :: .ref (r 21) :: .int (iI x_outs) :: [])), ((r 1), .inl (T 1, 1152, .inl (fun j : Nat => iI (bI (A j)))))]) rfl rfl rfl rfl rfl rfl ?_
        refine j_ifeqB h 67 dX12_rect_50 (by decide) (fun c8 => ?_) (fun c8 => ?_)
        · skip
          replace c8 := of_decide_eq_false c8
          refine j_bipush h dX12_rect_67 (by decide) ?_
          exact hr _ _ _ _ dX12_rect_69 ⟨(congrArg iI (show ((-102) : Int) = (rectS A k x0 y0 x1 y1 b).1 by unfold rectS; (repeat (first | rw [if_pos (by omega)] | rw [if_neg (by omega)])) <;> (try (rw [show y = y1 + 1 by omega] <;> rfl)))), (show ([(g0, .inr (12, .ref (r 0) :: .ref (r 1) :: .ref (r 2) :: .int (iI x_taped) :: .int (iI x_at) :: .int (iI x_token) :: .int (iI x_from) :: .long (lI x_word) :: .int (iI x_value) :: .int (iI x_size) :: .int (iI x_fault) :: .int (iI x_faultAt) :: .ref (r 3) :: .ref (r 4) :: .ref (r 5) :: .ref (r 6) :: .ref (r 7) :: .ref (r 8) :: .ref (r 9) :: .int (iI x_steps) :: .int (iI x_counted) :: .ref (r 10) :: .int (iI x_opens) :: .ref (r 11) :: .ref (r 12) :: .int (iI x_queued) :: .ref (r 13) :: .ref (r 14) :: .int (iI x_theMask) :: .ref (r 15) :: .ref (r 16) :: .int (iI x_kept) :: .int (iI x_placed) :: .ref (r 17) :: .ref (r 18) :: .ref (r 19) :: .int (iI x_orderMany) :: .ref (r 20) :: .ref (r 21) :: .int (iI x_outs) :: [])), ((r 1), .inl (T 1, 1152, .inl (fun j : Nat => iI (bI (A j)))))] : va_W) = [(g0, .inr (12, .ref (r 0) :: .ref (r 1) :: .ref (r 2) :: .int (iI x_taped) :: .int (iI x_at) :: .int (iI x_token) :: .int (iI x_from) :: .long (lI x_word) :: .int (iI x_value) :: .int (iI x_size) :: .int (iI x_fault) :: .int (iI x_faultAt) :: .ref (r 3) :: .ref (r 4) :: .ref (r 5) :: .ref (r 6) :: .ref (r 7) :: .ref (r 8) :: .ref (r 9) :: .int (iI x_steps) :: .int (iI x_counted) :: .ref (r 10) :: .int (iI x_opens) :: .ref (r 11) :: .ref (r 12) :: .int (iI x_queued) :: .ref (r 13) :: .ref (r 14) :: .int (iI x_theMask) :: .ref (r 15) :: .ref (r 16) :: .int (iI x_kept) :: .int (iI x_placed) :: .ref (r 17) :: .ref (r 18) :: .ref (r 19) :: .int (iI x_orderMany) :: .ref (r 20) :: .ref (r 21) :: .int (iI x_outs) :: [])), ((r 1), .inl (T 1, 1152, .inl (fun j : Nat => iI (bI (((rectS A k x0 y0 x1 y1 b).2) j)))))] by unfold rectS; (repeat (first | rw [if_pos (by omega)] | rw [if_neg (by omega)])) <;> (try (rw [show y = y1 + 1 by omega])))⟩
        · skip
          replace c8 := of_decide_eq_true c8
          refine j_iload h dX12_rect_53 5 rfl ?_
          refine j_i2l h dX12_rect_55 (by omega) ?_
          refine j_iload_n h dX12_rect_56 3 rfl rfl ?_
          refine j_i2l h dX12_rect_57 (by omega) ?_
          refine j_ldc2 (z := 11) h 11 dX12_rect_58 (by decide +kernel) (List.mem_of_getElem? (i := 2) rfl) ?_
          refine j_callSi (As := [.long (lI y1), .long (lI y0), .long (lI 11)]) (wr := [(g0, .inr (12, .ref (r 0) :: .ref (r 1) :: .ref (r 2) :: .int (iI x_taped) :: .int (iI x_at) :: .int (iI x_token) :: .int (iI x_from) :: .long (lI x_word) :: .int (iI x_value) :: .int (iI x_size) :: .int (iI x_fault) :: .int (iI x_faultAt) :: .ref (r 3) :: .ref (r 4) :: .ref (r 5) :: .ref (r 6) :: .ref (r 7) :: .ref (r 8) :: .ref (r 9) :: .int (iI x_steps) :: .int (iI x_counted) :: .ref (r 10) :: .int (iI x_opens) :: .ref (r 11) :: .ref (r 12) :: .int (iI x_queued) :: .ref (r 13) :: .ref (r 14) :: .int (iI x_theMask) :: .ref (r 15) :: .ref (r 16) :: .int (iI x_kept) :: .int (iI x_placed) :: .ref (r 17) :: .ref (r 18) :: .ref (r 19) :: .int (iI x_orderMany) :: .ref (r 20) :: .ref (r 21) :: .int (iI x_outs) :: [])), ((r 1), .inl (T 1, 1152, .inl (fun j : Nat => iI (bI (A j)))))]) (cells' := 0) (slots' := 0) h dX12_rect_61 (ct_X12_in T y1 y0 11 (by first | assumption | omega) (by first | assumption | omega) (by first | assumption | omega)) k_X12_in gX12_rect_X12_in ⟨Nat.le_of_ble_eq_true rfl, Nat.le_of_ble_eq_true rfl⟩ rfl rfl (Nat.le_of_ble_eq_true rfl) ⟨Nat.le_of_ble_eq_true rfl, Nat.le_of_ble_eq_true rfl⟩ rfl rfl [] [0, 1] rfl rfl rfl rfl (by decide) (fun r9 u9 p9 => ?_)
          obtain ⟨rfl, rfl⟩ := p9
          refine j_eq (ws' := [(g0, .inr (12, .ref (r 0) :: .ref (r 1) :: .ref (r 2) :: .int (iI x_taped) :: .int (iI x_at) :: .int (iI x_token) :: .int (iI x_from) :: .long (lI x_word) :: .int (iI x_value) :: .int (iI x_size) :: .int (iI x_fault) :: .int (iI x_faultAt) :: .ref (r 3) :: .ref (r 4) :: .ref (r 5) :: .ref (r 6) :: .ref (r 7) :: .ref (r 8) :: .ref (r 9) :: .int (iI x_steps) :: .int (iI x_counted) :: .ref (r 10) :: .int (iI x_opens) :: .ref (r 11) :: .ref (r 12) :: .int (iI x_queued) :: .ref (r 13) :: .ref (r 14) :: .int (iI x_theMask) :: .ref (r 15) :: .ref (r 16) :: .int (iI x_kept) :: .int (iI x_placed) :: .ref (r 17) :: .ref (r 18) :: .ref (r 19) :: .int (iI x_orderMany) :: .ref (r 20) :: .ref (r 21) :: .int (iI x_outs) :: [])), ((r 1), .inl (T 1, 1152, .inl (fun j : Nat => iI (bI (A j)))))]) rfl rfl rfl rfl rfl rfl ?_
          refine j_ifneB h 70 dX12_rect_64 (by decide) (fun c10 => ?_) (fun c10 => ?_)
          · skip
            replace c10 := of_decide_eq_true c10
            refine j_iload_n h dX12_rect_70 3 rfl rfl ?_
            refine j_istore (lv' := [(0, .ref g0), (1, .int (iI k)), (2, .int (iI x0)), (3, .int (iI y0)), (4, .int (iI x1)), (5, .int (iI y1)), (6, .int (iI (bI b))), (7, .int (iI y0))]) h dX12_rect_71 [1, 2, 3, 4, 5, 6, 7, 0] (by decide) rfl ?_
            have lp73 : ∀ (n73 : Nat) (y : Int) (hy : y0 ≤ y ∧ y ≤ y1 + 1), ((y1 + 1 - y).toNat) < n73 → J X 0 0 73 [(0, .ref g0), (1, .int (iI k)), (2, .int (iI x0)), (3, .int (iI y0)), (4, .int (iI x1)), (5, .int (iI y1)), (6, .int (iI (bI b))), (7, .int (iI y))] [] [(g0, .inr (12, .ref (r 0) :: .ref (r 1) :: .ref (r 2) :: .int (iI x_taped) :: .int (iI x_at) :: .int (iI x_token) :: .int (iI x_from) :: .long (lI x_word) :: .int (iI x_value) :: .int (iI x_size) :: .int (iI x_fault) :: .int (iI x_faultAt) :: .ref (r 3) :: .ref (r 4) :: .ref (r 5) :: .ref (r 6) :: .ref (r 7) :: .ref (r 8) :: .ref (r 9) :: .int (iI x_steps) :: .int (iI x_counted) :: .ref (r 10) :: .int (iI x_opens) :: .ref (r 11) :: .ref (r 12) :: .int (iI x_queued) :: .ref (r 13) :: .ref (r 14) :: .int (iI x_theMask) :: .ref (r 15) :: .ref (r 16) :: .int (iI x_kept) :: .int (iI x_placed) :: .ref (r 17) :: .ref (r 18) :: .ref (r 19) :: .int (iI x_orderMany) :: .ref (r 20) :: .ref (r 21) :: .int (iI x_outs) :: [])), ((r 1), .inl (T 1, 1152, .inl (fun j : Nat => iI (bI ((rcF A k x0 x1 y0 b y x0) j)))))] := by
              intro n73
              induction n73 with
              | zero => exact fun y hy hn73 => absurd hn73 (Nat.not_lt_zero _)
              | succ n73 ih73 =>
                intro y hy hn73
                refine j_iload h dX12_rect_73 7 rfl ?_
                refine j_iload h dX12_rect_75 5 rfl ?_
                refine j_icmp_gt h 123 dX12_rect_77 (by decide) (by omega) (by omega) (fun c11 => ?_) (fun c11 => ?_)
                · skip
                  refine j_aload_n h dX12_rect_123 0 rfl rfl ?_
                  refine j_iload_n h dX12_rect_124 1 rfl rfl ?_
                  refine j_callVi (As := [.int (iI k)]) (wr := []) (cells' := 0) (slots' := 0) h dX12_rect_125 (ct_X12_many T g0 r x_taped x_at x_token x_from x_word x_value x_size x_fault x_faultAt x_steps x_counted x_opens x_queued x_theMask x_kept x_placed x_orderMany x_outs (rcF A k x0 x1 y0 b y x0) k (by first | assumption | omega)) k_X12_many gX12_rect_X12_many rfl rfl 0 rfl ⟨Nat.le_of_ble_eq_true rfl, Nat.le_of_ble_eq_true rfl⟩ rfl rfl (Nat.le_of_ble_eq_true rfl) ⟨Nat.le_of_ble_eq_true rfl, Nat.le_of_ble_eq_true rfl⟩ rfl rfl [0, 1] [] rfl rfl rfl rfl (by decide) (fun r9 u9 p12 => ?_)
                  obtain ⟨rfl, rfl⟩ := p12
                  refine j_eq (ws' := [(g0, .inr (12, .ref (r 0) :: .ref (r 1) :: .ref (r 2) :: .int (iI x_taped) :: .int (iI x_at) :: .int (iI x_token) :: .int (iI x_from) :: .long (lI x_word) :: .int (iI x_value) :: .int (iI x_size) :: .int (iI x_fault) :: .int (iI x_faultAt) :: .ref (r 3) :: .ref (r 4) :: .ref (r 5) :: .ref (r 6) :: .ref (r 7) :: .ref (r 8) :: .ref (r 9) :: .int (iI x_steps) :: .int (iI x_counted) :: .ref (r 10) :: .int (iI x_opens) :: .ref (r 11) :: .ref (r 12) :: .int (iI x_queued) :: .ref (r 13) :: .ref (r 14) :: .int (iI x_theMask) :: .ref (r 15) :: .ref (r 16) :: .int (iI x_kept) :: .int (iI x_placed) :: .ref (r 17) :: .ref (r 18) :: .ref (r 19) :: .int (iI x_orderMany) :: .ref (r 20) :: .ref (r 21) :: .int (iI x_outs) :: [])), ((r 1), .inl (T 1, 1152, .inl (fun j : Nat => iI (bI ((rcF A k x0 x1 y0 b y x0) j)))))]) rfl rfl rfl rfl rfl rfl ?_
                  exact hr _ _ _ _ dX12_rect_128 ⟨(congrArg iI (show ((sizeP (rcF A k x0 x1 y0 b y x0) k) : Int) = (rectS A k x0 y0 x1 y1 b).1 by unfold rectS; (repeat (first | rw [if_pos (by omega)] | rw [if_neg (by omega)])) <;> (try (rw [show y = y1 + 1 by omega] <;> rfl)))), (show ([(g0, .inr (12, .ref (r 0) :: .ref (r 1) :: .ref (r 2) :: .int (iI x_taped) :: .int (iI x_at) :: .int (iI x_token) :: .int (iI x_from) :: .long (lI x_word) :: .int (iI x_value) :: .int (iI x_size) :: .int (iI x_fault) :: .int (iI x_faultAt) :: .ref (r 3) :: .ref (r 4) :: .ref (r 5) :: .ref (r 6) :: .ref (r 7) :: .ref (r 8) :: .ref (r 9) :: .int (iI x_steps) :: .int (iI x_counted) :: .ref (r 10) :: .int (iI x_opens) :: .ref (r 11) :: .ref (r 12) :: .int (iI x_queued) :: .ref (r 13) :: .ref (r 14) :: .int (iI x_theMask) :: .ref (r 15) :: .ref (r 16) :: .int (iI x_kept) :: .int (iI x_placed) :: .ref (r 17) :: .ref (r 18) :: .ref (r 19) :: .int (iI x_orderMany) :: .ref (r 20) :: .ref (r 21) :: .int (iI x_outs) :: [])), ((r 1), .inl (T 1, 1152, .inl (fun j : Nat => iI (bI ((rcF A k x0 x1 y0 b y x0) j)))))] : va_W) = [(g0, .inr (12, .ref (r 0) :: .ref (r 1) :: .ref (r 2) :: .int (iI x_taped) :: .int (iI x_at) :: .int (iI x_token) :: .int (iI x_from) :: .long (lI x_word) :: .int (iI x_value) :: .int (iI x_size) :: .int (iI x_fault) :: .int (iI x_faultAt) :: .ref (r 3) :: .ref (r 4) :: .ref (r 5) :: .ref (r 6) :: .ref (r 7) :: .ref (r 8) :: .ref (r 9) :: .int (iI x_steps) :: .int (iI x_counted) :: .ref (r 10) :: .int (iI x_opens) :: .ref (r 11) :: .ref (r 12) :: .int (iI x_queued) :: .ref (r 13) :: .ref (r 14) :: .int (iI x_theMask) :: .ref (r 15) :: .ref (r 16) :: .int (iI x_kept) :: .int (iI x_placed) :: .ref (r 17) :: .ref (r 18) :: .ref (r 19) :: .int (iI x_orderMany) :: .ref (r 20) :: .ref (r 21) :: .int (iI x_outs) :: [])), ((r 1), .inl (T 1, 1152, .inl (fun j : Nat => iI (bI (((rectS A k x0 y0 x1 y1 b).2) j)))))] by unfold rectS; (repeat (first | rw [if_pos (by omega)] | rw [if_neg (by omega)])) <;> (try (rw [show y = y1 + 1 by omega])))⟩
                · skip
                  refine j_iload_n h dX12_rect_80 2 rfl rfl ?_
                  refine j_istore (lv' := [(0, .ref g0), (1, .int (iI k)), (2, .int (iI x0)), (3, .int (iI y0)), (4, .int (iI x1)), (5, .int (iI y1)), (6, .int (iI (bI b))), (7, .int (iI y)), (8, .int (iI x0))]) h dX12_rect_81 [1, 2, 3, 4, 5, 6, 7, 8, 0] (by decide) rfl ?_
                  have lp83 : ∀ (n83 : Nat) (x : Int) (hx : x0 ≤ x ∧ x ≤ x1 + 1), ((x1 + 1 - x).toNat) < n83 → J X 0 0 83 [(0, .ref g0), (1, .int (iI k)), (2, .int (iI x0)), (3, .int (iI y0)), (4, .int (iI x1)), (5, .int (iI y1)), (6, .int (iI (bI b))), (7, .int (iI y)), (8, .int (iI x))] [] [(g0, .inr (12, .ref (r 0) :: .ref (r 1) :: .ref (r 2) :: .int (iI x_taped) :: .int (iI x_at) :: .int (iI x_token) :: .int (iI x_from) :: .long (lI x_word) :: .int (iI x_value) :: .int (iI x_size) :: .int (iI x_fault) :: .int (iI x_faultAt) :: .ref (r 3) :: .ref (r 4) :: .ref (r 5) :: .ref (r 6) :: .ref (r 7) :: .ref (r 8) :: .ref (r 9) :: .int (iI x_steps) :: .int (iI x_counted) :: .ref (r 10) :: .int (iI x_opens) :: .ref (r 11) :: .ref (r 12) :: .int (iI x_queued) :: .ref (r 13) :: .ref (r 14) :: .int (iI x_theMask) :: .ref (r 15) :: .ref (r 16) :: .int (iI x_kept) :: .int (iI x_placed) :: .ref (r 17) :: .ref (r 18) :: .ref (r 19) :: .int (iI x_orderMany) :: .ref (r 20) :: .ref (r 21) :: .int (iI x_outs) :: [])), ((r 1), .inl (T 1, 1152, .inl (fun j : Nat => iI (bI ((rcF A k x0 x1 y0 b y x) j)))))] := by
                    intro n83
                    induction n83 with
                    | zero => exact fun x hx hn83 => absurd hn83 (Nat.not_lt_zero _)
                    | succ n83 ih83 =>
                      intro x hx hn83
                      refine j_iload h dX12_rect_83 8 rfl ?_
                      refine j_iload h dX12_rect_85 4 rfl ?_
                      refine j_icmp_gt h 117 dX12_rect_87 (by decide) (by omega) (by omega) (fun c13 => ?_) (fun c13 => ?_)
                      · skip
                        refine j_iinc (lv' := [(0, .ref g0), (1, .int (iI k)), (2, .int (iI x0)), (3, .int (iI y0)), (4, .int (iI x1)), (5, .int (iI y1)), (6, .int (iI (bI b))), (7, .int (iI (y + 1))), (8, .int (iI x))]) h dX12_rect_117 7 [1, 2, 3, 4, 5, 6, 7, 0, 8] rfl (by decide) rfl ?_
                        refine j_goto (tgt := 73) h dX12_rect_120 (by decide) ?_
                        refine j_lv (lv' := [(0, .ref g0), (1, .int (iI k)), (2, .int (iI x0)), (3, .int (iI y0)), (4, .int (iI x1)), (5, .int (iI y1)), (6, .int (iI (bI b))), (7, .int (iI (y + 1)))]) [0, 1, 2, 3, 4, 5, 6, 7] rfl ?_
                        refine j_eq (ws' := [(g0, .inr (12, .ref (r 0) :: .ref (r 1) :: .ref (r 2) :: .int (iI x_taped) :: .int (iI x_at) :: .int (iI x_token) :: .int (iI x_from) :: .long (lI x_word) :: .int (iI x_value) :: .int (iI x_size) :: .int (iI x_fault) :: .int (iI x_faultAt) :: .ref (r 3) :: .ref (r 4) :: .ref (r 5) :: .ref (r 6) :: .ref (r 7) :: .ref (r 8) :: .ref (r 9) :: .int (iI x_steps) :: .int (iI x_counted) :: .ref (r 10) :: .int (iI x_opens) :: .ref (r 11) :: .ref (r 12) :: .int (iI x_queued) :: .ref (r 13) :: .ref (r 14) :: .int (iI x_theMask) :: .ref (r 15) :: .ref (r 16) :: .int (iI x_kept) :: .int (iI x_placed) :: .ref (r 17) :: .ref (r 18) :: .ref (r 19) :: .int (iI x_orderMany) :: .ref (r 20) :: .ref (r 21) :: .int (iI x_outs) :: [])), ((r 1), .inl (T 1, 1152, .inl (fun j : Nat => iI (bI ((rcF A k x0 x1 y0 b (y + 1) x0) j)))))]) rfl rfl rfl rfl rfl (by rw [rcF_r (by omega) (by omega)]) ?_
                        exact ih73 (y + 1) (by first | assumption | omega) (by omega)
                      · skip
                        refine j_aload_n h dX12_rect_90 0 rfl rfl ?_
                        refine j_get h dX12_rect_91 f_X12_rect_13 0 rfl rfl ?_
                        refine j_sipush h dX12_rect_94 (by decide) ?_
                        refine j_iload_n h dX12_rect_97 1 rfl rfl ?_
                        refine j_imul h dX12_rect_98 ?_
                        refine j_bipush h dX12_rect_99 (by decide) ?_
                        refine j_iload h dX12_rect_101 7 rfl ?_
                        refine j_imul h dX12_rect_103 ?_
                        refine j_iadd h dX12_rect_104 ?_
                        refine j_iload h dX12_rect_105 8 rfl ?_
                        refine j_iadd h dX12_rect_107 ?_
                        refine j_iload h dX12_rect_108 6 rfl ?_
                        refine j_zast (v := b) (f := rcF A k x0 x1 y0 b y x) (ws' := [(g0, .inr (12, .ref (r 0) :: .ref (r 1) :: .ref (r 2) :: .int (iI x_taped) :: .int (iI x_at) :: .int (iI x_token) :: .int (iI x_from) :: .long (lI x_word) :: .int (iI x_value) :: .int (iI x_size) :: .int (iI x_fault) :: .int (iI x_faultAt) :: .ref (r 3) :: .ref (r 4) :: .ref (r 5) :: .ref (r 6) :: .ref (r 7) :: .ref (r 8) :: .ref (r 9) :: .int (iI x_steps) :: .int (iI x_counted) :: .ref (r 10) :: .int (iI x_opens) :: .ref (r 11) :: .ref (r 12) :: .int (iI x_queued) :: .ref (r 13) :: .ref (r 14) :: .int (iI x_theMask) :: .ref (r 15) :: .ref (r 16) :: .int (iI x_kept) :: .int (iI x_placed) :: .ref (r 17) :: .ref (r 18) :: .ref (r 19) :: .int (iI x_orderMany) :: .ref (r 20) :: .ref (r 21) :: .int (iI x_outs) :: [])), ((r 1), .inl (T 1, 1152, .inl (fun j : Nat => iI (bI ((upI (rcF A k x0 x1 y0 b y x) (144 * k + (12 * y + x)) b) j)))))]) h (144 * k + (12 * y + x)) dX12_rect_110 1 rfl (by decide) (by omega) (by omega) rfl ?_
                        refine j_iinc (lv' := [(0, .ref g0), (1, .int (iI k)), (2, .int (iI x0)), (3, .int (iI y0)), (4, .int (iI x1)), (5, .int (iI y1)), (6, .int (iI (bI b))), (7, .int (iI y)), (8, .int (iI (x + 1)))]) h dX12_rect_111 8 [1, 2, 3, 4, 5, 6, 7, 8, 0] rfl (by decide) rfl ?_
                        refine j_goto (tgt := 83) h dX12_rect_114 (by decide) ?_
                        refine j_eq (ws' := [(g0, .inr (12, .ref (r 0) :: .ref (r 1) :: .ref (r 2) :: .int (iI x_taped) :: .int (iI x_at) :: .int (iI x_token) :: .int (iI x_from) :: .long (lI x_word) :: .int (iI x_value) :: .int (iI x_size) :: .int (iI x_fault) :: .int (iI x_faultAt) :: .ref (r 3) :: .ref (r 4) :: .ref (r 5) :: .ref (r 6) :: .ref (r 7) :: .ref (r 8) :: .ref (r 9) :: .int (iI x_steps) :: .int (iI x_counted) :: .ref (r 10) :: .int (iI x_opens) :: .ref (r 11) :: .ref (r 12) :: .int (iI x_queued) :: .ref (r 13) :: .ref (r 14) :: .int (iI x_theMask) :: .ref (r 15) :: .ref (r 16) :: .int (iI x_kept) :: .int (iI x_placed) :: .ref (r 17) :: .ref (r 18) :: .ref (r 19) :: .int (iI x_orderMany) :: .ref (r 20) :: .ref (r 21) :: .int (iI x_outs) :: [])), ((r 1), .inl (T 1, 1152, .inl (fun j : Nat => iI (bI ((rcF A k x0 x1 y0 b y (x + 1)) j)))))]) rfl rfl rfl rfl rfl (by rw [rcF_s (by omega) (by omega) (by omega)]) ?_
                        exact ih83 (x + 1) (by first | assumption | omega) (by omega)
                  exact lp83 _ x0 (by first | assumption | omega) (Nat.lt_succ_self _)
            refine j_eq (ws' := [(g0, .inr (12, .ref (r 0) :: .ref (r 1) :: .ref (r 2) :: .int (iI x_taped) :: .int (iI x_at) :: .int (iI x_token) :: .int (iI x_from) :: .long (lI x_word) :: .int (iI x_value) :: .int (iI x_size) :: .int (iI x_fault) :: .int (iI x_faultAt) :: .ref (r 3) :: .ref (r 4) :: .ref (r 5) :: .ref (r 6) :: .ref (r 7) :: .ref (r 8) :: .ref (r 9) :: .int (iI x_steps) :: .int (iI x_counted) :: .ref (r 10) :: .int (iI x_opens) :: .ref (r 11) :: .ref (r 12) :: .int (iI x_queued) :: .ref (r 13) :: .ref (r 14) :: .int (iI x_theMask) :: .ref (r 15) :: .ref (r 16) :: .int (iI x_kept) :: .int (iI x_placed) :: .ref (r 17) :: .ref (r 18) :: .ref (r 19) :: .int (iI x_orderMany) :: .ref (r 20) :: .ref (r 21) :: .int (iI x_outs) :: [])), ((r 1), .inl (T 1, 1152, .inl (fun j : Nat => iI (bI ((rcF A k x0 x1 y0 b y0 x0) j)))))]) rfl rfl rfl rfl rfl (by rw [rcF_0]) ?_
            exact lp73 _ y0 (by first | assumption | omega) (Nat.lt_succ_self _)
          · skip
            replace c10 := of_decide_eq_false c10
            refine j_bipush h dX12_rect_67 (by decide) ?_
            exact hr _ _ _ _ dX12_rect_69 ⟨(congrArg iI (show ((-102) : Int) = (rectS A k x0 y0 x1 y1 b).1 by unfold rectS; (repeat (first | rw [if_pos (by omega)] | rw [if_neg (by omega)])) <;> (try (rw [show y = y1 + 1 by omega] <;> rfl)))), (show ([(g0, .inr (12, .ref (r 0) :: .ref (r 1) :: .ref (r 2) :: .int (iI x_taped) :: .int (iI x_at) :: .int (iI x_token) :: .int (iI x_from) :: .long (lI x_word) :: .int (iI x_value) :: .int (iI x_size) :: .int (iI x_fault) :: .int (iI x_faultAt) :: .ref (r 3) :: .ref (r 4) :: .ref (r 5) :: .ref (r 6) :: .ref (r 7) :: .ref (r 8) :: .ref (r 9) :: .int (iI x_steps) :: .int (iI x_counted) :: .ref (r 10) :: .int (iI x_opens) :: .ref (r 11) :: .ref (r 12) :: .int (iI x_queued) :: .ref (r 13) :: .ref (r 14) :: .int (iI x_theMask) :: .ref (r 15) :: .ref (r 16) :: .int (iI x_kept) :: .int (iI x_placed) :: .ref (r 17) :: .ref (r 18) :: .ref (r 19) :: .int (iI x_orderMany) :: .ref (r 20) :: .ref (r 21) :: .int (iI x_outs) :: [])), ((r 1), .inl (T 1, 1152, .inl (fun j : Nat => iI (bI (A j)))))] : va_W) = [(g0, .inr (12, .ref (r 0) :: .ref (r 1) :: .ref (r 2) :: .int (iI x_taped) :: .int (iI x_at) :: .int (iI x_token) :: .int (iI x_from) :: .long (lI x_word) :: .int (iI x_value) :: .int (iI x_size) :: .int (iI x_fault) :: .int (iI x_faultAt) :: .ref (r 3) :: .ref (r 4) :: .ref (r 5) :: .ref (r 6) :: .ref (r 7) :: .ref (r 8) :: .ref (r 9) :: .int (iI x_steps) :: .int (iI x_counted) :: .ref (r 10) :: .int (iI x_opens) :: .ref (r 11) :: .ref (r 12) :: .int (iI x_queued) :: .ref (r 13) :: .ref (r 14) :: .int (iI x_theMask) :: .ref (r 15) :: .ref (r 16) :: .int (iI x_kept) :: .int (iI x_placed) :: .ref (r 17) :: .ref (r 18) :: .ref (r 19) :: .int (iI x_orderMany) :: .ref (r 20) :: .ref (r 21) :: .int (iI x_outs) :: [])), ((r 1), .inl (T 1, 1152, .inl (fun j : Nat => iI (bI (((rectS A k x0 y0 x1 y1 b).2) j)))))] by unfold rectS; (repeat (first | rw [if_pos (by omega)] | rw [if_neg (by omega)])) <;> (try (rw [show y = y1 + 1 by omega])))⟩
  · skip
    replace c2 := of_decide_eq_false c2
    refine j_bipush h dX12_rect_12 (by decide) ?_
    exact hr _ _ _ _ dX12_rect_14 ⟨(congrArg iI (show ((-101) : Int) = (rectS A k x0 y0 x1 y1 b).1 by unfold rectS; (repeat (first | rw [if_pos (by omega)] | rw [if_neg (by omega)])) <;> (try (rw [show y = y1 + 1 by omega] <;> rfl)))), (show ([(g0, .inr (12, .ref (r 0) :: .ref (r 1) :: .ref (r 2) :: .int (iI x_taped) :: .int (iI x_at) :: .int (iI x_token) :: .int (iI x_from) :: .long (lI x_word) :: .int (iI x_value) :: .int (iI x_size) :: .int (iI x_fault) :: .int (iI x_faultAt) :: .ref (r 3) :: .ref (r 4) :: .ref (r 5) :: .ref (r 6) :: .ref (r 7) :: .ref (r 8) :: .ref (r 9) :: .int (iI x_steps) :: .int (iI x_counted) :: .ref (r 10) :: .int (iI x_opens) :: .ref (r 11) :: .ref (r 12) :: .int (iI x_queued) :: .ref (r 13) :: .ref (r 14) :: .int (iI x_theMask) :: .ref (r 15) :: .ref (r 16) :: .int (iI x_kept) :: .int (iI x_placed) :: .ref (r 17) :: .ref (r 18) :: .ref (r 19) :: .int (iI x_orderMany) :: .ref (r 20) :: .ref (r 21) :: .int (iI x_outs) :: [])), ((r 1), .inl (T 1, 1152, .inl (fun j : Nat => iI (bI (A j)))))] : va_W) = [(g0, .inr (12, .ref (r 0) :: .ref (r 1) :: .ref (r 2) :: .int (iI x_taped) :: .int (iI x_at) :: .int (iI x_token) :: .int (iI x_from) :: .long (lI x_word) :: .int (iI x_value) :: .int (iI x_size) :: .int (iI x_fault) :: .int (iI x_faultAt) :: .ref (r 3) :: .ref (r 4) :: .ref (r 5) :: .ref (r 6) :: .ref (r 7) :: .ref (r 8) :: .ref (r 9) :: .int (iI x_steps) :: .int (iI x_counted) :: .ref (r 10) :: .int (iI x_opens) :: .ref (r 11) :: .ref (r 12) :: .int (iI x_queued) :: .ref (r 13) :: .ref (r 14) :: .int (iI x_theMask) :: .ref (r 15) :: .ref (r 16) :: .int (iI x_kept) :: .int (iI x_placed) :: .ref (r 17) :: .ref (r 18) :: .ref (r 19) :: .int (iI x_orderMany) :: .ref (r 20) :: .ref (r 21) :: .int (iI x_outs) :: [])), ((r 1), .inl (T 1, 1152, .inl (fun j : Nat => iI (bI (((rectS A k x0 y0 x1 y1 b).2) j)))))] by unfold rectS; (repeat (first | rw [if_pos (by omega)] | rw [if_neg (by omega)])) <;> (try (rw [show y = y1 + 1 by omega])))⟩

abbrev rmX12_masked : Room := { frames := 1, cells := 0, slots := 0, locals := 25 }
theorem in_X12_masked_X12 : ∀ w ∈ u_ws RX12 TX12 40, w ∈ wsX12_masked := fun w hw => List.mem_cons_of_mem _ (List.mem_append_right _ (hw))
theorem f_X12_masked_13 : FlOK RX12 13 wsX12_masked 12 1 := ⟨_, _, _, rfl, by decide, in_X12_masked_X12, List.mem_of_getElem? (i := 3) rfl⟩
set_option maxHeartbeats 600000 in
set_option maxRecDepth 100000 in
/-- masked -/
theorem ct_X12_masked (T : Nat → ClassId) (g0 : Nat) (r : Nat → Nat) (x_taped : Int) (x_at : Int) (x_token : Int) (x_from : Int) (x_word : Int) (x_value : Int) (x_size : Int) (x_fault : Int) (x_faultAt : Int) (x_steps : Int) (x_counted : Int) (x_opens : Int) (x_queued : Int) (x_theMask : Int) (x_kept : Int) (x_placed : Int) (x_orderMany : Int) (x_outs : Int) (A : Int → Bool) (k : Int) (p : Int) (hk : -2147483648 ≤ k ∧ k ≤ 2147483647) (hp : -2147483648 ≤ p ∧ p ≤ 2147483647) : CtI T yX12_masked wsX12_masked rmX12_masked 0 0 [.ref g0, .int (iI k), .int (iI p)] [(g0, .inr (12, .ref (r 0) :: .ref (r 1) :: .ref (r 2) :: .int (iI x_taped) :: .int (iI x_at) :: .int (iI x_token) :: .int (iI x_from) :: .long (lI x_word) :: .int (iI x_value) :: .int (iI x_size) :: .int (iI x_fault) :: .int (iI x_faultAt) :: .ref (r 3) :: .ref (r 4) :: .ref (r 5) :: .ref (r 6) :: .ref (r 7) :: .ref (r 8) :: .ref (r 9) :: .int (iI x_steps) :: .int (iI x_counted) :: .ref (r 10) :: .int (iI x_opens) :: .ref (r 11) :: .ref (r 12) :: .int (iI x_queued) :: .ref (r 13) :: .ref (r 14) :: .int (iI x_theMask) :: .ref (r 15) :: .ref (r 16) :: .int (iI x_kept) :: .int (iI x_placed) :: .ref (r 17) :: .ref (r 18) :: .ref (r 19) :: .int (iI x_orderMany) :: .ref (r 20) :: .ref (r 21) :: .int (iI x_outs) :: [])), ((r 1), .inl (T 1, 1152, .inl (fun j : Nat => iI (bI (A j)))))] (fun r8 u => r8 = (iI (maskedS A k p)) ∧ u = [(g0, .inr (12, .ref (r 0) :: .ref (r 1) :: .ref (r 2) :: .int (iI x_taped) :: .int (iI x_at) :: .int (iI x_token) :: .int (iI x_from) :: .long (lI x_word) :: .int (iI x_value) :: .int (iI x_size) :: .int (iI x_fault) :: .int (iI x_faultAt) :: .ref (r 3) :: .ref (r 4) :: .ref (r 5) :: .ref (r 6) :: .ref (r 7) :: .ref (r 8) :: .ref (r 9) :: .int (iI x_steps) :: .int (iI x_counted) :: .ref (r 10) :: .int (iI x_opens) :: .ref (r 11) :: .ref (r 12) :: .int (iI x_queued) :: .ref (r 13) :: .ref (r 14) :: .int (iI x_theMask) :: .ref (r 15) :: .ref (r 16) :: .int (iI x_kept) :: .int (iI x_placed) :: .ref (r 17) :: .ref (r 18) :: .ref (r 19) :: .int (iI x_orderMany) :: .ref (r 20) :: .ref (r 21) :: .int (iI x_outs) :: [])), ((r 1), .inl (T 1, 1152, .inl (fun j : Nat => iI (bI (A j)))))]) := by
  refine ctI_of (cc := cX12_masked) (maxL := 3) (ret := (some .int)) (by decide +kernel) rfl rfl (fun r u hp => by obtain ⟨rfl, -⟩ := hp; rfl) (Nat.le_of_ble_eq_true rfl) (fun X h hinit hr => ?_)
  refine j_eq (lv' := [(0, .ref g0), (1, .int (iI k)), (2, .int (iI p))]) rfl rfl rfl rfl rfl rfl ?_
  refine j_iload_n h dX12_masked_0 1 rfl rfl ?_
  refine j_i2l h dX12_masked_1 (by omega) ?_
  refine j_lconst h dX12_masked_2 ?_
  refine j_eq rfl rfl rfl rfl (stk' := [.long (lI 0), .long (lI k)]) rfl rfl ?_
  refine j_ldc2 (z := 7) h 7 dX12_masked_3 (by decide +kernel) (List.mem_of_getElem? (i := 1) rfl) ?_
  refine j_callSi (As := [.long (lI k), .long (lI 0), .long (lI 7)]) (wr := [(g0, .inr (12, .ref (r 0) :: .ref (r 1) :: .ref (r 2) :: .int (iI x_taped) :: .int (iI x_at) :: .int (iI x_token) :: .int (iI x_from) :: .long (lI x_word) :: .int (iI x_value) :: .int (iI x_size) :: .int (iI x_fault) :: .int (iI x_faultAt) :: .ref (r 3) :: .ref (r 4) :: .ref (r 5) :: .ref (r 6) :: .ref (r 7) :: .ref (r 8) :: .ref (r 9) :: .int (iI x_steps) :: .int (iI x_counted) :: .ref (r 10) :: .int (iI x_opens) :: .ref (r 11) :: .ref (r 12) :: .int (iI x_queued) :: .ref (r 13) :: .ref (r 14) :: .int (iI x_theMask) :: .ref (r 15) :: .ref (r 16) :: .int (iI x_kept) :: .int (iI x_placed) :: .ref (r 17) :: .ref (r 18) :: .ref (r 19) :: .int (iI x_orderMany) :: .ref (r 20) :: .ref (r 21) :: .int (iI x_outs) :: [])), ((r 1), .inl (T 1, 1152, .inl (fun j : Nat => iI (bI (A j)))))]) (cells' := 0) (slots' := 0) h dX12_masked_6 (ct_X12_in T k 0 7 (by first | assumption | omega) (by first | assumption | omega) (by first | assumption | omega)) k_X12_in gX12_masked_X12_in ⟨Nat.le_of_ble_eq_true rfl, Nat.le_of_ble_eq_true rfl⟩ rfl rfl (Nat.le_of_ble_eq_true rfl) ⟨Nat.le_of_ble_eq_true rfl, Nat.le_of_ble_eq_true rfl⟩ rfl rfl [] [0, 1] rfl rfl rfl rfl (by decide) (fun r9 u9 p1 => ?_)
  obtain ⟨rfl, rfl⟩ := p1
  refine j_eq (ws' := [(g0, .inr (12, .ref (r 0) :: .ref (r 1) :: .ref (r 2) :: .int (iI x_taped) :: .int (iI x_at) :: .int (iI x_token) :: .int (iI x_from) :: .long (lI x_word) :: .int (iI x_value) :: .int (iI x_size) :: .int (iI x_fault) :: .int (iI x_faultAt) :: .ref (r 3) :: .ref (r 4) :: .ref (r 5) :: .ref (r 6) :: .ref (r 7) :: .ref (r 8) :: .ref (r 9) :: .int (iI x_steps) :: .int (iI x_counted) :: .ref (r 10) :: .int (iI x_opens) :: .ref (r 11) :: .ref (r 12) :: .int (iI x_queued) :: .ref (r 13) :: .ref (r 14) :: .int (iI x_theMask) :: .ref (r 15) :: .ref (r 16) :: .int (iI x_kept) :: .int (iI x_placed) :: .ref (r 17) :: .ref (r 18) :: .ref (r 19) :: .int (iI x_orderMany) :: .ref (r 20) :: .ref (r 21) :: .int (iI x_outs) :: [])), ((r 1), .inl (T 1, 1152, .inl (fun j : Nat => iI (bI (A j)))))]) rfl rfl rfl rfl rfl rfl ?_
  refine j_ifeqB h 24 dX12_masked_9 (by decide) (fun c2 => ?_) (fun c2 => ?_)
  · skip
    replace c2 := of_decide_eq_false c2
    refine j_bipush h dX12_masked_24 (by decide) ?_
    exact hr _ _ _ _ dX12_masked_26 ⟨(congrArg iI (show ((-101) : Int) = (maskedS A k p) by unfold maskedS; (repeat (first | rw [if_pos (by omega)] | rw [if_neg (by omega)])) <;> (try (rw [c2]; rfl)))), rfl⟩
  · skip
    replace c2 := of_decide_eq_true c2
    refine j_iload_n h dX12_masked_12 2 rfl rfl ?_
    refine j_i2l h dX12_masked_13 (by omega) ?_
    refine j_lconst h dX12_masked_14 ?_
    refine j_eq rfl rfl rfl rfl (stk' := [.long (lI 0), .long (lI p)]) rfl rfl ?_
    refine j_ldc2 (z := 143) h 143 dX12_masked_15 (by decide +kernel) (List.mem_of_getElem? (i := 2) rfl) ?_
    refine j_callSi (As := [.long (lI p), .long (lI 0), .long (lI 143)]) (wr := [(g0, .inr (12, .ref (r 0) :: .ref (r 1) :: .ref (r 2) :: .int (iI x_taped) :: .int (iI x_at) :: .int (iI x_token) :: .int (iI x_from) :: .long (lI x_word) :: .int (iI x_value) :: .int (iI x_size) :: .int (iI x_fault) :: .int (iI x_faultAt) :: .ref (r 3) :: .ref (r 4) :: .ref (r 5) :: .ref (r 6) :: .ref (r 7) :: .ref (r 8) :: .ref (r 9) :: .int (iI x_steps) :: .int (iI x_counted) :: .ref (r 10) :: .int (iI x_opens) :: .ref (r 11) :: .ref (r 12) :: .int (iI x_queued) :: .ref (r 13) :: .ref (r 14) :: .int (iI x_theMask) :: .ref (r 15) :: .ref (r 16) :: .int (iI x_kept) :: .int (iI x_placed) :: .ref (r 17) :: .ref (r 18) :: .ref (r 19) :: .int (iI x_orderMany) :: .ref (r 20) :: .ref (r 21) :: .int (iI x_outs) :: [])), ((r 1), .inl (T 1, 1152, .inl (fun j : Nat => iI (bI (A j)))))]) (cells' := 0) (slots' := 0) h dX12_masked_18 (ct_X12_in T p 0 143 (by first | assumption | omega) (by first | assumption | omega) (by first | assumption | omega)) k_X12_in gX12_masked_X12_in ⟨Nat.le_of_ble_eq_true rfl, Nat.le_of_ble_eq_true rfl⟩ rfl rfl (Nat.le_of_ble_eq_true rfl) ⟨Nat.le_of_ble_eq_true rfl, Nat.le_of_ble_eq_true rfl⟩ rfl rfl [] [0, 1] rfl rfl rfl rfl (by decide) (fun r9 u9 p3 => ?_)
    obtain ⟨rfl, rfl⟩ := p3
    refine j_eq (ws' := [(g0, .inr (12, .ref (r 0) :: .ref (r 1) :: .ref (r 2) :: .int (iI x_taped) :: .int (iI x_at) :: .int (iI x_token) :: .int (iI x_from) :: .long (lI x_word) :: .int (iI x_value) :: .int (iI x_size) :: .int (iI x_fault) :: .int (iI x_faultAt) :: .ref (r 3) :: .ref (r 4) :: .ref (r 5) :: .ref (r 6) :: .ref (r 7) :: .ref (r 8) :: .ref (r 9) :: .int (iI x_steps) :: .int (iI x_counted) :: .ref (r 10) :: .int (iI x_opens) :: .ref (r 11) :: .ref (r 12) :: .int (iI x_queued) :: .ref (r 13) :: .ref (r 14) :: .int (iI x_theMask) :: .ref (r 15) :: .ref (r 16) :: .int (iI x_kept) :: .int (iI x_placed) :: .ref (r 17) :: .ref (r 18) :: .ref (r 19) :: .int (iI x_orderMany) :: .ref (r 20) :: .ref (r 21) :: .int (iI x_outs) :: [])), ((r 1), .inl (T 1, 1152, .inl (fun j : Nat => iI (bI (A j)))))]) rfl rfl rfl rfl rfl rfl ?_
    refine j_ifneB h 27 dX12_masked_21 (by decide) (fun c4 => ?_) (fun c4 => ?_)
    · skip
      replace c4 := of_decide_eq_true c4
      refine j_aload_n h dX12_masked_27 0 rfl rfl ?_
      refine j_get h dX12_masked_28 f_X12_masked_13 0 rfl rfl ?_
      refine j_sipush h dX12_masked_31 (by decide) ?_
      refine j_iload_n h dX12_masked_34 1 rfl rfl ?_
      refine j_imul h dX12_masked_35 ?_
      refine j_iload_n h dX12_masked_36 2 rfl rfl ?_
      refine j_iadd h dX12_masked_37 ?_
      refine j_zald (f := A) h (144 * k + p) dX12_masked_38 1 rfl (by decide) (by omega) (by omega) ?_
      refine j_ifeqB h 46 dX12_masked_39 (by decide) (fun c5 => ?_) (fun c5 => ?_)
      · skip
        refine j_iconst h dX12_masked_46 ?_
        exact hr _ _ _ _ dX12_masked_47 ⟨(congrArg iI (show (0 : Int) = (maskedS A k p) by unfold maskedS; (repeat (first | rw [if_pos (by omega)] | rw [if_neg (by omega)])) <;> (try (rw [c5]; rfl)))), rfl⟩
      · skip
        refine j_iconst h dX12_masked_42 ?_
        refine j_goto (tgt := 47) h dX12_masked_43 (by decide) ?_
        exact hr _ _ _ _ dX12_masked_47 ⟨(congrArg iI (show (1 : Int) = (maskedS A k p) by unfold maskedS; (repeat (first | rw [if_pos (by omega)] | rw [if_neg (by omega)])) <;> (try (rw [c5]; rfl)))), rfl⟩
    · skip
      replace c4 := of_decide_eq_false c4
      refine j_bipush h dX12_masked_24 (by decide) ?_
      exact hr _ _ _ _ dX12_masked_26 ⟨(congrArg iI (show ((-101) : Int) = (maskedS A k p) by unfold maskedS; (repeat (first | rw [if_pos (by omega)] | rw [if_neg (by omega)])) <;> (try (rw [c4]; rfl)))), rfl⟩

abbrev rmX12_turned : Room := { frames := 1, cells := 0, slots := 0, locals := 25 }
theorem in_X12_turned_X12 : ∀ w ∈ u_ws RX12 TX12 40, w ∈ wsX12_turned := fun w hw => List.mem_cons_of_mem _ (List.mem_append_right _ (hw))
theorem f_X12_turned_13 : FlOK RX12 13 wsX12_turned 12 1 := ⟨_, _, _, rfl, by decide, in_X12_turned_X12, List.mem_of_getElem? (i := 2) rfl⟩
set_option maxHeartbeats 600000 in
set_option maxRecDepth 100000 in
/-- turned -/
theorem ct_X12_turned (T : Nat → ClassId) (g0 : Nat) (r : Nat → Nat) (x_taped : Int) (x_at : Int) (x_token : Int) (x_from : Int) (x_word : Int) (x_value : Int) (x_size : Int) (x_fault : Int) (x_faultAt : Int) (x_steps : Int) (x_counted : Int) (x_opens : Int) (x_queued : Int) (x_theMask : Int) (x_kept : Int) (x_placed : Int) (x_orderMany : Int) (x_outs : Int) (A : Int → Bool) (k : Int) (hk : -2147483648 ≤ k ∧ k ≤ 2147483647) : CtI T yX12_turned wsX12_turned rmX12_turned 0 0 [.ref g0, .int (iI k)] [(g0, .inr (12, .ref (r 0) :: .ref (r 1) :: .ref (r 2) :: .int (iI x_taped) :: .int (iI x_at) :: .int (iI x_token) :: .int (iI x_from) :: .long (lI x_word) :: .int (iI x_value) :: .int (iI x_size) :: .int (iI x_fault) :: .int (iI x_faultAt) :: .ref (r 3) :: .ref (r 4) :: .ref (r 5) :: .ref (r 6) :: .ref (r 7) :: .ref (r 8) :: .ref (r 9) :: .int (iI x_steps) :: .int (iI x_counted) :: .ref (r 10) :: .int (iI x_opens) :: .ref (r 11) :: .ref (r 12) :: .int (iI x_queued) :: .ref (r 13) :: .ref (r 14) :: .int (iI x_theMask) :: .ref (r 15) :: .ref (r 16) :: .int (iI x_kept) :: .int (iI x_placed) :: .ref (r 17) :: .ref (r 18) :: .ref (r 19) :: .int (iI x_orderMany) :: .ref (r 20) :: .ref (r 21) :: .int (iI x_outs) :: [])), ((r 1), .inl (T 1, 1152, .inl (fun j : Nat => iI (bI (A j)))))] (fun r8 u => r8 = (iI ((turnedS A k).1)) ∧ u = [(g0, .inr (12, .ref (r 0) :: .ref (r 1) :: .ref (r 2) :: .int (iI x_taped) :: .int (iI x_at) :: .int (iI x_token) :: .int (iI x_from) :: .long (lI x_word) :: .int (iI x_value) :: .int (iI x_size) :: .int (iI x_fault) :: .int (iI x_faultAt) :: .ref (r 3) :: .ref (r 4) :: .ref (r 5) :: .ref (r 6) :: .ref (r 7) :: .ref (r 8) :: .ref (r 9) :: .int (iI x_steps) :: .int (iI x_counted) :: .ref (r 10) :: .int (iI x_opens) :: .ref (r 11) :: .ref (r 12) :: .int (iI x_queued) :: .ref (r 13) :: .ref (r 14) :: .int (iI x_theMask) :: .ref (r 15) :: .ref (r 16) :: .int (iI x_kept) :: .int (iI x_placed) :: .ref (r 17) :: .ref (r 18) :: .ref (r 19) :: .int (iI x_orderMany) :: .ref (r 20) :: .ref (r 21) :: .int (iI x_outs) :: [])), ((r 1), .inl (T 1, 1152, .inl (fun j : Nat => iI (bI (((turnedS A k).2) j)))))]) := by
  refine ctI_of (cc := cX12_turned) (maxL := 3) (ret := (some .int)) (by decide +kernel) rfl rfl (fun r u hp => by obtain ⟨rfl, -⟩ := hp; rfl) (Nat.le_of_ble_eq_true rfl) (fun X h hinit hr => ?_)
  refine j_eq (lv' := [(0, .ref g0), (1, .int (iI k))]) rfl rfl rfl rfl rfl rfl ?_
  refine j_iload_n h dX12_turned_0 1 rfl rfl ?_
  refine j_i2l h dX12_turned_1 (by omega) ?_
  refine j_lconst h dX12_turned_2 ?_
  refine j_eq rfl rfl rfl rfl (stk' := [.long (lI 0), .long (lI k)]) rfl rfl ?_
  refine j_ldc2 (z := 7) h 7 dX12_turned_3 (by decide +kernel) (List.mem_of_getElem? (i := 1) rfl) ?_
  refine j_callSi (As := [.long (lI k), .long (lI 0), .long (lI 7)]) (wr := [(g0, .inr (12, .ref (r 0) :: .ref (r 1) :: .ref (r 2) :: .int (iI x_taped) :: .int (iI x_at) :: .int (iI x_token) :: .int (iI x_from) :: .long (lI x_word) :: .int (iI x_value) :: .int (iI x_size) :: .int (iI x_fault) :: .int (iI x_faultAt) :: .ref (r 3) :: .ref (r 4) :: .ref (r 5) :: .ref (r 6) :: .ref (r 7) :: .ref (r 8) :: .ref (r 9) :: .int (iI x_steps) :: .int (iI x_counted) :: .ref (r 10) :: .int (iI x_opens) :: .ref (r 11) :: .ref (r 12) :: .int (iI x_queued) :: .ref (r 13) :: .ref (r 14) :: .int (iI x_theMask) :: .ref (r 15) :: .ref (r 16) :: .int (iI x_kept) :: .int (iI x_placed) :: .ref (r 17) :: .ref (r 18) :: .ref (r 19) :: .int (iI x_orderMany) :: .ref (r 20) :: .ref (r 21) :: .int (iI x_outs) :: [])), ((r 1), .inl (T 1, 1152, .inl (fun j : Nat => iI (bI (A j)))))]) (cells' := 0) (slots' := 0) h dX12_turned_6 (ct_X12_in T k 0 7 (by first | assumption | omega) (by first | assumption | omega) (by first | assumption | omega)) k_X12_in gX12_turned_X12_in ⟨Nat.le_of_ble_eq_true rfl, Nat.le_of_ble_eq_true rfl⟩ rfl rfl (Nat.le_of_ble_eq_true rfl) ⟨Nat.le_of_ble_eq_true rfl, Nat.le_of_ble_eq_true rfl⟩ rfl rfl [] [0, 1] rfl rfl rfl rfl (by decide) (fun r9 u9 p1 => ?_)
  obtain ⟨rfl, rfl⟩ := p1
  refine j_eq (ws' := [(g0, .inr (12, .ref (r 0) :: .ref (r 1) :: .ref (r 2) :: .int (iI x_taped) :: .int (iI x_at) :: .int (iI x_token) :: .int (iI x_from) :: .long (lI x_word) :: .int (iI x_value) :: .int (iI x_size) :: .int (iI x_fault) :: .int (iI x_faultAt) :: .ref (r 3) :: .ref (r 4) :: .ref (r 5) :: .ref (r 6) :: .ref (r 7) :: .ref (r 8) :: .ref (r 9) :: .int (iI x_steps) :: .int (iI x_counted) :: .ref (r 10) :: .int (iI x_opens) :: .ref (r 11) :: .ref (r 12) :: .int (iI x_queued) :: .ref (r 13) :: .ref (r 14) :: .int (iI x_theMask) :: .ref (r 15) :: .ref (r 16) :: .int (iI x_kept) :: .int (iI x_placed) :: .ref (r 17) :: .ref (r 18) :: .ref (r 19) :: .int (iI x_orderMany) :: .ref (r 20) :: .ref (r 21) :: .int (iI x_outs) :: [])), ((r 1), .inl (T 1, 1152, .inl (fun j : Nat => iI (bI (A j)))))]) rfl rfl rfl rfl rfl rfl ?_
  refine j_ifneB h 15 dX12_turned_9 (by decide) (fun c2 => ?_) (fun c2 => ?_)
  · skip
    replace c2 := of_decide_eq_true c2
    refine j_iconst h dX12_turned_15 ?_
    refine j_istore_n (lv' := [(0, .ref g0), (1, .int (iI k)), (2, .int (iI 0))]) h dX12_turned_16 [1, 2, 0] rfl (by decide) rfl ?_
    have lp17 : ∀ (n17 : Nat) (i : Int) (hi : 0 ≤ i ∧ i ≤ 144), ((144 - i).toNat) < n17 → J X 0 0 17 [(0, .ref g0), (1, .int (iI k)), (2, .int (iI i))] [] [(g0, .inr (12, .ref (r 0) :: .ref (r 1) :: .ref (r 2) :: .int (iI x_taped) :: .int (iI x_at) :: .int (iI x_token) :: .int (iI x_from) :: .long (lI x_word) :: .int (iI x_value) :: .int (iI x_size) :: .int (iI x_fault) :: .int (iI x_faultAt) :: .ref (r 3) :: .ref (r 4) :: .ref (r 5) :: .ref (r 6) :: .ref (r 7) :: .ref (r 8) :: .ref (r 9) :: .int (iI x_steps) :: .int (iI x_counted) :: .ref (r 10) :: .int (iI x_opens) :: .ref (r 11) :: .ref (r 12) :: .int (iI x_queued) :: .ref (r 13) :: .ref (r 14) :: .int (iI x_theMask) :: .ref (r 15) :: .ref (r 16) :: .int (iI x_kept) :: .int (iI x_placed) :: .ref (r 17) :: .ref (r 18) :: .ref (r 19) :: .int (iI x_orderMany) :: .ref (r 20) :: .ref (r 21) :: .int (iI x_outs) :: [])), ((r 1), .inl (T 1, 1152, .inl (fun j : Nat => iI (bI ((trF A k i) j)))))] := by
      intro n17
      induction n17 with
      | zero => exact fun i hi hn17 => absurd hn17 (Nat.not_lt_zero _)
      | succ n17 ih17 =>
        intro i hi hn17
        refine j_iload_n h dX12_turned_17 2 rfl rfl ?_
        refine j_sipush h dX12_turned_18 (by decide) ?_
        refine j_icmp_ge h 62 dX12_turned_21 (by decide) (by omega) (by omega) (fun c3 => ?_) (fun c3 => ?_)
        · skip
          refine j_aload_n h dX12_turned_62 0 rfl rfl ?_
          refine j_iload_n h dX12_turned_63 1 rfl rfl ?_
          refine j_callVi (As := [.int (iI k)]) (wr := []) (cells' := 0) (slots' := 0) h dX12_turned_64 (ct_X12_many T g0 r x_taped x_at x_token x_from x_word x_value x_size x_fault x_faultAt x_steps x_counted x_opens x_queued x_theMask x_kept x_placed x_orderMany x_outs (trF A k i) k (by first | assumption | omega)) k_X12_many gX12_turned_X12_many rfl rfl 0 rfl ⟨Nat.le_of_ble_eq_true rfl, Nat.le_of_ble_eq_true rfl⟩ rfl rfl (Nat.le_of_ble_eq_true rfl) ⟨Nat.le_of_ble_eq_true rfl, Nat.le_of_ble_eq_true rfl⟩ rfl rfl [0, 1] [] rfl rfl rfl rfl (by decide) (fun r9 u9 p4 => ?_)
          obtain ⟨rfl, rfl⟩ := p4
          refine j_eq (ws' := [(g0, .inr (12, .ref (r 0) :: .ref (r 1) :: .ref (r 2) :: .int (iI x_taped) :: .int (iI x_at) :: .int (iI x_token) :: .int (iI x_from) :: .long (lI x_word) :: .int (iI x_value) :: .int (iI x_size) :: .int (iI x_fault) :: .int (iI x_faultAt) :: .ref (r 3) :: .ref (r 4) :: .ref (r 5) :: .ref (r 6) :: .ref (r 7) :: .ref (r 8) :: .ref (r 9) :: .int (iI x_steps) :: .int (iI x_counted) :: .ref (r 10) :: .int (iI x_opens) :: .ref (r 11) :: .ref (r 12) :: .int (iI x_queued) :: .ref (r 13) :: .ref (r 14) :: .int (iI x_theMask) :: .ref (r 15) :: .ref (r 16) :: .int (iI x_kept) :: .int (iI x_placed) :: .ref (r 17) :: .ref (r 18) :: .ref (r 19) :: .int (iI x_orderMany) :: .ref (r 20) :: .ref (r 21) :: .int (iI x_outs) :: [])), ((r 1), .inl (T 1, 1152, .inl (fun j : Nat => iI (bI ((trF A k i) j)))))]) rfl rfl rfl rfl rfl rfl ?_
          exact hr _ _ _ _ dX12_turned_67 ⟨(congrArg iI (show ((sizeP (trF A k i) k) : Int) = (turnedS A k).1 by unfold turnedS; (repeat (first | rw [if_pos (by omega)] | rw [if_neg (by omega)])) <;> (try (rw [show i = 144 by omega] <;> rfl)))), (show ([(g0, .inr (12, .ref (r 0) :: .ref (r 1) :: .ref (r 2) :: .int (iI x_taped) :: .int (iI x_at) :: .int (iI x_token) :: .int (iI x_from) :: .long (lI x_word) :: .int (iI x_value) :: .int (iI x_size) :: .int (iI x_fault) :: .int (iI x_faultAt) :: .ref (r 3) :: .ref (r 4) :: .ref (r 5) :: .ref (r 6) :: .ref (r 7) :: .ref (r 8) :: .ref (r 9) :: .int (iI x_steps) :: .int (iI x_counted) :: .ref (r 10) :: .int (iI x_opens) :: .ref (r 11) :: .ref (r 12) :: .int (iI x_queued) :: .ref (r 13) :: .ref (r 14) :: .int (iI x_theMask) :: .ref (r 15) :: .ref (r 16) :: .int (iI x_kept) :: .int (iI x_placed) :: .ref (r 17) :: .ref (r 18) :: .ref (r 19) :: .int (iI x_orderMany) :: .ref (r 20) :: .ref (r 21) :: .int (iI x_outs) :: [])), ((r 1), .inl (T 1, 1152, .inl (fun j : Nat => iI (bI ((trF A k i) j)))))] : va_W) = [(g0, .inr (12, .ref (r 0) :: .ref (r 1) :: .ref (r 2) :: .int (iI x_taped) :: .int (iI x_at) :: .int (iI x_token) :: .int (iI x_from) :: .long (lI x_word) :: .int (iI x_value) :: .int (iI x_size) :: .int (iI x_fault) :: .int (iI x_faultAt) :: .ref (r 3) :: .ref (r 4) :: .ref (r 5) :: .ref (r 6) :: .ref (r 7) :: .ref (r 8) :: .ref (r 9) :: .int (iI x_steps) :: .int (iI x_counted) :: .ref (r 10) :: .int (iI x_opens) :: .ref (r 11) :: .ref (r 12) :: .int (iI x_queued) :: .ref (r 13) :: .ref (r 14) :: .int (iI x_theMask) :: .ref (r 15) :: .ref (r 16) :: .int (iI x_kept) :: .int (iI x_placed) :: .ref (r 17) :: .ref (r 18) :: .ref (r 19) :: .int (iI x_orderMany) :: .ref (r 20) :: .ref (r 21) :: .int (iI x_outs) :: [])), ((r 1), .inl (T 1, 1152, .inl (fun j : Nat => iI (bI (((turnedS A k).2) j)))))] by unfold turnedS; (repeat (first | rw [if_pos (by omega)] | rw [if_neg (by omega)])) <;> (try (rw [show i = 144 by omega])))⟩
        · skip
          refine j_aload_n h dX12_turned_24 0 rfl rfl ?_
          refine j_get h dX12_turned_25 f_X12_turned_13 0 rfl rfl ?_
          refine j_sipush h dX12_turned_28 (by decide) ?_
          refine j_iload_n h dX12_turned_31 1 rfl rfl ?_
          refine j_imul h dX12_turned_32 ?_
          refine j_iload_n h dX12_turned_33 2 rfl rfl ?_
          refine j_iadd h dX12_turned_34 ?_
          refine j_aload_n h dX12_turned_35 0 rfl rfl ?_
          refine j_get h dX12_turned_36 f_X12_turned_13 0 rfl rfl ?_
          refine j_sipush h dX12_turned_39 (by decide) ?_
          refine j_iload_n h dX12_turned_42 1 rfl rfl ?_
          refine j_imul h dX12_turned_43 ?_
          refine j_iload_n h dX12_turned_44 2 rfl rfl ?_
          refine j_iadd h dX12_turned_45 ?_
          refine j_zald (f := trF A k i) h (144 * k + i) dX12_turned_46 1 rfl (by decide) (by omega) (by omega) ?_
          refine j_ifneB h 54 dX12_turned_47 (by decide) (fun c5 => ?_) (fun c5 => ?_)
          · skip
            refine j_iconst h dX12_turned_54 ?_
            refine j_zast (v := false) (f := trF A k i) (ws' := [(g0, .inr (12, .ref (r 0) :: .ref (r 1) :: .ref (r 2) :: .int (iI x_taped) :: .int (iI x_at) :: .int (iI x_token) :: .int (iI x_from) :: .long (lI x_word) :: .int (iI x_value) :: .int (iI x_size) :: .int (iI x_fault) :: .int (iI x_faultAt) :: .ref (r 3) :: .ref (r 4) :: .ref (r 5) :: .ref (r 6) :: .ref (r 7) :: .ref (r 8) :: .ref (r 9) :: .int (iI x_steps) :: .int (iI x_counted) :: .ref (r 10) :: .int (iI x_opens) :: .ref (r 11) :: .ref (r 12) :: .int (iI x_queued) :: .ref (r 13) :: .ref (r 14) :: .int (iI x_theMask) :: .ref (r 15) :: .ref (r 16) :: .int (iI x_kept) :: .int (iI x_placed) :: .ref (r 17) :: .ref (r 18) :: .ref (r 19) :: .int (iI x_orderMany) :: .ref (r 20) :: .ref (r 21) :: .int (iI x_outs) :: [])), ((r 1), .inl (T 1, 1152, .inl (fun j : Nat => iI (bI ((upI (trF A k i) (144 * k + i) false) j)))))]) h (144 * k + i) dX12_turned_55 1 rfl (by decide) (by omega) (by omega) rfl ?_
            refine j_iinc (lv' := [(0, .ref g0), (1, .int (iI k)), (2, .int (iI (i + 1)))]) h dX12_turned_56 2 [1, 2, 0] rfl (by decide) rfl ?_
            refine j_goto (tgt := 17) h dX12_turned_59 (by decide) ?_
            refine j_eq (ws' := [(g0, .inr (12, .ref (r 0) :: .ref (r 1) :: .ref (r 2) :: .int (iI x_taped) :: .int (iI x_at) :: .int (iI x_token) :: .int (iI x_from) :: .long (lI x_word) :: .int (iI x_value) :: .int (iI x_size) :: .int (iI x_fault) :: .int (iI x_faultAt) :: .ref (r 3) :: .ref (r 4) :: .ref (r 5) :: .ref (r 6) :: .ref (r 7) :: .ref (r 8) :: .ref (r 9) :: .int (iI x_steps) :: .int (iI x_counted) :: .ref (r 10) :: .int (iI x_opens) :: .ref (r 11) :: .ref (r 12) :: .int (iI x_queued) :: .ref (r 13) :: .ref (r 14) :: .int (iI x_theMask) :: .ref (r 15) :: .ref (r 16) :: .int (iI x_kept) :: .int (iI x_placed) :: .ref (r 17) :: .ref (r 18) :: .ref (r 19) :: .int (iI x_orderMany) :: .ref (r 20) :: .ref (r 21) :: .int (iI x_outs) :: [])), ((r 1), .inl (T 1, 1152, .inl (fun j : Nat => iI (bI ((trF A k (i + 1)) j)))))]) rfl rfl rfl rfl rfl (by rw [trF_s (by omega) (by omega) (by rw [c5]; rfl)]) ?_
            exact ih17 (i + 1) (by first | assumption | omega) (by omega)
          · skip
            refine j_iconst h dX12_turned_50 ?_
            refine j_goto (tgt := 55) h dX12_turned_51 (by decide) ?_
            refine j_zast (v := true) (f := trF A k i) (ws' := [(g0, .inr (12, .ref (r 0) :: .ref (r 1) :: .ref (r 2) :: .int (iI x_taped) :: .int (iI x_at) :: .int (iI x_token) :: .int (iI x_from) :: .long (lI x_word) :: .int (iI x_value) :: .int (iI x_size) :: .int (iI x_fault) :: .int (iI x_faultAt) :: .ref (r 3) :: .ref (r 4) :: .ref (r 5) :: .ref (r 6) :: .ref (r 7) :: .ref (r 8) :: .ref (r 9) :: .int (iI x_steps) :: .int (iI x_counted) :: .ref (r 10) :: .int (iI x_opens) :: .ref (r 11) :: .ref (r 12) :: .int (iI x_queued) :: .ref (r 13) :: .ref (r 14) :: .int (iI x_theMask) :: .ref (r 15) :: .ref (r 16) :: .int (iI x_kept) :: .int (iI x_placed) :: .ref (r 17) :: .ref (r 18) :: .ref (r 19) :: .int (iI x_orderMany) :: .ref (r 20) :: .ref (r 21) :: .int (iI x_outs) :: [])), ((r 1), .inl (T 1, 1152, .inl (fun j : Nat => iI (bI ((upI (trF A k i) (144 * k + i) true) j)))))]) h (144 * k + i) dX12_turned_55 1 rfl (by decide) (by omega) (by omega) rfl ?_
            refine j_iinc (lv' := [(0, .ref g0), (1, .int (iI k)), (2, .int (iI (i + 1)))]) h dX12_turned_56 2 [1, 2, 0] rfl (by decide) rfl ?_
            refine j_goto (tgt := 17) h dX12_turned_59 (by decide) ?_
            refine j_eq (ws' := [(g0, .inr (12, .ref (r 0) :: .ref (r 1) :: .ref (r 2) :: .int (iI x_taped) :: .int (iI x_at) :: .int (iI x_token) :: .int (iI x_from) :: .long (lI x_word) :: .int (iI x_value) :: .int (iI x_size) :: .int (iI x_fault) :: .int (iI x_faultAt) :: .ref (r 3) :: .ref (r 4) :: .ref (r 5) :: .ref (r 6) :: .ref (r 7) :: .ref (r 8) :: .ref (r 9) :: .int (iI x_steps) :: .int (iI x_counted) :: .ref (r 10) :: .int (iI x_opens) :: .ref (r 11) :: .ref (r 12) :: .int (iI x_queued) :: .ref (r 13) :: .ref (r 14) :: .int (iI x_theMask) :: .ref (r 15) :: .ref (r 16) :: .int (iI x_kept) :: .int (iI x_placed) :: .ref (r 17) :: .ref (r 18) :: .ref (r 19) :: .int (iI x_orderMany) :: .ref (r 20) :: .ref (r 21) :: .int (iI x_outs) :: [])), ((r 1), .inl (T 1, 1152, .inl (fun j : Nat => iI (bI ((trF A k (i + 1)) j)))))]) rfl rfl rfl rfl rfl (by rw [trF_s (by omega) (by omega) (by rw [c5]; rfl)]) ?_
            exact ih17 (i + 1) (by first | assumption | omega) (by omega)
    refine j_eq (ws' := [(g0, .inr (12, .ref (r 0) :: .ref (r 1) :: .ref (r 2) :: .int (iI x_taped) :: .int (iI x_at) :: .int (iI x_token) :: .int (iI x_from) :: .long (lI x_word) :: .int (iI x_value) :: .int (iI x_size) :: .int (iI x_fault) :: .int (iI x_faultAt) :: .ref (r 3) :: .ref (r 4) :: .ref (r 5) :: .ref (r 6) :: .ref (r 7) :: .ref (r 8) :: .ref (r 9) :: .int (iI x_steps) :: .int (iI x_counted) :: .ref (r 10) :: .int (iI x_opens) :: .ref (r 11) :: .ref (r 12) :: .int (iI x_queued) :: .ref (r 13) :: .ref (r 14) :: .int (iI x_theMask) :: .ref (r 15) :: .ref (r 16) :: .int (iI x_kept) :: .int (iI x_placed) :: .ref (r 17) :: .ref (r 18) :: .ref (r 19) :: .int (iI x_orderMany) :: .ref (r 20) :: .ref (r 21) :: .int (iI x_outs) :: [])), ((r 1), .inl (T 1, 1152, .inl (fun j : Nat => iI (bI ((trF A k 0) j)))))]) rfl rfl rfl rfl rfl (by rw [trF_0]) ?_
    exact lp17 _ 0 (by first | assumption | omega) (Nat.lt_succ_self _)
  · skip
    replace c2 := of_decide_eq_false c2
    refine j_bipush h dX12_turned_12 (by decide) ?_
    exact hr _ _ _ _ dX12_turned_14 ⟨(congrArg iI (show ((-101) : Int) = (turnedS A k).1 by unfold turnedS; (repeat (first | rw [if_pos (by omega)] | rw [if_neg (by omega)])) <;> (try (rw [show i = 144 by omega] <;> rfl)))), (show ([(g0, .inr (12, .ref (r 0) :: .ref (r 1) :: .ref (r 2) :: .int (iI x_taped) :: .int (iI x_at) :: .int (iI x_token) :: .int (iI x_from) :: .long (lI x_word) :: .int (iI x_value) :: .int (iI x_size) :: .int (iI x_fault) :: .int (iI x_faultAt) :: .ref (r 3) :: .ref (r 4) :: .ref (r 5) :: .ref (r 6) :: .ref (r 7) :: .ref (r 8) :: .ref (r 9) :: .int (iI x_steps) :: .int (iI x_counted) :: .ref (r 10) :: .int (iI x_opens) :: .ref (r 11) :: .ref (r 12) :: .int (iI x_queued) :: .ref (r 13) :: .ref (r 14) :: .int (iI x_theMask) :: .ref (r 15) :: .ref (r 16) :: .int (iI x_kept) :: .int (iI x_placed) :: .ref (r 17) :: .ref (r 18) :: .ref (r 19) :: .int (iI x_orderMany) :: .ref (r 20) :: .ref (r 21) :: .int (iI x_outs) :: [])), ((r 1), .inl (T 1, 1152, .inl (fun j : Nat => iI (bI (A j)))))] : va_W) = [(g0, .inr (12, .ref (r 0) :: .ref (r 1) :: .ref (r 2) :: .int (iI x_taped) :: .int (iI x_at) :: .int (iI x_token) :: .int (iI x_from) :: .long (lI x_word) :: .int (iI x_value) :: .int (iI x_size) :: .int (iI x_fault) :: .int (iI x_faultAt) :: .ref (r 3) :: .ref (r 4) :: .ref (r 5) :: .ref (r 6) :: .ref (r 7) :: .ref (r 8) :: .ref (r 9) :: .int (iI x_steps) :: .int (iI x_counted) :: .ref (r 10) :: .int (iI x_opens) :: .ref (r 11) :: .ref (r 12) :: .int (iI x_queued) :: .ref (r 13) :: .ref (r 14) :: .int (iI x_theMask) :: .ref (r 15) :: .ref (r 16) :: .int (iI x_kept) :: .int (iI x_placed) :: .ref (r 17) :: .ref (r 18) :: .ref (r 19) :: .int (iI x_orderMany) :: .ref (r 20) :: .ref (r 21) :: .int (iI x_outs) :: [])), ((r 1), .inl (T 1, 1152, .inl (fun j : Nat => iI (bI (((turnedS A k).2) j)))))] by unfold turnedS; (repeat (first | rw [if_pos (by omega)] | rw [if_neg (by omega)])) <;> (try (rw [show i = 144 by omega])))⟩

abbrev rmX12_four : Room := { frames := 0, cells := 0, slots := 0, locals := 0 }
theorem in_X12_four_X12 : ∀ w ∈ u_ws RX12 TX12 40, w ∈ wsX12_four := fun w hw => List.mem_cons_of_mem _ (List.mem_append_right _ (hw))
theorem f_X12_four_17 : FlOK RX12 17 wsX12_four 12 2 := ⟨_, _, _, rfl, by decide, in_X12_four_X12, List.mem_of_getElem? (i := 1) rfl⟩
theorem f_X12_four_96 : FlOK RX12 96 wsX12_four 12 3 := ⟨_, _, _, rfl, by decide, in_X12_four_X12, List.mem_of_getElem? (i := 2) rfl⟩
theorem p_X12_3 : PuOK 12 3 false (.int) := ⟨_, _, _, tyX12, rfl, tyX12_ok, nmX12, rfl, rfl⟩
set_option maxHeartbeats 600000 in
set_option maxRecDepth 100000 in
/-- the four bytes of a number come behind the tape -/
theorem ct_X12_four (T : Nat → ClassId) (g0 : Nat) (r : Nat → Nat) (x_taped : Int) (x_at : Int) (x_token : Int) (x_from : Int) (x_word : Int) (x_value : Int) (x_size : Int) (x_fault : Int) (x_faultAt : Int) (x_steps : Int) (x_counted : Int) (x_opens : Int) (x_queued : Int) (x_theMask : Int) (x_kept : Int) (x_placed : Int) (x_orderMany : Int) (x_outs : Int) (Tb : Int → Int) (v : Int) (hL : 0 ≤ x_taped ∧ x_taped ≤ 596) (hv : -2147483648 ≤ v ∧ v ≤ 2147483647) : CtV T yX12_four wsX12_four rmX12_four 0 0 [.ref g0, .int (iI v)] [(g0, .inr (12, .ref (r 0) :: .ref (r 1) :: .ref (r 2) :: .int (iI x_taped) :: .int (iI x_at) :: .int (iI x_token) :: .int (iI x_from) :: .long (lI x_word) :: .int (iI x_value) :: .int (iI x_size) :: .int (iI x_fault) :: .int (iI x_faultAt) :: .ref (r 3) :: .ref (r 4) :: .ref (r 5) :: .ref (r 6) :: .ref (r 7) :: .ref (r 8) :: .ref (r 9) :: .int (iI x_steps) :: .int (iI x_counted) :: .ref (r 10) :: .int (iI x_opens) :: .ref (r 11) :: .ref (r 12) :: .int (iI x_queued) :: .ref (r 13) :: .ref (r 14) :: .int (iI x_theMask) :: .ref (r 15) :: .ref (r 16) :: .int (iI x_kept) :: .int (iI x_placed) :: .ref (r 17) :: .ref (r 18) :: .ref (r 19) :: .int (iI x_orderMany) :: .ref (r 20) :: .ref (r 21) :: .int (iI x_outs) :: [])), ((r 2), .inl (T 2, 600, .inl (fun j : Nat => iI ((fun j9 => sbS (Tb j9)) j))))] (fun u => u = [(g0, .inr (12, .ref (r 0) :: .ref (r 1) :: .ref (r 2) :: .int (iI (x_taped + 4)) :: .int (iI x_at) :: .int (iI x_token) :: .int (iI x_from) :: .long (lI x_word) :: .int (iI x_value) :: .int (iI x_size) :: .int (iI x_fault) :: .int (iI x_faultAt) :: .ref (r 3) :: .ref (r 4) :: .ref (r 5) :: .ref (r 6) :: .ref (r 7) :: .ref (r 8) :: .ref (r 9) :: .int (iI x_steps) :: .int (iI x_counted) :: .ref (r 10) :: .int (iI x_opens) :: .ref (r 11) :: .ref (r 12) :: .int (iI x_queued) :: .ref (r 13) :: .ref (r 14) :: .int (iI x_theMask) :: .ref (r 15) :: .ref (r 16) :: .int (iI x_kept) :: .int (iI x_placed) :: .ref (r 17) :: .ref (r 18) :: .ref (r 19) :: .int (iI x_orderMany) :: .ref (r 20) :: .ref (r 21) :: .int (iI x_outs) :: [])), ((r 2), .inl (T 2, 600, .inl (fun j : Nat => iI ((fun j9 => sbS ((putB Tb x_taped v) j9)) j))))]) := by
  refine ctV_of (cc := cX12_four) (maxL := 3) (ret := none) (by decide +kernel) rfl rfl (Nat.le_of_ble_eq_true rfl) (fun X h hinit hr => ?_)
  refine j_eq (lv' := [(0, .ref g0), (1, .int (iI v))]) rfl rfl rfl rfl rfl rfl ?_
  refine j_iconst h dX12_four_0 ?_
  refine j_istore_n (lv' := [(0, .ref g0), (1, .int (iI v)), (2, .int (iI 3))]) h dX12_four_1 [1, 2, 0] rfl (by decide) rfl ?_
  refine j_iload_n h dX12_four_2 2 rfl rfl ?_
  refine j_if_lt h 38 dX12_four_3 (by decide) (by omega) (fun c1 => ?_) (fun c1 => ?_)
  · skip
    exact absurd c1 (by decide)
  · skip
    refine j_aload_n h dX12_four_6 0 rfl rfl ?_
    refine j_get h dX12_four_7 f_X12_four_17 0 rfl rfl ?_
    refine j_aload_n h dX12_four_10 0 rfl rfl ?_
    refine j_get h dX12_four_11 f_X12_four_96 0 rfl rfl ?_
    refine j_iload_n h dX12_four_14 1 rfl rfl ?_
    refine j_bipush h dX12_four_15 (by decide) ?_
    refine j_iload_n h dX12_four_17 2 rfl rfl ?_
    refine j_imul h dX12_four_18 ?_
    refine j_ishr h dX12_four_19 (by first | omega | decide) (by first | omega | decide) ?_
    refine j_i2b h dX12_four_20 ?_
    refine j_bast (f := (fun j9 => sbS (Tb j9))) (ws' := [(g0, .inr (12, .ref (r 0) :: .ref (r 1) :: .ref (r 2) :: .int (iI x_taped) :: .int (iI x_at) :: .int (iI x_token) :: .int (iI x_from) :: .long (lI x_word) :: .int (iI x_value) :: .int (iI x_size) :: .int (iI x_fault) :: .int (iI x_faultAt) :: .ref (r 3) :: .ref (r 4) :: .ref (r 5) :: .ref (r 6) :: .ref (r 7) :: .ref (r 8) :: .ref (r 9) :: .int (iI x_steps) :: .int (iI x_counted) :: .ref (r 10) :: .int (iI x_opens) :: .ref (r 11) :: .ref (r 12) :: .int (iI x_queued) :: .ref (r 13) :: .ref (r 14) :: .int (iI x_theMask) :: .ref (r 15) :: .ref (r 16) :: .int (iI x_kept) :: .int (iI x_placed) :: .ref (r 17) :: .ref (r 18) :: .ref (r 19) :: .int (iI x_orderMany) :: .ref (r 20) :: .ref (r 21) :: .int (iI x_outs) :: [])), ((r 2), .inl (T 2, 600, .inl (fun j : Nat => iI ((upI (fun j9 => sbS (Tb j9)) x_taped (((v / 2 ^ (24 : Int).toNat) + 128) % 256 - 128)) j))))]) h x_taped dX12_four_21 1 rfl (by decide) (by omega) (by omega) (by omega) rfl ?_
    refine j_aload_n h dX12_four_22 0 rfl rfl ?_
    refine j_dup h dX12_four_23 rfl ?_
    refine j_get h dX12_four_24 f_X12_four_96 0 rfl rfl ?_
    refine j_iconst h dX12_four_27 ?_
    refine j_iadd h dX12_four_28 ?_
    refine j_put (ws' := [(g0, .inr (12, .ref (r 0) :: .ref (r 1) :: .ref (r 2) :: .int (iI (x_taped + 1)) :: .int (iI x_at) :: .int (iI x_token) :: .int (iI x_from) :: .long (lI x_word) :: .int (iI x_value) :: .int (iI x_size) :: .int (iI x_fault) :: .int (iI x_faultAt) :: .ref (r 3) :: .ref (r 4) :: .ref (r 5) :: .ref (r 6) :: .ref (r 7) :: .ref (r 8) :: .ref (r 9) :: .int (iI x_steps) :: .int (iI x_counted) :: .ref (r 10) :: .int (iI x_opens) :: .ref (r 11) :: .ref (r 12) :: .int (iI x_queued) :: .ref (r 13) :: .ref (r 14) :: .int (iI x_theMask) :: .ref (r 15) :: .ref (r 16) :: .int (iI x_kept) :: .int (iI x_placed) :: .ref (r 17) :: .ref (r 18) :: .ref (r 19) :: .int (iI x_orderMany) :: .ref (r 20) :: .ref (r 21) :: .int (iI x_outs) :: [])), ((r 2), .inl (T 2, 600, .inl (fun j : Nat => iI ((upI (fun j9 => sbS (Tb j9)) x_taped (((v / 2 ^ (24 : Int).toNat) + 128) % 256 - 128)) j))))]) h dX12_four_29 f_X12_four_96 p_X12_3 0 rfl rfl rfl (Nat.le_of_ble_eq_true rfl) rfl ?_
    refine j_iinc (lv' := [(0, .ref g0), (1, .int (iI v)), (2, .int (iI 2))]) h dX12_four_32 2 [1, 2, 0] rfl (by decide) rfl ?_
    refine j_goto (tgt := 2) h dX12_four_35 (by decide) ?_
    refine j_iload_n h dX12_four_2 2 rfl rfl ?_
    refine j_if_lt h 38 dX12_four_3 (by decide) (by omega) (fun c2 => ?_) (fun c2 => ?_)
    · skip
      exact absurd c2 (by decide)
    · skip
      refine j_aload_n h dX12_four_6 0 rfl rfl ?_
      refine j_get h dX12_four_7 f_X12_four_17 0 rfl rfl ?_
      refine j_aload_n h dX12_four_10 0 rfl rfl ?_
      refine j_get h dX12_four_11 f_X12_four_96 0 rfl rfl ?_
      refine j_iload_n h dX12_four_14 1 rfl rfl ?_
      refine j_bipush h dX12_four_15 (by decide) ?_
      refine j_iload_n h dX12_four_17 2 rfl rfl ?_
      refine j_imul h dX12_four_18 ?_
      refine j_ishr h dX12_four_19 (by first | omega | decide) (by first | omega | decide) ?_
      refine j_i2b h dX12_four_20 ?_
      refine j_bast (f := (upI (fun j9 => sbS (Tb j9)) x_taped (((v / 2 ^ (24 : Int).toNat) + 128) % 256 - 128))) (ws' := [(g0, .inr (12, .ref (r 0) :: .ref (r 1) :: .ref (r 2) :: .int (iI (x_taped + 1)) :: .int (iI x_at) :: .int (iI x_token) :: .int (iI x_from) :: .long (lI x_word) :: .int (iI x_value) :: .int (iI x_size) :: .int (iI x_fault) :: .int (iI x_faultAt) :: .ref (r 3) :: .ref (r 4) :: .ref (r 5) :: .ref (r 6) :: .ref (r 7) :: .ref (r 8) :: .ref (r 9) :: .int (iI x_steps) :: .int (iI x_counted) :: .ref (r 10) :: .int (iI x_opens) :: .ref (r 11) :: .ref (r 12) :: .int (iI x_queued) :: .ref (r 13) :: .ref (r 14) :: .int (iI x_theMask) :: .ref (r 15) :: .ref (r 16) :: .int (iI x_kept) :: .int (iI x_placed) :: .ref (r 17) :: .ref (r 18) :: .ref (r 19) :: .int (iI x_orderMany) :: .ref (r 20) :: .ref (r 21) :: .int (iI x_outs) :: [])), ((r 2), .inl (T 2, 600, .inl (fun j : Nat => iI ((upI (upI (fun j9 => sbS (Tb j9)) x_taped (((v / 2 ^ (24 : Int).toNat) + 128) % 256 - 128)) (x_taped + 1) (((v / 2 ^ (16 : Int).toNat) + 128) % 256 - 128)) j))))]) h (x_taped + 1) dX12_four_21 1 rfl (by decide) (by omega) (by omega) (by omega) rfl ?_
      refine j_aload_n h dX12_four_22 0 rfl rfl ?_
      refine j_dup h dX12_four_23 rfl ?_
      refine j_get h dX12_four_24 f_X12_four_96 0 rfl rfl ?_
      refine j_iconst h dX12_four_27 ?_
      refine j_iadd h dX12_four_28 ?_
      refine j_put (ws' := [(g0, .inr (12, .ref (r 0) :: .ref (r 1) :: .ref (r 2) :: .int (iI ((x_taped + 1) + 1)) :: .int (iI x_at) :: .int (iI x_token) :: .int (iI x_from) :: .long (lI x_word) :: .int (iI x_value) :: .int (iI x_size) :: .int (iI x_fault) :: .int (iI x_faultAt) :: .ref (r 3) :: .ref (r 4) :: .ref (r 5) :: .ref (r 6) :: .ref (r 7) :: .ref (r 8) :: .ref (r 9) :: .int (iI x_steps) :: .int (iI x_counted) :: .ref (r 10) :: .int (iI x_opens) :: .ref (r 11) :: .ref (r 12) :: .int (iI x_queued) :: .ref (r 13) :: .ref (r 14) :: .int (iI x_theMask) :: .ref (r 15) :: .ref (r 16) :: .int (iI x_kept) :: .int (iI x_placed) :: .ref (r 17) :: .ref (r 18) :: .ref (r 19) :: .int (iI x_orderMany) :: .ref (r 20) :: .ref (r 21) :: .int (iI x_outs) :: [])), ((r 2), .inl (T 2, 600, .inl (fun j : Nat => iI ((upI (upI (fun j9 => sbS (Tb j9)) x_taped (((v / 2 ^ (24 : Int).toNat) + 128) % 256 - 128)) (x_taped + 1) (((v / 2 ^ (16 : Int).toNat) + 128) % 256 - 128)) j))))]) h dX12_four_29 f_X12_four_96 p_X12_3 0 rfl rfl rfl (Nat.le_of_ble_eq_true rfl) rfl ?_
      refine j_iinc (lv' := [(0, .ref g0), (1, .int (iI v)), (2, .int (iI 1))]) h dX12_four_32 2 [1, 2, 0] rfl (by decide) rfl ?_
      refine j_goto (tgt := 2) h dX12_four_35 (by decide) ?_
      refine j_iload_n h dX12_four_2 2 rfl rfl ?_
      refine j_if_lt h 38 dX12_four_3 (by decide) (by omega) (fun c3 => ?_) (fun c3 => ?_)
      · skip
        exact absurd c3 (by decide)
      · skip
        refine j_aload_n h dX12_four_6 0 rfl rfl ?_
        refine j_get h dX12_four_7 f_X12_four_17 0 rfl rfl ?_
        refine j_aload_n h dX12_four_10 0 rfl rfl ?_
        refine j_get h dX12_four_11 f_X12_four_96 0 rfl rfl ?_
        refine j_iload_n h dX12_four_14 1 rfl rfl ?_
        refine j_bipush h dX12_four_15 (by decide) ?_
        refine j_iload_n h dX12_four_17 2 rfl rfl ?_
        refine j_imul h dX12_four_18 ?_
        refine j_ishr h dX12_four_19 (by first | omega | decide) (by first | omega | decide) ?_
        refine j_i2b h dX12_four_20 ?_
        refine j_bast (f := (upI (upI (fun j9 => sbS (Tb j9)) x_taped (((v / 2 ^ (24 : Int).toNat) + 128) % 256 - 128)) (x_taped + 1) (((v / 2 ^ (16 : Int).toNat) + 128) % 256 - 128))) (ws' := [(g0, .inr (12, .ref (r 0) :: .ref (r 1) :: .ref (r 2) :: .int (iI ((x_taped + 1) + 1)) :: .int (iI x_at) :: .int (iI x_token) :: .int (iI x_from) :: .long (lI x_word) :: .int (iI x_value) :: .int (iI x_size) :: .int (iI x_fault) :: .int (iI x_faultAt) :: .ref (r 3) :: .ref (r 4) :: .ref (r 5) :: .ref (r 6) :: .ref (r 7) :: .ref (r 8) :: .ref (r 9) :: .int (iI x_steps) :: .int (iI x_counted) :: .ref (r 10) :: .int (iI x_opens) :: .ref (r 11) :: .ref (r 12) :: .int (iI x_queued) :: .ref (r 13) :: .ref (r 14) :: .int (iI x_theMask) :: .ref (r 15) :: .ref (r 16) :: .int (iI x_kept) :: .int (iI x_placed) :: .ref (r 17) :: .ref (r 18) :: .ref (r 19) :: .int (iI x_orderMany) :: .ref (r 20) :: .ref (r 21) :: .int (iI x_outs) :: [])), ((r 2), .inl (T 2, 600, .inl (fun j : Nat => iI ((upI (upI (upI (fun j9 => sbS (Tb j9)) x_taped (((v / 2 ^ (24 : Int).toNat) + 128) % 256 - 128)) (x_taped + 1) (((v / 2 ^ (16 : Int).toNat) + 128) % 256 - 128)) (x_taped + 2) (((v / 2 ^ (8 : Int).toNat) + 128) % 256 - 128)) j))))]) h (x_taped + 2) dX12_four_21 1 rfl (by decide) (by omega) (by omega) (by omega) rfl ?_
        refine j_aload_n h dX12_four_22 0 rfl rfl ?_
        refine j_dup h dX12_four_23 rfl ?_
        refine j_get h dX12_four_24 f_X12_four_96 0 rfl rfl ?_
        refine j_iconst h dX12_four_27 ?_
        refine j_iadd h dX12_four_28 ?_
        refine j_put (ws' := [(g0, .inr (12, .ref (r 0) :: .ref (r 1) :: .ref (r 2) :: .int (iI (((x_taped + 1) + 1) + 1)) :: .int (iI x_at) :: .int (iI x_token) :: .int (iI x_from) :: .long (lI x_word) :: .int (iI x_value) :: .int (iI x_size) :: .int (iI x_fault) :: .int (iI x_faultAt) :: .ref (r 3) :: .ref (r 4) :: .ref (r 5) :: .ref (r 6) :: .ref (r 7) :: .ref (r 8) :: .ref (r 9) :: .int (iI x_steps) :: .int (iI x_counted) :: .ref (r 10) :: .int (iI x_opens) :: .ref (r 11) :: .ref (r 12) :: .int (iI x_queued) :: .ref (r 13) :: .ref (r 14) :: .int (iI x_theMask) :: .ref (r 15) :: .ref (r 16) :: .int (iI x_kept) :: .int (iI x_placed) :: .ref (r 17) :: .ref (r 18) :: .ref (r 19) :: .int (iI x_orderMany) :: .ref (r 20) :: .ref (r 21) :: .int (iI x_outs) :: [])), ((r 2), .inl (T 2, 600, .inl (fun j : Nat => iI ((upI (upI (upI (fun j9 => sbS (Tb j9)) x_taped (((v / 2 ^ (24 : Int).toNat) + 128) % 256 - 128)) (x_taped + 1) (((v / 2 ^ (16 : Int).toNat) + 128) % 256 - 128)) (x_taped + 2) (((v / 2 ^ (8 : Int).toNat) + 128) % 256 - 128)) j))))]) h dX12_four_29 f_X12_four_96 p_X12_3 0 rfl rfl rfl (Nat.le_of_ble_eq_true rfl) rfl ?_
        refine j_iinc (lv' := [(0, .ref g0), (1, .int (iI v)), (2, .int (iI 0))]) h dX12_four_32 2 [1, 2, 0] rfl (by decide) rfl ?_
        refine j_goto (tgt := 2) h dX12_four_35 (by decide) ?_
        refine j_iload_n h dX12_four_2 2 rfl rfl ?_
        refine j_if_lt h 38 dX12_four_3 (by decide) (by omega) (fun c4 => ?_) (fun c4 => ?_)
        · skip
          exact absurd c4 (by decide)
        · skip
          refine j_aload_n h dX12_four_6 0 rfl rfl ?_
          refine j_get h dX12_four_7 f_X12_four_17 0 rfl rfl ?_
          refine j_aload_n h dX12_four_10 0 rfl rfl ?_
          refine j_get h dX12_four_11 f_X12_four_96 0 rfl rfl ?_
          refine j_iload_n h dX12_four_14 1 rfl rfl ?_
          refine j_bipush h dX12_four_15 (by decide) ?_
          refine j_iload_n h dX12_four_17 2 rfl rfl ?_
          refine j_imul h dX12_four_18 ?_
          refine j_ishr h dX12_four_19 (by first | omega | decide) (by first | omega | decide) ?_
          refine j_i2b h dX12_four_20 ?_
          refine j_bast (f := (upI (upI (upI (fun j9 => sbS (Tb j9)) x_taped (((v / 2 ^ (24 : Int).toNat) + 128) % 256 - 128)) (x_taped + 1) (((v / 2 ^ (16 : Int).toNat) + 128) % 256 - 128)) (x_taped + 2) (((v / 2 ^ (8 : Int).toNat) + 128) % 256 - 128))) (ws' := [(g0, .inr (12, .ref (r 0) :: .ref (r 1) :: .ref (r 2) :: .int (iI (((x_taped + 1) + 1) + 1)) :: .int (iI x_at) :: .int (iI x_token) :: .int (iI x_from) :: .long (lI x_word) :: .int (iI x_value) :: .int (iI x_size) :: .int (iI x_fault) :: .int (iI x_faultAt) :: .ref (r 3) :: .ref (r 4) :: .ref (r 5) :: .ref (r 6) :: .ref (r 7) :: .ref (r 8) :: .ref (r 9) :: .int (iI x_steps) :: .int (iI x_counted) :: .ref (r 10) :: .int (iI x_opens) :: .ref (r 11) :: .ref (r 12) :: .int (iI x_queued) :: .ref (r 13) :: .ref (r 14) :: .int (iI x_theMask) :: .ref (r 15) :: .ref (r 16) :: .int (iI x_kept) :: .int (iI x_placed) :: .ref (r 17) :: .ref (r 18) :: .ref (r 19) :: .int (iI x_orderMany) :: .ref (r 20) :: .ref (r 21) :: .int (iI x_outs) :: [])), ((r 2), .inl (T 2, 600, .inl (fun j : Nat => iI ((upI (upI (upI (upI (fun j9 => sbS (Tb j9)) x_taped (((v / 2 ^ (24 : Int).toNat) + 128) % 256 - 128)) (x_taped + 1) (((v / 2 ^ (16 : Int).toNat) + 128) % 256 - 128)) (x_taped + 2) (((v / 2 ^ (8 : Int).toNat) + 128) % 256 - 128)) (x_taped + 3) (((v / 2 ^ (0 : Int).toNat) + 128) % 256 - 128)) j))))]) h (x_taped + 3) dX12_four_21 1 rfl (by decide) (by omega) (by omega) (by omega) rfl ?_
          refine j_aload_n h dX12_four_22 0 rfl rfl ?_
          refine j_dup h dX12_four_23 rfl ?_
          refine j_get h dX12_four_24 f_X12_four_96 0 rfl rfl ?_
          refine j_iconst h dX12_four_27 ?_
          refine j_iadd h dX12_four_28 ?_
          refine j_put (ws' := [(g0, .inr (12, .ref (r 0) :: .ref (r 1) :: .ref (r 2) :: .int (iI ((((x_taped + 1) + 1) + 1) + 1)) :: .int (iI x_at) :: .int (iI x_token) :: .int (iI x_from) :: .long (lI x_word) :: .int (iI x_value) :: .int (iI x_size) :: .int (iI x_fault) :: .int (iI x_faultAt) :: .ref (r 3) :: .ref (r 4) :: .ref (r 5) :: .ref (r 6) :: .ref (r 7) :: .ref (r 8) :: .ref (r 9) :: .int (iI x_steps) :: .int (iI x_counted) :: .ref (r 10) :: .int (iI x_opens) :: .ref (r 11) :: .ref (r 12) :: .int (iI x_queued) :: .ref (r 13) :: .ref (r 14) :: .int (iI x_theMask) :: .ref (r 15) :: .ref (r 16) :: .int (iI x_kept) :: .int (iI x_placed) :: .ref (r 17) :: .ref (r 18) :: .ref (r 19) :: .int (iI x_orderMany) :: .ref (r 20) :: .ref (r 21) :: .int (iI x_outs) :: [])), ((r 2), .inl (T 2, 600, .inl (fun j : Nat => iI ((upI (upI (upI (upI (fun j9 => sbS (Tb j9)) x_taped (((v / 2 ^ (24 : Int).toNat) + 128) % 256 - 128)) (x_taped + 1) (((v / 2 ^ (16 : Int).toNat) + 128) % 256 - 128)) (x_taped + 2) (((v / 2 ^ (8 : Int).toNat) + 128) % 256 - 128)) (x_taped + 3) (((v / 2 ^ (0 : Int).toNat) + 128) % 256 - 128)) j))))]) h dX12_four_29 f_X12_four_96 p_X12_3 0 rfl rfl rfl (Nat.le_of_ble_eq_true rfl) rfl ?_
          refine j_iinc (lv' := [(0, .ref g0), (1, .int (iI v)), (2, .int (iI (-1)))]) h dX12_four_32 2 [1, 2, 0] rfl (by decide) rfl ?_
          refine j_goto (tgt := 2) h dX12_four_35 (by decide) ?_
          refine j_iload_n h dX12_four_2 2 rfl rfl ?_
          refine j_if_lt h 38 dX12_four_3 (by decide) (by omega) (fun c5 => ?_) (fun c5 => ?_)
          · skip
            exact hr _ _ _ dX12_four_38 (show ([(g0, .inr (12, .ref (r 0) :: .ref (r 1) :: .ref (r 2) :: .int (iI ((((x_taped + 1) + 1) + 1) + 1)) :: .int (iI x_at) :: .int (iI x_token) :: .int (iI x_from) :: .long (lI x_word) :: .int (iI x_value) :: .int (iI x_size) :: .int (iI x_fault) :: .int (iI x_faultAt) :: .ref (r 3) :: .ref (r 4) :: .ref (r 5) :: .ref (r 6) :: .ref (r 7) :: .ref (r 8) :: .ref (r 9) :: .int (iI x_steps) :: .int (iI x_counted) :: .ref (r 10) :: .int (iI x_opens) :: .ref (r 11) :: .ref (r 12) :: .int (iI x_queued) :: .ref (r 13) :: .ref (r 14) :: .int (iI x_theMask) :: .ref (r 15) :: .ref (r 16) :: .int (iI x_kept) :: .int (iI x_placed) :: .ref (r 17) :: .ref (r 18) :: .ref (r 19) :: .int (iI x_orderMany) :: .ref (r 20) :: .ref (r 21) :: .int (iI x_outs) :: [])), ((r 2), .inl (T 2, 600, .inl (fun j : Nat => iI ((upI (upI (upI (upI (fun j9 => sbS (Tb j9)) x_taped (((v / 2 ^ (24 : Int).toNat) + 128) % 256 - 128)) (x_taped + 1) (((v / 2 ^ (16 : Int).toNat) + 128) % 256 - 128)) (x_taped + 2) (((v / 2 ^ (8 : Int).toNat) + 128) % 256 - 128)) (x_taped + 3) (((v / 2 ^ (0 : Int).toNat) + 128) % 256 - 128)) j))))] : va_W) = [(g0, .inr (12, .ref (r 0) :: .ref (r 1) :: .ref (r 2) :: .int (iI (x_taped + 4)) :: .int (iI x_at) :: .int (iI x_token) :: .int (iI x_from) :: .long (lI x_word) :: .int (iI x_value) :: .int (iI x_size) :: .int (iI x_fault) :: .int (iI x_faultAt) :: .ref (r 3) :: .ref (r 4) :: .ref (r 5) :: .ref (r 6) :: .ref (r 7) :: .ref (r 8) :: .ref (r 9) :: .int (iI x_steps) :: .int (iI x_counted) :: .ref (r 10) :: .int (iI x_opens) :: .ref (r 11) :: .ref (r 12) :: .int (iI x_queued) :: .ref (r 13) :: .ref (r 14) :: .int (iI x_theMask) :: .ref (r 15) :: .ref (r 16) :: .int (iI x_kept) :: .int (iI x_placed) :: .ref (r 17) :: .ref (r 18) :: .ref (r 19) :: .int (iI x_orderMany) :: .ref (r 20) :: .ref (r 21) :: .int (iI x_outs) :: [])), ((r 2), .inl (T 2, 600, .inl (fun j : Nat => iI ((fun j9 => sbS ((putB Tb x_taped v) j9)) j))))] by rw [show (v / 2 ^ (24 : Int).toNat + 128) % 256 - 128 = sbS (byteS v 3) from sbS_byte hv (k := 3) (by omega), show (v / 2 ^ (16 : Int).toNat + 128) % 256 - 128 = sbS (byteS v 2) from sbS_byte hv (k := 2) (by omega), show (v / 2 ^ (8 : Int).toNat + 128) % 256 - 128 = sbS (byteS v 1) from sbS_byte hv (k := 1) (by omega), show (v / 2 ^ (0 : Int).toNat + 128) % 256 - 128 = sbS (byteS v 0) from sbS_byte hv (k := 0) (by omega), sbS_up, sbS_up, sbS_up, sbS_up]; unfold putB; simp [Int.add_assoc])
          · skip
            exact absurd c5 (by decide)

abbrev rmX12_feed : Room := { frames := 1, cells := 0, slots := 0, locals := 22 }
theorem in_X12_feed_X12 : ∀ w ∈ u_ws RX12 TX12 40, w ∈ wsX12_feed := fun w hw => List.mem_cons_of_mem _ (List.mem_append_right _ (hw))
theorem f_X12_feed_96 : FlOK RX12 96 wsX12_feed 12 3 := ⟨_, _, _, rfl, by decide, in_X12_feed_X12, List.mem_of_getElem? (i := 1) rfl⟩
theorem k_X12_four : CkOK yX12_four wsX12_four rmX12_four 0 0 cX12_four 3 none 1 := ⟨⟨_, rfl⟩, rfl, rfl, by decide +kernel⟩
set_option maxHeartbeats 600000 in
set_option maxRecDepth 100000 in
/-- feed -/
theorem ct_X12_feed (T : Nat → ClassId) (g0 : Nat) (r : Nat → Nat) (x_taped : Int) (x_at : Int) (x_token : Int) (x_from : Int) (x_word : Int) (x_value : Int) (x_size : Int) (x_fault : Int) (x_faultAt : Int) (x_steps : Int) (x_counted : Int) (x_opens : Int) (x_queued : Int) (x_theMask : Int) (x_kept : Int) (x_placed : Int) (x_orderMany : Int) (x_outs : Int) (Tb : Int → Int) (a : Int) (b : Int) (c : Int) (d : Int) (e : Int) (hL : 0 ≤ x_taped ∧ x_taped ≤ 600) (ha : -2147483648 ≤ a ∧ a ≤ 2147483647) (hb : -2147483648 ≤ b ∧ b ≤ 2147483647) (hc : -2147483648 ≤ c ∧ c ≤ 2147483647) (hd : -2147483648 ≤ d ∧ d ≤ 2147483647) (he : -2147483648 ≤ e ∧ e ≤ 2147483647) : CtI T yX12_feed wsX12_feed rmX12_feed 0 0 [.ref g0, .int (iI a), .int (iI b), .int (iI c), .int (iI d), .int (iI e)] [(g0, .inr (12, .ref (r 0) :: .ref (r 1) :: .ref (r 2) :: .int (iI x_taped) :: .int (iI x_at) :: .int (iI x_token) :: .int (iI x_from) :: .long (lI x_word) :: .int (iI x_value) :: .int (iI x_size) :: .int (iI x_fault) :: .int (iI x_faultAt) :: .ref (r 3) :: .ref (r 4) :: .ref (r 5) :: .ref (r 6) :: .ref (r 7) :: .ref (r 8) :: .ref (r 9) :: .int (iI x_steps) :: .int (iI x_counted) :: .ref (r 10) :: .int (iI x_opens) :: .ref (r 11) :: .ref (r 12) :: .int (iI x_queued) :: .ref (r 13) :: .ref (r 14) :: .int (iI x_theMask) :: .ref (r 15) :: .ref (r 16) :: .int (iI x_kept) :: .int (iI x_placed) :: .ref (r 17) :: .ref (r 18) :: .ref (r 19) :: .int (iI x_orderMany) :: .ref (r 20) :: .ref (r 21) :: .int (iI x_outs) :: [])), ((r 2), .inl (T 2, 600, .inl (fun j : Nat => iI ((fun j9 => sbS (Tb j9)) j))))] (fun r8 u => r8 = (iI ((feedS Tb x_taped a b c d e).1)) ∧ u = [(g0, .inr (12, .ref (r 0) :: .ref (r 1) :: .ref (r 2) :: .int (iI ((feedS Tb x_taped a b c d e).2.2)) :: .int (iI x_at) :: .int (iI x_token) :: .int (iI x_from) :: .long (lI x_word) :: .int (iI x_value) :: .int (iI x_size) :: .int (iI x_fault) :: .int (iI x_faultAt) :: .ref (r 3) :: .ref (r 4) :: .ref (r 5) :: .ref (r 6) :: .ref (r 7) :: .ref (r 8) :: .ref (r 9) :: .int (iI x_steps) :: .int (iI x_counted) :: .ref (r 10) :: .int (iI x_opens) :: .ref (r 11) :: .ref (r 12) :: .int (iI x_queued) :: .ref (r 13) :: .ref (r 14) :: .int (iI x_theMask) :: .ref (r 15) :: .ref (r 16) :: .int (iI x_kept) :: .int (iI x_placed) :: .ref (r 17) :: .ref (r 18) :: .ref (r 19) :: .int (iI x_orderMany) :: .ref (r 20) :: .ref (r 21) :: .int (iI x_outs) :: [])), ((r 2), .inl (T 2, 600, .inl (fun j : Nat => iI ((fun j9 => sbS ((feedS Tb x_taped a b c d e).2.1 j9)) j))))]) := by
  refine ctI_of (cc := cX12_feed) (maxL := 6) (ret := (some .int)) (by decide +kernel) rfl rfl (fun r u hp => by obtain ⟨rfl, -⟩ := hp; rfl) (Nat.le_of_ble_eq_true rfl) (fun X h hinit hr => ?_)
  refine j_eq (lv' := [(0, .ref g0), (1, .int (iI a)), (2, .int (iI b)), (3, .int (iI c)), (4, .int (iI d)), (5, .int (iI e))]) rfl rfl rfl rfl rfl rfl ?_
  refine j_aload_n h dX12_feed_0 0 rfl rfl ?_
  refine j_get h dX12_feed_1 f_X12_feed_96 0 rfl rfl ?_
  refine j_bipush h dX12_feed_4 (by decide) ?_
  refine j_iadd h dX12_feed_6 ?_
  refine j_sipush h dX12_feed_7 (by decide) ?_
  refine j_icmp_le h 16 dX12_feed_10 (by decide) (by omega) (by omega) (fun c1 => ?_) (fun c1 => ?_)
  · skip
    refine j_aload_n h dX12_feed_16 0 rfl rfl ?_
    refine j_iload_n h dX12_feed_17 1 rfl rfl ?_
    refine j_callVv (As := [.int (iI a)]) (wr := []) (cells' := 0) (slots' := 0) h dX12_feed_18 (ct_X12_four T g0 r x_taped x_at x_token x_from x_word x_value x_size x_fault x_faultAt x_steps x_counted x_opens x_queued x_theMask x_kept x_placed x_orderMany x_outs Tb a (by first | assumption | omega) (by first | assumption | omega)) k_X12_four gX12_feed_X12_four rfl rfl 0 rfl ⟨Nat.le_of_ble_eq_true rfl, Nat.le_of_ble_eq_true rfl⟩ rfl rfl (Nat.le_of_ble_eq_true rfl) ⟨Nat.le_of_ble_eq_true rfl, Nat.le_of_ble_eq_true rfl⟩ rfl rfl [0, 1] [] rfl rfl rfl rfl (by decide) (fun u9 p2 => ?_)
    obtain rfl := p2
    refine j_eq (ws' := [(g0, .inr (12, .ref (r 0) :: .ref (r 1) :: .ref (r 2) :: .int (iI (x_taped + 4)) :: .int (iI x_at) :: .int (iI x_token) :: .int (iI x_from) :: .long (lI x_word) :: .int (iI x_value) :: .int (iI x_size) :: .int (iI x_fault) :: .int (iI x_faultAt) :: .ref (r 3) :: .ref (r 4) :: .ref (r 5) :: .ref (r 6) :: .ref (r 7) :: .ref (r 8) :: .ref (r 9) :: .int (iI x_steps) :: .int (iI x_counted) :: .ref (r 10) :: .int (iI x_opens) :: .ref (r 11) :: .ref (r 12) :: .int (iI x_queued) :: .ref (r 13) :: .ref (r 14) :: .int (iI x_theMask) :: .ref (r 15) :: .ref (r 16) :: .int (iI x_kept) :: .int (iI x_placed) :: .ref (r 17) :: .ref (r 18) :: .ref (r 19) :: .int (iI x_orderMany) :: .ref (r 20) :: .ref (r 21) :: .int (iI x_outs) :: [])), ((r 2), .inl (T 2, 600, .inl (fun j : Nat => iI ((fun j9 => sbS ((putB Tb x_taped a) j9)) j))))]) rfl rfl rfl rfl rfl rfl ?_
    refine j_aload_n h dX12_feed_21 0 rfl rfl ?_
    refine j_iload_n h dX12_feed_22 2 rfl rfl ?_
    refine j_callVv (As := [.int (iI b)]) (wr := []) (cells' := 0) (slots' := 0) h dX12_feed_23 (ct_X12_four T g0 r (x_taped + 4) x_at x_token x_from x_word x_value x_size x_fault x_faultAt x_steps x_counted x_opens x_queued x_theMask x_kept x_placed x_orderMany x_outs (putB Tb x_taped a) b (by first | assumption | omega) (by first | assumption | omega)) k_X12_four gX12_feed_X12_four rfl rfl 0 rfl ⟨Nat.le_of_ble_eq_true rfl, Nat.le_of_ble_eq_true rfl⟩ rfl rfl (Nat.le_of_ble_eq_true rfl) ⟨Nat.le_of_ble_eq_true rfl, Nat.le_of_ble_eq_true rfl⟩ rfl rfl [0, 1] [] rfl rfl rfl rfl (by decide) (fun u9 p3 => ?_)
    obtain rfl := p3
    refine j_eq (ws' := [(g0, .inr (12, .ref (r 0) :: .ref (r 1) :: .ref (r 2) :: .int (iI ((x_taped + 4) + 4)) :: .int (iI x_at) :: .int (iI x_token) :: .int (iI x_from) :: .long (lI x_word) :: .int (iI x_value) :: .int (iI x_size) :: .int (iI x_fault) :: .int (iI x_faultAt) :: .ref (r 3) :: .ref (r 4) :: .ref (r 5) :: .ref (r 6) :: .ref (r 7) :: .ref (r 8) :: .ref (r 9) :: .int (iI x_steps) :: .int (iI x_counted) :: .ref (r 10) :: .int (iI x_opens) :: .ref (r 11) :: .ref (r 12) :: .int (iI x_queued) :: .ref (r 13) :: .ref (r 14) :: .int (iI x_theMask) :: .ref (r 15) :: .ref (r 16) :: .int (iI x_kept) :: .int (iI x_placed) :: .ref (r 17) :: .ref (r 18) :: .ref (r 19) :: .int (iI x_orderMany) :: .ref (r 20) :: .ref (r 21) :: .int (iI x_outs) :: [])), ((r 2), .inl (T 2, 600, .inl (fun j : Nat => iI ((fun j9 => sbS ((putB (putB Tb x_taped a) (x_taped + 4) b) j9)) j))))]) rfl rfl rfl rfl rfl rfl ?_
    refine j_aload_n h dX12_feed_26 0 rfl rfl ?_
    refine j_iload_n h dX12_feed_27 3 rfl rfl ?_
    refine j_callVv (As := [.int (iI c)]) (wr := []) (cells' := 0) (slots' := 0) h dX12_feed_28 (ct_X12_four T g0 r ((x_taped + 4) + 4) x_at x_token x_from x_word x_value x_size x_fault x_faultAt x_steps x_counted x_opens x_queued x_theMask x_kept x_placed x_orderMany x_outs (putB (putB Tb x_taped a) (x_taped + 4) b) c (by first | assumption | omega) (by first | assumption | omega)) k_X12_four gX12_feed_X12_four rfl rfl 0 rfl ⟨Nat.le_of_ble_eq_true rfl, Nat.le_of_ble_eq_true rfl⟩ rfl rfl (Nat.le_of_ble_eq_true rfl) ⟨Nat.le_of_ble_eq_true rfl, Nat.le_of_ble_eq_true rfl⟩ rfl rfl [0, 1] [] rfl rfl rfl rfl (by decide) (fun u9 p4 => ?_)
    obtain rfl := p4
    refine j_eq (ws' := [(g0, .inr (12, .ref (r 0) :: .ref (r 1) :: .ref (r 2) :: .int (iI (((x_taped + 4) + 4) + 4)) :: .int (iI x_at) :: .int (iI x_token) :: .int (iI x_from) :: .long (lI x_word) :: .int (iI x_value) :: .int (iI x_size) :: .int (iI x_fault) :: .int (iI x_faultAt) :: .ref (r 3) :: .ref (r 4) :: .ref (r 5) :: .ref (r 6) :: .ref (r 7) :: .ref (r 8) :: .ref (r 9) :: .int (iI x_steps) :: .int (iI x_counted) :: .ref (r 10) :: .int (iI x_opens) :: .ref (r 11) :: .ref (r 12) :: .int (iI x_queued) :: .ref (r 13) :: .ref (r 14) :: .int (iI x_theMask) :: .ref (r 15) :: .ref (r 16) :: .int (iI x_kept) :: .int (iI x_placed) :: .ref (r 17) :: .ref (r 18) :: .ref (r 19) :: .int (iI x_orderMany) :: .ref (r 20) :: .ref (r 21) :: .int (iI x_outs) :: [])), ((r 2), .inl (T 2, 600, .inl (fun j : Nat => iI ((fun j9 => sbS ((putB (putB (putB Tb x_taped a) (x_taped + 4) b) ((x_taped + 4) + 4) c) j9)) j))))]) rfl rfl rfl rfl rfl rfl ?_
    refine j_aload_n h dX12_feed_31 0 rfl rfl ?_
    refine j_iload h dX12_feed_32 4 rfl ?_
    refine j_callVv (As := [.int (iI d)]) (wr := []) (cells' := 0) (slots' := 0) h dX12_feed_34 (ct_X12_four T g0 r (((x_taped + 4) + 4) + 4) x_at x_token x_from x_word x_value x_size x_fault x_faultAt x_steps x_counted x_opens x_queued x_theMask x_kept x_placed x_orderMany x_outs (putB (putB (putB Tb x_taped a) (x_taped + 4) b) ((x_taped + 4) + 4) c) d (by first | assumption | omega) (by first | assumption | omega)) k_X12_four gX12_feed_X12_four rfl rfl 0 rfl ⟨Nat.le_of_ble_eq_true rfl, Nat.le_of_ble_eq_true rfl⟩ rfl rfl (Nat.le_of_ble_eq_true rfl) ⟨Nat.le_of_ble_eq_true rfl, Nat.le_of_ble_eq_true rfl⟩ rfl rfl [0, 1] [] rfl rfl rfl rfl (by decide) (fun u9 p5 => ?_)
    obtain rfl := p5
    refine j_eq (ws' := [(g0, .inr (12, .ref (r 0) :: .ref (r 1) :: .ref (r 2) :: .int (iI ((((x_taped + 4) + 4) + 4) + 4)) :: .int (iI x_at) :: .int (iI x_token) :: .int (iI x_from) :: .long (lI x_word) :: .int (iI x_value) :: .int (iI x_size) :: .int (iI x_fault) :: .int (iI x_faultAt) :: .ref (r 3) :: .ref (r 4) :: .ref (r 5) :: .ref (r 6) :: .ref (r 7) :: .ref (r 8) :: .ref (r 9) :: .int (iI x_steps) :: .int (iI x_counted) :: .ref (r 10) :: .int (iI x_opens) :: .ref (r 11) :: .ref (r 12) :: .int (iI x_queued) :: .ref (r 13) :: .ref (r 14) :: .int (iI x_theMask) :: .ref (r 15) :: .ref (r 16) :: .int (iI x_kept) :: .int (iI x_placed) :: .ref (r 17) :: .ref (r 18) :: .ref (r 19) :: .int (iI x_orderMany) :: .ref (r 20) :: .ref (r 21) :: .int (iI x_outs) :: [])), ((r 2), .inl (T 2, 600, .inl (fun j : Nat => iI ((fun j9 => sbS ((putB (putB (putB (putB Tb x_taped a) (x_taped + 4) b) ((x_taped + 4) + 4) c) (((x_taped + 4) + 4) + 4) d) j9)) j))))]) rfl rfl rfl rfl rfl rfl ?_
    refine j_aload_n h dX12_feed_37 0 rfl rfl ?_
    refine j_iload h dX12_feed_38 5 rfl ?_
    refine j_callVv (As := [.int (iI e)]) (wr := []) (cells' := 0) (slots' := 0) h dX12_feed_40 (ct_X12_four T g0 r ((((x_taped + 4) + 4) + 4) + 4) x_at x_token x_from x_word x_value x_size x_fault x_faultAt x_steps x_counted x_opens x_queued x_theMask x_kept x_placed x_orderMany x_outs (putB (putB (putB (putB Tb x_taped a) (x_taped + 4) b) ((x_taped + 4) + 4) c) (((x_taped + 4) + 4) + 4) d) e (by first | assumption | omega) (by first | assumption | omega)) k_X12_four gX12_feed_X12_four rfl rfl 0 rfl ⟨Nat.le_of_ble_eq_true rfl, Nat.le_of_ble_eq_true rfl⟩ rfl rfl (Nat.le_of_ble_eq_true rfl) ⟨Nat.le_of_ble_eq_true rfl, Nat.le_of_ble_eq_true rfl⟩ rfl rfl [0, 1] [] rfl rfl rfl rfl (by decide) (fun u9 p6 => ?_)
    obtain rfl := p6
    refine j_eq (ws' := [(g0, .inr (12, .ref (r 0) :: .ref (r 1) :: .ref (r 2) :: .int (iI (((((x_taped + 4) + 4) + 4) + 4) + 4)) :: .int (iI x_at) :: .int (iI x_token) :: .int (iI x_from) :: .long (lI x_word) :: .int (iI x_value) :: .int (iI x_size) :: .int (iI x_fault) :: .int (iI x_faultAt) :: .ref (r 3) :: .ref (r 4) :: .ref (r 5) :: .ref (r 6) :: .ref (r 7) :: .ref (r 8) :: .ref (r 9) :: .int (iI x_steps) :: .int (iI x_counted) :: .ref (r 10) :: .int (iI x_opens) :: .ref (r 11) :: .ref (r 12) :: .int (iI x_queued) :: .ref (r 13) :: .ref (r 14) :: .int (iI x_theMask) :: .ref (r 15) :: .ref (r 16) :: .int (iI x_kept) :: .int (iI x_placed) :: .ref (r 17) :: .ref (r 18) :: .ref (r 19) :: .int (iI x_orderMany) :: .ref (r 20) :: .ref (r 21) :: .int (iI x_outs) :: [])), ((r 2), .inl (T 2, 600, .inl (fun j : Nat => iI ((fun j9 => sbS ((putB (putB (putB (putB (putB Tb x_taped a) (x_taped + 4) b) ((x_taped + 4) + 4) c) (((x_taped + 4) + 4) + 4) d) ((((x_taped + 4) + 4) + 4) + 4) e) j9)) j))))]) rfl rfl rfl rfl rfl rfl ?_
    refine j_aload_n h dX12_feed_43 0 rfl rfl ?_
    refine j_get h dX12_feed_44 f_X12_feed_96 0 rfl rfl ?_
    exact hr _ _ _ _ dX12_feed_47 ⟨(congrArg iI (show ((((((x_taped + 4) + 4) + 4) + 4) + 4) : Int) = (feedS Tb x_taped a b c d e).1 by unfold feedS; (repeat (first | rw [if_pos (by omega)] | rw [if_neg (by omega)])) <;> (try omega))), (show ([(g0, .inr (12, .ref (r 0) :: .ref (r 1) :: .ref (r 2) :: .int (iI (((((x_taped + 4) + 4) + 4) + 4) + 4)) :: .int (iI x_at) :: .int (iI x_token) :: .int (iI x_from) :: .long (lI x_word) :: .int (iI x_value) :: .int (iI x_size) :: .int (iI x_fault) :: .int (iI x_faultAt) :: .ref (r 3) :: .ref (r 4) :: .ref (r 5) :: .ref (r 6) :: .ref (r 7) :: .ref (r 8) :: .ref (r 9) :: .int (iI x_steps) :: .int (iI x_counted) :: .ref (r 10) :: .int (iI x_opens) :: .ref (r 11) :: .ref (r 12) :: .int (iI x_queued) :: .ref (r 13) :: .ref (r 14) :: .int (iI x_theMask) :: .ref (r 15) :: .ref (r 16) :: .int (iI x_kept) :: .int (iI x_placed) :: .ref (r 17) :: .ref (r 18) :: .ref (r 19) :: .int (iI x_orderMany) :: .ref (r 20) :: .ref (r 21) :: .int (iI x_outs) :: [])), ((r 2), .inl (T 2, 600, .inl (fun j : Nat => iI ((fun j9 => sbS ((putB (putB (putB (putB (putB Tb x_taped a) (x_taped + 4) b) ((x_taped + 4) + 4) c) (((x_taped + 4) + 4) + 4) d) ((((x_taped + 4) + 4) + 4) + 4) e) j9)) j))))] : va_W) = [(g0, .inr (12, .ref (r 0) :: .ref (r 1) :: .ref (r 2) :: .int (iI ((feedS Tb x_taped a b c d e).2.2)) :: .int (iI x_at) :: .int (iI x_token) :: .int (iI x_from) :: .long (lI x_word) :: .int (iI x_value) :: .int (iI x_size) :: .int (iI x_fault) :: .int (iI x_faultAt) :: .ref (r 3) :: .ref (r 4) :: .ref (r 5) :: .ref (r 6) :: .ref (r 7) :: .ref (r 8) :: .ref (r 9) :: .int (iI x_steps) :: .int (iI x_counted) :: .ref (r 10) :: .int (iI x_opens) :: .ref (r 11) :: .ref (r 12) :: .int (iI x_queued) :: .ref (r 13) :: .ref (r 14) :: .int (iI x_theMask) :: .ref (r 15) :: .ref (r 16) :: .int (iI x_kept) :: .int (iI x_placed) :: .ref (r 17) :: .ref (r 18) :: .ref (r 19) :: .int (iI x_orderMany) :: .ref (r 20) :: .ref (r 21) :: .int (iI x_outs) :: [])), ((r 2), .inl (T 2, 600, .inl (fun j : Nat => iI ((fun j9 => sbS ((feedS Tb x_taped a b c d e).2.1 j9)) j))))] by unfold feedS; first | rw [if_pos (by omega)] | (rw [if_neg (by omega)]; simp [Int.add_assoc]))⟩
  · skip
    refine j_bipush h dX12_feed_13 (by decide) ?_
    exact hr _ _ _ _ dX12_feed_15 ⟨(congrArg iI (show ((-104) : Int) = (feedS Tb x_taped a b c d e).1 by unfold feedS; (repeat (first | rw [if_pos (by omega)] | rw [if_neg (by omega)])) <;> (try omega))), (show ([(g0, .inr (12, .ref (r 0) :: .ref (r 1) :: .ref (r 2) :: .int (iI x_taped) :: .int (iI x_at) :: .int (iI x_token) :: .int (iI x_from) :: .long (lI x_word) :: .int (iI x_value) :: .int (iI x_size) :: .int (iI x_fault) :: .int (iI x_faultAt) :: .ref (r 3) :: .ref (r 4) :: .ref (r 5) :: .ref (r 6) :: .ref (r 7) :: .ref (r 8) :: .ref (r 9) :: .int (iI x_steps) :: .int (iI x_counted) :: .ref (r 10) :: .int (iI x_opens) :: .ref (r 11) :: .ref (r 12) :: .int (iI x_queued) :: .ref (r 13) :: .ref (r 14) :: .int (iI x_theMask) :: .ref (r 15) :: .ref (r 16) :: .int (iI x_kept) :: .int (iI x_placed) :: .ref (r 17) :: .ref (r 18) :: .ref (r 19) :: .int (iI x_orderMany) :: .ref (r 20) :: .ref (r 21) :: .int (iI x_outs) :: [])), ((r 2), .inl (T 2, 600, .inl (fun j : Nat => iI ((fun j9 => sbS (Tb j9)) j))))] : va_W) = [(g0, .inr (12, .ref (r 0) :: .ref (r 1) :: .ref (r 2) :: .int (iI ((feedS Tb x_taped a b c d e).2.2)) :: .int (iI x_at) :: .int (iI x_token) :: .int (iI x_from) :: .long (lI x_word) :: .int (iI x_value) :: .int (iI x_size) :: .int (iI x_fault) :: .int (iI x_faultAt) :: .ref (r 3) :: .ref (r 4) :: .ref (r 5) :: .ref (r 6) :: .ref (r 7) :: .ref (r 8) :: .ref (r 9) :: .int (iI x_steps) :: .int (iI x_counted) :: .ref (r 10) :: .int (iI x_opens) :: .ref (r 11) :: .ref (r 12) :: .int (iI x_queued) :: .ref (r 13) :: .ref (r 14) :: .int (iI x_theMask) :: .ref (r 15) :: .ref (r 16) :: .int (iI x_kept) :: .int (iI x_placed) :: .ref (r 17) :: .ref (r 18) :: .ref (r 19) :: .int (iI x_orderMany) :: .ref (r 20) :: .ref (r 21) :: .int (iI x_outs) :: [])), ((r 2), .inl (T 2, 600, .inl (fun j : Nat => iI ((fun j9 => sbS ((feedS Tb x_taped a b c d e).2.1 j9)) j))))] by unfold feedS; first | rw [if_pos (by omega)] | (rw [if_neg (by omega)]; simp [Int.add_assoc]))⟩

abbrev rmX12_cut : Room := { frames := 1, cells := 0, slots := 0, locals := 25 }
theorem in_X12_cut_X12 : ∀ w ∈ u_ws RX12 TX12 40, w ∈ wsX12_cut := fun w hw => List.mem_cons_of_mem _ (List.mem_append_right _ (hw))
theorem f_X12_cut_96 : FlOK RX12 96 wsX12_cut 12 3 := ⟨_, _, _, rfl, by decide, in_X12_cut_X12, List.mem_of_getElem? (i := 1) rfl⟩
set_option maxHeartbeats 600000 in
set_option maxRecDepth 100000 in
/-- cut -/
theorem ct_X12_cut (T : Nat → ClassId) (g0 : Nat) (r : Nat → Nat) (x_taped : Int) (x_at : Int) (x_token : Int) (x_from : Int) (x_word : Int) (x_value : Int) (x_size : Int) (x_fault : Int) (x_faultAt : Int) (x_steps : Int) (x_counted : Int) (x_opens : Int) (x_queued : Int) (x_theMask : Int) (x_kept : Int) (x_placed : Int) (x_orderMany : Int) (x_outs : Int) (n : Int) (hL : 0 ≤ x_taped ∧ x_taped ≤ 600) (hn : -2147483648 ≤ n ∧ n ≤ 2147483647) : CtI T yX12_cut wsX12_cut rmX12_cut 0 0 [.ref g0, .int (iI n)] [(g0, .inr (12, .ref (r 0) :: .ref (r 1) :: .ref (r 2) :: .int (iI x_taped) :: .int (iI x_at) :: .int (iI x_token) :: .int (iI x_from) :: .long (lI x_word) :: .int (iI x_value) :: .int (iI x_size) :: .int (iI x_fault) :: .int (iI x_faultAt) :: .ref (r 3) :: .ref (r 4) :: .ref (r 5) :: .ref (r 6) :: .ref (r 7) :: .ref (r 8) :: .ref (r 9) :: .int (iI x_steps) :: .int (iI x_counted) :: .ref (r 10) :: .int (iI x_opens) :: .ref (r 11) :: .ref (r 12) :: .int (iI x_queued) :: .ref (r 13) :: .ref (r 14) :: .int (iI x_theMask) :: .ref (r 15) :: .ref (r 16) :: .int (iI x_kept) :: .int (iI x_placed) :: .ref (r 17) :: .ref (r 18) :: .ref (r 19) :: .int (iI x_orderMany) :: .ref (r 20) :: .ref (r 21) :: .int (iI x_outs) :: []))] (fun r8 u => r8 = (iI ((cutR x_taped n).1)) ∧ u = [(g0, .inr (12, .ref (r 0) :: .ref (r 1) :: .ref (r 2) :: .int (iI ((cutR x_taped n).2)) :: .int (iI x_at) :: .int (iI x_token) :: .int (iI x_from) :: .long (lI x_word) :: .int (iI x_value) :: .int (iI x_size) :: .int (iI x_fault) :: .int (iI x_faultAt) :: .ref (r 3) :: .ref (r 4) :: .ref (r 5) :: .ref (r 6) :: .ref (r 7) :: .ref (r 8) :: .ref (r 9) :: .int (iI x_steps) :: .int (iI x_counted) :: .ref (r 10) :: .int (iI x_opens) :: .ref (r 11) :: .ref (r 12) :: .int (iI x_queued) :: .ref (r 13) :: .ref (r 14) :: .int (iI x_theMask) :: .ref (r 15) :: .ref (r 16) :: .int (iI x_kept) :: .int (iI x_placed) :: .ref (r 17) :: .ref (r 18) :: .ref (r 19) :: .int (iI x_orderMany) :: .ref (r 20) :: .ref (r 21) :: .int (iI x_outs) :: []))]) := by
  refine ctI_of (cc := cX12_cut) (maxL := 3) (ret := (some .int)) (by decide +kernel) rfl rfl (fun r u hp => by obtain ⟨rfl, -⟩ := hp; rfl) (Nat.le_of_ble_eq_true rfl) (fun X h hinit hr => ?_)
  refine j_eq (lv' := [(0, .ref g0), (1, .int (iI n))]) rfl rfl rfl rfl rfl rfl ?_
  refine j_iload_n h dX12_cut_0 1 rfl rfl ?_
  refine j_i2l h dX12_cut_1 (by omega) ?_
  refine j_lconst h dX12_cut_2 ?_
  refine j_eq rfl rfl rfl rfl (stk' := [.long (lI 0), .long (lI n)]) rfl rfl ?_
  refine j_aload_n h dX12_cut_3 0 rfl rfl ?_
  refine j_get h dX12_cut_4 f_X12_cut_96 0 rfl rfl ?_
  refine j_i2l h dX12_cut_7 (by omega) ?_
  refine j_callSi (As := [.long (lI n), .long (lI 0), .long (lI x_taped)]) (wr := [(g0, .inr (12, .ref (r 0) :: .ref (r 1) :: .ref (r 2) :: .int (iI x_taped) :: .int (iI x_at) :: .int (iI x_token) :: .int (iI x_from) :: .long (lI x_word) :: .int (iI x_value) :: .int (iI x_size) :: .int (iI x_fault) :: .int (iI x_faultAt) :: .ref (r 3) :: .ref (r 4) :: .ref (r 5) :: .ref (r 6) :: .ref (r 7) :: .ref (r 8) :: .ref (r 9) :: .int (iI x_steps) :: .int (iI x_counted) :: .ref (r 10) :: .int (iI x_opens) :: .ref (r 11) :: .ref (r 12) :: .int (iI x_queued) :: .ref (r 13) :: .ref (r 14) :: .int (iI x_theMask) :: .ref (r 15) :: .ref (r 16) :: .int (iI x_kept) :: .int (iI x_placed) :: .ref (r 17) :: .ref (r 18) :: .ref (r 19) :: .int (iI x_orderMany) :: .ref (r 20) :: .ref (r 21) :: .int (iI x_outs) :: []))]) (cells' := 0) (slots' := 0) h dX12_cut_8 (ct_X12_in T n 0 x_taped (by first | assumption | omega) (by first | assumption | omega) (by first | assumption | omega)) k_X12_in gX12_cut_X12_in ⟨Nat.le_of_ble_eq_true rfl, Nat.le_of_ble_eq_true rfl⟩ rfl rfl (Nat.le_of_ble_eq_true rfl) ⟨Nat.le_of_ble_eq_true rfl, Nat.le_of_ble_eq_true rfl⟩ rfl rfl [] [0] rfl rfl rfl rfl (by decide) (fun r9 u9 p1 => ?_)
  obtain ⟨rfl, rfl⟩ := p1
  refine j_eq (ws' := [(g0, .inr (12, .ref (r 0) :: .ref (r 1) :: .ref (r 2) :: .int (iI x_taped) :: .int (iI x_at) :: .int (iI x_token) :: .int (iI x_from) :: .long (lI x_word) :: .int (iI x_value) :: .int (iI x_size) :: .int (iI x_fault) :: .int (iI x_faultAt) :: .ref (r 3) :: .ref (r 4) :: .ref (r 5) :: .ref (r 6) :: .ref (r 7) :: .ref (r 8) :: .ref (r 9) :: .int (iI x_steps) :: .int (iI x_counted) :: .ref (r 10) :: .int (iI x_opens) :: .ref (r 11) :: .ref (r 12) :: .int (iI x_queued) :: .ref (r 13) :: .ref (r 14) :: .int (iI x_theMask) :: .ref (r 15) :: .ref (r 16) :: .int (iI x_kept) :: .int (iI x_placed) :: .ref (r 17) :: .ref (r 18) :: .ref (r 19) :: .int (iI x_orderMany) :: .ref (r 20) :: .ref (r 21) :: .int (iI x_outs) :: []))]) rfl rfl rfl rfl rfl rfl ?_
  refine j_ifneB h 17 dX12_cut_11 (by decide) (fun c2 => ?_) (fun c2 => ?_)
  · skip
    replace c2 := of_decide_eq_true c2
    refine j_aload_n h dX12_cut_17 0 rfl rfl ?_
    refine j_get h dX12_cut_18 f_X12_cut_96 0 rfl rfl ?_
    refine j_iload_n h dX12_cut_21 1 rfl rfl ?_
    refine j_isub h dX12_cut_22 ?_
    refine j_istore_n (lv' := [(0, .ref g0), (1, .int (iI n)), (2, .int (iI (x_taped - n)))]) h dX12_cut_23 [1, 2, 0] rfl (by decide) rfl ?_
    refine j_aload_n h dX12_cut_24 0 rfl rfl ?_
    refine j_iload_n h dX12_cut_25 1 rfl rfl ?_
    refine j_put (ws' := [(g0, .inr (12, .ref (r 0) :: .ref (r 1) :: .ref (r 2) :: .int (iI n) :: .int (iI x_at) :: .int (iI x_token) :: .int (iI x_from) :: .long (lI x_word) :: .int (iI x_value) :: .int (iI x_size) :: .int (iI x_fault) :: .int (iI x_faultAt) :: .ref (r 3) :: .ref (r 4) :: .ref (r 5) :: .ref (r 6) :: .ref (r 7) :: .ref (r 8) :: .ref (r 9) :: .int (iI x_steps) :: .int (iI x_counted) :: .ref (r 10) :: .int (iI x_opens) :: .ref (r 11) :: .ref (r 12) :: .int (iI x_queued) :: .ref (r 13) :: .ref (r 14) :: .int (iI x_theMask) :: .ref (r 15) :: .ref (r 16) :: .int (iI x_kept) :: .int (iI x_placed) :: .ref (r 17) :: .ref (r 18) :: .ref (r 19) :: .int (iI x_orderMany) :: .ref (r 20) :: .ref (r 21) :: .int (iI x_outs) :: []))]) h dX12_cut_26 f_X12_cut_96 p_X12_3 0 rfl rfl rfl (Nat.le_of_ble_eq_true rfl) rfl ?_
    refine j_iload_n h dX12_cut_29 2 rfl rfl ?_
    exact hr _ _ _ _ dX12_cut_30 ⟨(congrArg iI (show ((x_taped - n) : Int) = (cutR x_taped n).1 by unfold cutR; (repeat (first | rw [if_pos (by omega)] | rw [if_neg (by omega)])))), (show ([(g0, .inr (12, .ref (r 0) :: .ref (r 1) :: .ref (r 2) :: .int (iI n) :: .int (iI x_at) :: .int (iI x_token) :: .int (iI x_from) :: .long (lI x_word) :: .int (iI x_value) :: .int (iI x_size) :: .int (iI x_fault) :: .int (iI x_faultAt) :: .ref (r 3) :: .ref (r 4) :: .ref (r 5) :: .ref (r 6) :: .ref (r 7) :: .ref (r 8) :: .ref (r 9) :: .int (iI x_steps) :: .int (iI x_counted) :: .ref (r 10) :: .int (iI x_opens) :: .ref (r 11) :: .ref (r 12) :: .int (iI x_queued) :: .ref (r 13) :: .ref (r 14) :: .int (iI x_theMask) :: .ref (r 15) :: .ref (r 16) :: .int (iI x_kept) :: .int (iI x_placed) :: .ref (r 17) :: .ref (r 18) :: .ref (r 19) :: .int (iI x_orderMany) :: .ref (r 20) :: .ref (r 21) :: .int (iI x_outs) :: []))] : va_W) = [(g0, .inr (12, .ref (r 0) :: .ref (r 1) :: .ref (r 2) :: .int (iI ((cutR x_taped n).2)) :: .int (iI x_at) :: .int (iI x_token) :: .int (iI x_from) :: .long (lI x_word) :: .int (iI x_value) :: .int (iI x_size) :: .int (iI x_fault) :: .int (iI x_faultAt) :: .ref (r 3) :: .ref (r 4) :: .ref (r 5) :: .ref (r 6) :: .ref (r 7) :: .ref (r 8) :: .ref (r 9) :: .int (iI x_steps) :: .int (iI x_counted) :: .ref (r 10) :: .int (iI x_opens) :: .ref (r 11) :: .ref (r 12) :: .int (iI x_queued) :: .ref (r 13) :: .ref (r 14) :: .int (iI x_theMask) :: .ref (r 15) :: .ref (r 16) :: .int (iI x_kept) :: .int (iI x_placed) :: .ref (r 17) :: .ref (r 18) :: .ref (r 19) :: .int (iI x_orderMany) :: .ref (r 20) :: .ref (r 21) :: .int (iI x_outs) :: []))] by unfold cutR; (repeat (first | rw [if_pos (by omega)] | rw [if_neg (by omega)])))⟩
  · skip
    replace c2 := of_decide_eq_false c2
    refine j_bipush h dX12_cut_14 (by decide) ?_
    exact hr _ _ _ _ dX12_cut_16 ⟨(congrArg iI (show ((-102) : Int) = (cutR x_taped n).1 by unfold cutR; (repeat (first | rw [if_pos (by omega)] | rw [if_neg (by omega)])))), (show ([(g0, .inr (12, .ref (r 0) :: .ref (r 1) :: .ref (r 2) :: .int (iI x_taped) :: .int (iI x_at) :: .int (iI x_token) :: .int (iI x_from) :: .long (lI x_word) :: .int (iI x_value) :: .int (iI x_size) :: .int (iI x_fault) :: .int (iI x_faultAt) :: .ref (r 3) :: .ref (r 4) :: .ref (r 5) :: .ref (r 6) :: .ref (r 7) :: .ref (r 8) :: .ref (r 9) :: .int (iI x_steps) :: .int (iI x_counted) :: .ref (r 10) :: .int (iI x_opens) :: .ref (r 11) :: .ref (r 12) :: .int (iI x_queued) :: .ref (r 13) :: .ref (r 14) :: .int (iI x_theMask) :: .ref (r 15) :: .ref (r 16) :: .int (iI x_kept) :: .int (iI x_placed) :: .ref (r 17) :: .ref (r 18) :: .ref (r 19) :: .int (iI x_orderMany) :: .ref (r 20) :: .ref (r 21) :: .int (iI x_outs) :: []))] : va_W) = [(g0, .inr (12, .ref (r 0) :: .ref (r 1) :: .ref (r 2) :: .int (iI ((cutR x_taped n).2)) :: .int (iI x_at) :: .int (iI x_token) :: .int (iI x_from) :: .long (lI x_word) :: .int (iI x_value) :: .int (iI x_size) :: .int (iI x_fault) :: .int (iI x_faultAt) :: .ref (r 3) :: .ref (r 4) :: .ref (r 5) :: .ref (r 6) :: .ref (r 7) :: .ref (r 8) :: .ref (r 9) :: .int (iI x_steps) :: .int (iI x_counted) :: .ref (r 10) :: .int (iI x_opens) :: .ref (r 11) :: .ref (r 12) :: .int (iI x_queued) :: .ref (r 13) :: .ref (r 14) :: .int (iI x_theMask) :: .ref (r 15) :: .ref (r 16) :: .int (iI x_kept) :: .int (iI x_placed) :: .ref (r 17) :: .ref (r 18) :: .ref (r 19) :: .int (iI x_orderMany) :: .ref (r 20) :: .ref (r 21) :: .int (iI x_outs) :: []))] by unfold cutR; (repeat (first | rw [if_pos (by omega)] | rw [if_neg (by omega)])))⟩

abbrev rmX12_place : Room := { frames := 0, cells := 0, slots := 0, locals := 0 }
theorem in_X12_place_X12 : ∀ w ∈ u_ws RX12 TX12 40, w ∈ wsX12_place := fun w hw => List.mem_cons_of_mem _ (List.mem_append_right _ (hw))
theorem f_X12_place_63 : FlOK RX12 63 wsX12_place 12 32 := ⟨_, _, _, rfl, by decide, in_X12_place_X12, List.mem_of_getElem? (i := 1) rfl⟩
set_option maxHeartbeats 600000 in
set_option maxRecDepth 100000 in
/-- place -/
theorem ct_X12_place (T : Nat → ClassId) (g0 : Nat) (r : Nat → Nat) (x_taped : Int) (x_at : Int) (x_token : Int) (x_from : Int) (x_word : Int) (x_value : Int) (x_size : Int) (x_fault : Int) (x_faultAt : Int) (x_steps : Int) (x_counted : Int) (x_opens : Int) (x_queued : Int) (x_theMask : Int) (x_kept : Int) (x_placed : Int) (x_orderMany : Int) (x_outs : Int)  : CtI T yX12_place wsX12_place rmX12_place 0 0 [.ref g0] [(g0, .inr (12, .ref (r 0) :: .ref (r 1) :: .ref (r 2) :: .int (iI x_taped) :: .int (iI x_at) :: .int (iI x_token) :: .int (iI x_from) :: .long (lI x_word) :: .int (iI x_value) :: .int (iI x_size) :: .int (iI x_fault) :: .int (iI x_faultAt) :: .ref (r 3) :: .ref (r 4) :: .ref (r 5) :: .ref (r 6) :: .ref (r 7) :: .ref (r 8) :: .ref (r 9) :: .int (iI x_steps) :: .int (iI x_counted) :: .ref (r 10) :: .int (iI x_opens) :: .ref (r 11) :: .ref (r 12) :: .int (iI x_queued) :: .ref (r 13) :: .ref (r 14) :: .int (iI x_theMask) :: .ref (r 15) :: .ref (r 16) :: .int (iI x_kept) :: .int (iI x_placed) :: .ref (r 17) :: .ref (r 18) :: .ref (r 19) :: .int (iI x_orderMany) :: .ref (r 20) :: .ref (r 21) :: .int (iI x_outs) :: []))] (fun r8 u => r8 = (iI x_placed) ∧ u = [(g0, .inr (12, .ref (r 0) :: .ref (r 1) :: .ref (r 2) :: .int (iI x_taped) :: .int (iI x_at) :: .int (iI x_token) :: .int (iI x_from) :: .long (lI x_word) :: .int (iI x_value) :: .int (iI x_size) :: .int (iI x_fault) :: .int (iI x_faultAt) :: .ref (r 3) :: .ref (r 4) :: .ref (r 5) :: .ref (r 6) :: .ref (r 7) :: .ref (r 8) :: .ref (r 9) :: .int (iI x_steps) :: .int (iI x_counted) :: .ref (r 10) :: .int (iI x_opens) :: .ref (r 11) :: .ref (r 12) :: .int (iI x_queued) :: .ref (r 13) :: .ref (r 14) :: .int (iI x_theMask) :: .ref (r 15) :: .ref (r 16) :: .int (iI x_kept) :: .int (iI x_placed) :: .ref (r 17) :: .ref (r 18) :: .ref (r 19) :: .int (iI x_orderMany) :: .ref (r 20) :: .ref (r 21) :: .int (iI x_outs) :: []))]) := by
  refine ctI_of (cc := cX12_place) (maxL := 1) (ret := (some .int)) (by decide +kernel) rfl rfl (fun r u hp => by obtain ⟨rfl, -⟩ := hp; rfl) (Nat.le_of_ble_eq_true rfl) (fun X h hinit hr => ?_)
  refine j_eq (lv' := [(0, .ref g0)]) rfl rfl rfl rfl rfl rfl ?_
  refine j_aload_n h dX12_place_0 0 rfl rfl ?_
  refine j_get h dX12_place_1 f_X12_place_63 0 rfl rfl ?_
  exact hr _ _ _ _ dX12_place_4 ⟨rfl, rfl⟩

abbrev rmX12_topOf : Room := { frames := 0, cells := 0, slots := 0, locals := 0 }
theorem in_X12_topOf_X12 : ∀ w ∈ u_ws RX12 TX12 40, w ∈ wsX12_topOf := fun w hw => List.mem_cons_of_mem _ (List.mem_append_right _ (hw))
theorem f_X12_topOf_7 : FlOK RX12 7 wsX12_topOf 12 0 := ⟨_, _, _, rfl, by decide, in_X12_topOf_X12, List.mem_of_getElem? (i := 1) rfl⟩
set_option maxHeartbeats 600000 in
set_option maxRecDepth 100000 in
/-- the highest height of a place that is not empty, or -1 -/
theorem ct_X12_topOf (T : Nat → ClassId) (g0 : Nat) (r : Nat → Nat) (x_taped : Int) (x_at : Int) (x_token : Int) (x_from : Int) (x_word : Int) (x_value : Int) (x_size : Int) (x_fault : Int) (x_faultAt : Int) (x_steps : Int) (x_counted : Int) (x_opens : Int) (x_queued : Int) (x_theMask : Int) (x_kept : Int) (x_placed : Int) (x_orderMany : Int) (x_outs : Int) (B : Int → Int) (p : Int) (hB : BOK B) (hp : 0 ≤ p ∧ p < 144) : CtI T yX12_topOf wsX12_topOf rmX12_topOf 0 0 [.ref g0, .int (iI p)] [(g0, .inr (12, .ref (r 0) :: .ref (r 1) :: .ref (r 2) :: .int (iI x_taped) :: .int (iI x_at) :: .int (iI x_token) :: .int (iI x_from) :: .long (lI x_word) :: .int (iI x_value) :: .int (iI x_size) :: .int (iI x_fault) :: .int (iI x_faultAt) :: .ref (r 3) :: .ref (r 4) :: .ref (r 5) :: .ref (r 6) :: .ref (r 7) :: .ref (r 8) :: .ref (r 9) :: .int (iI x_steps) :: .int (iI x_counted) :: .ref (r 10) :: .int (iI x_opens) :: .ref (r 11) :: .ref (r 12) :: .int (iI x_queued) :: .ref (r 13) :: .ref (r 14) :: .int (iI x_theMask) :: .ref (r 15) :: .ref (r 16) :: .int (iI x_kept) :: .int (iI x_placed) :: .ref (r 17) :: .ref (r 18) :: .ref (r 19) :: .int (iI x_orderMany) :: .ref (r 20) :: .ref (r 21) :: .int (iI x_outs) :: [])), ((r 0), .inl (T 0, 2880, .inl (fun j : Nat => iI (B j))))] (fun r8 u => r8 = (iI (topS B p)) ∧ u = [(g0, .inr (12, .ref (r 0) :: .ref (r 1) :: .ref (r 2) :: .int (iI x_taped) :: .int (iI x_at) :: .int (iI x_token) :: .int (iI x_from) :: .long (lI x_word) :: .int (iI x_value) :: .int (iI x_size) :: .int (iI x_fault) :: .int (iI x_faultAt) :: .ref (r 3) :: .ref (r 4) :: .ref (r 5) :: .ref (r 6) :: .ref (r 7) :: .ref (r 8) :: .ref (r 9) :: .int (iI x_steps) :: .int (iI x_counted) :: .ref (r 10) :: .int (iI x_opens) :: .ref (r 11) :: .ref (r 12) :: .int (iI x_queued) :: .ref (r 13) :: .ref (r 14) :: .int (iI x_theMask) :: .ref (r 15) :: .ref (r 16) :: .int (iI x_kept) :: .int (iI x_placed) :: .ref (r 17) :: .ref (r 18) :: .ref (r 19) :: .int (iI x_orderMany) :: .ref (r 20) :: .ref (r 21) :: .int (iI x_outs) :: [])), ((r 0), .inl (T 0, 2880, .inl (fun j : Nat => iI (B j))))]) := by
  refine ctI_of (cc := cX12_topOf) (maxL := 3) (ret := (some .int)) (by decide +kernel) rfl rfl (fun r u hp => by obtain ⟨rfl, -⟩ := hp; rfl) (Nat.le_of_ble_eq_true rfl) (fun X h hinit hr => ?_)
  refine j_eq (lv' := [(0, .ref g0), (1, .int (iI p))]) rfl rfl rfl rfl rfl rfl ?_
  refine j_bipush h dX12_topOf_0 (by decide) ?_
  refine j_istore_n (lv' := [(0, .ref g0), (1, .int (iI p)), (2, .int (iI 19))]) h dX12_topOf_2 [1, 2, 0] rfl (by decide) rfl ?_
  have lp3 : ∀ (n3 : Nat) (z : Int) (hz : -1 ≤ z ∧ z ≤ 19) (ha : ∀ y : Int, z < y → y ≤ 19 → B (144 * y + p) = 0), ((z + 1).toNat) < n3 → J X 0 0 3 [(0, .ref g0), (1, .int (iI p)), (2, .int (iI z))] [] [(g0, .inr (12, .ref (r 0) :: .ref (r 1) :: .ref (r 2) :: .int (iI x_taped) :: .int (iI x_at) :: .int (iI x_token) :: .int (iI x_from) :: .long (lI x_word) :: .int (iI x_value) :: .int (iI x_size) :: .int (iI x_fault) :: .int (iI x_faultAt) :: .ref (r 3) :: .ref (r 4) :: .ref (r 5) :: .ref (r 6) :: .ref (r 7) :: .ref (r 8) :: .ref (r 9) :: .int (iI x_steps) :: .int (iI x_counted) :: .ref (r 10) :: .int (iI x_opens) :: .ref (r 11) :: .ref (r 12) :: .int (iI x_queued) :: .ref (r 13) :: .ref (r 14) :: .int (iI x_theMask) :: .ref (r 15) :: .ref (r 16) :: .int (iI x_kept) :: .int (iI x_placed) :: .ref (r 17) :: .ref (r 18) :: .ref (r 19) :: .int (iI x_orderMany) :: .ref (r 20) :: .ref (r 21) :: .int (iI x_outs) :: [])), ((r 0), .inl (T 0, 2880, .inl (fun j : Nat => iI (B j))))] := by
    intro n3
    induction n3 with
    | zero => exact fun z hz ha hn3 => absurd hn3 (Nat.not_lt_zero _)
    | succ n3 ih3 =>
      intro z hz ha hn3
      refine j_iload_n h dX12_topOf_3 2 rfl rfl ?_
      refine j_if_lt h 28 dX12_topOf_4 (by decide) (by omega) (fun c1 => ?_) (fun c1 => ?_)
      · skip
        refine j_iload_n h dX12_topOf_28 2 rfl rfl ?_
        exact hr _ _ _ _ dX12_topOf_29 ⟨(congrArg iI (show (z : Int) = topS B p by rw [topS_none (fun y h1 h2 => ha y (by omega) h2)]; omega)), rfl⟩
      · skip
        refine j_aload_n h dX12_topOf_7 0 rfl rfl ?_
        refine j_get h dX12_topOf_8 f_X12_topOf_7 0 rfl rfl ?_
        refine j_sipush h dX12_topOf_11 (by decide) ?_
        refine j_iload_n h dX12_topOf_14 2 rfl rfl ?_
        refine j_imul h dX12_topOf_15 ?_
        refine j_iload_n h dX12_topOf_16 1 rfl rfl ?_
        refine j_iadd h dX12_topOf_17 ?_
        refine j_iald (f := B) h (144 * z + p) dX12_topOf_18 1 rfl (by decide) (by omega) (by omega) ?_
        have e2 := hB (144 * z + p)
        refine j_if_ne h 28 dX12_topOf_19 (by decide) (by omega) (fun c3 => ?_) (fun c3 => ?_)
        · skip
          refine j_iload_n h dX12_topOf_28 2 rfl rfl ?_
          exact hr _ _ _ _ dX12_topOf_29 ⟨(congrArg iI (show (z : Int) = topS B p by exact (topS_at (by omega) ha (by assumption)).symm)), rfl⟩
        · skip
          refine j_iinc (lv' := [(0, .ref g0), (1, .int (iI p)), (2, .int (iI (z + (-1))))]) h dX12_topOf_22 2 [1, 2, 0] rfl (by decide) rfl ?_
          refine j_goto (tgt := 3) h dX12_topOf_25 (by decide) ?_
          exact ih3 (z + (-1)) (by first | assumption | omega) (by intro y h1 h2; by_cases q : y = z; (rw [q]; assumption); exact ha y (by omega) h2) (by omega)
  exact lp3 _ 19 (by first | assumption | omega) (by intro y h1 h2; omega) (Nat.lt_succ_self _)

abbrev rmX12_layAt : Room := { frames := 1, cells := 0, slots := 0, locals := 22 }
theorem k_X12_topOf : CkOK yX12_topOf wsX12_topOf rmX12_topOf 0 0 cX12_topOf 3 (some .int) 1 := ⟨⟨_, rfl⟩, rfl, rfl, by decide +kernel⟩
theorem in_X12_layAt_X12 : ∀ w ∈ u_ws RX12 TX12 40, w ∈ wsX12_layAt := fun w hw => List.mem_cons_of_mem _ (List.mem_append_right _ (hw))
theorem f_X12_layAt_7 : FlOK RX12 7 wsX12_layAt 12 0 := ⟨_, _, _, rfl, by decide, in_X12_layAt_X12, List.mem_of_getElem? (i := 1) rfl⟩
set_option maxHeartbeats 600000 in
set_option maxRecDepth 100000 in
/-- n cubes from right above the top on -/
theorem ct_X12_layAt (T : Nat → ClassId) (g0 : Nat) (r : Nat → Nat) (x_taped : Int) (x_at : Int) (x_token : Int) (x_from : Int) (x_word : Int) (x_value : Int) (x_size : Int) (x_fault : Int) (x_faultAt : Int) (x_steps : Int) (x_counted : Int) (x_opens : Int) (x_queued : Int) (x_theMask : Int) (x_kept : Int) (x_placed : Int) (x_orderMany : Int) (x_outs : Int) (B : Int → Int) (p : Int) (s : Int) (n : Int) (hB : BOK B) (hp : 0 ≤ p ∧ p < 144) (hn : 0 ≤ n ∧ n ≤ 20) : CtV T yX12_layAt wsX12_layAt rmX12_layAt 0 0 [.ref g0, .int (iI p), .int (iI s), .int (iI n)] [(g0, .inr (12, .ref (r 0) :: .ref (r 1) :: .ref (r 2) :: .int (iI x_taped) :: .int (iI x_at) :: .int (iI x_token) :: .int (iI x_from) :: .long (lI x_word) :: .int (iI x_value) :: .int (iI x_size) :: .int (iI x_fault) :: .int (iI x_faultAt) :: .ref (r 3) :: .ref (r 4) :: .ref (r 5) :: .ref (r 6) :: .ref (r 7) :: .ref (r 8) :: .ref (r 9) :: .int (iI x_steps) :: .int (iI x_counted) :: .ref (r 10) :: .int (iI x_opens) :: .ref (r 11) :: .ref (r 12) :: .int (iI x_queued) :: .ref (r 13) :: .ref (r 14) :: .int (iI x_theMask) :: .ref (r 15) :: .ref (r 16) :: .int (iI x_kept) :: .int (iI x_placed) :: .ref (r 17) :: .ref (r 18) :: .ref (r 19) :: .int (iI x_orderMany) :: .ref (r 20) :: .ref (r 21) :: .int (iI x_outs) :: [])), ((r 0), .inl (T 0, 2880, .inl (fun j : Nat => iI (B j))))] (fun u => u = [(g0, .inr (12, .ref (r 0) :: .ref (r 1) :: .ref (r 2) :: .int (iI x_taped) :: .int (iI x_at) :: .int (iI x_token) :: .int (iI x_from) :: .long (lI x_word) :: .int (iI x_value) :: .int (iI x_size) :: .int (iI x_fault) :: .int (iI x_faultAt) :: .ref (r 3) :: .ref (r 4) :: .ref (r 5) :: .ref (r 6) :: .ref (r 7) :: .ref (r 8) :: .ref (r 9) :: .int (iI x_steps) :: .int (iI x_counted) :: .ref (r 10) :: .int (iI x_opens) :: .ref (r 11) :: .ref (r 12) :: .int (iI x_queued) :: .ref (r 13) :: .ref (r 14) :: .int (iI x_theMask) :: .ref (r 15) :: .ref (r 16) :: .int (iI x_kept) :: .int (iI x_placed) :: .ref (r 17) :: .ref (r 18) :: .ref (r 19) :: .int (iI x_orderMany) :: .ref (r 20) :: .ref (r 21) :: .int (iI x_outs) :: [])), ((r 0), .inl (T 0, 2880, .inl (fun j : Nat => iI ((layS B p s n) j))))]) := by
  refine ctV_of (cc := cX12_layAt) (maxL := 6) (ret := none) (by decide +kernel) rfl rfl (Nat.le_of_ble_eq_true rfl) (fun X h hinit hr => ?_)
  refine j_eq (lv' := [(0, .ref g0), (1, .int (iI p)), (2, .int (iI s)), (3, .int (iI n))]) rfl rfl rfl rfl rfl rfl ?_
  refine j_aload_n h dX12_layAt_0 0 rfl rfl ?_
  refine j_iload_n h dX12_layAt_1 1 rfl rfl ?_
  refine j_callVi (As := [.int (iI p)]) (wr := []) (cells' := 0) (slots' := 0) h dX12_layAt_2 (ct_X12_topOf T g0 r x_taped x_at x_token x_from x_word x_value x_size x_fault x_faultAt x_steps x_counted x_opens x_queued x_theMask x_kept x_placed x_orderMany x_outs B p (by first | assumption | omega) (by first | assumption | omega)) k_X12_topOf gX12_layAt_X12_topOf rfl rfl 0 rfl ⟨Nat.le_of_ble_eq_true rfl, Nat.le_of_ble_eq_true rfl⟩ rfl rfl (Nat.le_of_ble_eq_true rfl) ⟨Nat.le_of_ble_eq_true rfl, Nat.le_of_ble_eq_true rfl⟩ rfl rfl [0, 1] [] rfl rfl rfl rfl (by decide) (fun r9 u9 p1 => ?_)
  obtain ⟨rfl, rfl⟩ := p1
  have hz9 := topS_rng B p
  refine j_eq (ws' := [(g0, .inr (12, .ref (r 0) :: .ref (r 1) :: .ref (r 2) :: .int (iI x_taped) :: .int (iI x_at) :: .int (iI x_token) :: .int (iI x_from) :: .long (lI x_word) :: .int (iI x_value) :: .int (iI x_size) :: .int (iI x_fault) :: .int (iI x_faultAt) :: .ref (r 3) :: .ref (r 4) :: .ref (r 5) :: .ref (r 6) :: .ref (r 7) :: .ref (r 8) :: .ref (r 9) :: .int (iI x_steps) :: .int (iI x_counted) :: .ref (r 10) :: .int (iI x_opens) :: .ref (r 11) :: .ref (r 12) :: .int (iI x_queued) :: .ref (r 13) :: .ref (r 14) :: .int (iI x_theMask) :: .ref (r 15) :: .ref (r 16) :: .int (iI x_kept) :: .int (iI x_placed) :: .ref (r 17) :: .ref (r 18) :: .ref (r 19) :: .int (iI x_orderMany) :: .ref (r 20) :: .ref (r 21) :: .int (iI x_outs) :: [])), ((r 0), .inl (T 0, 2880, .inl (fun j : Nat => iI (B j))))]) rfl rfl rfl rfl rfl rfl ?_
  refine j_istore (lv' := [(0, .ref g0), (1, .int (iI p)), (2, .int (iI s)), (3, .int (iI n)), (4, .int (iI (topS B p)))]) h dX12_layAt_5 [1, 2, 3, 4, 0] (by decide) rfl ?_
  refine j_iload h dX12_layAt_7 4 rfl ?_
  refine j_iconst h dX12_layAt_9 ?_
  refine j_iadd h dX12_layAt_10 ?_
  refine j_istore (lv' := [(0, .ref g0), (1, .int (iI p)), (2, .int (iI s)), (3, .int (iI n)), (4, .int (iI (topS B p))), (5, .int (iI (topS B p + 1)))]) h dX12_layAt_11 [1, 2, 3, 4, 5, 0] (by decide) rfl ?_
  have lp13 : ∀ (n13 : Nat) (z : Int) (hz : topS B p + 1 ≤ z ∧ z ≤ 20 ∧ z ≤ topS B p + 1 + n), ((20 - z).toNat) < n13 → J X 0 0 13 [(0, .ref g0), (1, .int (iI p)), (2, .int (iI s)), (3, .int (iI n)), (4, .int (iI (topS B p))), (5, .int (iI z))] [] [(g0, .inr (12, .ref (r 0) :: .ref (r 1) :: .ref (r 2) :: .int (iI x_taped) :: .int (iI x_at) :: .int (iI x_token) :: .int (iI x_from) :: .long (lI x_word) :: .int (iI x_value) :: .int (iI x_size) :: .int (iI x_fault) :: .int (iI x_faultAt) :: .ref (r 3) :: .ref (r 4) :: .ref (r 5) :: .ref (r 6) :: .ref (r 7) :: .ref (r 8) :: .ref (r 9) :: .int (iI x_steps) :: .int (iI x_counted) :: .ref (r 10) :: .int (iI x_opens) :: .ref (r 11) :: .ref (r 12) :: .int (iI x_queued) :: .ref (r 13) :: .ref (r 14) :: .int (iI x_theMask) :: .ref (r 15) :: .ref (r 16) :: .int (iI x_kept) :: .int (iI x_placed) :: .ref (r 17) :: .ref (r 18) :: .ref (r 19) :: .int (iI x_orderMany) :: .ref (r 20) :: .ref (r 21) :: .int (iI x_outs) :: [])), ((r 0), .inl (T 0, 2880, .inl (fun j : Nat => iI ((layF B p s (topS B p + 1) z) j))))] := by
    intro n13
    induction n13 with
    | zero => exact fun z hz hn13 => absurd hn13 (Nat.not_lt_zero _)
    | succ n13 ih13 =>
      intro z hz hn13
      refine j_iload h dX12_layAt_13 5 rfl ?_
      refine j_iload h dX12_layAt_15 4 rfl ?_
      refine j_iload_n h dX12_layAt_17 3 rfl rfl ?_
      refine j_iadd h dX12_layAt_18 ?_
      refine j_icmp_gt h 49 dX12_layAt_19 (by decide) (by omega) (by omega) (fun c2 => ?_) (fun c2 => ?_)
      · skip
        exact hr _ _ _ dX12_layAt_49 (show ([(g0, .inr (12, .ref (r 0) :: .ref (r 1) :: .ref (r 2) :: .int (iI x_taped) :: .int (iI x_at) :: .int (iI x_token) :: .int (iI x_from) :: .long (lI x_word) :: .int (iI x_value) :: .int (iI x_size) :: .int (iI x_fault) :: .int (iI x_faultAt) :: .ref (r 3) :: .ref (r 4) :: .ref (r 5) :: .ref (r 6) :: .ref (r 7) :: .ref (r 8) :: .ref (r 9) :: .int (iI x_steps) :: .int (iI x_counted) :: .ref (r 10) :: .int (iI x_opens) :: .ref (r 11) :: .ref (r 12) :: .int (iI x_queued) :: .ref (r 13) :: .ref (r 14) :: .int (iI x_theMask) :: .ref (r 15) :: .ref (r 16) :: .int (iI x_kept) :: .int (iI x_placed) :: .ref (r 17) :: .ref (r 18) :: .ref (r 19) :: .int (iI x_orderMany) :: .ref (r 20) :: .ref (r 21) :: .int (iI x_outs) :: [])), ((r 0), .inl (T 0, 2880, .inl (fun j : Nat => iI ((layF B p s (topS B p + 1) z) j))))] : va_W) = [(g0, .inr (12, .ref (r 0) :: .ref (r 1) :: .ref (r 2) :: .int (iI x_taped) :: .int (iI x_at) :: .int (iI x_token) :: .int (iI x_from) :: .long (lI x_word) :: .int (iI x_value) :: .int (iI x_size) :: .int (iI x_fault) :: .int (iI x_faultAt) :: .ref (r 3) :: .ref (r 4) :: .ref (r 5) :: .ref (r 6) :: .ref (r 7) :: .ref (r 8) :: .ref (r 9) :: .int (iI x_steps) :: .int (iI x_counted) :: .ref (r 10) :: .int (iI x_opens) :: .ref (r 11) :: .ref (r 12) :: .int (iI x_queued) :: .ref (r 13) :: .ref (r 14) :: .int (iI x_theMask) :: .ref (r 15) :: .ref (r 16) :: .int (iI x_kept) :: .int (iI x_placed) :: .ref (r 17) :: .ref (r 18) :: .ref (r 19) :: .int (iI x_orderMany) :: .ref (r 20) :: .ref (r 21) :: .int (iI x_outs) :: [])), ((r 0), .inl (T 0, 2880, .inl (fun j : Nat => iI ((layS B p s n) j))))] by unfold layS; rw [show z = (if topS B p + 1 + n ≤ 20 then topS B p + 1 + n else 20) by split <;> omega])
      · skip
        refine j_iload h dX12_layAt_22 5 rfl ?_
        refine j_bipush h dX12_layAt_24 (by decide) ?_
        refine j_icmp_ge h 49 dX12_layAt_26 (by decide) (by omega) (by omega) (fun c3 => ?_) (fun c3 => ?_)
        · skip
          exact hr _ _ _ dX12_layAt_49 (show ([(g0, .inr (12, .ref (r 0) :: .ref (r 1) :: .ref (r 2) :: .int (iI x_taped) :: .int (iI x_at) :: .int (iI x_token) :: .int (iI x_from) :: .long (lI x_word) :: .int (iI x_value) :: .int (iI x_size) :: .int (iI x_fault) :: .int (iI x_faultAt) :: .ref (r 3) :: .ref (r 4) :: .ref (r 5) :: .ref (r 6) :: .ref (r 7) :: .ref (r 8) :: .ref (r 9) :: .int (iI x_steps) :: .int (iI x_counted) :: .ref (r 10) :: .int (iI x_opens) :: .ref (r 11) :: .ref (r 12) :: .int (iI x_queued) :: .ref (r 13) :: .ref (r 14) :: .int (iI x_theMask) :: .ref (r 15) :: .ref (r 16) :: .int (iI x_kept) :: .int (iI x_placed) :: .ref (r 17) :: .ref (r 18) :: .ref (r 19) :: .int (iI x_orderMany) :: .ref (r 20) :: .ref (r 21) :: .int (iI x_outs) :: [])), ((r 0), .inl (T 0, 2880, .inl (fun j : Nat => iI ((layF B p s (topS B p + 1) z) j))))] : va_W) = [(g0, .inr (12, .ref (r 0) :: .ref (r 1) :: .ref (r 2) :: .int (iI x_taped) :: .int (iI x_at) :: .int (iI x_token) :: .int (iI x_from) :: .long (lI x_word) :: .int (iI x_value) :: .int (iI x_size) :: .int (iI x_fault) :: .int (iI x_faultAt) :: .ref (r 3) :: .ref (r 4) :: .ref (r 5) :: .ref (r 6) :: .ref (r 7) :: .ref (r 8) :: .ref (r 9) :: .int (iI x_steps) :: .int (iI x_counted) :: .ref (r 10) :: .int (iI x_opens) :: .ref (r 11) :: .ref (r 12) :: .int (iI x_queued) :: .ref (r 13) :: .ref (r 14) :: .int (iI x_theMask) :: .ref (r 15) :: .ref (r 16) :: .int (iI x_kept) :: .int (iI x_placed) :: .ref (r 17) :: .ref (r 18) :: .ref (r 19) :: .int (iI x_orderMany) :: .ref (r 20) :: .ref (r 21) :: .int (iI x_outs) :: [])), ((r 0), .inl (T 0, 2880, .inl (fun j : Nat => iI ((layS B p s n) j))))] by unfold layS; rw [show z = (if topS B p + 1 + n ≤ 20 then topS B p + 1 + n else 20) by split <;> omega])
        · skip
          refine j_aload_n h dX12_layAt_29 0 rfl rfl ?_
          refine j_get h dX12_layAt_30 f_X12_layAt_7 0 rfl rfl ?_
          refine j_sipush h dX12_layAt_33 (by decide) ?_
          refine j_iload h dX12_layAt_36 5 rfl ?_
          refine j_imul h dX12_layAt_38 ?_
          refine j_iload_n h dX12_layAt_39 1 rfl rfl ?_
          refine j_iadd h dX12_layAt_40 ?_
          refine j_iload_n h dX12_layAt_41 2 rfl rfl ?_
          refine j_iast (f := layF B p s (topS B p + 1) z) (ws' := [(g0, .inr (12, .ref (r 0) :: .ref (r 1) :: .ref (r 2) :: .int (iI x_taped) :: .int (iI x_at) :: .int (iI x_token) :: .int (iI x_from) :: .long (lI x_word) :: .int (iI x_value) :: .int (iI x_size) :: .int (iI x_fault) :: .int (iI x_faultAt) :: .ref (r 3) :: .ref (r 4) :: .ref (r 5) :: .ref (r 6) :: .ref (r 7) :: .ref (r 8) :: .ref (r 9) :: .int (iI x_steps) :: .int (iI x_counted) :: .ref (r 10) :: .int (iI x_opens) :: .ref (r 11) :: .ref (r 12) :: .int (iI x_queued) :: .ref (r 13) :: .ref (r 14) :: .int (iI x_theMask) :: .ref (r 15) :: .ref (r 16) :: .int (iI x_kept) :: .int (iI x_placed) :: .ref (r 17) :: .ref (r 18) :: .ref (r 19) :: .int (iI x_orderMany) :: .ref (r 20) :: .ref (r 21) :: .int (iI x_outs) :: [])), ((r 0), .inl (T 0, 2880, .inl (fun j : Nat => iI ((upI (layF B p s (topS B p + 1) z) (144 * z + p) s) j))))]) h (144 * z + p) dX12_layAt_42 1 rfl (by decide) (by omega) (by omega) rfl ?_
          refine j_iinc (lv' := [(0, .ref g0), (1, .int (iI p)), (2, .int (iI s)), (3, .int (iI n)), (4, .int (iI (topS B p))), (5, .int (iI (z + 1)))]) h dX12_layAt_43 5 [1, 2, 3, 4, 5, 0] rfl (by decide) rfl ?_
          refine j_goto (tgt := 13) h dX12_layAt_46 (by decide) ?_
          refine j_eq (ws' := [(g0, .inr (12, .ref (r 0) :: .ref (r 1) :: .ref (r 2) :: .int (iI x_taped) :: .int (iI x_at) :: .int (iI x_token) :: .int (iI x_from) :: .long (lI x_word) :: .int (iI x_value) :: .int (iI x_size) :: .int (iI x_fault) :: .int (iI x_faultAt) :: .ref (r 3) :: .ref (r 4) :: .ref (r 5) :: .ref (r 6) :: .ref (r 7) :: .ref (r 8) :: .ref (r 9) :: .int (iI x_steps) :: .int (iI x_counted) :: .ref (r 10) :: .int (iI x_opens) :: .ref (r 11) :: .ref (r 12) :: .int (iI x_queued) :: .ref (r 13) :: .ref (r 14) :: .int (iI x_theMask) :: .ref (r 15) :: .ref (r 16) :: .int (iI x_kept) :: .int (iI x_placed) :: .ref (r 17) :: .ref (r 18) :: .ref (r 19) :: .int (iI x_orderMany) :: .ref (r 20) :: .ref (r 21) :: .int (iI x_outs) :: [])), ((r 0), .inl (T 0, 2880, .inl (fun j : Nat => iI ((layF B p s (topS B p + 1) (z + 1)) j))))]) rfl rfl rfl rfl rfl (by rw [layF_s (by omega) (by omega) hp]) ?_
          exact ih13 (z + 1) (by first | assumption | omega) (by omega)
  refine j_eq (ws' := [(g0, .inr (12, .ref (r 0) :: .ref (r 1) :: .ref (r 2) :: .int (iI x_taped) :: .int (iI x_at) :: .int (iI x_token) :: .int (iI x_from) :: .long (lI x_word) :: .int (iI x_value) :: .int (iI x_size) :: .int (iI x_fault) :: .int (iI x_faultAt) :: .ref (r 3) :: .ref (r 4) :: .ref (r 5) :: .ref (r 6) :: .ref (r 7) :: .ref (r 8) :: .ref (r 9) :: .int (iI x_steps) :: .int (iI x_counted) :: .ref (r 10) :: .int (iI x_opens) :: .ref (r 11) :: .ref (r 12) :: .int (iI x_queued) :: .ref (r 13) :: .ref (r 14) :: .int (iI x_theMask) :: .ref (r 15) :: .ref (r 16) :: .int (iI x_kept) :: .int (iI x_placed) :: .ref (r 17) :: .ref (r 18) :: .ref (r 19) :: .int (iI x_orderMany) :: .ref (r 20) :: .ref (r 21) :: .int (iI x_outs) :: [])), ((r 0), .inl (T 0, 2880, .inl (fun j : Nat => iI ((layF B p s (topS B p + 1) (topS B p + 1)) j))))]) rfl rfl rfl rfl rfl (by rw [layF_0]) ?_
  exact lp13 _ (topS B p + 1) (by first | assumption | omega) (Nat.lt_succ_self _)

abbrev rmX12_cutAt : Room := { frames := 1, cells := 0, slots := 0, locals := 22 }
theorem in_X12_cutAt_X12 : ∀ w ∈ u_ws RX12 TX12 40, w ∈ wsX12_cutAt := fun w hw => List.mem_cons_of_mem _ (List.mem_append_right _ (hw))
theorem f_X12_cutAt_7 : FlOK RX12 7 wsX12_cutAt 12 0 := ⟨_, _, _, rfl, by decide, in_X12_cutAt_X12, List.mem_of_getElem? (i := 1) rfl⟩
set_option maxHeartbeats 600000 in
set_option maxRecDepth 100000 in
/-- n times the cube at the top goes, if it is of the kinds -/
theorem ct_X12_cutAt (T : Nat → ClassId) (g0 : Nat) (r : Nat → Nat) (x_taped : Int) (x_at : Int) (x_token : Int) (x_from : Int) (x_word : Int) (x_value : Int) (x_size : Int) (x_fault : Int) (x_faultAt : Int) (x_steps : Int) (x_counted : Int) (x_opens : Int) (x_queued : Int) (x_theMask : Int) (x_kept : Int) (x_placed : Int) (x_orderMany : Int) (x_outs : Int) (B : Int → Int) (p : Int) (K : Int) (n : Int) (hB : BOK B) (hp : 0 ≤ p ∧ p < 144) (hK : 0 ≤ K ∧ K ≤ 2147483647) (hn : 0 ≤ n ∧ n ≤ 20) : CtV T yX12_cutAt wsX12_cutAt rmX12_cutAt 0 0 [.ref g0, .int (iI p), .int (iI K), .int (iI n)] [(g0, .inr (12, .ref (r 0) :: .ref (r 1) :: .ref (r 2) :: .int (iI x_taped) :: .int (iI x_at) :: .int (iI x_token) :: .int (iI x_from) :: .long (lI x_word) :: .int (iI x_value) :: .int (iI x_size) :: .int (iI x_fault) :: .int (iI x_faultAt) :: .ref (r 3) :: .ref (r 4) :: .ref (r 5) :: .ref (r 6) :: .ref (r 7) :: .ref (r 8) :: .ref (r 9) :: .int (iI x_steps) :: .int (iI x_counted) :: .ref (r 10) :: .int (iI x_opens) :: .ref (r 11) :: .ref (r 12) :: .int (iI x_queued) :: .ref (r 13) :: .ref (r 14) :: .int (iI x_theMask) :: .ref (r 15) :: .ref (r 16) :: .int (iI x_kept) :: .int (iI x_placed) :: .ref (r 17) :: .ref (r 18) :: .ref (r 19) :: .int (iI x_orderMany) :: .ref (r 20) :: .ref (r 21) :: .int (iI x_outs) :: [])), ((r 0), .inl (T 0, 2880, .inl (fun j : Nat => iI (B j))))] (fun u => u = [(g0, .inr (12, .ref (r 0) :: .ref (r 1) :: .ref (r 2) :: .int (iI x_taped) :: .int (iI x_at) :: .int (iI x_token) :: .int (iI x_from) :: .long (lI x_word) :: .int (iI x_value) :: .int (iI x_size) :: .int (iI x_fault) :: .int (iI x_faultAt) :: .ref (r 3) :: .ref (r 4) :: .ref (r 5) :: .ref (r 6) :: .ref (r 7) :: .ref (r 8) :: .ref (r 9) :: .int (iI x_steps) :: .int (iI x_counted) :: .ref (r 10) :: .int (iI x_opens) :: .ref (r 11) :: .ref (r 12) :: .int (iI x_queued) :: .ref (r 13) :: .ref (r 14) :: .int (iI x_theMask) :: .ref (r 15) :: .ref (r 16) :: .int (iI x_kept) :: .int (iI x_placed) :: .ref (r 17) :: .ref (r 18) :: .ref (r 19) :: .int (iI x_orderMany) :: .ref (r 20) :: .ref (r 21) :: .int (iI x_outs) :: [])), ((r 0), .inl (T 0, 2880, .inl (fun j : Nat => iI ((cutS B p K n.toNat) j))))]) := by
  refine ctV_of (cc := cX12_cutAt) (maxL := 6) (ret := none) (by decide +kernel) rfl rfl (Nat.le_of_ble_eq_true rfl) (fun X h hinit hr => ?_)
  refine j_eq (lv' := [(0, .ref g0), (1, .int (iI p)), (2, .int (iI K)), (3, .int (iI n))]) rfl rfl rfl rfl rfl rfl ?_
  refine j_iconst h dX12_cutAt_0 ?_
  refine j_istore (lv' := [(0, .ref g0), (1, .int (iI p)), (2, .int (iI K)), (3, .int (iI n)), (4, .int (iI 0))]) h dX12_cutAt_1 [1, 2, 3, 4, 0] (by decide) rfl ?_
  have lp3 : ∀ (n3 : Nat) (i : Int) (f : Int → Int) (hi : 0 ≤ i ∧ i ≤ n) (hf : BOK f) (he : cutS f p K (n - i).toNat = cutS B p K n.toNat), ((n - i).toNat) < n3 → J X 0 0 3 [(0, .ref g0), (1, .int (iI p)), (2, .int (iI K)), (3, .int (iI n)), (4, .int (iI i))] [] [(g0, .inr (12, .ref (r 0) :: .ref (r 1) :: .ref (r 2) :: .int (iI x_taped) :: .int (iI x_at) :: .int (iI x_token) :: .int (iI x_from) :: .long (lI x_word) :: .int (iI x_value) :: .int (iI x_size) :: .int (iI x_fault) :: .int (iI x_faultAt) :: .ref (r 3) :: .ref (r 4) :: .ref (r 5) :: .ref (r 6) :: .ref (r 7) :: .ref (r 8) :: .ref (r 9) :: .int (iI x_steps) :: .int (iI x_counted) :: .ref (r 10) :: .int (iI x_opens) :: .ref (r 11) :: .ref (r 12) :: .int (iI x_queued) :: .ref (r 13) :: .ref (r 14) :: .int (iI x_theMask) :: .ref (r 15) :: .ref (r 16) :: .int (iI x_kept) :: .int (iI x_placed) :: .ref (r 17) :: .ref (r 18) :: .ref (r 19) :: .int (iI x_orderMany) :: .ref (r 20) :: .ref (r 21) :: .int (iI x_outs) :: [])), ((r 0), .inl (T 0, 2880, .inl (fun j : Nat => iI (f j))))] := by
    intro n3
    induction n3 with
    | zero => exact fun i f hi hf he hn3 => absurd hn3 (Nat.not_lt_zero _)
    | succ n3 ih3 =>
      intro i f hi hf he hn3
      refine j_iload h dX12_cutAt_3 4 rfl ?_
      refine j_iload_n h dX12_cutAt_5 3 rfl rfl ?_
      refine j_icmp_ge h 62 dX12_cutAt_6 (by decide) (by omega) (by omega) (fun c1 => ?_) (fun c1 => ?_)
      · skip
        exact hr _ _ _ dX12_cutAt_62 (show ([(g0, .inr (12, .ref (r 0) :: .ref (r 1) :: .ref (r 2) :: .int (iI x_taped) :: .int (iI x_at) :: .int (iI x_token) :: .int (iI x_from) :: .long (lI x_word) :: .int (iI x_value) :: .int (iI x_size) :: .int (iI x_fault) :: .int (iI x_faultAt) :: .ref (r 3) :: .ref (r 4) :: .ref (r 5) :: .ref (r 6) :: .ref (r 7) :: .ref (r 8) :: .ref (r 9) :: .int (iI x_steps) :: .int (iI x_counted) :: .ref (r 10) :: .int (iI x_opens) :: .ref (r 11) :: .ref (r 12) :: .int (iI x_queued) :: .ref (r 13) :: .ref (r 14) :: .int (iI x_theMask) :: .ref (r 15) :: .ref (r 16) :: .int (iI x_kept) :: .int (iI x_placed) :: .ref (r 17) :: .ref (r 18) :: .ref (r 19) :: .int (iI x_orderMany) :: .ref (r 20) :: .ref (r 21) :: .int (iI x_outs) :: [])), ((r 0), .inl (T 0, 2880, .inl (fun j : Nat => iI (f j))))] : va_W) = [(g0, .inr (12, .ref (r 0) :: .ref (r 1) :: .ref (r 2) :: .int (iI x_taped) :: .int (iI x_at) :: .int (iI x_token) :: .int (iI x_from) :: .long (lI x_word) :: .int (iI x_value) :: .int (iI x_size) :: .int (iI x_fault) :: .int (iI x_faultAt) :: .ref (r 3) :: .ref (r 4) :: .ref (r 5) :: .ref (r 6) :: .ref (r 7) :: .ref (r 8) :: .ref (r 9) :: .int (iI x_steps) :: .int (iI x_counted) :: .ref (r 10) :: .int (iI x_opens) :: .ref (r 11) :: .ref (r 12) :: .int (iI x_queued) :: .ref (r 13) :: .ref (r 14) :: .int (iI x_theMask) :: .ref (r 15) :: .ref (r 16) :: .int (iI x_kept) :: .int (iI x_placed) :: .ref (r 17) :: .ref (r 18) :: .ref (r 19) :: .int (iI x_orderMany) :: .ref (r 20) :: .ref (r 21) :: .int (iI x_outs) :: [])), ((r 0), .inl (T 0, 2880, .inl (fun j : Nat => iI ((cutS B p K n.toNat) j))))] by rw [← he, show (n - i).toNat = 0 by omega]; rfl)
      · skip
        refine j_aload_n h dX12_cutAt_9 0 rfl rfl ?_
        refine j_iload_n h dX12_cutAt_10 1 rfl rfl ?_
        refine j_callVi (As := [.int (iI p)]) (wr := []) (cells' := 0) (slots' := 0) h dX12_cutAt_11 (ct_X12_topOf T g0 r x_taped x_at x_token x_from x_word x_value x_size x_fault x_faultAt x_steps x_counted x_opens x_queued x_theMask x_kept x_placed x_orderMany x_outs f p (by first | assumption | omega) (by first | assumption | omega)) k_X12_topOf gX12_cutAt_X12_topOf rfl rfl 0 rfl ⟨Nat.le_of_ble_eq_true rfl, Nat.le_of_ble_eq_true rfl⟩ rfl rfl (Nat.le_of_ble_eq_true rfl) ⟨Nat.le_of_ble_eq_true rfl, Nat.le_of_ble_eq_true rfl⟩ rfl rfl [0, 1] [] rfl rfl rfl rfl (by decide) (fun r9 u9 p2 => ?_)
        obtain ⟨rfl, rfl⟩ := p2
        have hz9 := topS_rng f p
        refine j_eq (ws' := [(g0, .inr (12, .ref (r 0) :: .ref (r 1) :: .ref (r 2) :: .int (iI x_taped) :: .int (iI x_at) :: .int (iI x_token) :: .int (iI x_from) :: .long (lI x_word) :: .int (iI x_value) :: .int (iI x_size) :: .int (iI x_fault) :: .int (iI x_faultAt) :: .ref (r 3) :: .ref (r 4) :: .ref (r 5) :: .ref (r 6) :: .ref (r 7) :: .ref (r 8) :: .ref (r 9) :: .int (iI x_steps) :: .int (iI x_counted) :: .ref (r 10) :: .int (iI x_opens) :: .ref (r 11) :: .ref (r 12) :: .int (iI x_queued) :: .ref (r 13) :: .ref (r 14) :: .int (iI x_theMask) :: .ref (r 15) :: .ref (r 16) :: .int (iI x_kept) :: .int (iI x_placed) :: .ref (r 17) :: .ref (r 18) :: .ref (r 19) :: .int (iI x_orderMany) :: .ref (r 20) :: .ref (r 21) :: .int (iI x_outs) :: [])), ((r 0), .inl (T 0, 2880, .inl (fun j : Nat => iI (f j))))]) rfl rfl rfl rfl rfl rfl ?_
        refine j_istore (lv' := [(0, .ref g0), (1, .int (iI p)), (2, .int (iI K)), (3, .int (iI n)), (4, .int (iI i)), (5, .int (iI (topS f p)))]) h dX12_cutAt_14 [1, 2, 3, 4, 5, 0] (by decide) rfl ?_
        refine j_iload h dX12_cutAt_16 5 rfl ?_
        refine j_if_lt h 56 dX12_cutAt_18 (by decide) (by omega) (fun c3 => ?_) (fun c3 => ?_)
        · skip
          refine j_iinc (lv' := [(0, .ref g0), (1, .int (iI p)), (2, .int (iI K)), (3, .int (iI n)), (4, .int (iI (i + 1))), (5, .int (iI (topS f p)))]) h dX12_cutAt_56 4 [1, 2, 3, 4, 0, 5] rfl (by decide) rfl ?_
          refine j_goto (tgt := 3) h dX12_cutAt_59 (by decide) ?_
          refine j_lv (lv' := [(0, .ref g0), (1, .int (iI p)), (2, .int (iI K)), (3, .int (iI n)), (4, .int (iI (i + 1)))]) [0, 1, 2, 3, 4] rfl ?_
          exact ih3 (i + 1) f (by first | assumption | omega) (by exact hf) (by rw [← cutS_nxt_top c3]; exact he) (by omega)
        · skip
          refine j_iload_n h dX12_cutAt_21 2 rfl rfl ?_
          refine j_aload_n h dX12_cutAt_22 0 rfl rfl ?_
          refine j_get h dX12_cutAt_23 f_X12_cutAt_7 0 rfl rfl ?_
          refine j_sipush h dX12_cutAt_26 (by decide) ?_
          refine j_iload h dX12_cutAt_29 5 rfl ?_
          refine j_imul h dX12_cutAt_31 ?_
          refine j_iload_n h dX12_cutAt_32 1 rfl rfl ?_
          refine j_iadd h dX12_cutAt_33 ?_
          refine j_iald (f := f) h (144 * (topS f p) + p) dX12_cutAt_34 1 rfl (by decide) (by omega) (by omega) ?_
          have e4 := hf (144 * (topS f p) + p)
          refine j_ishr h dX12_cutAt_35 (by omega) (by omega) ?_
          refine j_iconst h dX12_cutAt_36 ?_
          refine j_iandm h dX12_cutAt_37 1 (by decide) (by decide) ?_
          refine j_iconst h dX12_cutAt_38 ?_
          refine j_icmp_ne h 56 dX12_cutAt_39 (by decide) (by omega) (by omega) (fun c5 => ?_) (fun c5 => ?_)
          · skip
            refine j_iinc (lv' := [(0, .ref g0), (1, .int (iI p)), (2, .int (iI K)), (3, .int (iI n)), (4, .int (iI (i + 1))), (5, .int (iI (topS f p)))]) h dX12_cutAt_56 4 [1, 2, 3, 4, 0, 5] rfl (by decide) rfl ?_
            refine j_goto (tgt := 3) h dX12_cutAt_59 (by decide) ?_
            refine j_lv (lv' := [(0, .ref g0), (1, .int (iI p)), (2, .int (iI K)), (3, .int (iI n)), (4, .int (iI (i + 1)))]) [0, 1, 2, 3, 4] rfl ?_
            exact ih3 (i + 1) f (by first | assumption | omega) (by exact hf) (by rw [← cutS_nxt_no (hk1_f c5)]; exact he) (by omega)
          · skip
            refine j_aload_n h dX12_cutAt_42 0 rfl rfl ?_
            refine j_get h dX12_cutAt_43 f_X12_cutAt_7 0 rfl rfl ?_
            refine j_sipush h dX12_cutAt_46 (by decide) ?_
            refine j_iload h dX12_cutAt_49 5 rfl ?_
            refine j_imul h dX12_cutAt_51 ?_
            refine j_iload_n h dX12_cutAt_52 1 rfl rfl ?_
            refine j_iadd h dX12_cutAt_53 ?_
            refine j_iconst h dX12_cutAt_54 ?_
            refine j_iast (f := f) (ws' := [(g0, .inr (12, .ref (r 0) :: .ref (r 1) :: .ref (r 2) :: .int (iI x_taped) :: .int (iI x_at) :: .int (iI x_token) :: .int (iI x_from) :: .long (lI x_word) :: .int (iI x_value) :: .int (iI x_size) :: .int (iI x_fault) :: .int (iI x_faultAt) :: .ref (r 3) :: .ref (r 4) :: .ref (r 5) :: .ref (r 6) :: .ref (r 7) :: .ref (r 8) :: .ref (r 9) :: .int (iI x_steps) :: .int (iI x_counted) :: .ref (r 10) :: .int (iI x_opens) :: .ref (r 11) :: .ref (r 12) :: .int (iI x_queued) :: .ref (r 13) :: .ref (r 14) :: .int (iI x_theMask) :: .ref (r 15) :: .ref (r 16) :: .int (iI x_kept) :: .int (iI x_placed) :: .ref (r 17) :: .ref (r 18) :: .ref (r 19) :: .int (iI x_orderMany) :: .ref (r 20) :: .ref (r 21) :: .int (iI x_outs) :: [])), ((r 0), .inl (T 0, 2880, .inl (fun j : Nat => iI ((upI f (144 * (topS f p) + p) 0) j))))]) h (144 * (topS f p) + p) dX12_cutAt_55 1 rfl (by decide) (by omega) (by omega) rfl ?_
            refine j_iinc (lv' := [(0, .ref g0), (1, .int (iI p)), (2, .int (iI K)), (3, .int (iI n)), (4, .int (iI (i + 1))), (5, .int (iI (topS f p)))]) h dX12_cutAt_56 4 [1, 2, 3, 4, 0, 5] rfl (by decide) rfl ?_
            refine j_goto (tgt := 3) h dX12_cutAt_59 (by decide) ?_
            refine j_lv (lv' := [(0, .ref g0), (1, .int (iI p)), (2, .int (iI K)), (3, .int (iI n)), (4, .int (iI (i + 1)))]) [0, 1, 2, 3, 4] rfl ?_
            exact ih3 (i + 1) (upI f (144 * (topS f p) + p) 0) (by first | assumption | omega) (by exact BOK_upI hf (by omega)) (by rw [← cutS_yes (by omega) (by omega) (hk1_t c5)]; exact he) (by omega)
  exact lp3 _ 0 B (by first | assumption | omega) (by first | assumption | omega) (by rw [Int.sub_zero]) (Nat.lt_succ_self _)

