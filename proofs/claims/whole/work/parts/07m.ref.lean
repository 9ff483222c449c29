abbrev rmX12_three : Room := { frames := 0, cells := 0, slots := 0, locals := 0 }
set_option maxHeartbeats 600000 in
set_option maxRecDepth 100000 in
theorem ct_X12_three (T : Nat → ClassId) (a : Int) (b : Int) (c : Int) (ha : 0 ≤ a ∧ a ≤ 127) (hb : 0 ≤ b ∧ b ≤ 127) (hc : 0 ≤ c ∧ c ≤ 127) : CtL T yX12_three wsX12_three rmX12_three 0 0 [.int (iI a), .int (iI b), .int (iI c)] [] (fun r8 u => r8 = (lI (27 * (27 * (a - 96) + b - 96) + c - 96)) ∧ u = []) := by
  refine ctL_of (cc := cX12_three) (maxL := 3) (ret := (some .long)) (by decide +kernel) rfl rfl (Nat.le_of_ble_eq_true rfl) (fun X h hinit hr => ?_)
  refine j_eq (lv' := [(0, .int (iI a)), (1, .int (iI b)), (2, .int (iI c))]) rfl rfl rfl rfl rfl rfl ?_
  refine j_ldc2 (z := 27) h 27 dX12_three_0 (by decide +kernel) (List.mem_of_getElem? (i := 1) rfl) ?_
  refine j_ldc2 (z := 27) h 27 dX12_three_3 (by decide +kernel) (List.mem_of_getElem? (i := 1) rfl) ?_
  refine j_iload_n h dX12_three_6 0 rfl rfl ?_
  refine j_bipush h dX12_three_7 (by decide) ?_
  refine j_isub h dX12_three_9 ?_
  refine j_i2l h dX12_three_10 (by omega) ?_
  refine j_lmul h dX12_three_11 ?_
  refine j_iload_n h dX12_three_12 1 rfl rfl ?_
  refine j_i2l h dX12_three_13 (by omega) ?_
  refine j_ladd h dX12_three_14 ?_
  refine j_ldc2 (z := 96) h 96 dX12_three_15 (by decide +kernel) (List.mem_of_getElem? (i := 2) rfl) ?_
  refine j_lsub h dX12_three_18 ?_
  refine j_lmul h dX12_three_19 ?_
  refine j_iload_n h dX12_three_20 2 rfl rfl ?_
  refine j_i2l h dX12_three_21 (by omega) ?_
  refine j_ladd h dX12_three_22 ?_
  refine j_ldc2 (z := 96) h 96 dX12_three_23 (by decide +kernel) (List.mem_of_getElem? (i := 2) rfl) ?_
  refine j_lsub h dX12_three_26 ?_
  exact hr _ _ _ _ dX12_three_27 ⟨(congrArg lI (show ((((27 * (((27 * (a - 96)) + b) - 96)) + c) - 96) : Int) = (27 * (27 * (a - 96) + b - 96) + c - 96) by omega)), rfl⟩

abbrev rmX12_code : Room := { frames := 0, cells := 0, slots := 0, locals := 0 }
set_option maxHeartbeats 600000 in
set_option maxRecDepth 100000 in
theorem ct_X12_code (T : Nat → ClassId) (a : Int) (b : Int) (c : Int) (d : Int) (e : Int) (f : Int) (ha : 0 ≤ a ∧ a ≤ 127) (hb : 0 ≤ b ∧ b ≤ 127) (hc : 0 ≤ c ∧ c ≤ 127) (hd : 0 ≤ d ∧ d ≤ 127) (he : 0 ≤ e ∧ e ≤ 127) (hf : 0 ≤ f ∧ f ≤ 127) : CtL T yX12_code wsX12_code rmX12_code 0 0 [.int (iI a), .int (iI b), .int (iI c), .int (iI d), .int (iI e), .int (iI f)] [] (fun r8 u => r8 = (lI (if (0 : Int) < f then 27 * (if (0 : Int) < e then 27 * (27 * (27 * (27 * (a - 96) + b - 96) + c - 96) + d - 96) + e - 96 else 27 * (27 * (27 * (a - 96) + b - 96) + c - 96) + d - 96) + f - 96 else (if (0 : Int) < e then 27 * (27 * (27 * (27 * (a - 96) + b - 96) + c - 96) + d - 96) + e - 96 else 27 * (27 * (27 * (a - 96) + b - 96) + c - 96) + d - 96))) ∧ u = []) := by
  refine ctL_of (cc := cX12_code) (maxL := 8) (ret := (some .long)) (by decide +kernel) rfl rfl (Nat.le_of_ble_eq_true rfl) (fun X h hinit hr => ?_)
  refine j_eq (lv' := [(0, .int (iI a)), (1, .int (iI b)), (2, .int (iI c)), (3, .int (iI d)), (4, .int (iI e)), (5, .int (iI f))]) rfl rfl rfl rfl rfl rfl ?_
  refine j_ldc2 (z := 27) h 27 dX12_code_0 (by decide +kernel) (List.mem_of_getElem? (i := 1) rfl) ?_
  refine j_ldc2 (z := 27) h 27 dX12_code_3 (by decide +kernel) (List.mem_of_getElem? (i := 1) rfl) ?_
  refine j_ldc2 (z := 27) h 27 dX12_code_6 (by decide +kernel) (List.mem_of_getElem? (i := 1) rfl) ?_
  refine j_iload_n h dX12_code_9 0 rfl rfl ?_
  refine j_bipush h dX12_code_10 (by decide) ?_
  refine j_isub h dX12_code_12 ?_
  refine j_i2l h dX12_code_13 (by omega) ?_
  refine j_lmul h dX12_code_14 ?_
  refine j_iload_n h dX12_code_15 1 rfl rfl ?_
  refine j_i2l h dX12_code_16 (by omega) ?_
  refine j_ladd h dX12_code_17 ?_
  refine j_ldc2 (z := 96) h 96 dX12_code_18 (by decide +kernel) (List.mem_of_getElem? (i := 2) rfl) ?_
  refine j_lsub h dX12_code_21 ?_
  refine j_lmul h dX12_code_22 ?_
  refine j_iload_n h dX12_code_23 2 rfl rfl ?_
  refine j_i2l h dX12_code_24 (by omega) ?_
  refine j_ladd h dX12_code_25 ?_
  refine j_ldc2 (z := 96) h 96 dX12_code_26 (by decide +kernel) (List.mem_of_getElem? (i := 2) rfl) ?_
  refine j_lsub h dX12_code_29 ?_
  refine j_lmul h dX12_code_30 ?_
  refine j_iload_n h dX12_code_31 3 rfl rfl ?_
  refine j_i2l h dX12_code_32 (by omega) ?_
  refine j_ladd h dX12_code_33 ?_
  refine j_ldc2 (z := 96) h 96 dX12_code_34 (by decide +kernel) (List.mem_of_getElem? (i := 2) rfl) ?_
  refine j_lsub h dX12_code_37 ?_
  refine j_lstore (lv' := [(0, .int (iI a)), (1, .int (iI b)), (2, .int (iI c)), (3, .int (iI d)), (4, .int (iI e)), (5, .int (iI f)), (6, .long (lI (((27 * (((27 * (((27 * (a - 96)) + b) - 96)) + c) - 96)) + d) - 96)))]) h dX12_code_38 [1, 2, 3, 4, 5, 6, 0] (by decide) rfl ?_
  refine j_iload h dX12_code_40 4 rfl ?_
  refine j_if_le h 62 dX12_code_42 (by decide) (by omega) (fun c1 => ?_) (fun c1 => ?_)
  · skip
    refine j_lload h dX12_code_62 6 rfl ?_
    refine j_lstore (lv' := [(0, .int (iI a)), (1, .int (iI b)), (2, .int (iI c)), (3, .int (iI d)), (4, .int (iI e)), (5, .int (iI f)), (6, .long (lI (((27 * (((27 * (((27 * (a - 96)) + b) - 96)) + c) - 96)) + d) - 96)))]) h dX12_code_64 [1, 2, 3, 4, 5, 6, 0] (by decide) rfl ?_
    refine j_iload h dX12_code_66 5 rfl ?_
    refine j_if_le h 88 dX12_code_68 (by decide) (by omega) (fun c2 => ?_) (fun c2 => ?_)
    · skip
      refine j_lload h dX12_code_88 6 rfl ?_
      exact hr _ _ _ _ dX12_code_90 ⟨(congrArg lI (show ((((27 * (((27 * (((27 * (a - 96)) + b) - 96)) + c) - 96)) + d) - 96) : Int) = (if (0 : Int) < f then 27 * (if (0 : Int) < e then 27 * (27 * (27 * (27 * (a - 96) + b - 96) + c - 96) + d - 96) + e - 96 else 27 * (27 * (27 * (a - 96) + b - 96) + c - 96) + d - 96) + f - 96 else (if (0 : Int) < e then 27 * (27 * (27 * (27 * (a - 96) + b - 96) + c - 96) + d - 96) + e - 96 else 27 * (27 * (27 * (a - 96) + b - 96) + c - 96) + d - 96)) by (repeat (first | rw [if_pos (by omega)] | rw [if_neg (by omega)])) <;> (first | rfl | omega))), rfl⟩
    · skip
      refine j_ldc2 (z := 27) h 27 dX12_code_71 (by decide +kernel) (List.mem_of_getElem? (i := 1) rfl) ?_
      refine j_lload h dX12_code_74 6 rfl ?_
      refine j_lmul h dX12_code_76 ?_
      refine j_iload h dX12_code_77 5 rfl ?_
      refine j_i2l h dX12_code_79 (by omega) ?_
      refine j_ladd h dX12_code_80 ?_
      refine j_ldc2 (z := 96) h 96 dX12_code_81 (by decide +kernel) (List.mem_of_getElem? (i := 2) rfl) ?_
      refine j_lsub h dX12_code_84 ?_
      refine j_goto (tgt := 90) h dX12_code_85 (by decide) ?_
      exact hr _ _ _ _ dX12_code_90 ⟨(congrArg lI (show ((((27 * (((27 * (((27 * (((27 * (a - 96)) + b) - 96)) + c) - 96)) + d) - 96)) + f) - 96) : Int) = (if (0 : Int) < f then 27 * (if (0 : Int) < e then 27 * (27 * (27 * (27 * (a - 96) + b - 96) + c - 96) + d - 96) + e - 96 else 27 * (27 * (27 * (a - 96) + b - 96) + c - 96) + d - 96) + f - 96 else (if (0 : Int) < e then 27 * (27 * (27 * (27 * (a - 96) + b - 96) + c - 96) + d - 96) + e - 96 else 27 * (27 * (27 * (a - 96) + b - 96) + c - 96) + d - 96)) by (repeat (first | rw [if_pos (by omega)] | rw [if_neg (by omega)])) <;> (first | rfl | omega))), rfl⟩
  · skip
    refine j_ldc2 (z := 27) h 27 dX12_code_45 (by decide +kernel) (List.mem_of_getElem? (i := 1) rfl) ?_
    refine j_lload h dX12_code_48 6 rfl ?_
    refine j_lmul h dX12_code_50 ?_
    refine j_iload h dX12_code_51 4 rfl ?_
    refine j_i2l h dX12_code_53 (by omega) ?_
    refine j_ladd h dX12_code_54 ?_
    refine j_ldc2 (z := 96) h 96 dX12_code_55 (by decide +kernel) (List.mem_of_getElem? (i := 2) rfl) ?_
    refine j_lsub h dX12_code_58 ?_
    refine j_goto (tgt := 64) h dX12_code_59 (by decide) ?_
    refine j_lstore (lv' := [(0, .int (iI a)), (1, .int (iI b)), (2, .int (iI c)), (3, .int (iI d)), (4, .int (iI e)), (5, .int (iI f)), (6, .long (lI (((27 * (((27 * (((27 * (((27 * (a - 96)) + b) - 96)) + c) - 96)) + d) - 96)) + e) - 96)))]) h dX12_code_64 [1, 2, 3, 4, 5, 6, 0] (by decide) rfl ?_
    refine j_iload h dX12_code_66 5 rfl ?_
    refine j_if_le h 88 dX12_code_68 (by decide) (by omega) (fun c3 => ?_) (fun c3 => ?_)
    · skip
      refine j_lload h dX12_code_88 6 rfl ?_
      exact hr _ _ _ _ dX12_code_90 ⟨(congrArg lI (show ((((27 * (((27 * (((27 * (((27 * (a - 96)) + b) - 96)) + c) - 96)) + d) - 96)) + e) - 96) : Int) = (if (0 : Int) < f then 27 * (if (0 : Int) < e then 27 * (27 * (27 * (27 * (a - 96) + b - 96) + c - 96) + d - 96) + e - 96 else 27 * (27 * (27 * (a - 96) + b - 96) + c - 96) + d - 96) + f - 96 else (if (0 : Int) < e then 27 * (27 * (27 * (27 * (a - 96) + b - 96) + c - 96) + d - 96) + e - 96 else 27 * (27 * (27 * (a - 96) + b - 96) + c - 96) + d - 96)) by (repeat (first | rw [if_pos (by omega)] | rw [if_neg (by omega)])) <;> (first | rfl | omega))), rfl⟩
    · skip
      refine j_ldc2 (z := 27) h 27 dX12_code_71 (by decide +kernel) (List.mem_of_getElem? (i := 1) rfl) ?_
      refine j_lload h dX12_code_74 6 rfl ?_
      refine j_lmul h dX12_code_76 ?_
      refine j_iload h dX12_code_77 5 rfl ?_
      refine j_i2l h dX12_code_79 (by omega) ?_
      refine j_ladd h dX12_code_80 ?_
      refine j_ldc2 (z := 96) h 96 dX12_code_81 (by decide +kernel) (List.mem_of_getElem? (i := 2) rfl) ?_
      refine j_lsub h dX12_code_84 ?_
      refine j_goto (tgt := 90) h dX12_code_85 (by decide) ?_
      exact hr _ _ _ _ dX12_code_90 ⟨(congrArg lI (show ((((27 * (((27 * (((27 * (((27 * (((27 * (a - 96)) + b) - 96)) + c) - 96)) + d) - 96)) + e) - 96)) + f) - 96) : Int) = (if (0 : Int) < f then 27 * (if (0 : Int) < e then 27 * (27 * (27 * (27 * (a - 96) + b - 96) + c - 96) + d - 96) + e - 96 else 27 * (27 * (27 * (a - 96) + b - 96) + c - 96) + d - 96) + f - 96 else (if (0 : Int) < e then 27 * (27 * (27 * (27 * (a - 96) + b - 96) + c - 96) + d - 96) + e - 96 else 27 * (27 * (27 * (a - 96) + b - 96) + c - 96) + d - 96)) by (repeat (first | rw [if_pos (by omega)] | rw [if_neg (by omega)])) <;> (first | rfl | omega))), rfl⟩

abbrev rmX12_stepBehind : Room := { frames := 1, cells := 0, slots := 0, locals := 27 }
theorem k_X12_code : CkOK yX12_code wsX12_code rmX12_code 0 0 cX12_code 8 (some .long) 6 := ⟨⟨_, rfl⟩, rfl, rfl, by decide +kernel⟩
set_option maxHeartbeats 600000 in
set_option maxRecDepth 100000 in
theorem ct_X12_stepBehind (T : Nat → ClassId) (w : Int) (hw : -9223372036854775808 ≤ w ∧ w ≤ 9223372036854775807) : CtI T yX12_stepBehind wsX12_stepBehind rmX12_stepBehind 0 0 [.long (lI w)] [] (fun r8 u => r8 = (iI (if w = 124995 then 7 else if w = 126893 then 8 else if w = 92275 then 9 else if w = 257132 then 10 else if w = 40586 then 11 else if w = 453836 then 12 else if w = 12391871 then 13 else if w = 261256151 then 14 else 0)) ∧ u = []) := by
  refine ctI_of (cc := cX12_stepBehind) (maxL := 2) (ret := (some .int)) (by decide +kernel) rfl rfl (fun r u hp => by obtain ⟨rfl, -⟩ := hp; rfl) (Nat.le_of_ble_eq_true rfl) (fun X h hinit hr => ?_)
  refine j_eq (lv' := [(0, .long (lI w))]) rfl rfl rfl rfl rfl rfl ?_
  refine j_lload_n h dX12_stepBehind_0 0 rfl rfl ?_
  refine j_bipush h dX12_stepBehind_1 (by decide) ?_
  refine j_bipush h dX12_stepBehind_3 (by decide) ?_
  refine j_bipush h dX12_stepBehind_5 (by decide) ?_
  refine j_bipush h dX12_stepBehind_7 (by decide) ?_
  refine j_iconst h dX12_stepBehind_9 ?_
  refine j_iconst h dX12_stepBehind_10 ?_
  refine j_callSl (As := [.int (iI 102), .int (iI 105), .int (iI 108), .int (iI 108), .int (iI 0), .int (iI 0)]) (wr := []) (cells' := 0) (slots' := 0) h dX12_stepBehind_11 (ct_X12_code T 102 105 108 108 0 0 (by first | assumption | omega) (by first | assumption | omega) (by first | assumption | omega) (by first | assumption | omega) (by first | assumption | omega) (by first | assumption | omega)) k_X12_code gX12_stepBehind_X12_code ⟨Nat.le_of_ble_eq_true rfl, Nat.le_of_ble_eq_true rfl⟩ rfl rfl (Nat.le_of_ble_eq_true rfl) ⟨Nat.le_of_ble_eq_true rfl, Nat.le_of_ble_eq_true rfl⟩ rfl rfl [] [] rfl rfl rfl rfl (by decide) (fun r9 u9 p1 => ?_)
  obtain ⟨rfl, rfl⟩ := p1
  refine j_eq (ws' := []) rfl rfl rfl rfl rfl rfl ?_
  rw [show (if (0 : Int) < 0 then 27 * (if (0 : Int) < 0 then 27 * (27 * (27 * (27 * (102 - 96) + 105 - 96) + 108 - 96) + 108 - 96) + 0 - 96 else 27 * (27 * (27 * (102 - 96) + 105 - 96) + 108 - 96) + 108 - 96) + 0 - 96 else (if (0 : Int) < 0 then 27 * (27 * (27 * (27 * (102 - 96) + 105 - 96) + 108 - 96) + 108 - 96) + 0 - 96 else 27 * (27 * (27 * (102 - 96) + 105 - 96) + 108 - 96) + 108 - 96)) = (124995 : Int) by decide]
  refine j_lcmp h dX12_stepBehind_14 (by omega) (by omega) ?_
  refine j_if_ne h 23 dX12_stepBehind_15 (by decide) (by first | (have := cmpI_rng w 124995; omega) | omega) (fun c2 => ?_) (fun c2 => ?_)
  · skip
    have c2 : ¬ (w = 124995) := fun z9 => by have z8 := cmpI_eq.mpr z9; omega
    refine j_lload_n h dX12_stepBehind_23 0 rfl rfl ?_
    refine j_bipush h dX12_stepBehind_24 (by decide) ?_
    refine j_bipush h dX12_stepBehind_26 (by decide) ?_
    refine j_bipush h dX12_stepBehind_28 (by decide) ?_
    refine j_bipush h dX12_stepBehind_30 (by decide) ?_
    refine j_iconst h dX12_stepBehind_32 ?_
    refine j_iconst h dX12_stepBehind_33 ?_
    refine j_callSl (As := [.int (iI 102), .int (iI 108), .int (iI 97), .int (iI 116), .int (iI 0), .int (iI 0)]) (wr := []) (cells' := 0) (slots' := 0) h dX12_stepBehind_34 (ct_X12_code T 102 108 97 116 0 0 (by first | assumption | omega) (by first | assumption | omega) (by first | assumption | omega) (by first | assumption | omega) (by first | assumption | omega) (by first | assumption | omega)) k_X12_code gX12_stepBehind_X12_code ⟨Nat.le_of_ble_eq_true rfl, Nat.le_of_ble_eq_true rfl⟩ rfl rfl (Nat.le_of_ble_eq_true rfl) ⟨Nat.le_of_ble_eq_true rfl, Nat.le_of_ble_eq_true rfl⟩ rfl rfl [] [] rfl rfl rfl rfl (by decide) (fun r9 u9 p3 => ?_)
    obtain ⟨rfl, rfl⟩ := p3
    refine j_eq (ws' := []) rfl rfl rfl rfl rfl rfl ?_
    rw [show (if (0 : Int) < 0 then 27 * (if (0 : Int) < 0 then 27 * (27 * (27 * (27 * (102 - 96) + 108 - 96) + 97 - 96) + 116 - 96) + 0 - 96 else 27 * (27 * (27 * (102 - 96) + 108 - 96) + 97 - 96) + 116 - 96) + 0 - 96 else (if (0 : Int) < 0 then 27 * (27 * (27 * (27 * (102 - 96) + 108 - 96) + 97 - 96) + 116 - 96) + 0 - 96 else 27 * (27 * (27 * (102 - 96) + 108 - 96) + 97 - 96) + 116 - 96)) = (126893 : Int) by decide]
    refine j_lcmp h dX12_stepBehind_37 (by omega) (by omega) ?_
    refine j_if_ne h 46 dX12_stepBehind_38 (by decide) (by first | (have := cmpI_rng w 126893; omega) | omega) (fun c4 => ?_) (fun c4 => ?_)
    · skip
      have c4 : ¬ (w = 126893) := fun z9 => by have z8 := cmpI_eq.mpr z9; omega
      refine j_lload_n h dX12_stepBehind_46 0 rfl rfl ?_
      refine j_bipush h dX12_stepBehind_47 (by decide) ?_
      refine j_bipush h dX12_stepBehind_49 (by decide) ?_
      refine j_bipush h dX12_stepBehind_51 (by decide) ?_
      refine j_bipush h dX12_stepBehind_53 (by decide) ?_
      refine j_iconst h dX12_stepBehind_55 ?_
      refine j_iconst h dX12_stepBehind_56 ?_
      refine j_callSl (As := [.int (iI 100), .int (iI 114), .int (iI 111), .int (iI 112), .int (iI 0), .int (iI 0)]) (wr := []) (cells' := 0) (slots' := 0) h dX12_stepBehind_57 (ct_X12_code T 100 114 111 112 0 0 (by first | assumption | omega) (by first | assumption | omega) (by first | assumption | omega) (by first | assumption | omega) (by first | assumption | omega) (by first | assumption | omega)) k_X12_code gX12_stepBehind_X12_code ⟨Nat.le_of_ble_eq_true rfl, Nat.le_of_ble_eq_true rfl⟩ rfl rfl (Nat.le_of_ble_eq_true rfl) ⟨Nat.le_of_ble_eq_true rfl, Nat.le_of_ble_eq_true rfl⟩ rfl rfl [] [] rfl rfl rfl rfl (by decide) (fun r9 u9 p5 => ?_)
      obtain ⟨rfl, rfl⟩ := p5
      refine j_eq (ws' := []) rfl rfl rfl rfl rfl rfl ?_
      rw [show (if (0 : Int) < 0 then 27 * (if (0 : Int) < 0 then 27 * (27 * (27 * (27 * (100 - 96) + 114 - 96) + 111 - 96) + 112 - 96) + 0 - 96 else 27 * (27 * (27 * (100 - 96) + 114 - 96) + 111 - 96) + 112 - 96) + 0 - 96 else (if (0 : Int) < 0 then 27 * (27 * (27 * (27 * (100 - 96) + 114 - 96) + 111 - 96) + 112 - 96) + 0 - 96 else 27 * (27 * (27 * (100 - 96) + 114 - 96) + 111 - 96) + 112 - 96)) = (92275 : Int) by decide]
      refine j_lcmp h dX12_stepBehind_60 (by omega) (by omega) ?_
      refine j_if_ne h 69 dX12_stepBehind_61 (by decide) (by first | (have := cmpI_rng w 92275; omega) | omega) (fun c6 => ?_) (fun c6 => ?_)
      · skip
        have c6 : ¬ (w = 92275) := fun z9 => by have z8 := cmpI_eq.mpr z9; omega
        refine j_lload_n h dX12_stepBehind_69 0 rfl rfl ?_
        refine j_bipush h dX12_stepBehind_70 (by decide) ?_
        refine j_bipush h dX12_stepBehind_72 (by decide) ?_
        refine j_bipush h dX12_stepBehind_74 (by decide) ?_
        refine j_bipush h dX12_stepBehind_76 (by decide) ?_
        refine j_iconst h dX12_stepBehind_78 ?_
        refine j_iconst h dX12_stepBehind_79 ?_
        refine j_callSl (As := [.int (iI 109), .int (iI 97), .int (iI 115), .int (iI 107), .int (iI 0), .int (iI 0)]) (wr := []) (cells' := 0) (slots' := 0) h dX12_stepBehind_80 (ct_X12_code T 109 97 115 107 0 0 (by first | assumption | omega) (by first | assumption | omega) (by first | assumption | omega) (by first | assumption | omega) (by first | assumption | omega) (by first | assumption | omega)) k_X12_code gX12_stepBehind_X12_code ⟨Nat.le_of_ble_eq_true rfl, Nat.le_of_ble_eq_true rfl⟩ rfl rfl (Nat.le_of_ble_eq_true rfl) ⟨Nat.le_of_ble_eq_true rfl, Nat.le_of_ble_eq_true rfl⟩ rfl rfl [] [] rfl rfl rfl rfl (by decide) (fun r9 u9 p7 => ?_)
        obtain ⟨rfl, rfl⟩ := p7
        refine j_eq (ws' := []) rfl rfl rfl rfl rfl rfl ?_
        rw [show (if (0 : Int) < 0 then 27 * (if (0 : Int) < 0 then 27 * (27 * (27 * (27 * (109 - 96) + 97 - 96) + 115 - 96) + 107 - 96) + 0 - 96 else 27 * (27 * (27 * (109 - 96) + 97 - 96) + 115 - 96) + 107 - 96) + 0 - 96 else (if (0 : Int) < 0 then 27 * (27 * (27 * (27 * (109 - 96) + 97 - 96) + 115 - 96) + 107 - 96) + 0 - 96 else 27 * (27 * (27 * (109 - 96) + 97 - 96) + 115 - 96) + 107 - 96)) = (257132 : Int) by decide]
        refine j_lcmp h dX12_stepBehind_83 (by omega) (by omega) ?_
        refine j_if_ne h 92 dX12_stepBehind_84 (by decide) (by first | (have := cmpI_rng w 257132; omega) | omega) (fun c8 => ?_) (fun c8 => ?_)
        · skip
          have c8 : ¬ (w = 257132) := fun z9 => by have z8 := cmpI_eq.mpr z9; omega
          refine j_lload_n h dX12_stepBehind_92 0 rfl rfl ?_
          refine j_bipush h dX12_stepBehind_93 (by decide) ?_
          refine j_bipush h dX12_stepBehind_95 (by decide) ?_
          refine j_bipush h dX12_stepBehind_97 (by decide) ?_
          refine j_bipush h dX12_stepBehind_99 (by decide) ?_
          refine j_iconst h dX12_stepBehind_101 ?_
          refine j_iconst h dX12_stepBehind_102 ?_
          refine j_callSl (As := [.int (iI 98), .int (iI 97), .int (iI 114), .int (iI 101), .int (iI 0), .int (iI 0)]) (wr := []) (cells' := 0) (slots' := 0) h dX12_stepBehind_103 (ct_X12_code T 98 97 114 101 0 0 (by first | assumption | omega) (by first | assumption | omega) (by first | assumption | omega) (by first | assumption | omega) (by first | assumption | omega) (by first | assumption | omega)) k_X12_code gX12_stepBehind_X12_code ⟨Nat.le_of_ble_eq_true rfl, Nat.le_of_ble_eq_true rfl⟩ rfl rfl (Nat.le_of_ble_eq_true rfl) ⟨Nat.le_of_ble_eq_true rfl, Nat.le_of_ble_eq_true rfl⟩ rfl rfl [] [] rfl rfl rfl rfl (by decide) (fun r9 u9 p9 => ?_)
          obtain ⟨rfl, rfl⟩ := p9
          refine j_eq (ws' := []) rfl rfl rfl rfl rfl rfl ?_
          rw [show (if (0 : Int) < 0 then 27 * (if (0 : Int) < 0 then 27 * (27 * (27 * (27 * (98 - 96) + 97 - 96) + 114 - 96) + 101 - 96) + 0 - 96 else 27 * (27 * (27 * (98 - 96) + 97 - 96) + 114 - 96) + 101 - 96) + 0 - 96 else (if (0 : Int) < 0 then 27 * (27 * (27 * (27 * (98 - 96) + 97 - 96) + 114 - 96) + 101 - 96) + 0 - 96 else 27 * (27 * (27 * (98 - 96) + 97 - 96) + 114 - 96) + 101 - 96)) = (40586 : Int) by decide]
          refine j_lcmp h dX12_stepBehind_106 (by omega) (by omega) ?_
          refine j_if_ne h 115 dX12_stepBehind_107 (by decide) (by first | (have := cmpI_rng w 40586; omega) | omega) (fun c10 => ?_) (fun c10 => ?_)
          · skip
            have c10 : ¬ (w = 40586) := fun z9 => by have z8 := cmpI_eq.mpr z9; omega
            refine j_lload_n h dX12_stepBehind_115 0 rfl rfl ?_
            refine j_bipush h dX12_stepBehind_116 (by decide) ?_
            refine j_bipush h dX12_stepBehind_118 (by decide) ?_
            refine j_bipush h dX12_stepBehind_120 (by decide) ?_
            refine j_bipush h dX12_stepBehind_122 (by decide) ?_
            refine j_iconst h dX12_stepBehind_124 ?_
            refine j_iconst h dX12_stepBehind_125 ?_
            refine j_callSl (As := [.int (iI 119), .int (iI 97), .int (iI 110), .int (iI 116), .int (iI 0), .int (iI 0)]) (wr := []) (cells' := 0) (slots' := 0) h dX12_stepBehind_126 (ct_X12_code T 119 97 110 116 0 0 (by first | assumption | omega) (by first | assumption | omega) (by first | assumption | omega) (by first | assumption | omega) (by first | assumption | omega) (by first | assumption | omega)) k_X12_code gX12_stepBehind_X12_code ⟨Nat.le_of_ble_eq_true rfl, Nat.le_of_ble_eq_true rfl⟩ rfl rfl (Nat.le_of_ble_eq_true rfl) ⟨Nat.le_of_ble_eq_true rfl, Nat.le_of_ble_eq_true rfl⟩ rfl rfl [] [] rfl rfl rfl rfl (by decide) (fun r9 u9 p11 => ?_)
            obtain ⟨rfl, rfl⟩ := p11
            refine j_eq (ws' := []) rfl rfl rfl rfl rfl rfl ?_
            rw [show (if (0 : Int) < 0 then 27 * (if (0 : Int) < 0 then 27 * (27 * (27 * (27 * (119 - 96) + 97 - 96) + 110 - 96) + 116 - 96) + 0 - 96 else 27 * (27 * (27 * (119 - 96) + 97 - 96) + 110 - 96) + 116 - 96) + 0 - 96 else (if (0 : Int) < 0 then 27 * (27 * (27 * (27 * (119 - 96) + 97 - 96) + 110 - 96) + 116 - 96) + 0 - 96 else 27 * (27 * (27 * (119 - 96) + 97 - 96) + 110 - 96) + 116 - 96)) = (453836 : Int) by decide]
            refine j_lcmp h dX12_stepBehind_129 (by omega) (by omega) ?_
            refine j_if_ne h 138 dX12_stepBehind_130 (by decide) (by first | (have := cmpI_rng w 453836; omega) | omega) (fun c12 => ?_) (fun c12 => ?_)
            · skip
              have c12 : ¬ (w = 453836) := fun z9 => by have z8 := cmpI_eq.mpr z9; omega
              refine j_lload_n h dX12_stepBehind_138 0 rfl rfl ?_
              refine j_bipush h dX12_stepBehind_139 (by decide) ?_
              refine j_bipush h dX12_stepBehind_141 (by decide) ?_
              refine j_bipush h dX12_stepBehind_143 (by decide) ?_
              refine j_bipush h dX12_stepBehind_145 (by decide) ?_
              refine j_bipush h dX12_stepBehind_147 (by decide) ?_
              refine j_iconst h dX12_stepBehind_149 ?_
              refine j_callSl (As := [.int (iI 119), .int (iI 104), .int (iI 111), .int (iI 108), .int (iI 101), .int (iI 0)]) (wr := []) (cells' := 0) (slots' := 0) h dX12_stepBehind_150 (ct_X12_code T 119 104 111 108 101 0 (by first | assumption | omega) (by first | assumption | omega) (by first | assumption | omega) (by first | assumption | omega) (by first | assumption | omega) (by first | assumption | omega)) k_X12_code gX12_stepBehind_X12_code ⟨Nat.le_of_ble_eq_true rfl, Nat.le_of_ble_eq_true rfl⟩ rfl rfl (Nat.le_of_ble_eq_true rfl) ⟨Nat.le_of_ble_eq_true rfl, Nat.le_of_ble_eq_true rfl⟩ rfl rfl [] [] rfl rfl rfl rfl (by decide) (fun r9 u9 p13 => ?_)
              obtain ⟨rfl, rfl⟩ := p13
              refine j_eq (ws' := []) rfl rfl rfl rfl rfl rfl ?_
              rw [show (if (0 : Int) < 0 then 27 * (if (0 : Int) < 101 then 27 * (27 * (27 * (27 * (119 - 96) + 104 - 96) + 111 - 96) + 108 - 96) + 101 - 96 else 27 * (27 * (27 * (119 - 96) + 104 - 96) + 111 - 96) + 108 - 96) + 0 - 96 else (if (0 : Int) < 101 then 27 * (27 * (27 * (27 * (119 - 96) + 104 - 96) + 111 - 96) + 108 - 96) + 101 - 96 else 27 * (27 * (27 * (119 - 96) + 104 - 96) + 111 - 96) + 108 - 96)) = (12391871 : Int) by decide]
              refine j_lcmp h dX12_stepBehind_153 (by omega) (by omega) ?_
              refine j_if_ne h 162 dX12_stepBehind_154 (by decide) (by first | (have := cmpI_rng w 12391871; omega) | omega) (fun c14 => ?_) (fun c14 => ?_)
              · skip
                have c14 : ¬ (w = 12391871) := fun z9 => by have z8 := cmpI_eq.mpr z9; omega
                refine j_lload_n h dX12_stepBehind_162 0 rfl rfl ?_
                refine j_bipush h dX12_stepBehind_163 (by decide) ?_
                refine j_bipush h dX12_stepBehind_165 (by decide) ?_
                refine j_bipush h dX12_stepBehind_167 (by decide) ?_
                refine j_bipush h dX12_stepBehind_169 (by decide) ?_
                refine j_bipush h dX12_stepBehind_171 (by decide) ?_
                refine j_bipush h dX12_stepBehind_173 (by decide) ?_
                refine j_callSl (As := [.int (iI 114), .int (iI 101), .int (iI 112), .int (iI 101), .int (iI 97), .int (iI 116)]) (wr := []) (cells' := 0) (slots' := 0) h dX12_stepBehind_175 (ct_X12_code T 114 101 112 101 97 116 (by first | assumption | omega) (by first | assumption | omega) (by first | assumption | omega) (by first | assumption | omega) (by first | assumption | omega) (by first | assumption | omega)) k_X12_code gX12_stepBehind_X12_code ⟨Nat.le_of_ble_eq_true rfl, Nat.le_of_ble_eq_true rfl⟩ rfl rfl (Nat.le_of_ble_eq_true rfl) ⟨Nat.le_of_ble_eq_true rfl, Nat.le_of_ble_eq_true rfl⟩ rfl rfl [] [] rfl rfl rfl rfl (by decide) (fun r9 u9 p15 => ?_)
                obtain ⟨rfl, rfl⟩ := p15
                refine j_eq (ws' := []) rfl rfl rfl rfl rfl rfl ?_
                rw [show (if (0 : Int) < 116 then 27 * (if (0 : Int) < 97 then 27 * (27 * (27 * (27 * (114 - 96) + 101 - 96) + 112 - 96) + 101 - 96) + 97 - 96 else 27 * (27 * (27 * (114 - 96) + 101 - 96) + 112 - 96) + 101 - 96) + 116 - 96 else (if (0 : Int) < 97 then 27 * (27 * (27 * (27 * (114 - 96) + 101 - 96) + 112 - 96) + 101 - 96) + 97 - 96 else 27 * (27 * (27 * (114 - 96) + 101 - 96) + 112 - 96) + 101 - 96)) = (261256151 : Int) by decide]
                refine j_lcmp h dX12_stepBehind_178 (by omega) (by omega) ?_
                refine j_if_ne h 187 dX12_stepBehind_179 (by decide) (by first | (have := cmpI_rng w 261256151; omega) | omega) (fun c16 => ?_) (fun c16 => ?_)
                · skip
                  have c16 : ¬ (w = 261256151) := fun z9 => by have z8 := cmpI_eq.mpr z9; omega
                  refine j_iconst h dX12_stepBehind_187 ?_
                  exact hr _ _ _ _ dX12_stepBehind_188 ⟨(congrArg iI (show (0 : Int) = (if w = 124995 then 7 else if w = 126893 then 8 else if w = 92275 then 9 else if w = 257132 then 10 else if w = 40586 then 11 else if w = 453836 then 12 else if w = 12391871 then 13 else if w = 261256151 then 14 else 0) by (repeat (first | rw [if_pos (by omega)] | rw [if_neg (by omega)])))), rfl⟩
                · skip
                  have c16 : w = 261256151 := by first | exact cmpI_eq.mp c16 | exact cmpI_eq.mp (by omega)
                  refine j_bipush h dX12_stepBehind_182 (by decide) ?_
                  refine j_goto (tgt := 188) h dX12_stepBehind_184 (by decide) ?_
                  exact hr _ _ _ _ dX12_stepBehind_188 ⟨(congrArg iI (show (14 : Int) = (if w = 124995 then 7 else if w = 126893 then 8 else if w = 92275 then 9 else if w = 257132 then 10 else if w = 40586 then 11 else if w = 453836 then 12 else if w = 12391871 then 13 else if w = 261256151 then 14 else 0) by (repeat (first | rw [if_pos (by omega)] | rw [if_neg (by omega)])))), rfl⟩
              · skip
                have c14 : w = 12391871 := by first | exact cmpI_eq.mp c14 | exact cmpI_eq.mp (by omega)
                refine j_bipush h dX12_stepBehind_157 (by decide) ?_
                refine j_goto (tgt := 188) h dX12_stepBehind_159 (by decide) ?_
                exact hr _ _ _ _ dX12_stepBehind_188 ⟨(congrArg iI (show (13 : Int) = (if w = 124995 then 7 else if w = 126893 then 8 else if w = 92275 then 9 else if w = 257132 then 10 else if w = 40586 then 11 else if w = 453836 then 12 else if w = 12391871 then 13 else if w = 261256151 then 14 else 0) by (repeat (first | rw [if_pos (by omega)] | rw [if_neg (by omega)])))), rfl⟩
            · skip
              have c12 : w = 453836 := by first | exact cmpI_eq.mp c12 | exact cmpI_eq.mp (by omega)
              refine j_bipush h dX12_stepBehind_133 (by decide) ?_
              refine j_goto (tgt := 188) h dX12_stepBehind_135 (by decide) ?_
              exact hr _ _ _ _ dX12_stepBehind_188 ⟨(congrArg iI (show (12 : Int) = (if w = 124995 then 7 else if w = 126893 then 8 else if w = 92275 then 9 else if w = 257132 then 10 else if w = 40586 then 11 else if w = 453836 then 12 else if w = 12391871 then 13 else if w = 261256151 then 14 else 0) by (repeat (first | rw [if_pos (by omega)] | rw [if_neg (by omega)])))), rfl⟩
          · skip
            have c10 : w = 40586 := by first | exact cmpI_eq.mp c10 | exact cmpI_eq.mp (by omega)
            refine j_bipush h dX12_stepBehind_110 (by decide) ?_
            refine j_goto (tgt := 188) h dX12_stepBehind_112 (by decide) ?_
            exact hr _ _ _ _ dX12_stepBehind_188 ⟨(congrArg iI (show (11 : Int) = (if w = 124995 then 7 else if w = 126893 then 8 else if w = 92275 then 9 else if w = 257132 then 10 else if w = 40586 then 11 else if w = 453836 then 12 else if w = 12391871 then 13 else if w = 261256151 then 14 else 0) by (repeat (first | rw [if_pos (by omega)] | rw [if_neg (by omega)])))), rfl⟩
        · skip
          have c8 : w = 257132 := by first | exact cmpI_eq.mp c8 | exact cmpI_eq.mp (by omega)
          refine j_bipush h dX12_stepBehind_87 (by decide) ?_
          refine j_goto (tgt := 188) h dX12_stepBehind_89 (by decide) ?_
          exact hr _ _ _ _ dX12_stepBehind_188 ⟨(congrArg iI (show (10 : Int) = (if w = 124995 then 7 else if w = 126893 then 8 else if w = 92275 then 9 else if w = 257132 then 10 else if w = 40586 then 11 else if w = 453836 then 12 else if w = 12391871 then 13 else if w = 261256151 then 14 else 0) by (repeat (first | rw [if_pos (by omega)] | rw [if_neg (by omega)])))), rfl⟩
      · skip
        have c6 : w = 92275 := by first | exact cmpI_eq.mp c6 | exact cmpI_eq.mp (by omega)
        refine j_bipush h dX12_stepBehind_64 (by decide) ?_
        refine j_goto (tgt := 188) h dX12_stepBehind_66 (by decide) ?_
        exact hr _ _ _ _ dX12_stepBehind_188 ⟨(congrArg iI (show (9 : Int) = (if w = 124995 then 7 else if w = 126893 then 8 else if w = 92275 then 9 else if w = 257132 then 10 else if w = 40586 then 11 else if w = 453836 then 12 else if w = 12391871 then 13 else if w = 261256151 then 14 else 0) by (repeat (first | rw [if_pos (by omega)] | rw [if_neg (by omega)])))), rfl⟩
    · skip
      have c4 : w = 126893 := by first | exact cmpI_eq.mp c4 | exact cmpI_eq.mp (by omega)
      refine j_bipush h dX12_stepBehind_41 (by decide) ?_
      refine j_goto (tgt := 188) h dX12_stepBehind_43 (by decide) ?_
      exact hr _ _ _ _ dX12_stepBehind_188 ⟨(congrArg iI (show (8 : Int) = (if w = 124995 then 7 else if w = 126893 then 8 else if w = 92275 then 9 else if w = 257132 then 10 else if w = 40586 then 11 else if w = 453836 then 12 else if w = 12391871 then 13 else if w = 261256151 then 14 else 0) by (repeat (first | rw [if_pos (by omega)] | rw [if_neg (by omega)])))), rfl⟩
  · skip
    have c2 : w = 124995 := by first | exact cmpI_eq.mp c2 | exact cmpI_eq.mp (by omega)
    refine j_bipush h dX12_stepBehind_18 (by decide) ?_
    refine j_goto (tgt := 188) h dX12_stepBehind_20 (by decide) ?_
    exact hr _ _ _ _ dX12_stepBehind_188 ⟨(congrArg iI (show (7 : Int) = (if w = 124995 then 7 else if w = 126893 then 8 else if w = 92275 then 9 else if w = 257132 then 10 else if w = 40586 then 11 else if w = 453836 then 12 else if w = 12391871 then 13 else if w = 261256151 then 14 else 0) by (repeat (first | rw [if_pos (by omega)] | rw [if_neg (by omega)])))), rfl⟩

abbrev rmX12_kindOf : Room := { frames := 2, cells := 0, slots := 0, locals := 48 }
theorem k_X12_three : CkOK yX12_three wsX12_three rmX12_three 0 0 cX12_three 3 (some .long) 3 := ⟨⟨_, rfl⟩, rfl, rfl, by decide +kernel⟩
theorem k_X12_stepBehind : CkOK yX12_stepBehind wsX12_stepBehind rmX12_stepBehind 0 0 cX12_stepBehind 2 (some .int) 1 := ⟨⟨_, rfl⟩, rfl, rfl, by decide +kernel⟩
set_option maxHeartbeats 600000 in
set_option maxRecDepth 100000 in
theorem ct_X12_kindOf (T : Nat → ClassId) (w : Int) (z : Int) (hw : -9223372036854775808 ≤ w ∧ w ≤ 9223372036854775807) (hz : -2147483648 ≤ z ∧ z ≤ 2147483647) : CtI T yX12_kindOf wsX12_kindOf rmX12_kindOf 0 0 [.long (lI w), .int (iI z)] [] (fun r8 u => r8 = (iI (kdR w z)) ∧ u = []) := by
  refine ctI_of (cc := cX12_kindOf) (maxL := 3) (ret := (some .int)) (by decide +kernel) rfl rfl (fun r u hp => by obtain ⟨rfl, -⟩ := hp; rfl) (Nat.le_of_ble_eq_true rfl) (fun X h hinit hr => ?_)
  refine j_eq (lv' := [(0, .long (lI w)), (2, .int (iI z))]) rfl rfl rfl rfl rfl rfl ?_
  refine j_iload_n h dX12_kindOf_0 1 rfl rfl ?_
  refine j_bipush h dX12_kindOf_1 (by decide) ?_
  refine j_icmp_le h 8 dX12_kindOf_3 (by decide) (by omega) (by omega) (fun c1 => ?_) (fun c1 => ?_)
  · skip
    refine j_lload_n h dX12_kindOf_8 0 rfl rfl ?_
    refine j_bipush h dX12_kindOf_9 (by decide) ?_
    refine j_bipush h dX12_kindOf_11 (by decide) ?_
    refine j_bipush h dX12_kindOf_13 (by decide) ?_
    refine j_callSl (As := [.int (iI 108), .int (iI 97), .int (iI 121)]) (wr := []) (cells' := 0) (slots' := 0) h dX12_kindOf_15 (ct_X12_three T 108 97 121 (by first | assumption | omega) (by first | assumption | omega) (by first | assumption | omega)) k_X12_three gX12_kindOf_X12_three ⟨Nat.le_of_ble_eq_true rfl, Nat.le_of_ble_eq_true rfl⟩ rfl rfl (Nat.le_of_ble_eq_true rfl) ⟨Nat.le_of_ble_eq_true rfl, Nat.le_of_ble_eq_true rfl⟩ rfl rfl [] [] rfl rfl rfl rfl (by decide) (fun r9 u9 p2 => ?_)
    obtain ⟨rfl, rfl⟩ := p2
    refine j_eq (ws' := []) rfl rfl rfl rfl rfl rfl ?_
    rw [show (27 * (27 * (108 - 96) + 97 - 96) + 121 - 96) = (8800 : Int) by decide]
    refine j_lcmp h dX12_kindOf_18 (by omega) (by omega) ?_
    refine j_if_ne h 26 dX12_kindOf_19 (by decide) (by first | (have := cmpI_rng w 8800; omega) | omega) (fun c3 => ?_) (fun c3 => ?_)
    · skip
      have c3 : ¬ (w = 8800) := fun z9 => by have z8 := cmpI_eq.mpr z9; omega
      refine j_lload_n h dX12_kindOf_26 0 rfl rfl ?_
      refine j_bipush h dX12_kindOf_27 (by decide) ?_
      refine j_bipush h dX12_kindOf_29 (by decide) ?_
      refine j_bipush h dX12_kindOf_31 (by decide) ?_
      refine j_callSl (As := [.int (iI 99), .int (iI 117), .int (iI 116)]) (wr := []) (cells' := 0) (slots' := 0) h dX12_kindOf_33 (ct_X12_three T 99 117 116 (by first | assumption | omega) (by first | assumption | omega) (by first | assumption | omega)) k_X12_three gX12_kindOf_X12_three ⟨Nat.le_of_ble_eq_true rfl, Nat.le_of_ble_eq_true rfl⟩ rfl rfl (Nat.le_of_ble_eq_true rfl) ⟨Nat.le_of_ble_eq_true rfl, Nat.le_of_ble_eq_true rfl⟩ rfl rfl [] [] rfl rfl rfl rfl (by decide) (fun r9 u9 p4 => ?_)
      obtain ⟨rfl, rfl⟩ := p4
      refine j_eq (ws' := []) rfl rfl rfl rfl rfl rfl ?_
      rw [show (27 * (27 * (99 - 96) + 117 - 96) + 116 - 96) = (2774 : Int) by decide]
      refine j_lcmp h dX12_kindOf_36 (by omega) (by omega) ?_
      refine j_if_ne h 44 dX12_kindOf_37 (by decide) (by first | (have := cmpI_rng w 2774; omega) | omega) (fun c5 => ?_) (fun c5 => ?_)
      · skip
        have c5 : ¬ (w = 2774) := fun z9 => by have z8 := cmpI_eq.mpr z9; omega
        refine j_lload_n h dX12_kindOf_44 0 rfl rfl ?_
        refine j_bipush h dX12_kindOf_45 (by decide) ?_
        refine j_bipush h dX12_kindOf_47 (by decide) ?_
        refine j_bipush h dX12_kindOf_49 (by decide) ?_
        refine j_bipush h dX12_kindOf_51 (by decide) ?_
        refine j_iconst h dX12_kindOf_53 ?_
        refine j_iconst h dX12_kindOf_54 ?_
        refine j_callSl (As := [.int (iI 100), .int (iI 111), .int (iI 112), .int (iI 101), .int (iI 0), .int (iI 0)]) (wr := []) (cells' := 0) (slots' := 0) h dX12_kindOf_55 (ct_X12_code T 100 111 112 101 0 0 (by first | assumption | omega) (by first | assumption | omega) (by first | assumption | omega) (by first | assumption | omega) (by first | assumption | omega) (by first | assumption | omega)) k_X12_code gX12_kindOf_X12_code ⟨Nat.le_of_ble_eq_true rfl, Nat.le_of_ble_eq_true rfl⟩ rfl rfl (Nat.le_of_ble_eq_true rfl) ⟨Nat.le_of_ble_eq_true rfl, Nat.le_of_ble_eq_true rfl⟩ rfl rfl [] [] rfl rfl rfl rfl (by decide) (fun r9 u9 p6 => ?_)
        obtain ⟨rfl, rfl⟩ := p6
        refine j_eq (ws' := []) rfl rfl rfl rfl rfl rfl ?_
        rw [show (if (0 : Int) < 0 then 27 * (if (0 : Int) < 0 then 27 * (27 * (27 * (27 * (100 - 96) + 111 - 96) + 112 - 96) + 101 - 96) + 0 - 96 else 27 * (27 * (27 * (100 - 96) + 111 - 96) + 112 - 96) + 101 - 96) + 0 - 96 else (if (0 : Int) < 0 then 27 * (27 * (27 * (27 * (100 - 96) + 111 - 96) + 112 - 96) + 101 - 96) + 0 - 96 else 27 * (27 * (27 * (100 - 96) + 111 - 96) + 112 - 96) + 101 - 96)) = (90104 : Int) by decide]
        refine j_lcmp h dX12_kindOf_58 (by omega) (by omega) ?_
        refine j_if_ne h 66 dX12_kindOf_59 (by decide) (by first | (have := cmpI_rng w 90104; omega) | omega) (fun c7 => ?_) (fun c7 => ?_)
        · skip
          have c7 : ¬ (w = 90104) := fun z9 => by have z8 := cmpI_eq.mpr z9; omega
          refine j_lload_n h dX12_kindOf_66 0 rfl rfl ?_
          refine j_bipush h dX12_kindOf_67 (by decide) ?_
          refine j_bipush h dX12_kindOf_69 (by decide) ?_
          refine j_bipush h dX12_kindOf_71 (by decide) ?_
          refine j_bipush h dX12_kindOf_73 (by decide) ?_
          refine j_iconst h dX12_kindOf_75 ?_
          refine j_iconst h dX12_kindOf_76 ?_
          refine j_callSl (As := [.int (iI 99), .int (iI 111), .int (iI 97), .int (iI 116), .int (iI 0), .int (iI 0)]) (wr := []) (cells' := 0) (slots' := 0) h dX12_kindOf_77 (ct_X12_code T 99 111 97 116 0 0 (by first | assumption | omega) (by first | assumption | omega) (by first | assumption | omega) (by first | assumption | omega) (by first | assumption | omega) (by first | assumption | omega)) k_X12_code gX12_kindOf_X12_code ⟨Nat.le_of_ble_eq_true rfl, Nat.le_of_ble_eq_true rfl⟩ rfl rfl (Nat.le_of_ble_eq_true rfl) ⟨Nat.le_of_ble_eq_true rfl, Nat.le_of_ble_eq_true rfl⟩ rfl rfl [] [] rfl rfl rfl rfl (by decide) (fun r9 u9 p8 => ?_)
          obtain ⟨rfl, rfl⟩ := p8
          refine j_eq (ws' := []) rfl rfl rfl rfl rfl rfl ?_
          rw [show (if (0 : Int) < 0 then 27 * (if (0 : Int) < 0 then 27 * (27 * (27 * (27 * (99 - 96) + 111 - 96) + 97 - 96) + 116 - 96) + 0 - 96 else 27 * (27 * (27 * (99 - 96) + 111 - 96) + 97 - 96) + 116 - 96) + 0 - 96 else (if (0 : Int) < 0 then 27 * (27 * (27 * (27 * (99 - 96) + 111 - 96) + 97 - 96) + 116 - 96) + 0 - 96 else 27 * (27 * (27 * (99 - 96) + 111 - 96) + 97 - 96) + 116 - 96)) = (70031 : Int) by decide]
          refine j_lcmp h dX12_kindOf_80 (by omega) (by omega) ?_
          refine j_if_ne h 88 dX12_kindOf_81 (by decide) (by first | (have := cmpI_rng w 70031; omega) | omega) (fun c9 => ?_) (fun c9 => ?_)
          · skip
            have c9 : ¬ (w = 70031) := fun z9 => by have z8 := cmpI_eq.mpr z9; omega
            refine j_lload_n h dX12_kindOf_88 0 rfl rfl ?_
            refine j_bipush h dX12_kindOf_89 (by decide) ?_
            refine j_bipush h dX12_kindOf_91 (by decide) ?_
            refine j_bipush h dX12_kindOf_93 (by decide) ?_
            refine j_bipush h dX12_kindOf_95 (by decide) ?_
            refine j_iconst h dX12_kindOf_97 ?_
            refine j_iconst h dX12_kindOf_98 ?_
            refine j_callSl (As := [.int (iI 101), .int (iI 116), .int (iI 99), .int (iI 104), .int (iI 0), .int (iI 0)]) (wr := []) (cells' := 0) (slots' := 0) h dX12_kindOf_99 (ct_X12_code T 101 116 99 104 0 0 (by first | assumption | omega) (by first | assumption | omega) (by first | assumption | omega) (by first | assumption | omega) (by first | assumption | omega) (by first | assumption | omega)) k_X12_code gX12_kindOf_X12_code ⟨Nat.le_of_ble_eq_true rfl, Nat.le_of_ble_eq_true rfl⟩ rfl rfl (Nat.le_of_ble_eq_true rfl) ⟨Nat.le_of_ble_eq_true rfl, Nat.le_of_ble_eq_true rfl⟩ rfl rfl [] [] rfl rfl rfl rfl (by decide) (fun r9 u9 p10 => ?_)
            obtain ⟨rfl, rfl⟩ := p10
            refine j_eq (ws' := []) rfl rfl rfl rfl rfl rfl ?_
            rw [show (if (0 : Int) < 0 then 27 * (if (0 : Int) < 0 then 27 * (27 * (27 * (27 * (101 - 96) + 116 - 96) + 99 - 96) + 104 - 96) + 0 - 96 else 27 * (27 * (27 * (101 - 96) + 116 - 96) + 99 - 96) + 104 - 96) + 0 - 96 else (if (0 : Int) < 0 then 27 * (27 * (27 * (27 * (101 - 96) + 116 - 96) + 99 - 96) + 104 - 96) + 0 - 96 else 27 * (27 * (27 * (101 - 96) + 116 - 96) + 99 - 96) + 104 - 96)) = (113084 : Int) by decide]
            refine j_lcmp h dX12_kindOf_102 (by omega) (by omega) ?_
            refine j_if_ne h 110 dX12_kindOf_103 (by decide) (by first | (have := cmpI_rng w 113084; omega) | omega) (fun c11 => ?_) (fun c11 => ?_)
            · skip
              have c11 : ¬ (w = 113084) := fun z9 => by have z8 := cmpI_eq.mpr z9; omega
              refine j_lload_n h dX12_kindOf_110 0 rfl rfl ?_
              refine j_bipush h dX12_kindOf_111 (by decide) ?_
              refine j_bipush h dX12_kindOf_113 (by decide) ?_
              refine j_bipush h dX12_kindOf_115 (by decide) ?_
              refine j_bipush h dX12_kindOf_117 (by decide) ?_
              refine j_iconst h dX12_kindOf_119 ?_
              refine j_iconst h dX12_kindOf_120 ?_
              refine j_callSl (As := [.int (iI 116), .int (iI 117), .int (iI 114), .int (iI 110), .int (iI 0), .int (iI 0)]) (wr := []) (cells' := 0) (slots' := 0) h dX12_kindOf_121 (ct_X12_code T 116 117 114 110 0 0 (by first | assumption | omega) (by first | assumption | omega) (by first | assumption | omega) (by first | assumption | omega) (by first | assumption | omega) (by first | assumption | omega)) k_X12_code gX12_kindOf_X12_code ⟨Nat.le_of_ble_eq_true rfl, Nat.le_of_ble_eq_true rfl⟩ rfl rfl (Nat.le_of_ble_eq_true rfl) ⟨Nat.le_of_ble_eq_true rfl, Nat.le_of_ble_eq_true rfl⟩ rfl rfl [] [] rfl rfl rfl rfl (by decide) (fun r9 u9 p12 => ?_)
              obtain ⟨rfl, rfl⟩ := p12
              refine j_eq (ws' := []) rfl rfl rfl rfl rfl rfl ?_
              rw [show (if (0 : Int) < 0 then 27 * (if (0 : Int) < 0 then 27 * (27 * (27 * (27 * (116 - 96) + 117 - 96) + 114 - 96) + 110 - 96) + 0 - 96 else 27 * (27 * (27 * (116 - 96) + 117 - 96) + 114 - 96) + 110 - 96) + 0 - 96 else (if (0 : Int) < 0 then 27 * (27 * (27 * (27 * (116 - 96) + 117 - 96) + 114 - 96) + 110 - 96) + 0 - 96 else 27 * (27 * (27 * (116 - 96) + 117 - 96) + 114 - 96) + 110 - 96)) = (409469 : Int) by decide]
              refine j_lcmp h dX12_kindOf_124 (by omega) (by omega) ?_
              refine j_if_ne h 133 dX12_kindOf_125 (by decide) (by first | (have := cmpI_rng w 409469; omega) | omega) (fun c13 => ?_) (fun c13 => ?_)
              · skip
                have c13 : ¬ (w = 409469) := fun z9 => by have z8 := cmpI_eq.mpr z9; omega
                refine j_lload_n h dX12_kindOf_133 0 rfl rfl ?_
                refine j_callSi (As := [.long (lI w)]) (wr := []) (cells' := 0) (slots' := 0) h dX12_kindOf_134 (ct_X12_stepBehind T w (by first | assumption | omega)) k_X12_stepBehind gX12_kindOf_X12_stepBehind ⟨Nat.le_of_ble_eq_true rfl, Nat.le_of_ble_eq_true rfl⟩ rfl rfl (Nat.le_of_ble_eq_true rfl) ⟨Nat.le_of_ble_eq_true rfl, Nat.le_of_ble_eq_true rfl⟩ rfl rfl [] [] rfl rfl rfl rfl (by decide) (fun r9 u9 p14 => ?_)
                obtain ⟨rfl, rfl⟩ := p14
                refine j_eq (ws' := []) rfl rfl rfl rfl rfl rfl ?_
                exact hr _ _ _ _ dX12_kindOf_137 ⟨(congrArg iI (show ((if w = 124995 then 7 else if w = 126893 then 8 else if w = 92275 then 9 else if w = 257132 then 10 else if w = 40586 then 11 else if w = 453836 then 12 else if w = 12391871 then 13 else if w = 261256151 then 14 else 0) : Int) = (kdR w z) by unfold kdR; rw [if_neg (show ¬ 6 < z by omega), if_neg (show ¬ w = 8800 by omega), if_neg (show ¬ w = 2774 by omega), if_neg (show ¬ w = 90104 by omega), if_neg (show ¬ w = 70031 by omega), if_neg (show ¬ w = 113084 by omega), if_neg (show ¬ w = 409469 by omega)])), rfl⟩
              · skip
                have c13 : w = 409469 := by first | exact cmpI_eq.mp c13 | exact cmpI_eq.mp (by omega)
                refine j_bipush h dX12_kindOf_128 (by decide) ?_
                refine j_goto (tgt := 137) h dX12_kindOf_130 (by decide) ?_
                exact hr _ _ _ _ dX12_kindOf_137 ⟨(congrArg iI (show (6 : Int) = (kdR w z) by unfold kdR; (repeat (first | rw [if_pos (by omega)] | rw [if_neg (by omega)])))), rfl⟩
            · skip
              have c11 : w = 113084 := by first | exact cmpI_eq.mp c11 | exact cmpI_eq.mp (by omega)
              refine j_iconst h dX12_kindOf_106 ?_
              refine j_goto (tgt := 137) h dX12_kindOf_107 (by decide) ?_
              exact hr _ _ _ _ dX12_kindOf_137 ⟨(congrArg iI (show (5 : Int) = (kdR w z) by unfold kdR; (repeat (first | rw [if_pos (by omega)] | rw [if_neg (by omega)])))), rfl⟩
          · skip
            have c9 : w = 70031 := by first | exact cmpI_eq.mp c9 | exact cmpI_eq.mp (by omega)
            refine j_iconst h dX12_kindOf_84 ?_
            refine j_goto (tgt := 137) h dX12_kindOf_85 (by decide) ?_
            exact hr _ _ _ _ dX12_kindOf_137 ⟨(congrArg iI (show (4 : Int) = (kdR w z) by unfold kdR; (repeat (first | rw [if_pos (by omega)] | rw [if_neg (by omega)])))), rfl⟩
        · skip
          have c7 : w = 90104 := by first | exact cmpI_eq.mp c7 | exact cmpI_eq.mp (by omega)
          refine j_iconst h dX12_kindOf_62 ?_
          refine j_goto (tgt := 137) h dX12_kindOf_63 (by decide) ?_
          exact hr _ _ _ _ dX12_kindOf_137 ⟨(congrArg iI (show (3 : Int) = (kdR w z) by unfold kdR; (repeat (first | rw [if_pos (by omega)] | rw [if_neg (by omega)])))), rfl⟩
      · skip
        have c5 : w = 2774 := by first | exact cmpI_eq.mp c5 | exact cmpI_eq.mp (by omega)
        refine j_iconst h dX12_kindOf_40 ?_
        refine j_goto (tgt := 137) h dX12_kindOf_41 (by decide) ?_
        exact hr _ _ _ _ dX12_kindOf_137 ⟨(congrArg iI (show (2 : Int) = (kdR w z) by unfold kdR; (repeat (first | rw [if_pos (by omega)] | rw [if_neg (by omega)])))), rfl⟩
    · skip
      have c3 : w = 8800 := by first | exact cmpI_eq.mp c3 | exact cmpI_eq.mp (by omega)
      refine j_iconst h dX12_kindOf_22 ?_
      refine j_goto (tgt := 137) h dX12_kindOf_23 (by decide) ?_
      exact hr _ _ _ _ dX12_kindOf_137 ⟨(congrArg iI (show (1 : Int) = (kdR w z) by unfold kdR; (repeat (first | rw [if_pos (by omega)] | rw [if_neg (by omega)])))), rfl⟩
  · skip
    refine j_iconst h dX12_kindOf_6 ?_
    exact hr _ _ _ _ dX12_kindOf_7 ⟨(congrArg iI (show (0 : Int) = (kdR w z) by unfold kdR; (repeat (first | rw [if_pos (by omega)] | rw [if_neg (by omega)])))), rfl⟩

