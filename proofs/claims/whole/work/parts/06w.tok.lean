abbrev rmX9_isBlank : Room := { frames := 0, cells := 0, slots := 0, locals := 0 }
set_option maxHeartbeats 600000 in
set_option maxRecDepth 100000 in
theorem ct_X9_isBlank (T : Nat → ClassId) (v : Int) (hv : -2147483648 ≤ v ∧ v ≤ 2147483647) : CtI T yX9_isBlank wsX9_isBlank rmX9_isBlank 0 0 [.int (iI v)] [] (fun r8 u => r8 = (iI (bI (blk v))) ∧ u = []) := by
  refine ctI_of (cc := cX9_isBlank) (maxL := 1) (ret := (some .boolean)) (by decide +kernel) rfl rfl (fun r u hp => by obtain ⟨rfl, -⟩ := hp; exact nz_bool _) (Nat.le_of_ble_eq_true rfl) (fun X h hinit hr => ?_)
  refine j_eq (lv' := [(0, .int (iI v))]) rfl rfl rfl rfl rfl rfl ?_
  refine j_iload_n h dX9_isBlank_0 0 rfl rfl ?_
  refine j_bipush h dX9_isBlank_1 (by decide) ?_
  refine j_icmp_eq h 12 dX9_isBlank_3 (by decide) (by omega) (by omega) (fun c1 => ?_) (fun c1 => ?_)
  · skip
    refine j_iconst h dX9_isBlank_12 ?_
    refine j_goto (tgt := 17) h dX9_isBlank_13 (by decide) ?_
    exact hr _ _ _ _ dX9_isBlank_17 ⟨(congrArg (fun b9 => iI (bI b9)) (show true = (blk v) by unfold blk; symm; simp; omega)), rfl⟩
  · skip
    refine j_iload_n h dX9_isBlank_6 0 rfl rfl ?_
    refine j_bipush h dX9_isBlank_7 (by decide) ?_
    refine j_icmp_ne h 16 dX9_isBlank_9 (by decide) (by omega) (by omega) (fun c2 => ?_) (fun c2 => ?_)
    · skip
      refine j_iconst h dX9_isBlank_16 ?_
      exact hr _ _ _ _ dX9_isBlank_17 ⟨(congrArg (fun b9 => iI (bI b9)) (show false = (blk v) by unfold blk; symm; simp; omega)), rfl⟩
    · skip
      refine j_iconst h dX9_isBlank_12 ?_
      refine j_goto (tgt := 17) h dX9_isBlank_13 (by decide) ?_
      exact hr _ _ _ _ dX9_isBlank_17 ⟨(congrArg (fun b9 => iI (bI b9)) (show true = (blk v) by unfold blk; symm; simp; omega)), rfl⟩

abbrev rmX9_kindOf : Room := { frames := 1, cells := 0, slots := 0, locals := 22 }
set_option maxHeartbeats 600000 in
set_option maxRecDepth 100000 in
theorem ct_X9_kindOf (T : Nat → ClassId) (v : Int) (hv : -2147483648 ≤ v ∧ v ≤ 2147483647) : CtI T yX9_kindOf wsX9_kindOf rmX9_kindOf 0 0 [.int (iI v)] [] (fun r8 u => r8 = (iI (kdT v)) ∧ u = []) := by
  refine ctI_of (cc := cX9_kindOf) (maxL := 1) (ret := (some .int)) (by decide +kernel) rfl rfl (fun r u hp => by obtain ⟨rfl, -⟩ := hp; rfl) (Nat.le_of_ble_eq_true rfl) (fun X h hinit hr => ?_)
  refine j_eq (lv' := [(0, .int (iI v))]) rfl rfl rfl rfl rfl rfl ?_
  refine j_iload_n h dX9_kindOf_0 0 rfl rfl ?_
  refine j_bipush h dX9_kindOf_1 (by decide) ?_
  refine j_bipush h dX9_kindOf_3 (by decide) ?_
  refine j_callSNi (As := [.int (iI v), .int (iI 97), .int (iI 122)]) (wr := []) (cells' := 0) (slots' := 0) h dX9_kindOf_5 (ct_X11_within T v 97 122 (by first | assumption | omega) (by first | assumption | omega) (by first | assumption | omega)) k_X11_within gX9_kindOf_X11_within_n69 (List.mem_of_getElem? (i := 14) rfl) (List.mem_of_getElem? (i := 2) rfl) (List.mem_of_getElem? (i := 1) rfl) ⟨Nat.le_of_ble_eq_true rfl, Nat.le_of_ble_eq_true rfl⟩ rfl rfl (Nat.le_of_ble_eq_true rfl) ⟨Nat.le_of_ble_eq_true rfl, Nat.le_of_ble_eq_true rfl⟩ rfl rfl [] [] rfl rfl rfl rfl (by decide) (fun r9 u9 p1 => ?_)
  obtain ⟨rfl, rfl⟩ := p1
  refine j_eq (ws' := []) rfl rfl rfl rfl rfl rfl ?_
  refine j_ifeqB h 13 dX9_kindOf_8 (by decide) (fun c2 => ?_) (fun c2 => ?_)
  · skip
    replace c2 := of_decide_eq_false c2
    refine j_iload_n h dX9_kindOf_13 0 rfl rfl ?_
    refine j_bipush h dX9_kindOf_14 (by decide) ?_
    refine j_bipush h dX9_kindOf_16 (by decide) ?_
    refine j_callSNi (As := [.int (iI v), .int (iI 48), .int (iI 57)]) (wr := []) (cells' := 0) (slots' := 0) h dX9_kindOf_18 (ct_X11_within T v 48 57 (by first | assumption | omega) (by first | assumption | omega) (by first | assumption | omega)) k_X11_within gX9_kindOf_X11_within_n69 (List.mem_of_getElem? (i := 14) rfl) (List.mem_of_getElem? (i := 2) rfl) (List.mem_of_getElem? (i := 1) rfl) ⟨Nat.le_of_ble_eq_true rfl, Nat.le_of_ble_eq_true rfl⟩ rfl rfl (Nat.le_of_ble_eq_true rfl) ⟨Nat.le_of_ble_eq_true rfl, Nat.le_of_ble_eq_true rfl⟩ rfl rfl [] [] rfl rfl rfl rfl (by decide) (fun r9 u9 p3 => ?_)
    obtain ⟨rfl, rfl⟩ := p3
    refine j_eq (ws' := []) rfl rfl rfl rfl rfl rfl ?_
    refine j_ifeqB h 28 dX9_kindOf_21 (by decide) (fun c4 => ?_) (fun c4 => ?_)
    · skip
      replace c4 := of_decide_eq_false c4
      refine j_iconst h dX9_kindOf_28 ?_
      exact hr _ _ _ _ dX9_kindOf_29 ⟨(congrArg iI (show (3 : Int) = (kdT v) by unfold kdT; (repeat (first | rw [if_pos (by omega)] | rw [if_neg (by omega)])))), rfl⟩
    · skip
      replace c4 := of_decide_eq_true c4
      refine j_iconst h dX9_kindOf_24 ?_
      refine j_goto (tgt := 29) h dX9_kindOf_25 (by decide) ?_
      exact hr _ _ _ _ dX9_kindOf_29 ⟨(congrArg iI (show (2 : Int) = (kdT v) by unfold kdT; (repeat (first | rw [if_pos (by omega)] | rw [if_neg (by omega)])))), rfl⟩
  · skip
    replace c2 := of_decide_eq_true c2
    refine j_iconst h dX9_kindOf_11 ?_
    exact hr _ _ _ _ dX9_kindOf_12 ⟨(congrArg iI (show (1 : Int) = (kdT v) by unfold kdT; (repeat (first | rw [if_pos (by omega)] | rw [if_neg (by omega)])))), rfl⟩

abbrev rmX9_stuffOf : Room := { frames := 0, cells := 0, slots := 0, locals := 0 }
set_option maxHeartbeats 600000 in
set_option maxRecDepth 100000 in
theorem ct_X9_stuffOf (T : Nat → ClassId) (v : Int) (hv : -2147483648 ≤ v ∧ v ≤ 2147483647) : CtI T yX9_stuffOf wsX9_stuffOf rmX9_stuffOf 0 0 [.int (iI v)] [] (fun r8 u => r8 = (iI (sfT v)) ∧ u = []) := by
  refine ctI_of (cc := cX9_stuffOf) (maxL := 1) (ret := (some .int)) (by decide +kernel) rfl rfl (fun r u hp => by obtain ⟨rfl, -⟩ := hp; rfl) (Nat.le_of_ble_eq_true rfl) (fun X h hinit hr => ?_)
  refine j_eq (lv' := [(0, .int (iI v))]) rfl rfl rfl rfl rfl rfl ?_
  refine j_iload_n h dX9_stuffOf_0 0 rfl rfl ?_
  refine j_bipush h dX9_stuffOf_1 (by decide) ?_
  refine j_icmp_lt h 21 dX9_stuffOf_3 (by decide) (by omega) (by omega) (fun c1 => ?_) (fun c1 => ?_)
  · skip
    refine j_iconst h dX9_stuffOf_21 ?_
    exact hr _ _ _ _ dX9_stuffOf_22 ⟨(congrArg iI (show (-1 : Int) = (sfT v) by unfold sfT; (first | rw [if_pos (by omega)] | rw [if_neg (by omega)]) <;> omega)), rfl⟩
  · skip
    refine j_iload_n h dX9_stuffOf_6 0 rfl rfl ?_
    refine j_bipush h dX9_stuffOf_7 (by decide) ?_
    refine j_icmp_gt h 21 dX9_stuffOf_9 (by decide) (by omega) (by omega) (fun c2 => ?_) (fun c2 => ?_)
    · skip
      refine j_iconst h dX9_stuffOf_21 ?_
      exact hr _ _ _ _ dX9_stuffOf_22 ⟨(congrArg iI (show (-1 : Int) = (sfT v) by unfold sfT; (first | rw [if_pos (by omega)] | rw [if_neg (by omega)]) <;> omega)), rfl⟩
    · skip
      refine j_iload_n h dX9_stuffOf_12 0 rfl rfl ?_
      refine j_bipush h dX9_stuffOf_13 (by decide) ?_
      refine j_isub h dX9_stuffOf_15 ?_
      refine j_iconst h dX9_stuffOf_16 ?_
      refine j_iadd h dX9_stuffOf_17 ?_
      refine j_goto (tgt := 22) h dX9_stuffOf_18 (by decide) ?_
      exact hr _ _ _ _ dX9_stuffOf_22 ⟨(congrArg iI (show (((v - 97) + 1) : Int) = (sfT v) by unfold sfT; (first | rw [if_pos (by omega)] | rw [if_neg (by omega)]) <;> omega)), rfl⟩

abbrev rmX5_faultUnless : Room := { frames := 0, cells := 0, slots := 0, locals := 0 }
set_option maxHeartbeats 600000 in
set_option maxRecDepth 100000 in
theorem ct_X5_faultUnless (T : Nat → ClassId) (b : Bool)  : CtI T yX5_faultUnless wsX5_faultUnless rmX5_faultUnless 0 0 [.int (iI (bI b))] [] (fun r8 u => r8 = (iI (1 - bI b)) ∧ u = []) := by
  refine ctI_of (cc := cX5_faultUnless) (maxL := 1) (ret := (some .int)) (by decide +kernel) rfl rfl (fun r u hp => by obtain ⟨rfl, -⟩ := hp; rfl) (Nat.le_of_ble_eq_true rfl) (fun X h hinit hr => ?_)
  refine j_eq (lv' := [(0, .int (iI (bI b)))]) rfl rfl rfl rfl rfl rfl ?_
  refine j_iload_n h dX5_faultUnless_0 0 rfl rfl ?_
  refine j_ifeqB h 8 dX5_faultUnless_1 (by decide) (fun c1 => ?_) (fun c1 => ?_)
  · skip
    refine j_iconst h dX5_faultUnless_8 ?_
    exact hr _ _ _ _ dX5_faultUnless_9 ⟨(congrArg iI (show (1 : Int) = (1 - bI b) by rw [c1]; rfl)), rfl⟩
  · skip
    refine j_iconst h dX5_faultUnless_4 ?_
    refine j_goto (tgt := 9) h dX5_faultUnless_5 (by decide) ?_
    exact hr _ _ _ _ dX5_faultUnless_9 ⟨(congrArg iI (show (0 : Int) = (1 - bI b) by rw [c1]; rfl)), rfl⟩

abbrev rmX9_isAtEnd : Room := { frames := 0, cells := 0, slots := 0, locals := 0 }
theorem in_X9_isAtEnd_X9 : ∀ w ∈ u_ws RX9 TX9 4, w ∈ wsX9_isAtEnd := fun w hw => List.mem_cons_of_mem _ (List.mem_append_right _ (hw))
theorem f_X9_isAtEnd_11 : FlOK RX9 11 wsX9_isAtEnd 9 1 := ⟨_, _, _, rfl, by decide, in_X9_isAtEnd_X9, List.mem_of_getElem? (i := 1) rfl⟩
set_option maxHeartbeats 600000 in
set_option maxRecDepth 100000 in
theorem ct_X9_isAtEnd (T : Nat → ClassId) (h9 : Nat) (h8 : Nat) (b0 : Nat) (L : Int) (Tb : Int → Int) (k : Int) (f : Int) (e : Int) (hk : 0 ≤ k ∧ k ≤ 3) (hf : 0 ≤ f ∧ f ≤ e ∧ e ≤ L) (hk0 : (¬ k = 0 → f < e)) : CtI T yX9_isAtEnd wsX9_isAtEnd rmX9_isAtEnd 0 0 [.ref h9] [(h9, .inr (9, [.ref h8, .int (iI k), .int (iI f), .int (iI e)])), (h8, .inr (8, [.ref b0, .int (iI L)])), (b0, .inl (T 0, 600, .inl (fun j : Nat => iI (Tb j))))] (fun r8 u => r8 = (iI (bI (decide (k = 0)))) ∧ u = [(h9, .inr (9, [.ref h8, .int (iI k), .int (iI f), .int (iI e)])), (h8, .inr (8, [.ref b0, .int (iI L)])), (b0, .inl (T 0, 600, .inl (fun j : Nat => iI (Tb j))))]) := by
  refine ctI_of (cc := cX9_isAtEnd) (maxL := 1) (ret := (some .boolean)) (by decide +kernel) rfl rfl (fun r u hp => by obtain ⟨rfl, -⟩ := hp; exact nz_bool _) (Nat.le_of_ble_eq_true rfl) (fun X h hinit hr => ?_)
  refine j_eq (lv' := [(0, .ref h9)]) rfl rfl rfl rfl rfl rfl ?_
  refine j_aload_n h dX9_isAtEnd_0 0 rfl rfl ?_
  refine j_get h dX9_isAtEnd_1 f_X9_isAtEnd_11 0 rfl rfl ?_
  refine j_if_ne h 11 dX9_isAtEnd_4 (by decide) (by omega) (fun c1 => ?_) (fun c1 => ?_)
  · skip
    refine j_iconst h dX9_isAtEnd_11 ?_
    exact hr _ _ _ _ dX9_isAtEnd_12 ⟨(congrArg (fun b9 => iI (bI b9)) (show false = (decide (k = 0)) by symm; simp; omega)), rfl⟩
  · skip
    refine j_iconst h dX9_isAtEnd_7 ?_
    refine j_goto (tgt := 12) h dX9_isAtEnd_8 (by decide) ?_
    exact hr _ _ _ _ dX9_isAtEnd_12 ⟨(congrArg (fun b9 => iI (bI b9)) (show true = (decide (k = 0)) by symm; simp; omega)), rfl⟩

abbrev rmX9_isNumber : Room := { frames := 0, cells := 0, slots := 0, locals := 0 }
theorem in_X9_isNumber_X9 : ∀ w ∈ u_ws RX9 TX9 4, w ∈ wsX9_isNumber := fun w hw => List.mem_cons_of_mem _ (List.mem_append_right _ (hw))
theorem f_X9_isNumber_11 : FlOK RX9 11 wsX9_isNumber 9 1 := ⟨_, _, _, rfl, by decide, in_X9_isNumber_X9, List.mem_of_getElem? (i := 1) rfl⟩
set_option maxHeartbeats 600000 in
set_option maxRecDepth 100000 in
theorem ct_X9_isNumber (T : Nat → ClassId) (h9 : Nat) (h8 : Nat) (b0 : Nat) (L : Int) (Tb : Int → Int) (k : Int) (f : Int) (e : Int) (hk : 0 ≤ k ∧ k ≤ 3) (hf : 0 ≤ f ∧ f ≤ e ∧ e ≤ L) (hk0 : (¬ k = 0 → f < e)) : CtI T yX9_isNumber wsX9_isNumber rmX9_isNumber 0 0 [.ref h9] [(h9, .inr (9, [.ref h8, .int (iI k), .int (iI f), .int (iI e)])), (h8, .inr (8, [.ref b0, .int (iI L)])), (b0, .inl (T 0, 600, .inl (fun j : Nat => iI (Tb j))))] (fun r8 u => r8 = (iI (bI (decide (k = 2)))) ∧ u = [(h9, .inr (9, [.ref h8, .int (iI k), .int (iI f), .int (iI e)])), (h8, .inr (8, [.ref b0, .int (iI L)])), (b0, .inl (T 0, 600, .inl (fun j : Nat => iI (Tb j))))]) := by
  refine ctI_of (cc := cX9_isNumber) (maxL := 1) (ret := (some .boolean)) (by decide +kernel) rfl rfl (fun r u hp => by obtain ⟨rfl, -⟩ := hp; exact nz_bool _) (Nat.le_of_ble_eq_true rfl) (fun X h hinit hr => ?_)
  refine j_eq (lv' := [(0, .ref h9)]) rfl rfl rfl rfl rfl rfl ?_
  refine j_aload_n h dX9_isNumber_0 0 rfl rfl ?_
  refine j_get h dX9_isNumber_1 f_X9_isNumber_11 0 rfl rfl ?_
  refine j_iconst h dX9_isNumber_4 ?_
  refine j_icmp_ne h 12 dX9_isNumber_5 (by decide) (by omega) (by omega) (fun c1 => ?_) (fun c1 => ?_)
  · skip
    refine j_iconst h dX9_isNumber_12 ?_
    exact hr _ _ _ _ dX9_isNumber_13 ⟨(congrArg (fun b9 => iI (bI b9)) (show false = (decide (k = 2)) by symm; simp; omega)), rfl⟩
  · skip
    refine j_iconst h dX9_isNumber_8 ?_
    refine j_goto (tgt := 13) h dX9_isNumber_9 (by decide) ?_
    exact hr _ _ _ _ dX9_isNumber_13 ⟨(congrArg (fun b9 => iI (bI b9)) (show true = (decide (k = 2)) by symm; simp; omega)), rfl⟩

abbrev rmX9_isSign : Room := { frames := 0, cells := 0, slots := 0, locals := 0 }
theorem in_X9_isSign_X9 : ∀ w ∈ u_ws RX9 TX9 4, w ∈ wsX9_isSign := fun w hw => List.mem_cons_of_mem _ (List.mem_append_left _ (List.mem_append_right _ (hw)))
theorem f_X9_isSign_11 : FlOK RX9 11 wsX9_isSign 9 1 := ⟨_, _, _, rfl, by decide, in_X9_isSign_X9, List.mem_of_getElem? (i := 1) rfl⟩
theorem f_X9_isSign_21 : FlOK RX9 21 wsX9_isSign 9 0 := ⟨_, _, _, rfl, by decide, in_X9_isSign_X9, List.mem_of_getElem? (i := 2) rfl⟩
theorem in_X9_isSign_X8 : ∀ w ∈ u_ws RX8 TX8 2, w ∈ wsX9_isSign := fun w hw => List.mem_cons_of_mem _ (List.mem_append_right _ (hw))
theorem f_X9_isSign_33 : FnOK RX9 33 wsX9_isSign 8 0 := ⟨_, _, _, "LayerShop", rfl, by decide, in_X9_isSign_X8, List.mem_of_getElem? (i := 34) rfl⟩
theorem f_X9_isSign_15 : FlOK RX9 15 wsX9_isSign 9 2 := ⟨_, _, _, rfl, by decide, in_X9_isSign_X9, List.mem_of_getElem? (i := 3) rfl⟩
set_option maxHeartbeats 600000 in
set_option maxRecDepth 100000 in
theorem ct_X9_isSign (T : Nat → ClassId) (h9 : Nat) (h8 : Nat) (b0 : Nat) (L : Int) (Tb : Int → Int) (k : Int) (f : Int) (e : Int) (v : Int) (hT : TOK Tb) (hL : 0 ≤ L ∧ L ≤ 600) (hk : 0 ≤ k ∧ k ≤ 3) (hf : 0 ≤ f ∧ f ≤ e ∧ e ≤ L) (hk0 : (¬ k = 0 → f < e)) (hv : -2147483648 ≤ v ∧ v ≤ 2147483647) : CtI T yX9_isSign wsX9_isSign rmX9_isSign 0 0 [.ref h9, .int (iI v)] [(h9, .inr (9, [.ref h8, .int (iI k), .int (iI f), .int (iI e)])), (h8, .inr (8, [.ref b0, .int (iI L)])), (b0, .inl (T 0, 600, .inl (fun j : Nat => iI (Tb j))))] (fun r8 u => r8 = (iI (bI (decide (k = 3 ∧ Tb f = v)))) ∧ u = [(h9, .inr (9, [.ref h8, .int (iI k), .int (iI f), .int (iI e)])), (h8, .inr (8, [.ref b0, .int (iI L)])), (b0, .inl (T 0, 600, .inl (fun j : Nat => iI (Tb j))))]) := by
  refine ctI_of (cc := cX9_isSign) (maxL := 2) (ret := (some .boolean)) (by decide +kernel) rfl rfl (fun r u hp => by obtain ⟨rfl, -⟩ := hp; exact nz_bool _) (Nat.le_of_ble_eq_true rfl) (fun X h hinit hr => ?_)
  refine j_eq (lv' := [(0, .ref h9), (1, .int (iI v))]) rfl rfl rfl rfl rfl rfl ?_
  refine j_aload_n h dX9_isSign_0 0 rfl rfl ?_
  refine j_get h dX9_isSign_1 f_X9_isSign_11 0 rfl rfl ?_
  refine j_iconst h dX9_isSign_4 ?_
  refine j_icmp_ne h 28 dX9_isSign_5 (by decide) (by omega) (by omega) (fun c1 => ?_) (fun c1 => ?_)
  · skip
    refine j_iconst h dX9_isSign_28 ?_
    exact hr _ _ _ _ dX9_isSign_29 ⟨(congrArg (fun b9 => iI (bI b9)) (show false = (decide (k = 3 ∧ Tb f = v)) by symm; simp; omega)), rfl⟩
  · skip
    refine j_aload_n h dX9_isSign_8 0 rfl rfl ?_
    refine j_get h dX9_isSign_9 f_X9_isSign_21 0 rfl rfl ?_
    refine j_getN h dX9_isSign_12 f_X9_isSign_33 1 rfl rfl ?_
    refine j_aload_n h dX9_isSign_15 0 rfl rfl ?_
    refine j_get h dX9_isSign_16 f_X9_isSign_15 0 rfl rfl ?_
    refine j_iald (f := Tb) h f dX9_isSign_19 2 rfl (by decide) (by omega) (by omega) ?_
    have e2 := hT f
    refine j_iload_n h dX9_isSign_20 1 rfl rfl ?_
    refine j_icmp_ne h 28 dX9_isSign_21 (by decide) (by omega) (by omega) (fun c3 => ?_) (fun c3 => ?_)
    · skip
      refine j_iconst h dX9_isSign_28 ?_
      exact hr _ _ _ _ dX9_isSign_29 ⟨(congrArg (fun b9 => iI (bI b9)) (show false = (decide (k = 3 ∧ Tb f = v)) by symm; simp; omega)), rfl⟩
    · skip
      refine j_iconst h dX9_isSign_24 ?_
      refine j_goto (tgt := 29) h dX9_isSign_25 (by decide) ?_
      exact hr _ _ _ _ dX9_isSign_29 ⟨(congrArg (fun b9 => iI (bI b9)) (show true = (decide (k = 3 ∧ Tb f = v)) by symm; simp; omega)), rfl⟩

abbrev rmX9_stuff : Room := { frames := 1, cells := 0, slots := 0, locals := 20 }
theorem in_X9_stuff_X9 : ∀ w ∈ u_ws RX9 TX9 4, w ∈ wsX9_stuff := fun w hw => List.mem_cons_of_mem _ (List.mem_append_left _ (List.mem_append_right _ (hw)))
theorem f_X9_stuff_11 : FlOK RX9 11 wsX9_stuff 9 1 := ⟨_, _, _, rfl, by decide, in_X9_stuff_X9, List.mem_of_getElem? (i := 1) rfl⟩
theorem f_X9_stuff_18 : FlOK RX9 18 wsX9_stuff 9 3 := ⟨_, _, _, rfl, by decide, in_X9_stuff_X9, List.mem_of_getElem? (i := 2) rfl⟩
theorem f_X9_stuff_15 : FlOK RX9 15 wsX9_stuff 9 2 := ⟨_, _, _, rfl, by decide, in_X9_stuff_X9, List.mem_of_getElem? (i := 3) rfl⟩
theorem f_X9_stuff_21 : FlOK RX9 21 wsX9_stuff 9 0 := ⟨_, _, _, rfl, by decide, in_X9_stuff_X9, List.mem_of_getElem? (i := 4) rfl⟩
theorem in_X9_stuff_X8 : ∀ w ∈ u_ws RX8 TX8 2, w ∈ wsX9_stuff := fun w hw => List.mem_cons_of_mem _ (List.mem_append_right _ (hw))
theorem f_X9_stuff_33 : FnOK RX9 33 wsX9_stuff 8 0 := ⟨_, _, _, "LayerShop", rfl, by decide, in_X9_stuff_X8, List.mem_of_getElem? (i := 34) rfl⟩
theorem k_X9_stuffOf : CkOK yX9_stuffOf wsX9_stuffOf rmX9_stuffOf 0 0 cX9_stuffOf 1 (some .int) 1 := ⟨⟨_, rfl⟩, rfl, rfl, by decide +kernel⟩
set_option maxHeartbeats 600000 in
set_option maxRecDepth 100000 in
theorem ct_X9_stuff (T : Nat → ClassId) (h9 : Nat) (h8 : Nat) (b0 : Nat) (L : Int) (Tb : Int → Int) (k : Int) (f : Int) (e : Int) (hT : TOK Tb) (hL : 0 ≤ L ∧ L ≤ 600) (hk : 0 ≤ k ∧ k ≤ 3) (hf : 0 ≤ f ∧ f ≤ e ∧ e ≤ L) (hk0 : (¬ k = 0 → f < e)) : CtI T yX9_stuff wsX9_stuff rmX9_stuff 0 0 [.ref h9] [(h9, .inr (9, [.ref h8, .int (iI k), .int (iI f), .int (iI e)])), (h8, .inr (8, [.ref b0, .int (iI L)])), (b0, .inl (T 0, 600, .inl (fun j : Nat => iI (Tb j))))] (fun r8 u => r8 = (iI (stfS Tb k f e)) ∧ u = [(h9, .inr (9, [.ref h8, .int (iI k), .int (iI f), .int (iI e)])), (h8, .inr (8, [.ref b0, .int (iI L)])), (b0, .inl (T 0, 600, .inl (fun j : Nat => iI (Tb j))))]) := by
  refine ctI_of (cc := cX9_stuff) (maxL := 1) (ret := (some .int)) (by decide +kernel) rfl rfl (fun r u hp => by obtain ⟨rfl, -⟩ := hp; rfl) (Nat.le_of_ble_eq_true rfl) (fun X h hinit hr => ?_)
  refine j_eq (lv' := [(0, .ref h9)]) rfl rfl rfl rfl rfl rfl ?_
  refine j_aload_n h dX9_stuff_0 0 rfl rfl ?_
  refine j_get h dX9_stuff_1 f_X9_stuff_11 0 rfl rfl ?_
  refine j_iconst h dX9_stuff_4 ?_
  refine j_icmp_ne h 21 dX9_stuff_5 (by decide) (by omega) (by omega) (fun c1 => ?_) (fun c1 => ?_)
  · skip
    refine j_iconst h dX9_stuff_21 ?_
    exact hr _ _ _ _ dX9_stuff_22 ⟨(congrArg iI (show (-1 : Int) = (stfS Tb k f e) by unfold stfS; first | rw [if_pos (by omega)] | rw [if_neg (by omega)])), rfl⟩
  · skip
    refine j_aload_n h dX9_stuff_8 0 rfl rfl ?_
    refine j_get h dX9_stuff_9 f_X9_stuff_18 0 rfl rfl ?_
    refine j_aload_n h dX9_stuff_12 0 rfl rfl ?_
    refine j_get h dX9_stuff_13 f_X9_stuff_15 0 rfl rfl ?_
    refine j_isub h dX9_stuff_16 ?_
    refine j_iconst h dX9_stuff_17 ?_
    refine j_icmp_eq h 23 dX9_stuff_18 (by decide) (by omega) (by omega) (fun c2 => ?_) (fun c2 => ?_)
    · skip
      refine j_aload_n h dX9_stuff_23 0 rfl rfl ?_
      refine j_get h dX9_stuff_24 f_X9_stuff_21 0 rfl rfl ?_
      refine j_getN h dX9_stuff_27 f_X9_stuff_33 1 rfl rfl ?_
      refine j_aload_n h dX9_stuff_30 0 rfl rfl ?_
      refine j_get h dX9_stuff_31 f_X9_stuff_15 0 rfl rfl ?_
      refine j_iald (f := Tb) h f dX9_stuff_34 2 rfl (by decide) (by omega) (by omega) ?_
      have e3 := hT f
      refine j_callSi (As := [.int (iI (Tb f))]) (wr := [(h9, .inr (9, [.ref h8, .int (iI k), .int (iI f), .int (iI e)])), (h8, .inr (8, [.ref b0, .int (iI L)])), (b0, .inl (T 0, 600, .inl (fun j : Nat => iI (Tb j))))]) (cells' := 0) (slots' := 0) h dX9_stuff_35 (ct_X9_stuffOf T (Tb f) (by first | assumption | omega)) k_X9_stuffOf gX9_stuff_X9_stuffOf ⟨Nat.le_of_ble_eq_true rfl, Nat.le_of_ble_eq_true rfl⟩ rfl rfl (Nat.le_of_ble_eq_true rfl) ⟨Nat.le_of_ble_eq_true rfl, Nat.le_of_ble_eq_true rfl⟩ rfl rfl [] [0, 1, 2] rfl rfl rfl rfl (by decide) (fun r9 u9 p4 => ?_)
      obtain ⟨rfl, rfl⟩ := p4
      have hsf9 := sfT_rng (Tb f)
      refine j_eq (ws' := [(h9, .inr (9, [.ref h8, .int (iI k), .int (iI f), .int (iI e)])), (h8, .inr (8, [.ref b0, .int (iI L)])), (b0, .inl (T 0, 600, .inl (fun j : Nat => iI (Tb j))))]) rfl rfl rfl rfl rfl rfl ?_
      exact hr _ _ _ _ dX9_stuff_38 ⟨(congrArg iI (show ((sfT (Tb f)) : Int) = (stfS Tb k f e) by unfold stfS; first | rw [if_pos (by omega)] | rw [if_neg (by omega)])), rfl⟩
    · skip
      refine j_iconst h dX9_stuff_21 ?_
      exact hr _ _ _ _ dX9_stuff_22 ⟨(congrArg iI (show (-1 : Int) = (stfS Tb k f e) by unfold stfS; first | rw [if_pos (by omega)] | rw [if_neg (by omega)])), rfl⟩

abbrev rmX9_stuffs : Room := { frames := 1, cells := 0, slots := 0, locals := 21 }
theorem in_X9_stuffs_X9 : ∀ w ∈ u_ws RX9 TX9 4, w ∈ wsX9_stuffs := fun w hw => List.mem_cons_of_mem _ (List.mem_append_left _ (List.mem_append_right _ (hw)))
theorem f_X9_stuffs_11 : FlOK RX9 11 wsX9_stuffs 9 1 := ⟨_, _, _, rfl, by decide, in_X9_stuffs_X9, List.mem_of_getElem? (i := 1) rfl⟩
theorem f_X9_stuffs_15 : FlOK RX9 15 wsX9_stuffs 9 2 := ⟨_, _, _, rfl, by decide, in_X9_stuffs_X9, List.mem_of_getElem? (i := 2) rfl⟩
theorem f_X9_stuffs_18 : FlOK RX9 18 wsX9_stuffs 9 3 := ⟨_, _, _, rfl, by decide, in_X9_stuffs_X9, List.mem_of_getElem? (i := 3) rfl⟩
theorem f_X9_stuffs_21 : FlOK RX9 21 wsX9_stuffs 9 0 := ⟨_, _, _, rfl, by decide, in_X9_stuffs_X9, List.mem_of_getElem? (i := 4) rfl⟩
theorem in_X9_stuffs_X8 : ∀ w ∈ u_ws RX8 TX8 2, w ∈ wsX9_stuffs := fun w hw => List.mem_cons_of_mem _ (List.mem_append_right _ (hw))
theorem f_X9_stuffs_33 : FnOK RX9 33 wsX9_stuffs 8 0 := ⟨_, _, _, "LayerShop", rfl, by decide, in_X9_stuffs_X8, List.mem_of_getElem? (i := 34) rfl⟩
set_option maxHeartbeats 600000 in
set_option maxRecDepth 100000 in
theorem ct_X9_stuffs (T : Nat → ClassId) (h9 : Nat) (h8 : Nat) (b0 : Nat) (L : Int) (Tb : Int → Int) (k : Int) (f : Int) (e : Int) (hT : TOK Tb) (hL : 0 ≤ L ∧ L ≤ 600) (hk : 0 ≤ k ∧ k ≤ 3) (hf : 0 ≤ f ∧ f ≤ e ∧ e ≤ L) (hk0 : (¬ k = 0 → f < e)) : CtI T yX9_stuffs wsX9_stuffs rmX9_stuffs 0 0 [.ref h9] [(h9, .inr (9, [.ref h8, .int (iI k), .int (iI f), .int (iI e)])), (h8, .inr (8, [.ref b0, .int (iI L)])), (b0, .inl (T 0, 600, .inl (fun j : Nat => iI (Tb j))))] (fun r8 u => r8 = (iI (stsS Tb k f e)) ∧ u = [(h9, .inr (9, [.ref h8, .int (iI k), .int (iI f), .int (iI e)])), (h8, .inr (8, [.ref b0, .int (iI L)])), (b0, .inl (T 0, 600, .inl (fun j : Nat => iI (Tb j))))]) := by
  refine ctI_of (cc := cX9_stuffs) (maxL := 4) (ret := (some .int)) (by decide +kernel) rfl rfl (fun r u hp => by obtain ⟨rfl, -⟩ := hp; rfl) (Nat.le_of_ble_eq_true rfl) (fun X h hinit hr => ?_)
  refine j_eq (lv' := [(0, .ref h9)]) rfl rfl rfl rfl rfl rfl ?_
  refine j_aload_n h dX9_stuffs_0 0 rfl rfl ?_
  refine j_get h dX9_stuffs_1 f_X9_stuffs_11 0 rfl rfl ?_
  refine j_iconst h dX9_stuffs_4 ?_
  refine j_icmp_eq h 10 dX9_stuffs_5 (by decide) (by omega) (by omega) (fun c1 => ?_) (fun c1 => ?_)
  · skip
    refine j_iconst h dX9_stuffs_10 ?_
    refine j_istore_n (lv' := [(0, .ref h9), (1, .int (iI 0))]) h dX9_stuffs_11 [1, 0] rfl (by decide) rfl ?_
    refine j_aload_n h dX9_stuffs_12 0 rfl rfl ?_
    refine j_get h dX9_stuffs_13 f_X9_stuffs_15 0 rfl rfl ?_
    refine j_istore_n (lv' := [(0, .ref h9), (1, .int (iI 0)), (2, .int (iI f))]) h dX9_stuffs_16 [1, 2, 0] rfl (by decide) rfl ?_
    have lp17 : ∀ (n17 : Nat) (i : Int) (K : Int) (hi : f ≤ i ∧ i ≤ e) (hK : K = lsI Tb f i) (hK0 : 0 ≤ K ∧ K ≤ 255), ((e - i).toNat) < n17 → J X 0 0 17 [(0, .ref h9), (1, .int (iI K)), (2, .int (iI i))] [] [(h9, .inr (9, [.ref h8, .int (iI k), .int (iI f), .int (iI e)])), (h8, .inr (8, [.ref b0, .int (iI L)])), (b0, .inl (T 0, 600, .inl (fun j : Nat => iI (Tb j))))] := by
      intro n17
      induction n17 with
      | zero => exact fun i K hi hK hK0 hn17 => absurd hn17 (Nat.not_lt_zero _)
      | succ n17 ih17 =>
        intro i K hi hK hK0 hn17
        refine j_iload_n h dX9_stuffs_17 2 rfl rfl ?_
        refine j_aload_n h dX9_stuffs_18 0 rfl rfl ?_
        refine j_get h dX9_stuffs_19 f_X9_stuffs_18 0 rfl rfl ?_
        refine j_icmp_ge h 65 dX9_stuffs_22 (by decide) (by omega) (by omega) (fun c2 => ?_) (fun c2 => ?_)
        · skip
          refine j_iload_n h dX9_stuffs_65 1 rfl rfl ?_
          exact hr _ _ _ _ dX9_stuffs_66 ⟨(congrArg iI (show (K : Int) = (stsS Tb k f e) by unfold stsS; first | rw [if_neg (by omega)] | (rw [if_pos (by omega)]; first | (rw [hK, show i = e by omega]; done) | (symm; refine lsI_bad (z := i + 1) (by omega) (by omega) ?_; rw [lsI_s (by omega), if_pos]; first | exact Or.inr (Or.inl c2) | exact Or.inr (Or.inr (by rw [← hK]; exact c2)))))), rfl⟩
        · skip
          refine j_aload_n h dX9_stuffs_25 0 rfl rfl ?_
          refine j_get h dX9_stuffs_26 f_X9_stuffs_21 0 rfl rfl ?_
          refine j_getN h dX9_stuffs_29 f_X9_stuffs_33 1 rfl rfl ?_
          refine j_iload_n h dX9_stuffs_32 2 rfl rfl ?_
          refine j_iald (f := Tb) h i dX9_stuffs_33 2 rfl (by decide) (by omega) (by omega) ?_
          have e3 := hT i
          refine j_callSi (As := [.int (iI (Tb i))]) (wr := [(h9, .inr (9, [.ref h8, .int (iI k), .int (iI f), .int (iI e)])), (h8, .inr (8, [.ref b0, .int (iI L)])), (b0, .inl (T 0, 600, .inl (fun j : Nat => iI (Tb j))))]) (cells' := 0) (slots' := 0) h dX9_stuffs_34 (ct_X9_stuffOf T (Tb i) (by first | assumption | omega)) k_X9_stuffOf gX9_stuffs_X9_stuffOf ⟨Nat.le_of_ble_eq_true rfl, Nat.le_of_ble_eq_true rfl⟩ rfl rfl (Nat.le_of_ble_eq_true rfl) ⟨Nat.le_of_ble_eq_true rfl, Nat.le_of_ble_eq_true rfl⟩ rfl rfl [] [0, 1, 2] rfl rfl rfl rfl (by decide) (fun r9 u9 p4 => ?_)
          obtain ⟨rfl, rfl⟩ := p4
          have hsf9 := sfT_rng (Tb i)
          refine j_eq (ws' := [(h9, .inr (9, [.ref h8, .int (iI k), .int (iI f), .int (iI e)])), (h8, .inr (8, [.ref b0, .int (iI L)])), (b0, .inl (T 0, 600, .inl (fun j : Nat => iI (Tb j))))]) rfl rfl rfl rfl rfl rfl ?_
          refine j_istore_n (lv' := [(0, .ref h9), (1, .int (iI K)), (2, .int (iI i)), (3, .int (iI (sfT (Tb i))))]) h dX9_stuffs_37 [1, 2, 3, 0] rfl (by decide) rfl ?_
          refine j_iload_n h dX9_stuffs_38 3 rfl rfl ?_
          refine j_iconst h dX9_stuffs_39 ?_
          refine j_icmp_eq h 51 dX9_stuffs_40 (by decide) (by omega) (by omega) (fun c5 => ?_) (fun c5 => ?_)
          · skip
            refine j_iconst h dX9_stuffs_51 ?_
            exact hr _ _ _ _ dX9_stuffs_52 ⟨(congrArg iI (show (-1 : Int) = (stsS Tb k f e) by unfold stsS; first | rw [if_neg (by omega)] | (rw [if_pos (by omega)]; first | (rw [hK, show i = e by omega]; done) | (symm; refine lsI_bad (z := i + 1) (by omega) (by omega) ?_; rw [lsI_s (by omega), if_pos]; first | exact Or.inr (Or.inl c5) | exact Or.inr (Or.inr (by rw [← hK]; exact c5)))))), rfl⟩
          · skip
            refine j_iload_n h dX9_stuffs_43 1 rfl rfl ?_
            refine j_iload_n h dX9_stuffs_44 3 rfl rfl ?_
            refine j_callSNi (As := [.int (iI K), .int (iI (sfT (Tb i)))]) (wr := [(h9, .inr (9, [.ref h8, .int (iI k), .int (iI f), .int (iI e)])), (h8, .inr (8, [.ref b0, .int (iI L)])), (b0, .inl (T 0, 600, .inl (fun j : Nat => iI (Tb j))))]) (cells' := 0) (slots' := 0) h dX9_stuffs_45 (ct_X11_hasKind T K (sfT (Tb i)) (by first | assumption | omega) (by first | assumption | omega)) k_X11_hasKind gX9_stuffs_X11_hasKind_n56 (List.mem_of_getElem? (i := 13) rfl) (List.mem_of_getElem? (i := 10) rfl) (List.mem_of_getElem? (i := 9) rfl) ⟨Nat.le_of_ble_eq_true rfl, Nat.le_of_ble_eq_true rfl⟩ rfl rfl (Nat.le_of_ble_eq_true rfl) ⟨Nat.le_of_ble_eq_true rfl, Nat.le_of_ble_eq_true rfl⟩ rfl rfl [] [0, 1, 2] rfl rfl rfl rfl (by decide) (fun r9 u9 p6 => ?_)
            obtain ⟨rfl, rfl⟩ := p6
            refine j_eq (ws' := [(h9, .inr (9, [.ref h8, .int (iI k), .int (iI f), .int (iI e)])), (h8, .inr (8, [.ref b0, .int (iI L)])), (b0, .inl (T 0, 600, .inl (fun j : Nat => iI (Tb j))))]) rfl rfl rfl rfl rfl rfl ?_
            refine j_ifeqB h 53 dX9_stuffs_48 (by decide) (fun c7 => ?_) (fun c7 => ?_)
            · skip
              refine j_iload_n h dX9_stuffs_53 1 rfl rfl ?_
              have hp9 := pow2_rng (s := sfT (Tb i)) (by omega)
              refine j_iconst h dX9_stuffs_54 ?_
              refine j_iload_n h dX9_stuffs_55 3 rfl rfl ?_
              refine j_ishl h dX9_stuffs_56 (by omega) ?_
              refine j_ior h dX9_stuffs_57 (by omega) (by omega) ?_
              refine j_istore_n (lv' := [(0, .ref h9), (1, .int (iI (((K : Int).toNat ||| (1 * 2 ^ (sfT (Tb i)).toNat : Int).toNat : Nat) : Int))), (2, .int (iI i)), (3, .int (iI (sfT (Tb i))))]) h dX9_stuffs_58 [1, 0, 2, 3] rfl (by decide) rfl ?_
              refine j_iinc (lv' := [(0, .ref h9), (1, .int (iI (((K : Int).toNat ||| (1 * 2 ^ (sfT (Tb i)).toNat : Int).toNat : Nat) : Int))), (2, .int (iI (i + 1))), (3, .int (iI (sfT (Tb i))))]) h dX9_stuffs_59 2 [1, 2, 0, 3] rfl (by decide) rfl ?_
              refine j_goto (tgt := 17) h dX9_stuffs_62 (by decide) ?_
              refine j_lv (lv' := [(0, .ref h9), (1, .int (iI (((K : Int).toNat ||| (1 * 2 ^ (sfT (Tb i)).toNat : Int).toNat : Nat) : Int))), (2, .int (iI (i + 1)))]) [0, 1, 2] rfl ?_
              exact ih17 (i + 1) (((K : Int).toNat ||| (1 * 2 ^ (sfT (Tb i)).toNat : Int).toNat : Nat) : Int) (by first | assumption | omega) (by rw [lsI_s (by omega), ← hK, if_neg (fun z9 => by rcases z9 with z9 | z9 | z9; omega; omega; (rw [c7] at z9; exact absurd z9 (by decide)))]; rfl) (by exact hk_or_rng hK0 (by omega)) (by omega)
            · skip
              refine j_iconst h dX9_stuffs_51 ?_
              exact hr _ _ _ _ dX9_stuffs_52 ⟨(congrArg iI (show (-1 : Int) = (stsS Tb k f e) by unfold stsS; first | rw [if_neg (by omega)] | (rw [if_pos (by omega)]; first | (rw [hK, show i = e by omega]; done) | (symm; refine lsI_bad (z := i + 1) (by omega) (by omega) ?_; rw [lsI_s (by omega), if_pos]; first | exact Or.inr (Or.inl c7) | exact Or.inr (Or.inr (by rw [← hK]; exact c7)))))), rfl⟩
    exact lp17 _ f 0 (by first | assumption | omega) (by rw [lsI_0]) (by first | assumption | omega) (Nat.lt_succ_self _)
  · skip
    refine j_iconst h dX9_stuffs_8 ?_
    exact hr _ _ _ _ dX9_stuffs_9 ⟨(congrArg iI (show (-1 : Int) = (stsS Tb k f e) by unfold stsS; first | rw [if_neg (by omega)] | (rw [if_pos (by omega)]; first | (rw [hK, show i = e by omega]; done) | (symm; refine lsI_bad (z := i + 1) (by omega) (by omega) ?_; rw [lsI_s (by omega), if_pos]; first | exact Or.inr (Or.inl c1) | exact Or.inr (Or.inr (by rw [← hK]; exact c1)))))), rfl⟩

abbrev rmX9_value : Room := { frames := 0, cells := 0, slots := 0, locals := 0 }
theorem in_X9_value_X9 : ∀ w ∈ u_ws RX9 TX9 4, w ∈ wsX9_value := fun w hw => List.mem_cons_of_mem _ (List.mem_append_left _ (List.mem_append_right _ (hw)))
theorem f_X9_value_11 : FlOK RX9 11 wsX9_value 9 1 := ⟨_, _, _, rfl, by decide, in_X9_value_X9, List.mem_of_getElem? (i := 1) rfl⟩
theorem f_X9_value_18 : FlOK RX9 18 wsX9_value 9 3 := ⟨_, _, _, rfl, by decide, in_X9_value_X9, List.mem_of_getElem? (i := 2) rfl⟩
theorem f_X9_value_15 : FlOK RX9 15 wsX9_value 9 2 := ⟨_, _, _, rfl, by decide, in_X9_value_X9, List.mem_of_getElem? (i := 3) rfl⟩
theorem f_X9_value_21 : FlOK RX9 21 wsX9_value 9 0 := ⟨_, _, _, rfl, by decide, in_X9_value_X9, List.mem_of_getElem? (i := 4) rfl⟩
theorem in_X9_value_X8 : ∀ w ∈ u_ws RX8 TX8 2, w ∈ wsX9_value := fun w hw => List.mem_cons_of_mem _ (List.mem_append_right _ (hw))
theorem f_X9_value_33 : FnOK RX9 33 wsX9_value 8 0 := ⟨_, _, _, "LayerShop", rfl, by decide, in_X9_value_X8, List.mem_of_getElem? (i := 34) rfl⟩
set_option maxHeartbeats 600000 in
set_option maxRecDepth 100000 in
theorem ct_X9_value (T : Nat → ClassId) (h9 : Nat) (h8 : Nat) (b0 : Nat) (L : Int) (Tb : Int → Int) (k : Int) (f : Int) (e : Int) (hT : TOK Tb) (hL : 0 ≤ L ∧ L ≤ 600) (hk : 0 ≤ k ∧ k ≤ 3) (hf : 0 ≤ f ∧ f ≤ e ∧ e ≤ L) (hk0 : (¬ k = 0 → f < e)) (hd : (k = 2 → ∀ y : Int, f ≤ y → y < e → 48 ≤ Tb y ∧ Tb y ≤ 57)) : CtI T yX9_value wsX9_value rmX9_value 0 0 [.ref h9] [(h9, .inr (9, [.ref h8, .int (iI k), .int (iI f), .int (iI e)])), (h8, .inr (8, [.ref b0, .int (iI L)])), (b0, .inl (T 0, 600, .inl (fun j : Nat => iI (Tb j))))] (fun r8 u => r8 = (iI (vluS Tb k f e)) ∧ u = [(h9, .inr (9, [.ref h8, .int (iI k), .int (iI f), .int (iI e)])), (h8, .inr (8, [.ref b0, .int (iI L)])), (b0, .inl (T 0, 600, .inl (fun j : Nat => iI (Tb j))))]) := by
  refine ctI_of (cc := cX9_value) (maxL := 3) (ret := (some .int)) (by decide +kernel) rfl rfl (fun r u hp => by obtain ⟨rfl, -⟩ := hp; rfl) (Nat.le_of_ble_eq_true rfl) (fun X h hinit hr => ?_)
  refine j_eq (lv' := [(0, .ref h9)]) rfl rfl rfl rfl rfl rfl ?_
  refine j_aload_n h dX9_value_0 0 rfl rfl ?_
  refine j_get h dX9_value_1 f_X9_value_11 0 rfl rfl ?_
  refine j_iconst h dX9_value_4 ?_
  refine j_icmp_ne h 21 dX9_value_5 (by decide) (by omega) (by omega) (fun c1 => ?_) (fun c1 => ?_)
  · skip
    refine j_iconst h dX9_value_21 ?_
    exact hr _ _ _ _ dX9_value_22 ⟨(congrArg iI (show (-1 : Int) = (vluS Tb k f e) by unfold vluS; first | (rw [if_neg (by omega)]; done) | (rw [if_pos (by omega), hm, show i = e by omega]; done))), rfl⟩
  · skip
    refine j_aload_n h dX9_value_8 0 rfl rfl ?_
    refine j_get h dX9_value_9 f_X9_value_18 0 rfl rfl ?_
    refine j_aload_n h dX9_value_12 0 rfl rfl ?_
    refine j_get h dX9_value_13 f_X9_value_15 0 rfl rfl ?_
    refine j_isub h dX9_value_16 ?_
    refine j_iconst h dX9_value_17 ?_
    refine j_icmp_le h 23 dX9_value_18 (by decide) (by omega) (by omega) (fun c2 => ?_) (fun c2 => ?_)
    · skip
      refine j_iconst h dX9_value_23 ?_
      refine j_istore_n (lv' := [(0, .ref h9), (1, .int (iI 0))]) h dX9_value_24 [1, 0] rfl (by decide) rfl ?_
      refine j_aload_n h dX9_value_25 0 rfl rfl ?_
      refine j_get h dX9_value_26 f_X9_value_15 0 rfl rfl ?_
      refine j_istore_n (lv' := [(0, .ref h9), (1, .int (iI 0)), (2, .int (iI f))]) h dX9_value_29 [1, 2, 0] rfl (by decide) rfl ?_
      have lp30 : ∀ (n30 : Nat) (i : Int) (m : Int) (hi : f ≤ i ∧ i ≤ e) (hm : m = nvI Tb f i), ((e - i).toNat) < n30 → J X 0 0 30 [(0, .ref h9), (1, .int (iI m)), (2, .int (iI i))] [] [(h9, .inr (9, [.ref h8, .int (iI k), .int (iI f), .int (iI e)])), (h8, .inr (8, [.ref b0, .int (iI L)])), (b0, .inl (T 0, 600, .inl (fun j : Nat => iI (Tb j))))] := by
        intro n30
        induction n30 with
        | zero => exact fun i m hi hm hn30 => absurd hn30 (Nat.not_lt_zero _)
        | succ n30 ih30 =>
          intro i m hi hm hn30
          refine j_iload_n h dX9_value_30 2 rfl rfl ?_
          refine j_aload_n h dX9_value_31 0 rfl rfl ?_
          refine j_get h dX9_value_32 f_X9_value_18 0 rfl rfl ?_
          refine j_icmp_ge h 62 dX9_value_35 (by decide) (by omega) (by omega) (fun c3 => ?_) (fun c3 => ?_)
          · skip
            refine j_iload_n h dX9_value_62 1 rfl rfl ?_
            exact hr _ _ _ _ dX9_value_63 ⟨(congrArg iI (show (m : Int) = (vluS Tb k f e) by unfold vluS; first | (rw [if_neg (by omega)]; done) | (rw [if_pos (by omega), hm, show i = e by omega]; done))), rfl⟩
          · skip
            refine j_bipush h dX9_value_38 (by decide) ?_
            refine j_iload_n h dX9_value_40 1 rfl rfl ?_
            refine j_imul h dX9_value_41 ?_
            refine j_aload_n h dX9_value_42 0 rfl rfl ?_
            refine j_get h dX9_value_43 f_X9_value_21 0 rfl rfl ?_
            refine j_getN h dX9_value_46 f_X9_value_33 1 rfl rfl ?_
            refine j_iload_n h dX9_value_49 2 rfl rfl ?_
            refine j_iald (f := Tb) h i dX9_value_50 2 rfl (by decide) (by omega) (by omega) ?_
            have e4 := hT i
            refine j_iadd h dX9_value_51 ?_
            refine j_bipush h dX9_value_52 (by decide) ?_
            refine j_isub h dX9_value_54 ?_
            refine j_istore_n (lv' := [(0, .ref h9), (1, .int (iI (((10 * m) + (Tb i)) - 48))), (2, .int (iI i))]) h dX9_value_55 [1, 0, 2] rfl (by decide) rfl ?_
            refine j_iinc (lv' := [(0, .ref h9), (1, .int (iI (((10 * m) + (Tb i)) - 48))), (2, .int (iI (i + 1)))]) h dX9_value_56 2 [1, 2, 0] rfl (by decide) rfl ?_
            refine j_goto (tgt := 30) h dX9_value_59 (by decide) ?_
            exact ih30 (i + 1) (((10 * m) + (Tb i)) - 48) (by first | assumption | omega) (by rw [nvI_s (by omega), if_pos (by omega), ← hm]) (by omega)
      exact lp30 _ f 0 (by first | assumption | omega) (by rw [nvI_0]) (Nat.lt_succ_self _)
    · skip
      refine j_iconst h dX9_value_21 ?_
      exact hr _ _ _ _ dX9_value_22 ⟨(congrArg iI (show (-1 : Int) = (vluS Tb k f e) by unfold vluS; first | (rw [if_neg (by omega)]; done) | (rw [if_pos (by omega), hm, show i = e by omega]; done))), rfl⟩

abbrev rmX9_next : Room := { frames := 2, cells := 0, slots := 0, locals := 42 }
theorem in_X9_next_X9 : ∀ w ∈ u_ws RX9 TX9 4, w ∈ wsX9_next := fun w hw => List.mem_cons_of_mem _ (List.mem_append_left _ (List.mem_append_right _ (hw)))
theorem f_X9_next_18 : FlOK RX9 18 wsX9_next 9 3 := ⟨_, _, _, rfl, by decide, in_X9_next_X9, List.mem_of_getElem? (i := 1) rfl⟩
theorem f_X9_next_15 : FlOK RX9 15 wsX9_next 9 2 := ⟨_, _, _, rfl, by decide, in_X9_next_X9, List.mem_of_getElem? (i := 2) rfl⟩
theorem p_X9_2 : PuOK 9 2 false (.int) := ⟨_, _, _, tyX9, rfl, tyX9_ok, nmX9, rfl, rfl⟩
theorem f_X9_next_21 : FlOK RX9 21 wsX9_next 9 0 := ⟨_, _, _, rfl, by decide, in_X9_next_X9, List.mem_of_getElem? (i := 3) rfl⟩
theorem in_X9_next_X8 : ∀ w ∈ u_ws RX8 TX8 2, w ∈ wsX9_next := fun w hw => List.mem_cons_of_mem _ (List.mem_append_right _ (hw))
theorem f_X9_next_28 : FnOK RX9 28 wsX9_next 8 1 := ⟨_, _, _, "LayerShop", rfl, by decide, in_X9_next_X8, List.mem_of_getElem? (i := 33) rfl⟩
theorem p_X9_3 : PuOK 9 3 false (.int) := ⟨_, _, _, tyX9, rfl, tyX9_ok, nmX9, rfl, rfl⟩
theorem f_X9_next_11 : FlOK RX9 11 wsX9_next 9 1 := ⟨_, _, _, rfl, by decide, in_X9_next_X9, List.mem_of_getElem? (i := 4) rfl⟩
theorem p_X9_1 : PuOK 9 1 false (.int) := ⟨_, _, _, tyX9, rfl, tyX9_ok, nmX9, rfl, rfl⟩
theorem f_X9_next_33 : FnOK RX9 33 wsX9_next 8 0 := ⟨_, _, _, "LayerShop", rfl, by decide, in_X9_next_X8, List.mem_of_getElem? (i := 34) rfl⟩
theorem k_X9_kindOf : CkOK yX9_kindOf wsX9_kindOf rmX9_kindOf 0 0 cX9_kindOf 1 (some .int) 1 := ⟨⟨_, rfl⟩, rfl, rfl, by decide +kernel⟩
theorem k_X9_isBlank : CkOK yX9_isBlank wsX9_isBlank rmX9_isBlank 0 0 cX9_isBlank 1 (some .boolean) 1 := ⟨⟨_, rfl⟩, rfl, rfl, by decide +kernel⟩
set_option maxHeartbeats 600000 in
set_option maxRecDepth 100000 in
/-- the next token -/
theorem ct_X9_next (T : Nat → ClassId) (h9 : Nat) (h8 : Nat) (b0 : Nat) (L : Int) (Tb : Int → Int) (k : Int) (f : Int) (e : Int) (hT : TOK Tb) (hL : 0 ≤ L ∧ L ≤ 600) (hf : 0 ≤ e ∧ e ≤ L) : CtV T yX9_next wsX9_next rmX9_next 0 0 [.ref h9] [(h9, .inr (9, [.ref h8, .int (iI k), .int (iI f), .int (iI e)])), (h8, .inr (8, [.ref b0, .int (iI L)])), (b0, .inl (T 0, 600, .inl (fun j : Nat => iI (Tb j))))] (fun u => u = [(h9, .inr (9, [.ref h8, .int (iI (tkK Tb L (tkF Tb L e))), .int (iI (tkF Tb L e)), .int (iI (tkE Tb L (tkF Tb L e)))])), (h8, .inr (8, [.ref b0, .int (iI L)])), (b0, .inl (T 0, 600, .inl (fun j : Nat => iI (Tb j))))]) := by
  refine ctV_of (cc := cX9_next) (maxL := 1) (ret := none) (by decide +kernel) rfl rfl (Nat.le_of_ble_eq_true rfl) (fun X h hinit hr => ?_)
  refine j_eq (lv' := [(0, .ref h9)]) rfl rfl rfl rfl rfl rfl ?_
  refine j_aload_n h dX9_next_0 0 rfl rfl ?_
  refine j_aload_n h dX9_next_1 0 rfl rfl ?_
  refine j_get h dX9_next_2 f_X9_next_18 0 rfl rfl ?_
  refine j_put (ws' := [(h9, .inr (9, [.ref h8, .int (iI k), .int (iI e), .int (iI e)])), (h8, .inr (8, [.ref b0, .int (iI L)])), (b0, .inl (T 0, 600, .inl (fun j : Nat => iI (Tb j))))]) h dX9_next_5 f_X9_next_15 p_X9_2 0 rfl rfl rfl (Nat.le_of_ble_eq_true rfl) rfl ?_
  have lp8 : ∀ (n8 : Nat) (g : Int) (hg : e ≤ g ∧ g ≤ L) (hq : scI (bkP Tb) g L = tkF Tb L e), ((L - g).toNat) < n8 → J X 0 0 8 [(0, .ref h9)] [] [(h9, .inr (9, [.ref h8, .int (iI k), .int (iI g), .int (iI e)])), (h8, .inr (8, [.ref b0, .int (iI L)])), (b0, .inl (T 0, 600, .inl (fun j : Nat => iI (Tb j))))] := by
    intro n8
    induction n8 with
    | zero => exact fun g hg hq hn8 => absurd hn8 (Nat.not_lt_zero _)
    | succ n8 ih8 =>
      intro g hg hq hn8
      refine j_aload_n h dX9_next_8 0 rfl rfl ?_
      refine j_get h dX9_next_9 f_X9_next_15 0 rfl rfl ?_
      refine j_aload_n h dX9_next_12 0 rfl rfl ?_
      refine j_get h dX9_next_13 f_X9_next_21 0 rfl rfl ?_
      refine j_getN h dX9_next_16 f_X9_next_28 1 rfl rfl ?_
      refine j_icmp_ge h 53 dX9_next_19 (by decide) (by omega) (by omega) (fun c401 => ?_) (fun c401 => ?_)
      · skip
        refine j_aload_n h dX9_next_53 0 rfl rfl ?_
        refine j_aload_n h dX9_next_54 0 rfl rfl ?_
        refine j_get h dX9_next_55 f_X9_next_15 0 rfl rfl ?_
        refine j_put (ws' := [(h9, .inr (9, [.ref h8, .int (iI k), .int (iI g), .int (iI g)])), (h8, .inr (8, [.ref b0, .int (iI L)])), (b0, .inl (T 0, 600, .inl (fun j : Nat => iI (Tb j))))]) h dX9_next_58 f_X9_next_18 p_X9_3 0 rfl rfl rfl (Nat.le_of_ble_eq_true rfl) rfl ?_
        refine j_aload_n h dX9_next_61 0 rfl rfl ?_
        refine j_iconst h dX9_next_62 ?_
        refine j_put (ws' := [(h9, .inr (9, [.ref h8, .int (iI 0), .int (iI g), .int (iI g)])), (h8, .inr (8, [.ref b0, .int (iI L)])), (b0, .inl (T 0, 600, .inl (fun j : Nat => iI (Tb j))))]) h dX9_next_63 f_X9_next_11 p_X9_1 0 rfl rfl rfl (Nat.le_of_ble_eq_true rfl) rfl ?_
        refine j_aload_n h dX9_next_66 0 rfl rfl ?_
        refine j_get h dX9_next_67 f_X9_next_15 0 rfl rfl ?_
        refine j_aload_n h dX9_next_70 0 rfl rfl ?_
        refine j_get h dX9_next_71 f_X9_next_21 0 rfl rfl ?_
        refine j_getN h dX9_next_74 f_X9_next_28 1 rfl rfl ?_
        refine j_icmp_ge h 109 dX9_next_77 (by decide) (by omega) (by omega) (fun c402 => ?_) (fun c402 => ?_)
        · skip
          have lp109 : ∀ (n109 : Nat) (q : Int) (z : Int) (hx : nxI Tb L g q z) (hgg : g = tkF Tb L e) (hz : g ≤ z ∧ z ≤ L) (hqr : 0 ≤ q ∧ q ≤ 3), ((L - z).toNat) < n109 → J X 0 0 109 [(0, .ref h9)] [] [(h9, .inr (9, [.ref h8, .int (iI q), .int (iI g), .int (iI z)])), (h8, .inr (8, [.ref b0, .int (iI L)])), (b0, .inl (T 0, 600, .inl (fun j : Nat => iI (Tb j))))] := by
            intro n109
            induction n109 with
            | zero => exact fun q z hx hgg hz hqr hn109 => absurd hn109 (Nat.not_lt_zero _)
            | succ n109 ih109 =>
              intro q z hx hgg hz hqr hn109
              refine j_aload_n h dX9_next_109 0 rfl rfl ?_
              refine j_get h dX9_next_110 f_X9_next_11 0 rfl rfl ?_
              refine j_iconst h dX9_next_113 ?_
              refine j_icmp_eq h 166 dX9_next_114 (by decide) (by omega) (by omega) (fun c403 => ?_) (fun c403 => ?_)
              · skip
                exact hr _ _ _ dX9_next_166 (show ([(h9, .inr (9, [.ref h8, .int (iI q), .int (iI g), .int (iI z)])), (h8, .inr (8, [.ref b0, .int (iI L)])), (b0, .inl (T 0, 600, .inl (fun j : Nat => iI (Tb j))))] : va_W) = [(h9, .inr (9, [.ref h8, .int (iI (tkK Tb L (tkF Tb L e))), .int (iI (tkF Tb L e)), .int (iI (tkE Tb L (tkF Tb L e)))])), (h8, .inr (8, [.ref b0, .int (iI L)])), (b0, .inl (T 0, 600, .inl (fun j : Nat => iI (Tb j))))] by rw [nxI_end hx (by omega), hx.1, hgg])
              · skip
                refine j_aload_n h dX9_next_117 0 rfl rfl ?_
                refine j_get h dX9_next_118 f_X9_next_18 0 rfl rfl ?_
                refine j_aload_n h dX9_next_121 0 rfl rfl ?_
                refine j_get h dX9_next_122 f_X9_next_21 0 rfl rfl ?_
                refine j_getN h dX9_next_125 f_X9_next_28 1 rfl rfl ?_
                refine j_icmp_ge h 166 dX9_next_128 (by decide) (by omega) (by omega) (fun c404 => ?_) (fun c404 => ?_)
                · skip
                  exact hr _ _ _ dX9_next_166 (show ([(h9, .inr (9, [.ref h8, .int (iI q), .int (iI g), .int (iI z)])), (h8, .inr (8, [.ref b0, .int (iI L)])), (b0, .inl (T 0, 600, .inl (fun j : Nat => iI (Tb j))))] : va_W) = [(h9, .inr (9, [.ref h8, .int (iI (tkK Tb L (tkF Tb L e))), .int (iI (tkF Tb L e)), .int (iI (tkE Tb L (tkF Tb L e)))])), (h8, .inr (8, [.ref b0, .int (iI L)])), (b0, .inl (T 0, 600, .inl (fun j : Nat => iI (Tb j))))] by rw [nxI_end hx (by omega), hx.1, hgg])
                · skip
                  refine j_aload_n h dX9_next_131 0 rfl rfl ?_
                  refine j_get h dX9_next_132 f_X9_next_21 0 rfl rfl ?_
                  refine j_getN h dX9_next_135 f_X9_next_33 1 rfl rfl ?_
                  refine j_aload_n h dX9_next_138 0 rfl rfl ?_
                  refine j_get h dX9_next_139 f_X9_next_18 0 rfl rfl ?_
                  refine j_iald (f := Tb) h z dX9_next_142 2 rfl (by decide) (by omega) (by omega) ?_
                  have e405 := hT z
                  refine j_callSi (As := [.int (iI (Tb z))]) (wr := [(h9, .inr (9, [.ref h8, .int (iI q), .int (iI g), .int (iI z)])), (h8, .inr (8, [.ref b0, .int (iI L)])), (b0, .inl (T 0, 600, .inl (fun j : Nat => iI (Tb j))))]) (cells' := 0) (slots' := 0) h dX9_next_143 (ct_X9_kindOf T (Tb z) (by first | assumption | omega)) k_X9_kindOf gX9_next_X9_kindOf ⟨Nat.le_of_ble_eq_true rfl, Nat.le_of_ble_eq_true rfl⟩ rfl rfl (Nat.le_of_ble_eq_true rfl) ⟨Nat.le_of_ble_eq_true rfl, Nat.le_of_ble_eq_true rfl⟩ rfl rfl [] [0, 1, 2] rfl rfl rfl rfl (by decide) (fun r9 u9 p406 => ?_)
                  obtain ⟨rfl, rfl⟩ := p406
                  have hkd9 := kdT_rng (Tb z)
                  refine j_eq (ws' := [(h9, .inr (9, [.ref h8, .int (iI q), .int (iI g), .int (iI z)])), (h8, .inr (8, [.ref b0, .int (iI L)])), (b0, .inl (T 0, 600, .inl (fun j : Nat => iI (Tb j))))]) rfl rfl rfl rfl rfl rfl ?_
                  refine j_aload_n h dX9_next_146 0 rfl rfl ?_
                  refine j_get h dX9_next_147 f_X9_next_11 0 rfl rfl ?_
                  refine j_icmp_ne h 166 dX9_next_150 (by decide) (by omega) (by omega) (fun c407 => ?_) (fun c407 => ?_)
                  · skip
                    exact hr _ _ _ dX9_next_166 (show ([(h9, .inr (9, [.ref h8, .int (iI q), .int (iI g), .int (iI z)])), (h8, .inr (8, [.ref b0, .int (iI L)])), (b0, .inl (T 0, 600, .inl (fun j : Nat => iI (Tb j))))] : va_W) = [(h9, .inr (9, [.ref h8, .int (iI (tkK Tb L (tkF Tb L e))), .int (iI (tkF Tb L e)), .int (iI (tkE Tb L (tkF Tb L e)))])), (h8, .inr (8, [.ref b0, .int (iI L)])), (b0, .inl (T 0, 600, .inl (fun j : Nat => iI (Tb j))))] by rw [nxI_end hx (by omega), hx.1, hgg])
                  · skip
                    refine j_aload_n h dX9_next_153 0 rfl rfl ?_
                    refine j_dup h dX9_next_154 rfl ?_
                    refine j_get h dX9_next_155 f_X9_next_18 0 rfl rfl ?_
                    refine j_iconst h dX9_next_158 ?_
                    refine j_iadd h dX9_next_159 ?_
                    refine j_put (ws' := [(h9, .inr (9, [.ref h8, .int (iI q), .int (iI g), .int (iI (z + 1))])), (h8, .inr (8, [.ref b0, .int (iI L)])), (b0, .inl (T 0, 600, .inl (fun j : Nat => iI (Tb j))))]) h dX9_next_160 f_X9_next_18 p_X9_3 0 rfl rfl rfl (Nat.le_of_ble_eq_true rfl) rfl ?_
                    refine j_goto (tgt := 109) h dX9_next_163 (by decide) ?_
                    exact ih109 q (z + 1) (by exact nxI_s hx (by omega) (by omega) (by omega)) (by first | assumption | omega) (by first | assumption | omega) (by first | assumption | omega) (by omega)
          exact lp109 _ 0 g (by first | exact nxI_0 (by omega) (by omega) | exact nxI_1 (by omega)) (by rw [← hq]; first | exact (scI_e (by omega)).symm | exact (scI_f (by omega) (show bkP Tb g = false by assumption)).symm) (by first | assumption | omega) (by first | assumption | omega) (Nat.lt_succ_self _)
        · skip
          refine j_aload_n h dX9_next_80 0 rfl rfl ?_
          refine j_aload_n h dX9_next_81 0 rfl rfl ?_
          refine j_get h dX9_next_82 f_X9_next_21 0 rfl rfl ?_
          refine j_getN h dX9_next_85 f_X9_next_33 1 rfl rfl ?_
          refine j_aload_n h dX9_next_88 0 rfl rfl ?_
          refine j_get h dX9_next_89 f_X9_next_15 0 rfl rfl ?_
          refine j_iald (f := Tb) h g dX9_next_92 2 rfl (by decide) (by omega) (by omega) ?_
          have e408 := hT g
          refine j_callSi (As := [.int (iI (Tb g))]) (wr := [(h9, .inr (9, [.ref h8, .int (iI 0), .int (iI g), .int (iI g)])), (h8, .inr (8, [.ref b0, .int (iI L)])), (b0, .inl (T 0, 600, .inl (fun j : Nat => iI (Tb j))))]) (cells' := 0) (slots' := 0) h dX9_next_93 (ct_X9_kindOf T (Tb g) (by first | assumption | omega)) k_X9_kindOf gX9_next_X9_kindOf ⟨Nat.le_of_ble_eq_true rfl, Nat.le_of_ble_eq_true rfl⟩ rfl rfl (Nat.le_of_ble_eq_true rfl) ⟨Nat.le_of_ble_eq_true rfl, Nat.le_of_ble_eq_true rfl⟩ rfl rfl [] [0, 1, 2] rfl rfl rfl rfl (by decide) (fun r9 u9 p409 => ?_)
          obtain ⟨rfl, rfl⟩ := p409
          have hkd9 := kdT_rng (Tb g)
          refine j_eq (ws' := [(h9, .inr (9, [.ref h8, .int (iI 0), .int (iI g), .int (iI g)])), (h8, .inr (8, [.ref b0, .int (iI L)])), (b0, .inl (T 0, 600, .inl (fun j : Nat => iI (Tb j))))]) rfl rfl rfl rfl rfl rfl ?_
          refine j_put (ws' := [(h9, .inr (9, [.ref h8, .int (iI (kdT (Tb g))), .int (iI g), .int (iI g)])), (h8, .inr (8, [.ref b0, .int (iI L)])), (b0, .inl (T 0, 600, .inl (fun j : Nat => iI (Tb j))))]) h dX9_next_96 f_X9_next_11 p_X9_1 0 rfl rfl rfl (Nat.le_of_ble_eq_true rfl) rfl ?_
          refine j_aload_n h dX9_next_99 0 rfl rfl ?_
          refine j_dup h dX9_next_100 rfl ?_
          refine j_get h dX9_next_101 f_X9_next_18 0 rfl rfl ?_
          refine j_iconst h dX9_next_104 ?_
          refine j_iadd h dX9_next_105 ?_
          refine j_put (ws' := [(h9, .inr (9, [.ref h8, .int (iI (kdT (Tb g))), .int (iI g), .int (iI (g + 1))])), (h8, .inr (8, [.ref b0, .int (iI L)])), (b0, .inl (T 0, 600, .inl (fun j : Nat => iI (Tb j))))]) h dX9_next_106 f_X9_next_18 p_X9_3 0 rfl rfl rfl (Nat.le_of_ble_eq_true rfl) rfl ?_
          have lp109 : ∀ (n109 : Nat) (q : Int) (z : Int) (hx : nxI Tb L g q z) (hgg : g = tkF Tb L e) (hz : g ≤ z ∧ z ≤ L) (hqr : 0 ≤ q ∧ q ≤ 3), ((L - z).toNat) < n109 → J X 0 0 109 [(0, .ref h9)] [] [(h9, .inr (9, [.ref h8, .int (iI q), .int (iI g), .int (iI z)])), (h8, .inr (8, [.ref b0, .int (iI L)])), (b0, .inl (T 0, 600, .inl (fun j : Nat => iI (Tb j))))] := by
            intro n109
            induction n109 with
            | zero => exact fun q z hx hgg hz hqr hn109 => absurd hn109 (Nat.not_lt_zero _)
            | succ n109 ih109 =>
              intro q z hx hgg hz hqr hn109
              refine j_aload_n h dX9_next_109 0 rfl rfl ?_
              refine j_get h dX9_next_110 f_X9_next_11 0 rfl rfl ?_
              refine j_iconst h dX9_next_113 ?_
              refine j_icmp_eq h 166 dX9_next_114 (by decide) (by omega) (by omega) (fun c410 => ?_) (fun c410 => ?_)
              · skip
                exact hr _ _ _ dX9_next_166 (show ([(h9, .inr (9, [.ref h8, .int (iI q), .int (iI g), .int (iI z)])), (h8, .inr (8, [.ref b0, .int (iI L)])), (b0, .inl (T 0, 600, .inl (fun j : Nat => iI (Tb j))))] : va_W) = [(h9, .inr (9, [.ref h8, .int (iI (tkK Tb L (tkF Tb L e))), .int (iI (tkF Tb L e)), .int (iI (tkE Tb L (tkF Tb L e)))])), (h8, .inr (8, [.ref b0, .int (iI L)])), (b0, .inl (T 0, 600, .inl (fun j : Nat => iI (Tb j))))] by rw [nxI_end hx (by omega), hx.1, hgg])
              · skip
                refine j_aload_n h dX9_next_117 0 rfl rfl ?_
                refine j_get h dX9_next_118 f_X9_next_18 0 rfl rfl ?_
                refine j_aload_n h dX9_next_121 0 rfl rfl ?_
                refine j_get h dX9_next_122 f_X9_next_21 0 rfl rfl ?_
                refine j_getN h dX9_next_125 f_X9_next_28 1 rfl rfl ?_
                refine j_icmp_ge h 166 dX9_next_128 (by decide) (by omega) (by omega) (fun c411 => ?_) (fun c411 => ?_)
                · skip
                  exact hr _ _ _ dX9_next_166 (show ([(h9, .inr (9, [.ref h8, .int (iI q), .int (iI g), .int (iI z)])), (h8, .inr (8, [.ref b0, .int (iI L)])), (b0, .inl (T 0, 600, .inl (fun j : Nat => iI (Tb j))))] : va_W) = [(h9, .inr (9, [.ref h8, .int (iI (tkK Tb L (tkF Tb L e))), .int (iI (tkF Tb L e)), .int (iI (tkE Tb L (tkF Tb L e)))])), (h8, .inr (8, [.ref b0, .int (iI L)])), (b0, .inl (T 0, 600, .inl (fun j : Nat => iI (Tb j))))] by rw [nxI_end hx (by omega), hx.1, hgg])
                · skip
                  refine j_aload_n h dX9_next_131 0 rfl rfl ?_
                  refine j_get h dX9_next_132 f_X9_next_21 0 rfl rfl ?_
                  refine j_getN h dX9_next_135 f_X9_next_33 1 rfl rfl ?_
                  refine j_aload_n h dX9_next_138 0 rfl rfl ?_
                  refine j_get h dX9_next_139 f_X9_next_18 0 rfl rfl ?_
                  refine j_iald (f := Tb) h z dX9_next_142 2 rfl (by decide) (by omega) (by omega) ?_
                  have e412 := hT z
                  refine j_callSi (As := [.int (iI (Tb z))]) (wr := [(h9, .inr (9, [.ref h8, .int (iI q), .int (iI g), .int (iI z)])), (h8, .inr (8, [.ref b0, .int (iI L)])), (b0, .inl (T 0, 600, .inl (fun j : Nat => iI (Tb j))))]) (cells' := 0) (slots' := 0) h dX9_next_143 (ct_X9_kindOf T (Tb z) (by first | assumption | omega)) k_X9_kindOf gX9_next_X9_kindOf ⟨Nat.le_of_ble_eq_true rfl, Nat.le_of_ble_eq_true rfl⟩ rfl rfl (Nat.le_of_ble_eq_true rfl) ⟨Nat.le_of_ble_eq_true rfl, Nat.le_of_ble_eq_true rfl⟩ rfl rfl [] [0, 1, 2] rfl rfl rfl rfl (by decide) (fun r9 u9 p413 => ?_)
                  obtain ⟨rfl, rfl⟩ := p413
                  have hkd9 := kdT_rng (Tb z)
                  refine j_eq (ws' := [(h9, .inr (9, [.ref h8, .int (iI q), .int (iI g), .int (iI z)])), (h8, .inr (8, [.ref b0, .int (iI L)])), (b0, .inl (T 0, 600, .inl (fun j : Nat => iI (Tb j))))]) rfl rfl rfl rfl rfl rfl ?_
                  refine j_aload_n h dX9_next_146 0 rfl rfl ?_
                  refine j_get h dX9_next_147 f_X9_next_11 0 rfl rfl ?_
                  refine j_icmp_ne h 166 dX9_next_150 (by decide) (by omega) (by omega) (fun c414 => ?_) (fun c414 => ?_)
                  · skip
                    exact hr _ _ _ dX9_next_166 (show ([(h9, .inr (9, [.ref h8, .int (iI q), .int (iI g), .int (iI z)])), (h8, .inr (8, [.ref b0, .int (iI L)])), (b0, .inl (T 0, 600, .inl (fun j : Nat => iI (Tb j))))] : va_W) = [(h9, .inr (9, [.ref h8, .int (iI (tkK Tb L (tkF Tb L e))), .int (iI (tkF Tb L e)), .int (iI (tkE Tb L (tkF Tb L e)))])), (h8, .inr (8, [.ref b0, .int (iI L)])), (b0, .inl (T 0, 600, .inl (fun j : Nat => iI (Tb j))))] by rw [nxI_end hx (by omega), hx.1, hgg])
                  · skip
                    refine j_aload_n h dX9_next_153 0 rfl rfl ?_
                    refine j_dup h dX9_next_154 rfl ?_
                    refine j_get h dX9_next_155 f_X9_next_18 0 rfl rfl ?_
                    refine j_iconst h dX9_next_158 ?_
                    refine j_iadd h dX9_next_159 ?_
                    refine j_put (ws' := [(h9, .inr (9, [.ref h8, .int (iI q), .int (iI g), .int (iI (z + 1))])), (h8, .inr (8, [.ref b0, .int (iI L)])), (b0, .inl (T 0, 600, .inl (fun j : Nat => iI (Tb j))))]) h dX9_next_160 f_X9_next_18 p_X9_3 0 rfl rfl rfl (Nat.le_of_ble_eq_true rfl) rfl ?_
                    refine j_goto (tgt := 109) h dX9_next_163 (by decide) ?_
                    exact ih109 q (z + 1) (by exact nxI_s hx (by omega) (by omega) (by omega)) (by first | assumption | omega) (by first | assumption | omega) (by first | assumption | omega) (by omega)
          exact lp109 _ (kdT (Tb g)) (g + 1) (by first | exact nxI_0 (by omega) (by omega) | exact nxI_1 (by omega)) (by rw [← hq]; first | exact (scI_e (by omega)).symm | exact (scI_f (by omega) (show bkP Tb g = false by assumption)).symm) (by first | assumption | omega) (by first | assumption | omega) (Nat.lt_succ_self _)
      · skip
        refine j_aload_n h dX9_next_22 0 rfl rfl ?_
        refine j_get h dX9_next_23 f_X9_next_21 0 rfl rfl ?_
        refine j_getN h dX9_next_26 f_X9_next_33 1 rfl rfl ?_
        refine j_aload_n h dX9_next_29 0 rfl rfl ?_
        refine j_get h dX9_next_30 f_X9_next_15 0 rfl rfl ?_
        refine j_iald (f := Tb) h g dX9_next_33 2 rfl (by decide) (by omega) (by omega) ?_
        have e415 := hT g
        refine j_callSi (As := [.int (iI (Tb g))]) (wr := [(h9, .inr (9, [.ref h8, .int (iI k), .int (iI g), .int (iI e)])), (h8, .inr (8, [.ref b0, .int (iI L)])), (b0, .inl (T 0, 600, .inl (fun j : Nat => iI (Tb j))))]) (cells' := 0) (slots' := 0) h dX9_next_34 (ct_X9_isBlank T (Tb g) (by first | assumption | omega)) k_X9_isBlank gX9_next_X9_isBlank ⟨Nat.le_of_ble_eq_true rfl, Nat.le_of_ble_eq_true rfl⟩ rfl rfl (Nat.le_of_ble_eq_true rfl) ⟨Nat.le_of_ble_eq_true rfl, Nat.le_of_ble_eq_true rfl⟩ rfl rfl [] [0, 1, 2] rfl rfl rfl rfl (by decide) (fun r9 u9 p416 => ?_)
        obtain ⟨rfl, rfl⟩ := p416
        refine j_eq (ws' := [(h9, .inr (9, [.ref h8, .int (iI k), .int (iI g), .int (iI e)])), (h8, .inr (8, [.ref b0, .int (iI L)])), (b0, .inl (T 0, 600, .inl (fun j : Nat => iI (Tb j))))]) rfl rfl rfl rfl rfl rfl ?_
        refine j_ifeqB h 53 dX9_next_37 (by decide) (fun c417 => ?_) (fun c417 => ?_)
        · skip
          refine j_aload_n h dX9_next_53 0 rfl rfl ?_
          refine j_aload_n h dX9_next_54 0 rfl rfl ?_
          refine j_get h dX9_next_55 f_X9_next_15 0 rfl rfl ?_
          refine j_put (ws' := [(h9, .inr (9, [.ref h8, .int (iI k), .int (iI g), .int (iI g)])), (h8, .inr (8, [.ref b0, .int (iI L)])), (b0, .inl (T 0, 600, .inl (fun j : Nat => iI (Tb j))))]) h dX9_next_58 f_X9_next_18 p_X9_3 0 rfl rfl rfl (Nat.le_of_ble_eq_true rfl) rfl ?_
          refine j_aload_n h dX9_next_61 0 rfl rfl ?_
          refine j_iconst h dX9_next_62 ?_
          refine j_put (ws' := [(h9, .inr (9, [.ref h8, .int (iI 0), .int (iI g), .int (iI g)])), (h8, .inr (8, [.ref b0, .int (iI L)])), (b0, .inl (T 0, 600, .inl (fun j : Nat => iI (Tb j))))]) h dX9_next_63 f_X9_next_11 p_X9_1 0 rfl rfl rfl (Nat.le_of_ble_eq_true rfl) rfl ?_
          refine j_aload_n h dX9_next_66 0 rfl rfl ?_
          refine j_get h dX9_next_67 f_X9_next_15 0 rfl rfl ?_
          refine j_aload_n h dX9_next_70 0 rfl rfl ?_
          refine j_get h dX9_next_71 f_X9_next_21 0 rfl rfl ?_
          refine j_getN h dX9_next_74 f_X9_next_28 1 rfl rfl ?_
          refine j_icmp_ge h 109 dX9_next_77 (by decide) (by omega) (by omega) (fun c418 => ?_) (fun c418 => ?_)
          · skip
            have lp109 : ∀ (n109 : Nat) (q : Int) (z : Int) (hx : nxI Tb L g q z) (hgg : g = tkF Tb L e) (hz : g ≤ z ∧ z ≤ L) (hqr : 0 ≤ q ∧ q ≤ 3), ((L - z).toNat) < n109 → J X 0 0 109 [(0, .ref h9)] [] [(h9, .inr (9, [.ref h8, .int (iI q), .int (iI g), .int (iI z)])), (h8, .inr (8, [.ref b0, .int (iI L)])), (b0, .inl (T 0, 600, .inl (fun j : Nat => iI (Tb j))))] := by
              intro n109
              induction n109 with
              | zero => exact fun q z hx hgg hz hqr hn109 => absurd hn109 (Nat.not_lt_zero _)
              | succ n109 ih109 =>
                intro q z hx hgg hz hqr hn109
                refine j_aload_n h dX9_next_109 0 rfl rfl ?_
                refine j_get h dX9_next_110 f_X9_next_11 0 rfl rfl ?_
                refine j_iconst h dX9_next_113 ?_
                refine j_icmp_eq h 166 dX9_next_114 (by decide) (by omega) (by omega) (fun c419 => ?_) (fun c419 => ?_)
                · skip
                  exact hr _ _ _ dX9_next_166 (show ([(h9, .inr (9, [.ref h8, .int (iI q), .int (iI g), .int (iI z)])), (h8, .inr (8, [.ref b0, .int (iI L)])), (b0, .inl (T 0, 600, .inl (fun j : Nat => iI (Tb j))))] : va_W) = [(h9, .inr (9, [.ref h8, .int (iI (tkK Tb L (tkF Tb L e))), .int (iI (tkF Tb L e)), .int (iI (tkE Tb L (tkF Tb L e)))])), (h8, .inr (8, [.ref b0, .int (iI L)])), (b0, .inl (T 0, 600, .inl (fun j : Nat => iI (Tb j))))] by rw [nxI_end hx (by omega), hx.1, hgg])
                · skip
                  refine j_aload_n h dX9_next_117 0 rfl rfl ?_
                  refine j_get h dX9_next_118 f_X9_next_18 0 rfl rfl ?_
                  refine j_aload_n h dX9_next_121 0 rfl rfl ?_
                  refine j_get h dX9_next_122 f_X9_next_21 0 rfl rfl ?_
                  refine j_getN h dX9_next_125 f_X9_next_28 1 rfl rfl ?_
                  refine j_icmp_ge h 166 dX9_next_128 (by decide) (by omega) (by omega) (fun c420 => ?_) (fun c420 => ?_)
                  · skip
                    exact hr _ _ _ dX9_next_166 (show ([(h9, .inr (9, [.ref h8, .int (iI q), .int (iI g), .int (iI z)])), (h8, .inr (8, [.ref b0, .int (iI L)])), (b0, .inl (T 0, 600, .inl (fun j : Nat => iI (Tb j))))] : va_W) = [(h9, .inr (9, [.ref h8, .int (iI (tkK Tb L (tkF Tb L e))), .int (iI (tkF Tb L e)), .int (iI (tkE Tb L (tkF Tb L e)))])), (h8, .inr (8, [.ref b0, .int (iI L)])), (b0, .inl (T 0, 600, .inl (fun j : Nat => iI (Tb j))))] by rw [nxI_end hx (by omega), hx.1, hgg])
                  · skip
                    refine j_aload_n h dX9_next_131 0 rfl rfl ?_
                    refine j_get h dX9_next_132 f_X9_next_21 0 rfl rfl ?_
                    refine j_getN h dX9_next_135 f_X9_next_33 1 rfl rfl ?_
                    refine j_aload_n h dX9_next_138 0 rfl rfl ?_
                    refine j_get h dX9_next_139 f_X9_next_18 0 rfl rfl ?_
                    refine j_iald (f := Tb) h z dX9_next_142 2 rfl (by decide) (by omega) (by omega) ?_
                    have e421 := hT z
                    refine j_callSi (As := [.int (iI (Tb z))]) (wr := [(h9, .inr (9, [.ref h8, .int (iI q), .int (iI g), .int (iI z)])), (h8, .inr (8, [.ref b0, .int (iI L)])), (b0, .inl (T 0, 600, .inl (fun j : Nat => iI (Tb j))))]) (cells' := 0) (slots' := 0) h dX9_next_143 (ct_X9_kindOf T (Tb z) (by first | assumption | omega)) k_X9_kindOf gX9_next_X9_kindOf ⟨Nat.le_of_ble_eq_true rfl, Nat.le_of_ble_eq_true rfl⟩ rfl rfl (Nat.le_of_ble_eq_true rfl) ⟨Nat.le_of_ble_eq_true rfl, Nat.le_of_ble_eq_true rfl⟩ rfl rfl [] [0, 1, 2] rfl rfl rfl rfl (by decide) (fun r9 u9 p422 => ?_)
                    obtain ⟨rfl, rfl⟩ := p422
                    have hkd9 := kdT_rng (Tb z)
                    refine j_eq (ws' := [(h9, .inr (9, [.ref h8, .int (iI q), .int (iI g), .int (iI z)])), (h8, .inr (8, [.ref b0, .int (iI L)])), (b0, .inl (T 0, 600, .inl (fun j : Nat => iI (Tb j))))]) rfl rfl rfl rfl rfl rfl ?_
                    refine j_aload_n h dX9_next_146 0 rfl rfl ?_
                    refine j_get h dX9_next_147 f_X9_next_11 0 rfl rfl ?_
                    refine j_icmp_ne h 166 dX9_next_150 (by decide) (by omega) (by omega) (fun c423 => ?_) (fun c423 => ?_)
                    · skip
                      exact hr _ _ _ dX9_next_166 (show ([(h9, .inr (9, [.ref h8, .int (iI q), .int (iI g), .int (iI z)])), (h8, .inr (8, [.ref b0, .int (iI L)])), (b0, .inl (T 0, 600, .inl (fun j : Nat => iI (Tb j))))] : va_W) = [(h9, .inr (9, [.ref h8, .int (iI (tkK Tb L (tkF Tb L e))), .int (iI (tkF Tb L e)), .int (iI (tkE Tb L (tkF Tb L e)))])), (h8, .inr (8, [.ref b0, .int (iI L)])), (b0, .inl (T 0, 600, .inl (fun j : Nat => iI (Tb j))))] by rw [nxI_end hx (by omega), hx.1, hgg])
                    · skip
                      refine j_aload_n h dX9_next_153 0 rfl rfl ?_
                      refine j_dup h dX9_next_154 rfl ?_
                      refine j_get h dX9_next_155 f_X9_next_18 0 rfl rfl ?_
                      refine j_iconst h dX9_next_158 ?_
                      refine j_iadd h dX9_next_159 ?_
                      refine j_put (ws' := [(h9, .inr (9, [.ref h8, .int (iI q), .int (iI g), .int (iI (z + 1))])), (h8, .inr (8, [.ref b0, .int (iI L)])), (b0, .inl (T 0, 600, .inl (fun j : Nat => iI (Tb j))))]) h dX9_next_160 f_X9_next_18 p_X9_3 0 rfl rfl rfl (Nat.le_of_ble_eq_true rfl) rfl ?_
                      refine j_goto (tgt := 109) h dX9_next_163 (by decide) ?_
                      exact ih109 q (z + 1) (by exact nxI_s hx (by omega) (by omega) (by omega)) (by first | assumption | omega) (by first | assumption | omega) (by first | assumption | omega) (by omega)
            exact lp109 _ 0 g (by first | exact nxI_0 (by omega) (by omega) | exact nxI_1 (by omega)) (by rw [← hq]; first | exact (scI_e (by omega)).symm | exact (scI_f (by omega) (show bkP Tb g = false by assumption)).symm) (by first | assumption | omega) (by first | assumption | omega) (Nat.lt_succ_self _)
          · skip
            refine j_aload_n h dX9_next_80 0 rfl rfl ?_
            refine j_aload_n h dX9_next_81 0 rfl rfl ?_
            refine j_get h dX9_next_82 f_X9_next_21 0 rfl rfl ?_
            refine j_getN h dX9_next_85 f_X9_next_33 1 rfl rfl ?_
            refine j_aload_n h dX9_next_88 0 rfl rfl ?_
            refine j_get h dX9_next_89 f_X9_next_15 0 rfl rfl ?_
            refine j_iald (f := Tb) h g dX9_next_92 2 rfl (by decide) (by omega) (by omega) ?_
            have e424 := hT g
            refine j_callSi (As := [.int (iI (Tb g))]) (wr := [(h9, .inr (9, [.ref h8, .int (iI 0), .int (iI g), .int (iI g)])), (h8, .inr (8, [.ref b0, .int (iI L)])), (b0, .inl (T 0, 600, .inl (fun j : Nat => iI (Tb j))))]) (cells' := 0) (slots' := 0) h dX9_next_93 (ct_X9_kindOf T (Tb g) (by first | assumption | omega)) k_X9_kindOf gX9_next_X9_kindOf ⟨Nat.le_of_ble_eq_true rfl, Nat.le_of_ble_eq_true rfl⟩ rfl rfl (Nat.le_of_ble_eq_true rfl) ⟨Nat.le_of_ble_eq_true rfl, Nat.le_of_ble_eq_true rfl⟩ rfl rfl [] [0, 1, 2] rfl rfl rfl rfl (by decide) (fun r9 u9 p425 => ?_)
            obtain ⟨rfl, rfl⟩ := p425
            have hkd9 := kdT_rng (Tb g)
            refine j_eq (ws' := [(h9, .inr (9, [.ref h8, .int (iI 0), .int (iI g), .int (iI g)])), (h8, .inr (8, [.ref b0, .int (iI L)])), (b0, .inl (T 0, 600, .inl (fun j : Nat => iI (Tb j))))]) rfl rfl rfl rfl rfl rfl ?_
            refine j_put (ws' := [(h9, .inr (9, [.ref h8, .int (iI (kdT (Tb g))), .int (iI g), .int (iI g)])), (h8, .inr (8, [.ref b0, .int (iI L)])), (b0, .inl (T 0, 600, .inl (fun j : Nat => iI (Tb j))))]) h dX9_next_96 f_X9_next_11 p_X9_1 0 rfl rfl rfl (Nat.le_of_ble_eq_true rfl) rfl ?_
            refine j_aload_n h dX9_next_99 0 rfl rfl ?_
            refine j_dup h dX9_next_100 rfl ?_
            refine j_get h dX9_next_101 f_X9_next_18 0 rfl rfl ?_
            refine j_iconst h dX9_next_104 ?_
            refine j_iadd h dX9_next_105 ?_
            refine j_put (ws' := [(h9, .inr (9, [.ref h8, .int (iI (kdT (Tb g))), .int (iI g), .int (iI (g + 1))])), (h8, .inr (8, [.ref b0, .int (iI L)])), (b0, .inl (T 0, 600, .inl (fun j : Nat => iI (Tb j))))]) h dX9_next_106 f_X9_next_18 p_X9_3 0 rfl rfl rfl (Nat.le_of_ble_eq_true rfl) rfl ?_
            have lp109 : ∀ (n109 : Nat) (q : Int) (z : Int) (hx : nxI Tb L g q z) (hgg : g = tkF Tb L e) (hz : g ≤ z ∧ z ≤ L) (hqr : 0 ≤ q ∧ q ≤ 3), ((L - z).toNat) < n109 → J X 0 0 109 [(0, .ref h9)] [] [(h9, .inr (9, [.ref h8, .int (iI q), .int (iI g), .int (iI z)])), (h8, .inr (8, [.ref b0, .int (iI L)])), (b0, .inl (T 0, 600, .inl (fun j : Nat => iI (Tb j))))] := by
              intro n109
              induction n109 with
              | zero => exact fun q z hx hgg hz hqr hn109 => absurd hn109 (Nat.not_lt_zero _)
              | succ n109 ih109 =>
                intro q z hx hgg hz hqr hn109
                refine j_aload_n h dX9_next_109 0 rfl rfl ?_
                refine j_get h dX9_next_110 f_X9_next_11 0 rfl rfl ?_
                refine j_iconst h dX9_next_113 ?_
                refine j_icmp_eq h 166 dX9_next_114 (by decide) (by omega) (by omega) (fun c426 => ?_) (fun c426 => ?_)
                · skip
                  exact hr _ _ _ dX9_next_166 (show ([(h9, .inr (9, [.ref h8, .int (iI q), .int (iI g), .int (iI z)])), (h8, .inr (8, [.ref b0, .int (iI L)])), (b0, .inl (T 0, 600, .inl (fun j : Nat => iI (Tb j))))] : va_W) = [(h9, .inr (9, [.ref h8, .int (iI (tkK Tb L (tkF Tb L e))), .int (iI (tkF Tb L e)), .int (iI (tkE Tb L (tkF Tb L e)))])), (h8, .inr (8, [.ref b0, .int (iI L)])), (b0, .inl (T 0, 600, .inl (fun j : Nat => iI (Tb j))))] by rw [nxI_end hx (by omega), hx.1, hgg])
                · skip
                  refine j_aload_n h dX9_next_117 0 rfl rfl ?_
                  refine j_get h dX9_next_118 f_X9_next_18 0 rfl rfl ?_
                  refine j_aload_n h dX9_next_121 0 rfl rfl ?_
                  refine j_get h dX9_next_122 f_X9_next_21 0 rfl rfl ?_
                  refine j_getN h dX9_next_125 f_X9_next_28 1 rfl rfl ?_
                  refine j_icmp_ge h 166 dX9_next_128 (by decide) (by omega) (by omega) (fun c427 => ?_) (fun c427 => ?_)
                  · skip
                    exact hr _ _ _ dX9_next_166 (show ([(h9, .inr (9, [.ref h8, .int (iI q), .int (iI g), .int (iI z)])), (h8, .inr (8, [.ref b0, .int (iI L)])), (b0, .inl (T 0, 600, .inl (fun j : Nat => iI (Tb j))))] : va_W) = [(h9, .inr (9, [.ref h8, .int (iI (tkK Tb L (tkF Tb L e))), .int (iI (tkF Tb L e)), .int (iI (tkE Tb L (tkF Tb L e)))])), (h8, .inr (8, [.ref b0, .int (iI L)])), (b0, .inl (T 0, 600, .inl (fun j : Nat => iI (Tb j))))] by rw [nxI_end hx (by omega), hx.1, hgg])
                  · skip
                    refine j_aload_n h dX9_next_131 0 rfl rfl ?_
                    refine j_get h dX9_next_132 f_X9_next_21 0 rfl rfl ?_
                    refine j_getN h dX9_next_135 f_X9_next_33 1 rfl rfl ?_
                    refine j_aload_n h dX9_next_138 0 rfl rfl ?_
                    refine j_get h dX9_next_139 f_X9_next_18 0 rfl rfl ?_
                    refine j_iald (f := Tb) h z dX9_next_142 2 rfl (by decide) (by omega) (by omega) ?_
                    have e428 := hT z
                    refine j_callSi (As := [.int (iI (Tb z))]) (wr := [(h9, .inr (9, [.ref h8, .int (iI q), .int (iI g), .int (iI z)])), (h8, .inr (8, [.ref b0, .int (iI L)])), (b0, .inl (T 0, 600, .inl (fun j : Nat => iI (Tb j))))]) (cells' := 0) (slots' := 0) h dX9_next_143 (ct_X9_kindOf T (Tb z) (by first | assumption | omega)) k_X9_kindOf gX9_next_X9_kindOf ⟨Nat.le_of_ble_eq_true rfl, Nat.le_of_ble_eq_true rfl⟩ rfl rfl (Nat.le_of_ble_eq_true rfl) ⟨Nat.le_of_ble_eq_true rfl, Nat.le_of_ble_eq_true rfl⟩ rfl rfl [] [0, 1, 2] rfl rfl rfl rfl (by decide) (fun r9 u9 p429 => ?_)
                    obtain ⟨rfl, rfl⟩ := p429
                    have hkd9 := kdT_rng (Tb z)
                    refine j_eq (ws' := [(h9, .inr (9, [.ref h8, .int (iI q), .int (iI g), .int (iI z)])), (h8, .inr (8, [.ref b0, .int (iI L)])), (b0, .inl (T 0, 600, .inl (fun j : Nat => iI (Tb j))))]) rfl rfl rfl rfl rfl rfl ?_
                    refine j_aload_n h dX9_next_146 0 rfl rfl ?_
                    refine j_get h dX9_next_147 f_X9_next_11 0 rfl rfl ?_
                    refine j_icmp_ne h 166 dX9_next_150 (by decide) (by omega) (by omega) (fun c430 => ?_) (fun c430 => ?_)
                    · skip
                      exact hr _ _ _ dX9_next_166 (show ([(h9, .inr (9, [.ref h8, .int (iI q), .int (iI g), .int (iI z)])), (h8, .inr (8, [.ref b0, .int (iI L)])), (b0, .inl (T 0, 600, .inl (fun j : Nat => iI (Tb j))))] : va_W) = [(h9, .inr (9, [.ref h8, .int (iI (tkK Tb L (tkF Tb L e))), .int (iI (tkF Tb L e)), .int (iI (tkE Tb L (tkF Tb L e)))])), (h8, .inr (8, [.ref b0, .int (iI L)])), (b0, .inl (T 0, 600, .inl (fun j : Nat => iI (Tb j))))] by rw [nxI_end hx (by omega), hx.1, hgg])
                    · skip
                      refine j_aload_n h dX9_next_153 0 rfl rfl ?_
                      refine j_dup h dX9_next_154 rfl ?_
                      refine j_get h dX9_next_155 f_X9_next_18 0 rfl rfl ?_
                      refine j_iconst h dX9_next_158 ?_
                      refine j_iadd h dX9_next_159 ?_
                      refine j_put (ws' := [(h9, .inr (9, [.ref h8, .int (iI q), .int (iI g), .int (iI (z + 1))])), (h8, .inr (8, [.ref b0, .int (iI L)])), (b0, .inl (T 0, 600, .inl (fun j : Nat => iI (Tb j))))]) h dX9_next_160 f_X9_next_18 p_X9_3 0 rfl rfl rfl (Nat.le_of_ble_eq_true rfl) rfl ?_
                      refine j_goto (tgt := 109) h dX9_next_163 (by decide) ?_
                      exact ih109 q (z + 1) (by exact nxI_s hx (by omega) (by omega) (by omega)) (by first | assumption | omega) (by first | assumption | omega) (by first | assumption | omega) (by omega)
            exact lp109 _ (kdT (Tb g)) (g + 1) (by first | exact nxI_0 (by omega) (by omega) | exact nxI_1 (by omega)) (by rw [← hq]; first | exact (scI_e (by omega)).symm | exact (scI_f (by omega) (show bkP Tb g = false by assumption)).symm) (by first | assumption | omega) (by first | assumption | omega) (Nat.lt_succ_self _)
        · skip
          refine j_aload_n h dX9_next_40 0 rfl rfl ?_
          refine j_dup h dX9_next_41 rfl ?_
          refine j_get h dX9_next_42 f_X9_next_15 0 rfl rfl ?_
          refine j_iconst h dX9_next_45 ?_
          refine j_iadd h dX9_next_46 ?_
          refine j_put (ws' := [(h9, .inr (9, [.ref h8, .int (iI k), .int (iI (g + 1)), .int (iI e)])), (h8, .inr (8, [.ref b0, .int (iI L)])), (b0, .inl (T 0, 600, .inl (fun j : Nat => iI (Tb j))))]) h dX9_next_47 f_X9_next_15 p_X9_2 0 rfl rfl rfl (Nat.le_of_ble_eq_true rfl) rfl ?_
          refine j_goto (tgt := 8) h dX9_next_50 (by decide) ?_
          exact ih8 (g + 1) (by first | assumption | omega) (by rw [← scI_t (by omega) (show bkP Tb g = true from c417)]; exact hq) (by omega)
  exact lp8 _ e (by first | assumption | omega) (by rfl) (Nat.lt_succ_self _)

abbrev rmX9_begin : Room := { frames := 3, cells := 0, slots := 0, locals := 62 }
theorem in_X9_begin_X9 : ∀ w ∈ u_ws RX9 TX9 4, w ∈ wsX9_begin := fun w hw => List.mem_cons_of_mem _ (List.mem_append_left _ (List.mem_append_right _ (hw)))
theorem f_X9_begin_18 : FlOK RX9 18 wsX9_begin 9 3 := ⟨_, _, _, rfl, by decide, in_X9_begin_X9, List.mem_of_getElem? (i := 1) rfl⟩
theorem k_X9_next : CkOK yX9_next wsX9_next rmX9_next 0 0 cX9_next 1 none 0 := ⟨⟨_, rfl⟩, rfl, rfl, by decide +kernel⟩
set_option maxHeartbeats 600000 in
set_option maxRecDepth 100000 in
theorem ct_X9_begin (T : Nat → ClassId) (h9 : Nat) (h8 : Nat) (b0 : Nat) (L : Int) (Tb : Int → Int) (k : Int) (f : Int) (e : Int) (hT : TOK Tb) (hL : 0 ≤ L ∧ L ≤ 600) : CtV T yX9_begin wsX9_begin rmX9_begin 0 0 [.ref h9] [(h9, .inr (9, [.ref h8, .int (iI k), .int (iI f), .int (iI e)])), (h8, .inr (8, [.ref b0, .int (iI L)])), (b0, .inl (T 0, 600, .inl (fun j : Nat => iI (Tb j))))] (fun u => u = [(h9, .inr (9, [.ref h8, .int (iI (tkK Tb L (tkF Tb L 0))), .int (iI (tkF Tb L 0)), .int (iI (tkE Tb L (tkF Tb L 0)))])), (h8, .inr (8, [.ref b0, .int (iI L)])), (b0, .inl (T 0, 600, .inl (fun j : Nat => iI (Tb j))))]) := by
  refine ctV_of (cc := cX9_begin) (maxL := 1) (ret := none) (by decide +kernel) rfl rfl (Nat.le_of_ble_eq_true rfl) (fun X h hinit hr => ?_)
  refine j_eq (lv' := [(0, .ref h9)]) rfl rfl rfl rfl rfl rfl ?_
  refine j_aload_n h dX9_begin_0 0 rfl rfl ?_
  refine j_iconst h dX9_begin_1 ?_
  refine j_put (ws' := [(h9, .inr (9, [.ref h8, .int (iI k), .int (iI f), .int (iI 0)])), (h8, .inr (8, [.ref b0, .int (iI L)])), (b0, .inl (T 0, 600, .inl (fun j : Nat => iI (Tb j))))]) h dX9_begin_2 f_X9_begin_18 p_X9_3 0 rfl rfl rfl (Nat.le_of_ble_eq_true rfl) rfl ?_
  refine j_aload_n h dX9_begin_5 0 rfl rfl ?_
  refine j_callVv (As := []) (wr := []) (cells' := 0) (slots' := 0) h dX9_begin_6 (ct_X9_next T h9 h8 b0 L Tb k f 0 (by first | assumption | omega) (by first | assumption | omega) (by first | assumption | omega)) k_X9_next gX9_begin_X9_next rfl rfl 0 rfl ⟨Nat.le_of_ble_eq_true rfl, Nat.le_of_ble_eq_true rfl⟩ rfl rfl (Nat.le_of_ble_eq_true rfl) ⟨Nat.le_of_ble_eq_true rfl, Nat.le_of_ble_eq_true rfl⟩ rfl rfl [0, 1, 2] [] rfl rfl rfl rfl (by decide) (fun u9 p1 => ?_)
  obtain rfl := p1
  have htf9 := @tkF_rng Tb L 0 (by omega)
  have hte9 := @tkE_rng Tb L (tkF Tb L 0) (by omega)
  have htk9 := tkK_rng Tb L (tkF Tb L 0)
  refine j_eq (ws' := [(h9, .inr (9, [.ref h8, .int (iI (tkK Tb L (tkF Tb L 0))), .int (iI (tkF Tb L 0)), .int (iI (tkE Tb L (tkF Tb L 0)))])), (h8, .inr (8, [.ref b0, .int (iI L)])), (b0, .inl (T 0, 600, .inl (fun j : Nat => iI (Tb j))))]) rfl rfl rfl rfl rfl rfl ?_
  exact hr _ _ _ dX9_begin_9 rfl

abbrev rmX9_isWord : Room := { frames := 4, cells := 0, slots := 0, locals := 85 }
theorem in_X9_isWord_X9 : ∀ w ∈ u_ws RX9 TX9 4, w ∈ wsX9_isWord := fun w hw => List.mem_cons_of_mem _ (List.mem_append_left _ (List.mem_append_right _ (hw)))
theorem f_X9_isWord_11 : FlOK RX9 11 wsX9_isWord 9 1 := ⟨_, _, _, rfl, by decide, in_X9_isWord_X9, List.mem_of_getElem? (i := 1) rfl⟩
theorem f_X9_isWord_18 : FlOK RX9 18 wsX9_isWord 9 3 := ⟨_, _, _, rfl, by decide, in_X9_isWord_X9, List.mem_of_getElem? (i := 2) rfl⟩
theorem f_X9_isWord_15 : FlOK RX9 15 wsX9_isWord 9 2 := ⟨_, _, _, rfl, by decide, in_X9_isWord_X9, List.mem_of_getElem? (i := 3) rfl⟩
theorem k_J0_length_8abf5 : CkOK yJ0_length_8abf5 wsJ0_length_8abf5 rmJ0_length_8abf5 0 0 cJ0_length_8abf5 1 (some .int) 0 := ⟨⟨_, rfl⟩, rfl, rfl, by decide +kernel⟩
theorem f_X9_isWord_21 : FlOK RX9 21 wsX9_isWord 9 0 := ⟨_, _, _, rfl, by decide, in_X9_isWord_X9, List.mem_of_getElem? (i := 4) rfl⟩
theorem in_X9_isWord_X8 : ∀ w ∈ u_ws RX8 TX8 2, w ∈ wsX9_isWord := fun w hw => List.mem_cons_of_mem _ (List.mem_append_right _ (hw))
theorem f_X9_isWord_33 : FnOK RX9 33 wsX9_isWord 8 0 := ⟨_, _, _, "LayerShop", rfl, by decide, in_X9_isWord_X8, List.mem_of_getElem? (i := 34) rfl⟩
theorem k_J0_charAt_5068e : CkOK yJ0_charAt_5068e wsJ0_charAt_5068e rmJ0_charAt_5068e 0 0 cJ0_charAt_5068e 2 (some .char) 1 := ⟨⟨_, rfl⟩, rfl, rfl, by decide +kernel⟩
set_option maxHeartbeats 600000 in
set_option maxRecDepth 100000 in
/-- whether the token is a word -/
theorem ct_X9_isWord (T : Nat → ClassId) (h9 : Nat) (h8 : Nat) (b0 : Nat) (L : Int) (Tb : Int → Int) (k : Int) (f : Int) (e : Int) (kk : Nat) (hT : TOK Tb) (hL : 0 ≤ L ∧ L ≤ 600) (hk : 0 ≤ k ∧ k ≤ 3) (hf : 0 ≤ f ∧ f ≤ e ∧ e ≤ L) (hk0 : (¬ k = 0 → f < e)) (hkk : kk < 24) : CtI T yX9_isWord wsX9_isWord rmX9_isWord 0 0 [.ref h9, .ref (T (100 + kk))] [(h9, .inr (9, [.ref h8, .int (iI k), .int (iI f), .int (iI e)])), (h8, .inr (8, [.ref b0, .int (iI L)])), (b0, .inl (T 0, 600, .inl (fun j : Nat => iI (Tb j))))] (fun r8 u => r8 = (iI (bI (wdS Tb k f e kk))) ∧ u = [(h9, .inr (9, [.ref h8, .int (iI k), .int (iI f), .int (iI e)])), (h8, .inr (8, [.ref b0, .int (iI L)])), (b0, .inl (T 0, 600, .inl (fun j : Nat => iI (Tb j))))]) := by
  refine ctI_of (cc := cX9_isWord) (maxL := 3) (ret := (some .boolean)) (by decide +kernel) rfl rfl (fun r u hp => by obtain ⟨rfl, -⟩ := hp; exact nz_bool _) (Nat.le_of_ble_eq_true rfl) (fun X h hinit hr => ?_)
  refine j_eq (lv' := [(0, .ref h9), (1, .ref (T (100 + kk)))]) rfl rfl rfl rfl rfl rfl ?_
  refine j_aload_n h dX9_isWord_0 0 rfl rfl ?_
  refine j_get h dX9_isWord_1 f_X9_isWord_11 0 rfl rfl ?_
  refine j_iconst h dX9_isWord_4 ?_
  refine j_icmp_ne h 24 dX9_isWord_5 (by decide) (by omega) (by omega) (fun c1 => ?_) (fun c1 => ?_)
  · skip
    refine j_iconst h dX9_isWord_24 ?_
    exact hr _ _ _ _ dX9_isWord_25 ⟨(congrArg (fun b9 => iI (bI b9)) (show false = (wdS Tb k f e kk) by unfold wdS; first | (rw [decide_eq_false (by omega)]; rfl) | (rw [decide_eq_true (by omega), ← hq]; first | (rw [anI_e (by omega)]; rfl) | (rw [anI_t (by omega) (show wdP Tb f kk i = true from decide_eq_true (by first | exact c1 | omega))]; rfl)))), rfl⟩
  · skip
    refine j_aload_n h dX9_isWord_8 0 rfl rfl ?_
    refine j_get h dX9_isWord_9 f_X9_isWord_18 0 rfl rfl ?_
    refine j_aload_n h dX9_isWord_12 0 rfl rfl ?_
    refine j_get h dX9_isWord_13 f_X9_isWord_15 0 rfl rfl ?_
    refine j_isub h dX9_isWord_16 ?_
    refine j_aload_n h dX9_isWord_17 1 rfl rfl ?_
    refine j_callVSi (As := []) (wr := [(h9, .inr (9, [.ref h8, .int (iI k), .int (iI f), .int (iI e)])), (h8, .inr (8, [.ref b0, .int (iI L)])), (b0, .inl (T 0, 600, .inl (fun j : Nat => iI (Tb j))))]) (cells' := 0) (slots' := 0) h dX9_isWord_18 (ct_J0_length_8abf5 T kk (by first | assumption | omega)) k_J0_length_8abf5 gX9_isWord_J0_length_8abf5 rfl rfl (by omega) ⟨Nat.le_of_ble_eq_true rfl, Nat.le_of_ble_eq_true rfl⟩ rfl rfl (Nat.le_of_ble_eq_true rfl) ⟨Nat.le_of_ble_eq_true rfl, Nat.le_of_ble_eq_true rfl⟩ rfl rfl [] [0, 1, 2] rfl rfl rfl rfl (by decide) (fun r9 u9 p2 => ?_)
    obtain ⟨rfl, rfl⟩ := p2
    have hsl9 := slen_rng (kk := kk) (by omega)
    refine j_eq (ws' := [(h9, .inr (9, [.ref h8, .int (iI k), .int (iI f), .int (iI e)])), (h8, .inr (8, [.ref b0, .int (iI L)])), (b0, .inl (T 0, 600, .inl (fun j : Nat => iI (Tb j))))]) rfl rfl rfl rfl rfl rfl ?_
    refine j_icmp_eq h 26 dX9_isWord_21 (by decide) (by omega) (by omega) (fun c3 => ?_) (fun c3 => ?_)
    · skip
      refine j_iconst h dX9_isWord_26 ?_
      refine j_istore_n (lv' := [(0, .ref h9), (1, .ref (T (100 + kk))), (2, .int (iI 0))]) h dX9_isWord_27 [1, 2, 0] rfl (by decide) rfl ?_
      have lp28 : ∀ (n28 : Nat) (i : Int) (hi : 0 ≤ i ∧ i ≤ slen kk) (hq : anI (wdP Tb f kk) i (slen kk) = anI (wdP Tb f kk) 0 (slen kk)), ((slen kk - i).toNat) < n28 → J X 0 0 28 [(0, .ref h9), (1, .ref (T (100 + kk))), (2, .int (iI i))] [] [(h9, .inr (9, [.ref h8, .int (iI k), .int (iI f), .int (iI e)])), (h8, .inr (8, [.ref b0, .int (iI L)])), (b0, .inl (T 0, 600, .inl (fun j : Nat => iI (Tb j))))] := by
        intro n28
        induction n28 with
        | zero => exact fun i hi hq hn28 => absurd hn28 (Nat.not_lt_zero _)
        | succ n28 ih28 =>
          intro i hi hq hn28
          refine j_iload_n h dX9_isWord_28 2 rfl rfl ?_
          refine j_aload_n h dX9_isWord_29 1 rfl rfl ?_
          refine j_callVSi (As := []) (wr := [(h9, .inr (9, [.ref h8, .int (iI k), .int (iI f), .int (iI e)])), (h8, .inr (8, [.ref b0, .int (iI L)])), (b0, .inl (T 0, 600, .inl (fun j : Nat => iI (Tb j))))]) (cells' := 0) (slots' := 0) h dX9_isWord_30 (ct_J0_length_8abf5 T kk (by first | assumption | omega)) k_J0_length_8abf5 gX9_isWord_J0_length_8abf5 rfl rfl (by omega) ⟨Nat.le_of_ble_eq_true rfl, Nat.le_of_ble_eq_true rfl⟩ rfl rfl (Nat.le_of_ble_eq_true rfl) ⟨Nat.le_of_ble_eq_true rfl, Nat.le_of_ble_eq_true rfl⟩ rfl rfl [] [0, 1, 2] rfl rfl rfl rfl (by decide) (fun r9 u9 p4 => ?_)
          obtain ⟨rfl, rfl⟩ := p4
          have hsl9 := slen_rng (kk := kk) (by omega)
          refine j_eq (ws' := [(h9, .inr (9, [.ref h8, .int (iI k), .int (iI f), .int (iI e)])), (h8, .inr (8, [.ref b0, .int (iI L)])), (b0, .inl (T 0, 600, .inl (fun j : Nat => iI (Tb j))))]) rfl rfl rfl rfl rfl rfl ?_
          refine j_icmp_ge h 66 dX9_isWord_33 (by decide) (by omega) (by omega) (fun c5 => ?_) (fun c5 => ?_)
          · skip
            refine j_iconst h dX9_isWord_66 ?_
            exact hr _ _ _ _ dX9_isWord_67 ⟨(congrArg (fun b9 => iI (bI b9)) (show true = (wdS Tb k f e kk) by unfold wdS; first | (rw [decide_eq_false (by omega)]; rfl) | (rw [decide_eq_true (by omega), ← hq]; first | (rw [anI_e (by omega)]; rfl) | (rw [anI_t (by omega) (show wdP Tb f kk i = true from decide_eq_true (by first | exact c5 | omega))]; rfl)))), rfl⟩
          · skip
            refine j_aload_n h dX9_isWord_36 0 rfl rfl ?_
            refine j_get h dX9_isWord_37 f_X9_isWord_21 0 rfl rfl ?_
            refine j_getN h dX9_isWord_40 f_X9_isWord_33 1 rfl rfl ?_
            refine j_aload_n h dX9_isWord_43 0 rfl rfl ?_
            refine j_get h dX9_isWord_44 f_X9_isWord_15 0 rfl rfl ?_
            refine j_iload_n h dX9_isWord_47 2 rfl rfl ?_
            refine j_iadd h dX9_isWord_48 ?_
            refine j_iald (f := Tb) h (f + i) dX9_isWord_49 2 rfl (by decide) (by omega) (by omega) ?_
            have e6 := hT (f + i)
            refine j_aload_n h dX9_isWord_50 1 rfl rfl ?_
            refine j_iload_n h dX9_isWord_51 2 rfl rfl ?_
            refine j_callVSi (As := [.int (iI i)]) (wr := [(h9, .inr (9, [.ref h8, .int (iI k), .int (iI f), .int (iI e)])), (h8, .inr (8, [.ref b0, .int (iI L)])), (b0, .inl (T 0, 600, .inl (fun j : Nat => iI (Tb j))))]) (cells' := 0) (slots' := 0) h dX9_isWord_52 (ct_J0_charAt_5068e T kk i (by first | assumption | omega) (by first | assumption | omega)) k_J0_charAt_5068e gX9_isWord_J0_charAt_5068e rfl rfl (by omega) ⟨Nat.le_of_ble_eq_true rfl, Nat.le_of_ble_eq_true rfl⟩ rfl rfl (Nat.le_of_ble_eq_true rfl) ⟨Nat.le_of_ble_eq_true rfl, Nat.le_of_ble_eq_true rfl⟩ rfl rfl [] [0, 1, 2] rfl rfl rfl rfl (by decide) (fun r9 u9 p7 => ?_)
            obtain ⟨rfl, rfl⟩ := p7
            have hsc9 := sch_rng (kk := kk) (i := i) (by omega) (by omega)
            refine j_eq (ws' := [(h9, .inr (9, [.ref h8, .int (iI k), .int (iI f), .int (iI e)])), (h8, .inr (8, [.ref b0, .int (iI L)])), (b0, .inl (T 0, 600, .inl (fun j : Nat => iI (Tb j))))]) rfl rfl rfl rfl rfl rfl ?_
            refine j_icmp_eq h 60 dX9_isWord_55 (by decide) (by omega) (by omega) (fun c8 => ?_) (fun c8 => ?_)
            · skip
              refine j_iinc (lv' := [(0, .ref h9), (1, .ref (T (100 + kk))), (2, .int (iI (i + 1)))]) h dX9_isWord_60 2 [1, 2, 0] rfl (by decide) rfl ?_
              refine j_goto (tgt := 28) h dX9_isWord_63 (by decide) ?_
              exact ih28 (i + 1) (by first | assumption | omega) (by rw [← anI_f (by omega) (show wdP Tb f kk i = false from decide_eq_false (fun z9 => z9 (by first | exact c8 | omega)))]; exact hq) (by omega)
            · skip
              refine j_iconst h dX9_isWord_58 ?_
              exact hr _ _ _ _ dX9_isWord_59 ⟨(congrArg (fun b9 => iI (bI b9)) (show false = (wdS Tb k f e kk) by unfold wdS; first | (rw [decide_eq_false (by omega)]; rfl) | (rw [decide_eq_true (by omega), ← hq]; first | (rw [anI_e (by omega)]; rfl) | (rw [anI_t (by omega) (show wdP Tb f kk i = true from decide_eq_true (by first | exact c8 | omega))]; rfl)))), rfl⟩
      exact lp28 _ 0 (by first | assumption | omega) (by rfl) (Nat.lt_succ_self _)
    · skip
      refine j_iconst h dX9_isWord_24 ?_
      exact hr _ _ _ _ dX9_isWord_25 ⟨(congrArg (fun b9 => iI (bI b9)) (show false = (wdS Tb k f e kk) by unfold wdS; first | (rw [decide_eq_false (by omega)]; rfl) | (rw [decide_eq_true (by omega), ← hq]; first | (rw [anI_e (by omega)]; rfl) | (rw [anI_t (by omega) (show wdP Tb f kk i = true from decide_eq_true (by first | exact c3 | omega))]; rfl)))), rfl⟩

abbrev rmX9_stepWord : Room := { frames := 5, cells := 0, slots := 0, locals := 107 }
theorem k_X11_nameOf : CkOK yX11_nameOf wsX11_nameOf rmX11_nameOf 0 0 cX11_nameOf 1 (some (.object "java/lang/String")) 1 := ⟨⟨_, rfl⟩, rfl, rfl, by decide +kernel⟩
theorem k_X9_isWord : CkOK yX9_isWord wsX9_isWord rmX9_isWord 0 0 cX9_isWord 3 (some .boolean) 1 := ⟨⟨_, rfl⟩, rfl, rfl, by decide +kernel⟩
set_option maxHeartbeats 600000 in
set_option maxRecDepth 100000 in
/-- the word of a step -/
theorem ct_X9_stepWord (T : Nat → ClassId) (h9 : Nat) (h8 : Nat) (b0 : Nat) (L : Int) (Tb : Int → Int) (k : Int) (f : Int) (e : Int) (hT : TOK Tb) (hL : 0 ≤ L ∧ L ≤ 600) (hk : 0 ≤ k ∧ k ≤ 3) (hf : 0 ≤ f ∧ f ≤ e ∧ e ≤ L) (hk0 : (¬ k = 0 → f < e)) : CtI T yX9_stepWord wsX9_stepWord rmX9_stepWord 0 0 [.ref h9] [(h9, .inr (9, [.ref h8, .int (iI k), .int (iI f), .int (iI e)])), (h8, .inr (8, [.ref b0, .int (iI L)])), (b0, .inl (T 0, 600, .inl (fun j : Nat => iI (Tb j))))] (fun r8 u => r8 = (iI (swS Tb k f e)) ∧ u = [(h9, .inr (9, [.ref h8, .int (iI k), .int (iI f), .int (iI e)])), (h8, .inr (8, [.ref b0, .int (iI L)])), (b0, .inl (T 0, 600, .inl (fun j : Nat => iI (Tb j))))]) := by
  refine ctI_of (cc := cX9_stepWord) (maxL := 2) (ret := (some .int)) (by decide +kernel) rfl rfl (fun r u hp => by obtain ⟨rfl, -⟩ := hp; rfl) (Nat.le_of_ble_eq_true rfl) (fun X h hinit hr => ?_)
  refine j_eq (lv' := [(0, .ref h9)]) rfl rfl rfl rfl rfl rfl ?_
  refine j_iconst h dX9_stepWord_0 ?_
  refine j_istore_n (lv' := [(0, .ref h9), (1, .int (iI 0))]) h dX9_stepWord_1 [1, 0] rfl (by decide) rfl ?_
  have lp2 : ∀ (n2 : Nat) (w : Int) (hw : 0 ≤ w ∧ w ≤ 14) (hq : fuI (fun w9 => wdS Tb k f e w9.toNat) w 14 = swS Tb k f e), ((14 - w).toNat) < n2 → J X 0 0 2 [(0, .ref h9), (1, .int (iI w))] [] [(h9, .inr (9, [.ref h8, .int (iI k), .int (iI f), .int (iI e)])), (h8, .inr (8, [.ref b0, .int (iI L)])), (b0, .inl (T 0, 600, .inl (fun j : Nat => iI (Tb j))))] := by
    intro n2
    induction n2 with
    | zero => exact fun w hw hq hn2 => absurd hn2 (Nat.not_lt_zero _)
    | succ n2 ih2 =>
      intro w hw hq hn2
      refine j_iload_n h dX9_stepWord_2 1 rfl rfl ?_
      refine j_bipush h dX9_stepWord_3 (by decide) ?_
      refine j_icmp_ge h 27 dX9_stepWord_5 (by decide) (by omega) (by omega) (fun c1 => ?_) (fun c1 => ?_)
      · skip
        refine j_iconst h dX9_stepWord_27 ?_
        exact hr _ _ _ _ dX9_stepWord_28 ⟨(congrArg iI (show (-1 : Int) = (swS Tb k f e) by rw [← hq]; first | (rw [fuI_e (by omega)]; done) | exact (fuI_t (P := (fun w9 => wdS Tb k f e w9.toNat)) (by omega) c1).symm)), rfl⟩
      · skip
        refine j_aload_n h dX9_stepWord_8 0 rfl rfl ?_
        refine j_iload_n h dX9_stepWord_9 1 rfl rfl ?_
        refine j_callSNr (As := [.int (iI w)]) (wr := [(h9, .inr (9, [.ref h8, .int (iI k), .int (iI f), .int (iI e)])), (h8, .inr (8, [.ref b0, .int (iI L)])), (b0, .inl (T 0, 600, .inl (fun j : Nat => iI (Tb j))))]) (cells' := 0) (slots' := 0) h dX9_stepWord_10 (ct_X11_nameOf T w (by first | assumption | omega)) k_X11_nameOf gX9_stepWord_X11_nameOf_n45 (List.mem_of_getElem? (i := 12) rfl) (List.mem_of_getElem? (i := 2) rfl) (List.mem_of_getElem? (i := 1) rfl) ⟨Nat.le_of_ble_eq_true rfl, Nat.le_of_ble_eq_true rfl⟩ rfl rfl (Nat.le_of_ble_eq_true rfl) ⟨Nat.le_of_ble_eq_true rfl, Nat.le_of_ble_eq_true rfl⟩ rfl rfl [] [0, 1, 2] rfl rfl rfl rfl (by decide) (fun r9 u9 p2 => ?_)
        obtain ⟨rfl, rfl⟩ := p2
        refine j_eq (ws' := [(h9, .inr (9, [.ref h8, .int (iI k), .int (iI f), .int (iI e)])), (h8, .inr (8, [.ref b0, .int (iI L)])), (b0, .inl (T 0, 600, .inl (fun j : Nat => iI (Tb j))))]) rfl rfl rfl rfl rfl rfl ?_
        refine j_callVi (As := [.ref (T (100 + w.toNat))]) (wr := []) (cells' := 0) (slots' := 0) h dX9_stepWord_13 (ct_X9_isWord T h9 h8 b0 L Tb k f e w.toNat (by first | assumption | omega) (by first | assumption | omega) (by first | assumption | omega) (by first | assumption | omega) (by first | assumption | omega) (by first | assumption | omega)) k_X9_isWord gX9_stepWord_X9_isWord rfl rfl 0 rfl ⟨Nat.le_of_ble_eq_true rfl, Nat.le_of_ble_eq_true rfl⟩ rfl rfl (Nat.le_of_ble_eq_true rfl) ⟨Nat.le_of_ble_eq_true rfl, Nat.le_of_ble_eq_true rfl⟩ rfl rfl [0, 1, 2] [] rfl rfl rfl rfl (by decide) (fun r9 u9 p3 => ?_)
        obtain ⟨rfl, rfl⟩ := p3
        refine j_eq (ws' := [(h9, .inr (9, [.ref h8, .int (iI k), .int (iI f), .int (iI e)])), (h8, .inr (8, [.ref b0, .int (iI L)])), (b0, .inl (T 0, 600, .inl (fun j : Nat => iI (Tb j))))]) rfl rfl rfl rfl rfl rfl ?_
        refine j_ifeqB h 21 dX9_stepWord_16 (by decide) (fun c4 => ?_) (fun c4 => ?_)
        · skip
          refine j_iinc (lv' := [(0, .ref h9), (1, .int (iI (w + 1)))]) h dX9_stepWord_21 1 [1, 0] rfl (by decide) rfl ?_
          refine j_goto (tgt := 2) h dX9_stepWord_24 (by decide) ?_
          exact ih2 (w + 1) (by first | assumption | omega) (by rw [← fuI_f (P := (fun w9 => wdS Tb k f e w9.toNat)) (by omega) c4]; exact hq) (by omega)
        · skip
          refine j_iload_n h dX9_stepWord_19 1 rfl rfl ?_
          exact hr _ _ _ _ dX9_stepWord_20 ⟨(congrArg iI (show (w : Int) = (swS Tb k f e) by rw [← hq]; first | (rw [fuI_e (by omega)]; done) | exact (fuI_t (P := (fun w9 => wdS Tb k f e w9.toNat)) (by omega) c4).symm)), rfl⟩
  exact lp2 _ 0 (by first | assumption | omega) (by rfl) (Nat.lt_succ_self _)

