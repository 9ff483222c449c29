abbrev rmX0_highest : Room := { frames := 0, cells := 0, slots := 0, locals := 0 }
theorem in_X0_highest_X0 : ∀ w ∈ u_ws RX0 TX0 1, w ∈ wsX0_highest := fun w hw => List.mem_cons_of_mem _ (List.mem_append_right _ (hw))
theorem f_X0_highest_9 : FlOK RX0 9 wsX0_highest 0 0 := ⟨_, _, _, rfl, by decide, in_X0_highest_X0, List.mem_of_getElem? (i := 1) rfl⟩
set_option maxHeartbeats 600000 in
set_option maxRecDepth 100000 in
/-- the highest height of a place that is not empty, or -1 -/
theorem ct_X0_highest (T : Nat → ClassId) (h0 : Nat) (c0 : Nat) (B : Int → Int) (p : Int) (hB : BOK B) (hp : 0 ≤ p ∧ p < 144) : CtI T yX0_highest wsX0_highest rmX0_highest 0 0 [.ref h0, .int (iI p)] [(h0, .inr (0, [.ref c0])), (c0, .inl (T 0, 2880, .inl (fun j : Nat => iI (B j))))] (fun r8 u => r8 = (iI (topS B p)) ∧ u = [(h0, .inr (0, [.ref c0])), (c0, .inl (T 0, 2880, .inl (fun j : Nat => iI (B j))))]) := by
  refine ctI_of (cc := cX0_highest) (maxL := 3) (ret := (some .int)) (by decide +kernel) rfl rfl (fun r u hp => by obtain ⟨rfl, -⟩ := hp; rfl) (Nat.le_of_ble_eq_true rfl) (fun X h hinit hr => ?_)
  refine j_eq (lv' := [(0, .ref h0), (1, .int (iI p))]) rfl rfl rfl rfl rfl rfl ?_
  refine j_bipush h dX0_highest_0 (by decide) ?_
  refine j_istore_n (lv' := [(0, .ref h0), (1, .int (iI p)), (2, .int (iI 19))]) h dX0_highest_2 [1, 2, 0] rfl (by decide) rfl ?_
  have lp3 : ∀ (n3 : Nat) (z : Int) (hz : -1 ≤ z ∧ z ≤ 19) (ha : ∀ y : Int, z < y → y ≤ 19 → B (144 * y + p) = 0), ((z + 1).toNat) < n3 → J X 0 0 3 [(0, .ref h0), (1, .int (iI p)), (2, .int (iI z))] [] [(h0, .inr (0, [.ref c0])), (c0, .inl (T 0, 2880, .inl (fun j : Nat => iI (B j))))] := by
    intro n3
    induction n3 with
    | zero => exact fun z hz ha hn3 => absurd hn3 (Nat.not_lt_zero _)
    | succ n3 ih3 =>
      intro z hz ha hn3
      refine j_iload_n h dX0_highest_3 2 rfl rfl ?_
      refine j_if_lt h 30 dX0_highest_4 (by decide) (by omega) (fun c1 => ?_) (fun c1 => ?_)
      · skip
        refine j_iconst h dX0_highest_30 ?_
        exact hr _ _ _ _ dX0_highest_31 ⟨(congrArg iI (show (-1 : Int) = topS B p by exact (topS_none (fun y h1 h2 => ha y (by omega) h2)).symm)), rfl⟩
      · skip
        refine j_aload_n h dX0_highest_7 0 rfl rfl ?_
        refine j_get h dX0_highest_8 f_X0_highest_9 0 rfl rfl ?_
        refine j_iload_n h dX0_highest_11 2 rfl rfl ?_
        refine j_sipush h dX0_highest_12 (by decide) ?_
        refine j_imul h dX0_highest_15 ?_
        refine j_iload_n h dX0_highest_16 1 rfl rfl ?_
        refine j_iadd h dX0_highest_17 ?_
        refine j_iald (f := B) h (144 * z + p) dX0_highest_18 1 rfl (by decide) (by omega) (by omega) ?_
        have e2 := hB (144 * z + p)
        refine j_if_eq h 24 dX0_highest_19 (by decide) (by omega) (fun c3 => ?_) (fun c3 => ?_)
        · skip
          refine j_iinc (lv' := [(0, .ref h0), (1, .int (iI p)), (2, .int (iI (z + (-1))))]) h dX0_highest_24 2 [1, 2, 0] rfl (by decide) rfl ?_
          refine j_goto (tgt := 3) h dX0_highest_27 (by decide) ?_
          exact ih3 (z + (-1)) (by first | assumption | omega) (by intro y h1 h2; by_cases q : y = z; (rw [q]; assumption); exact ha y (by omega) h2) (by omega)
        · skip
          refine j_iload_n h dX0_highest_22 2 rfl rfl ?_
          exact hr _ _ _ _ dX0_highest_23 ⟨(congrArg iI (show (z : Int) = topS B p by exact (topS_at (by omega) ha (by assumption)).symm)), rfl⟩
  exact lp3 _ 19 (by first | assumption | omega) (by intro y h1 h2; omega) (Nat.lt_succ_self _)

abbrev rmX0_count : Room := { frames := 1, cells := 0, slots := 0, locals := 21 }
theorem in_X0_count_X0 : ∀ w ∈ u_ws RX0 TX0 1, w ∈ wsX0_count := fun w hw => List.mem_cons_of_mem _ (List.mem_append_right _ (hw))
theorem f_X0_count_9 : FlOK RX0 9 wsX0_count 0 0 := ⟨_, _, _, rfl, by decide, in_X0_count_X0, List.mem_of_getElem? (i := 1) rfl⟩
theorem k_X11_hasKind : CkOK yX11_hasKind wsX11_hasKind rmX11_hasKind 0 0 cX11_hasKind 2 (some .boolean) 2 := ⟨⟨_, rfl⟩, rfl, rfl, by decide +kernel⟩
set_option maxHeartbeats 600000 in
set_option maxRecDepth 100000 in
/-- how many cubes are of a set of kinds -/
theorem ct_X0_count (T : Nat → ClassId) (h0 : Nat) (c0 : Nat) (B : Int → Int) (K : Int) (hB : BOK B) (hK : 0 ≤ K ∧ K ≤ 2147483647) : CtI T yX0_count wsX0_count rmX0_count 0 0 [.ref h0, .int (iI K)] [(h0, .inr (0, [.ref c0])), (c0, .inl (T 0, 2880, .inl (fun j : Nat => iI (B j))))] (fun r8 u => r8 = (iI (cntI (fun c => hk K (B c)) 2880)) ∧ u = [(h0, .inr (0, [.ref c0])), (c0, .inl (T 0, 2880, .inl (fun j : Nat => iI (B j))))]) := by
  refine ctI_of (cc := cX0_count) (maxL := 4) (ret := (some .int)) (by decide +kernel) rfl rfl (fun r u hp => by obtain ⟨rfl, -⟩ := hp; rfl) (Nat.le_of_ble_eq_true rfl) (fun X h hinit hr => ?_)
  refine j_eq (lv' := [(0, .ref h0), (1, .int (iI K))]) rfl rfl rfl rfl rfl rfl ?_
  refine j_iconst h dX0_count_0 ?_
  refine j_istore_n (lv' := [(0, .ref h0), (1, .int (iI K)), (2, .int (iI 0))]) h dX0_count_1 [1, 2, 0] rfl (by decide) rfl ?_
  refine j_iconst h dX0_count_2 ?_
  refine j_istore_n (lv' := [(0, .ref h0), (1, .int (iI K)), (2, .int (iI 0)), (3, .int (iI 0))]) h dX0_count_3 [1, 2, 3, 0] rfl (by decide) rfl ?_
  have lp4 : ∀ (n4 : Nat) (k : Int) (n : Int) (hk0 : 0 ≤ k ∧ k ≤ 2880) (hn : n = cntI (fun c => hk K (B c)) k), ((2880 - k).toNat) < n4 → J X 0 0 4 [(0, .ref h0), (1, .int (iI K)), (2, .int (iI n)), (3, .int (iI k))] [] [(h0, .inr (0, [.ref c0])), (c0, .inl (T 0, 2880, .inl (fun j : Nat => iI (B j))))] := by
    intro n4
    induction n4 with
    | zero => exact fun k n hk0 hn hn4 => absurd hn4 (Nat.not_lt_zero _)
    | succ n4 ih4 =>
      intro k n hk0 hn hn4
      have hn9 := cntI_rng (fun c => hk K (B c)) (k := k) (by omega)
      refine j_iload_n h dX0_count_4 3 rfl rfl ?_
      refine j_sipush h dX0_count_5 (by decide) ?_
      refine j_icmp_ge h 33 dX0_count_8 (by decide) (by omega) (by omega) (fun c1 => ?_) (fun c1 => ?_)
      · skip
        refine j_iload_n h dX0_count_33 2 rfl rfl ?_
        exact hr _ _ _ _ dX0_count_34 ⟨(congrArg iI (show (n : Int) = cntI (fun c => hk K (B c)) 2880 by rw [hn]; congr 1; omega)), rfl⟩
      · skip
        refine j_iload_n h dX0_count_11 1 rfl rfl ?_
        refine j_aload_n h dX0_count_12 0 rfl rfl ?_
        refine j_get h dX0_count_13 f_X0_count_9 0 rfl rfl ?_
        refine j_iload_n h dX0_count_16 3 rfl rfl ?_
        refine j_iald (f := B) h k dX0_count_17 1 rfl (by decide) (by omega) (by omega) ?_
        have e2 := hB k
        refine j_callSNi (As := [.int (iI K), .int (iI (B k))]) (wr := [(h0, .inr (0, [.ref c0])), (c0, .inl (T 0, 2880, .inl (fun j : Nat => iI (B j))))]) (cells' := 0) (slots' := 0) h dX0_count_18 (ct_X11_hasKind T K (B k) (by first | assumption | omega) (by first | assumption | omega)) k_X11_hasKind gX0_count_X11_hasKind_n15 (List.mem_of_getElem? (i := 4) rfl) (List.mem_of_getElem? (i := 3) rfl) (List.mem_of_getElem? (i := 2) rfl) ⟨Nat.le_of_ble_eq_true rfl, Nat.le_of_ble_eq_true rfl⟩ rfl rfl (Nat.le_of_ble_eq_true rfl) ⟨Nat.le_of_ble_eq_true rfl, Nat.le_of_ble_eq_true rfl⟩ rfl rfl [] [0, 1] rfl rfl rfl rfl (by decide) (fun r9 u9 p3 => ?_)
        obtain ⟨rfl, rfl⟩ := p3
        refine j_eq (ws' := [(h0, .inr (0, [.ref c0])), (c0, .inl (T 0, 2880, .inl (fun j : Nat => iI (B j))))]) rfl rfl rfl rfl rfl rfl ?_
        refine j_ifeqB h 27 dX0_count_21 (by decide) (fun c4 => ?_) (fun c4 => ?_)
        · skip
          refine j_iinc (lv' := [(0, .ref h0), (1, .int (iI K)), (2, .int (iI n)), (3, .int (iI (k + 1)))]) h dX0_count_27 3 [1, 2, 3, 0] rfl (by decide) rfl ?_
          refine j_goto (tgt := 4) h dX0_count_30 (by decide) ?_
          exact ih4 (k + 1) n (by first | assumption | omega) (by rw [cntI_f (by omega) (by assumption)]; exact hn) (by omega)
        · skip
          refine j_iinc (lv' := [(0, .ref h0), (1, .int (iI K)), (2, .int (iI (n + 1))), (3, .int (iI k))]) h dX0_count_24 2 [1, 2, 0, 3] rfl (by decide) rfl ?_
          refine j_iinc (lv' := [(0, .ref h0), (1, .int (iI K)), (2, .int (iI (n + 1))), (3, .int (iI (k + 1)))]) h dX0_count_27 3 [1, 2, 3, 0] rfl (by decide) rfl ?_
          refine j_goto (tgt := 4) h dX0_count_30 (by decide) ?_
          exact ih4 (k + 1) (n + 1) (by first | assumption | omega) (by rw [cntI_t (by omega) (by assumption)]; omega) (by omega)
  exact lp4 _ 0 0 (by first | assumption | omega) (by exact (cntI_0 _).symm) (Nat.lt_succ_self _)

abbrev rmX0_layOn : Room := { frames := 1, cells := 0, slots := 0, locals := 22 }
theorem k_X0_highest : CkOK yX0_highest wsX0_highest rmX0_highest 0 0 cX0_highest 3 (some .int) 1 := ⟨⟨_, rfl⟩, rfl, rfl, by decide +kernel⟩
theorem in_X0_layOn_X0 : ∀ w ∈ u_ws RX0 TX0 1, w ∈ wsX0_layOn := fun w hw => List.mem_cons_of_mem _ (List.mem_append_right _ (hw))
theorem f_X0_layOn_9 : FlOK RX0 9 wsX0_layOn 0 0 := ⟨_, _, _, rfl, by decide, in_X0_layOn_X0, List.mem_of_getElem? (i := 1) rfl⟩
set_option maxHeartbeats 600000 in
set_option maxRecDepth 100000 in
/-- n cubes from right above the top on -/
theorem ct_X0_layOn (T : Nat → ClassId) (h0 : Nat) (c0 : Nat) (B : Int → Int) (p : Int) (s : Int) (n : Int) (hB : BOK B) (hp : 0 ≤ p ∧ p < 144) (hn : 0 ≤ n ∧ n ≤ 20) : CtV T yX0_layOn wsX0_layOn rmX0_layOn 0 0 [.ref h0, .int (iI p), .int (iI s), .int (iI n)] [(h0, .inr (0, [.ref c0])), (c0, .inl (T 0, 2880, .inl (fun j : Nat => iI (B j))))] (fun u => u = [(h0, .inr (0, [.ref c0])), (c0, .inl (T 0, 2880, .inl (fun j : Nat => iI ((layS B p s n) j))))]) := by
  refine ctV_of (cc := cX0_layOn) (maxL := 6) (ret := none) (by decide +kernel) rfl rfl (Nat.le_of_ble_eq_true rfl) (fun X h hinit hr => ?_)
  refine j_eq (lv' := [(0, .ref h0), (1, .int (iI p)), (2, .int (iI s)), (3, .int (iI n))]) rfl rfl rfl rfl rfl rfl ?_
  refine j_aload_n h dX0_layOn_0 0 rfl rfl ?_
  refine j_iload_n h dX0_layOn_1 1 rfl rfl ?_
  refine j_callVi (As := [.int (iI p)]) (wr := []) (cells' := 0) (slots' := 0) h dX0_layOn_2 (ct_X0_highest T h0 c0 B p (by first | assumption | omega) (by first | assumption | omega)) k_X0_highest gX0_layOn_X0_highest rfl rfl 0 rfl ⟨Nat.le_of_ble_eq_true rfl, Nat.le_of_ble_eq_true rfl⟩ rfl rfl (Nat.le_of_ble_eq_true rfl) ⟨Nat.le_of_ble_eq_true rfl, Nat.le_of_ble_eq_true rfl⟩ rfl rfl [0, 1] [] rfl rfl rfl rfl (by decide) (fun r9 u9 p1 => ?_)
  obtain ⟨rfl, rfl⟩ := p1
  have hz9 := topS_rng B p
  refine j_eq (ws' := [(h0, .inr (0, [.ref c0])), (c0, .inl (T 0, 2880, .inl (fun j : Nat => iI (B j))))]) rfl rfl rfl rfl rfl rfl ?_
  refine j_iconst h dX0_layOn_5 ?_
  refine j_iadd h dX0_layOn_6 ?_
  refine j_istore (lv' := [(0, .ref h0), (1, .int (iI p)), (2, .int (iI s)), (3, .int (iI n)), (4, .int (iI (topS B p + 1)))]) h dX0_layOn_7 [1, 2, 3, 4, 0] (by decide) rfl ?_
  refine j_iload h dX0_layOn_9 4 rfl ?_
  refine j_istore (lv' := [(0, .ref h0), (1, .int (iI p)), (2, .int (iI s)), (3, .int (iI n)), (4, .int (iI (topS B p + 1))), (5, .int (iI (topS B p + 1)))]) h dX0_layOn_11 [1, 2, 3, 4, 5, 0] (by decide) rfl ?_
  have lp13 : ∀ (n13 : Nat) (z : Int) (hz : topS B p + 1 ≤ z ∧ z ≤ 20 ∧ z ≤ topS B p + 1 + n), ((20 - z).toNat) < n13 → J X 0 0 13 [(0, .ref h0), (1, .int (iI p)), (2, .int (iI s)), (3, .int (iI n)), (4, .int (iI (topS B p + 1))), (5, .int (iI z))] [] [(h0, .inr (0, [.ref c0])), (c0, .inl (T 0, 2880, .inl (fun j : Nat => iI ((layF B p s (topS B p + 1) z) j))))] := by
    intro n13
    induction n13 with
    | zero => exact fun z hz hn13 => absurd hn13 (Nat.not_lt_zero _)
    | succ n13 ih13 =>
      intro z hz hn13
      refine j_iload h dX0_layOn_13 5 rfl ?_
      refine j_iload h dX0_layOn_15 4 rfl ?_
      refine j_iload_n h dX0_layOn_17 3 rfl rfl ?_
      refine j_iadd h dX0_layOn_18 ?_
      refine j_icmp_ge h 49 dX0_layOn_19 (by decide) (by omega) (by omega) (fun c2 => ?_) (fun c2 => ?_)
      · skip
        exact hr _ _ _ dX0_layOn_49 (show ([(h0, .inr (0, [.ref c0])), (c0, .inl (T 0, 2880, .inl (fun j : Nat => iI ((layF B p s (topS B p + 1) z) j))))] : va_W) = [(h0, .inr (0, [.ref c0])), (c0, .inl (T 0, 2880, .inl (fun j : Nat => iI ((layS B p s n) j))))] by unfold layS; rw [show z = (if topS B p + 1 + n ≤ 20 then topS B p + 1 + n else 20) by split <;> omega])
      · skip
        refine j_iload h dX0_layOn_22 5 rfl ?_
        refine j_bipush h dX0_layOn_24 (by decide) ?_
        refine j_icmp_ge h 49 dX0_layOn_26 (by decide) (by omega) (by omega) (fun c3 => ?_) (fun c3 => ?_)
        · skip
          exact hr _ _ _ dX0_layOn_49 (show ([(h0, .inr (0, [.ref c0])), (c0, .inl (T 0, 2880, .inl (fun j : Nat => iI ((layF B p s (topS B p + 1) z) j))))] : va_W) = [(h0, .inr (0, [.ref c0])), (c0, .inl (T 0, 2880, .inl (fun j : Nat => iI ((layS B p s n) j))))] by unfold layS; rw [show z = (if topS B p + 1 + n ≤ 20 then topS B p + 1 + n else 20) by split <;> omega])
        · skip
          refine j_aload_n h dX0_layOn_29 0 rfl rfl ?_
          refine j_get h dX0_layOn_30 f_X0_layOn_9 0 rfl rfl ?_
          refine j_iload h dX0_layOn_33 5 rfl ?_
          refine j_sipush h dX0_layOn_35 (by decide) ?_
          refine j_imul h dX0_layOn_38 ?_
          refine j_iload_n h dX0_layOn_39 1 rfl rfl ?_
          refine j_iadd h dX0_layOn_40 ?_
          refine j_iload_n h dX0_layOn_41 2 rfl rfl ?_
          refine j_iast (f := layF B p s (topS B p + 1) z) (ws' := [(h0, .inr (0, [.ref c0])), (c0, .inl (T 0, 2880, .inl (fun j : Nat => iI ((upI (layF B p s (topS B p + 1) z) (144 * z + p) s) j))))]) h (144 * z + p) dX0_layOn_42 1 rfl (by decide) (by omega) (by omega) rfl ?_
          refine j_iinc (lv' := [(0, .ref h0), (1, .int (iI p)), (2, .int (iI s)), (3, .int (iI n)), (4, .int (iI (topS B p + 1))), (5, .int (iI (z + 1)))]) h dX0_layOn_43 5 [1, 2, 3, 4, 5, 0] rfl (by decide) rfl ?_
          refine j_goto (tgt := 13) h dX0_layOn_46 (by decide) ?_
          refine j_eq (ws' := [(h0, .inr (0, [.ref c0])), (c0, .inl (T 0, 2880, .inl (fun j : Nat => iI ((layF B p s (topS B p + 1) (z + 1)) j))))]) rfl rfl rfl rfl rfl (by rw [layF_s (by omega) (by omega) hp]) ?_
          exact ih13 (z + 1) (by first | assumption | omega) (by omega)
  refine j_eq (ws' := [(h0, .inr (0, [.ref c0])), (c0, .inl (T 0, 2880, .inl (fun j : Nat => iI ((layF B p s (topS B p + 1) (topS B p + 1)) j))))]) rfl rfl rfl rfl rfl (by rw [layF_0]) ?_
  exact lp13 _ (topS B p + 1) (by first | assumption | omega) (Nat.lt_succ_self _)

abbrev rmX0_cutDown : Room := { frames := 1, cells := 0, slots := 0, locals := 22 }
theorem in_X0_cutDown_X0 : ∀ w ∈ u_ws RX0 TX0 1, w ∈ wsX0_cutDown := fun w hw => List.mem_cons_of_mem _ (List.mem_append_right _ (hw))
theorem f_X0_cutDown_9 : FlOK RX0 9 wsX0_cutDown 0 0 := ⟨_, _, _, rfl, by decide, in_X0_cutDown_X0, List.mem_of_getElem? (i := 1) rfl⟩
set_option maxHeartbeats 600000 in
set_option maxRecDepth 100000 in
/-- n times the cube at the top goes, if it is of the kinds -/
theorem ct_X0_cutDown (T : Nat → ClassId) (h0 : Nat) (c0 : Nat) (B : Int → Int) (p : Int) (K : Int) (n : Int) (hB : BOK B) (hp : 0 ≤ p ∧ p < 144) (hK : 0 ≤ K ∧ K ≤ 2147483647) (hn : 0 ≤ n ∧ n ≤ 20) : CtV T yX0_cutDown wsX0_cutDown rmX0_cutDown 0 0 [.ref h0, .int (iI p), .int (iI K), .int (iI n)] [(h0, .inr (0, [.ref c0])), (c0, .inl (T 0, 2880, .inl (fun j : Nat => iI (B j))))] (fun u => u = [(h0, .inr (0, [.ref c0])), (c0, .inl (T 0, 2880, .inl (fun j : Nat => iI ((cutS B p K n.toNat) j))))]) := by
  refine ctV_of (cc := cX0_cutDown) (maxL := 6) (ret := none) (by decide +kernel) rfl rfl (Nat.le_of_ble_eq_true rfl) (fun X h hinit hr => ?_)
  refine j_eq (lv' := [(0, .ref h0), (1, .int (iI p)), (2, .int (iI K)), (3, .int (iI n))]) rfl rfl rfl rfl rfl rfl ?_
  refine j_iconst h dX0_cutDown_0 ?_
  refine j_istore (lv' := [(0, .ref h0), (1, .int (iI p)), (2, .int (iI K)), (3, .int (iI n)), (4, .int (iI 0))]) h dX0_cutDown_1 [1, 2, 3, 4, 0] (by decide) rfl ?_
  have lp3 : ∀ (n3 : Nat) (i : Int) (f : Int → Int) (hi : 0 ≤ i ∧ i ≤ n) (hf : BOK f) (he : cutS f p K (n - i).toNat = cutS B p K n.toNat), ((n - i).toNat) < n3 → J X 0 0 3 [(0, .ref h0), (1, .int (iI p)), (2, .int (iI K)), (3, .int (iI n)), (4, .int (iI i))] [] [(h0, .inr (0, [.ref c0])), (c0, .inl (T 0, 2880, .inl (fun j : Nat => iI (f j))))] := by
    intro n3
    induction n3 with
    | zero => exact fun i f hi hf he hn3 => absurd hn3 (Nat.not_lt_zero _)
    | succ n3 ih3 =>
      intro i f hi hf he hn3
      refine j_iload h dX0_cutDown_3 4 rfl ?_
      refine j_iload_n h dX0_cutDown_5 3 rfl rfl ?_
      refine j_icmp_ge h 63 dX0_cutDown_6 (by decide) (by omega) (by omega) (fun c1 => ?_) (fun c1 => ?_)
      · skip
        exact hr _ _ _ dX0_cutDown_63 (show ([(h0, .inr (0, [.ref c0])), (c0, .inl (T 0, 2880, .inl (fun j : Nat => iI (f j))))] : va_W) = [(h0, .inr (0, [.ref c0])), (c0, .inl (T 0, 2880, .inl (fun j : Nat => iI ((cutS B p K n.toNat) j))))] by rw [← he, show (n - i).toNat = 0 by omega]; rfl)
      · skip
        refine j_aload_n h dX0_cutDown_9 0 rfl rfl ?_
        refine j_iload_n h dX0_cutDown_10 1 rfl rfl ?_
        refine j_callVi (As := [.int (iI p)]) (wr := []) (cells' := 0) (slots' := 0) h dX0_cutDown_11 (ct_X0_highest T h0 c0 f p (by first | assumption | omega) (by first | assumption | omega)) k_X0_highest gX0_cutDown_X0_highest rfl rfl 0 rfl ⟨Nat.le_of_ble_eq_true rfl, Nat.le_of_ble_eq_true rfl⟩ rfl rfl (Nat.le_of_ble_eq_true rfl) ⟨Nat.le_of_ble_eq_true rfl, Nat.le_of_ble_eq_true rfl⟩ rfl rfl [0, 1] [] rfl rfl rfl rfl (by decide) (fun r9 u9 p2 => ?_)
        obtain ⟨rfl, rfl⟩ := p2
        have hz9 := topS_rng f p
        refine j_eq (ws' := [(h0, .inr (0, [.ref c0])), (c0, .inl (T 0, 2880, .inl (fun j : Nat => iI (f j))))]) rfl rfl rfl rfl rfl rfl ?_
        refine j_istore (lv' := [(0, .ref h0), (1, .int (iI p)), (2, .int (iI K)), (3, .int (iI n)), (4, .int (iI i)), (5, .int (iI (topS f p)))]) h dX0_cutDown_14 [1, 2, 3, 4, 5, 0] (by decide) rfl ?_
        refine j_iload h dX0_cutDown_16 5 rfl ?_
        refine j_iconst h dX0_cutDown_18 ?_
        refine j_icmp_eq h 42 dX0_cutDown_19 (by decide) (by omega) (by omega) (fun c3 => ?_) (fun c3 => ?_)
        · skip
          exact hr _ _ _ dX0_cutDown_42 (show ([(h0, .inr (0, [.ref c0])), (c0, .inl (T 0, 2880, .inl (fun j : Nat => iI (f j))))] : va_W) = [(h0, .inr (0, [.ref c0])), (c0, .inl (T 0, 2880, .inl (fun j : Nat => iI ((cutS B p K n.toNat) j))))] by rw [← he, cutS_top (by omega)])
        · skip
          refine j_iload_n h dX0_cutDown_22 2 rfl rfl ?_
          refine j_aload_n h dX0_cutDown_23 0 rfl rfl ?_
          refine j_get h dX0_cutDown_24 f_X0_cutDown_9 0 rfl rfl ?_
          refine j_iload h dX0_cutDown_27 5 rfl ?_
          refine j_sipush h dX0_cutDown_29 (by decide) ?_
          refine j_imul h dX0_cutDown_32 ?_
          refine j_iload_n h dX0_cutDown_33 1 rfl rfl ?_
          refine j_iadd h dX0_cutDown_34 ?_
          refine j_iald (f := f) h (144 * (topS f p) + p) dX0_cutDown_35 1 rfl (by decide) (by omega) (by omega) ?_
          have e4 := hf (144 * (topS f p) + p)
          refine j_callSNi (As := [.int (iI K), .int (iI (f (144 * (topS f p) + p)))]) (wr := [(h0, .inr (0, [.ref c0])), (c0, .inl (T 0, 2880, .inl (fun j : Nat => iI (f j))))]) (cells' := 0) (slots' := 0) h dX0_cutDown_36 (ct_X11_hasKind T K (f (144 * (topS f p) + p)) (by first | assumption | omega) (by first | assumption | omega)) k_X11_hasKind gX0_cutDown_X11_hasKind_n15 (List.mem_of_getElem? (i := 4) rfl) (List.mem_of_getElem? (i := 8) rfl) (List.mem_of_getElem? (i := 7) rfl) ⟨Nat.le_of_ble_eq_true rfl, Nat.le_of_ble_eq_true rfl⟩ rfl rfl (Nat.le_of_ble_eq_true rfl) ⟨Nat.le_of_ble_eq_true rfl, Nat.le_of_ble_eq_true rfl⟩ rfl rfl [] [0, 1] rfl rfl rfl rfl (by decide) (fun r9 u9 p5 => ?_)
          obtain ⟨rfl, rfl⟩ := p5
          refine j_eq (ws' := [(h0, .inr (0, [.ref c0])), (c0, .inl (T 0, 2880, .inl (fun j : Nat => iI (f j))))]) rfl rfl rfl rfl rfl rfl ?_
          refine j_ifneB h 43 dX0_cutDown_39 (by decide) (fun c6 => ?_) (fun c6 => ?_)
          · skip
            refine j_aload_n h dX0_cutDown_43 0 rfl rfl ?_
            refine j_get h dX0_cutDown_44 f_X0_cutDown_9 0 rfl rfl ?_
            refine j_iload h dX0_cutDown_47 5 rfl ?_
            refine j_sipush h dX0_cutDown_49 (by decide) ?_
            refine j_imul h dX0_cutDown_52 ?_
            refine j_iload_n h dX0_cutDown_53 1 rfl rfl ?_
            refine j_iadd h dX0_cutDown_54 ?_
            refine j_iconst h dX0_cutDown_55 ?_
            refine j_iast (f := f) (ws' := [(h0, .inr (0, [.ref c0])), (c0, .inl (T 0, 2880, .inl (fun j : Nat => iI ((upI f (144 * (topS f p) + p) 0) j))))]) h (144 * (topS f p) + p) dX0_cutDown_56 1 rfl (by decide) (by omega) (by omega) rfl ?_
            refine j_iinc (lv' := [(0, .ref h0), (1, .int (iI p)), (2, .int (iI K)), (3, .int (iI n)), (4, .int (iI (i + 1))), (5, .int (iI (topS f p)))]) h dX0_cutDown_57 4 [1, 2, 3, 4, 0, 5] rfl (by decide) rfl ?_
            refine j_goto (tgt := 3) h dX0_cutDown_60 (by decide) ?_
            refine j_lv (lv' := [(0, .ref h0), (1, .int (iI p)), (2, .int (iI K)), (3, .int (iI n)), (4, .int (iI (i + 1)))]) [0, 1, 2, 3, 4] rfl ?_
            exact ih3 (i + 1) (upI f (144 * (topS f p) + p) 0) (by first | assumption | omega) (by exact BOK_upI hf (by omega)) (by rw [← cutS_yes (by omega) (by omega) (by assumption)]; exact he) (by omega)
          · skip
            exact hr _ _ _ dX0_cutDown_42 (show ([(h0, .inr (0, [.ref c0])), (c0, .inl (T 0, 2880, .inl (fun j : Nat => iI (f j))))] : va_W) = [(h0, .inr (0, [.ref c0])), (c0, .inl (T 0, 2880, .inl (fun j : Nat => iI ((cutS B p K n.toNat) j))))] by rw [← he, cutS_no (by assumption)])
  exact lp3 _ 0 B (by first | assumption | omega) (by first | assumption | omega) (by rw [Int.sub_zero]) (Nat.lt_succ_self _)

abbrev rmX0_dopeDown : Room := { frames := 1, cells := 0, slots := 0, locals := 22 }
theorem in_X0_dopeDown_X7 : ∀ w ∈ u_ws RX7 TX7 8, w ∈ wsX0_dopeDown := fun w hw => List.mem_cons_of_mem _ (List.mem_append_left _ (List.mem_append_right _ (hw)))
theorem f_X0_dopeDown_23 : FnOK RX0 23 wsX0_dopeDown 7 4 := ⟨_, _, _, "LayerShop", rfl, by decide, in_X0_dopeDown_X7, List.mem_of_getElem? (i := 9) rfl⟩
theorem f_X0_dopeDown_29 : FnOK RX0 29 wsX0_dopeDown 7 2 := ⟨_, _, _, "LayerShop", rfl, by decide, in_X0_dopeDown_X7, List.mem_of_getElem? (i := 10) rfl⟩
theorem f_X0_dopeDown_32 : FnOK RX0 32 wsX0_dopeDown 7 5 := ⟨_, _, _, "LayerShop", rfl, by decide, in_X0_dopeDown_X7, List.mem_of_getElem? (i := 11) rfl⟩
theorem in_X0_dopeDown_X0 : ∀ w ∈ u_ws RX0 TX0 1, w ∈ wsX0_dopeDown := fun w hw => List.mem_cons_of_mem _ (List.mem_append_right _ (hw))
theorem f_X0_dopeDown_9 : FlOK RX0 9 wsX0_dopeDown 0 0 := ⟨_, _, _, rfl, by decide, in_X0_dopeDown_X0, List.mem_of_getElem? (i := 1) rfl⟩
theorem f_X0_dopeDown_35 : FnOK RX0 35 wsX0_dopeDown 7 3 := ⟨_, _, _, "LayerShop", rfl, by decide, in_X0_dopeDown_X7, List.mem_of_getElem? (i := 12) rfl⟩
set_option maxHeartbeats 600000 in
set_option maxRecDepth 100000 in
/-- from the top down n cubes at most -/
theorem ct_X0_dopeDown (T : Nat → ClassId) (h0 : Nat) (c0 : Nat) (B : Int → Int) (h2 : Nat) (wd : Int) (fb : Int) (s : Int) (t : Int) (K : Int) (n : Int) (rl : Int) (be : Int) (p : Int) (hB : BOK B) (hp : 0 ≤ p ∧ p < 144) (hs : 1 ≤ s ∧ s ≤ 7) (ht : 0 ≤ t ∧ t ≤ 7) (hK : 0 ≤ K ∧ K ≤ 255) (hn : 0 ≤ n ∧ n ≤ 20) : CtV T yX0_dopeDown wsX0_dopeDown rmX0_dopeDown 0 0 [.ref h0, .int (iI p), .ref h2] [(h0, .inr (0, [.ref c0])), (c0, .inl (T 0, 2880, .inl (fun j : Nat => iI (B j)))), (h2, .inr (7, [.int (iI wd), .int (iI fb), .int (iI s), .int (iI t), .int (iI K), .int (iI n), .int (iI rl), .int (iI be)]))] (fun u => u = [(h0, .inr (0, [.ref c0])), (c0, .inl (T 0, 2880, .inl (fun j : Nat => iI ((dopeS B p s t K (topS B p) n.toNat) j)))), (h2, .inr (7, [.int (iI wd), .int (iI fb), .int (iI s), .int (iI t), .int (iI K), .int (iI n), .int (iI rl), .int (iI be)]))]) := by
  refine ctV_of (cc := cX0_dopeDown) (maxL := 7) (ret := none) (by decide +kernel) rfl rfl (Nat.le_of_ble_eq_true rfl) (fun X h hinit hr => ?_)
  refine j_eq (lv' := [(0, .ref h0), (1, .int (iI p)), (2, .ref h2)]) rfl rfl rfl rfl rfl rfl ?_
  have hp2 := pow2_rng (s := s) (by omega)
  refine j_aload_n h dX0_dopeDown_0 2 rfl rfl ?_
  refine j_getN h dX0_dopeDown_1 f_X0_dopeDown_23 2 rfl rfl ?_
  refine j_iconst h dX0_dopeDown_4 ?_
  refine j_aload_n h dX0_dopeDown_5 2 rfl rfl ?_
  refine j_getN h dX0_dopeDown_6 f_X0_dopeDown_29 2 rfl rfl ?_
  refine j_ishl h dX0_dopeDown_9 (by omega) ?_
  refine j_ior h dX0_dopeDown_10 (by omega) (by omega) ?_
  have hor := hk_or_rng (K := K) (s := s) (by omega) (by omega)
  refine j_istore_n (lv' := [(0, .ref h0), (1, .int (iI p)), (2, .ref h2), (3, .int (iI (((K : Int).toNat ||| (1 * 2 ^ s.toNat : Int).toNat : Nat) : Int)))]) h dX0_dopeDown_11 [1, 2, 3, 0] rfl (by decide) rfl ?_
  refine j_aload_n h dX0_dopeDown_12 0 rfl rfl ?_
  refine j_iload_n h dX0_dopeDown_13 1 rfl rfl ?_
  refine j_callVi (As := [.int (iI p)]) (wr := [(h2, .inr (7, [.int (iI wd), .int (iI fb), .int (iI s), .int (iI t), .int (iI K), .int (iI n), .int (iI rl), .int (iI be)]))]) (cells' := 0) (slots' := 0) h dX0_dopeDown_14 (ct_X0_highest T h0 c0 B p (by first | assumption | omega) (by first | assumption | omega)) k_X0_highest gX0_dopeDown_X0_highest rfl rfl 0 rfl ⟨Nat.le_of_ble_eq_true rfl, Nat.le_of_ble_eq_true rfl⟩ rfl rfl (Nat.le_of_ble_eq_true rfl) ⟨Nat.le_of_ble_eq_true rfl, Nat.le_of_ble_eq_true rfl⟩ rfl rfl [0, 1] [2] rfl rfl rfl rfl (by decide) (fun r9 u9 p1 => ?_)
  obtain ⟨rfl, rfl⟩ := p1
  have hz9 := topS_rng B p
  refine j_eq (ws' := [(h2, .inr (7, [.int (iI wd), .int (iI fb), .int (iI s), .int (iI t), .int (iI K), .int (iI n), .int (iI rl), .int (iI be)])), (h0, .inr (0, [.ref c0])), (c0, .inl (T 0, 2880, .inl (fun j : Nat => iI (B j))))]) rfl rfl rfl rfl rfl rfl ?_
  refine j_istore (lv' := [(0, .ref h0), (1, .int (iI p)), (2, .ref h2), (3, .int (iI (((K : Int).toNat ||| (1 * 2 ^ s.toNat : Int).toNat : Nat) : Int))), (4, .int (iI (topS B p)))]) h dX0_dopeDown_17 [1, 2, 3, 4, 0] (by decide) rfl ?_
  refine j_iload h dX0_dopeDown_19 4 rfl ?_
  refine j_istore (lv' := [(0, .ref h0), (1, .int (iI p)), (2, .ref h2), (3, .int (iI (((K : Int).toNat ||| (1 * 2 ^ s.toNat : Int).toNat : Nat) : Int))), (4, .int (iI (topS B p))), (5, .int (iI (topS B p)))]) h dX0_dopeDown_21 [1, 2, 3, 4, 5, 0] (by decide) rfl ?_
  have lp23 : ∀ (n23 : Nat) (z : Int) (f : Int → Int) (hz : -1 ≤ z ∧ z ≤ topS B p) (hf : BOK f) (he : dopeS f p s t K z (n - (topS B p - z)).toNat = dopeS B p s t K (topS B p) n.toNat), ((z + 1).toNat) < n23 → J X 0 0 23 [(0, .ref h0), (1, .int (iI p)), (2, .ref h2), (3, .int (iI (((K : Int).toNat ||| (1 * 2 ^ s.toNat : Int).toNat : Nat) : Int))), (4, .int (iI (topS B p))), (5, .int (iI z))] [] [(h2, .inr (7, [.int (iI wd), .int (iI fb), .int (iI s), .int (iI t), .int (iI K), .int (iI n), .int (iI rl), .int (iI be)])), (h0, .inr (0, [.ref c0])), (c0, .inl (T 0, 2880, .inl (fun j : Nat => iI (f j))))] := by
    intro n23
    induction n23 with
    | zero => exact fun z f hz hf he hn23 => absurd hn23 (Nat.not_lt_zero _)
    | succ n23 ih23 =>
      intro z f hz hf he hn23
      have hor1 : hk (((K : Int).toNat ||| (1 * 2 ^ s.toNat : Int).toNat : Nat) : Int) (f (144 * z + p)) = (hk K (f (144 * z + p)) || decide (f (144 * z + p) = s)) := by have := hf (144 * z + p); exact hk_or (by omega) (by omega) (by omega)
      have hor2 : hk (((K : Int).toNat ||| (1 * 2 ^ s.toNat : Int).toNat : Nat) : Int) (f (144 * z + p)) = true → ¬ f (144 * z + p) = s → hk K (f (144 * z + p)) = true := fun a b => by rw [hor1] at a; simpa [b] using a
      refine j_iload h dX0_dopeDown_23 5 rfl ?_
      refine j_if_lt h 96 dX0_dopeDown_25 (by decide) (by omega) (fun c2 => ?_) (fun c2 => ?_)
      · skip
        refine j_ws (ws' := [(h0, .inr (0, [.ref c0])), (c0, .inl (T 0, 2880, .inl (fun j : Nat => iI (f j)))), (h2, .inr (7, [.int (iI wd), .int (iI fb), .int (iI s), .int (iI t), .int (iI K), .int (iI n), .int (iI rl), .int (iI be)]))]) [1, 2, 0] rfl rfl ?_
        exact hr _ _ _ dX0_dopeDown_96 (show ([(h0, .inr (0, [.ref c0])), (c0, .inl (T 0, 2880, .inl (fun j : Nat => iI (f j)))), (h2, .inr (7, [.int (iI wd), .int (iI fb), .int (iI s), .int (iI t), .int (iI K), .int (iI n), .int (iI rl), .int (iI be)]))] : va_W) = [(h0, .inr (0, [.ref c0])), (c0, .inl (T 0, 2880, .inl (fun j : Nat => iI ((dopeS B p s t K (topS B p) n.toNat) j)))), (h2, .inr (7, [.int (iI wd), .int (iI fb), .int (iI s), .int (iI t), .int (iI K), .int (iI n), .int (iI rl), .int (iI be)]))] by rw [← he, dopeS_neg (by omega)])
      · skip
        refine j_iload h dX0_dopeDown_28 5 rfl ?_
        refine j_iload h dX0_dopeDown_30 4 rfl ?_
        refine j_aload_n h dX0_dopeDown_32 2 rfl rfl ?_
        refine j_getN h dX0_dopeDown_33 f_X0_dopeDown_32 0 rfl rfl ?_
        refine j_isub h dX0_dopeDown_36 ?_
        refine j_icmp_le h 96 dX0_dopeDown_37 (by decide) (by omega) (by omega) (fun c3 => ?_) (fun c3 => ?_)
        · skip
          refine j_ws (ws' := [(h0, .inr (0, [.ref c0])), (c0, .inl (T 0, 2880, .inl (fun j : Nat => iI (f j)))), (h2, .inr (7, [.int (iI wd), .int (iI fb), .int (iI s), .int (iI t), .int (iI K), .int (iI n), .int (iI rl), .int (iI be)]))]) [1, 2, 0] rfl rfl ?_
          exact hr _ _ _ dX0_dopeDown_96 (show ([(h0, .inr (0, [.ref c0])), (c0, .inl (T 0, 2880, .inl (fun j : Nat => iI (f j)))), (h2, .inr (7, [.int (iI wd), .int (iI fb), .int (iI s), .int (iI t), .int (iI K), .int (iI n), .int (iI rl), .int (iI be)]))] : va_W) = [(h0, .inr (0, [.ref c0])), (c0, .inl (T 0, 2880, .inl (fun j : Nat => iI ((dopeS B p s t K (topS B p) n.toNat) j)))), (h2, .inr (7, [.int (iI wd), .int (iI fb), .int (iI s), .int (iI t), .int (iI K), .int (iI n), .int (iI rl), .int (iI be)]))] by rw [← he, dopeS_e (by omega)])
        · skip
          refine j_iload h dX0_dopeDown_40 5 rfl ?_
          refine j_sipush h dX0_dopeDown_42 (by decide) ?_
          refine j_imul h dX0_dopeDown_45 ?_
          refine j_iload_n h dX0_dopeDown_46 1 rfl rfl ?_
          refine j_iadd h dX0_dopeDown_47 ?_
          refine j_istore (lv' := [(0, .ref h0), (1, .int (iI p)), (2, .ref h2), (3, .int (iI (((K : Int).toNat ||| (1 * 2 ^ s.toNat : Int).toNat : Nat) : Int))), (4, .int (iI (topS B p))), (5, .int (iI z)), (6, .int (iI ((z * 144) + p)))]) h dX0_dopeDown_48 [1, 2, 3, 4, 5, 6, 0] (by decide) rfl ?_
          refine j_iload_n h dX0_dopeDown_50 3 rfl rfl ?_
          refine j_aload_n h dX0_dopeDown_51 0 rfl rfl ?_
          refine j_get h dX0_dopeDown_52 f_X0_dopeDown_9 1 rfl rfl ?_
          refine j_iload h dX0_dopeDown_55 6 rfl ?_
          refine j_iald (f := f) h (144 * z + p) dX0_dopeDown_57 2 rfl (by decide) (by omega) (by omega) ?_
          have e4 := hf (144 * z + p)
          refine j_callSNi (As := [.int (iI (((K : Int).toNat ||| (1 * 2 ^ s.toNat : Int).toNat : Nat) : Int)), .int (iI (f (144 * z + p)))]) (wr := [(h2, .inr (7, [.int (iI wd), .int (iI fb), .int (iI s), .int (iI t), .int (iI K), .int (iI n), .int (iI rl), .int (iI be)])), (h0, .inr (0, [.ref c0])), (c0, .inl (T 0, 2880, .inl (fun j : Nat => iI (f j))))]) (cells' := 0) (slots' := 0) h dX0_dopeDown_58 (ct_X11_hasKind T (((K : Int).toNat ||| (1 * 2 ^ s.toNat : Int).toNat : Nat) : Int) (f (144 * z + p)) (by first | assumption | omega) (by first | assumption | omega)) k_X11_hasKind gX0_dopeDown_X11_hasKind_n15 (List.mem_of_getElem? (i := 4) rfl) (List.mem_of_getElem? (i := 8) rfl) (List.mem_of_getElem? (i := 7) rfl) ⟨Nat.le_of_ble_eq_true rfl, Nat.le_of_ble_eq_true rfl⟩ rfl rfl (Nat.le_of_ble_eq_true rfl) ⟨Nat.le_of_ble_eq_true rfl, Nat.le_of_ble_eq_true rfl⟩ rfl rfl [] [0, 1, 2] rfl rfl rfl rfl (by decide) (fun r9 u9 p5 => ?_)
          obtain ⟨rfl, rfl⟩ := p5
          refine j_eq (ws' := [(h2, .inr (7, [.int (iI wd), .int (iI fb), .int (iI s), .int (iI t), .int (iI K), .int (iI n), .int (iI rl), .int (iI be)])), (h0, .inr (0, [.ref c0])), (c0, .inl (T 0, 2880, .inl (fun j : Nat => iI (f j))))]) rfl rfl rfl rfl rfl rfl ?_
          refine j_ifneB h 65 dX0_dopeDown_61 (by decide) (fun c6 => ?_) (fun c6 => ?_)
          · skip
            refine j_aload_n h dX0_dopeDown_65 0 rfl rfl ?_
            refine j_get h dX0_dopeDown_66 f_X0_dopeDown_9 1 rfl rfl ?_
            refine j_iload h dX0_dopeDown_69 6 rfl ?_
            refine j_iald (f := f) h (144 * z + p) dX0_dopeDown_71 2 rfl (by decide) (by omega) (by omega) ?_
            have e7 := hf (144 * z + p)
            refine j_aload_n h dX0_dopeDown_72 2 rfl rfl ?_
            refine j_getN h dX0_dopeDown_73 f_X0_dopeDown_29 0 rfl rfl ?_
            refine j_icmp_ne h 90 dX0_dopeDown_76 (by decide) (by omega) (by omega) (fun c8 => ?_) (fun c8 => ?_)
            · skip
              refine j_iinc (lv' := [(0, .ref h0), (1, .int (iI p)), (2, .ref h2), (3, .int (iI (((K : Int).toNat ||| (1 * 2 ^ s.toNat : Int).toNat : Nat) : Int))), (4, .int (iI (topS B p))), (5, .int (iI (z + (-1)))), (6, .int (iI ((z * 144) + p)))]) h dX0_dopeDown_90 5 [1, 2, 3, 4, 5, 0, 6] rfl (by decide) rfl ?_
              refine j_goto (tgt := 23) h dX0_dopeDown_93 (by decide) ?_
              refine j_lv (lv' := [(0, .ref h0), (1, .int (iI p)), (2, .ref h2), (3, .int (iI (((K : Int).toNat ||| (1 * 2 ^ s.toNat : Int).toNat : Nat) : Int))), (4, .int (iI (topS B p))), (5, .int (iI (z + (-1))))]) [0, 1, 2, 3, 4, 5] rfl ?_
              exact ih23 (z + (-1)) f (by first | assumption | omega) (by exact hf) (by rw [show n - (topS B p - (z + -1)) = n - ((topS B p - z) + 1) by omega, show z + -1 = z - 1 by omega, ← dopeS_k (by omega) (by omega) (by assumption) (hor2 (by assumption) (by assumption))]; exact he) (by omega)
            · skip
              refine j_aload_n h dX0_dopeDown_79 0 rfl rfl ?_
              refine j_get h dX0_dopeDown_80 f_X0_dopeDown_9 1 rfl rfl ?_
              refine j_iload h dX0_dopeDown_83 6 rfl ?_
              refine j_aload_n h dX0_dopeDown_85 2 rfl rfl ?_
              refine j_getN h dX0_dopeDown_86 f_X0_dopeDown_35 0 rfl rfl ?_
              refine j_iast (f := f) (ws' := [(h2, .inr (7, [.int (iI wd), .int (iI fb), .int (iI s), .int (iI t), .int (iI K), .int (iI n), .int (iI rl), .int (iI be)])), (h0, .inr (0, [.ref c0])), (c0, .inl (T 0, 2880, .inl (fun j : Nat => iI ((upI f (144 * z + p) t) j))))]) h (144 * z + p) dX0_dopeDown_89 2 rfl (by decide) (by omega) (by omega) rfl ?_
              refine j_iinc (lv' := [(0, .ref h0), (1, .int (iI p)), (2, .ref h2), (3, .int (iI (((K : Int).toNat ||| (1 * 2 ^ s.toNat : Int).toNat : Nat) : Int))), (4, .int (iI (topS B p))), (5, .int (iI (z + (-1)))), (6, .int (iI ((z * 144) + p)))]) h dX0_dopeDown_90 5 [1, 2, 3, 4, 5, 0, 6] rfl (by decide) rfl ?_
              refine j_goto (tgt := 23) h dX0_dopeDown_93 (by decide) ?_
              refine j_lv (lv' := [(0, .ref h0), (1, .int (iI p)), (2, .ref h2), (3, .int (iI (((K : Int).toNat ||| (1 * 2 ^ s.toNat : Int).toNat : Nat) : Int))), (4, .int (iI (topS B p))), (5, .int (iI (z + (-1))))]) [0, 1, 2, 3, 4, 5] rfl ?_
              exact ih23 (z + (-1)) (upI f (144 * z + p) t) (by first | assumption | omega) (by exact BOK_upI hf (by omega)) (by rw [show n - (topS B p - (z + -1)) = n - ((topS B p - z) + 1) by omega, show z + -1 = z - 1 by omega, ← dopeS_s (by omega) (by omega) (by assumption)]; exact he) (by omega)
          · skip
            refine j_ws (ws' := [(h0, .inr (0, [.ref c0])), (c0, .inl (T 0, 2880, .inl (fun j : Nat => iI (f j)))), (h2, .inr (7, [.int (iI wd), .int (iI fb), .int (iI s), .int (iI t), .int (iI K), .int (iI n), .int (iI rl), .int (iI be)]))]) [1, 2, 0] rfl rfl ?_
            exact hr _ _ _ dX0_dopeDown_64 (show ([(h0, .inr (0, [.ref c0])), (c0, .inl (T 0, 2880, .inl (fun j : Nat => iI (f j)))), (h2, .inr (7, [.int (iI wd), .int (iI fb), .int (iI s), .int (iI t), .int (iI K), .int (iI n), .int (iI rl), .int (iI be)]))] : va_W) = [(h0, .inr (0, [.ref c0])), (c0, .inl (T 0, 2880, .inl (fun j : Nat => iI ((dopeS B p s t K (topS B p) n.toNat) j)))), (h2, .inr (7, [.int (iI wd), .int (iI fb), .int (iI s), .int (iI t), .int (iI K), .int (iI n), .int (iI rl), .int (iI be)]))] by have q9 := c6; rw [hor1] at q9; simp at q9; rw [← he, dopeS_no q9.2 q9.1])
  exact lp23 _ (topS B p) B (by first | assumption | omega) (by first | assumption | omega) (by rw [show n - (topS B p - topS B p) = n by omega]) (Nat.lt_succ_self _)

abbrev rmX0_endOfSpan : Room := { frames := 0, cells := 0, slots := 0, locals := 0 }
theorem in_X0_endOfSpan_X0 : ∀ w ∈ u_ws RX0 TX0 1, w ∈ wsX0_endOfSpan := fun w hw => List.mem_cons_of_mem _ (List.mem_append_right _ (hw))
theorem f_X0_endOfSpan_9 : FlOK RX0 9 wsX0_endOfSpan 0 0 := ⟨_, _, _, rfl, by decide, in_X0_endOfSpan_X0, List.mem_of_getElem? (i := 1) rfl⟩
set_option maxHeartbeats 600000 in
set_option maxRecDepth 100000 in
/-- the first height above a span -/
theorem ct_X0_endOfSpan (T : Nat → ClassId) (h0 : Nat) (c0 : Nat) (B : Int → Int) (p : Int) (z : Int) (hB : BOK B) (hp : 0 ≤ p ∧ p < 144) (hz : 0 ≤ z ∧ z ≤ 19) : CtI T yX0_endOfSpan wsX0_endOfSpan rmX0_endOfSpan 0 0 [.ref h0, .int (iI p), .int (iI z)] [(h0, .inr (0, [.ref c0])), (c0, .inl (T 0, 2880, .inl (fun j : Nat => iI (B j))))] (fun r8 u => r8 = (iI (endS B p z)) ∧ u = [(h0, .inr (0, [.ref c0])), (c0, .inl (T 0, 2880, .inl (fun j : Nat => iI (B j))))]) := by
  refine ctI_of (cc := cX0_endOfSpan) (maxL := 4) (ret := (some .int)) (by decide +kernel) rfl rfl (fun r u hp => by obtain ⟨rfl, -⟩ := hp; rfl) (Nat.le_of_ble_eq_true rfl) (fun X h hinit hr => ?_)
  refine j_eq (lv' := [(0, .ref h0), (1, .int (iI p)), (2, .int (iI z))]) rfl rfl rfl rfl rfl rfl ?_
  refine j_iload_n h dX0_endOfSpan_0 2 rfl rfl ?_
  refine j_iconst h dX0_endOfSpan_1 ?_
  refine j_iadd h dX0_endOfSpan_2 ?_
  refine j_istore_n (lv' := [(0, .ref h0), (1, .int (iI p)), (2, .int (iI z)), (3, .int (iI (z + 1)))]) h dX0_endOfSpan_3 [1, 2, 3, 0] rfl (by decide) rfl ?_
  have lp4 : ∀ (n4 : Nat) (e : Int) (he : z < e ∧ e ≤ 20) (hi : endI B p (B (144 * z + p)) e = endS B p z), ((20 - e).toNat) < n4 → J X 0 0 4 [(0, .ref h0), (1, .int (iI p)), (2, .int (iI z)), (3, .int (iI e))] [] [(h0, .inr (0, [.ref c0])), (c0, .inl (T 0, 2880, .inl (fun j : Nat => iI (B j))))] := by
    intro n4
    induction n4 with
    | zero => exact fun e he hi hn4 => absurd hn4 (Nat.not_lt_zero _)
    | succ n4 ih4 =>
      intro e he hi hn4
      refine j_iload_n h dX0_endOfSpan_4 3 rfl rfl ?_
      refine j_bipush h dX0_endOfSpan_5 (by decide) ?_
      refine j_icmp_ge h 43 dX0_endOfSpan_7 (by decide) (by omega) (by omega) (fun c1 => ?_) (fun c1 => ?_)
      · skip
        refine j_iload_n h dX0_endOfSpan_43 3 rfl rfl ?_
        exact hr _ _ _ _ dX0_endOfSpan_44 ⟨(congrArg iI (show (e : Int) = endS B p z by rw [← hi, endI_e (by omega)])), rfl⟩
      · skip
        refine j_aload_n h dX0_endOfSpan_10 0 rfl rfl ?_
        refine j_get h dX0_endOfSpan_11 f_X0_endOfSpan_9 0 rfl rfl ?_
        refine j_iload_n h dX0_endOfSpan_14 3 rfl rfl ?_
        refine j_sipush h dX0_endOfSpan_15 (by decide) ?_
        refine j_imul h dX0_endOfSpan_18 ?_
        refine j_iload_n h dX0_endOfSpan_19 1 rfl rfl ?_
        refine j_iadd h dX0_endOfSpan_20 ?_
        refine j_iald (f := B) h (144 * e + p) dX0_endOfSpan_21 1 rfl (by decide) (by omega) (by omega) ?_
        have e2 := hB (144 * e + p)
        refine j_aload_n h dX0_endOfSpan_22 0 rfl rfl ?_
        refine j_get h dX0_endOfSpan_23 f_X0_endOfSpan_9 0 rfl rfl ?_
        refine j_iload_n h dX0_endOfSpan_26 2 rfl rfl ?_
        refine j_sipush h dX0_endOfSpan_27 (by decide) ?_
        refine j_imul h dX0_endOfSpan_30 ?_
        refine j_iload_n h dX0_endOfSpan_31 1 rfl rfl ?_
        refine j_iadd h dX0_endOfSpan_32 ?_
        refine j_iald (f := B) h (144 * z + p) dX0_endOfSpan_33 1 rfl (by decide) (by omega) (by omega) ?_
        have e3 := hB (144 * z + p)
        refine j_icmp_ne h 43 dX0_endOfSpan_34 (by decide) (by omega) (by omega) (fun c4 => ?_) (fun c4 => ?_)
        · skip
          refine j_iload_n h dX0_endOfSpan_43 3 rfl rfl ?_
          exact hr _ _ _ _ dX0_endOfSpan_44 ⟨(congrArg iI (show (e : Int) = endS B p z by rw [← hi, endI_f (by omega) (by assumption)])), rfl⟩
        · skip
          refine j_iinc (lv' := [(0, .ref h0), (1, .int (iI p)), (2, .int (iI z)), (3, .int (iI (e + 1)))]) h dX0_endOfSpan_37 3 [1, 2, 3, 0] rfl (by decide) rfl ?_
          refine j_goto (tgt := 4) h dX0_endOfSpan_40 (by decide) ?_
          exact ih4 (e + 1) (by first | assumption | omega) (by rw [← endI_t (by omega) (by assumption)]; exact hi) (by omega)
  exact lp4 _ (z + 1) (by first | assumption | omega) (by rfl) (Nat.lt_succ_self _)

abbrev rmX0_beginsSpan : Room := { frames := 0, cells := 0, slots := 0, locals := 0 }
theorem in_X0_beginsSpan_X0 : ∀ w ∈ u_ws RX0 TX0 1, w ∈ wsX0_beginsSpan := fun w hw => List.mem_cons_of_mem _ (List.mem_append_right _ (hw))
theorem f_X0_beginsSpan_9 : FlOK RX0 9 wsX0_beginsSpan 0 0 := ⟨_, _, _, rfl, by decide, in_X0_beginsSpan_X0, List.mem_of_getElem? (i := 1) rfl⟩
set_option maxHeartbeats 600000 in
set_option maxRecDepth 100000 in
/-- whether a span begins at a height -/
theorem ct_X0_beginsSpan (T : Nat → ClassId) (h0 : Nat) (c0 : Nat) (B : Int → Int) (p : Int) (z : Int) (hB : BOK B) (hp : 0 ≤ p ∧ p < 144) (hz : 0 ≤ z ∧ z ≤ 19) : CtI T yX0_beginsSpan wsX0_beginsSpan rmX0_beginsSpan 0 0 [.ref h0, .int (iI p), .int (iI z)] [(h0, .inr (0, [.ref c0])), (c0, .inl (T 0, 2880, .inl (fun j : Nat => iI (B j))))] (fun r8 u => r8 = (iI (bI (begS B p z))) ∧ u = [(h0, .inr (0, [.ref c0])), (c0, .inl (T 0, 2880, .inl (fun j : Nat => iI (B j))))]) := by
  refine ctI_of (cc := cX0_beginsSpan) (maxL := 3) (ret := (some .boolean)) (by decide +kernel) rfl rfl (fun r u hp => by obtain ⟨rfl, -⟩ := hp; exact nz_bool _) (Nat.le_of_ble_eq_true rfl) (fun X h hinit hr => ?_)
  refine j_eq (lv' := [(0, .ref h0), (1, .int (iI p)), (2, .int (iI z))]) rfl rfl rfl rfl rfl rfl ?_
  refine j_iload_n h dX0_beginsSpan_0 2 rfl rfl ?_
  refine j_if_eq h 33 dX0_beginsSpan_1 (by decide) (by omega) (fun c1 => ?_) (fun c1 => ?_)
  · skip
    refine j_iconst h dX0_beginsSpan_33 ?_
    refine j_goto (tgt := 38) h dX0_beginsSpan_34 (by decide) ?_
    exact hr _ _ _ _ dX0_beginsSpan_38 ⟨(congrArg (fun b9 => iI (bI b9)) (show true = begS B p z by symm; unfold begS; simp; omega)), rfl⟩
  · skip
    refine j_aload_n h dX0_beginsSpan_4 0 rfl rfl ?_
    refine j_get h dX0_beginsSpan_5 f_X0_beginsSpan_9 0 rfl rfl ?_
    refine j_iload_n h dX0_beginsSpan_8 2 rfl rfl ?_
    refine j_sipush h dX0_beginsSpan_9 (by decide) ?_
    refine j_imul h dX0_beginsSpan_12 ?_
    refine j_iload_n h dX0_beginsSpan_13 1 rfl rfl ?_
    refine j_iadd h dX0_beginsSpan_14 ?_
    refine j_iald (f := B) h (144 * z + p) dX0_beginsSpan_15 1 rfl (by decide) (by omega) (by omega) ?_
    have e2 := hB (144 * z + p)
    refine j_aload_n h dX0_beginsSpan_16 0 rfl rfl ?_
    refine j_get h dX0_beginsSpan_17 f_X0_beginsSpan_9 0 rfl rfl ?_
    refine j_iload_n h dX0_beginsSpan_20 2 rfl rfl ?_
    refine j_iconst h dX0_beginsSpan_21 ?_
    refine j_isub h dX0_beginsSpan_22 ?_
    refine j_sipush h dX0_beginsSpan_23 (by decide) ?_
    refine j_imul h dX0_beginsSpan_26 ?_
    refine j_iload_n h dX0_beginsSpan_27 1 rfl rfl ?_
    refine j_iadd h dX0_beginsSpan_28 ?_
    refine j_iald (f := B) h (144 * z + p - 144) dX0_beginsSpan_29 1 rfl (by decide) (by omega) (by omega) ?_
    have e3 := hB (144 * z + p - 144)
    refine j_icmp_eq h 37 dX0_beginsSpan_30 (by decide) (by omega) (by omega) (fun c4 => ?_) (fun c4 => ?_)
    · skip
      refine j_iconst h dX0_beginsSpan_37 ?_
      exact hr _ _ _ _ dX0_beginsSpan_38 ⟨(congrArg (fun b9 => iI (bI b9)) (show false = begS B p z by symm; unfold begS; simp; omega)), rfl⟩
    · skip
      refine j_iconst h dX0_beginsSpan_33 ?_
      refine j_goto (tgt := 38) h dX0_beginsSpan_34 (by decide) ?_
      exact hr _ _ _ _ dX0_beginsSpan_38 ⟨(congrArg (fun b9 => iI (bI b9)) (show true = begS B p z by symm; unfold begS; simp; omega)), rfl⟩

abbrev rmX0_countSpans : Room := { frames := 1, cells := 0, slots := 0, locals := 22 }
theorem k_X0_beginsSpan : CkOK yX0_beginsSpan wsX0_beginsSpan rmX0_beginsSpan 0 0 cX0_beginsSpan 3 (some .boolean) 2 := ⟨⟨_, rfl⟩, rfl, rfl, by decide +kernel⟩
set_option maxHeartbeats 600000 in
set_option maxRecDepth 100000 in
/-- how many spans a place has -/
theorem ct_X0_countSpans (T : Nat → ClassId) (h0 : Nat) (c0 : Nat) (B : Int → Int) (p : Int) (hB : BOK B) (hp : 0 ≤ p ∧ p < 144) : CtI T yX0_countSpans wsX0_countSpans rmX0_countSpans 0 0 [.ref h0, .int (iI p)] [(h0, .inr (0, [.ref c0])), (c0, .inl (T 0, 2880, .inl (fun j : Nat => iI (B j))))] (fun r8 u => r8 = (iI (spansS B p)) ∧ u = [(h0, .inr (0, [.ref c0])), (c0, .inl (T 0, 2880, .inl (fun j : Nat => iI (B j))))]) := by
  refine ctI_of (cc := cX0_countSpans) (maxL := 5) (ret := (some .int)) (by decide +kernel) rfl rfl (fun r u hp => by obtain ⟨rfl, -⟩ := hp; rfl) (Nat.le_of_ble_eq_true rfl) (fun X h hinit hr => ?_)
  refine j_eq (lv' := [(0, .ref h0), (1, .int (iI p))]) rfl rfl rfl rfl rfl rfl ?_
  refine j_aload_n h dX0_countSpans_0 0 rfl rfl ?_
  refine j_iload_n h dX0_countSpans_1 1 rfl rfl ?_
  refine j_callVi (As := [.int (iI p)]) (wr := []) (cells' := 0) (slots' := 0) h dX0_countSpans_2 (ct_X0_highest T h0 c0 B p (by first | assumption | omega) (by first | assumption | omega)) k_X0_highest gX0_countSpans_X0_highest rfl rfl 0 rfl ⟨Nat.le_of_ble_eq_true rfl, Nat.le_of_ble_eq_true rfl⟩ rfl rfl (Nat.le_of_ble_eq_true rfl) ⟨Nat.le_of_ble_eq_true rfl, Nat.le_of_ble_eq_true rfl⟩ rfl rfl [0, 1] [] rfl rfl rfl rfl (by decide) (fun r9 u9 p1 => ?_)
  obtain ⟨rfl, rfl⟩ := p1
  have hz9 := topS_rng B p
  refine j_eq (ws' := [(h0, .inr (0, [.ref c0])), (c0, .inl (T 0, 2880, .inl (fun j : Nat => iI (B j))))]) rfl rfl rfl rfl rfl rfl ?_
  refine j_istore_n (lv' := [(0, .ref h0), (1, .int (iI p)), (2, .int (iI (topS B p)))]) h dX0_countSpans_5 [1, 2, 0] rfl (by decide) rfl ?_
  refine j_iconst h dX0_countSpans_6 ?_
  refine j_istore_n (lv' := [(0, .ref h0), (1, .int (iI p)), (2, .int (iI (topS B p))), (3, .int (iI 0))]) h dX0_countSpans_7 [1, 2, 3, 0] rfl (by decide) rfl ?_
  refine j_iconst h dX0_countSpans_8 ?_
  refine j_istore (lv' := [(0, .ref h0), (1, .int (iI p)), (2, .int (iI (topS B p))), (3, .int (iI 0)), (4, .int (iI 0))]) h dX0_countSpans_9 [1, 2, 3, 4, 0] (by decide) rfl ?_
  have lp11 : ∀ (n11 : Nat) (z : Int) (n : Int) (hz : 0 ≤ z ∧ z ≤ topS B p + 1) (hn : n = cntI (begS B p) z), ((20 - z).toNat) < n11 → J X 0 0 11 [(0, .ref h0), (1, .int (iI p)), (2, .int (iI (topS B p))), (3, .int (iI n)), (4, .int (iI z))] [] [(h0, .inr (0, [.ref c0])), (c0, .inl (T 0, 2880, .inl (fun j : Nat => iI (B j))))] := by
    intro n11
    induction n11 with
    | zero => exact fun z n hz hn hn11 => absurd hn11 (Nat.not_lt_zero _)
    | succ n11 ih11 =>
      intro z n hz hn hn11
      have hn9 := cntI_rng (begS B p) (k := z) (by omega)
      refine j_iload h dX0_countSpans_11 4 rfl ?_
      refine j_iload_n h dX0_countSpans_13 2 rfl rfl ?_
      refine j_icmp_gt h 36 dX0_countSpans_14 (by decide) (by omega) (by omega) (fun c2 => ?_) (fun c2 => ?_)
      · skip
        refine j_iload_n h dX0_countSpans_36 3 rfl rfl ?_
        exact hr _ _ _ _ dX0_countSpans_37 ⟨(congrArg iI (show (n : Int) = spansS B p by rw [hn, show z = topS B p + 1 by omega]; rfl)), rfl⟩
      · skip
        refine j_aload_n h dX0_countSpans_17 0 rfl rfl ?_
        refine j_iload_n h dX0_countSpans_18 1 rfl rfl ?_
        refine j_iload h dX0_countSpans_19 4 rfl ?_
        refine j_callVi (As := [.int (iI p), .int (iI z)]) (wr := []) (cells' := 0) (slots' := 0) h dX0_countSpans_21 (ct_X0_beginsSpan T h0 c0 B p z (by first | assumption | omega) (by first | assumption | omega) (by first | assumption | omega)) k_X0_beginsSpan gX0_countSpans_X0_beginsSpan rfl rfl 0 rfl ⟨Nat.le_of_ble_eq_true rfl, Nat.le_of_ble_eq_true rfl⟩ rfl rfl (Nat.le_of_ble_eq_true rfl) ⟨Nat.le_of_ble_eq_true rfl, Nat.le_of_ble_eq_true rfl⟩ rfl rfl [0, 1] [] rfl rfl rfl rfl (by decide) (fun r9 u9 p3 => ?_)
        obtain ⟨rfl, rfl⟩ := p3
        refine j_eq (ws' := [(h0, .inr (0, [.ref c0])), (c0, .inl (T 0, 2880, .inl (fun j : Nat => iI (B j))))]) rfl rfl rfl rfl rfl rfl ?_
        refine j_ifeqB h 30 dX0_countSpans_24 (by decide) (fun c4 => ?_) (fun c4 => ?_)
        · skip
          refine j_iinc (lv' := [(0, .ref h0), (1, .int (iI p)), (2, .int (iI (topS B p))), (3, .int (iI n)), (4, .int (iI (z + 1)))]) h dX0_countSpans_30 4 [1, 2, 3, 4, 0] rfl (by decide) rfl ?_
          refine j_goto (tgt := 11) h dX0_countSpans_33 (by decide) ?_
          exact ih11 (z + 1) n (by first | assumption | omega) (by rw [cntI_f (by omega) (by assumption)]; exact hn) (by omega)
        · skip
          refine j_iinc (lv' := [(0, .ref h0), (1, .int (iI p)), (2, .int (iI (topS B p))), (3, .int (iI (n + 1))), (4, .int (iI z))]) h dX0_countSpans_27 3 [1, 2, 3, 0, 4] rfl (by decide) rfl ?_
          refine j_iinc (lv' := [(0, .ref h0), (1, .int (iI p)), (2, .int (iI (topS B p))), (3, .int (iI (n + 1))), (4, .int (iI (z + 1)))]) h dX0_countSpans_30 4 [1, 2, 3, 4, 0] rfl (by decide) rfl ?_
          refine j_goto (tgt := 11) h dX0_countSpans_33 (by decide) ?_
          exact ih11 (z + 1) (n + 1) (by first | assumption | omega) (by rw [cntI_t (by omega) (by assumption)]; omega) (by omega)
  exact lp11 _ 0 0 (by first | assumption | omega) (by exact (cntI_0 _).symm) (Nat.lt_succ_self _)

abbrev rmX0_lowOfSpan : Room := { frames := 1, cells := 0, slots := 0, locals := 22 }
set_option maxHeartbeats 600000 in
set_option maxRecDepth 100000 in
/-- the lowest height of span i, or -1 -/
theorem ct_X0_lowOfSpan (T : Nat → ClassId) (h0 : Nat) (c0 : Nat) (B : Int → Int) (p : Int) (i : Int) (hB : BOK B) (hp : 0 ≤ p ∧ p < 144) (hi : -2147483648 ≤ i ∧ i ≤ 2147483647) : CtI T yX0_lowOfSpan wsX0_lowOfSpan rmX0_lowOfSpan 0 0 [.ref h0, .int (iI p), .int (iI i)] [(h0, .inr (0, [.ref c0])), (c0, .inl (T 0, 2880, .inl (fun j : Nat => iI (B j))))] (fun r8 u => r8 = (iI (lowS B p i)) ∧ u = [(h0, .inr (0, [.ref c0])), (c0, .inl (T 0, 2880, .inl (fun j : Nat => iI (B j))))]) := by
  refine ctI_of (cc := cX0_lowOfSpan) (maxL := 6) (ret := (some .int)) (by decide +kernel) rfl rfl (fun r u hp => by obtain ⟨rfl, -⟩ := hp; rfl) (Nat.le_of_ble_eq_true rfl) (fun X h hinit hr => ?_)
  refine j_eq (lv' := [(0, .ref h0), (1, .int (iI p)), (2, .int (iI i))]) rfl rfl rfl rfl rfl rfl ?_
  refine j_aload_n h dX0_lowOfSpan_0 0 rfl rfl ?_
  refine j_iload_n h dX0_lowOfSpan_1 1 rfl rfl ?_
  refine j_callVi (As := [.int (iI p)]) (wr := []) (cells' := 0) (slots' := 0) h dX0_lowOfSpan_2 (ct_X0_highest T h0 c0 B p (by first | assumption | omega) (by first | assumption | omega)) k_X0_highest gX0_lowOfSpan_X0_highest rfl rfl 0 rfl ⟨Nat.le_of_ble_eq_true rfl, Nat.le_of_ble_eq_true rfl⟩ rfl rfl (Nat.le_of_ble_eq_true rfl) ⟨Nat.le_of_ble_eq_true rfl, Nat.le_of_ble_eq_true rfl⟩ rfl rfl [0, 1] [] rfl rfl rfl rfl (by decide) (fun r9 u9 p1 => ?_)
  obtain ⟨rfl, rfl⟩ := p1
  have hz9 := topS_rng B p
  refine j_eq (ws' := [(h0, .inr (0, [.ref c0])), (c0, .inl (T 0, 2880, .inl (fun j : Nat => iI (B j))))]) rfl rfl rfl rfl rfl rfl ?_
  refine j_istore_n (lv' := [(0, .ref h0), (1, .int (iI p)), (2, .int (iI i)), (3, .int (iI (topS B p)))]) h dX0_lowOfSpan_5 [1, 2, 3, 0] rfl (by decide) rfl ?_
  refine j_iconst h dX0_lowOfSpan_6 ?_
  refine j_istore (lv' := [(0, .ref h0), (1, .int (iI p)), (2, .int (iI i)), (3, .int (iI (topS B p))), (4, .int (iI 0))]) h dX0_lowOfSpan_7 [1, 2, 3, 4, 0] (by decide) rfl ?_
  refine j_iconst h dX0_lowOfSpan_9 ?_
  refine j_istore (lv' := [(0, .ref h0), (1, .int (iI p)), (2, .int (iI i)), (3, .int (iI (topS B p))), (4, .int (iI 0)), (5, .int (iI 0))]) h dX0_lowOfSpan_10 [1, 2, 3, 4, 5, 0] (by decide) rfl ?_
  have lp12 : ∀ (n12 : Nat) (z : Int) (n : Int) (hz : 0 ≤ z ∧ z ≤ topS B p + 1) (hn : n = cntI (begS B p) z) (hf : fuI (fun z => begS B p z && decide (cntI (begS B p) z = i)) z (topS B p + 1) = lowS B p i), ((20 - z).toNat) < n12 → J X 0 0 12 [(0, .ref h0), (1, .int (iI p)), (2, .int (iI i)), (3, .int (iI (topS B p))), (4, .int (iI n)), (5, .int (iI z))] [] [(h0, .inr (0, [.ref c0])), (c0, .inl (T 0, 2880, .inl (fun j : Nat => iI (B j))))] := by
    intro n12
    induction n12 with
    | zero => exact fun z n hz hn hf hn12 => absurd hn12 (Nat.not_lt_zero _)
    | succ n12 ih12 =>
      intro z n hz hn hf hn12
      have hn9 := cntI_rng (begS B p) (k := z) (by omega)
      refine j_iload h dX0_lowOfSpan_12 5 rfl ?_
      refine j_iload_n h dX0_lowOfSpan_14 3 rfl rfl ?_
      refine j_icmp_gt h 46 dX0_lowOfSpan_15 (by decide) (by omega) (by omega) (fun c2 => ?_) (fun c2 => ?_)
      · skip
        refine j_iconst h dX0_lowOfSpan_46 ?_
        exact hr _ _ _ _ dX0_lowOfSpan_47 ⟨(congrArg iI (show (-1 : Int) = lowS B p i by rw [← hf, fuI_e (by omega)])), rfl⟩
      · skip
        refine j_aload_n h dX0_lowOfSpan_18 0 rfl rfl ?_
        refine j_iload_n h dX0_lowOfSpan_19 1 rfl rfl ?_
        refine j_iload h dX0_lowOfSpan_20 5 rfl ?_
        refine j_callVi (As := [.int (iI p), .int (iI z)]) (wr := []) (cells' := 0) (slots' := 0) h dX0_lowOfSpan_22 (ct_X0_beginsSpan T h0 c0 B p z (by first | assumption | omega) (by first | assumption | omega) (by first | assumption | omega)) k_X0_beginsSpan gX0_lowOfSpan_X0_beginsSpan rfl rfl 0 rfl ⟨Nat.le_of_ble_eq_true rfl, Nat.le_of_ble_eq_true rfl⟩ rfl rfl (Nat.le_of_ble_eq_true rfl) ⟨Nat.le_of_ble_eq_true rfl, Nat.le_of_ble_eq_true rfl⟩ rfl rfl [0, 1] [] rfl rfl rfl rfl (by decide) (fun r9 u9 p3 => ?_)
        obtain ⟨rfl, rfl⟩ := p3
        refine j_eq (ws' := [(h0, .inr (0, [.ref c0])), (c0, .inl (T 0, 2880, .inl (fun j : Nat => iI (B j))))]) rfl rfl rfl rfl rfl rfl ?_
        refine j_ifeqB h 40 dX0_lowOfSpan_25 (by decide) (fun c4 => ?_) (fun c4 => ?_)
        · skip
          refine j_iinc (lv' := [(0, .ref h0), (1, .int (iI p)), (2, .int (iI i)), (3, .int (iI (topS B p))), (4, .int (iI n)), (5, .int (iI (z + 1)))]) h dX0_lowOfSpan_40 5 [1, 2, 3, 4, 5, 0] rfl (by decide) rfl ?_
          refine j_goto (tgt := 12) h dX0_lowOfSpan_43 (by decide) ?_
          exact ih12 (z + 1) n (by first | assumption | omega) (by rw [cntI_f (by omega) (by assumption)]; exact hn) (by rw [← fuI_f (by omega) (by rw [c4]; rfl)]; exact hf) (by omega)
        · skip
          refine j_iload h dX0_lowOfSpan_28 4 rfl ?_
          refine j_iload_n h dX0_lowOfSpan_30 2 rfl rfl ?_
          refine j_icmp_ne h 37 dX0_lowOfSpan_31 (by decide) (by omega) (by omega) (fun c5 => ?_) (fun c5 => ?_)
          · skip
            refine j_iinc (lv' := [(0, .ref h0), (1, .int (iI p)), (2, .int (iI i)), (3, .int (iI (topS B p))), (4, .int (iI (n + 1))), (5, .int (iI z))]) h dX0_lowOfSpan_37 4 [1, 2, 3, 4, 0, 5] rfl (by decide) rfl ?_
            refine j_iinc (lv' := [(0, .ref h0), (1, .int (iI p)), (2, .int (iI i)), (3, .int (iI (topS B p))), (4, .int (iI (n + 1))), (5, .int (iI (z + 1)))]) h dX0_lowOfSpan_40 5 [1, 2, 3, 4, 5, 0] rfl (by decide) rfl ?_
            refine j_goto (tgt := 12) h dX0_lowOfSpan_43 (by decide) ?_
            exact ih12 (z + 1) (n + 1) (by first | assumption | omega) (by rw [cntI_t (by omega) (by assumption)]; omega) (by rw [← fuI_f (by omega) (by rw [c4, ← hn]; simpa using c5)]; exact hf) (by omega)
          · skip
            refine j_iload h dX0_lowOfSpan_34 5 rfl ?_
            exact hr _ _ _ _ dX0_lowOfSpan_36 ⟨(congrArg iI (show (z : Int) = lowS B p i by rw [← hf, fuI_t (by omega) (by rw [c4, ← hn]; simpa using c5)])), rfl⟩
  exact lp12 _ 0 0 (by first | assumption | omega) (by exact (cntI_0 _).symm) (by rfl) (Nat.lt_succ_self _)

abbrev rmX0_hasThinSpan : Room := { frames := 1, cells := 0, slots := 0, locals := 23 }
theorem in_X0_hasThinSpan_X0 : ∀ w ∈ u_ws RX0 TX0 1, w ∈ wsX0_hasThinSpan := fun w hw => List.mem_cons_of_mem _ (List.mem_append_right _ (hw))
theorem f_X0_hasThinSpan_9 : FlOK RX0 9 wsX0_hasThinSpan 0 0 := ⟨_, _, _, rfl, by decide, in_X0_hasThinSpan_X0, List.mem_of_getElem? (i := 1) rfl⟩
theorem k_X0_endOfSpan : CkOK yX0_endOfSpan wsX0_endOfSpan rmX0_endOfSpan 0 0 cX0_endOfSpan 4 (some .int) 2 := ⟨⟨_, rfl⟩, rfl, rfl, by decide +kernel⟩
set_option maxHeartbeats 600000 in
set_option maxRecDepth 100000 in
/-- whether a place has a thin span of a stuff -/
theorem ct_X0_hasThinSpan (T : Nat → ClassId) (h0 : Nat) (c0 : Nat) (B : Int → Int) (p : Int) (s : Int) (n : Int) (hB : BOK B) (hp : 0 ≤ p ∧ p < 144) (hs : -2147483648 ≤ s ∧ s ≤ 2147483647) (hn : -2147483648 ≤ n ∧ n ≤ 2147483647) : CtI T yX0_hasThinSpan wsX0_hasThinSpan rmX0_hasThinSpan 0 0 [.ref h0, .int (iI p), .int (iI s), .int (iI n)] [(h0, .inr (0, [.ref c0])), (c0, .inl (T 0, 2880, .inl (fun j : Nat => iI (B j))))] (fun r8 u => r8 = (iI (bI (thinS B p s n))) ∧ u = [(h0, .inr (0, [.ref c0])), (c0, .inl (T 0, 2880, .inl (fun j : Nat => iI (B j))))]) := by
  refine ctI_of (cc := cX0_hasThinSpan) (maxL := 6) (ret := (some .boolean)) (by decide +kernel) rfl rfl (fun r u hp => by obtain ⟨rfl, -⟩ := hp; exact nz_bool _) (Nat.le_of_ble_eq_true rfl) (fun X h hinit hr => ?_)
  refine j_eq (lv' := [(0, .ref h0), (1, .int (iI p)), (2, .int (iI s)), (3, .int (iI n))]) rfl rfl rfl rfl rfl rfl ?_
  refine j_iconst h dX0_hasThinSpan_0 ?_
  refine j_istore (lv' := [(0, .ref h0), (1, .int (iI p)), (2, .int (iI s)), (3, .int (iI n)), (4, .int (iI 0))]) h dX0_hasThinSpan_1 [1, 2, 3, 4, 0] (by decide) rfl ?_
  have lp3 : ∀ (n3 : Nat) (z : Int) (hz : 0 ≤ z ∧ z ≤ 20) (hf : anI (thinB B p s n) z 20 = thinS B p s n), ((20 - z).toNat) < n3 → J X 0 0 3 [(0, .ref h0), (1, .int (iI p)), (2, .int (iI s)), (3, .int (iI n)), (4, .int (iI z))] [] [(h0, .inr (0, [.ref c0])), (c0, .inl (T 0, 2880, .inl (fun j : Nat => iI (B j))))] := by
    intro n3
    induction n3 with
    | zero => exact fun z hz hf hn3 => absurd hn3 (Nat.not_lt_zero _)
    | succ n3 ih3 =>
      intro z hz hf hn3
      refine j_iload h dX0_hasThinSpan_3 4 rfl ?_
      refine j_bipush h dX0_hasThinSpan_5 (by decide) ?_
      refine j_icmp_ge h 71 dX0_hasThinSpan_7 (by decide) (by omega) (by omega) (fun c1 => ?_) (fun c1 => ?_)
      · skip
        refine j_iconst h dX0_hasThinSpan_71 ?_
        exact hr _ _ _ _ dX0_hasThinSpan_72 ⟨(congrArg (fun b9 => iI (bI b9)) (show false = thinS B p s n by rw [← hf, anI_e (by omega)])), rfl⟩
      · skip
        refine j_aload_n h dX0_hasThinSpan_10 0 rfl rfl ?_
        refine j_get h dX0_hasThinSpan_11 f_X0_hasThinSpan_9 0 rfl rfl ?_
        refine j_iload h dX0_hasThinSpan_14 4 rfl ?_
        refine j_sipush h dX0_hasThinSpan_16 (by decide) ?_
        refine j_imul h dX0_hasThinSpan_19 ?_
        refine j_iload_n h dX0_hasThinSpan_20 1 rfl rfl ?_
        refine j_iadd h dX0_hasThinSpan_21 ?_
        refine j_iald (f := B) h (144 * z + p) dX0_hasThinSpan_22 1 rfl (by decide) (by omega) (by omega) ?_
        have e2 := hB (144 * z + p)
        refine j_iload_n h dX0_hasThinSpan_23 2 rfl rfl ?_
        refine j_icmp_ne h 41 dX0_hasThinSpan_24 (by decide) (by omega) (by omega) (fun c3 => ?_) (fun c3 => ?_)
        · skip
          refine j_iconst h dX0_hasThinSpan_41 ?_
          refine j_istore (lv' := [(0, .ref h0), (1, .int (iI p)), (2, .int (iI s)), (3, .int (iI n)), (4, .int (iI z)), (5, .int (iI 0))]) h dX0_hasThinSpan_42 [1, 2, 3, 4, 5, 0] (by decide) rfl ?_
          refine j_iload h dX0_hasThinSpan_44 5 rfl ?_
          refine j_if_eq h 65 dX0_hasThinSpan_46 (by decide) (by omega) (fun c4 => ?_) (fun c4 => ?_)
          · skip
            refine j_iinc (lv' := [(0, .ref h0), (1, .int (iI p)), (2, .int (iI s)), (3, .int (iI n)), (4, .int (iI (z + 1))), (5, .int (iI 0))]) h dX0_hasThinSpan_65 4 [1, 2, 3, 4, 0, 5] rfl (by decide) rfl ?_
            refine j_goto (tgt := 3) h dX0_hasThinSpan_68 (by decide) ?_
            refine j_lv (lv' := [(0, .ref h0), (1, .int (iI p)), (2, .int (iI s)), (3, .int (iI n)), (4, .int (iI (z + 1)))]) [0, 1, 2, 3, 4] rfl ?_
            exact ih3 (z + 1) (by first | assumption | omega) (by rw [← anI_f (by omega) (by unfold thinB; simp_all <;> omega)]; exact hf) (by omega)
          · skip
            exact absurd c4 (by decide)
        · skip
          refine j_aload_n h dX0_hasThinSpan_27 0 rfl rfl ?_
          refine j_iload_n h dX0_hasThinSpan_28 1 rfl rfl ?_
          refine j_iload h dX0_hasThinSpan_29 4 rfl ?_
          refine j_callVi (As := [.int (iI p), .int (iI z)]) (wr := []) (cells' := 0) (slots' := 0) h dX0_hasThinSpan_31 (ct_X0_beginsSpan T h0 c0 B p z (by first | assumption | omega) (by first | assumption | omega) (by first | assumption | omega)) k_X0_beginsSpan gX0_hasThinSpan_X0_beginsSpan rfl rfl 0 rfl ⟨Nat.le_of_ble_eq_true rfl, Nat.le_of_ble_eq_true rfl⟩ rfl rfl (Nat.le_of_ble_eq_true rfl) ⟨Nat.le_of_ble_eq_true rfl, Nat.le_of_ble_eq_true rfl⟩ rfl rfl [0, 1] [] rfl rfl rfl rfl (by decide) (fun r9 u9 p5 => ?_)
          obtain ⟨rfl, rfl⟩ := p5
          refine j_eq (ws' := [(h0, .inr (0, [.ref c0])), (c0, .inl (T 0, 2880, .inl (fun j : Nat => iI (B j))))]) rfl rfl rfl rfl rfl rfl ?_
          refine j_ifeqB h 41 dX0_hasThinSpan_34 (by decide) (fun c6 => ?_) (fun c6 => ?_)
          · skip
            refine j_iconst h dX0_hasThinSpan_41 ?_
            refine j_istore (lv' := [(0, .ref h0), (1, .int (iI p)), (2, .int (iI s)), (3, .int (iI n)), (4, .int (iI z)), (5, .int (iI 0))]) h dX0_hasThinSpan_42 [1, 2, 3, 4, 5, 0] (by decide) rfl ?_
            refine j_iload h dX0_hasThinSpan_44 5 rfl ?_
            refine j_if_eq h 65 dX0_hasThinSpan_46 (by decide) (by omega) (fun c7 => ?_) (fun c7 => ?_)
            · skip
              refine j_iinc (lv' := [(0, .ref h0), (1, .int (iI p)), (2, .int (iI s)), (3, .int (iI n)), (4, .int (iI (z + 1))), (5, .int (iI 0))]) h dX0_hasThinSpan_65 4 [1, 2, 3, 4, 0, 5] rfl (by decide) rfl ?_
              refine j_goto (tgt := 3) h dX0_hasThinSpan_68 (by decide) ?_
              refine j_lv (lv' := [(0, .ref h0), (1, .int (iI p)), (2, .int (iI s)), (3, .int (iI n)), (4, .int (iI (z + 1)))]) [0, 1, 2, 3, 4] rfl ?_
              exact ih3 (z + 1) (by first | assumption | omega) (by rw [← anI_f (by omega) (by unfold thinB; simp_all <;> omega)]; exact hf) (by omega)
            · skip
              exact absurd c7 (by decide)
          · skip
            refine j_iconst h dX0_hasThinSpan_37 ?_
            refine j_goto (tgt := 42) h dX0_hasThinSpan_38 (by decide) ?_
            refine j_istore (lv' := [(0, .ref h0), (1, .int (iI p)), (2, .int (iI s)), (3, .int (iI n)), (4, .int (iI z)), (5, .int (iI 1))]) h dX0_hasThinSpan_42 [1, 2, 3, 4, 5, 0] (by decide) rfl ?_
            refine j_iload h dX0_hasThinSpan_44 5 rfl ?_
            refine j_if_eq h 65 dX0_hasThinSpan_46 (by decide) (by omega) (fun c8 => ?_) (fun c8 => ?_)
            · skip
              exact absurd c8 (by decide)
            · skip
              refine j_aload_n h dX0_hasThinSpan_49 0 rfl rfl ?_
              refine j_iload_n h dX0_hasThinSpan_50 1 rfl rfl ?_
              refine j_iload h dX0_hasThinSpan_51 4 rfl ?_
              refine j_callVi (As := [.int (iI p), .int (iI z)]) (wr := []) (cells' := 0) (slots' := 0) h dX0_hasThinSpan_53 (ct_X0_endOfSpan T h0 c0 B p z (by first | assumption | omega) (by first | assumption | omega) (by first | assumption | omega)) k_X0_endOfSpan gX0_hasThinSpan_X0_endOfSpan rfl rfl 0 rfl ⟨Nat.le_of_ble_eq_true rfl, Nat.le_of_ble_eq_true rfl⟩ rfl rfl (Nat.le_of_ble_eq_true rfl) ⟨Nat.le_of_ble_eq_true rfl, Nat.le_of_ble_eq_true rfl⟩ rfl rfl [0, 1] [] rfl rfl rfl rfl (by decide) (fun r9 u9 p9 => ?_)
              obtain ⟨rfl, rfl⟩ := p9
              have he9 := @endS_rng B p z (by omega)
              refine j_eq (ws' := [(h0, .inr (0, [.ref c0])), (c0, .inl (T 0, 2880, .inl (fun j : Nat => iI (B j))))]) rfl rfl rfl rfl rfl rfl ?_
              refine j_iload h dX0_hasThinSpan_56 4 rfl ?_
              refine j_isub h dX0_hasThinSpan_58 ?_
              refine j_iload_n h dX0_hasThinSpan_59 3 rfl rfl ?_
              refine j_icmp_ge h 65 dX0_hasThinSpan_60 (by decide) (by omega) (by omega) (fun c10 => ?_) (fun c10 => ?_)
              · skip
                refine j_iinc (lv' := [(0, .ref h0), (1, .int (iI p)), (2, .int (iI s)), (3, .int (iI n)), (4, .int (iI (z + 1))), (5, .int (iI 1))]) h dX0_hasThinSpan_65 4 [1, 2, 3, 4, 0, 5] rfl (by decide) rfl ?_
                refine j_goto (tgt := 3) h dX0_hasThinSpan_68 (by decide) ?_
                refine j_lv (lv' := [(0, .ref h0), (1, .int (iI p)), (2, .int (iI s)), (3, .int (iI n)), (4, .int (iI (z + 1)))]) [0, 1, 2, 3, 4] rfl ?_
                exact ih3 (z + 1) (by first | assumption | omega) (by rw [← anI_f (by omega) (by unfold thinB; simp_all <;> omega)]; exact hf) (by omega)
              · skip
                refine j_iconst h dX0_hasThinSpan_63 ?_
                exact hr _ _ _ _ dX0_hasThinSpan_64 ⟨(congrArg (fun b9 => iI (bI b9)) (show true = thinS B p s n by rw [← hf, anI_t (by omega) (by unfold thinB; simp_all <;> omega)])), rfl⟩
  exact lp3 _ 0 (by first | assumption | omega) (by rfl) (Nat.lt_succ_self _)

