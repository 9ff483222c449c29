abbrev rmX11_within : Room := { frames := 0, cells := 0, slots := 0, locals := 0 }
set_option maxHeartbeats 600000 in
set_option maxRecDepth 100000 in
/-- least ≤ number ≤ most -/
theorem ct_X11_within (T : Nat → ClassId) (a : Int) (b : Int) (e : Int) (ha : -2147483648 ≤ a ∧ a ≤ 2147483647) (hb : -2147483648 ≤ b ∧ b ≤ 2147483647) (he : -2147483648 ≤ e ∧ e ≤ 2147483647) : CtI T yX11_within wsX11_within rmX11_within 0 0 [.int (iI a), .int (iI b), .int (iI e)] [] (fun r8 u => r8 = (iI (bI (decide (b ≤ a ∧ a ≤ e)))) ∧ u = []) := by
  refine ctI_of (cc := cX11_within) (maxL := 3) (ret := (some .boolean)) (by decide +kernel) rfl rfl (fun r u hp => by obtain ⟨rfl, -⟩ := hp; exact nz_bool _) (Nat.le_of_ble_eq_true rfl) (fun X h hinit hr => ?_)
  refine j_eq (lv' := [(0, .int (iI a)), (1, .int (iI b)), (2, .int (iI e))]) rfl rfl rfl rfl rfl rfl ?_
  refine j_iload_n h dX11_within_0 0 rfl rfl ?_
  refine j_iload_n h dX11_within_1 1 rfl rfl ?_
  refine j_icmp_lt h 14 dX11_within_2 (by decide) (by omega) (by omega) (fun c1 => ?_) (fun c1 => ?_)
  · skip
    refine j_iconst h dX11_within_14 ?_
    exact hr _ _ _ _ dX11_within_15 ⟨(congrArg (fun b9 => iI (bI b9)) (show false = decide (b ≤ a ∧ a ≤ e) by symm; simp; omega)), rfl⟩
  · skip
    refine j_iload_n h dX11_within_5 0 rfl rfl ?_
    refine j_iload_n h dX11_within_6 2 rfl rfl ?_
    refine j_icmp_gt h 14 dX11_within_7 (by decide) (by omega) (by omega) (fun c2 => ?_) (fun c2 => ?_)
    · skip
      refine j_iconst h dX11_within_14 ?_
      exact hr _ _ _ _ dX11_within_15 ⟨(congrArg (fun b9 => iI (bI b9)) (show false = decide (b ≤ a ∧ a ≤ e) by symm; simp; omega)), rfl⟩
    · skip
      refine j_iconst h dX11_within_10 ?_
      refine j_goto (tgt := 15) h dX11_within_11 (by decide) ?_
      exact hr _ _ _ _ dX11_within_15 ⟨(congrArg (fun b9 => iI (bI b9)) (show true = decide (b ≤ a ∧ a ≤ e) by symm; simp; omega)), rfl⟩

abbrev rmX11_hasKind : Room := { frames := 0, cells := 0, slots := 0, locals := 0 }
set_option maxHeartbeats 600000 in
set_option maxRecDepth 100000 in
/-- whether a kind is in a set of kinds -/
theorem ct_X11_hasKind (T : Nat → ClassId) (K : Int) (v : Int) (hK : 0 ≤ K ∧ K ≤ 2147483647) (hv : 0 ≤ v ∧ v ≤ 31) : CtI T yX11_hasKind wsX11_hasKind rmX11_hasKind 0 0 [.int (iI K), .int (iI v)] [] (fun r8 u => r8 = (iI (bI (hk K v))) ∧ u = []) := by
  refine ctI_of (cc := cX11_hasKind) (maxL := 2) (ret := (some .boolean)) (by decide +kernel) rfl rfl (fun r u hp => by obtain ⟨rfl, -⟩ := hp; exact nz_bool _) (Nat.le_of_ble_eq_true rfl) (fun X h hinit hr => ?_)
  refine j_eq (lv' := [(0, .int (iI K)), (1, .int (iI v))]) rfl rfl rfl rfl rfl rfl ?_
  refine j_iload_n h dX11_hasKind_0 0 rfl rfl ?_
  refine j_iload_n h dX11_hasKind_1 1 rfl rfl ?_
  refine j_ishr h dX11_hasKind_2 (by omega) (by omega) ?_
  refine j_iconst h dX11_hasKind_3 ?_
  refine j_iandm h dX11_hasKind_4 1 (by decide) (by decide) ?_
  refine j_if_eq h 12 dX11_hasKind_5 (by decide) (by omega) (fun c1 => ?_) (fun c1 => ?_)
  · skip
    refine j_iconst h dX11_hasKind_12 ?_
    exact hr _ _ _ _ dX11_hasKind_13 ⟨(congrArg (fun b9 => iI (bI b9)) (show false = hk K v by exact (hk_eq.mp (by assumption)).symm)), rfl⟩
  · skip
    refine j_iconst h dX11_hasKind_8 ?_
    refine j_goto (tgt := 13) h dX11_hasKind_9 (by decide) ?_
    exact hr _ _ _ _ dX11_hasKind_13 ⟨(congrArg (fun b9 => iI (bI b9)) (show true = hk K v by exact (hk_ne.mp (by assumption)).symm)), rfl⟩

abbrev rmX11_beside : Room := { frames := 0, cells := 0, slots := 0, locals := 0 }
set_option maxHeartbeats 600000 in
set_option maxRecDepth 100000 in
/-- the cube beside a cube on a way -/
theorem ct_X11_beside (T : Nat → ClassId) (c : Int) (w : Int) (hc : 0 ≤ c ∧ c < 2880) (hw : 0 ≤ w ∧ w ≤ 5) : CtI T yX11_beside wsX11_beside rmX11_beside 0 0 [.int (iI c), .int (iI w)] [] (fun r8 u => r8 = (iI (bes c w)) ∧ u = []) := by
  refine ctI_of (cc := cX11_beside) (maxL := 2) (ret := (some .int)) (by decide +kernel) rfl rfl (fun r u hp => by obtain ⟨rfl, -⟩ := hp; rfl) (Nat.le_of_ble_eq_true rfl) (fun X h hinit hr => ?_)
  refine j_eq (lv' := [(0, .int (iI c)), (1, .int (iI w))]) rfl rfl rfl rfl rfl rfl ?_
  refine j_iload_n h dX11_beside_0 1 rfl rfl ?_
  rcases (show w = 0 ∨ w = 1 ∨ w = 2 ∨ w = 3 ∨ w = 4 ∨ (w < 0 ∨ 4 < w) by omega) with c1 | c1 | c1 | c1 | c1 | c1
  · skip
    refine j_tabIn h 36 dX11_beside_1 (by omega) (by omega) (by omega) (by rw [c1]; rfl) (by decide) ?_
    refine j_iload_n h dX11_beside_36 0 rfl rfl ?_
    refine j_bipush h dX11_beside_37 (by decide) ?_
    refine j_irem h dX11_beside_39 (by omega) (by omega) ?_
    refine j_if_le h 49 dX11_beside_40 (by decide) (by omega) (fun c2 => ?_) (fun c2 => ?_)
    · skip
      refine j_iconst h dX11_beside_49 ?_
      exact hr _ _ _ _ dX11_beside_50 ⟨(congrArg iI (show (-1 : Int) = bes c w by unfold bes; split <;> (try split) <;> (try split) <;> (try split) <;> (try split) <;> (try split) <;> omega)), rfl⟩
    · skip
      refine j_iload_n h dX11_beside_43 0 rfl rfl ?_
      refine j_iconst h dX11_beside_44 ?_
      refine j_isub h dX11_beside_45 ?_
      refine j_goto (tgt := 50) h dX11_beside_46 (by decide) ?_
      exact hr _ _ _ _ dX11_beside_50 ⟨(congrArg iI (show ((c - 1) : Int) = bes c w by unfold bes; split <;> (try split) <;> (try split) <;> (try split) <;> (try split) <;> (try split) <;> omega)), rfl⟩
  · skip
    refine j_tabIn h 51 dX11_beside_1 (by omega) (by omega) (by omega) (by rw [c1]; rfl) (by decide) ?_
    refine j_iload_n h dX11_beside_51 0 rfl rfl ?_
    refine j_bipush h dX11_beside_52 (by decide) ?_
    refine j_irem h dX11_beside_54 (by omega) (by omega) ?_
    refine j_bipush h dX11_beside_55 (by decide) ?_
    refine j_icmp_ge h 66 dX11_beside_57 (by decide) (by omega) (by omega) (fun c3 => ?_) (fun c3 => ?_)
    · skip
      refine j_iconst h dX11_beside_66 ?_
      exact hr _ _ _ _ dX11_beside_67 ⟨(congrArg iI (show (-1 : Int) = bes c w by unfold bes; split <;> (try split) <;> (try split) <;> (try split) <;> (try split) <;> (try split) <;> omega)), rfl⟩
    · skip
      refine j_iload_n h dX11_beside_60 0 rfl rfl ?_
      refine j_iconst h dX11_beside_61 ?_
      refine j_iadd h dX11_beside_62 ?_
      refine j_goto (tgt := 67) h dX11_beside_63 (by decide) ?_
      exact hr _ _ _ _ dX11_beside_67 ⟨(congrArg iI (show ((c + 1) : Int) = bes c w by unfold bes; split <;> (try split) <;> (try split) <;> (try split) <;> (try split) <;> (try split) <;> omega)), rfl⟩
  · skip
    refine j_tabIn h 68 dX11_beside_1 (by omega) (by omega) (by omega) (by rw [c1]; rfl) (by decide) ?_
    refine j_iload_n h dX11_beside_68 0 rfl rfl ?_
    refine j_sipush h dX11_beside_69 (by decide) ?_
    refine j_irem h dX11_beside_72 (by omega) (by omega) ?_
    refine j_bipush h dX11_beside_73 (by decide) ?_
    refine j_icmp_lt h 85 dX11_beside_75 (by decide) (by omega) (by omega) (fun c4 => ?_) (fun c4 => ?_)
    · skip
      refine j_iconst h dX11_beside_85 ?_
      exact hr _ _ _ _ dX11_beside_86 ⟨(congrArg iI (show (-1 : Int) = bes c w by unfold bes; split <;> (try split) <;> (try split) <;> (try split) <;> (try split) <;> (try split) <;> omega)), rfl⟩
    · skip
      refine j_iload_n h dX11_beside_78 0 rfl rfl ?_
      refine j_bipush h dX11_beside_79 (by decide) ?_
      refine j_isub h dX11_beside_81 ?_
      refine j_goto (tgt := 86) h dX11_beside_82 (by decide) ?_
      exact hr _ _ _ _ dX11_beside_86 ⟨(congrArg iI (show ((c - 12) : Int) = bes c w by unfold bes; split <;> (try split) <;> (try split) <;> (try split) <;> (try split) <;> (try split) <;> omega)), rfl⟩
  · skip
    refine j_tabIn h 87 dX11_beside_1 (by omega) (by omega) (by omega) (by rw [c1]; rfl) (by decide) ?_
    refine j_iload_n h dX11_beside_87 0 rfl rfl ?_
    refine j_sipush h dX11_beside_88 (by decide) ?_
    refine j_irem h dX11_beside_91 (by omega) (by omega) ?_
    refine j_sipush h dX11_beside_92 (by decide) ?_
    refine j_icmp_ge h 105 dX11_beside_95 (by decide) (by omega) (by omega) (fun c5 => ?_) (fun c5 => ?_)
    · skip
      refine j_iconst h dX11_beside_105 ?_
      exact hr _ _ _ _ dX11_beside_106 ⟨(congrArg iI (show (-1 : Int) = bes c w by unfold bes; split <;> (try split) <;> (try split) <;> (try split) <;> (try split) <;> (try split) <;> omega)), rfl⟩
    · skip
      refine j_iload_n h dX11_beside_98 0 rfl rfl ?_
      refine j_bipush h dX11_beside_99 (by decide) ?_
      refine j_iadd h dX11_beside_101 ?_
      refine j_goto (tgt := 106) h dX11_beside_102 (by decide) ?_
      exact hr _ _ _ _ dX11_beside_106 ⟨(congrArg iI (show ((c + 12) : Int) = bes c w by unfold bes; split <;> (try split) <;> (try split) <;> (try split) <;> (try split) <;> (try split) <;> omega)), rfl⟩
  · skip
    refine j_tabIn h 107 dX11_beside_1 (by omega) (by omega) (by omega) (by rw [c1]; rfl) (by decide) ?_
    refine j_iload_n h dX11_beside_107 0 rfl rfl ?_
    refine j_sipush h dX11_beside_108 (by decide) ?_
    refine j_icmp_lt h 122 dX11_beside_111 (by decide) (by omega) (by omega) (fun c6 => ?_) (fun c6 => ?_)
    · skip
      refine j_iconst h dX11_beside_122 ?_
      exact hr _ _ _ _ dX11_beside_123 ⟨(congrArg iI (show (-1 : Int) = bes c w by unfold bes; split <;> (try split) <;> (try split) <;> (try split) <;> (try split) <;> (try split) <;> omega)), rfl⟩
    · skip
      refine j_iload_n h dX11_beside_114 0 rfl rfl ?_
      refine j_sipush h dX11_beside_115 (by decide) ?_
      refine j_isub h dX11_beside_118 ?_
      refine j_goto (tgt := 123) h dX11_beside_119 (by decide) ?_
      exact hr _ _ _ _ dX11_beside_123 ⟨(congrArg iI (show ((c - 144) : Int) = bes c w by unfold bes; split <;> (try split) <;> (try split) <;> (try split) <;> (try split) <;> (try split) <;> omega)), rfl⟩
  · skip
    refine j_tabOut h 124 dX11_beside_1 (by omega) (by omega) (by decide) ?_
    refine j_iload_n h dX11_beside_124 0 rfl rfl ?_
    refine j_sipush h dX11_beside_125 (by decide) ?_
    refine j_icmp_ge h 139 dX11_beside_128 (by decide) (by omega) (by omega) (fun c7 => ?_) (fun c7 => ?_)
    · skip
      refine j_iconst h dX11_beside_139 ?_
      exact hr _ _ _ _ dX11_beside_140 ⟨(congrArg iI (show (-1 : Int) = bes c w by unfold bes; split <;> (try split) <;> (try split) <;> (try split) <;> (try split) <;> (try split) <;> omega)), rfl⟩
    · skip
      refine j_iload_n h dX11_beside_131 0 rfl rfl ?_
      refine j_sipush h dX11_beside_132 (by decide) ?_
      refine j_iadd h dX11_beside_135 ?_
      refine j_goto (tgt := 140) h dX11_beside_136 (by decide) ?_
      exact hr _ _ _ _ dX11_beside_140 ⟨(congrArg iI (show ((c + 144) : Int) = bes c w by unfold bes; split <;> (try split) <;> (try split) <;> (try split) <;> (try split) <;> (try split) <;> omega)), rfl⟩

