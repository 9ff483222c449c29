theorem nz_char {z : Int} (h : 0 ≤ z ∧ z < 128) : narrow .char (.int (iI z)) = .int (iI z) := by
  obtain ⟨n, rfl⟩ := Int.eq_ofNat_of_zero_le h.1
  have key : ∀ n : Nat, n < 128 → narrow .char (.int (iI n)) = .int (iI n) := by decide +kernel
  exact key n (by omega)
abbrev rmJ0_coder_7d493 : Room := { frames := 0, cells := 0, slots := 0, locals := 0 }
set_option maxHeartbeats 600000 in
set_option maxRecDepth 100000 in
theorem ct_J0_coder_7d493 (T : Nat → ClassId) (kk : Nat) (hkk : kk < 24) : CtI T yJ0_coder_7d493 wsJ0_coder_7d493 rmJ0_coder_7d493 0 0 [.ref (T (100 + kk))] [] (fun r8 u => r8 = (iI 0) ∧ u = []) := by
  refine ctI_of (cc := cJ0_coder_7d493) (maxL := 1) (ret := (some .byte)) (by decide +kernel) rfl rfl (fun r u hp => by obtain ⟨rfl, -⟩ := hp; rfl) (Nat.le_of_ble_eq_true rfl) (fun X h hinit hr => ?_)
  refine j_eq (lv' := [(0, .ref (T (100 + kk)))]) rfl rfl rfl rfl rfl rfl ?_
  refine j_gstZ h dJ0_coder_7d493_0 (List.mem_of_getElem? (i := 1) rfl) ?_
  refine j_if_eq h 13 dJ0_coder_7d493_3 (by decide) (by omega) (fun c1 => ?_) (fun c1 => ?_)
  · skip
    exact absurd c1 (by decide)
  · skip
    refine j_aload_n h dJ0_coder_7d493_6 0 rfl rfl ?_
    refine j_getSC h kk dJ0_coder_7d493_7 rfl (by omega) (List.mem_of_getElem? (i := 2) rfl) ?_
    refine j_goto (tgt := 14) h dJ0_coder_7d493_10 (by decide) ?_
    exact hr _ _ _ _ dJ0_coder_7d493_14 ⟨rfl, rfl⟩

abbrev rmJ0_isLatin1_aae02 : Room := { frames := 0, cells := 0, slots := 0, locals := 0 }
set_option maxHeartbeats 600000 in
set_option maxRecDepth 100000 in
theorem ct_J0_isLatin1_aae02 (T : Nat → ClassId) (kk : Nat) (hkk : kk < 24) : CtI T yJ0_isLatin1_aae02 wsJ0_isLatin1_aae02 rmJ0_isLatin1_aae02 0 0 [.ref (T (100 + kk))] [] (fun r8 u => r8 = (iI 1) ∧ u = []) := by
  refine ctI_of (cc := cJ0_isLatin1_aae02) (maxL := 1) (ret := (some .boolean)) (by decide +kernel) rfl rfl (fun r u hp => by obtain ⟨rfl, -⟩ := hp; exact nz_bool true) (Nat.le_of_ble_eq_true rfl) (fun X h hinit hr => ?_)
  refine j_eq (lv' := [(0, .ref (T (100 + kk)))]) rfl rfl rfl rfl rfl rfl ?_
  refine j_gstZ h dJ0_isLatin1_aae02_0 (List.mem_of_getElem? (i := 1) rfl) ?_
  refine j_if_eq h 17 dJ0_isLatin1_aae02_3 (by decide) (by omega) (fun c1 => ?_) (fun c1 => ?_)
  · skip
    exact absurd c1 (by decide)
  · skip
    refine j_aload_n h dJ0_isLatin1_aae02_6 0 rfl rfl ?_
    refine j_getSC h kk dJ0_isLatin1_aae02_7 rfl (by omega) (List.mem_of_getElem? (i := 2) rfl) ?_
    refine j_if_ne h 17 dJ0_isLatin1_aae02_10 (by decide) (by omega) (fun c2 => ?_) (fun c2 => ?_)
    · skip
      exact absurd c2 (by decide)
    · skip
      refine j_iconst h dJ0_isLatin1_aae02_13 ?_
      refine j_goto (tgt := 18) h dJ0_isLatin1_aae02_14 (by decide) ?_
      exact hr _ _ _ _ dJ0_isLatin1_aae02_18 ⟨rfl, rfl⟩

abbrev rmJ0_length_8abf5 : Room := { frames := 1, cells := 0, slots := 0, locals := 20 }
theorem k_J0_coder_7d493 : CkOK yJ0_coder_7d493 wsJ0_coder_7d493 rmJ0_coder_7d493 0 0 cJ0_coder_7d493 1 (some .byte) 0 := ⟨⟨_, rfl⟩, rfl, rfl, by decide +kernel⟩
set_option maxHeartbeats 600000 in
set_option maxRecDepth 100000 in
theorem ct_J0_length_8abf5 (T : Nat → ClassId) (kk : Nat) (hkk : kk < 24) : CtI T yJ0_length_8abf5 wsJ0_length_8abf5 rmJ0_length_8abf5 0 0 [.ref (T (100 + kk))] [] (fun r8 u => r8 = (iI (slen kk)) ∧ u = []) := by
  refine ctI_of (cc := cJ0_length_8abf5) (maxL := 1) (ret := (some .int)) (by decide +kernel) rfl rfl (fun r u hp => by obtain ⟨rfl, -⟩ := hp; rfl) (Nat.le_of_ble_eq_true rfl) (fun X h hinit hr => ?_)
  refine j_eq (lv' := [(0, .ref (T (100 + kk)))]) rfl rfl rfl rfl rfl rfl ?_
  have hsl9 := slen_rng hkk
  refine j_aload_n h dJ0_length_8abf5_0 0 rfl rfl ?_
  refine j_getSV h kk dJ0_length_8abf5_1 rfl (by omega) (List.mem_of_getElem? (i := 1) rfl) ?_
  refine j_alenS h kk dJ0_length_8abf5_4 (by omega) ?_
  refine j_aload_n h dJ0_length_8abf5_5 0 rfl rfl ?_
  refine j_callVSi (As := []) (wr := []) (cells' := 0) (slots' := 0) h dJ0_length_8abf5_6 (ct_J0_coder_7d493 T kk (by first | assumption | omega)) k_J0_coder_7d493 gJ0_length_8abf5_J0_coder_7d493 rfl rfl (by omega) ⟨Nat.le_of_ble_eq_true rfl, Nat.le_of_ble_eq_true rfl⟩ rfl rfl (Nat.le_of_ble_eq_true rfl) ⟨Nat.le_of_ble_eq_true rfl, Nat.le_of_ble_eq_true rfl⟩ rfl rfl [] [] rfl rfl rfl rfl (by decide) (fun r9 u9 p1 => ?_)
  obtain ⟨rfl, rfl⟩ := p1
  refine j_eq (ws' := []) rfl rfl rfl rfl rfl rfl ?_
  refine j_ishr h dJ0_length_8abf5_9 (by first | omega | decide) (by first | omega | decide) ?_
  exact hr _ _ _ _ dJ0_length_8abf5_10 ⟨(congrArg iI (show (((slen kk) / 2 ^ (0 : Int).toNat) : Int) = (slen kk) by simp)), rfl⟩

abbrev rmJ3_checkIndex_8e157 : Room := { frames := 0, cells := 0, slots := 0, locals := 0 }
theorem jb_J3_checkIndex_8e157 {T : Nat → ClassId} {X : JX} {i n : Int} (hi : 0 ≤ i ∧ i < n) (hn : n ≤ 2147483647) (h : CxOK X T cJ3_checkIndex_8e157 yJ3_checkIndex_8e157.cls wsJ3_checkIndex_8e157 rmJ3_checkIndex_8e157 3) (hr : RtI X cJ3_checkIndex_8e157 0 0 (fun r8 u => r8 = (iI i) ∧ u = [])) : J X 0 0 0 [(0, .int (iI i)), (1, .int (iI n))] [] [] := by
  refine j_iload_n h dJ3_checkIndex_8e157_0 0 rfl rfl ?_
  refine j_if_lt h 9 dJ3_checkIndex_8e157_1 (by decide) (by omega) (fun c1 => ?_) (fun c1 => ?_)
  · skip
    exact absurd c1 (by omega)
  · skip
    refine j_iload_n h dJ3_checkIndex_8e157_4 0 rfl rfl ?_
    refine j_iload_n h dJ3_checkIndex_8e157_5 1 rfl rfl ?_
    refine j_icmp_lt h 16 dJ3_checkIndex_8e157_6 (by decide) (by omega) (by omega) (fun c2 => ?_) (fun c2 => ?_)
    · skip
      refine j_iload_n h dJ3_checkIndex_8e157_16 0 rfl rfl ?_
      exact hr _ _ _ _ dJ3_checkIndex_8e157_17 ⟨rfl, rfl⟩
    · skip
      exact absurd c2 (by omega)
theorem ct_J3_checkIndex_8e157 (T : Nat → ClassId) (i : Int) (n : Int) (v : Value) (hi : 0 ≤ i ∧ i < n) (hn : n ≤ 2147483647) (hv : v = .null ∨ ∃ t, v = .ref t) : CtI T yJ3_checkIndex_8e157 wsJ3_checkIndex_8e157 rmJ3_checkIndex_8e157 0 0 [.int (iI i), .int (iI n), v] [] (fun r8 u => r8 = (iI i) ∧ u = []) := by
  rcases hv with rfl | ⟨t, rfl⟩
  · exact ctI_of (cc := cJ3_checkIndex_8e157) (maxL := 3) (ret := (some .int)) (by decide +kernel) rfl rfl (fun r u hp => by obtain ⟨rfl, -⟩ := hp; rfl) (Nat.le_of_ble_eq_true rfl) (fun X h hinit hr => j_lv [0, 1] rfl (jb_J3_checkIndex_8e157 hi hn h hr))
  · exact ctI_of (cc := cJ3_checkIndex_8e157) (maxL := 3) (ret := (some .int)) (by decide +kernel) rfl rfl (fun r u hp => by obtain ⟨rfl, -⟩ := hp; rfl) (Nat.le_of_ble_eq_true rfl) (fun X h hinit hr => j_lv [0, 1] rfl (jb_J3_checkIndex_8e157 hi hn h hr))
abbrev rmJ0_checkIndex_df160 : Room := { frames := 1, cells := 0, slots := 0, locals := 22 }
theorem k_J3_checkIndex_8e157 : CkOK yJ3_checkIndex_8e157 wsJ3_checkIndex_8e157 rmJ3_checkIndex_8e157 0 0 cJ3_checkIndex_8e157 3 (some .int) 3 := ⟨⟨_, rfl⟩, rfl, rfl, by decide +kernel⟩
set_option maxHeartbeats 600000 in
set_option maxRecDepth 100000 in
theorem ct_J0_checkIndex_df160 (T : Nat → ClassId) (i : Int) (n : Int) (hi : 0 ≤ i ∧ i < n) (hn : n ≤ 2147483647) : CtV T yJ0_checkIndex_df160 wsJ0_checkIndex_df160 rmJ0_checkIndex_df160 0 0 [.int (iI i), .int (iI n)] [] (fun u => u = []) := by
  refine ctV_of (cc := cJ0_checkIndex_df160) (maxL := 2) (ret := none) (by decide +kernel) rfl rfl (Nat.le_of_ble_eq_true rfl) (fun X h hinit hr => ?_)
  refine j_eq (lv' := [(0, .int (iI i)), (1, .int (iI n))]) rfl rfl rfl rfl rfl rfl ?_
  refine j_iload_n h dJ0_checkIndex_df160_0 0 rfl rfl ?_
  refine j_iload_n h dJ0_checkIndex_df160_1 1 rfl rfl ?_
  refine j_gstQ h dJ0_checkIndex_df160_2 (List.mem_of_getElem? (i := 1) rfl) (fun v9 hv9 => ?_)
  refine j_callSi (As := [.int (iI i), .int (iI n), v9]) (wr := []) (cells' := 0) (slots' := 0) h dJ0_checkIndex_df160_5 (ct_J3_checkIndex_8e157 T i n v9 (by first | assumption | omega) (by first | assumption | omega) (by exact hv9)) k_J3_checkIndex_8e157 gJ0_checkIndex_df160_J3_checkIndex_8e157 ⟨Nat.le_of_ble_eq_true rfl, Nat.le_of_ble_eq_true rfl⟩ rfl rfl (Nat.le_of_ble_eq_true rfl) ⟨Nat.le_of_ble_eq_true rfl, Nat.le_of_ble_eq_true rfl⟩ rfl rfl [] [] rfl rfl rfl rfl (by decide) (fun r9 u9 p1 => ?_)
  obtain ⟨rfl, rfl⟩ := p1
  refine j_eq (ws' := []) rfl rfl rfl rfl rfl rfl ?_
  refine j_pop h dJ0_checkIndex_df160_8 rfl ?_
  exact hr _ _ _ dJ0_checkIndex_df160_9 rfl

abbrev rmJ1_charAt_3b067 : Room := { frames := 2, cells := 0, slots := 0, locals := 43 }
theorem k_J0_checkIndex_df160 : CkOK yJ0_checkIndex_df160 wsJ0_checkIndex_df160 rmJ0_checkIndex_df160 0 0 cJ0_checkIndex_df160 2 none 2 := ⟨⟨_, rfl⟩, rfl, rfl, by decide +kernel⟩
set_option maxHeartbeats 600000 in
set_option maxRecDepth 100000 in
theorem ct_J1_charAt_3b067 (T : Nat → ClassId) (kk : Nat) (i : Int) (hkk : kk < 24) (hi : 0 ≤ i ∧ i < slen kk) : CtI T yJ1_charAt_3b067 wsJ1_charAt_3b067 rmJ1_charAt_3b067 0 0 [.ref (T (200 + kk)), .int (iI i)] [] (fun r8 u => r8 = (iI (sch kk i)) ∧ u = []) := by
  refine ctI_of (cc := cJ1_charAt_3b067) (maxL := 2) (ret := (some .char)) (by decide +kernel) rfl rfl (fun r u hp => by obtain ⟨rfl, -⟩ := hp; exact nz_char (sch_rng hkk hi)) (Nat.le_of_ble_eq_true rfl) (fun X h hinit hr => ?_)
  refine j_eq (lv' := [(0, .ref (T (200 + kk))), (1, .int (iI i))]) rfl rfl rfl rfl rfl rfl ?_
  have hsl9 := slen_rng hkk
  have hsc9 := sch_rng hkk hi
  refine j_iload_n h dJ1_charAt_3b067_0 1 rfl rfl ?_
  refine j_aload_n h dJ1_charAt_3b067_1 0 rfl rfl ?_
  refine j_alenS h kk dJ1_charAt_3b067_2 (by omega) ?_
  refine j_callSv (As := [.int (iI i), .int (iI (slen kk))]) (wr := []) (cells' := 0) (slots' := 0) h dJ1_charAt_3b067_3 (ct_J0_checkIndex_df160 T i (slen kk) (by first | assumption | omega) (by first | assumption | omega)) k_J0_checkIndex_df160 gJ1_charAt_3b067_J0_checkIndex_df160 ⟨Nat.le_of_ble_eq_true rfl, Nat.le_of_ble_eq_true rfl⟩ rfl rfl (Nat.le_of_ble_eq_true rfl) ⟨Nat.le_of_ble_eq_true rfl, Nat.le_of_ble_eq_true rfl⟩ rfl rfl [] [] rfl rfl rfl rfl (by decide) (fun u9 p1 => ?_)
  obtain rfl := p1
  refine j_eq (ws' := []) rfl rfl rfl rfl rfl rfl ?_
  refine j_aload_n h dJ1_charAt_3b067_6 0 rfl rfl ?_
  refine j_iload_n h dJ1_charAt_3b067_7 1 rfl rfl ?_
  refine j_baldS h kk i dJ1_charAt_3b067_8 (by omega) (by omega) ?_
  refine j_sipush h dJ1_charAt_3b067_9 (by decide) ?_
  refine j_iandm h dJ1_charAt_3b067_12 8 (by decide) (by decide) ?_
  refine j_i2c h dJ1_charAt_3b067_13 (by omega) ?_
  exact hr _ _ _ _ dJ1_charAt_3b067_14 ⟨(congrArg iI (show (((sch kk i) % 2 ^ 8) : Int) = (sch kk i) by simp; omega)), rfl⟩

abbrev rmJ0_charAt_5068e : Room := { frames := 3, cells := 0, slots := 0, locals := 64 }
theorem k_J0_isLatin1_aae02 : CkOK yJ0_isLatin1_aae02 wsJ0_isLatin1_aae02 rmJ0_isLatin1_aae02 0 0 cJ0_isLatin1_aae02 1 (some .boolean) 0 := ⟨⟨_, rfl⟩, rfl, rfl, by decide +kernel⟩
theorem k_J1_charAt_3b067 : CkOK yJ1_charAt_3b067 wsJ1_charAt_3b067 rmJ1_charAt_3b067 0 0 cJ1_charAt_3b067 2 (some .char) 2 := ⟨⟨_, rfl⟩, rfl, rfl, by decide +kernel⟩
set_option maxHeartbeats 600000 in
set_option maxRecDepth 100000 in
theorem ct_J0_charAt_5068e (T : Nat → ClassId) (kk : Nat) (i : Int) (hkk : kk < 24) (hi : 0 ≤ i ∧ i < slen kk) : CtI T yJ0_charAt_5068e wsJ0_charAt_5068e rmJ0_charAt_5068e 0 0 [.ref (T (100 + kk)), .int (iI i)] [] (fun r8 u => r8 = (iI (sch kk i)) ∧ u = []) := by
  refine ctI_of (cc := cJ0_charAt_5068e) (maxL := 2) (ret := (some .char)) (by decide +kernel) rfl rfl (fun r u hp => by obtain ⟨rfl, -⟩ := hp; exact nz_char (sch_rng hkk hi)) (Nat.le_of_ble_eq_true rfl) (fun X h hinit hr => ?_)
  refine j_eq (lv' := [(0, .ref (T (100 + kk))), (1, .int (iI i))]) rfl rfl rfl rfl rfl rfl ?_
  have hsl9 := slen_rng hkk
  have hsc9 := sch_rng hkk hi
  refine j_aload_n h dJ0_charAt_5068e_0 0 rfl rfl ?_
  refine j_callVSi (As := []) (wr := []) (cells' := 0) (slots' := 0) h dJ0_charAt_5068e_1 (ct_J0_isLatin1_aae02 T kk (by first | assumption | omega)) k_J0_isLatin1_aae02 gJ0_charAt_5068e_J0_isLatin1_aae02 rfl rfl (by omega) ⟨Nat.le_of_ble_eq_true rfl, Nat.le_of_ble_eq_true rfl⟩ rfl rfl (Nat.le_of_ble_eq_true rfl) ⟨Nat.le_of_ble_eq_true rfl, Nat.le_of_ble_eq_true rfl⟩ rfl rfl [] [] rfl rfl rfl rfl (by decide) (fun r9 u9 p1 => ?_)
  obtain ⟨rfl, rfl⟩ := p1
  refine j_eq (ws' := []) rfl rfl rfl rfl rfl rfl ?_
  refine j_if_eq h 16 dJ0_charAt_5068e_4 (by decide) (by omega) (fun c2 => ?_) (fun c2 => ?_)
  · skip
    exact absurd c2 (by decide)
  · skip
    refine j_aload_n h dJ0_charAt_5068e_7 0 rfl rfl ?_
    refine j_getSV h kk dJ0_charAt_5068e_8 rfl (by omega) (List.mem_of_getElem? (i := 1) rfl) ?_
    refine j_iload_n h dJ0_charAt_5068e_11 1 rfl rfl ?_
    refine j_callSi (As := [.ref (T (200 + kk)), .int (iI i)]) (wr := []) (cells' := 0) (slots' := 0) h dJ0_charAt_5068e_12 (ct_J1_charAt_3b067 T kk i (by first | assumption | omega) (by first | assumption | omega)) k_J1_charAt_3b067 gJ0_charAt_5068e_J1_charAt_3b067 ⟨Nat.le_of_ble_eq_true rfl, Nat.le_of_ble_eq_true rfl⟩ rfl rfl (Nat.le_of_ble_eq_true rfl) ⟨Nat.le_of_ble_eq_true rfl, Nat.le_of_ble_eq_true rfl⟩ rfl rfl [] [] rfl rfl rfl rfl (by decide) (fun r9 u9 p3 => ?_)
    obtain ⟨rfl, rfl⟩ := p3
    have hsc9 := sch_rng (kk := kk) (i := i) (by omega) (by omega)
    refine j_eq (ws' := []) rfl rfl rfl rfl rfl rfl ?_
    exact hr _ _ _ _ dJ0_charAt_5068e_15 ⟨rfl, rfl⟩

abbrev rmX11_nameOf : Room := { frames := 0, cells := 0, slots := 0, locals := 0 }
set_option maxHeartbeats 600000 in
set_option maxRecDepth 100000 in
/-- the name of a step -/
theorem ct_X11_nameOf (T : Nat → ClassId) (w : Int) (hw : 0 ≤ w ∧ w < 14) : CtR T yX11_nameOf wsX11_nameOf rmX11_nameOf 0 0 [.int (iI w)] [] (fun r8 u => r8 = (T (100 + w.toNat)) ∧ u = []) := by
  refine ctR_of (cc := cX11_nameOf) (maxL := 1) (ret := (some (.object "java/lang/String"))) (by decide +kernel) rfl rfl (Or.inl ⟨_, rfl⟩) (Nat.le_of_ble_eq_true rfl) (fun X h hinit hr => ?_)
  refine j_eq (lv' := [(0, .int (iI w))]) rfl rfl rfl rfl rfl rfl ?_
  refine j_iload_n h dX11_nameOf_0 0 rfl rfl ?_
  rcases (show w = 0 ∨ w = 1 ∨ w = 2 ∨ w = 3 ∨ w = 4 ∨ w = 5 ∨ w = 6 ∨ w = 7 ∨ w = 8 ∨ w = 9 ∨ w = 10 ∨ w = 11 ∨ w = 12 ∨ (w < 0 ∨ 12 < w) by omega) with c1 | c1 | c1 | c1 | c1 | c1 | c1 | c1 | c1 | c1 | c1 | c1 | c1 | c1
  · skip
    refine j_tabIn h 68 dX11_nameOf_1 (by omega) (by omega) (by omega) (by rw [c1]; rfl) (by decide) ?_
    refine j_ldcS h 0 dX11_nameOf_68 rfl (by decide) rfl ?_
    exact hr _ _ _ _ dX11_nameOf_70 ⟨(show (T (100 + 0)) = (T (100 + w.toNat)) by congr 2; omega), rfl⟩
  · skip
    refine j_tabIn h 71 dX11_nameOf_1 (by omega) (by omega) (by omega) (by rw [c1]; rfl) (by decide) ?_
    refine j_ldcS h 1 dX11_nameOf_71 rfl (by decide) rfl ?_
    exact hr _ _ _ _ dX11_nameOf_73 ⟨(show (T (100 + 1)) = (T (100 + w.toNat)) by congr 2; omega), rfl⟩
  · skip
    refine j_tabIn h 74 dX11_nameOf_1 (by omega) (by omega) (by omega) (by rw [c1]; rfl) (by decide) ?_
    refine j_ldcS h 2 dX11_nameOf_74 rfl (by decide) rfl ?_
    exact hr _ _ _ _ dX11_nameOf_76 ⟨(show (T (100 + 2)) = (T (100 + w.toNat)) by congr 2; omega), rfl⟩
  · skip
    refine j_tabIn h 77 dX11_nameOf_1 (by omega) (by omega) (by omega) (by rw [c1]; rfl) (by decide) ?_
    refine j_ldcS h 3 dX11_nameOf_77 rfl (by decide) rfl ?_
    exact hr _ _ _ _ dX11_nameOf_79 ⟨(show (T (100 + 3)) = (T (100 + w.toNat)) by congr 2; omega), rfl⟩
  · skip
    refine j_tabIn h 80 dX11_nameOf_1 (by omega) (by omega) (by omega) (by rw [c1]; rfl) (by decide) ?_
    refine j_ldcS h 4 dX11_nameOf_80 rfl (by decide) rfl ?_
    exact hr _ _ _ _ dX11_nameOf_82 ⟨(show (T (100 + 4)) = (T (100 + w.toNat)) by congr 2; omega), rfl⟩
  · skip
    refine j_tabIn h 83 dX11_nameOf_1 (by omega) (by omega) (by omega) (by rw [c1]; rfl) (by decide) ?_
    refine j_ldcS h 5 dX11_nameOf_83 rfl (by decide) rfl ?_
    exact hr _ _ _ _ dX11_nameOf_85 ⟨(show (T (100 + 5)) = (T (100 + w.toNat)) by congr 2; omega), rfl⟩
  · skip
    refine j_tabIn h 86 dX11_nameOf_1 (by omega) (by omega) (by omega) (by rw [c1]; rfl) (by decide) ?_
    refine j_ldcS h 6 dX11_nameOf_86 rfl (by decide) rfl ?_
    exact hr _ _ _ _ dX11_nameOf_88 ⟨(show (T (100 + 6)) = (T (100 + w.toNat)) by congr 2; omega), rfl⟩
  · skip
    refine j_tabIn h 89 dX11_nameOf_1 (by omega) (by omega) (by omega) (by rw [c1]; rfl) (by decide) ?_
    refine j_ldcwS h 7 dX11_nameOf_89 rfl (by decide) rfl ?_
    exact hr _ _ _ _ dX11_nameOf_92 ⟨(show (T (100 + 7)) = (T (100 + w.toNat)) by congr 2; omega), rfl⟩
  · skip
    refine j_tabIn h 93 dX11_nameOf_1 (by omega) (by omega) (by omega) (by rw [c1]; rfl) (by decide) ?_
    refine j_ldcwS h 8 dX11_nameOf_93 rfl (by decide) rfl ?_
    exact hr _ _ _ _ dX11_nameOf_96 ⟨(show (T (100 + 8)) = (T (100 + w.toNat)) by congr 2; omega), rfl⟩
  · skip
    refine j_tabIn h 97 dX11_nameOf_1 (by omega) (by omega) (by omega) (by rw [c1]; rfl) (by decide) ?_
    refine j_ldcwS h 9 dX11_nameOf_97 rfl (by decide) rfl ?_
    exact hr _ _ _ _ dX11_nameOf_100 ⟨(show (T (100 + 9)) = (T (100 + w.toNat)) by congr 2; omega), rfl⟩
  · skip
    refine j_tabIn h 101 dX11_nameOf_1 (by omega) (by omega) (by omega) (by rw [c1]; rfl) (by decide) ?_
    refine j_ldcwS h 10 dX11_nameOf_101 rfl (by decide) rfl ?_
    exact hr _ _ _ _ dX11_nameOf_104 ⟨(show (T (100 + 10)) = (T (100 + w.toNat)) by congr 2; omega), rfl⟩
  · skip
    refine j_tabIn h 105 dX11_nameOf_1 (by omega) (by omega) (by omega) (by rw [c1]; rfl) (by decide) ?_
    refine j_ldcwS h 11 dX11_nameOf_105 rfl (by decide) rfl ?_
    exact hr _ _ _ _ dX11_nameOf_108 ⟨(show (T (100 + 11)) = (T (100 + w.toNat)) by congr 2; omega), rfl⟩
  · skip
    refine j_tabIn h 109 dX11_nameOf_1 (by omega) (by omega) (by omega) (by rw [c1]; rfl) (by decide) ?_
    refine j_ldcwS h 12 dX11_nameOf_109 rfl (by decide) rfl ?_
    exact hr _ _ _ _ dX11_nameOf_112 ⟨(show (T (100 + 12)) = (T (100 + w.toNat)) by congr 2; omega), rfl⟩
  · skip
    refine j_tabOut h 113 dX11_nameOf_1 (by omega) (by omega) (by decide) ?_
    refine j_ldcwS h 13 dX11_nameOf_113 rfl (by decide) rfl ?_
    exact hr _ _ _ _ dX11_nameOf_116 ⟨(show (T (100 + 13)) = (T (100 + w.toNat)) by congr 2; omega), rfl⟩

abbrev rmX11_formOf : Room := { frames := 0, cells := 0, slots := 0, locals := 0 }
set_option maxHeartbeats 600000 in
set_option maxRecDepth 100000 in
/-- the form of a step -/
theorem ct_X11_formOf (T : Nat → ClassId) (w : Int) (hw : 0 ≤ w ∧ w < 14) : CtR T yX11_formOf wsX11_formOf rmX11_formOf 0 0 [.int (iI w)] [] (fun r8 u => r8 = (T (100 + fmK w)) ∧ u = []) := by
  refine ctR_of (cc := cX11_formOf) (maxL := 1) (ret := (some (.object "java/lang/String"))) (by decide +kernel) rfl rfl (Or.inl ⟨_, rfl⟩) (Nat.le_of_ble_eq_true rfl) (fun X h hinit hr => ?_)
  refine j_eq (lv' := [(0, .int (iI w))]) rfl rfl rfl rfl rfl rfl ?_
  refine j_iload_n h dX11_formOf_0 0 rfl rfl ?_
  rcases (show w = 0 ∨ w = 1 ∨ w = 2 ∨ w = 3 ∨ w = 4 ∨ w = 5 ∨ w = 6 ∨ w = 7 ∨ w = 8 ∨ w = 9 ∨ w = 10 ∨ w = 11 ∨ w = 12 ∨ w = 13 ∨ (w < 0 ∨ 13 < w) by omega) with c1 | c1 | c1 | c1 | c1 | c1 | c1 | c1 | c1 | c1 | c1 | c1 | c1 | c1 | c1
  · skip
    refine j_tabIn h 72 dX11_formOf_1 (by omega) (by omega) (by omega) (by rw [c1]; rfl) (by decide) ?_
    refine j_ldcwS h 14 dX11_formOf_72 rfl (by decide) rfl ?_
    exact hr _ _ _ _ dX11_formOf_75 ⟨(show (T (100 + 14)) = (T (100 + fmK w)) by unfold fmK; (repeat (first | rw [if_pos (by omega)] | rw [if_neg (by omega)]))), rfl⟩
  · skip
    refine j_tabIn h 76 dX11_formOf_1 (by omega) (by omega) (by omega) (by rw [c1]; rfl) (by decide) ?_
    refine j_ldcwS h 15 dX11_formOf_76 rfl (by decide) rfl ?_
    exact hr _ _ _ _ dX11_formOf_79 ⟨(show (T (100 + 15)) = (T (100 + fmK w)) by unfold fmK; (repeat (first | rw [if_pos (by omega)] | rw [if_neg (by omega)]))), rfl⟩
  · skip
    refine j_tabIn h 80 dX11_formOf_1 (by omega) (by omega) (by omega) (by rw [c1]; rfl) (by decide) ?_
    refine j_ldcwS h 16 dX11_formOf_80 rfl (by decide) rfl ?_
    exact hr _ _ _ _ dX11_formOf_83 ⟨(show (T (100 + 16)) = (T (100 + fmK w)) by unfold fmK; (repeat (first | rw [if_pos (by omega)] | rw [if_neg (by omega)]))), rfl⟩
  · skip
    refine j_tabIn h 72 dX11_formOf_1 (by omega) (by omega) (by omega) (by rw [c1]; rfl) (by decide) ?_
    refine j_ldcwS h 14 dX11_formOf_72 rfl (by decide) rfl ?_
    exact hr _ _ _ _ dX11_formOf_75 ⟨(show (T (100 + 14)) = (T (100 + fmK w)) by unfold fmK; (repeat (first | rw [if_pos (by omega)] | rw [if_neg (by omega)]))), rfl⟩
  · skip
    refine j_tabIn h 76 dX11_formOf_1 (by omega) (by omega) (by omega) (by rw [c1]; rfl) (by decide) ?_
    refine j_ldcwS h 15 dX11_formOf_76 rfl (by decide) rfl ?_
    exact hr _ _ _ _ dX11_formOf_79 ⟨(show (T (100 + 15)) = (T (100 + fmK w)) by unfold fmK; (repeat (first | rw [if_pos (by omega)] | rw [if_neg (by omega)]))), rfl⟩
  · skip
    refine j_tabIn h 84 dX11_formOf_1 (by omega) (by omega) (by omega) (by rw [c1]; rfl) (by decide) ?_
    refine j_ldcwS h 17 dX11_formOf_84 rfl (by decide) rfl ?_
    exact hr _ _ _ _ dX11_formOf_87 ⟨(show (T (100 + 17)) = (T (100 + fmK w)) by unfold fmK; (repeat (first | rw [if_pos (by omega)] | rw [if_neg (by omega)]))), rfl⟩
  · skip
    refine j_tabIn h 88 dX11_formOf_1 (by omega) (by omega) (by omega) (by rw [c1]; rfl) (by decide) ?_
    refine j_ldcwS h 18 dX11_formOf_88 rfl (by decide) rfl ?_
    exact hr _ _ _ _ dX11_formOf_91 ⟨(show (T (100 + 18)) = (T (100 + fmK w)) by unfold fmK; (repeat (first | rw [if_pos (by omega)] | rw [if_neg (by omega)]))), rfl⟩
  · skip
    refine j_tabIn h 92 dX11_formOf_1 (by omega) (by omega) (by omega) (by rw [c1]; rfl) (by decide) ?_
    refine j_ldcwS h 19 dX11_formOf_92 rfl (by decide) rfl ?_
    exact hr _ _ _ _ dX11_formOf_95 ⟨(show (T (100 + 19)) = (T (100 + fmK w)) by unfold fmK; (repeat (first | rw [if_pos (by omega)] | rw [if_neg (by omega)]))), rfl⟩
  · skip
    refine j_tabIn h 108 dX11_formOf_1 (by omega) (by omega) (by omega) (by rw [c1]; rfl) (by decide) ?_
    refine j_ldcwS h 23 dX11_formOf_108 rfl (by decide) rfl ?_
    exact hr _ _ _ _ dX11_formOf_111 ⟨(show (T (100 + 23)) = (T (100 + fmK w)) by unfold fmK; (repeat (first | rw [if_pos (by omega)] | rw [if_neg (by omega)]))), rfl⟩
  · skip
    refine j_tabIn h 96 dX11_formOf_1 (by omega) (by omega) (by omega) (by rw [c1]; rfl) (by decide) ?_
    refine j_ldcwS h 20 dX11_formOf_96 rfl (by decide) rfl ?_
    exact hr _ _ _ _ dX11_formOf_99 ⟨(show (T (100 + 20)) = (T (100 + fmK w)) by unfold fmK; (repeat (first | rw [if_pos (by omega)] | rw [if_neg (by omega)]))), rfl⟩
  · skip
    refine j_tabIn h 108 dX11_formOf_1 (by omega) (by omega) (by omega) (by rw [c1]; rfl) (by decide) ?_
    refine j_ldcwS h 23 dX11_formOf_108 rfl (by decide) rfl ?_
    exact hr _ _ _ _ dX11_formOf_111 ⟨(show (T (100 + 23)) = (T (100 + fmK w)) by unfold fmK; (repeat (first | rw [if_pos (by omega)] | rw [if_neg (by omega)]))), rfl⟩
  · skip
    refine j_tabIn h 100 dX11_formOf_1 (by omega) (by omega) (by omega) (by rw [c1]; rfl) (by decide) ?_
    refine j_ldcwS h 21 dX11_formOf_100 rfl (by decide) rfl ?_
    exact hr _ _ _ _ dX11_formOf_103 ⟨(show (T (100 + 21)) = (T (100 + fmK w)) by unfold fmK; (repeat (first | rw [if_pos (by omega)] | rw [if_neg (by omega)]))), rfl⟩
  · skip
    refine j_tabIn h 108 dX11_formOf_1 (by omega) (by omega) (by omega) (by rw [c1]; rfl) (by decide) ?_
    refine j_ldcwS h 23 dX11_formOf_108 rfl (by decide) rfl ?_
    exact hr _ _ _ _ dX11_formOf_111 ⟨(show (T (100 + 23)) = (T (100 + fmK w)) by unfold fmK; (repeat (first | rw [if_pos (by omega)] | rw [if_neg (by omega)]))), rfl⟩
  · skip
    refine j_tabIn h 104 dX11_formOf_1 (by omega) (by omega) (by omega) (by rw [c1]; rfl) (by decide) ?_
    refine j_ldcwS h 22 dX11_formOf_104 rfl (by decide) rfl ?_
    exact hr _ _ _ _ dX11_formOf_107 ⟨(show (T (100 + 22)) = (T (100 + fmK w)) by unfold fmK; (repeat (first | rw [if_pos (by omega)] | rw [if_neg (by omega)]))), rfl⟩
  · skip
    exact absurd c1 (by omega)

