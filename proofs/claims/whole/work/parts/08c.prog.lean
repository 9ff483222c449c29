abbrev rmX5_init : Room := { frames := 2, cells := 62, slots := 544, locals := 80 }
theorem in_X5_init_X5 : ∀ w ∈ u_ws RX5 TX5 4, w ∈ wsX5_init := fun w hw => List.mem_cons_of_mem _ (List.mem_append_left _ (List.mem_append_right _ (hw)))
theorem f_X5_init_11i : FiOK RX5 11 wsX5_init 5 0 := ⟨_, _, _, rfl, by decide, in_X5_init_X5, List.mem_of_getElem? (i := 5) rfl, rfl⟩
theorem p_X5_0 : PuOK 5 0 true (.array (.object "LayerShop$Step")) := ⟨_, _, _, tyX5, rfl, tyX5_ok, nmX5, rfl, rfl⟩
theorem f_X5_init_17i : FiOK RX5 17 wsX5_init 5 1 := ⟨_, _, _, rfl, by decide, in_X5_init_X5, List.mem_of_getElem? (i := 7) rfl, rfl⟩
theorem p_X5_1 : PuOK 5 1 true (.array .int) := ⟨_, _, _, tyX5, rfl, tyX5_ok, nmX5, rfl, rfl⟩
theorem f_X5_init_21 : FlOK RX5 21 wsX5_init 5 2 := ⟨_, _, _, rfl, by decide, in_X5_init_X5, List.mem_of_getElem? (i := 8) rfl⟩
theorem f_X5_init_25 : FlOK RX5 25 wsX5_init 5 3 := ⟨_, _, _, rfl, by decide, in_X5_init_X5, List.mem_of_getElem? (i := 9) rfl⟩
theorem f_X5_init_11 : FlOK RX5 11 wsX5_init 5 0 := ⟨_, _, _, rfl, by decide, in_X5_init_X5, List.mem_of_getElem? (i := 5) rfl⟩
theorem in_X5_init_X7 : ∀ w ∈ u_ws RX7 TX7 8, w ∈ wsX5_init := fun w hw => List.mem_cons_of_mem _ (List.mem_append_right _ (hw))
theorem n_X5_init_9 : NwOK RX5 9 wsX5_init 7 [.int (iI 0), .int (iI 0), .int (iI 0), .int (iI 0), .int (iI 0), .int (iI 0), .int (iI 0), .int (iI 0)] 8 := ⟨_, _, tyX7, rfl, in_X5_init_X7, tyX7_ok, (by intro j hj; rcases (show j = 0 ∨ j = 1 ∨ j = 2 ∨ j = 3 ∨ j = 4 ∨ j = 5 ∨ j = 6 ∨ j = 7 by omega) with rfl | rfl | rfl | rfl | rfl | rfl | rfl | rfl <;> rfl), List.mem_of_getElem? (i := 4) rfl, List.mem_of_getElem? (i := 10) rfl, List.mem_of_getElem? (i := 11) rfl⟩
theorem k_X7_init : CkOK yX7_init wsX7_init rmX7_init 0 0 cX7_init 1 none 0 := ⟨⟨_, rfl⟩, rfl, rfl, by decide +kernel⟩
set_option maxHeartbeats 600000 in
set_option maxRecDepth 100000 in
theorem ct_X5_init (T : Nat → ClassId) (h5 : Nat)  : CtVA T yX5_init wsX5_init rmX5_init 62 544 [.ref h5] [(h5, .inr (5, [.null, .null, .int (iI 0), .int (iI 0)]))] (fun u => ∃ s1 : Nat, ∃ o1 : Nat, ∃ sp1 : Int → Nat, u = ((h5, .inr (5, [.ref s1, .ref o1, .int (iI 0), .int (iI 0)])) :: (s1, .inl (T 3, 60, .inr (.inr (.inr (.inr (fun i9 : Nat => some (sp1 i9))))))) :: (o1, .inl (T 0, 4, .inl (fun j : Nat => iI (z0 j)))) :: stepsW sp1 (fun _ => z0))) := by
  refine ctVA_of (cc := cX5_init) (maxL := 2) (ret := none) (by decide +kernel) rfl rfl (Nat.le_of_ble_eq_true rfl) (fun X h hao hinit hr => ?_)
  replace hinit := hinit rfl
  refine j_eq (lv' := [(0, .ref h5)]) rfl rfl rfl rfl rfl rfl ?_
  refine j_aload_n h dX5_init_0 0 rfl rfl ?_
  refine j_objInit h dX5_init_1 (List.mem_of_getElem? (i := 1) rfl) (List.mem_of_getElem? (i := 2) rfl) (List.mem_of_getElem? (i := 3) rfl) (Nat.le_of_ble_eq_true rfl) (Nat.le_of_ble_eq_true rfl) ?_
  refine j_aload_n h dX5_init_4 0 rfl rfl ?_
  refine j_bipush h dX5_init_5 (by decide) ?_
  refine j_newq (N := 60) (cells' := 1) (slots' := 60) h hao dX5_init_7 (List.mem_of_getElem? (i := 4) rfl) rfl (Nat.le_of_ble_eq_true rfl) ⟨Nat.le_of_ble_eq_true rfl, Nat.le_of_ble_eq_true rfl⟩ rfl rfl (fun q401 => ?_)
  refine j_eq (ws' := [(h5, .inr (5, [.null, .null, .int (iI 0), .int (iI 0)])), (q401, .inl (T 3, 60, .inr (.inr (.inr (.inr (fun _ => none))))))]) rfl rfl rfl rfl rfl rfl ?_
  refine j_putF (ws' := [(h5, .inr (5, [.ref q401, .null, .int (iI 0), .int (iI 0)])), (q401, .inl (T 3, 60, .inr (.inr (.inr (.inr (fun _ => none))))))]) h hinit dX5_init_10 f_X5_init_11i p_X5_0 0 rfl rfl rfl (Nat.le_of_ble_eq_true rfl) rfl ?_
  refine j_aload_n h dX5_init_13 0 rfl rfl ?_
  refine j_iconst h dX5_init_14 ?_
  refine j_newa (ty := .int) (t := 0) (N := 4) (cells' := 2) (slots' := 64) h (4, .inl (fun j : Nat => iI (z0 j))) dX5_init_15 rfl rfl (List.mem_of_getElem? (i := 6) rfl) (z_i 4) rfl (Nat.le_of_ble_eq_true rfl) (by decide) ⟨Nat.le_of_ble_eq_true rfl, Nat.le_of_ble_eq_true rfl⟩ rfl rfl (fun q402 => ?_)
  refine j_eq (ws' := [(h5, .inr (5, [.ref q401, .null, .int (iI 0), .int (iI 0)])), (q401, .inl (T 3, 60, .inr (.inr (.inr (.inr (fun _ => none)))))), (q402, .inl (T 0, 4, .inl (fun j : Nat => iI (z0 j))))]) rfl rfl rfl rfl rfl rfl ?_
  refine j_putF (ws' := [(h5, .inr (5, [.ref q401, .ref q402, .int (iI 0), .int (iI 0)])), (q401, .inl (T 3, 60, .inr (.inr (.inr (.inr (fun _ => none)))))), (q402, .inl (T 0, 4, .inl (fun j : Nat => iI (z0 j))))]) h hinit dX5_init_17 f_X5_init_17i p_X5_1 0 rfl rfl rfl (Nat.le_of_ble_eq_true rfl) rfl ?_
  refine j_aload_n h dX5_init_20 0 rfl rfl ?_
  refine j_iconst h dX5_init_21 ?_
  refine j_put (ws' := [(h5, .inr (5, [.ref q401, .ref q402, .int (iI 0), .int (iI 0)])), (q401, .inl (T 3, 60, .inr (.inr (.inr (.inr (fun _ => none)))))), (q402, .inl (T 0, 4, .inl (fun j : Nat => iI (z0 j))))]) h dX5_init_22 f_X5_init_21 p_X5_2 0 rfl rfl rfl (Nat.le_of_ble_eq_true rfl) rfl ?_
  refine j_aload_n h dX5_init_25 0 rfl rfl ?_
  refine j_iconst h dX5_init_26 ?_
  refine j_put (ws' := [(h5, .inr (5, [.ref q401, .ref q402, .int (iI 0), .int (iI 0)])), (q401, .inl (T 3, 60, .inr (.inr (.inr (.inr (fun _ => none)))))), (q402, .inl (T 0, 4, .inl (fun j : Nat => iI (z0 j))))]) h dX5_init_27 f_X5_init_25 p_X5_3 0 rfl rfl rfl (Nat.le_of_ble_eq_true rfl) rfl ?_
  refine j_iconst h dX5_init_30 ?_
  refine j_istore_n (lv' := [(0, .ref h5), (1, .int (iI 0))]) h dX5_init_31 [1, 0] rfl (by decide) rfl ?_
  refine j_eq (ws' := ((h5, .inr (5, [.ref q401, .ref q402, .int (iI 0), .int (iI 0)])) :: (q401, .inl (T 3, 60, .inr (.inr (.inr (.inr (spA (fun _ => 0) 0)))))) :: (q402, .inl (T 0, 4, .inl (fun j : Nat => iI (z0 j)))) :: stepsN (Int.toNat 0) (fun _ => 0))) rfl rfl rfl rfl rfl (by rw [← spA_0]; rfl) ?_
  have lp32 : ∀ (n32 : Nat) (y : Int) (sp2 : Int → Nat) (hy : 0 ≤ y ∧ y ≤ 60), ((60 - y).toNat) < n32 → J X (2 + Int.toNat y) (64 + 8 * Int.toNat y) 32 [(0, .ref h5), (1, .int (iI y))] [] ((h5, .inr (5, [.ref q401, .ref q402, .int (iI 0), .int (iI 0)])) :: (q401, .inl (T 3, 60, .inr (.inr (.inr (.inr (spA sp2 y)))))) :: (q402, .inl (T 0, 4, .inl (fun j : Nat => iI (z0 j)))) :: stepsN (Int.toNat y) sp2) := by
    intro n32
    induction n32 with
    | zero => exact fun y sp2 hy hn32 => absurd hn32 (Nat.not_lt_zero _)
    | succ n32 ih32 =>
      intro y sp2 hy hn32
      refine j_iload_n h dX5_init_32 1 rfl rfl ?_
      refine j_bipush h dX5_init_33 (by decide) ?_
      refine j_icmp_ge h 57 dX5_init_35 (by decide) (by omega) (by omega) (fun c403 => ?_) (fun c403 => ?_)
      · skip
        have e60 : y = 60 := by omega
        refine j_refs (g := (fun i9 : Nat => some (sp2 i9))) (ws' := ((h5, .inr (5, [.ref q401, .ref q402, .int (iI 0), .int (iI 0)])) :: (q401, .inl (T 3, 60, .inr (.inr (.inr (.inr (fun i9 : Nat => some (sp2 i9))))))) :: (q402, .inl (T 0, 4, .inl (fun j : Nat => iI (z0 j)))) :: stepsN (Int.toNat y) sp2)) 1 rfl (fun j hj => by unfold spA; rw [if_pos (by omega)]) rfl ?_
        refine j_eq (cells' := 62) (slots' := 544) (ws' := ((h5, .inr (5, [.ref q401, .ref q402, .int (iI 0), .int (iI 0)])) :: (q401, .inl (T 3, 60, .inr (.inr (.inr (.inr (fun i9 : Nat => some (sp2 i9))))))) :: (q402, .inl (T 0, 4, .inl (fun j : Nat => iI (z0 j)))) :: stepsW sp2 (fun _ => z0))) (by omega) (by omega) rfl rfl rfl (by rw [e60]; rfl) ?_
        exact hr _ _ _ dX5_init_57 ⟨q401, q402, sp2, rfl⟩
      · skip
        refine j_aload_n h dX5_init_38 0 rfl rfl ?_
        refine j_get h dX5_init_39 f_X5_init_11 0 rfl rfl ?_
        refine j_iload_n h dX5_init_42 1 rfl rfl ?_
        refine j_new (cells' := ((2 + Int.toNat y) + 1)) (slots' := ((64 + 8 * Int.toNat y) + 8)) h dX5_init_43 n_X5_init_9 ⟨by show _ ≤ 62; omega, by show _ ≤ 544; omega⟩ rfl rfl (fun q404 => ?_)
        refine j_tls (wr := [(h5, .inr (5, [.ref q401, .ref q402, .int (iI 0), .int (iI 0)])), (q401, .inl (T 3, 60, .inr (.inr (.inr (.inr (spA sp2 y)))))), (q402, .inl (T 0, 4, .inl (fun j : Nat => iI (z0 j))))]) (u := [(q404, .inr (7, [.int (iI 0), .int (iI 0), .int (iI 0), .int (iI 0), .int (iI 0), .int (iI 0), .int (iI 0), .int (iI 0)]))]) (tl := stepsN (Int.toNat y) sp2) ?_
        refine j_eq (ws' := ((h5, .inr (5, [.ref q401, .ref q402, .int (iI 0), .int (iI 0)])) :: (q401, .inl (T 3, 60, .inr (.inr (.inr (.inr (spA sp2 y)))))) :: (q402, .inl (T 0, 4, .inl (fun j : Nat => iI (z0 j)))) :: (q404, .inr (7, [.int (iI 0), .int (iI 0), .int (iI 0), .int (iI 0), .int (iI 0), .int (iI 0), .int (iI 0), .int (iI 0)])) :: stepsN (Int.toNat y) sp2)) rfl rfl rfl rfl rfl rfl ?_
        refine j_dup h dX5_init_46 rfl ?_
        refine j_callINv (As := []) (wr := ((h5, .inr (5, [.ref q401, .ref q402, .int (iI 0), .int (iI 0)])) :: (q401, .inl (T 3, 60, .inr (.inr (.inr (.inr (spA sp2 y)))))) :: (q402, .inl (T 0, 4, .inl (fun j : Nat => iI (z0 j)))) :: stepsN (Int.toNat y) sp2)) (cells' := ((2 + Int.toNat y) + 1)) (slots' := ((64 + 8 * Int.toNat y) + 8)) h dX5_init_47 (ct_X7_init T q404 ) k_X7_init gX5_init_X7_init_n28 (List.mem_of_getElem? (i := 10) rfl) (List.mem_of_getElem? (i := 11) rfl) (List.mem_of_getElem? (i := 12) rfl) rfl ⟨Nat.le_of_ble_eq_true rfl, Nat.le_of_ble_eq_true rfl⟩ rfl rfl (Nat.le_of_ble_eq_true rfl) ⟨by show _ ≤ 62; omega, by show _ ≤ 544; omega⟩ rfl rfl [3] (tlR [0, 1, 2] 4 (stepsN (Int.toNat y) sp2)) rfl (tlR_ok (E := [(h5, .inr (5, [.ref q401, .ref q402, .int (iI 0), .int (iI 0)])), (q401, .inl (T 3, 60, .inr (.inr (.inr (.inr (spA sp2 y)))))), (q402, .inl (T 0, 4, .inl (fun j : Nat => iI (z0 j)))), (q404, .inr (7, [.int (iI 0), .int (iI 0), .int (iI 0), .int (iI 0), .int (iI 0), .int (iI 0), .int (iI 0), .int (iI 0)]))]) (wr := [(h5, .inr (5, [.ref q401, .ref q402, .int (iI 0), .int (iI 0)])), (q401, .inl (T 3, 60, .inr (.inr (.inr (.inr (spA sp2 y)))))), (q402, .inl (T 0, 4, .inl (fun j : Nat => iI (z0 j))))]) (tl := stepsN (Int.toNat y) sp2) rfl) rfl (tlR_nd rfl (by decide)) (tlR_dis (by decide) (by decide)) (fun u9 p405 => ?_)
        obtain rfl := p405
        refine j_tls (wr := [(h5, .inr (5, [.ref q401, .ref q402, .int (iI 0), .int (iI 0)])), (q401, .inl (T 3, 60, .inr (.inr (.inr (.inr (spA sp2 y)))))), (q402, .inl (T 0, 4, .inl (fun j : Nat => iI (z0 j))))]) (u := [(q404, .inr (7, [.int (iI 0), .int (iI 0), .int (iI 0), .int (iI 0), .int (iI 0), .int (iI 0), .int (iI 0), .int (iI 0)]))]) (tl := stepsN (Int.toNat y) sp2) ?_
        refine j_eq (ws' := ((h5, .inr (5, [.ref q401, .ref q402, .int (iI 0), .int (iI 0)])) :: (q401, .inl (T 3, 60, .inr (.inr (.inr (.inr (spA sp2 y)))))) :: (q402, .inl (T 0, 4, .inl (fun j : Nat => iI (z0 j)))) :: (q404, .inr (7, [.int (iI 0), .int (iI 0), .int (iI 0), .int (iI 0), .int (iI 0), .int (iI 0), .int (iI 0), .int (iI 0)])) :: stepsN (Int.toNat y) sp2)) rfl rfl rfl rfl rfl rfl ?_
        refine j_astq (ws' := ((h5, .inr (5, [.ref q401, .ref q402, .int (iI 0), .int (iI 0)])) :: (q401, .inl (T 3, 60, .inr (.inr (.inr (.inr (va_up (spA sp2 y) (Int.toNat y) (some q404))))))) :: (q402, .inl (T 0, 4, .inl (fun j : Nat => iI (z0 j)))) :: (q404, .inr (7, [.int (iI 0), .int (iI 0), .int (iI 0), .int (iI 0), .int (iI 0), .int (iI 0), .int (iI 0), .int (iI 0)])) :: stepsN (Int.toNat y) sp2)) h y dX5_init_50 1 3 rfl rfl (by decide) rfl (by omega) rfl ?_
        refine j_eq (ws' := (([(h5, .inr (5, [.ref q401, .ref q402, .int (iI 0), .int (iI 0)])), (q401, .inl (T 3, 60, .inr (.inr (.inr (.inr (spA (upI sp2 y q404) (y + 1))))))), (q402, .inl (T 0, 4, .inl (fun j : Nat => iI (z0 j))))] ++ [(q404, .inr (7, sfs z0))]) ++ stepsN y.toNat sp2)) rfl rfl rfl rfl rfl (by rw [spA_s (by omega)]; rfl) ?_
        refine j_grow (E := [(h5, .inr (5, [.ref q401, .ref q402, .int (iI 0), .int (iI 0)])), (q401, .inl (T 3, 60, .inr (.inr (.inr (.inr (spA (upI sp2 y q404) (y + 1))))))), (q402, .inl (T 0, 4, .inl (fun j : Nat => iI (z0 j))))]) (by omega) ?_
        refine j_eq (ws' := ((h5, .inr (5, [.ref q401, .ref q402, .int (iI 0), .int (iI 0)])) :: (q401, .inl (T 3, 60, .inr (.inr (.inr (.inr (spA (upI sp2 y q404) (y + 1))))))) :: (q402, .inl (T 0, 4, .inl (fun j : Nat => iI (z0 j)))) :: stepsN (y + 1).toNat (upI sp2 y q404))) rfl rfl rfl rfl rfl rfl ?_
        refine j_iinc (lv' := [(0, .ref h5), (1, .int (iI (y + 1)))]) h dX5_init_51 1 [1, 0] rfl (by decide) rfl ?_
        refine j_goto (tgt := 32) h dX5_init_54 (by decide) ?_
        refine j_eq (cells' := (2 + Int.toNat (y + 1))) (slots' := (64 + 8 * Int.toNat (y + 1))) (by omega) (by omega) rfl rfl rfl rfl ?_
        exact ih32 (y + 1) (upI sp2 y q404) (by first | assumption | omega) (by omega)
  refine j_eq (cells' := (2 + Int.toNat 0)) (slots' := (64 + 8 * Int.toNat 0)) (by decide) (by decide) rfl rfl rfl rfl ?_
  exact lp32 _ 0 (fun _ => 0) (by first | assumption | omega) (Nat.lt_succ_self _)

