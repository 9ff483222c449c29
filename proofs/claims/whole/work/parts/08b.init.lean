/-! THE CONSTRUCTORS -/
def b0F (y : Int) : Int → Int := fun c => if 0 ≤ c ∧ c < y then 1 else 0
theorem b0F_0 : b0F 0 = z0 := by funext c; unfold b0F z0; rw [if_neg (by omega)]
theorem b0F_s {y : Int} (h : 0 ≤ y) : upI (b0F y) y 1 = b0F (y + 1) := by
  funext c
  unfold b0F
  by_cases e : c = y
  · rw [e, upI_s, if_pos (by omega)]
  · rw [upI_n e]
    by_cases q : 0 ≤ c ∧ c < y
    · rw [if_pos q, if_pos (by omega)]
    · rw [if_neg q, if_neg (by omega)]
abbrev rmX0_init : Room := { frames := 1, cells := 1, slots := 2880, locals := 60 }
theorem in_X0_init_X0 : ∀ w ∈ u_ws RX0 TX0 1, w ∈ wsX0_init := fun w hw => List.mem_cons_of_mem _ (List.mem_append_right _ (hw))
theorem f_X0_init_9i : FiOK RX0 9 wsX0_init 0 0 := ⟨_, _, _, rfl, by decide, in_X0_init_X0, List.mem_of_getElem? (i := 5) rfl, rfl⟩
theorem p_X0_0 : PuOK 0 0 true (.array .int) := ⟨_, _, _, tyX0, rfl, tyX0_ok, nmX0, rfl, rfl⟩
theorem f_X0_init_9 : FlOK RX0 9 wsX0_init 0 0 := ⟨_, _, _, rfl, by decide, in_X0_init_X0, List.mem_of_getElem? (i := 5) rfl⟩
set_option maxHeartbeats 600000 in
set_option maxRecDepth 100000 in
theorem ct_X0_init (T : Nat → ClassId) (h0 : Nat)  : CtV T yX0_init wsX0_init rmX0_init 1 2880 [.ref h0] [(h0, .inr (0, [.null]))] (fun u => ∃ c1 : Nat, u = [(h0, .inr (0, [.ref c1])), (c1, .inl (T 0, 2880, .inl (fun j : Nat => iI ((b0F 144) j))))]) := by
  refine ctV_of (cc := cX0_init) (maxL := 2) (ret := none) (by decide +kernel) rfl rfl (Nat.le_of_ble_eq_true rfl) (fun X h hinit hr => ?_)
  replace hinit := hinit rfl
  refine j_eq (lv' := [(0, .ref h0)]) rfl rfl rfl rfl rfl rfl ?_
  refine j_aload_n h dX0_init_0 0 rfl rfl ?_
  refine j_objInit h dX0_init_1 (List.mem_of_getElem? (i := 1) rfl) (List.mem_of_getElem? (i := 2) rfl) (List.mem_of_getElem? (i := 3) rfl) (Nat.le_of_ble_eq_true rfl) (Nat.le_of_ble_eq_true rfl) ?_
  refine j_aload_n h dX0_init_4 0 rfl rfl ?_
  refine j_sipush h dX0_init_5 (by decide) ?_
  refine j_newa (ty := .int) (t := 0) (N := 2880) (cells' := 1) (slots' := 2880) h (2880, .inl (fun j : Nat => iI (z0 j))) dX0_init_8 rfl rfl (List.mem_of_getElem? (i := 4) rfl) (z_i 2880) rfl (Nat.le_of_ble_eq_true rfl) (by decide) ⟨Nat.le_of_ble_eq_true rfl, Nat.le_of_ble_eq_true rfl⟩ rfl rfl (fun q401 => ?_)
  refine j_eq (ws' := [(h0, .inr (0, [.null])), (q401, .inl (T 0, 2880, .inl (fun j : Nat => iI (z0 j))))]) rfl rfl rfl rfl rfl rfl ?_
  refine j_putF (ws' := [(h0, .inr (0, [.ref q401])), (q401, .inl (T 0, 2880, .inl (fun j : Nat => iI (z0 j))))]) h hinit dX0_init_10 f_X0_init_9i p_X0_0 0 rfl rfl rfl (Nat.le_of_ble_eq_true rfl) rfl ?_
  refine j_iconst h dX0_init_13 ?_
  refine j_istore_n (lv' := [(0, .ref h0), (1, .int (iI 0))]) h dX0_init_14 [1, 0] rfl (by decide) rfl ?_
  have lp15 : ∀ (n15 : Nat) (y : Int) (hy : 0 ≤ y ∧ y ≤ 144), ((144 - y).toNat) < n15 → J X 1 2880 15 [(0, .ref h0), (1, .int (iI y))] [] [(h0, .inr (0, [.ref q401])), (q401, .inl (T 0, 2880, .inl (fun j : Nat => iI ((b0F y) j))))] := by
    intro n15
    induction n15 with
    | zero => exact fun y hy hn15 => absurd hn15 (Nat.not_lt_zero _)
    | succ n15 ih15 =>
      intro y hy hn15
      refine j_iload_n h dX0_init_15 1 rfl rfl ?_
      refine j_sipush h dX0_init_16 (by decide) ?_
      refine j_icmp_ge h 35 dX0_init_19 (by decide) (by omega) (by omega) (fun c402 => ?_) (fun c402 => ?_)
      · skip
        exact hr _ _ _ dX0_init_35 ⟨q401, (by rw [show y = 144 by omega])⟩
      · skip
        refine j_aload_n h dX0_init_22 0 rfl rfl ?_
        refine j_get h dX0_init_23 f_X0_init_9 0 rfl rfl ?_
        refine j_iload_n h dX0_init_26 1 rfl rfl ?_
        refine j_iconst h dX0_init_27 ?_
        refine j_iast (f := (b0F y)) (ws' := [(h0, .inr (0, [.ref q401])), (q401, .inl (T 0, 2880, .inl (fun j : Nat => iI ((upI (b0F y) y 1) j))))]) h y dX0_init_28 1 rfl (by decide) (by omega) (by omega) rfl ?_
        refine j_iinc (lv' := [(0, .ref h0), (1, .int (iI (y + 1)))]) h dX0_init_29 1 [1, 0] rfl (by decide) rfl ?_
        refine j_goto (tgt := 15) h dX0_init_32 (by decide) ?_
        refine j_eq (ws' := [(h0, .inr (0, [.ref q401])), (q401, .inl (T 0, 2880, .inl (fun j : Nat => iI ((b0F (y + 1)) j))))]) rfl rfl rfl rfl rfl (by rw [b0F_s (by omega)]) ?_
        exact ih15 (y + 1) (by first | assumption | omega) (by omega)
  refine j_eq (ws' := [(h0, .inr (0, [.ref q401])), (q401, .inl (T 0, 2880, .inl (fun j : Nat => iI ((b0F 0) j))))]) rfl rfl rfl rfl rfl (by rw [b0F_0]) ?_
  exact lp15 _ 0 (by first | assumption | omega) (Nat.lt_succ_self _)

abbrev rmX1_init : Room := { frames := 1, cells := 3, slots := 292, locals := 60 }
theorem in_X1_init_X1 : ∀ w ∈ u_ws RX1 TX1 9, w ∈ wsX1_init := fun w hw => List.mem_cons_of_mem _ (List.mem_append_right _ (hw))
theorem f_X1_init_9i : FiOK RX1 9 wsX1_init 1 1 := ⟨_, _, _, rfl, by decide, in_X1_init_X1, List.mem_of_getElem? (i := 5) rfl, rfl⟩
theorem p_X1_1 : PuOK 1 1 true (.array .int) := ⟨_, _, _, tyX1, rfl, tyX1_ok, nmX1, rfl, rfl⟩
theorem f_X1_init_15 : FlOK RX1 15 wsX1_init 1 2 := ⟨_, _, _, rfl, by decide, in_X1_init_X1, List.mem_of_getElem? (i := 6) rfl⟩
theorem f_X1_init_19i : FiOK RX1 19 wsX1_init 1 3 := ⟨_, _, _, rfl, by decide, in_X1_init_X1, List.mem_of_getElem? (i := 8) rfl, rfl⟩
theorem p_X1_3 : PuOK 1 3 true (.array .boolean) := ⟨_, _, _, tyX1, rfl, tyX1_ok, nmX1, rfl, rfl⟩
theorem f_X1_init_23i : FiOK RX1 23 wsX1_init 1 4 := ⟨_, _, _, rfl, by decide, in_X1_init_X1, List.mem_of_getElem? (i := 9) rfl, rfl⟩
theorem p_X1_4 : PuOK 1 4 true (.array .int) := ⟨_, _, _, tyX1, rfl, tyX1_ok, nmX1, rfl, rfl⟩
theorem f_X1_init_26 : FlOK RX1 26 wsX1_init 1 5 := ⟨_, _, _, rfl, by decide, in_X1_init_X1, List.mem_of_getElem? (i := 10) rfl⟩
theorem f_X1_init_29 : FlOK RX1 29 wsX1_init 1 6 := ⟨_, _, _, rfl, by decide, in_X1_init_X1, List.mem_of_getElem? (i := 11) rfl⟩
theorem f_X1_init_32 : FlOK RX1 32 wsX1_init 1 7 := ⟨_, _, _, rfl, by decide, in_X1_init_X1, List.mem_of_getElem? (i := 12) rfl⟩
theorem f_X1_init_35 : FlOK RX1 35 wsX1_init 1 8 := ⟨_, _, _, rfl, by decide, in_X1_init_X1, List.mem_of_getElem? (i := 13) rfl⟩
theorem f_X1_init_38i : FiOK RX1 38 wsX1_init 1 0 := ⟨_, _, _, rfl, by decide, in_X1_init_X1, List.mem_of_getElem? (i := 14) rfl, rfl⟩
theorem p_X1_0 : PuOK 1 0 true (.object "LayerShop$Board") := ⟨_, _, _, tyX1, rfl, tyX1_ok, nmX1, rfl, rfl⟩
set_option maxHeartbeats 600000 in
set_option maxRecDepth 100000 in
theorem ct_X1_init (T : Nat → ClassId) (h1 : Nat) (h0 : Nat)  : CtV T yX1_init wsX1_init rmX1_init 3 292 [.ref h1, .ref h0] [(h1, .inr (1, [.null, .null, .int (iI 0), .null, .null, .int (iI 0), .int (iI 0), .int (iI 0), .int (iI 0)]))] (fun u => ∃ o1 : Nat, ∃ w1 : Nat, ∃ k1 : Nat, u = [(h1, .inr (1, [.ref h0, .ref o1, .int (iI 0), .ref w1, .ref k1, .int (iI 0), .int (iI 0), .int (iI (-1)), .int (iI 0)])), (o1, .inl (T 0, 4, .inl (fun j : Nat => iI (z0 j)))), (w1, .inl (T 1, 144, .inl (fun j : Nat => iI (bI (zB j))))), (k1, .inl (T 0, 144, .inl (fun j : Nat => iI (z0 j))))]) := by
  refine ctV_of (cc := cX1_init) (maxL := 2) (ret := none) (by decide +kernel) rfl rfl (Nat.le_of_ble_eq_true rfl) (fun X h hinit hr => ?_)
  replace hinit := hinit rfl
  refine j_eq (lv' := [(0, .ref h1), (1, .ref h0)]) rfl rfl rfl rfl rfl rfl ?_
  refine j_aload_n h dX1_init_0 0 rfl rfl ?_
  refine j_objInit h dX1_init_1 (List.mem_of_getElem? (i := 1) rfl) (List.mem_of_getElem? (i := 2) rfl) (List.mem_of_getElem? (i := 3) rfl) (Nat.le_of_ble_eq_true rfl) (Nat.le_of_ble_eq_true rfl) ?_
  refine j_aload_n h dX1_init_4 0 rfl rfl ?_
  refine j_iconst h dX1_init_5 ?_
  refine j_newa (ty := .int) (t := 0) (N := 4) (cells' := 1) (slots' := 4) h (4, .inl (fun j : Nat => iI (z0 j))) dX1_init_6 rfl rfl (List.mem_of_getElem? (i := 4) rfl) (z_i 4) rfl (Nat.le_of_ble_eq_true rfl) (by decide) ⟨Nat.le_of_ble_eq_true rfl, Nat.le_of_ble_eq_true rfl⟩ rfl rfl (fun q401 => ?_)
  refine j_eq (ws' := [(h1, .inr (1, [.null, .null, .int (iI 0), .null, .null, .int (iI 0), .int (iI 0), .int (iI 0), .int (iI 0)])), (q401, .inl (T 0, 4, .inl (fun j : Nat => iI (z0 j))))]) rfl rfl rfl rfl rfl rfl ?_
  refine j_putF (ws' := [(h1, .inr (1, [.null, .ref q401, .int (iI 0), .null, .null, .int (iI 0), .int (iI 0), .int (iI 0), .int (iI 0)])), (q401, .inl (T 0, 4, .inl (fun j : Nat => iI (z0 j))))]) h hinit dX1_init_8 f_X1_init_9i p_X1_1 0 rfl rfl rfl (Nat.le_of_ble_eq_true rfl) rfl ?_
  refine j_aload_n h dX1_init_11 0 rfl rfl ?_
  refine j_iconst h dX1_init_12 ?_
  refine j_put (ws' := [(h1, .inr (1, [.null, .ref q401, .int (iI 0), .null, .null, .int (iI 0), .int (iI 0), .int (iI 0), .int (iI 0)])), (q401, .inl (T 0, 4, .inl (fun j : Nat => iI (z0 j))))]) h dX1_init_13 f_X1_init_15 p_X1_2 0 rfl rfl rfl (Nat.le_of_ble_eq_true rfl) rfl ?_
  refine j_aload_n h dX1_init_16 0 rfl rfl ?_
  refine j_sipush h dX1_init_17 (by decide) ?_
  refine j_newa (ty := .boolean) (t := 1) (N := 144) (cells' := 2) (slots' := 148) h (144, .inl (fun j : Nat => iI (bI (zB j)))) dX1_init_20 rfl rfl (List.mem_of_getElem? (i := 7) rfl) (z_z 144) rfl (Nat.le_of_ble_eq_true rfl) (by decide) ⟨Nat.le_of_ble_eq_true rfl, Nat.le_of_ble_eq_true rfl⟩ rfl rfl (fun q402 => ?_)
  refine j_eq (ws' := [(h1, .inr (1, [.null, .ref q401, .int (iI 0), .null, .null, .int (iI 0), .int (iI 0), .int (iI 0), .int (iI 0)])), (q401, .inl (T 0, 4, .inl (fun j : Nat => iI (z0 j)))), (q402, .inl (T 1, 144, .inl (fun j : Nat => iI (bI (zB j)))))]) rfl rfl rfl rfl rfl rfl ?_
  refine j_putF (ws' := [(h1, .inr (1, [.null, .ref q401, .int (iI 0), .ref q402, .null, .int (iI 0), .int (iI 0), .int (iI 0), .int (iI 0)])), (q401, .inl (T 0, 4, .inl (fun j : Nat => iI (z0 j)))), (q402, .inl (T 1, 144, .inl (fun j : Nat => iI (bI (zB j)))))]) h hinit dX1_init_22 f_X1_init_19i p_X1_3 0 rfl rfl rfl (Nat.le_of_ble_eq_true rfl) rfl ?_
  refine j_aload_n h dX1_init_25 0 rfl rfl ?_
  refine j_sipush h dX1_init_26 (by decide) ?_
  refine j_newa (ty := .int) (t := 0) (N := 144) (cells' := 3) (slots' := 292) h (144, .inl (fun j : Nat => iI (z0 j))) dX1_init_29 rfl rfl (List.mem_of_getElem? (i := 4) rfl) (z_i 144) rfl (Nat.le_of_ble_eq_true rfl) (by decide) ⟨Nat.le_of_ble_eq_true rfl, Nat.le_of_ble_eq_true rfl⟩ rfl rfl (fun q403 => ?_)
  refine j_eq (ws' := [(h1, .inr (1, [.null, .ref q401, .int (iI 0), .ref q402, .null, .int (iI 0), .int (iI 0), .int (iI 0), .int (iI 0)])), (q401, .inl (T 0, 4, .inl (fun j : Nat => iI (z0 j)))), (q402, .inl (T 1, 144, .inl (fun j : Nat => iI (bI (zB j))))), (q403, .inl (T 0, 144, .inl (fun j : Nat => iI (z0 j))))]) rfl rfl rfl rfl rfl rfl ?_
  refine j_putF (ws' := [(h1, .inr (1, [.null, .ref q401, .int (iI 0), .ref q402, .ref q403, .int (iI 0), .int (iI 0), .int (iI 0), .int (iI 0)])), (q401, .inl (T 0, 4, .inl (fun j : Nat => iI (z0 j)))), (q402, .inl (T 1, 144, .inl (fun j : Nat => iI (bI (zB j))))), (q403, .inl (T 0, 144, .inl (fun j : Nat => iI (z0 j))))]) h hinit dX1_init_31 f_X1_init_23i p_X1_4 0 rfl rfl rfl (Nat.le_of_ble_eq_true rfl) rfl ?_
  refine j_aload_n h dX1_init_34 0 rfl rfl ?_
  refine j_iconst h dX1_init_35 ?_
  refine j_put (ws' := [(h1, .inr (1, [.null, .ref q401, .int (iI 0), .ref q402, .ref q403, .int (iI 0), .int (iI 0), .int (iI 0), .int (iI 0)])), (q401, .inl (T 0, 4, .inl (fun j : Nat => iI (z0 j)))), (q402, .inl (T 1, 144, .inl (fun j : Nat => iI (bI (zB j))))), (q403, .inl (T 0, 144, .inl (fun j : Nat => iI (z0 j))))]) h dX1_init_36 f_X1_init_26 p_X1_5 0 rfl rfl rfl (Nat.le_of_ble_eq_true rfl) rfl ?_
  refine j_aload_n h dX1_init_39 0 rfl rfl ?_
  refine j_iconst h dX1_init_40 ?_
  refine j_put (ws' := [(h1, .inr (1, [.null, .ref q401, .int (iI 0), .ref q402, .ref q403, .int (iI 0), .int (iI 0), .int (iI 0), .int (iI 0)])), (q401, .inl (T 0, 4, .inl (fun j : Nat => iI (z0 j)))), (q402, .inl (T 1, 144, .inl (fun j : Nat => iI (bI (zB j))))), (q403, .inl (T 0, 144, .inl (fun j : Nat => iI (z0 j))))]) h dX1_init_41 f_X1_init_29 p_X1_6 0 rfl rfl rfl (Nat.le_of_ble_eq_true rfl) rfl ?_
  refine j_aload_n h dX1_init_44 0 rfl rfl ?_
  refine j_iconst h dX1_init_45 ?_
  refine j_put (ws' := [(h1, .inr (1, [.null, .ref q401, .int (iI 0), .ref q402, .ref q403, .int (iI 0), .int (iI 0), .int (iI (-1)), .int (iI 0)])), (q401, .inl (T 0, 4, .inl (fun j : Nat => iI (z0 j)))), (q402, .inl (T 1, 144, .inl (fun j : Nat => iI (bI (zB j))))), (q403, .inl (T 0, 144, .inl (fun j : Nat => iI (z0 j))))]) h dX1_init_46 f_X1_init_32 p_X1_7 0 rfl rfl rfl (Nat.le_of_ble_eq_true rfl) rfl ?_
  refine j_aload_n h dX1_init_49 0 rfl rfl ?_
  refine j_iconst h dX1_init_50 ?_
  refine j_put (ws' := [(h1, .inr (1, [.null, .ref q401, .int (iI 0), .ref q402, .ref q403, .int (iI 0), .int (iI 0), .int (iI (-1)), .int (iI 0)])), (q401, .inl (T 0, 4, .inl (fun j : Nat => iI (z0 j)))), (q402, .inl (T 1, 144, .inl (fun j : Nat => iI (bI (zB j))))), (q403, .inl (T 0, 144, .inl (fun j : Nat => iI (z0 j))))]) h dX1_init_51 f_X1_init_35 p_X1_8 0 rfl rfl rfl (Nat.le_of_ble_eq_true rfl) rfl ?_
  refine j_aload_n h dX1_init_54 0 rfl rfl ?_
  refine j_aload_n h dX1_init_55 1 rfl rfl ?_
  refine j_putF (ws' := [(h1, .inr (1, [.ref h0, .ref q401, .int (iI 0), .ref q402, .ref q403, .int (iI 0), .int (iI 0), .int (iI (-1)), .int (iI 0)])), (q401, .inl (T 0, 4, .inl (fun j : Nat => iI (z0 j)))), (q402, .inl (T 1, 144, .inl (fun j : Nat => iI (bI (zB j))))), (q403, .inl (T 0, 144, .inl (fun j : Nat => iI (z0 j))))]) h hinit dX1_init_56 f_X1_init_38i p_X1_0 0 rfl rfl rfl (Nat.le_of_ble_eq_true rfl) rfl ?_
  exact hr _ _ _ dX1_init_59 ⟨q401, q402, q403, rfl⟩

abbrev rmX2_init : Room := { frames := 1, cells := 2, slots := 5760, locals := 60 }
theorem in_X2_init_X2 : ∀ w ∈ u_ws RX2 TX2 3, w ∈ wsX2_init := fun w hw => List.mem_cons_of_mem _ (List.mem_append_right _ (hw))
theorem f_X2_init_9i : FiOK RX2 9 wsX2_init 2 0 := ⟨_, _, _, rfl, by decide, in_X2_init_X2, List.mem_of_getElem? (i := 5) rfl, rfl⟩
theorem p_X2_0 : PuOK 2 0 true (.array .int) := ⟨_, _, _, tyX2, rfl, tyX2_ok, nmX2, rfl, rfl⟩
theorem f_X2_init_15i : FiOK RX2 15 wsX2_init 2 1 := ⟨_, _, _, rfl, by decide, in_X2_init_X2, List.mem_of_getElem? (i := 6) rfl, rfl⟩
theorem p_X2_1 : PuOK 2 1 true (.array .int) := ⟨_, _, _, tyX2, rfl, tyX2_ok, nmX2, rfl, rfl⟩
theorem f_X2_init_18 : FlOK RX2 18 wsX2_init 2 2 := ⟨_, _, _, rfl, by decide, in_X2_init_X2, List.mem_of_getElem? (i := 7) rfl⟩
set_option maxHeartbeats 600000 in
set_option maxRecDepth 100000 in
theorem ct_X2_init (T : Nat → ClassId) (h2 : Nat)  : CtV T yX2_init wsX2_init rmX2_init 2 5760 [.ref h2] [(h2, .inr (2, [.null, .null, .int (iI 0)]))] (fun u => ∃ m1 : Nat, ∃ k1 : Nat, u = [(h2, .inr (2, [.ref m1, .ref k1, .int (iI 0)])), (m1, .inl (T 0, 2880, .inl (fun j : Nat => iI (z0 j)))), (k1, .inl (T 0, 2880, .inl (fun j : Nat => iI (z0 j))))]) := by
  refine ctV_of (cc := cX2_init) (maxL := 1) (ret := none) (by decide +kernel) rfl rfl (Nat.le_of_ble_eq_true rfl) (fun X h hinit hr => ?_)
  replace hinit := hinit rfl
  refine j_eq (lv' := [(0, .ref h2)]) rfl rfl rfl rfl rfl rfl ?_
  refine j_aload_n h dX2_init_0 0 rfl rfl ?_
  refine j_objInit h dX2_init_1 (List.mem_of_getElem? (i := 1) rfl) (List.mem_of_getElem? (i := 2) rfl) (List.mem_of_getElem? (i := 3) rfl) (Nat.le_of_ble_eq_true rfl) (Nat.le_of_ble_eq_true rfl) ?_
  refine j_aload_n h dX2_init_4 0 rfl rfl ?_
  refine j_sipush h dX2_init_5 (by decide) ?_
  refine j_newa (ty := .int) (t := 0) (N := 2880) (cells' := 1) (slots' := 2880) h (2880, .inl (fun j : Nat => iI (z0 j))) dX2_init_8 rfl rfl (List.mem_of_getElem? (i := 4) rfl) (z_i 2880) rfl (Nat.le_of_ble_eq_true rfl) (by decide) ⟨Nat.le_of_ble_eq_true rfl, Nat.le_of_ble_eq_true rfl⟩ rfl rfl (fun q401 => ?_)
  refine j_eq (ws' := [(h2, .inr (2, [.null, .null, .int (iI 0)])), (q401, .inl (T 0, 2880, .inl (fun j : Nat => iI (z0 j))))]) rfl rfl rfl rfl rfl rfl ?_
  refine j_putF (ws' := [(h2, .inr (2, [.ref q401, .null, .int (iI 0)])), (q401, .inl (T 0, 2880, .inl (fun j : Nat => iI (z0 j))))]) h hinit dX2_init_10 f_X2_init_9i p_X2_0 0 rfl rfl rfl (Nat.le_of_ble_eq_true rfl) rfl ?_
  refine j_aload_n h dX2_init_13 0 rfl rfl ?_
  refine j_sipush h dX2_init_14 (by decide) ?_
  refine j_newa (ty := .int) (t := 0) (N := 2880) (cells' := 2) (slots' := 5760) h (2880, .inl (fun j : Nat => iI (z0 j))) dX2_init_17 rfl rfl (List.mem_of_getElem? (i := 4) rfl) (z_i 2880) rfl (Nat.le_of_ble_eq_true rfl) (by decide) ⟨Nat.le_of_ble_eq_true rfl, Nat.le_of_ble_eq_true rfl⟩ rfl rfl (fun q402 => ?_)
  refine j_eq (ws' := [(h2, .inr (2, [.ref q401, .null, .int (iI 0)])), (q401, .inl (T 0, 2880, .inl (fun j : Nat => iI (z0 j)))), (q402, .inl (T 0, 2880, .inl (fun j : Nat => iI (z0 j))))]) rfl rfl rfl rfl rfl rfl ?_
  refine j_putF (ws' := [(h2, .inr (2, [.ref q401, .ref q402, .int (iI 0)])), (q401, .inl (T 0, 2880, .inl (fun j : Nat => iI (z0 j)))), (q402, .inl (T 0, 2880, .inl (fun j : Nat => iI (z0 j))))]) h hinit dX2_init_19 f_X2_init_15i p_X2_1 0 rfl rfl rfl (Nat.le_of_ble_eq_true rfl) rfl ?_
  refine j_aload_n h dX2_init_22 0 rfl rfl ?_
  refine j_iconst h dX2_init_23 ?_
  refine j_put (ws' := [(h2, .inr (2, [.ref q401, .ref q402, .int (iI 0)])), (q401, .inl (T 0, 2880, .inl (fun j : Nat => iI (z0 j)))), (q402, .inl (T 0, 2880, .inl (fun j : Nat => iI (z0 j))))]) h dX2_init_24 f_X2_init_18 p_X2_2 0 rfl rfl rfl (Nat.le_of_ble_eq_true rfl) rfl ?_
  exact hr _ _ _ dX2_init_27 ⟨q401, q402, rfl⟩

abbrev rmX4_init : Room := { frames := 1, cells := 1, slots := 1152, locals := 60 }
theorem in_X4_init_X4 : ∀ w ∈ u_ws RX4 TX4 1, w ∈ wsX4_init := fun w hw => List.mem_cons_of_mem _ (List.mem_append_right _ (hw))
theorem f_X4_init_9i : FiOK RX4 9 wsX4_init 4 0 := ⟨_, _, _, rfl, by decide, in_X4_init_X4, List.mem_of_getElem? (i := 5) rfl, rfl⟩
theorem p_X4_0 : PuOK 4 0 true (.array .boolean) := ⟨_, _, _, tyX4, rfl, tyX4_ok, nmX4, rfl, rfl⟩
set_option maxHeartbeats 600000 in
set_option maxRecDepth 100000 in
theorem ct_X4_init (T : Nat → ClassId) (h4 : Nat)  : CtV T yX4_init wsX4_init rmX4_init 1 1152 [.ref h4] [(h4, .inr (4, [.null]))] (fun u => ∃ k1 : Nat, u = [(h4, .inr (4, [.ref k1])), (k1, .inl (T 1, 1152, .inl (fun j : Nat => iI (bI (zB j)))))]) := by
  refine ctV_of (cc := cX4_init) (maxL := 1) (ret := none) (by decide +kernel) rfl rfl (Nat.le_of_ble_eq_true rfl) (fun X h hinit hr => ?_)
  replace hinit := hinit rfl
  refine j_eq (lv' := [(0, .ref h4)]) rfl rfl rfl rfl rfl rfl ?_
  refine j_aload_n h dX4_init_0 0 rfl rfl ?_
  refine j_objInit h dX4_init_1 (List.mem_of_getElem? (i := 1) rfl) (List.mem_of_getElem? (i := 2) rfl) (List.mem_of_getElem? (i := 3) rfl) (Nat.le_of_ble_eq_true rfl) (Nat.le_of_ble_eq_true rfl) ?_
  refine j_aload_n h dX4_init_4 0 rfl rfl ?_
  refine j_sipush h dX4_init_5 (by decide) ?_
  refine j_newa (ty := .boolean) (t := 1) (N := 1152) (cells' := 1) (slots' := 1152) h (1152, .inl (fun j : Nat => iI (bI (zB j)))) dX4_init_8 rfl rfl (List.mem_of_getElem? (i := 4) rfl) (z_z 1152) rfl (Nat.le_of_ble_eq_true rfl) (by decide) ⟨Nat.le_of_ble_eq_true rfl, Nat.le_of_ble_eq_true rfl⟩ rfl rfl (fun q401 => ?_)
  refine j_eq (ws' := [(h4, .inr (4, [.null])), (q401, .inl (T 1, 1152, .inl (fun j : Nat => iI (bI (zB j)))))]) rfl rfl rfl rfl rfl rfl ?_
  refine j_putF (ws' := [(h4, .inr (4, [.ref q401])), (q401, .inl (T 1, 1152, .inl (fun j : Nat => iI (bI (zB j)))))]) h hinit dX4_init_10 f_X4_init_9i p_X4_0 0 rfl rfl rfl (Nat.le_of_ble_eq_true rfl) rfl ?_
  exact hr _ _ _ dX4_init_13 ⟨q401, rfl⟩

abbrev rmX6_init : Room := { frames := 1, cells := 3, slots := 12, locals := 60 }
theorem in_X6_init_X6 : ∀ w ∈ u_ws RX6 TX6 11, w ∈ wsX6_init := fun w hw => List.mem_cons_of_mem _ (List.mem_append_right _ (hw))
theorem f_X6_init_9i : FiOK RX6 9 wsX6_init 6 3 := ⟨_, _, _, rfl, by decide, in_X6_init_X6, List.mem_of_getElem? (i := 5) rfl, rfl⟩
theorem p_X6_3 : PuOK 6 3 true (.array .int) := ⟨_, _, _, tyX6, rfl, tyX6_ok, nmX6, rfl, rfl⟩
theorem f_X6_init_15i : FiOK RX6 15 wsX6_init 6 4 := ⟨_, _, _, rfl, by decide, in_X6_init_X6, List.mem_of_getElem? (i := 6) rfl, rfl⟩
theorem p_X6_4 : PuOK 6 4 true (.array .int) := ⟨_, _, _, tyX6, rfl, tyX6_ok, nmX6, rfl, rfl⟩
theorem f_X6_init_18i : FiOK RX6 18 wsX6_init 6 5 := ⟨_, _, _, rfl, by decide, in_X6_init_X6, List.mem_of_getElem? (i := 7) rfl, rfl⟩
theorem p_X6_5 : PuOK 6 5 true (.array .int) := ⟨_, _, _, tyX6, rfl, tyX6_ok, nmX6, rfl, rfl⟩
theorem f_X6_init_21 : FlOK RX6 21 wsX6_init 6 6 := ⟨_, _, _, rfl, by decide, in_X6_init_X6, List.mem_of_getElem? (i := 8) rfl⟩
theorem f_X6_init_25 : FlOK RX6 25 wsX6_init 6 7 := ⟨_, _, _, rfl, by decide, in_X6_init_X6, List.mem_of_getElem? (i := 9) rfl⟩
theorem f_X6_init_28 : FlOK RX6 28 wsX6_init 6 8 := ⟨_, _, _, rfl, by decide, in_X6_init_X6, List.mem_of_getElem? (i := 10) rfl⟩
theorem f_X6_init_31 : FlOK RX6 31 wsX6_init 6 9 := ⟨_, _, _, rfl, by decide, in_X6_init_X6, List.mem_of_getElem? (i := 11) rfl⟩
theorem f_X6_init_34 : FlOK RX6 34 wsX6_init 6 10 := ⟨_, _, _, rfl, by decide, in_X6_init_X6, List.mem_of_getElem? (i := 12) rfl⟩
theorem f_X6_init_37i : FiOK RX6 37 wsX6_init 6 0 := ⟨_, _, _, rfl, by decide, in_X6_init_X6, List.mem_of_getElem? (i := 13) rfl, rfl⟩
theorem p_X6_0 : PuOK 6 0 true (.object "LayerShop$Board") := ⟨_, _, _, tyX6, rfl, tyX6_ok, nmX6, rfl, rfl⟩
theorem f_X6_init_41i : FiOK RX6 41 wsX6_init 6 1 := ⟨_, _, _, rfl, by decide, in_X6_init_X6, List.mem_of_getElem? (i := 14) rfl, rfl⟩
theorem p_X6_1 : PuOK 6 1 true (.object "LayerShop$Works") := ⟨_, _, _, tyX6, rfl, tyX6_ok, nmX6, rfl, rfl⟩
theorem f_X6_init_45i : FiOK RX6 45 wsX6_init 6 2 := ⟨_, _, _, rfl, by decide, in_X6_init_X6, List.mem_of_getElem? (i := 15) rfl, rfl⟩
theorem p_X6_2 : PuOK 6 2 true (.object "LayerShop$Masks") := ⟨_, _, _, tyX6, rfl, tyX6_ok, nmX6, rfl, rfl⟩
set_option maxHeartbeats 600000 in
set_option maxRecDepth 100000 in
theorem ct_X6_init (T : Nat → ClassId) (h6 : Nat) (h0 : Nat) (h10 : Nat) (h4 : Nat)  : CtV T yX6_init wsX6_init rmX6_init 3 12 [.ref h6, .ref h0, .ref h10, .ref h4] [(h6, .inr (6, [.null, .null, .null, .null, .null, .null, .int (iI 0), .int (iI 0), .int (iI 0), .int (iI 0), .int (iI 0)]))] (fun u => ∃ s1 : Nat, ∃ e1 : Nat, ∃ l1 : Nat, u = [(h6, .inr (6, [.ref h0, .ref h10, .ref h4, .ref s1, .ref e1, .ref l1, .int (iI 0), .int (iI 0), .int (iI (-1)), .int (iI 0), .int (iI 0)])), (s1, .inl (T 0, 4, .inl (fun j : Nat => iI (z0 j)))), (e1, .inl (T 0, 4, .inl (fun j : Nat => iI (z0 j)))), (l1, .inl (T 0, 4, .inl (fun j : Nat => iI (z0 j))))]) := by
  refine ctV_of (cc := cX6_init) (maxL := 4) (ret := none) (by decide +kernel) rfl rfl (Nat.le_of_ble_eq_true rfl) (fun X h hinit hr => ?_)
  replace hinit := hinit rfl
  refine j_eq (lv' := [(0, .ref h6), (1, .ref h0), (2, .ref h10), (3, .ref h4)]) rfl rfl rfl rfl rfl rfl ?_
  refine j_aload_n h dX6_init_0 0 rfl rfl ?_
  refine j_objInit h dX6_init_1 (List.mem_of_getElem? (i := 1) rfl) (List.mem_of_getElem? (i := 2) rfl) (List.mem_of_getElem? (i := 3) rfl) (Nat.le_of_ble_eq_true rfl) (Nat.le_of_ble_eq_true rfl) ?_
  refine j_aload_n h dX6_init_4 0 rfl rfl ?_
  refine j_iconst h dX6_init_5 ?_
  refine j_newa (ty := .int) (t := 0) (N := 4) (cells' := 1) (slots' := 4) h (4, .inl (fun j : Nat => iI (z0 j))) dX6_init_6 rfl rfl (List.mem_of_getElem? (i := 4) rfl) (z_i 4) rfl (Nat.le_of_ble_eq_true rfl) (by decide) ⟨Nat.le_of_ble_eq_true rfl, Nat.le_of_ble_eq_true rfl⟩ rfl rfl (fun q401 => ?_)
  refine j_eq (ws' := [(h6, .inr (6, [.null, .null, .null, .null, .null, .null, .int (iI 0), .int (iI 0), .int (iI 0), .int (iI 0), .int (iI 0)])), (q401, .inl (T 0, 4, .inl (fun j : Nat => iI (z0 j))))]) rfl rfl rfl rfl rfl rfl ?_
  refine j_putF (ws' := [(h6, .inr (6, [.null, .null, .null, .ref q401, .null, .null, .int (iI 0), .int (iI 0), .int (iI 0), .int (iI 0), .int (iI 0)])), (q401, .inl (T 0, 4, .inl (fun j : Nat => iI (z0 j))))]) h hinit dX6_init_8 f_X6_init_9i p_X6_3 0 rfl rfl rfl (Nat.le_of_ble_eq_true rfl) rfl ?_
  refine j_aload_n h dX6_init_11 0 rfl rfl ?_
  refine j_iconst h dX6_init_12 ?_
  refine j_newa (ty := .int) (t := 0) (N := 4) (cells' := 2) (slots' := 8) h (4, .inl (fun j : Nat => iI (z0 j))) dX6_init_13 rfl rfl (List.mem_of_getElem? (i := 4) rfl) (z_i 4) rfl (Nat.le_of_ble_eq_true rfl) (by decide) ⟨Nat.le_of_ble_eq_true rfl, Nat.le_of_ble_eq_true rfl⟩ rfl rfl (fun q402 => ?_)
  refine j_eq (ws' := [(h6, .inr (6, [.null, .null, .null, .ref q401, .null, .null, .int (iI 0), .int (iI 0), .int (iI 0), .int (iI 0), .int (iI 0)])), (q401, .inl (T 0, 4, .inl (fun j : Nat => iI (z0 j)))), (q402, .inl (T 0, 4, .inl (fun j : Nat => iI (z0 j))))]) rfl rfl rfl rfl rfl rfl ?_
  refine j_putF (ws' := [(h6, .inr (6, [.null, .null, .null, .ref q401, .ref q402, .null, .int (iI 0), .int (iI 0), .int (iI 0), .int (iI 0), .int (iI 0)])), (q401, .inl (T 0, 4, .inl (fun j : Nat => iI (z0 j)))), (q402, .inl (T 0, 4, .inl (fun j : Nat => iI (z0 j))))]) h hinit dX6_init_15 f_X6_init_15i p_X6_4 0 rfl rfl rfl (Nat.le_of_ble_eq_true rfl) rfl ?_
  refine j_aload_n h dX6_init_18 0 rfl rfl ?_
  refine j_iconst h dX6_init_19 ?_
  refine j_newa (ty := .int) (t := 0) (N := 4) (cells' := 3) (slots' := 12) h (4, .inl (fun j : Nat => iI (z0 j))) dX6_init_20 rfl rfl (List.mem_of_getElem? (i := 4) rfl) (z_i 4) rfl (Nat.le_of_ble_eq_true rfl) (by decide) ⟨Nat.le_of_ble_eq_true rfl, Nat.le_of_ble_eq_true rfl⟩ rfl rfl (fun q403 => ?_)
  refine j_eq (ws' := [(h6, .inr (6, [.null, .null, .null, .ref q401, .ref q402, .null, .int (iI 0), .int (iI 0), .int (iI 0), .int (iI 0), .int (iI 0)])), (q401, .inl (T 0, 4, .inl (fun j : Nat => iI (z0 j)))), (q402, .inl (T 0, 4, .inl (fun j : Nat => iI (z0 j)))), (q403, .inl (T 0, 4, .inl (fun j : Nat => iI (z0 j))))]) rfl rfl rfl rfl rfl rfl ?_
  refine j_putF (ws' := [(h6, .inr (6, [.null, .null, .null, .ref q401, .ref q402, .ref q403, .int (iI 0), .int (iI 0), .int (iI 0), .int (iI 0), .int (iI 0)])), (q401, .inl (T 0, 4, .inl (fun j : Nat => iI (z0 j)))), (q402, .inl (T 0, 4, .inl (fun j : Nat => iI (z0 j)))), (q403, .inl (T 0, 4, .inl (fun j : Nat => iI (z0 j))))]) h hinit dX6_init_22 f_X6_init_18i p_X6_5 0 rfl rfl rfl (Nat.le_of_ble_eq_true rfl) rfl ?_
  refine j_aload_n h dX6_init_25 0 rfl rfl ?_
  refine j_iconst h dX6_init_26 ?_
  refine j_put (ws' := [(h6, .inr (6, [.null, .null, .null, .ref q401, .ref q402, .ref q403, .int (iI 0), .int (iI 0), .int (iI 0), .int (iI 0), .int (iI 0)])), (q401, .inl (T 0, 4, .inl (fun j : Nat => iI (z0 j)))), (q402, .inl (T 0, 4, .inl (fun j : Nat => iI (z0 j)))), (q403, .inl (T 0, 4, .inl (fun j : Nat => iI (z0 j))))]) h dX6_init_27 f_X6_init_21 p_X6_6 0 rfl rfl rfl (Nat.le_of_ble_eq_true rfl) rfl ?_
  refine j_aload_n h dX6_init_30 0 rfl rfl ?_
  refine j_iconst h dX6_init_31 ?_
  refine j_put (ws' := [(h6, .inr (6, [.null, .null, .null, .ref q401, .ref q402, .ref q403, .int (iI 0), .int (iI 0), .int (iI 0), .int (iI 0), .int (iI 0)])), (q401, .inl (T 0, 4, .inl (fun j : Nat => iI (z0 j)))), (q402, .inl (T 0, 4, .inl (fun j : Nat => iI (z0 j)))), (q403, .inl (T 0, 4, .inl (fun j : Nat => iI (z0 j))))]) h dX6_init_32 f_X6_init_25 p_X6_7 0 rfl rfl rfl (Nat.le_of_ble_eq_true rfl) rfl ?_
  refine j_aload_n h dX6_init_35 0 rfl rfl ?_
  refine j_iconst h dX6_init_36 ?_
  refine j_put (ws' := [(h6, .inr (6, [.null, .null, .null, .ref q401, .ref q402, .ref q403, .int (iI 0), .int (iI 0), .int (iI (-1)), .int (iI 0), .int (iI 0)])), (q401, .inl (T 0, 4, .inl (fun j : Nat => iI (z0 j)))), (q402, .inl (T 0, 4, .inl (fun j : Nat => iI (z0 j)))), (q403, .inl (T 0, 4, .inl (fun j : Nat => iI (z0 j))))]) h dX6_init_37 f_X6_init_28 p_X6_8 0 rfl rfl rfl (Nat.le_of_ble_eq_true rfl) rfl ?_
  refine j_aload_n h dX6_init_40 0 rfl rfl ?_
  refine j_iconst h dX6_init_41 ?_
  refine j_put (ws' := [(h6, .inr (6, [.null, .null, .null, .ref q401, .ref q402, .ref q403, .int (iI 0), .int (iI 0), .int (iI (-1)), .int (iI 0), .int (iI 0)])), (q401, .inl (T 0, 4, .inl (fun j : Nat => iI (z0 j)))), (q402, .inl (T 0, 4, .inl (fun j : Nat => iI (z0 j)))), (q403, .inl (T 0, 4, .inl (fun j : Nat => iI (z0 j))))]) h dX6_init_42 f_X6_init_31 p_X6_9 0 rfl rfl rfl (Nat.le_of_ble_eq_true rfl) rfl ?_
  refine j_aload_n h dX6_init_45 0 rfl rfl ?_
  refine j_iconst h dX6_init_46 ?_
  refine j_put (ws' := [(h6, .inr (6, [.null, .null, .null, .ref q401, .ref q402, .ref q403, .int (iI 0), .int (iI 0), .int (iI (-1)), .int (iI 0), .int (iI 0)])), (q401, .inl (T 0, 4, .inl (fun j : Nat => iI (z0 j)))), (q402, .inl (T 0, 4, .inl (fun j : Nat => iI (z0 j)))), (q403, .inl (T 0, 4, .inl (fun j : Nat => iI (z0 j))))]) h dX6_init_47 f_X6_init_34 p_X6_10 0 rfl rfl rfl (Nat.le_of_ble_eq_true rfl) rfl ?_
  refine j_aload_n h dX6_init_50 0 rfl rfl ?_
  refine j_aload_n h dX6_init_51 1 rfl rfl ?_
  refine j_putF (ws' := [(h6, .inr (6, [.ref h0, .null, .null, .ref q401, .ref q402, .ref q403, .int (iI 0), .int (iI 0), .int (iI (-1)), .int (iI 0), .int (iI 0)])), (q401, .inl (T 0, 4, .inl (fun j : Nat => iI (z0 j)))), (q402, .inl (T 0, 4, .inl (fun j : Nat => iI (z0 j)))), (q403, .inl (T 0, 4, .inl (fun j : Nat => iI (z0 j))))]) h hinit dX6_init_52 f_X6_init_37i p_X6_0 0 rfl rfl rfl (Nat.le_of_ble_eq_true rfl) rfl ?_
  refine j_aload_n h dX6_init_55 0 rfl rfl ?_
  refine j_aload_n h dX6_init_56 2 rfl rfl ?_
  refine j_putF (ws' := [(h6, .inr (6, [.ref h0, .ref h10, .null, .ref q401, .ref q402, .ref q403, .int (iI 0), .int (iI 0), .int (iI (-1)), .int (iI 0), .int (iI 0)])), (q401, .inl (T 0, 4, .inl (fun j : Nat => iI (z0 j)))), (q402, .inl (T 0, 4, .inl (fun j : Nat => iI (z0 j)))), (q403, .inl (T 0, 4, .inl (fun j : Nat => iI (z0 j))))]) h hinit dX6_init_57 f_X6_init_41i p_X6_1 0 rfl rfl rfl (Nat.le_of_ble_eq_true rfl) rfl ?_
  refine j_aload_n h dX6_init_60 0 rfl rfl ?_
  refine j_aload_n h dX6_init_61 3 rfl rfl ?_
  refine j_putF (ws' := [(h6, .inr (6, [.ref h0, .ref h10, .ref h4, .ref q401, .ref q402, .ref q403, .int (iI 0), .int (iI 0), .int (iI (-1)), .int (iI 0), .int (iI 0)])), (q401, .inl (T 0, 4, .inl (fun j : Nat => iI (z0 j)))), (q402, .inl (T 0, 4, .inl (fun j : Nat => iI (z0 j)))), (q403, .inl (T 0, 4, .inl (fun j : Nat => iI (z0 j))))]) h hinit dX6_init_62 f_X6_init_45i p_X6_2 0 rfl rfl rfl (Nat.le_of_ble_eq_true rfl) rfl ?_
  exact hr _ _ _ dX6_init_65 ⟨q401, q402, q403, rfl⟩

abbrev rmX7_init : Room := { frames := 1, cells := 0, slots := 0, locals := 60 }
theorem in_X7_init_X7 : ∀ w ∈ u_ws RX7 TX7 8, w ∈ wsX7_init := fun w hw => List.mem_cons_of_mem _ (List.mem_append_right _ (hw))
theorem f_X7_init_7 : FlOK RX7 7 wsX7_init 7 0 := ⟨_, _, _, rfl, by decide, in_X7_init_X7, List.mem_of_getElem? (i := 4) rfl⟩
theorem f_X7_init_13 : FlOK RX7 13 wsX7_init 7 1 := ⟨_, _, _, rfl, by decide, in_X7_init_X7, List.mem_of_getElem? (i := 5) rfl⟩
theorem f_X7_init_16 : FlOK RX7 16 wsX7_init 7 2 := ⟨_, _, _, rfl, by decide, in_X7_init_X7, List.mem_of_getElem? (i := 6) rfl⟩
theorem f_X7_init_19 : FlOK RX7 19 wsX7_init 7 3 := ⟨_, _, _, rfl, by decide, in_X7_init_X7, List.mem_of_getElem? (i := 7) rfl⟩
theorem f_X7_init_22 : FlOK RX7 22 wsX7_init 7 4 := ⟨_, _, _, rfl, by decide, in_X7_init_X7, List.mem_of_getElem? (i := 8) rfl⟩
theorem f_X7_init_25 : FlOK RX7 25 wsX7_init 7 5 := ⟨_, _, _, rfl, by decide, in_X7_init_X7, List.mem_of_getElem? (i := 9) rfl⟩
theorem f_X7_init_28 : FlOK RX7 28 wsX7_init 7 6 := ⟨_, _, _, rfl, by decide, in_X7_init_X7, List.mem_of_getElem? (i := 10) rfl⟩
theorem f_X7_init_31 : FlOK RX7 31 wsX7_init 7 7 := ⟨_, _, _, rfl, by decide, in_X7_init_X7, List.mem_of_getElem? (i := 11) rfl⟩
set_option maxHeartbeats 600000 in
set_option maxRecDepth 100000 in
theorem ct_X7_init (T : Nat → ClassId) (q0 : Nat)  : CtV T yX7_init wsX7_init rmX7_init 0 0 [.ref q0] [(q0, .inr (7, [.int (iI 0), .int (iI 0), .int (iI 0), .int (iI 0), .int (iI 0), .int (iI 0), .int (iI 0), .int (iI 0)]))] (fun u => u = [(q0, .inr (7, [.int (iI 0), .int (iI 0), .int (iI 0), .int (iI 0), .int (iI 0), .int (iI 0), .int (iI 0), .int (iI 0)]))]) := by
  refine ctV_of (cc := cX7_init) (maxL := 1) (ret := none) (by decide +kernel) rfl rfl (Nat.le_of_ble_eq_true rfl) (fun X h hinit hr => ?_)
  replace hinit := hinit rfl
  refine j_eq (lv' := [(0, .ref q0)]) rfl rfl rfl rfl rfl rfl ?_
  refine j_aload_n h dX7_init_0 0 rfl rfl ?_
  refine j_objInit h dX7_init_1 (List.mem_of_getElem? (i := 1) rfl) (List.mem_of_getElem? (i := 2) rfl) (List.mem_of_getElem? (i := 3) rfl) (Nat.le_of_ble_eq_true rfl) (Nat.le_of_ble_eq_true rfl) ?_
  refine j_aload_n h dX7_init_4 0 rfl rfl ?_
  refine j_iconst h dX7_init_5 ?_
  refine j_put (ws' := [(q0, .inr (7, [.int (iI 0), .int (iI 0), .int (iI 0), .int (iI 0), .int (iI 0), .int (iI 0), .int (iI 0), .int (iI 0)]))]) h dX7_init_6 f_X7_init_7 p_X7_0 0 rfl rfl rfl (Nat.le_of_ble_eq_true rfl) rfl ?_
  refine j_aload_n h dX7_init_9 0 rfl rfl ?_
  refine j_iconst h dX7_init_10 ?_
  refine j_put (ws' := [(q0, .inr (7, [.int (iI 0), .int (iI 0), .int (iI 0), .int (iI 0), .int (iI 0), .int (iI 0), .int (iI 0), .int (iI 0)]))]) h dX7_init_11 f_X7_init_13 p_X7_1 0 rfl rfl rfl (Nat.le_of_ble_eq_true rfl) rfl ?_
  refine j_aload_n h dX7_init_14 0 rfl rfl ?_
  refine j_iconst h dX7_init_15 ?_
  refine j_put (ws' := [(q0, .inr (7, [.int (iI 0), .int (iI 0), .int (iI 0), .int (iI 0), .int (iI 0), .int (iI 0), .int (iI 0), .int (iI 0)]))]) h dX7_init_16 f_X7_init_16 p_X7_2 0 rfl rfl rfl (Nat.le_of_ble_eq_true rfl) rfl ?_
  refine j_aload_n h dX7_init_19 0 rfl rfl ?_
  refine j_iconst h dX7_init_20 ?_
  refine j_put (ws' := [(q0, .inr (7, [.int (iI 0), .int (iI 0), .int (iI 0), .int (iI 0), .int (iI 0), .int (iI 0), .int (iI 0), .int (iI 0)]))]) h dX7_init_21 f_X7_init_19 p_X7_3 0 rfl rfl rfl (Nat.le_of_ble_eq_true rfl) rfl ?_
  refine j_aload_n h dX7_init_24 0 rfl rfl ?_
  refine j_iconst h dX7_init_25 ?_
  refine j_put (ws' := [(q0, .inr (7, [.int (iI 0), .int (iI 0), .int (iI 0), .int (iI 0), .int (iI 0), .int (iI 0), .int (iI 0), .int (iI 0)]))]) h dX7_init_26 f_X7_init_22 p_X7_4 0 rfl rfl rfl (Nat.le_of_ble_eq_true rfl) rfl ?_
  refine j_aload_n h dX7_init_29 0 rfl rfl ?_
  refine j_iconst h dX7_init_30 ?_
  refine j_put (ws' := [(q0, .inr (7, [.int (iI 0), .int (iI 0), .int (iI 0), .int (iI 0), .int (iI 0), .int (iI 0), .int (iI 0), .int (iI 0)]))]) h dX7_init_31 f_X7_init_25 p_X7_5 0 rfl rfl rfl (Nat.le_of_ble_eq_true rfl) rfl ?_
  refine j_aload_n h dX7_init_34 0 rfl rfl ?_
  refine j_iconst h dX7_init_35 ?_
  refine j_put (ws' := [(q0, .inr (7, [.int (iI 0), .int (iI 0), .int (iI 0), .int (iI 0), .int (iI 0), .int (iI 0), .int (iI 0), .int (iI 0)]))]) h dX7_init_36 f_X7_init_28 p_X7_6 0 rfl rfl rfl (Nat.le_of_ble_eq_true rfl) rfl ?_
  refine j_aload_n h dX7_init_39 0 rfl rfl ?_
  refine j_iconst h dX7_init_40 ?_
  refine j_put (ws' := [(q0, .inr (7, [.int (iI 0), .int (iI 0), .int (iI 0), .int (iI 0), .int (iI 0), .int (iI 0), .int (iI 0), .int (iI 0)]))]) h dX7_init_41 f_X7_init_31 p_X7_7 0 rfl rfl rfl (Nat.le_of_ble_eq_true rfl) rfl ?_
  exact hr _ _ _ dX7_init_44 rfl

abbrev rmX8_init : Room := { frames := 1, cells := 1, slots := 600, locals := 60 }
theorem in_X8_init_X8 : ∀ w ∈ u_ws RX8 TX8 2, w ∈ wsX8_init := fun w hw => List.mem_cons_of_mem _ (List.mem_append_right _ (hw))
theorem f_X8_init_9i : FiOK RX8 9 wsX8_init 8 0 := ⟨_, _, _, rfl, by decide, in_X8_init_X8, List.mem_of_getElem? (i := 5) rfl, rfl⟩
theorem p_X8_0 : PuOK 8 0 true (.array .int) := ⟨_, _, _, tyX8, rfl, tyX8_ok, nmX8, rfl, rfl⟩
theorem f_X8_init_15 : FlOK RX8 15 wsX8_init 8 1 := ⟨_, _, _, rfl, by decide, in_X8_init_X8, List.mem_of_getElem? (i := 6) rfl⟩
set_option maxHeartbeats 600000 in
set_option maxRecDepth 100000 in
theorem ct_X8_init (T : Nat → ClassId) (h8 : Nat)  : CtV T yX8_init wsX8_init rmX8_init 1 600 [.ref h8] [(h8, .inr (8, [.null, .int (iI 0)]))] (fun u => ∃ t1 : Nat, u = [(h8, .inr (8, [.ref t1, .int (iI 0)])), (t1, .inl (T 0, 600, .inl (fun j : Nat => iI (z0 j))))]) := by
  refine ctV_of (cc := cX8_init) (maxL := 1) (ret := none) (by decide +kernel) rfl rfl (Nat.le_of_ble_eq_true rfl) (fun X h hinit hr => ?_)
  replace hinit := hinit rfl
  refine j_eq (lv' := [(0, .ref h8)]) rfl rfl rfl rfl rfl rfl ?_
  refine j_aload_n h dX8_init_0 0 rfl rfl ?_
  refine j_objInit h dX8_init_1 (List.mem_of_getElem? (i := 1) rfl) (List.mem_of_getElem? (i := 2) rfl) (List.mem_of_getElem? (i := 3) rfl) (Nat.le_of_ble_eq_true rfl) (Nat.le_of_ble_eq_true rfl) ?_
  refine j_aload_n h dX8_init_4 0 rfl rfl ?_
  refine j_sipush h dX8_init_5 (by decide) ?_
  refine j_newa (ty := .int) (t := 0) (N := 600) (cells' := 1) (slots' := 600) h (600, .inl (fun j : Nat => iI (z0 j))) dX8_init_8 rfl rfl (List.mem_of_getElem? (i := 4) rfl) (z_i 600) rfl (Nat.le_of_ble_eq_true rfl) (by decide) ⟨Nat.le_of_ble_eq_true rfl, Nat.le_of_ble_eq_true rfl⟩ rfl rfl (fun q401 => ?_)
  refine j_eq (ws' := [(h8, .inr (8, [.null, .int (iI 0)])), (q401, .inl (T 0, 600, .inl (fun j : Nat => iI (z0 j))))]) rfl rfl rfl rfl rfl rfl ?_
  refine j_putF (ws' := [(h8, .inr (8, [.ref q401, .int (iI 0)])), (q401, .inl (T 0, 600, .inl (fun j : Nat => iI (z0 j))))]) h hinit dX8_init_10 f_X8_init_9i p_X8_0 0 rfl rfl rfl (Nat.le_of_ble_eq_true rfl) rfl ?_
  refine j_aload_n h dX8_init_13 0 rfl rfl ?_
  refine j_iconst h dX8_init_14 ?_
  refine j_put (ws' := [(h8, .inr (8, [.ref q401, .int (iI 0)])), (q401, .inl (T 0, 600, .inl (fun j : Nat => iI (z0 j))))]) h dX8_init_15 f_X8_init_15 p_X8_1 0 rfl rfl rfl (Nat.le_of_ble_eq_true rfl) rfl ?_
  exact hr _ _ _ dX8_init_18 ⟨q401, rfl⟩

abbrev rmX9_init : Room := { frames := 1, cells := 0, slots := 0, locals := 60 }
theorem in_X9_init_X9 : ∀ w ∈ u_ws RX9 TX9 4, w ∈ wsX9_init := fun w hw => List.mem_cons_of_mem _ (List.mem_append_right _ (hw))
theorem f_X9_init_11 : FlOK RX9 11 wsX9_init 9 1 := ⟨_, _, _, rfl, by decide, in_X9_init_X9, List.mem_of_getElem? (i := 4) rfl⟩
theorem f_X9_init_15 : FlOK RX9 15 wsX9_init 9 2 := ⟨_, _, _, rfl, by decide, in_X9_init_X9, List.mem_of_getElem? (i := 5) rfl⟩
theorem f_X9_init_18 : FlOK RX9 18 wsX9_init 9 3 := ⟨_, _, _, rfl, by decide, in_X9_init_X9, List.mem_of_getElem? (i := 6) rfl⟩
theorem f_X9_init_21i : FiOK RX9 21 wsX9_init 9 0 := ⟨_, _, _, rfl, by decide, in_X9_init_X9, List.mem_of_getElem? (i := 7) rfl, rfl⟩
theorem p_X9_0 : PuOK 9 0 true (.object "LayerShop$Tape") := ⟨_, _, _, tyX9, rfl, tyX9_ok, nmX9, rfl, rfl⟩
set_option maxHeartbeats 600000 in
set_option maxRecDepth 100000 in
theorem ct_X9_init (T : Nat → ClassId) (h9 : Nat) (h8 : Nat)  : CtV T yX9_init wsX9_init rmX9_init 0 0 [.ref h9, .ref h8] [(h9, .inr (9, [.null, .int (iI 0), .int (iI 0), .int (iI 0)]))] (fun u => u = [(h9, .inr (9, [.ref h8, .int (iI 0), .int (iI 0), .int (iI 0)]))]) := by
  refine ctV_of (cc := cX9_init) (maxL := 2) (ret := none) (by decide +kernel) rfl rfl (Nat.le_of_ble_eq_true rfl) (fun X h hinit hr => ?_)
  replace hinit := hinit rfl
  refine j_eq (lv' := [(0, .ref h9), (1, .ref h8)]) rfl rfl rfl rfl rfl rfl ?_
  refine j_aload_n h dX9_init_0 0 rfl rfl ?_
  refine j_objInit h dX9_init_1 (List.mem_of_getElem? (i := 1) rfl) (List.mem_of_getElem? (i := 2) rfl) (List.mem_of_getElem? (i := 3) rfl) (Nat.le_of_ble_eq_true rfl) (Nat.le_of_ble_eq_true rfl) ?_
  refine j_aload_n h dX9_init_4 0 rfl rfl ?_
  refine j_iconst h dX9_init_5 ?_
  refine j_put (ws' := [(h9, .inr (9, [.null, .int (iI 0), .int (iI 0), .int (iI 0)]))]) h dX9_init_6 f_X9_init_11 p_X9_1 0 rfl rfl rfl (Nat.le_of_ble_eq_true rfl) rfl ?_
  refine j_aload_n h dX9_init_9 0 rfl rfl ?_
  refine j_iconst h dX9_init_10 ?_
  refine j_put (ws' := [(h9, .inr (9, [.null, .int (iI 0), .int (iI 0), .int (iI 0)]))]) h dX9_init_11 f_X9_init_15 p_X9_2 0 rfl rfl rfl (Nat.le_of_ble_eq_true rfl) rfl ?_
  refine j_aload_n h dX9_init_14 0 rfl rfl ?_
  refine j_iconst h dX9_init_15 ?_
  refine j_put (ws' := [(h9, .inr (9, [.null, .int (iI 0), .int (iI 0), .int (iI 0)]))]) h dX9_init_16 f_X9_init_18 p_X9_3 0 rfl rfl rfl (Nat.le_of_ble_eq_true rfl) rfl ?_
  refine j_aload_n h dX9_init_19 0 rfl rfl ?_
  refine j_aload_n h dX9_init_20 1 rfl rfl ?_
  refine j_putF (ws' := [(h9, .inr (9, [.ref h8, .int (iI 0), .int (iI 0), .int (iI 0)]))]) h hinit dX9_init_21 f_X9_init_21i p_X9_0 0 rfl rfl rfl (Nat.le_of_ble_eq_true rfl) rfl ?_
  exact hr _ _ _ dX9_init_24 rfl

abbrev rmX10_init : Room := { frames := 1, cells := 1, slots := 2880, locals := 60 }
theorem in_X10_init_X10 : ∀ w ∈ u_ws RX10 TX10 4, w ∈ wsX10_init := fun w hw => List.mem_cons_of_mem _ (List.mem_append_left _ (List.mem_append_right _ (hw)))
theorem f_X10_init_9i : FiOK RX10 9 wsX10_init 10 2 := ⟨_, _, _, rfl, by decide, in_X10_init_X10, List.mem_of_getElem? (i := 5) rfl, rfl⟩
theorem p_X10_2 : PuOK 10 2 true (.array .int) := ⟨_, _, _, tyX10, rfl, tyX10_ok, nmX10, rfl, rfl⟩
theorem f_X10_init_15 : FlOK RX10 15 wsX10_init 10 3 := ⟨_, _, _, rfl, by decide, in_X10_init_X10, List.mem_of_getElem? (i := 6) rfl⟩
theorem in_X10_init_X0 : ∀ w ∈ u_ws RX0 TX0 1, w ∈ wsX10_init := fun w hw => List.mem_cons_of_mem _ (List.mem_append_right _ (hw))
theorem f_X10_init_19 : FnOK RX10 19 wsX10_init 0 0 := ⟨_, _, _, "LayerShop", rfl, by decide, in_X10_init_X0, List.mem_of_getElem? (i := 35) rfl⟩
theorem f_X10_init_24i : FiOK RX10 24 wsX10_init 10 0 := ⟨_, _, _, rfl, by decide, in_X10_init_X10, List.mem_of_getElem? (i := 7) rfl, rfl⟩
theorem p_X10_0 : PuOK 10 0 true (.array .int) := ⟨_, _, _, tyX10, rfl, tyX10_ok, nmX10, rfl, rfl⟩
theorem f_X10_init_25i : FiOK RX10 25 wsX10_init 10 1 := ⟨_, _, _, rfl, by decide, in_X10_init_X10, List.mem_of_getElem? (i := 8) rfl, rfl⟩
theorem p_X10_1 : PuOK 10 1 true (.object "LayerShop$Flood") := ⟨_, _, _, tyX10, rfl, tyX10_ok, nmX10, rfl, rfl⟩
set_option maxHeartbeats 600000 in
set_option maxRecDepth 100000 in
theorem ct_X10_init (T : Nat → ClassId) (h10 : Nat) (h0 : Nat) (h2 : Nat) (c0 : Nat)  : CtV T yX10_init wsX10_init rmX10_init 1 2880 [.ref h10, .ref h0, .ref h2] [(h10, .inr (10, [.null, .null, .null, .int (iI 0)])), (h0, .inr (0, [.ref c0]))] (fun u => ∃ k1 : Nat, u = [(h10, .inr (10, [.ref c0, .ref h2, .ref k1, .int (iI 0)])), (h0, .inr (0, [.ref c0])), (k1, .inl (T 0, 2880, .inl (fun j : Nat => iI (z0 j))))]) := by
  refine ctV_of (cc := cX10_init) (maxL := 3) (ret := none) (by decide +kernel) rfl rfl (Nat.le_of_ble_eq_true rfl) (fun X h hinit hr => ?_)
  replace hinit := hinit rfl
  refine j_eq (lv' := [(0, .ref h10), (1, .ref h0), (2, .ref h2)]) rfl rfl rfl rfl rfl rfl ?_
  refine j_aload_n h dX10_init_0 0 rfl rfl ?_
  refine j_objInit h dX10_init_1 (List.mem_of_getElem? (i := 1) rfl) (List.mem_of_getElem? (i := 2) rfl) (List.mem_of_getElem? (i := 3) rfl) (Nat.le_of_ble_eq_true rfl) (Nat.le_of_ble_eq_true rfl) ?_
  refine j_aload_n h dX10_init_4 0 rfl rfl ?_
  refine j_sipush h dX10_init_5 (by decide) ?_
  refine j_newa (ty := .int) (t := 0) (N := 2880) (cells' := 1) (slots' := 2880) h (2880, .inl (fun j : Nat => iI (z0 j))) dX10_init_8 rfl rfl (List.mem_of_getElem? (i := 4) rfl) (z_i 2880) rfl (Nat.le_of_ble_eq_true rfl) (by decide) ⟨Nat.le_of_ble_eq_true rfl, Nat.le_of_ble_eq_true rfl⟩ rfl rfl (fun q401 => ?_)
  refine j_eq (ws' := [(h10, .inr (10, [.null, .null, .null, .int (iI 0)])), (h0, .inr (0, [.ref c0])), (q401, .inl (T 0, 2880, .inl (fun j : Nat => iI (z0 j))))]) rfl rfl rfl rfl rfl rfl ?_
  refine j_putF (ws' := [(h10, .inr (10, [.null, .null, .ref q401, .int (iI 0)])), (h0, .inr (0, [.ref c0])), (q401, .inl (T 0, 2880, .inl (fun j : Nat => iI (z0 j))))]) h hinit dX10_init_10 f_X10_init_9i p_X10_2 0 rfl rfl rfl (Nat.le_of_ble_eq_true rfl) rfl ?_
  refine j_aload_n h dX10_init_13 0 rfl rfl ?_
  refine j_iconst h dX10_init_14 ?_
  refine j_put (ws' := [(h10, .inr (10, [.null, .null, .ref q401, .int (iI 0)])), (h0, .inr (0, [.ref c0])), (q401, .inl (T 0, 2880, .inl (fun j : Nat => iI (z0 j))))]) h dX10_init_15 f_X10_init_15 p_X10_3 0 rfl rfl rfl (Nat.le_of_ble_eq_true rfl) rfl ?_
  refine j_aload_n h dX10_init_18 0 rfl rfl ?_
  refine j_aload_n h dX10_init_19 1 rfl rfl ?_
  refine j_getN h dX10_init_20 f_X10_init_19 1 rfl rfl ?_
  refine j_putF (ws' := [(h10, .inr (10, [.ref c0, .null, .ref q401, .int (iI 0)])), (h0, .inr (0, [.ref c0])), (q401, .inl (T 0, 2880, .inl (fun j : Nat => iI (z0 j))))]) h hinit dX10_init_23 f_X10_init_24i p_X10_0 0 rfl rfl rfl (Nat.le_of_ble_eq_true rfl) rfl ?_
  refine j_aload_n h dX10_init_26 0 rfl rfl ?_
  refine j_aload_n h dX10_init_27 2 rfl rfl ?_
  refine j_putF (ws' := [(h10, .inr (10, [.ref c0, .ref h2, .ref q401, .int (iI 0)])), (h0, .inr (0, [.ref c0])), (q401, .inl (T 0, 2880, .inl (fun j : Nat => iI (z0 j))))]) h hinit dX10_init_28 f_X10_init_25i p_X10_1 0 rfl rfl rfl (Nat.le_of_ble_eq_true rfl) rfl ?_
  exact hr _ _ _ dX10_init_31 ⟨q401, rfl⟩

abbrev rmX3_init : Room := { frames := 1, cells := 8, slots := 20167, locals := 60 }
theorem in_X3_init_X3 : ∀ w ∈ u_ws RX3 TX3 3, w ∈ wsX3_init := fun w hw => List.mem_cons_of_mem _ (List.mem_append_right _ (hw))
theorem f_X3_init_13i : FiOK RX3 13 wsX3_init 3 0 := ⟨_, _, _, rfl, by decide, in_X3_init_X3, List.mem_of_getElem? (i := 6) rfl, rfl⟩
theorem p_X3_0 : PuOK 3 0 true (.array (.array .int)) := ⟨_, _, _, tyX3, rfl, tyX3_ok, nmX3, rfl, rfl⟩
theorem f_X3_init_16 : FlOK RX3 16 wsX3_init 3 1 := ⟨_, _, _, rfl, by decide, in_X3_init_X3, List.mem_of_getElem? (i := 7) rfl⟩
theorem f_X3_init_20 : FlOK RX3 20 wsX3_init 3 2 := ⟨_, _, _, rfl, by decide, in_X3_init_X3, List.mem_of_getElem? (i := 8) rfl⟩
set_option maxHeartbeats 600000 in
set_option maxRecDepth 100000 in
theorem ct_X3_init (T : Nat → ClassId) (h3 : Nat)  : CtVA T yX3_init wsX3_init rmX3_init 8 20167 [.ref h3] [(h3, .inr (3, [.null, .int (iI 0), .int (iI 0)]))] (fun u => ∃ r1 : Nat, ∃ hp1 : Nat → Nat, u = [(h3, .inr (3, [.ref r1, .int (iI 0), .int (iI 0)])), (r1, .inl (T 4, 7, .inr (.inr (.inr (.inr (fun i9 : Nat => some (hp1 i9))))))), ((hp1 0), .inl (T 0, 2880, .inl (fun j : Nat => iI (z0 j)))), ((hp1 1), .inl (T 0, 2880, .inl (fun j : Nat => iI (z0 j)))), ((hp1 2), .inl (T 0, 2880, .inl (fun j : Nat => iI (z0 j)))), ((hp1 3), .inl (T 0, 2880, .inl (fun j : Nat => iI (z0 j)))), ((hp1 4), .inl (T 0, 2880, .inl (fun j : Nat => iI (z0 j)))), ((hp1 5), .inl (T 0, 2880, .inl (fun j : Nat => iI (z0 j)))), ((hp1 6), .inl (T 0, 2880, .inl (fun j : Nat => iI (z0 j))))]) := by
  refine ctVA_of (cc := cX3_init) (maxL := 1) (ret := none) (by decide +kernel) rfl rfl (Nat.le_of_ble_eq_true rfl) (fun X h hao hinit hr => ?_)
  replace hinit := hinit rfl
  refine j_eq (lv' := [(0, .ref h3)]) rfl rfl rfl rfl rfl rfl ?_
  refine j_aload_n h dX3_init_0 0 rfl rfl ?_
  refine j_objInit h dX3_init_1 (List.mem_of_getElem? (i := 1) rfl) (List.mem_of_getElem? (i := 2) rfl) (List.mem_of_getElem? (i := 3) rfl) (Nat.le_of_ble_eq_true rfl) (Nat.le_of_ble_eq_true rfl) ?_
  refine j_aload_n h dX3_init_4 0 rfl rfl ?_
  refine j_bipush h dX3_init_5 (by decide) ?_
  refine j_sipush h dX3_init_7 (by decide) ?_
  refine j_newm (cells' := 8) (slots' := 20167) h hao dX3_init_10 (List.mem_of_getElem? (i := 4) rfl) (List.mem_of_getElem? (i := 5) rfl) ⟨Nat.le_of_ble_eq_true rfl, Nat.le_of_ble_eq_true rfl⟩ rfl rfl (fun q401 hp402 => ?_)
  refine j_eq (ws' := [(h3, .inr (3, [.null, .int (iI 0), .int (iI 0)])), (q401, .inl (T 4, 7, .inr (.inr (.inr (.inr (fun i9 : Nat => some (hp402 i9))))))), ((hp402 0), .inl (T 0, 2880, .inl (fun j : Nat => iI (z0 j)))), ((hp402 1), .inl (T 0, 2880, .inl (fun j : Nat => iI (z0 j)))), ((hp402 2), .inl (T 0, 2880, .inl (fun j : Nat => iI (z0 j)))), ((hp402 3), .inl (T 0, 2880, .inl (fun j : Nat => iI (z0 j)))), ((hp402 4), .inl (T 0, 2880, .inl (fun j : Nat => iI (z0 j)))), ((hp402 5), .inl (T 0, 2880, .inl (fun j : Nat => iI (z0 j)))), ((hp402 6), .inl (T 0, 2880, .inl (fun j : Nat => iI (z0 j))))]) rfl rfl rfl rfl rfl rfl ?_
  refine j_putF (ws' := [(h3, .inr (3, [.ref q401, .int (iI 0), .int (iI 0)])), (q401, .inl (T 4, 7, .inr (.inr (.inr (.inr (fun i9 : Nat => some (hp402 i9))))))), ((hp402 0), .inl (T 0, 2880, .inl (fun j : Nat => iI (z0 j)))), ((hp402 1), .inl (T 0, 2880, .inl (fun j : Nat => iI (z0 j)))), ((hp402 2), .inl (T 0, 2880, .inl (fun j : Nat => iI (z0 j)))), ((hp402 3), .inl (T 0, 2880, .inl (fun j : Nat => iI (z0 j)))), ((hp402 4), .inl (T 0, 2880, .inl (fun j : Nat => iI (z0 j)))), ((hp402 5), .inl (T 0, 2880, .inl (fun j : Nat => iI (z0 j)))), ((hp402 6), .inl (T 0, 2880, .inl (fun j : Nat => iI (z0 j))))]) h hinit dX3_init_14 f_X3_init_13i p_X3_0 0 rfl rfl rfl (Nat.le_of_ble_eq_true rfl) rfl ?_
  refine j_aload_n h dX3_init_17 0 rfl rfl ?_
  refine j_iconst h dX3_init_18 ?_
  refine j_put (ws' := [(h3, .inr (3, [.ref q401, .int (iI 0), .int (iI 0)])), (q401, .inl (T 4, 7, .inr (.inr (.inr (.inr (fun i9 : Nat => some (hp402 i9))))))), ((hp402 0), .inl (T 0, 2880, .inl (fun j : Nat => iI (z0 j)))), ((hp402 1), .inl (T 0, 2880, .inl (fun j : Nat => iI (z0 j)))), ((hp402 2), .inl (T 0, 2880, .inl (fun j : Nat => iI (z0 j)))), ((hp402 3), .inl (T 0, 2880, .inl (fun j : Nat => iI (z0 j)))), ((hp402 4), .inl (T 0, 2880, .inl (fun j : Nat => iI (z0 j)))), ((hp402 5), .inl (T 0, 2880, .inl (fun j : Nat => iI (z0 j)))), ((hp402 6), .inl (T 0, 2880, .inl (fun j : Nat => iI (z0 j))))]) h dX3_init_19 f_X3_init_16 p_X3_1 0 rfl rfl rfl (Nat.le_of_ble_eq_true rfl) rfl ?_
  refine j_aload_n h dX3_init_22 0 rfl rfl ?_
  refine j_iconst h dX3_init_23 ?_
  refine j_put (ws' := [(h3, .inr (3, [.ref q401, .int (iI 0), .int (iI 0)])), (q401, .inl (T 4, 7, .inr (.inr (.inr (.inr (fun i9 : Nat => some (hp402 i9))))))), ((hp402 0), .inl (T 0, 2880, .inl (fun j : Nat => iI (z0 j)))), ((hp402 1), .inl (T 0, 2880, .inl (fun j : Nat => iI (z0 j)))), ((hp402 2), .inl (T 0, 2880, .inl (fun j : Nat => iI (z0 j)))), ((hp402 3), .inl (T 0, 2880, .inl (fun j : Nat => iI (z0 j)))), ((hp402 4), .inl (T 0, 2880, .inl (fun j : Nat => iI (z0 j)))), ((hp402 5), .inl (T 0, 2880, .inl (fun j : Nat => iI (z0 j)))), ((hp402 6), .inl (T 0, 2880, .inl (fun j : Nat => iI (z0 j))))]) h dX3_init_24 f_X3_init_20 p_X3_2 0 rfl rfl rfl (Nat.le_of_ble_eq_true rfl) rfl ?_
  exact hr _ _ _ dX3_init_27 ⟨q401, hp402, rfl⟩

