abbrev rmX1_takeOrder : Room := { frames := 1, cells := 0, slots := 0, locals := 22 }
theorem in_X1_takeOrder_X1 : ∀ w ∈ u_ws RX1 TX1 9, w ∈ wsX1_takeOrder := fun w hw => List.mem_cons_of_mem _ (List.mem_append_right _ (hw))
theorem f_X1_takeOrder_15 : FlOK RX1 15 wsX1_takeOrder 1 2 := ⟨_, _, _, rfl, by decide, in_X1_takeOrder_X1, List.mem_of_getElem? (i := 1) rfl⟩
theorem p_X1_2 : PuOK 1 2 false (.int) := ⟨_, _, _, tyX1, rfl, tyX1_ok, nmX1, rfl, rfl⟩
theorem f_X1_takeOrder_9 : FlOK RX1 9 wsX1_takeOrder 1 1 := ⟨_, _, _, rfl, by decide, in_X1_takeOrder_X1, List.mem_of_getElem? (i := 2) rfl⟩
set_option maxHeartbeats 600000 in
set_option maxRecDepth 100000 in
/-- whether a number is an order; it is taken then -/
theorem ct_X1_takeOrder (T : Nat → ClassId) (h1 : Nat) (h0 : Nat) (od : Nat) (w0 : Nat) (dq : Nat) (ol : Int) (pl : Int) (gr : Int) (le : Int) (mo : Int) (D : Int → Int) (o : Int) (ho : -2147483648 ≤ o ∧ o ≤ 2147483647) : CtI T yX1_takeOrder wsX1_takeOrder rmX1_takeOrder 0 0 [.ref h1, .int (iI o)] [(h1, .inr (1, [.ref h0, .ref od, .int (iI ol), .ref w0, .ref dq, .int (iI pl), .int (iI gr), .int (iI le), .int (iI mo)])), (od, .inl (T 0, 4, .inl (fun j : Nat => iI (D j))))] (fun r8 u => ∃ m1 : Int, ∃ Od1 : Int → Int, (ordG o = true → m1 = ordN o) ∧ (ordG o = true → ∀ k9 : Int, 0 ≤ k9 → k9 < ordN o → Od1 k9 = ordD o k9) ∧ r8 = (iI (bI (ordG o))) ∧ u = [(h1, .inr (1, [.ref h0, .ref od, .int (iI m1), .ref w0, .ref dq, .int (iI pl), .int (iI gr), .int (iI le), .int (iI mo)])), (od, .inl (T 0, 4, .inl (fun j : Nat => iI (Od1 j))))]) := by
  refine ctI_of (cc := cX1_takeOrder) (maxL := 4) (ret := (some .boolean)) (by decide +kernel) rfl rfl (fun r u hp => by obtain ⟨_, _, _, _, rfl, -⟩ := hp; exact nz_bool _) (Nat.le_of_ble_eq_true rfl) (fun X h hinit hr => ?_)
  refine j_eq (lv' := [(0, .ref h1), (1, .int (iI o))]) rfl rfl rfl rfl rfl rfl ?_
  refine j_iload_n h dX1_takeOrder_0 1 rfl rfl ?_
  refine j_iconst h dX1_takeOrder_1 ?_
  refine j_sipush h dX1_takeOrder_2 (by decide) ?_
  refine j_callSNi (As := [.int (iI o), .int (iI 1), .int (iI 7777)]) (wr := [(h1, .inr (1, [.ref h0, .ref od, .int (iI ol), .ref w0, .ref dq, .int (iI pl), .int (iI gr), .int (iI le), .int (iI mo)])), (od, .inl (T 0, 4, .inl (fun j : Nat => iI (D j))))]) (cells' := 0) (slots' := 0) h dX1_takeOrder_5 (ct_X11_within T o 1 7777 (by first | assumption | omega) (by first | assumption | omega) (by first | assumption | omega)) k_X11_within gX1_takeOrder_X11_within_n42 (List.mem_of_getElem? (i := 5) rfl) (List.mem_of_getElem? (i := 4) rfl) (List.mem_of_getElem? (i := 3) rfl) ⟨Nat.le_of_ble_eq_true rfl, Nat.le_of_ble_eq_true rfl⟩ rfl rfl (Nat.le_of_ble_eq_true rfl) ⟨Nat.le_of_ble_eq_true rfl, Nat.le_of_ble_eq_true rfl⟩ rfl rfl [] [0, 1] rfl rfl rfl rfl (by decide) (fun r9 u9 p401 => ?_)
  obtain ⟨rfl, rfl⟩ := p401
  refine j_eq (ws' := [(h1, .inr (1, [.ref h0, .ref od, .int (iI ol), .ref w0, .ref dq, .int (iI pl), .int (iI gr), .int (iI le), .int (iI mo)])), (od, .inl (T 0, 4, .inl (fun j : Nat => iI (D j))))]) rfl rfl rfl rfl rfl rfl ?_
  refine j_ifneB h 13 dX1_takeOrder_8 (by decide) (fun c402 => ?_) (fun c402 => ?_)
  · skip
    replace c402 := of_decide_eq_true c402
    refine j_aload_n h dX1_takeOrder_13 0 rfl rfl ?_
    refine j_iconst h dX1_takeOrder_14 ?_
    refine j_put (ws' := [(h1, .inr (1, [.ref h0, .ref od, .int (iI 0), .ref w0, .ref dq, .int (iI pl), .int (iI gr), .int (iI le), .int (iI mo)])), (od, .inl (T 0, 4, .inl (fun j : Nat => iI (D j))))]) h dX1_takeOrder_15 f_X1_takeOrder_15 p_X1_2 0 rfl rfl rfl (Nat.le_of_ble_eq_true rfl) rfl ?_
    refine j_sipush h dX1_takeOrder_18 (by decide) ?_
    refine j_istore_n (lv' := [(0, .ref h1), (1, .int (iI o)), (2, .int (iI 1000))]) h dX1_takeOrder_21 [1, 2, 0] rfl (by decide) rfl ?_
    refine j_iload_n h dX1_takeOrder_22 2 rfl rfl ?_
    refine j_if_le h 91 dX1_takeOrder_23 (by decide) (by omega) (fun c403 => ?_) (fun c403 => ?_)
    · skip
      exact absurd c403 (by decide)
    · skip
      refine j_iload_n h dX1_takeOrder_26 1 rfl rfl ?_
      refine j_iload_n h dX1_takeOrder_27 2 rfl rfl ?_
      refine j_idiv h dX1_takeOrder_28 (by omega) (by omega) ?_
      refine j_bipush h dX1_takeOrder_29 (by decide) ?_
      refine j_irem h dX1_takeOrder_31 (by omega) (by omega) ?_
      refine j_istore_n (lv' := [(0, .ref h1), (1, .int (iI o)), (2, .int (iI 1000)), (3, .int (iI ((o / 1000) % 10)))]) h dX1_takeOrder_32 [1, 2, 3, 0] rfl (by decide) rfl ?_
      refine j_iload_n h dX1_takeOrder_33 1 rfl rfl ?_
      refine j_iload_n h dX1_takeOrder_34 2 rfl rfl ?_
      refine j_icmp_lt h 50 dX1_takeOrder_35 (by decide) (by omega) (by omega) (fun c404 => ?_) (fun c404 => ?_)
      · skip
        refine j_iload_n h dX1_takeOrder_50 1 rfl rfl ?_
        refine j_iload_n h dX1_takeOrder_51 2 rfl rfl ?_
        refine j_icmp_lt h 83 dX1_takeOrder_52 (by decide) (by omega) (by omega) (fun c405 => ?_) (fun c405 => ?_)
        · skip
          refine j_iload_n h dX1_takeOrder_83 2 rfl rfl ?_
          refine j_bipush h dX1_takeOrder_84 (by decide) ?_
          refine j_idiv h dX1_takeOrder_86 (by omega) (by omega) ?_
          refine j_istore_n (lv' := [(0, .ref h1), (1, .int (iI o)), (2, .int (iI 100)), (3, .int (iI ((o / 1000) % 10)))]) h dX1_takeOrder_87 [1, 2, 0, 3] rfl (by decide) rfl ?_
          refine j_goto (tgt := 22) h dX1_takeOrder_88 (by decide) ?_
          refine j_iload_n h dX1_takeOrder_22 2 rfl rfl ?_
          refine j_if_le h 91 dX1_takeOrder_23 (by decide) (by omega) (fun c406 => ?_) (fun c406 => ?_)
          · skip
            exact absurd c406 (by decide)
          · skip
            refine j_iload_n h dX1_takeOrder_26 1 rfl rfl ?_
            refine j_iload_n h dX1_takeOrder_27 2 rfl rfl ?_
            refine j_idiv h dX1_takeOrder_28 (by omega) (by omega) ?_
            refine j_bipush h dX1_takeOrder_29 (by decide) ?_
            refine j_irem h dX1_takeOrder_31 (by omega) (by omega) ?_
            refine j_istore_n (lv' := [(0, .ref h1), (1, .int (iI o)), (2, .int (iI 100)), (3, .int (iI ((o / 100) % 10)))]) h dX1_takeOrder_32 [1, 2, 3, 0] rfl (by decide) rfl ?_
            refine j_iload_n h dX1_takeOrder_33 1 rfl rfl ?_
            refine j_iload_n h dX1_takeOrder_34 2 rfl rfl ?_
            refine j_icmp_lt h 50 dX1_takeOrder_35 (by decide) (by omega) (by omega) (fun c407 => ?_) (fun c407 => ?_)
            · skip
              refine j_iload_n h dX1_takeOrder_50 1 rfl rfl ?_
              refine j_iload_n h dX1_takeOrder_51 2 rfl rfl ?_
              refine j_icmp_lt h 83 dX1_takeOrder_52 (by decide) (by omega) (by omega) (fun c408 => ?_) (fun c408 => ?_)
              · skip
                refine j_iload_n h dX1_takeOrder_83 2 rfl rfl ?_
                refine j_bipush h dX1_takeOrder_84 (by decide) ?_
                refine j_idiv h dX1_takeOrder_86 (by omega) (by omega) ?_
                refine j_istore_n (lv' := [(0, .ref h1), (1, .int (iI o)), (2, .int (iI 10)), (3, .int (iI ((o / 100) % 10)))]) h dX1_takeOrder_87 [1, 2, 0, 3] rfl (by decide) rfl ?_
                refine j_goto (tgt := 22) h dX1_takeOrder_88 (by decide) ?_
                refine j_iload_n h dX1_takeOrder_22 2 rfl rfl ?_
                refine j_if_le h 91 dX1_takeOrder_23 (by decide) (by omega) (fun c409 => ?_) (fun c409 => ?_)
                · skip
                  exact absurd c409 (by decide)
                · skip
                  refine j_iload_n h dX1_takeOrder_26 1 rfl rfl ?_
                  refine j_iload_n h dX1_takeOrder_27 2 rfl rfl ?_
                  refine j_idiv h dX1_takeOrder_28 (by omega) (by omega) ?_
                  refine j_bipush h dX1_takeOrder_29 (by decide) ?_
                  refine j_irem h dX1_takeOrder_31 (by omega) (by omega) ?_
                  refine j_istore_n (lv' := [(0, .ref h1), (1, .int (iI o)), (2, .int (iI 10)), (3, .int (iI ((o / 10) % 10)))]) h dX1_takeOrder_32 [1, 2, 3, 0] rfl (by decide) rfl ?_
                  refine j_iload_n h dX1_takeOrder_33 1 rfl rfl ?_
                  refine j_iload_n h dX1_takeOrder_34 2 rfl rfl ?_
                  refine j_icmp_lt h 50 dX1_takeOrder_35 (by decide) (by omega) (by omega) (fun c410 => ?_) (fun c410 => ?_)
                  · skip
                    refine j_iload_n h dX1_takeOrder_50 1 rfl rfl ?_
                    refine j_iload_n h dX1_takeOrder_51 2 rfl rfl ?_
                    refine j_icmp_lt h 83 dX1_takeOrder_52 (by decide) (by omega) (by omega) (fun c411 => ?_) (fun c411 => ?_)
                    · skip
                      refine j_iload_n h dX1_takeOrder_83 2 rfl rfl ?_
                      refine j_bipush h dX1_takeOrder_84 (by decide) ?_
                      refine j_idiv h dX1_takeOrder_86 (by omega) (by omega) ?_
                      refine j_istore_n (lv' := [(0, .ref h1), (1, .int (iI o)), (2, .int (iI 1)), (3, .int (iI ((o / 10) % 10)))]) h dX1_takeOrder_87 [1, 2, 0, 3] rfl (by decide) rfl ?_
                      refine j_goto (tgt := 22) h dX1_takeOrder_88 (by decide) ?_
                      refine j_iload_n h dX1_takeOrder_22 2 rfl rfl ?_
                      refine j_if_le h 91 dX1_takeOrder_23 (by decide) (by omega) (fun c412 => ?_) (fun c412 => ?_)
                      · skip
                        exact absurd c412 (by decide)
                      · skip
                        refine j_iload_n h dX1_takeOrder_26 1 rfl rfl ?_
                        refine j_iload_n h dX1_takeOrder_27 2 rfl rfl ?_
                        refine j_idiv h dX1_takeOrder_28 (by omega) (by omega) ?_
                        refine j_bipush h dX1_takeOrder_29 (by decide) ?_
                        refine j_irem h dX1_takeOrder_31 (by omega) (by omega) ?_
                        refine j_istore_n (lv' := [(0, .ref h1), (1, .int (iI o)), (2, .int (iI 1)), (3, .int (iI ((o / 1) % 10)))]) h dX1_takeOrder_32 [1, 2, 3, 0] rfl (by decide) rfl ?_
                        refine j_iload_n h dX1_takeOrder_33 1 rfl rfl ?_
                        refine j_iload_n h dX1_takeOrder_34 2 rfl rfl ?_
                        refine j_icmp_lt h 50 dX1_takeOrder_35 (by decide) (by omega) (by omega) (fun c413 => ?_) (fun c413 => ?_)
                        · skip
                          refine j_iload_n h dX1_takeOrder_50 1 rfl rfl ?_
                          refine j_iload_n h dX1_takeOrder_51 2 rfl rfl ?_
                          refine j_icmp_lt h 83 dX1_takeOrder_52 (by decide) (by omega) (by omega) (fun c414 => ?_) (fun c414 => ?_)
                          · skip
                            refine j_iload_n h dX1_takeOrder_83 2 rfl rfl ?_
                            refine j_bipush h dX1_takeOrder_84 (by decide) ?_
                            refine j_idiv h dX1_takeOrder_86 (by omega) (by omega) ?_
                            refine j_istore_n (lv' := [(0, .ref h1), (1, .int (iI o)), (2, .int (iI 0)), (3, .int (iI ((o / 1) % 10)))]) h dX1_takeOrder_87 [1, 2, 0, 3] rfl (by decide) rfl ?_
                            refine j_goto (tgt := 22) h dX1_takeOrder_88 (by decide) ?_
                            refine j_iload_n h dX1_takeOrder_22 2 rfl rfl ?_
                            refine j_if_le h 91 dX1_takeOrder_23 (by decide) (by omega) (fun c415 => ?_) (fun c415 => ?_)
                            · skip
                              refine j_iconst h dX1_takeOrder_91 ?_
                              exact hr _ _ _ _ dX1_takeOrder_92 ⟨0, D, (by intro q9; have q8 := ordG_t q9; unfold dg7 at q8; first | omega | (rw [ordN_1 (by omega)]; done) | (rw [ordN_2 (by omega)]; done) | (rw [ordN_3 (by omega)]; done) | (rw [ordN_4 (by omega)]; done)), (by first | (intro q9; exfalso; have q8 := ordG_t q9; unfold dg7 at q8; omega) | (exact fun _ => odF_1 (ordN_1 (by omega)) (by simp [upI]; try omega)) | (exact fun _ => odF_2 (ordN_2 (by omega)) (by simp [upI]; try omega) (by simp [upI]; try omega)) | (exact fun _ => odF_3 (ordN_3 (by omega)) (by simp [upI]; try omega) (by simp [upI]; try omega) (by simp [upI]; try omega)) | (exact fun _ => odF_4 (ordN_4 (by omega)) (by simp [upI]; try omega) (by simp [upI]; try omega) (by simp [upI]; try omega) (by simp [upI]; try omega))), (congrArg (fun b9 => iI (bI b9)) (show true = (ordG o) by symm; unfold ordG dg7; first | (apply decide_eq_false; omega) | (apply decide_eq_true; omega))), rfl⟩
                            · skip
                              exact absurd c415 (by decide)
                          · skip
                            exact absurd c414 (by omega)
                        · skip
                          refine j_iload_n h dX1_takeOrder_38 3 rfl rfl ?_
                          refine j_iconst h dX1_takeOrder_39 ?_
                          refine j_bipush h dX1_takeOrder_40 (by decide) ?_
                          refine j_callSNi (As := [.int (iI ((o / 1) % 10)), .int (iI 1), .int (iI 7)]) (wr := [(h1, .inr (1, [.ref h0, .ref od, .int (iI 0), .ref w0, .ref dq, .int (iI pl), .int (iI gr), .int (iI le), .int (iI mo)])), (od, .inl (T 0, 4, .inl (fun j : Nat => iI (D j))))]) (cells' := 0) (slots' := 0) h dX1_takeOrder_42 (ct_X11_within T ((o / 1) % 10) 1 7 (by first | assumption | omega) (by first | assumption | omega) (by first | assumption | omega)) k_X11_within gX1_takeOrder_X11_within_n42 (List.mem_of_getElem? (i := 5) rfl) (List.mem_of_getElem? (i := 4) rfl) (List.mem_of_getElem? (i := 3) rfl) ⟨Nat.le_of_ble_eq_true rfl, Nat.le_of_ble_eq_true rfl⟩ rfl rfl (Nat.le_of_ble_eq_true rfl) ⟨Nat.le_of_ble_eq_true rfl, Nat.le_of_ble_eq_true rfl⟩ rfl rfl [] [0, 1] rfl rfl rfl rfl (by decide) (fun r9 u9 p416 => ?_)
                          obtain ⟨rfl, rfl⟩ := p416
                          refine j_eq (ws' := [(h1, .inr (1, [.ref h0, .ref od, .int (iI 0), .ref w0, .ref dq, .int (iI pl), .int (iI gr), .int (iI le), .int (iI mo)])), (od, .inl (T 0, 4, .inl (fun j : Nat => iI (D j))))]) rfl rfl rfl rfl rfl rfl ?_
                          refine j_ifneB h 50 dX1_takeOrder_45 (by decide) (fun c417 => ?_) (fun c417 => ?_)
                          · skip
                            replace c417 := of_decide_eq_true c417
                            refine j_iload_n h dX1_takeOrder_50 1 rfl rfl ?_
                            refine j_iload_n h dX1_takeOrder_51 2 rfl rfl ?_
                            refine j_icmp_lt h 83 dX1_takeOrder_52 (by decide) (by omega) (by omega) (fun c418 => ?_) (fun c418 => ?_)
                            · skip
                              exact absurd c418 (by omega)
                            · skip
                              refine j_aload_n h dX1_takeOrder_55 0 rfl rfl ?_
                              refine j_get h dX1_takeOrder_56 f_X1_takeOrder_15 0 rfl rfl ?_
                              refine j_iconst h dX1_takeOrder_59 ?_
                              refine j_icmp_ge h 83 dX1_takeOrder_60 (by decide) (by omega) (by omega) (fun c419 => ?_) (fun c419 => ?_)
                              · skip
                                exact absurd c419 (by decide)
                              · skip
                                refine j_aload_n h dX1_takeOrder_63 0 rfl rfl ?_
                                refine j_get h dX1_takeOrder_64 f_X1_takeOrder_9 0 rfl rfl ?_
                                refine j_aload_n h dX1_takeOrder_67 0 rfl rfl ?_
                                refine j_get h dX1_takeOrder_68 f_X1_takeOrder_15 0 rfl rfl ?_
                                refine j_iload_n h dX1_takeOrder_71 3 rfl rfl ?_
                                refine j_iast (f := D) (ws' := [(h1, .inr (1, [.ref h0, .ref od, .int (iI 0), .ref w0, .ref dq, .int (iI pl), .int (iI gr), .int (iI le), .int (iI mo)])), (od, .inl (T 0, 4, .inl (fun j : Nat => iI ((upI D 0 ((o / 1) % 10)) j))))]) h 0 dX1_takeOrder_72 1 rfl (by decide) (by omega) (by omega) rfl ?_
                                refine j_aload_n h dX1_takeOrder_73 0 rfl rfl ?_
                                refine j_dup h dX1_takeOrder_74 rfl ?_
                                refine j_get h dX1_takeOrder_75 f_X1_takeOrder_15 0 rfl rfl ?_
                                refine j_iconst h dX1_takeOrder_78 ?_
                                refine j_iadd h dX1_takeOrder_79 ?_
                                refine j_put (ws' := [(h1, .inr (1, [.ref h0, .ref od, .int (iI 1), .ref w0, .ref dq, .int (iI pl), .int (iI gr), .int (iI le), .int (iI mo)])), (od, .inl (T 0, 4, .inl (fun j : Nat => iI ((upI D 0 ((o / 1) % 10)) j))))]) h dX1_takeOrder_80 f_X1_takeOrder_15 p_X1_2 0 rfl rfl rfl (Nat.le_of_ble_eq_true rfl) rfl ?_
                                refine j_iload_n h dX1_takeOrder_83 2 rfl rfl ?_
                                refine j_bipush h dX1_takeOrder_84 (by decide) ?_
                                refine j_idiv h dX1_takeOrder_86 (by omega) (by omega) ?_
                                refine j_istore_n (lv' := [(0, .ref h1), (1, .int (iI o)), (2, .int (iI 0)), (3, .int (iI ((o / 1) % 10)))]) h dX1_takeOrder_87 [1, 2, 0, 3] rfl (by decide) rfl ?_
                                refine j_goto (tgt := 22) h dX1_takeOrder_88 (by decide) ?_
                                refine j_iload_n h dX1_takeOrder_22 2 rfl rfl ?_
                                refine j_if_le h 91 dX1_takeOrder_23 (by decide) (by omega) (fun c420 => ?_) (fun c420 => ?_)
                                · skip
                                  refine j_iconst h dX1_takeOrder_91 ?_
                                  exact hr _ _ _ _ dX1_takeOrder_92 ⟨1, (upI D 0 ((o / 1) % 10)), (by intro q9; have q8 := ordG_t q9; unfold dg7 at q8; first | omega | (rw [ordN_1 (by omega)]; done) | (rw [ordN_2 (by omega)]; done) | (rw [ordN_3 (by omega)]; done) | (rw [ordN_4 (by omega)]; done)), (by first | (intro q9; exfalso; have q8 := ordG_t q9; unfold dg7 at q8; omega) | (exact fun _ => odF_1 (ordN_1 (by omega)) (by simp [upI]; try omega)) | (exact fun _ => odF_2 (ordN_2 (by omega)) (by simp [upI]; try omega) (by simp [upI]; try omega)) | (exact fun _ => odF_3 (ordN_3 (by omega)) (by simp [upI]; try omega) (by simp [upI]; try omega) (by simp [upI]; try omega)) | (exact fun _ => odF_4 (ordN_4 (by omega)) (by simp [upI]; try omega) (by simp [upI]; try omega) (by simp [upI]; try omega) (by simp [upI]; try omega))), (congrArg (fun b9 => iI (bI b9)) (show true = (ordG o) by symm; unfold ordG dg7; first | (apply decide_eq_false; omega) | (apply decide_eq_true; omega))), rfl⟩
                                · skip
                                  exact absurd c420 (by decide)
                          · skip
                            replace c417 := of_decide_eq_false c417
                            refine j_iconst h dX1_takeOrder_48 ?_
                            exact hr _ _ _ _ dX1_takeOrder_49 ⟨0, D, (by intro q9; have q8 := ordG_t q9; unfold dg7 at q8; first | omega | (rw [ordN_1 (by omega)]; done) | (rw [ordN_2 (by omega)]; done) | (rw [ordN_3 (by omega)]; done) | (rw [ordN_4 (by omega)]; done)), (by first | (intro q9; exfalso; have q8 := ordG_t q9; unfold dg7 at q8; omega) | (exact fun _ => odF_1 (ordN_1 (by omega)) (by simp [upI]; try omega)) | (exact fun _ => odF_2 (ordN_2 (by omega)) (by simp [upI]; try omega) (by simp [upI]; try omega)) | (exact fun _ => odF_3 (ordN_3 (by omega)) (by simp [upI]; try omega) (by simp [upI]; try omega) (by simp [upI]; try omega)) | (exact fun _ => odF_4 (ordN_4 (by omega)) (by simp [upI]; try omega) (by simp [upI]; try omega) (by simp [upI]; try omega) (by simp [upI]; try omega))), (congrArg (fun b9 => iI (bI b9)) (show false = (ordG o) by symm; unfold ordG dg7; first | (apply decide_eq_false; omega) | (apply decide_eq_true; omega))), rfl⟩
                    · skip
                      exact absurd c411 (by omega)
                  · skip
                    refine j_iload_n h dX1_takeOrder_38 3 rfl rfl ?_
                    refine j_iconst h dX1_takeOrder_39 ?_
                    refine j_bipush h dX1_takeOrder_40 (by decide) ?_
                    refine j_callSNi (As := [.int (iI ((o / 10) % 10)), .int (iI 1), .int (iI 7)]) (wr := [(h1, .inr (1, [.ref h0, .ref od, .int (iI 0), .ref w0, .ref dq, .int (iI pl), .int (iI gr), .int (iI le), .int (iI mo)])), (od, .inl (T 0, 4, .inl (fun j : Nat => iI (D j))))]) (cells' := 0) (slots' := 0) h dX1_takeOrder_42 (ct_X11_within T ((o / 10) % 10) 1 7 (by first | assumption | omega) (by first | assumption | omega) (by first | assumption | omega)) k_X11_within gX1_takeOrder_X11_within_n42 (List.mem_of_getElem? (i := 5) rfl) (List.mem_of_getElem? (i := 4) rfl) (List.mem_of_getElem? (i := 3) rfl) ⟨Nat.le_of_ble_eq_true rfl, Nat.le_of_ble_eq_true rfl⟩ rfl rfl (Nat.le_of_ble_eq_true rfl) ⟨Nat.le_of_ble_eq_true rfl, Nat.le_of_ble_eq_true rfl⟩ rfl rfl [] [0, 1] rfl rfl rfl rfl (by decide) (fun r9 u9 p421 => ?_)
                    obtain ⟨rfl, rfl⟩ := p421
                    refine j_eq (ws' := [(h1, .inr (1, [.ref h0, .ref od, .int (iI 0), .ref w0, .ref dq, .int (iI pl), .int (iI gr), .int (iI le), .int (iI mo)])), (od, .inl (T 0, 4, .inl (fun j : Nat => iI (D j))))]) rfl rfl rfl rfl rfl rfl ?_
                    refine j_ifneB h 50 dX1_takeOrder_45 (by decide) (fun c422 => ?_) (fun c422 => ?_)
                    · skip
                      replace c422 := of_decide_eq_true c422
                      refine j_iload_n h dX1_takeOrder_50 1 rfl rfl ?_
                      refine j_iload_n h dX1_takeOrder_51 2 rfl rfl ?_
                      refine j_icmp_lt h 83 dX1_takeOrder_52 (by decide) (by omega) (by omega) (fun c423 => ?_) (fun c423 => ?_)
                      · skip
                        exact absurd c423 (by omega)
                      · skip
                        refine j_aload_n h dX1_takeOrder_55 0 rfl rfl ?_
                        refine j_get h dX1_takeOrder_56 f_X1_takeOrder_15 0 rfl rfl ?_
                        refine j_iconst h dX1_takeOrder_59 ?_
                        refine j_icmp_ge h 83 dX1_takeOrder_60 (by decide) (by omega) (by omega) (fun c424 => ?_) (fun c424 => ?_)
                        · skip
                          exact absurd c424 (by decide)
                        · skip
                          refine j_aload_n h dX1_takeOrder_63 0 rfl rfl ?_
                          refine j_get h dX1_takeOrder_64 f_X1_takeOrder_9 0 rfl rfl ?_
                          refine j_aload_n h dX1_takeOrder_67 0 rfl rfl ?_
                          refine j_get h dX1_takeOrder_68 f_X1_takeOrder_15 0 rfl rfl ?_
                          refine j_iload_n h dX1_takeOrder_71 3 rfl rfl ?_
                          refine j_iast (f := D) (ws' := [(h1, .inr (1, [.ref h0, .ref od, .int (iI 0), .ref w0, .ref dq, .int (iI pl), .int (iI gr), .int (iI le), .int (iI mo)])), (od, .inl (T 0, 4, .inl (fun j : Nat => iI ((upI D 0 ((o / 10) % 10)) j))))]) h 0 dX1_takeOrder_72 1 rfl (by decide) (by omega) (by omega) rfl ?_
                          refine j_aload_n h dX1_takeOrder_73 0 rfl rfl ?_
                          refine j_dup h dX1_takeOrder_74 rfl ?_
                          refine j_get h dX1_takeOrder_75 f_X1_takeOrder_15 0 rfl rfl ?_
                          refine j_iconst h dX1_takeOrder_78 ?_
                          refine j_iadd h dX1_takeOrder_79 ?_
                          refine j_put (ws' := [(h1, .inr (1, [.ref h0, .ref od, .int (iI 1), .ref w0, .ref dq, .int (iI pl), .int (iI gr), .int (iI le), .int (iI mo)])), (od, .inl (T 0, 4, .inl (fun j : Nat => iI ((upI D 0 ((o / 10) % 10)) j))))]) h dX1_takeOrder_80 f_X1_takeOrder_15 p_X1_2 0 rfl rfl rfl (Nat.le_of_ble_eq_true rfl) rfl ?_
                          refine j_iload_n h dX1_takeOrder_83 2 rfl rfl ?_
                          refine j_bipush h dX1_takeOrder_84 (by decide) ?_
                          refine j_idiv h dX1_takeOrder_86 (by omega) (by omega) ?_
                          refine j_istore_n (lv' := [(0, .ref h1), (1, .int (iI o)), (2, .int (iI 1)), (3, .int (iI ((o / 10) % 10)))]) h dX1_takeOrder_87 [1, 2, 0, 3] rfl (by decide) rfl ?_
                          refine j_goto (tgt := 22) h dX1_takeOrder_88 (by decide) ?_
                          refine j_iload_n h dX1_takeOrder_22 2 rfl rfl ?_
                          refine j_if_le h 91 dX1_takeOrder_23 (by decide) (by omega) (fun c425 => ?_) (fun c425 => ?_)
                          · skip
                            exact absurd c425 (by decide)
                          · skip
                            refine j_iload_n h dX1_takeOrder_26 1 rfl rfl ?_
                            refine j_iload_n h dX1_takeOrder_27 2 rfl rfl ?_
                            refine j_idiv h dX1_takeOrder_28 (by omega) (by omega) ?_
                            refine j_bipush h dX1_takeOrder_29 (by decide) ?_
                            refine j_irem h dX1_takeOrder_31 (by omega) (by omega) ?_
                            refine j_istore_n (lv' := [(0, .ref h1), (1, .int (iI o)), (2, .int (iI 1)), (3, .int (iI ((o / 1) % 10)))]) h dX1_takeOrder_32 [1, 2, 3, 0] rfl (by decide) rfl ?_
                            refine j_iload_n h dX1_takeOrder_33 1 rfl rfl ?_
                            refine j_iload_n h dX1_takeOrder_34 2 rfl rfl ?_
                            refine j_icmp_lt h 50 dX1_takeOrder_35 (by decide) (by omega) (by omega) (fun c426 => ?_) (fun c426 => ?_)
                            · skip
                              exact absurd c426 (by omega)
                            · skip
                              refine j_iload_n h dX1_takeOrder_38 3 rfl rfl ?_
                              refine j_iconst h dX1_takeOrder_39 ?_
                              refine j_bipush h dX1_takeOrder_40 (by decide) ?_
                              refine j_callSNi (As := [.int (iI ((o / 1) % 10)), .int (iI 1), .int (iI 7)]) (wr := [(h1, .inr (1, [.ref h0, .ref od, .int (iI 1), .ref w0, .ref dq, .int (iI pl), .int (iI gr), .int (iI le), .int (iI mo)])), (od, .inl (T 0, 4, .inl (fun j : Nat => iI ((upI D 0 ((o / 10) % 10)) j))))]) (cells' := 0) (slots' := 0) h dX1_takeOrder_42 (ct_X11_within T ((o / 1) % 10) 1 7 (by first | assumption | omega) (by first | assumption | omega) (by first | assumption | omega)) k_X11_within gX1_takeOrder_X11_within_n42 (List.mem_of_getElem? (i := 5) rfl) (List.mem_of_getElem? (i := 4) rfl) (List.mem_of_getElem? (i := 3) rfl) ⟨Nat.le_of_ble_eq_true rfl, Nat.le_of_ble_eq_true rfl⟩ rfl rfl (Nat.le_of_ble_eq_true rfl) ⟨Nat.le_of_ble_eq_true rfl, Nat.le_of_ble_eq_true rfl⟩ rfl rfl [] [0, 1] rfl rfl rfl rfl (by decide) (fun r9 u9 p427 => ?_)
                              obtain ⟨rfl, rfl⟩ := p427
                              refine j_eq (ws' := [(h1, .inr (1, [.ref h0, .ref od, .int (iI 1), .ref w0, .ref dq, .int (iI pl), .int (iI gr), .int (iI le), .int (iI mo)])), (od, .inl (T 0, 4, .inl (fun j : Nat => iI ((upI D 0 ((o / 10) % 10)) j))))]) rfl rfl rfl rfl rfl rfl ?_
                              refine j_ifneB h 50 dX1_takeOrder_45 (by decide) (fun c428 => ?_) (fun c428 => ?_)
                              · skip
                                replace c428 := of_decide_eq_true c428
                                refine j_iload_n h dX1_takeOrder_50 1 rfl rfl ?_
                                refine j_iload_n h dX1_takeOrder_51 2 rfl rfl ?_
                                refine j_icmp_lt h 83 dX1_takeOrder_52 (by decide) (by omega) (by omega) (fun c429 => ?_) (fun c429 => ?_)
                                · skip
                                  exact absurd c429 (by omega)
                                · skip
                                  refine j_aload_n h dX1_takeOrder_55 0 rfl rfl ?_
                                  refine j_get h dX1_takeOrder_56 f_X1_takeOrder_15 0 rfl rfl ?_
                                  refine j_iconst h dX1_takeOrder_59 ?_
                                  refine j_icmp_ge h 83 dX1_takeOrder_60 (by decide) (by omega) (by omega) (fun c430 => ?_) (fun c430 => ?_)
                                  · skip
                                    exact absurd c430 (by decide)
                                  · skip
                                    refine j_aload_n h dX1_takeOrder_63 0 rfl rfl ?_
                                    refine j_get h dX1_takeOrder_64 f_X1_takeOrder_9 0 rfl rfl ?_
                                    refine j_aload_n h dX1_takeOrder_67 0 rfl rfl ?_
                                    refine j_get h dX1_takeOrder_68 f_X1_takeOrder_15 0 rfl rfl ?_
                                    refine j_iload_n h dX1_takeOrder_71 3 rfl rfl ?_
                                    refine j_iast (f := (upI D 0 ((o / 10) % 10))) (ws' := [(h1, .inr (1, [.ref h0, .ref od, .int (iI 1), .ref w0, .ref dq, .int (iI pl), .int (iI gr), .int (iI le), .int (iI mo)])), (od, .inl (T 0, 4, .inl (fun j : Nat => iI ((upI (upI D 0 ((o / 10) % 10)) 1 ((o / 1) % 10)) j))))]) h 1 dX1_takeOrder_72 1 rfl (by decide) (by omega) (by omega) rfl ?_
                                    refine j_aload_n h dX1_takeOrder_73 0 rfl rfl ?_
                                    refine j_dup h dX1_takeOrder_74 rfl ?_
                                    refine j_get h dX1_takeOrder_75 f_X1_takeOrder_15 0 rfl rfl ?_
                                    refine j_iconst h dX1_takeOrder_78 ?_
                                    refine j_iadd h dX1_takeOrder_79 ?_
                                    refine j_put (ws' := [(h1, .inr (1, [.ref h0, .ref od, .int (iI 2), .ref w0, .ref dq, .int (iI pl), .int (iI gr), .int (iI le), .int (iI mo)])), (od, .inl (T 0, 4, .inl (fun j : Nat => iI ((upI (upI D 0 ((o / 10) % 10)) 1 ((o / 1) % 10)) j))))]) h dX1_takeOrder_80 f_X1_takeOrder_15 p_X1_2 0 rfl rfl rfl (Nat.le_of_ble_eq_true rfl) rfl ?_
                                    refine j_iload_n h dX1_takeOrder_83 2 rfl rfl ?_
                                    refine j_bipush h dX1_takeOrder_84 (by decide) ?_
                                    refine j_idiv h dX1_takeOrder_86 (by omega) (by omega) ?_
                                    refine j_istore_n (lv' := [(0, .ref h1), (1, .int (iI o)), (2, .int (iI 0)), (3, .int (iI ((o / 1) % 10)))]) h dX1_takeOrder_87 [1, 2, 0, 3] rfl (by decide) rfl ?_
                                    refine j_goto (tgt := 22) h dX1_takeOrder_88 (by decide) ?_
                                    refine j_iload_n h dX1_takeOrder_22 2 rfl rfl ?_
                                    refine j_if_le h 91 dX1_takeOrder_23 (by decide) (by omega) (fun c431 => ?_) (fun c431 => ?_)
                                    · skip
                                      refine j_iconst h dX1_takeOrder_91 ?_
                                      exact hr _ _ _ _ dX1_takeOrder_92 ⟨2, (upI (upI D 0 ((o / 10) % 10)) 1 ((o / 1) % 10)), (by intro q9; have q8 := ordG_t q9; unfold dg7 at q8; first | omega | (rw [ordN_1 (by omega)]; done) | (rw [ordN_2 (by omega)]; done) | (rw [ordN_3 (by omega)]; done) | (rw [ordN_4 (by omega)]; done)), (by first | (intro q9; exfalso; have q8 := ordG_t q9; unfold dg7 at q8; omega) | (exact fun _ => odF_1 (ordN_1 (by omega)) (by simp [upI]; try omega)) | (exact fun _ => odF_2 (ordN_2 (by omega)) (by simp [upI]; try omega) (by simp [upI]; try omega)) | (exact fun _ => odF_3 (ordN_3 (by omega)) (by simp [upI]; try omega) (by simp [upI]; try omega) (by simp [upI]; try omega)) | (exact fun _ => odF_4 (ordN_4 (by omega)) (by simp [upI]; try omega) (by simp [upI]; try omega) (by simp [upI]; try omega) (by simp [upI]; try omega))), (congrArg (fun b9 => iI (bI b9)) (show true = (ordG o) by symm; unfold ordG dg7; first | (apply decide_eq_false; omega) | (apply decide_eq_true; omega))), rfl⟩
                                    · skip
                                      exact absurd c431 (by decide)
                              · skip
                                replace c428 := of_decide_eq_false c428
                                refine j_iconst h dX1_takeOrder_48 ?_
                                exact hr _ _ _ _ dX1_takeOrder_49 ⟨1, (upI D 0 ((o / 10) % 10)), (by intro q9; have q8 := ordG_t q9; unfold dg7 at q8; first | omega | (rw [ordN_1 (by omega)]; done) | (rw [ordN_2 (by omega)]; done) | (rw [ordN_3 (by omega)]; done) | (rw [ordN_4 (by omega)]; done)), (by first | (intro q9; exfalso; have q8 := ordG_t q9; unfold dg7 at q8; omega) | (exact fun _ => odF_1 (ordN_1 (by omega)) (by simp [upI]; try omega)) | (exact fun _ => odF_2 (ordN_2 (by omega)) (by simp [upI]; try omega) (by simp [upI]; try omega)) | (exact fun _ => odF_3 (ordN_3 (by omega)) (by simp [upI]; try omega) (by simp [upI]; try omega) (by simp [upI]; try omega)) | (exact fun _ => odF_4 (ordN_4 (by omega)) (by simp [upI]; try omega) (by simp [upI]; try omega) (by simp [upI]; try omega) (by simp [upI]; try omega))), (congrArg (fun b9 => iI (bI b9)) (show false = (ordG o) by symm; unfold ordG dg7; first | (apply decide_eq_false; omega) | (apply decide_eq_true; omega))), rfl⟩
                    · skip
                      replace c422 := of_decide_eq_false c422
                      refine j_iconst h dX1_takeOrder_48 ?_
                      exact hr _ _ _ _ dX1_takeOrder_49 ⟨0, D, (by intro q9; have q8 := ordG_t q9; unfold dg7 at q8; first | omega | (rw [ordN_1 (by omega)]; done) | (rw [ordN_2 (by omega)]; done) | (rw [ordN_3 (by omega)]; done) | (rw [ordN_4 (by omega)]; done)), (by first | (intro q9; exfalso; have q8 := ordG_t q9; unfold dg7 at q8; omega) | (exact fun _ => odF_1 (ordN_1 (by omega)) (by simp [upI]; try omega)) | (exact fun _ => odF_2 (ordN_2 (by omega)) (by simp [upI]; try omega) (by simp [upI]; try omega)) | (exact fun _ => odF_3 (ordN_3 (by omega)) (by simp [upI]; try omega) (by simp [upI]; try omega) (by simp [upI]; try omega)) | (exact fun _ => odF_4 (ordN_4 (by omega)) (by simp [upI]; try omega) (by simp [upI]; try omega) (by simp [upI]; try omega) (by simp [upI]; try omega))), (congrArg (fun b9 => iI (bI b9)) (show false = (ordG o) by symm; unfold ordG dg7; first | (apply decide_eq_false; omega) | (apply decide_eq_true; omega))), rfl⟩
              · skip
                exact absurd c408 (by omega)
            · skip
              refine j_iload_n h dX1_takeOrder_38 3 rfl rfl ?_
              refine j_iconst h dX1_takeOrder_39 ?_
              refine j_bipush h dX1_takeOrder_40 (by decide) ?_
              refine j_callSNi (As := [.int (iI ((o / 100) % 10)), .int (iI 1), .int (iI 7)]) (wr := [(h1, .inr (1, [.ref h0, .ref od, .int (iI 0), .ref w0, .ref dq, .int (iI pl), .int (iI gr), .int (iI le), .int (iI mo)])), (od, .inl (T 0, 4, .inl (fun j : Nat => iI (D j))))]) (cells' := 0) (slots' := 0) h dX1_takeOrder_42 (ct_X11_within T ((o / 100) % 10) 1 7 (by first | assumption | omega) (by first | assumption | omega) (by first | assumption | omega)) k_X11_within gX1_takeOrder_X11_within_n42 (List.mem_of_getElem? (i := 5) rfl) (List.mem_of_getElem? (i := 4) rfl) (List.mem_of_getElem? (i := 3) rfl) ⟨Nat.le_of_ble_eq_true rfl, Nat.le_of_ble_eq_true rfl⟩ rfl rfl (Nat.le_of_ble_eq_true rfl) ⟨Nat.le_of_ble_eq_true rfl, Nat.le_of_ble_eq_true rfl⟩ rfl rfl [] [0, 1] rfl rfl rfl rfl (by decide) (fun r9 u9 p432 => ?_)
              obtain ⟨rfl, rfl⟩ := p432
              refine j_eq (ws' := [(h1, .inr (1, [.ref h0, .ref od, .int (iI 0), .ref w0, .ref dq, .int (iI pl), .int (iI gr), .int (iI le), .int (iI mo)])), (od, .inl (T 0, 4, .inl (fun j : Nat => iI (D j))))]) rfl rfl rfl rfl rfl rfl ?_
              refine j_ifneB h 50 dX1_takeOrder_45 (by decide) (fun c433 => ?_) (fun c433 => ?_)
              · skip
                replace c433 := of_decide_eq_true c433
                refine j_iload_n h dX1_takeOrder_50 1 rfl rfl ?_
                refine j_iload_n h dX1_takeOrder_51 2 rfl rfl ?_
                refine j_icmp_lt h 83 dX1_takeOrder_52 (by decide) (by omega) (by omega) (fun c434 => ?_) (fun c434 => ?_)
                · skip
                  exact absurd c434 (by omega)
                · skip
                  refine j_aload_n h dX1_takeOrder_55 0 rfl rfl ?_
                  refine j_get h dX1_takeOrder_56 f_X1_takeOrder_15 0 rfl rfl ?_
                  refine j_iconst h dX1_takeOrder_59 ?_
                  refine j_icmp_ge h 83 dX1_takeOrder_60 (by decide) (by omega) (by omega) (fun c435 => ?_) (fun c435 => ?_)
                  · skip
                    exact absurd c435 (by decide)
                  · skip
                    refine j_aload_n h dX1_takeOrder_63 0 rfl rfl ?_
                    refine j_get h dX1_takeOrder_64 f_X1_takeOrder_9 0 rfl rfl ?_
                    refine j_aload_n h dX1_takeOrder_67 0 rfl rfl ?_
                    refine j_get h dX1_takeOrder_68 f_X1_takeOrder_15 0 rfl rfl ?_
                    refine j_iload_n h dX1_takeOrder_71 3 rfl rfl ?_
                    refine j_iast (f := D) (ws' := [(h1, .inr (1, [.ref h0, .ref od, .int (iI 0), .ref w0, .ref dq, .int (iI pl), .int (iI gr), .int (iI le), .int (iI mo)])), (od, .inl (T 0, 4, .inl (fun j : Nat => iI ((upI D 0 ((o / 100) % 10)) j))))]) h 0 dX1_takeOrder_72 1 rfl (by decide) (by omega) (by omega) rfl ?_
                    refine j_aload_n h dX1_takeOrder_73 0 rfl rfl ?_
                    refine j_dup h dX1_takeOrder_74 rfl ?_
                    refine j_get h dX1_takeOrder_75 f_X1_takeOrder_15 0 rfl rfl ?_
                    refine j_iconst h dX1_takeOrder_78 ?_
                    refine j_iadd h dX1_takeOrder_79 ?_
                    refine j_put (ws' := [(h1, .inr (1, [.ref h0, .ref od, .int (iI 1), .ref w0, .ref dq, .int (iI pl), .int (iI gr), .int (iI le), .int (iI mo)])), (od, .inl (T 0, 4, .inl (fun j : Nat => iI ((upI D 0 ((o / 100) % 10)) j))))]) h dX1_takeOrder_80 f_X1_takeOrder_15 p_X1_2 0 rfl rfl rfl (Nat.le_of_ble_eq_true rfl) rfl ?_
                    refine j_iload_n h dX1_takeOrder_83 2 rfl rfl ?_
                    refine j_bipush h dX1_takeOrder_84 (by decide) ?_
                    refine j_idiv h dX1_takeOrder_86 (by omega) (by omega) ?_
                    refine j_istore_n (lv' := [(0, .ref h1), (1, .int (iI o)), (2, .int (iI 10)), (3, .int (iI ((o / 100) % 10)))]) h dX1_takeOrder_87 [1, 2, 0, 3] rfl (by decide) rfl ?_
                    refine j_goto (tgt := 22) h dX1_takeOrder_88 (by decide) ?_
                    refine j_iload_n h dX1_takeOrder_22 2 rfl rfl ?_
                    refine j_if_le h 91 dX1_takeOrder_23 (by decide) (by omega) (fun c436 => ?_) (fun c436 => ?_)
                    · skip
                      exact absurd c436 (by decide)
                    · skip
                      refine j_iload_n h dX1_takeOrder_26 1 rfl rfl ?_
                      refine j_iload_n h dX1_takeOrder_27 2 rfl rfl ?_
                      refine j_idiv h dX1_takeOrder_28 (by omega) (by omega) ?_
                      refine j_bipush h dX1_takeOrder_29 (by decide) ?_
                      refine j_irem h dX1_takeOrder_31 (by omega) (by omega) ?_
                      refine j_istore_n (lv' := [(0, .ref h1), (1, .int (iI o)), (2, .int (iI 10)), (3, .int (iI ((o / 10) % 10)))]) h dX1_takeOrder_32 [1, 2, 3, 0] rfl (by decide) rfl ?_
                      refine j_iload_n h dX1_takeOrder_33 1 rfl rfl ?_
                      refine j_iload_n h dX1_takeOrder_34 2 rfl rfl ?_
                      refine j_icmp_lt h 50 dX1_takeOrder_35 (by decide) (by omega) (by omega) (fun c437 => ?_) (fun c437 => ?_)
                      · skip
                        exact absurd c437 (by omega)
                      · skip
                        refine j_iload_n h dX1_takeOrder_38 3 rfl rfl ?_
                        refine j_iconst h dX1_takeOrder_39 ?_
                        refine j_bipush h dX1_takeOrder_40 (by decide) ?_
                        refine j_callSNi (As := [.int (iI ((o / 10) % 10)), .int (iI 1), .int (iI 7)]) (wr := [(h1, .inr (1, [.ref h0, .ref od, .int (iI 1), .ref w0, .ref dq, .int (iI pl), .int (iI gr), .int (iI le), .int (iI mo)])), (od, .inl (T 0, 4, .inl (fun j : Nat => iI ((upI D 0 ((o / 100) % 10)) j))))]) (cells' := 0) (slots' := 0) h dX1_takeOrder_42 (ct_X11_within T ((o / 10) % 10) 1 7 (by first | assumption | omega) (by first | assumption | omega) (by first | assumption | omega)) k_X11_within gX1_takeOrder_X11_within_n42 (List.mem_of_getElem? (i := 5) rfl) (List.mem_of_getElem? (i := 4) rfl) (List.mem_of_getElem? (i := 3) rfl) ⟨Nat.le_of_ble_eq_true rfl, Nat.le_of_ble_eq_true rfl⟩ rfl rfl (Nat.le_of_ble_eq_true rfl) ⟨Nat.le_of_ble_eq_true rfl, Nat.le_of_ble_eq_true rfl⟩ rfl rfl [] [0, 1] rfl rfl rfl rfl (by decide) (fun r9 u9 p438 => ?_)
                        obtain ⟨rfl, rfl⟩ := p438
                        refine j_eq (ws' := [(h1, .inr (1, [.ref h0, .ref od, .int (iI 1), .ref w0, .ref dq, .int (iI pl), .int (iI gr), .int (iI le), .int (iI mo)])), (od, .inl (T 0, 4, .inl (fun j : Nat => iI ((upI D 0 ((o / 100) % 10)) j))))]) rfl rfl rfl rfl rfl rfl ?_
                        refine j_ifneB h 50 dX1_takeOrder_45 (by decide) (fun c439 => ?_) (fun c439 => ?_)
                        · skip
                          replace c439 := of_decide_eq_true c439
                          refine j_iload_n h dX1_takeOrder_50 1 rfl rfl ?_
                          refine j_iload_n h dX1_takeOrder_51 2 rfl rfl ?_
                          refine j_icmp_lt h 83 dX1_takeOrder_52 (by decide) (by omega) (by omega) (fun c440 => ?_) (fun c440 => ?_)
                          · skip
                            exact absurd c440 (by omega)
                          · skip
                            refine j_aload_n h dX1_takeOrder_55 0 rfl rfl ?_
                            refine j_get h dX1_takeOrder_56 f_X1_takeOrder_15 0 rfl rfl ?_
                            refine j_iconst h dX1_takeOrder_59 ?_
                            refine j_icmp_ge h 83 dX1_takeOrder_60 (by decide) (by omega) (by omega) (fun c441 => ?_) (fun c441 => ?_)
                            · skip
                              exact absurd c441 (by decide)
                            · skip
                              refine j_aload_n h dX1_takeOrder_63 0 rfl rfl ?_
                              refine j_get h dX1_takeOrder_64 f_X1_takeOrder_9 0 rfl rfl ?_
                              refine j_aload_n h dX1_takeOrder_67 0 rfl rfl ?_
                              refine j_get h dX1_takeOrder_68 f_X1_takeOrder_15 0 rfl rfl ?_
                              refine j_iload_n h dX1_takeOrder_71 3 rfl rfl ?_
                              refine j_iast (f := (upI D 0 ((o / 100) % 10))) (ws' := [(h1, .inr (1, [.ref h0, .ref od, .int (iI 1), .ref w0, .ref dq, .int (iI pl), .int (iI gr), .int (iI le), .int (iI mo)])), (od, .inl (T 0, 4, .inl (fun j : Nat => iI ((upI (upI D 0 ((o / 100) % 10)) 1 ((o / 10) % 10)) j))))]) h 1 dX1_takeOrder_72 1 rfl (by decide) (by omega) (by omega) rfl ?_
                              refine j_aload_n h dX1_takeOrder_73 0 rfl rfl ?_
                              refine j_dup h dX1_takeOrder_74 rfl ?_
                              refine j_get h dX1_takeOrder_75 f_X1_takeOrder_15 0 rfl rfl ?_
                              refine j_iconst h dX1_takeOrder_78 ?_
                              refine j_iadd h dX1_takeOrder_79 ?_
                              refine j_put (ws' := [(h1, .inr (1, [.ref h0, .ref od, .int (iI 2), .ref w0, .ref dq, .int (iI pl), .int (iI gr), .int (iI le), .int (iI mo)])), (od, .inl (T 0, 4, .inl (fun j : Nat => iI ((upI (upI D 0 ((o / 100) % 10)) 1 ((o / 10) % 10)) j))))]) h dX1_takeOrder_80 f_X1_takeOrder_15 p_X1_2 0 rfl rfl rfl (Nat.le_of_ble_eq_true rfl) rfl ?_
                              refine j_iload_n h dX1_takeOrder_83 2 rfl rfl ?_
                              refine j_bipush h dX1_takeOrder_84 (by decide) ?_
                              refine j_idiv h dX1_takeOrder_86 (by omega) (by omega) ?_
                              refine j_istore_n (lv' := [(0, .ref h1), (1, .int (iI o)), (2, .int (iI 1)), (3, .int (iI ((o / 10) % 10)))]) h dX1_takeOrder_87 [1, 2, 0, 3] rfl (by decide) rfl ?_
                              refine j_goto (tgt := 22) h dX1_takeOrder_88 (by decide) ?_
                              refine j_iload_n h dX1_takeOrder_22 2 rfl rfl ?_
                              refine j_if_le h 91 dX1_takeOrder_23 (by decide) (by omega) (fun c442 => ?_) (fun c442 => ?_)
                              · skip
                                exact absurd c442 (by decide)
                              · skip
                                refine j_iload_n h dX1_takeOrder_26 1 rfl rfl ?_
                                refine j_iload_n h dX1_takeOrder_27 2 rfl rfl ?_
                                refine j_idiv h dX1_takeOrder_28 (by omega) (by omega) ?_
                                refine j_bipush h dX1_takeOrder_29 (by decide) ?_
                                refine j_irem h dX1_takeOrder_31 (by omega) (by omega) ?_
                                refine j_istore_n (lv' := [(0, .ref h1), (1, .int (iI o)), (2, .int (iI 1)), (3, .int (iI ((o / 1) % 10)))]) h dX1_takeOrder_32 [1, 2, 3, 0] rfl (by decide) rfl ?_
                                refine j_iload_n h dX1_takeOrder_33 1 rfl rfl ?_
                                refine j_iload_n h dX1_takeOrder_34 2 rfl rfl ?_
                                refine j_icmp_lt h 50 dX1_takeOrder_35 (by decide) (by omega) (by omega) (fun c443 => ?_) (fun c443 => ?_)
                                · skip
                                  exact absurd c443 (by omega)
                                · skip
                                  refine j_iload_n h dX1_takeOrder_38 3 rfl rfl ?_
                                  refine j_iconst h dX1_takeOrder_39 ?_
                                  refine j_bipush h dX1_takeOrder_40 (by decide) ?_
                                  refine j_callSNi (As := [.int (iI ((o / 1) % 10)), .int (iI 1), .int (iI 7)]) (wr := [(h1, .inr (1, [.ref h0, .ref od, .int (iI 2), .ref w0, .ref dq, .int (iI pl), .int (iI gr), .int (iI le), .int (iI mo)])), (od, .inl (T 0, 4, .inl (fun j : Nat => iI ((upI (upI D 0 ((o / 100) % 10)) 1 ((o / 10) % 10)) j))))]) (cells' := 0) (slots' := 0) h dX1_takeOrder_42 (ct_X11_within T ((o / 1) % 10) 1 7 (by first | assumption | omega) (by first | assumption | omega) (by first | assumption | omega)) k_X11_within gX1_takeOrder_X11_within_n42 (List.mem_of_getElem? (i := 5) rfl) (List.mem_of_getElem? (i := 4) rfl) (List.mem_of_getElem? (i := 3) rfl) ⟨Nat.le_of_ble_eq_true rfl, Nat.le_of_ble_eq_true rfl⟩ rfl rfl (Nat.le_of_ble_eq_true rfl) ⟨Nat.le_of_ble_eq_true rfl, Nat.le_of_ble_eq_true rfl⟩ rfl rfl [] [0, 1] rfl rfl rfl rfl (by decide) (fun r9 u9 p444 => ?_)
                                  obtain ⟨rfl, rfl⟩ := p444
                                  refine j_eq (ws' := [(h1, .inr (1, [.ref h0, .ref od, .int (iI 2), .ref w0, .ref dq, .int (iI pl), .int (iI gr), .int (iI le), .int (iI mo)])), (od, .inl (T 0, 4, .inl (fun j : Nat => iI ((upI (upI D 0 ((o / 100) % 10)) 1 ((o / 10) % 10)) j))))]) rfl rfl rfl rfl rfl rfl ?_
                                  refine j_ifneB h 50 dX1_takeOrder_45 (by decide) (fun c445 => ?_) (fun c445 => ?_)
                                  · skip
                                    replace c445 := of_decide_eq_true c445
                                    refine j_iload_n h dX1_takeOrder_50 1 rfl rfl ?_
                                    refine j_iload_n h dX1_takeOrder_51 2 rfl rfl ?_
                                    refine j_icmp_lt h 83 dX1_takeOrder_52 (by decide) (by omega) (by omega) (fun c446 => ?_) (fun c446 => ?_)
                                    · skip
                                      exact absurd c446 (by omega)
                                    · skip
                                      refine j_aload_n h dX1_takeOrder_55 0 rfl rfl ?_
                                      refine j_get h dX1_takeOrder_56 f_X1_takeOrder_15 0 rfl rfl ?_
                                      refine j_iconst h dX1_takeOrder_59 ?_
                                      refine j_icmp_ge h 83 dX1_takeOrder_60 (by decide) (by omega) (by omega) (fun c447 => ?_) (fun c447 => ?_)
                                      · skip
                                        exact absurd c447 (by decide)
                                      · skip
                                        refine j_aload_n h dX1_takeOrder_63 0 rfl rfl ?_
                                        refine j_get h dX1_takeOrder_64 f_X1_takeOrder_9 0 rfl rfl ?_
                                        refine j_aload_n h dX1_takeOrder_67 0 rfl rfl ?_
                                        refine j_get h dX1_takeOrder_68 f_X1_takeOrder_15 0 rfl rfl ?_
                                        refine j_iload_n h dX1_takeOrder_71 3 rfl rfl ?_
                                        refine j_iast (f := (upI (upI D 0 ((o / 100) % 10)) 1 ((o / 10) % 10))) (ws' := [(h1, .inr (1, [.ref h0, .ref od, .int (iI 2), .ref w0, .ref dq, .int (iI pl), .int (iI gr), .int (iI le), .int (iI mo)])), (od, .inl (T 0, 4, .inl (fun j : Nat => iI ((upI (upI (upI D 0 ((o / 100) % 10)) 1 ((o / 10) % 10)) 2 ((o / 1) % 10)) j))))]) h 2 dX1_takeOrder_72 1 rfl (by decide) (by omega) (by omega) rfl ?_
                                        refine j_aload_n h dX1_takeOrder_73 0 rfl rfl ?_
                                        refine j_dup h dX1_takeOrder_74 rfl ?_
                                        refine j_get h dX1_takeOrder_75 f_X1_takeOrder_15 0 rfl rfl ?_
                                        refine j_iconst h dX1_takeOrder_78 ?_
                                        refine j_iadd h dX1_takeOrder_79 ?_
                                        refine j_put (ws' := [(h1, .inr (1, [.ref h0, .ref od, .int (iI 3), .ref w0, .ref dq, .int (iI pl), .int (iI gr), .int (iI le), .int (iI mo)])), (od, .inl (T 0, 4, .inl (fun j : Nat => iI ((upI (upI (upI D 0 ((o / 100) % 10)) 1 ((o / 10) % 10)) 2 ((o / 1) % 10)) j))))]) h dX1_takeOrder_80 f_X1_takeOrder_15 p_X1_2 0 rfl rfl rfl (Nat.le_of_ble_eq_true rfl) rfl ?_
                                        refine j_iload_n h dX1_takeOrder_83 2 rfl rfl ?_
                                        refine j_bipush h dX1_takeOrder_84 (by decide) ?_
                                        refine j_idiv h dX1_takeOrder_86 (by omega) (by omega) ?_
                                        refine j_istore_n (lv' := [(0, .ref h1), (1, .int (iI o)), (2, .int (iI 0)), (3, .int (iI ((o / 1) % 10)))]) h dX1_takeOrder_87 [1, 2, 0, 3] rfl (by decide) rfl ?_
                                        refine j_goto (tgt := 22) h dX1_takeOrder_88 (by decide) ?_
                                        refine j_iload_n h dX1_takeOrder_22 2 rfl rfl ?_
                                        refine j_if_le h 91 dX1_takeOrder_23 (by decide) (by omega) (fun c448 => ?_) (fun c448 => ?_)
                                        · skip
                                          refine j_iconst h dX1_takeOrder_91 ?_
                                          exact hr _ _ _ _ dX1_takeOrder_92 ⟨3, (upI (upI (upI D 0 ((o / 100) % 10)) 1 ((o / 10) % 10)) 2 ((o / 1) % 10)), (by intro q9; have q8 := ordG_t q9; unfold dg7 at q8; first | omega | (rw [ordN_1 (by omega)]; done) | (rw [ordN_2 (by omega)]; done) | (rw [ordN_3 (by omega)]; done) | (rw [ordN_4 (by omega)]; done)), (by first | (intro q9; exfalso; have q8 := ordG_t q9; unfold dg7 at q8; omega) | (exact fun _ => odF_1 (ordN_1 (by omega)) (by simp [upI]; try omega)) | (exact fun _ => odF_2 (ordN_2 (by omega)) (by simp [upI]; try omega) (by simp [upI]; try omega)) | (exact fun _ => odF_3 (ordN_3 (by omega)) (by simp [upI]; try omega) (by simp [upI]; try omega) (by simp [upI]; try omega)) | (exact fun _ => odF_4 (ordN_4 (by omega)) (by simp [upI]; try omega) (by simp [upI]; try omega) (by simp [upI]; try omega) (by simp [upI]; try omega))), (congrArg (fun b9 => iI (bI b9)) (show true = (ordG o) by symm; unfold ordG dg7; first | (apply decide_eq_false; omega) | (apply decide_eq_true; omega))), rfl⟩
                                        · skip
                                          exact absurd c448 (by decide)
                                  · skip
                                    replace c445 := of_decide_eq_false c445
                                    refine j_iconst h dX1_takeOrder_48 ?_
                                    exact hr _ _ _ _ dX1_takeOrder_49 ⟨2, (upI (upI D 0 ((o / 100) % 10)) 1 ((o / 10) % 10)), (by intro q9; have q8 := ordG_t q9; unfold dg7 at q8; first | omega | (rw [ordN_1 (by omega)]; done) | (rw [ordN_2 (by omega)]; done) | (rw [ordN_3 (by omega)]; done) | (rw [ordN_4 (by omega)]; done)), (by first | (intro q9; exfalso; have q8 := ordG_t q9; unfold dg7 at q8; omega) | (exact fun _ => odF_1 (ordN_1 (by omega)) (by simp [upI]; try omega)) | (exact fun _ => odF_2 (ordN_2 (by omega)) (by simp [upI]; try omega) (by simp [upI]; try omega)) | (exact fun _ => odF_3 (ordN_3 (by omega)) (by simp [upI]; try omega) (by simp [upI]; try omega) (by simp [upI]; try omega)) | (exact fun _ => odF_4 (ordN_4 (by omega)) (by simp [upI]; try omega) (by simp [upI]; try omega) (by simp [upI]; try omega) (by simp [upI]; try omega))), (congrArg (fun b9 => iI (bI b9)) (show false = (ordG o) by symm; unfold ordG dg7; first | (apply decide_eq_false; omega) | (apply decide_eq_true; omega))), rfl⟩
                        · skip
                          replace c439 := of_decide_eq_false c439
                          refine j_iconst h dX1_takeOrder_48 ?_
                          exact hr _ _ _ _ dX1_takeOrder_49 ⟨1, (upI D 0 ((o / 100) % 10)), (by intro q9; have q8 := ordG_t q9; unfold dg7 at q8; first | omega | (rw [ordN_1 (by omega)]; done) | (rw [ordN_2 (by omega)]; done) | (rw [ordN_3 (by omega)]; done) | (rw [ordN_4 (by omega)]; done)), (by first | (intro q9; exfalso; have q8 := ordG_t q9; unfold dg7 at q8; omega) | (exact fun _ => odF_1 (ordN_1 (by omega)) (by simp [upI]; try omega)) | (exact fun _ => odF_2 (ordN_2 (by omega)) (by simp [upI]; try omega) (by simp [upI]; try omega)) | (exact fun _ => odF_3 (ordN_3 (by omega)) (by simp [upI]; try omega) (by simp [upI]; try omega) (by simp [upI]; try omega)) | (exact fun _ => odF_4 (ordN_4 (by omega)) (by simp [upI]; try omega) (by simp [upI]; try omega) (by simp [upI]; try omega) (by simp [upI]; try omega))), (congrArg (fun b9 => iI (bI b9)) (show false = (ordG o) by symm; unfold ordG dg7; first | (apply decide_eq_false; omega) | (apply decide_eq_true; omega))), rfl⟩
              · skip
                replace c433 := of_decide_eq_false c433
                refine j_iconst h dX1_takeOrder_48 ?_
                exact hr _ _ _ _ dX1_takeOrder_49 ⟨0, D, (by intro q9; have q8 := ordG_t q9; unfold dg7 at q8; first | omega | (rw [ordN_1 (by omega)]; done) | (rw [ordN_2 (by omega)]; done) | (rw [ordN_3 (by omega)]; done) | (rw [ordN_4 (by omega)]; done)), (by first | (intro q9; exfalso; have q8 := ordG_t q9; unfold dg7 at q8; omega) | (exact fun _ => odF_1 (ordN_1 (by omega)) (by simp [upI]; try omega)) | (exact fun _ => odF_2 (ordN_2 (by omega)) (by simp [upI]; try omega) (by simp [upI]; try omega)) | (exact fun _ => odF_3 (ordN_3 (by omega)) (by simp [upI]; try omega) (by simp [upI]; try omega) (by simp [upI]; try omega)) | (exact fun _ => odF_4 (ordN_4 (by omega)) (by simp [upI]; try omega) (by simp [upI]; try omega) (by simp [upI]; try omega) (by simp [upI]; try omega))), (congrArg (fun b9 => iI (bI b9)) (show false = (ordG o) by symm; unfold ordG dg7; first | (apply decide_eq_false; omega) | (apply decide_eq_true; omega))), rfl⟩
        · skip
          exact absurd c405 (by omega)
      · skip
        refine j_iload_n h dX1_takeOrder_38 3 rfl rfl ?_
        refine j_iconst h dX1_takeOrder_39 ?_
        refine j_bipush h dX1_takeOrder_40 (by decide) ?_
        refine j_callSNi (As := [.int (iI ((o / 1000) % 10)), .int (iI 1), .int (iI 7)]) (wr := [(h1, .inr (1, [.ref h0, .ref od, .int (iI 0), .ref w0, .ref dq, .int (iI pl), .int (iI gr), .int (iI le), .int (iI mo)])), (od, .inl (T 0, 4, .inl (fun j : Nat => iI (D j))))]) (cells' := 0) (slots' := 0) h dX1_takeOrder_42 (ct_X11_within T ((o / 1000) % 10) 1 7 (by first | assumption | omega) (by first | assumption | omega) (by first | assumption | omega)) k_X11_within gX1_takeOrder_X11_within_n42 (List.mem_of_getElem? (i := 5) rfl) (List.mem_of_getElem? (i := 4) rfl) (List.mem_of_getElem? (i := 3) rfl) ⟨Nat.le_of_ble_eq_true rfl, Nat.le_of_ble_eq_true rfl⟩ rfl rfl (Nat.le_of_ble_eq_true rfl) ⟨Nat.le_of_ble_eq_true rfl, Nat.le_of_ble_eq_true rfl⟩ rfl rfl [] [0, 1] rfl rfl rfl rfl (by decide) (fun r9 u9 p449 => ?_)
        obtain ⟨rfl, rfl⟩ := p449
        refine j_eq (ws' := [(h1, .inr (1, [.ref h0, .ref od, .int (iI 0), .ref w0, .ref dq, .int (iI pl), .int (iI gr), .int (iI le), .int (iI mo)])), (od, .inl (T 0, 4, .inl (fun j : Nat => iI (D j))))]) rfl rfl rfl rfl rfl rfl ?_
        refine j_ifneB h 50 dX1_takeOrder_45 (by decide) (fun c450 => ?_) (fun c450 => ?_)
        · skip
          replace c450 := of_decide_eq_true c450
          refine j_iload_n h dX1_takeOrder_50 1 rfl rfl ?_
          refine j_iload_n h dX1_takeOrder_51 2 rfl rfl ?_
          refine j_icmp_lt h 83 dX1_takeOrder_52 (by decide) (by omega) (by omega) (fun c451 => ?_) (fun c451 => ?_)
          · skip
            exact absurd c451 (by omega)
          · skip
            refine j_aload_n h dX1_takeOrder_55 0 rfl rfl ?_
            refine j_get h dX1_takeOrder_56 f_X1_takeOrder_15 0 rfl rfl ?_
            refine j_iconst h dX1_takeOrder_59 ?_
            refine j_icmp_ge h 83 dX1_takeOrder_60 (by decide) (by omega) (by omega) (fun c452 => ?_) (fun c452 => ?_)
            · skip
              exact absurd c452 (by decide)
            · skip
              refine j_aload_n h dX1_takeOrder_63 0 rfl rfl ?_
              refine j_get h dX1_takeOrder_64 f_X1_takeOrder_9 0 rfl rfl ?_
              refine j_aload_n h dX1_takeOrder_67 0 rfl rfl ?_
              refine j_get h dX1_takeOrder_68 f_X1_takeOrder_15 0 rfl rfl ?_
              refine j_iload_n h dX1_takeOrder_71 3 rfl rfl ?_
              refine j_iast (f := D) (ws' := [(h1, .inr (1, [.ref h0, .ref od, .int (iI 0), .ref w0, .ref dq, .int (iI pl), .int (iI gr), .int (iI le), .int (iI mo)])), (od, .inl (T 0, 4, .inl (fun j : Nat => iI ((upI D 0 ((o / 1000) % 10)) j))))]) h 0 dX1_takeOrder_72 1 rfl (by decide) (by omega) (by omega) rfl ?_
              refine j_aload_n h dX1_takeOrder_73 0 rfl rfl ?_
              refine j_dup h dX1_takeOrder_74 rfl ?_
              refine j_get h dX1_takeOrder_75 f_X1_takeOrder_15 0 rfl rfl ?_
              refine j_iconst h dX1_takeOrder_78 ?_
              refine j_iadd h dX1_takeOrder_79 ?_
              refine j_put (ws' := [(h1, .inr (1, [.ref h0, .ref od, .int (iI 1), .ref w0, .ref dq, .int (iI pl), .int (iI gr), .int (iI le), .int (iI mo)])), (od, .inl (T 0, 4, .inl (fun j : Nat => iI ((upI D 0 ((o / 1000) % 10)) j))))]) h dX1_takeOrder_80 f_X1_takeOrder_15 p_X1_2 0 rfl rfl rfl (Nat.le_of_ble_eq_true rfl) rfl ?_
              refine j_iload_n h dX1_takeOrder_83 2 rfl rfl ?_
              refine j_bipush h dX1_takeOrder_84 (by decide) ?_
              refine j_idiv h dX1_takeOrder_86 (by omega) (by omega) ?_
              refine j_istore_n (lv' := [(0, .ref h1), (1, .int (iI o)), (2, .int (iI 100)), (3, .int (iI ((o / 1000) % 10)))]) h dX1_takeOrder_87 [1, 2, 0, 3] rfl (by decide) rfl ?_
              refine j_goto (tgt := 22) h dX1_takeOrder_88 (by decide) ?_
              refine j_iload_n h dX1_takeOrder_22 2 rfl rfl ?_
              refine j_if_le h 91 dX1_takeOrder_23 (by decide) (by omega) (fun c453 => ?_) (fun c453 => ?_)
              · skip
                exact absurd c453 (by decide)
              · skip
                refine j_iload_n h dX1_takeOrder_26 1 rfl rfl ?_
                refine j_iload_n h dX1_takeOrder_27 2 rfl rfl ?_
                refine j_idiv h dX1_takeOrder_28 (by omega) (by omega) ?_
                refine j_bipush h dX1_takeOrder_29 (by decide) ?_
                refine j_irem h dX1_takeOrder_31 (by omega) (by omega) ?_
                refine j_istore_n (lv' := [(0, .ref h1), (1, .int (iI o)), (2, .int (iI 100)), (3, .int (iI ((o / 100) % 10)))]) h dX1_takeOrder_32 [1, 2, 3, 0] rfl (by decide) rfl ?_
                refine j_iload_n h dX1_takeOrder_33 1 rfl rfl ?_
                refine j_iload_n h dX1_takeOrder_34 2 rfl rfl ?_
                refine j_icmp_lt h 50 dX1_takeOrder_35 (by decide) (by omega) (by omega) (fun c454 => ?_) (fun c454 => ?_)
                · skip
                  exact absurd c454 (by omega)
                · skip
                  refine j_iload_n h dX1_takeOrder_38 3 rfl rfl ?_
                  refine j_iconst h dX1_takeOrder_39 ?_
                  refine j_bipush h dX1_takeOrder_40 (by decide) ?_
                  refine j_callSNi (As := [.int (iI ((o / 100) % 10)), .int (iI 1), .int (iI 7)]) (wr := [(h1, .inr (1, [.ref h0, .ref od, .int (iI 1), .ref w0, .ref dq, .int (iI pl), .int (iI gr), .int (iI le), .int (iI mo)])), (od, .inl (T 0, 4, .inl (fun j : Nat => iI ((upI D 0 ((o / 1000) % 10)) j))))]) (cells' := 0) (slots' := 0) h dX1_takeOrder_42 (ct_X11_within T ((o / 100) % 10) 1 7 (by first | assumption | omega) (by first | assumption | omega) (by first | assumption | omega)) k_X11_within gX1_takeOrder_X11_within_n42 (List.mem_of_getElem? (i := 5) rfl) (List.mem_of_getElem? (i := 4) rfl) (List.mem_of_getElem? (i := 3) rfl) ⟨Nat.le_of_ble_eq_true rfl, Nat.le_of_ble_eq_true rfl⟩ rfl rfl (Nat.le_of_ble_eq_true rfl) ⟨Nat.le_of_ble_eq_true rfl, Nat.le_of_ble_eq_true rfl⟩ rfl rfl [] [0, 1] rfl rfl rfl rfl (by decide) (fun r9 u9 p455 => ?_)
                  obtain ⟨rfl, rfl⟩ := p455
                  refine j_eq (ws' := [(h1, .inr (1, [.ref h0, .ref od, .int (iI 1), .ref w0, .ref dq, .int (iI pl), .int (iI gr), .int (iI le), .int (iI mo)])), (od, .inl (T 0, 4, .inl (fun j : Nat => iI ((upI D 0 ((o / 1000) % 10)) j))))]) rfl rfl rfl rfl rfl rfl ?_
                  refine j_ifneB h 50 dX1_takeOrder_45 (by decide) (fun c456 => ?_) (fun c456 => ?_)
                  · skip
                    replace c456 := of_decide_eq_true c456
                    refine j_iload_n h dX1_takeOrder_50 1 rfl rfl ?_
                    refine j_iload_n h dX1_takeOrder_51 2 rfl rfl ?_
                    refine j_icmp_lt h 83 dX1_takeOrder_52 (by decide) (by omega) (by omega) (fun c457 => ?_) (fun c457 => ?_)
                    · skip
                      exact absurd c457 (by omega)
                    · skip
                      refine j_aload_n h dX1_takeOrder_55 0 rfl rfl ?_
                      refine j_get h dX1_takeOrder_56 f_X1_takeOrder_15 0 rfl rfl ?_
                      refine j_iconst h dX1_takeOrder_59 ?_
                      refine j_icmp_ge h 83 dX1_takeOrder_60 (by decide) (by omega) (by omega) (fun c458 => ?_) (fun c458 => ?_)
                      · skip
                        exact absurd c458 (by decide)
                      · skip
                        refine j_aload_n h dX1_takeOrder_63 0 rfl rfl ?_
                        refine j_get h dX1_takeOrder_64 f_X1_takeOrder_9 0 rfl rfl ?_
                        refine j_aload_n h dX1_takeOrder_67 0 rfl rfl ?_
                        refine j_get h dX1_takeOrder_68 f_X1_takeOrder_15 0 rfl rfl ?_
                        refine j_iload_n h dX1_takeOrder_71 3 rfl rfl ?_
                        refine j_iast (f := (upI D 0 ((o / 1000) % 10))) (ws' := [(h1, .inr (1, [.ref h0, .ref od, .int (iI 1), .ref w0, .ref dq, .int (iI pl), .int (iI gr), .int (iI le), .int (iI mo)])), (od, .inl (T 0, 4, .inl (fun j : Nat => iI ((upI (upI D 0 ((o / 1000) % 10)) 1 ((o / 100) % 10)) j))))]) h 1 dX1_takeOrder_72 1 rfl (by decide) (by omega) (by omega) rfl ?_
                        refine j_aload_n h dX1_takeOrder_73 0 rfl rfl ?_
                        refine j_dup h dX1_takeOrder_74 rfl ?_
                        refine j_get h dX1_takeOrder_75 f_X1_takeOrder_15 0 rfl rfl ?_
                        refine j_iconst h dX1_takeOrder_78 ?_
                        refine j_iadd h dX1_takeOrder_79 ?_
                        refine j_put (ws' := [(h1, .inr (1, [.ref h0, .ref od, .int (iI 2), .ref w0, .ref dq, .int (iI pl), .int (iI gr), .int (iI le), .int (iI mo)])), (od, .inl (T 0, 4, .inl (fun j : Nat => iI ((upI (upI D 0 ((o / 1000) % 10)) 1 ((o / 100) % 10)) j))))]) h dX1_takeOrder_80 f_X1_takeOrder_15 p_X1_2 0 rfl rfl rfl (Nat.le_of_ble_eq_true rfl) rfl ?_
                        refine j_iload_n h dX1_takeOrder_83 2 rfl rfl ?_
                        refine j_bipush h dX1_takeOrder_84 (by decide) ?_
                        refine j_idiv h dX1_takeOrder_86 (by omega) (by omega) ?_
                        refine j_istore_n (lv' := [(0, .ref h1), (1, .int (iI o)), (2, .int (iI 10)), (3, .int (iI ((o / 100) % 10)))]) h dX1_takeOrder_87 [1, 2, 0, 3] rfl (by decide) rfl ?_
                        refine j_goto (tgt := 22) h dX1_takeOrder_88 (by decide) ?_
                        refine j_iload_n h dX1_takeOrder_22 2 rfl rfl ?_
                        refine j_if_le h 91 dX1_takeOrder_23 (by decide) (by omega) (fun c459 => ?_) (fun c459 => ?_)
                        · skip
                          exact absurd c459 (by decide)
                        · skip
                          refine j_iload_n h dX1_takeOrder_26 1 rfl rfl ?_
                          refine j_iload_n h dX1_takeOrder_27 2 rfl rfl ?_
                          refine j_idiv h dX1_takeOrder_28 (by omega) (by omega) ?_
                          refine j_bipush h dX1_takeOrder_29 (by decide) ?_
                          refine j_irem h dX1_takeOrder_31 (by omega) (by omega) ?_
                          refine j_istore_n (lv' := [(0, .ref h1), (1, .int (iI o)), (2, .int (iI 10)), (3, .int (iI ((o / 10) % 10)))]) h dX1_takeOrder_32 [1, 2, 3, 0] rfl (by decide) rfl ?_
                          refine j_iload_n h dX1_takeOrder_33 1 rfl rfl ?_
                          refine j_iload_n h dX1_takeOrder_34 2 rfl rfl ?_
                          refine j_icmp_lt h 50 dX1_takeOrder_35 (by decide) (by omega) (by omega) (fun c460 => ?_) (fun c460 => ?_)
                          · skip
                            exact absurd c460 (by omega)
                          · skip
                            refine j_iload_n h dX1_takeOrder_38 3 rfl rfl ?_
                            refine j_iconst h dX1_takeOrder_39 ?_
                            refine j_bipush h dX1_takeOrder_40 (by decide) ?_
                            refine j_callSNi (As := [.int (iI ((o / 10) % 10)), .int (iI 1), .int (iI 7)]) (wr := [(h1, .inr (1, [.ref h0, .ref od, .int (iI 2), .ref w0, .ref dq, .int (iI pl), .int (iI gr), .int (iI le), .int (iI mo)])), (od, .inl (T 0, 4, .inl (fun j : Nat => iI ((upI (upI D 0 ((o / 1000) % 10)) 1 ((o / 100) % 10)) j))))]) (cells' := 0) (slots' := 0) h dX1_takeOrder_42 (ct_X11_within T ((o / 10) % 10) 1 7 (by first | assumption | omega) (by first | assumption | omega) (by first | assumption | omega)) k_X11_within gX1_takeOrder_X11_within_n42 (List.mem_of_getElem? (i := 5) rfl) (List.mem_of_getElem? (i := 4) rfl) (List.mem_of_getElem? (i := 3) rfl) ⟨Nat.le_of_ble_eq_true rfl, Nat.le_of_ble_eq_true rfl⟩ rfl rfl (Nat.le_of_ble_eq_true rfl) ⟨Nat.le_of_ble_eq_true rfl, Nat.le_of_ble_eq_true rfl⟩ rfl rfl [] [0, 1] rfl rfl rfl rfl (by decide) (fun r9 u9 p461 => ?_)
                            obtain ⟨rfl, rfl⟩ := p461
                            refine j_eq (ws' := [(h1, .inr (1, [.ref h0, .ref od, .int (iI 2), .ref w0, .ref dq, .int (iI pl), .int (iI gr), .int (iI le), .int (iI mo)])), (od, .inl (T 0, 4, .inl (fun j : Nat => iI ((upI (upI D 0 ((o / 1000) % 10)) 1 ((o / 100) % 10)) j))))]) rfl rfl rfl rfl rfl rfl ?_
                            refine j_ifneB h 50 dX1_takeOrder_45 (by decide) (fun c462 => ?_) (fun c462 => ?_)
                            · skip
                              replace c462 := of_decide_eq_true c462
                              refine j_iload_n h dX1_takeOrder_50 1 rfl rfl ?_
                              refine j_iload_n h dX1_takeOrder_51 2 rfl rfl ?_
                              refine j_icmp_lt h 83 dX1_takeOrder_52 (by decide) (by omega) (by omega) (fun c463 => ?_) (fun c463 => ?_)
                              · skip
                                exact absurd c463 (by omega)
                              · skip
                                refine j_aload_n h dX1_takeOrder_55 0 rfl rfl ?_
                                refine j_get h dX1_takeOrder_56 f_X1_takeOrder_15 0 rfl rfl ?_
                                refine j_iconst h dX1_takeOrder_59 ?_
                                refine j_icmp_ge h 83 dX1_takeOrder_60 (by decide) (by omega) (by omega) (fun c464 => ?_) (fun c464 => ?_)
                                · skip
                                  exact absurd c464 (by decide)
                                · skip
                                  refine j_aload_n h dX1_takeOrder_63 0 rfl rfl ?_
                                  refine j_get h dX1_takeOrder_64 f_X1_takeOrder_9 0 rfl rfl ?_
                                  refine j_aload_n h dX1_takeOrder_67 0 rfl rfl ?_
                                  refine j_get h dX1_takeOrder_68 f_X1_takeOrder_15 0 rfl rfl ?_
                                  refine j_iload_n h dX1_takeOrder_71 3 rfl rfl ?_
                                  refine j_iast (f := (upI (upI D 0 ((o / 1000) % 10)) 1 ((o / 100) % 10))) (ws' := [(h1, .inr (1, [.ref h0, .ref od, .int (iI 2), .ref w0, .ref dq, .int (iI pl), .int (iI gr), .int (iI le), .int (iI mo)])), (od, .inl (T 0, 4, .inl (fun j : Nat => iI ((upI (upI (upI D 0 ((o / 1000) % 10)) 1 ((o / 100) % 10)) 2 ((o / 10) % 10)) j))))]) h 2 dX1_takeOrder_72 1 rfl (by decide) (by omega) (by omega) rfl ?_
                                  refine j_aload_n h dX1_takeOrder_73 0 rfl rfl ?_
                                  refine j_dup h dX1_takeOrder_74 rfl ?_
                                  refine j_get h dX1_takeOrder_75 f_X1_takeOrder_15 0 rfl rfl ?_
                                  refine j_iconst h dX1_takeOrder_78 ?_
                                  refine j_iadd h dX1_takeOrder_79 ?_
                                  refine j_put (ws' := [(h1, .inr (1, [.ref h0, .ref od, .int (iI 3), .ref w0, .ref dq, .int (iI pl), .int (iI gr), .int (iI le), .int (iI mo)])), (od, .inl (T 0, 4, .inl (fun j : Nat => iI ((upI (upI (upI D 0 ((o / 1000) % 10)) 1 ((o / 100) % 10)) 2 ((o / 10) % 10)) j))))]) h dX1_takeOrder_80 f_X1_takeOrder_15 p_X1_2 0 rfl rfl rfl (Nat.le_of_ble_eq_true rfl) rfl ?_
                                  refine j_iload_n h dX1_takeOrder_83 2 rfl rfl ?_
                                  refine j_bipush h dX1_takeOrder_84 (by decide) ?_
                                  refine j_idiv h dX1_takeOrder_86 (by omega) (by omega) ?_
                                  refine j_istore_n (lv' := [(0, .ref h1), (1, .int (iI o)), (2, .int (iI 1)), (3, .int (iI ((o / 10) % 10)))]) h dX1_takeOrder_87 [1, 2, 0, 3] rfl (by decide) rfl ?_
                                  refine j_goto (tgt := 22) h dX1_takeOrder_88 (by decide) ?_
                                  refine j_iload_n h dX1_takeOrder_22 2 rfl rfl ?_
                                  refine j_if_le h 91 dX1_takeOrder_23 (by decide) (by omega) (fun c465 => ?_) (fun c465 => ?_)
                                  · skip
                                    exact absurd c465 (by decide)
                                  · skip
                                    refine j_iload_n h dX1_takeOrder_26 1 rfl rfl ?_
                                    refine j_iload_n h dX1_takeOrder_27 2 rfl rfl ?_
                                    refine j_idiv h dX1_takeOrder_28 (by omega) (by omega) ?_
                                    refine j_bipush h dX1_takeOrder_29 (by decide) ?_
                                    refine j_irem h dX1_takeOrder_31 (by omega) (by omega) ?_
                                    refine j_istore_n (lv' := [(0, .ref h1), (1, .int (iI o)), (2, .int (iI 1)), (3, .int (iI ((o / 1) % 10)))]) h dX1_takeOrder_32 [1, 2, 3, 0] rfl (by decide) rfl ?_
                                    refine j_iload_n h dX1_takeOrder_33 1 rfl rfl ?_
                                    refine j_iload_n h dX1_takeOrder_34 2 rfl rfl ?_
                                    refine j_icmp_lt h 50 dX1_takeOrder_35 (by decide) (by omega) (by omega) (fun c466 => ?_) (fun c466 => ?_)
                                    · skip
                                      exact absurd c466 (by omega)
                                    · skip
                                      refine j_iload_n h dX1_takeOrder_38 3 rfl rfl ?_
                                      refine j_iconst h dX1_takeOrder_39 ?_
                                      refine j_bipush h dX1_takeOrder_40 (by decide) ?_
                                      refine j_callSNi (As := [.int (iI ((o / 1) % 10)), .int (iI 1), .int (iI 7)]) (wr := [(h1, .inr (1, [.ref h0, .ref od, .int (iI 3), .ref w0, .ref dq, .int (iI pl), .int (iI gr), .int (iI le), .int (iI mo)])), (od, .inl (T 0, 4, .inl (fun j : Nat => iI ((upI (upI (upI D 0 ((o / 1000) % 10)) 1 ((o / 100) % 10)) 2 ((o / 10) % 10)) j))))]) (cells' := 0) (slots' := 0) h dX1_takeOrder_42 (ct_X11_within T ((o / 1) % 10) 1 7 (by first | assumption | omega) (by first | assumption | omega) (by first | assumption | omega)) k_X11_within gX1_takeOrder_X11_within_n42 (List.mem_of_getElem? (i := 5) rfl) (List.mem_of_getElem? (i := 4) rfl) (List.mem_of_getElem? (i := 3) rfl) ⟨Nat.le_of_ble_eq_true rfl, Nat.le_of_ble_eq_true rfl⟩ rfl rfl (Nat.le_of_ble_eq_true rfl) ⟨Nat.le_of_ble_eq_true rfl, Nat.le_of_ble_eq_true rfl⟩ rfl rfl [] [0, 1] rfl rfl rfl rfl (by decide) (fun r9 u9 p467 => ?_)
                                      obtain ⟨rfl, rfl⟩ := p467
                                      refine j_eq (ws' := [(h1, .inr (1, [.ref h0, .ref od, .int (iI 3), .ref w0, .ref dq, .int (iI pl), .int (iI gr), .int (iI le), .int (iI mo)])), (od, .inl (T 0, 4, .inl (fun j : Nat => iI ((upI (upI (upI D 0 ((o / 1000) % 10)) 1 ((o / 100) % 10)) 2 ((o / 10) % 10)) j))))]) rfl rfl rfl rfl rfl rfl ?_
                                      refine j_ifneB h 50 dX1_takeOrder_45 (by decide) (fun c468 => ?_) (fun c468 => ?_)
                                      · skip
                                        replace c468 := of_decide_eq_true c468
                                        refine j_iload_n h dX1_takeOrder_50 1 rfl rfl ?_
                                        refine j_iload_n h dX1_takeOrder_51 2 rfl rfl ?_
                                        refine j_icmp_lt h 83 dX1_takeOrder_52 (by decide) (by omega) (by omega) (fun c469 => ?_) (fun c469 => ?_)
                                        · skip
                                          exact absurd c469 (by omega)
                                        · skip
                                          refine j_aload_n h dX1_takeOrder_55 0 rfl rfl ?_
                                          refine j_get h dX1_takeOrder_56 f_X1_takeOrder_15 0 rfl rfl ?_
                                          refine j_iconst h dX1_takeOrder_59 ?_
                                          refine j_icmp_ge h 83 dX1_takeOrder_60 (by decide) (by omega) (by omega) (fun c470 => ?_) (fun c470 => ?_)
                                          · skip
                                            exact absurd c470 (by decide)
                                          · skip
                                            refine j_aload_n h dX1_takeOrder_63 0 rfl rfl ?_
                                            refine j_get h dX1_takeOrder_64 f_X1_takeOrder_9 0 rfl rfl ?_
                                            refine j_aload_n h dX1_takeOrder_67 0 rfl rfl ?_
                                            refine j_get h dX1_takeOrder_68 f_X1_takeOrder_15 0 rfl rfl ?_
                                            refine j_iload_n h dX1_takeOrder_71 3 rfl rfl ?_
                                            refine j_iast (f := (upI (upI (upI D 0 ((o / 1000) % 10)) 1 ((o / 100) % 10)) 2 ((o / 10) % 10))) (ws' := [(h1, .inr (1, [.ref h0, .ref od, .int (iI 3), .ref w0, .ref dq, .int (iI pl), .int (iI gr), .int (iI le), .int (iI mo)])), (od, .inl (T 0, 4, .inl (fun j : Nat => iI ((upI (upI (upI (upI D 0 ((o / 1000) % 10)) 1 ((o / 100) % 10)) 2 ((o / 10) % 10)) 3 ((o / 1) % 10)) j))))]) h 3 dX1_takeOrder_72 1 rfl (by decide) (by omega) (by omega) rfl ?_
                                            refine j_aload_n h dX1_takeOrder_73 0 rfl rfl ?_
                                            refine j_dup h dX1_takeOrder_74 rfl ?_
                                            refine j_get h dX1_takeOrder_75 f_X1_takeOrder_15 0 rfl rfl ?_
                                            refine j_iconst h dX1_takeOrder_78 ?_
                                            refine j_iadd h dX1_takeOrder_79 ?_
                                            refine j_put (ws' := [(h1, .inr (1, [.ref h0, .ref od, .int (iI 4), .ref w0, .ref dq, .int (iI pl), .int (iI gr), .int (iI le), .int (iI mo)])), (od, .inl (T 0, 4, .inl (fun j : Nat => iI ((upI (upI (upI (upI D 0 ((o / 1000) % 10)) 1 ((o / 100) % 10)) 2 ((o / 10) % 10)) 3 ((o / 1) % 10)) j))))]) h dX1_takeOrder_80 f_X1_takeOrder_15 p_X1_2 0 rfl rfl rfl (Nat.le_of_ble_eq_true rfl) rfl ?_
                                            refine j_iload_n h dX1_takeOrder_83 2 rfl rfl ?_
                                            refine j_bipush h dX1_takeOrder_84 (by decide) ?_
                                            refine j_idiv h dX1_takeOrder_86 (by omega) (by omega) ?_
                                            refine j_istore_n (lv' := [(0, .ref h1), (1, .int (iI o)), (2, .int (iI 0)), (3, .int (iI ((o / 1) % 10)))]) h dX1_takeOrder_87 [1, 2, 0, 3] rfl (by decide) rfl ?_
                                            refine j_goto (tgt := 22) h dX1_takeOrder_88 (by decide) ?_
                                            refine j_iload_n h dX1_takeOrder_22 2 rfl rfl ?_
                                            refine j_if_le h 91 dX1_takeOrder_23 (by decide) (by omega) (fun c471 => ?_) (fun c471 => ?_)
                                            · skip
                                              refine j_iconst h dX1_takeOrder_91 ?_
                                              exact hr _ _ _ _ dX1_takeOrder_92 ⟨4, (upI (upI (upI (upI D 0 ((o / 1000) % 10)) 1 ((o / 100) % 10)) 2 ((o / 10) % 10)) 3 ((o / 1) % 10)), (by intro q9; have q8 := ordG_t q9; unfold dg7 at q8; first | omega | (rw [ordN_1 (by omega)]; done) | (rw [ordN_2 (by omega)]; done) | (rw [ordN_3 (by omega)]; done) | (rw [ordN_4 (by omega)]; done)), (by first | (intro q9; exfalso; have q8 := ordG_t q9; unfold dg7 at q8; omega) | (exact fun _ => odF_1 (ordN_1 (by omega)) (by simp [upI]; try omega)) | (exact fun _ => odF_2 (ordN_2 (by omega)) (by simp [upI]; try omega) (by simp [upI]; try omega)) | (exact fun _ => odF_3 (ordN_3 (by omega)) (by simp [upI]; try omega) (by simp [upI]; try omega) (by simp [upI]; try omega)) | (exact fun _ => odF_4 (ordN_4 (by omega)) (by simp [upI]; try omega) (by simp [upI]; try omega) (by simp [upI]; try omega) (by simp [upI]; try omega))), (congrArg (fun b9 => iI (bI b9)) (show true = (ordG o) by symm; unfold ordG dg7; first | (apply decide_eq_false; omega) | (apply decide_eq_true; omega))), rfl⟩
                                            · skip
                                              exact absurd c471 (by decide)
                                      · skip
                                        replace c468 := of_decide_eq_false c468
                                        refine j_iconst h dX1_takeOrder_48 ?_
                                        exact hr _ _ _ _ dX1_takeOrder_49 ⟨3, (upI (upI (upI D 0 ((o / 1000) % 10)) 1 ((o / 100) % 10)) 2 ((o / 10) % 10)), (by intro q9; have q8 := ordG_t q9; unfold dg7 at q8; first | omega | (rw [ordN_1 (by omega)]; done) | (rw [ordN_2 (by omega)]; done) | (rw [ordN_3 (by omega)]; done) | (rw [ordN_4 (by omega)]; done)), (by first | (intro q9; exfalso; have q8 := ordG_t q9; unfold dg7 at q8; omega) | (exact fun _ => odF_1 (ordN_1 (by omega)) (by simp [upI]; try omega)) | (exact fun _ => odF_2 (ordN_2 (by omega)) (by simp [upI]; try omega) (by simp [upI]; try omega)) | (exact fun _ => odF_3 (ordN_3 (by omega)) (by simp [upI]; try omega) (by simp [upI]; try omega) (by simp [upI]; try omega)) | (exact fun _ => odF_4 (ordN_4 (by omega)) (by simp [upI]; try omega) (by simp [upI]; try omega) (by simp [upI]; try omega) (by simp [upI]; try omega))), (congrArg (fun b9 => iI (bI b9)) (show false = (ordG o) by symm; unfold ordG dg7; first | (apply decide_eq_false; omega) | (apply decide_eq_true; omega))), rfl⟩
                            · skip
                              replace c462 := of_decide_eq_false c462
                              refine j_iconst h dX1_takeOrder_48 ?_
                              exact hr _ _ _ _ dX1_takeOrder_49 ⟨2, (upI (upI D 0 ((o / 1000) % 10)) 1 ((o / 100) % 10)), (by intro q9; have q8 := ordG_t q9; unfold dg7 at q8; first | omega | (rw [ordN_1 (by omega)]; done) | (rw [ordN_2 (by omega)]; done) | (rw [ordN_3 (by omega)]; done) | (rw [ordN_4 (by omega)]; done)), (by first | (intro q9; exfalso; have q8 := ordG_t q9; unfold dg7 at q8; omega) | (exact fun _ => odF_1 (ordN_1 (by omega)) (by simp [upI]; try omega)) | (exact fun _ => odF_2 (ordN_2 (by omega)) (by simp [upI]; try omega) (by simp [upI]; try omega)) | (exact fun _ => odF_3 (ordN_3 (by omega)) (by simp [upI]; try omega) (by simp [upI]; try omega) (by simp [upI]; try omega)) | (exact fun _ => odF_4 (ordN_4 (by omega)) (by simp [upI]; try omega) (by simp [upI]; try omega) (by simp [upI]; try omega) (by simp [upI]; try omega))), (congrArg (fun b9 => iI (bI b9)) (show false = (ordG o) by symm; unfold ordG dg7; first | (apply decide_eq_false; omega) | (apply decide_eq_true; omega))), rfl⟩
                  · skip
                    replace c456 := of_decide_eq_false c456
                    refine j_iconst h dX1_takeOrder_48 ?_
                    exact hr _ _ _ _ dX1_takeOrder_49 ⟨1, (upI D 0 ((o / 1000) % 10)), (by intro q9; have q8 := ordG_t q9; unfold dg7 at q8; first | omega | (rw [ordN_1 (by omega)]; done) | (rw [ordN_2 (by omega)]; done) | (rw [ordN_3 (by omega)]; done) | (rw [ordN_4 (by omega)]; done)), (by first | (intro q9; exfalso; have q8 := ordG_t q9; unfold dg7 at q8; omega) | (exact fun _ => odF_1 (ordN_1 (by omega)) (by simp [upI]; try omega)) | (exact fun _ => odF_2 (ordN_2 (by omega)) (by simp [upI]; try omega) (by simp [upI]; try omega)) | (exact fun _ => odF_3 (ordN_3 (by omega)) (by simp [upI]; try omega) (by simp [upI]; try omega) (by simp [upI]; try omega)) | (exact fun _ => odF_4 (ordN_4 (by omega)) (by simp [upI]; try omega) (by simp [upI]; try omega) (by simp [upI]; try omega) (by simp [upI]; try omega))), (congrArg (fun b9 => iI (bI b9)) (show false = (ordG o) by symm; unfold ordG dg7; first | (apply decide_eq_false; omega) | (apply decide_eq_true; omega))), rfl⟩
        · skip
          replace c450 := of_decide_eq_false c450
          refine j_iconst h dX1_takeOrder_48 ?_
          exact hr _ _ _ _ dX1_takeOrder_49 ⟨0, D, (by intro q9; have q8 := ordG_t q9; unfold dg7 at q8; first | omega | (rw [ordN_1 (by omega)]; done) | (rw [ordN_2 (by omega)]; done) | (rw [ordN_3 (by omega)]; done) | (rw [ordN_4 (by omega)]; done)), (by first | (intro q9; exfalso; have q8 := ordG_t q9; unfold dg7 at q8; omega) | (exact fun _ => odF_1 (ordN_1 (by omega)) (by simp [upI]; try omega)) | (exact fun _ => odF_2 (ordN_2 (by omega)) (by simp [upI]; try omega) (by simp [upI]; try omega)) | (exact fun _ => odF_3 (ordN_3 (by omega)) (by simp [upI]; try omega) (by simp [upI]; try omega) (by simp [upI]; try omega)) | (exact fun _ => odF_4 (ordN_4 (by omega)) (by simp [upI]; try omega) (by simp [upI]; try omega) (by simp [upI]; try omega) (by simp [upI]; try omega))), (congrArg (fun b9 => iI (bI b9)) (show false = (ordG o) by symm; unfold ordG dg7; first | (apply decide_eq_false; omega) | (apply decide_eq_true; omega))), rfl⟩
  · skip
    replace c402 := of_decide_eq_false c402
    refine j_iconst h dX1_takeOrder_11 ?_
    exact hr _ _ _ _ dX1_takeOrder_12 ⟨ol, D, (by intro q9; have q8 := ordG_t q9; unfold dg7 at q8; first | omega | (rw [ordN_1 (by omega)]; done) | (rw [ordN_2 (by omega)]; done) | (rw [ordN_3 (by omega)]; done) | (rw [ordN_4 (by omega)]; done)), (by first | (intro q9; exfalso; have q8 := ordG_t q9; unfold dg7 at q8; omega) | (exact fun _ => odF_1 (ordN_1 (by omega)) (by simp [upI]; try omega)) | (exact fun _ => odF_2 (ordN_2 (by omega)) (by simp [upI]; try omega) (by simp [upI]; try omega)) | (exact fun _ => odF_3 (ordN_3 (by omega)) (by simp [upI]; try omega) (by simp [upI]; try omega) (by simp [upI]; try omega)) | (exact fun _ => odF_4 (ordN_4 (by omega)) (by simp [upI]; try omega) (by simp [upI]; try omega) (by simp [upI]; try omega) (by simp [upI]; try omega))), (congrArg (fun b9 => iI (bI b9)) (show false = (ordG o) by symm; unfold ordG dg7; first | (apply decide_eq_false; omega) | (apply decide_eq_true; omega))), rfl⟩

