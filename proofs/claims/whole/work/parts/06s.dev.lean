abbrev rmX1_find : Room := { frames := 3, cells := 0, slots := 0, locals := 69 }
theorem in_X1_find_X1 : ∀ w ∈ u_ws RX1 TX1 9, w ∈ wsX1_find := fun w hw => List.mem_cons_of_mem _ (List.mem_append_left _ (List.mem_append_right _ (hw)))
theorem f_X1_find_26 : FlOK RX1 26 wsX1_find 1 5 := ⟨_, _, _, rfl, by decide, in_X1_find_X1, List.mem_of_getElem? (i := 1) rfl⟩
theorem p_X1_5 : PuOK 1 5 false (.int) := ⟨_, _, _, tyX1, rfl, tyX1_ok, nmX1, rfl, rfl⟩
theorem f_X1_find_29 : FlOK RX1 29 wsX1_find 1 6 := ⟨_, _, _, rfl, by decide, in_X1_find_X1, List.mem_of_getElem? (i := 2) rfl⟩
theorem p_X1_6 : PuOK 1 6 false (.int) := ⟨_, _, _, tyX1, rfl, tyX1_ok, nmX1, rfl, rfl⟩
theorem f_X1_find_32 : FlOK RX1 32 wsX1_find 1 7 := ⟨_, _, _, rfl, by decide, in_X1_find_X1, List.mem_of_getElem? (i := 3) rfl⟩
theorem p_X1_7 : PuOK 1 7 false (.int) := ⟨_, _, _, tyX1, rfl, tyX1_ok, nmX1, rfl, rfl⟩
theorem f_X1_find_35 : FlOK RX1 35 wsX1_find 1 8 := ⟨_, _, _, rfl, by decide, in_X1_find_X1, List.mem_of_getElem? (i := 4) rfl⟩
theorem p_X1_8 : PuOK 1 8 false (.int) := ⟨_, _, _, tyX1, rfl, tyX1_ok, nmX1, rfl, rfl⟩
theorem f_X1_find_19 : FlOK RX1 19 wsX1_find 1 3 := ⟨_, _, _, rfl, by decide, in_X1_find_X1, List.mem_of_getElem? (i := 5) rfl⟩
theorem k_X1_takeGroup : CkOK yX1_takeGroup wsX1_takeGroup rmX1_takeGroup 0 0 cX1_takeGroup 6 (some .int) 1 := ⟨⟨_, rfl⟩, rfl, rfl, by decide +kernel⟩
theorem k_X1_isAt : CkOK yX1_isAt wsX1_isAt rmX1_isAt 0 0 cX1_isAt 3 (some .boolean) 1 := ⟨⟨_, rfl⟩, rfl, rfl, by decide +kernel⟩
set_option maxHeartbeats 600000 in
set_option maxRecDepth 100000 in
/-- finds the devices -/
theorem ct_X1_find (T : Nat → ClassId) (h1 : Nat) (h0 : Nat) (od : Nat) (w0 : Nat) (dq : Nat) (ol : Int) (pl : Int) (gr : Int) (le : Int) (mo : Int) (c0 : Nat) (B : Int → Int) (D : Int → Int) (W : Int → Bool) (Q : Int → Int) (hB : BOK B) (hm : 1 ≤ ol ∧ ol ≤ 4) (hD : (∀ k9 : Int, 0 ≤ k9 → k9 < ol → 1 ≤ D k9 ∧ D k9 ≤ 7)) : CtV T yX1_find wsX1_find rmX1_find 0 0 [.ref h1] [(h1, .inr (1, [.ref h0, .ref od, .int (iI ol), .ref w0, .ref dq, .int (iI pl), .int (iI gr), .int (iI le), .int (iI mo)])), (h0, .inr (0, [.ref c0])), (c0, .inl (T 0, 2880, .inl (fun j : Nat => iI (B j)))), (od, .inl (T 0, 4, .inl (fun j : Nat => iI (D j)))), (w0, .inl (T 1, 144, .inl (fun j : Nat => iI (bI (W j))))), (dq, .inl (T 0, 144, .inl (fun j : Nat => iI (Q j))))] (fun u => ∃ W1 : Int → Bool, ∃ Q1 : Int → Int, u = [(h1, .inr (1, [.ref h0, .ref od, .int (iI ol), .ref w0, .ref dq, .int (iI (cntI (hasD B D ol) 144)), .int (iI ((dvI (hasD B D ol) 144).2.1)), .int (iI (fuI (hasD B D ol) 0 144)), .int (iI ((dvI (hasD B D ol) 144).2.2))])), (h0, .inr (0, [.ref c0])), (c0, .inl (T 0, 2880, .inl (fun j : Nat => iI (B j)))), (od, .inl (T 0, 4, .inl (fun j : Nat => iI (D j)))), (w0, .inl (T 1, 144, .inl (fun j : Nat => iI (bI (W1 j))))), (dq, .inl (T 0, 144, .inl (fun j : Nat => iI (Q1 j))))]) := by
  refine ctV_of (cc := cX1_find) (maxL := 2) (ret := none) (by decide +kernel) rfl rfl (Nat.le_of_ble_eq_true rfl) (fun X h hinit hr => ?_)
  refine j_eq (lv' := [(0, .ref h1)]) rfl rfl rfl rfl rfl rfl ?_
  refine j_aload_n h dX1_find_0 0 rfl rfl ?_
  refine j_iconst h dX1_find_1 ?_
  refine j_put (ws' := [(h1, .inr (1, [.ref h0, .ref od, .int (iI ol), .ref w0, .ref dq, .int (iI 0), .int (iI gr), .int (iI le), .int (iI mo)])), (h0, .inr (0, [.ref c0])), (c0, .inl (T 0, 2880, .inl (fun j : Nat => iI (B j)))), (od, .inl (T 0, 4, .inl (fun j : Nat => iI (D j)))), (w0, .inl (T 1, 144, .inl (fun j : Nat => iI (bI (W j))))), (dq, .inl (T 0, 144, .inl (fun j : Nat => iI (Q j))))]) h dX1_find_2 f_X1_find_26 p_X1_5 0 rfl rfl rfl (Nat.le_of_ble_eq_true rfl) rfl ?_
  refine j_aload_n h dX1_find_5 0 rfl rfl ?_
  refine j_iconst h dX1_find_6 ?_
  refine j_put (ws' := [(h1, .inr (1, [.ref h0, .ref od, .int (iI ol), .ref w0, .ref dq, .int (iI 0), .int (iI 0), .int (iI le), .int (iI mo)])), (h0, .inr (0, [.ref c0])), (c0, .inl (T 0, 2880, .inl (fun j : Nat => iI (B j)))), (od, .inl (T 0, 4, .inl (fun j : Nat => iI (D j)))), (w0, .inl (T 1, 144, .inl (fun j : Nat => iI (bI (W j))))), (dq, .inl (T 0, 144, .inl (fun j : Nat => iI (Q j))))]) h dX1_find_7 f_X1_find_29 p_X1_6 0 rfl rfl rfl (Nat.le_of_ble_eq_true rfl) rfl ?_
  refine j_aload_n h dX1_find_10 0 rfl rfl ?_
  refine j_iconst h dX1_find_11 ?_
  refine j_put (ws' := [(h1, .inr (1, [.ref h0, .ref od, .int (iI ol), .ref w0, .ref dq, .int (iI 0), .int (iI 0), .int (iI (-1)), .int (iI mo)])), (h0, .inr (0, [.ref c0])), (c0, .inl (T 0, 2880, .inl (fun j : Nat => iI (B j)))), (od, .inl (T 0, 4, .inl (fun j : Nat => iI (D j)))), (w0, .inl (T 1, 144, .inl (fun j : Nat => iI (bI (W j))))), (dq, .inl (T 0, 144, .inl (fun j : Nat => iI (Q j))))]) h dX1_find_12 f_X1_find_32 p_X1_7 0 rfl rfl rfl (Nat.le_of_ble_eq_true rfl) rfl ?_
  refine j_aload_n h dX1_find_15 0 rfl rfl ?_
  refine j_iconst h dX1_find_16 ?_
  refine j_put (ws' := [(h1, .inr (1, [.ref h0, .ref od, .int (iI ol), .ref w0, .ref dq, .int (iI 0), .int (iI 0), .int (iI (-1)), .int (iI 0)])), (h0, .inr (0, [.ref c0])), (c0, .inl (T 0, 2880, .inl (fun j : Nat => iI (B j)))), (od, .inl (T 0, 4, .inl (fun j : Nat => iI (D j)))), (w0, .inl (T 1, 144, .inl (fun j : Nat => iI (bI (W j))))), (dq, .inl (T 0, 144, .inl (fun j : Nat => iI (Q j))))]) h dX1_find_17 f_X1_find_35 p_X1_8 0 rfl rfl rfl (Nat.le_of_ble_eq_true rfl) rfl ?_
  refine j_sipush h dX1_find_20 (by decide) ?_
  refine j_istore_n (lv' := [(0, .ref h1), (1, .int (iI 143))]) h dX1_find_23 [1, 0] rfl (by decide) rfl ?_
  have lp24 : ∀ (n24 : Nat) (p : Int) (pn : Int) (fi : Int) (hp : -1 ≤ p ∧ p ≤ 143) (hpl : pn + cntI (hasD B D ol) (p + 1) = cntI (hasD B D ol) 144) (hfi : fi = fuI (hasD B D ol) (p + 1) 144), ((p + 1).toNat) < n24 → J X 0 0 24 [(0, .ref h1), (1, .int (iI p))] [] [(h1, .inr (1, [.ref h0, .ref od, .int (iI ol), .ref w0, .ref dq, .int (iI pn), .int (iI 0), .int (iI fi), .int (iI 0)])), (h0, .inr (0, [.ref c0])), (c0, .inl (T 0, 2880, .inl (fun j : Nat => iI (B j)))), (od, .inl (T 0, 4, .inl (fun j : Nat => iI (D j)))), (w0, .inl (T 1, 144, .inl (fun j : Nat => iI (bI ((dnB (hasD B D ol) W (p + 1)) j))))), (dq, .inl (T 0, 144, .inl (fun j : Nat => iI (Q j))))] := by
    intro n24
    induction n24 with
    | zero => exact fun p pn fi hp hpl hfi hn24 => absurd hn24 (Nat.not_lt_zero _)
    | succ n24 ih24 =>
      intro p pn fi hp hpl hfi hn24
      refine j_iload_n h dX1_find_24 1 rfl rfl ?_
      refine j_if_lt h 69 dX1_find_25 (by decide) (by omega) (fun c401 => ?_) (fun c401 => ?_)
      · skip
        refine j_iconst h dX1_find_69 ?_
        refine j_arr (g := fun j : Nat => iI (bI (((dvI (hasD B D ol) 0).1) j))) (ws' := [(h1, .inr (1, [.ref h0, .ref od, .int (iI ol), .ref w0, .ref dq, .int (iI pn), .int (iI 0), .int (iI fi), .int (iI 0)])), (h0, .inr (0, [.ref c0])), (c0, .inl (T 0, 2880, .inl (fun j : Nat => iI (B j)))), (od, .inl (T 0, 4, .inl (fun j : Nat => iI (D j)))), (w0, .inl (T 1, 144, .inl (fun j : Nat => iI (bI (((dvI (hasD B D ol) 0).1) j))))), (dq, .inl (T 0, 144, .inl (fun j : Nat => iI (Q j))))]) 4 rfl (fun j hj => by rw [dvI_0]; show iI (bI (dnB _ _ _ _)) = _; unfold dnB; rw [if_pos (by omega)]) rfl ?_
        refine j_istore_n (lv' := [(0, .ref h1), (1, .int (iI 0))]) h dX1_find_70 [1, 0] rfl (by decide) rfl ?_
        have lp71 : ∀ (n71 : Nat) (y : Int) (dv : Int) (ms : Int) (Q2 : Int → Int) (hy : 0 ≤ y ∧ y ≤ 144) (hdv : dv = (dvI (hasD B D ol) y).2.1) (hms : ms = (dvI (hasD B D ol) y).2.2), ((144 - y).toNat) < n71 → J X 0 0 71 [(0, .ref h1), (1, .int (iI y))] [] [(h1, .inr (1, [.ref h0, .ref od, .int (iI ol), .ref w0, .ref dq, .int (iI pn), .int (iI dv), .int (iI fi), .int (iI ms)])), (h0, .inr (0, [.ref c0])), (c0, .inl (T 0, 2880, .inl (fun j : Nat => iI (B j)))), (od, .inl (T 0, 4, .inl (fun j : Nat => iI (D j)))), (w0, .inl (T 1, 144, .inl (fun j : Nat => iI (bI (((dvI (hasD B D ol) y).1) j))))), (dq, .inl (T 0, 144, .inl (fun j : Nat => iI (Q2 j))))] := by
          intro n71
          induction n71 with
          | zero => exact fun y dv ms Q2 hy hdv hms hn71 => absurd hn71 (Nat.not_lt_zero _)
          | succ n71 ih71 =>
            intro y dv ms Q2 hy hdv hms hn71
            have hr9 := dvI_rng (hasD B D ol) hy
            refine j_iload_n h dX1_find_71 1 rfl rfl ?_
            refine j_sipush h dX1_find_72 (by decide) ?_
            refine j_icmp_ge h 119 dX1_find_75 (by decide) (by omega) (by omega) (fun c402 => ?_) (fun c402 => ?_)
            · skip
              exact hr _ _ _ dX1_find_119 ⟨(dvI (hasD B D ol) y).1, Q2, (by have e9 : y = 144 := (by omega); rw [hdv, hms, hfi, show p + 1 = 0 by omega, e9, show pn = cntI (hasD B D ol) 144 by (rw [show p + 1 = 0 by omega, cntI_0] at hpl; omega)])⟩
            · skip
              refine j_aload_n h dX1_find_78 0 rfl rfl ?_
              refine j_get h dX1_find_79 f_X1_find_19 0 rfl rfl ?_
              refine j_iload_n h dX1_find_82 1 rfl rfl ?_
              refine j_zald (f := (dvI (hasD B D ol) y).1) h y dX1_find_83 4 rfl (by decide) (by omega) (by omega) ?_
              refine j_ifeqB h 113 dX1_find_84 (by decide) (fun c403 => ?_) (fun c403 => ?_)
              · skip
                refine j_iinc (lv' := [(0, .ref h1), (1, .int (iI (y + 1)))]) h dX1_find_113 1 [1, 0] rfl (by decide) rfl ?_
                refine j_goto (tgt := 71) h dX1_find_116 (by decide) ?_
                refine j_eq (ws' := [(h1, .inr (1, [.ref h0, .ref od, .int (iI ol), .ref w0, .ref dq, .int (iI pn), .int (iI dv), .int (iI fi), .int (iI ms)])), (h0, .inr (0, [.ref c0])), (c0, .inl (T 0, 2880, .inl (fun j : Nat => iI (B j)))), (od, .inl (T 0, 4, .inl (fun j : Nat => iI (D j)))), (w0, .inl (T 1, 144, .inl (fun j : Nat => iI (bI (((dvI (hasD B D ol) (y + 1)).1) j))))), (dq, .inl (T 0, 144, .inl (fun j : Nat => iI (Q2 j))))]) rfl rfl rfl rfl rfl (by rw [dvI_f (by omega) c403]) ?_
                exact ih71 (y + 1) dv ms Q2 (by first | assumption | omega) (by rw [dvI_f (by omega) c403]; exact hdv) (by rw [dvI_f (by omega) c403]; exact hms) (by omega)
              · skip
                refine j_aload_n h dX1_find_87 0 rfl rfl ?_
                refine j_dup h dX1_find_88 rfl ?_
                refine j_get h dX1_find_89 f_X1_find_29 0 rfl rfl ?_
                refine j_iconst h dX1_find_92 ?_
                refine j_iadd h dX1_find_93 ?_
                refine j_put (ws' := [(h1, .inr (1, [.ref h0, .ref od, .int (iI ol), .ref w0, .ref dq, .int (iI pn), .int (iI (dv + 1)), .int (iI fi), .int (iI ms)])), (h0, .inr (0, [.ref c0])), (c0, .inl (T 0, 2880, .inl (fun j : Nat => iI (B j)))), (od, .inl (T 0, 4, .inl (fun j : Nat => iI (D j)))), (w0, .inl (T 1, 144, .inl (fun j : Nat => iI (bI (((dvI (hasD B D ol) y).1) j))))), (dq, .inl (T 0, 144, .inl (fun j : Nat => iI (Q2 j))))]) h dX1_find_94 f_X1_find_29 p_X1_6 0 rfl rfl rfl (Nat.le_of_ble_eq_true rfl) rfl ?_
                refine j_aload_n h dX1_find_97 0 rfl rfl ?_
                refine j_aload_n h dX1_find_98 0 rfl rfl ?_
                refine j_get h dX1_find_99 f_X1_find_35 0 rfl rfl ?_
                refine j_aload_n h dX1_find_102 0 rfl rfl ?_
                refine j_iload_n h dX1_find_103 1 rfl rfl ?_
                refine j_callVi (As := [.int (iI y)]) (wr := [(h0, .inr (0, [.ref c0])), (c0, .inl (T 0, 2880, .inl (fun j : Nat => iI (B j)))), (od, .inl (T 0, 4, .inl (fun j : Nat => iI (D j))))]) (cells' := 0) (slots' := 0) h dX1_find_104 (ct_X1_takeGroup T h1 h0 od w0 dq ol pn (dv + 1) fi ms ((dvI (hasD B D ol) y).1) Q2 y (by first | assumption | omega)) k_X1_takeGroup gX1_find_X1_takeGroup rfl rfl 0 rfl ⟨Nat.le_of_ble_eq_true rfl, Nat.le_of_ble_eq_true rfl⟩ rfl rfl (Nat.le_of_ble_eq_true rfl) ⟨Nat.le_of_ble_eq_true rfl, Nat.le_of_ble_eq_true rfl⟩ rfl rfl [0, 4, 5] [1, 2, 3] rfl rfl rfl rfl (by decide) (fun r9 u9 p404 => ?_)
                obtain ⟨Q1405, rfl, rfl⟩ := p404
                refine j_eq (ws' := [(h0, .inr (0, [.ref c0])), (c0, .inl (T 0, 2880, .inl (fun j : Nat => iI (B j)))), (od, .inl (T 0, 4, .inl (fun j : Nat => iI (D j)))), (h1, .inr (1, [.ref h0, .ref od, .int (iI ol), .ref w0, .ref dq, .int (iI pn), .int (iI (dv + 1)), .int (iI fi), .int (iI ms)])), (w0, .inl (T 1, 144, .inl (fun j : Nat => iI (bI ((tkW ((dvI (hasD B D ol) y).1) y) j))))), (dq, .inl (T 0, 144, .inl (fun j : Nat => iI (Q1405 j))))]) rfl rfl rfl rfl rfl rfl ?_
                have hl9 := tkS_len (W := (dvI (hasD B D ol) y).1) (p := y) (by omega)
                refine j_mmax h dX1_find_107 (by omega) (by omega) (List.mem_of_getElem? (i := 6) rfl) (List.mem_of_getElem? (i := 7) rfl) (List.mem_of_getElem? (i := 8) rfl) (List.mem_of_getElem? (i := 9) rfl) (Nat.le_of_ble_eq_true rfl) (Nat.le_of_ble_eq_true rfl) (Nat.le_of_ble_eq_true rfl) (Nat.le_of_ble_eq_true rfl) ?_
                refine j_put (ws' := [(h0, .inr (0, [.ref c0])), (c0, .inl (T 0, 2880, .inl (fun j : Nat => iI (B j)))), (od, .inl (T 0, 4, .inl (fun j : Nat => iI (D j)))), (h1, .inr (1, [.ref h0, .ref od, .int (iI ol), .ref w0, .ref dq, .int (iI pn), .int (iI (dv + 1)), .int (iI fi), .int (iI (if ms < ((tkS ((dvI (hasD B D ol) y).1) y).2.length : Int) then ((tkS ((dvI (hasD B D ol) y).1) y).2.length : Int) else ms))])), (w0, .inl (T 1, 144, .inl (fun j : Nat => iI (bI ((tkW ((dvI (hasD B D ol) y).1) y) j))))), (dq, .inl (T 0, 144, .inl (fun j : Nat => iI (Q1405 j))))]) h dX1_find_110 f_X1_find_35 p_X1_8 3 rfl rfl rfl (Nat.le_of_ble_eq_true rfl) rfl ?_
                refine j_iinc (lv' := [(0, .ref h1), (1, .int (iI (y + 1)))]) h dX1_find_113 1 [1, 0] rfl (by decide) rfl ?_
                refine j_goto (tgt := 71) h dX1_find_116 (by decide) ?_
                refine j_ws (ws' := [(h1, .inr (1, [.ref h0, .ref od, .int (iI ol), .ref w0, .ref dq, .int (iI pn), .int (iI (dv + 1)), .int (iI fi), .int (iI (if ms < ((tkS ((dvI (hasD B D ol) y).1) y).2.length : Int) then ((tkS ((dvI (hasD B D ol) y).1) y).2.length : Int) else ms))])), (h0, .inr (0, [.ref c0])), (c0, .inl (T 0, 2880, .inl (fun j : Nat => iI (B j)))), (od, .inl (T 0, 4, .inl (fun j : Nat => iI (D j)))), (w0, .inl (T 1, 144, .inl (fun j : Nat => iI (bI ((tkW ((dvI (hasD B D ol) y).1) y) j))))), (dq, .inl (T 0, 144, .inl (fun j : Nat => iI (Q1405 j))))]) [3, 0, 1, 2, 4, 5] rfl rfl ?_
                refine j_eq (ws' := [(h1, .inr (1, [.ref h0, .ref od, .int (iI ol), .ref w0, .ref dq, .int (iI pn), .int (iI (dv + 1)), .int (iI fi), .int (iI (if ms < ((tkS ((dvI (hasD B D ol) y).1) y).2.length : Int) then ((tkS ((dvI (hasD B D ol) y).1) y).2.length : Int) else ms))])), (h0, .inr (0, [.ref c0])), (c0, .inl (T 0, 2880, .inl (fun j : Nat => iI (B j)))), (od, .inl (T 0, 4, .inl (fun j : Nat => iI (D j)))), (w0, .inl (T 1, 144, .inl (fun j : Nat => iI (bI (((dvI (hasD B D ol) (y + 1)).1) j))))), (dq, .inl (T 0, 144, .inl (fun j : Nat => iI (Q1405 j))))]) rfl rfl rfl rfl rfl (by rw [dvI_t (by omega) c403]) ?_
                exact ih71 (y + 1) (dv + 1) (if ms < ((tkS ((dvI (hasD B D ol) y).1) y).2.length : Int) then ((tkS ((dvI (hasD B D ol) y).1) y).2.length : Int) else ms) Q1405 (by first | assumption | omega) (by rw [dvI_t (by omega) c403, hdv]) (by rw [dvI_t (by omega) c403, hms]) (by omega)
        exact lp71 _ 0 0 0 Q (by first | assumption | omega) (by rw [dvI_0]) (by rw [dvI_0]) (Nat.lt_succ_self _)
      · skip
        refine j_aload_n h dX1_find_28 0 rfl rfl ?_
        refine j_get h dX1_find_29 f_X1_find_19 0 rfl rfl ?_
        refine j_iload_n h dX1_find_32 1 rfl rfl ?_
        refine j_aload_n h dX1_find_33 0 rfl rfl ?_
        refine j_iload_n h dX1_find_34 1 rfl rfl ?_
        refine j_callVi (As := [.int (iI p)]) (wr := [(w0, .inl (T 1, 144, .inl (fun j : Nat => iI (bI ((dnB (hasD B D ol) W (p + 1)) j))))), (dq, .inl (T 0, 144, .inl (fun j : Nat => iI (Q j))))]) (cells' := 0) (slots' := 0) h dX1_find_35 (ct_X1_isAt T h1 h0 od w0 dq ol pn 0 fi 0 c0 B D p (by first | assumption | omega) (by first | assumption | omega) (by first | assumption | omega) (by first | assumption | omega)) k_X1_isAt gX1_find_X1_isAt rfl rfl 0 rfl ⟨Nat.le_of_ble_eq_true rfl, Nat.le_of_ble_eq_true rfl⟩ rfl rfl (Nat.le_of_ble_eq_true rfl) ⟨Nat.le_of_ble_eq_true rfl, Nat.le_of_ble_eq_true rfl⟩ rfl rfl [0, 1, 2, 3] [4, 5] rfl rfl rfl rfl (by decide) (fun r9 u9 p406 => ?_)
        obtain ⟨rfl, rfl⟩ := p406
        refine j_eq (ws' := [(w0, .inl (T 1, 144, .inl (fun j : Nat => iI (bI ((dnB (hasD B D ol) W (p + 1)) j))))), (dq, .inl (T 0, 144, .inl (fun j : Nat => iI (Q j)))), (h1, .inr (1, [.ref h0, .ref od, .int (iI ol), .ref w0, .ref dq, .int (iI pn), .int (iI 0), .int (iI fi), .int (iI 0)])), (h0, .inr (0, [.ref c0])), (c0, .inl (T 0, 2880, .inl (fun j : Nat => iI (B j)))), (od, .inl (T 0, 4, .inl (fun j : Nat => iI (D j))))]) rfl rfl rfl rfl rfl rfl ?_
        refine j_zast (v := (hasD B D ol p)) (f := dnB (hasD B D ol) W (p + 1)) (ws' := [(w0, .inl (T 1, 144, .inl (fun j : Nat => iI (bI ((upI (dnB (hasD B D ol) W (p + 1)) p (hasD B D ol p)) j))))), (dq, .inl (T 0, 144, .inl (fun j : Nat => iI (Q j)))), (h1, .inr (1, [.ref h0, .ref od, .int (iI ol), .ref w0, .ref dq, .int (iI pn), .int (iI 0), .int (iI fi), .int (iI 0)])), (h0, .inr (0, [.ref c0])), (c0, .inl (T 0, 2880, .inl (fun j : Nat => iI (B j)))), (od, .inl (T 0, 4, .inl (fun j : Nat => iI (D j))))]) h p dX1_find_38 0 rfl (by decide) (by omega) (by omega) rfl ?_
        refine j_aload_n h dX1_find_39 0 rfl rfl ?_
        refine j_get h dX1_find_40 f_X1_find_19 2 rfl rfl ?_
        refine j_iload_n h dX1_find_43 1 rfl rfl ?_
        refine j_zald (f := (upI (dnB (hasD B D ol) W (p + 1)) p (hasD B D ol p))) h p dX1_find_44 0 rfl (by decide) (by omega) (by omega) ?_
        rw [show ((upI (dnB (hasD B D ol) W (p + 1)) p (hasD B D ol p)) p) = (hasD B D ol p) from upI_s]
        refine j_ifeqB h 63 dX1_find_45 (by decide) (fun c407 => ?_) (fun c407 => ?_)
        · skip
          refine j_iinc (lv' := [(0, .ref h1), (1, .int (iI (p + (-1))))]) h dX1_find_63 1 [1, 0] rfl (by decide) rfl ?_
          refine j_goto (tgt := 24) h dX1_find_66 (by decide) ?_
          refine j_ws (ws' := [(h1, .inr (1, [.ref h0, .ref od, .int (iI ol), .ref w0, .ref dq, .int (iI pn), .int (iI 0), .int (iI fi), .int (iI 0)])), (h0, .inr (0, [.ref c0])), (c0, .inl (T 0, 2880, .inl (fun j : Nat => iI (B j)))), (od, .inl (T 0, 4, .inl (fun j : Nat => iI (D j)))), (w0, .inl (T 1, 144, .inl (fun j : Nat => iI (bI ((upI (dnB (hasD B D ol) W (p + 1)) p (hasD B D ol p)) j))))), (dq, .inl (T 0, 144, .inl (fun j : Nat => iI (Q j))))]) [2, 3, 4, 5, 0, 1] rfl rfl ?_
          refine j_eq (ws' := [(h1, .inr (1, [.ref h0, .ref od, .int (iI ol), .ref w0, .ref dq, .int (iI pn), .int (iI 0), .int (iI fi), .int (iI 0)])), (h0, .inr (0, [.ref c0])), (c0, .inl (T 0, 2880, .inl (fun j : Nat => iI (B j)))), (od, .inl (T 0, 4, .inl (fun j : Nat => iI (D j)))), (w0, .inl (T 1, 144, .inl (fun j : Nat => iI (bI ((dnB (hasD B D ol) W ((p + (-1)) + 1)) j))))), (dq, .inl (T 0, 144, .inl (fun j : Nat => iI (Q j))))]) rfl rfl rfl rfl rfl (by rw [dnB_s (by omega) rfl, show p + -1 + 1 = p by omega]) ?_
          exact ih24 (p + (-1)) pn fi (by first | assumption | omega) (by rw [cntI_f (by omega) c407] at hpl; rw [show p + -1 + 1 = p by omega]; exact hpl) (by rw [show p + -1 + 1 = p by omega, fuI_f (by omega) c407]; exact hfi) (by omega)
        · skip
          refine j_aload_n h dX1_find_48 0 rfl rfl ?_
          refine j_dup h dX1_find_49 rfl ?_
          refine j_get h dX1_find_50 f_X1_find_26 2 rfl rfl ?_
          refine j_iconst h dX1_find_53 ?_
          refine j_iadd h dX1_find_54 ?_
          refine j_put (ws' := [(w0, .inl (T 1, 144, .inl (fun j : Nat => iI (bI ((upI (dnB (hasD B D ol) W (p + 1)) p (hasD B D ol p)) j))))), (dq, .inl (T 0, 144, .inl (fun j : Nat => iI (Q j)))), (h1, .inr (1, [.ref h0, .ref od, .int (iI ol), .ref w0, .ref dq, .int (iI (pn + 1)), .int (iI 0), .int (iI fi), .int (iI 0)])), (h0, .inr (0, [.ref c0])), (c0, .inl (T 0, 2880, .inl (fun j : Nat => iI (B j)))), (od, .inl (T 0, 4, .inl (fun j : Nat => iI (D j))))]) h dX1_find_55 f_X1_find_26 p_X1_5 2 rfl rfl rfl (Nat.le_of_ble_eq_true rfl) rfl ?_
          refine j_aload_n h dX1_find_58 0 rfl rfl ?_
          refine j_iload_n h dX1_find_59 1 rfl rfl ?_
          refine j_put (ws' := [(w0, .inl (T 1, 144, .inl (fun j : Nat => iI (bI ((upI (dnB (hasD B D ol) W (p + 1)) p (hasD B D ol p)) j))))), (dq, .inl (T 0, 144, .inl (fun j : Nat => iI (Q j)))), (h1, .inr (1, [.ref h0, .ref od, .int (iI ol), .ref w0, .ref dq, .int (iI (pn + 1)), .int (iI 0), .int (iI p), .int (iI 0)])), (h0, .inr (0, [.ref c0])), (c0, .inl (T 0, 2880, .inl (fun j : Nat => iI (B j)))), (od, .inl (T 0, 4, .inl (fun j : Nat => iI (D j))))]) h dX1_find_60 f_X1_find_32 p_X1_7 2 rfl rfl rfl (Nat.le_of_ble_eq_true rfl) rfl ?_
          refine j_iinc (lv' := [(0, .ref h1), (1, .int (iI (p + (-1))))]) h dX1_find_63 1 [1, 0] rfl (by decide) rfl ?_
          refine j_goto (tgt := 24) h dX1_find_66 (by decide) ?_
          refine j_ws (ws' := [(h1, .inr (1, [.ref h0, .ref od, .int (iI ol), .ref w0, .ref dq, .int (iI (pn + 1)), .int (iI 0), .int (iI p), .int (iI 0)])), (h0, .inr (0, [.ref c0])), (c0, .inl (T 0, 2880, .inl (fun j : Nat => iI (B j)))), (od, .inl (T 0, 4, .inl (fun j : Nat => iI (D j)))), (w0, .inl (T 1, 144, .inl (fun j : Nat => iI (bI ((upI (dnB (hasD B D ol) W (p + 1)) p (hasD B D ol p)) j))))), (dq, .inl (T 0, 144, .inl (fun j : Nat => iI (Q j))))]) [2, 3, 4, 5, 0, 1] rfl rfl ?_
          refine j_eq (ws' := [(h1, .inr (1, [.ref h0, .ref od, .int (iI ol), .ref w0, .ref dq, .int (iI (pn + 1)), .int (iI 0), .int (iI p), .int (iI 0)])), (h0, .inr (0, [.ref c0])), (c0, .inl (T 0, 2880, .inl (fun j : Nat => iI (B j)))), (od, .inl (T 0, 4, .inl (fun j : Nat => iI (D j)))), (w0, .inl (T 1, 144, .inl (fun j : Nat => iI (bI ((dnB (hasD B D ol) W ((p + (-1)) + 1)) j))))), (dq, .inl (T 0, 144, .inl (fun j : Nat => iI (Q j))))]) rfl rfl rfl rfl rfl (by rw [dnB_s (by omega) rfl, show p + -1 + 1 = p by omega]) ?_
          exact ih24 (p + (-1)) (pn + 1) p (by first | assumption | omega) (by rw [cntI_t (by omega) c407] at hpl; rw [show p + -1 + 1 = p by omega]; omega) (by rw [show p + -1 + 1 = p by omega, fuI_t (by omega) c407]) (by omega)
  refine j_eq (ws' := [(h1, .inr (1, [.ref h0, .ref od, .int (iI ol), .ref w0, .ref dq, .int (iI 0), .int (iI 0), .int (iI (-1)), .int (iI 0)])), (h0, .inr (0, [.ref c0])), (c0, .inl (T 0, 2880, .inl (fun j : Nat => iI (B j)))), (od, .inl (T 0, 4, .inl (fun j : Nat => iI (D j)))), (w0, .inl (T 1, 144, .inl (fun j : Nat => iI (bI ((dnB (hasD B D ol) W (143 + 1)) j))))), (dq, .inl (T 0, 144, .inl (fun j : Nat => iI (Q j))))]) rfl rfl rfl rfl rfl (by rw [show (143 + 1 : Int) = 144 from rfl, dnB_144]) ?_
  exact lp24 _ 143 0 (-1) (by first | assumption | omega) (by exact Int.zero_add _) (by exact (fuI_e (by omega)).symm) (Nat.lt_succ_self _)

abbrev rmX11_device : Room := { frames := 4, cells := 0, slots := 0, locals := 90 }
theorem in_X11_device_X11 : ∀ w ∈ u_ws RX11 TX11 13, w ∈ wsX11_device := fun w hw => List.mem_cons_of_mem _ (List.mem_append_left _ (List.mem_append_left _ (List.mem_append_right _ (hw))))
theorem f_X11_device_83 : FlOK RX11 83 wsX11_device 11 9 := ⟨_, _, _, rfl, by decide, in_X11_device_X11, List.mem_of_getElem? (i := 1) rfl⟩
theorem k_X1_takeOrder : CkOK yX1_takeOrder wsX1_takeOrder rmX1_takeOrder 0 0 cX1_takeOrder 4 (some .boolean) 1 := ⟨⟨_, rfl⟩, rfl, rfl, by decide +kernel⟩
theorem k_X1_find : CkOK yX1_find wsX1_find rmX1_find 0 0 cX1_find 2 none 0 := ⟨⟨_, rfl⟩, rfl, rfl, by decide +kernel⟩
theorem in_X11_device_X1 : ∀ w ∈ u_ws RX1 TX1 9, w ∈ wsX11_device := fun w hw => List.mem_cons_of_mem _ (List.mem_append_left _ (List.mem_append_right _ (hw)))
theorem f_X11_device_219 : FnOK RX11 219 wsX11_device 1 5 := ⟨_, _, _, "LayerShop", rfl, by decide, in_X11_device_X1, List.mem_of_getElem? (i := 5) rfl⟩
theorem f_X11_device_222 : FnOK RX11 222 wsX11_device 1 6 := ⟨_, _, _, "LayerShop", rfl, by decide, in_X11_device_X1, List.mem_of_getElem? (i := 6) rfl⟩
theorem f_X11_device_225 : FnOK RX11 225 wsX11_device 1 7 := ⟨_, _, _, "LayerShop", rfl, by decide, in_X11_device_X1, List.mem_of_getElem? (i := 7) rfl⟩
theorem f_X11_device_228 : FnOK RX11 228 wsX11_device 1 8 := ⟨_, _, _, "LayerShop", rfl, by decide, in_X11_device_X1, List.mem_of_getElem? (i := 8) rfl⟩
set_option maxHeartbeats 600000 in
set_option maxRecDepth 100000 in
/-- device -/
theorem ct_X11_device (T : Nat → ClassId) (h11 : Nat) (h0 : Nat) (h2 : Nat) (h10 : Nat) (h4 : Nat) (h8 : Nat) (h9 : Nat) (h5 : Nat) (h6 : Nat) (h3 : Nat) (h1 : Nat) (pg : Nat) (pb : Int) (sb : Int) (od : Nat) (w0 : Nat) (dq : Nat) (ol : Int) (pl : Int) (gr : Int) (le : Int) (mo : Int) (c0 : Nat) (B : Int → Int) (D : Int → Int) (W : Int → Bool) (Q : Int → Int) (o : Int) (w : Int) (hB : BOK B) (ho : -2147483648 ≤ o ∧ o ≤ 2147483647) (hw : -2147483648 ≤ w ∧ w ≤ 2147483647) : CtI T yX11_device wsX11_device rmX11_device 0 0 [.ref h11, .int (iI o), .int (iI w)] [(h11, .inr (11, [.ref h0, .ref h2, .ref h10, .ref h4, .ref h8, .ref h9, .ref h5, .ref h6, .ref h3, .ref h1, .ref pg, .int (iI pb), .int (iI sb)])), (h1, .inr (1, [.ref h0, .ref od, .int (iI ol), .ref w0, .ref dq, .int (iI pl), .int (iI gr), .int (iI le), .int (iI mo)])), (h0, .inr (0, [.ref c0])), (c0, .inl (T 0, 2880, .inl (fun j : Nat => iI (B j)))), (od, .inl (T 0, 4, .inl (fun j : Nat => iI (D j)))), (w0, .inl (T 1, 144, .inl (fun j : Nat => iI (bI (W j))))), (dq, .inl (T 0, 144, .inl (fun j : Nat => iI (Q j))))] (fun r8 u => ∃ m1 : Int, ∃ pl1 : Int, ∃ gr1 : Int, ∃ le1 : Int, ∃ mo1 : Int, ∃ Od1 : Int → Int, ∃ W1 : Int → Bool, ∃ Q1 : Int → Int, r8 = (iI (devR B o w)) ∧ u = [(h11, .inr (11, [.ref h0, .ref h2, .ref h10, .ref h4, .ref h8, .ref h9, .ref h5, .ref h6, .ref h3, .ref h1, .ref pg, .int (iI pb), .int (iI sb)])), (h1, .inr (1, [.ref h0, .ref od, .int (iI m1), .ref w0, .ref dq, .int (iI pl1), .int (iI gr1), .int (iI le1), .int (iI mo1)])), (h0, .inr (0, [.ref c0])), (c0, .inl (T 0, 2880, .inl (fun j : Nat => iI (B j)))), (od, .inl (T 0, 4, .inl (fun j : Nat => iI (Od1 j)))), (w0, .inl (T 1, 144, .inl (fun j : Nat => iI (bI (W1 j))))), (dq, .inl (T 0, 144, .inl (fun j : Nat => iI (Q1 j))))]) := by
  refine ctI_of (cc := cX11_device) (maxL := 3) (ret := (some .int)) (by decide +kernel) rfl rfl (fun r u hp => by obtain ⟨_, _, _, _, _, _, _, _, rfl, -⟩ := hp; rfl) (Nat.le_of_ble_eq_true rfl) (fun X h hinit hr => ?_)
  refine j_eq (lv' := [(0, .ref h11), (1, .int (iI o)), (2, .int (iI w))]) rfl rfl rfl rfl rfl rfl ?_
  refine j_aload_n h dX11_device_0 0 rfl rfl ?_
  refine j_get h dX11_device_1 f_X11_device_83 0 rfl rfl ?_
  refine j_iload_n h dX11_device_4 1 rfl rfl ?_
  refine j_callVi (As := [.int (iI o)]) (wr := [(h11, .inr (11, [.ref h0, .ref h2, .ref h10, .ref h4, .ref h8, .ref h9, .ref h5, .ref h6, .ref h3, .ref h1, .ref pg, .int (iI pb), .int (iI sb)])), (h0, .inr (0, [.ref c0])), (c0, .inl (T 0, 2880, .inl (fun j : Nat => iI (B j)))), (w0, .inl (T 1, 144, .inl (fun j : Nat => iI (bI (W j))))), (dq, .inl (T 0, 144, .inl (fun j : Nat => iI (Q j))))]) (cells' := 0) (slots' := 0) h dX11_device_5 (ct_X1_takeOrder T h1 h0 od w0 dq ol pl gr le mo D o (by first | assumption | omega)) k_X1_takeOrder gX11_device_X1_takeOrder rfl rfl 1 rfl ⟨Nat.le_of_ble_eq_true rfl, Nat.le_of_ble_eq_true rfl⟩ rfl rfl (Nat.le_of_ble_eq_true rfl) ⟨Nat.le_of_ble_eq_true rfl, Nat.le_of_ble_eq_true rfl⟩ rfl rfl [1, 4] [0, 2, 3, 5, 6] rfl rfl rfl rfl (by decide) (fun r9 u9 p401 => ?_)
  obtain ⟨m1402, Od1403, hm1404, hod405, rfl, rfl⟩ := p401
  refine j_eq (ws' := [(h11, .inr (11, [.ref h0, .ref h2, .ref h10, .ref h4, .ref h8, .ref h9, .ref h5, .ref h6, .ref h3, .ref h1, .ref pg, .int (iI pb), .int (iI sb)])), (h0, .inr (0, [.ref c0])), (c0, .inl (T 0, 2880, .inl (fun j : Nat => iI (B j)))), (w0, .inl (T 1, 144, .inl (fun j : Nat => iI (bI (W j))))), (dq, .inl (T 0, 144, .inl (fun j : Nat => iI (Q j)))), (h1, .inr (1, [.ref h0, .ref od, .int (iI m1402), .ref w0, .ref dq, .int (iI pl), .int (iI gr), .int (iI le), .int (iI mo)])), (od, .inl (T 0, 4, .inl (fun j : Nat => iI (Od1403 j))))]) rfl rfl rfl rfl rfl rfl ?_
  refine j_ifeqB h 20 dX11_device_8 (by decide) (fun c406 => ?_) (fun c406 => ?_)
  · skip
    refine j_bipush h dX11_device_20 (by decide) ?_
    refine j_ws (ws' := [(h11, .inr (11, [.ref h0, .ref h2, .ref h10, .ref h4, .ref h8, .ref h9, .ref h5, .ref h6, .ref h3, .ref h1, .ref pg, .int (iI pb), .int (iI sb)])), (h1, .inr (1, [.ref h0, .ref od, .int (iI m1402), .ref w0, .ref dq, .int (iI pl), .int (iI gr), .int (iI le), .int (iI mo)])), (h0, .inr (0, [.ref c0])), (c0, .inl (T 0, 2880, .inl (fun j : Nat => iI (B j)))), (od, .inl (T 0, 4, .inl (fun j : Nat => iI (Od1403 j)))), (w0, .inl (T 1, 144, .inl (fun j : Nat => iI (bI (W j))))), (dq, .inl (T 0, 144, .inl (fun j : Nat => iI (Q j))))]) [0, 5, 1, 2, 6, 3, 4] rfl rfl ?_
    exact hr _ _ _ _ dX11_device_22 ⟨m1402, pl, gr, le, mo, Od1403, W, Q, (congrArg iI (show ((-102) : Int) = (devR B o w) by unfold devR; first | rw [if_pos (Or.inl (by assumption))] | rw [if_pos (Or.inr (by omega))] | (rw [if_neg (fun z9 => by rcases z9 with z9 | z9; exact absurd (z9.symm.trans (by assumption : ordG o = true)) (by decide); omega)]; (repeat (first | rw [if_pos (by omega)] | rw [if_neg (by omega)])) <;> rw [hasD_cg (B := B) (by assumption : ordG o = true) (by assumption) (by assumption)]))), rfl⟩
  · skip
    refine j_iload_n h dX11_device_11 2 rfl rfl ?_
    refine j_iconst h dX11_device_12 ?_
    refine j_iconst h dX11_device_13 ?_
    refine j_callSi (As := [.int (iI w), .int (iI 0), .int (iI 3)]) (wr := [(h11, .inr (11, [.ref h0, .ref h2, .ref h10, .ref h4, .ref h8, .ref h9, .ref h5, .ref h6, .ref h3, .ref h1, .ref pg, .int (iI pb), .int (iI sb)])), (h0, .inr (0, [.ref c0])), (c0, .inl (T 0, 2880, .inl (fun j : Nat => iI (B j)))), (w0, .inl (T 1, 144, .inl (fun j : Nat => iI (bI (W j))))), (dq, .inl (T 0, 144, .inl (fun j : Nat => iI (Q j)))), (h1, .inr (1, [.ref h0, .ref od, .int (iI m1402), .ref w0, .ref dq, .int (iI pl), .int (iI gr), .int (iI le), .int (iI mo)])), (od, .inl (T 0, 4, .inl (fun j : Nat => iI (Od1403 j))))]) (cells' := 0) (slots' := 0) h dX11_device_14 (ct_X11_within T w 0 3 (by first | assumption | omega) (by first | assumption | omega) (by first | assumption | omega)) k_X11_within gX11_device_X11_within ⟨Nat.le_of_ble_eq_true rfl, Nat.le_of_ble_eq_true rfl⟩ rfl rfl (Nat.le_of_ble_eq_true rfl) ⟨Nat.le_of_ble_eq_true rfl, Nat.le_of_ble_eq_true rfl⟩ rfl rfl [] [0, 1, 2, 3, 4, 5, 6] rfl rfl rfl rfl (by decide) (fun r9 u9 p407 => ?_)
    obtain ⟨rfl, rfl⟩ := p407
    refine j_eq (ws' := [(h11, .inr (11, [.ref h0, .ref h2, .ref h10, .ref h4, .ref h8, .ref h9, .ref h5, .ref h6, .ref h3, .ref h1, .ref pg, .int (iI pb), .int (iI sb)])), (h0, .inr (0, [.ref c0])), (c0, .inl (T 0, 2880, .inl (fun j : Nat => iI (B j)))), (w0, .inl (T 1, 144, .inl (fun j : Nat => iI (bI (W j))))), (dq, .inl (T 0, 144, .inl (fun j : Nat => iI (Q j)))), (h1, .inr (1, [.ref h0, .ref od, .int (iI m1402), .ref w0, .ref dq, .int (iI pl), .int (iI gr), .int (iI le), .int (iI mo)])), (od, .inl (T 0, 4, .inl (fun j : Nat => iI (Od1403 j))))]) rfl rfl rfl rfl rfl rfl ?_
    refine j_ifneB h 23 dX11_device_17 (by decide) (fun c408 => ?_) (fun c408 => ?_)
    · skip
      replace c408 := of_decide_eq_true c408
      refine j_aload_n h dX11_device_23 0 rfl rfl ?_
      refine j_get h dX11_device_24 f_X11_device_83 0 rfl rfl ?_
      refine j_callVv (As := []) (wr := [(h11, .inr (11, [.ref h0, .ref h2, .ref h10, .ref h4, .ref h8, .ref h9, .ref h5, .ref h6, .ref h3, .ref h1, .ref pg, .int (iI pb), .int (iI sb)]))]) (cells' := 0) (slots' := 0) h dX11_device_27 (ct_X1_find T h1 h0 od w0 dq m1402 pl gr le mo c0 B Od1403 W Q (by first | assumption | omega) (by have q9 := ordN_rng o; have q8 := (by assumption : ordG o = true → _ = ordN o) (by assumption); omega) (by intro k9 a b; have q8 := (by assumption : ordG o = true → _ = ordN o) (by assumption); have q7 := (by assumption : ordG o = true → ∀ k9 : Int, 0 ≤ k9 → k9 < ordN o → _ = ordD o k9) (by assumption) k9 a (by omega); rw [q7]; exact ordD_rng (by assumption) k9 a (by omega))) k_X1_find gX11_device_X1_find rfl rfl 5 rfl ⟨Nat.le_of_ble_eq_true rfl, Nat.le_of_ble_eq_true rfl⟩ rfl rfl (Nat.le_of_ble_eq_true rfl) ⟨Nat.le_of_ble_eq_true rfl, Nat.le_of_ble_eq_true rfl⟩ rfl rfl [5, 1, 2, 6, 3, 4] [0] rfl rfl rfl rfl (by decide) (fun u9 p409 => ?_)
      obtain ⟨W1410, Q1411, rfl⟩ := p409
      refine j_eq (ws' := [(h11, .inr (11, [.ref h0, .ref h2, .ref h10, .ref h4, .ref h8, .ref h9, .ref h5, .ref h6, .ref h3, .ref h1, .ref pg, .int (iI pb), .int (iI sb)])), (h1, .inr (1, [.ref h0, .ref od, .int (iI m1402), .ref w0, .ref dq, .int (iI (cntI (hasD B Od1403 m1402) 144)), .int (iI ((dvI (hasD B Od1403 m1402) 144).2.1)), .int (iI (fuI (hasD B Od1403 m1402) 0 144)), .int (iI ((dvI (hasD B Od1403 m1402) 144).2.2))])), (h0, .inr (0, [.ref c0])), (c0, .inl (T 0, 2880, .inl (fun j : Nat => iI (B j)))), (od, .inl (T 0, 4, .inl (fun j : Nat => iI (Od1403 j)))), (w0, .inl (T 1, 144, .inl (fun j : Nat => iI (bI (W1410 j))))), (dq, .inl (T 0, 144, .inl (fun j : Nat => iI (Q1411 j))))]) rfl rfl rfl rfl rfl rfl ?_
      refine j_iload_n h dX11_device_30 2 rfl rfl ?_
      rcases (show w = 0 ∨ w = 1 ∨ w = 2 ∨ (w < 0 ∨ 2 < w) by omega) with c412 | c412 | c412 | c412
      · skip
        refine j_tabIn h 56 dX11_device_31 (by omega) (by omega) (by omega) (by rw [c412]; rfl) (by decide) ?_
        refine j_aload_n h dX11_device_56 0 rfl rfl ?_
        refine j_get h dX11_device_57 f_X11_device_83 0 rfl rfl ?_
        refine j_getN h dX11_device_60 f_X11_device_219 1 rfl rfl ?_
        exact hr _ _ _ _ dX11_device_63 ⟨m1402, (cntI (hasD B Od1403 m1402) 144), ((dvI (hasD B Od1403 m1402) 144).2.1), (fuI (hasD B Od1403 m1402) 0 144), ((dvI (hasD B Od1403 m1402) 144).2.2), Od1403, W1410, Q1411, (congrArg iI (show ((cntI (hasD B Od1403 m1402) 144) : Int) = (devR B o w) by unfold devR; first | rw [if_pos (Or.inl (by assumption))] | rw [if_pos (Or.inr (by omega))] | (rw [if_neg (fun z9 => by rcases z9 with z9 | z9; exact absurd (z9.symm.trans (by assumption : ordG o = true)) (by decide); omega)]; (repeat (first | rw [if_pos (by omega)] | rw [if_neg (by omega)])) <;> rw [hasD_cg (B := B) (by assumption : ordG o = true) (by assumption) (by assumption)]))), rfl⟩
      · skip
        refine j_tabIn h 64 dX11_device_31 (by omega) (by omega) (by omega) (by rw [c412]; rfl) (by decide) ?_
        refine j_aload_n h dX11_device_64 0 rfl rfl ?_
        refine j_get h dX11_device_65 f_X11_device_83 0 rfl rfl ?_
        refine j_getN h dX11_device_68 f_X11_device_222 1 rfl rfl ?_
        exact hr _ _ _ _ dX11_device_71 ⟨m1402, (cntI (hasD B Od1403 m1402) 144), ((dvI (hasD B Od1403 m1402) 144).2.1), (fuI (hasD B Od1403 m1402) 0 144), ((dvI (hasD B Od1403 m1402) 144).2.2), Od1403, W1410, Q1411, (congrArg iI (show (((dvI (hasD B Od1403 m1402) 144).2.1) : Int) = (devR B o w) by unfold devR; first | rw [if_pos (Or.inl (by assumption))] | rw [if_pos (Or.inr (by omega))] | (rw [if_neg (fun z9 => by rcases z9 with z9 | z9; exact absurd (z9.symm.trans (by assumption : ordG o = true)) (by decide); omega)]; (repeat (first | rw [if_pos (by omega)] | rw [if_neg (by omega)])) <;> rw [hasD_cg (B := B) (by assumption : ordG o = true) (by assumption) (by assumption)]))), rfl⟩
      · skip
        refine j_tabIn h 72 dX11_device_31 (by omega) (by omega) (by omega) (by rw [c412]; rfl) (by decide) ?_
        refine j_aload_n h dX11_device_72 0 rfl rfl ?_
        refine j_get h dX11_device_73 f_X11_device_83 0 rfl rfl ?_
        refine j_getN h dX11_device_76 f_X11_device_225 1 rfl rfl ?_
        exact hr _ _ _ _ dX11_device_79 ⟨m1402, (cntI (hasD B Od1403 m1402) 144), ((dvI (hasD B Od1403 m1402) 144).2.1), (fuI (hasD B Od1403 m1402) 0 144), ((dvI (hasD B Od1403 m1402) 144).2.2), Od1403, W1410, Q1411, (congrArg iI (show ((fuI (hasD B Od1403 m1402) 0 144) : Int) = (devR B o w) by unfold devR; first | rw [if_pos (Or.inl (by assumption))] | rw [if_pos (Or.inr (by omega))] | (rw [if_neg (fun z9 => by rcases z9 with z9 | z9; exact absurd (z9.symm.trans (by assumption : ordG o = true)) (by decide); omega)]; (repeat (first | rw [if_pos (by omega)] | rw [if_neg (by omega)])) <;> rw [hasD_cg (B := B) (by assumption : ordG o = true) (by assumption) (by assumption)]))), rfl⟩
      · skip
        refine j_tabOut h 80 dX11_device_31 (by omega) (by omega) (by decide) ?_
        refine j_aload_n h dX11_device_80 0 rfl rfl ?_
        refine j_get h dX11_device_81 f_X11_device_83 0 rfl rfl ?_
        refine j_getN h dX11_device_84 f_X11_device_228 1 rfl rfl ?_
        exact hr _ _ _ _ dX11_device_87 ⟨m1402, (cntI (hasD B Od1403 m1402) 144), ((dvI (hasD B Od1403 m1402) 144).2.1), (fuI (hasD B Od1403 m1402) 0 144), ((dvI (hasD B Od1403 m1402) 144).2.2), Od1403, W1410, Q1411, (congrArg iI (show (((dvI (hasD B Od1403 m1402) 144).2.2) : Int) = (devR B o w) by unfold devR; first | rw [if_pos (Or.inl (by assumption))] | rw [if_pos (Or.inr (by omega))] | (rw [if_neg (fun z9 => by rcases z9 with z9 | z9; exact absurd (z9.symm.trans (by assumption : ordG o = true)) (by decide); omega)]; (repeat (first | rw [if_pos (by omega)] | rw [if_neg (by omega)])) <;> rw [hasD_cg (B := B) (by assumption : ordG o = true) (by assumption) (by assumption)]))), rfl⟩
    · skip
      replace c408 := of_decide_eq_false c408
      refine j_bipush h dX11_device_20 (by decide) ?_
      refine j_ws (ws' := [(h11, .inr (11, [.ref h0, .ref h2, .ref h10, .ref h4, .ref h8, .ref h9, .ref h5, .ref h6, .ref h3, .ref h1, .ref pg, .int (iI pb), .int (iI sb)])), (h1, .inr (1, [.ref h0, .ref od, .int (iI m1402), .ref w0, .ref dq, .int (iI pl), .int (iI gr), .int (iI le), .int (iI mo)])), (h0, .inr (0, [.ref c0])), (c0, .inl (T 0, 2880, .inl (fun j : Nat => iI (B j)))), (od, .inl (T 0, 4, .inl (fun j : Nat => iI (Od1403 j)))), (w0, .inl (T 1, 144, .inl (fun j : Nat => iI (bI (W j))))), (dq, .inl (T 0, 144, .inl (fun j : Nat => iI (Q j))))]) [0, 5, 1, 2, 6, 3, 4] rfl rfl ?_
      exact hr _ _ _ _ dX11_device_22 ⟨m1402, pl, gr, le, mo, Od1403, W, Q, (congrArg iI (show ((-102) : Int) = (devR B o w) by unfold devR; first | rw [if_pos (Or.inl (by assumption))] | rw [if_pos (Or.inr (by omega))] | (rw [if_neg (fun z9 => by rcases z9 with z9 | z9; exact absurd (z9.symm.trans (by assumption : ordG o = true)) (by decide); omega)]; (repeat (first | rw [if_pos (by omega)] | rw [if_neg (by omega)])) <;> rw [hasD_cg (B := B) (by assumption : ordG o = true) (by assumption) (by assumption)]))), rfl⟩

