abbrev rmX12_net : Room := { frames := 3, cells := 0, slots := 0, locals := 73 }
theorem in_X12_net_X12 : ∀ w ∈ u_ws RX12 TX12 40, w ∈ wsX12_net := fun w hw => List.mem_cons_of_mem _ (List.mem_append_right _ (hw))
theorem f_X12_net_70 : FlOK RX12 70 wsX12_net 12 34 := ⟨_, _, _, rfl, by decide, in_X12_net_X12, List.mem_of_getElem? (i := 2) rfl⟩
set_option maxHeartbeats 600000 in
set_option maxRecDepth 100000 in
/-- net -/
theorem ct_X12_net (T : Nat → ClassId) (g0 : Nat) (r : Nat → Nat) (x_taped : Int) (x_at : Int) (x_token : Int) (x_from : Int) (x_word : Int) (x_value : Int) (x_size : Int) (x_fault : Int) (x_faultAt : Int) (x_steps : Int) (x_counted : Int) (x_opens : Int) (x_queued : Int) (x_theMask : Int) (x_kept : Int) (x_placed : Int) (x_orderMany : Int) (x_outs : Int) (V : Int → Bool) (Q : Int → Int) (B : Int → Int) (N0 : Int → Int) (i : Int) (t : Int) (w : Int) (hB : BOK B) (hi : -2147483648 ≤ i ∧ i ≤ 2147483647) (ht : -2147483648 ≤ t ∧ t ≤ 2147483647) (hw : -2147483648 ≤ w ∧ w ≤ 2147483647) : CtI T yX12_net wsX12_net rmX12_net 0 0 [.ref g0, .int (iI i), .int (iI t), .int (iI w)] [(g0, .inr (12, .ref (r 0) :: .ref (r 1) :: .ref (r 2) :: .int (iI x_taped) :: .int (iI x_at) :: .int (iI x_token) :: .int (iI x_from) :: .long (lI x_word) :: .int (iI x_value) :: .int (iI x_size) :: .int (iI x_fault) :: .int (iI x_faultAt) :: .ref (r 3) :: .ref (r 4) :: .ref (r 5) :: .ref (r 6) :: .ref (r 7) :: .ref (r 8) :: .ref (r 9) :: .int (iI x_steps) :: .int (iI x_counted) :: .ref (r 10) :: .int (iI x_opens) :: .ref (r 11) :: .ref (r 12) :: .int (iI x_queued) :: .ref (r 13) :: .ref (r 14) :: .int (iI x_theMask) :: .ref (r 15) :: .ref (r 16) :: .int (iI x_kept) :: .int (iI x_placed) :: .ref (r 17) :: .ref (r 18) :: .ref (r 19) :: .int (iI x_orderMany) :: .ref (r 20) :: .ref (r 21) :: .int (iI x_outs) :: [])), ((r 11), .inl (T 1, 2880, .inl (fun j : Nat => iI (bI (V j))))), ((r 12), .inl (T 0, 2880, .inl (fun j : Nat => iI (Q j)))), ((r 0), .inl (T 0, 2880, .inl (fun j : Nat => iI (B j)))), ((r 18), .inl (T 0, 2880, .inl (fun j : Nat => iI (N0 j))))] (fun r8 u => ∃ n1 : Int, ∃ V1 : Int → Bool, ∃ Q1 : Int → Int, ∃ N1 : Int → Int, r8 = (iI (netR B i t w)) ∧ u = [(g0, .inr (12, .ref (r 0) :: .ref (r 1) :: .ref (r 2) :: .int (iI x_taped) :: .int (iI x_at) :: .int (iI x_token) :: .int (iI x_from) :: .long (lI x_word) :: .int (iI x_value) :: .int (iI x_size) :: .int (iI x_fault) :: .int (iI x_faultAt) :: .ref (r 3) :: .ref (r 4) :: .ref (r 5) :: .ref (r 6) :: .ref (r 7) :: .ref (r 8) :: .ref (r 9) :: .int (iI x_steps) :: .int (iI x_counted) :: .ref (r 10) :: .int (iI x_opens) :: .ref (r 11) :: .ref (r 12) :: .int (iI n1) :: .ref (r 13) :: .ref (r 14) :: .int (iI x_theMask) :: .ref (r 15) :: .ref (r 16) :: .int (iI x_kept) :: .int (iI x_placed) :: .ref (r 17) :: .ref (r 18) :: .ref (r 19) :: .int (iI x_orderMany) :: .ref (r 20) :: .ref (r 21) :: .int (iI x_outs) :: [])), ((r 11), .inl (T 1, 2880, .inl (fun j : Nat => iI (bI (V1 j))))), ((r 12), .inl (T 0, 2880, .inl (fun j : Nat => iI (Q1 j)))), ((r 0), .inl (T 0, 2880, .inl (fun j : Nat => iI (B j)))), ((r 18), .inl (T 0, 2880, .inl (fun j : Nat => iI (N1 j))))]) := by
  refine ctI_of (cc := cX12_net) (maxL := 13) (ret := (some .int)) (by decide +kernel) rfl rfl (fun r u hp => by obtain ⟨_, _, _, _, rfl, -⟩ := hp; rfl) (Nat.le_of_ble_eq_true rfl) (fun X h hinit hr => ?_)
  refine j_eq (lv' := [(0, .ref g0), (1, .int (iI i)), (2, .int (iI t)), (3, .int (iI w))]) rfl rfl rfl rfl rfl rfl ?_
  refine j_iload_n h dX12_net_0 2 rfl rfl ?_
  refine j_i2l h dX12_net_1 (by omega) ?_
  refine j_lconst h dX12_net_2 ?_
  refine j_eq rfl rfl rfl rfl (stk' := [.long (lI 0), .long (lI t)]) rfl rfl ?_
  refine j_ldc2 (z := 127) h 127 dX12_net_3 (by decide +kernel) (List.mem_of_getElem? (i := 1) rfl) ?_
  refine j_callSi (As := [.long (lI t), .long (lI 0), .long (lI 127)]) (wr := [(g0, .inr (12, .ref (r 0) :: .ref (r 1) :: .ref (r 2) :: .int (iI x_taped) :: .int (iI x_at) :: .int (iI x_token) :: .int (iI x_from) :: .long (lI x_word) :: .int (iI x_value) :: .int (iI x_size) :: .int (iI x_fault) :: .int (iI x_faultAt) :: .ref (r 3) :: .ref (r 4) :: .ref (r 5) :: .ref (r 6) :: .ref (r 7) :: .ref (r 8) :: .ref (r 9) :: .int (iI x_steps) :: .int (iI x_counted) :: .ref (r 10) :: .int (iI x_opens) :: .ref (r 11) :: .ref (r 12) :: .int (iI x_queued) :: .ref (r 13) :: .ref (r 14) :: .int (iI x_theMask) :: .ref (r 15) :: .ref (r 16) :: .int (iI x_kept) :: .int (iI x_placed) :: .ref (r 17) :: .ref (r 18) :: .ref (r 19) :: .int (iI x_orderMany) :: .ref (r 20) :: .ref (r 21) :: .int (iI x_outs) :: [])), ((r 11), .inl (T 1, 2880, .inl (fun j : Nat => iI (bI (V j))))), ((r 12), .inl (T 0, 2880, .inl (fun j : Nat => iI (Q j)))), ((r 0), .inl (T 0, 2880, .inl (fun j : Nat => iI (B j)))), ((r 18), .inl (T 0, 2880, .inl (fun j : Nat => iI (N0 j))))]) (cells' := 0) (slots' := 0) h dX12_net_6 (ct_X12_in T t 0 127 (by first | assumption | omega) (by first | assumption | omega) (by first | assumption | omega)) k_X12_in gX12_net_X12_in ⟨Nat.le_of_ble_eq_true rfl, Nat.le_of_ble_eq_true rfl⟩ rfl rfl (Nat.le_of_ble_eq_true rfl) ⟨Nat.le_of_ble_eq_true rfl, Nat.le_of_ble_eq_true rfl⟩ rfl rfl [] [0, 1, 2, 3, 4] rfl rfl rfl rfl (by decide) (fun r9 u9 p401 => ?_)
  obtain ⟨rfl, rfl⟩ := p401
  refine j_eq (ws' := [(g0, .inr (12, .ref (r 0) :: .ref (r 1) :: .ref (r 2) :: .int (iI x_taped) :: .int (iI x_at) :: .int (iI x_token) :: .int (iI x_from) :: .long (lI x_word) :: .int (iI x_value) :: .int (iI x_size) :: .int (iI x_fault) :: .int (iI x_faultAt) :: .ref (r 3) :: .ref (r 4) :: .ref (r 5) :: .ref (r 6) :: .ref (r 7) :: .ref (r 8) :: .ref (r 9) :: .int (iI x_steps) :: .int (iI x_counted) :: .ref (r 10) :: .int (iI x_opens) :: .ref (r 11) :: .ref (r 12) :: .int (iI x_queued) :: .ref (r 13) :: .ref (r 14) :: .int (iI x_theMask) :: .ref (r 15) :: .ref (r 16) :: .int (iI x_kept) :: .int (iI x_placed) :: .ref (r 17) :: .ref (r 18) :: .ref (r 19) :: .int (iI x_orderMany) :: .ref (r 20) :: .ref (r 21) :: .int (iI x_outs) :: [])), ((r 11), .inl (T 1, 2880, .inl (fun j : Nat => iI (bI (V j))))), ((r 12), .inl (T 0, 2880, .inl (fun j : Nat => iI (Q j)))), ((r 0), .inl (T 0, 2880, .inl (fun j : Nat => iI (B j)))), ((r 18), .inl (T 0, 2880, .inl (fun j : Nat => iI (N0 j))))]) rfl rfl rfl rfl rfl rfl ?_
  refine j_ifneB h 15 dX12_net_9 (by decide) (fun c402 => ?_) (fun c402 => ?_)
  · skip
    replace c402 := of_decide_eq_true c402
    refine j_iload_n h dX12_net_15 1 rfl rfl ?_
    refine j_i2l h dX12_net_16 (by omega) ?_
    refine j_lconst h dX12_net_17 ?_
    refine j_eq rfl rfl rfl rfl (stk' := [.long (lI 0), .long (lI i)]) rfl rfl ?_
    refine j_aload_n h dX12_net_18 0 rfl rfl ?_
    refine j_iload_n h dX12_net_19 2 rfl rfl ?_
    refine j_callVi (As := [.int (iI t)]) (wr := []) (cells' := 0) (slots' := 0) h dX12_net_20 (ct_X12_findNets T g0 r x_taped x_at x_token x_from x_word x_value x_size x_fault x_faultAt x_steps x_counted x_opens x_queued x_theMask x_kept x_placed x_orderMany x_outs V Q B N0 t (by first | assumption | omega) (by first | assumption | omega)) k_X12_findNets gX12_net_X12_findNets rfl rfl 0 rfl ⟨Nat.le_of_ble_eq_true rfl, Nat.le_of_ble_eq_true rfl⟩ rfl rfl (Nat.le_of_ble_eq_true rfl) ⟨Nat.le_of_ble_eq_true rfl, Nat.le_of_ble_eq_true rfl⟩ rfl rfl [0, 1, 2, 3, 4] [] rfl rfl rfl rfl (by decide) (fun r9 u9 p403 => ?_)
    obtain ⟨n1404, V1405, Q1406, rfl, rfl⟩ := p403
    have hc9 := netC_rng (2 * t) B
    have hm9 := netM_rng (2 * t) B
    refine j_eq (ws' := [(g0, .inr (12, .ref (r 0) :: .ref (r 1) :: .ref (r 2) :: .int (iI x_taped) :: .int (iI x_at) :: .int (iI x_token) :: .int (iI x_from) :: .long (lI x_word) :: .int (iI x_value) :: .int (iI x_size) :: .int (iI x_fault) :: .int (iI x_faultAt) :: .ref (r 3) :: .ref (r 4) :: .ref (r 5) :: .ref (r 6) :: .ref (r 7) :: .ref (r 8) :: .ref (r 9) :: .int (iI x_steps) :: .int (iI x_counted) :: .ref (r 10) :: .int (iI x_opens) :: .ref (r 11) :: .ref (r 12) :: .int (iI n1404) :: .ref (r 13) :: .ref (r 14) :: .int (iI x_theMask) :: .ref (r 15) :: .ref (r 16) :: .int (iI x_kept) :: .int (iI x_placed) :: .ref (r 17) :: .ref (r 18) :: .ref (r 19) :: .int (iI x_orderMany) :: .ref (r 20) :: .ref (r 21) :: .int (iI x_outs) :: [])), ((r 11), .inl (T 1, 2880, .inl (fun j : Nat => iI (bI (V1405 j))))), ((r 12), .inl (T 0, 2880, .inl (fun j : Nat => iI (Q1406 j)))), ((r 0), .inl (T 0, 2880, .inl (fun j : Nat => iI (B j)))), ((r 18), .inl (T 0, 2880, .inl (fun j : Nat => iI ((fun d9 => netM (2 * t) B d9 - 1) j))))]) rfl rfl rfl rfl rfl rfl ?_
    refine j_iconst h dX12_net_23 ?_
    refine j_isub h dX12_net_24 ?_
    refine j_i2l h dX12_net_25 (by omega) ?_
    refine j_callSi (As := [.long (lI i), .long (lI 0), .long (lI (netC (2 * t) B - 1))]) (wr := [(g0, .inr (12, .ref (r 0) :: .ref (r 1) :: .ref (r 2) :: .int (iI x_taped) :: .int (iI x_at) :: .int (iI x_token) :: .int (iI x_from) :: .long (lI x_word) :: .int (iI x_value) :: .int (iI x_size) :: .int (iI x_fault) :: .int (iI x_faultAt) :: .ref (r 3) :: .ref (r 4) :: .ref (r 5) :: .ref (r 6) :: .ref (r 7) :: .ref (r 8) :: .ref (r 9) :: .int (iI x_steps) :: .int (iI x_counted) :: .ref (r 10) :: .int (iI x_opens) :: .ref (r 11) :: .ref (r 12) :: .int (iI n1404) :: .ref (r 13) :: .ref (r 14) :: .int (iI x_theMask) :: .ref (r 15) :: .ref (r 16) :: .int (iI x_kept) :: .int (iI x_placed) :: .ref (r 17) :: .ref (r 18) :: .ref (r 19) :: .int (iI x_orderMany) :: .ref (r 20) :: .ref (r 21) :: .int (iI x_outs) :: [])), ((r 11), .inl (T 1, 2880, .inl (fun j : Nat => iI (bI (V1405 j))))), ((r 12), .inl (T 0, 2880, .inl (fun j : Nat => iI (Q1406 j)))), ((r 0), .inl (T 0, 2880, .inl (fun j : Nat => iI (B j)))), ((r 18), .inl (T 0, 2880, .inl (fun j : Nat => iI ((fun d9 => netM (2 * t) B d9 - 1) j))))]) (cells' := 0) (slots' := 0) h dX12_net_26 (ct_X12_in T i 0 (netC (2 * t) B - 1) (by first | assumption | omega) (by first | assumption | omega) (by first | assumption | omega)) k_X12_in gX12_net_X12_in ⟨Nat.le_of_ble_eq_true rfl, Nat.le_of_ble_eq_true rfl⟩ rfl rfl (Nat.le_of_ble_eq_true rfl) ⟨Nat.le_of_ble_eq_true rfl, Nat.le_of_ble_eq_true rfl⟩ rfl rfl [] [0, 1, 2, 3, 4] rfl rfl rfl rfl (by decide) (fun r9 u9 p407 => ?_)
    obtain ⟨rfl, rfl⟩ := p407
    refine j_eq (ws' := [(g0, .inr (12, .ref (r 0) :: .ref (r 1) :: .ref (r 2) :: .int (iI x_taped) :: .int (iI x_at) :: .int (iI x_token) :: .int (iI x_from) :: .long (lI x_word) :: .int (iI x_value) :: .int (iI x_size) :: .int (iI x_fault) :: .int (iI x_faultAt) :: .ref (r 3) :: .ref (r 4) :: .ref (r 5) :: .ref (r 6) :: .ref (r 7) :: .ref (r 8) :: .ref (r 9) :: .int (iI x_steps) :: .int (iI x_counted) :: .ref (r 10) :: .int (iI x_opens) :: .ref (r 11) :: .ref (r 12) :: .int (iI n1404) :: .ref (r 13) :: .ref (r 14) :: .int (iI x_theMask) :: .ref (r 15) :: .ref (r 16) :: .int (iI x_kept) :: .int (iI x_placed) :: .ref (r 17) :: .ref (r 18) :: .ref (r 19) :: .int (iI x_orderMany) :: .ref (r 20) :: .ref (r 21) :: .int (iI x_outs) :: [])), ((r 11), .inl (T 1, 2880, .inl (fun j : Nat => iI (bI (V1405 j))))), ((r 12), .inl (T 0, 2880, .inl (fun j : Nat => iI (Q1406 j)))), ((r 0), .inl (T 0, 2880, .inl (fun j : Nat => iI (B j)))), ((r 18), .inl (T 0, 2880, .inl (fun j : Nat => iI ((fun d9 => netM (2 * t) B d9 - 1) j))))]) rfl rfl rfl rfl rfl rfl ?_
    refine j_ifneB h 35 dX12_net_29 (by decide) (fun c408 => ?_) (fun c408 => ?_)
    · skip
      replace c408 := of_decide_eq_true c408
      refine j_iconst h dX12_net_35 ?_
      refine j_istore (lv' := [(0, .ref g0), (1, .int (iI i)), (2, .int (iI t)), (3, .int (iI w)), (4, .int (iI (-1)))]) h dX12_net_36 [1, 2, 3, 4, 0] (by decide) rfl ?_
      refine j_iconst h dX12_net_38 ?_
      refine j_istore (lv' := [(0, .ref g0), (1, .int (iI i)), (2, .int (iI t)), (3, .int (iI w)), (4, .int (iI (-1))), (5, .int (iI 0))]) h dX12_net_39 [1, 2, 3, 4, 5, 0] (by decide) rfl ?_
      refine j_bipush h dX12_net_41 (by decide) ?_
      refine j_istore (lv' := [(0, .ref g0), (1, .int (iI i)), (2, .int (iI t)), (3, .int (iI w)), (4, .int (iI (-1))), (5, .int (iI 0)), (6, .int (iI 20))]) h dX12_net_43 [1, 2, 3, 4, 5, 6, 0] (by decide) rfl ?_
      refine j_iconst h dX12_net_45 ?_
      refine j_istore (lv' := [(0, .ref g0), (1, .int (iI i)), (2, .int (iI t)), (3, .int (iI w)), (4, .int (iI (-1))), (5, .int (iI 0)), (6, .int (iI 20)), (7, .int (iI (-1)))]) h dX12_net_46 [1, 2, 3, 4, 5, 6, 7, 0] (by decide) rfl ?_
      refine j_iconst h dX12_net_48 ?_
      refine j_istore (lv' := [(0, .ref g0), (1, .int (iI i)), (2, .int (iI t)), (3, .int (iI w)), (4, .int (iI (-1))), (5, .int (iI 0)), (6, .int (iI 20)), (7, .int (iI (-1))), (8, .int (iI 0))]) h dX12_net_49 [1, 2, 3, 4, 5, 6, 7, 8, 0] (by decide) rfl ?_
      refine j_iconst h dX12_net_51 ?_
      refine j_istore (lv' := [(0, .ref g0), (1, .int (iI i)), (2, .int (iI t)), (3, .int (iI w)), (4, .int (iI (-1))), (5, .int (iI 0)), (6, .int (iI 20)), (7, .int (iI (-1))), (8, .int (iI 0)), (9, .int (iI 0))]) h dX12_net_52 [1, 2, 3, 4, 5, 6, 7, 8, 9, 0] (by decide) rfl ?_
      have lp54 : ∀ (n54 : Nat) (p : Int) (fa : Int) (cn : Int) (lw : Int) (hi9 : Int) (pl : Int) (hp : 0 ≤ p ∧ p ≤ 144) (hrg : -1 ≤ fa ∧ fa < 2880 ∧ 0 ≤ lw ∧ lw ≤ 20 ∧ -1 ≤ hi9 ∧ hi9 ≤ 19) (hg : ngS (netP B t i) p 0 fa cn lw hi9) (hpl : pl = cntI (overP (netM (2 * t) B) i) p), ((144 - p).toNat) < n54 → J X 0 0 54 [(0, .ref g0), (1, .int (iI i)), (2, .int (iI t)), (3, .int (iI w)), (4, .int (iI fa)), (5, .int (iI cn)), (6, .int (iI lw)), (7, .int (iI hi9)), (8, .int (iI pl)), (9, .int (iI p))] [] [(g0, .inr (12, .ref (r 0) :: .ref (r 1) :: .ref (r 2) :: .int (iI x_taped) :: .int (iI x_at) :: .int (iI x_token) :: .int (iI x_from) :: .long (lI x_word) :: .int (iI x_value) :: .int (iI x_size) :: .int (iI x_fault) :: .int (iI x_faultAt) :: .ref (r 3) :: .ref (r 4) :: .ref (r 5) :: .ref (r 6) :: .ref (r 7) :: .ref (r 8) :: .ref (r 9) :: .int (iI x_steps) :: .int (iI x_counted) :: .ref (r 10) :: .int (iI x_opens) :: .ref (r 11) :: .ref (r 12) :: .int (iI n1404) :: .ref (r 13) :: .ref (r 14) :: .int (iI x_theMask) :: .ref (r 15) :: .ref (r 16) :: .int (iI x_kept) :: .int (iI x_placed) :: .ref (r 17) :: .ref (r 18) :: .ref (r 19) :: .int (iI x_orderMany) :: .ref (r 20) :: .ref (r 21) :: .int (iI x_outs) :: [])), ((r 11), .inl (T 1, 2880, .inl (fun j : Nat => iI (bI (V1405 j))))), ((r 12), .inl (T 0, 2880, .inl (fun j : Nat => iI (Q1406 j)))), ((r 0), .inl (T 0, 2880, .inl (fun j : Nat => iI (B j)))), ((r 18), .inl (T 0, 2880, .inl (fun j : Nat => iI ((fun d9 => netM (2 * t) B d9 - 1) j))))] := by
        intro n54
        induction n54 with
        | zero => exact fun p fa cn lw hi9 pl hp hrg hg hpl hn54 => absurd hn54 (Nat.not_lt_zero _)
        | succ n54 ih54 =>
          intro p fa cn lw hi9 pl hp hrg hg hpl hn54
          refine j_iload h dX12_net_54 9 rfl ?_
          refine j_sipush h dX12_net_56 (by decide) ?_
          refine j_icmp_ge h 183 dX12_net_59 (by decide) (by omega) (by omega) (fun c409 => ?_) (fun c409 => ?_)
          · skip
            refine j_iload_n h dX12_net_183 3 rfl rfl ?_
            rcases (show w = 0 ∨ w = 1 ∨ w = 2 ∨ w = 3 ∨ w = 4 ∨ (w < 0 ∨ 4 < w) by omega) with c410 | c410 | c410 | c410 | c410 | c410
            · skip
              refine j_tabIn h 220 dX12_net_184 (by omega) (by omega) (by omega) (by rw [c410]; rfl) (by decide) ?_
              refine j_iload h dX12_net_220 4 rfl ?_
              exact hr _ _ _ _ dX12_net_222 ⟨n1404, V1405, Q1406, (fun d9 => netM (2 * t) B d9 - 1), (congrArg iI (show (fa : Int) = (netR B i t w) by unfold netR; (repeat (first | rw [if_pos (by omega)] | rw [if_neg (by omega)])) <;> (first | omega | (rw [hpl, show p = 144 by omega]; done) | (have hE9 := ngS_end hg (by omega) (by have h7 := netP_fu (B := B) (t := t) (i := i) (by omega); omega); omega)))), rfl⟩
            · skip
              refine j_tabIn h 223 dX12_net_184 (by omega) (by omega) (by omega) (by rw [c410]; rfl) (by decide) ?_
              refine j_iload h dX12_net_223 5 rfl ?_
              exact hr _ _ _ _ dX12_net_225 ⟨n1404, V1405, Q1406, (fun d9 => netM (2 * t) B d9 - 1), (congrArg iI (show (cn : Int) = (netR B i t w) by unfold netR; (repeat (first | rw [if_pos (by omega)] | rw [if_neg (by omega)])) <;> (first | omega | (rw [hpl, show p = 144 by omega]; done) | (have hE9 := ngS_end hg (by omega) (by have h7 := netP_fu (B := B) (t := t) (i := i) (by omega); omega); omega)))), rfl⟩
            · skip
              refine j_tabIn h 226 dX12_net_184 (by omega) (by omega) (by omega) (by rw [c410]; rfl) (by decide) ?_
              refine j_iload h dX12_net_226 6 rfl ?_
              exact hr _ _ _ _ dX12_net_228 ⟨n1404, V1405, Q1406, (fun d9 => netM (2 * t) B d9 - 1), (congrArg iI (show (lw : Int) = (netR B i t w) by unfold netR; (repeat (first | rw [if_pos (by omega)] | rw [if_neg (by omega)])) <;> (first | omega | (rw [hpl, show p = 144 by omega]; done) | (have hE9 := ngS_end hg (by omega) (by have h7 := netP_fu (B := B) (t := t) (i := i) (by omega); omega); omega)))), rfl⟩
            · skip
              refine j_tabIn h 229 dX12_net_184 (by omega) (by omega) (by omega) (by rw [c410]; rfl) (by decide) ?_
              refine j_iload h dX12_net_229 7 rfl ?_
              exact hr _ _ _ _ dX12_net_231 ⟨n1404, V1405, Q1406, (fun d9 => netM (2 * t) B d9 - 1), (congrArg iI (show (hi9 : Int) = (netR B i t w) by unfold netR; (repeat (first | rw [if_pos (by omega)] | rw [if_neg (by omega)])) <;> (first | omega | (rw [hpl, show p = 144 by omega]; done) | (have hE9 := ngS_end hg (by omega) (by have h7 := netP_fu (B := B) (t := t) (i := i) (by omega); omega); omega)))), rfl⟩
            · skip
              refine j_tabIn h 232 dX12_net_184 (by omega) (by omega) (by omega) (by rw [c410]; rfl) (by decide) ?_
              refine j_iload h dX12_net_232 8 rfl ?_
              exact hr _ _ _ _ dX12_net_234 ⟨n1404, V1405, Q1406, (fun d9 => netM (2 * t) B d9 - 1), (congrArg iI (show (pl : Int) = (netR B i t w) by unfold netR; (repeat (first | rw [if_pos (by omega)] | rw [if_neg (by omega)])) <;> (first | omega | (rw [hpl, show p = 144 by omega]; done) | (have hE9 := ngS_end hg (by omega) (by have h7 := netP_fu (B := B) (t := t) (i := i) (by omega); omega); omega)))), rfl⟩
            · skip
              refine j_tabOut h 235 dX12_net_184 (by omega) (by omega) (by decide) ?_
              refine j_bipush h dX12_net_235 (by decide) ?_
              exact hr _ _ _ _ dX12_net_237 ⟨n1404, V1405, Q1406, (fun d9 => netM (2 * t) B d9 - 1), (congrArg iI (show ((-102) : Int) = (netR B i t w) by unfold netR; (repeat (first | rw [if_pos (by omega)] | rw [if_neg (by omega)])) <;> (first | omega | (rw [hpl, show p = 144 by omega]; done) | (have hE9 := ngS_end hg (by omega) (by have h7 := netP_fu (B := B) (t := t) (i := i) (by omega); omega); omega)))), rfl⟩
          · skip
            refine j_iconst h dX12_net_62 ?_
            refine j_istore (lv' := [(0, .ref g0), (1, .int (iI i)), (2, .int (iI t)), (3, .int (iI w)), (4, .int (iI fa)), (5, .int (iI cn)), (6, .int (iI lw)), (7, .int (iI hi9)), (8, .int (iI pl)), (9, .int (iI p)), (10, .int (iI 0))]) h dX12_net_63 [1, 2, 3, 4, 5, 6, 7, 8, 9, 10, 0] (by decide) rfl ?_
            refine j_iconst h dX12_net_65 ?_
            refine j_istore (lv' := [(0, .ref g0), (1, .int (iI i)), (2, .int (iI t)), (3, .int (iI w)), (4, .int (iI fa)), (5, .int (iI cn)), (6, .int (iI lw)), (7, .int (iI hi9)), (8, .int (iI pl)), (9, .int (iI p)), (10, .int (iI 0)), (11, .int (iI 0))]) h dX12_net_66 [1, 2, 3, 4, 5, 6, 7, 8, 9, 10, 11, 0] (by decide) rfl ?_
            have lp68 : ∀ (n68 : Nat) (z : Int) (fa : Int) (cn : Int) (lw : Int) (hi9 : Int) (hs9 : Int) (hz : 0 ≤ z ∧ z ≤ 20) (hrg : -1 ≤ fa ∧ fa < 2880 ∧ 0 ≤ lw ∧ lw ≤ 20 ∧ -1 ≤ hi9 ∧ hi9 ≤ 19) (hg : ngS (netP B t i) p z fa cn lw hi9) (hh : ovS (netP B t i) p z hs9) (h01 : 0 ≤ hs9 ∧ hs9 ≤ 1), ((20 - z).toNat) < n68 → J X 0 0 68 [(0, .ref g0), (1, .int (iI i)), (2, .int (iI t)), (3, .int (iI w)), (4, .int (iI fa)), (5, .int (iI cn)), (6, .int (iI lw)), (7, .int (iI hi9)), (8, .int (iI pl)), (9, .int (iI p)), (10, .int (iI hs9)), (11, .int (iI z))] [] [(g0, .inr (12, .ref (r 0) :: .ref (r 1) :: .ref (r 2) :: .int (iI x_taped) :: .int (iI x_at) :: .int (iI x_token) :: .int (iI x_from) :: .long (lI x_word) :: .int (iI x_value) :: .int (iI x_size) :: .int (iI x_fault) :: .int (iI x_faultAt) :: .ref (r 3) :: .ref (r 4) :: .ref (r 5) :: .ref (r 6) :: .ref (r 7) :: .ref (r 8) :: .ref (r 9) :: .int (iI x_steps) :: .int (iI x_counted) :: .ref (r 10) :: .int (iI x_opens) :: .ref (r 11) :: .ref (r 12) :: .int (iI n1404) :: .ref (r 13) :: .ref (r 14) :: .int (iI x_theMask) :: .ref (r 15) :: .ref (r 16) :: .int (iI x_kept) :: .int (iI x_placed) :: .ref (r 17) :: .ref (r 18) :: .ref (r 19) :: .int (iI x_orderMany) :: .ref (r 20) :: .ref (r 21) :: .int (iI x_outs) :: [])), ((r 11), .inl (T 1, 2880, .inl (fun j : Nat => iI (bI (V1405 j))))), ((r 12), .inl (T 0, 2880, .inl (fun j : Nat => iI (Q1406 j)))), ((r 0), .inl (T 0, 2880, .inl (fun j : Nat => iI (B j)))), ((r 18), .inl (T 0, 2880, .inl (fun j : Nat => iI ((fun d9 => netM (2 * t) B d9 - 1) j))))] := by
              intro n68
              induction n68 with
              | zero => exact fun z fa cn lw hi9 hs9 hz hrg hg hh h01 hn68 => absurd hn68 (Nat.not_lt_zero _)
              | succ n68 ih68 =>
                intro z fa cn lw hi9 hs9 hz hrg hg hh h01 hn68
                refine j_iload h dX12_net_68 11 rfl ?_
                refine j_bipush h dX12_net_70 (by decide) ?_
                refine j_icmp_ge h 162 dX12_net_72 (by decide) (by omega) (by omega) (fun c411 => ?_) (fun c411 => ?_)
                · skip
                  refine j_iload h dX12_net_162 8 rfl ?_
                  refine j_iload h dX12_net_164 10 rfl ?_
                  refine j_if_eq h 173 dX12_net_166 (by decide) (by omega) (fun c412 => ?_) (fun c412 => ?_)
                  · skip
                    refine j_iconst h dX12_net_173 ?_
                    refine j_iadd h dX12_net_174 ?_
                    refine j_istore (lv' := [(0, .ref g0), (1, .int (iI i)), (2, .int (iI t)), (3, .int (iI w)), (4, .int (iI fa)), (5, .int (iI cn)), (6, .int (iI lw)), (7, .int (iI hi9)), (8, .int (iI (pl + 0))), (9, .int (iI p)), (10, .int (iI hs9)), (11, .int (iI z))]) h dX12_net_175 [1, 2, 3, 4, 5, 6, 7, 8, 0, 9, 10, 11] (by decide) rfl ?_
                    refine j_iinc (lv' := [(0, .ref g0), (1, .int (iI i)), (2, .int (iI t)), (3, .int (iI w)), (4, .int (iI fa)), (5, .int (iI cn)), (6, .int (iI lw)), (7, .int (iI hi9)), (8, .int (iI (pl + 0))), (9, .int (iI (p + 1))), (10, .int (iI hs9)), (11, .int (iI z))]) h dX12_net_177 9 [1, 2, 3, 4, 5, 6, 7, 8, 9, 0, 10, 11] rfl (by decide) rfl ?_
                    refine j_goto (tgt := 54) h dX12_net_180 (by decide) ?_
                    refine j_lv (lv' := [(0, .ref g0), (1, .int (iI i)), (2, .int (iI t)), (3, .int (iI w)), (4, .int (iI fa)), (5, .int (iI cn)), (6, .int (iI lw)), (7, .int (iI hi9)), (8, .int (iI (pl + 0))), (9, .int (iI (p + 1)))]) [0, 1, 2, 3, 4, 5, 6, 7, 8, 9] rfl ?_
                    exact ih54 (p + 1) fa cn lw hi9 (pl + 0) (by first | assumption | omega) (by first | assumption | omega) (by exact ngS_cong hg (fun c a b => by omega)) (by rw [cntI_f (by omega) (ovS_2 (P := netP B t i) rfl hh (by omega) c412)]; omega) (by omega)
                  · skip
                    refine j_iconst h dX12_net_169 ?_
                    refine j_goto (tgt := 174) h dX12_net_170 (by decide) ?_
                    refine j_iadd h dX12_net_174 ?_
                    refine j_istore (lv' := [(0, .ref g0), (1, .int (iI i)), (2, .int (iI t)), (3, .int (iI w)), (4, .int (iI fa)), (5, .int (iI cn)), (6, .int (iI lw)), (7, .int (iI hi9)), (8, .int (iI (pl + 1))), (9, .int (iI p)), (10, .int (iI hs9)), (11, .int (iI z))]) h dX12_net_175 [1, 2, 3, 4, 5, 6, 7, 8, 0, 9, 10, 11] (by decide) rfl ?_
                    refine j_iinc (lv' := [(0, .ref g0), (1, .int (iI i)), (2, .int (iI t)), (3, .int (iI w)), (4, .int (iI fa)), (5, .int (iI cn)), (6, .int (iI lw)), (7, .int (iI hi9)), (8, .int (iI (pl + 1))), (9, .int (iI (p + 1))), (10, .int (iI hs9)), (11, .int (iI z))]) h dX12_net_177 9 [1, 2, 3, 4, 5, 6, 7, 8, 9, 0, 10, 11] rfl (by decide) rfl ?_
                    refine j_goto (tgt := 54) h dX12_net_180 (by decide) ?_
                    refine j_lv (lv' := [(0, .ref g0), (1, .int (iI i)), (2, .int (iI t)), (3, .int (iI w)), (4, .int (iI fa)), (5, .int (iI cn)), (6, .int (iI lw)), (7, .int (iI hi9)), (8, .int (iI (pl + 1))), (9, .int (iI (p + 1)))]) [0, 1, 2, 3, 4, 5, 6, 7, 8, 9] rfl ?_
                    exact ih54 (p + 1) fa cn lw hi9 (pl + 1) (by first | assumption | omega) (by first | assumption | omega) (by exact ngS_cong hg (fun c a b => by omega)) (by rw [cntI_t (by omega) (ovS_1 (P := netP B t i) rfl hh (by omega) c412)]; omega) (by omega)
                · skip
                  refine j_sipush h dX12_net_75 (by decide) ?_
                  refine j_iload h dX12_net_78 11 rfl ?_
                  refine j_imul h dX12_net_80 ?_
                  refine j_iload h dX12_net_81 9 rfl ?_
                  refine j_iadd h dX12_net_83 ?_
                  refine j_istore (lv' := [(0, .ref g0), (1, .int (iI i)), (2, .int (iI t)), (3, .int (iI w)), (4, .int (iI fa)), (5, .int (iI cn)), (6, .int (iI lw)), (7, .int (iI hi9)), (8, .int (iI pl)), (9, .int (iI p)), (10, .int (iI hs9)), (11, .int (iI z)), (12, .int (iI ((144 * z) + p)))]) h dX12_net_84 [1, 2, 3, 4, 5, 6, 7, 8, 9, 10, 11, 12, 0] (by decide) rfl ?_
                  refine j_aload_n h dX12_net_86 0 rfl rfl ?_
                  refine j_get h dX12_net_87 f_X12_net_70 0 rfl rfl ?_
                  refine j_iload h dX12_net_90 12 rfl ?_
                  refine j_iald (f := (fun d9 => netM (2 * t) B d9 - 1)) h (144 * z + p) dX12_net_92 4 rfl (by decide) (by omega) (by omega) ?_
                  have hn5 := netM_rng (2 * t) B (144 * z + p)
                  refine j_iload_n h dX12_net_93 1 rfl rfl ?_
                  refine j_icmp_ne h 156 dX12_net_94 (by decide) (by omega) (by omega) (fun c413 => ?_) (fun c413 => ?_)
                  · skip
                    refine j_iinc (lv' := [(0, .ref g0), (1, .int (iI i)), (2, .int (iI t)), (3, .int (iI w)), (4, .int (iI fa)), (5, .int (iI cn)), (6, .int (iI lw)), (7, .int (iI hi9)), (8, .int (iI pl)), (9, .int (iI p)), (10, .int (iI hs9)), (11, .int (iI (z + 1))), (12, .int (iI ((144 * z) + p)))]) h dX12_net_156 11 [1, 2, 3, 4, 5, 6, 7, 8, 9, 10, 11, 0, 12] rfl (by decide) rfl ?_
                    refine j_goto (tgt := 68) h dX12_net_159 (by decide) ?_
                    refine j_lv (lv' := [(0, .ref g0), (1, .int (iI i)), (2, .int (iI t)), (3, .int (iI w)), (4, .int (iI fa)), (5, .int (iI cn)), (6, .int (iI lw)), (7, .int (iI hi9)), (8, .int (iI pl)), (9, .int (iI p)), (10, .int (iI hs9)), (11, .int (iI (z + 1)))]) [0, 1, 2, 3, 4, 5, 6, 7, 8, 9, 10, 11] rfl ?_
                    exact ih68 (z + 1) fa cn lw hi9 hs9 (by first | assumption | omega) (by first | assumption | omega) (by exact ngS_f (by omega) hg (show netP B t i (144 * z + p) = false from decide_eq_false (by omega))) (by exact ovS_f hh (show netP B t i (144 * z + p) = false from decide_eq_false (by omega))) (by first | assumption | omega) (by omega)
                  · skip
                    refine j_iload h dX12_net_97 4 rfl ?_
                    refine j_if_lt h 109 dX12_net_99 (by decide) (by omega) (fun c414 => ?_) (fun c414 => ?_)
                    · skip
                      refine j_iload h dX12_net_109 12 rfl ?_
                      refine j_goto (tgt := 116) h dX12_net_111 (by decide) ?_
                      refine j_istore (lv' := [(0, .ref g0), (1, .int (iI i)), (2, .int (iI t)), (3, .int (iI w)), (4, .int (iI ((144 * z) + p))), (5, .int (iI cn)), (6, .int (iI lw)), (7, .int (iI hi9)), (8, .int (iI pl)), (9, .int (iI p)), (10, .int (iI hs9)), (11, .int (iI z)), (12, .int (iI ((144 * z) + p)))]) h dX12_net_116 [1, 2, 3, 4, 0, 5, 6, 7, 8, 9, 10, 11, 12] (by decide) rfl ?_
                      refine j_iinc (lv' := [(0, .ref g0), (1, .int (iI i)), (2, .int (iI t)), (3, .int (iI w)), (4, .int (iI ((144 * z) + p))), (5, .int (iI (cn + 1))), (6, .int (iI lw)), (7, .int (iI hi9)), (8, .int (iI pl)), (9, .int (iI p)), (10, .int (iI hs9)), (11, .int (iI z)), (12, .int (iI ((144 * z) + p)))]) h dX12_net_118 5 [1, 2, 3, 4, 5, 0, 6, 7, 8, 9, 10, 11, 12] rfl (by decide) rfl ?_
                      refine j_iload h dX12_net_121 11 rfl ?_
                      refine j_iload h dX12_net_123 6 rfl ?_
                      refine j_icmp_ge h 133 dX12_net_125 (by decide) (by omega) (by omega) (fun c415 => ?_) (fun c415 => ?_)
                      · skip
                        refine j_iload h dX12_net_133 6 rfl ?_
                        refine j_istore (lv' := [(0, .ref g0), (1, .int (iI i)), (2, .int (iI t)), (3, .int (iI w)), (4, .int (iI ((144 * z) + p))), (5, .int (iI (cn + 1))), (6, .int (iI lw)), (7, .int (iI hi9)), (8, .int (iI pl)), (9, .int (iI p)), (10, .int (iI hs9)), (11, .int (iI z)), (12, .int (iI ((144 * z) + p)))]) h dX12_net_135 [1, 2, 3, 4, 5, 6, 0, 7, 8, 9, 10, 11, 12] (by decide) rfl ?_
                        refine j_iload h dX12_net_137 11 rfl ?_
                        refine j_iload h dX12_net_139 7 rfl ?_
                        refine j_icmp_le h 149 dX12_net_141 (by decide) (by omega) (by omega) (fun c416 => ?_) (fun c416 => ?_)
                        · skip
                          refine j_iload h dX12_net_149 7 rfl ?_
                          refine j_istore (lv' := [(0, .ref g0), (1, .int (iI i)), (2, .int (iI t)), (3, .int (iI w)), (4, .int (iI ((144 * z) + p))), (5, .int (iI (cn + 1))), (6, .int (iI lw)), (7, .int (iI hi9)), (8, .int (iI pl)), (9, .int (iI p)), (10, .int (iI hs9)), (11, .int (iI z)), (12, .int (iI ((144 * z) + p)))]) h dX12_net_151 [1, 2, 3, 4, 5, 6, 7, 0, 8, 9, 10, 11, 12] (by decide) rfl ?_
                          refine j_iconst h dX12_net_153 ?_
                          refine j_istore (lv' := [(0, .ref g0), (1, .int (iI i)), (2, .int (iI t)), (3, .int (iI w)), (4, .int (iI ((144 * z) + p))), (5, .int (iI (cn + 1))), (6, .int (iI lw)), (7, .int (iI hi9)), (8, .int (iI pl)), (9, .int (iI p)), (10, .int (iI 1)), (11, .int (iI z)), (12, .int (iI ((144 * z) + p)))]) h dX12_net_154 [1, 2, 3, 4, 5, 6, 7, 8, 9, 10, 0, 11, 12] (by decide) rfl ?_
                          refine j_iinc (lv' := [(0, .ref g0), (1, .int (iI i)), (2, .int (iI t)), (3, .int (iI w)), (4, .int (iI ((144 * z) + p))), (5, .int (iI (cn + 1))), (6, .int (iI lw)), (7, .int (iI hi9)), (8, .int (iI pl)), (9, .int (iI p)), (10, .int (iI 1)), (11, .int (iI (z + 1))), (12, .int (iI ((144 * z) + p)))]) h dX12_net_156 11 [1, 2, 3, 4, 5, 6, 7, 8, 9, 10, 11, 0, 12] rfl (by decide) rfl ?_
                          refine j_goto (tgt := 68) h dX12_net_159 (by decide) ?_
                          refine j_lv (lv' := [(0, .ref g0), (1, .int (iI i)), (2, .int (iI t)), (3, .int (iI w)), (4, .int (iI ((144 * z) + p))), (5, .int (iI (cn + 1))), (6, .int (iI lw)), (7, .int (iI hi9)), (8, .int (iI pl)), (9, .int (iI p)), (10, .int (iI 1)), (11, .int (iI (z + 1)))]) [0, 1, 2, 3, 4, 5, 6, 7, 8, 9, 10, 11] rfl ?_
                          exact ih68 (z + 1) ((144 * z) + p) (cn + 1) lw hi9 1 (by first | assumption | omega) (by first | assumption | omega) (by have hq9 := ngS_t (by omega) (by omega) hg (show netP B t i (144 * z + p) = true from decide_eq_true (by omega)); (repeat (first | rw [if_pos (by omega)] at hq9 | rw [if_neg (by omega)] at hq9)); exact hq9) (by exact ovS_t (by omega) (show netP B t i (144 * z + p) = true from decide_eq_true (by omega))) (by first | assumption | omega) (by omega)
                        · skip
                          refine j_iload h dX12_net_144 11 rfl ?_
                          refine j_goto (tgt := 151) h dX12_net_146 (by decide) ?_
                          refine j_istore (lv' := [(0, .ref g0), (1, .int (iI i)), (2, .int (iI t)), (3, .int (iI w)), (4, .int (iI ((144 * z) + p))), (5, .int (iI (cn + 1))), (6, .int (iI lw)), (7, .int (iI z)), (8, .int (iI pl)), (9, .int (iI p)), (10, .int (iI hs9)), (11, .int (iI z)), (12, .int (iI ((144 * z) + p)))]) h dX12_net_151 [1, 2, 3, 4, 5, 6, 7, 0, 8, 9, 10, 11, 12] (by decide) rfl ?_
                          refine j_iconst h dX12_net_153 ?_
                          refine j_istore (lv' := [(0, .ref g0), (1, .int (iI i)), (2, .int (iI t)), (3, .int (iI w)), (4, .int (iI ((144 * z) + p))), (5, .int (iI (cn + 1))), (6, .int (iI lw)), (7, .int (iI z)), (8, .int (iI pl)), (9, .int (iI p)), (10, .int (iI 1)), (11, .int (iI z)), (12, .int (iI ((144 * z) + p)))]) h dX12_net_154 [1, 2, 3, 4, 5, 6, 7, 8, 9, 10, 0, 11, 12] (by decide) rfl ?_
                          refine j_iinc (lv' := [(0, .ref g0), (1, .int (iI i)), (2, .int (iI t)), (3, .int (iI w)), (4, .int (iI ((144 * z) + p))), (5, .int (iI (cn + 1))), (6, .int (iI lw)), (7, .int (iI z)), (8, .int (iI pl)), (9, .int (iI p)), (10, .int (iI 1)), (11, .int (iI (z + 1))), (12, .int (iI ((144 * z) + p)))]) h dX12_net_156 11 [1, 2, 3, 4, 5, 6, 7, 8, 9, 10, 11, 0, 12] rfl (by decide) rfl ?_
                          refine j_goto (tgt := 68) h dX12_net_159 (by decide) ?_
                          refine j_lv (lv' := [(0, .ref g0), (1, .int (iI i)), (2, .int (iI t)), (3, .int (iI w)), (4, .int (iI ((144 * z) + p))), (5, .int (iI (cn + 1))), (6, .int (iI lw)), (7, .int (iI z)), (8, .int (iI pl)), (9, .int (iI p)), (10, .int (iI 1)), (11, .int (iI (z + 1)))]) [0, 1, 2, 3, 4, 5, 6, 7, 8, 9, 10, 11] rfl ?_
                          exact ih68 (z + 1) ((144 * z) + p) (cn + 1) lw z 1 (by first | assumption | omega) (by first | assumption | omega) (by have hq9 := ngS_t (by omega) (by omega) hg (show netP B t i (144 * z + p) = true from decide_eq_true (by omega)); (repeat (first | rw [if_pos (by omega)] at hq9 | rw [if_neg (by omega)] at hq9)); exact hq9) (by exact ovS_t (by omega) (show netP B t i (144 * z + p) = true from decide_eq_true (by omega))) (by first | assumption | omega) (by omega)
                      · skip
                        refine j_iload h dX12_net_128 11 rfl ?_
                        refine j_goto (tgt := 135) h dX12_net_130 (by decide) ?_
                        refine j_istore (lv' := [(0, .ref g0), (1, .int (iI i)), (2, .int (iI t)), (3, .int (iI w)), (4, .int (iI ((144 * z) + p))), (5, .int (iI (cn + 1))), (6, .int (iI z)), (7, .int (iI hi9)), (8, .int (iI pl)), (9, .int (iI p)), (10, .int (iI hs9)), (11, .int (iI z)), (12, .int (iI ((144 * z) + p)))]) h dX12_net_135 [1, 2, 3, 4, 5, 6, 0, 7, 8, 9, 10, 11, 12] (by decide) rfl ?_
                        refine j_iload h dX12_net_137 11 rfl ?_
                        refine j_iload h dX12_net_139 7 rfl ?_
                        refine j_icmp_le h 149 dX12_net_141 (by decide) (by omega) (by omega) (fun c417 => ?_) (fun c417 => ?_)
                        · skip
                          refine j_iload h dX12_net_149 7 rfl ?_
                          refine j_istore (lv' := [(0, .ref g0), (1, .int (iI i)), (2, .int (iI t)), (3, .int (iI w)), (4, .int (iI ((144 * z) + p))), (5, .int (iI (cn + 1))), (6, .int (iI z)), (7, .int (iI hi9)), (8, .int (iI pl)), (9, .int (iI p)), (10, .int (iI hs9)), (11, .int (iI z)), (12, .int (iI ((144 * z) + p)))]) h dX12_net_151 [1, 2, 3, 4, 5, 6, 7, 0, 8, 9, 10, 11, 12] (by decide) rfl ?_
                          refine j_iconst h dX12_net_153 ?_
                          refine j_istore (lv' := [(0, .ref g0), (1, .int (iI i)), (2, .int (iI t)), (3, .int (iI w)), (4, .int (iI ((144 * z) + p))), (5, .int (iI (cn + 1))), (6, .int (iI z)), (7, .int (iI hi9)), (8, .int (iI pl)), (9, .int (iI p)), (10, .int (iI 1)), (11, .int (iI z)), (12, .int (iI ((144 * z) + p)))]) h dX12_net_154 [1, 2, 3, 4, 5, 6, 7, 8, 9, 10, 0, 11, 12] (by decide) rfl ?_
                          refine j_iinc (lv' := [(0, .ref g0), (1, .int (iI i)), (2, .int (iI t)), (3, .int (iI w)), (4, .int (iI ((144 * z) + p))), (5, .int (iI (cn + 1))), (6, .int (iI z)), (7, .int (iI hi9)), (8, .int (iI pl)), (9, .int (iI p)), (10, .int (iI 1)), (11, .int (iI (z + 1))), (12, .int (iI ((144 * z) + p)))]) h dX12_net_156 11 [1, 2, 3, 4, 5, 6, 7, 8, 9, 10, 11, 0, 12] rfl (by decide) rfl ?_
                          refine j_goto (tgt := 68) h dX12_net_159 (by decide) ?_
                          refine j_lv (lv' := [(0, .ref g0), (1, .int (iI i)), (2, .int (iI t)), (3, .int (iI w)), (4, .int (iI ((144 * z) + p))), (5, .int (iI (cn + 1))), (6, .int (iI z)), (7, .int (iI hi9)), (8, .int (iI pl)), (9, .int (iI p)), (10, .int (iI 1)), (11, .int (iI (z + 1)))]) [0, 1, 2, 3, 4, 5, 6, 7, 8, 9, 10, 11] rfl ?_
                          exact ih68 (z + 1) ((144 * z) + p) (cn + 1) z hi9 1 (by first | assumption | omega) (by first | assumption | omega) (by have hq9 := ngS_t (by omega) (by omega) hg (show netP B t i (144 * z + p) = true from decide_eq_true (by omega)); (repeat (first | rw [if_pos (by omega)] at hq9 | rw [if_neg (by omega)] at hq9)); exact hq9) (by exact ovS_t (by omega) (show netP B t i (144 * z + p) = true from decide_eq_true (by omega))) (by first | assumption | omega) (by omega)
                        · skip
                          refine j_iload h dX12_net_144 11 rfl ?_
                          refine j_goto (tgt := 151) h dX12_net_146 (by decide) ?_
                          refine j_istore (lv' := [(0, .ref g0), (1, .int (iI i)), (2, .int (iI t)), (3, .int (iI w)), (4, .int (iI ((144 * z) + p))), (5, .int (iI (cn + 1))), (6, .int (iI z)), (7, .int (iI z)), (8, .int (iI pl)), (9, .int (iI p)), (10, .int (iI hs9)), (11, .int (iI z)), (12, .int (iI ((144 * z) + p)))]) h dX12_net_151 [1, 2, 3, 4, 5, 6, 7, 0, 8, 9, 10, 11, 12] (by decide) rfl ?_
                          refine j_iconst h dX12_net_153 ?_
                          refine j_istore (lv' := [(0, .ref g0), (1, .int (iI i)), (2, .int (iI t)), (3, .int (iI w)), (4, .int (iI ((144 * z) + p))), (5, .int (iI (cn + 1))), (6, .int (iI z)), (7, .int (iI z)), (8, .int (iI pl)), (9, .int (iI p)), (10, .int (iI 1)), (11, .int (iI z)), (12, .int (iI ((144 * z) + p)))]) h dX12_net_154 [1, 2, 3, 4, 5, 6, 7, 8, 9, 10, 0, 11, 12] (by decide) rfl ?_
                          refine j_iinc (lv' := [(0, .ref g0), (1, .int (iI i)), (2, .int (iI t)), (3, .int (iI w)), (4, .int (iI ((144 * z) + p))), (5, .int (iI (cn + 1))), (6, .int (iI z)), (7, .int (iI z)), (8, .int (iI pl)), (9, .int (iI p)), (10, .int (iI 1)), (11, .int (iI (z + 1))), (12, .int (iI ((144 * z) + p)))]) h dX12_net_156 11 [1, 2, 3, 4, 5, 6, 7, 8, 9, 10, 11, 0, 12] rfl (by decide) rfl ?_
                          refine j_goto (tgt := 68) h dX12_net_159 (by decide) ?_
                          refine j_lv (lv' := [(0, .ref g0), (1, .int (iI i)), (2, .int (iI t)), (3, .int (iI w)), (4, .int (iI ((144 * z) + p))), (5, .int (iI (cn + 1))), (6, .int (iI z)), (7, .int (iI z)), (8, .int (iI pl)), (9, .int (iI p)), (10, .int (iI 1)), (11, .int (iI (z + 1)))]) [0, 1, 2, 3, 4, 5, 6, 7, 8, 9, 10, 11] rfl ?_
                          exact ih68 (z + 1) ((144 * z) + p) (cn + 1) z z 1 (by first | assumption | omega) (by first | assumption | omega) (by have hq9 := ngS_t (by omega) (by omega) hg (show netP B t i (144 * z + p) = true from decide_eq_true (by omega)); (repeat (first | rw [if_pos (by omega)] at hq9 | rw [if_neg (by omega)] at hq9)); exact hq9) (by exact ovS_t (by omega) (show netP B t i (144 * z + p) = true from decide_eq_true (by omega))) (by first | assumption | omega) (by omega)
                    · skip
                      refine j_iload h dX12_net_102 12 rfl ?_
                      refine j_iload h dX12_net_104 4 rfl ?_
                      refine j_icmp_ge h 114 dX12_net_106 (by decide) (by omega) (by omega) (fun c418 => ?_) (fun c418 => ?_)
                      · skip
                        refine j_iload h dX12_net_114 4 rfl ?_
                        refine j_istore (lv' := [(0, .ref g0), (1, .int (iI i)), (2, .int (iI t)), (3, .int (iI w)), (4, .int (iI fa)), (5, .int (iI cn)), (6, .int (iI lw)), (7, .int (iI hi9)), (8, .int (iI pl)), (9, .int (iI p)), (10, .int (iI hs9)), (11, .int (iI z)), (12, .int (iI ((144 * z) + p)))]) h dX12_net_116 [1, 2, 3, 4, 0, 5, 6, 7, 8, 9, 10, 11, 12] (by decide) rfl ?_
                        refine j_iinc (lv' := [(0, .ref g0), (1, .int (iI i)), (2, .int (iI t)), (3, .int (iI w)), (4, .int (iI fa)), (5, .int (iI (cn + 1))), (6, .int (iI lw)), (7, .int (iI hi9)), (8, .int (iI pl)), (9, .int (iI p)), (10, .int (iI hs9)), (11, .int (iI z)), (12, .int (iI ((144 * z) + p)))]) h dX12_net_118 5 [1, 2, 3, 4, 5, 0, 6, 7, 8, 9, 10, 11, 12] rfl (by decide) rfl ?_
                        refine j_iload h dX12_net_121 11 rfl ?_
                        refine j_iload h dX12_net_123 6 rfl ?_
                        refine j_icmp_ge h 133 dX12_net_125 (by decide) (by omega) (by omega) (fun c419 => ?_) (fun c419 => ?_)
                        · skip
                          refine j_iload h dX12_net_133 6 rfl ?_
                          refine j_istore (lv' := [(0, .ref g0), (1, .int (iI i)), (2, .int (iI t)), (3, .int (iI w)), (4, .int (iI fa)), (5, .int (iI (cn + 1))), (6, .int (iI lw)), (7, .int (iI hi9)), (8, .int (iI pl)), (9, .int (iI p)), (10, .int (iI hs9)), (11, .int (iI z)), (12, .int (iI ((144 * z) + p)))]) h dX12_net_135 [1, 2, 3, 4, 5, 6, 0, 7, 8, 9, 10, 11, 12] (by decide) rfl ?_
                          refine j_iload h dX12_net_137 11 rfl ?_
                          refine j_iload h dX12_net_139 7 rfl ?_
                          refine j_icmp_le h 149 dX12_net_141 (by decide) (by omega) (by omega) (fun c420 => ?_) (fun c420 => ?_)
                          · skip
                            refine j_iload h dX12_net_149 7 rfl ?_
                            refine j_istore (lv' := [(0, .ref g0), (1, .int (iI i)), (2, .int (iI t)), (3, .int (iI w)), (4, .int (iI fa)), (5, .int (iI (cn + 1))), (6, .int (iI lw)), (7, .int (iI hi9)), (8, .int (iI pl)), (9, .int (iI p)), (10, .int (iI hs9)), (11, .int (iI z)), (12, .int (iI ((144 * z) + p)))]) h dX12_net_151 [1, 2, 3, 4, 5, 6, 7, 0, 8, 9, 10, 11, 12] (by decide) rfl ?_
                            refine j_iconst h dX12_net_153 ?_
                            refine j_istore (lv' := [(0, .ref g0), (1, .int (iI i)), (2, .int (iI t)), (3, .int (iI w)), (4, .int (iI fa)), (5, .int (iI (cn + 1))), (6, .int (iI lw)), (7, .int (iI hi9)), (8, .int (iI pl)), (9, .int (iI p)), (10, .int (iI 1)), (11, .int (iI z)), (12, .int (iI ((144 * z) + p)))]) h dX12_net_154 [1, 2, 3, 4, 5, 6, 7, 8, 9, 10, 0, 11, 12] (by decide) rfl ?_
                            refine j_iinc (lv' := [(0, .ref g0), (1, .int (iI i)), (2, .int (iI t)), (3, .int (iI w)), (4, .int (iI fa)), (5, .int (iI (cn + 1))), (6, .int (iI lw)), (7, .int (iI hi9)), (8, .int (iI pl)), (9, .int (iI p)), (10, .int (iI 1)), (11, .int (iI (z + 1))), (12, .int (iI ((144 * z) + p)))]) h dX12_net_156 11 [1, 2, 3, 4, 5, 6, 7, 8, 9, 10, 11, 0, 12] rfl (by decide) rfl ?_
                            refine j_goto (tgt := 68) h dX12_net_159 (by decide) ?_
                            refine j_lv (lv' := [(0, .ref g0), (1, .int (iI i)), (2, .int (iI t)), (3, .int (iI w)), (4, .int (iI fa)), (5, .int (iI (cn + 1))), (6, .int (iI lw)), (7, .int (iI hi9)), (8, .int (iI pl)), (9, .int (iI p)), (10, .int (iI 1)), (11, .int (iI (z + 1)))]) [0, 1, 2, 3, 4, 5, 6, 7, 8, 9, 10, 11] rfl ?_
                            exact ih68 (z + 1) fa (cn + 1) lw hi9 1 (by first | assumption | omega) (by first | assumption | omega) (by have hq9 := ngS_t (by omega) (by omega) hg (show netP B t i (144 * z + p) = true from decide_eq_true (by omega)); (repeat (first | rw [if_pos (by omega)] at hq9 | rw [if_neg (by omega)] at hq9)); exact hq9) (by exact ovS_t (by omega) (show netP B t i (144 * z + p) = true from decide_eq_true (by omega))) (by first | assumption | omega) (by omega)
                          · skip
                            refine j_iload h dX12_net_144 11 rfl ?_
                            refine j_goto (tgt := 151) h dX12_net_146 (by decide) ?_
                            refine j_istore (lv' := [(0, .ref g0), (1, .int (iI i)), (2, .int (iI t)), (3, .int (iI w)), (4, .int (iI fa)), (5, .int (iI (cn + 1))), (6, .int (iI lw)), (7, .int (iI z)), (8, .int (iI pl)), (9, .int (iI p)), (10, .int (iI hs9)), (11, .int (iI z)), (12, .int (iI ((144 * z) + p)))]) h dX12_net_151 [1, 2, 3, 4, 5, 6, 7, 0, 8, 9, 10, 11, 12] (by decide) rfl ?_
                            refine j_iconst h dX12_net_153 ?_
                            refine j_istore (lv' := [(0, .ref g0), (1, .int (iI i)), (2, .int (iI t)), (3, .int (iI w)), (4, .int (iI fa)), (5, .int (iI (cn + 1))), (6, .int (iI lw)), (7, .int (iI z)), (8, .int (iI pl)), (9, .int (iI p)), (10, .int (iI 1)), (11, .int (iI z)), (12, .int (iI ((144 * z) + p)))]) h dX12_net_154 [1, 2, 3, 4, 5, 6, 7, 8, 9, 10, 0, 11, 12] (by decide) rfl ?_
                            refine j_iinc (lv' := [(0, .ref g0), (1, .int (iI i)), (2, .int (iI t)), (3, .int (iI w)), (4, .int (iI fa)), (5, .int (iI (cn + 1))), (6, .int (iI lw)), (7, .int (iI z)), (8, .int (iI pl)), (9, .int (iI p)), (10, .int (iI 1)), (11, .int (iI (z + 1))), (12, .int (iI ((144 * z) + p)))]) h dX12_net_156 11 [1, 2, 3, 4, 5, 6, 7, 8, 9, 10, 11, 0, 12] rfl (by decide) rfl ?_
                            refine j_goto (tgt := 68) h dX12_net_159 (by decide) ?_
                            refine j_lv (lv' := [(0, .ref g0), (1, .int (iI i)), (2, .int (iI t)), (3, .int (iI w)), (4, .int (iI fa)), (5, .int (iI (cn + 1))), (6, .int (iI lw)), (7, .int (iI z)), (8, .int (iI pl)), (9, .int (iI p)), (10, .int (iI 1)), (11, .int (iI (z + 1)))]) [0, 1, 2, 3, 4, 5, 6, 7, 8, 9, 10, 11] rfl ?_
                            exact ih68 (z + 1) fa (cn + 1) lw z 1 (by first | assumption | omega) (by first | assumption | omega) (by have hq9 := ngS_t (by omega) (by omega) hg (show netP B t i (144 * z + p) = true from decide_eq_true (by omega)); (repeat (first | rw [if_pos (by omega)] at hq9 | rw [if_neg (by omega)] at hq9)); exact hq9) (by exact ovS_t (by omega) (show netP B t i (144 * z + p) = true from decide_eq_true (by omega))) (by first | assumption | omega) (by omega)
                        · skip
                          refine j_iload h dX12_net_128 11 rfl ?_
                          refine j_goto (tgt := 135) h dX12_net_130 (by decide) ?_
                          refine j_istore (lv' := [(0, .ref g0), (1, .int (iI i)), (2, .int (iI t)), (3, .int (iI w)), (4, .int (iI fa)), (5, .int (iI (cn + 1))), (6, .int (iI z)), (7, .int (iI hi9)), (8, .int (iI pl)), (9, .int (iI p)), (10, .int (iI hs9)), (11, .int (iI z)), (12, .int (iI ((144 * z) + p)))]) h dX12_net_135 [1, 2, 3, 4, 5, 6, 0, 7, 8, 9, 10, 11, 12] (by decide) rfl ?_
                          refine j_iload h dX12_net_137 11 rfl ?_
                          refine j_iload h dX12_net_139 7 rfl ?_
                          refine j_icmp_le h 149 dX12_net_141 (by decide) (by omega) (by omega) (fun c421 => ?_) (fun c421 => ?_)
                          · skip
                            refine j_iload h dX12_net_149 7 rfl ?_
                            refine j_istore (lv' := [(0, .ref g0), (1, .int (iI i)), (2, .int (iI t)), (3, .int (iI w)), (4, .int (iI fa)), (5, .int (iI (cn + 1))), (6, .int (iI z)), (7, .int (iI hi9)), (8, .int (iI pl)), (9, .int (iI p)), (10, .int (iI hs9)), (11, .int (iI z)), (12, .int (iI ((144 * z) + p)))]) h dX12_net_151 [1, 2, 3, 4, 5, 6, 7, 0, 8, 9, 10, 11, 12] (by decide) rfl ?_
                            refine j_iconst h dX12_net_153 ?_
                            refine j_istore (lv' := [(0, .ref g0), (1, .int (iI i)), (2, .int (iI t)), (3, .int (iI w)), (4, .int (iI fa)), (5, .int (iI (cn + 1))), (6, .int (iI z)), (7, .int (iI hi9)), (8, .int (iI pl)), (9, .int (iI p)), (10, .int (iI 1)), (11, .int (iI z)), (12, .int (iI ((144 * z) + p)))]) h dX12_net_154 [1, 2, 3, 4, 5, 6, 7, 8, 9, 10, 0, 11, 12] (by decide) rfl ?_
                            refine j_iinc (lv' := [(0, .ref g0), (1, .int (iI i)), (2, .int (iI t)), (3, .int (iI w)), (4, .int (iI fa)), (5, .int (iI (cn + 1))), (6, .int (iI z)), (7, .int (iI hi9)), (8, .int (iI pl)), (9, .int (iI p)), (10, .int (iI 1)), (11, .int (iI (z + 1))), (12, .int (iI ((144 * z) + p)))]) h dX12_net_156 11 [1, 2, 3, 4, 5, 6, 7, 8, 9, 10, 11, 0, 12] rfl (by decide) rfl ?_
                            refine j_goto (tgt := 68) h dX12_net_159 (by decide) ?_
                            refine j_lv (lv' := [(0, .ref g0), (1, .int (iI i)), (2, .int (iI t)), (3, .int (iI w)), (4, .int (iI fa)), (5, .int (iI (cn + 1))), (6, .int (iI z)), (7, .int (iI hi9)), (8, .int (iI pl)), (9, .int (iI p)), (10, .int (iI 1)), (11, .int (iI (z + 1)))]) [0, 1, 2, 3, 4, 5, 6, 7, 8, 9, 10, 11] rfl ?_
                            exact ih68 (z + 1) fa (cn + 1) z hi9 1 (by first | assumption | omega) (by first | assumption | omega) (by have hq9 := ngS_t (by omega) (by omega) hg (show netP B t i (144 * z + p) = true from decide_eq_true (by omega)); (repeat (first | rw [if_pos (by omega)] at hq9 | rw [if_neg (by omega)] at hq9)); exact hq9) (by exact ovS_t (by omega) (show netP B t i (144 * z + p) = true from decide_eq_true (by omega))) (by first | assumption | omega) (by omega)
                          · skip
                            refine j_iload h dX12_net_144 11 rfl ?_
                            refine j_goto (tgt := 151) h dX12_net_146 (by decide) ?_
                            refine j_istore (lv' := [(0, .ref g0), (1, .int (iI i)), (2, .int (iI t)), (3, .int (iI w)), (4, .int (iI fa)), (5, .int (iI (cn + 1))), (6, .int (iI z)), (7, .int (iI z)), (8, .int (iI pl)), (9, .int (iI p)), (10, .int (iI hs9)), (11, .int (iI z)), (12, .int (iI ((144 * z) + p)))]) h dX12_net_151 [1, 2, 3, 4, 5, 6, 7, 0, 8, 9, 10, 11, 12] (by decide) rfl ?_
                            refine j_iconst h dX12_net_153 ?_
                            refine j_istore (lv' := [(0, .ref g0), (1, .int (iI i)), (2, .int (iI t)), (3, .int (iI w)), (4, .int (iI fa)), (5, .int (iI (cn + 1))), (6, .int (iI z)), (7, .int (iI z)), (8, .int (iI pl)), (9, .int (iI p)), (10, .int (iI 1)), (11, .int (iI z)), (12, .int (iI ((144 * z) + p)))]) h dX12_net_154 [1, 2, 3, 4, 5, 6, 7, 8, 9, 10, 0, 11, 12] (by decide) rfl ?_
                            refine j_iinc (lv' := [(0, .ref g0), (1, .int (iI i)), (2, .int (iI t)), (3, .int (iI w)), (4, .int (iI fa)), (5, .int (iI (cn + 1))), (6, .int (iI z)), (7, .int (iI z)), (8, .int (iI pl)), (9, .int (iI p)), (10, .int (iI 1)), (11, .int (iI (z + 1))), (12, .int (iI ((144 * z) + p)))]) h dX12_net_156 11 [1, 2, 3, 4, 5, 6, 7, 8, 9, 10, 11, 0, 12] rfl (by decide) rfl ?_
                            refine j_goto (tgt := 68) h dX12_net_159 (by decide) ?_
                            refine j_lv (lv' := [(0, .ref g0), (1, .int (iI i)), (2, .int (iI t)), (3, .int (iI w)), (4, .int (iI fa)), (5, .int (iI (cn + 1))), (6, .int (iI z)), (7, .int (iI z)), (8, .int (iI pl)), (9, .int (iI p)), (10, .int (iI 1)), (11, .int (iI (z + 1)))]) [0, 1, 2, 3, 4, 5, 6, 7, 8, 9, 10, 11] rfl ?_
                            exact ih68 (z + 1) fa (cn + 1) z z 1 (by first | assumption | omega) (by first | assumption | omega) (by have hq9 := ngS_t (by omega) (by omega) hg (show netP B t i (144 * z + p) = true from decide_eq_true (by omega)); (repeat (first | rw [if_pos (by omega)] at hq9 | rw [if_neg (by omega)] at hq9)); exact hq9) (by exact ovS_t (by omega) (show netP B t i (144 * z + p) = true from decide_eq_true (by omega))) (by first | assumption | omega) (by omega)
                      · skip
                        refine j_iload h dX12_net_109 12 rfl ?_
                        refine j_goto (tgt := 116) h dX12_net_111 (by decide) ?_
                        refine j_istore (lv' := [(0, .ref g0), (1, .int (iI i)), (2, .int (iI t)), (3, .int (iI w)), (4, .int (iI ((144 * z) + p))), (5, .int (iI cn)), (6, .int (iI lw)), (7, .int (iI hi9)), (8, .int (iI pl)), (9, .int (iI p)), (10, .int (iI hs9)), (11, .int (iI z)), (12, .int (iI ((144 * z) + p)))]) h dX12_net_116 [1, 2, 3, 4, 0, 5, 6, 7, 8, 9, 10, 11, 12] (by decide) rfl ?_
                        refine j_iinc (lv' := [(0, .ref g0), (1, .int (iI i)), (2, .int (iI t)), (3, .int (iI w)), (4, .int (iI ((144 * z) + p))), (5, .int (iI (cn + 1))), (6, .int (iI lw)), (7, .int (iI hi9)), (8, .int (iI pl)), (9, .int (iI p)), (10, .int (iI hs9)), (11, .int (iI z)), (12, .int (iI ((144 * z) + p)))]) h dX12_net_118 5 [1, 2, 3, 4, 5, 0, 6, 7, 8, 9, 10, 11, 12] rfl (by decide) rfl ?_
                        refine j_iload h dX12_net_121 11 rfl ?_
                        refine j_iload h dX12_net_123 6 rfl ?_
                        refine j_icmp_ge h 133 dX12_net_125 (by decide) (by omega) (by omega) (fun c422 => ?_) (fun c422 => ?_)
                        · skip
                          refine j_iload h dX12_net_133 6 rfl ?_
                          refine j_istore (lv' := [(0, .ref g0), (1, .int (iI i)), (2, .int (iI t)), (3, .int (iI w)), (4, .int (iI ((144 * z) + p))), (5, .int (iI (cn + 1))), (6, .int (iI lw)), (7, .int (iI hi9)), (8, .int (iI pl)), (9, .int (iI p)), (10, .int (iI hs9)), (11, .int (iI z)), (12, .int (iI ((144 * z) + p)))]) h dX12_net_135 [1, 2, 3, 4, 5, 6, 0, 7, 8, 9, 10, 11, 12] (by decide) rfl ?_
                          refine j_iload h dX12_net_137 11 rfl ?_
                          refine j_iload h dX12_net_139 7 rfl ?_
                          refine j_icmp_le h 149 dX12_net_141 (by decide) (by omega) (by omega) (fun c423 => ?_) (fun c423 => ?_)
                          · skip
                            refine j_iload h dX12_net_149 7 rfl ?_
                            refine j_istore (lv' := [(0, .ref g0), (1, .int (iI i)), (2, .int (iI t)), (3, .int (iI w)), (4, .int (iI ((144 * z) + p))), (5, .int (iI (cn + 1))), (6, .int (iI lw)), (7, .int (iI hi9)), (8, .int (iI pl)), (9, .int (iI p)), (10, .int (iI hs9)), (11, .int (iI z)), (12, .int (iI ((144 * z) + p)))]) h dX12_net_151 [1, 2, 3, 4, 5, 6, 7, 0, 8, 9, 10, 11, 12] (by decide) rfl ?_
                            refine j_iconst h dX12_net_153 ?_
                            refine j_istore (lv' := [(0, .ref g0), (1, .int (iI i)), (2, .int (iI t)), (3, .int (iI w)), (4, .int (iI ((144 * z) + p))), (5, .int (iI (cn + 1))), (6, .int (iI lw)), (7, .int (iI hi9)), (8, .int (iI pl)), (9, .int (iI p)), (10, .int (iI 1)), (11, .int (iI z)), (12, .int (iI ((144 * z) + p)))]) h dX12_net_154 [1, 2, 3, 4, 5, 6, 7, 8, 9, 10, 0, 11, 12] (by decide) rfl ?_
                            refine j_iinc (lv' := [(0, .ref g0), (1, .int (iI i)), (2, .int (iI t)), (3, .int (iI w)), (4, .int (iI ((144 * z) + p))), (5, .int (iI (cn + 1))), (6, .int (iI lw)), (7, .int (iI hi9)), (8, .int (iI pl)), (9, .int (iI p)), (10, .int (iI 1)), (11, .int (iI (z + 1))), (12, .int (iI ((144 * z) + p)))]) h dX12_net_156 11 [1, 2, 3, 4, 5, 6, 7, 8, 9, 10, 11, 0, 12] rfl (by decide) rfl ?_
                            refine j_goto (tgt := 68) h dX12_net_159 (by decide) ?_
                            refine j_lv (lv' := [(0, .ref g0), (1, .int (iI i)), (2, .int (iI t)), (3, .int (iI w)), (4, .int (iI ((144 * z) + p))), (5, .int (iI (cn + 1))), (6, .int (iI lw)), (7, .int (iI hi9)), (8, .int (iI pl)), (9, .int (iI p)), (10, .int (iI 1)), (11, .int (iI (z + 1)))]) [0, 1, 2, 3, 4, 5, 6, 7, 8, 9, 10, 11] rfl ?_
                            exact ih68 (z + 1) ((144 * z) + p) (cn + 1) lw hi9 1 (by first | assumption | omega) (by first | assumption | omega) (by have hq9 := ngS_t (by omega) (by omega) hg (show netP B t i (144 * z + p) = true from decide_eq_true (by omega)); (repeat (first | rw [if_pos (by omega)] at hq9 | rw [if_neg (by omega)] at hq9)); exact hq9) (by exact ovS_t (by omega) (show netP B t i (144 * z + p) = true from decide_eq_true (by omega))) (by first | assumption | omega) (by omega)
                          · skip
                            refine j_iload h dX12_net_144 11 rfl ?_
                            refine j_goto (tgt := 151) h dX12_net_146 (by decide) ?_
                            refine j_istore (lv' := [(0, .ref g0), (1, .int (iI i)), (2, .int (iI t)), (3, .int (iI w)), (4, .int (iI ((144 * z) + p))), (5, .int (iI (cn + 1))), (6, .int (iI lw)), (7, .int (iI z)), (8, .int (iI pl)), (9, .int (iI p)), (10, .int (iI hs9)), (11, .int (iI z)), (12, .int (iI ((144 * z) + p)))]) h dX12_net_151 [1, 2, 3, 4, 5, 6, 7, 0, 8, 9, 10, 11, 12] (by decide) rfl ?_
                            refine j_iconst h dX12_net_153 ?_
                            refine j_istore (lv' := [(0, .ref g0), (1, .int (iI i)), (2, .int (iI t)), (3, .int (iI w)), (4, .int (iI ((144 * z) + p))), (5, .int (iI (cn + 1))), (6, .int (iI lw)), (7, .int (iI z)), (8, .int (iI pl)), (9, .int (iI p)), (10, .int (iI 1)), (11, .int (iI z)), (12, .int (iI ((144 * z) + p)))]) h dX12_net_154 [1, 2, 3, 4, 5, 6, 7, 8, 9, 10, 0, 11, 12] (by decide) rfl ?_
                            refine j_iinc (lv' := [(0, .ref g0), (1, .int (iI i)), (2, .int (iI t)), (3, .int (iI w)), (4, .int (iI ((144 * z) + p))), (5, .int (iI (cn + 1))), (6, .int (iI lw)), (7, .int (iI z)), (8, .int (iI pl)), (9, .int (iI p)), (10, .int (iI 1)), (11, .int (iI (z + 1))), (12, .int (iI ((144 * z) + p)))]) h dX12_net_156 11 [1, 2, 3, 4, 5, 6, 7, 8, 9, 10, 11, 0, 12] rfl (by decide) rfl ?_
                            refine j_goto (tgt := 68) h dX12_net_159 (by decide) ?_
                            refine j_lv (lv' := [(0, .ref g0), (1, .int (iI i)), (2, .int (iI t)), (3, .int (iI w)), (4, .int (iI ((144 * z) + p))), (5, .int (iI (cn + 1))), (6, .int (iI lw)), (7, .int (iI z)), (8, .int (iI pl)), (9, .int (iI p)), (10, .int (iI 1)), (11, .int (iI (z + 1)))]) [0, 1, 2, 3, 4, 5, 6, 7, 8, 9, 10, 11] rfl ?_
                            exact ih68 (z + 1) ((144 * z) + p) (cn + 1) lw z 1 (by first | assumption | omega) (by first | assumption | omega) (by have hq9 := ngS_t (by omega) (by omega) hg (show netP B t i (144 * z + p) = true from decide_eq_true (by omega)); (repeat (first | rw [if_pos (by omega)] at hq9 | rw [if_neg (by omega)] at hq9)); exact hq9) (by exact ovS_t (by omega) (show netP B t i (144 * z + p) = true from decide_eq_true (by omega))) (by first | assumption | omega) (by omega)
                        · skip
                          refine j_iload h dX12_net_128 11 rfl ?_
                          refine j_goto (tgt := 135) h dX12_net_130 (by decide) ?_
                          refine j_istore (lv' := [(0, .ref g0), (1, .int (iI i)), (2, .int (iI t)), (3, .int (iI w)), (4, .int (iI ((144 * z) + p))), (5, .int (iI (cn + 1))), (6, .int (iI z)), (7, .int (iI hi9)), (8, .int (iI pl)), (9, .int (iI p)), (10, .int (iI hs9)), (11, .int (iI z)), (12, .int (iI ((144 * z) + p)))]) h dX12_net_135 [1, 2, 3, 4, 5, 6, 0, 7, 8, 9, 10, 11, 12] (by decide) rfl ?_
                          refine j_iload h dX12_net_137 11 rfl ?_
                          refine j_iload h dX12_net_139 7 rfl ?_
                          refine j_icmp_le h 149 dX12_net_141 (by decide) (by omega) (by omega) (fun c424 => ?_) (fun c424 => ?_)
                          · skip
                            refine j_iload h dX12_net_149 7 rfl ?_
                            refine j_istore (lv' := [(0, .ref g0), (1, .int (iI i)), (2, .int (iI t)), (3, .int (iI w)), (4, .int (iI ((144 * z) + p))), (5, .int (iI (cn + 1))), (6, .int (iI z)), (7, .int (iI hi9)), (8, .int (iI pl)), (9, .int (iI p)), (10, .int (iI hs9)), (11, .int (iI z)), (12, .int (iI ((144 * z) + p)))]) h dX12_net_151 [1, 2, 3, 4, 5, 6, 7, 0, 8, 9, 10, 11, 12] (by decide) rfl ?_
                            refine j_iconst h dX12_net_153 ?_
                            refine j_istore (lv' := [(0, .ref g0), (1, .int (iI i)), (2, .int (iI t)), (3, .int (iI w)), (4, .int (iI ((144 * z) + p))), (5, .int (iI (cn + 1))), (6, .int (iI z)), (7, .int (iI hi9)), (8, .int (iI pl)), (9, .int (iI p)), (10, .int (iI 1)), (11, .int (iI z)), (12, .int (iI ((144 * z) + p)))]) h dX12_net_154 [1, 2, 3, 4, 5, 6, 7, 8, 9, 10, 0, 11, 12] (by decide) rfl ?_
                            refine j_iinc (lv' := [(0, .ref g0), (1, .int (iI i)), (2, .int (iI t)), (3, .int (iI w)), (4, .int (iI ((144 * z) + p))), (5, .int (iI (cn + 1))), (6, .int (iI z)), (7, .int (iI hi9)), (8, .int (iI pl)), (9, .int (iI p)), (10, .int (iI 1)), (11, .int (iI (z + 1))), (12, .int (iI ((144 * z) + p)))]) h dX12_net_156 11 [1, 2, 3, 4, 5, 6, 7, 8, 9, 10, 11, 0, 12] rfl (by decide) rfl ?_
                            refine j_goto (tgt := 68) h dX12_net_159 (by decide) ?_
                            refine j_lv (lv' := [(0, .ref g0), (1, .int (iI i)), (2, .int (iI t)), (3, .int (iI w)), (4, .int (iI ((144 * z) + p))), (5, .int (iI (cn + 1))), (6, .int (iI z)), (7, .int (iI hi9)), (8, .int (iI pl)), (9, .int (iI p)), (10, .int (iI 1)), (11, .int (iI (z + 1)))]) [0, 1, 2, 3, 4, 5, 6, 7, 8, 9, 10, 11] rfl ?_
                            exact ih68 (z + 1) ((144 * z) + p) (cn + 1) z hi9 1 (by first | assumption | omega) (by first | assumption | omega) (by have hq9 := ngS_t (by omega) (by omega) hg (show netP B t i (144 * z + p) = true from decide_eq_true (by omega)); (repeat (first | rw [if_pos (by omega)] at hq9 | rw [if_neg (by omega)] at hq9)); exact hq9) (by exact ovS_t (by omega) (show netP B t i (144 * z + p) = true from decide_eq_true (by omega))) (by first | assumption | omega) (by omega)
                          · skip
                            refine j_iload h dX12_net_144 11 rfl ?_
                            refine j_goto (tgt := 151) h dX12_net_146 (by decide) ?_
                            refine j_istore (lv' := [(0, .ref g0), (1, .int (iI i)), (2, .int (iI t)), (3, .int (iI w)), (4, .int (iI ((144 * z) + p))), (5, .int (iI (cn + 1))), (6, .int (iI z)), (7, .int (iI z)), (8, .int (iI pl)), (9, .int (iI p)), (10, .int (iI hs9)), (11, .int (iI z)), (12, .int (iI ((144 * z) + p)))]) h dX12_net_151 [1, 2, 3, 4, 5, 6, 7, 0, 8, 9, 10, 11, 12] (by decide) rfl ?_
                            refine j_iconst h dX12_net_153 ?_
                            refine j_istore (lv' := [(0, .ref g0), (1, .int (iI i)), (2, .int (iI t)), (3, .int (iI w)), (4, .int (iI ((144 * z) + p))), (5, .int (iI (cn + 1))), (6, .int (iI z)), (7, .int (iI z)), (8, .int (iI pl)), (9, .int (iI p)), (10, .int (iI 1)), (11, .int (iI z)), (12, .int (iI ((144 * z) + p)))]) h dX12_net_154 [1, 2, 3, 4, 5, 6, 7, 8, 9, 10, 0, 11, 12] (by decide) rfl ?_
                            refine j_iinc (lv' := [(0, .ref g0), (1, .int (iI i)), (2, .int (iI t)), (3, .int (iI w)), (4, .int (iI ((144 * z) + p))), (5, .int (iI (cn + 1))), (6, .int (iI z)), (7, .int (iI z)), (8, .int (iI pl)), (9, .int (iI p)), (10, .int (iI 1)), (11, .int (iI (z + 1))), (12, .int (iI ((144 * z) + p)))]) h dX12_net_156 11 [1, 2, 3, 4, 5, 6, 7, 8, 9, 10, 11, 0, 12] rfl (by decide) rfl ?_
                            refine j_goto (tgt := 68) h dX12_net_159 (by decide) ?_
                            refine j_lv (lv' := [(0, .ref g0), (1, .int (iI i)), (2, .int (iI t)), (3, .int (iI w)), (4, .int (iI ((144 * z) + p))), (5, .int (iI (cn + 1))), (6, .int (iI z)), (7, .int (iI z)), (8, .int (iI pl)), (9, .int (iI p)), (10, .int (iI 1)), (11, .int (iI (z + 1)))]) [0, 1, 2, 3, 4, 5, 6, 7, 8, 9, 10, 11] rfl ?_
                            exact ih68 (z + 1) ((144 * z) + p) (cn + 1) z z 1 (by first | assumption | omega) (by first | assumption | omega) (by have hq9 := ngS_t (by omega) (by omega) hg (show netP B t i (144 * z + p) = true from decide_eq_true (by omega)); (repeat (first | rw [if_pos (by omega)] at hq9 | rw [if_neg (by omega)] at hq9)); exact hq9) (by exact ovS_t (by omega) (show netP B t i (144 * z + p) = true from decide_eq_true (by omega))) (by first | assumption | omega) (by omega)
            exact lp68 _ 0 fa cn lw hi9 0 (by first | assumption | omega) (by first | assumption | omega) (by exact hg) (by exact ovS_0 _ _) (by first | assumption | omega) (Nat.lt_succ_self _)
      exact lp54 _ 0 (-1) 0 20 (-1) 0 (by first | assumption | omega) (by first | assumption | omega) (by exact ngS_0 _) (by exact (cntI_0 _).symm) (Nat.lt_succ_self _)
    · skip
      replace c408 := of_decide_eq_false c408
      refine j_bipush h dX12_net_32 (by decide) ?_
      exact hr _ _ _ _ dX12_net_34 ⟨n1404, V1405, Q1406, (fun d9 => netM (2 * t) B d9 - 1), (congrArg iI (show ((-101) : Int) = (netR B i t w) by unfold netR; (repeat (first | rw [if_pos (by omega)] | rw [if_neg (by omega)])) <;> (first | omega | (rw [hpl, show p = 144 by omega]; done) | (have hE9 := ngS_end hg (by omega) (by have h7 := netP_fu (B := B) (t := t) (i := i) (by omega); omega); omega)))), rfl⟩
  · skip
    replace c402 := of_decide_eq_false c402
    refine j_bipush h dX12_net_12 (by decide) ?_
    exact hr _ _ _ _ dX12_net_14 ⟨x_queued, V, Q, N0, (congrArg iI (show ((-102) : Int) = (netR B i t w) by unfold netR; (repeat (first | rw [if_pos (by omega)] | rw [if_neg (by omega)])) <;> (first | omega | (rw [hpl, show p = 144 by omega]; done) | (have hE9 := ngS_end hg (by omega) (by have h7 := netP_fu (B := B) (t := t) (i := i) (by omega); omega); omega)))), rfl⟩

