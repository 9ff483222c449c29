abbrev rmX2_markNets : Room := { frames := 2, cells := 0, slots := 0, locals := 48 }
theorem in_X2_markNets_X2 : ∀ w ∈ u_ws RX2 TX2 3, w ∈ wsX2_markNets := fun w hw => List.mem_cons_of_mem _ (List.mem_append_right _ (hw))
theorem f_X2_markNets_9 : FlOK RX2 9 wsX2_markNets 2 0 := ⟨_, _, _, rfl, by decide, in_X2_markNets_X2, List.mem_of_getElem? (i := 1) rfl⟩
theorem f_X2_markNets_18 : FlOK RX2 18 wsX2_markNets 2 2 := ⟨_, _, _, rfl, by decide, in_X2_markNets_X2, List.mem_of_getElem? (i := 2) rfl⟩
set_option maxHeartbeats 600000 in
set_option maxRecDepth 100000 in
/-- marks all nets: how many -/
theorem ct_X2_markNets (T : Nat → ClassId) (h2 : Nat) (m0 : Nat) (q0 : Nat) (c0 : Nat) (M : Int → Int) (Q : Int → Int) (n : Int) (B : Int → Int) (K : Int) (hB : BOK B) (hK : 0 ≤ K ∧ K ≤ 2147483647) : CtI T yX2_markNets wsX2_markNets rmX2_markNets 0 0 [.ref h2, .ref c0, .int (iI K)] [(h2, .inr (2, [.ref m0, .ref q0, .int (iI n)])), (m0, .inl (T 0, 2880, .inl (fun j : Nat => iI (M j)))), (q0, .inl (T 0, 2880, .inl (fun j : Nat => iI (Q j)))), (c0, .inl (T 0, 2880, .inl (fun j : Nat => iI (B j))))] (fun r8 u => ∃ n2 : Int, ∃ Q2 : Int → Int, r8 = (iI (netC K B)) ∧ u = [(h2, .inr (2, [.ref m0, .ref q0, .int (iI n2)])), (m0, .inl (T 0, 2880, .inl (fun j : Nat => iI ((netM K B) j)))), (q0, .inl (T 0, 2880, .inl (fun j : Nat => iI (Q2 j)))), (c0, .inl (T 0, 2880, .inl (fun j : Nat => iI (B j))))]) := by
  refine ctI_of (cc := cX2_markNets) (maxL := 5) (ret := (some .int)) (by decide +kernel) rfl rfl (fun r u hp => by obtain ⟨_, _, rfl, -⟩ := hp; rfl) (Nat.le_of_ble_eq_true rfl) (fun X h hinit hr => ?_)
  refine j_eq (lv' := [(0, .ref h2), (1, .ref c0), (2, .int (iI K))]) rfl rfl rfl rfl rfl rfl ?_
  refine j_aload_n h dX2_markNets_0 0 rfl rfl ?_
  refine j_get h dX2_markNets_1 f_X2_markNets_9 0 rfl rfl ?_
  refine j_iconst h dX2_markNets_4 ?_
  refine j_callSv (As := [.ref m0, .int (iI 0)]) (wr := [(h2, .inr (2, [.ref m0, .ref q0, .int (iI n)])), (q0, .inl (T 0, 2880, .inl (fun j : Nat => iI (Q j)))), (c0, .inl (T 0, 2880, .inl (fun j : Nat => iI (B j))))]) (cells' := 0) (slots' := 0) h dX2_markNets_5 (ct_J7_fill_53178 T m0 2880 M 0 (by first | assumption | omega)) k_J7_fill_53178 gX2_markNets_J7_fill_53178 ⟨Nat.le_of_ble_eq_true rfl, Nat.le_of_ble_eq_true rfl⟩ rfl rfl (Nat.le_of_ble_eq_true rfl) ⟨Nat.le_of_ble_eq_true rfl, Nat.le_of_ble_eq_true rfl⟩ rfl rfl [1] [0, 2, 3] rfl rfl rfl rfl (by decide) (fun u9 p1 => ?_)
  obtain rfl := p1
  refine j_eq (ws' := [(h2, .inr (2, [.ref m0, .ref q0, .int (iI n)])), (q0, .inl (T 0, 2880, .inl (fun j : Nat => iI (Q j)))), (c0, .inl (T 0, 2880, .inl (fun j : Nat => iI (B j)))), (m0, .inl (T 0, 2880, .inl (fun j : Nat => iI ((fillF M (2880 : Int) 0) j))))]) rfl rfl rfl rfl rfl rfl ?_
  refine j_arr (ws' := [(h2, .inr (2, [.ref m0, .ref q0, .int (iI n)])), (q0, .inl (T 0, 2880, .inl (fun j : Nat => iI (Q j)))), (c0, .inl (T 0, 2880, .inl (fun j : Nat => iI (B j)))), (m0, .inl (T 0, 2880, .inl (fun j : Nat => iI ((fun _ => 0) j))))]) 3 rfl (fun j hj => by show iI (fillF _ _ _ _) = iI 0; unfold fillF; rw [if_pos (by omega)]) rfl ?_
  refine j_iconst h dX2_markNets_8 ?_
  refine j_istore_n (lv' := [(0, .ref h2), (1, .ref c0), (2, .int (iI K)), (3, .int (iI 0))]) h dX2_markNets_9 [1, 2, 3, 0] rfl (by decide) rfl ?_
  refine j_iconst h dX2_markNets_10 ?_
  refine j_istore (lv' := [(0, .ref h2), (1, .ref c0), (2, .int (iI K)), (3, .int (iI 0)), (4, .int (iI 0))]) h dX2_markNets_11 [1, 2, 3, 4, 0] (by decide) rfl ?_
  have lp13 : ∀ (n13 : Nat) (k : Int) (n1 : Int) (M1 : Int → Int) (Q1 : Int → Int) (nq : Int) (hk : 0 ≤ k ∧ k ≤ 2880) (hn : n1 = (ntI K B k).2) (hm : M1 = (ntI K B k).1), ((2880 - k).toNat) < n13 → J X 0 0 13 [(0, .ref h2), (1, .ref c0), (2, .int (iI K)), (3, .int (iI n1)), (4, .int (iI k))] [] [(h2, .inr (2, [.ref m0, .ref q0, .int (iI nq)])), (q0, .inl (T 0, 2880, .inl (fun j : Nat => iI (Q1 j)))), (c0, .inl (T 0, 2880, .inl (fun j : Nat => iI (B j)))), (m0, .inl (T 0, 2880, .inl (fun j : Nat => iI (M1 j))))] := by
    intro n13
    induction n13 with
    | zero => exact fun k n1 M1 Q1 nq hk hn hm hn13 => absurd hn13 (Nat.not_lt_zero _)
    | succ n13 ih13 =>
      intro k n1 M1 Q1 nq hk hn hm hn13
      have hr9 := ntI_rng K B hk.1
      have hM1 : ∀ c, 0 ≤ M1 c ∧ M1 c ≤ 2880 := fun c => by have := hr9.2 c; rw [← hm] at this; omega
      refine j_iload h dX2_markNets_13 4 rfl ?_
      refine j_sipush h dX2_markNets_15 (by decide) ?_
      refine j_icmp_ge h 70 dX2_markNets_18 (by decide) (by omega) (by omega) (fun c2 => ?_) (fun c2 => ?_)
      · skip
        refine j_iload_n h dX2_markNets_70 3 rfl rfl ?_
        refine j_ws (ws' := [(h2, .inr (2, [.ref m0, .ref q0, .int (iI nq)])), (m0, .inl (T 0, 2880, .inl (fun j : Nat => iI (M1 j)))), (q0, .inl (T 0, 2880, .inl (fun j : Nat => iI (Q1 j)))), (c0, .inl (T 0, 2880, .inl (fun j : Nat => iI (B j))))]) [0, 3, 1, 2] rfl rfl ?_
        exact hr _ _ _ _ dX2_markNets_71 ⟨nq, Q1, (congrArg iI (show (n1 : Int) = netC K B by rw [hn, show k = 2880 by omega]; rfl)), (by rw [show netM K B = M1 by rw [hm, show k = 2880 by omega]; rfl])⟩
      · skip
        refine j_aload_n h dX2_markNets_21 0 rfl rfl ?_
        refine j_get h dX2_markNets_22 f_X2_markNets_9 0 rfl rfl ?_
        refine j_iload h dX2_markNets_25 4 rfl ?_
        refine j_iald (f := M1) h k dX2_markNets_27 3 rfl (by decide) (by omega) (by omega) ?_
        have e3 := hM1 k
        refine j_if_ne h 64 dX2_markNets_28 (by decide) (by omega) (fun c4 => ?_) (fun c4 => ?_)
        · skip
          refine j_iinc (lv' := [(0, .ref h2), (1, .ref c0), (2, .int (iI K)), (3, .int (iI n1)), (4, .int (iI (k + 1)))]) h dX2_markNets_64 4 [1, 2, 3, 4, 0] rfl (by decide) rfl ?_
          refine j_goto (tgt := 13) h dX2_markNets_67 (by decide) ?_
          exact ih13 (k + 1) n1 M1 Q1 nq (by first | assumption | omega) (by rw [ntI_no (by omega) (by rw [← hm]; exact c4)]; exact hn) (by rw [ntI_no (by omega) (by rw [← hm]; exact c4)]; exact hm) (by omega)
        · skip
          refine j_iload_n h dX2_markNets_31 2 rfl rfl ?_
          refine j_aload_n h dX2_markNets_32 1 rfl rfl ?_
          refine j_iload h dX2_markNets_33 4 rfl ?_
          refine j_iald (f := B) h k dX2_markNets_35 2 rfl (by decide) (by omega) (by omega) ?_
          have e5 := hB k
          refine j_callSNi (As := [.int (iI K), .int (iI (B k))]) (wr := [(h2, .inr (2, [.ref m0, .ref q0, .int (iI nq)])), (q0, .inl (T 0, 2880, .inl (fun j : Nat => iI (Q1 j)))), (c0, .inl (T 0, 2880, .inl (fun j : Nat => iI (B j)))), (m0, .inl (T 0, 2880, .inl (fun j : Nat => iI (M1 j))))]) (cells' := 0) (slots' := 0) h dX2_markNets_36 (ct_X11_hasKind T K (B k) (by first | assumption | omega) (by first | assumption | omega)) k_X11_hasKind gX2_markNets_X11_hasKind_n35 (List.mem_of_getElem? (i := 7) rfl) (List.mem_of_getElem? (i := 8) rfl) (List.mem_of_getElem? (i := 7) rfl) ⟨Nat.le_of_ble_eq_true rfl, Nat.le_of_ble_eq_true rfl⟩ rfl rfl (Nat.le_of_ble_eq_true rfl) ⟨Nat.le_of_ble_eq_true rfl, Nat.le_of_ble_eq_true rfl⟩ rfl rfl [] [0, 1, 2, 3] rfl rfl rfl rfl (by decide) (fun r9 u9 p6 => ?_)
          obtain ⟨rfl, rfl⟩ := p6
          refine j_eq (ws' := [(h2, .inr (2, [.ref m0, .ref q0, .int (iI nq)])), (q0, .inl (T 0, 2880, .inl (fun j : Nat => iI (Q1 j)))), (c0, .inl (T 0, 2880, .inl (fun j : Nat => iI (B j)))), (m0, .inl (T 0, 2880, .inl (fun j : Nat => iI (M1 j))))]) rfl rfl rfl rfl rfl rfl ?_
          refine j_ifeqB h 64 dX2_markNets_39 (by decide) (fun c7 => ?_) (fun c7 => ?_)
          · skip
            refine j_iinc (lv' := [(0, .ref h2), (1, .ref c0), (2, .int (iI K)), (3, .int (iI n1)), (4, .int (iI (k + 1)))]) h dX2_markNets_64 4 [1, 2, 3, 4, 0] rfl (by decide) rfl ?_
            refine j_goto (tgt := 13) h dX2_markNets_67 (by decide) ?_
            exact ih13 (k + 1) n1 M1 Q1 nq (by first | assumption | omega) (by rw [ntI_nk (by omega) c7]; exact hn) (by rw [ntI_nk (by omega) c7]; exact hm) (by omega)
          · skip
            refine j_iinc (lv' := [(0, .ref h2), (1, .ref c0), (2, .int (iI K)), (3, .int (iI (n1 + 1))), (4, .int (iI k))]) h dX2_markNets_42 3 [1, 2, 3, 0, 4] rfl (by decide) rfl ?_
            refine j_aload_n h dX2_markNets_45 0 rfl rfl ?_
            refine j_iconst h dX2_markNets_46 ?_
            refine j_put (ws' := [(h2, .inr (2, [.ref m0, .ref q0, .int (iI 0)])), (q0, .inl (T 0, 2880, .inl (fun j : Nat => iI (Q1 j)))), (c0, .inl (T 0, 2880, .inl (fun j : Nat => iI (B j)))), (m0, .inl (T 0, 2880, .inl (fun j : Nat => iI (M1 j))))]) h dX2_markNets_47 f_X2_markNets_18 p_X2_2 0 rfl rfl rfl (Nat.le_of_ble_eq_true rfl) rfl ?_
            refine j_eq (ws' := [(h2, .inr (2, [.ref m0, .ref q0, .int (iI ((vs0 M1).2.length : Int))])), (q0, .inl (T 0, 2880, .inl (fun j : Nat => iI ((qF Q1 (vs0 M1).2) j)))), (c0, .inl (T 0, 2880, .inl (fun j : Nat => iI (B j)))), (m0, .inl (T 0, 2880, .inl (fun j : Nat => iI ((mkF M1 (n1 + 1) (vs0 M1)) j))))]) rfl rfl rfl rfl rfl (by rw [mkF_vs0, show (vs0 M1).2 = [] from rfl, qF_0]; rfl) ?_
            refine j_aload_n h dX2_markNets_50 0 rfl rfl ?_
            refine j_iload h dX2_markNets_51 4 rfl ?_
            refine j_iload_n h dX2_markNets_53 3 rfl rfl ?_
            refine j_callVv (As := [.int (iI k), .int (iI (n1 + 1))]) (wr := [(c0, .inl (T 0, 2880, .inl (fun j : Nat => iI (B j))))]) (cells' := 0) (slots' := 0) h dX2_markNets_54 (ct_X2_add T h2 m0 q0 M1 (n1 + 1) Q1 (vs0 M1) k (by exact vs0_SV M1) (by first | assumption | omega) (by exact c4) (by exact vs0_f c4)) k_X2_add gX2_markNets_X2_add rfl rfl 0 rfl ⟨Nat.le_of_ble_eq_true rfl, Nat.le_of_ble_eq_true rfl⟩ rfl rfl (Nat.le_of_ble_eq_true rfl) ⟨Nat.le_of_ble_eq_true rfl, Nat.le_of_ble_eq_true rfl⟩ rfl rfl [0, 3, 1] [2] rfl rfl rfl rfl (by decide) (fun u9 p8 => ?_)
            obtain rfl := p8
            refine j_eq (ws' := [(c0, .inl (T 0, 2880, .inl (fun j : Nat => iI (B j)))), (h2, .inr (2, [.ref m0, .ref q0, .int (iI ((visit (vs0 M1) k).2.length : Int))])), (m0, .inl (T 0, 2880, .inl (fun j : Nat => iI ((mkF M1 (n1 + 1) (visit (vs0 M1) k)) j)))), (q0, .inl (T 0, 2880, .inl (fun j : Nat => iI ((qF Q1 (visit (vs0 M1) k).2) j))))]) rfl rfl rfl rfl rfl rfl ?_
            refine j_aload_n h dX2_markNets_57 0 rfl rfl ?_
            refine j_aload_n h dX2_markNets_58 1 rfl rfl ?_
            refine j_iload_n h dX2_markNets_59 2 rfl rfl ?_
            refine j_iload_n h dX2_markNets_60 3 rfl rfl ?_
            refine j_callVv (As := [.ref c0, .int (iI K), .int (iI (n1 + 1))]) (wr := []) (cells' := 0) (slots' := 0) h dX2_markNets_61 (ct_X2_spread T h2 m0 q0 c0 B K M1 (n1 + 1) Q1 (visit (vs0 M1) k) (by first | assumption | omega) (by first | assumption | omega) (by omega) (by exact hM1) (by intro d hd; rw [visit_1, vs0_M d hd]; rfl) (by exact SV_visit (vs0_SV M1) (by omega))) k_X2_spread gX2_markNets_X2_spread rfl rfl 1 rfl ⟨Nat.le_of_ble_eq_true rfl, Nat.le_of_ble_eq_true rfl⟩ rfl rfl (Nat.le_of_ble_eq_true rfl) ⟨Nat.le_of_ble_eq_true rfl, Nat.le_of_ble_eq_true rfl⟩ rfl rfl [1, 2, 3, 0] [] rfl rfl rfl rfl (by decide) (fun u9 p9 => ?_)
            obtain rfl := p9
            refine j_eq (ws' := [(h2, .inr (2, [.ref m0, .ref q0, .int (iI ((bfs (okB K B) (visit (vs0 M1) k)).2.length : Int))])), (m0, .inl (T 0, 2880, .inl (fun j : Nat => iI ((mkF M1 (n1 + 1) (bfs (okB K B) (visit (vs0 M1) k))) j)))), (q0, .inl (T 0, 2880, .inl (fun j : Nat => iI ((qF Q1 (bfs (okB K B) (visit (vs0 M1) k)).2) j)))), (c0, .inl (T 0, 2880, .inl (fun j : Nat => iI (B j))))]) rfl rfl rfl rfl rfl rfl ?_
            refine j_iinc (lv' := [(0, .ref h2), (1, .ref c0), (2, .int (iI K)), (3, .int (iI (n1 + 1))), (4, .int (iI (k + 1)))]) h dX2_markNets_64 4 [1, 2, 3, 4, 0] rfl (by decide) rfl ?_
            refine j_goto (tgt := 13) h dX2_markNets_67 (by decide) ?_
            refine j_ws (ws' := [(h2, .inr (2, [.ref m0, .ref q0, .int (iI ((bfs (okB K B) (visit (vs0 M1) k)).2.length : Int))])), (q0, .inl (T 0, 2880, .inl (fun j : Nat => iI ((qF Q1 (bfs (okB K B) (visit (vs0 M1) k)).2) j)))), (c0, .inl (T 0, 2880, .inl (fun j : Nat => iI (B j)))), (m0, .inl (T 0, 2880, .inl (fun j : Nat => iI ((mkF M1 (n1 + 1) (bfs (okB K B) (visit (vs0 M1) k))) j))))]) [0, 2, 3, 1] rfl rfl ?_
            exact ih13 (k + 1) (n1 + 1) (mkF M1 (n1 + 1) (bfs (okB K B) (visit (vs0 M1) k))) (qF Q1 (bfs (okB K B) (visit (vs0 M1) k)).2) ((bfs (okB K B) (visit (vs0 M1) k)).2.length : Int) (by first | assumption | omega) (by rw [ntI_yes (by omega) (by rw [← hm]; exact c4) c7, ← hn]) (by rw [ntI_yes (by omega) (by rw [← hm]; exact c4) c7, ← hn, ← hm]; rfl) (by omega)
  exact lp13 _ 0 0 (fun _ => 0) Q n (by first | assumption | omega) (by rw [ntI_0]) (by rw [ntI_0]) (Nat.lt_succ_self _)

abbrev rmX2_netAt : Room := { frames := 0, cells := 0, slots := 0, locals := 0 }
theorem in_X2_netAt_X2 : ∀ w ∈ u_ws RX2 TX2 3, w ∈ wsX2_netAt := fun w hw => List.mem_cons_of_mem _ (List.mem_append_right _ (hw))
theorem f_X2_netAt_9 : FlOK RX2 9 wsX2_netAt 2 0 := ⟨_, _, _, rfl, by decide, in_X2_netAt_X2, List.mem_of_getElem? (i := 1) rfl⟩
set_option maxHeartbeats 600000 in
set_option maxRecDepth 100000 in
/-- the net of a cube, or -1 -/
theorem ct_X2_netAt (T : Nat → ClassId) (h2 : Nat) (m0 : Nat) (q0 : Nat) (n : Int) (M : Int → Int) (c : Int) (hM : ∀ c, 0 ≤ M c ∧ M c ≤ 2880) (hc : 0 ≤ c ∧ c < 2880) : CtI T yX2_netAt wsX2_netAt rmX2_netAt 0 0 [.ref h2, .int (iI c)] [(h2, .inr (2, [.ref m0, .ref q0, .int (iI n)])), (m0, .inl (T 0, 2880, .inl (fun j : Nat => iI (M j))))] (fun r8 u => r8 = (iI (M c - 1)) ∧ u = [(h2, .inr (2, [.ref m0, .ref q0, .int (iI n)])), (m0, .inl (T 0, 2880, .inl (fun j : Nat => iI (M j))))]) := by
  refine ctI_of (cc := cX2_netAt) (maxL := 2) (ret := (some .int)) (by decide +kernel) rfl rfl (fun r u hp => by obtain ⟨rfl, -⟩ := hp; rfl) (Nat.le_of_ble_eq_true rfl) (fun X h hinit hr => ?_)
  refine j_eq (lv' := [(0, .ref h2), (1, .int (iI c))]) rfl rfl rfl rfl rfl rfl ?_
  refine j_aload_n h dX2_netAt_0 0 rfl rfl ?_
  refine j_get h dX2_netAt_1 f_X2_netAt_9 0 rfl rfl ?_
  refine j_iload_n h dX2_netAt_4 1 rfl rfl ?_
  refine j_iald (f := M) h c dX2_netAt_5 1 rfl (by decide) (by omega) (by omega) ?_
  have e1 := hM c
  refine j_if_ne h 13 dX2_netAt_6 (by decide) (by omega) (fun c2 => ?_) (fun c2 => ?_)
  · skip
    refine j_aload_n h dX2_netAt_13 0 rfl rfl ?_
    refine j_get h dX2_netAt_14 f_X2_netAt_9 0 rfl rfl ?_
    refine j_iload_n h dX2_netAt_17 1 rfl rfl ?_
    refine j_iald (f := M) h c dX2_netAt_18 1 rfl (by decide) (by omega) (by omega) ?_
    have e3 := hM c
    refine j_iconst h dX2_netAt_19 ?_
    refine j_isub h dX2_netAt_20 ?_
    exact hr _ _ _ _ dX2_netAt_21 ⟨(congrArg iI (show (((M c) - 1) : Int) = (M c - 1) by first | rfl | omega)), rfl⟩
  · skip
    refine j_iconst h dX2_netAt_9 ?_
    refine j_goto (tgt := 21) h dX2_netAt_10 (by decide) ?_
    exact hr _ _ _ _ dX2_netAt_21 ⟨(congrArg iI (show (-1 : Int) = (M c - 1) by first | rfl | omega)), rfl⟩

abbrev rmX2_leastOfNet : Room := { frames := 0, cells := 0, slots := 0, locals := 0 }
theorem in_X2_leastOfNet_X2 : ∀ w ∈ u_ws RX2 TX2 3, w ∈ wsX2_leastOfNet := fun w hw => List.mem_cons_of_mem _ (List.mem_append_right _ (hw))
theorem f_X2_leastOfNet_9 : FlOK RX2 9 wsX2_leastOfNet 2 0 := ⟨_, _, _, rfl, by decide, in_X2_leastOfNet_X2, List.mem_of_getElem? (i := 1) rfl⟩
set_option maxHeartbeats 600000 in
set_option maxRecDepth 100000 in
/-- the least cube of a net -/
theorem ct_X2_leastOfNet (T : Nat → ClassId) (h2 : Nat) (m0 : Nat) (q0 : Nat) (n : Int) (M : Int → Int) (i : Int) (hM : ∀ c, 0 ≤ M c ∧ M c ≤ 2880) (hi : 0 ≤ i ∧ i ≤ 2880) : CtI T yX2_leastOfNet wsX2_leastOfNet rmX2_leastOfNet 0 0 [.ref h2, .int (iI i)] [(h2, .inr (2, [.ref m0, .ref q0, .int (iI n)])), (m0, .inl (T 0, 2880, .inl (fun j : Nat => iI (M j))))] (fun r8 u => r8 = (iI (fuI (fun c => decide (M c = i + 1)) 0 2880)) ∧ u = [(h2, .inr (2, [.ref m0, .ref q0, .int (iI n)])), (m0, .inl (T 0, 2880, .inl (fun j : Nat => iI (M j))))]) := by
  refine ctI_of (cc := cX2_leastOfNet) (maxL := 3) (ret := (some .int)) (by decide +kernel) rfl rfl (fun r u hp => by obtain ⟨rfl, -⟩ := hp; rfl) (Nat.le_of_ble_eq_true rfl) (fun X h hinit hr => ?_)
  refine j_eq (lv' := [(0, .ref h2), (1, .int (iI i))]) rfl rfl rfl rfl rfl rfl ?_
  refine j_iconst h dX2_leastOfNet_0 ?_
  refine j_istore_n (lv' := [(0, .ref h2), (1, .int (iI i)), (2, .int (iI 0))]) h dX2_leastOfNet_1 [1, 2, 0] rfl (by decide) rfl ?_
  have lp2 : ∀ (n2 : Nat) (k : Int) (hk : 0 ≤ k ∧ k ≤ 2880) (hf : fuI (fun c => decide (M c = i + 1)) k 2880 = fuI (fun c => decide (M c = i + 1)) 0 2880), ((2880 - k).toNat) < n2 → J X 0 0 2 [(0, .ref h2), (1, .int (iI i)), (2, .int (iI k))] [] [(h2, .inr (2, [.ref m0, .ref q0, .int (iI n)])), (m0, .inl (T 0, 2880, .inl (fun j : Nat => iI (M j))))] := by
    intro n2
    induction n2 with
    | zero => exact fun k hk hf hn2 => absurd hn2 (Nat.not_lt_zero _)
    | succ n2 ih2 =>
      intro k hk hf hn2
      refine j_iload_n h dX2_leastOfNet_2 2 rfl rfl ?_
      refine j_sipush h dX2_leastOfNet_3 (by decide) ?_
      refine j_icmp_ge h 29 dX2_leastOfNet_6 (by decide) (by omega) (by omega) (fun c1 => ?_) (fun c1 => ?_)
      · skip
        refine j_iconst h dX2_leastOfNet_29 ?_
        exact hr _ _ _ _ dX2_leastOfNet_30 ⟨(congrArg iI (show (-1 : Int) = fuI (fun c => decide (M c = i + 1)) 0 2880 by rw [← hf, fuI_e (by omega)])), rfl⟩
      · skip
        refine j_aload_n h dX2_leastOfNet_9 0 rfl rfl ?_
        refine j_get h dX2_leastOfNet_10 f_X2_leastOfNet_9 0 rfl rfl ?_
        refine j_iload_n h dX2_leastOfNet_13 2 rfl rfl ?_
        refine j_iald (f := M) h k dX2_leastOfNet_14 1 rfl (by decide) (by omega) (by omega) ?_
        have e2 := hM k
        refine j_iload_n h dX2_leastOfNet_15 1 rfl rfl ?_
        refine j_iconst h dX2_leastOfNet_16 ?_
        refine j_iadd h dX2_leastOfNet_17 ?_
        refine j_icmp_ne h 23 dX2_leastOfNet_18 (by decide) (by omega) (by omega) (fun c3 => ?_) (fun c3 => ?_)
        · skip
          refine j_iinc (lv' := [(0, .ref h2), (1, .int (iI i)), (2, .int (iI (k + 1)))]) h dX2_leastOfNet_23 2 [1, 2, 0] rfl (by decide) rfl ?_
          refine j_goto (tgt := 2) h dX2_leastOfNet_26 (by decide) ?_
          exact ih2 (k + 1) (by first | assumption | omega) (by rw [← fuI_f (by omega) (by simp; omega)]; exact hf) (by omega)
        · skip
          refine j_iload_n h dX2_leastOfNet_21 2 rfl rfl ?_
          exact hr _ _ _ _ dX2_leastOfNet_22 ⟨(congrArg iI (show (k : Int) = fuI (fun c => decide (M c = i + 1)) 0 2880 by rw [← hf, fuI_t (by omega) (by simp; omega)])), rfl⟩
  exact lp2 _ 0 (by first | assumption | omega) (by rfl) (Nat.lt_succ_self _)

abbrev rmX2_greatestOfNet : Room := { frames := 0, cells := 0, slots := 0, locals := 0 }
theorem in_X2_greatestOfNet_X2 : ∀ w ∈ u_ws RX2 TX2 3, w ∈ wsX2_greatestOfNet := fun w hw => List.mem_cons_of_mem _ (List.mem_append_right _ (hw))
theorem f_X2_greatestOfNet_9 : FlOK RX2 9 wsX2_greatestOfNet 2 0 := ⟨_, _, _, rfl, by decide, in_X2_greatestOfNet_X2, List.mem_of_getElem? (i := 1) rfl⟩
set_option maxHeartbeats 600000 in
set_option maxRecDepth 100000 in
/-- the greatest cube of a net -/
theorem ct_X2_greatestOfNet (T : Nat → ClassId) (h2 : Nat) (m0 : Nat) (q0 : Nat) (n : Int) (M : Int → Int) (i : Int) (hM : ∀ c, 0 ≤ M c ∧ M c ≤ 2880) (hi : 0 ≤ i ∧ i ≤ 2880) : CtI T yX2_greatestOfNet wsX2_greatestOfNet rmX2_greatestOfNet 0 0 [.ref h2, .int (iI i)] [(h2, .inr (2, [.ref m0, .ref q0, .int (iI n)])), (m0, .inl (T 0, 2880, .inl (fun j : Nat => iI (M j))))] (fun r8 u => r8 = (iI (fdI (fun c => decide (M c = i + 1)) 2880)) ∧ u = [(h2, .inr (2, [.ref m0, .ref q0, .int (iI n)])), (m0, .inl (T 0, 2880, .inl (fun j : Nat => iI (M j))))]) := by
  refine ctI_of (cc := cX2_greatestOfNet) (maxL := 3) (ret := (some .int)) (by decide +kernel) rfl rfl (fun r u hp => by obtain ⟨rfl, -⟩ := hp; rfl) (Nat.le_of_ble_eq_true rfl) (fun X h hinit hr => ?_)
  refine j_eq (lv' := [(0, .ref h2), (1, .int (iI i))]) rfl rfl rfl rfl rfl rfl ?_
  refine j_sipush h dX2_greatestOfNet_0 (by decide) ?_
  refine j_istore_n (lv' := [(0, .ref h2), (1, .int (iI i)), (2, .int (iI 2879))]) h dX2_greatestOfNet_3 [1, 2, 0] rfl (by decide) rfl ?_
  have lp4 : ∀ (n4 : Nat) (k : Int) (hk : -1 ≤ k ∧ k < 2880) (hf : fdI (fun c => decide (M c = i + 1)) (k + 1) = fdI (fun c => decide (M c = i + 1)) 2880), ((k + 1).toNat) < n4 → J X 0 0 4 [(0, .ref h2), (1, .int (iI i)), (2, .int (iI k))] [] [(h2, .inr (2, [.ref m0, .ref q0, .int (iI n)])), (m0, .inl (T 0, 2880, .inl (fun j : Nat => iI (M j))))] := by
    intro n4
    induction n4 with
    | zero => exact fun k hk hf hn4 => absurd hn4 (Nat.not_lt_zero _)
    | succ n4 ih4 =>
      intro k hk hf hn4
      refine j_iload_n h dX2_greatestOfNet_4 2 rfl rfl ?_
      refine j_if_lt h 28 dX2_greatestOfNet_5 (by decide) (by omega) (fun c1 => ?_) (fun c1 => ?_)
      · skip
        refine j_iconst h dX2_greatestOfNet_28 ?_
        exact hr _ _ _ _ dX2_greatestOfNet_29 ⟨(congrArg iI (show (-1 : Int) = fdI (fun c => decide (M c = i + 1)) 2880 by rw [← hf, fdI_z (by omega)])), rfl⟩
      · skip
        refine j_aload_n h dX2_greatestOfNet_8 0 rfl rfl ?_
        refine j_get h dX2_greatestOfNet_9 f_X2_greatestOfNet_9 0 rfl rfl ?_
        refine j_iload_n h dX2_greatestOfNet_12 2 rfl rfl ?_
        refine j_iald (f := M) h k dX2_greatestOfNet_13 1 rfl (by decide) (by omega) (by omega) ?_
        have e2 := hM k
        refine j_iload_n h dX2_greatestOfNet_14 1 rfl rfl ?_
        refine j_iconst h dX2_greatestOfNet_15 ?_
        refine j_iadd h dX2_greatestOfNet_16 ?_
        refine j_icmp_ne h 22 dX2_greatestOfNet_17 (by decide) (by omega) (by omega) (fun c3 => ?_) (fun c3 => ?_)
        · skip
          refine j_iinc (lv' := [(0, .ref h2), (1, .int (iI i)), (2, .int (iI (k + (-1))))]) h dX2_greatestOfNet_22 2 [1, 2, 0] rfl (by decide) rfl ?_
          refine j_goto (tgt := 4) h dX2_greatestOfNet_25 (by decide) ?_
          exact ih4 (k + (-1)) (by first | assumption | omega) (by rw [show k + -1 + 1 = k by omega, ← fdI_f (by omega) (by simp; omega)]; exact hf) (by omega)
        · skip
          refine j_iload_n h dX2_greatestOfNet_20 2 rfl rfl ?_
          exact hr _ _ _ _ dX2_greatestOfNet_21 ⟨(congrArg iI (show (k : Int) = fdI (fun c => decide (M c = i + 1)) 2880 by rw [← hf, fdI_t (by omega) (by simp; omega)])), rfl⟩
  exact lp4 _ 2879 (by first | assumption | omega) (by rfl) (Nat.lt_succ_self _)

abbrev rmX2_sizeOfNet : Room := { frames := 0, cells := 0, slots := 0, locals := 0 }
theorem in_X2_sizeOfNet_X2 : ∀ w ∈ u_ws RX2 TX2 3, w ∈ wsX2_sizeOfNet := fun w hw => List.mem_cons_of_mem _ (List.mem_append_right _ (hw))
theorem f_X2_sizeOfNet_9 : FlOK RX2 9 wsX2_sizeOfNet 2 0 := ⟨_, _, _, rfl, by decide, in_X2_sizeOfNet_X2, List.mem_of_getElem? (i := 1) rfl⟩
set_option maxHeartbeats 600000 in
set_option maxRecDepth 100000 in
/-- how many cubes a net has -/
theorem ct_X2_sizeOfNet (T : Nat → ClassId) (h2 : Nat) (m0 : Nat) (q0 : Nat) (n : Int) (M : Int → Int) (i : Int) (hM : ∀ c, 0 ≤ M c ∧ M c ≤ 2880) (hi : 0 ≤ i ∧ i ≤ 2880) : CtI T yX2_sizeOfNet wsX2_sizeOfNet rmX2_sizeOfNet 0 0 [.ref h2, .int (iI i)] [(h2, .inr (2, [.ref m0, .ref q0, .int (iI n)])), (m0, .inl (T 0, 2880, .inl (fun j : Nat => iI (M j))))] (fun r8 u => r8 = (iI (cntI (fun c => decide (M c = i + 1)) 2880)) ∧ u = [(h2, .inr (2, [.ref m0, .ref q0, .int (iI n)])), (m0, .inl (T 0, 2880, .inl (fun j : Nat => iI (M j))))]) := by
  refine ctI_of (cc := cX2_sizeOfNet) (maxL := 4) (ret := (some .int)) (by decide +kernel) rfl rfl (fun r u hp => by obtain ⟨rfl, -⟩ := hp; rfl) (Nat.le_of_ble_eq_true rfl) (fun X h hinit hr => ?_)
  refine j_eq (lv' := [(0, .ref h2), (1, .int (iI i))]) rfl rfl rfl rfl rfl rfl ?_
  refine j_iconst h dX2_sizeOfNet_0 ?_
  refine j_istore_n (lv' := [(0, .ref h2), (1, .int (iI i)), (2, .int (iI 0))]) h dX2_sizeOfNet_1 [1, 2, 0] rfl (by decide) rfl ?_
  refine j_iconst h dX2_sizeOfNet_2 ?_
  refine j_istore_n (lv' := [(0, .ref h2), (1, .int (iI i)), (2, .int (iI 0)), (3, .int (iI 0))]) h dX2_sizeOfNet_3 [1, 2, 3, 0] rfl (by decide) rfl ?_
  have lp4 : ∀ (n4 : Nat) (k : Int) (m : Int) (hk : 0 ≤ k ∧ k ≤ 2880) (hn : m = cntI (fun c => decide (M c = i + 1)) k), ((2880 - k).toNat) < n4 → J X 0 0 4 [(0, .ref h2), (1, .int (iI i)), (2, .int (iI m)), (3, .int (iI k))] [] [(h2, .inr (2, [.ref m0, .ref q0, .int (iI n)])), (m0, .inl (T 0, 2880, .inl (fun j : Nat => iI (M j))))] := by
    intro n4
    induction n4 with
    | zero => exact fun k m hk hn hn4 => absurd hn4 (Nat.not_lt_zero _)
    | succ n4 ih4 =>
      intro k m hk hn hn4
      have hn9 := cntI_rng (fun c => decide (M c = i + 1)) (k := k) (by omega)
      refine j_iload_n h dX2_sizeOfNet_4 3 rfl rfl ?_
      refine j_sipush h dX2_sizeOfNet_5 (by decide) ?_
      refine j_icmp_ge h 32 dX2_sizeOfNet_8 (by decide) (by omega) (by omega) (fun c1 => ?_) (fun c1 => ?_)
      · skip
        refine j_iload_n h dX2_sizeOfNet_32 2 rfl rfl ?_
        exact hr _ _ _ _ dX2_sizeOfNet_33 ⟨(congrArg iI (show (m : Int) = cntI (fun c => decide (M c = i + 1)) 2880 by rw [hn, show k = 2880 by omega])), rfl⟩
      · skip
        refine j_aload_n h dX2_sizeOfNet_11 0 rfl rfl ?_
        refine j_get h dX2_sizeOfNet_12 f_X2_sizeOfNet_9 0 rfl rfl ?_
        refine j_iload_n h dX2_sizeOfNet_15 3 rfl rfl ?_
        refine j_iald (f := M) h k dX2_sizeOfNet_16 1 rfl (by decide) (by omega) (by omega) ?_
        have e2 := hM k
        refine j_iload_n h dX2_sizeOfNet_17 1 rfl rfl ?_
        refine j_iconst h dX2_sizeOfNet_18 ?_
        refine j_iadd h dX2_sizeOfNet_19 ?_
        refine j_icmp_ne h 26 dX2_sizeOfNet_20 (by decide) (by omega) (by omega) (fun c3 => ?_) (fun c3 => ?_)
        · skip
          refine j_iinc (lv' := [(0, .ref h2), (1, .int (iI i)), (2, .int (iI m)), (3, .int (iI (k + 1)))]) h dX2_sizeOfNet_26 3 [1, 2, 3, 0] rfl (by decide) rfl ?_
          refine j_goto (tgt := 4) h dX2_sizeOfNet_29 (by decide) ?_
          exact ih4 (k + 1) m (by first | assumption | omega) (by rw [cntI_f (by omega) (by simp; omega)]; exact hn) (by omega)
        · skip
          refine j_iinc (lv' := [(0, .ref h2), (1, .int (iI i)), (2, .int (iI (m + 1))), (3, .int (iI k))]) h dX2_sizeOfNet_23 2 [1, 2, 0, 3] rfl (by decide) rfl ?_
          refine j_iinc (lv' := [(0, .ref h2), (1, .int (iI i)), (2, .int (iI (m + 1))), (3, .int (iI (k + 1)))]) h dX2_sizeOfNet_26 3 [1, 2, 3, 0] rfl (by decide) rfl ?_
          refine j_goto (tgt := 4) h dX2_sizeOfNet_29 (by decide) ?_
          exact ih4 (k + 1) (m + 1) (by first | assumption | omega) (by rw [cntI_t (by omega) (by simp; omega)]; omega) (by omega)
  exact lp4 _ 0 0 (by first | assumption | omega) (by exact (cntI_0 _).symm) (Nat.lt_succ_self _)

abbrev rmX2_isOver : Room := { frames := 0, cells := 0, slots := 0, locals := 0 }
theorem in_X2_isOver_X2 : ∀ w ∈ u_ws RX2 TX2 3, w ∈ wsX2_isOver := fun w hw => List.mem_cons_of_mem _ (List.mem_append_right _ (hw))
theorem f_X2_isOver_9 : FlOK RX2 9 wsX2_isOver 2 0 := ⟨_, _, _, rfl, by decide, in_X2_isOver_X2, List.mem_of_getElem? (i := 1) rfl⟩
set_option maxHeartbeats 600000 in
set_option maxRecDepth 100000 in
/-- whether a net is over a place -/
theorem ct_X2_isOver (T : Nat → ClassId) (h2 : Nat) (m0 : Nat) (q0 : Nat) (n : Int) (M : Int → Int) (p : Int) (i : Int) (hM : ∀ c, 0 ≤ M c ∧ M c ≤ 2880) (hi : 0 ≤ i ∧ i ≤ 2880) (hp : 0 ≤ p ∧ p < 144) : CtI T yX2_isOver wsX2_isOver rmX2_isOver 0 0 [.ref h2, .int (iI p), .int (iI i)] [(h2, .inr (2, [.ref m0, .ref q0, .int (iI n)])), (m0, .inl (T 0, 2880, .inl (fun j : Nat => iI (M j))))] (fun r8 u => r8 = (iI (bI (overP M i p))) ∧ u = [(h2, .inr (2, [.ref m0, .ref q0, .int (iI n)])), (m0, .inl (T 0, 2880, .inl (fun j : Nat => iI (M j))))]) := by
  refine ctI_of (cc := cX2_isOver) (maxL := 4) (ret := (some .boolean)) (by decide +kernel) rfl rfl (fun r u hp => by obtain ⟨rfl, -⟩ := hp; exact nz_bool _) (Nat.le_of_ble_eq_true rfl) (fun X h hinit hr => ?_)
  refine j_eq (lv' := [(0, .ref h2), (1, .int (iI p)), (2, .int (iI i))]) rfl rfl rfl rfl rfl rfl ?_
  refine j_iload_n h dX2_isOver_0 1 rfl rfl ?_
  refine j_istore_n (lv' := [(0, .ref h2), (1, .int (iI p)), (2, .int (iI i)), (3, .int (iI p))]) h dX2_isOver_1 [1, 2, 3, 0] rfl (by decide) rfl ?_
  have lp2 : ∀ (n2 : Nat) (z : Int) (v : Int) (hz : 0 ≤ z ∧ z ≤ 20) (hv : v = 144 * z + p) (hf : anI (fun z => decide (M (144 * z + p) = i + 1)) z 20 = overP M i p), ((20 - z).toNat) < n2 → J X 0 0 2 [(0, .ref h2), (1, .int (iI p)), (2, .int (iI i)), (3, .int (iI v))] [] [(h2, .inr (2, [.ref m0, .ref q0, .int (iI n)])), (m0, .inl (T 0, 2880, .inl (fun j : Nat => iI (M j))))] := by
    intro n2
    induction n2 with
    | zero => exact fun z v hz hv hf hn2 => absurd hn2 (Nat.not_lt_zero _)
    | succ n2 ih2 =>
      intro z v hz hv hf hn2
      refine j_iload_n h dX2_isOver_2 3 rfl rfl ?_
      refine j_sipush h dX2_isOver_3 (by decide) ?_
      refine j_icmp_ge h 32 dX2_isOver_6 (by decide) (by omega) (by omega) (fun c1 => ?_) (fun c1 => ?_)
      · skip
        refine j_iconst h dX2_isOver_32 ?_
        exact hr _ _ _ _ dX2_isOver_33 ⟨(congrArg (fun b9 => iI (bI b9)) (show false = overP M i p by rw [← hf, anI_e (by omega)])), rfl⟩
      · skip
        refine j_aload_n h dX2_isOver_9 0 rfl rfl ?_
        refine j_get h dX2_isOver_10 f_X2_isOver_9 0 rfl rfl ?_
        refine j_iload_n h dX2_isOver_13 3 rfl rfl ?_
        refine j_iald (f := M) h (144 * z + p) dX2_isOver_14 1 rfl (by decide) (by omega) (by omega) ?_
        have e2 := hM (144 * z + p)
        refine j_iload_n h dX2_isOver_15 2 rfl rfl ?_
        refine j_iconst h dX2_isOver_16 ?_
        refine j_iadd h dX2_isOver_17 ?_
        refine j_icmp_ne h 23 dX2_isOver_18 (by decide) (by omega) (by omega) (fun c3 => ?_) (fun c3 => ?_)
        · skip
          refine j_iincW (lv' := [(0, .ref h2), (1, .int (iI p)), (2, .int (iI i)), (3, .int (iI (v + 144)))]) h dX2_isOver_23 3 [1, 2, 3, 0] rfl (by decide) rfl ?_
          refine j_goto (tgt := 2) h dX2_isOver_29 (by decide) ?_
          exact ih2 (z + 1) (v + 144) (by first | assumption | omega) (by first | assumption | omega) (by rw [← anI_f (by omega) (by simp; omega)]; exact hf) (by omega)
        · skip
          refine j_iconst h dX2_isOver_21 ?_
          exact hr _ _ _ _ dX2_isOver_22 ⟨(congrArg (fun b9 => iI (bI b9)) (show true = overP M i p by rw [← hf, anI_t (by omega) (by simp; omega)])), rfl⟩
  exact lp2 _ 0 p (by first | assumption | omega) (by first | assumption | omega) (by rfl) (Nat.lt_succ_self _)

abbrev rmX2_placesOfNet : Room := { frames := 1, cells := 0, slots := 0, locals := 23 }
theorem k_X2_isOver : CkOK yX2_isOver wsX2_isOver rmX2_isOver 0 0 cX2_isOver 4 (some .boolean) 2 := ⟨⟨_, rfl⟩, rfl, rfl, by decide +kernel⟩
set_option maxHeartbeats 600000 in
set_option maxRecDepth 100000 in
/-- over how many places a net is -/
theorem ct_X2_placesOfNet (T : Nat → ClassId) (h2 : Nat) (m0 : Nat) (q0 : Nat) (n : Int) (M : Int → Int) (i : Int) (hM : ∀ c, 0 ≤ M c ∧ M c ≤ 2880) (hi : 0 ≤ i ∧ i ≤ 2880) : CtI T yX2_placesOfNet wsX2_placesOfNet rmX2_placesOfNet 0 0 [.ref h2, .int (iI i)] [(h2, .inr (2, [.ref m0, .ref q0, .int (iI n)])), (m0, .inl (T 0, 2880, .inl (fun j : Nat => iI (M j))))] (fun r8 u => r8 = (iI (cntI (overP M i) 144)) ∧ u = [(h2, .inr (2, [.ref m0, .ref q0, .int (iI n)])), (m0, .inl (T 0, 2880, .inl (fun j : Nat => iI (M j))))]) := by
  refine ctI_of (cc := cX2_placesOfNet) (maxL := 4) (ret := (some .int)) (by decide +kernel) rfl rfl (fun r u hp => by obtain ⟨rfl, -⟩ := hp; rfl) (Nat.le_of_ble_eq_true rfl) (fun X h hinit hr => ?_)
  refine j_eq (lv' := [(0, .ref h2), (1, .int (iI i))]) rfl rfl rfl rfl rfl rfl ?_
  refine j_iconst h dX2_placesOfNet_0 ?_
  refine j_istore_n (lv' := [(0, .ref h2), (1, .int (iI i)), (2, .int (iI 0))]) h dX2_placesOfNet_1 [1, 2, 0] rfl (by decide) rfl ?_
  refine j_iconst h dX2_placesOfNet_2 ?_
  refine j_istore_n (lv' := [(0, .ref h2), (1, .int (iI i)), (2, .int (iI 0)), (3, .int (iI 0))]) h dX2_placesOfNet_3 [1, 2, 3, 0] rfl (by decide) rfl ?_
  have lp4 : ∀ (n4 : Nat) (k : Int) (m : Int) (hk : 0 ≤ k ∧ k ≤ 144) (hn : m = cntI (overP M i) k), ((144 - k).toNat) < n4 → J X 0 0 4 [(0, .ref h2), (1, .int (iI i)), (2, .int (iI m)), (3, .int (iI k))] [] [(h2, .inr (2, [.ref m0, .ref q0, .int (iI n)])), (m0, .inl (T 0, 2880, .inl (fun j : Nat => iI (M j))))] := by
    intro n4
    induction n4 with
    | zero => exact fun k m hk hn hn4 => absurd hn4 (Nat.not_lt_zero _)
    | succ n4 ih4 =>
      intro k m hk hn hn4
      have hn9 := cntI_rng (overP M i) (k := k) (by omega)
      refine j_iload_n h dX2_placesOfNet_4 3 rfl rfl ?_
      refine j_sipush h dX2_placesOfNet_5 (by decide) ?_
      refine j_icmp_ge h 29 dX2_placesOfNet_8 (by decide) (by omega) (by omega) (fun c1 => ?_) (fun c1 => ?_)
      · skip
        refine j_iload_n h dX2_placesOfNet_29 2 rfl rfl ?_
        exact hr _ _ _ _ dX2_placesOfNet_30 ⟨(congrArg iI (show (m : Int) = cntI (overP M i) 144 by rw [hn, show k = 144 by omega])), rfl⟩
      · skip
        refine j_aload_n h dX2_placesOfNet_11 0 rfl rfl ?_
        refine j_iload_n h dX2_placesOfNet_12 3 rfl rfl ?_
        refine j_iload_n h dX2_placesOfNet_13 1 rfl rfl ?_
        refine j_callVi (As := [.int (iI k), .int (iI i)]) (wr := []) (cells' := 0) (slots' := 0) h dX2_placesOfNet_14 (ct_X2_isOver T h2 m0 q0 n M k i (by first | assumption | omega) (by first | assumption | omega) (by first | assumption | omega)) k_X2_isOver gX2_placesOfNet_X2_isOver rfl rfl 0 rfl ⟨Nat.le_of_ble_eq_true rfl, Nat.le_of_ble_eq_true rfl⟩ rfl rfl (Nat.le_of_ble_eq_true rfl) ⟨Nat.le_of_ble_eq_true rfl, Nat.le_of_ble_eq_true rfl⟩ rfl rfl [0, 1] [] rfl rfl rfl rfl (by decide) (fun r9 u9 p2 => ?_)
        obtain ⟨rfl, rfl⟩ := p2
        refine j_eq (ws' := [(h2, .inr (2, [.ref m0, .ref q0, .int (iI n)])), (m0, .inl (T 0, 2880, .inl (fun j : Nat => iI (M j))))]) rfl rfl rfl rfl rfl rfl ?_
        refine j_ifeqB h 23 dX2_placesOfNet_17 (by decide) (fun c3 => ?_) (fun c3 => ?_)
        · skip
          refine j_iinc (lv' := [(0, .ref h2), (1, .int (iI i)), (2, .int (iI m)), (3, .int (iI (k + 1)))]) h dX2_placesOfNet_23 3 [1, 2, 3, 0] rfl (by decide) rfl ?_
          refine j_goto (tgt := 4) h dX2_placesOfNet_26 (by decide) ?_
          exact ih4 (k + 1) m (by first | assumption | omega) (by rw [cntI_f (by omega) c3]; exact hn) (by omega)
        · skip
          refine j_iinc (lv' := [(0, .ref h2), (1, .int (iI i)), (2, .int (iI (m + 1))), (3, .int (iI k))]) h dX2_placesOfNet_20 2 [1, 2, 0, 3] rfl (by decide) rfl ?_
          refine j_iinc (lv' := [(0, .ref h2), (1, .int (iI i)), (2, .int (iI (m + 1))), (3, .int (iI (k + 1)))]) h dX2_placesOfNet_23 3 [1, 2, 3, 0] rfl (by decide) rfl ?_
          refine j_goto (tgt := 4) h dX2_placesOfNet_26 (by decide) ?_
          exact ih4 (k + 1) (m + 1) (by first | assumption | omega) (by rw [cntI_t (by omega) c3]; omega) (by omega)
  exact lp4 _ 0 0 (by first | assumption | omega) (by exact (cntI_0 _).symm) (Nat.lt_succ_self _)

abbrev rmX4_has : Room := { frames := 0, cells := 0, slots := 0, locals := 0 }
theorem in_X4_has_X4 : ∀ w ∈ u_ws RX4 TX4 1, w ∈ wsX4_has := fun w hw => List.mem_cons_of_mem _ (List.mem_append_right _ (hw))
theorem f_X4_has_9 : FlOK RX4 9 wsX4_has 4 0 := ⟨_, _, _, rfl, by decide, in_X4_has_X4, List.mem_of_getElem? (i := 1) rfl⟩
set_option maxHeartbeats 600000 in
set_option maxRecDepth 100000 in
/-- whether a place is in a mask -/
theorem ct_X4_has (T : Nat → ClassId) (h4 : Nat) (k0 : Nat) (A : Int → Bool) (k : Int) (p : Int) (hk : 0 ≤ k ∧ k ≤ 7) (hp : 0 ≤ p ∧ p < 144) : CtI T yX4_has wsX4_has rmX4_has 0 0 [.ref h4, .int (iI k), .int (iI p)] [(h4, .inr (4, [.ref k0])), (k0, .inl (T 1, 1152, .inl (fun j : Nat => iI (bI (A j)))))] (fun r8 u => r8 = (iI (bI (A (144 * k + p)))) ∧ u = [(h4, .inr (4, [.ref k0])), (k0, .inl (T 1, 1152, .inl (fun j : Nat => iI (bI (A j)))))]) := by
  refine ctI_of (cc := cX4_has) (maxL := 3) (ret := (some .boolean)) (by decide +kernel) rfl rfl (fun r u hp => by obtain ⟨rfl, -⟩ := hp; exact nz_bool _) (Nat.le_of_ble_eq_true rfl) (fun X h hinit hr => ?_)
  refine j_eq (lv' := [(0, .ref h4), (1, .int (iI k)), (2, .int (iI p))]) rfl rfl rfl rfl rfl rfl ?_
  refine j_aload_n h dX4_has_0 0 rfl rfl ?_
  refine j_get h dX4_has_1 f_X4_has_9 0 rfl rfl ?_
  refine j_iload_n h dX4_has_4 1 rfl rfl ?_
  refine j_sipush h dX4_has_5 (by decide) ?_
  refine j_imul h dX4_has_8 ?_
  refine j_iload_n h dX4_has_9 2 rfl rfl ?_
  refine j_iadd h dX4_has_10 ?_
  refine j_zald (f := A) h (144 * k + p) dX4_has_11 1 rfl (by decide) (by omega) (by omega) ?_
  exact hr _ _ _ _ dX4_has_12 ⟨rfl, rfl⟩

abbrev rmX4_put : Room := { frames := 0, cells := 0, slots := 0, locals := 0 }
theorem in_X4_put_X4 : ∀ w ∈ u_ws RX4 TX4 1, w ∈ wsX4_put := fun w hw => List.mem_cons_of_mem _ (List.mem_append_right _ (hw))
theorem f_X4_put_9 : FlOK RX4 9 wsX4_put 4 0 := ⟨_, _, _, rfl, by decide, in_X4_put_X4, List.mem_of_getElem? (i := 1) rfl⟩
set_option maxHeartbeats 600000 in
set_option maxRecDepth 100000 in
/-- a place comes into a mask, or goes -/
theorem ct_X4_put (T : Nat → ClassId) (h4 : Nat) (k0 : Nat) (A : Int → Bool) (k : Int) (p : Int) (b : Bool) (hk : 0 ≤ k ∧ k ≤ 7) (hp : 0 ≤ p ∧ p < 144) : CtV T yX4_put wsX4_put rmX4_put 0 0 [.ref h4, .int (iI k), .int (iI p), .int (iI (bI b))] [(h4, .inr (4, [.ref k0])), (k0, .inl (T 1, 1152, .inl (fun j : Nat => iI (bI (A j)))))] (fun u => u = [(h4, .inr (4, [.ref k0])), (k0, .inl (T 1, 1152, .inl (fun j : Nat => iI (bI ((upI A (144 * k + p) b) j)))))]) := by
  refine ctV_of (cc := cX4_put) (maxL := 4) (ret := none) (by decide +kernel) rfl rfl (Nat.le_of_ble_eq_true rfl) (fun X h hinit hr => ?_)
  refine j_eq (lv' := [(0, .ref h4), (1, .int (iI k)), (2, .int (iI p)), (3, .int (iI (bI b)))]) rfl rfl rfl rfl rfl rfl ?_
  refine j_aload_n h dX4_put_0 0 rfl rfl ?_
  refine j_get h dX4_put_1 f_X4_put_9 0 rfl rfl ?_
  refine j_iload_n h dX4_put_4 1 rfl rfl ?_
  refine j_sipush h dX4_put_5 (by decide) ?_
  refine j_imul h dX4_put_8 ?_
  refine j_iload_n h dX4_put_9 2 rfl rfl ?_
  refine j_iadd h dX4_put_10 ?_
  refine j_iload_n h dX4_put_11 3 rfl rfl ?_
  refine j_zast (v := b) (f := A) (ws' := [(h4, .inr (4, [.ref k0])), (k0, .inl (T 1, 1152, .inl (fun j : Nat => iI (bI ((upI A (144 * k + p) b) j)))))]) h (144 * k + p) dX4_put_12 1 rfl (by decide) (by omega) (by omega) rfl ?_
  exact hr _ _ _ dX4_put_13 rfl

abbrev rmX4_size : Room := { frames := 1, cells := 0, slots := 0, locals := 22 }
theorem k_X4_has : CkOK yX4_has wsX4_has rmX4_has 0 0 cX4_has 3 (some .boolean) 2 := ⟨⟨_, rfl⟩, rfl, rfl, by decide +kernel⟩
set_option maxHeartbeats 600000 in
set_option maxRecDepth 100000 in
/-- how many places a mask has -/
theorem ct_X4_size (T : Nat → ClassId) (h4 : Nat) (k0 : Nat) (A : Int → Bool) (k : Int) (hk : 0 ≤ k ∧ k ≤ 7) : CtI T yX4_size wsX4_size rmX4_size 0 0 [.ref h4, .int (iI k)] [(h4, .inr (4, [.ref k0])), (k0, .inl (T 1, 1152, .inl (fun j : Nat => iI (bI (A j)))))] (fun r8 u => r8 = (iI (cntI (fun p => A (144 * k + p)) 144)) ∧ u = [(h4, .inr (4, [.ref k0])), (k0, .inl (T 1, 1152, .inl (fun j : Nat => iI (bI (A j)))))]) := by
  refine ctI_of (cc := cX4_size) (maxL := 4) (ret := (some .int)) (by decide +kernel) rfl rfl (fun r u hp => by obtain ⟨rfl, -⟩ := hp; rfl) (Nat.le_of_ble_eq_true rfl) (fun X h hinit hr => ?_)
  refine j_eq (lv' := [(0, .ref h4), (1, .int (iI k))]) rfl rfl rfl rfl rfl rfl ?_
  refine j_iconst h dX4_size_0 ?_
  refine j_istore_n (lv' := [(0, .ref h4), (1, .int (iI k)), (2, .int (iI 0))]) h dX4_size_1 [1, 2, 0] rfl (by decide) rfl ?_
  refine j_iconst h dX4_size_2 ?_
  refine j_istore_n (lv' := [(0, .ref h4), (1, .int (iI k)), (2, .int (iI 0)), (3, .int (iI 0))]) h dX4_size_3 [1, 2, 3, 0] rfl (by decide) rfl ?_
  have lp4 : ∀ (n4 : Nat) (j : Int) (m : Int) (hj : 0 ≤ j ∧ j ≤ 144) (hn : m = cntI (fun p => A (144 * k + p)) j), ((144 - j).toNat) < n4 → J X 0 0 4 [(0, .ref h4), (1, .int (iI k)), (2, .int (iI m)), (3, .int (iI j))] [] [(h4, .inr (4, [.ref k0])), (k0, .inl (T 1, 1152, .inl (fun j : Nat => iI (bI (A j)))))] := by
    intro n4
    induction n4 with
    | zero => exact fun j m hj hn hn4 => absurd hn4 (Nat.not_lt_zero _)
    | succ n4 ih4 =>
      intro j m hj hn hn4
      have hn9 := cntI_rng (fun p => A (144 * k + p)) (k := j) (by omega)
      refine j_iload_n h dX4_size_4 3 rfl rfl ?_
      refine j_sipush h dX4_size_5 (by decide) ?_
      refine j_icmp_ge h 29 dX4_size_8 (by decide) (by omega) (by omega) (fun c1 => ?_) (fun c1 => ?_)
      · skip
        refine j_iload_n h dX4_size_29 2 rfl rfl ?_
        exact hr _ _ _ _ dX4_size_30 ⟨(congrArg iI (show (m : Int) = cntI (fun p => A (144 * k + p)) 144 by rw [hn, show j = 144 by omega])), rfl⟩
      · skip
        refine j_aload_n h dX4_size_11 0 rfl rfl ?_
        refine j_iload_n h dX4_size_12 1 rfl rfl ?_
        refine j_iload_n h dX4_size_13 3 rfl rfl ?_
        refine j_callVi (As := [.int (iI k), .int (iI j)]) (wr := []) (cells' := 0) (slots' := 0) h dX4_size_14 (ct_X4_has T h4 k0 A k j (by first | assumption | omega) (by first | assumption | omega)) k_X4_has gX4_size_X4_has rfl rfl 0 rfl ⟨Nat.le_of_ble_eq_true rfl, Nat.le_of_ble_eq_true rfl⟩ rfl rfl (Nat.le_of_ble_eq_true rfl) ⟨Nat.le_of_ble_eq_true rfl, Nat.le_of_ble_eq_true rfl⟩ rfl rfl [0, 1] [] rfl rfl rfl rfl (by decide) (fun r9 u9 p2 => ?_)
        obtain ⟨rfl, rfl⟩ := p2
        refine j_eq (ws' := [(h4, .inr (4, [.ref k0])), (k0, .inl (T 1, 1152, .inl (fun j : Nat => iI (bI (A j)))))]) rfl rfl rfl rfl rfl rfl ?_
        refine j_ifeqB h 23 dX4_size_17 (by decide) (fun c3 => ?_) (fun c3 => ?_)
        · skip
          refine j_iinc (lv' := [(0, .ref h4), (1, .int (iI k)), (2, .int (iI m)), (3, .int (iI (j + 1)))]) h dX4_size_23 3 [1, 2, 3, 0] rfl (by decide) rfl ?_
          refine j_goto (tgt := 4) h dX4_size_26 (by decide) ?_
          exact ih4 (j + 1) m (by first | assumption | omega) (by rw [cntI_f (p := (fun p => A (144 * k + p))) (by omega) c3]; exact hn) (by omega)
        · skip
          refine j_iinc (lv' := [(0, .ref h4), (1, .int (iI k)), (2, .int (iI (m + 1))), (3, .int (iI j))]) h dX4_size_20 2 [1, 2, 0, 3] rfl (by decide) rfl ?_
          refine j_iinc (lv' := [(0, .ref h4), (1, .int (iI k)), (2, .int (iI (m + 1))), (3, .int (iI (j + 1)))]) h dX4_size_23 3 [1, 2, 3, 0] rfl (by decide) rfl ?_
          refine j_goto (tgt := 4) h dX4_size_26 (by decide) ?_
          exact ih4 (j + 1) (m + 1) (by first | assumption | omega) (by rw [cntI_t (p := (fun p => A (144 * k + p))) (by omega) c3]; omega) (by omega)
  exact lp4 _ 0 0 (by first | assumption | omega) (by exact (cntI_0 _).symm) (Nat.lt_succ_self _)

abbrev rmX8_append : Room := { frames := 0, cells := 0, slots := 0, locals := 0 }
theorem in_X8_append_X8 : ∀ w ∈ u_ws RX8 TX8 2, w ∈ wsX8_append := fun w hw => List.mem_cons_of_mem _ (List.mem_append_right _ (hw))
theorem f_X8_append_15 : FlOK RX8 15 wsX8_append 8 1 := ⟨_, _, _, rfl, by decide, in_X8_append_X8, List.mem_of_getElem? (i := 1) rfl⟩
theorem f_X8_append_9 : FlOK RX8 9 wsX8_append 8 0 := ⟨_, _, _, rfl, by decide, in_X8_append_X8, List.mem_of_getElem? (i := 2) rfl⟩
theorem p_X8_1 : PuOK 8 1 false (.int) := ⟨_, _, _, tyX8, rfl, tyX8_ok, nmX8, rfl, rfl⟩
set_option maxHeartbeats 600000 in
set_option maxRecDepth 100000 in
/-- the four bytes of a number come behind the tape -/
theorem ct_X8_append (T : Nat → ClassId) (h8 : Nat) (b0 : Nat) (L : Int) (Tb : Int → Int) (v : Int) (hL : 0 ≤ L ∧ L ≤ 596) (hv : -2147483648 ≤ v ∧ v ≤ 2147483647) : CtV T yX8_append wsX8_append rmX8_append 0 0 [.ref h8, .int (iI v)] [(h8, .inr (8, [.ref b0, .int (iI L)])), (b0, .inl (T 0, 600, .inl (fun j : Nat => iI (Tb j))))] (fun u => u = [(h8, .inr (8, [.ref b0, .int (iI (L + 4))])), (b0, .inl (T 0, 600, .inl (fun j : Nat => iI ((putB Tb L v) j))))]) := by
  refine ctV_of (cc := cX8_append) (maxL := 3) (ret := none) (by decide +kernel) rfl rfl (Nat.le_of_ble_eq_true rfl) (fun X h hinit hr => ?_)
  refine j_eq (lv' := [(0, .ref h8), (1, .int (iI v))]) rfl rfl rfl rfl rfl rfl ?_
  refine j_iconst h dX8_append_0 ?_
  refine j_istore_n (lv' := [(0, .ref h8), (1, .int (iI v)), (2, .int (iI 3))]) h dX8_append_1 [1, 2, 0] rfl (by decide) rfl ?_
  refine j_iload_n h dX8_append_2 2 rfl rfl ?_
  refine j_if_lt h 51 dX8_append_3 (by decide) (by omega) (fun c1 => ?_) (fun c1 => ?_)
  · skip
    exact absurd c1 (by decide)
  · skip
    refine j_aload_n h dX8_append_6 0 rfl rfl ?_
    refine j_get h dX8_append_7 f_X8_append_15 0 rfl rfl ?_
    refine j_sipush h dX8_append_10 (by decide) ?_
    refine j_icmp_ge h 51 dX8_append_13 (by decide) (by omega) (by omega) (fun c2 => ?_) (fun c2 => ?_)
    · skip
      exact absurd c2 (by omega)
    · skip
      refine j_aload_n h dX8_append_16 0 rfl rfl ?_
      refine j_get h dX8_append_17 f_X8_append_9 0 rfl rfl ?_
      refine j_aload_n h dX8_append_20 0 rfl rfl ?_
      refine j_get h dX8_append_21 f_X8_append_15 0 rfl rfl ?_
      refine j_iload_n h dX8_append_24 1 rfl rfl ?_
      refine j_bipush h dX8_append_25 (by decide) ?_
      refine j_iload_n h dX8_append_27 2 rfl rfl ?_
      refine j_imul h dX8_append_28 ?_
      refine j_iushr h dX8_append_29 (by decide) ?_
      refine j_sipush h dX8_append_30 (by decide) ?_
      refine j_iandm h dX8_append_33 8 (by decide) (by decide) ?_
      refine j_iast (f := Tb) (ws' := [(h8, .inr (8, [.ref b0, .int (iI L)])), (b0, .inl (T 0, 600, .inl (fun j : Nat => iI ((upI Tb L ((v % 4294967296 / 2 ^ (24 : Int).toNat) % 2 ^ 8)) j))))]) h L dX8_append_34 1 rfl (by decide) (by omega) (by omega) rfl ?_
      refine j_aload_n h dX8_append_35 0 rfl rfl ?_
      refine j_dup h dX8_append_36 rfl ?_
      refine j_get h dX8_append_37 f_X8_append_15 0 rfl rfl ?_
      refine j_iconst h dX8_append_40 ?_
      refine j_iadd h dX8_append_41 ?_
      refine j_put (ws' := [(h8, .inr (8, [.ref b0, .int (iI (L + 1))])), (b0, .inl (T 0, 600, .inl (fun j : Nat => iI ((upI Tb L ((v % 4294967296 / 2 ^ (24 : Int).toNat) % 2 ^ 8)) j))))]) h dX8_append_42 f_X8_append_15 p_X8_1 0 rfl rfl rfl (Nat.le_of_ble_eq_true rfl) rfl ?_
      refine j_iinc (lv' := [(0, .ref h8), (1, .int (iI v)), (2, .int (iI 2))]) h dX8_append_45 2 [1, 2, 0] rfl (by decide) rfl ?_
      refine j_goto (tgt := 2) h dX8_append_48 (by decide) ?_
      refine j_iload_n h dX8_append_2 2 rfl rfl ?_
      refine j_if_lt h 51 dX8_append_3 (by decide) (by omega) (fun c3 => ?_) (fun c3 => ?_)
      · skip
        exact absurd c3 (by decide)
      · skip
        refine j_aload_n h dX8_append_6 0 rfl rfl ?_
        refine j_get h dX8_append_7 f_X8_append_15 0 rfl rfl ?_
        refine j_sipush h dX8_append_10 (by decide) ?_
        refine j_icmp_ge h 51 dX8_append_13 (by decide) (by omega) (by omega) (fun c4 => ?_) (fun c4 => ?_)
        · skip
          exact absurd c4 (by omega)
        · skip
          refine j_aload_n h dX8_append_16 0 rfl rfl ?_
          refine j_get h dX8_append_17 f_X8_append_9 0 rfl rfl ?_
          refine j_aload_n h dX8_append_20 0 rfl rfl ?_
          refine j_get h dX8_append_21 f_X8_append_15 0 rfl rfl ?_
          refine j_iload_n h dX8_append_24 1 rfl rfl ?_
          refine j_bipush h dX8_append_25 (by decide) ?_
          refine j_iload_n h dX8_append_27 2 rfl rfl ?_
          refine j_imul h dX8_append_28 ?_
          refine j_iushr h dX8_append_29 (by decide) ?_
          refine j_sipush h dX8_append_30 (by decide) ?_
          refine j_iandm h dX8_append_33 8 (by decide) (by decide) ?_
          refine j_iast (f := (upI Tb L ((v % 4294967296 / 2 ^ (24 : Int).toNat) % 2 ^ 8))) (ws' := [(h8, .inr (8, [.ref b0, .int (iI (L + 1))])), (b0, .inl (T 0, 600, .inl (fun j : Nat => iI ((upI (upI Tb L ((v % 4294967296 / 2 ^ (24 : Int).toNat) % 2 ^ 8)) (L + 1) ((v % 4294967296 / 2 ^ (16 : Int).toNat) % 2 ^ 8)) j))))]) h (L + 1) dX8_append_34 1 rfl (by decide) (by omega) (by omega) rfl ?_
          refine j_aload_n h dX8_append_35 0 rfl rfl ?_
          refine j_dup h dX8_append_36 rfl ?_
          refine j_get h dX8_append_37 f_X8_append_15 0 rfl rfl ?_
          refine j_iconst h dX8_append_40 ?_
          refine j_iadd h dX8_append_41 ?_
          refine j_put (ws' := [(h8, .inr (8, [.ref b0, .int (iI ((L + 1) + 1))])), (b0, .inl (T 0, 600, .inl (fun j : Nat => iI ((upI (upI Tb L ((v % 4294967296 / 2 ^ (24 : Int).toNat) % 2 ^ 8)) (L + 1) ((v % 4294967296 / 2 ^ (16 : Int).toNat) % 2 ^ 8)) j))))]) h dX8_append_42 f_X8_append_15 p_X8_1 0 rfl rfl rfl (Nat.le_of_ble_eq_true rfl) rfl ?_
          refine j_iinc (lv' := [(0, .ref h8), (1, .int (iI v)), (2, .int (iI 1))]) h dX8_append_45 2 [1, 2, 0] rfl (by decide) rfl ?_
          refine j_goto (tgt := 2) h dX8_append_48 (by decide) ?_
          refine j_iload_n h dX8_append_2 2 rfl rfl ?_
          refine j_if_lt h 51 dX8_append_3 (by decide) (by omega) (fun c5 => ?_) (fun c5 => ?_)
          · skip
            exact absurd c5 (by decide)
          · skip
            refine j_aload_n h dX8_append_6 0 rfl rfl ?_
            refine j_get h dX8_append_7 f_X8_append_15 0 rfl rfl ?_
            refine j_sipush h dX8_append_10 (by decide) ?_
            refine j_icmp_ge h 51 dX8_append_13 (by decide) (by omega) (by omega) (fun c6 => ?_) (fun c6 => ?_)
            · skip
              exact absurd c6 (by omega)
            · skip
              refine j_aload_n h dX8_append_16 0 rfl rfl ?_
              refine j_get h dX8_append_17 f_X8_append_9 0 rfl rfl ?_
              refine j_aload_n h dX8_append_20 0 rfl rfl ?_
              refine j_get h dX8_append_21 f_X8_append_15 0 rfl rfl ?_
              refine j_iload_n h dX8_append_24 1 rfl rfl ?_
              refine j_bipush h dX8_append_25 (by decide) ?_
              refine j_iload_n h dX8_append_27 2 rfl rfl ?_
              refine j_imul h dX8_append_28 ?_
              refine j_iushr h dX8_append_29 (by decide) ?_
              refine j_sipush h dX8_append_30 (by decide) ?_
              refine j_iandm h dX8_append_33 8 (by decide) (by decide) ?_
              refine j_iast (f := (upI (upI Tb L ((v % 4294967296 / 2 ^ (24 : Int).toNat) % 2 ^ 8)) (L + 1) ((v % 4294967296 / 2 ^ (16 : Int).toNat) % 2 ^ 8))) (ws' := [(h8, .inr (8, [.ref b0, .int (iI ((L + 1) + 1))])), (b0, .inl (T 0, 600, .inl (fun j : Nat => iI ((upI (upI (upI Tb L ((v % 4294967296 / 2 ^ (24 : Int).toNat) % 2 ^ 8)) (L + 1) ((v % 4294967296 / 2 ^ (16 : Int).toNat) % 2 ^ 8)) (L + 2) ((v % 4294967296 / 2 ^ (8 : Int).toNat) % 2 ^ 8)) j))))]) h (L + 2) dX8_append_34 1 rfl (by decide) (by omega) (by omega) rfl ?_
              refine j_aload_n h dX8_append_35 0 rfl rfl ?_
              refine j_dup h dX8_append_36 rfl ?_
              refine j_get h dX8_append_37 f_X8_append_15 0 rfl rfl ?_
              refine j_iconst h dX8_append_40 ?_
              refine j_iadd h dX8_append_41 ?_
              refine j_put (ws' := [(h8, .inr (8, [.ref b0, .int (iI (((L + 1) + 1) + 1))])), (b0, .inl (T 0, 600, .inl (fun j : Nat => iI ((upI (upI (upI Tb L ((v % 4294967296 / 2 ^ (24 : Int).toNat) % 2 ^ 8)) (L + 1) ((v % 4294967296 / 2 ^ (16 : Int).toNat) % 2 ^ 8)) (L + 2) ((v % 4294967296 / 2 ^ (8 : Int).toNat) % 2 ^ 8)) j))))]) h dX8_append_42 f_X8_append_15 p_X8_1 0 rfl rfl rfl (Nat.le_of_ble_eq_true rfl) rfl ?_
              refine j_iinc (lv' := [(0, .ref h8), (1, .int (iI v)), (2, .int (iI 0))]) h dX8_append_45 2 [1, 2, 0] rfl (by decide) rfl ?_
              refine j_goto (tgt := 2) h dX8_append_48 (by decide) ?_
              refine j_iload_n h dX8_append_2 2 rfl rfl ?_
              refine j_if_lt h 51 dX8_append_3 (by decide) (by omega) (fun c7 => ?_) (fun c7 => ?_)
              · skip
                exact absurd c7 (by decide)
              · skip
                refine j_aload_n h dX8_append_6 0 rfl rfl ?_
                refine j_get h dX8_append_7 f_X8_append_15 0 rfl rfl ?_
                refine j_sipush h dX8_append_10 (by decide) ?_
                refine j_icmp_ge h 51 dX8_append_13 (by decide) (by omega) (by omega) (fun c8 => ?_) (fun c8 => ?_)
                · skip
                  exact absurd c8 (by omega)
                · skip
                  refine j_aload_n h dX8_append_16 0 rfl rfl ?_
                  refine j_get h dX8_append_17 f_X8_append_9 0 rfl rfl ?_
                  refine j_aload_n h dX8_append_20 0 rfl rfl ?_
                  refine j_get h dX8_append_21 f_X8_append_15 0 rfl rfl ?_
                  refine j_iload_n h dX8_append_24 1 rfl rfl ?_
                  refine j_bipush h dX8_append_25 (by decide) ?_
                  refine j_iload_n h dX8_append_27 2 rfl rfl ?_
                  refine j_imul h dX8_append_28 ?_
                  refine j_iushr h dX8_append_29 (by decide) ?_
                  refine j_sipush h dX8_append_30 (by decide) ?_
                  refine j_iandm h dX8_append_33 8 (by decide) (by decide) ?_
                  refine j_iast (f := (upI (upI (upI Tb L ((v % 4294967296 / 2 ^ (24 : Int).toNat) % 2 ^ 8)) (L + 1) ((v % 4294967296 / 2 ^ (16 : Int).toNat) % 2 ^ 8)) (L + 2) ((v % 4294967296 / 2 ^ (8 : Int).toNat) % 2 ^ 8))) (ws' := [(h8, .inr (8, [.ref b0, .int (iI (((L + 1) + 1) + 1))])), (b0, .inl (T 0, 600, .inl (fun j : Nat => iI ((upI (upI (upI (upI Tb L ((v % 4294967296 / 2 ^ (24 : Int).toNat) % 2 ^ 8)) (L + 1) ((v % 4294967296 / 2 ^ (16 : Int).toNat) % 2 ^ 8)) (L + 2) ((v % 4294967296 / 2 ^ (8 : Int).toNat) % 2 ^ 8)) (L + 3) ((v % 4294967296 / 2 ^ (0 : Int).toNat) % 2 ^ 8)) j))))]) h (L + 3) dX8_append_34 1 rfl (by decide) (by omega) (by omega) rfl ?_
                  refine j_aload_n h dX8_append_35 0 rfl rfl ?_
                  refine j_dup h dX8_append_36 rfl ?_
                  refine j_get h dX8_append_37 f_X8_append_15 0 rfl rfl ?_
                  refine j_iconst h dX8_append_40 ?_
                  refine j_iadd h dX8_append_41 ?_
                  refine j_put (ws' := [(h8, .inr (8, [.ref b0, .int (iI ((((L + 1) + 1) + 1) + 1))])), (b0, .inl (T 0, 600, .inl (fun j : Nat => iI ((upI (upI (upI (upI Tb L ((v % 4294967296 / 2 ^ (24 : Int).toNat) % 2 ^ 8)) (L + 1) ((v % 4294967296 / 2 ^ (16 : Int).toNat) % 2 ^ 8)) (L + 2) ((v % 4294967296 / 2 ^ (8 : Int).toNat) % 2 ^ 8)) (L + 3) ((v % 4294967296 / 2 ^ (0 : Int).toNat) % 2 ^ 8)) j))))]) h dX8_append_42 f_X8_append_15 p_X8_1 0 rfl rfl rfl (Nat.le_of_ble_eq_true rfl) rfl ?_
                  refine j_iinc (lv' := [(0, .ref h8), (1, .int (iI v)), (2, .int (iI (-1)))]) h dX8_append_45 2 [1, 2, 0] rfl (by decide) rfl ?_
                  refine j_goto (tgt := 2) h dX8_append_48 (by decide) ?_
                  refine j_iload_n h dX8_append_2 2 rfl rfl ?_
                  refine j_if_lt h 51 dX8_append_3 (by decide) (by omega) (fun c9 => ?_) (fun c9 => ?_)
                  · skip
                    exact hr _ _ _ dX8_append_51 (show ([(h8, .inr (8, [.ref b0, .int (iI ((((L + 1) + 1) + 1) + 1))])), (b0, .inl (T 0, 600, .inl (fun j : Nat => iI ((upI (upI (upI (upI Tb L ((v % 4294967296 / 2 ^ (24 : Int).toNat) % 2 ^ 8)) (L + 1) ((v % 4294967296 / 2 ^ (16 : Int).toNat) % 2 ^ 8)) (L + 2) ((v % 4294967296 / 2 ^ (8 : Int).toNat) % 2 ^ 8)) (L + 3) ((v % 4294967296 / 2 ^ (0 : Int).toNat) % 2 ^ 8)) j))))] : va_W) = [(h8, .inr (8, [.ref b0, .int (iI (L + 4))])), (b0, .inl (T 0, 600, .inl (fun j : Nat => iI ((putB Tb L v) j))))] by unfold putB byteS; simp [Int.add_assoc])
                  · skip
                    exact absurd c9 (by decide)

