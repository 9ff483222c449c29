abbrev rmJ7_fill_53178 : Room := { frames := 0, cells := 0, slots := 0, locals := 0 }
set_option maxHeartbeats 600000 in
set_option maxRecDepth 100000 in
/-- java.util.Arrays.fill(int[], int) -/
theorem ct_J7_fill_53178 (T : Nat → ClassId) (a0 : Nat) (n : Nat) (f : Int → Int) (v : Int) (hn : n ≤ 2147483647) : CtV T yJ7_fill_53178 wsJ7_fill_53178 rmJ7_fill_53178 0 0 [.ref a0, .int (iI v)] [(a0, .inl (T 0, n, .inl (fun j : Nat => iI (f j))))] (fun u => u = [(a0, .inl (T 0, n, .inl (fun j : Nat => iI ((fillF f (n : Int) v) j))))]) := by
  refine ctV_of (cc := cJ7_fill_53178) (maxL := 4) (ret := none) (by decide +kernel) rfl rfl (Nat.le_of_ble_eq_true rfl) (fun X h hinit hr => ?_)
  refine j_eq (lv' := [(0, .ref a0), (1, .int (iI v))]) rfl rfl rfl rfl rfl rfl ?_
  refine j_iconst h dJ7_fill_53178_0 ?_
  refine j_istore_n (lv' := [(0, .ref a0), (1, .int (iI v)), (2, .int (iI 0))]) h dJ7_fill_53178_1 [1, 2, 0] rfl (by decide) rfl ?_
  refine j_aload_n h dJ7_fill_53178_2 0 rfl rfl ?_
  refine j_alen h dJ7_fill_53178_3 0 rfl rfl ?_
  refine j_istore_n (lv' := [(0, .ref a0), (1, .int (iI v)), (2, .int (iI 0)), (3, .int (iI (n : Int)))]) h dJ7_fill_53178_4 [1, 2, 3, 0] rfl (by decide) rfl ?_
  have lp5 : ∀ (n5 : Nat) (i : Int) (hi : 0 ≤ i ∧ i ≤ (n : Int)), (((n : Int) - i).toNat) < n5 → J X 0 0 5 [(0, .ref a0), (1, .int (iI v)), (2, .int (iI i)), (3, .int (iI (n : Int)))] [] [(a0, .inl (T 0, n, .inl (fun j : Nat => iI ((fillF f i v) j))))] := by
    intro n5
    induction n5 with
    | zero => exact fun i hi hn5 => absurd hn5 (Nat.not_lt_zero _)
    | succ n5 ih5 =>
      intro i hi hn5
      refine j_iload_n h dJ7_fill_53178_5 2 rfl rfl ?_
      refine j_iload_n h dJ7_fill_53178_6 3 rfl rfl ?_
      refine j_icmp_ge h 20 dJ7_fill_53178_7 (by decide) (by omega) (by omega) (fun c1 => ?_) (fun c1 => ?_)
      · skip
        exact hr _ _ _ dJ7_fill_53178_20 (show ([(a0, .inl (T 0, n, .inl (fun j : Nat => iI ((fillF f i v) j))))] : va_W) = [(a0, .inl (T 0, n, .inl (fun j : Nat => iI ((fillF f (n : Int) v) j))))] by rw [show i = (n : Int) by omega])
      · skip
        refine j_aload_n h dJ7_fill_53178_10 0 rfl rfl ?_
        refine j_iload_n h dJ7_fill_53178_11 2 rfl rfl ?_
        refine j_iload_n h dJ7_fill_53178_12 1 rfl rfl ?_
        refine j_iast (f := fillF f i v) (ws' := [(a0, .inl (T 0, n, .inl (fun j : Nat => iI ((upI (fillF f i v) i v) j))))]) h i dJ7_fill_53178_13 0 rfl (by omega) (by omega) (by omega) rfl ?_
        refine j_iinc (lv' := [(0, .ref a0), (1, .int (iI v)), (2, .int (iI (i + 1))), (3, .int (iI (n : Int)))]) h dJ7_fill_53178_14 2 [1, 2, 0, 3] rfl (by decide) rfl ?_
        refine j_goto (tgt := 5) h dJ7_fill_53178_17 (by decide) ?_
        refine j_eq (ws' := [(a0, .inl (T 0, n, .inl (fun j : Nat => iI ((fillF f (i + 1) v) j))))]) rfl rfl rfl rfl rfl (by rw [fillF_s (by omega)]) ?_
        exact ih5 (i + 1) (by first | assumption | omega) (by omega)
  refine j_eq (ws' := [(a0, .inl (T 0, n, .inl (fun j : Nat => iI ((fillF f 0 v) j))))]) rfl rfl rfl rfl rfl (by rw [fillF_0]) ?_
  exact lp5 _ 0 (by first | assumption | omega) (Nat.lt_succ_self _)

abbrev rmX2_add : Room := { frames := 0, cells := 0, slots := 0, locals := 0 }
theorem in_X2_add_X2 : ∀ w ∈ u_ws RX2 TX2 3, w ∈ wsX2_add := fun w hw => List.mem_cons_of_mem _ (List.mem_append_right _ (hw))
theorem f_X2_add_18 : FlOK RX2 18 wsX2_add 2 2 := ⟨_, _, _, rfl, by decide, in_X2_add_X2, List.mem_of_getElem? (i := 1) rfl⟩
theorem f_X2_add_9 : FlOK RX2 9 wsX2_add 2 0 := ⟨_, _, _, rfl, by decide, in_X2_add_X2, List.mem_of_getElem? (i := 2) rfl⟩
theorem f_X2_add_15 : FlOK RX2 15 wsX2_add 2 1 := ⟨_, _, _, rfl, by decide, in_X2_add_X2, List.mem_of_getElem? (i := 3) rfl⟩
theorem p_X2_2 : PuOK 2 2 false (.int) := ⟨_, _, _, tyX2, rfl, tyX2_ok, nmX2, rfl, rfl⟩
set_option maxHeartbeats 600000 in
set_option maxRecDepth 100000 in
/-- a cube is marked and comes behind the queue -/
theorem ct_X2_add (T : Nat → ClassId) (h2 : Nat) (m0 : Nat) (q0 : Nat) (M0 : Int → Int) (mk : Int) (Q0 : Int → Int) (s : BS) (c : Int) (hs : SV s) (hc : 0 ≤ c ∧ c < 2880) (hM0 : M0 c = 0) (hvc : s.1 c = false) : CtV T yX2_add wsX2_add rmX2_add 0 0 [.ref h2, .int (iI c), .int (iI mk)] [(h2, .inr (2, [.ref m0, .ref q0, .int (iI (s.2.length : Int))])), (m0, .inl (T 0, 2880, .inl (fun j : Nat => iI ((mkF M0 mk s) j)))), (q0, .inl (T 0, 2880, .inl (fun j : Nat => iI ((qF Q0 s.2) j))))] (fun u => u = [(h2, .inr (2, [.ref m0, .ref q0, .int (iI ((visit s c).2.length : Int))])), (m0, .inl (T 0, 2880, .inl (fun j : Nat => iI ((mkF M0 mk (visit s c)) j)))), (q0, .inl (T 0, 2880, .inl (fun j : Nat => iI ((qF Q0 (visit s c).2) j))))]) := by
  refine ctV_of (cc := cX2_add) (maxL := 3) (ret := none) (by decide +kernel) rfl rfl (Nat.le_of_ble_eq_true rfl) (fun X h hinit hr => ?_)
  refine j_eq (lv' := [(0, .ref h2), (1, .int (iI c)), (2, .int (iI mk))]) rfl rfl rfl rfl rfl rfl ?_
  have hl9 := SV_lt hs hc hvc
  refine j_aload_n h dX2_add_0 0 rfl rfl ?_
  refine j_get h dX2_add_1 f_X2_add_18 0 rfl rfl ?_
  refine j_sipush h dX2_add_4 (by decide) ?_
  refine j_icmp_ge h 37 dX2_add_7 (by decide) (by omega) (by omega) (fun c1 => ?_) (fun c1 => ?_)
  · skip
    exact absurd c1 (by omega)
  · skip
    refine j_aload_n h dX2_add_10 0 rfl rfl ?_
    refine j_get h dX2_add_11 f_X2_add_9 0 rfl rfl ?_
    refine j_iload_n h dX2_add_14 1 rfl rfl ?_
    refine j_iload_n h dX2_add_15 2 rfl rfl ?_
    refine j_iast (f := (mkF M0 mk s)) (ws' := [(h2, .inr (2, [.ref m0, .ref q0, .int (iI (s.2.length : Int))])), (m0, .inl (T 0, 2880, .inl (fun j : Nat => iI ((upI (mkF M0 mk s) c mk) j)))), (q0, .inl (T 0, 2880, .inl (fun j : Nat => iI ((qF Q0 s.2) j))))]) h c dX2_add_16 1 rfl (by decide) (by omega) (by omega) rfl ?_
    refine j_aload_n h dX2_add_17 0 rfl rfl ?_
    refine j_get h dX2_add_18 f_X2_add_15 0 rfl rfl ?_
    refine j_aload_n h dX2_add_21 0 rfl rfl ?_
    refine j_get h dX2_add_22 f_X2_add_18 0 rfl rfl ?_
    refine j_iload_n h dX2_add_25 1 rfl rfl ?_
    refine j_iast (f := (qF Q0 s.2)) (ws' := [(h2, .inr (2, [.ref m0, .ref q0, .int (iI (s.2.length : Int))])), (m0, .inl (T 0, 2880, .inl (fun j : Nat => iI ((upI (mkF M0 mk s) c mk) j)))), (q0, .inl (T 0, 2880, .inl (fun j : Nat => iI ((upI (qF Q0 s.2) (s.2.length : Int) c) j))))]) h (s.2.length : Int) dX2_add_26 2 rfl (by decide) (by omega) (by omega) rfl ?_
    refine j_aload_n h dX2_add_27 0 rfl rfl ?_
    refine j_dup h dX2_add_28 rfl ?_
    refine j_get h dX2_add_29 f_X2_add_18 0 rfl rfl ?_
    refine j_iconst h dX2_add_32 ?_
    refine j_iadd h dX2_add_33 ?_
    refine j_put (ws' := [(h2, .inr (2, [.ref m0, .ref q0, .int (iI ((s.2.length : Int) + 1))])), (m0, .inl (T 0, 2880, .inl (fun j : Nat => iI ((upI (mkF M0 mk s) c mk) j)))), (q0, .inl (T 0, 2880, .inl (fun j : Nat => iI ((upI (qF Q0 s.2) (s.2.length : Int) c) j))))]) h dX2_add_34 f_X2_add_18 p_X2_2 0 rfl rfl rfl (Nat.le_of_ble_eq_true rfl) rfl ?_
    exact hr _ _ _ dX2_add_37 (show ([(h2, .inr (2, [.ref m0, .ref q0, .int (iI ((s.2.length : Int) + 1))])), (m0, .inl (T 0, 2880, .inl (fun j : Nat => iI ((upI (mkF M0 mk s) c mk) j)))), (q0, .inl (T 0, 2880, .inl (fun j : Nat => iI ((upI (qF Q0 s.2) (s.2.length : Int) c) j))))] : va_W) = [(h2, .inr (2, [.ref m0, .ref q0, .int (iI ((visit s c).2.length : Int))])), (m0, .inl (T 0, 2880, .inl (fun j : Nat => iI ((mkF M0 mk (visit s c)) j)))), (q0, .inl (T 0, 2880, .inl (fun j : Nat => iI ((qF Q0 (visit s c).2) j))))] by rw [mkF_upd hM0 hvc, qF_upd, show ((visit s c).2.length : Int) = (s.2.length : Int) + 1 by rw [visit_f hvc]; simp, show (visit s c).2 = s.2 ++ [c] by rw [visit_f hvc]])

abbrev rmX2_spread : Room := { frames := 1, cells := 0, slots := 0, locals := 22 }
theorem in_X2_spread_X2 : ∀ w ∈ u_ws RX2 TX2 3, w ∈ wsX2_spread := fun w hw => List.mem_cons_of_mem _ (List.mem_append_right _ (hw))
theorem f_X2_spread_18 : FlOK RX2 18 wsX2_spread 2 2 := ⟨_, _, _, rfl, by decide, in_X2_spread_X2, List.mem_of_getElem? (i := 1) rfl⟩
theorem f_X2_spread_15 : FlOK RX2 15 wsX2_spread 2 1 := ⟨_, _, _, rfl, by decide, in_X2_spread_X2, List.mem_of_getElem? (i := 2) rfl⟩
theorem k_X11_beside : CkOK yX11_beside wsX11_beside rmX11_beside 0 0 cX11_beside 2 (some .int) 2 := ⟨⟨_, rfl⟩, rfl, rfl, by decide +kernel⟩
theorem f_X2_spread_9 : FlOK RX2 9 wsX2_spread 2 0 := ⟨_, _, _, rfl, by decide, in_X2_spread_X2, List.mem_of_getElem? (i := 3) rfl⟩
theorem k_X2_add : CkOK yX2_add wsX2_add rmX2_add 0 0 cX2_add 3 none 2 := ⟨⟨_, rfl⟩, rfl, rfl, by decide +kernel⟩
set_option maxHeartbeats 600000 in
set_option maxRecDepth 100000 in
/-- what is joined to the queue comes behind it, and is marked -/
theorem ct_X2_spread (T : Nat → ClassId) (h2 : Nat) (m0 : Nat) (q0 : Nat) (c0 : Nat) (B : Int → Int) (K : Int) (M0 : Int → Int) (mk : Int) (Q0 : Int → Int) (s : BS) (hB : BOK B) (hK : 0 ≤ K ∧ K ≤ 2147483647) (hmk : 1 ≤ mk ∧ mk ≤ 2880) (hM : ∀ c, 0 ≤ M0 c ∧ M0 c ≤ 2880) (hv : ∀ c, M0 c ≠ 0 → s.1 c = true) (hs : SV s) : CtV T yX2_spread wsX2_spread rmX2_spread 0 0 [.ref h2, .ref c0, .int (iI K), .int (iI mk)] [(h2, .inr (2, [.ref m0, .ref q0, .int (iI (s.2.length : Int))])), (m0, .inl (T 0, 2880, .inl (fun j : Nat => iI ((mkF M0 mk s) j)))), (q0, .inl (T 0, 2880, .inl (fun j : Nat => iI ((qF Q0 s.2) j)))), (c0, .inl (T 0, 2880, .inl (fun j : Nat => iI (B j))))] (fun u => u = [(h2, .inr (2, [.ref m0, .ref q0, .int (iI ((bfs (okB K B) s).2.length : Int))])), (m0, .inl (T 0, 2880, .inl (fun j : Nat => iI ((mkF M0 mk (bfs (okB K B) s)) j)))), (q0, .inl (T 0, 2880, .inl (fun j : Nat => iI ((qF Q0 (bfs (okB K B) s).2) j)))), (c0, .inl (T 0, 2880, .inl (fun j : Nat => iI (B j))))]) := by
  refine ctV_of (cc := cX2_spread) (maxL := 7) (ret := none) (by decide +kernel) rfl rfl (Nat.le_of_ble_eq_true rfl) (fun X h hinit hr => ?_)
  refine j_eq (lv' := [(0, .ref h2), (1, .ref c0), (2, .int (iI K)), (3, .int (iI mk))]) rfl rfl rfl rfl rfl rfl ?_
  refine j_iconst h dX2_spread_0 ?_
  refine j_istore (lv' := [(0, .ref h2), (1, .ref c0), (2, .int (iI K)), (3, .int (iI mk)), (4, .int (iI 0))]) h dX2_spread_1 [1, 2, 3, 4, 0] (by decide) rfl ?_
  have lp3 : ∀ (n3 : Nat) (i : Int) (t : BS) (hi : 0 ≤ i ∧ i ≤ 2880) (ht : t = bfI (okB K B) i s) (hst : SV t) (hvt : ∀ c, M0 c ≠ 0 → t.1 c = true), ((2880 - i).toNat) < n3 → J X 0 0 3 [(0, .ref h2), (1, .ref c0), (2, .int (iI K)), (3, .int (iI mk)), (4, .int (iI i))] [] [(h2, .inr (2, [.ref m0, .ref q0, .int (iI (t.2.length : Int))])), (m0, .inl (T 0, 2880, .inl (fun j : Nat => iI ((mkF M0 mk t) j)))), (q0, .inl (T 0, 2880, .inl (fun j : Nat => iI ((qF Q0 t.2) j)))), (c0, .inl (T 0, 2880, .inl (fun j : Nat => iI (B j))))] := by
    intro n3
    induction n3 with
    | zero => exact fun i t hi ht hst hvt hn3 => absurd hn3 (Nat.not_lt_zero _)
    | succ n3 ih3 =>
      intro i t hi ht hst hvt hn3
      have hl9 := SV_len hst
      refine j_iload h dX2_spread_3 4 rfl ?_
      refine j_aload_n h dX2_spread_5 0 rfl rfl ?_
      refine j_get h dX2_spread_6 f_X2_spread_18 0 rfl rfl ?_
      refine j_icmp_ge h 90 dX2_spread_9 (by decide) (by omega) (by omega) (fun c1 => ?_) (fun c1 => ?_)
      · skip
        exact hr _ _ _ dX2_spread_90 (show ([(h2, .inr (2, [.ref m0, .ref q0, .int (iI (t.2.length : Int))])), (m0, .inl (T 0, 2880, .inl (fun j : Nat => iI ((mkF M0 mk t) j)))), (q0, .inl (T 0, 2880, .inl (fun j : Nat => iI ((qF Q0 t.2) j)))), (c0, .inl (T 0, 2880, .inl (fun j : Nat => iI (B j))))] : va_W) = [(h2, .inr (2, [.ref m0, .ref q0, .int (iI ((bfs (okB K B) s).2.length : Int))])), (m0, .inl (T 0, 2880, .inl (fun j : Nat => iI ((mkF M0 mk (bfs (okB K B) s)) j)))), (q0, .inl (T 0, 2880, .inl (fun j : Nat => iI ((qF Q0 (bfs (okB K B) s).2) j)))), (c0, .inl (T 0, 2880, .inl (fun j : Nat => iI (B j))))] by rw [show t = bfs (okB K B) s from ht.trans (bfI_end (by omega) (by rw [← ht]; omega))])
      · skip
        refine j_iload h dX2_spread_12 4 rfl ?_
        refine j_sipush h dX2_spread_14 (by decide) ?_
        refine j_icmp_ge h 90 dX2_spread_17 (by decide) (by omega) (by omega) (fun c2 => ?_) (fun c2 => ?_)
        · skip
          exact hr _ _ _ dX2_spread_90 (show ([(h2, .inr (2, [.ref m0, .ref q0, .int (iI (t.2.length : Int))])), (m0, .inl (T 0, 2880, .inl (fun j : Nat => iI ((mkF M0 mk t) j)))), (q0, .inl (T 0, 2880, .inl (fun j : Nat => iI ((qF Q0 t.2) j)))), (c0, .inl (T 0, 2880, .inl (fun j : Nat => iI (B j))))] : va_W) = [(h2, .inr (2, [.ref m0, .ref q0, .int (iI ((bfs (okB K B) s).2.length : Int))])), (m0, .inl (T 0, 2880, .inl (fun j : Nat => iI ((mkF M0 mk (bfs (okB K B) s)) j)))), (q0, .inl (T 0, 2880, .inl (fun j : Nat => iI ((qF Q0 (bfs (okB K B) s).2) j)))), (c0, .inl (T 0, 2880, .inl (fun j : Nat => iI (B j))))] by rw [show t = bfs (okB K B) s from ht.trans (bfI_end (by omega) (by rw [← ht]; omega))])
        · skip
          refine j_iconst h dX2_spread_20 ?_
          refine j_istore (lv' := [(0, .ref h2), (1, .ref c0), (2, .int (iI K)), (3, .int (iI mk)), (4, .int (iI i)), (5, .int (iI 0))]) h dX2_spread_21 [1, 2, 3, 4, 5, 0] (by decide) rfl ?_
          have lp23 : ∀ (n23 : Nat) (w : Int) (u : BS) (hw : 0 ≤ w ∧ w ≤ 6) (hu : u = stW (okB K B) (t.2.getD i.toNat 0) w t) (hsu : SV u) (hvu : ∀ c, M0 c ≠ 0 → u.1 c = true) (hq : i < (u.2.length : Int) ∧ u.2.getD i.toNat 0 = t.2.getD i.toNat 0), ((6 - w).toNat) < n23 → J X 0 0 23 [(0, .ref h2), (1, .ref c0), (2, .int (iI K)), (3, .int (iI mk)), (4, .int (iI i)), (5, .int (iI w))] [] [(h2, .inr (2, [.ref m0, .ref q0, .int (iI (u.2.length : Int))])), (m0, .inl (T 0, 2880, .inl (fun j : Nat => iI ((mkF M0 mk u) j)))), (q0, .inl (T 0, 2880, .inl (fun j : Nat => iI ((qF Q0 u.2) j)))), (c0, .inl (T 0, 2880, .inl (fun j : Nat => iI (B j))))] := by
            intro n23
            induction n23 with
            | zero => exact fun w u hw hu hsu hvu hq hn23 => absurd hn23 (Nat.not_lt_zero _)
            | succ n23 ih23 =>
              intro w u hw hu hsu hvu hq hn23
              have hl9 := SV_len hsu
              have hcr := SV_get hst (i := i) (by omega)
              refine j_iload h dX2_spread_23 5 rfl ?_
              refine j_bipush h dX2_spread_25 (by decide) ?_
              refine j_icmp_ge h 84 dX2_spread_27 (by decide) (by omega) (by omega) (fun c3 => ?_) (fun c3 => ?_)
              · skip
                refine j_iinc (lv' := [(0, .ref h2), (1, .ref c0), (2, .int (iI K)), (3, .int (iI mk)), (4, .int (iI (i + 1))), (5, .int (iI w))]) h dX2_spread_84 4 [1, 2, 3, 4, 0, 5] rfl (by decide) rfl ?_
                refine j_goto (tgt := 3) h dX2_spread_87 (by decide) ?_
                refine j_lv (lv' := [(0, .ref h2), (1, .ref c0), (2, .int (iI K)), (3, .int (iI mk)), (4, .int (iI (i + 1)))]) [0, 1, 2, 3, 4] rfl ?_
                exact ih3 (i + 1) u (by first | assumption | omega) (by rw [bfI_s (by omega) (by rw [← ht]; omega), ← ht]; rw [show w = 6 by omega] at hu; exact hu) (by exact hsu) (by exact hvu) (by omega)
              · skip
                refine j_aload_n h dX2_spread_30 0 rfl rfl ?_
                refine j_get h dX2_spread_31 f_X2_spread_15 0 rfl rfl ?_
                refine j_iload h dX2_spread_34 4 rfl ?_
                refine j_iald (f := qF Q0 u.2) h i dX2_spread_36 2 rfl (by decide) (by omega) (by omega) ?_
                rw [show ((qF Q0 u.2) i) = (t.2.getD i.toNat 0) by rw [qF_at (by omega)]; exact hq.2]
                refine j_iload h dX2_spread_37 5 rfl ?_
                refine j_callSNi (As := [.int (iI (t.2.getD i.toNat 0)), .int (iI w)]) (wr := [(h2, .inr (2, [.ref m0, .ref q0, .int (iI (u.2.length : Int))])), (m0, .inl (T 0, 2880, .inl (fun j : Nat => iI ((mkF M0 mk u) j)))), (q0, .inl (T 0, 2880, .inl (fun j : Nat => iI ((qF Q0 u.2) j)))), (c0, .inl (T 0, 2880, .inl (fun j : Nat => iI (B j))))]) (cells' := 0) (slots' := 0) h dX2_spread_39 (ct_X11_beside T (t.2.getD i.toNat 0) w (by first | assumption | omega) (by first | assumption | omega)) k_X11_beside gX2_spread_X11_beside_n46 (List.mem_of_getElem? (i := 8) rfl) (List.mem_of_getElem? (i := 5) rfl) (List.mem_of_getElem? (i := 4) rfl) ⟨Nat.le_of_ble_eq_true rfl, Nat.le_of_ble_eq_true rfl⟩ rfl rfl (Nat.le_of_ble_eq_true rfl) ⟨Nat.le_of_ble_eq_true rfl, Nat.le_of_ble_eq_true rfl⟩ rfl rfl [] [0, 1, 2, 3] rfl rfl rfl rfl (by decide) (fun r9 u9 p4 => ?_)
                obtain ⟨rfl, rfl⟩ := p4
                have hb9 := @bes_rng (t.2.getD i.toNat 0) w (by omega)
                refine j_eq (ws' := [(h2, .inr (2, [.ref m0, .ref q0, .int (iI (u.2.length : Int))])), (m0, .inl (T 0, 2880, .inl (fun j : Nat => iI ((mkF M0 mk u) j)))), (q0, .inl (T 0, 2880, .inl (fun j : Nat => iI ((qF Q0 u.2) j)))), (c0, .inl (T 0, 2880, .inl (fun j : Nat => iI (B j))))]) rfl rfl rfl rfl rfl rfl ?_
                refine j_istore (lv' := [(0, .ref h2), (1, .ref c0), (2, .int (iI K)), (3, .int (iI mk)), (4, .int (iI i)), (5, .int (iI w)), (6, .int (iI (bes (t.2.getD i.toNat 0) w)))]) h dX2_spread_42 [1, 2, 3, 4, 5, 6, 0] (by decide) rfl ?_
                refine j_iload h dX2_spread_44 6 rfl ?_
                refine j_iconst h dX2_spread_46 ?_
                refine j_icmp_eq h 78 dX2_spread_47 (by decide) (by omega) (by omega) (fun c5 => ?_) (fun c5 => ?_)
                · skip
                  refine j_iinc (lv' := [(0, .ref h2), (1, .ref c0), (2, .int (iI K)), (3, .int (iI mk)), (4, .int (iI i)), (5, .int (iI (w + 1))), (6, .int (iI (bes (t.2.getD i.toNat 0) w)))]) h dX2_spread_78 5 [1, 2, 3, 4, 5, 0, 6] rfl (by decide) rfl ?_
                  refine j_goto (tgt := 23) h dX2_spread_81 (by decide) ?_
                  refine j_lv (lv' := [(0, .ref h2), (1, .ref c0), (2, .int (iI K)), (3, .int (iI mk)), (4, .int (iI i)), (5, .int (iI (w + 1)))]) [0, 1, 2, 3, 4, 5] rfl ?_
                  exact ih23 (w + 1) u (by first | assumption | omega) (by rw [stW_no (by omega) (by assumption)]; exact hu) (by exact hsu) (by exact hvu) (by exact hq) (by omega)
                · skip
                  refine j_aload_n h dX2_spread_50 0 rfl rfl ?_
                  refine j_get h dX2_spread_51 f_X2_spread_9 0 rfl rfl ?_
                  refine j_iload h dX2_spread_54 6 rfl ?_
                  refine j_iald (f := mkF M0 mk u) h (bes (t.2.getD i.toNat 0) w) dX2_spread_56 1 rfl (by decide) (by omega) (by omega) ?_
                  have e6 := mkF_rng (mk := mk) (s := u) hM (by omega) (bes (t.2.getD i.toNat 0) w)
                  refine j_if_ne h 78 dX2_spread_57 (by decide) (by omega) (fun c7 => ?_) (fun c7 => ?_)
                  · skip
                    refine j_iinc (lv' := [(0, .ref h2), (1, .ref c0), (2, .int (iI K)), (3, .int (iI mk)), (4, .int (iI i)), (5, .int (iI (w + 1))), (6, .int (iI (bes (t.2.getD i.toNat 0) w)))]) h dX2_spread_78 5 [1, 2, 3, 4, 5, 0, 6] rfl (by decide) rfl ?_
                    refine j_goto (tgt := 23) h dX2_spread_81 (by decide) ?_
                    refine j_lv (lv' := [(0, .ref h2), (1, .ref c0), (2, .int (iI K)), (3, .int (iI mk)), (4, .int (iI i)), (5, .int (iI (w + 1)))]) [0, 1, 2, 3, 4, 5] rfl ?_
                    exact ih23 (w + 1) u (by first | assumption | omega) (by rw [stW_old (by omega) (by rw [← hu]; exact (mkF_ne (mk := mk) (by omega) hvu _).mp (by assumption))]; exact hu) (by exact hsu) (by exact hvu) (by exact hq) (by omega)
                  · skip
                    refine j_iload_n h dX2_spread_60 2 rfl rfl ?_
                    refine j_aload_n h dX2_spread_61 1 rfl rfl ?_
                    refine j_iload h dX2_spread_62 6 rfl ?_
                    refine j_iald (f := B) h (bes (t.2.getD i.toNat 0) w) dX2_spread_64 3 rfl (by decide) (by omega) (by omega) ?_
                    have e8 := hB (bes (t.2.getD i.toNat 0) w)
                    refine j_callSNi (As := [.int (iI K), .int (iI (B (bes (t.2.getD i.toNat 0) w)))]) (wr := [(h2, .inr (2, [.ref m0, .ref q0, .int (iI (u.2.length : Int))])), (m0, .inl (T 0, 2880, .inl (fun j : Nat => iI ((mkF M0 mk u) j)))), (q0, .inl (T 0, 2880, .inl (fun j : Nat => iI ((qF Q0 u.2) j)))), (c0, .inl (T 0, 2880, .inl (fun j : Nat => iI (B j))))]) (cells' := 0) (slots' := 0) h dX2_spread_65 (ct_X11_hasKind T K (B (bes (t.2.getD i.toNat 0) w)) (by first | assumption | omega) (by first | assumption | omega)) k_X11_hasKind gX2_spread_X11_hasKind_n35 (List.mem_of_getElem? (i := 7) rfl) (List.mem_of_getElem? (i := 5) rfl) (List.mem_of_getElem? (i := 7) rfl) ⟨Nat.le_of_ble_eq_true rfl, Nat.le_of_ble_eq_true rfl⟩ rfl rfl (Nat.le_of_ble_eq_true rfl) ⟨Nat.le_of_ble_eq_true rfl, Nat.le_of_ble_eq_true rfl⟩ rfl rfl [] [0, 1, 2, 3] rfl rfl rfl rfl (by decide) (fun r9 u9 p9 => ?_)
                    obtain ⟨rfl, rfl⟩ := p9
                    refine j_eq (ws' := [(h2, .inr (2, [.ref m0, .ref q0, .int (iI (u.2.length : Int))])), (m0, .inl (T 0, 2880, .inl (fun j : Nat => iI ((mkF M0 mk u) j)))), (q0, .inl (T 0, 2880, .inl (fun j : Nat => iI ((qF Q0 u.2) j)))), (c0, .inl (T 0, 2880, .inl (fun j : Nat => iI (B j))))]) rfl rfl rfl rfl rfl rfl ?_
                    refine j_ifeqB h 78 dX2_spread_68 (by decide) (fun c10 => ?_) (fun c10 => ?_)
                    · skip
                      refine j_iinc (lv' := [(0, .ref h2), (1, .ref c0), (2, .int (iI K)), (3, .int (iI mk)), (4, .int (iI i)), (5, .int (iI (w + 1))), (6, .int (iI (bes (t.2.getD i.toNat 0) w)))]) h dX2_spread_78 5 [1, 2, 3, 4, 5, 0, 6] rfl (by decide) rfl ?_
                      refine j_goto (tgt := 23) h dX2_spread_81 (by decide) ?_
                      refine j_lv (lv' := [(0, .ref h2), (1, .ref c0), (2, .int (iI K)), (3, .int (iI mk)), (4, .int (iI i)), (5, .int (iI (w + 1)))]) [0, 1, 2, 3, 4, 5] rfl ?_
                      exact ih23 (w + 1) u (by first | assumption | omega) (by rw [stW_nok (by omega) (by assumption)]; exact hu) (by exact hsu) (by exact hvu) (by exact hq) (by omega)
                    · skip
                      refine j_aload_n h dX2_spread_71 0 rfl rfl ?_
                      refine j_iload h dX2_spread_72 6 rfl ?_
                      refine j_iload_n h dX2_spread_74 3 rfl rfl ?_
                      refine j_callVv (As := [.int (iI (bes (t.2.getD i.toNat 0) w)), .int (iI mk)]) (wr := [(c0, .inl (T 0, 2880, .inl (fun j : Nat => iI (B j))))]) (cells' := 0) (slots' := 0) h dX2_spread_75 (ct_X2_add T h2 m0 q0 M0 mk Q0 u (bes (t.2.getD i.toNat 0) w) (by exact hsu) (by first | assumption | omega) (by exact (mkF_z (mk := mk) (by omega) hvu (by assumption)).2) (by exact (mkF_z (mk := mk) (by omega) hvu (by assumption)).1)) k_X2_add gX2_spread_X2_add rfl rfl 0 rfl ⟨Nat.le_of_ble_eq_true rfl, Nat.le_of_ble_eq_true rfl⟩ rfl rfl (Nat.le_of_ble_eq_true rfl) ⟨Nat.le_of_ble_eq_true rfl, Nat.le_of_ble_eq_true rfl⟩ rfl rfl [0, 1, 2] [3] rfl rfl rfl rfl (by decide) (fun u9 p11 => ?_)
                      obtain rfl := p11
                      refine j_eq (ws' := [(c0, .inl (T 0, 2880, .inl (fun j : Nat => iI (B j)))), (h2, .inr (2, [.ref m0, .ref q0, .int (iI ((visit u (bes (t.2.getD i.toNat 0) w)).2.length : Int))])), (m0, .inl (T 0, 2880, .inl (fun j : Nat => iI ((mkF M0 mk (visit u (bes (t.2.getD i.toNat 0) w))) j)))), (q0, .inl (T 0, 2880, .inl (fun j : Nat => iI ((qF Q0 (visit u (bes (t.2.getD i.toNat 0) w)).2) j))))]) rfl rfl rfl rfl rfl rfl ?_
                      refine j_iinc (lv' := [(0, .ref h2), (1, .ref c0), (2, .int (iI K)), (3, .int (iI mk)), (4, .int (iI i)), (5, .int (iI (w + 1))), (6, .int (iI (bes (t.2.getD i.toNat 0) w)))]) h dX2_spread_78 5 [1, 2, 3, 4, 5, 0, 6] rfl (by decide) rfl ?_
                      refine j_goto (tgt := 23) h dX2_spread_81 (by decide) ?_
                      refine j_ws (ws' := [(h2, .inr (2, [.ref m0, .ref q0, .int (iI ((visit u (bes (t.2.getD i.toNat 0) w)).2.length : Int))])), (m0, .inl (T 0, 2880, .inl (fun j : Nat => iI ((mkF M0 mk (visit u (bes (t.2.getD i.toNat 0) w))) j)))), (q0, .inl (T 0, 2880, .inl (fun j : Nat => iI ((qF Q0 (visit u (bes (t.2.getD i.toNat 0) w)).2) j)))), (c0, .inl (T 0, 2880, .inl (fun j : Nat => iI (B j))))]) [1, 2, 3, 0] rfl rfl ?_
                      refine j_lv (lv' := [(0, .ref h2), (1, .ref c0), (2, .int (iI K)), (3, .int (iI mk)), (4, .int (iI i)), (5, .int (iI (w + 1)))]) [0, 1, 2, 3, 4, 5] rfl ?_
                      exact ih23 (w + 1) (visit u (bes (t.2.getD i.toNat 0) w)) (by first | assumption | omega) (by rw [stW_yes (by omega) (by assumption) (by assumption), ← hu]) (by exact SV_visit hsu (by omega)) (by intro d hd; rw [visit_1, hvu d hd]; rfl) (by have := visit_len u (bes (t.2.getD i.toNat 0) w); exact ⟨by omega, by rw [visit_get (by omega)]; exact hq.2⟩) (by omega)
          exact lp23 _ 0 t (by first | assumption | omega) (by rfl) (by exact hst) (by exact hvt) (by exact ⟨by omega, rfl⟩) (Nat.lt_succ_self _)
  exact lp3 _ 0 s (by first | assumption | omega) (by rfl) (by exact hs) (by exact hv) (Nat.lt_succ_self _)

abbrev rmX2_addHeight : Room := { frames := 1, cells := 0, slots := 0, locals := 23 }
theorem in_X2_addHeight_X2 : ∀ w ∈ u_ws RX2 TX2 3, w ∈ wsX2_addHeight := fun w hw => List.mem_cons_of_mem _ (List.mem_append_right _ (hw))
theorem f_X2_addHeight_9 : FlOK RX2 9 wsX2_addHeight 2 0 := ⟨_, _, _, rfl, by decide, in_X2_addHeight_X2, List.mem_of_getElem? (i := 1) rfl⟩
theorem k_J7_fill_53178 : CkOK yJ7_fill_53178 wsJ7_fill_53178 rmJ7_fill_53178 0 0 cJ7_fill_53178 4 none 2 := ⟨⟨_, rfl⟩, rfl, rfl, by decide +kernel⟩
theorem f_X2_addHeight_18 : FlOK RX2 18 wsX2_addHeight 2 2 := ⟨_, _, _, rfl, by decide, in_X2_addHeight_X2, List.mem_of_getElem? (i := 2) rfl⟩
set_option maxHeartbeats 600000 in
set_option maxRecDepth 100000 in
/-- begins anew, from the cubes of one height -/
theorem ct_X2_addHeight (T : Nat → ClassId) (h2 : Nat) (m0 : Nat) (q0 : Nat) (c0 : Nat) (M : Int → Int) (Q : Int → Int) (n : Int) (B : Int → Int) (K : Int) (z : Int) (hB : BOK B) (hK : 0 ≤ K ∧ K ≤ 2147483647) (hz : 0 ≤ z ∧ z ≤ 19) : CtV T yX2_addHeight wsX2_addHeight rmX2_addHeight 0 0 [.ref h2, .ref c0, .int (iI K), .int (iI z)] [(h2, .inr (2, [.ref m0, .ref q0, .int (iI n)])), (m0, .inl (T 0, 2880, .inl (fun j : Nat => iI (M j)))), (q0, .inl (T 0, 2880, .inl (fun j : Nat => iI (Q j)))), (c0, .inl (T 0, 2880, .inl (fun j : Nat => iI (B j))))] (fun u => u = [(h2, .inr (2, [.ref m0, .ref q0, .int (iI ((seedS K B z).2.length : Int))])), (m0, .inl (T 0, 2880, .inl (fun j : Nat => iI ((mkF (fun _ => 0) 1 (seedS K B z)) j)))), (q0, .inl (T 0, 2880, .inl (fun j : Nat => iI ((qF Q (seedS K B z).2) j)))), (c0, .inl (T 0, 2880, .inl (fun j : Nat => iI (B j))))]) := by
  refine ctV_of (cc := cX2_addHeight) (maxL := 6) (ret := none) (by decide +kernel) rfl rfl (Nat.le_of_ble_eq_true rfl) (fun X h hinit hr => ?_)
  refine j_eq (lv' := [(0, .ref h2), (1, .ref c0), (2, .int (iI K)), (3, .int (iI z))]) rfl rfl rfl rfl rfl rfl ?_
  refine j_aload_n h dX2_addHeight_0 0 rfl rfl ?_
  refine j_get h dX2_addHeight_1 f_X2_addHeight_9 0 rfl rfl ?_
  refine j_iconst h dX2_addHeight_4 ?_
  refine j_callSv (As := [.ref m0, .int (iI 0)]) (wr := [(h2, .inr (2, [.ref m0, .ref q0, .int (iI n)])), (q0, .inl (T 0, 2880, .inl (fun j : Nat => iI (Q j)))), (c0, .inl (T 0, 2880, .inl (fun j : Nat => iI (B j))))]) (cells' := 0) (slots' := 0) h dX2_addHeight_5 (ct_J7_fill_53178 T m0 2880 M 0 (by first | assumption | omega)) k_J7_fill_53178 gX2_addHeight_J7_fill_53178 ⟨Nat.le_of_ble_eq_true rfl, Nat.le_of_ble_eq_true rfl⟩ rfl rfl (Nat.le_of_ble_eq_true rfl) ⟨Nat.le_of_ble_eq_true rfl, Nat.le_of_ble_eq_true rfl⟩ rfl rfl [1] [0, 2, 3] rfl rfl rfl rfl (by decide) (fun u9 p1 => ?_)
  obtain rfl := p1
  refine j_eq (ws' := [(h2, .inr (2, [.ref m0, .ref q0, .int (iI n)])), (q0, .inl (T 0, 2880, .inl (fun j : Nat => iI (Q j)))), (c0, .inl (T 0, 2880, .inl (fun j : Nat => iI (B j)))), (m0, .inl (T 0, 2880, .inl (fun j : Nat => iI ((fillF M (2880 : Int) 0) j))))]) rfl rfl rfl rfl rfl rfl ?_
  refine j_arr (ws' := [(h2, .inr (2, [.ref m0, .ref q0, .int (iI n)])), (q0, .inl (T 0, 2880, .inl (fun j : Nat => iI (Q j)))), (c0, .inl (T 0, 2880, .inl (fun j : Nat => iI (B j)))), (m0, .inl (T 0, 2880, .inl (fun j : Nat => iI ((fun _ => 0) j))))]) 3 rfl (fun j hj => by show iI (fillF _ _ _ _) = iI 0; unfold fillF; rw [if_pos (by omega)]) rfl ?_
  refine j_aload_n h dX2_addHeight_8 0 rfl rfl ?_
  refine j_iconst h dX2_addHeight_9 ?_
  refine j_put (ws' := [(h2, .inr (2, [.ref m0, .ref q0, .int (iI 0)])), (q0, .inl (T 0, 2880, .inl (fun j : Nat => iI (Q j)))), (c0, .inl (T 0, 2880, .inl (fun j : Nat => iI (B j)))), (m0, .inl (T 0, 2880, .inl (fun j : Nat => iI ((fun _ => 0) j))))]) h dX2_addHeight_10 f_X2_addHeight_18 p_X2_2 0 rfl rfl rfl (Nat.le_of_ble_eq_true rfl) rfl ?_
  refine j_iconst h dX2_addHeight_13 ?_
  refine j_istore (lv' := [(0, .ref h2), (1, .ref c0), (2, .int (iI K)), (3, .int (iI z)), (4, .int (iI 0))]) h dX2_addHeight_14 [1, 2, 3, 4, 0] (by decide) rfl ?_
  have lp16 : ∀ (n16 : Nat) (k : Int) (t : BS) (hk : 0 ≤ k ∧ k ≤ 144) (ht : t = sdI (okB K B) (144 * z) k) (hst : SV t), ((144 - k).toNat) < n16 → J X 0 0 16 [(0, .ref h2), (1, .ref c0), (2, .int (iI K)), (3, .int (iI z)), (4, .int (iI k))] [] [(h2, .inr (2, [.ref m0, .ref q0, .int (iI (t.2.length : Int))])), (q0, .inl (T 0, 2880, .inl (fun j : Nat => iI ((qF Q t.2) j)))), (c0, .inl (T 0, 2880, .inl (fun j : Nat => iI (B j)))), (m0, .inl (T 0, 2880, .inl (fun j : Nat => iI ((mkF (fun _ => 0) 1 t) j))))] := by
    intro n16
    induction n16 with
    | zero => exact fun k t hk ht hst hn16 => absurd hn16 (Nat.not_lt_zero _)
    | succ n16 ih16 =>
      intro k t hk ht hst hn16
      refine j_iload h dX2_addHeight_16 4 rfl ?_
      refine j_sipush h dX2_addHeight_18 (by decide) ?_
      refine j_icmp_ge h 58 dX2_addHeight_21 (by decide) (by omega) (by omega) (fun c2 => ?_) (fun c2 => ?_)
      · skip
        refine j_ws (ws' := [(h2, .inr (2, [.ref m0, .ref q0, .int (iI (t.2.length : Int))])), (m0, .inl (T 0, 2880, .inl (fun j : Nat => iI ((mkF (fun _ => 0) 1 t) j)))), (q0, .inl (T 0, 2880, .inl (fun j : Nat => iI ((qF Q t.2) j)))), (c0, .inl (T 0, 2880, .inl (fun j : Nat => iI (B j))))]) [0, 3, 1, 2] rfl rfl ?_
        exact hr _ _ _ dX2_addHeight_58 (show ([(h2, .inr (2, [.ref m0, .ref q0, .int (iI (t.2.length : Int))])), (m0, .inl (T 0, 2880, .inl (fun j : Nat => iI ((mkF (fun _ => 0) 1 t) j)))), (q0, .inl (T 0, 2880, .inl (fun j : Nat => iI ((qF Q t.2) j)))), (c0, .inl (T 0, 2880, .inl (fun j : Nat => iI (B j))))] : va_W) = [(h2, .inr (2, [.ref m0, .ref q0, .int (iI ((seedS K B z).2.length : Int))])), (m0, .inl (T 0, 2880, .inl (fun j : Nat => iI ((mkF (fun _ => 0) 1 (seedS K B z)) j)))), (q0, .inl (T 0, 2880, .inl (fun j : Nat => iI ((qF Q (seedS K B z).2) j)))), (c0, .inl (T 0, 2880, .inl (fun j : Nat => iI (B j))))] by rw [show t = seedS K B z from ht.trans (by rw [show k = 144 by omega]; rfl)])
      · skip
        refine j_iload_n h dX2_addHeight_24 3 rfl rfl ?_
        refine j_sipush h dX2_addHeight_25 (by decide) ?_
        refine j_imul h dX2_addHeight_28 ?_
        refine j_iload h dX2_addHeight_29 4 rfl ?_
        refine j_iadd h dX2_addHeight_31 ?_
        refine j_istore (lv' := [(0, .ref h2), (1, .ref c0), (2, .int (iI K)), (3, .int (iI z)), (4, .int (iI k)), (5, .int (iI ((z * 144) + k)))]) h dX2_addHeight_32 [1, 2, 3, 4, 5, 0] (by decide) rfl ?_
        refine j_iload_n h dX2_addHeight_34 2 rfl rfl ?_
        refine j_aload_n h dX2_addHeight_35 1 rfl rfl ?_
        refine j_iload h dX2_addHeight_36 5 rfl ?_
        refine j_iald (f := B) h (144 * z + k) dX2_addHeight_38 2 rfl (by decide) (by omega) (by omega) ?_
        have e3 := hB (144 * z + k)
        refine j_callSNi (As := [.int (iI K), .int (iI (B (144 * z + k)))]) (wr := [(h2, .inr (2, [.ref m0, .ref q0, .int (iI (t.2.length : Int))])), (q0, .inl (T 0, 2880, .inl (fun j : Nat => iI ((qF Q t.2) j)))), (c0, .inl (T 0, 2880, .inl (fun j : Nat => iI (B j)))), (m0, .inl (T 0, 2880, .inl (fun j : Nat => iI ((mkF (fun _ => 0) 1 t) j))))]) (cells' := 0) (slots' := 0) h dX2_addHeight_39 (ct_X11_hasKind T K (B (144 * z + k)) (by first | assumption | omega) (by first | assumption | omega)) k_X11_hasKind gX2_addHeight_X11_hasKind_n35 (List.mem_of_getElem? (i := 7) rfl) (List.mem_of_getElem? (i := 8) rfl) (List.mem_of_getElem? (i := 7) rfl) ⟨Nat.le_of_ble_eq_true rfl, Nat.le_of_ble_eq_true rfl⟩ rfl rfl (Nat.le_of_ble_eq_true rfl) ⟨Nat.le_of_ble_eq_true rfl, Nat.le_of_ble_eq_true rfl⟩ rfl rfl [] [0, 1, 2, 3] rfl rfl rfl rfl (by decide) (fun r9 u9 p4 => ?_)
        obtain ⟨rfl, rfl⟩ := p4
        refine j_eq (ws' := [(h2, .inr (2, [.ref m0, .ref q0, .int (iI (t.2.length : Int))])), (q0, .inl (T 0, 2880, .inl (fun j : Nat => iI ((qF Q t.2) j)))), (c0, .inl (T 0, 2880, .inl (fun j : Nat => iI (B j)))), (m0, .inl (T 0, 2880, .inl (fun j : Nat => iI ((mkF (fun _ => 0) 1 t) j))))]) rfl rfl rfl rfl rfl rfl ?_
        refine j_ifeqB h 52 dX2_addHeight_42 (by decide) (fun c5 => ?_) (fun c5 => ?_)
        · skip
          refine j_iinc (lv' := [(0, .ref h2), (1, .ref c0), (2, .int (iI K)), (3, .int (iI z)), (4, .int (iI (k + 1))), (5, .int (iI ((z * 144) + k)))]) h dX2_addHeight_52 4 [1, 2, 3, 4, 0, 5] rfl (by decide) rfl ?_
          refine j_goto (tgt := 16) h dX2_addHeight_55 (by decide) ?_
          refine j_lv (lv' := [(0, .ref h2), (1, .ref c0), (2, .int (iI K)), (3, .int (iI z)), (4, .int (iI (k + 1)))]) [0, 1, 2, 3, 4] rfl ?_
          exact ih16 (k + 1) t (by first | assumption | omega) (by rw [sdI_f (by omega) (by assumption)]; exact ht) (by exact hst) (by omega)
        · skip
          refine j_aload_n h dX2_addHeight_45 0 rfl rfl ?_
          refine j_iload h dX2_addHeight_46 5 rfl ?_
          refine j_iconst h dX2_addHeight_48 ?_
          refine j_callVv (As := [.int (iI ((z * 144) + k)), .int (iI 1)]) (wr := [(c0, .inl (T 0, 2880, .inl (fun j : Nat => iI (B j))))]) (cells' := 0) (slots' := 0) h dX2_addHeight_49 (ct_X2_add T h2 m0 q0 (fun _ => 0) 1 Q t ((z * 144) + k) (by exact hst) (by first | assumption | omega) (by rfl) (by rw [ht]; exact sdI_out (by omega) _ (by omega))) k_X2_add gX2_addHeight_X2_add rfl rfl 0 rfl ⟨Nat.le_of_ble_eq_true rfl, Nat.le_of_ble_eq_true rfl⟩ rfl rfl (Nat.le_of_ble_eq_true rfl) ⟨Nat.le_of_ble_eq_true rfl, Nat.le_of_ble_eq_true rfl⟩ rfl rfl [0, 3, 1] [2] rfl rfl rfl rfl (by decide) (fun u9 p6 => ?_)
          obtain rfl := p6
          refine j_eq (ws' := [(c0, .inl (T 0, 2880, .inl (fun j : Nat => iI (B j)))), (h2, .inr (2, [.ref m0, .ref q0, .int (iI ((visit t ((z * 144) + k)).2.length : Int))])), (m0, .inl (T 0, 2880, .inl (fun j : Nat => iI ((mkF (fun _ => 0) 1 (visit t ((z * 144) + k))) j)))), (q0, .inl (T 0, 2880, .inl (fun j : Nat => iI ((qF Q (visit t ((z * 144) + k)).2) j))))]) rfl rfl rfl rfl rfl rfl ?_
          refine j_iinc (lv' := [(0, .ref h2), (1, .ref c0), (2, .int (iI K)), (3, .int (iI z)), (4, .int (iI (k + 1))), (5, .int (iI ((z * 144) + k)))]) h dX2_addHeight_52 4 [1, 2, 3, 4, 0, 5] rfl (by decide) rfl ?_
          refine j_goto (tgt := 16) h dX2_addHeight_55 (by decide) ?_
          refine j_ws (ws' := [(h2, .inr (2, [.ref m0, .ref q0, .int (iI ((visit t ((z * 144) + k)).2.length : Int))])), (q0, .inl (T 0, 2880, .inl (fun j : Nat => iI ((qF Q (visit t ((z * 144) + k)).2) j)))), (c0, .inl (T 0, 2880, .inl (fun j : Nat => iI (B j)))), (m0, .inl (T 0, 2880, .inl (fun j : Nat => iI ((mkF (fun _ => 0) 1 (visit t ((z * 144) + k))) j))))]) [1, 3, 0, 2] rfl rfl ?_
          refine j_lv (lv' := [(0, .ref h2), (1, .ref c0), (2, .int (iI K)), (3, .int (iI z)), (4, .int (iI (k + 1)))]) [0, 1, 2, 3, 4] rfl ?_
          exact ih16 (k + 1) (visit t ((z * 144) + k)) (by first | assumption | omega) (by rw [sdI_t (by omega) (by assumption), ← ht, Int.mul_comm z 144]) (by exact SV_visit hst (by omega)) (by omega)
  refine j_eq (ws' := [(h2, .inr (2, [.ref m0, .ref q0, .int (iI (((fun _ => false, []) : BS).2.length : Int))])), (q0, .inl (T 0, 2880, .inl (fun j : Nat => iI ((qF Q ((fun _ => false, []) : BS).2) j)))), (c0, .inl (T 0, 2880, .inl (fun j : Nat => iI (B j)))), (m0, .inl (T 0, 2880, .inl (fun j : Nat => iI ((mkF (fun _ => 0) 1 ((fun _ => false, []) : BS)) j))))]) rfl rfl rfl rfl rfl (by rw [mkF_init, qF_0]; rfl) ?_
  exact lp16 _ 0 ((fun _ => false, []) : BS) (by first | assumption | omega) (by exact (sdI_0 _ _).symm) (by exact seedN_SV (okB K B) (lo := 0) (by omega) 0 (by omega)) (Nat.lt_succ_self _)

abbrev rmX2_markOpen : Room := { frames := 2, cells := 0, slots := 0, locals := 48 }
theorem k_X2_addHeight : CkOK yX2_addHeight wsX2_addHeight rmX2_addHeight 0 0 cX2_addHeight 6 none 3 := ⟨⟨_, rfl⟩, rfl, rfl, by decide +kernel⟩
theorem k_X2_spread : CkOK yX2_spread wsX2_spread rmX2_spread 0 0 cX2_spread 7 none 3 := ⟨⟨_, rfl⟩, rfl, rfl, by decide +kernel⟩
set_option maxHeartbeats 600000 in
set_option maxRecDepth 100000 in
/-- marks what is open -/
theorem ct_X2_markOpen (T : Nat → ClassId) (h2 : Nat) (m0 : Nat) (q0 : Nat) (c0 : Nat) (M : Int → Int) (Q : Int → Int) (n : Int) (B : Int → Int) (hB : BOK B) : CtV T yX2_markOpen wsX2_markOpen rmX2_markOpen 0 0 [.ref h2, .ref c0] [(h2, .inr (2, [.ref m0, .ref q0, .int (iI n)])), (m0, .inl (T 0, 2880, .inl (fun j : Nat => iI (M j)))), (q0, .inl (T 0, 2880, .inl (fun j : Nat => iI (Q j)))), (c0, .inl (T 0, 2880, .inl (fun j : Nat => iI (B j))))] (fun u => u = [(h2, .inr (2, [.ref m0, .ref q0, .int (iI ((opnS B).2.length : Int))])), (m0, .inl (T 0, 2880, .inl (fun j : Nat => iI ((fun c9 => bI ((opnS B).1 c9)) j)))), (q0, .inl (T 0, 2880, .inl (fun j : Nat => iI ((qF Q (opnS B).2) j)))), (c0, .inl (T 0, 2880, .inl (fun j : Nat => iI (B j))))]) := by
  refine ctV_of (cc := cX2_markOpen) (maxL := 2) (ret := none) (by decide +kernel) rfl rfl (Nat.le_of_ble_eq_true rfl) (fun X h hinit hr => ?_)
  refine j_eq (lv' := [(0, .ref h2), (1, .ref c0)]) rfl rfl rfl rfl rfl rfl ?_
  refine j_aload_n h dX2_markOpen_0 0 rfl rfl ?_
  refine j_aload_n h dX2_markOpen_1 1 rfl rfl ?_
  refine j_iconst h dX2_markOpen_2 ?_
  refine j_bipush h dX2_markOpen_3 (by decide) ?_
  refine j_callVv (As := [.ref c0, .int (iI 1), .int (iI 19)]) (wr := []) (cells' := 0) (slots' := 0) h dX2_markOpen_5 (ct_X2_addHeight T h2 m0 q0 c0 M Q n B 1 19 (by first | assumption | omega) (by first | assumption | omega) (by first | assumption | omega)) k_X2_addHeight gX2_markOpen_X2_addHeight rfl rfl 0 rfl ⟨Nat.le_of_ble_eq_true rfl, Nat.le_of_ble_eq_true rfl⟩ rfl rfl (Nat.le_of_ble_eq_true rfl) ⟨Nat.le_of_ble_eq_true rfl, Nat.le_of_ble_eq_true rfl⟩ rfl rfl [0, 1, 2, 3] [] rfl rfl rfl rfl (by decide) (fun u9 p1 => ?_)
  obtain rfl := p1
  refine j_eq (ws' := [(h2, .inr (2, [.ref m0, .ref q0, .int (iI ((seedS 1 B 19).2.length : Int))])), (m0, .inl (T 0, 2880, .inl (fun j : Nat => iI ((mkF (fun _ => 0) 1 (seedS 1 B 19)) j)))), (q0, .inl (T 0, 2880, .inl (fun j : Nat => iI ((qF Q (seedS 1 B 19).2) j)))), (c0, .inl (T 0, 2880, .inl (fun j : Nat => iI (B j))))]) rfl rfl rfl rfl rfl rfl ?_
  refine j_aload_n h dX2_markOpen_8 0 rfl rfl ?_
  refine j_aload_n h dX2_markOpen_9 1 rfl rfl ?_
  refine j_iconst h dX2_markOpen_10 ?_
  refine j_iconst h dX2_markOpen_11 ?_
  refine j_callVv (As := [.ref c0, .int (iI 1), .int (iI 1)]) (wr := []) (cells' := 0) (slots' := 0) h dX2_markOpen_12 (ct_X2_spread T h2 m0 q0 c0 B 1 (fun _ => 0) 1 Q (seedS 1 B 19) (by first | assumption | omega) (by first | assumption | omega) (by first | assumption | omega) (by intro c; exact ⟨Int.le_refl _, by decide⟩) (by intro c hc; exact absurd rfl hc) (by exact seedS_SV _ B (by omega))) k_X2_spread gX2_markOpen_X2_spread rfl rfl 0 rfl ⟨Nat.le_of_ble_eq_true rfl, Nat.le_of_ble_eq_true rfl⟩ rfl rfl (Nat.le_of_ble_eq_true rfl) ⟨Nat.le_of_ble_eq_true rfl, Nat.le_of_ble_eq_true rfl⟩ rfl rfl [0, 1, 2, 3] [] rfl rfl rfl rfl (by decide) (fun u9 p2 => ?_)
  obtain rfl := p2
  refine j_eq (ws' := [(h2, .inr (2, [.ref m0, .ref q0, .int (iI ((bfs (okB 1 B) (seedS 1 B 19)).2.length : Int))])), (m0, .inl (T 0, 2880, .inl (fun j : Nat => iI ((mkF (fun _ => 0) 1 (bfs (okB 1 B) (seedS 1 B 19))) j)))), (q0, .inl (T 0, 2880, .inl (fun j : Nat => iI ((qF Q (bfs (okB 1 B) (seedS 1 B 19)).2) j)))), (c0, .inl (T 0, 2880, .inl (fun j : Nat => iI (B j))))]) rfl rfl rfl rfl rfl rfl ?_
  exact hr _ _ _ dX2_markOpen_15 (show ([(h2, .inr (2, [.ref m0, .ref q0, .int (iI ((bfs (okB 1 B) (seedS 1 B 19)).2.length : Int))])), (m0, .inl (T 0, 2880, .inl (fun j : Nat => iI ((mkF (fun _ => 0) 1 (bfs (okB 1 B) (seedS 1 B 19))) j)))), (q0, .inl (T 0, 2880, .inl (fun j : Nat => iI ((qF Q (bfs (okB 1 B) (seedS 1 B 19)).2) j)))), (c0, .inl (T 0, 2880, .inl (fun j : Nat => iI (B j))))] : va_W) = [(h2, .inr (2, [.ref m0, .ref q0, .int (iI ((opnS B).2.length : Int))])), (m0, .inl (T 0, 2880, .inl (fun j : Nat => iI ((fun c9 => bI ((opnS B).1 c9)) j)))), (q0, .inl (T 0, 2880, .inl (fun j : Nat => iI ((qF Q (opnS B).2) j)))), (c0, .inl (T 0, 2880, .inl (fun j : Nat => iI (B j))))] by rw [mkF_1]; rfl)

abbrev rmX2_markStanding : Room := { frames := 2, cells := 0, slots := 0, locals := 48 }
set_option maxHeartbeats 600000 in
set_option maxRecDepth 100000 in
/-- marks what stands -/
theorem ct_X2_markStanding (T : Nat → ClassId) (h2 : Nat) (m0 : Nat) (q0 : Nat) (c0 : Nat) (M : Int → Int) (Q : Int → Int) (n : Int) (B : Int → Int) (hB : BOK B) : CtV T yX2_markStanding wsX2_markStanding rmX2_markStanding 0 0 [.ref h2, .ref c0] [(h2, .inr (2, [.ref m0, .ref q0, .int (iI n)])), (m0, .inl (T 0, 2880, .inl (fun j : Nat => iI (M j)))), (q0, .inl (T 0, 2880, .inl (fun j : Nat => iI (Q j)))), (c0, .inl (T 0, 2880, .inl (fun j : Nat => iI (B j))))] (fun u => u = [(h2, .inr (2, [.ref m0, .ref q0, .int (iI ((stdS B).2.length : Int))])), (m0, .inl (T 0, 2880, .inl (fun j : Nat => iI ((fun c9 => bI ((stdS B).1 c9)) j)))), (q0, .inl (T 0, 2880, .inl (fun j : Nat => iI ((qF Q (stdS B).2) j)))), (c0, .inl (T 0, 2880, .inl (fun j : Nat => iI (B j))))]) := by
  refine ctV_of (cc := cX2_markStanding) (maxL := 2) (ret := none) (by decide +kernel) rfl rfl (Nat.le_of_ble_eq_true rfl) (fun X h hinit hr => ?_)
  refine j_eq (lv' := [(0, .ref h2), (1, .ref c0)]) rfl rfl rfl rfl rfl rfl ?_
  refine j_aload_n h dX2_markStanding_0 0 rfl rfl ?_
  refine j_aload_n h dX2_markStanding_1 1 rfl rfl ?_
  refine j_sipush h dX2_markStanding_2 (by decide) ?_
  refine j_iconst h dX2_markStanding_5 ?_
  refine j_callVv (As := [.ref c0, .int (iI 254), .int (iI 0)]) (wr := []) (cells' := 0) (slots' := 0) h dX2_markStanding_6 (ct_X2_addHeight T h2 m0 q0 c0 M Q n B 254 0 (by first | assumption | omega) (by first | assumption | omega) (by first | assumption | omega)) k_X2_addHeight gX2_markStanding_X2_addHeight rfl rfl 0 rfl ⟨Nat.le_of_ble_eq_true rfl, Nat.le_of_ble_eq_true rfl⟩ rfl rfl (Nat.le_of_ble_eq_true rfl) ⟨Nat.le_of_ble_eq_true rfl, Nat.le_of_ble_eq_true rfl⟩ rfl rfl [0, 1, 2, 3] [] rfl rfl rfl rfl (by decide) (fun u9 p1 => ?_)
  obtain rfl := p1
  refine j_eq (ws' := [(h2, .inr (2, [.ref m0, .ref q0, .int (iI ((seedS 254 B 0).2.length : Int))])), (m0, .inl (T 0, 2880, .inl (fun j : Nat => iI ((mkF (fun _ => 0) 1 (seedS 254 B 0)) j)))), (q0, .inl (T 0, 2880, .inl (fun j : Nat => iI ((qF Q (seedS 254 B 0).2) j)))), (c0, .inl (T 0, 2880, .inl (fun j : Nat => iI (B j))))]) rfl rfl rfl rfl rfl rfl ?_
  refine j_aload_n h dX2_markStanding_9 0 rfl rfl ?_
  refine j_aload_n h dX2_markStanding_10 1 rfl rfl ?_
  refine j_sipush h dX2_markStanding_11 (by decide) ?_
  refine j_iconst h dX2_markStanding_14 ?_
  refine j_callVv (As := [.ref c0, .int (iI 254), .int (iI 1)]) (wr := []) (cells' := 0) (slots' := 0) h dX2_markStanding_15 (ct_X2_spread T h2 m0 q0 c0 B 254 (fun _ => 0) 1 Q (seedS 254 B 0) (by first | assumption | omega) (by first | assumption | omega) (by first | assumption | omega) (by intro c; exact ⟨Int.le_refl _, by decide⟩) (by intro c hc; exact absurd rfl hc) (by exact seedS_SV _ B (by omega))) k_X2_spread gX2_markStanding_X2_spread rfl rfl 0 rfl ⟨Nat.le_of_ble_eq_true rfl, Nat.le_of_ble_eq_true rfl⟩ rfl rfl (Nat.le_of_ble_eq_true rfl) ⟨Nat.le_of_ble_eq_true rfl, Nat.le_of_ble_eq_true rfl⟩ rfl rfl [0, 1, 2, 3] [] rfl rfl rfl rfl (by decide) (fun u9 p2 => ?_)
  obtain rfl := p2
  refine j_eq (ws' := [(h2, .inr (2, [.ref m0, .ref q0, .int (iI ((bfs (okB 254 B) (seedS 254 B 0)).2.length : Int))])), (m0, .inl (T 0, 2880, .inl (fun j : Nat => iI ((mkF (fun _ => 0) 1 (bfs (okB 254 B) (seedS 254 B 0))) j)))), (q0, .inl (T 0, 2880, .inl (fun j : Nat => iI ((qF Q (bfs (okB 254 B) (seedS 254 B 0)).2) j)))), (c0, .inl (T 0, 2880, .inl (fun j : Nat => iI (B j))))]) rfl rfl rfl rfl rfl rfl ?_
  exact hr _ _ _ dX2_markStanding_18 (show ([(h2, .inr (2, [.ref m0, .ref q0, .int (iI ((bfs (okB 254 B) (seedS 254 B 0)).2.length : Int))])), (m0, .inl (T 0, 2880, .inl (fun j : Nat => iI ((mkF (fun _ => 0) 1 (bfs (okB 254 B) (seedS 254 B 0))) j)))), (q0, .inl (T 0, 2880, .inl (fun j : Nat => iI ((qF Q (bfs (okB 254 B) (seedS 254 B 0)).2) j)))), (c0, .inl (T 0, 2880, .inl (fun j : Nat => iI (B j))))] : va_W) = [(h2, .inr (2, [.ref m0, .ref q0, .int (iI ((stdS B).2.length : Int))])), (m0, .inl (T 0, 2880, .inl (fun j : Nat => iI ((fun c9 => bI ((stdS B).1 c9)) j)))), (q0, .inl (T 0, 2880, .inl (fun j : Nat => iI ((qF Q (stdS B).2) j)))), (c0, .inl (T 0, 2880, .inl (fun j : Nat => iI (B j))))] by rw [mkF_1]; rfl)

