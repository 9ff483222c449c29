abbrev rmX2_isMarked : Room := { frames := 0, cells := 0, slots := 0, locals := 0 }
theorem in_X2_isMarked_X2 : ∀ w ∈ u_ws RX2 TX2 3, w ∈ wsX2_isMarked := fun w hw => List.mem_cons_of_mem _ (List.mem_append_right _ (hw))
theorem f_X2_isMarked_9 : FlOK RX2 9 wsX2_isMarked 2 0 := ⟨_, _, _, rfl, by decide, in_X2_isMarked_X2, List.mem_of_getElem? (i := 1) rfl⟩
set_option maxHeartbeats 600000 in
set_option maxRecDepth 100000 in
/-- whether a cube is marked -/
theorem ct_X2_isMarked (T : Nat → ClassId) (h2 : Nat) (m0 : Nat) (q0 : Nat) (n : Int) (V : Int → Bool) (c : Int) (hc : 0 ≤ c ∧ c < 2880) : CtI T yX2_isMarked wsX2_isMarked rmX2_isMarked 0 0 [.ref h2, .int (iI c)] [(h2, .inr (2, [.ref m0, .ref q0, .int (iI n)])), (m0, .inl (T 0, 2880, .inl (fun j : Nat => iI ((fun c9 => bI (V c9)) j))))] (fun r8 u => r8 = (iI (bI (V c))) ∧ u = [(h2, .inr (2, [.ref m0, .ref q0, .int (iI n)])), (m0, .inl (T 0, 2880, .inl (fun j : Nat => iI ((fun c9 => bI (V c9)) j))))]) := by
  refine ctI_of (cc := cX2_isMarked) (maxL := 2) (ret := (some .boolean)) (by decide +kernel) rfl rfl (fun r u hp => by obtain ⟨rfl, -⟩ := hp; exact nz_bool _) (Nat.le_of_ble_eq_true rfl) (fun X h hinit hr => ?_)
  refine j_eq (lv' := [(0, .ref h2), (1, .int (iI c))]) rfl rfl rfl rfl rfl rfl ?_
  refine j_aload_n h dX2_isMarked_0 0 rfl rfl ?_
  refine j_get h dX2_isMarked_1 f_X2_isMarked_9 0 rfl rfl ?_
  refine j_iload_n h dX2_isMarked_4 1 rfl rfl ?_
  refine j_iald (f := (fun c9 => bI (V c9))) h c dX2_isMarked_5 1 rfl (by decide) (by omega) (by omega) ?_
  have e1 := bI_rng (V c)
  refine j_if_eq h 13 dX2_isMarked_6 (by decide) (by omega) (fun c2 => ?_) (fun c2 => ?_)
  · skip
    refine j_iconst h dX2_isMarked_13 ?_
    exact hr _ _ _ _ dX2_isMarked_14 ⟨(congrArg (fun b9 => iI (bI b9)) (show false = (V c) by exact (bI_zero.mp c2).symm)), rfl⟩
  · skip
    refine j_iconst h dX2_isMarked_9 ?_
    refine j_goto (tgt := 14) h dX2_isMarked_10 (by decide) ?_
    exact hr _ _ _ _ dX2_isMarked_14 ⟨(congrArg (fun b9 => iI (bI b9)) (show true = (V c) by exact bI_nz c2)), rfl⟩

abbrev rmX10_pick : Room := { frames := 0, cells := 0, slots := 0, locals := 0 }
theorem in_X10_pick_X10 : ∀ w ∈ u_ws RX10 TX10 4, w ∈ wsX10_pick := fun w hw => List.mem_cons_of_mem _ (List.mem_append_right _ (hw))
theorem f_X10_pick_15 : FlOK RX10 15 wsX10_pick 10 3 := ⟨_, _, _, rfl, by decide, in_X10_pick_X10, List.mem_of_getElem? (i := 1) rfl⟩
theorem f_X10_pick_9 : FlOK RX10 9 wsX10_pick 10 2 := ⟨_, _, _, rfl, by decide, in_X10_pick_X10, List.mem_of_getElem? (i := 2) rfl⟩
theorem p_X10_3 : PuOK 10 3 false (.int) := ⟨_, _, _, tyX10, rfl, tyX10_ok, nmX10, rfl, rfl⟩
set_option maxHeartbeats 600000 in
set_option maxRecDepth 100000 in
/-- a cube comes behind the picked ones -/
theorem ct_X10_pick (T : Nat → ClassId) (h10 : Nat) (c0 : Nat) (h2 : Nat) (pk0 : Nat) (P0 : Int → Int) (l : List Int) (c : Int) (hl : (l.length : Int) < 2880) : CtV T yX10_pick wsX10_pick rmX10_pick 0 0 [.ref h10, .int (iI c)] [(h10, .inr (10, [.ref c0, .ref h2, .ref pk0, .int (iI (l.length : Int))])), (pk0, .inl (T 0, 2880, .inl (fun j : Nat => iI ((qF P0 l) j))))] (fun u => u = [(h10, .inr (10, [.ref c0, .ref h2, .ref pk0, .int (iI ((l ++ [c]).length : Int))])), (pk0, .inl (T 0, 2880, .inl (fun j : Nat => iI ((qF P0 (l ++ [c])) j))))]) := by
  refine ctV_of (cc := cX10_pick) (maxL := 2) (ret := none) (by decide +kernel) rfl rfl (Nat.le_of_ble_eq_true rfl) (fun X h hinit hr => ?_)
  refine j_eq (lv' := [(0, .ref h10), (1, .int (iI c))]) rfl rfl rfl rfl rfl rfl ?_
  refine j_aload_n h dX10_pick_0 0 rfl rfl ?_
  refine j_get h dX10_pick_1 f_X10_pick_15 0 rfl rfl ?_
  refine j_sipush h dX10_pick_4 (by decide) ?_
  refine j_icmp_ge h 30 dX10_pick_7 (by decide) (by omega) (by omega) (fun c1 => ?_) (fun c1 => ?_)
  · skip
    exact absurd c1 (by omega)
  · skip
    refine j_aload_n h dX10_pick_10 0 rfl rfl ?_
    refine j_get h dX10_pick_11 f_X10_pick_9 0 rfl rfl ?_
    refine j_aload_n h dX10_pick_14 0 rfl rfl ?_
    refine j_get h dX10_pick_15 f_X10_pick_15 0 rfl rfl ?_
    refine j_iload_n h dX10_pick_18 1 rfl rfl ?_
    refine j_iast (f := (qF P0 l)) (ws' := [(h10, .inr (10, [.ref c0, .ref h2, .ref pk0, .int (iI (l.length : Int))])), (pk0, .inl (T 0, 2880, .inl (fun j : Nat => iI ((upI (qF P0 l) (l.length : Int) c) j))))]) h (l.length : Int) dX10_pick_19 1 rfl (by decide) (by omega) (by omega) rfl ?_
    refine j_aload_n h dX10_pick_20 0 rfl rfl ?_
    refine j_dup h dX10_pick_21 rfl ?_
    refine j_get h dX10_pick_22 f_X10_pick_15 0 rfl rfl ?_
    refine j_iconst h dX10_pick_25 ?_
    refine j_iadd h dX10_pick_26 ?_
    refine j_put (ws' := [(h10, .inr (10, [.ref c0, .ref h2, .ref pk0, .int (iI ((l.length : Int) + 1))])), (pk0, .inl (T 0, 2880, .inl (fun j : Nat => iI ((upI (qF P0 l) (l.length : Int) c) j))))]) h dX10_pick_27 f_X10_pick_15 p_X10_3 0 rfl rfl rfl (Nat.le_of_ble_eq_true rfl) rfl ?_
    exact hr _ _ _ dX10_pick_30 (show ([(h10, .inr (10, [.ref c0, .ref h2, .ref pk0, .int (iI ((l.length : Int) + 1))])), (pk0, .inl (T 0, 2880, .inl (fun j : Nat => iI ((upI (qF P0 l) (l.length : Int) c) j))))] : va_W) = [(h10, .inr (10, [.ref c0, .ref h2, .ref pk0, .int (iI ((l ++ [c]).length : Int))])), (pk0, .inl (T 0, 2880, .inl (fun j : Nat => iI ((qF P0 (l ++ [c])) j))))] by rw [qF_upd, show ((l ++ [c]).length : Int) = (l.length : Int) + 1 by simp])

abbrev rmX10_putPicked : Room := { frames := 0, cells := 0, slots := 0, locals := 0 }
theorem in_X10_putPicked_X10 : ∀ w ∈ u_ws RX10 TX10 4, w ∈ wsX10_putPicked := fun w hw => List.mem_cons_of_mem _ (List.mem_append_right _ (hw))
theorem f_X10_putPicked_15 : FlOK RX10 15 wsX10_putPicked 10 3 := ⟨_, _, _, rfl, by decide, in_X10_putPicked_X10, List.mem_of_getElem? (i := 1) rfl⟩
theorem f_X10_putPicked_24 : FlOK RX10 24 wsX10_putPicked 10 0 := ⟨_, _, _, rfl, by decide, in_X10_putPicked_X10, List.mem_of_getElem? (i := 2) rfl⟩
theorem f_X10_putPicked_9 : FlOK RX10 9 wsX10_putPicked 10 2 := ⟨_, _, _, rfl, by decide, in_X10_putPicked_X10, List.mem_of_getElem? (i := 3) rfl⟩
set_option maxHeartbeats 600000 in
set_option maxRecDepth 100000 in
/-- what is picked becomes a stuff -/
theorem ct_X10_putPicked (T : Nat → ClassId) (h10 : Nat) (c0 : Nat) (h2 : Nat) (pk0 : Nat) (P0 : Int → Int) (l : List Int) (B : Int → Int) (s : Int) (hB : BOK B) (hl : (l.length : Int) ≤ 2880) (hg : ∀ i : Int, 0 ≤ i → i < (l.length : Int) → 0 ≤ l.getD i.toNat 0 ∧ l.getD i.toNat 0 < 2880) : CtV T yX10_putPicked wsX10_putPicked rmX10_putPicked 0 0 [.ref h10, .int (iI s)] [(h10, .inr (10, [.ref c0, .ref h2, .ref pk0, .int (iI (l.length : Int))])), (pk0, .inl (T 0, 2880, .inl (fun j : Nat => iI ((qF P0 l) j)))), (c0, .inl (T 0, 2880, .inl (fun j : Nat => iI (B j))))] (fun u => u = [(h10, .inr (10, [.ref c0, .ref h2, .ref pk0, .int (iI (l.length : Int))])), (pk0, .inl (T 0, 2880, .inl (fun j : Nat => iI ((qF P0 l) j)))), (c0, .inl (T 0, 2880, .inl (fun j : Nat => iI ((putL B l s (l.length : Int)) j))))]) := by
  refine ctV_of (cc := cX10_putPicked) (maxL := 3) (ret := none) (by decide +kernel) rfl rfl (Nat.le_of_ble_eq_true rfl) (fun X h hinit hr => ?_)
  refine j_eq (lv' := [(0, .ref h10), (1, .int (iI s))]) rfl rfl rfl rfl rfl rfl ?_
  refine j_iconst h dX10_putPicked_0 ?_
  refine j_istore_n (lv' := [(0, .ref h10), (1, .int (iI s)), (2, .int (iI 0))]) h dX10_putPicked_1 [1, 2, 0] rfl (by decide) rfl ?_
  have lp2 : ∀ (n2 : Nat) (i : Int) (hi : 0 ≤ i ∧ i ≤ (l.length : Int)), (((l.length : Int) - i).toNat) < n2 → J X 0 0 2 [(0, .ref h10), (1, .int (iI s)), (2, .int (iI i))] [] [(h10, .inr (10, [.ref c0, .ref h2, .ref pk0, .int (iI (l.length : Int))])), (pk0, .inl (T 0, 2880, .inl (fun j : Nat => iI ((qF P0 l) j)))), (c0, .inl (T 0, 2880, .inl (fun j : Nat => iI ((putL B l s i) j))))] := by
    intro n2
    induction n2 with
    | zero => exact fun i hi hn2 => absurd hn2 (Nat.not_lt_zero _)
    | succ n2 ih2 =>
      intro i hi hn2
      refine j_iload_n h dX10_putPicked_2 2 rfl rfl ?_
      refine j_aload_n h dX10_putPicked_3 0 rfl rfl ?_
      refine j_get h dX10_putPicked_4 f_X10_putPicked_15 0 rfl rfl ?_
      refine j_icmp_ge h 35 dX10_putPicked_7 (by decide) (by omega) (by omega) (fun c1 => ?_) (fun c1 => ?_)
      · skip
        exact hr _ _ _ dX10_putPicked_35 (show ([(h10, .inr (10, [.ref c0, .ref h2, .ref pk0, .int (iI (l.length : Int))])), (pk0, .inl (T 0, 2880, .inl (fun j : Nat => iI ((qF P0 l) j)))), (c0, .inl (T 0, 2880, .inl (fun j : Nat => iI ((putL B l s i) j))))] : va_W) = [(h10, .inr (10, [.ref c0, .ref h2, .ref pk0, .int (iI (l.length : Int))])), (pk0, .inl (T 0, 2880, .inl (fun j : Nat => iI ((qF P0 l) j)))), (c0, .inl (T 0, 2880, .inl (fun j : Nat => iI ((putL B l s (l.length : Int)) j))))] by rw [show i = (l.length : Int) by omega])
      · skip
        refine j_iload_n h dX10_putPicked_10 2 rfl rfl ?_
        refine j_sipush h dX10_putPicked_11 (by decide) ?_
        refine j_icmp_ge h 35 dX10_putPicked_14 (by decide) (by omega) (by omega) (fun c2 => ?_) (fun c2 => ?_)
        · skip
          exact hr _ _ _ dX10_putPicked_35 (show ([(h10, .inr (10, [.ref c0, .ref h2, .ref pk0, .int (iI (l.length : Int))])), (pk0, .inl (T 0, 2880, .inl (fun j : Nat => iI ((qF P0 l) j)))), (c0, .inl (T 0, 2880, .inl (fun j : Nat => iI ((putL B l s i) j))))] : va_W) = [(h10, .inr (10, [.ref c0, .ref h2, .ref pk0, .int (iI (l.length : Int))])), (pk0, .inl (T 0, 2880, .inl (fun j : Nat => iI ((qF P0 l) j)))), (c0, .inl (T 0, 2880, .inl (fun j : Nat => iI ((putL B l s (l.length : Int)) j))))] by rw [show i = (l.length : Int) by omega])
        · skip
          refine j_aload_n h dX10_putPicked_17 0 rfl rfl ?_
          refine j_get h dX10_putPicked_18 f_X10_putPicked_24 0 rfl rfl ?_
          refine j_aload_n h dX10_putPicked_21 0 rfl rfl ?_
          refine j_get h dX10_putPicked_22 f_X10_putPicked_9 0 rfl rfl ?_
          refine j_iload_n h dX10_putPicked_25 2 rfl rfl ?_
          refine j_iald (f := (qF P0 l)) h i dX10_putPicked_26 1 rfl (by decide) (by omega) (by omega) ?_
          rw [show ((qF P0 l) i) = (l.getD i.toNat 0) by exact qF_at (by omega)]
          have hg9 := hg i (by omega) (by omega)
          refine j_iload_n h dX10_putPicked_27 1 rfl rfl ?_
          refine j_iast (f := putL B l s i) (ws' := [(h10, .inr (10, [.ref c0, .ref h2, .ref pk0, .int (iI (l.length : Int))])), (pk0, .inl (T 0, 2880, .inl (fun j : Nat => iI ((qF P0 l) j)))), (c0, .inl (T 0, 2880, .inl (fun j : Nat => iI ((upI (putL B l s i) (l.getD i.toNat 0) s) j))))]) h (l.getD i.toNat 0) dX10_putPicked_28 2 rfl (by decide) (by omega) (by omega) rfl ?_
          refine j_iinc (lv' := [(0, .ref h10), (1, .int (iI s)), (2, .int (iI (i + 1)))]) h dX10_putPicked_29 2 [1, 2, 0] rfl (by decide) rfl ?_
          refine j_goto (tgt := 2) h dX10_putPicked_32 (by decide) ?_
          refine j_eq (ws' := [(h10, .inr (10, [.ref c0, .ref h2, .ref pk0, .int (iI (l.length : Int))])), (pk0, .inl (T 0, 2880, .inl (fun j : Nat => iI ((qF P0 l) j)))), (c0, .inl (T 0, 2880, .inl (fun j : Nat => iI ((putL B l s (i + 1)) j))))]) rfl rfl rfl rfl rfl (by rw [putL_s (by omega)]) ?_
          exact ih2 (i + 1) (by first | assumption | omega) (by omega)
  refine j_eq (ws' := [(h10, .inr (10, [.ref c0, .ref h2, .ref pk0, .int (iI (l.length : Int))])), (pk0, .inl (T 0, 2880, .inl (fun j : Nat => iI ((qF P0 l) j)))), (c0, .inl (T 0, 2880, .inl (fun j : Nat => iI ((putL B l s 0) j))))]) rfl rfl rfl rfl rfl (by rw [putL_0]) ?_
  exact lp2 _ 0 (by first | assumption | omega) (Nat.lt_succ_self _)

abbrev rmX10_isBesideStuff : Room := { frames := 1, cells := 0, slots := 0, locals := 21 }
theorem in_X10_isBesideStuff_X10 : ∀ w ∈ u_ws RX10 TX10 4, w ∈ wsX10_isBesideStuff := fun w hw => List.mem_cons_of_mem _ (List.mem_append_right _ (hw))
theorem f_X10_isBesideStuff_24 : FlOK RX10 24 wsX10_isBesideStuff 10 0 := ⟨_, _, _, rfl, by decide, in_X10_isBesideStuff_X10, List.mem_of_getElem? (i := 1) rfl⟩
set_option maxHeartbeats 600000 in
set_option maxRecDepth 100000 in
/-- whether a cube is beside one that is not empty -/
theorem ct_X10_isBesideStuff (T : Nat → ClassId) (h10 : Nat) (c0 : Nat) (h2 : Nat) (pk0 : Nat) (np : Int) (B : Int → Int) (c : Int) (hB : BOK B) (hc : 0 ≤ c ∧ c < 2880) : CtI T yX10_isBesideStuff wsX10_isBesideStuff rmX10_isBesideStuff 0 0 [.ref h10, .int (iI c)] [(h10, .inr (10, [.ref c0, .ref h2, .ref pk0, .int (iI np)])), (c0, .inl (T 0, 2880, .inl (fun j : Nat => iI (B j))))] (fun r8 u => r8 = (iI (bI (nearP (stuffP B) c))) ∧ u = [(h10, .inr (10, [.ref c0, .ref h2, .ref pk0, .int (iI np)])), (c0, .inl (T 0, 2880, .inl (fun j : Nat => iI (B j))))]) := by
  refine ctI_of (cc := cX10_isBesideStuff) (maxL := 4) (ret := (some .boolean)) (by decide +kernel) rfl rfl (fun r u hp => by obtain ⟨rfl, -⟩ := hp; exact nz_bool _) (Nat.le_of_ble_eq_true rfl) (fun X h hinit hr => ?_)
  refine j_eq (lv' := [(0, .ref h10), (1, .int (iI c))]) rfl rfl rfl rfl rfl rfl ?_
  refine j_iconst h dX10_isBesideStuff_0 ?_
  refine j_istore_n (lv' := [(0, .ref h10), (1, .int (iI c)), (2, .int (iI 0))]) h dX10_isBesideStuff_1 [1, 2, 0] rfl (by decide) rfl ?_
  have lp2 : ∀ (n2 : Nat) (w : Int) (hw : 0 ≤ w ∧ w ≤ 6) (hf : anI (fun w => decide (bes c w ≠ -1) && stuffP B (bes c w)) w 6 = nearP (stuffP B) c), ((6 - w).toNat) < n2 → J X 0 0 2 [(0, .ref h10), (1, .int (iI c)), (2, .int (iI w))] [] [(h10, .inr (10, [.ref c0, .ref h2, .ref pk0, .int (iI np)])), (c0, .inl (T 0, 2880, .inl (fun j : Nat => iI (B j))))] := by
    intro n2
    induction n2 with
    | zero => exact fun w hw hf hn2 => absurd hn2 (Nat.not_lt_zero _)
    | succ n2 ih2 =>
      intro w hw hf hn2
      refine j_iload_n h dX10_isBesideStuff_2 2 rfl rfl ?_
      refine j_bipush h dX10_isBesideStuff_3 (by decide) ?_
      refine j_icmp_ge h 36 dX10_isBesideStuff_5 (by decide) (by omega) (by omega) (fun c1 => ?_) (fun c1 => ?_)
      · skip
        refine j_iconst h dX10_isBesideStuff_36 ?_
        exact hr _ _ _ _ dX10_isBesideStuff_37 ⟨(congrArg (fun b9 => iI (bI b9)) (show false = nearP (stuffP B) c by rw [← hf, anI_e (by omega)])), rfl⟩
      · skip
        refine j_iload_n h dX10_isBesideStuff_8 1 rfl rfl ?_
        refine j_iload_n h dX10_isBesideStuff_9 2 rfl rfl ?_
        refine j_callSNi (As := [.int (iI c), .int (iI w)]) (wr := [(h10, .inr (10, [.ref c0, .ref h2, .ref pk0, .int (iI np)])), (c0, .inl (T 0, 2880, .inl (fun j : Nat => iI (B j))))]) (cells' := 0) (slots' := 0) h dX10_isBesideStuff_10 (ct_X11_beside T c w (by first | assumption | omega) (by first | assumption | omega)) k_X11_beside gX10_isBesideStuff_X11_beside_n79 (List.mem_of_getElem? (i := 16) rfl) (List.mem_of_getElem? (i := 3) rfl) (List.mem_of_getElem? (i := 2) rfl) ⟨Nat.le_of_ble_eq_true rfl, Nat.le_of_ble_eq_true rfl⟩ rfl rfl (Nat.le_of_ble_eq_true rfl) ⟨Nat.le_of_ble_eq_true rfl, Nat.le_of_ble_eq_true rfl⟩ rfl rfl [] [0, 1] rfl rfl rfl rfl (by decide) (fun r9 u9 p2 => ?_)
        obtain ⟨rfl, rfl⟩ := p2
        have hb9 := @bes_rng c w (by omega)
        refine j_eq (ws' := [(h10, .inr (10, [.ref c0, .ref h2, .ref pk0, .int (iI np)])), (c0, .inl (T 0, 2880, .inl (fun j : Nat => iI (B j))))]) rfl rfl rfl rfl rfl rfl ?_
        refine j_istore_n (lv' := [(0, .ref h10), (1, .int (iI c)), (2, .int (iI w)), (3, .int (iI (bes c w)))]) h dX10_isBesideStuff_13 [1, 2, 3, 0] rfl (by decide) rfl ?_
        refine j_iload_n h dX10_isBesideStuff_14 3 rfl rfl ?_
        refine j_iconst h dX10_isBesideStuff_15 ?_
        refine j_icmp_eq h 30 dX10_isBesideStuff_16 (by decide) (by omega) (by omega) (fun c3 => ?_) (fun c3 => ?_)
        · skip
          refine j_iinc (lv' := [(0, .ref h10), (1, .int (iI c)), (2, .int (iI (w + 1))), (3, .int (iI (bes c w)))]) h dX10_isBesideStuff_30 2 [1, 2, 0, 3] rfl (by decide) rfl ?_
          refine j_goto (tgt := 2) h dX10_isBesideStuff_33 (by decide) ?_
          refine j_lv (lv' := [(0, .ref h10), (1, .int (iI c)), (2, .int (iI (w + 1)))]) [0, 1, 2] rfl ?_
          exact ih2 (w + 1) (by first | assumption | omega) (by rw [← anI_f (by omega) (by unfold stuffP; simp_all)]; exact hf) (by omega)
        · skip
          refine j_aload_n h dX10_isBesideStuff_19 0 rfl rfl ?_
          refine j_get h dX10_isBesideStuff_20 f_X10_isBesideStuff_24 0 rfl rfl ?_
          refine j_iload_n h dX10_isBesideStuff_23 3 rfl rfl ?_
          refine j_iald (f := B) h (bes c w) dX10_isBesideStuff_24 1 rfl (by decide) (by omega) (by omega) ?_
          have e4 := hB (bes c w)
          refine j_if_eq h 30 dX10_isBesideStuff_25 (by decide) (by omega) (fun c5 => ?_) (fun c5 => ?_)
          · skip
            refine j_iinc (lv' := [(0, .ref h10), (1, .int (iI c)), (2, .int (iI (w + 1))), (3, .int (iI (bes c w)))]) h dX10_isBesideStuff_30 2 [1, 2, 0, 3] rfl (by decide) rfl ?_
            refine j_goto (tgt := 2) h dX10_isBesideStuff_33 (by decide) ?_
            refine j_lv (lv' := [(0, .ref h10), (1, .int (iI c)), (2, .int (iI (w + 1)))]) [0, 1, 2] rfl ?_
            exact ih2 (w + 1) (by first | assumption | omega) (by rw [← anI_f (by omega) (by unfold stuffP; simp_all)]; exact hf) (by omega)
          · skip
            refine j_iconst h dX10_isBesideStuff_28 ?_
            exact hr _ _ _ _ dX10_isBesideStuff_29 ⟨(congrArg (fun b9 => iI (bI b9)) (show true = nearP (stuffP B) c by rw [← hf, anI_t (by omega) (by unfold stuffP; simp_all)])), rfl⟩
  exact lp2 _ 0 (by first | assumption | omega) (by rfl) (Nat.lt_succ_self _)

abbrev rmX10_isExposed : Room := { frames := 1, cells := 0, slots := 0, locals := 21 }
theorem in_X10_isExposed_X10 : ∀ w ∈ u_ws RX10 TX10 4, w ∈ wsX10_isExposed := fun w hw => List.mem_cons_of_mem _ (List.mem_append_left _ (List.mem_append_right _ (hw)))
theorem f_X10_isExposed_25 : FlOK RX10 25 wsX10_isExposed 10 1 := ⟨_, _, _, rfl, by decide, in_X10_isExposed_X10, List.mem_of_getElem? (i := 1) rfl⟩
theorem k_X2_isMarked : CkOK yX2_isMarked wsX2_isMarked rmX2_isMarked 0 0 cX2_isMarked 2 (some .boolean) 1 := ⟨⟨_, rfl⟩, rfl, rfl, by decide +kernel⟩
set_option maxHeartbeats 600000 in
set_option maxRecDepth 100000 in
/-- whether a cube is highest, or beside a marked one -/
theorem ct_X10_isExposed (T : Nat → ClassId) (h10 : Nat) (c0 : Nat) (h2 : Nat) (pk0 : Nat) (np : Int) (m0 : Nat) (q0 : Nat) (n : Int) (V : Int → Bool) (c : Int) (hc : 0 ≤ c ∧ c < 2880) : CtI T yX10_isExposed wsX10_isExposed rmX10_isExposed 0 0 [.ref h10, .int (iI c)] [(h10, .inr (10, [.ref c0, .ref h2, .ref pk0, .int (iI np)])), (h2, .inr (2, [.ref m0, .ref q0, .int (iI n)])), (m0, .inl (T 0, 2880, .inl (fun j : Nat => iI ((fun c9 => bI (V c9)) j))))] (fun r8 u => r8 = (iI (bI (expoP V c))) ∧ u = [(h10, .inr (10, [.ref c0, .ref h2, .ref pk0, .int (iI np)])), (h2, .inr (2, [.ref m0, .ref q0, .int (iI n)])), (m0, .inl (T 0, 2880, .inl (fun j : Nat => iI ((fun c9 => bI (V c9)) j))))]) := by
  refine ctI_of (cc := cX10_isExposed) (maxL := 4) (ret := (some .boolean)) (by decide +kernel) rfl rfl (fun r u hp => by obtain ⟨rfl, -⟩ := hp; exact nz_bool _) (Nat.le_of_ble_eq_true rfl) (fun X h hinit hr => ?_)
  refine j_eq (lv' := [(0, .ref h10), (1, .int (iI c))]) rfl rfl rfl rfl rfl rfl ?_
  refine j_iload_n h dX10_isExposed_0 1 rfl rfl ?_
  refine j_sipush h dX10_isExposed_1 (by decide) ?_
  refine j_icmp_lt h 9 dX10_isExposed_4 (by decide) (by omega) (by omega) (fun c1 => ?_) (fun c1 => ?_)
  · skip
    refine j_iconst h dX10_isExposed_9 ?_
    refine j_istore_n (lv' := [(0, .ref h10), (1, .int (iI c)), (2, .int (iI 0))]) h dX10_isExposed_10 [1, 2, 0] rfl (by decide) rfl ?_
    have lp11 : ∀ (n11 : Nat) (w : Int) (hw : 0 ≤ w ∧ w ≤ 6) (hf : anI (fun w => decide (bes c w ≠ -1) && V (bes c w)) w 6 = nearP V c), ((6 - w).toNat) < n11 → J X 0 0 11 [(0, .ref h10), (1, .int (iI c)), (2, .int (iI w))] [] [(h10, .inr (10, [.ref c0, .ref h2, .ref pk0, .int (iI np)])), (h2, .inr (2, [.ref m0, .ref q0, .int (iI n)])), (m0, .inl (T 0, 2880, .inl (fun j : Nat => iI ((fun c9 => bI (V c9)) j))))] := by
      intro n11
      induction n11 with
      | zero => exact fun w hw hf hn11 => absurd hn11 (Nat.not_lt_zero _)
      | succ n11 ih11 =>
        intro w hw hf hn11
        refine j_iload_n h dX10_isExposed_11 2 rfl rfl ?_
        refine j_bipush h dX10_isExposed_12 (by decide) ?_
        refine j_icmp_ge h 47 dX10_isExposed_14 (by decide) (by omega) (by omega) (fun c2 => ?_) (fun c2 => ?_)
        · skip
          refine j_iconst h dX10_isExposed_47 ?_
          exact hr _ _ _ _ dX10_isExposed_48 ⟨(congrArg (fun b9 => iI (bI b9)) (show false = expoP V c by unfold expoP; rw [← hf, anI_e (by omega)]; simp; omega)), rfl⟩
        · skip
          refine j_iload_n h dX10_isExposed_17 1 rfl rfl ?_
          refine j_iload_n h dX10_isExposed_18 2 rfl rfl ?_
          refine j_callSNi (As := [.int (iI c), .int (iI w)]) (wr := [(h10, .inr (10, [.ref c0, .ref h2, .ref pk0, .int (iI np)])), (h2, .inr (2, [.ref m0, .ref q0, .int (iI n)])), (m0, .inl (T 0, 2880, .inl (fun j : Nat => iI ((fun c9 => bI (V c9)) j))))]) (cells' := 0) (slots' := 0) h dX10_isExposed_19 (ct_X11_beside T c w (by first | assumption | omega) (by first | assumption | omega)) k_X11_beside gX10_isExposed_X11_beside_n79 (List.mem_of_getElem? (i := 16) rfl) (List.mem_of_getElem? (i := 3) rfl) (List.mem_of_getElem? (i := 2) rfl) ⟨Nat.le_of_ble_eq_true rfl, Nat.le_of_ble_eq_true rfl⟩ rfl rfl (Nat.le_of_ble_eq_true rfl) ⟨Nat.le_of_ble_eq_true rfl, Nat.le_of_ble_eq_true rfl⟩ rfl rfl [] [0, 1, 2] rfl rfl rfl rfl (by decide) (fun r9 u9 p3 => ?_)
          obtain ⟨rfl, rfl⟩ := p3
          have hb9 := @bes_rng c w (by omega)
          refine j_eq (ws' := [(h10, .inr (10, [.ref c0, .ref h2, .ref pk0, .int (iI np)])), (h2, .inr (2, [.ref m0, .ref q0, .int (iI n)])), (m0, .inl (T 0, 2880, .inl (fun j : Nat => iI ((fun c9 => bI (V c9)) j))))]) rfl rfl rfl rfl rfl rfl ?_
          refine j_istore_n (lv' := [(0, .ref h10), (1, .int (iI c)), (2, .int (iI w)), (3, .int (iI (bes c w)))]) h dX10_isExposed_22 [1, 2, 3, 0] rfl (by decide) rfl ?_
          refine j_iload_n h dX10_isExposed_23 3 rfl rfl ?_
          refine j_iconst h dX10_isExposed_24 ?_
          refine j_icmp_eq h 41 dX10_isExposed_25 (by decide) (by omega) (by omega) (fun c4 => ?_) (fun c4 => ?_)
          · skip
            refine j_iinc (lv' := [(0, .ref h10), (1, .int (iI c)), (2, .int (iI (w + 1))), (3, .int (iI (bes c w)))]) h dX10_isExposed_41 2 [1, 2, 0, 3] rfl (by decide) rfl ?_
            refine j_goto (tgt := 11) h dX10_isExposed_44 (by decide) ?_
            refine j_lv (lv' := [(0, .ref h10), (1, .int (iI c)), (2, .int (iI (w + 1)))]) [0, 1, 2] rfl ?_
            exact ih11 (w + 1) (by first | assumption | omega) (by rw [← anI_f (by omega) (by simp_all)]; exact hf) (by omega)
          · skip
            refine j_aload_n h dX10_isExposed_28 0 rfl rfl ?_
            refine j_get h dX10_isExposed_29 f_X10_isExposed_25 0 rfl rfl ?_
            refine j_iload_n h dX10_isExposed_32 3 rfl rfl ?_
            refine j_callVi (As := [.int (iI (bes c w))]) (wr := [(h10, .inr (10, [.ref c0, .ref h2, .ref pk0, .int (iI np)]))]) (cells' := 0) (slots' := 0) h dX10_isExposed_33 (ct_X2_isMarked T h2 m0 q0 n V (bes c w) (by first | assumption | omega)) k_X2_isMarked gX10_isExposed_X2_isMarked rfl rfl 1 rfl ⟨Nat.le_of_ble_eq_true rfl, Nat.le_of_ble_eq_true rfl⟩ rfl rfl (Nat.le_of_ble_eq_true rfl) ⟨Nat.le_of_ble_eq_true rfl, Nat.le_of_ble_eq_true rfl⟩ rfl rfl [1, 2] [0] rfl rfl rfl rfl (by decide) (fun r9 u9 p5 => ?_)
            obtain ⟨rfl, rfl⟩ := p5
            refine j_eq (ws' := [(h10, .inr (10, [.ref c0, .ref h2, .ref pk0, .int (iI np)])), (h2, .inr (2, [.ref m0, .ref q0, .int (iI n)])), (m0, .inl (T 0, 2880, .inl (fun j : Nat => iI ((fun c9 => bI (V c9)) j))))]) rfl rfl rfl rfl rfl rfl ?_
            refine j_ifeqB h 41 dX10_isExposed_36 (by decide) (fun c6 => ?_) (fun c6 => ?_)
            · skip
              refine j_iinc (lv' := [(0, .ref h10), (1, .int (iI c)), (2, .int (iI (w + 1))), (3, .int (iI (bes c w)))]) h dX10_isExposed_41 2 [1, 2, 0, 3] rfl (by decide) rfl ?_
              refine j_goto (tgt := 11) h dX10_isExposed_44 (by decide) ?_
              refine j_lv (lv' := [(0, .ref h10), (1, .int (iI c)), (2, .int (iI (w + 1)))]) [0, 1, 2] rfl ?_
              exact ih11 (w + 1) (by first | assumption | omega) (by rw [← anI_f (by omega) (by simp_all)]; exact hf) (by omega)
            · skip
              refine j_iconst h dX10_isExposed_39 ?_
              exact hr _ _ _ _ dX10_isExposed_40 ⟨(congrArg (fun b9 => iI (bI b9)) (show true = expoP V c by unfold expoP; rw [← hf, anI_t (by omega) (by simp_all)]; simp)), rfl⟩
    exact lp11 _ 0 (by first | assumption | omega) (by rfl) (Nat.lt_succ_self _)
  · skip
    refine j_iconst h dX10_isExposed_7 ?_
    exact hr _ _ _ _ dX10_isExposed_8 ⟨(congrArg (fun b9 => iI (bI b9)) (show true = expoP V c by unfold expoP; simp; omega)), rfl⟩

abbrev rmX10_pickSurface : Room := { frames := 2, cells := 0, slots := 0, locals := 44 }
theorem in_X10_pickSurface_X10 : ∀ w ∈ u_ws RX10 TX10 4, w ∈ wsX10_pickSurface := fun w hw => List.mem_cons_of_mem _ (List.mem_append_left _ (List.mem_append_right _ (hw)))
theorem f_X10_pickSurface_15 : FlOK RX10 15 wsX10_pickSurface 10 3 := ⟨_, _, _, rfl, by decide, in_X10_pickSurface_X10, List.mem_of_getElem? (i := 1) rfl⟩
theorem f_X10_pickSurface_25 : FlOK RX10 25 wsX10_pickSurface 10 1 := ⟨_, _, _, rfl, by decide, in_X10_pickSurface_X10, List.mem_of_getElem? (i := 2) rfl⟩
theorem k_X10_isBesideStuff : CkOK yX10_isBesideStuff wsX10_isBesideStuff rmX10_isBesideStuff 0 0 cX10_isBesideStuff 4 (some .boolean) 1 := ⟨⟨_, rfl⟩, rfl, rfl, by decide +kernel⟩
theorem k_X10_pick : CkOK yX10_pick wsX10_pick rmX10_pick 0 0 cX10_pick 2 none 1 := ⟨⟨_, rfl⟩, rfl, rfl, by decide +kernel⟩
set_option maxHeartbeats 600000 in
set_option maxRecDepth 100000 in
/-- picks the open cubes beside one that is not empty -/
theorem ct_X10_pickSurface (T : Nat → ClassId) (h10 : Nat) (c0 : Nat) (h2 : Nat) (pk0 : Nat) (np : Int) (m0 : Nat) (q0 : Nat) (n : Int) (V : Int → Bool) (P : Int → Int) (B : Int → Int) (hB : BOK B) : CtV T yX10_pickSurface wsX10_pickSurface rmX10_pickSurface 0 0 [.ref h10] [(h10, .inr (10, [.ref c0, .ref h2, .ref pk0, .int (iI np)])), (h2, .inr (2, [.ref m0, .ref q0, .int (iI n)])), (m0, .inl (T 0, 2880, .inl (fun j : Nat => iI ((fun c9 => bI (V c9)) j)))), (pk0, .inl (T 0, 2880, .inl (fun j : Nat => iI (P j)))), (c0, .inl (T 0, 2880, .inl (fun j : Nat => iI (B j))))] (fun u => u = [(h10, .inr (10, [.ref c0, .ref h2, .ref pk0, .int (iI ((pkI (fun c => V c && nearP (stuffP B) c) 2880).length : Int))])), (h2, .inr (2, [.ref m0, .ref q0, .int (iI n)])), (m0, .inl (T 0, 2880, .inl (fun j : Nat => iI ((fun c9 => bI (V c9)) j)))), (pk0, .inl (T 0, 2880, .inl (fun j : Nat => iI ((qF P (pkI (fun c => V c && nearP (stuffP B) c) 2880)) j)))), (c0, .inl (T 0, 2880, .inl (fun j : Nat => iI (B j))))]) := by
  refine ctV_of (cc := cX10_pickSurface) (maxL := 2) (ret := none) (by decide +kernel) rfl rfl (Nat.le_of_ble_eq_true rfl) (fun X h hinit hr => ?_)
  refine j_eq (lv' := [(0, .ref h10)]) rfl rfl rfl rfl rfl rfl ?_
  refine j_aload_n h dX10_pickSurface_0 0 rfl rfl ?_
  refine j_iconst h dX10_pickSurface_1 ?_
  refine j_put (ws' := [(h10, .inr (10, [.ref c0, .ref h2, .ref pk0, .int (iI 0)])), (h2, .inr (2, [.ref m0, .ref q0, .int (iI n)])), (m0, .inl (T 0, 2880, .inl (fun j : Nat => iI ((fun c9 => bI (V c9)) j)))), (pk0, .inl (T 0, 2880, .inl (fun j : Nat => iI (P j)))), (c0, .inl (T 0, 2880, .inl (fun j : Nat => iI (B j))))]) h dX10_pickSurface_2 f_X10_pickSurface_15 p_X10_3 0 rfl rfl rfl (Nat.le_of_ble_eq_true rfl) rfl ?_
  refine j_iconst h dX10_pickSurface_5 ?_
  refine j_istore_n (lv' := [(0, .ref h10), (1, .int (iI 0))]) h dX10_pickSurface_6 [1, 0] rfl (by decide) rfl ?_
  have lp7 : ∀ (n7 : Nat) (k : Int) (l : List Int) (hk9 : 0 ≤ k ∧ k ≤ 2880) (hl : l = pkI (fun c => V c && nearP (stuffP B) c) k), ((2880 - k).toNat) < n7 → J X 0 0 7 [(0, .ref h10), (1, .int (iI k))] [] [(h10, .inr (10, [.ref c0, .ref h2, .ref pk0, .int (iI (l.length : Int))])), (h2, .inr (2, [.ref m0, .ref q0, .int (iI n)])), (m0, .inl (T 0, 2880, .inl (fun j : Nat => iI ((fun c9 => bI (V c9)) j)))), (pk0, .inl (T 0, 2880, .inl (fun j : Nat => iI ((qF P l) j)))), (c0, .inl (T 0, 2880, .inl (fun j : Nat => iI (B j))))] := by
    intro n7
    induction n7 with
    | zero => exact fun k l hk9 hl hn7 => absurd hn7 (Nat.not_lt_zero _)
    | succ n7 ih7 =>
      intro k l hk9 hl hn7
      have hl9 := pkI_len (P := (fun c => V c && nearP (stuffP B) c)) (k := k) (by omega)
      refine j_iload_n h dX10_pickSurface_7 1 rfl rfl ?_
      refine j_sipush h dX10_pickSurface_8 (by decide) ?_
      refine j_icmp_ge h 44 dX10_pickSurface_11 (by decide) (by omega) (by omega) (fun c1 => ?_) (fun c1 => ?_)
      · skip
        exact hr _ _ _ dX10_pickSurface_44 (show ([(h10, .inr (10, [.ref c0, .ref h2, .ref pk0, .int (iI (l.length : Int))])), (h2, .inr (2, [.ref m0, .ref q0, .int (iI n)])), (m0, .inl (T 0, 2880, .inl (fun j : Nat => iI ((fun c9 => bI (V c9)) j)))), (pk0, .inl (T 0, 2880, .inl (fun j : Nat => iI ((qF P l) j)))), (c0, .inl (T 0, 2880, .inl (fun j : Nat => iI (B j))))] : va_W) = [(h10, .inr (10, [.ref c0, .ref h2, .ref pk0, .int (iI ((pkI (fun c => V c && nearP (stuffP B) c) 2880).length : Int))])), (h2, .inr (2, [.ref m0, .ref q0, .int (iI n)])), (m0, .inl (T 0, 2880, .inl (fun j : Nat => iI ((fun c9 => bI (V c9)) j)))), (pk0, .inl (T 0, 2880, .inl (fun j : Nat => iI ((qF P (pkI (fun c => V c && nearP (stuffP B) c) 2880)) j)))), (c0, .inl (T 0, 2880, .inl (fun j : Nat => iI (B j))))] by rw [hl, show k = 2880 by omega])
      · skip
        refine j_aload_n h dX10_pickSurface_14 0 rfl rfl ?_
        refine j_get h dX10_pickSurface_15 f_X10_pickSurface_25 0 rfl rfl ?_
        refine j_iload_n h dX10_pickSurface_18 1 rfl rfl ?_
        refine j_callVi (As := [.int (iI k)]) (wr := [(h10, .inr (10, [.ref c0, .ref h2, .ref pk0, .int (iI (l.length : Int))])), (pk0, .inl (T 0, 2880, .inl (fun j : Nat => iI ((qF P l) j)))), (c0, .inl (T 0, 2880, .inl (fun j : Nat => iI (B j))))]) (cells' := 0) (slots' := 0) h dX10_pickSurface_19 (ct_X2_isMarked T h2 m0 q0 n V k (by first | assumption | omega)) k_X2_isMarked gX10_pickSurface_X2_isMarked rfl rfl 1 rfl ⟨Nat.le_of_ble_eq_true rfl, Nat.le_of_ble_eq_true rfl⟩ rfl rfl (Nat.le_of_ble_eq_true rfl) ⟨Nat.le_of_ble_eq_true rfl, Nat.le_of_ble_eq_true rfl⟩ rfl rfl [1, 2] [0, 3, 4] rfl rfl rfl rfl (by decide) (fun r9 u9 p2 => ?_)
        obtain ⟨rfl, rfl⟩ := p2
        refine j_eq (ws' := [(h10, .inr (10, [.ref c0, .ref h2, .ref pk0, .int (iI (l.length : Int))])), (pk0, .inl (T 0, 2880, .inl (fun j : Nat => iI ((qF P l) j)))), (c0, .inl (T 0, 2880, .inl (fun j : Nat => iI (B j)))), (h2, .inr (2, [.ref m0, .ref q0, .int (iI n)])), (m0, .inl (T 0, 2880, .inl (fun j : Nat => iI ((fun c9 => bI (V c9)) j))))]) rfl rfl rfl rfl rfl rfl ?_
        refine j_ifeqB h 38 dX10_pickSurface_22 (by decide) (fun c3 => ?_) (fun c3 => ?_)
        · skip
          refine j_iinc (lv' := [(0, .ref h10), (1, .int (iI (k + 1)))]) h dX10_pickSurface_38 1 [1, 0] rfl (by decide) rfl ?_
          refine j_goto (tgt := 7) h dX10_pickSurface_41 (by decide) ?_
          refine j_ws (ws' := [(h10, .inr (10, [.ref c0, .ref h2, .ref pk0, .int (iI (l.length : Int))])), (h2, .inr (2, [.ref m0, .ref q0, .int (iI n)])), (m0, .inl (T 0, 2880, .inl (fun j : Nat => iI ((fun c9 => bI (V c9)) j)))), (pk0, .inl (T 0, 2880, .inl (fun j : Nat => iI ((qF P l) j)))), (c0, .inl (T 0, 2880, .inl (fun j : Nat => iI (B j))))]) [0, 3, 4, 1, 2] rfl rfl ?_
          exact ih7 (k + 1) l (by first | assumption | omega) (by rw [pkI_f (by omega) (by simp_all)]; exact hl) (by omega)
        · skip
          refine j_aload_n h dX10_pickSurface_25 0 rfl rfl ?_
          refine j_iload_n h dX10_pickSurface_26 1 rfl rfl ?_
          refine j_callVi (As := [.int (iI k)]) (wr := [(pk0, .inl (T 0, 2880, .inl (fun j : Nat => iI ((qF P l) j)))), (h2, .inr (2, [.ref m0, .ref q0, .int (iI n)])), (m0, .inl (T 0, 2880, .inl (fun j : Nat => iI ((fun c9 => bI (V c9)) j))))]) (cells' := 0) (slots' := 0) h dX10_pickSurface_27 (ct_X10_isBesideStuff T h10 c0 h2 pk0 (l.length : Int) B k (by first | assumption | omega) (by first | assumption | omega)) k_X10_isBesideStuff gX10_pickSurface_X10_isBesideStuff rfl rfl 0 rfl ⟨Nat.le_of_ble_eq_true rfl, Nat.le_of_ble_eq_true rfl⟩ rfl rfl (Nat.le_of_ble_eq_true rfl) ⟨Nat.le_of_ble_eq_true rfl, Nat.le_of_ble_eq_true rfl⟩ rfl rfl [0, 2] [1, 3, 4] rfl rfl rfl rfl (by decide) (fun r9 u9 p4 => ?_)
          obtain ⟨rfl, rfl⟩ := p4
          refine j_eq (ws' := [(pk0, .inl (T 0, 2880, .inl (fun j : Nat => iI ((qF P l) j)))), (h2, .inr (2, [.ref m0, .ref q0, .int (iI n)])), (m0, .inl (T 0, 2880, .inl (fun j : Nat => iI ((fun c9 => bI (V c9)) j)))), (h10, .inr (10, [.ref c0, .ref h2, .ref pk0, .int (iI (l.length : Int))])), (c0, .inl (T 0, 2880, .inl (fun j : Nat => iI (B j))))]) rfl rfl rfl rfl rfl rfl ?_
          refine j_ifeqB h 38 dX10_pickSurface_30 (by decide) (fun c5 => ?_) (fun c5 => ?_)
          · skip
            refine j_iinc (lv' := [(0, .ref h10), (1, .int (iI (k + 1)))]) h dX10_pickSurface_38 1 [1, 0] rfl (by decide) rfl ?_
            refine j_goto (tgt := 7) h dX10_pickSurface_41 (by decide) ?_
            refine j_ws (ws' := [(h10, .inr (10, [.ref c0, .ref h2, .ref pk0, .int (iI (l.length : Int))])), (h2, .inr (2, [.ref m0, .ref q0, .int (iI n)])), (m0, .inl (T 0, 2880, .inl (fun j : Nat => iI ((fun c9 => bI (V c9)) j)))), (pk0, .inl (T 0, 2880, .inl (fun j : Nat => iI ((qF P l) j)))), (c0, .inl (T 0, 2880, .inl (fun j : Nat => iI (B j))))]) [3, 1, 2, 0, 4] rfl rfl ?_
            exact ih7 (k + 1) l (by first | assumption | omega) (by rw [pkI_f (by omega) (by simp_all)]; exact hl) (by omega)
          · skip
            refine j_aload_n h dX10_pickSurface_33 0 rfl rfl ?_
            refine j_iload_n h dX10_pickSurface_34 1 rfl rfl ?_
            refine j_callVv (As := [.int (iI k)]) (wr := [(h2, .inr (2, [.ref m0, .ref q0, .int (iI n)])), (m0, .inl (T 0, 2880, .inl (fun j : Nat => iI ((fun c9 => bI (V c9)) j)))), (c0, .inl (T 0, 2880, .inl (fun j : Nat => iI (B j))))]) (cells' := 0) (slots' := 0) h dX10_pickSurface_35 (ct_X10_pick T h10 c0 h2 pk0 P l k (by rw [hl]; omega)) k_X10_pick gX10_pickSurface_X10_pick rfl rfl 3 rfl ⟨Nat.le_of_ble_eq_true rfl, Nat.le_of_ble_eq_true rfl⟩ rfl rfl (Nat.le_of_ble_eq_true rfl) ⟨Nat.le_of_ble_eq_true rfl, Nat.le_of_ble_eq_true rfl⟩ rfl rfl [3, 0] [1, 2, 4] rfl rfl rfl rfl (by decide) (fun u9 p6 => ?_)
            obtain rfl := p6
            refine j_eq (ws' := [(h2, .inr (2, [.ref m0, .ref q0, .int (iI n)])), (m0, .inl (T 0, 2880, .inl (fun j : Nat => iI ((fun c9 => bI (V c9)) j)))), (c0, .inl (T 0, 2880, .inl (fun j : Nat => iI (B j)))), (h10, .inr (10, [.ref c0, .ref h2, .ref pk0, .int (iI ((l ++ [k]).length : Int))])), (pk0, .inl (T 0, 2880, .inl (fun j : Nat => iI ((qF P (l ++ [k])) j))))]) rfl rfl rfl rfl rfl rfl ?_
            refine j_iinc (lv' := [(0, .ref h10), (1, .int (iI (k + 1)))]) h dX10_pickSurface_38 1 [1, 0] rfl (by decide) rfl ?_
            refine j_goto (tgt := 7) h dX10_pickSurface_41 (by decide) ?_
            refine j_ws (ws' := [(h10, .inr (10, [.ref c0, .ref h2, .ref pk0, .int (iI ((l ++ [k]).length : Int))])), (h2, .inr (2, [.ref m0, .ref q0, .int (iI n)])), (m0, .inl (T 0, 2880, .inl (fun j : Nat => iI ((fun c9 => bI (V c9)) j)))), (pk0, .inl (T 0, 2880, .inl (fun j : Nat => iI ((qF P (l ++ [k])) j)))), (c0, .inl (T 0, 2880, .inl (fun j : Nat => iI (B j))))]) [3, 0, 1, 4, 2] rfl rfl ?_
            exact ih7 (k + 1) (l ++ [k]) (by first | assumption | omega) (by rw [pkI_t (by omega) (by simp_all), ← hl]) (by omega)
  refine j_eq (ws' := [(h10, .inr (10, [.ref c0, .ref h2, .ref pk0, .int (iI (([] : List Int).length : Int))])), (h2, .inr (2, [.ref m0, .ref q0, .int (iI n)])), (m0, .inl (T 0, 2880, .inl (fun j : Nat => iI ((fun c9 => bI (V c9)) j)))), (pk0, .inl (T 0, 2880, .inl (fun j : Nat => iI ((qF P ([] : List Int)) j)))), (c0, .inl (T 0, 2880, .inl (fun j : Nat => iI (B j))))]) rfl rfl rfl rfl rfl (by rw [qF_0]; rfl) ?_
  exact lp7 _ 0 ([] : List Int) (by first | assumption | omega) (by exact (pkI_0 _).symm) (Nat.lt_succ_self _)

abbrev rmX10_pickExposed : Room := { frames := 2, cells := 0, slots := 0, locals := 44 }
theorem in_X10_pickExposed_X10 : ∀ w ∈ u_ws RX10 TX10 4, w ∈ wsX10_pickExposed := fun w hw => List.mem_cons_of_mem _ (List.mem_append_left _ (List.mem_append_right _ (hw)))
theorem f_X10_pickExposed_15 : FlOK RX10 15 wsX10_pickExposed 10 3 := ⟨_, _, _, rfl, by decide, in_X10_pickExposed_X10, List.mem_of_getElem? (i := 1) rfl⟩
theorem f_X10_pickExposed_24 : FlOK RX10 24 wsX10_pickExposed 10 0 := ⟨_, _, _, rfl, by decide, in_X10_pickExposed_X10, List.mem_of_getElem? (i := 2) rfl⟩
theorem k_X10_isExposed : CkOK yX10_isExposed wsX10_isExposed rmX10_isExposed 0 0 cX10_isExposed 4 (some .boolean) 1 := ⟨⟨_, rfl⟩, rfl, rfl, by decide +kernel⟩
set_option maxHeartbeats 600000 in
set_option maxRecDepth 100000 in
/-- picks the exposed cubes of the kinds -/
theorem ct_X10_pickExposed (T : Nat → ClassId) (h10 : Nat) (c0 : Nat) (h2 : Nat) (pk0 : Nat) (np : Int) (m0 : Nat) (q0 : Nat) (n : Int) (V : Int → Bool) (P : Int → Int) (B : Int → Int) (K : Int) (hB : BOK B) (hK : 0 ≤ K ∧ K ≤ 2147483647) : CtV T yX10_pickExposed wsX10_pickExposed rmX10_pickExposed 0 0 [.ref h10, .int (iI K)] [(h10, .inr (10, [.ref c0, .ref h2, .ref pk0, .int (iI np)])), (h2, .inr (2, [.ref m0, .ref q0, .int (iI n)])), (m0, .inl (T 0, 2880, .inl (fun j : Nat => iI ((fun c9 => bI (V c9)) j)))), (pk0, .inl (T 0, 2880, .inl (fun j : Nat => iI (P j)))), (c0, .inl (T 0, 2880, .inl (fun j : Nat => iI (B j))))] (fun u => u = [(h10, .inr (10, [.ref c0, .ref h2, .ref pk0, .int (iI ((pkI (fun c => hk K (B c) && expoP V c) 2880).length : Int))])), (h2, .inr (2, [.ref m0, .ref q0, .int (iI n)])), (m0, .inl (T 0, 2880, .inl (fun j : Nat => iI ((fun c9 => bI (V c9)) j)))), (pk0, .inl (T 0, 2880, .inl (fun j : Nat => iI ((qF P (pkI (fun c => hk K (B c) && expoP V c) 2880)) j)))), (c0, .inl (T 0, 2880, .inl (fun j : Nat => iI (B j))))]) := by
  refine ctV_of (cc := cX10_pickExposed) (maxL := 3) (ret := none) (by decide +kernel) rfl rfl (Nat.le_of_ble_eq_true rfl) (fun X h hinit hr => ?_)
  refine j_eq (lv' := [(0, .ref h10), (1, .int (iI K))]) rfl rfl rfl rfl rfl rfl ?_
  refine j_aload_n h dX10_pickExposed_0 0 rfl rfl ?_
  refine j_iconst h dX10_pickExposed_1 ?_
  refine j_put (ws' := [(h10, .inr (10, [.ref c0, .ref h2, .ref pk0, .int (iI 0)])), (h2, .inr (2, [.ref m0, .ref q0, .int (iI n)])), (m0, .inl (T 0, 2880, .inl (fun j : Nat => iI ((fun c9 => bI (V c9)) j)))), (pk0, .inl (T 0, 2880, .inl (fun j : Nat => iI (P j)))), (c0, .inl (T 0, 2880, .inl (fun j : Nat => iI (B j))))]) h dX10_pickExposed_2 f_X10_pickExposed_15 p_X10_3 0 rfl rfl rfl (Nat.le_of_ble_eq_true rfl) rfl ?_
  refine j_iconst h dX10_pickExposed_5 ?_
  refine j_istore_n (lv' := [(0, .ref h10), (1, .int (iI K)), (2, .int (iI 0))]) h dX10_pickExposed_6 [1, 2, 0] rfl (by decide) rfl ?_
  have lp7 : ∀ (n7 : Nat) (k : Int) (l : List Int) (hk9 : 0 ≤ k ∧ k ≤ 2880) (hl : l = pkI (fun c => hk K (B c) && expoP V c) k), ((2880 - k).toNat) < n7 → J X 0 0 7 [(0, .ref h10), (1, .int (iI K)), (2, .int (iI k))] [] [(h10, .inr (10, [.ref c0, .ref h2, .ref pk0, .int (iI (l.length : Int))])), (h2, .inr (2, [.ref m0, .ref q0, .int (iI n)])), (m0, .inl (T 0, 2880, .inl (fun j : Nat => iI ((fun c9 => bI (V c9)) j)))), (pk0, .inl (T 0, 2880, .inl (fun j : Nat => iI ((qF P l) j)))), (c0, .inl (T 0, 2880, .inl (fun j : Nat => iI (B j))))] := by
    intro n7
    induction n7 with
    | zero => exact fun k l hk9 hl hn7 => absurd hn7 (Nat.not_lt_zero _)
    | succ n7 ih7 =>
      intro k l hk9 hl hn7
      have hl9 := pkI_len (P := (fun c => hk K (B c) && expoP V c)) (k := k) (by omega)
      refine j_iload_n h dX10_pickExposed_7 2 rfl rfl ?_
      refine j_sipush h dX10_pickExposed_8 (by decide) ?_
      refine j_icmp_ge h 46 dX10_pickExposed_11 (by decide) (by omega) (by omega) (fun c1 => ?_) (fun c1 => ?_)
      · skip
        exact hr _ _ _ dX10_pickExposed_46 (show ([(h10, .inr (10, [.ref c0, .ref h2, .ref pk0, .int (iI (l.length : Int))])), (h2, .inr (2, [.ref m0, .ref q0, .int (iI n)])), (m0, .inl (T 0, 2880, .inl (fun j : Nat => iI ((fun c9 => bI (V c9)) j)))), (pk0, .inl (T 0, 2880, .inl (fun j : Nat => iI ((qF P l) j)))), (c0, .inl (T 0, 2880, .inl (fun j : Nat => iI (B j))))] : va_W) = [(h10, .inr (10, [.ref c0, .ref h2, .ref pk0, .int (iI ((pkI (fun c => hk K (B c) && expoP V c) 2880).length : Int))])), (h2, .inr (2, [.ref m0, .ref q0, .int (iI n)])), (m0, .inl (T 0, 2880, .inl (fun j : Nat => iI ((fun c9 => bI (V c9)) j)))), (pk0, .inl (T 0, 2880, .inl (fun j : Nat => iI ((qF P (pkI (fun c => hk K (B c) && expoP V c) 2880)) j)))), (c0, .inl (T 0, 2880, .inl (fun j : Nat => iI (B j))))] by rw [hl, show k = 2880 by omega])
      · skip
        refine j_iload_n h dX10_pickExposed_14 1 rfl rfl ?_
        refine j_aload_n h dX10_pickExposed_15 0 rfl rfl ?_
        refine j_get h dX10_pickExposed_16 f_X10_pickExposed_24 0 rfl rfl ?_
        refine j_iload_n h dX10_pickExposed_19 2 rfl rfl ?_
        refine j_iald (f := B) h k dX10_pickExposed_20 4 rfl (by decide) (by omega) (by omega) ?_
        have e2 := hB k
        refine j_callSNi (As := [.int (iI K), .int (iI (B k))]) (wr := [(h10, .inr (10, [.ref c0, .ref h2, .ref pk0, .int (iI (l.length : Int))])), (h2, .inr (2, [.ref m0, .ref q0, .int (iI n)])), (m0, .inl (T 0, 2880, .inl (fun j : Nat => iI ((fun c9 => bI (V c9)) j)))), (pk0, .inl (T 0, 2880, .inl (fun j : Nat => iI ((qF P l) j)))), (c0, .inl (T 0, 2880, .inl (fun j : Nat => iI (B j))))]) (cells' := 0) (slots' := 0) h dX10_pickExposed_21 (ct_X11_hasKind T K (B k) (by first | assumption | omega) (by first | assumption | omega)) k_X11_hasKind gX10_pickExposed_X11_hasKind_n66 (List.mem_of_getElem? (i := 15) rfl) (List.mem_of_getElem? (i := 4) rfl) (List.mem_of_getElem? (i := 3) rfl) ⟨Nat.le_of_ble_eq_true rfl, Nat.le_of_ble_eq_true rfl⟩ rfl rfl (Nat.le_of_ble_eq_true rfl) ⟨Nat.le_of_ble_eq_true rfl, Nat.le_of_ble_eq_true rfl⟩ rfl rfl [] [0, 1, 2, 3, 4] rfl rfl rfl rfl (by decide) (fun r9 u9 p3 => ?_)
        obtain ⟨rfl, rfl⟩ := p3
        refine j_eq (ws' := [(h10, .inr (10, [.ref c0, .ref h2, .ref pk0, .int (iI (l.length : Int))])), (h2, .inr (2, [.ref m0, .ref q0, .int (iI n)])), (m0, .inl (T 0, 2880, .inl (fun j : Nat => iI ((fun c9 => bI (V c9)) j)))), (pk0, .inl (T 0, 2880, .inl (fun j : Nat => iI ((qF P l) j)))), (c0, .inl (T 0, 2880, .inl (fun j : Nat => iI (B j))))]) rfl rfl rfl rfl rfl rfl ?_
        refine j_ifeqB h 40 dX10_pickExposed_24 (by decide) (fun c4 => ?_) (fun c4 => ?_)
        · skip
          refine j_iinc (lv' := [(0, .ref h10), (1, .int (iI K)), (2, .int (iI (k + 1)))]) h dX10_pickExposed_40 2 [1, 2, 0] rfl (by decide) rfl ?_
          refine j_goto (tgt := 7) h dX10_pickExposed_43 (by decide) ?_
          exact ih7 (k + 1) l (by first | assumption | omega) (by rw [pkI_f (by omega) (by simp_all)]; exact hl) (by omega)
        · skip
          refine j_aload_n h dX10_pickExposed_27 0 rfl rfl ?_
          refine j_iload_n h dX10_pickExposed_28 2 rfl rfl ?_
          refine j_callVi (As := [.int (iI k)]) (wr := [(pk0, .inl (T 0, 2880, .inl (fun j : Nat => iI ((qF P l) j)))), (c0, .inl (T 0, 2880, .inl (fun j : Nat => iI (B j))))]) (cells' := 0) (slots' := 0) h dX10_pickExposed_29 (ct_X10_isExposed T h10 c0 h2 pk0 (l.length : Int) m0 q0 n V k (by first | assumption | omega)) k_X10_isExposed gX10_pickExposed_X10_isExposed rfl rfl 0 rfl ⟨Nat.le_of_ble_eq_true rfl, Nat.le_of_ble_eq_true rfl⟩ rfl rfl (Nat.le_of_ble_eq_true rfl) ⟨Nat.le_of_ble_eq_true rfl, Nat.le_of_ble_eq_true rfl⟩ rfl rfl [0, 1, 2] [3, 4] rfl rfl rfl rfl (by decide) (fun r9 u9 p5 => ?_)
          obtain ⟨rfl, rfl⟩ := p5
          refine j_eq (ws' := [(pk0, .inl (T 0, 2880, .inl (fun j : Nat => iI ((qF P l) j)))), (c0, .inl (T 0, 2880, .inl (fun j : Nat => iI (B j)))), (h10, .inr (10, [.ref c0, .ref h2, .ref pk0, .int (iI (l.length : Int))])), (h2, .inr (2, [.ref m0, .ref q0, .int (iI n)])), (m0, .inl (T 0, 2880, .inl (fun j : Nat => iI ((fun c9 => bI (V c9)) j))))]) rfl rfl rfl rfl rfl rfl ?_
          refine j_ifeqB h 40 dX10_pickExposed_32 (by decide) (fun c6 => ?_) (fun c6 => ?_)
          · skip
            refine j_iinc (lv' := [(0, .ref h10), (1, .int (iI K)), (2, .int (iI (k + 1)))]) h dX10_pickExposed_40 2 [1, 2, 0] rfl (by decide) rfl ?_
            refine j_goto (tgt := 7) h dX10_pickExposed_43 (by decide) ?_
            refine j_ws (ws' := [(h10, .inr (10, [.ref c0, .ref h2, .ref pk0, .int (iI (l.length : Int))])), (h2, .inr (2, [.ref m0, .ref q0, .int (iI n)])), (m0, .inl (T 0, 2880, .inl (fun j : Nat => iI ((fun c9 => bI (V c9)) j)))), (pk0, .inl (T 0, 2880, .inl (fun j : Nat => iI ((qF P l) j)))), (c0, .inl (T 0, 2880, .inl (fun j : Nat => iI (B j))))]) [2, 3, 4, 0, 1] rfl rfl ?_
            exact ih7 (k + 1) l (by first | assumption | omega) (by rw [pkI_f (by omega) (by simp_all)]; exact hl) (by omega)
          · skip
            refine j_aload_n h dX10_pickExposed_35 0 rfl rfl ?_
            refine j_iload_n h dX10_pickExposed_36 2 rfl rfl ?_
            refine j_callVv (As := [.int (iI k)]) (wr := [(c0, .inl (T 0, 2880, .inl (fun j : Nat => iI (B j)))), (h2, .inr (2, [.ref m0, .ref q0, .int (iI n)])), (m0, .inl (T 0, 2880, .inl (fun j : Nat => iI ((fun c9 => bI (V c9)) j))))]) (cells' := 0) (slots' := 0) h dX10_pickExposed_37 (ct_X10_pick T h10 c0 h2 pk0 P l k (by rw [hl]; omega)) k_X10_pick gX10_pickExposed_X10_pick rfl rfl 2 rfl ⟨Nat.le_of_ble_eq_true rfl, Nat.le_of_ble_eq_true rfl⟩ rfl rfl (Nat.le_of_ble_eq_true rfl) ⟨Nat.le_of_ble_eq_true rfl, Nat.le_of_ble_eq_true rfl⟩ rfl rfl [2, 0] [1, 3, 4] rfl rfl rfl rfl (by decide) (fun u9 p7 => ?_)
            obtain rfl := p7
            refine j_eq (ws' := [(c0, .inl (T 0, 2880, .inl (fun j : Nat => iI (B j)))), (h2, .inr (2, [.ref m0, .ref q0, .int (iI n)])), (m0, .inl (T 0, 2880, .inl (fun j : Nat => iI ((fun c9 => bI (V c9)) j)))), (h10, .inr (10, [.ref c0, .ref h2, .ref pk0, .int (iI ((l ++ [k]).length : Int))])), (pk0, .inl (T 0, 2880, .inl (fun j : Nat => iI ((qF P (l ++ [k])) j))))]) rfl rfl rfl rfl rfl rfl ?_
            refine j_iinc (lv' := [(0, .ref h10), (1, .int (iI K)), (2, .int (iI (k + 1)))]) h dX10_pickExposed_40 2 [1, 2, 0] rfl (by decide) rfl ?_
            refine j_goto (tgt := 7) h dX10_pickExposed_43 (by decide) ?_
            refine j_ws (ws' := [(h10, .inr (10, [.ref c0, .ref h2, .ref pk0, .int (iI ((l ++ [k]).length : Int))])), (h2, .inr (2, [.ref m0, .ref q0, .int (iI n)])), (m0, .inl (T 0, 2880, .inl (fun j : Nat => iI ((fun c9 => bI (V c9)) j)))), (pk0, .inl (T 0, 2880, .inl (fun j : Nat => iI ((qF P (l ++ [k])) j)))), (c0, .inl (T 0, 2880, .inl (fun j : Nat => iI (B j))))]) [3, 1, 2, 4, 0] rfl rfl ?_
            exact ih7 (k + 1) (l ++ [k]) (by first | assumption | omega) (by rw [pkI_t (by omega) (by simp_all), ← hl]) (by omega)
  refine j_eq (ws' := [(h10, .inr (10, [.ref c0, .ref h2, .ref pk0, .int (iI (([] : List Int).length : Int))])), (h2, .inr (2, [.ref m0, .ref q0, .int (iI n)])), (m0, .inl (T 0, 2880, .inl (fun j : Nat => iI ((fun c9 => bI (V c9)) j)))), (pk0, .inl (T 0, 2880, .inl (fun j : Nat => iI ((qF P ([] : List Int)) j)))), (c0, .inl (T 0, 2880, .inl (fun j : Nat => iI (B j))))]) rfl rfl rfl rfl rfl (by rw [qF_0]; rfl) ?_
  exact lp7 _ 0 ([] : List Int) (by first | assumption | omega) (by exact (pkI_0 _).symm) (Nat.lt_succ_self _)

abbrev rmX10_countMarked : Room := { frames := 1, cells := 0, slots := 0, locals := 21 }
theorem in_X10_countMarked_X10 : ∀ w ∈ u_ws RX10 TX10 4, w ∈ wsX10_countMarked := fun w hw => List.mem_cons_of_mem _ (List.mem_append_left _ (List.mem_append_right _ (hw)))
theorem f_X10_countMarked_25 : FlOK RX10 25 wsX10_countMarked 10 1 := ⟨_, _, _, rfl, by decide, in_X10_countMarked_X10, List.mem_of_getElem? (i := 1) rfl⟩
theorem f_X10_countMarked_24 : FlOK RX10 24 wsX10_countMarked 10 0 := ⟨_, _, _, rfl, by decide, in_X10_countMarked_X10, List.mem_of_getElem? (i := 2) rfl⟩
set_option maxHeartbeats 600000 in
set_option maxRecDepth 100000 in
/-- how many cubes are marked so, and of the kinds -/
theorem ct_X10_countMarked (T : Nat → ClassId) (h10 : Nat) (c0 : Nat) (h2 : Nat) (pk0 : Nat) (np : Int) (m0 : Nat) (q0 : Nat) (n : Int) (V : Int → Bool) (B : Int → Int) (b : Bool) (K : Int) (hB : BOK B) (hK : 0 ≤ K ∧ K ≤ 2147483647) : CtI T yX10_countMarked wsX10_countMarked rmX10_countMarked 0 0 [.ref h10, .int (iI (bI b)), .int (iI K)] [(h10, .inr (10, [.ref c0, .ref h2, .ref pk0, .int (iI np)])), (h2, .inr (2, [.ref m0, .ref q0, .int (iI n)])), (m0, .inl (T 0, 2880, .inl (fun j : Nat => iI ((fun c9 => bI (V c9)) j)))), (c0, .inl (T 0, 2880, .inl (fun j : Nat => iI (B j))))] (fun r8 u => r8 = (iI (cntI (fun c => decide (V c = b) && hk K (B c)) 2880)) ∧ u = [(h10, .inr (10, [.ref c0, .ref h2, .ref pk0, .int (iI np)])), (h2, .inr (2, [.ref m0, .ref q0, .int (iI n)])), (m0, .inl (T 0, 2880, .inl (fun j : Nat => iI ((fun c9 => bI (V c9)) j)))), (c0, .inl (T 0, 2880, .inl (fun j : Nat => iI (B j))))]) := by
  refine ctI_of (cc := cX10_countMarked) (maxL := 5) (ret := (some .int)) (by decide +kernel) rfl rfl (fun r u hp => by obtain ⟨rfl, -⟩ := hp; rfl) (Nat.le_of_ble_eq_true rfl) (fun X h hinit hr => ?_)
  refine j_eq (lv' := [(0, .ref h10), (1, .int (iI (bI b))), (2, .int (iI K))]) rfl rfl rfl rfl rfl rfl ?_
  refine j_iconst h dX10_countMarked_0 ?_
  refine j_istore_n (lv' := [(0, .ref h10), (1, .int (iI (bI b))), (2, .int (iI K)), (3, .int (iI 0))]) h dX10_countMarked_1 [1, 2, 3, 0] rfl (by decide) rfl ?_
  refine j_iconst h dX10_countMarked_2 ?_
  refine j_istore (lv' := [(0, .ref h10), (1, .int (iI (bI b))), (2, .int (iI K)), (3, .int (iI 0)), (4, .int (iI 0))]) h dX10_countMarked_3 [1, 2, 3, 4, 0] (by decide) rfl ?_
  have lp5 : ∀ (n5 : Nat) (k : Int) (m : Int) (hk0 : 0 ≤ k ∧ k ≤ 2880) (hn : m = cntI (fun c => decide (V c = b) && hk K (B c)) k), ((2880 - k).toNat) < n5 → J X 0 0 5 [(0, .ref h10), (1, .int (iI (bI b))), (2, .int (iI K)), (3, .int (iI m)), (4, .int (iI k))] [] [(h10, .inr (10, [.ref c0, .ref h2, .ref pk0, .int (iI np)])), (h2, .inr (2, [.ref m0, .ref q0, .int (iI n)])), (m0, .inl (T 0, 2880, .inl (fun j : Nat => iI ((fun c9 => bI (V c9)) j)))), (c0, .inl (T 0, 2880, .inl (fun j : Nat => iI (B j))))] := by
    intro n5
    induction n5 with
    | zero => exact fun k m hk0 hn hn5 => absurd hn5 (Nat.not_lt_zero _)
    | succ n5 ih5 =>
      intro k m hk0 hn hn5
      have hn9 := cntI_rng (fun c => decide (V c = b) && hk K (B c)) (k := k) (by omega)
      refine j_iload h dX10_countMarked_5 4 rfl ?_
      refine j_sipush h dX10_countMarked_7 (by decide) ?_
      refine j_icmp_ge h 49 dX10_countMarked_10 (by decide) (by omega) (by omega) (fun c1 => ?_) (fun c1 => ?_)
      · skip
        refine j_iload_n h dX10_countMarked_49 3 rfl rfl ?_
        exact hr _ _ _ _ dX10_countMarked_50 ⟨(congrArg iI (show (m : Int) = cntI (fun c => decide (V c = b) && hk K (B c)) 2880 by rw [hn]; congr 1; omega)), rfl⟩
      · skip
        refine j_aload_n h dX10_countMarked_13 0 rfl rfl ?_
        refine j_get h dX10_countMarked_14 f_X10_countMarked_25 0 rfl rfl ?_
        refine j_iload h dX10_countMarked_17 4 rfl ?_
        refine j_callVi (As := [.int (iI k)]) (wr := [(h10, .inr (10, [.ref c0, .ref h2, .ref pk0, .int (iI np)])), (c0, .inl (T 0, 2880, .inl (fun j : Nat => iI (B j))))]) (cells' := 0) (slots' := 0) h dX10_countMarked_19 (ct_X2_isMarked T h2 m0 q0 n V k (by first | assumption | omega)) k_X2_isMarked gX10_countMarked_X2_isMarked rfl rfl 1 rfl ⟨Nat.le_of_ble_eq_true rfl, Nat.le_of_ble_eq_true rfl⟩ rfl rfl (Nat.le_of_ble_eq_true rfl) ⟨Nat.le_of_ble_eq_true rfl, Nat.le_of_ble_eq_true rfl⟩ rfl rfl [1, 2] [0, 3] rfl rfl rfl rfl (by decide) (fun r9 u9 p2 => ?_)
        obtain ⟨rfl, rfl⟩ := p2
        refine j_eq (ws' := [(h10, .inr (10, [.ref c0, .ref h2, .ref pk0, .int (iI np)])), (c0, .inl (T 0, 2880, .inl (fun j : Nat => iI (B j)))), (h2, .inr (2, [.ref m0, .ref q0, .int (iI n)])), (m0, .inl (T 0, 2880, .inl (fun j : Nat => iI ((fun c9 => bI (V c9)) j))))]) rfl rfl rfl rfl rfl rfl ?_
        refine j_iload_n h dX10_countMarked_22 1 rfl rfl ?_
        refine j_icmp_ne h 43 dX10_countMarked_23 (by decide) (by first | exact ⟨by have := bI_rng (V k); omega, by have := bI_rng (V k); omega⟩ | exact ⟨by have := bI_rng b; omega, by have := bI_rng b; omega⟩) (by first | exact ⟨by have := bI_rng (V k); omega, by have := bI_rng (V k); omega⟩ | exact ⟨by have := bI_rng b; omega, by have := bI_rng b; omega⟩) (fun c3 => ?_) (fun c3 => ?_)
        · skip
          refine j_iinc (lv' := [(0, .ref h10), (1, .int (iI (bI b))), (2, .int (iI K)), (3, .int (iI m)), (4, .int (iI (k + 1)))]) h dX10_countMarked_43 4 [1, 2, 3, 4, 0] rfl (by decide) rfl ?_
          refine j_goto (tgt := 5) h dX10_countMarked_46 (by decide) ?_
          refine j_ws (ws' := [(h10, .inr (10, [.ref c0, .ref h2, .ref pk0, .int (iI np)])), (h2, .inr (2, [.ref m0, .ref q0, .int (iI n)])), (m0, .inl (T 0, 2880, .inl (fun j : Nat => iI ((fun c9 => bI (V c9)) j)))), (c0, .inl (T 0, 2880, .inl (fun j : Nat => iI (B j))))]) [0, 2, 3, 1] rfl rfl ?_
          exact ih5 (k + 1) m (by first | assumption | omega) (by rw [cntI_f (by omega) (by simp [bI_ne c3])]; exact hn) (by omega)
        · skip
          refine j_iload_n h dX10_countMarked_26 2 rfl rfl ?_
          refine j_aload_n h dX10_countMarked_27 0 rfl rfl ?_
          refine j_get h dX10_countMarked_28 f_X10_countMarked_24 0 rfl rfl ?_
          refine j_iload h dX10_countMarked_31 4 rfl ?_
          refine j_iald (f := B) h k dX10_countMarked_33 1 rfl (by decide) (by omega) (by omega) ?_
          have e4 := hB k
          refine j_callSNi (As := [.int (iI K), .int (iI (B k))]) (wr := [(h10, .inr (10, [.ref c0, .ref h2, .ref pk0, .int (iI np)])), (c0, .inl (T 0, 2880, .inl (fun j : Nat => iI (B j)))), (h2, .inr (2, [.ref m0, .ref q0, .int (iI n)])), (m0, .inl (T 0, 2880, .inl (fun j : Nat => iI ((fun c9 => bI (V c9)) j))))]) (cells' := 0) (slots' := 0) h dX10_countMarked_34 (ct_X11_hasKind T K (B k) (by first | assumption | omega) (by first | assumption | omega)) k_X11_hasKind gX10_countMarked_X11_hasKind_n66 (List.mem_of_getElem? (i := 15) rfl) (List.mem_of_getElem? (i := 10) rfl) (List.mem_of_getElem? (i := 9) rfl) ⟨Nat.le_of_ble_eq_true rfl, Nat.le_of_ble_eq_true rfl⟩ rfl rfl (Nat.le_of_ble_eq_true rfl) ⟨Nat.le_of_ble_eq_true rfl, Nat.le_of_ble_eq_true rfl⟩ rfl rfl [] [0, 1, 2, 3] rfl rfl rfl rfl (by decide) (fun r9 u9 p5 => ?_)
          obtain ⟨rfl, rfl⟩ := p5
          refine j_eq (ws' := [(h10, .inr (10, [.ref c0, .ref h2, .ref pk0, .int (iI np)])), (c0, .inl (T 0, 2880, .inl (fun j : Nat => iI (B j)))), (h2, .inr (2, [.ref m0, .ref q0, .int (iI n)])), (m0, .inl (T 0, 2880, .inl (fun j : Nat => iI ((fun c9 => bI (V c9)) j))))]) rfl rfl rfl rfl rfl rfl ?_
          refine j_ifeqB h 43 dX10_countMarked_37 (by decide) (fun c6 => ?_) (fun c6 => ?_)
          · skip
            refine j_iinc (lv' := [(0, .ref h10), (1, .int (iI (bI b))), (2, .int (iI K)), (3, .int (iI m)), (4, .int (iI (k + 1)))]) h dX10_countMarked_43 4 [1, 2, 3, 4, 0] rfl (by decide) rfl ?_
            refine j_goto (tgt := 5) h dX10_countMarked_46 (by decide) ?_
            refine j_ws (ws' := [(h10, .inr (10, [.ref c0, .ref h2, .ref pk0, .int (iI np)])), (h2, .inr (2, [.ref m0, .ref q0, .int (iI n)])), (m0, .inl (T 0, 2880, .inl (fun j : Nat => iI ((fun c9 => bI (V c9)) j)))), (c0, .inl (T 0, 2880, .inl (fun j : Nat => iI (B j))))]) [0, 2, 3, 1] rfl rfl ?_
            exact ih5 (k + 1) m (by first | assumption | omega) (by rw [cntI_f (by omega) (by simp_all)]; exact hn) (by omega)
          · skip
            refine j_iinc (lv' := [(0, .ref h10), (1, .int (iI (bI b))), (2, .int (iI K)), (3, .int (iI (m + 1))), (4, .int (iI k))]) h dX10_countMarked_40 3 [1, 2, 3, 0, 4] rfl (by decide) rfl ?_
            refine j_iinc (lv' := [(0, .ref h10), (1, .int (iI (bI b))), (2, .int (iI K)), (3, .int (iI (m + 1))), (4, .int (iI (k + 1)))]) h dX10_countMarked_43 4 [1, 2, 3, 4, 0] rfl (by decide) rfl ?_
            refine j_goto (tgt := 5) h dX10_countMarked_46 (by decide) ?_
            refine j_ws (ws' := [(h10, .inr (10, [.ref c0, .ref h2, .ref pk0, .int (iI np)])), (h2, .inr (2, [.ref m0, .ref q0, .int (iI n)])), (m0, .inl (T 0, 2880, .inl (fun j : Nat => iI ((fun c9 => bI (V c9)) j)))), (c0, .inl (T 0, 2880, .inl (fun j : Nat => iI (B j))))]) [0, 2, 3, 1] rfl rfl ?_
            exact ih5 (k + 1) (m + 1) (by first | assumption | omega) (by rw [cntI_t (by omega) (by simp [bI_eq c3, c6])]; omega) (by omega)
  exact lp5 _ 0 0 (by first | assumption | omega) (by exact (cntI_0 _).symm) (Nat.lt_succ_self _)

abbrev rmX10_countOpen : Room := { frames := 3, cells := 0, slots := 0, locals := 69 }
theorem in_X10_countOpen_X10 : ∀ w ∈ u_ws RX10 TX10 4, w ∈ wsX10_countOpen := fun w hw => List.mem_cons_of_mem _ (List.mem_append_left _ (List.mem_append_right _ (hw)))
theorem f_X10_countOpen_25 : FlOK RX10 25 wsX10_countOpen 10 1 := ⟨_, _, _, rfl, by decide, in_X10_countOpen_X10, List.mem_of_getElem? (i := 1) rfl⟩
theorem f_X10_countOpen_24 : FlOK RX10 24 wsX10_countOpen 10 0 := ⟨_, _, _, rfl, by decide, in_X10_countOpen_X10, List.mem_of_getElem? (i := 2) rfl⟩
theorem k_X2_markOpen : CkOK yX2_markOpen wsX2_markOpen rmX2_markOpen 0 0 cX2_markOpen 2 none 1 := ⟨⟨_, rfl⟩, rfl, rfl, by decide +kernel⟩
theorem k_X10_countMarked : CkOK yX10_countMarked wsX10_countMarked rmX10_countMarked 0 0 cX10_countMarked 5 (some .int) 2 := ⟨⟨_, rfl⟩, rfl, rfl, by decide +kernel⟩
set_option maxHeartbeats 600000 in
set_option maxRecDepth 100000 in
/-- how many cubes are open -/
theorem ct_X10_countOpen (T : Nat → ClassId) (h10 : Nat) (c0 : Nat) (h2 : Nat) (pk0 : Nat) (np : Int) (m0 : Nat) (q0 : Nat) (n : Int) (M : Int → Int) (Q : Int → Int) (B : Int → Int) (hB : BOK B) : CtI T yX10_countOpen wsX10_countOpen rmX10_countOpen 0 0 [.ref h10] [(h10, .inr (10, [.ref c0, .ref h2, .ref pk0, .int (iI np)])), (h2, .inr (2, [.ref m0, .ref q0, .int (iI n)])), (m0, .inl (T 0, 2880, .inl (fun j : Nat => iI (M j)))), (q0, .inl (T 0, 2880, .inl (fun j : Nat => iI (Q j)))), (c0, .inl (T 0, 2880, .inl (fun j : Nat => iI (B j))))] (fun r8 u => ∃ n1 : Int, ∃ M1 : Int → Int, ∃ Q1 : Int → Int, r8 = (iI (openN B)) ∧ u = [(h10, .inr (10, [.ref c0, .ref h2, .ref pk0, .int (iI np)])), (h2, .inr (2, [.ref m0, .ref q0, .int (iI n1)])), (m0, .inl (T 0, 2880, .inl (fun j : Nat => iI (M1 j)))), (q0, .inl (T 0, 2880, .inl (fun j : Nat => iI (Q1 j)))), (c0, .inl (T 0, 2880, .inl (fun j : Nat => iI (B j))))]) := by
  refine ctI_of (cc := cX10_countOpen) (maxL := 1) (ret := (some .int)) (by decide +kernel) rfl rfl (fun r u hp => by obtain ⟨_, _, _, rfl, -⟩ := hp; rfl) (Nat.le_of_ble_eq_true rfl) (fun X h hinit hr => ?_)
  refine j_eq (lv' := [(0, .ref h10)]) rfl rfl rfl rfl rfl rfl ?_
  refine j_aload_n h dX10_countOpen_0 0 rfl rfl ?_
  refine j_get h dX10_countOpen_1 f_X10_countOpen_25 0 rfl rfl ?_
  refine j_aload_n h dX10_countOpen_4 0 rfl rfl ?_
  refine j_get h dX10_countOpen_5 f_X10_countOpen_24 0 rfl rfl ?_
  refine j_callVv (As := [.ref c0]) (wr := [(h10, .inr (10, [.ref c0, .ref h2, .ref pk0, .int (iI np)]))]) (cells' := 0) (slots' := 0) h dX10_countOpen_8 (ct_X2_markOpen T h2 m0 q0 c0 M Q n B (by first | assumption | omega)) k_X2_markOpen gX10_countOpen_X2_markOpen rfl rfl 1 rfl ⟨Nat.le_of_ble_eq_true rfl, Nat.le_of_ble_eq_true rfl⟩ rfl rfl (Nat.le_of_ble_eq_true rfl) ⟨Nat.le_of_ble_eq_true rfl, Nat.le_of_ble_eq_true rfl⟩ rfl rfl [1, 2, 3, 4] [0] rfl rfl rfl rfl (by decide) (fun u9 p1 => ?_)
  obtain rfl := p1
  refine j_eq (ws' := [(h10, .inr (10, [.ref c0, .ref h2, .ref pk0, .int (iI np)])), (h2, .inr (2, [.ref m0, .ref q0, .int (iI ((opnS B).2.length : Int))])), (m0, .inl (T 0, 2880, .inl (fun j : Nat => iI ((fun c9 => bI ((opnS B).1 c9)) j)))), (q0, .inl (T 0, 2880, .inl (fun j : Nat => iI ((qF Q (opnS B).2) j)))), (c0, .inl (T 0, 2880, .inl (fun j : Nat => iI (B j))))]) rfl rfl rfl rfl rfl rfl ?_
  refine j_aload_n h dX10_countOpen_11 0 rfl rfl ?_
  refine j_iconst h dX10_countOpen_12 ?_
  refine j_iconst h dX10_countOpen_13 ?_
  refine j_callVi (As := [.int (iI (bI true)), .int (iI 1)]) (wr := [(q0, .inl (T 0, 2880, .inl (fun j : Nat => iI ((qF Q (opnS B).2) j))))]) (cells' := 0) (slots' := 0) h dX10_countOpen_14 (ct_X10_countMarked T h10 c0 h2 pk0 np m0 q0 ((opnS B).2.length : Int) ((opnS B).1) B true 1 (by first | assumption | omega) (by first | assumption | omega)) k_X10_countMarked gX10_countOpen_X10_countMarked rfl rfl 0 rfl ⟨Nat.le_of_ble_eq_true rfl, Nat.le_of_ble_eq_true rfl⟩ rfl rfl (Nat.le_of_ble_eq_true rfl) ⟨Nat.le_of_ble_eq_true rfl, Nat.le_of_ble_eq_true rfl⟩ rfl rfl [0, 1, 2, 4] [3] rfl rfl rfl rfl (by decide) (fun r9 u9 p2 => ?_)
  obtain ⟨rfl, rfl⟩ := p2
  have hn9 := cntI_rng (fun c => decide (((opnS B).1) c = true) && hk 1 (B c)) (k := 2880) (by omega)
  refine j_eq (ws' := [(q0, .inl (T 0, 2880, .inl (fun j : Nat => iI ((qF Q (opnS B).2) j)))), (h10, .inr (10, [.ref c0, .ref h2, .ref pk0, .int (iI np)])), (h2, .inr (2, [.ref m0, .ref q0, .int (iI ((opnS B).2.length : Int))])), (m0, .inl (T 0, 2880, .inl (fun j : Nat => iI ((fun c9 => bI (((opnS B).1) c9)) j)))), (c0, .inl (T 0, 2880, .inl (fun j : Nat => iI (B j))))]) rfl rfl rfl rfl rfl rfl ?_
  refine j_ws (ws' := [(h10, .inr (10, [.ref c0, .ref h2, .ref pk0, .int (iI np)])), (h2, .inr (2, [.ref m0, .ref q0, .int (iI ((opnS B).2.length : Int))])), (m0, .inl (T 0, 2880, .inl (fun j : Nat => iI ((fun c9 => bI (((opnS B).1) c9)) j)))), (q0, .inl (T 0, 2880, .inl (fun j : Nat => iI ((qF Q (opnS B).2) j)))), (c0, .inl (T 0, 2880, .inl (fun j : Nat => iI (B j))))]) [1, 2, 3, 0, 4] rfl rfl ?_
  exact hr _ _ _ _ dX10_countOpen_17 ⟨((opnS B).2.length : Int), (fun c9 => bI (((opnS B).1) c9)), (qF Q (opnS B).2), (congrArg iI (show (cntI (fun c => decide (((opnS B).1) c = true) && hk 1 (B c)) 2880 : Int) = openN B by exact openN_eq B)), rfl⟩

abbrev rmX10_countFloating : Room := { frames := 3, cells := 0, slots := 0, locals := 69 }
theorem in_X10_countFloating_X10 : ∀ w ∈ u_ws RX10 TX10 4, w ∈ wsX10_countFloating := fun w hw => List.mem_cons_of_mem _ (List.mem_append_left _ (List.mem_append_right _ (hw)))
theorem f_X10_countFloating_25 : FlOK RX10 25 wsX10_countFloating 10 1 := ⟨_, _, _, rfl, by decide, in_X10_countFloating_X10, List.mem_of_getElem? (i := 1) rfl⟩
theorem f_X10_countFloating_24 : FlOK RX10 24 wsX10_countFloating 10 0 := ⟨_, _, _, rfl, by decide, in_X10_countFloating_X10, List.mem_of_getElem? (i := 2) rfl⟩
theorem k_X2_markStanding : CkOK yX2_markStanding wsX2_markStanding rmX2_markStanding 0 0 cX2_markStanding 2 none 1 := ⟨⟨_, rfl⟩, rfl, rfl, by decide +kernel⟩
set_option maxHeartbeats 600000 in
set_option maxRecDepth 100000 in
/-- how many cubes float -/
theorem ct_X10_countFloating (T : Nat → ClassId) (h10 : Nat) (c0 : Nat) (h2 : Nat) (pk0 : Nat) (np : Int) (m0 : Nat) (q0 : Nat) (n : Int) (M : Int → Int) (Q : Int → Int) (B : Int → Int) (hB : BOK B) : CtI T yX10_countFloating wsX10_countFloating rmX10_countFloating 0 0 [.ref h10] [(h10, .inr (10, [.ref c0, .ref h2, .ref pk0, .int (iI np)])), (h2, .inr (2, [.ref m0, .ref q0, .int (iI n)])), (m0, .inl (T 0, 2880, .inl (fun j : Nat => iI (M j)))), (q0, .inl (T 0, 2880, .inl (fun j : Nat => iI (Q j)))), (c0, .inl (T 0, 2880, .inl (fun j : Nat => iI (B j))))] (fun r8 u => ∃ n1 : Int, ∃ M1 : Int → Int, ∃ Q1 : Int → Int, r8 = (iI (floatN B)) ∧ u = [(h10, .inr (10, [.ref c0, .ref h2, .ref pk0, .int (iI np)])), (h2, .inr (2, [.ref m0, .ref q0, .int (iI n1)])), (m0, .inl (T 0, 2880, .inl (fun j : Nat => iI (M1 j)))), (q0, .inl (T 0, 2880, .inl (fun j : Nat => iI (Q1 j)))), (c0, .inl (T 0, 2880, .inl (fun j : Nat => iI (B j))))]) := by
  refine ctI_of (cc := cX10_countFloating) (maxL := 1) (ret := (some .int)) (by decide +kernel) rfl rfl (fun r u hp => by obtain ⟨_, _, _, rfl, -⟩ := hp; rfl) (Nat.le_of_ble_eq_true rfl) (fun X h hinit hr => ?_)
  refine j_eq (lv' := [(0, .ref h10)]) rfl rfl rfl rfl rfl rfl ?_
  refine j_aload_n h dX10_countFloating_0 0 rfl rfl ?_
  refine j_get h dX10_countFloating_1 f_X10_countFloating_25 0 rfl rfl ?_
  refine j_aload_n h dX10_countFloating_4 0 rfl rfl ?_
  refine j_get h dX10_countFloating_5 f_X10_countFloating_24 0 rfl rfl ?_
  refine j_callVv (As := [.ref c0]) (wr := [(h10, .inr (10, [.ref c0, .ref h2, .ref pk0, .int (iI np)]))]) (cells' := 0) (slots' := 0) h dX10_countFloating_8 (ct_X2_markStanding T h2 m0 q0 c0 M Q n B (by first | assumption | omega)) k_X2_markStanding gX10_countFloating_X2_markStanding rfl rfl 1 rfl ⟨Nat.le_of_ble_eq_true rfl, Nat.le_of_ble_eq_true rfl⟩ rfl rfl (Nat.le_of_ble_eq_true rfl) ⟨Nat.le_of_ble_eq_true rfl, Nat.le_of_ble_eq_true rfl⟩ rfl rfl [1, 2, 3, 4] [0] rfl rfl rfl rfl (by decide) (fun u9 p1 => ?_)
  obtain rfl := p1
  refine j_eq (ws' := [(h10, .inr (10, [.ref c0, .ref h2, .ref pk0, .int (iI np)])), (h2, .inr (2, [.ref m0, .ref q0, .int (iI ((stdS B).2.length : Int))])), (m0, .inl (T 0, 2880, .inl (fun j : Nat => iI ((fun c9 => bI ((stdS B).1 c9)) j)))), (q0, .inl (T 0, 2880, .inl (fun j : Nat => iI ((qF Q (stdS B).2) j)))), (c0, .inl (T 0, 2880, .inl (fun j : Nat => iI (B j))))]) rfl rfl rfl rfl rfl rfl ?_
  refine j_aload_n h dX10_countFloating_11 0 rfl rfl ?_
  refine j_iconst h dX10_countFloating_12 ?_
  refine j_sipush h dX10_countFloating_13 (by decide) ?_
  refine j_callVi (As := [.int (iI (bI false)), .int (iI 254)]) (wr := [(q0, .inl (T 0, 2880, .inl (fun j : Nat => iI ((qF Q (stdS B).2) j))))]) (cells' := 0) (slots' := 0) h dX10_countFloating_16 (ct_X10_countMarked T h10 c0 h2 pk0 np m0 q0 ((stdS B).2.length : Int) ((stdS B).1) B false 254 (by first | assumption | omega) (by first | assumption | omega)) k_X10_countMarked gX10_countFloating_X10_countMarked rfl rfl 0 rfl ⟨Nat.le_of_ble_eq_true rfl, Nat.le_of_ble_eq_true rfl⟩ rfl rfl (Nat.le_of_ble_eq_true rfl) ⟨Nat.le_of_ble_eq_true rfl, Nat.le_of_ble_eq_true rfl⟩ rfl rfl [0, 1, 2, 4] [3] rfl rfl rfl rfl (by decide) (fun r9 u9 p2 => ?_)
  obtain ⟨rfl, rfl⟩ := p2
  have hn9 := cntI_rng (fun c => decide (((stdS B).1) c = false) && hk 254 (B c)) (k := 2880) (by omega)
  refine j_eq (ws' := [(q0, .inl (T 0, 2880, .inl (fun j : Nat => iI ((qF Q (stdS B).2) j)))), (h10, .inr (10, [.ref c0, .ref h2, .ref pk0, .int (iI np)])), (h2, .inr (2, [.ref m0, .ref q0, .int (iI ((stdS B).2.length : Int))])), (m0, .inl (T 0, 2880, .inl (fun j : Nat => iI ((fun c9 => bI (((stdS B).1) c9)) j)))), (c0, .inl (T 0, 2880, .inl (fun j : Nat => iI (B j))))]) rfl rfl rfl rfl rfl rfl ?_
  refine j_ws (ws' := [(h10, .inr (10, [.ref c0, .ref h2, .ref pk0, .int (iI np)])), (h2, .inr (2, [.ref m0, .ref q0, .int (iI ((stdS B).2.length : Int))])), (m0, .inl (T 0, 2880, .inl (fun j : Nat => iI ((fun c9 => bI (((stdS B).1) c9)) j)))), (q0, .inl (T 0, 2880, .inl (fun j : Nat => iI ((qF Q (stdS B).2) j)))), (c0, .inl (T 0, 2880, .inl (fun j : Nat => iI (B j))))]) [1, 2, 3, 0, 4] rfl rfl ?_
  exact hr _ _ _ _ dX10_countFloating_19 ⟨((stdS B).2.length : Int), (fun c9 => bI (((stdS B).1) c9)), (qF Q (stdS B).2), (congrArg iI (show (cntI (fun c => decide (((stdS B).1) c = false) && hk 254 (B c)) 2880 : Int) = floatN B by exact floatN_eq B)), rfl⟩

abbrev rmX10_coat : Room := { frames := 3, cells := 0, slots := 0, locals := 69 }
theorem in_X10_coat_X10 : ∀ w ∈ u_ws RX10 TX10 4, w ∈ wsX10_coat := fun w hw => List.mem_cons_of_mem _ (List.mem_append_left _ (List.mem_append_right _ (hw)))
theorem f_X10_coat_25 : FlOK RX10 25 wsX10_coat 10 1 := ⟨_, _, _, rfl, by decide, in_X10_coat_X10, List.mem_of_getElem? (i := 1) rfl⟩
theorem f_X10_coat_24 : FlOK RX10 24 wsX10_coat 10 0 := ⟨_, _, _, rfl, by decide, in_X10_coat_X10, List.mem_of_getElem? (i := 2) rfl⟩
theorem k_X10_pickSurface : CkOK yX10_pickSurface wsX10_pickSurface rmX10_pickSurface 0 0 cX10_pickSurface 2 none 0 := ⟨⟨_, rfl⟩, rfl, rfl, by decide +kernel⟩
theorem k_X10_putPicked : CkOK yX10_putPicked wsX10_putPicked rmX10_putPicked 0 0 cX10_putPicked 3 none 1 := ⟨⟨_, rfl⟩, rfl, rfl, by decide +kernel⟩
theorem f_X10_coat_15 : FlOK RX10 15 wsX10_coat 10 3 := ⟨_, _, _, rfl, by decide, in_X10_coat_X10, List.mem_of_getElem? (i := 3) rfl⟩
set_option maxHeartbeats 600000 in
set_option maxRecDepth 100000 in
/-- n times all open cubes beside one that is not empty become s -/
theorem ct_X10_coat (T : Nat → ClassId) (h10 : Nat) (c0 : Nat) (h2 : Nat) (pk0 : Nat) (np : Int) (m0 : Nat) (q0 : Nat) (n : Int) (M : Int → Int) (Q : Int → Int) (P : Int → Int) (B : Int → Int) (s : Int) (m : Int) (hB : BOK B) (hs : 0 ≤ s ∧ s ≤ 7) (hm : 0 ≤ m ∧ m ≤ 20) : CtV T yX10_coat wsX10_coat rmX10_coat 0 0 [.ref h10, .int (iI s), .int (iI m)] [(h10, .inr (10, [.ref c0, .ref h2, .ref pk0, .int (iI np)])), (h2, .inr (2, [.ref m0, .ref q0, .int (iI n)])), (m0, .inl (T 0, 2880, .inl (fun j : Nat => iI (M j)))), (q0, .inl (T 0, 2880, .inl (fun j : Nat => iI (Q j)))), (pk0, .inl (T 0, 2880, .inl (fun j : Nat => iI (P j)))), (c0, .inl (T 0, 2880, .inl (fun j : Nat => iI (B j))))] (fun u => ∃ np1 : Int, ∃ n1 : Int, ∃ M1 : Int → Int, ∃ Q1 : Int → Int, ∃ P1 : Int → Int, u = [(h10, .inr (10, [.ref c0, .ref h2, .ref pk0, .int (iI np1)])), (h2, .inr (2, [.ref m0, .ref q0, .int (iI n1)])), (m0, .inl (T 0, 2880, .inl (fun j : Nat => iI (M1 j)))), (q0, .inl (T 0, 2880, .inl (fun j : Nat => iI (Q1 j)))), (pk0, .inl (T 0, 2880, .inl (fun j : Nat => iI (P1 j)))), (c0, .inl (T 0, 2880, .inl (fun j : Nat => iI ((coatS s m.toNat B) j))))]) := by
  refine ctV_of (cc := cX10_coat) (maxL := 5) (ret := none) (by decide +kernel) rfl rfl (Nat.le_of_ble_eq_true rfl) (fun X h hinit hr => ?_)
  refine j_eq (lv' := [(0, .ref h10), (1, .int (iI s)), (2, .int (iI m))]) rfl rfl rfl rfl rfl rfl ?_
  refine j_iconst h dX10_coat_0 ?_
  refine j_istore_n (lv' := [(0, .ref h10), (1, .int (iI s)), (2, .int (iI m)), (3, .int (iI 1))]) h dX10_coat_1 [1, 2, 3, 0] rfl (by decide) rfl ?_
  refine j_iconst h dX10_coat_2 ?_
  refine j_istore (lv' := [(0, .ref h10), (1, .int (iI s)), (2, .int (iI m)), (3, .int (iI 1)), (4, .int (iI 0))]) h dX10_coat_3 [1, 2, 3, 4, 0] (by decide) rfl ?_
  have lp5 : ∀ (n5 : Nat) (i : Int) (b : Bool) (f : Int → Int) (np2 : Int) (n2 : Int) (M2 : Int → Int) (Q2 : Int → Int) (P2 : Int → Int) (hi : 0 ≤ i ∧ i ≤ m) (hf : BOK f) (he : coatS s (m - i).toNat f = coatS s m.toNat B) (hb : b = false → f = coatS s m.toNat B), ((m - i).toNat) < n5 → J X 0 0 5 [(0, .ref h10), (1, .int (iI s)), (2, .int (iI m)), (3, .int (iI (bI b))), (4, .int (iI i))] [] [(h10, .inr (10, [.ref c0, .ref h2, .ref pk0, .int (iI np2)])), (h2, .inr (2, [.ref m0, .ref q0, .int (iI n2)])), (m0, .inl (T 0, 2880, .inl (fun j : Nat => iI (M2 j)))), (q0, .inl (T 0, 2880, .inl (fun j : Nat => iI (Q2 j)))), (pk0, .inl (T 0, 2880, .inl (fun j : Nat => iI (P2 j)))), (c0, .inl (T 0, 2880, .inl (fun j : Nat => iI (f j))))] := by
    intro n5
    induction n5 with
    | zero => exact fun i b f np2 n2 M2 Q2 P2 hi hf he hb hn5 => absurd hn5 (Nat.not_lt_zero _)
    | succ n5 ih5 =>
      intro i b f np2 n2 M2 Q2 P2 hi hf he hb hn5
      refine j_iload h dX10_coat_5 4 rfl ?_
      refine j_iload_n h dX10_coat_7 2 rfl rfl ?_
      refine j_icmp_ge h 54 dX10_coat_8 (by decide) (by omega) (by omega) (fun c1 => ?_) (fun c1 => ?_)
      · skip
        exact hr _ _ _ dX10_coat_54 ⟨np2, n2, M2, Q2, P2, (by rw [show f = coatS s m.toNat B by rw [← he, show (m - i).toNat = 0 by omega]; rfl])⟩
      · skip
        refine j_iload_n h dX10_coat_11 3 rfl rfl ?_
        refine j_ifeqB h 54 dX10_coat_12 (by decide) (fun c2 => ?_) (fun c2 => ?_)
        · skip
          exact hr _ _ _ dX10_coat_54 ⟨np2, n2, M2, Q2, P2, (by rw [hb c2])⟩
        · skip
          refine j_aload_n h dX10_coat_15 0 rfl rfl ?_
          refine j_get h dX10_coat_16 f_X10_coat_25 0 rfl rfl ?_
          refine j_aload_n h dX10_coat_19 0 rfl rfl ?_
          refine j_get h dX10_coat_20 f_X10_coat_24 0 rfl rfl ?_
          refine j_callVv (As := [.ref c0]) (wr := [(h10, .inr (10, [.ref c0, .ref h2, .ref pk0, .int (iI np2)])), (pk0, .inl (T 0, 2880, .inl (fun j : Nat => iI (P2 j))))]) (cells' := 0) (slots' := 0) h dX10_coat_23 (ct_X2_markOpen T h2 m0 q0 c0 M2 Q2 n2 f (by first | assumption | omega)) k_X2_markOpen gX10_coat_X2_markOpen rfl rfl 1 rfl ⟨Nat.le_of_ble_eq_true rfl, Nat.le_of_ble_eq_true rfl⟩ rfl rfl (Nat.le_of_ble_eq_true rfl) ⟨Nat.le_of_ble_eq_true rfl, Nat.le_of_ble_eq_true rfl⟩ rfl rfl [1, 2, 3, 5] [0, 4] rfl rfl rfl rfl (by decide) (fun u9 p3 => ?_)
          obtain rfl := p3
          refine j_eq (ws' := [(h10, .inr (10, [.ref c0, .ref h2, .ref pk0, .int (iI np2)])), (pk0, .inl (T 0, 2880, .inl (fun j : Nat => iI (P2 j)))), (h2, .inr (2, [.ref m0, .ref q0, .int (iI ((opnS f).2.length : Int))])), (m0, .inl (T 0, 2880, .inl (fun j : Nat => iI ((fun c9 => bI ((opnS f).1 c9)) j)))), (q0, .inl (T 0, 2880, .inl (fun j : Nat => iI ((qF Q2 (opnS f).2) j)))), (c0, .inl (T 0, 2880, .inl (fun j : Nat => iI (f j))))]) rfl rfl rfl rfl rfl rfl ?_
          refine j_aload_n h dX10_coat_26 0 rfl rfl ?_
          refine j_callVv (As := []) (wr := [(q0, .inl (T 0, 2880, .inl (fun j : Nat => iI ((qF Q2 (opnS f).2) j))))]) (cells' := 0) (slots' := 0) h dX10_coat_27 (ct_X10_pickSurface T h10 c0 h2 pk0 np2 m0 q0 ((opnS f).2.length : Int) ((opnS f).1) P2 f (by first | assumption | omega)) k_X10_pickSurface gX10_coat_X10_pickSurface rfl rfl 0 rfl ⟨Nat.le_of_ble_eq_true rfl, Nat.le_of_ble_eq_true rfl⟩ rfl rfl (Nat.le_of_ble_eq_true rfl) ⟨Nat.le_of_ble_eq_true rfl, Nat.le_of_ble_eq_true rfl⟩ rfl rfl [0, 2, 3, 1, 5] [4] rfl rfl rfl rfl (by decide) (fun u9 p4 => ?_)
          obtain rfl := p4
          refine j_eq (ws' := [(q0, .inl (T 0, 2880, .inl (fun j : Nat => iI ((qF Q2 (opnS f).2) j)))), (h10, .inr (10, [.ref c0, .ref h2, .ref pk0, .int (iI ((pkI (fun c => ((opnS f).1) c && nearP (stuffP f) c) 2880).length : Int))])), (h2, .inr (2, [.ref m0, .ref q0, .int (iI ((opnS f).2.length : Int))])), (m0, .inl (T 0, 2880, .inl (fun j : Nat => iI ((fun c9 => bI (((opnS f).1) c9)) j)))), (pk0, .inl (T 0, 2880, .inl (fun j : Nat => iI ((qF P2 (pkI (fun c => ((opnS f).1) c && nearP (stuffP f) c) 2880)) j)))), (c0, .inl (T 0, 2880, .inl (fun j : Nat => iI (f j))))]) rfl rfl rfl rfl rfl rfl ?_
          have hl9 := pkI_len (P := (surfP f)) (k := 2880) (by omega)
          refine j_aload_n h dX10_coat_30 0 rfl rfl ?_
          refine j_iload_n h dX10_coat_31 1 rfl rfl ?_
          refine j_callVv (As := [.int (iI s)]) (wr := [(q0, .inl (T 0, 2880, .inl (fun j : Nat => iI ((qF Q2 (opnS f).2) j)))), (h2, .inr (2, [.ref m0, .ref q0, .int (iI ((opnS f).2.length : Int))])), (m0, .inl (T 0, 2880, .inl (fun j : Nat => iI ((fun c9 => bI (((opnS f).1) c9)) j))))]) (cells' := 0) (slots' := 0) h dX10_coat_32 (ct_X10_putPicked T h10 c0 h2 pk0 P2 (pkI (surfP f) 2880) f s (by first | assumption | omega) (by exact (pkI_len (by omega)).2) (by intro i h1 h2; exact pkI_get (by omega) ⟨h1, h2⟩)) k_X10_putPicked gX10_coat_X10_putPicked rfl rfl 1 rfl ⟨Nat.le_of_ble_eq_true rfl, Nat.le_of_ble_eq_true rfl⟩ rfl rfl (Nat.le_of_ble_eq_true rfl) ⟨Nat.le_of_ble_eq_true rfl, Nat.le_of_ble_eq_true rfl⟩ rfl rfl [1, 4, 5] [0, 2, 3] rfl rfl rfl rfl (by decide) (fun u9 p5 => ?_)
          obtain rfl := p5
          refine j_eq (ws' := [(q0, .inl (T 0, 2880, .inl (fun j : Nat => iI ((qF Q2 (opnS f).2) j)))), (h2, .inr (2, [.ref m0, .ref q0, .int (iI ((opnS f).2.length : Int))])), (m0, .inl (T 0, 2880, .inl (fun j : Nat => iI ((fun c9 => bI (((opnS f).1) c9)) j)))), (h10, .inr (10, [.ref c0, .ref h2, .ref pk0, .int (iI ((pkI (surfP f) 2880).length : Int))])), (pk0, .inl (T 0, 2880, .inl (fun j : Nat => iI ((qF P2 (pkI (surfP f) 2880)) j)))), (c0, .inl (T 0, 2880, .inl (fun j : Nat => iI ((putL f (pkI (surfP f) 2880) s ((pkI (surfP f) 2880).length : Int)) j))))]) rfl rfl rfl rfl rfl rfl ?_
          refine j_aload_n h dX10_coat_35 0 rfl rfl ?_
          refine j_get h dX10_coat_36 f_X10_coat_15 3 rfl rfl ?_
          refine j_if_le h 46 dX10_coat_39 (by decide) (by omega) (fun c6 => ?_) (fun c6 => ?_)
          · skip
            refine j_iconst h dX10_coat_46 ?_
            refine j_istore_n (lv' := [(0, .ref h10), (1, .int (iI s)), (2, .int (iI m)), (3, .int (iI 0)), (4, .int (iI i))]) h dX10_coat_47 [1, 2, 3, 0, 4] rfl (by decide) rfl ?_
            refine j_iinc (lv' := [(0, .ref h10), (1, .int (iI s)), (2, .int (iI m)), (3, .int (iI 0)), (4, .int (iI (i + 1)))]) h dX10_coat_48 4 [1, 2, 3, 4, 0] rfl (by decide) rfl ?_
            refine j_goto (tgt := 5) h dX10_coat_51 (by decide) ?_
            refine j_ws (ws' := [(h10, .inr (10, [.ref c0, .ref h2, .ref pk0, .int (iI ((pkI (surfP f) 2880).length : Int))])), (h2, .inr (2, [.ref m0, .ref q0, .int (iI ((opnS f).2.length : Int))])), (m0, .inl (T 0, 2880, .inl (fun j : Nat => iI ((fun c9 => bI (((opnS f).1) c9)) j)))), (q0, .inl (T 0, 2880, .inl (fun j : Nat => iI ((qF Q2 (opnS f).2) j)))), (pk0, .inl (T 0, 2880, .inl (fun j : Nat => iI ((qF P2 (pkI (surfP f) 2880)) j)))), (c0, .inl (T 0, 2880, .inl (fun j : Nat => iI ((putL f (pkI (surfP f) 2880) s ((pkI (surfP f) 2880).length : Int)) j))))]) [3, 1, 2, 0, 4, 5] rfl rfl ?_
            refine j_eq (ws' := [(h10, .inr (10, [.ref c0, .ref h2, .ref pk0, .int (iI ((pkI (surfP f) 2880).length : Int))])), (h2, .inr (2, [.ref m0, .ref q0, .int (iI ((opnS f).2.length : Int))])), (m0, .inl (T 0, 2880, .inl (fun j : Nat => iI ((fun c9 => bI (((opnS f).1) c9)) j)))), (q0, .inl (T 0, 2880, .inl (fun j : Nat => iI ((qF Q2 (opnS f).2) j)))), (pk0, .inl (T 0, 2880, .inl (fun j : Nat => iI ((qF P2 (pkI (surfP f) 2880)) j)))), (c0, .inl (T 0, 2880, .inl (fun j : Nat => iI ((coat1 f s) j))))]) rfl rfl rfl rfl rfl (by rw [putL_pk (Int.le_refl _)]; rfl) ?_
            exact ih5 (i + 1) false (coat1 f s) ((pkI (surfP f) 2880).length : Int) ((opnS f).2.length : Int) (fun c9 => bI (((opnS f).1) c9)) (qF Q2 (opnS f).2) (qF P2 (pkI (surfP f) 2880)) (by first | assumption | omega) (by exact BOK_putP hf _ (by omega)) (by rw [← coatS_step (by omega)]; exact he) (by intro _; have q9 : coat1 f s = f := putP_none (pk_none c6); rw [q9, ← he, coatS_same q9]) (by omega)
          · skip
            refine j_iconst h dX10_coat_42 ?_
            refine j_goto (tgt := 47) h dX10_coat_43 (by decide) ?_
            refine j_istore_n (lv' := [(0, .ref h10), (1, .int (iI s)), (2, .int (iI m)), (3, .int (iI 1)), (4, .int (iI i))]) h dX10_coat_47 [1, 2, 3, 0, 4] rfl (by decide) rfl ?_
            refine j_iinc (lv' := [(0, .ref h10), (1, .int (iI s)), (2, .int (iI m)), (3, .int (iI 1)), (4, .int (iI (i + 1)))]) h dX10_coat_48 4 [1, 2, 3, 4, 0] rfl (by decide) rfl ?_
            refine j_goto (tgt := 5) h dX10_coat_51 (by decide) ?_
            refine j_ws (ws' := [(h10, .inr (10, [.ref c0, .ref h2, .ref pk0, .int (iI ((pkI (surfP f) 2880).length : Int))])), (h2, .inr (2, [.ref m0, .ref q0, .int (iI ((opnS f).2.length : Int))])), (m0, .inl (T 0, 2880, .inl (fun j : Nat => iI ((fun c9 => bI (((opnS f).1) c9)) j)))), (q0, .inl (T 0, 2880, .inl (fun j : Nat => iI ((qF Q2 (opnS f).2) j)))), (pk0, .inl (T 0, 2880, .inl (fun j : Nat => iI ((qF P2 (pkI (surfP f) 2880)) j)))), (c0, .inl (T 0, 2880, .inl (fun j : Nat => iI ((putL f (pkI (surfP f) 2880) s ((pkI (surfP f) 2880).length : Int)) j))))]) [3, 1, 2, 0, 4, 5] rfl rfl ?_
            refine j_eq (ws' := [(h10, .inr (10, [.ref c0, .ref h2, .ref pk0, .int (iI ((pkI (surfP f) 2880).length : Int))])), (h2, .inr (2, [.ref m0, .ref q0, .int (iI ((opnS f).2.length : Int))])), (m0, .inl (T 0, 2880, .inl (fun j : Nat => iI ((fun c9 => bI (((opnS f).1) c9)) j)))), (q0, .inl (T 0, 2880, .inl (fun j : Nat => iI ((qF Q2 (opnS f).2) j)))), (pk0, .inl (T 0, 2880, .inl (fun j : Nat => iI ((qF P2 (pkI (surfP f) 2880)) j)))), (c0, .inl (T 0, 2880, .inl (fun j : Nat => iI ((coat1 f s) j))))]) rfl rfl rfl rfl rfl (by rw [putL_pk (Int.le_refl _)]; rfl) ?_
            exact ih5 (i + 1) true (coat1 f s) ((pkI (surfP f) 2880).length : Int) ((opnS f).2.length : Int) (fun c9 => bI (((opnS f).1) c9)) (qF Q2 (opnS f).2) (qF P2 (pkI (surfP f) 2880)) (by first | assumption | omega) (by exact BOK_putP hf _ (by omega)) (by rw [← coatS_step (by omega)]; exact he) (by intro z; cases z) (by omega)
  exact lp5 _ 0 true B np n M Q P (by first | assumption | omega) (by first | assumption | omega) (by rw [Int.sub_zero]) (by intro z; cases z) (Nat.lt_succ_self _)

abbrev rmX10_etch : Room := { frames := 3, cells := 0, slots := 0, locals := 69 }
theorem in_X10_etch_X10 : ∀ w ∈ u_ws RX10 TX10 4, w ∈ wsX10_etch := fun w hw => List.mem_cons_of_mem _ (List.mem_append_left _ (List.mem_append_right _ (hw)))
theorem f_X10_etch_25 : FlOK RX10 25 wsX10_etch 10 1 := ⟨_, _, _, rfl, by decide, in_X10_etch_X10, List.mem_of_getElem? (i := 1) rfl⟩
theorem f_X10_etch_24 : FlOK RX10 24 wsX10_etch 10 0 := ⟨_, _, _, rfl, by decide, in_X10_etch_X10, List.mem_of_getElem? (i := 2) rfl⟩
theorem k_X10_pickExposed : CkOK yX10_pickExposed wsX10_pickExposed rmX10_pickExposed 0 0 cX10_pickExposed 3 none 1 := ⟨⟨_, rfl⟩, rfl, rfl, by decide +kernel⟩
theorem f_X10_etch_15 : FlOK RX10 15 wsX10_etch 10 3 := ⟨_, _, _, rfl, by decide, in_X10_etch_X10, List.mem_of_getElem? (i := 3) rfl⟩
set_option maxHeartbeats 600000 in
set_option maxRecDepth 100000 in
/-- n times the exposed cubes of the kinds go -/
theorem ct_X10_etch (T : Nat → ClassId) (h10 : Nat) (c0 : Nat) (h2 : Nat) (pk0 : Nat) (np : Int) (m0 : Nat) (q0 : Nat) (n : Int) (M : Int → Int) (Q : Int → Int) (P : Int → Int) (B : Int → Int) (K : Int) (m : Int) (hB : BOK B) (hK : 0 ≤ K ∧ K ≤ 2147483647) (hm : 0 ≤ m ∧ m ≤ 20) : CtV T yX10_etch wsX10_etch rmX10_etch 0 0 [.ref h10, .int (iI K), .int (iI m)] [(h10, .inr (10, [.ref c0, .ref h2, .ref pk0, .int (iI np)])), (h2, .inr (2, [.ref m0, .ref q0, .int (iI n)])), (m0, .inl (T 0, 2880, .inl (fun j : Nat => iI (M j)))), (q0, .inl (T 0, 2880, .inl (fun j : Nat => iI (Q j)))), (pk0, .inl (T 0, 2880, .inl (fun j : Nat => iI (P j)))), (c0, .inl (T 0, 2880, .inl (fun j : Nat => iI (B j))))] (fun u => ∃ np1 : Int, ∃ n1 : Int, ∃ M1 : Int → Int, ∃ Q1 : Int → Int, ∃ P1 : Int → Int, u = [(h10, .inr (10, [.ref c0, .ref h2, .ref pk0, .int (iI np1)])), (h2, .inr (2, [.ref m0, .ref q0, .int (iI n1)])), (m0, .inl (T 0, 2880, .inl (fun j : Nat => iI (M1 j)))), (q0, .inl (T 0, 2880, .inl (fun j : Nat => iI (Q1 j)))), (pk0, .inl (T 0, 2880, .inl (fun j : Nat => iI (P1 j)))), (c0, .inl (T 0, 2880, .inl (fun j : Nat => iI ((etchS K m.toNat B) j))))]) := by
  refine ctV_of (cc := cX10_etch) (maxL := 5) (ret := none) (by decide +kernel) rfl rfl (Nat.le_of_ble_eq_true rfl) (fun X h hinit hr => ?_)
  refine j_eq (lv' := [(0, .ref h10), (1, .int (iI K)), (2, .int (iI m))]) rfl rfl rfl rfl rfl rfl ?_
  refine j_iconst h dX10_etch_0 ?_
  refine j_istore_n (lv' := [(0, .ref h10), (1, .int (iI K)), (2, .int (iI m)), (3, .int (iI 1))]) h dX10_etch_1 [1, 2, 3, 0] rfl (by decide) rfl ?_
  refine j_iconst h dX10_etch_2 ?_
  refine j_istore (lv' := [(0, .ref h10), (1, .int (iI K)), (2, .int (iI m)), (3, .int (iI 1)), (4, .int (iI 0))]) h dX10_etch_3 [1, 2, 3, 4, 0] (by decide) rfl ?_
  have lp5 : ∀ (n5 : Nat) (i : Int) (b : Bool) (f : Int → Int) (np2 : Int) (n2 : Int) (M2 : Int → Int) (Q2 : Int → Int) (P2 : Int → Int) (hi : 0 ≤ i ∧ i ≤ m) (hf : BOK f) (he : etchS K (m - i).toNat f = etchS K m.toNat B) (hb : b = false → f = etchS K m.toNat B), ((m - i).toNat) < n5 → J X 0 0 5 [(0, .ref h10), (1, .int (iI K)), (2, .int (iI m)), (3, .int (iI (bI b))), (4, .int (iI i))] [] [(h10, .inr (10, [.ref c0, .ref h2, .ref pk0, .int (iI np2)])), (h2, .inr (2, [.ref m0, .ref q0, .int (iI n2)])), (m0, .inl (T 0, 2880, .inl (fun j : Nat => iI (M2 j)))), (q0, .inl (T 0, 2880, .inl (fun j : Nat => iI (Q2 j)))), (pk0, .inl (T 0, 2880, .inl (fun j : Nat => iI (P2 j)))), (c0, .inl (T 0, 2880, .inl (fun j : Nat => iI (f j))))] := by
    intro n5
    induction n5 with
    | zero => exact fun i b f np2 n2 M2 Q2 P2 hi hf he hb hn5 => absurd hn5 (Nat.not_lt_zero _)
    | succ n5 ih5 =>
      intro i b f np2 n2 M2 Q2 P2 hi hf he hb hn5
      refine j_iload h dX10_etch_5 4 rfl ?_
      refine j_iload_n h dX10_etch_7 2 rfl rfl ?_
      refine j_icmp_ge h 55 dX10_etch_8 (by decide) (by omega) (by omega) (fun c1 => ?_) (fun c1 => ?_)
      · skip
        exact hr _ _ _ dX10_etch_55 ⟨np2, n2, M2, Q2, P2, (by rw [show f = etchS K m.toNat B by rw [← he, show (m - i).toNat = 0 by omega]; rfl])⟩
      · skip
        refine j_iload_n h dX10_etch_11 3 rfl rfl ?_
        refine j_ifeqB h 55 dX10_etch_12 (by decide) (fun c2 => ?_) (fun c2 => ?_)
        · skip
          exact hr _ _ _ dX10_etch_55 ⟨np2, n2, M2, Q2, P2, (by rw [hb c2])⟩
        · skip
          refine j_aload_n h dX10_etch_15 0 rfl rfl ?_
          refine j_get h dX10_etch_16 f_X10_etch_25 0 rfl rfl ?_
          refine j_aload_n h dX10_etch_19 0 rfl rfl ?_
          refine j_get h dX10_etch_20 f_X10_etch_24 0 rfl rfl ?_
          refine j_callVv (As := [.ref c0]) (wr := [(h10, .inr (10, [.ref c0, .ref h2, .ref pk0, .int (iI np2)])), (pk0, .inl (T 0, 2880, .inl (fun j : Nat => iI (P2 j))))]) (cells' := 0) (slots' := 0) h dX10_etch_23 (ct_X2_markOpen T h2 m0 q0 c0 M2 Q2 n2 f (by first | assumption | omega)) k_X2_markOpen gX10_etch_X2_markOpen rfl rfl 1 rfl ⟨Nat.le_of_ble_eq_true rfl, Nat.le_of_ble_eq_true rfl⟩ rfl rfl (Nat.le_of_ble_eq_true rfl) ⟨Nat.le_of_ble_eq_true rfl, Nat.le_of_ble_eq_true rfl⟩ rfl rfl [1, 2, 3, 5] [0, 4] rfl rfl rfl rfl (by decide) (fun u9 p3 => ?_)
          obtain rfl := p3
          refine j_eq (ws' := [(h10, .inr (10, [.ref c0, .ref h2, .ref pk0, .int (iI np2)])), (pk0, .inl (T 0, 2880, .inl (fun j : Nat => iI (P2 j)))), (h2, .inr (2, [.ref m0, .ref q0, .int (iI ((opnS f).2.length : Int))])), (m0, .inl (T 0, 2880, .inl (fun j : Nat => iI ((fun c9 => bI ((opnS f).1 c9)) j)))), (q0, .inl (T 0, 2880, .inl (fun j : Nat => iI ((qF Q2 (opnS f).2) j)))), (c0, .inl (T 0, 2880, .inl (fun j : Nat => iI (f j))))]) rfl rfl rfl rfl rfl rfl ?_
          refine j_aload_n h dX10_etch_26 0 rfl rfl ?_
          refine j_iload_n h dX10_etch_27 1 rfl rfl ?_
          refine j_callVv (As := [.int (iI K)]) (wr := [(q0, .inl (T 0, 2880, .inl (fun j : Nat => iI ((qF Q2 (opnS f).2) j))))]) (cells' := 0) (slots' := 0) h dX10_etch_28 (ct_X10_pickExposed T h10 c0 h2 pk0 np2 m0 q0 ((opnS f).2.length : Int) ((opnS f).1) P2 f K (by first | assumption | omega) (by first | assumption | omega)) k_X10_pickExposed gX10_etch_X10_pickExposed rfl rfl 0 rfl ⟨Nat.le_of_ble_eq_true rfl, Nat.le_of_ble_eq_true rfl⟩ rfl rfl (Nat.le_of_ble_eq_true rfl) ⟨Nat.le_of_ble_eq_true rfl, Nat.le_of_ble_eq_true rfl⟩ rfl rfl [0, 2, 3, 1, 5] [4] rfl rfl rfl rfl (by decide) (fun u9 p4 => ?_)
          obtain rfl := p4
          refine j_eq (ws' := [(q0, .inl (T 0, 2880, .inl (fun j : Nat => iI ((qF Q2 (opnS f).2) j)))), (h10, .inr (10, [.ref c0, .ref h2, .ref pk0, .int (iI ((pkI (fun c => hk K (f c) && expoP ((opnS f).1) c) 2880).length : Int))])), (h2, .inr (2, [.ref m0, .ref q0, .int (iI ((opnS f).2.length : Int))])), (m0, .inl (T 0, 2880, .inl (fun j : Nat => iI ((fun c9 => bI (((opnS f).1) c9)) j)))), (pk0, .inl (T 0, 2880, .inl (fun j : Nat => iI ((qF P2 (pkI (fun c => hk K (f c) && expoP ((opnS f).1) c) 2880)) j)))), (c0, .inl (T 0, 2880, .inl (fun j : Nat => iI (f j))))]) rfl rfl rfl rfl rfl rfl ?_
          have hl9 := pkI_len (P := (bareP f K)) (k := 2880) (by omega)
          refine j_aload_n h dX10_etch_31 0 rfl rfl ?_
          refine j_iconst h dX10_etch_32 ?_
          refine j_callVv (As := [.int (iI 0)]) (wr := [(q0, .inl (T 0, 2880, .inl (fun j : Nat => iI ((qF Q2 (opnS f).2) j)))), (h2, .inr (2, [.ref m0, .ref q0, .int (iI ((opnS f).2.length : Int))])), (m0, .inl (T 0, 2880, .inl (fun j : Nat => iI ((fun c9 => bI (((opnS f).1) c9)) j))))]) (cells' := 0) (slots' := 0) h dX10_etch_33 (ct_X10_putPicked T h10 c0 h2 pk0 P2 (pkI (bareP f K) 2880) f 0 (by first | assumption | omega) (by exact (pkI_len (by omega)).2) (by intro i h1 h2; exact pkI_get (by omega) ⟨h1, h2⟩)) k_X10_putPicked gX10_etch_X10_putPicked rfl rfl 1 rfl ⟨Nat.le_of_ble_eq_true rfl, Nat.le_of_ble_eq_true rfl⟩ rfl rfl (Nat.le_of_ble_eq_true rfl) ⟨Nat.le_of_ble_eq_true rfl, Nat.le_of_ble_eq_true rfl⟩ rfl rfl [1, 4, 5] [0, 2, 3] rfl rfl rfl rfl (by decide) (fun u9 p5 => ?_)
          obtain rfl := p5
          refine j_eq (ws' := [(q0, .inl (T 0, 2880, .inl (fun j : Nat => iI ((qF Q2 (opnS f).2) j)))), (h2, .inr (2, [.ref m0, .ref q0, .int (iI ((opnS f).2.length : Int))])), (m0, .inl (T 0, 2880, .inl (fun j : Nat => iI ((fun c9 => bI (((opnS f).1) c9)) j)))), (h10, .inr (10, [.ref c0, .ref h2, .ref pk0, .int (iI ((pkI (bareP f K) 2880).length : Int))])), (pk0, .inl (T 0, 2880, .inl (fun j : Nat => iI ((qF P2 (pkI (bareP f K) 2880)) j)))), (c0, .inl (T 0, 2880, .inl (fun j : Nat => iI ((putL f (pkI (bareP f K) 2880) 0 ((pkI (bareP f K) 2880).length : Int)) j))))]) rfl rfl rfl rfl rfl rfl ?_
          refine j_aload_n h dX10_etch_36 0 rfl rfl ?_
          refine j_get h dX10_etch_37 f_X10_etch_15 3 rfl rfl ?_
          refine j_if_le h 47 dX10_etch_40 (by decide) (by omega) (fun c6 => ?_) (fun c6 => ?_)
          · skip
            refine j_iconst h dX10_etch_47 ?_
            refine j_istore_n (lv' := [(0, .ref h10), (1, .int (iI K)), (2, .int (iI m)), (3, .int (iI 0)), (4, .int (iI i))]) h dX10_etch_48 [1, 2, 3, 0, 4] rfl (by decide) rfl ?_
            refine j_iinc (lv' := [(0, .ref h10), (1, .int (iI K)), (2, .int (iI m)), (3, .int (iI 0)), (4, .int (iI (i + 1)))]) h dX10_etch_49 4 [1, 2, 3, 4, 0] rfl (by decide) rfl ?_
            refine j_goto (tgt := 5) h dX10_etch_52 (by decide) ?_
            refine j_ws (ws' := [(h10, .inr (10, [.ref c0, .ref h2, .ref pk0, .int (iI ((pkI (bareP f K) 2880).length : Int))])), (h2, .inr (2, [.ref m0, .ref q0, .int (iI ((opnS f).2.length : Int))])), (m0, .inl (T 0, 2880, .inl (fun j : Nat => iI ((fun c9 => bI (((opnS f).1) c9)) j)))), (q0, .inl (T 0, 2880, .inl (fun j : Nat => iI ((qF Q2 (opnS f).2) j)))), (pk0, .inl (T 0, 2880, .inl (fun j : Nat => iI ((qF P2 (pkI (bareP f K) 2880)) j)))), (c0, .inl (T 0, 2880, .inl (fun j : Nat => iI ((putL f (pkI (bareP f K) 2880) 0 ((pkI (bareP f K) 2880).length : Int)) j))))]) [3, 1, 2, 0, 4, 5] rfl rfl ?_
            refine j_eq (ws' := [(h10, .inr (10, [.ref c0, .ref h2, .ref pk0, .int (iI ((pkI (bareP f K) 2880).length : Int))])), (h2, .inr (2, [.ref m0, .ref q0, .int (iI ((opnS f).2.length : Int))])), (m0, .inl (T 0, 2880, .inl (fun j : Nat => iI ((fun c9 => bI (((opnS f).1) c9)) j)))), (q0, .inl (T 0, 2880, .inl (fun j : Nat => iI ((qF Q2 (opnS f).2) j)))), (pk0, .inl (T 0, 2880, .inl (fun j : Nat => iI ((qF P2 (pkI (bareP f K) 2880)) j)))), (c0, .inl (T 0, 2880, .inl (fun j : Nat => iI ((etch1 f K) j))))]) rfl rfl rfl rfl rfl (by rw [putL_pk (Int.le_refl _)]; rfl) ?_
            exact ih5 (i + 1) false (etch1 f K) ((pkI (bareP f K) 2880).length : Int) ((opnS f).2.length : Int) (fun c9 => bI (((opnS f).1) c9)) (qF Q2 (opnS f).2) (qF P2 (pkI (bareP f K) 2880)) (by first | assumption | omega) (by exact BOK_putP hf _ (by omega)) (by rw [← etchS_step (by omega)]; exact he) (by intro _; have q9 : etch1 f K = f := putP_none (pk_none c6); rw [q9, ← he, etchS_same q9]) (by omega)
          · skip
            refine j_iconst h dX10_etch_43 ?_
            refine j_goto (tgt := 48) h dX10_etch_44 (by decide) ?_
            refine j_istore_n (lv' := [(0, .ref h10), (1, .int (iI K)), (2, .int (iI m)), (3, .int (iI 1)), (4, .int (iI i))]) h dX10_etch_48 [1, 2, 3, 0, 4] rfl (by decide) rfl ?_
            refine j_iinc (lv' := [(0, .ref h10), (1, .int (iI K)), (2, .int (iI m)), (3, .int (iI 1)), (4, .int (iI (i + 1)))]) h dX10_etch_49 4 [1, 2, 3, 4, 0] rfl (by decide) rfl ?_
            refine j_goto (tgt := 5) h dX10_etch_52 (by decide) ?_
            refine j_ws (ws' := [(h10, .inr (10, [.ref c0, .ref h2, .ref pk0, .int (iI ((pkI (bareP f K) 2880).length : Int))])), (h2, .inr (2, [.ref m0, .ref q0, .int (iI ((opnS f).2.length : Int))])), (m0, .inl (T 0, 2880, .inl (fun j : Nat => iI ((fun c9 => bI (((opnS f).1) c9)) j)))), (q0, .inl (T 0, 2880, .inl (fun j : Nat => iI ((qF Q2 (opnS f).2) j)))), (pk0, .inl (T 0, 2880, .inl (fun j : Nat => iI ((qF P2 (pkI (bareP f K) 2880)) j)))), (c0, .inl (T 0, 2880, .inl (fun j : Nat => iI ((putL f (pkI (bareP f K) 2880) 0 ((pkI (bareP f K) 2880).length : Int)) j))))]) [3, 1, 2, 0, 4, 5] rfl rfl ?_
            refine j_eq (ws' := [(h10, .inr (10, [.ref c0, .ref h2, .ref pk0, .int (iI ((pkI (bareP f K) 2880).length : Int))])), (h2, .inr (2, [.ref m0, .ref q0, .int (iI ((opnS f).2.length : Int))])), (m0, .inl (T 0, 2880, .inl (fun j : Nat => iI ((fun c9 => bI (((opnS f).1) c9)) j)))), (q0, .inl (T 0, 2880, .inl (fun j : Nat => iI ((qF Q2 (opnS f).2) j)))), (pk0, .inl (T 0, 2880, .inl (fun j : Nat => iI ((qF P2 (pkI (bareP f K) 2880)) j)))), (c0, .inl (T 0, 2880, .inl (fun j : Nat => iI ((etch1 f K) j))))]) rfl rfl rfl rfl rfl (by rw [putL_pk (Int.le_refl _)]; rfl) ?_
            exact ih5 (i + 1) true (etch1 f K) ((pkI (bareP f K) 2880).length : Int) ((opnS f).2.length : Int) (fun c9 => bI (((opnS f).1) c9)) (qF Q2 (opnS f).2) (qF P2 (pkI (bareP f K) 2880)) (by first | assumption | omega) (by exact BOK_putP hf _ (by omega)) (by rw [← etchS_step (by omega)]; exact he) (by intro z; cases z) (by omega)
  exact lp5 _ 0 true B np n M Q P (by first | assumption | omega) (by first | assumption | omega) (by rw [Int.sub_zero]) (by intro z; cases z) (Nat.lt_succ_self _)

