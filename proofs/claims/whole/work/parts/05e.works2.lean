abbrev rmX10_fill : Room := { frames := 3, cells := 0, slots := 0, locals := 69 }
theorem in_X10_fill_X10 : ∀ w ∈ u_ws RX10 TX10 4, w ∈ wsX10_fill := fun w hw => List.mem_cons_of_mem _ (List.mem_append_left _ (List.mem_append_right _ (hw)))
theorem f_X10_fill_25 : FlOK RX10 25 wsX10_fill 10 1 := ⟨_, _, _, rfl, by decide, in_X10_fill_X10, List.mem_of_getElem? (i := 1) rfl⟩
theorem f_X10_fill_24 : FlOK RX10 24 wsX10_fill 10 0 := ⟨_, _, _, rfl, by decide, in_X10_fill_X10, List.mem_of_getElem? (i := 2) rfl⟩
set_option maxHeartbeats 600000 in
set_option maxRecDepth 100000 in
/-- all open cubes below a height become s -/
theorem ct_X10_fill (T : Nat → ClassId) (h10 : Nat) (c0 : Nat) (h2 : Nat) (pk0 : Nat) (np : Int) (m0 : Nat) (q0 : Nat) (n : Int) (M : Int → Int) (Q : Int → Int) (B : Int → Int) (s : Int) (e : Int) (hB : BOK B) (hs : 0 ≤ s ∧ s ≤ 7) (he : 0 ≤ e ∧ e ≤ 20) : CtV T yX10_fill wsX10_fill rmX10_fill 0 0 [.ref h10, .int (iI s), .int (iI e)] [(h10, .inr (10, [.ref c0, .ref h2, .ref pk0, .int (iI np)])), (h2, .inr (2, [.ref m0, .ref q0, .int (iI n)])), (m0, .inl (T 0, 2880, .inl (fun j : Nat => iI (M j)))), (q0, .inl (T 0, 2880, .inl (fun j : Nat => iI (Q j)))), (c0, .inl (T 0, 2880, .inl (fun j : Nat => iI (B j))))] (fun u => ∃ n1 : Int, ∃ M1 : Int → Int, ∃ Q1 : Int → Int, u = [(h10, .inr (10, [.ref c0, .ref h2, .ref pk0, .int (iI np)])), (h2, .inr (2, [.ref m0, .ref q0, .int (iI n1)])), (m0, .inl (T 0, 2880, .inl (fun j : Nat => iI (M1 j)))), (q0, .inl (T 0, 2880, .inl (fun j : Nat => iI (Q1 j)))), (c0, .inl (T 0, 2880, .inl (fun j : Nat => iI ((fillS B s e) j))))]) := by
  refine ctV_of (cc := cX10_fill) (maxL := 4) (ret := none) (by decide +kernel) rfl rfl (Nat.le_of_ble_eq_true rfl) (fun X h hinit hr => ?_)
  refine j_eq (lv' := [(0, .ref h10), (1, .int (iI s)), (2, .int (iI e))]) rfl rfl rfl rfl rfl rfl ?_
  refine j_aload_n h dX10_fill_0 0 rfl rfl ?_
  refine j_get h dX10_fill_1 f_X10_fill_25 0 rfl rfl ?_
  refine j_aload_n h dX10_fill_4 0 rfl rfl ?_
  refine j_get h dX10_fill_5 f_X10_fill_24 0 rfl rfl ?_
  refine j_callVv (As := [.ref c0]) (wr := [(h10, .inr (10, [.ref c0, .ref h2, .ref pk0, .int (iI np)]))]) (cells' := 0) (slots' := 0) h dX10_fill_8 (ct_X2_markOpen T h2 m0 q0 c0 M Q n B (by first | assumption | omega)) k_X2_markOpen gX10_fill_X2_markOpen rfl rfl 1 rfl ⟨Nat.le_of_ble_eq_true rfl, Nat.le_of_ble_eq_true rfl⟩ rfl rfl (Nat.le_of_ble_eq_true rfl) ⟨Nat.le_of_ble_eq_true rfl, Nat.le_of_ble_eq_true rfl⟩ rfl rfl [1, 2, 3, 4] [0] rfl rfl rfl rfl (by decide) (fun u9 p1 => ?_)
  obtain rfl := p1
  refine j_eq (ws' := [(h10, .inr (10, [.ref c0, .ref h2, .ref pk0, .int (iI np)])), (h2, .inr (2, [.ref m0, .ref q0, .int (iI ((opnS B).2.length : Int))])), (m0, .inl (T 0, 2880, .inl (fun j : Nat => iI ((fun c9 => bI ((opnS B).1 c9)) j)))), (q0, .inl (T 0, 2880, .inl (fun j : Nat => iI ((qF Q (opnS B).2) j)))), (c0, .inl (T 0, 2880, .inl (fun j : Nat => iI (B j))))]) rfl rfl rfl rfl rfl rfl ?_
  refine j_iconst h dX10_fill_11 ?_
  refine j_istore_n (lv' := [(0, .ref h10), (1, .int (iI s)), (2, .int (iI e)), (3, .int (iI 0))]) h dX10_fill_12 [1, 2, 3, 0] rfl (by decide) rfl ?_
  have lp13 : ∀ (n13 : Nat) (k : Int) (hk : 0 ≤ k ∧ k ≤ 144 * e), ((2880 - k).toNat) < n13 → J X 0 0 13 [(0, .ref h10), (1, .int (iI s)), (2, .int (iI e)), (3, .int (iI k))] [] [(h10, .inr (10, [.ref c0, .ref h2, .ref pk0, .int (iI np)])), (h2, .inr (2, [.ref m0, .ref q0, .int (iI ((opnS B).2.length : Int))])), (m0, .inl (T 0, 2880, .inl (fun j : Nat => iI ((fun c9 => bI ((opnS B).1 c9)) j)))), (q0, .inl (T 0, 2880, .inl (fun j : Nat => iI ((qF Q (opnS B).2) j)))), (c0, .inl (T 0, 2880, .inl (fun j : Nat => iI ((preP (opnS B).1 B s k) j))))] := by
    intro n13
    induction n13 with
    | zero => exact fun k hk hn13 => absurd hn13 (Nat.not_lt_zero _)
    | succ n13 ih13 =>
      intro k hk hn13
      refine j_iload_n h dX10_fill_13 3 rfl rfl ?_
      refine j_iload_n h dX10_fill_14 2 rfl rfl ?_
      refine j_sipush h dX10_fill_15 (by decide) ?_
      refine j_imul h dX10_fill_18 ?_
      refine j_icmp_ge h 53 dX10_fill_19 (by decide) (by omega) (by omega) (fun c2 => ?_) (fun c2 => ?_)
      · skip
        exact hr _ _ _ dX10_fill_53 ⟨((opnS B).2.length : Int), (fun c9 => bI ((opnS B).1 c9)), (qF Q (opnS B).2), (by rw [show k = 144 * e by omega]; rfl)⟩
      · skip
        refine j_iload_n h dX10_fill_22 3 rfl rfl ?_
        refine j_sipush h dX10_fill_23 (by decide) ?_
        refine j_icmp_ge h 53 dX10_fill_26 (by decide) (by omega) (by omega) (fun c3 => ?_) (fun c3 => ?_)
        · skip
          exact hr _ _ _ dX10_fill_53 ⟨((opnS B).2.length : Int), (fun c9 => bI ((opnS B).1 c9)), (qF Q (opnS B).2), (by rw [show k = 144 * e by omega]; rfl)⟩
        · skip
          refine j_aload_n h dX10_fill_29 0 rfl rfl ?_
          refine j_get h dX10_fill_30 f_X10_fill_25 0 rfl rfl ?_
          refine j_iload_n h dX10_fill_33 3 rfl rfl ?_
          refine j_callVi (As := [.int (iI k)]) (wr := [(h10, .inr (10, [.ref c0, .ref h2, .ref pk0, .int (iI np)])), (q0, .inl (T 0, 2880, .inl (fun j : Nat => iI ((qF Q (opnS B).2) j)))), (c0, .inl (T 0, 2880, .inl (fun j : Nat => iI ((preP (opnS B).1 B s k) j))))]) (cells' := 0) (slots' := 0) h dX10_fill_34 (ct_X2_isMarked T h2 m0 q0 ((opnS B).2.length : Int) ((opnS B).1) k (by first | assumption | omega)) k_X2_isMarked gX10_fill_X2_isMarked rfl rfl 1 rfl ⟨Nat.le_of_ble_eq_true rfl, Nat.le_of_ble_eq_true rfl⟩ rfl rfl (Nat.le_of_ble_eq_true rfl) ⟨Nat.le_of_ble_eq_true rfl, Nat.le_of_ble_eq_true rfl⟩ rfl rfl [1, 2] [0, 3, 4] rfl rfl rfl rfl (by decide) (fun r9 u9 p4 => ?_)
          obtain ⟨rfl, rfl⟩ := p4
          refine j_eq (ws' := [(h10, .inr (10, [.ref c0, .ref h2, .ref pk0, .int (iI np)])), (q0, .inl (T 0, 2880, .inl (fun j : Nat => iI ((qF Q (opnS B).2) j)))), (c0, .inl (T 0, 2880, .inl (fun j : Nat => iI ((preP (opnS B).1 B s k) j)))), (h2, .inr (2, [.ref m0, .ref q0, .int (iI ((opnS B).2.length : Int))])), (m0, .inl (T 0, 2880, .inl (fun j : Nat => iI ((fun c9 => bI (((opnS B).1) c9)) j))))]) rfl rfl rfl rfl rfl rfl ?_
          refine j_ifeqB h 47 dX10_fill_37 (by decide) (fun c5 => ?_) (fun c5 => ?_)
          · skip
            refine j_iinc (lv' := [(0, .ref h10), (1, .int (iI s)), (2, .int (iI e)), (3, .int (iI (k + 1)))]) h dX10_fill_47 3 [1, 2, 3, 0] rfl (by decide) rfl ?_
            refine j_goto (tgt := 13) h dX10_fill_50 (by decide) ?_
            refine j_ws (ws' := [(h10, .inr (10, [.ref c0, .ref h2, .ref pk0, .int (iI np)])), (h2, .inr (2, [.ref m0, .ref q0, .int (iI ((opnS B).2.length : Int))])), (m0, .inl (T 0, 2880, .inl (fun j : Nat => iI ((fun c9 => bI (((opnS B).1) c9)) j)))), (q0, .inl (T 0, 2880, .inl (fun j : Nat => iI ((qF Q (opnS B).2) j)))), (c0, .inl (T 0, 2880, .inl (fun j : Nat => iI ((preP (opnS B).1 B s k) j))))]) [0, 3, 4, 1, 2] rfl rfl ?_
            refine j_eq (ws' := [(h10, .inr (10, [.ref c0, .ref h2, .ref pk0, .int (iI np)])), (h2, .inr (2, [.ref m0, .ref q0, .int (iI ((opnS B).2.length : Int))])), (m0, .inl (T 0, 2880, .inl (fun j : Nat => iI ((fun c9 => bI ((opnS B).1 c9)) j)))), (q0, .inl (T 0, 2880, .inl (fun j : Nat => iI ((qF Q (opnS B).2) j)))), (c0, .inl (T 0, 2880, .inl (fun j : Nat => iI ((preP (opnS B).1 B s (k + 1)) j))))]) rfl rfl rfl rfl rfl (by rw [preP_f c5]) ?_
            exact ih13 (k + 1) (by first | assumption | omega) (by omega)
          · skip
            refine j_aload_n h dX10_fill_40 0 rfl rfl ?_
            refine j_get h dX10_fill_41 f_X10_fill_24 0 rfl rfl ?_
            refine j_iload_n h dX10_fill_44 3 rfl rfl ?_
            refine j_iload_n h dX10_fill_45 1 rfl rfl ?_
            refine j_iast (f := preP (opnS B).1 B s k) (ws' := [(h10, .inr (10, [.ref c0, .ref h2, .ref pk0, .int (iI np)])), (q0, .inl (T 0, 2880, .inl (fun j : Nat => iI ((qF Q (opnS B).2) j)))), (c0, .inl (T 0, 2880, .inl (fun j : Nat => iI ((upI (preP (opnS B).1 B s k) k s) j)))), (h2, .inr (2, [.ref m0, .ref q0, .int (iI ((opnS B).2.length : Int))])), (m0, .inl (T 0, 2880, .inl (fun j : Nat => iI ((fun c9 => bI (((opnS B).1) c9)) j))))]) h k dX10_fill_46 2 rfl (by decide) (by omega) (by omega) rfl ?_
            refine j_iinc (lv' := [(0, .ref h10), (1, .int (iI s)), (2, .int (iI e)), (3, .int (iI (k + 1)))]) h dX10_fill_47 3 [1, 2, 3, 0] rfl (by decide) rfl ?_
            refine j_goto (tgt := 13) h dX10_fill_50 (by decide) ?_
            refine j_ws (ws' := [(h10, .inr (10, [.ref c0, .ref h2, .ref pk0, .int (iI np)])), (h2, .inr (2, [.ref m0, .ref q0, .int (iI ((opnS B).2.length : Int))])), (m0, .inl (T 0, 2880, .inl (fun j : Nat => iI ((fun c9 => bI (((opnS B).1) c9)) j)))), (q0, .inl (T 0, 2880, .inl (fun j : Nat => iI ((qF Q (opnS B).2) j)))), (c0, .inl (T 0, 2880, .inl (fun j : Nat => iI ((upI (preP (opnS B).1 B s k) k s) j))))]) [0, 3, 4, 1, 2] rfl rfl ?_
            refine j_eq (ws' := [(h10, .inr (10, [.ref c0, .ref h2, .ref pk0, .int (iI np)])), (h2, .inr (2, [.ref m0, .ref q0, .int (iI ((opnS B).2.length : Int))])), (m0, .inl (T 0, 2880, .inl (fun j : Nat => iI ((fun c9 => bI ((opnS B).1 c9)) j)))), (q0, .inl (T 0, 2880, .inl (fun j : Nat => iI ((qF Q (opnS B).2) j)))), (c0, .inl (T 0, 2880, .inl (fun j : Nat => iI ((preP (opnS B).1 B s (k + 1)) j))))]) rfl rfl rfl rfl rfl (by rw [preP_t (by omega) c5]) ?_
            exact ih13 (k + 1) (by first | assumption | omega) (by omega)
  refine j_eq (ws' := [(h10, .inr (10, [.ref c0, .ref h2, .ref pk0, .int (iI np)])), (h2, .inr (2, [.ref m0, .ref q0, .int (iI ((opnS B).2.length : Int))])), (m0, .inl (T 0, 2880, .inl (fun j : Nat => iI ((fun c9 => bI ((opnS B).1 c9)) j)))), (q0, .inl (T 0, 2880, .inl (fun j : Nat => iI ((qF Q (opnS B).2) j)))), (c0, .inl (T 0, 2880, .inl (fun j : Nat => iI ((preP (opnS B).1 B s 0) j))))]) rfl rfl rfl rfl rfl (by rw [preP_0 (fun c h1 h2 => by omega)]) ?_
  exact lp13 _ 0 (by first | assumption | omega) (Nat.lt_succ_self _)

abbrev rmX10_flatten : Room := { frames := 1, cells := 0, slots := 0, locals := 60 }
theorem in_X10_flatten_X10 : ∀ w ∈ u_ws RX10 TX10 4, w ∈ wsX10_flatten := fun w hw => List.mem_cons_of_mem _ (List.mem_append_right _ (hw))
theorem f_X10_flatten_24 : FlOK RX10 24 wsX10_flatten 10 0 := ⟨_, _, _, rfl, by decide, in_X10_flatten_X10, List.mem_of_getElem? (i := 5) rfl⟩
set_option maxHeartbeats 600000 in
set_option maxRecDepth 100000 in
/-- all cubes from a height on become empty -/
theorem ct_X10_flatten (T : Nat → ClassId) (h10 : Nat) (c0 : Nat) (h2 : Nat) (pk0 : Nat) (np : Int) (B : Int → Int) (e : Int) (he : 0 ≤ e ∧ e ≤ 20) : CtV T yX10_flatten wsX10_flatten rmX10_flatten 0 0 [.ref h10, .int (iI e)] [(h10, .inr (10, [.ref c0, .ref h2, .ref pk0, .int (iI np)])), (c0, .inl (T 0, 2880, .inl (fun j : Nat => iI (B j))))] (fun u => u = [(h10, .inr (10, [.ref c0, .ref h2, .ref pk0, .int (iI np)])), (c0, .inl (T 0, 2880, .inl (fun j : Nat => iI ((flatS B e) j))))]) := by
  refine ctV_of (cc := cX10_flatten) (maxL := 3) (ret := none) (by decide +kernel) rfl rfl (Nat.le_of_ble_eq_true rfl) (fun X h hinit hr => ?_)
  refine j_eq (lv' := [(0, .ref h10), (1, .int (iI e))]) rfl rfl rfl rfl rfl rfl ?_
  refine j_iconst h dX10_flatten_0 ?_
  refine j_iload_n h dX10_flatten_1 1 rfl rfl ?_
  refine j_sipush h dX10_flatten_2 (by decide) ?_
  refine j_imul h dX10_flatten_5 ?_
  refine j_mmax h dX10_flatten_6 (by omega) (by omega) (List.mem_of_getElem? (i := 1) rfl) (List.mem_of_getElem? (i := 2) rfl) (List.mem_of_getElem? (i := 3) rfl) (List.mem_of_getElem? (i := 4) rfl) (Nat.le_of_ble_eq_true rfl) (Nat.le_of_ble_eq_true rfl) (Nat.le_of_ble_eq_true rfl) (Nat.le_of_ble_eq_true rfl) ?_
  refine j_istore_n (lv' := [(0, .ref h10), (1, .int (iI e)), (2, .int (iI (if 0 < (e * 144) then (e * 144) else 0)))]) h dX10_flatten_9 [1, 2, 0] rfl (by decide) rfl ?_
  have lp10 : ∀ (n10 : Nat) (k : Int) (hk : 0 ≤ k ∧ k ≤ 2880 ∧ 144 * e ≤ k), ((2880 - k).toNat) < n10 → J X 0 0 10 [(0, .ref h10), (1, .int (iI e)), (2, .int (iI k))] [] [(h10, .inr (10, [.ref c0, .ref h2, .ref pk0, .int (iI np)])), (c0, .inl (T 0, 2880, .inl (fun j : Nat => iI ((preP (fun c => decide (144 * e ≤ c)) B 0 k) j))))] := by
    intro n10
    induction n10 with
    | zero => exact fun k hk hn10 => absurd hn10 (Nat.not_lt_zero _)
    | succ n10 ih10 =>
      intro k hk hn10
      refine j_iload_n h dX10_flatten_10 2 rfl rfl ?_
      refine j_sipush h dX10_flatten_11 (by decide) ?_
      refine j_icmp_ge h 30 dX10_flatten_14 (by decide) (by omega) (by omega) (fun c1 => ?_) (fun c1 => ?_)
      · skip
        exact hr _ _ _ dX10_flatten_30 (show ([(h10, .inr (10, [.ref c0, .ref h2, .ref pk0, .int (iI np)])), (c0, .inl (T 0, 2880, .inl (fun j : Nat => iI ((preP (fun c => decide (144 * e ≤ c)) B 0 k) j))))] : va_W) = [(h10, .inr (10, [.ref c0, .ref h2, .ref pk0, .int (iI np)])), (c0, .inl (T 0, 2880, .inl (fun j : Nat => iI ((flatS B e) j))))] by rw [preP_e (by omega)]; rfl)
      · skip
        refine j_aload_n h dX10_flatten_17 0 rfl rfl ?_
        refine j_get h dX10_flatten_18 f_X10_flatten_24 0 rfl rfl ?_
        refine j_iload_n h dX10_flatten_21 2 rfl rfl ?_
        refine j_iconst h dX10_flatten_22 ?_
        refine j_iast (f := preP (fun c => decide (144 * e ≤ c)) B 0 k) (ws' := [(h10, .inr (10, [.ref c0, .ref h2, .ref pk0, .int (iI np)])), (c0, .inl (T 0, 2880, .inl (fun j : Nat => iI ((upI (preP (fun c => decide (144 * e ≤ c)) B 0 k) k 0) j))))]) h k dX10_flatten_23 1 rfl (by decide) (by omega) (by omega) rfl ?_
        refine j_iinc (lv' := [(0, .ref h10), (1, .int (iI e)), (2, .int (iI (k + 1)))]) h dX10_flatten_24 2 [1, 2, 0] rfl (by decide) rfl ?_
        refine j_goto (tgt := 10) h dX10_flatten_27 (by decide) ?_
        refine j_eq (ws' := [(h10, .inr (10, [.ref c0, .ref h2, .ref pk0, .int (iI np)])), (c0, .inl (T 0, 2880, .inl (fun j : Nat => iI ((preP (fun c => decide (144 * e ≤ c)) B 0 (k + 1)) j))))]) rfl rfl rfl rfl rfl (by rw [preP_t (by omega) (by simp; omega)]) ?_
        exact ih10 (k + 1) (by first | assumption | omega) (by omega)
  refine j_eq (ws' := [(h10, .inr (10, [.ref c0, .ref h2, .ref pk0, .int (iI np)])), (c0, .inl (T 0, 2880, .inl (fun j : Nat => iI ((preP (fun c => decide (144 * e ≤ c)) B 0 (if 0 < (e * 144) then (e * 144) else 0)) j))))]) rfl rfl rfl rfl rfl (by rw [preP_0 (fun c h1 h2 => by split at h2 <;> simp <;> omega)]) ?_
  exact lp10 _ (if 0 < (e * 144) then (e * 144) else 0) (by split <;> omega) (Nat.lt_succ_self _)

abbrev rmX10_dropFloating : Room := { frames := 3, cells := 0, slots := 0, locals := 69 }
theorem in_X10_dropFloating_X10 : ∀ w ∈ u_ws RX10 TX10 4, w ∈ wsX10_dropFloating := fun w hw => List.mem_cons_of_mem _ (List.mem_append_left _ (List.mem_append_right _ (hw)))
theorem f_X10_dropFloating_25 : FlOK RX10 25 wsX10_dropFloating 10 1 := ⟨_, _, _, rfl, by decide, in_X10_dropFloating_X10, List.mem_of_getElem? (i := 1) rfl⟩
theorem f_X10_dropFloating_24 : FlOK RX10 24 wsX10_dropFloating 10 0 := ⟨_, _, _, rfl, by decide, in_X10_dropFloating_X10, List.mem_of_getElem? (i := 2) rfl⟩
set_option maxHeartbeats 600000 in
set_option maxRecDepth 100000 in
/-- all that floats becomes empty -/
theorem ct_X10_dropFloating (T : Nat → ClassId) (h10 : Nat) (c0 : Nat) (h2 : Nat) (pk0 : Nat) (np : Int) (m0 : Nat) (q0 : Nat) (n : Int) (M : Int → Int) (Q : Int → Int) (B : Int → Int) (hB : BOK B) : CtV T yX10_dropFloating wsX10_dropFloating rmX10_dropFloating 0 0 [.ref h10] [(h10, .inr (10, [.ref c0, .ref h2, .ref pk0, .int (iI np)])), (h2, .inr (2, [.ref m0, .ref q0, .int (iI n)])), (m0, .inl (T 0, 2880, .inl (fun j : Nat => iI (M j)))), (q0, .inl (T 0, 2880, .inl (fun j : Nat => iI (Q j)))), (c0, .inl (T 0, 2880, .inl (fun j : Nat => iI (B j))))] (fun u => ∃ n1 : Int, ∃ M1 : Int → Int, ∃ Q1 : Int → Int, u = [(h10, .inr (10, [.ref c0, .ref h2, .ref pk0, .int (iI np)])), (h2, .inr (2, [.ref m0, .ref q0, .int (iI n1)])), (m0, .inl (T 0, 2880, .inl (fun j : Nat => iI (M1 j)))), (q0, .inl (T 0, 2880, .inl (fun j : Nat => iI (Q1 j)))), (c0, .inl (T 0, 2880, .inl (fun j : Nat => iI ((dropS B) j))))]) := by
  refine ctV_of (cc := cX10_dropFloating) (maxL := 2) (ret := none) (by decide +kernel) rfl rfl (Nat.le_of_ble_eq_true rfl) (fun X h hinit hr => ?_)
  refine j_eq (lv' := [(0, .ref h10)]) rfl rfl rfl rfl rfl rfl ?_
  refine j_aload_n h dX10_dropFloating_0 0 rfl rfl ?_
  refine j_get h dX10_dropFloating_1 f_X10_dropFloating_25 0 rfl rfl ?_
  refine j_aload_n h dX10_dropFloating_4 0 rfl rfl ?_
  refine j_get h dX10_dropFloating_5 f_X10_dropFloating_24 0 rfl rfl ?_
  refine j_callVv (As := [.ref c0]) (wr := [(h10, .inr (10, [.ref c0, .ref h2, .ref pk0, .int (iI np)]))]) (cells' := 0) (slots' := 0) h dX10_dropFloating_8 (ct_X2_markStanding T h2 m0 q0 c0 M Q n B (by first | assumption | omega)) k_X2_markStanding gX10_dropFloating_X2_markStanding rfl rfl 1 rfl ⟨Nat.le_of_ble_eq_true rfl, Nat.le_of_ble_eq_true rfl⟩ rfl rfl (Nat.le_of_ble_eq_true rfl) ⟨Nat.le_of_ble_eq_true rfl, Nat.le_of_ble_eq_true rfl⟩ rfl rfl [1, 2, 3, 4] [0] rfl rfl rfl rfl (by decide) (fun u9 p1 => ?_)
  obtain rfl := p1
  refine j_eq (ws' := [(h10, .inr (10, [.ref c0, .ref h2, .ref pk0, .int (iI np)])), (h2, .inr (2, [.ref m0, .ref q0, .int (iI ((stdS B).2.length : Int))])), (m0, .inl (T 0, 2880, .inl (fun j : Nat => iI ((fun c9 => bI ((stdS B).1 c9)) j)))), (q0, .inl (T 0, 2880, .inl (fun j : Nat => iI ((qF Q (stdS B).2) j)))), (c0, .inl (T 0, 2880, .inl (fun j : Nat => iI (B j))))]) rfl rfl rfl rfl rfl rfl ?_
  refine j_iconst h dX10_dropFloating_11 ?_
  refine j_istore_n (lv' := [(0, .ref h10), (1, .int (iI 0))]) h dX10_dropFloating_12 [1, 0] rfl (by decide) rfl ?_
  have lp13 : ∀ (n13 : Nat) (k : Int) (hk : 0 ≤ k ∧ k ≤ 2880), ((2880 - k).toNat) < n13 → J X 0 0 13 [(0, .ref h10), (1, .int (iI k))] [] [(h10, .inr (10, [.ref c0, .ref h2, .ref pk0, .int (iI np)])), (h2, .inr (2, [.ref m0, .ref q0, .int (iI ((stdS B).2.length : Int))])), (m0, .inl (T 0, 2880, .inl (fun j : Nat => iI ((fun c9 => bI ((stdS B).1 c9)) j)))), (q0, .inl (T 0, 2880, .inl (fun j : Nat => iI ((qF Q (stdS B).2) j)))), (c0, .inl (T 0, 2880, .inl (fun j : Nat => iI ((preP (fun c => !(stdS B).1 c) B 0 k) j))))] := by
    intro n13
    induction n13 with
    | zero => exact fun k hk hn13 => absurd hn13 (Nat.not_lt_zero _)
    | succ n13 ih13 =>
      intro k hk hn13
      refine j_iload_n h dX10_dropFloating_13 1 rfl rfl ?_
      refine j_sipush h dX10_dropFloating_14 (by decide) ?_
      refine j_icmp_ge h 44 dX10_dropFloating_17 (by decide) (by omega) (by omega) (fun c2 => ?_) (fun c2 => ?_)
      · skip
        exact hr _ _ _ dX10_dropFloating_44 ⟨((stdS B).2.length : Int), (fun c9 => bI ((stdS B).1 c9)), (qF Q (stdS B).2), (by rw [preP_e (by omega)]; rfl)⟩
      · skip
        refine j_aload_n h dX10_dropFloating_20 0 rfl rfl ?_
        refine j_get h dX10_dropFloating_21 f_X10_dropFloating_25 0 rfl rfl ?_
        refine j_iload_n h dX10_dropFloating_24 1 rfl rfl ?_
        refine j_callVi (As := [.int (iI k)]) (wr := [(h10, .inr (10, [.ref c0, .ref h2, .ref pk0, .int (iI np)])), (q0, .inl (T 0, 2880, .inl (fun j : Nat => iI ((qF Q (stdS B).2) j)))), (c0, .inl (T 0, 2880, .inl (fun j : Nat => iI ((preP (fun c => !(stdS B).1 c) B 0 k) j))))]) (cells' := 0) (slots' := 0) h dX10_dropFloating_25 (ct_X2_isMarked T h2 m0 q0 ((stdS B).2.length : Int) ((stdS B).1) k (by first | assumption | omega)) k_X2_isMarked gX10_dropFloating_X2_isMarked rfl rfl 1 rfl ⟨Nat.le_of_ble_eq_true rfl, Nat.le_of_ble_eq_true rfl⟩ rfl rfl (Nat.le_of_ble_eq_true rfl) ⟨Nat.le_of_ble_eq_true rfl, Nat.le_of_ble_eq_true rfl⟩ rfl rfl [1, 2] [0, 3, 4] rfl rfl rfl rfl (by decide) (fun r9 u9 p3 => ?_)
        obtain ⟨rfl, rfl⟩ := p3
        refine j_eq (ws' := [(h10, .inr (10, [.ref c0, .ref h2, .ref pk0, .int (iI np)])), (q0, .inl (T 0, 2880, .inl (fun j : Nat => iI ((qF Q (stdS B).2) j)))), (c0, .inl (T 0, 2880, .inl (fun j : Nat => iI ((preP (fun c => !(stdS B).1 c) B 0 k) j)))), (h2, .inr (2, [.ref m0, .ref q0, .int (iI ((stdS B).2.length : Int))])), (m0, .inl (T 0, 2880, .inl (fun j : Nat => iI ((fun c9 => bI (((stdS B).1) c9)) j))))]) rfl rfl rfl rfl rfl rfl ?_
        refine j_ifneB h 38 dX10_dropFloating_28 (by decide) (fun c4 => ?_) (fun c4 => ?_)
        · skip
          refine j_iinc (lv' := [(0, .ref h10), (1, .int (iI (k + 1)))]) h dX10_dropFloating_38 1 [1, 0] rfl (by decide) rfl ?_
          refine j_goto (tgt := 13) h dX10_dropFloating_41 (by decide) ?_
          refine j_ws (ws' := [(h10, .inr (10, [.ref c0, .ref h2, .ref pk0, .int (iI np)])), (h2, .inr (2, [.ref m0, .ref q0, .int (iI ((stdS B).2.length : Int))])), (m0, .inl (T 0, 2880, .inl (fun j : Nat => iI ((fun c9 => bI (((stdS B).1) c9)) j)))), (q0, .inl (T 0, 2880, .inl (fun j : Nat => iI ((qF Q (stdS B).2) j)))), (c0, .inl (T 0, 2880, .inl (fun j : Nat => iI ((preP (fun c => !(stdS B).1 c) B 0 k) j))))]) [0, 3, 4, 1, 2] rfl rfl ?_
          refine j_eq (ws' := [(h10, .inr (10, [.ref c0, .ref h2, .ref pk0, .int (iI np)])), (h2, .inr (2, [.ref m0, .ref q0, .int (iI ((stdS B).2.length : Int))])), (m0, .inl (T 0, 2880, .inl (fun j : Nat => iI ((fun c9 => bI ((stdS B).1 c9)) j)))), (q0, .inl (T 0, 2880, .inl (fun j : Nat => iI ((qF Q (stdS B).2) j)))), (c0, .inl (T 0, 2880, .inl (fun j : Nat => iI ((preP (fun c => !(stdS B).1 c) B 0 (k + 1)) j))))]) rfl rfl rfl rfl rfl (by rw [preP_f (by rw [c4]; rfl)]) ?_
          exact ih13 (k + 1) (by first | assumption | omega) (by omega)
        · skip
          refine j_aload_n h dX10_dropFloating_31 0 rfl rfl ?_
          refine j_get h dX10_dropFloating_32 f_X10_dropFloating_24 0 rfl rfl ?_
          refine j_iload_n h dX10_dropFloating_35 1 rfl rfl ?_
          refine j_iconst h dX10_dropFloating_36 ?_
          refine j_iast (f := preP (fun c => !(stdS B).1 c) B 0 k) (ws' := [(h10, .inr (10, [.ref c0, .ref h2, .ref pk0, .int (iI np)])), (q0, .inl (T 0, 2880, .inl (fun j : Nat => iI ((qF Q (stdS B).2) j)))), (c0, .inl (T 0, 2880, .inl (fun j : Nat => iI ((upI (preP (fun c => !(stdS B).1 c) B 0 k) k 0) j)))), (h2, .inr (2, [.ref m0, .ref q0, .int (iI ((stdS B).2.length : Int))])), (m0, .inl (T 0, 2880, .inl (fun j : Nat => iI ((fun c9 => bI (((stdS B).1) c9)) j))))]) h k dX10_dropFloating_37 2 rfl (by decide) (by omega) (by omega) rfl ?_
          refine j_iinc (lv' := [(0, .ref h10), (1, .int (iI (k + 1)))]) h dX10_dropFloating_38 1 [1, 0] rfl (by decide) rfl ?_
          refine j_goto (tgt := 13) h dX10_dropFloating_41 (by decide) ?_
          refine j_ws (ws' := [(h10, .inr (10, [.ref c0, .ref h2, .ref pk0, .int (iI np)])), (h2, .inr (2, [.ref m0, .ref q0, .int (iI ((stdS B).2.length : Int))])), (m0, .inl (T 0, 2880, .inl (fun j : Nat => iI ((fun c9 => bI (((stdS B).1) c9)) j)))), (q0, .inl (T 0, 2880, .inl (fun j : Nat => iI ((qF Q (stdS B).2) j)))), (c0, .inl (T 0, 2880, .inl (fun j : Nat => iI ((upI (preP (fun c => !(stdS B).1 c) B 0 k) k 0) j))))]) [0, 3, 4, 1, 2] rfl rfl ?_
          refine j_eq (ws' := [(h10, .inr (10, [.ref c0, .ref h2, .ref pk0, .int (iI np)])), (h2, .inr (2, [.ref m0, .ref q0, .int (iI ((stdS B).2.length : Int))])), (m0, .inl (T 0, 2880, .inl (fun j : Nat => iI ((fun c9 => bI ((stdS B).1 c9)) j)))), (q0, .inl (T 0, 2880, .inl (fun j : Nat => iI ((qF Q (stdS B).2) j)))), (c0, .inl (T 0, 2880, .inl (fun j : Nat => iI ((preP (fun c => !(stdS B).1 c) B 0 (k + 1)) j))))]) rfl rfl rfl rfl rfl (by rw [preP_t (by omega) (by rw [c4]; rfl)]) ?_
          exact ih13 (k + 1) (by first | assumption | omega) (by omega)
  refine j_eq (ws' := [(h10, .inr (10, [.ref c0, .ref h2, .ref pk0, .int (iI np)])), (h2, .inr (2, [.ref m0, .ref q0, .int (iI ((stdS B).2.length : Int))])), (m0, .inl (T 0, 2880, .inl (fun j : Nat => iI ((fun c9 => bI ((stdS B).1 c9)) j)))), (q0, .inl (T 0, 2880, .inl (fun j : Nat => iI ((qF Q (stdS B).2) j)))), (c0, .inl (T 0, 2880, .inl (fun j : Nat => iI ((preP (fun c => !(stdS B).1 c) B 0 0) j))))]) rfl rfl rfl rfl rfl (by rw [preP_0 (fun c h1 h2 => by omega)]) ?_
  exact lp13 _ 0 (by first | assumption | omega) (Nat.lt_succ_self _)

abbrev rmX10_turnBesidePicked : Room := { frames := 1, cells := 0, slots := 0, locals := 21 }
theorem in_X10_turnBesidePicked_X10 : ∀ w ∈ u_ws RX10 TX10 4, w ∈ wsX10_turnBesidePicked := fun w hw => List.mem_cons_of_mem _ (List.mem_append_right _ (hw))
theorem f_X10_turnBesidePicked_15 : FlOK RX10 15 wsX10_turnBesidePicked 10 3 := ⟨_, _, _, rfl, by decide, in_X10_turnBesidePicked_X10, List.mem_of_getElem? (i := 1) rfl⟩
theorem f_X10_turnBesidePicked_9 : FlOK RX10 9 wsX10_turnBesidePicked 10 2 := ⟨_, _, _, rfl, by decide, in_X10_turnBesidePicked_X10, List.mem_of_getElem? (i := 2) rfl⟩
theorem f_X10_turnBesidePicked_24 : FlOK RX10 24 wsX10_turnBesidePicked 10 0 := ⟨_, _, _, rfl, by decide, in_X10_turnBesidePicked_X10, List.mem_of_getElem? (i := 3) rfl⟩
set_option maxHeartbeats 600000 in
set_option maxRecDepth 100000 in
/-- goes on from the picked ones from a on -/
theorem ct_X10_turnBesidePicked (T : Nat → ClassId) (h10 : Nat) (c0 : Nat) (h2 : Nat) (pk0 : Nat) (P0 : Int → Int) (x : TX) (a : Int) (s : Int) (t : Int) (hx : TV s x) (hst : s ≠ t) (hs : 1 ≤ s ∧ s ≤ 7) (ht : 0 ≤ t ∧ t ≤ 7) (ha : 0 ≤ a ∧ a ≤ (x.2.2.length : Int)) : CtI T yX10_turnBesidePicked wsX10_turnBesidePicked rmX10_turnBesidePicked 0 0 [.ref h10, .int (iI a), .int (iI s), .int (iI t)] [(h10, .inr (10, [.ref c0, .ref h2, .ref pk0, .int (iI (x.2.2.length : Int))])), (pk0, .inl (T 0, 2880, .inl (fun j : Nat => iI ((qF P0 x.2.2) j)))), (c0, .inl (T 0, 2880, .inl (fun j : Nat => iI (x.1 j))))] (fun r8 u => r8 = (iI (x.2.2.length : Int)) ∧ u = [(h10, .inr (10, [.ref c0, .ref h2, .ref pk0, .int (iI ((tbL s t x.2.2 a (x.2.2.length : Int) x).2.2.length : Int))])), (pk0, .inl (T 0, 2880, .inl (fun j : Nat => iI ((qF P0 (tbL s t x.2.2 a (x.2.2.length : Int) x).2.2) j)))), (c0, .inl (T 0, 2880, .inl (fun j : Nat => iI (((tbL s t x.2.2 a (x.2.2.length : Int) x).1) j))))]) := by
  refine ctI_of (cc := cX10_turnBesidePicked) (maxL := 8) (ret := (some .int)) (by decide +kernel) rfl rfl (fun r u hp => by obtain ⟨rfl, -⟩ := hp; rfl) (Nat.le_of_ble_eq_true rfl) (fun X h hinit hr => ?_)
  refine j_eq (lv' := [(0, .ref h10), (1, .int (iI a)), (2, .int (iI s)), (3, .int (iI t))]) rfl rfl rfl rfl rfl rfl ?_
  have hl9 := SV_len hx.1
  refine j_aload_n h dX10_turnBesidePicked_0 0 rfl rfl ?_
  refine j_get h dX10_turnBesidePicked_1 f_X10_turnBesidePicked_15 0 rfl rfl ?_
  refine j_istore (lv' := [(0, .ref h10), (1, .int (iI a)), (2, .int (iI s)), (3, .int (iI t)), (4, .int (iI (x.2.2.length : Int)))]) h dX10_turnBesidePicked_4 [1, 2, 3, 4, 0] (by decide) rfl ?_
  refine j_iload_n h dX10_turnBesidePicked_6 1 rfl rfl ?_
  refine j_istore (lv' := [(0, .ref h10), (1, .int (iI a)), (2, .int (iI s)), (3, .int (iI t)), (4, .int (iI (x.2.2.length : Int))), (5, .int (iI a))]) h dX10_turnBesidePicked_7 [1, 2, 3, 4, 5, 0] (by decide) rfl ?_
  have lp9 : ∀ (n9 : Nat) (i : Int) (y : TX) (hi : a ≤ i ∧ i ≤ (x.2.2.length : Int)) (hy : y = tbL s t x.2.2 a i x) (hyv : TV s y) (hq : (x.2.2.length : Int) ≤ (y.2.2.length : Int) ∧ ∀ j : Int, 0 ≤ j → j < (x.2.2.length : Int) → y.2.2.getD j.toNat 0 = x.2.2.getD j.toNat 0), (((x.2.2.length : Int) - i).toNat) < n9 → J X 0 0 9 [(0, .ref h10), (1, .int (iI a)), (2, .int (iI s)), (3, .int (iI t)), (4, .int (iI (x.2.2.length : Int))), (5, .int (iI i))] [] [(h10, .inr (10, [.ref c0, .ref h2, .ref pk0, .int (iI (y.2.2.length : Int))])), (pk0, .inl (T 0, 2880, .inl (fun j : Nat => iI ((qF P0 y.2.2) j)))), (c0, .inl (T 0, 2880, .inl (fun j : Nat => iI (y.1 j))))] := by
    intro n9
    induction n9 with
    | zero => exact fun i y hi hy hyv hq hn9 => absurd hn9 (Nat.not_lt_zero _)
    | succ n9 ih9 =>
      intro i y hi hy hyv hq hn9
      refine j_iload h dX10_turnBesidePicked_9 5 rfl ?_
      refine j_iload h dX10_turnBesidePicked_11 4 rfl ?_
      refine j_icmp_ge h 91 dX10_turnBesidePicked_13 (by decide) (by omega) (by omega) (fun c1 => ?_) (fun c1 => ?_)
      · skip
        refine j_iload h dX10_turnBesidePicked_91 4 rfl ?_
        exact hr _ _ _ _ dX10_turnBesidePicked_93 ⟨rfl, (show ([(h10, .inr (10, [.ref c0, .ref h2, .ref pk0, .int (iI (y.2.2.length : Int))])), (pk0, .inl (T 0, 2880, .inl (fun j : Nat => iI ((qF P0 y.2.2) j)))), (c0, .inl (T 0, 2880, .inl (fun j : Nat => iI (y.1 j))))] : va_W) = [(h10, .inr (10, [.ref c0, .ref h2, .ref pk0, .int (iI ((tbL s t x.2.2 a (x.2.2.length : Int) x).2.2.length : Int))])), (pk0, .inl (T 0, 2880, .inl (fun j : Nat => iI ((qF P0 (tbL s t x.2.2 a (x.2.2.length : Int) x).2.2) j)))), (c0, .inl (T 0, 2880, .inl (fun j : Nat => iI (((tbL s t x.2.2 a (x.2.2.length : Int) x).1) j))))] by rw [show y = (tbL s t x.2.2 a (x.2.2.length : Int) x) by rw [hy, show i = (x.2.2.length : Int) by omega]])⟩
      · skip
        refine j_iload h dX10_turnBesidePicked_16 5 rfl ?_
        refine j_sipush h dX10_turnBesidePicked_18 (by decide) ?_
        refine j_icmp_ge h 91 dX10_turnBesidePicked_21 (by decide) (by omega) (by omega) (fun c2 => ?_) (fun c2 => ?_)
        · skip
          refine j_iload h dX10_turnBesidePicked_91 4 rfl ?_
          exact hr _ _ _ _ dX10_turnBesidePicked_93 ⟨rfl, (show ([(h10, .inr (10, [.ref c0, .ref h2, .ref pk0, .int (iI (y.2.2.length : Int))])), (pk0, .inl (T 0, 2880, .inl (fun j : Nat => iI ((qF P0 y.2.2) j)))), (c0, .inl (T 0, 2880, .inl (fun j : Nat => iI (y.1 j))))] : va_W) = [(h10, .inr (10, [.ref c0, .ref h2, .ref pk0, .int (iI ((tbL s t x.2.2 a (x.2.2.length : Int) x).2.2.length : Int))])), (pk0, .inl (T 0, 2880, .inl (fun j : Nat => iI ((qF P0 (tbL s t x.2.2 a (x.2.2.length : Int) x).2.2) j)))), (c0, .inl (T 0, 2880, .inl (fun j : Nat => iI (((tbL s t x.2.2 a (x.2.2.length : Int) x).1) j))))] by rw [show y = (tbL s t x.2.2 a (x.2.2.length : Int) x) by rw [hy, show i = (x.2.2.length : Int) by omega]])⟩
        · skip
          refine j_iconst h dX10_turnBesidePicked_24 ?_
          refine j_istore (lv' := [(0, .ref h10), (1, .int (iI a)), (2, .int (iI s)), (3, .int (iI t)), (4, .int (iI (x.2.2.length : Int))), (5, .int (iI i)), (6, .int (iI 0))]) h dX10_turnBesidePicked_25 [1, 2, 3, 4, 5, 6, 0] (by decide) rfl ?_
          have lp27 : ∀ (n27 : Nat) (w : Int) (z : TX) (hw : 0 ≤ w ∧ w ≤ 6) (hz : z = tbI s t (x.2.2.getD i.toNat 0) w y) (hzv : TV s z) (hqz : (x.2.2.length : Int) ≤ (z.2.2.length : Int) ∧ ∀ j : Int, 0 ≤ j → j < (x.2.2.length : Int) → z.2.2.getD j.toNat 0 = x.2.2.getD j.toNat 0), ((6 - w).toNat) < n27 → J X 0 0 27 [(0, .ref h10), (1, .int (iI a)), (2, .int (iI s)), (3, .int (iI t)), (4, .int (iI (x.2.2.length : Int))), (5, .int (iI i)), (6, .int (iI w))] [] [(h10, .inr (10, [.ref c0, .ref h2, .ref pk0, .int (iI (z.2.2.length : Int))])), (pk0, .inl (T 0, 2880, .inl (fun j : Nat => iI ((qF P0 z.2.2) j)))), (c0, .inl (T 0, 2880, .inl (fun j : Nat => iI (z.1 j))))] := by
            intro n27
            induction n27 with
            | zero => exact fun w z hw hz hzv hqz hn27 => absurd hn27 (Nat.not_lt_zero _)
            | succ n27 ih27 =>
              intro w z hw hz hzv hqz hn27
              have hcr := SV_get hx.1 (i := i) (by omega)
              have hE := hzv.2.1
              have hl8 := SV_len hzv.1
              refine j_iload h dX10_turnBesidePicked_27 6 rfl ?_
              refine j_bipush h dX10_turnBesidePicked_29 (by decide) ?_
              refine j_icmp_ge h 85 dX10_turnBesidePicked_31 (by decide) (by omega) (by omega) (fun c3 => ?_) (fun c3 => ?_)
              · skip
                refine j_iinc (lv' := [(0, .ref h10), (1, .int (iI a)), (2, .int (iI s)), (3, .int (iI t)), (4, .int (iI (x.2.2.length : Int))), (5, .int (iI (i + 1))), (6, .int (iI w))]) h dX10_turnBesidePicked_85 5 [1, 2, 3, 4, 5, 0, 6] rfl (by decide) rfl ?_
                refine j_goto (tgt := 9) h dX10_turnBesidePicked_88 (by decide) ?_
                refine j_lv (lv' := [(0, .ref h10), (1, .int (iI a)), (2, .int (iI s)), (3, .int (iI t)), (4, .int (iI (x.2.2.length : Int))), (5, .int (iI (i + 1)))]) [0, 1, 2, 3, 4, 5] rfl ?_
                exact ih9 (i + 1) z (by first | assumption | omega) (by rw [tbL_s (by omega), ← hy]; rw [show w = 6 by omega] at hz; exact hz) (by exact hzv) (by exact hqz) (by omega)
              · skip
                refine j_aload_n h dX10_turnBesidePicked_34 0 rfl rfl ?_
                refine j_get h dX10_turnBesidePicked_35 f_X10_turnBesidePicked_9 0 rfl rfl ?_
                refine j_iload h dX10_turnBesidePicked_38 5 rfl ?_
                refine j_iald (f := qF P0 z.2.2) h i dX10_turnBesidePicked_40 1 rfl (by decide) (by omega) (by omega) ?_
                rw [show ((qF P0 z.2.2) i) = (x.2.2.getD i.toNat 0) by rw [qF_at (by omega)]; exact hqz.2 i (by omega) (by omega)]
                refine j_iload h dX10_turnBesidePicked_41 6 rfl ?_
                refine j_callSNi (As := [.int (iI (x.2.2.getD i.toNat 0)), .int (iI w)]) (wr := [(h10, .inr (10, [.ref c0, .ref h2, .ref pk0, .int (iI (z.2.2.length : Int))])), (pk0, .inl (T 0, 2880, .inl (fun j : Nat => iI ((qF P0 z.2.2) j)))), (c0, .inl (T 0, 2880, .inl (fun j : Nat => iI (z.1 j))))]) (cells' := 0) (slots' := 0) h dX10_turnBesidePicked_43 (ct_X11_beside T (x.2.2.getD i.toNat 0) w (by first | assumption | omega) (by first | assumption | omega)) k_X11_beside gX10_turnBesidePicked_X11_beside_n79 (List.mem_of_getElem? (i := 16) rfl) (List.mem_of_getElem? (i := 5) rfl) (List.mem_of_getElem? (i := 4) rfl) ⟨Nat.le_of_ble_eq_true rfl, Nat.le_of_ble_eq_true rfl⟩ rfl rfl (Nat.le_of_ble_eq_true rfl) ⟨Nat.le_of_ble_eq_true rfl, Nat.le_of_ble_eq_true rfl⟩ rfl rfl [] [0, 1, 2] rfl rfl rfl rfl (by decide) (fun r9 u9 p4 => ?_)
                obtain ⟨rfl, rfl⟩ := p4
                have hb9 := @bes_rng (x.2.2.getD i.toNat 0) w (by omega)
                refine j_eq (ws' := [(h10, .inr (10, [.ref c0, .ref h2, .ref pk0, .int (iI (z.2.2.length : Int))])), (pk0, .inl (T 0, 2880, .inl (fun j : Nat => iI ((qF P0 z.2.2) j)))), (c0, .inl (T 0, 2880, .inl (fun j : Nat => iI (z.1 j))))]) rfl rfl rfl rfl rfl rfl ?_
                refine j_istore (lv' := [(0, .ref h10), (1, .int (iI a)), (2, .int (iI s)), (3, .int (iI t)), (4, .int (iI (x.2.2.length : Int))), (5, .int (iI i)), (6, .int (iI w)), (7, .int (iI (bes (x.2.2.getD i.toNat 0) w)))]) h dX10_turnBesidePicked_46 [1, 2, 3, 4, 5, 6, 7, 0] (by decide) rfl ?_
                refine j_iload h dX10_turnBesidePicked_48 7 rfl ?_
                refine j_iconst h dX10_turnBesidePicked_50 ?_
                refine j_icmp_eq h 79 dX10_turnBesidePicked_51 (by decide) (by omega) (by omega) (fun c5 => ?_) (fun c5 => ?_)
                · skip
                  refine j_iinc (lv' := [(0, .ref h10), (1, .int (iI a)), (2, .int (iI s)), (3, .int (iI t)), (4, .int (iI (x.2.2.length : Int))), (5, .int (iI i)), (6, .int (iI (w + 1))), (7, .int (iI (bes (x.2.2.getD i.toNat 0) w)))]) h dX10_turnBesidePicked_79 6 [1, 2, 3, 4, 5, 6, 0, 7] rfl (by decide) rfl ?_
                  refine j_goto (tgt := 27) h dX10_turnBesidePicked_82 (by decide) ?_
                  refine j_lv (lv' := [(0, .ref h10), (1, .int (iI a)), (2, .int (iI s)), (3, .int (iI t)), (4, .int (iI (x.2.2.length : Int))), (5, .int (iI i)), (6, .int (iI (w + 1)))]) [0, 1, 2, 3, 4, 5, 6] rfl ?_
                  exact ih27 (w + 1) z (by first | assumption | omega) (by rw [tbI_no (by omega) c5]; exact hz) (by exact hzv) (by exact hqz) (by omega)
                · skip
                  refine j_aload_n h dX10_turnBesidePicked_54 0 rfl rfl ?_
                  refine j_get h dX10_turnBesidePicked_55 f_X10_turnBesidePicked_24 0 rfl rfl ?_
                  refine j_iload h dX10_turnBesidePicked_58 7 rfl ?_
                  refine j_iald (f := z.1) h (bes (x.2.2.getD i.toNat 0) w) dX10_turnBesidePicked_60 2 rfl (by decide) (by omega) (by omega) ?_
                  have e6 := hE (bes (x.2.2.getD i.toNat 0) w)
                  refine j_iload_n h dX10_turnBesidePicked_61 2 rfl rfl ?_
                  refine j_icmp_ne h 79 dX10_turnBesidePicked_62 (by decide) (by omega) (by omega) (fun c7 => ?_) (fun c7 => ?_)
                  · skip
                    refine j_iinc (lv' := [(0, .ref h10), (1, .int (iI a)), (2, .int (iI s)), (3, .int (iI t)), (4, .int (iI (x.2.2.length : Int))), (5, .int (iI i)), (6, .int (iI (w + 1))), (7, .int (iI (bes (x.2.2.getD i.toNat 0) w)))]) h dX10_turnBesidePicked_79 6 [1, 2, 3, 4, 5, 6, 0, 7] rfl (by decide) rfl ?_
                    refine j_goto (tgt := 27) h dX10_turnBesidePicked_82 (by decide) ?_
                    refine j_lv (lv' := [(0, .ref h10), (1, .int (iI a)), (2, .int (iI s)), (3, .int (iI t)), (4, .int (iI (x.2.2.length : Int))), (5, .int (iI i)), (6, .int (iI (w + 1)))]) [0, 1, 2, 3, 4, 5, 6] rfl ?_
                    exact ih27 (w + 1) z (by first | assumption | omega) (by rw [tbI_ns (by omega) (by rw [← hz]; exact c7)]; exact hz) (by exact hzv) (by exact hqz) (by omega)
                  · skip
                    refine j_aload_n h dX10_turnBesidePicked_65 0 rfl rfl ?_
                    refine j_get h dX10_turnBesidePicked_66 f_X10_turnBesidePicked_24 0 rfl rfl ?_
                    refine j_iload h dX10_turnBesidePicked_69 7 rfl ?_
                    refine j_iload_n h dX10_turnBesidePicked_71 3 rfl rfl ?_
                    refine j_iast (f := z.1) (ws' := [(h10, .inr (10, [.ref c0, .ref h2, .ref pk0, .int (iI (z.2.2.length : Int))])), (pk0, .inl (T 0, 2880, .inl (fun j : Nat => iI ((qF P0 z.2.2) j)))), (c0, .inl (T 0, 2880, .inl (fun j : Nat => iI ((upI z.1 (bes (x.2.2.getD i.toNat 0) w) t) j))))]) h (bes (x.2.2.getD i.toNat 0) w) dX10_turnBesidePicked_72 2 rfl (by decide) (by omega) (by omega) rfl ?_
                    refine j_aload_n h dX10_turnBesidePicked_73 0 rfl rfl ?_
                    refine j_iload h dX10_turnBesidePicked_74 7 rfl ?_
                    refine j_callVv (As := [.int (iI (bes (x.2.2.getD i.toNat 0) w))]) (wr := [(c0, .inl (T 0, 2880, .inl (fun j : Nat => iI ((upI z.1 (bes (x.2.2.getD i.toNat 0) w) t) j))))]) (cells' := 0) (slots' := 0) h dX10_turnBesidePicked_76 (ct_X10_pick T h10 c0 h2 pk0 P0 z.2.2 (bes (x.2.2.getD i.toNat 0) w) (by exact SV_lt hzv.1 (by omega) (TV_new hzv (by omega) c7))) k_X10_pick gX10_turnBesidePicked_X10_pick rfl rfl 0 rfl ⟨Nat.le_of_ble_eq_true rfl, Nat.le_of_ble_eq_true rfl⟩ rfl rfl (Nat.le_of_ble_eq_true rfl) ⟨Nat.le_of_ble_eq_true rfl, Nat.le_of_ble_eq_true rfl⟩ rfl rfl [0, 1] [2] rfl rfl rfl rfl (by decide) (fun u9 p8 => ?_)
                    obtain rfl := p8
                    refine j_eq (ws' := [(c0, .inl (T 0, 2880, .inl (fun j : Nat => iI ((upI z.1 (bes (x.2.2.getD i.toNat 0) w) t) j)))), (h10, .inr (10, [.ref c0, .ref h2, .ref pk0, .int (iI ((z.2.2 ++ [(bes (x.2.2.getD i.toNat 0) w)]).length : Int))])), (pk0, .inl (T 0, 2880, .inl (fun j : Nat => iI ((qF P0 (z.2.2 ++ [(bes (x.2.2.getD i.toNat 0) w)])) j))))]) rfl rfl rfl rfl rfl rfl ?_
                    refine j_iinc (lv' := [(0, .ref h10), (1, .int (iI a)), (2, .int (iI s)), (3, .int (iI t)), (4, .int (iI (x.2.2.length : Int))), (5, .int (iI i)), (6, .int (iI (w + 1))), (7, .int (iI (bes (x.2.2.getD i.toNat 0) w)))]) h dX10_turnBesidePicked_79 6 [1, 2, 3, 4, 5, 6, 0, 7] rfl (by decide) rfl ?_
                    refine j_goto (tgt := 27) h dX10_turnBesidePicked_82 (by decide) ?_
                    refine j_ws (ws' := [(h10, .inr (10, [.ref c0, .ref h2, .ref pk0, .int (iI ((z.2.2 ++ [(bes (x.2.2.getD i.toNat 0) w)]).length : Int))])), (pk0, .inl (T 0, 2880, .inl (fun j : Nat => iI ((qF P0 (z.2.2 ++ [(bes (x.2.2.getD i.toNat 0) w)])) j)))), (c0, .inl (T 0, 2880, .inl (fun j : Nat => iI ((upI z.1 (bes (x.2.2.getD i.toNat 0) w) t) j))))]) [1, 2, 0] rfl rfl ?_
                    refine j_lv (lv' := [(0, .ref h10), (1, .int (iI a)), (2, .int (iI s)), (3, .int (iI t)), (4, .int (iI (x.2.2.length : Int))), (5, .int (iI i)), (6, .int (iI (w + 1)))]) [0, 1, 2, 3, 4, 5, 6] rfl ?_
                    refine j_eq (ws' := [(h10, .inr (10, [.ref c0, .ref h2, .ref pk0, .int (iI ((upI z.1 (bes (x.2.2.getD i.toNat 0) w) t, visit z.2 (bes (x.2.2.getD i.toNat 0) w)).2.2.length : Int))])), (pk0, .inl (T 0, 2880, .inl (fun j : Nat => iI ((qF P0 (upI z.1 (bes (x.2.2.getD i.toNat 0) w) t, visit z.2 (bes (x.2.2.getD i.toNat 0) w)).2.2) j)))), (c0, .inl (T 0, 2880, .inl (fun j : Nat => iI (((upI z.1 (bes (x.2.2.getD i.toNat 0) w) t, visit z.2 (bes (x.2.2.getD i.toNat 0) w)).1) j))))]) rfl rfl rfl rfl rfl (by show _ = _; rw [visit_f (TV_new hzv (by omega) c7)]) ?_
                    exact ih27 (w + 1) (upI z.1 (bes (x.2.2.getD i.toNat 0) w) t, visit z.2 (bes (x.2.2.getD i.toNat 0) w)) (by first | assumption | omega) (by rw [tbI_yes (by omega) c5 (by rw [← hz]; exact c7), ← hz]) (by exact TV_go hzv hst ht (by omega)) (by have q9 := visit_len z.2 (bes (x.2.2.getD i.toNat 0) w); exact ⟨by show _ ≤ ((visit z.2 (bes (x.2.2.getD i.toNat 0) w)).2.length : Int); omega, fun j h1 h2 => by show (visit z.2 (bes (x.2.2.getD i.toNat 0) w)).2.getD j.toNat 0 = _; rw [visit_get (by omega)]; exact hqz.2 j h1 h2⟩) (by omega)
          exact lp27 _ 0 y (by first | assumption | omega) (by rfl) (by exact hyv) (by exact hq) (Nat.lt_succ_self _)
  exact lp9 _ a x (by first | assumption | omega) (by exact (tbL_0 _ _ _ _ _).symm) (by exact hx) (by exact ⟨Int.le_refl _, fun _ _ _ => rfl⟩) (Nat.lt_succ_self _)

abbrev rmX10_turn : Room := { frames := 3, cells := 0, slots := 0, locals := 69 }
theorem in_X10_turn_X10 : ∀ w ∈ u_ws RX10 TX10 4, w ∈ wsX10_turn := fun w hw => List.mem_cons_of_mem _ (List.mem_append_left _ (List.mem_append_right _ (hw)))
theorem f_X10_turn_25 : FlOK RX10 25 wsX10_turn 10 1 := ⟨_, _, _, rfl, by decide, in_X10_turn_X10, List.mem_of_getElem? (i := 1) rfl⟩
theorem f_X10_turn_24 : FlOK RX10 24 wsX10_turn 10 0 := ⟨_, _, _, rfl, by decide, in_X10_turn_X10, List.mem_of_getElem? (i := 2) rfl⟩
theorem f_X10_turn_15 : FlOK RX10 15 wsX10_turn 10 3 := ⟨_, _, _, rfl, by decide, in_X10_turn_X10, List.mem_of_getElem? (i := 3) rfl⟩
theorem k_X10_turnBesidePicked : CkOK yX10_turnBesidePicked wsX10_turnBesidePicked rmX10_turnBesidePicked 0 0 cX10_turnBesidePicked 8 (some .int) 3 := ⟨⟨_, rfl⟩, rfl, rfl, by decide +kernel⟩
set_option maxHeartbeats 600000 in
set_option maxRecDepth 100000 in
/-- n times what is s and bare, then what is beside it, becomes t -/
theorem ct_X10_turn (T : Nat → ClassId) (h10 : Nat) (c0 : Nat) (h2 : Nat) (pk0 : Nat) (np : Int) (m0 : Nat) (q0 : Nat) (n : Int) (M : Int → Int) (Q : Int → Int) (P : Int → Int) (B : Int → Int) (s : Int) (t : Int) (e : Int) (hB : BOK B) (hs : 1 ≤ s ∧ s ≤ 7) (ht : 0 ≤ t ∧ t ≤ 7) (he : 1 ≤ e ∧ e ≤ 20) : CtV T yX10_turn wsX10_turn rmX10_turn 0 0 [.ref h10, .int (iI s), .int (iI t), .int (iI e)] [(h10, .inr (10, [.ref c0, .ref h2, .ref pk0, .int (iI np)])), (h2, .inr (2, [.ref m0, .ref q0, .int (iI n)])), (m0, .inl (T 0, 2880, .inl (fun j : Nat => iI (M j)))), (q0, .inl (T 0, 2880, .inl (fun j : Nat => iI (Q j)))), (pk0, .inl (T 0, 2880, .inl (fun j : Nat => iI (P j)))), (c0, .inl (T 0, 2880, .inl (fun j : Nat => iI (B j))))] (fun u => ∃ np1 : Int, ∃ n1 : Int, ∃ M1 : Int → Int, ∃ Q1 : Int → Int, ∃ P1 : Int → Int, u = [(h10, .inr (10, [.ref c0, .ref h2, .ref pk0, .int (iI np1)])), (h2, .inr (2, [.ref m0, .ref q0, .int (iI n1)])), (m0, .inl (T 0, 2880, .inl (fun j : Nat => iI (M1 j)))), (q0, .inl (T 0, 2880, .inl (fun j : Nat => iI (Q1 j)))), (pk0, .inl (T 0, 2880, .inl (fun j : Nat => iI (P1 j)))), (c0, .inl (T 0, 2880, .inl (fun j : Nat => iI ((turnC B s t e) j))))]) := by
  refine ctV_of (cc := cX10_turn) (maxL := 6) (ret := none) (by decide +kernel) rfl rfl (Nat.le_of_ble_eq_true rfl) (fun X h hinit hr => ?_)
  refine j_eq (lv' := [(0, .ref h10), (1, .int (iI s)), (2, .int (iI t)), (3, .int (iI e))]) rfl rfl rfl rfl rfl rfl ?_
  refine j_iload_n h dX10_turn_0 1 rfl rfl ?_
  refine j_iload_n h dX10_turn_1 2 rfl rfl ?_
  refine j_icmp_ne h 6 dX10_turn_2 (by decide) (by omega) (by omega) (fun c1 => ?_) (fun c1 => ?_)
  · skip
    refine j_aload_n h dX10_turn_6 0 rfl rfl ?_
    refine j_get h dX10_turn_7 f_X10_turn_25 0 rfl rfl ?_
    refine j_aload_n h dX10_turn_10 0 rfl rfl ?_
    refine j_get h dX10_turn_11 f_X10_turn_24 0 rfl rfl ?_
    refine j_callVv (As := [.ref c0]) (wr := [(h10, .inr (10, [.ref c0, .ref h2, .ref pk0, .int (iI np)])), (pk0, .inl (T 0, 2880, .inl (fun j : Nat => iI (P j))))]) (cells' := 0) (slots' := 0) h dX10_turn_14 (ct_X2_markOpen T h2 m0 q0 c0 M Q n B (by first | assumption | omega)) k_X2_markOpen gX10_turn_X2_markOpen rfl rfl 1 rfl ⟨Nat.le_of_ble_eq_true rfl, Nat.le_of_ble_eq_true rfl⟩ rfl rfl (Nat.le_of_ble_eq_true rfl) ⟨Nat.le_of_ble_eq_true rfl, Nat.le_of_ble_eq_true rfl⟩ rfl rfl [1, 2, 3, 5] [0, 4] rfl rfl rfl rfl (by decide) (fun u9 p2 => ?_)
    obtain rfl := p2
    refine j_eq (ws' := [(h10, .inr (10, [.ref c0, .ref h2, .ref pk0, .int (iI np)])), (pk0, .inl (T 0, 2880, .inl (fun j : Nat => iI (P j)))), (h2, .inr (2, [.ref m0, .ref q0, .int (iI ((opnS B).2.length : Int))])), (m0, .inl (T 0, 2880, .inl (fun j : Nat => iI ((fun c9 => bI ((opnS B).1 c9)) j)))), (q0, .inl (T 0, 2880, .inl (fun j : Nat => iI ((qF Q (opnS B).2) j)))), (c0, .inl (T 0, 2880, .inl (fun j : Nat => iI (B j))))]) rfl rfl rfl rfl rfl rfl ?_
    refine j_aload_n h dX10_turn_17 0 rfl rfl ?_
    refine j_iconst h dX10_turn_18 ?_
    refine j_iload_n h dX10_turn_19 1 rfl rfl ?_
    refine j_ishl h dX10_turn_20 (by omega) ?_
    have hp2 := pow2_rng (s := s) (by omega)
    refine j_callVv (As := [.int (iI (1 * 2 ^ s.toNat))]) (wr := [(q0, .inl (T 0, 2880, .inl (fun j : Nat => iI ((qF Q (opnS B).2) j))))]) (cells' := 0) (slots' := 0) h dX10_turn_21 (ct_X10_pickExposed T h10 c0 h2 pk0 np m0 q0 ((opnS B).2.length : Int) ((opnS B).1) P B (1 * 2 ^ s.toNat) (by first | assumption | omega) (by first | assumption | omega)) k_X10_pickExposed gX10_turn_X10_pickExposed rfl rfl 0 rfl ⟨Nat.le_of_ble_eq_true rfl, Nat.le_of_ble_eq_true rfl⟩ rfl rfl (Nat.le_of_ble_eq_true rfl) ⟨Nat.le_of_ble_eq_true rfl, Nat.le_of_ble_eq_true rfl⟩ rfl rfl [0, 2, 3, 1, 5] [4] rfl rfl rfl rfl (by decide) (fun u9 p3 => ?_)
    obtain rfl := p3
    refine j_eq (ws' := [(q0, .inl (T 0, 2880, .inl (fun j : Nat => iI ((qF Q (opnS B).2) j)))), (h10, .inr (10, [.ref c0, .ref h2, .ref pk0, .int (iI ((pkI (fun c => hk (1 * 2 ^ s.toNat) (B c) && expoP ((opnS B).1) c) 2880).length : Int))])), (h2, .inr (2, [.ref m0, .ref q0, .int (iI ((opnS B).2.length : Int))])), (m0, .inl (T 0, 2880, .inl (fun j : Nat => iI ((fun c9 => bI (((opnS B).1) c9)) j)))), (pk0, .inl (T 0, 2880, .inl (fun j : Nat => iI ((qF P (pkI (fun c => hk (1 * 2 ^ s.toNat) (B c) && expoP ((opnS B).1) c) 2880)) j)))), (c0, .inl (T 0, 2880, .inl (fun j : Nat => iI (B j))))]) rfl rfl rfl rfl rfl rfl ?_
    have hl9 := pkI_len (P := (bareP B (1 * 2 ^ s.toNat))) (k := 2880) (by omega)
    refine j_aload_n h dX10_turn_24 0 rfl rfl ?_
    refine j_iload_n h dX10_turn_25 2 rfl rfl ?_
    refine j_callVv (As := [.int (iI t)]) (wr := [(q0, .inl (T 0, 2880, .inl (fun j : Nat => iI ((qF Q (opnS B).2) j)))), (h2, .inr (2, [.ref m0, .ref q0, .int (iI ((opnS B).2.length : Int))])), (m0, .inl (T 0, 2880, .inl (fun j : Nat => iI ((fun c9 => bI (((opnS B).1) c9)) j))))]) (cells' := 0) (slots' := 0) h dX10_turn_26 (ct_X10_putPicked T h10 c0 h2 pk0 P (pkI (bareP B (1 * 2 ^ s.toNat)) 2880) B t (by first | assumption | omega) (by exact hl9.2) (by intro i h1 h2; exact pkI_get (by omega) ⟨h1, h2⟩)) k_X10_putPicked gX10_turn_X10_putPicked rfl rfl 1 rfl ⟨Nat.le_of_ble_eq_true rfl, Nat.le_of_ble_eq_true rfl⟩ rfl rfl (Nat.le_of_ble_eq_true rfl) ⟨Nat.le_of_ble_eq_true rfl, Nat.le_of_ble_eq_true rfl⟩ rfl rfl [1, 4, 5] [0, 2, 3] rfl rfl rfl rfl (by decide) (fun u9 p4 => ?_)
    obtain rfl := p4
    refine j_eq (ws' := [(q0, .inl (T 0, 2880, .inl (fun j : Nat => iI ((qF Q (opnS B).2) j)))), (h2, .inr (2, [.ref m0, .ref q0, .int (iI ((opnS B).2.length : Int))])), (m0, .inl (T 0, 2880, .inl (fun j : Nat => iI ((fun c9 => bI (((opnS B).1) c9)) j)))), (h10, .inr (10, [.ref c0, .ref h2, .ref pk0, .int (iI ((pkI (bareP B (1 * 2 ^ s.toNat)) 2880).length : Int))])), (pk0, .inl (T 0, 2880, .inl (fun j : Nat => iI ((qF P (pkI (bareP B (1 * 2 ^ s.toNat)) 2880)) j)))), (c0, .inl (T 0, 2880, .inl (fun j : Nat => iI ((putL B (pkI (bareP B (1 * 2 ^ s.toNat)) 2880) t ((pkI (bareP B (1 * 2 ^ s.toNat)) 2880).length : Int)) j))))]) rfl rfl rfl rfl rfl rfl ?_
    refine j_eq (ws' := [(q0, .inl (T 0, 2880, .inl (fun j : Nat => iI ((qF Q (opnS B).2) j)))), (h2, .inr (2, [.ref m0, .ref q0, .int (iI ((opnS B).2.length : Int))])), (m0, .inl (T 0, 2880, .inl (fun j : Nat => iI ((fun c9 => bI (((opnS B).1) c9)) j)))), (h10, .inr (10, [.ref c0, .ref h2, .ref pk0, .int (iI ((tuB B s t).1.2.2.length : Int))])), (pk0, .inl (T 0, 2880, .inl (fun j : Nat => iI ((qF P (tuB B s t).1.2.2) j)))), (c0, .inl (T 0, 2880, .inl (fun j : Nat => iI (((tuB B s t).1.1) j))))]) rfl rfl rfl rfl rfl (by rw [putL_pk (Int.le_refl _)]; rfl) ?_
    have htv := tuB_TV hB hs ht c1
    refine j_iconst h dX10_turn_29 ?_
    refine j_istore (lv' := [(0, .ref h10), (1, .int (iI s)), (2, .int (iI t)), (3, .int (iI e)), (4, .int (iI 0))]) h dX10_turn_30 [1, 2, 3, 4, 0] (by decide) rfl ?_
    refine j_iconst h dX10_turn_32 ?_
    refine j_istore (lv' := [(0, .ref h10), (1, .int (iI s)), (2, .int (iI t)), (3, .int (iI e)), (4, .int (iI 0)), (5, .int (iI 1))]) h dX10_turn_33 [1, 2, 3, 4, 5, 0] (by decide) rfl ?_
    have lp35 : ∀ (n35 : Nat) (i : Int) (y : TX × Int) (hi : 1 ≤ i ∧ i ≤ e) (hy : y = tuI s t (i - 1) (tuB B s t)) (hyv : TV s y.1) (hya : 0 ≤ y.2 ∧ y.2 ≤ (y.1.2.2.length : Int)), ((e - i).toNat) < n35 → J X 0 0 35 [(0, .ref h10), (1, .int (iI s)), (2, .int (iI t)), (3, .int (iI e)), (4, .int (iI y.2)), (5, .int (iI i))] [] [(q0, .inl (T 0, 2880, .inl (fun j : Nat => iI ((qF Q (opnS B).2) j)))), (h2, .inr (2, [.ref m0, .ref q0, .int (iI ((opnS B).2.length : Int))])), (m0, .inl (T 0, 2880, .inl (fun j : Nat => iI ((fun c9 => bI (((opnS B).1) c9)) j)))), (h10, .inr (10, [.ref c0, .ref h2, .ref pk0, .int (iI (y.1.2.2.length : Int))])), (pk0, .inl (T 0, 2880, .inl (fun j : Nat => iI ((qF P y.1.2.2) j)))), (c0, .inl (T 0, 2880, .inl (fun j : Nat => iI (y.1.1 j))))] := by
      intro n35
      induction n35 with
      | zero => exact fun i y hi hy hyv hya hn35 => absurd hn35 (Nat.not_lt_zero _)
      | succ n35 ih35 =>
        intro i y hi hy hyv hya hn35
        have hl8 := SV_len hyv.1
        refine j_iload h dX10_turn_35 5 rfl ?_
        refine j_iload_n h dX10_turn_37 3 rfl rfl ?_
        refine j_icmp_ge h 66 dX10_turn_38 (by decide) (by omega) (by omega) (fun c5 => ?_) (fun c5 => ?_)
        · skip
          refine j_ws (ws' := [(h10, .inr (10, [.ref c0, .ref h2, .ref pk0, .int (iI (y.1.2.2.length : Int))])), (h2, .inr (2, [.ref m0, .ref q0, .int (iI ((opnS B).2.length : Int))])), (m0, .inl (T 0, 2880, .inl (fun j : Nat => iI ((fun c9 => bI (((opnS B).1) c9)) j)))), (q0, .inl (T 0, 2880, .inl (fun j : Nat => iI ((qF Q (opnS B).2) j)))), (pk0, .inl (T 0, 2880, .inl (fun j : Nat => iI ((qF P y.1.2.2) j)))), (c0, .inl (T 0, 2880, .inl (fun j : Nat => iI (y.1.1 j))))]) [3, 1, 2, 0, 4, 5] rfl rfl ?_
          exact hr _ _ _ dX10_turn_66 ⟨(y.1.2.2.length : Int), ((opnS B).2.length : Int), (fun c9 => bI (((opnS B).1) c9)), (qF Q (opnS B).2), qF P y.1.2.2, (by unfold turnC; rw [if_neg c1, hy, show e = i by omega])⟩
        · skip
          refine j_iload h dX10_turn_41 4 rfl ?_
          refine j_aload_n h dX10_turn_43 0 rfl rfl ?_
          refine j_get h dX10_turn_44 f_X10_turn_15 3 rfl rfl ?_
          refine j_icmp_ge h 66 dX10_turn_47 (by decide) (by omega) (by omega) (fun c6 => ?_) (fun c6 => ?_)
          · skip
            refine j_ws (ws' := [(h10, .inr (10, [.ref c0, .ref h2, .ref pk0, .int (iI (y.1.2.2.length : Int))])), (h2, .inr (2, [.ref m0, .ref q0, .int (iI ((opnS B).2.length : Int))])), (m0, .inl (T 0, 2880, .inl (fun j : Nat => iI ((fun c9 => bI (((opnS B).1) c9)) j)))), (q0, .inl (T 0, 2880, .inl (fun j : Nat => iI ((qF Q (opnS B).2) j)))), (pk0, .inl (T 0, 2880, .inl (fun j : Nat => iI ((qF P y.1.2.2) j)))), (c0, .inl (T 0, 2880, .inl (fun j : Nat => iI (y.1.1 j))))]) [3, 1, 2, 0, 4, 5] rfl rfl ?_
            exact hr _ _ _ dX10_turn_66 ⟨(y.1.2.2.length : Int), ((opnS B).2.length : Int), (fun c9 => bI (((opnS B).1) c9)), (qF Q (opnS B).2), qF P y.1.2.2, (by unfold turnC; rw [if_neg c1, tuI_stay (k := i - 1) (by omega) (by rw [← hy]; omega), ← hy])⟩
          · skip
            refine j_aload_n h dX10_turn_50 0 rfl rfl ?_
            refine j_iload h dX10_turn_51 4 rfl ?_
            refine j_iload_n h dX10_turn_53 1 rfl rfl ?_
            refine j_iload_n h dX10_turn_54 2 rfl rfl ?_
            refine j_callVi (As := [.int (iI y.2), .int (iI s), .int (iI t)]) (wr := [(q0, .inl (T 0, 2880, .inl (fun j : Nat => iI ((qF Q (opnS B).2) j)))), (h2, .inr (2, [.ref m0, .ref q0, .int (iI ((opnS B).2.length : Int))])), (m0, .inl (T 0, 2880, .inl (fun j : Nat => iI ((fun c9 => bI (((opnS B).1) c9)) j))))]) (cells' := 0) (slots' := 0) h dX10_turn_55 (ct_X10_turnBesidePicked T h10 c0 h2 pk0 P y.1 y.2 s t (by exact hyv) (by exact c1) (by first | assumption | omega) (by first | assumption | omega) (by omega)) k_X10_turnBesidePicked gX10_turn_X10_turnBesidePicked rfl rfl 3 rfl ⟨Nat.le_of_ble_eq_true rfl, Nat.le_of_ble_eq_true rfl⟩ rfl rfl (Nat.le_of_ble_eq_true rfl) ⟨Nat.le_of_ble_eq_true rfl, Nat.le_of_ble_eq_true rfl⟩ rfl rfl [3, 4, 5] [0, 1, 2] rfl rfl rfl rfl (by decide) (fun r9 u9 p7 => ?_)
            obtain ⟨rfl, rfl⟩ := p7
            refine j_eq (ws' := [(q0, .inl (T 0, 2880, .inl (fun j : Nat => iI ((qF Q (opnS B).2) j)))), (h2, .inr (2, [.ref m0, .ref q0, .int (iI ((opnS B).2.length : Int))])), (m0, .inl (T 0, 2880, .inl (fun j : Nat => iI ((fun c9 => bI (((opnS B).1) c9)) j)))), (h10, .inr (10, [.ref c0, .ref h2, .ref pk0, .int (iI ((tbL s t y.1.2.2 y.2 (y.1.2.2.length : Int) y.1).2.2.length : Int))])), (pk0, .inl (T 0, 2880, .inl (fun j : Nat => iI ((qF P (tbL s t y.1.2.2 y.2 (y.1.2.2.length : Int) y.1).2.2) j)))), (c0, .inl (T 0, 2880, .inl (fun j : Nat => iI (((tbL s t y.1.2.2 y.2 (y.1.2.2.length : Int) y.1).1) j))))]) rfl rfl rfl rfl rfl rfl ?_
            refine j_istore (lv' := [(0, .ref h10), (1, .int (iI s)), (2, .int (iI t)), (3, .int (iI e)), (4, .int (iI (y.1.2.2.length : Int))), (5, .int (iI i))]) h dX10_turn_58 [1, 2, 3, 4, 0, 5] (by decide) rfl ?_
            refine j_iinc (lv' := [(0, .ref h10), (1, .int (iI s)), (2, .int (iI t)), (3, .int (iI e)), (4, .int (iI (y.1.2.2.length : Int))), (5, .int (iI (i + 1)))]) h dX10_turn_60 5 [1, 2, 3, 4, 5, 0] rfl (by decide) rfl ?_
            refine j_goto (tgt := 35) h dX10_turn_63 (by decide) ?_
            exact ih35 (i + 1) (tbL s t y.1.2.2 y.2 (y.1.2.2.length : Int) y.1, (y.1.2.2.length : Int)) (by first | assumption | omega) (by rw [show i + 1 - 1 = (i - 1) + 1 by omega, tuI_s (by omega), ← hy]; unfold tuG; rw [if_pos (by omega)]) (by exact tbL_TV hyv c1 ht (by omega) (by omega)) (by exact ⟨Int.natCast_nonneg _, tbL_len hyv c1 ht (by omega) (by omega)⟩) (by omega)
    exact lp35 _ 1 (tuB B s t) (by first | assumption | omega) (by rfl) (by exact htv) (by exact ⟨Int.le_refl _, Int.natCast_nonneg _⟩) (Nat.lt_succ_self _)
  · skip
    exact hr _ _ _ dX10_turn_5 ⟨np, n, M, Q, P, (by unfold turnC; rw [if_pos (by omega)])⟩

