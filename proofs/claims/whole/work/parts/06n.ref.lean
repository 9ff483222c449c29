abbrev rmX12_isOrder : Room := { frames := 1, cells := 0, slots := 0, locals := 25 }
theorem in_X12_isOrder_X12 : ∀ w ∈ u_ws RX12 TX12 40, w ∈ wsX12_isOrder := fun w hw => List.mem_cons_of_mem _ (List.mem_append_right _ (hw))
theorem f_X12_isOrder_311 : FlOK RX12 311 wsX12_isOrder 12 36 := ⟨_, _, _, rfl, by decide, in_X12_isOrder_X12, List.mem_of_getElem? (i := 3) rfl⟩
theorem p_X12_36 : PuOK 12 36 false (.int) := ⟨_, _, _, tyX12, rfl, tyX12_ok, nmX12, rfl, rfl⟩
theorem f_X12_isOrder_73 : FlOK RX12 73 wsX12_isOrder 12 35 := ⟨_, _, _, rfl, by decide, in_X12_isOrder_X12, List.mem_of_getElem? (i := 4) rfl⟩
set_option maxHeartbeats 600000 in
set_option maxRecDepth 100000 in
/-- whether a number is an order -/
theorem ct_X12_isOrder (T : Nat → ClassId) (g0 : Nat) (r : Nat → Nat) (x_taped : Int) (x_at : Int) (x_token : Int) (x_from : Int) (x_word : Int) (x_value : Int) (x_size : Int) (x_fault : Int) (x_faultAt : Int) (x_steps : Int) (x_counted : Int) (x_opens : Int) (x_queued : Int) (x_theMask : Int) (x_kept : Int) (x_placed : Int) (x_orderMany : Int) (x_outs : Int) (Od : Int → Int) (o : Int) (ho : -2147483648 ≤ o ∧ o ≤ 2147483647) : CtI T yX12_isOrder wsX12_isOrder rmX12_isOrder 0 0 [.ref g0, .int (iI o)] [(g0, .inr (12, .ref (r 0) :: .ref (r 1) :: .ref (r 2) :: .int (iI x_taped) :: .int (iI x_at) :: .int (iI x_token) :: .int (iI x_from) :: .long (lI x_word) :: .int (iI x_value) :: .int (iI x_size) :: .int (iI x_fault) :: .int (iI x_faultAt) :: .ref (r 3) :: .ref (r 4) :: .ref (r 5) :: .ref (r 6) :: .ref (r 7) :: .ref (r 8) :: .ref (r 9) :: .int (iI x_steps) :: .int (iI x_counted) :: .ref (r 10) :: .int (iI x_opens) :: .ref (r 11) :: .ref (r 12) :: .int (iI x_queued) :: .ref (r 13) :: .ref (r 14) :: .int (iI x_theMask) :: .ref (r 15) :: .ref (r 16) :: .int (iI x_kept) :: .int (iI x_placed) :: .ref (r 17) :: .ref (r 18) :: .ref (r 19) :: .int (iI x_orderMany) :: .ref (r 20) :: .ref (r 21) :: .int (iI x_outs) :: [])), ((r 19), .inl (T 0, 4, .inl (fun j : Nat => iI (Od j))))] (fun r8 u => ∃ m1 : Int, ∃ Od1 : Int → Int, (ordG o = true → m1 = ordN o) ∧ (ordG o = true → ∀ k9 : Int, 0 ≤ k9 → k9 < ordN o → Od1 k9 = ordD o k9) ∧ r8 = (iI (bI (ordG o))) ∧ u = [(g0, .inr (12, .ref (r 0) :: .ref (r 1) :: .ref (r 2) :: .int (iI x_taped) :: .int (iI x_at) :: .int (iI x_token) :: .int (iI x_from) :: .long (lI x_word) :: .int (iI x_value) :: .int (iI x_size) :: .int (iI x_fault) :: .int (iI x_faultAt) :: .ref (r 3) :: .ref (r 4) :: .ref (r 5) :: .ref (r 6) :: .ref (r 7) :: .ref (r 8) :: .ref (r 9) :: .int (iI x_steps) :: .int (iI x_counted) :: .ref (r 10) :: .int (iI x_opens) :: .ref (r 11) :: .ref (r 12) :: .int (iI x_queued) :: .ref (r 13) :: .ref (r 14) :: .int (iI x_theMask) :: .ref (r 15) :: .ref (r 16) :: .int (iI x_kept) :: .int (iI x_placed) :: .ref (r 17) :: .ref (r 18) :: .ref (r 19) :: .int (iI m1) :: .ref (r 20) :: .ref (r 21) :: .int (iI x_outs) :: [])), ((r 19), .inl (T 0, 4, .inl (fun j : Nat => iI (Od1 j))))]) := by
  refine ctI_of (cc := cX12_isOrder) (maxL := 6) (ret := (some .boolean)) (by decide +kernel) rfl rfl (fun r u hp => by obtain ⟨_, _, _, _, rfl, -⟩ := hp; exact nz_bool _) (Nat.le_of_ble_eq_true rfl) (fun X h hinit hr => ?_)
  refine j_eq (lv' := [(0, .ref g0), (1, .int (iI o))]) rfl rfl rfl rfl rfl rfl ?_
  refine j_iconst h dX12_isOrder_0 ?_
  refine j_istore_n (lv' := [(0, .ref g0), (1, .int (iI o)), (2, .int (iI 0))]) h dX12_isOrder_1 [1, 2, 0] rfl (by decide) rfl ?_
  refine j_iload_n h dX12_isOrder_2 1 rfl rfl ?_
  refine j_i2l h dX12_isOrder_3 (by omega) ?_
  refine j_lconst h dX12_isOrder_4 ?_
  refine j_eq rfl rfl rfl rfl (stk' := [.long (lI 1), .long (lI o)]) rfl rfl ?_
  refine j_ldc2 (z := 7777) h 7777 dX12_isOrder_5 (by decide +kernel) (List.mem_of_getElem? (i := 1) rfl) ?_
  refine j_callSi (As := [.long (lI o), .long (lI 1), .long (lI 7777)]) (wr := [(g0, .inr (12, .ref (r 0) :: .ref (r 1) :: .ref (r 2) :: .int (iI x_taped) :: .int (iI x_at) :: .int (iI x_token) :: .int (iI x_from) :: .long (lI x_word) :: .int (iI x_value) :: .int (iI x_size) :: .int (iI x_fault) :: .int (iI x_faultAt) :: .ref (r 3) :: .ref (r 4) :: .ref (r 5) :: .ref (r 6) :: .ref (r 7) :: .ref (r 8) :: .ref (r 9) :: .int (iI x_steps) :: .int (iI x_counted) :: .ref (r 10) :: .int (iI x_opens) :: .ref (r 11) :: .ref (r 12) :: .int (iI x_queued) :: .ref (r 13) :: .ref (r 14) :: .int (iI x_theMask) :: .ref (r 15) :: .ref (r 16) :: .int (iI x_kept) :: .int (iI x_placed) :: .ref (r 17) :: .ref (r 18) :: .ref (r 19) :: .int (iI x_orderMany) :: .ref (r 20) :: .ref (r 21) :: .int (iI x_outs) :: [])), ((r 19), .inl (T 0, 4, .inl (fun j : Nat => iI (Od j))))]) (cells' := 0) (slots' := 0) h dX12_isOrder_8 (ct_X12_in T o 1 7777 (by first | assumption | omega) (by first | assumption | omega) (by first | assumption | omega)) k_X12_in gX12_isOrder_X12_in ⟨Nat.le_of_ble_eq_true rfl, Nat.le_of_ble_eq_true rfl⟩ rfl rfl (Nat.le_of_ble_eq_true rfl) ⟨Nat.le_of_ble_eq_true rfl, Nat.le_of_ble_eq_true rfl⟩ rfl rfl [] [0, 1] rfl rfl rfl rfl (by decide) (fun r9 u9 p401 => ?_)
  obtain ⟨rfl, rfl⟩ := p401
  refine j_eq (ws' := [(g0, .inr (12, .ref (r 0) :: .ref (r 1) :: .ref (r 2) :: .int (iI x_taped) :: .int (iI x_at) :: .int (iI x_token) :: .int (iI x_from) :: .long (lI x_word) :: .int (iI x_value) :: .int (iI x_size) :: .int (iI x_fault) :: .int (iI x_faultAt) :: .ref (r 3) :: .ref (r 4) :: .ref (r 5) :: .ref (r 6) :: .ref (r 7) :: .ref (r 8) :: .ref (r 9) :: .int (iI x_steps) :: .int (iI x_counted) :: .ref (r 10) :: .int (iI x_opens) :: .ref (r 11) :: .ref (r 12) :: .int (iI x_queued) :: .ref (r 13) :: .ref (r 14) :: .int (iI x_theMask) :: .ref (r 15) :: .ref (r 16) :: .int (iI x_kept) :: .int (iI x_placed) :: .ref (r 17) :: .ref (r 18) :: .ref (r 19) :: .int (iI x_orderMany) :: .ref (r 20) :: .ref (r 21) :: .int (iI x_outs) :: [])), ((r 19), .inl (T 0, 4, .inl (fun j : Nat => iI (Od j))))]) rfl rfl rfl rfl rfl rfl ?_
  refine j_istore_n (lv' := [(0, .ref g0), (1, .int (iI o)), (2, .int (iI 0)), (3, .int (iI (bI (decide (1 ≤ o ∧ o ≤ 7777)))))]) h dX12_isOrder_11 [1, 2, 3, 0] rfl (by decide) rfl ?_
  refine j_iload_n h dX12_isOrder_12 1 rfl rfl ?_
  refine j_istore (lv' := [(0, .ref g0), (1, .int (iI o)), (2, .int (iI 0)), (3, .int (iI (bI (decide (1 ≤ o ∧ o ≤ 7777))))), (4, .int (iI o))]) h dX12_isOrder_13 [1, 2, 3, 4, 0] (by decide) rfl ?_
  have lp15 : ∀ (n15 : Nat) (n : Int) (l : Int) (g : Bool) (hn : 0 ≤ n ∧ n ≤ 4) (hrl : -2147483648 ≤ l ∧ l ≤ 2147483647) (hl : ordL o n l) (hgt : (g = true → ordQ o n)) (hgf : (g = false → ordG o = false)), ((4 - n).toNat) < n15 → J X 0 0 15 [(0, .ref g0), (1, .int (iI o)), (2, .int (iI n)), (3, .int (iI (bI g))), (4, .int (iI l))] [] [(g0, .inr (12, .ref (r 0) :: .ref (r 1) :: .ref (r 2) :: .int (iI x_taped) :: .int (iI x_at) :: .int (iI x_token) :: .int (iI x_from) :: .long (lI x_word) :: .int (iI x_value) :: .int (iI x_size) :: .int (iI x_fault) :: .int (iI x_faultAt) :: .ref (r 3) :: .ref (r 4) :: .ref (r 5) :: .ref (r 6) :: .ref (r 7) :: .ref (r 8) :: .ref (r 9) :: .int (iI x_steps) :: .int (iI x_counted) :: .ref (r 10) :: .int (iI x_opens) :: .ref (r 11) :: .ref (r 12) :: .int (iI x_queued) :: .ref (r 13) :: .ref (r 14) :: .int (iI x_theMask) :: .ref (r 15) :: .ref (r 16) :: .int (iI x_kept) :: .int (iI x_placed) :: .ref (r 17) :: .ref (r 18) :: .ref (r 19) :: .int (iI x_orderMany) :: .ref (r 20) :: .ref (r 21) :: .int (iI x_outs) :: [])), ((r 19), .inl (T 0, 4, .inl (fun j : Nat => iI (Od j))))] := by
    intro n15
    induction n15 with
    | zero => exact fun n l g hn hrl hl hgt hgf hn15 => absurd hn15 (Nat.not_lt_zero _)
    | succ n15 ih15 =>
      intro n l g hn hrl hl hgt hgf hn15
      refine j_iload h dX12_isOrder_15 4 rfl ?_
      refine j_if_le h 51 dX12_isOrder_17 (by decide) (by omega) (fun c402 => ?_) (fun c402 => ?_)
      · skip
        refine j_aload_n h dX12_isOrder_51 0 rfl rfl ?_
        refine j_iload_n h dX12_isOrder_52 2 rfl rfl ?_
        refine j_put (ws' := [(g0, .inr (12, .ref (r 0) :: .ref (r 1) :: .ref (r 2) :: .int (iI x_taped) :: .int (iI x_at) :: .int (iI x_token) :: .int (iI x_from) :: .long (lI x_word) :: .int (iI x_value) :: .int (iI x_size) :: .int (iI x_fault) :: .int (iI x_faultAt) :: .ref (r 3) :: .ref (r 4) :: .ref (r 5) :: .ref (r 6) :: .ref (r 7) :: .ref (r 8) :: .ref (r 9) :: .int (iI x_steps) :: .int (iI x_counted) :: .ref (r 10) :: .int (iI x_opens) :: .ref (r 11) :: .ref (r 12) :: .int (iI x_queued) :: .ref (r 13) :: .ref (r 14) :: .int (iI x_theMask) :: .ref (r 15) :: .ref (r 16) :: .int (iI x_kept) :: .int (iI x_placed) :: .ref (r 17) :: .ref (r 18) :: .ref (r 19) :: .int (iI n) :: .ref (r 20) :: .ref (r 21) :: .int (iI x_outs) :: [])), ((r 19), .inl (T 0, 4, .inl (fun j : Nat => iI (Od j))))]) h dX12_isOrder_53 f_X12_isOrder_311 p_X12_36 0 rfl rfl rfl (Nat.le_of_ble_eq_true rfl) rfl ?_
        refine j_iload_n h dX12_isOrder_56 1 rfl rfl ?_
        refine j_istore (lv' := [(0, .ref g0), (1, .int (iI o)), (2, .int (iI n)), (3, .int (iI (bI g))), (4, .int (iI o))]) h dX12_isOrder_57 [1, 2, 3, 4, 0] (by decide) rfl ?_
        refine j_iload_n h dX12_isOrder_59 2 rfl rfl ?_
        refine j_iconst h dX12_isOrder_60 ?_
        refine j_isub h dX12_isOrder_61 ?_
        refine j_istore (lv' := [(0, .ref g0), (1, .int (iI o)), (2, .int (iI n)), (3, .int (iI (bI g))), (4, .int (iI o)), (5, .int (iI (n - 1)))]) h dX12_isOrder_62 [1, 2, 3, 4, 5, 0] (by decide) rfl ?_
        have lp64 : ∀ (n64 : Nat) (k : Int) (l2 : Int) (f : Int → Int) (hk : -1 ≤ k ∧ k ≤ n - 1) (hG : g = ordG o) (hN : (g = true → n = ordN o)) (hl2 : (g = true → (k = n - 1 ∧ l2 = o ∨ k = n - 2 ∧ l2 = o / 10 ∨ k = n - 3 ∧ l2 = o / 100 ∨ k = n - 4 ∧ l2 = o / 1000 ∨ k = n - 5 ∧ l2 = o / 10000))) (hf : (g = true → ∀ q : Int, k < q → q < n → f q = ordD o q)), ((k + 1).toNat) < n64 → J X 0 0 64 [(0, .ref g0), (1, .int (iI o)), (2, .int (iI n)), (3, .int (iI (bI g))), (4, .int (iI l2)), (5, .int (iI k))] [] [(g0, .inr (12, .ref (r 0) :: .ref (r 1) :: .ref (r 2) :: .int (iI x_taped) :: .int (iI x_at) :: .int (iI x_token) :: .int (iI x_from) :: .long (lI x_word) :: .int (iI x_value) :: .int (iI x_size) :: .int (iI x_fault) :: .int (iI x_faultAt) :: .ref (r 3) :: .ref (r 4) :: .ref (r 5) :: .ref (r 6) :: .ref (r 7) :: .ref (r 8) :: .ref (r 9) :: .int (iI x_steps) :: .int (iI x_counted) :: .ref (r 10) :: .int (iI x_opens) :: .ref (r 11) :: .ref (r 12) :: .int (iI x_queued) :: .ref (r 13) :: .ref (r 14) :: .int (iI x_theMask) :: .ref (r 15) :: .ref (r 16) :: .int (iI x_kept) :: .int (iI x_placed) :: .ref (r 17) :: .ref (r 18) :: .ref (r 19) :: .int (iI n) :: .ref (r 20) :: .ref (r 21) :: .int (iI x_outs) :: [])), ((r 19), .inl (T 0, 4, .inl (fun j : Nat => iI (f j))))] := by
          intro n64
          induction n64 with
          | zero => exact fun k l2 f hk hG hN hl2 hf hn64 => absurd hn64 (Nat.not_lt_zero _)
          | succ n64 ih64 =>
            intro k l2 f hk hG hN hl2 hf hn64
            refine j_iload h dX12_isOrder_64 5 rfl ?_
            refine j_if_lt h 98 dX12_isOrder_66 (by decide) (by omega) (fun c403 => ?_) (fun c403 => ?_)
            · skip
              refine j_iload_n h dX12_isOrder_98 3 rfl rfl ?_
              exact hr _ _ _ _ dX12_isOrder_99 ⟨n, f, (by intro q9; exact hN (hG.trans q9)), (by intro q9 k9 a b; first | exact hf (hG.trans q9) k9 (by omega) (by rw [hN (hG.trans q9)]; exact b) | exact absurd (hG.trans q9) (by rw [c403]; decide)), (congrArg (fun b9 => iI (bI b9)) (show g = (ordG o) by exact hG)), rfl⟩
            · skip
              refine j_iload_n h dX12_isOrder_69 3 rfl rfl ?_
              refine j_ifeqB h 98 dX12_isOrder_70 (by decide) (fun c404 => ?_) (fun c404 => ?_)
              · skip
                refine j_iload_n h dX12_isOrder_98 3 rfl rfl ?_
                exact hr _ _ _ _ dX12_isOrder_99 ⟨n, f, (by intro q9; exact hN (hG.trans q9)), (by intro q9 k9 a b; first | exact hf (hG.trans q9) k9 (by omega) (by rw [hN (hG.trans q9)]; exact b) | exact absurd (hG.trans q9) (by rw [c404]; decide)), (congrArg (fun b9 => iI (bI b9)) (show g = (ordG o) by exact hG)), rfl⟩
              · skip
                refine j_aload_n h dX12_isOrder_73 0 rfl rfl ?_
                refine j_get h dX12_isOrder_74 f_X12_isOrder_73 0 rfl rfl ?_
                refine j_iload h dX12_isOrder_77 5 rfl ?_
                refine j_iload h dX12_isOrder_79 4 rfl ?_
                refine j_bipush h dX12_isOrder_81 (by decide) ?_
                refine j_irem h dX12_isOrder_83 (by have q9 := (hgt c404).1; have q8 := hl2 c404; omega) (by omega) ?_
                refine j_iast (f := f) (ws' := [(g0, .inr (12, .ref (r 0) :: .ref (r 1) :: .ref (r 2) :: .int (iI x_taped) :: .int (iI x_at) :: .int (iI x_token) :: .int (iI x_from) :: .long (lI x_word) :: .int (iI x_value) :: .int (iI x_size) :: .int (iI x_fault) :: .int (iI x_faultAt) :: .ref (r 3) :: .ref (r 4) :: .ref (r 5) :: .ref (r 6) :: .ref (r 7) :: .ref (r 8) :: .ref (r 9) :: .int (iI x_steps) :: .int (iI x_counted) :: .ref (r 10) :: .int (iI x_opens) :: .ref (r 11) :: .ref (r 12) :: .int (iI x_queued) :: .ref (r 13) :: .ref (r 14) :: .int (iI x_theMask) :: .ref (r 15) :: .ref (r 16) :: .int (iI x_kept) :: .int (iI x_placed) :: .ref (r 17) :: .ref (r 18) :: .ref (r 19) :: .int (iI n) :: .ref (r 20) :: .ref (r 21) :: .int (iI x_outs) :: [])), ((r 19), .inl (T 0, 4, .inl (fun j : Nat => iI ((upI f k (l2 % 10)) j))))]) h k dX12_isOrder_84 1 rfl (by decide) (by omega) (by omega) rfl ?_
                refine j_iload h dX12_isOrder_85 4 rfl ?_
                refine j_bipush h dX12_isOrder_87 (by decide) ?_
                refine j_idiv h dX12_isOrder_89 (by have q9 := (hgt c404).1; have q8 := hl2 c404; omega) (by omega) ?_
                refine j_istore (lv' := [(0, .ref g0), (1, .int (iI o)), (2, .int (iI n)), (3, .int (iI (bI g))), (4, .int (iI (l2 / 10))), (5, .int (iI k))]) h dX12_isOrder_90 [1, 2, 3, 4, 0, 5] (by decide) rfl ?_
                refine j_iinc (lv' := [(0, .ref g0), (1, .int (iI o)), (2, .int (iI n)), (3, .int (iI (bI g))), (4, .int (iI (l2 / 10))), (5, .int (iI (k + (-1))))]) h dX12_isOrder_92 5 [1, 2, 3, 4, 5, 0] rfl (by decide) rfl ?_
                refine j_goto (tgt := 64) h dX12_isOrder_95 (by decide) ?_
                exact ih64 (k + (-1)) (l2 / 10) (upI f k (l2 % 10)) (by first | assumption | omega) (by first | assumption | omega) (by first | assumption | omega) (by intro q9; have q8 := hl2 q9; have q7 := (hgt q9).1; omega) (by intro q9 q a b; by_cases e9 : q = k; (rw [e9, upI_s]; exact ordD_at (hN q9) (by omega) (by have q8 := hl2 q9; omega)); (rw [upI_n e9]; exact hf q9 q (by omega) b)) (by omega)
        exact lp64 _ (n - 1) o Od (by first | assumption | omega) (by first | exact ordG_of hl hgt hgf (by omega) | exact (c402).trans (hgf c402).symm) (by first | exact fun q => ordN_of hl (hgt q) (by omega) | exact fun q => absurd (q.symm.trans c402) (by decide)) (by exact fun _ => Or.inl ⟨rfl, rfl⟩) (by exact fun _ q a b => by omega) (Nat.lt_succ_self _)
      · skip
        refine j_iload_n h dX12_isOrder_20 3 rfl rfl ?_
        refine j_ifeqB h 51 dX12_isOrder_21 (by decide) (fun c405 => ?_) (fun c405 => ?_)
        · skip
          refine j_aload_n h dX12_isOrder_51 0 rfl rfl ?_
          refine j_iload_n h dX12_isOrder_52 2 rfl rfl ?_
          refine j_put (ws' := [(g0, .inr (12, .ref (r 0) :: .ref (r 1) :: .ref (r 2) :: .int (iI x_taped) :: .int (iI x_at) :: .int (iI x_token) :: .int (iI x_from) :: .long (lI x_word) :: .int (iI x_value) :: .int (iI x_size) :: .int (iI x_fault) :: .int (iI x_faultAt) :: .ref (r 3) :: .ref (r 4) :: .ref (r 5) :: .ref (r 6) :: .ref (r 7) :: .ref (r 8) :: .ref (r 9) :: .int (iI x_steps) :: .int (iI x_counted) :: .ref (r 10) :: .int (iI x_opens) :: .ref (r 11) :: .ref (r 12) :: .int (iI x_queued) :: .ref (r 13) :: .ref (r 14) :: .int (iI x_theMask) :: .ref (r 15) :: .ref (r 16) :: .int (iI x_kept) :: .int (iI x_placed) :: .ref (r 17) :: .ref (r 18) :: .ref (r 19) :: .int (iI n) :: .ref (r 20) :: .ref (r 21) :: .int (iI x_outs) :: [])), ((r 19), .inl (T 0, 4, .inl (fun j : Nat => iI (Od j))))]) h dX12_isOrder_53 f_X12_isOrder_311 p_X12_36 0 rfl rfl rfl (Nat.le_of_ble_eq_true rfl) rfl ?_
          refine j_iload_n h dX12_isOrder_56 1 rfl rfl ?_
          refine j_istore (lv' := [(0, .ref g0), (1, .int (iI o)), (2, .int (iI n)), (3, .int (iI (bI g))), (4, .int (iI o))]) h dX12_isOrder_57 [1, 2, 3, 4, 0] (by decide) rfl ?_
          refine j_iload_n h dX12_isOrder_59 2 rfl rfl ?_
          refine j_iconst h dX12_isOrder_60 ?_
          refine j_isub h dX12_isOrder_61 ?_
          refine j_istore (lv' := [(0, .ref g0), (1, .int (iI o)), (2, .int (iI n)), (3, .int (iI (bI g))), (4, .int (iI o)), (5, .int (iI (n - 1)))]) h dX12_isOrder_62 [1, 2, 3, 4, 5, 0] (by decide) rfl ?_
          have lp64 : ∀ (n64 : Nat) (k : Int) (l2 : Int) (f : Int → Int) (hk : -1 ≤ k ∧ k ≤ n - 1) (hG : g = ordG o) (hN : (g = true → n = ordN o)) (hl2 : (g = true → (k = n - 1 ∧ l2 = o ∨ k = n - 2 ∧ l2 = o / 10 ∨ k = n - 3 ∧ l2 = o / 100 ∨ k = n - 4 ∧ l2 = o / 1000 ∨ k = n - 5 ∧ l2 = o / 10000))) (hf : (g = true → ∀ q : Int, k < q → q < n → f q = ordD o q)), ((k + 1).toNat) < n64 → J X 0 0 64 [(0, .ref g0), (1, .int (iI o)), (2, .int (iI n)), (3, .int (iI (bI g))), (4, .int (iI l2)), (5, .int (iI k))] [] [(g0, .inr (12, .ref (r 0) :: .ref (r 1) :: .ref (r 2) :: .int (iI x_taped) :: .int (iI x_at) :: .int (iI x_token) :: .int (iI x_from) :: .long (lI x_word) :: .int (iI x_value) :: .int (iI x_size) :: .int (iI x_fault) :: .int (iI x_faultAt) :: .ref (r 3) :: .ref (r 4) :: .ref (r 5) :: .ref (r 6) :: .ref (r 7) :: .ref (r 8) :: .ref (r 9) :: .int (iI x_steps) :: .int (iI x_counted) :: .ref (r 10) :: .int (iI x_opens) :: .ref (r 11) :: .ref (r 12) :: .int (iI x_queued) :: .ref (r 13) :: .ref (r 14) :: .int (iI x_theMask) :: .ref (r 15) :: .ref (r 16) :: .int (iI x_kept) :: .int (iI x_placed) :: .ref (r 17) :: .ref (r 18) :: .ref (r 19) :: .int (iI n) :: .ref (r 20) :: .ref (r 21) :: .int (iI x_outs) :: [])), ((r 19), .inl (T 0, 4, .inl (fun j : Nat => iI (f j))))] := by
            intro n64
            induction n64 with
            | zero => exact fun k l2 f hk hG hN hl2 hf hn64 => absurd hn64 (Nat.not_lt_zero _)
            | succ n64 ih64 =>
              intro k l2 f hk hG hN hl2 hf hn64
              refine j_iload h dX12_isOrder_64 5 rfl ?_
              refine j_if_lt h 98 dX12_isOrder_66 (by decide) (by omega) (fun c406 => ?_) (fun c406 => ?_)
              · skip
                refine j_iload_n h dX12_isOrder_98 3 rfl rfl ?_
                exact hr _ _ _ _ dX12_isOrder_99 ⟨n, f, (by intro q9; exact hN (hG.trans q9)), (by intro q9 k9 a b; first | exact hf (hG.trans q9) k9 (by omega) (by rw [hN (hG.trans q9)]; exact b) | exact absurd (hG.trans q9) (by rw [c406]; decide)), (congrArg (fun b9 => iI (bI b9)) (show g = (ordG o) by exact hG)), rfl⟩
              · skip
                refine j_iload_n h dX12_isOrder_69 3 rfl rfl ?_
                refine j_ifeqB h 98 dX12_isOrder_70 (by decide) (fun c407 => ?_) (fun c407 => ?_)
                · skip
                  refine j_iload_n h dX12_isOrder_98 3 rfl rfl ?_
                  exact hr _ _ _ _ dX12_isOrder_99 ⟨n, f, (by intro q9; exact hN (hG.trans q9)), (by intro q9 k9 a b; first | exact hf (hG.trans q9) k9 (by omega) (by rw [hN (hG.trans q9)]; exact b) | exact absurd (hG.trans q9) (by rw [c407]; decide)), (congrArg (fun b9 => iI (bI b9)) (show g = (ordG o) by exact hG)), rfl⟩
                · skip
                  refine j_aload_n h dX12_isOrder_73 0 rfl rfl ?_
                  refine j_get h dX12_isOrder_74 f_X12_isOrder_73 0 rfl rfl ?_
                  refine j_iload h dX12_isOrder_77 5 rfl ?_
                  refine j_iload h dX12_isOrder_79 4 rfl ?_
                  refine j_bipush h dX12_isOrder_81 (by decide) ?_
                  refine j_irem h dX12_isOrder_83 (by have q9 := (hgt c407).1; have q8 := hl2 c407; omega) (by omega) ?_
                  refine j_iast (f := f) (ws' := [(g0, .inr (12, .ref (r 0) :: .ref (r 1) :: .ref (r 2) :: .int (iI x_taped) :: .int (iI x_at) :: .int (iI x_token) :: .int (iI x_from) :: .long (lI x_word) :: .int (iI x_value) :: .int (iI x_size) :: .int (iI x_fault) :: .int (iI x_faultAt) :: .ref (r 3) :: .ref (r 4) :: .ref (r 5) :: .ref (r 6) :: .ref (r 7) :: .ref (r 8) :: .ref (r 9) :: .int (iI x_steps) :: .int (iI x_counted) :: .ref (r 10) :: .int (iI x_opens) :: .ref (r 11) :: .ref (r 12) :: .int (iI x_queued) :: .ref (r 13) :: .ref (r 14) :: .int (iI x_theMask) :: .ref (r 15) :: .ref (r 16) :: .int (iI x_kept) :: .int (iI x_placed) :: .ref (r 17) :: .ref (r 18) :: .ref (r 19) :: .int (iI n) :: .ref (r 20) :: .ref (r 21) :: .int (iI x_outs) :: [])), ((r 19), .inl (T 0, 4, .inl (fun j : Nat => iI ((upI f k (l2 % 10)) j))))]) h k dX12_isOrder_84 1 rfl (by decide) (by omega) (by omega) rfl ?_
                  refine j_iload h dX12_isOrder_85 4 rfl ?_
                  refine j_bipush h dX12_isOrder_87 (by decide) ?_
                  refine j_idiv h dX12_isOrder_89 (by have q9 := (hgt c407).1; have q8 := hl2 c407; omega) (by omega) ?_
                  refine j_istore (lv' := [(0, .ref g0), (1, .int (iI o)), (2, .int (iI n)), (3, .int (iI (bI g))), (4, .int (iI (l2 / 10))), (5, .int (iI k))]) h dX12_isOrder_90 [1, 2, 3, 4, 0, 5] (by decide) rfl ?_
                  refine j_iinc (lv' := [(0, .ref g0), (1, .int (iI o)), (2, .int (iI n)), (3, .int (iI (bI g))), (4, .int (iI (l2 / 10))), (5, .int (iI (k + (-1))))]) h dX12_isOrder_92 5 [1, 2, 3, 4, 5, 0] rfl (by decide) rfl ?_
                  refine j_goto (tgt := 64) h dX12_isOrder_95 (by decide) ?_
                  exact ih64 (k + (-1)) (l2 / 10) (upI f k (l2 % 10)) (by first | assumption | omega) (by first | assumption | omega) (by first | assumption | omega) (by intro q9; have q8 := hl2 q9; have q7 := (hgt q9).1; omega) (by intro q9 q a b; by_cases e9 : q = k; (rw [e9, upI_s]; exact ordD_at (hN q9) (by omega) (by have q8 := hl2 q9; omega)); (rw [upI_n e9]; exact hf q9 q (by omega) b)) (by omega)
          exact lp64 _ (n - 1) o Od (by first | assumption | omega) (by first | exact ordG_of hl hgt hgf (by omega) | exact (c405).trans (hgf c405).symm) (by first | exact fun q => ordN_of hl (hgt q) (by omega) | exact fun q => absurd (q.symm.trans c405) (by decide)) (by exact fun _ => Or.inl ⟨rfl, rfl⟩) (by exact fun _ q a b => by omega) (Nat.lt_succ_self _)
        · skip
          refine j_iload h dX12_isOrder_24 4 rfl ?_
          refine j_bipush h dX12_isOrder_26 (by decide) ?_
          refine j_irem h dX12_isOrder_28 (by omega) (by omega) ?_
          refine j_i2l h dX12_isOrder_29 (by omega) ?_
          refine j_lconst h dX12_isOrder_30 ?_
          refine j_eq rfl rfl rfl rfl (stk' := [.long (lI 1), .long (lI (l % 10))]) rfl rfl ?_
          refine j_ldc2 (z := 7) h 7 dX12_isOrder_31 (by decide +kernel) (List.mem_of_getElem? (i := 2) rfl) ?_
          refine j_callSi (As := [.long (lI (l % 10)), .long (lI 1), .long (lI 7)]) (wr := [(g0, .inr (12, .ref (r 0) :: .ref (r 1) :: .ref (r 2) :: .int (iI x_taped) :: .int (iI x_at) :: .int (iI x_token) :: .int (iI x_from) :: .long (lI x_word) :: .int (iI x_value) :: .int (iI x_size) :: .int (iI x_fault) :: .int (iI x_faultAt) :: .ref (r 3) :: .ref (r 4) :: .ref (r 5) :: .ref (r 6) :: .ref (r 7) :: .ref (r 8) :: .ref (r 9) :: .int (iI x_steps) :: .int (iI x_counted) :: .ref (r 10) :: .int (iI x_opens) :: .ref (r 11) :: .ref (r 12) :: .int (iI x_queued) :: .ref (r 13) :: .ref (r 14) :: .int (iI x_theMask) :: .ref (r 15) :: .ref (r 16) :: .int (iI x_kept) :: .int (iI x_placed) :: .ref (r 17) :: .ref (r 18) :: .ref (r 19) :: .int (iI x_orderMany) :: .ref (r 20) :: .ref (r 21) :: .int (iI x_outs) :: [])), ((r 19), .inl (T 0, 4, .inl (fun j : Nat => iI (Od j))))]) (cells' := 0) (slots' := 0) h dX12_isOrder_34 (ct_X12_in T (l % 10) 1 7 (by first | assumption | omega) (by first | assumption | omega) (by first | assumption | omega)) k_X12_in gX12_isOrder_X12_in ⟨Nat.le_of_ble_eq_true rfl, Nat.le_of_ble_eq_true rfl⟩ rfl rfl (Nat.le_of_ble_eq_true rfl) ⟨Nat.le_of_ble_eq_true rfl, Nat.le_of_ble_eq_true rfl⟩ rfl rfl [] [0, 1] rfl rfl rfl rfl (by decide) (fun r9 u9 p408 => ?_)
          obtain ⟨rfl, rfl⟩ := p408
          refine j_eq (ws' := [(g0, .inr (12, .ref (r 0) :: .ref (r 1) :: .ref (r 2) :: .int (iI x_taped) :: .int (iI x_at) :: .int (iI x_token) :: .int (iI x_from) :: .long (lI x_word) :: .int (iI x_value) :: .int (iI x_size) :: .int (iI x_fault) :: .int (iI x_faultAt) :: .ref (r 3) :: .ref (r 4) :: .ref (r 5) :: .ref (r 6) :: .ref (r 7) :: .ref (r 8) :: .ref (r 9) :: .int (iI x_steps) :: .int (iI x_counted) :: .ref (r 10) :: .int (iI x_opens) :: .ref (r 11) :: .ref (r 12) :: .int (iI x_queued) :: .ref (r 13) :: .ref (r 14) :: .int (iI x_theMask) :: .ref (r 15) :: .ref (r 16) :: .int (iI x_kept) :: .int (iI x_placed) :: .ref (r 17) :: .ref (r 18) :: .ref (r 19) :: .int (iI x_orderMany) :: .ref (r 20) :: .ref (r 21) :: .int (iI x_outs) :: [])), ((r 19), .inl (T 0, 4, .inl (fun j : Nat => iI (Od j))))]) rfl rfl rfl rfl rfl rfl ?_
          refine j_istore_n (lv' := [(0, .ref g0), (1, .int (iI o)), (2, .int (iI n)), (3, .int (iI (bI (decide (1 ≤ (l % 10) ∧ (l % 10) ≤ 7))))), (4, .int (iI l))]) h dX12_isOrder_37 [1, 2, 3, 0, 4] rfl (by decide) rfl ?_
          refine j_iinc (lv' := [(0, .ref g0), (1, .int (iI o)), (2, .int (iI (n + 1))), (3, .int (iI (bI (decide (1 ≤ (l % 10) ∧ (l % 10) ≤ 7))))), (4, .int (iI l))]) h dX12_isOrder_38 2 [1, 2, 0, 3, 4] rfl (by decide) rfl ?_
          refine j_iload h dX12_isOrder_41 4 rfl ?_
          refine j_bipush h dX12_isOrder_43 (by decide) ?_
          refine j_idiv h dX12_isOrder_45 (by omega) (by omega) ?_
          refine j_istore (lv' := [(0, .ref g0), (1, .int (iI o)), (2, .int (iI (n + 1))), (3, .int (iI (bI (decide (1 ≤ (l % 10) ∧ (l % 10) ≤ 7))))), (4, .int (iI (l / 10)))]) h dX12_isOrder_46 [1, 2, 3, 4, 0] (by decide) rfl ?_
          refine j_goto (tgt := 15) h dX12_isOrder_48 (by decide) ?_
          exact ih15 (n + 1) (l / 10) (decide (1 ≤ (l % 10) ∧ (l % 10) ≤ 7)) (by have q9 := (ordL_s hl (hgt c405) (by omega)).2; omega) (by first | assumption | omega) (by exact (ordL_s hl (hgt c405) (by omega)).1) (by exact fun q => ordQ_s (hgt c405) hl (by omega) (of_decide_eq_true q)) (by exact fun q => ordF_s hl (hgt c405) (by omega) (of_decide_eq_false q)) (by have q9 := (ordL_s hl (hgt c405) (by omega)).2; omega)
  exact lp15 _ 0 o (decide (1 ≤ o ∧ o ≤ 7777)) (by first | assumption | omega) (by first | assumption | omega) (by exact Or.inl ⟨rfl, rfl⟩) (by exact fun q => ordQ_0 rfl q) (by exact fun q => ordF_0 (of_decide_eq_false q)) (Nat.lt_succ_self _)

abbrev rmX12_hasOrder : Room := { frames := 2, cells := 0, slots := 0, locals := 48 }
theorem in_X12_hasOrder_X12 : ∀ w ∈ u_ws RX12 TX12 40, w ∈ wsX12_hasOrder := fun w hw => List.mem_cons_of_mem _ (List.mem_append_right _ (hw))
theorem f_X12_hasOrder_311 : FlOK RX12 311 wsX12_hasOrder 12 36 := ⟨_, _, _, rfl, by decide, in_X12_hasOrder_X12, List.mem_of_getElem? (i := 1) rfl⟩
theorem f_X12_hasOrder_7 : FlOK RX12 7 wsX12_hasOrder 12 0 := ⟨_, _, _, rfl, by decide, in_X12_hasOrder_X12, List.mem_of_getElem? (i := 2) rfl⟩
theorem f_X12_hasOrder_73 : FlOK RX12 73 wsX12_hasOrder 12 35 := ⟨_, _, _, rfl, by decide, in_X12_hasOrder_X12, List.mem_of_getElem? (i := 3) rfl⟩
set_option maxHeartbeats 600000 in
set_option maxRecDepth 100000 in
/-- whether an order is at a place -/
theorem ct_X12_hasOrder (T : Nat → ClassId) (g0 : Nat) (r : Nat → Nat) (x_taped : Int) (x_at : Int) (x_token : Int) (x_from : Int) (x_word : Int) (x_value : Int) (x_size : Int) (x_fault : Int) (x_faultAt : Int) (x_steps : Int) (x_counted : Int) (x_opens : Int) (x_queued : Int) (x_theMask : Int) (x_kept : Int) (x_placed : Int) (x_orderMany : Int) (x_outs : Int) (B : Int → Int) (D : Int → Int) (p : Int) (hB : BOK B) (hp : 0 ≤ p ∧ p < 144) (hm : 1 ≤ x_orderMany ∧ x_orderMany ≤ 4) (hD : (∀ k9 : Int, 0 ≤ k9 → k9 < x_orderMany → 1 ≤ D k9 ∧ D k9 ≤ 7)) : CtI T yX12_hasOrder wsX12_hasOrder rmX12_hasOrder 0 0 [.ref g0, .int (iI p)] [(g0, .inr (12, .ref (r 0) :: .ref (r 1) :: .ref (r 2) :: .int (iI x_taped) :: .int (iI x_at) :: .int (iI x_token) :: .int (iI x_from) :: .long (lI x_word) :: .int (iI x_value) :: .int (iI x_size) :: .int (iI x_fault) :: .int (iI x_faultAt) :: .ref (r 3) :: .ref (r 4) :: .ref (r 5) :: .ref (r 6) :: .ref (r 7) :: .ref (r 8) :: .ref (r 9) :: .int (iI x_steps) :: .int (iI x_counted) :: .ref (r 10) :: .int (iI x_opens) :: .ref (r 11) :: .ref (r 12) :: .int (iI x_queued) :: .ref (r 13) :: .ref (r 14) :: .int (iI x_theMask) :: .ref (r 15) :: .ref (r 16) :: .int (iI x_kept) :: .int (iI x_placed) :: .ref (r 17) :: .ref (r 18) :: .ref (r 19) :: .int (iI x_orderMany) :: .ref (r 20) :: .ref (r 21) :: .int (iI x_outs) :: [])), ((r 0), .inl (T 0, 2880, .inl (fun j : Nat => iI (B j)))), ((r 19), .inl (T 0, 4, .inl (fun j : Nat => iI (D j))))] (fun r8 u => r8 = (iI (bI (hasD B D x_orderMany p))) ∧ u = [(g0, .inr (12, .ref (r 0) :: .ref (r 1) :: .ref (r 2) :: .int (iI x_taped) :: .int (iI x_at) :: .int (iI x_token) :: .int (iI x_from) :: .long (lI x_word) :: .int (iI x_value) :: .int (iI x_size) :: .int (iI x_fault) :: .int (iI x_faultAt) :: .ref (r 3) :: .ref (r 4) :: .ref (r 5) :: .ref (r 6) :: .ref (r 7) :: .ref (r 8) :: .ref (r 9) :: .int (iI x_steps) :: .int (iI x_counted) :: .ref (r 10) :: .int (iI x_opens) :: .ref (r 11) :: .ref (r 12) :: .int (iI x_queued) :: .ref (r 13) :: .ref (r 14) :: .int (iI x_theMask) :: .ref (r 15) :: .ref (r 16) :: .int (iI x_kept) :: .int (iI x_placed) :: .ref (r 17) :: .ref (r 18) :: .ref (r 19) :: .int (iI x_orderMany) :: .ref (r 20) :: .ref (r 21) :: .int (iI x_outs) :: [])), ((r 0), .inl (T 0, 2880, .inl (fun j : Nat => iI (B j)))), ((r 19), .inl (T 0, 4, .inl (fun j : Nat => iI (D j))))]) := by
  refine ctI_of (cc := cX12_hasOrder) (maxL := 7) (ret := (some .boolean)) (by decide +kernel) rfl rfl (fun r u hp => by obtain ⟨rfl, -⟩ := hp; exact nz_bool _) (Nat.le_of_ble_eq_true rfl) (fun X h hinit hr => ?_)
  refine j_eq (lv' := [(0, .ref g0), (1, .int (iI p))]) rfl rfl rfl rfl rfl rfl ?_
  refine j_aload_n h dX12_hasOrder_0 0 rfl rfl ?_
  refine j_iload_n h dX12_hasOrder_1 1 rfl rfl ?_
  refine j_iconst h dX12_hasOrder_2 ?_
  refine j_iconst h dX12_hasOrder_3 ?_
  refine j_callVi (As := [.int (iI p), .int (iI 0), .int (iI (bI true))]) (wr := [((r 19), .inl (T 0, 4, .inl (fun j : Nat => iI (D j))))]) (cells' := 0) (slots' := 0) h dX12_hasOrder_4 (ct_X12_spanAt T g0 r x_taped x_at x_token x_from x_word x_value x_size x_fault x_faultAt x_steps x_counted x_opens x_queued x_theMask x_kept x_placed x_orderMany x_outs B p 0 true (by first | assumption | omega) (by first | assumption | omega) (by first | assumption | omega)) k_X12_spanAt gX12_hasOrder_X12_spanAt rfl rfl 0 rfl ⟨Nat.le_of_ble_eq_true rfl, Nat.le_of_ble_eq_true rfl⟩ rfl rfl (Nat.le_of_ble_eq_true rfl) ⟨Nat.le_of_ble_eq_true rfl, Nat.le_of_ble_eq_true rfl⟩ rfl rfl [0, 1] [2] rfl rfl rfl rfl (by decide) (fun r9 u9 p401 => ?_)
  obtain ⟨rfl, rfl⟩ := p401
  have hv9 := spV_rng B p 0 true
  refine j_eq (ws' := [((r 19), .inl (T 0, 4, .inl (fun j : Nat => iI (D j)))), (g0, .inr (12, .ref (r 0) :: .ref (r 1) :: .ref (r 2) :: .int (iI x_taped) :: .int (iI x_at) :: .int (iI x_token) :: .int (iI x_from) :: .long (lI x_word) :: .int (iI x_value) :: .int (iI x_size) :: .int (iI x_fault) :: .int (iI x_faultAt) :: .ref (r 3) :: .ref (r 4) :: .ref (r 5) :: .ref (r 6) :: .ref (r 7) :: .ref (r 8) :: .ref (r 9) :: .int (iI x_steps) :: .int (iI x_counted) :: .ref (r 10) :: .int (iI x_opens) :: .ref (r 11) :: .ref (r 12) :: .int (iI x_queued) :: .ref (r 13) :: .ref (r 14) :: .int (iI x_theMask) :: .ref (r 15) :: .ref (r 16) :: .int (iI x_kept) :: .int (iI x_placed) :: .ref (r 17) :: .ref (r 18) :: .ref (r 19) :: .int (iI x_orderMany) :: .ref (r 20) :: .ref (r 21) :: .int (iI x_outs) :: [])), ((r 0), .inl (T 0, 2880, .inl (fun j : Nat => iI (B j))))]) rfl rfl rfl rfl rfl rfl ?_
  rw [show spV B p 0 true = (spansS B p) by exact spV_1]
  have hs9 := spansS_rng B p
  refine j_istore_n (lv' := [(0, .ref g0), (1, .int (iI p)), (2, .int (iI (spansS B p)))]) h dX12_hasOrder_7 [1, 2, 0] rfl (by decide) rfl ?_
  refine j_iconst h dX12_hasOrder_8 ?_
  refine j_istore_n (lv' := [(0, .ref g0), (1, .int (iI p)), (2, .int (iI (spansS B p))), (3, .int (iI 0))]) h dX12_hasOrder_9 [1, 2, 3, 0] rfl (by decide) rfl ?_
  refine j_iconst h dX12_hasOrder_10 ?_
  refine j_istore (lv' := [(0, .ref g0), (1, .int (iI p)), (2, .int (iI (spansS B p))), (3, .int (iI 0)), (4, .int (iI 0))]) h dX12_hasOrder_11 [1, 2, 3, 4, 0] (by decide) rfl ?_
  have lp13 : ∀ (n13 : Nat) (i : Int) (hs : Bool) (hi : 0 ≤ i ∧ i ≤ 20) (h2 : i = 0 ∨ i + x_orderMany ≤ spansS B p + 1) (hh : (hs = true ↔ ∃ q : Int, 0 ≤ q ∧ q < i ∧ SQ B p D x_orderMany q)), ((21 - i).toNat) < n13 → J X 0 0 13 [(0, .ref g0), (1, .int (iI p)), (2, .int (iI (spansS B p))), (3, .int (iI (bI hs))), (4, .int (iI i))] [] [((r 19), .inl (T 0, 4, .inl (fun j : Nat => iI (D j)))), (g0, .inr (12, .ref (r 0) :: .ref (r 1) :: .ref (r 2) :: .int (iI x_taped) :: .int (iI x_at) :: .int (iI x_token) :: .int (iI x_from) :: .long (lI x_word) :: .int (iI x_value) :: .int (iI x_size) :: .int (iI x_fault) :: .int (iI x_faultAt) :: .ref (r 3) :: .ref (r 4) :: .ref (r 5) :: .ref (r 6) :: .ref (r 7) :: .ref (r 8) :: .ref (r 9) :: .int (iI x_steps) :: .int (iI x_counted) :: .ref (r 10) :: .int (iI x_opens) :: .ref (r 11) :: .ref (r 12) :: .int (iI x_queued) :: .ref (r 13) :: .ref (r 14) :: .int (iI x_theMask) :: .ref (r 15) :: .ref (r 16) :: .int (iI x_kept) :: .int (iI x_placed) :: .ref (r 17) :: .ref (r 18) :: .ref (r 19) :: .int (iI x_orderMany) :: .ref (r 20) :: .ref (r 21) :: .int (iI x_outs) :: [])), ((r 0), .inl (T 0, 2880, .inl (fun j : Nat => iI (B j))))] := by
    intro n13
    induction n13 with
    | zero => exact fun i hs hi h2 hh hn13 => absurd hn13 (Nat.not_lt_zero _)
    | succ n13 ih13 =>
      intro i hs hi h2 hh hn13
      refine j_iload h dX12_hasOrder_13 4 rfl ?_
      refine j_aload_n h dX12_hasOrder_15 0 rfl rfl ?_
      refine j_get h dX12_hasOrder_16 f_X12_hasOrder_311 1 rfl rfl ?_
      refine j_iadd h dX12_hasOrder_19 ?_
      refine j_iload_n h dX12_hasOrder_20 2 rfl rfl ?_
      refine j_icmp_gt h 110 dX12_hasOrder_21 (by decide) (by omega) (by omega) (fun c402 => ?_) (fun c402 => ?_)
      · skip
        refine j_iload_n h dX12_hasOrder_110 3 rfl rfl ?_
        refine j_ws (ws' := [(g0, .inr (12, .ref (r 0) :: .ref (r 1) :: .ref (r 2) :: .int (iI x_taped) :: .int (iI x_at) :: .int (iI x_token) :: .int (iI x_from) :: .long (lI x_word) :: .int (iI x_value) :: .int (iI x_size) :: .int (iI x_fault) :: .int (iI x_faultAt) :: .ref (r 3) :: .ref (r 4) :: .ref (r 5) :: .ref (r 6) :: .ref (r 7) :: .ref (r 8) :: .ref (r 9) :: .int (iI x_steps) :: .int (iI x_counted) :: .ref (r 10) :: .int (iI x_opens) :: .ref (r 11) :: .ref (r 12) :: .int (iI x_queued) :: .ref (r 13) :: .ref (r 14) :: .int (iI x_theMask) :: .ref (r 15) :: .ref (r 16) :: .int (iI x_kept) :: .int (iI x_placed) :: .ref (r 17) :: .ref (r 18) :: .ref (r 19) :: .int (iI x_orderMany) :: .ref (r 20) :: .ref (r 21) :: .int (iI x_outs) :: [])), ((r 0), .inl (T 0, 2880, .inl (fun j : Nat => iI (B j)))), ((r 19), .inl (T 0, 4, .inl (fun j : Nat => iI (D j))))]) [1, 2, 0] rfl rfl ?_
        exact hr _ _ _ _ dX12_hasOrder_111 ⟨(congrArg (fun b9 => iI (bI b9)) (show hs = (hasD B D x_orderMany p) by exact hasD_ref (by omega) (fun k a b => (hD k a b).1) hh (by omega) h2)), rfl⟩
      · skip
        refine j_iconst h dX12_hasOrder_24 ?_
        refine j_istore (lv' := [(0, .ref g0), (1, .int (iI p)), (2, .int (iI (spansS B p))), (3, .int (iI (bI hs))), (4, .int (iI i)), (5, .int (iI 1))]) h dX12_hasOrder_25 [1, 2, 3, 4, 5, 0] (by decide) rfl ?_
        refine j_iconst h dX12_hasOrder_27 ?_
        refine j_istore (lv' := [(0, .ref g0), (1, .int (iI p)), (2, .int (iI (spansS B p))), (3, .int (iI (bI hs))), (4, .int (iI i)), (5, .int (iI 1)), (6, .int (iI 0))]) h dX12_hasOrder_28 [1, 2, 3, 4, 5, 6, 0] (by decide) rfl ?_
        have lp30 : ∀ (n30 : Nat) (k : Int) (b : Bool) (hk : 0 ≤ k ∧ k ≤ x_orderMany) (hb : (b = true ↔ ∀ q : Int, 0 ≤ q → q < k → B (144 * lowS B p (i + q) + p) = D q)), ((x_orderMany - k).toNat) < n30 → J X 0 0 30 [(0, .ref g0), (1, .int (iI p)), (2, .int (iI (spansS B p))), (3, .int (iI (bI hs))), (4, .int (iI i)), (5, .int (iI (bI b))), (6, .int (iI k))] [] [((r 19), .inl (T 0, 4, .inl (fun j : Nat => iI (D j)))), (g0, .inr (12, .ref (r 0) :: .ref (r 1) :: .ref (r 2) :: .int (iI x_taped) :: .int (iI x_at) :: .int (iI x_token) :: .int (iI x_from) :: .long (lI x_word) :: .int (iI x_value) :: .int (iI x_size) :: .int (iI x_fault) :: .int (iI x_faultAt) :: .ref (r 3) :: .ref (r 4) :: .ref (r 5) :: .ref (r 6) :: .ref (r 7) :: .ref (r 8) :: .ref (r 9) :: .int (iI x_steps) :: .int (iI x_counted) :: .ref (r 10) :: .int (iI x_opens) :: .ref (r 11) :: .ref (r 12) :: .int (iI x_queued) :: .ref (r 13) :: .ref (r 14) :: .int (iI x_theMask) :: .ref (r 15) :: .ref (r 16) :: .int (iI x_kept) :: .int (iI x_placed) :: .ref (r 17) :: .ref (r 18) :: .ref (r 19) :: .int (iI x_orderMany) :: .ref (r 20) :: .ref (r 21) :: .int (iI x_outs) :: [])), ((r 0), .inl (T 0, 2880, .inl (fun j : Nat => iI (B j))))] := by
          intro n30
          induction n30 with
          | zero => exact fun k b hk hb hn30 => absurd hn30 (Nat.not_lt_zero _)
          | succ n30 ih30 =>
            intro k b hk hb hn30
            refine j_iload h dX12_hasOrder_30 6 rfl ?_
            refine j_aload_n h dX12_hasOrder_32 0 rfl rfl ?_
            refine j_get h dX12_hasOrder_33 f_X12_hasOrder_311 1 rfl rfl ?_
            refine j_icmp_ge h 89 dX12_hasOrder_36 (by decide) (by omega) (by omega) (fun c403 => ?_) (fun c403 => ?_)
            · skip
              refine j_iload_n h dX12_hasOrder_89 3 rfl rfl ?_
              refine j_ifneB h 98 dX12_hasOrder_90 (by decide) (fun c404 => ?_) (fun c404 => ?_)
              · skip
                refine j_iconst h dX12_hasOrder_98 ?_
                refine j_goto (tgt := 103) h dX12_hasOrder_99 (by decide) ?_
                refine j_istore_n (lv' := [(0, .ref g0), (1, .int (iI p)), (2, .int (iI (spansS B p))), (3, .int (iI 1)), (4, .int (iI i)), (5, .int (iI (bI b))), (6, .int (iI k))]) h dX12_hasOrder_103 [1, 2, 3, 0, 4, 5, 6] rfl (by decide) rfl ?_
                refine j_iinc (lv' := [(0, .ref g0), (1, .int (iI p)), (2, .int (iI (spansS B p))), (3, .int (iI 1)), (4, .int (iI (i + 1))), (5, .int (iI (bI b))), (6, .int (iI k))]) h dX12_hasOrder_104 4 [1, 2, 3, 4, 0, 5, 6] rfl (by decide) rfl ?_
                refine j_goto (tgt := 13) h dX12_hasOrder_107 (by decide) ?_
                refine j_lv (lv' := [(0, .ref g0), (1, .int (iI p)), (2, .int (iI (spansS B p))), (3, .int (iI 1)), (4, .int (iI (i + 1)))]) [0, 1, 2, 3, 4] rfl ?_
                exact ih13 (i + 1) true (by first | assumption | omega) (by first | assumption | omega) (by exact ⟨fun _ => (by obtain ⟨q, a, c, d⟩ := hh.mp c404; exact ⟨q, a, by omega, d⟩), fun _ => rfl⟩) (by omega)
              · skip
                refine j_iload h dX12_hasOrder_93 5 rfl ?_
                refine j_ifeqB h 102 dX12_hasOrder_95 (by decide) (fun c405 => ?_) (fun c405 => ?_)
                · skip
                  refine j_iconst h dX12_hasOrder_102 ?_
                  refine j_istore_n (lv' := [(0, .ref g0), (1, .int (iI p)), (2, .int (iI (spansS B p))), (3, .int (iI 0)), (4, .int (iI i)), (5, .int (iI (bI b))), (6, .int (iI k))]) h dX12_hasOrder_103 [1, 2, 3, 0, 4, 5, 6] rfl (by decide) rfl ?_
                  refine j_iinc (lv' := [(0, .ref g0), (1, .int (iI p)), (2, .int (iI (spansS B p))), (3, .int (iI 0)), (4, .int (iI (i + 1))), (5, .int (iI (bI b))), (6, .int (iI k))]) h dX12_hasOrder_104 4 [1, 2, 3, 4, 0, 5, 6] rfl (by decide) rfl ?_
                  refine j_goto (tgt := 13) h dX12_hasOrder_107 (by decide) ?_
                  refine j_lv (lv' := [(0, .ref g0), (1, .int (iI p)), (2, .int (iI (spansS B p))), (3, .int (iI 0)), (4, .int (iI (i + 1)))]) [0, 1, 2, 3, 4] rfl ?_
                  exact ih13 (i + 1) false (by first | assumption | omega) (by first | assumption | omega) (by refine ⟨fun q9 => absurd q9 (by decide), fun ⟨q, a, c, d⟩ => ?_⟩; exfalso; by_cases e9 : q = i; (rw [e9] at d; have h7 := hb.mpr (fun q2 a2 c2 => d q2 a2 (by omega)); rw [c405] at h7; exact absurd h7 (by decide)); (have h7 := hh.mpr ⟨q, a, by omega, d⟩; rw [c404] at h7; exact absurd h7 (by decide))) (by omega)
                · skip
                  refine j_iconst h dX12_hasOrder_98 ?_
                  refine j_goto (tgt := 103) h dX12_hasOrder_99 (by decide) ?_
                  refine j_istore_n (lv' := [(0, .ref g0), (1, .int (iI p)), (2, .int (iI (spansS B p))), (3, .int (iI 1)), (4, .int (iI i)), (5, .int (iI (bI b))), (6, .int (iI k))]) h dX12_hasOrder_103 [1, 2, 3, 0, 4, 5, 6] rfl (by decide) rfl ?_
                  refine j_iinc (lv' := [(0, .ref g0), (1, .int (iI p)), (2, .int (iI (spansS B p))), (3, .int (iI 1)), (4, .int (iI (i + 1))), (5, .int (iI (bI b))), (6, .int (iI k))]) h dX12_hasOrder_104 4 [1, 2, 3, 4, 0, 5, 6] rfl (by decide) rfl ?_
                  refine j_goto (tgt := 13) h dX12_hasOrder_107 (by decide) ?_
                  refine j_lv (lv' := [(0, .ref g0), (1, .int (iI p)), (2, .int (iI (spansS B p))), (3, .int (iI 1)), (4, .int (iI (i + 1)))]) [0, 1, 2, 3, 4] rfl ?_
                  exact ih13 (i + 1) true (by first | assumption | omega) (by first | assumption | omega) (by exact ⟨fun _ => ⟨i, by omega, by omega, fun q a c => hb.mp c405 q a (by omega)⟩, fun _ => rfl⟩) (by omega)
            · skip
              refine j_iload h dX12_hasOrder_39 5 rfl ?_
              refine j_ifeqB h 80 dX12_hasOrder_41 (by decide) (fun c406 => ?_) (fun c406 => ?_)
              · skip
                refine j_iconst h dX12_hasOrder_80 ?_
                refine j_istore (lv' := [(0, .ref g0), (1, .int (iI p)), (2, .int (iI (spansS B p))), (3, .int (iI (bI hs))), (4, .int (iI i)), (5, .int (iI 0)), (6, .int (iI k))]) h dX12_hasOrder_81 [1, 2, 3, 4, 5, 0, 6] (by decide) rfl ?_
                refine j_iinc (lv' := [(0, .ref g0), (1, .int (iI p)), (2, .int (iI (spansS B p))), (3, .int (iI (bI hs))), (4, .int (iI i)), (5, .int (iI 0)), (6, .int (iI (k + 1)))]) h dX12_hasOrder_83 6 [1, 2, 3, 4, 5, 6, 0] rfl (by decide) rfl ?_
                refine j_goto (tgt := 30) h dX12_hasOrder_86 (by decide) ?_
                exact ih30 (k + 1) false (by first | assumption | omega) (by exact ⟨fun q9 => absurd q9 (by decide), fun q9 => (by have h7 := hb.mpr (fun q a c => q9 q a (by omega)); rw [c406] at h7; exact absurd h7 (by decide))⟩) (by omega)
              · skip
                refine j_aload_n h dX12_hasOrder_44 0 rfl rfl ?_
                refine j_get h dX12_hasOrder_45 f_X12_hasOrder_7 1 rfl rfl ?_
                refine j_sipush h dX12_hasOrder_48 (by decide) ?_
                refine j_aload_n h dX12_hasOrder_51 0 rfl rfl ?_
                refine j_iload_n h dX12_hasOrder_52 1 rfl rfl ?_
                refine j_iload h dX12_hasOrder_53 4 rfl ?_
                refine j_iload h dX12_hasOrder_55 6 rfl ?_
                refine j_iadd h dX12_hasOrder_57 ?_
                refine j_iconst h dX12_hasOrder_58 ?_
                refine j_callVi (As := [.int (iI p), .int (iI (i + k)), .int (iI (bI false))]) (wr := [((r 19), .inl (T 0, 4, .inl (fun j : Nat => iI (D j))))]) (cells' := 0) (slots' := 0) h dX12_hasOrder_59 (ct_X12_spanAt T g0 r x_taped x_at x_token x_from x_word x_value x_size x_fault x_faultAt x_steps x_counted x_opens x_queued x_theMask x_kept x_placed x_orderMany x_outs B p (i + k) false (by first | assumption | omega) (by first | assumption | omega) (by first | assumption | omega)) k_X12_spanAt gX12_hasOrder_X12_spanAt rfl rfl 1 rfl ⟨Nat.le_of_ble_eq_true rfl, Nat.le_of_ble_eq_true rfl⟩ rfl rfl (Nat.le_of_ble_eq_true rfl) ⟨Nat.le_of_ble_eq_true rfl, Nat.le_of_ble_eq_true rfl⟩ rfl rfl [1, 2] [0] rfl rfl rfl rfl (by decide) (fun r9 u9 p407 => ?_)
                obtain ⟨rfl, rfl⟩ := p407
                have hv9 := spV_rng B p (i + k) false
                refine j_eq (ws' := [((r 19), .inl (T 0, 4, .inl (fun j : Nat => iI (D j)))), (g0, .inr (12, .ref (r 0) :: .ref (r 1) :: .ref (r 2) :: .int (iI x_taped) :: .int (iI x_at) :: .int (iI x_token) :: .int (iI x_from) :: .long (lI x_word) :: .int (iI x_value) :: .int (iI x_size) :: .int (iI x_fault) :: .int (iI x_faultAt) :: .ref (r 3) :: .ref (r 4) :: .ref (r 5) :: .ref (r 6) :: .ref (r 7) :: .ref (r 8) :: .ref (r 9) :: .int (iI x_steps) :: .int (iI x_counted) :: .ref (r 10) :: .int (iI x_opens) :: .ref (r 11) :: .ref (r 12) :: .int (iI x_queued) :: .ref (r 13) :: .ref (r 14) :: .int (iI x_theMask) :: .ref (r 15) :: .ref (r 16) :: .int (iI x_kept) :: .int (iI x_placed) :: .ref (r 17) :: .ref (r 18) :: .ref (r 19) :: .int (iI x_orderMany) :: .ref (r 20) :: .ref (r 21) :: .int (iI x_outs) :: [])), ((r 0), .inl (T 0, 2880, .inl (fun j : Nat => iI (B j))))]) rfl rfl rfl rfl rfl rfl ?_
                rw [show spV B p (i + k) false = (lowS B p (i + k)) by exact spV_0]
                have hl9 := lowS_sat (lowS_ex (B := B) (p := p) (i := i + k) (by omega))
                have ht9 := topS_rng B p
                refine j_imul h dX12_hasOrder_62 ?_
                refine j_iload_n h dX12_hasOrder_63 1 rfl rfl ?_
                refine j_iadd h dX12_hasOrder_64 ?_
                refine j_iald (f := B) h (144 * lowS B p (i + k) + p) dX12_hasOrder_65 2 rfl (by decide) (by omega) (by omega) ?_
                have e408 := hB (144 * lowS B p (i + k) + p)
                refine j_aload_n h dX12_hasOrder_66 0 rfl rfl ?_
                refine j_get h dX12_hasOrder_67 f_X12_hasOrder_73 1 rfl rfl ?_
                refine j_iload h dX12_hasOrder_70 6 rfl ?_
                refine j_iald (f := D) h k dX12_hasOrder_72 0 rfl (by decide) (by omega) (by omega) ?_
                have hd9 := hD k (by omega) (by omega)
                refine j_icmp_ne h 80 dX12_hasOrder_73 (by decide) (by omega) (by omega) (fun c409 => ?_) (fun c409 => ?_)
                · skip
                  refine j_iconst h dX12_hasOrder_80 ?_
                  refine j_istore (lv' := [(0, .ref g0), (1, .int (iI p)), (2, .int (iI (spansS B p))), (3, .int (iI (bI hs))), (4, .int (iI i)), (5, .int (iI 0)), (6, .int (iI k))]) h dX12_hasOrder_81 [1, 2, 3, 4, 5, 0, 6] (by decide) rfl ?_
                  refine j_iinc (lv' := [(0, .ref g0), (1, .int (iI p)), (2, .int (iI (spansS B p))), (3, .int (iI (bI hs))), (4, .int (iI i)), (5, .int (iI 0)), (6, .int (iI (k + 1)))]) h dX12_hasOrder_83 6 [1, 2, 3, 4, 5, 6, 0] rfl (by decide) rfl ?_
                  refine j_goto (tgt := 30) h dX12_hasOrder_86 (by decide) ?_
                  exact ih30 (k + 1) false (by first | assumption | omega) (by exact ⟨fun q9 => absurd q9 (by decide), fun q9 => absurd (q9 k (by omega) (by omega)) c409⟩) (by omega)
                · skip
                  refine j_iconst h dX12_hasOrder_76 ?_
                  refine j_goto (tgt := 81) h dX12_hasOrder_77 (by decide) ?_
                  refine j_istore (lv' := [(0, .ref g0), (1, .int (iI p)), (2, .int (iI (spansS B p))), (3, .int (iI (bI hs))), (4, .int (iI i)), (5, .int (iI 1)), (6, .int (iI k))]) h dX12_hasOrder_81 [1, 2, 3, 4, 5, 0, 6] (by decide) rfl ?_
                  refine j_iinc (lv' := [(0, .ref g0), (1, .int (iI p)), (2, .int (iI (spansS B p))), (3, .int (iI (bI hs))), (4, .int (iI i)), (5, .int (iI 1)), (6, .int (iI (k + 1)))]) h dX12_hasOrder_83 6 [1, 2, 3, 4, 5, 6, 0] rfl (by decide) rfl ?_
                  refine j_goto (tgt := 30) h dX12_hasOrder_86 (by decide) ?_
                  exact ih30 (k + 1) true (by first | assumption | omega) (by refine ⟨fun _ q a c => ?_, fun _ => rfl⟩; by_cases e9 : q = k; (rw [e9]; exact c409); exact hb.mp c406 q a (by omega)) (by omega)
        exact lp30 _ 0 true (by first | assumption | omega) (by exact ⟨fun _ q a c => by omega, fun _ => rfl⟩) (Nat.lt_succ_self _)
  exact lp13 _ 0 false (by first | assumption | omega) (by first | assumption | omega) (by exact ⟨fun q => absurd q (by decide), fun ⟨q, a, c, d⟩ => by omega⟩) (Nat.lt_succ_self _)

