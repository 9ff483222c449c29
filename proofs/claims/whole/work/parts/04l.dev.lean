/-! DEVICES: spreading over places, on the first four ways -/
def ok4 (W : Int → Bool) : Int → Bool := fun c => decide (c < 144) && W c
def S4 (s : BS) : Prop := SV s ∧ ∀ d ∈ s.2, d < 144
theorem S4_visit {s : BS} {c : Int} (h : S4 s) (hc : 0 ≤ c ∧ c < 144) : S4 (visit s c) := by
  refine ⟨SV_visit h.1 (by omega), fun d hd => ?_⟩
  cases hv : s.1 c with
  | true => rw [visit_t hv] at hd; exact h.2 d hd
  | false =>
    rw [visit_f hv] at hd
    rcases List.mem_append.mp hd with q | q
    · exact h.2 d q
    · rw [List.mem_singleton.mp q]; exact hc.2
theorem S4_get {s : BS} (h : S4 s) {i : Int} (hi : 0 ≤ i ∧ i < (s.2.length : Int)) : 0 ≤ s.2.getD i.toNat 0 ∧ s.2.getD i.toNat 0 < 144 := by
  have h1 := SV_get h.1 hi
  have hlt : i.toNat < s.2.length := by omega
  rw [getD_lt hlt] at h1 ⊢
  exact ⟨h1.1, h.2 _ (List.getElem_mem hlt)⟩
theorem bes4 {c w : Int} (hc : 0 ≤ c ∧ c < 144) (hw : 0 ≤ w ∧ w < 4) : bes c w = -1 ∨ 0 ≤ bes c w ∧ bes c w < 144 := by
  unfold bes
  repeat' split
  all_goals omega
theorem stW4 {W : Int → Bool} {c : Int} (hc : 0 ≤ c ∧ c < 144) (s : BS) : stW (ok4 W) c 6 s = stW (ok4 W) c 4 s := by
  have h4 : bes c 4 = -1 := by unfold bes; (repeat (first | rw [if_pos (by omega)] | rw [if_neg (by omega)]))
  have h5 : bes c 5 = c + 144 := by unfold bes; (repeat (first | rw [if_pos (by omega)] | rw [if_neg (by omega)]))
  rw [show (6 : Int) = 5 + 1 by omega, stW_nok (ok := ok4 W) (by omega) (by rw [h5]; unfold ok4; rw [decide_eq_false (by omega)]; rfl), show (5 : Int) = 4 + 1 by omega, stW_no (ok := ok4 W) (by omega) h4]
noncomputable def tkS (W : Int → Bool) (p : Int) : BS := bfs (ok4 W) (visit ((fun _ => false, []) : BS) p)
def stB (W : Int → Bool) (l : List Int) : Nat → (Int → Bool)
  | 0 => W
  | i + 1 => upI (stB W l i) (l.getD i 0) false
def stBI (W : Int → Bool) (l : List Int) (i : Int) : Int → Bool := stB W l i.toNat
theorem stBI_0 (W : Int → Bool) (l : List Int) : stBI W l 0 = W := rfl
theorem stBI_s {W : Int → Bool} {l : List Int} {i : Int} (h : 0 ≤ i) : upI (stBI W l i) (l.getD i.toNat 0) false = stBI W l (i + 1) := by
  unfold stBI
  obtain ⟨k, rfl⟩ := Int.eq_ofNat_of_zero_le h
  rfl
noncomputable def tkW (W : Int → Bool) (p : Int) : Int → Bool := stBI W (tkS W p).2 ((tkS W p).2.length : Int)
theorem S4_0 : S4 ((fun _ => false, []) : BS) := ⟨sv0, fun d hd => absurd hd (by simp)⟩
theorem ok4_f {W : Int → Bool} {c : Int} (h : W c = false) : ok4 W c = false := by unfold ok4; rw [h, Bool.and_false]
theorem ok4_t {W : Int → Bool} {c : Int} (hc : c < 144) (h : W c = true) : ok4 W c = true := by unfold ok4; rw [h, decide_eq_true hc]; rfl
