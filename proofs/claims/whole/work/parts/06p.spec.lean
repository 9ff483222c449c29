/-! DEVICES, the class's spreading: what waits is what is not taken yet -/
def S5 (t : BS) : Prop := S4 t ∧ ∀ d, t.1 d = true ↔ d ∈ t.2
def wvF (W : Int → Bool) (t : BS) : Int → Bool := fun c => W c && !(t.1 c)
theorem S5_visit {s : BS} {c : Int} (h : S5 s) (hc : 0 ≤ c ∧ c < 144) : S5 (visit s c) := by
  refine ⟨S4_visit h.1 hc, fun d => ?_⟩
  rw [visit_1]
  cases hv : s.1 c with
  | true =>
    rw [visit_t hv, Bool.or_eq_true, ← h.2 d]
    exact ⟨fun q => by rcases q with q | q; exact q; rw [of_decide_eq_true q]; exact hv, Or.inl⟩
  | false =>
    rw [visit_f hv, Bool.or_eq_true, h.2 d]
    show _ ↔ d ∈ s.2 ++ [c]
    rw [List.mem_append, List.mem_singleton, decide_eq_true_eq]
theorem S5_0 : S5 ((fun _ => false, []) : BS) := ⟨S4_0, fun d => ⟨fun q => absurd q (by simp), fun q => absurd q (by simp)⟩⟩
theorem S5_144 {s : BS} (h : S5 s) (c : Int) (hc : s.1 c = true) : 0 ≤ c ∧ c < 144 := ⟨(h.1.1.1 c ((h.2 c).mp hc)).1, h.1.2 c ((h.2 c).mp hc)⟩
theorem cntI_144 {p : Int → Bool} (h : ∀ c : Int, p c = true → c < 144) : cntI p 2880 = cntI p 144 := by
  have key : ∀ n : Nat, cntI p (144 + n) = cntI p 144 := fun n => by
    induction n with
    | zero => rfl
    | succ n ih =>
      rw [show (144 : Int) + ((n + 1 : Nat) : Int) = (144 + n) + 1 by omega, cntI_f (by omega) (by
        cases e : p (144 + n) with
        | false => rfl
        | true => have := h _ e; omega)]
      exact ih
  exact key 2736
theorem S5_len {s : BS} (h : S5 s) : (s.2.length : Int) ≤ 144 := by
  have h1 := h.1.1.2
  rw [cntI_144 (fun c q => (S5_144 h c q).2)] at h1
  have := cntI_rng s.1 (k := 144) (by omega)
  omega
theorem wvF_t {W : Int → Bool} {u : BS} {d : Int} (h : wvF W u d = true) : W d = true ∧ u.1 d = false := by
  unfold wvF at h
  rw [Bool.and_eq_true] at h
  refine ⟨h.1, ?_⟩
  cases e : u.1 d with
  | false => rfl
  | true => rw [e] at h; exact absurd h.2 (by decide)
theorem S5_lt {W : Int → Bool} {u : BS} {d : Int} (h : S5 u) (hd : 0 ≤ d ∧ d < 144) (hv : wvF W u d = true) : (u.2.length : Int) < 144 := by
  have h1 := h.1.1.2
  rw [cntI_144 (fun c q => (S5_144 h c q).2)] at h1
  have := cntI_lt (wvF_t hv).2 hd
  omega
theorem stW_wv {W : Int → Bool} {c w : Int} {t u : BS} (hw : 0 ≤ w) (hd : bes c w < 144) (hu : u = stW (ok4 W) c w t) (hv : wvF W u (bes c w) = false) : u = stW (ok4 W) c (w + 1) t := by
  cases e : W (bes c w) with
  | false => rw [stW_nok hw (ok4_f e)]; exact hu
  | true =>
    have h2 : u.1 (bes c w) = true := by
      unfold wvF at hv
      rw [e] at hv
      cases q : u.1 (bes c w) with
      | true => rfl
      | false => rw [q] at hv; exact absurd hv (by decide)
    rw [stW_old hw (by rw [← hu]; exact h2)]; exact hu
theorem wvF_v {W : Int → Bool} {u : BS} {d : Int} (h : wvF W u d = true) : wvF W (visit u d) = upI (wvF W u) d false := by
  funext c
  unfold wvF
  rw [visit_1]
  by_cases e : c = d
  · rw [e, upI_s, decide_eq_true rfl, Bool.or_true]; exact Bool.and_false _
  · rw [upI_n e, decide_eq_false e, Bool.or_false]
theorem qF_v {W : Int → Bool} {u : BS} {d q : Int} {Q : Int → Int} (h : wvF W u d = true) (hq : q = (u.2.length : Int)) : qF Q (visit u d).2 = upI (qF Q u.2) q d := by
  rw [visit_f (wvF_t h).2, hq, qF_upd]
theorem stB_e (W : Int → Bool) (l : List Int) (k : Nat) (hk : k ≤ l.length) (d : Int) : stB W l k d = if d ∈ l.take k then false else W d := by
  induction k with
  | zero => rw [List.take_zero, if_neg (by simp)]; rfl
  | succ k ih =>
    show upI (stB W l k) (l.getD k 0) false d = _
    have hlt : k < l.length := by omega
    rw [List.take_succ_eq_append_getElem hlt]
    by_cases e : d = l.getD k 0
    · rw [e, upI_s, if_pos (List.mem_append_right _ (by rw [List.mem_singleton]; exact getD_lt hlt))]
    · rw [upI_n e, ih (by omega)]
      by_cases q : d ∈ l.take k
      · rw [if_pos q, if_pos (List.mem_append_left _ q)]
      · rw [if_neg q, if_neg (fun z => by
          rcases List.mem_append.mp z with z | z
          · exact q z
          · exact e ((List.mem_singleton.mp z).trans (getD_lt hlt).symm))]
theorem tkW_wv {W : Int → Bool} {p : Int} (h : S5 (tkS W p)) : wvF W (tkS W p) = tkW W p := by
  funext c
  unfold tkW stBI wvF
  rw [show (((tkS W p).2.length : Int)).toNat = (tkS W p).2.length from rfl, stB_e _ _ _ (Nat.le_refl _), List.take_length]
  cases e : (tkS W p).1 c with
  | true => rw [if_pos ((h.2 c).mp e)]; exact Bool.and_false _
  | false => rw [if_neg (fun q => by rw [(h.2 c).mpr q] at e; exact absurd e (by decide))]; exact Bool.and_true _
theorem tg_w (W : Int → Bool) (p : Int) : wvF W (visit ((fun _ => false, []) : BS) p) = upI W p false := by
  rw [visit_f rfl]
  funext c
  unfold wvF
  by_cases e : c = p
  · rw [e, upI_s]; show (W p && !(upI (fun _ => false) p true p)) = _; rw [upI_s]; exact Bool.and_false _
  · rw [upI_n e]; show (W c && !(upI (fun _ => false) p true c)) = _; rw [upI_n e]; exact Bool.and_true _
theorem tg_q (Q : Int → Int) (p : Int) : qF Q (visit ((fun _ => false, []) : BS) p).2 = upI Q 0 p := by
  rw [visit_f rfl]
  show qF Q ([] ++ [p]) = _
  rw [← qF_upd, qF_0]; rfl
theorem ord_1 {o : Int} (h : ordG o = true) (h1 : o < 10) : ordN o = 1 := by unfold ordN; rw [if_pos h1]
theorem ordD_1 {o : Int} (h : ordN o = 1) : ordD o 0 = o % 10 := by unfold ordD; rw [if_pos (by omega)]
theorem ordD_2 {o : Int} (h : ordN o = 2) : ordD o 0 = o / 10 % 10 ∧ ordD o 1 = o % 10 := by
  unfold ordD; exact ⟨by rw [if_neg (by omega), if_pos (by omega)], by rw [if_pos (by omega)]⟩
theorem ordD_3 {o : Int} (h : ordN o = 3) : ordD o 0 = o / 100 % 10 ∧ ordD o 1 = o / 10 % 10 ∧ ordD o 2 = o % 10 := by
  unfold ordD; exact ⟨by rw [if_neg (by omega), if_neg (by omega), if_pos (by omega)], by rw [if_neg (by omega), if_pos (by omega)], by rw [if_pos (by omega)]⟩
theorem ordD_4 {o : Int} (h : ordN o = 4) : ordD o 0 = o / 1000 % 10 ∧ ordD o 1 = o / 100 % 10 ∧ ordD o 2 = o / 10 % 10 ∧ ordD o 3 = o % 10 := by
  unfold ordD; exact ⟨by rw [if_neg (by omega), if_neg (by omega), if_neg (by omega)], by rw [if_neg (by omega), if_neg (by omega), if_pos (by omega)], by rw [if_neg (by omega), if_pos (by omega)], by rw [if_pos (by omega)]⟩
theorem ordN_1 {o : Int} (h : o < 10) : ordN o = 1 := by unfold ordN; rw [if_pos h]
theorem ordN_2 {o : Int} (h : 10 ≤ o ∧ o < 100) : ordN o = 2 := by unfold ordN; rw [if_neg (by omega), if_pos (by omega)]
theorem ordN_3 {o : Int} (h : 100 ≤ o ∧ o < 1000) : ordN o = 3 := by unfold ordN; rw [if_neg (by omega), if_neg (by omega), if_pos (by omega)]
theorem ordN_4 {o : Int} (h : 1000 ≤ o) : ordN o = 4 := by unfold ordN; rw [if_neg (by omega), if_neg (by omega), if_neg (by omega)]
theorem odF_1 {f : Int → Int} {o : Int} (hN : ordN o = 1) (h0 : f 0 = o % 10) : ∀ k : Int, 0 ≤ k → k < ordN o → f k = ordD o k := by
  intro k a b; rw [show k = 0 by omega, ordD_1 hN]; exact h0
theorem odF_2 {f : Int → Int} {o : Int} (hN : ordN o = 2) (h0 : f 0 = o / 10 % 10) (h1 : f 1 = o % 10) : ∀ k : Int, 0 ≤ k → k < ordN o → f k = ordD o k := by
  intro k a b
  have hd := ordD_2 hN
  rcases (show k = 0 ∨ k = 1 by omega) with q | q
  · rw [q, hd.1]; exact h0
  · rw [q, hd.2]; exact h1
theorem odF_3 {f : Int → Int} {o : Int} (hN : ordN o = 3) (h0 : f 0 = o / 100 % 10) (h1 : f 1 = o / 10 % 10) (h2 : f 2 = o % 10) : ∀ k : Int, 0 ≤ k → k < ordN o → f k = ordD o k := by
  intro k a b
  have hd := ordD_3 hN
  rcases (show k = 0 ∨ k = 1 ∨ k = 2 by omega) with q | q | q
  · rw [q, hd.1]; exact h0
  · rw [q, hd.2.1]; exact h1
  · rw [q, hd.2.2]; exact h2
theorem odF_4 {f : Int → Int} {o : Int} (hN : ordN o = 4) (h0 : f 0 = o / 1000 % 10) (h1 : f 1 = o / 100 % 10) (h2 : f 2 = o / 10 % 10) (h3 : f 3 = o % 10) : ∀ k : Int, 0 ≤ k → k < ordN o → f k = ordD o k := by
  intro k a b
  have hd := ordD_4 hN
  rcases (show k = 0 ∨ k = 1 ∨ k = 2 ∨ k = 3 by omega) with q | q | q | q
  · rw [q, hd.1]; exact h0
  · rw [q, hd.2.1]; exact h1
  · rw [q, hd.2.2.1]; exact h2
  · rw [q, hd.2.2.2]; exact h3
