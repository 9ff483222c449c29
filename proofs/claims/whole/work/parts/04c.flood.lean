/-! SPREADING: what is visited, and the queue of it in its order -/
theorem getD_lt {l : List Int} {n : Nat} (h : n < l.length) : l.getD n 0 = l[n] := by rw [List.getD_eq_getElem?_getD, List.getElem?_eq_getElem h]; rfl
theorem getD_app {l l' : List Int} {n : Nat} (h : n < l.length) : (l ++ l').getD n 0 = l.getD n 0 := by rw [List.getD_eq_getElem?_getD, List.getD_eq_getElem?_getD, List.getElem?_append_left h]
abbrev BS : Type := (Int → Bool) × List Int
def visit (s : BS) (c : Int) : BS := if s.1 c then s else (upI s.1 c true, s.2 ++ [c])
theorem visit_t {s : BS} {c : Int} (h : s.1 c = true) : visit s c = s := by unfold visit; rw [if_pos h]
theorem visit_f {s : BS} {c : Int} (h : s.1 c = false) : visit s c = (upI s.1 c true, s.2 ++ [c]) := by unfold visit; rw [if_neg (by rw [h]; decide)]
theorem visit_1 (s : BS) (c d : Int) : (visit s c).1 d = (s.1 d || decide (d = c)) := by
  cases h : s.1 c with
  | true =>
    rw [visit_t h]
    by_cases q : d = c
    · subst q; rw [h]; rfl
    · simp [q]
  | false =>
    rw [visit_f h]
    by_cases q : d = c
    · subst q; simp [upI_s]
    · simp [upI_n q, q]
/-- the cubes beside c on the first w ways, as far as they are ok -/
def stepW (ok : Int → Bool) (c : Int) : Nat → BS → BS
  | 0, s => s
  | w + 1, s => if bes c w ≠ -1 ∧ ok (bes c w) = true then visit (stepW ok c w s) (bes c w) else stepW ok c w s
def stW (ok : Int → Bool) (c w : Int) (s : BS) : BS := stepW ok c w.toNat s
theorem stW_0 (ok : Int → Bool) (c : Int) (s : BS) : stW ok c 0 s = s := rfl
theorem stW_s {ok : Int → Bool} {c w : Int} {s : BS} (hw : 0 ≤ w) : stW ok c (w + 1) s = if bes c w ≠ -1 ∧ ok (bes c w) = true then visit (stW ok c w s) (bes c w) else stW ok c w s := by
  unfold stW
  obtain ⟨n, rfl⟩ := Int.eq_ofNat_of_zero_le hw
  rfl
theorem stW_no {ok : Int → Bool} {c w : Int} {s : BS} (hw : 0 ≤ w) (h : bes c w = -1) : stW ok c (w + 1) s = stW ok c w s := by rw [stW_s hw, if_neg (fun z => z.1 h)]
theorem stW_nok {ok : Int → Bool} {c w : Int} {s : BS} (hw : 0 ≤ w) (h : ok (bes c w) = false) : stW ok c (w + 1) s = stW ok c w s := by rw [stW_s hw, if_neg (fun z => by rw [h] at z; exact absurd z.2 (by decide))]
theorem stW_yes {ok : Int → Bool} {c w : Int} {s : BS} (hw : 0 ≤ w) (h0 : ¬ bes c w = -1) (h : ok (bes c w) = true) : stW ok c (w + 1) s = visit (stW ok c w s) (bes c w) := by rw [stW_s hw, if_pos ⟨h0, h⟩]
theorem stW_old {ok : Int → Bool} {c w : Int} {s : BS} (hw : 0 ≤ w) (h : (stW ok c w s).1 (bes c w) = true) : stW ok c (w + 1) s = stW ok c w s := by
  rw [stW_s hw]
  split
  · exact visit_t h
  · rfl
def bfsN (ok : Int → Bool) : Nat → BS → BS
  | 0, s => s
  | i + 1, s => if i < (bfsN ok i s).2.length then stW ok ((bfsN ok i s).2.getD i 0) 6 (bfsN ok i s) else bfsN ok i s
def bfI (ok : Int → Bool) (i : Int) (s : BS) : BS := bfsN ok i.toNat s
theorem bfs_e : ∃ F : (Int → Bool) → BS → BS, ∀ ok s, F ok s = bfsN ok 2880 s := ⟨fun ok s => bfsN ok 2880 s, fun _ _ => rfl⟩
/-- the end of it; never unfolded by itself -/
noncomputable def bfs : (Int → Bool) → BS → BS := Classical.choose bfs_e
theorem bfs_eq (ok : Int → Bool) (s : BS) : bfs ok s = bfsN ok 2880 s := Classical.choose_spec bfs_e ok s
theorem bfI_0 (ok : Int → Bool) (s : BS) : bfI ok 0 s = s := rfl
theorem bfI_s {ok : Int → Bool} {i : Int} {s : BS} (hi : 0 ≤ i) (h : i < ((bfI ok i s).2.length : Int)) : bfI ok (i + 1) s = stW ok ((bfI ok i s).2.getD i.toNat 0) 6 (bfI ok i s) := by
  unfold bfI at h ⊢
  obtain ⟨n, rfl⟩ := Int.eq_ofNat_of_zero_le hi
  show (if n < (bfsN ok n s).2.length then _ else _) = _
  rw [if_pos (by have : ((n : Int)).toNat = n := rfl
                 rw [this] at h; omega)]
  rfl
theorem bfsN_stay {ok : Int → Bool} {s : BS} {n : Nat} (h : (bfsN ok n s).2.length ≤ n) (k : Nat) : bfsN ok (n + k) s = bfsN ok n s := by
  induction k with
  | zero => rfl
  | succ k ih =>
    show (if n + k < (bfsN ok (n + k) s).2.length then _ else _) = _
    rw [ih, if_neg (by omega)]
    exact ih
theorem bfI_end {ok : Int → Bool} {i : Int} {s : BS} (hi : 0 ≤ i ∧ i ≤ 2880) (h : ((bfI ok i s).2.length : Int) ≤ i) : bfI ok i s = bfs ok s := by
  rw [bfs_eq]
  unfold bfI at *
  obtain ⟨n, rfl⟩ := Int.eq_ofNat_of_zero_le hi.1
  have e : ((n : Int)).toNat = n := rfl
  rw [e] at h ⊢
  obtain ⟨k, hk⟩ : ∃ k, 2880 = n + k := ⟨2880 - n, by omega⟩
  rw [hk, bfsN_stay (by omega)]
/-- what holds of a spreading under way -/
def SV (s : BS) : Prop := (∀ c ∈ s.2, 0 ≤ c ∧ c < 2880) ∧ (s.2.length : Int) ≤ cntI s.1 2880
theorem SV_len {s : BS} (h : SV s) : (s.2.length : Int) ≤ 2880 := by have := cntI_rng s.1 (k := 2880) (by omega); have := h.2; omega
theorem cntI_lt {p : Int → Bool} {e k : Int} (he : p e = false) (h : 0 ≤ e ∧ e < k) : cntI p k < k := by
  have h1 := cntI_upd p he h
  have h2 := cntI_rng (upI p e true) (k := k) (by omega)
  omega
theorem SV_lt {s : BS} {c : Int} (h : SV s) (hc : 0 ≤ c ∧ c < 2880) (hv : s.1 c = false) : (s.2.length : Int) < 2880 := by have := cntI_lt hv hc; have := h.2; omega
theorem SV_visit {s : BS} {c : Int} (h : SV s) (hc : 0 ≤ c ∧ c < 2880) : SV (visit s c) := by
  cases hv : s.1 c with
  | true => rw [visit_t hv]; exact h
  | false =>
    rw [visit_f hv]
    refine ⟨fun d hd => ?_, ?_⟩
    · rcases List.mem_append.mp hd with q | q
      · exact h.1 d q
      · rw [List.mem_singleton.mp q]; exact hc
    · show ((s.2 ++ [c]).length : Int) ≤ cntI (upI s.1 c true) 2880
      rw [cntI_upd s.1 hv hc, List.length_append]
      have := h.2
      simp only [List.length_cons, List.length_nil]
      omega
theorem SV_get {s : BS} (h : SV s) {i : Int} (hi : 0 ≤ i ∧ i < (s.2.length : Int)) : 0 ≤ s.2.getD i.toNat 0 ∧ s.2.getD i.toNat 0 < 2880 := by
  have hlt : i.toNat < s.2.length := by omega
  rw [getD_lt hlt]
  exact h.1 _ (List.getElem_mem hlt)
theorem visit_len (s : BS) (c : Int) : s.2.length ≤ (visit s c).2.length := by
  cases hv : s.1 c with
  | true => rw [visit_t hv]; exact Nat.le_refl _
  | false => rw [visit_f hv]; show s.2.length ≤ (s.2 ++ [c]).length; rw [List.length_append]; omega
theorem visit_get {s : BS} {c : Int} {i : Nat} (hi : i < s.2.length) : (visit s c).2.getD i 0 = s.2.getD i 0 := by
  cases hv : s.1 c with
  | true => rw [visit_t hv]
  | false =>
    rw [visit_f hv]
    show (s.2 ++ [c]).getD i 0 = _
    rw [getD_app hi]
/-- the marks of a spreading over older ones -/
def mkF (M : Int → Int) (mk : Int) (s : BS) : Int → Int := fun c => if M c ≠ 0 then M c else if s.1 c then mk else 0
def qF (Q : Int → Int) (l : List Int) : Int → Int := fun j => if 0 ≤ j ∧ j < (l.length : Int) then l.getD j.toNat 0 else Q j
theorem qF_0 (Q : Int → Int) : qF Q [] = Q := by funext j; unfold qF; rw [if_neg (by simp)]
theorem qF_at {Q : Int → Int} {l : List Int} {j : Int} (h : 0 ≤ j ∧ j < (l.length : Int)) : qF Q l j = l.getD j.toNat 0 := by unfold qF; rw [if_pos h]
theorem qF_upd (Q : Int → Int) (l : List Int) (c : Int) : upI (qF Q l) (l.length : Int) c = qF Q (l ++ [c]) := by
  funext j
  unfold upI qF
  have hl : ((l ++ [c]).length : Int) = (l.length : Int) + 1 := by simp
  by_cases q : j = (l.length : Int)
  · rw [if_pos q, if_pos (by omega)]
    subst q
    simp [List.getD_eq_getElem?_getD]
  · rw [if_neg q]
    by_cases q2 : 0 ≤ j ∧ j < (l.length : Int)
    · rw [if_pos q2, if_pos (by omega), getD_app (by omega)]
    · rw [if_neg q2, if_neg (by omega)]
theorem mkF_upd {M : Int → Int} {mk : Int} {s : BS} {c : Int} (hM : M c = 0) (hv : s.1 c = false) : upI (mkF M mk s) c mk = mkF M mk (visit s c) := by
  funext d
  unfold mkF
  rw [visit_1]
  by_cases q : d = c
  · subst q
    rw [upI_s, if_neg (by omega)]
    simp
  · rw [upI_n q]
    simp [q]
theorem mkF_ne {M : Int → Int} {mk : Int} {s : BS} (hmk : mk ≠ 0) (hv : ∀ c, M c ≠ 0 → s.1 c = true) (c : Int) : mkF M mk s c ≠ 0 ↔ s.1 c = true := by
  unfold mkF
  by_cases h : M c = 0
  · rw [if_neg (by omega)]
    cases q : s.1 c with
    | true => simp; exact hmk
    | false => simp
  · rw [if_pos h]
    exact ⟨fun _ => hv c h, fun _ => h⟩
theorem mkF_z {M : Int → Int} {mk : Int} {s : BS} (hmk : mk ≠ 0) (hv : ∀ c, M c ≠ 0 → s.1 c = true) {c : Int} (h : mkF M mk s c = 0) : s.1 c = false ∧ M c = 0 := by
  have h1 : ¬ s.1 c = true := fun z => (mkF_ne hmk hv c).mpr z h
  have h2 : s.1 c = false := by simpa using h1
  refine ⟨h2, Classical.byContradiction fun z => ?_⟩
  rw [hv c z] at h2; cases h2
theorem mkF_rng {M : Int → Int} {mk N : Int} {s : BS} (hM : ∀ c, 0 ≤ M c ∧ M c ≤ N) (hmk : 0 ≤ mk ∧ mk ≤ N) (c : Int) : 0 ≤ mkF M mk s c ∧ mkF M mk s c ≤ N := by
  unfold mkF
  have := hM c
  split
  · exact this
  · split <;> omega
theorem mkF_1 (s : BS) : mkF (fun _ => 0) 1 s = fun c => bI (s.1 c) := by
  funext c
  unfold mkF
  rw [if_neg (by simp)]
  rfl
theorem mkF_0 (M : Int → Int) (mk : Int) : mkF M mk (fun c => decide (M c ≠ 0), []) = M := by
  funext c
  unfold mkF
  by_cases h : M c = 0
  · rw [if_neg (by omega)]; simp [h]
  · rw [if_pos h]
/-- the seeds: the first k of the places from lo on that are ok -/
def seedN (ok : Int → Bool) (lo : Int) : Nat → BS
  | 0 => (fun _ => false, [])
  | k + 1 => if ok (lo + k) = true then visit (seedN ok lo k) (lo + k) else seedN ok lo k
theorem sdI_e : ∃ F : (Int → Bool) → Int → Int → BS, ∀ ok lo k, F ok lo k = seedN ok lo k.toNat := ⟨fun ok lo k => seedN ok lo k.toNat, fun _ _ _ => rfl⟩
noncomputable def sdI : (Int → Bool) → Int → Int → BS := Classical.choose sdI_e
theorem sdI_eq (ok : Int → Bool) (lo k : Int) : sdI ok lo k = seedN ok lo k.toNat := Classical.choose_spec sdI_e ok lo k
theorem sdI_0 (ok : Int → Bool) (lo : Int) : sdI ok lo 0 = (fun _ => false, []) := by rw [sdI_eq]; rfl
theorem sdI_t {ok : Int → Bool} {lo k : Int} (hk : 0 ≤ k) (h : ok (lo + k) = true) : sdI ok lo (k + 1) = visit (sdI ok lo k) (lo + k) := by
  rw [sdI_eq, sdI_eq]
  obtain ⟨n, rfl⟩ := Int.eq_ofNat_of_zero_le hk
  show (if ok (lo + (n : Int)) = true then _ else _) = _
  rw [if_pos h]
  rfl
theorem sdI_f {ok : Int → Bool} {lo k : Int} (hk : 0 ≤ k) (h : ok (lo + k) = false) : sdI ok lo (k + 1) = sdI ok lo k := by
  rw [sdI_eq, sdI_eq]
  obtain ⟨n, rfl⟩ := Int.eq_ofNat_of_zero_le hk
  show (if ok (lo + (n : Int)) = true then _ else _) = _
  rw [if_neg (by rw [h]; decide)]
  rfl
theorem seedN_out (ok : Int → Bool) (lo : Int) (k : Nat) : ∀ c : Int, lo + k ≤ c → (seedN ok lo k).1 c = false := by
  induction k with
  | zero => intro c h; rfl
  | succ k ih =>
    intro c h
    unfold seedN
    split
    · rw [visit_1, ih c (by omega)]; simp; omega
    · exact ih c (by omega)
theorem sdI_out {ok : Int → Bool} {lo k : Int} (hk : 0 ≤ k) : ∀ c : Int, lo + k ≤ c → (sdI ok lo k).1 c = false := fun c h => by rw [sdI_eq]; exact seedN_out ok lo k.toNat c (by omega)
theorem cntI_none {p : Int → Bool} (h : ∀ c, p c = false) (k : Int) : cntI p k = 0 := by
  rw [cntI_eq]
  have : ∀ n, cntS p n = 0 := fun n => by
    induction n with
    | zero => rfl
    | succ n ih => show cntS p n + bI (p n) = 0; rw [ih, h]; rfl
  exact this _
theorem seedN_SV (ok : Int → Bool) {lo : Int} (hlo : 0 ≤ lo) (k : Nat) (hk : lo + k ≤ 2880) : SV (seedN ok lo k) := by
  induction k with
  | zero => exact ⟨fun c h => by simp [seedN] at h, by show (0 : Int) ≤ cntI (fun _ => false) 2880; rw [cntI_none (fun _ => rfl)]; exact Int.le_refl _⟩
  | succ k ih =>
    unfold seedN
    split
    · exact SV_visit (ih (by omega)) (by omega)
    · exact ih (by omega)
theorem sdI_SV {ok : Int → Bool} {lo k : Int} (hlo : 0 ≤ lo) (h0 : 0 ≤ k) (hk : lo + k ≤ 2880) : SV (sdI ok lo k) := by rw [sdI_eq]; exact seedN_SV ok hlo k.toNat (by omega)
theorem stW_SV {ok : Int → Bool} {c : Int} (hc : 0 ≤ c ∧ c < 2880) {s : BS} (h : SV s) (w : Nat) : SV (stepW ok c w s) := by
  induction w with
  | zero => exact h
  | succ w ih =>
    unfold stepW
    split
    · rename_i q
      have := @bes_rng c w hc
      exact SV_visit ih (by omega)
    · exact ih
theorem bfsN_SV {ok : Int → Bool} {s : BS} (h : SV s) (i : Nat) : SV (bfsN ok i s) := by
  induction i with
  | zero => exact h
  | succ i ih =>
    unfold bfsN
    split
    · rename_i q
      have := SV_get ih (i := i) (by omega)
      exact stW_SV this ih 6
    · exact ih
theorem bfs_SV {ok : Int → Bool} {s : BS} (h : SV s) : SV (bfs ok s) := by rw [bfs_eq]; exact bfsN_SV h 2880
/-- kinds of cubes; what is open, what stands -/
def okB (K : Int) (B : Int → Int) : Int → Bool := fun c => hk K (B c)
noncomputable def seedS (K : Int) (B : Int → Int) (z : Int) : BS := sdI (okB K B) (144 * z) 144
noncomputable def opnS (B : Int → Int) : BS := bfs (okB 1 B) (seedS 1 B 19)
noncomputable def stdS (B : Int → Int) : BS := bfs (okB 254 B) (seedS 254 B 0)
theorem seedS_SV (K : Int) (B : Int → Int) {z : Int} (h : 0 ≤ z ∧ z ≤ 19) : SV (seedS K B z) := sdI_SV (by omega) (by omega) (by omega)
theorem opnS_SV (B : Int → Int) : SV (opnS B) := bfs_SV (seedS_SV 1 B (by omega))
theorem stdS_SV (B : Int → Int) : SV (stdS B) := bfs_SV (seedS_SV 254 B (by omega))
theorem mkF_init : mkF (fun _ => 0) 1 (fun _ => false, []) = fun _ => 0 := by funext c; simp [mkF]
def fillF (f : Int → Int) (n v : Int) : Int → Int := fun c => if 0 ≤ c ∧ c < n then v else f c
theorem fillF_0 (f : Int → Int) (v : Int) : fillF f 0 v = f := by funext c; unfold fillF; rw [if_neg (by omega)]
theorem fillF_s {f : Int → Int} {i v : Int} (h : 0 ≤ i) : upI (fillF f i v) i v = fillF f (i + 1) v := by
  funext c
  unfold upI fillF
  by_cases q : c = i
  · rw [if_pos q, if_pos (by omega)]
  · rw [if_neg q]
    by_cases q2 : 0 ≤ c ∧ c < i
    · rw [if_pos q2, if_pos (by omega)]
    · rw [if_neg q2, if_neg (by omega)]
