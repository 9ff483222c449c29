/-! NETS: a fresh spreading against one over older marks -/
theorem bes_sym {c w : Int} (hc : 0 ≤ c ∧ c < 2880) (hw : 0 ≤ w ∧ w < 6) (h : bes c w ≠ -1) : ∃ v : Nat, v < 6 ∧ bes (bes c w) v = c := by
  rcases (show w = 0 ∨ w = 1 ∨ w = 2 ∨ w = 3 ∨ w = 4 ∨ w = 5 by omega) with q | q | q | q | q | q <;> subst q
  · have e : 0 < c % 12 := by
      apply Classical.byContradiction; intro z; apply h; unfold bes; rw [if_pos rfl, if_neg (by omega)]
    have e2 : bes c 0 = c - 1 := by unfold bes; rw [if_pos rfl, if_pos e]
    refine ⟨1, by omega, ?_⟩
    rw [e2]; unfold bes; (repeat (first | rw [if_pos (by omega)] | rw [if_neg (by omega)])); omega
  · have e : c % 12 < 11 := by
      apply Classical.byContradiction; intro z; apply h; unfold bes; rw [if_neg (by omega), if_pos rfl, if_neg (by omega)]
    have e2 : bes c 1 = c + 1 := by unfold bes; rw [if_neg (by omega), if_pos rfl, if_pos e]
    refine ⟨0, by omega, ?_⟩
    rw [e2]; unfold bes; (repeat (first | rw [if_pos (by omega)] | rw [if_neg (by omega)])); omega
  · have e : 12 ≤ c % 144 := by
      apply Classical.byContradiction; intro z; apply h; unfold bes; rw [if_neg (by omega), if_neg (by omega), if_pos rfl, if_neg (by omega)]
    have e2 : bes c 2 = c - 12 := by unfold bes; rw [if_neg (by omega), if_neg (by omega), if_pos rfl, if_pos e]
    refine ⟨3, by omega, ?_⟩
    rw [e2]; unfold bes; (repeat (first | rw [if_pos (by omega)] | rw [if_neg (by omega)])); omega
  · have e : c % 144 < 132 := by
      apply Classical.byContradiction; intro z; apply h; unfold bes; rw [if_neg (by omega), if_neg (by omega), if_neg (by omega), if_pos rfl, if_neg (by omega)]
    have e2 : bes c 3 = c + 12 := by unfold bes; rw [if_neg (by omega), if_neg (by omega), if_neg (by omega), if_pos rfl, if_pos e]
    refine ⟨2, by omega, ?_⟩
    rw [e2]; unfold bes; (repeat (first | rw [if_pos (by omega)] | rw [if_neg (by omega)])); omega
  · have e : 144 ≤ c := by
      apply Classical.byContradiction; intro z; apply h; unfold bes; rw [if_neg (by omega), if_neg (by omega), if_neg (by omega), if_neg (by omega), if_pos rfl, if_neg (by omega)]
    have e2 : bes c 4 = c - 144 := by unfold bes; rw [if_neg (by omega), if_neg (by omega), if_neg (by omega), if_neg (by omega), if_pos rfl, if_pos e]
    refine ⟨5, by omega, ?_⟩
    rw [e2]; unfold bes; (repeat (first | rw [if_pos (by omega)] | rw [if_neg (by omega)])); omega
  · have e : c < 2736 := by
      apply Classical.byContradiction; intro z; apply h; unfold bes; rw [if_neg (by omega), if_neg (by omega), if_neg (by omega), if_neg (by omega), if_neg (by omega), if_neg (by omega)]
    have e2 : bes c 5 = c + 144 := by unfold bes; rw [if_neg (by omega), if_neg (by omega), if_neg (by omega), if_neg (by omega), if_neg (by omega), if_pos e]
    refine ⟨4, by omega, ?_⟩
    rw [e2]; unfold bes; (repeat (first | rw [if_pos (by omega)] | rw [if_neg (by omega)])); omega
/-- what is marked is ok, and what is ok beside it is marked -/
def MC (ok : Int → Bool) (M : Int → Int) : Prop := ∀ d, M d ≠ 0 → (0 ≤ d ∧ d < 2880) ∧ ok d = true ∧ ∀ w : Nat, w < 6 → bes d w ≠ -1 → ok (bes d w) = true → M (bes d w) ≠ 0
/-- a fresh spreading u among what M leaves, and the same v over the marks of M -/
def RBL (ok : Int → Bool) (M : Int → Int) (u v : BS) : Prop := v.2 = u.2 ∧ (∀ d, v.1 d = (decide (M d ≠ 0) || u.1 d)) ∧ (∀ d ∈ u.2, (0 ≤ d ∧ d < 2880) ∧ M d = 0 ∧ ok d = true) ∧ (∀ d, u.1 d = true ↔ d ∈ u.2) ∧ SV u
theorem RBL_visit {ok : Int → Bool} {M : Int → Int} {u v : BS} {e : Int} (h : RBL ok M u v) (he : 0 ≤ e ∧ e < 2880) (hM : M e = 0) (hok : ok e = true) : RBL ok M (visit u e) (visit v e) := by
  obtain ⟨h1, h2, h3, h4, h5⟩ := h
  have hv : v.1 e = u.1 e := by rw [h2 e, decide_eq_false (fun z => z hM)]; rfl
  refine ⟨?_, fun d => ?_, fun d hd => ?_, fun d => ?_, SV_visit h5 he⟩
  · cases q : u.1 e with
    | true => rw [visit_t q, visit_t (hv.trans q)]; exact h1
    | false => rw [visit_f q, visit_f (hv.trans q)]; show v.2 ++ [e] = u.2 ++ [e]; rw [h1]
  · rw [visit_1, visit_1, h2 d, Bool.or_assoc]
  · cases q : u.1 e with
    | true => rw [visit_t q] at hd; exact h3 d hd
    | false =>
      rw [visit_f q] at hd
      rcases List.mem_append.mp hd with x | x
      · exact h3 d x
      · rw [List.mem_singleton.mp x]; exact ⟨he, hM, hok⟩
  · rw [visit_1]
    cases q : u.1 e with
    | true =>
      rw [visit_t q]
      constructor
      · intro x
        rcases (Bool.or_eq_true _ _).mp x with y | y
        · exact (h4 d).mp y
        · rw [of_decide_eq_true y]; exact (h4 e).mp q
      · intro x; rw [(h4 d).mpr x]; rfl
    | false =>
      rw [visit_f q]
      show _ ↔ d ∈ u.2 ++ [e]
      rw [List.mem_append, List.mem_singleton, ← h4 d]
      simp
theorem RBL_free {ok : Int → Bool} {M : Int → Int} (hMC : MC ok M) {c : Int} (hc : 0 ≤ c ∧ c < 2880) (hM : M c = 0) (hok : ok c = true) {w : Nat} (hw : w < 6) (hb : bes c w ≠ -1) : M (bes c w) = 0 := by
  apply Classical.byContradiction
  intro z
  obtain ⟨v, v1, v2⟩ := bes_sym hc (w := w) (by omega) hb
  have h := (hMC _ z).2.2 v v1 (by rw [v2]; omega) (by rw [v2]; exact hok)
  rw [v2] at h
  exact h hM
theorem RBL_step {ok : Int → Bool} {M : Int → Int} (hMC : MC ok M) {u v : BS} {c : Int} (h : RBL ok M u v) (hc : 0 ≤ c ∧ c < 2880) (hM : M c = 0) (hok : ok c = true) (w : Nat) (hw : w ≤ 6) : RBL ok M (stepW ok c w u) (stepW ok c w v) := by
  induction w with
  | zero => exact h
  | succ w ih =>
    have ih := ih (by omega)
    unfold stepW
    by_cases q : bes c w ≠ -1 ∧ ok (bes c w) = true
    · rw [if_pos q, if_pos q]
      have hr := @bes_rng c w hc
      exact RBL_visit ih (by omega) (RBL_free hMC hc hM hok (by omega) q.1) q.2
    · rw [if_neg q, if_neg q]; exact ih
theorem RBL_bfs {ok : Int → Bool} {M : Int → Int} (hMC : MC ok M) {u v : BS} (h : RBL ok M u v) : RBL ok M (bfs ok u) (bfs ok v) := by
  rw [bfs_eq, bfs_eq]
  have key : ∀ n : Nat, RBL ok M (bfsN ok n u) (bfsN ok n v) := by
    intro n
    induction n with
    | zero => exact h
    | succ n ih =>
      unfold bfsN
      rw [ih.1]
      by_cases q : n < (bfsN ok n u).2.length
      · rw [if_pos q, if_pos q]
        have hm : (bfsN ok n u).2.getD n 0 ∈ (bfsN ok n u).2 := by rw [getD_lt q]; exact List.getElem_mem q
        have h3 := ih.2.2.1 _ hm
        exact RBL_step hMC ih h3.1 h3.2.1 h3.2.2 6 (Nat.le_refl _)
      · rw [if_neg q, if_neg q]; exact ih
  exact key 2880
theorem stepW_mono {ok : Int → Bool} {c d : Int} (w : Nat) {s : BS} (h : s.1 d = true) : (stepW ok c w s).1 d = true := by
  induction w with
  | zero => exact h
  | succ w ih =>
    unfold stepW
    split
    · rw [visit_1, ih]; rfl
    · exact ih
theorem stepW_get {ok : Int → Bool} {c : Int} (w : Nat) {s : BS} {i : Nat} (h : i < s.2.length) : (stepW ok c w s).2.getD i 0 = s.2.getD i 0 ∧ i < (stepW ok c w s).2.length := by
  induction w with
  | zero => exact ⟨rfl, h⟩
  | succ w ih =>
    unfold stepW
    split
    · exact ⟨(visit_get ih.2).trans ih.1, Nat.lt_of_lt_of_le ih.2 (visit_len _ _)⟩
    · exact ih
theorem stepW_all {ok : Int → Bool} {c : Int} {s : BS} (n w : Nat) (hw : w < n) (h1 : bes c w ≠ -1) (h2 : ok (bes c w) = true) : (stepW ok c n s).1 (bes c w) = true := by
  induction n with
  | zero => omega
  | succ n ih =>
    by_cases q : w = n
    · subst q
      show (if bes c w ≠ -1 ∧ ok (bes c w) = true then visit (stepW ok c w s) (bes c w) else stepW ok c w s).1 _ = true
      rw [if_pos ⟨h1, h2⟩, visit_1]
      simp
    · have := ih (by omega)
      unfold stepW
      split
      · rw [visit_1, this]; rfl
      · exact this
theorem bfs_closed {ok : Int → Bool} {s : BS} (h : SV s) : ∀ d ∈ (bfs ok s).2, ∀ w : Nat, w < 6 → bes d w ≠ -1 → ok (bes d w) = true → (bfs ok s).1 (bes d w) = true := by
  have hSV : SV (bfs ok s) := bfs_SV h
  rw [bfs_eq] at hSV ⊢
  have key : ∀ n : Nat, ∀ i, i < n → i < (bfsN ok n s).2.length → ∀ w : Nat, w < 6 → bes ((bfsN ok n s).2.getD i 0) w ≠ -1 → ok (bes ((bfsN ok n s).2.getD i 0) w) = true → (bfsN ok n s).1 (bes ((bfsN ok n s).2.getD i 0) w) = true := by
    intro n
    induction n with
    | zero => intro i hi; omega
    | succ n ih =>
      intro i hi hl w hw h1 h2
      by_cases q : n < (bfsN ok n s).2.length
      · have e : bfsN ok (n + 1) s = stepW ok ((bfsN ok n s).2.getD n 0) 6 (bfsN ok n s) := by
          show (if n < (bfsN ok n s).2.length then stW ok ((bfsN ok n s).2.getD n 0) 6 (bfsN ok n s) else bfsN ok n s) = _
          rw [if_pos q]; rfl
        rw [e] at h1 h2 ⊢
        have g := (stepW_get (ok := ok) (c := (bfsN ok n s).2.getD n 0) 6 (s := bfsN ok n s) (i := i) (by omega)).1
        rw [g] at h1 h2 ⊢
        by_cases q2 : i = n
        · subst q2; exact stepW_all 6 w hw h1 h2
        · exact stepW_mono 6 (ih i (by omega) (by omega) w hw h1 h2)
      · have e : bfsN ok (n + 1) s = bfsN ok n s := by
          show (if n < (bfsN ok n s).2.length then stW ok ((bfsN ok n s).2.getD n 0) 6 (bfsN ok n s) else bfsN ok n s) = _
          rw [if_neg q]
        rw [e] at h1 h2 hl ⊢
        exact ih i (by omega) hl w hw h1 h2
  intro d hd w hw h1 h2
  obtain ⟨i, hi, rfl⟩ := List.getElem_of_mem hd
  have hl := SV_len hSV
  have := key 2880 i (by omega) hi w hw
  rw [getD_lt hi] at this
  exact this h1 h2
theorem RBL_0 {ok : Int → Bool} {M : Int → Int} : RBL ok M (fun _ => false, []) (vs0 M) :=
  ⟨rfl, fun d => by show decide _ = _; simp, fun d hd => absurd hd (by simp), fun d => by simp, ⟨fun c hc => by simp at hc, by have := cntI_rng (fun _ => false) (k := 2880) (by omega); show ((([] : List Int).length : Nat) : Int) ≤ _; simp; omega⟩⟩
/-- the marks of one more net -/
theorem net_one {K : Int} {B : Int → Int} {M : Int → Int} {k n : Int} (hMC : MC (okB K B) M) (hk0 : 0 ≤ k ∧ k < 2880) (hM : M k = 0) (hok : hk K (B k) = true) (hn : n ≠ 0) : MC (okB K B) (mkF M n (bfs (okB K B) (visit (vs0 M) k))) ∧ ∀ d, mkF M n (bfs (okB K B) (visit (vs0 M) k)) d = if d ∈ (bfs (okB K B) (visit (fun _ => false, []) k)).2 then n else M d := by
  have hr := RBL_bfs hMC (RBL_visit (RBL_0 (ok := okB K B) (M := M)) hk0 hM hok)
  have hs : SV (visit ((fun _ => false, []) : BS) k) := (RBL_visit (RBL_0 (ok := okB K B) (M := M)) hk0 hM hok).2.2.2.2
  have hcl := bfs_closed (ok := okB K B) hs
  have hval : ∀ d, mkF M n (bfs (okB K B) (visit (vs0 M) k)) d = if d ∈ (bfs (okB K B) (visit (fun _ => false, []) k)).2 then n else M d := by
    intro d
    unfold mkF
    rw [hr.2.1 d]
    by_cases q : d ∈ (bfs (okB K B) (visit (fun _ => false, []) k)).2
    · have h3 := hr.2.2.1 d q
      rw [if_pos q, if_neg (fun z => z h3.2.1), (hr.2.2.2.1 d).mpr q]
      simp
    · have h4 : (bfs (okB K B) (visit (fun _ => false, []) k)).1 d = false := by
        cases e : (bfs (okB K B) (visit (fun _ => false, []) k)).1 d with
        | true => exact absurd ((hr.2.2.2.1 d).mp e) q
        | false => rfl
      rw [if_neg q, h4]
      by_cases e : M d = 0
      · simp [e]
      · rw [if_pos e]
  refine ⟨fun d hd => ?_, hval⟩
  rw [hval d] at hd
  by_cases q : d ∈ (bfs (okB K B) (visit (fun _ => false, []) k)).2
  · have h3 := hr.2.2.1 d q
    refine ⟨h3.1, h3.2.2, fun w hw h1 h2 => ?_⟩
    rw [hval, if_pos ((hr.2.2.2.1 _).mp (hcl d q w hw h1 h2))]
    exact hn
  · rw [if_neg q] at hd
    have h3 := hMC d hd
    refine ⟨h3.1, h3.2.1, fun w hw h1 h2 => ?_⟩
    rw [hval]
    split
    · exact hn
    · exact h3.2.2 w hw h1 h2
theorem ntI_MC (K : Int) (B : Int → Int) {k : Int} (h : 0 ≤ k ∧ k ≤ 2880) : MC (okB K B) (ntI K B k).1 := by
  obtain ⟨n, rfl⟩ := Int.eq_ofNat_of_zero_le h.1
  have h2 := h.2
  clear h
  induction n with
  | zero => rw [show ((0 : Nat) : Int) = 0 from rfl, ntI_0]; exact fun d hd => absurd rfl hd
  | succ n ih =>
    have ih := ih (by omega)
    have hr := (ntI_rng K B (k := (n : Int)) (by omega)).1.1
    rw [show ((n + 1 : Nat) : Int) = (n : Int) + 1 by omega, ntI_s (by omega)]
    split
    · rename_i q
      exact (net_one ih (k := (n : Int)) (n := (ntI K B n).2 + 1) (by omega) q.1 q.2 (by omega)).1
    · exact ih
/-- the first i of a list get the value n -/
def stL (f : Int → Int) (l : List Int) (n : Int) : Nat → (Int → Int)
  | 0 => f
  | i + 1 => upI (stL f l n i) (l.getD i 0) n
def stI (f : Int → Int) (l : List Int) (n i : Int) : Int → Int := stL f l n i.toNat
theorem stI_0 (f : Int → Int) (l : List Int) (n : Int) : stI f l n 0 = f := rfl
theorem stI_s {f : Int → Int} {l : List Int} {n i : Int} (h : 0 ≤ i) : upI (stI f l n i) (l.getD i.toNat 0) n = stI f l n (i + 1) := by
  unfold stI
  obtain ⟨k, rfl⟩ := Int.eq_ofNat_of_zero_le h
  rfl
theorem stL_e (f : Int → Int) (l : List Int) (n : Int) (k : Nat) (hk : k ≤ l.length) (d : Int) : stL f l n k d = if d ∈ l.take k then n else f d := by
  induction k with
  | zero => simp [stL]
  | succ k ih =>
    have ih := ih (by omega)
    unfold stL
    rw [List.take_succ_eq_append_getElem (by omega), ← getD_lt (l := l) (n := k) (by omega)]
    by_cases q : d = l.getD k 0
    · rw [q, upI_s, if_pos (by simp)]
    · rw [upI_n q, ih]
      by_cases q2 : d ∈ l.take k
      · rw [if_pos q2, if_pos (by simp [q2])]
      · rw [if_neg q2, if_neg (by simp only [List.mem_append, List.mem_singleton]; exact fun z => z.elim q2 q)]
theorem stI_e {f : Int → Int} {l : List Int} {n i : Int} (h : i = (l.length : Int)) (d : Int) : stI f l n i d = if d ∈ l then n else f d := by
  unfold stI
  rw [show i.toNat = l.length by omega, stL_e f l n _ (Nat.le_refl _), List.take_length]
/-- one net, as the reference numbers it -/
theorem net_step {K : Int} {B : Int → Int} {k i : Int} (hk0 : 0 ≤ k ∧ k < 2880) (hM : (ntI K B k).1 k = 0) (hok : hk K (B k) = true) (hi : i = ((bfs (okB K B) (visit (fun _ => false, []) k)).2.length : Int)) : stI (fun d => (ntI K B k).1 d - 1) (bfs (okB K B) (visit (fun _ => false, []) k)).2 (ntI K B k).2 i = fun d => (ntI K B (k + 1)).1 d - 1 := by
  have hr := (ntI_rng K B (k := k) (by omega)).1.1
  have h := net_one (ntI_MC K B (k := k) (by omega)) hk0 hM hok (n := (ntI K B k).2 + 1) (by omega)
  funext d
  rw [stI_e hi, ntI_yes (by omega) hM hok]
  show _ = mkF (ntI K B k).1 ((ntI K B k).2 + 1) (bfs (okB K B) (visit (vs0 (ntI K B k).1) k)) d - 1
  rw [h.2 d]
  split <;> omega
theorem sv0 : SV ((fun _ => false, []) : BS) := seedN_SV (fun _ => false) (lo := 0) (by omega) 0 (by omega)
/-! how a cube is printed, by its cases -/
theorem sg1 {B : Int → Int} {c v : Int} (hB : BOK B) (h : 0 < B c) (hv : 1 ≤ B c → B c ≤ 7 → v = 96 + B c) : v = signS B c := by
  have := hB c
  unfold signS
  rw [if_pos (by omega)]
  exact hv (by omega) (by omega)
theorem sg2 {B : Int → Int} {c v : Int} (hB : BOK B) (h : B c ≤ 0) (hm : (opnS B).1 c = true) (hv : v = 46) : v = signS B c := by
  have := hB c
  unfold signS
  rw [if_neg (by omega), if_pos hm]
  exact hv
theorem sg3 {B : Int → Int} {c v : Int} (hB : BOK B) (h : B c ≤ 0) (hm : (opnS B).1 c = false) (hv : v = 45) : v = signS B c := by
  have := hB c
  unfold signS
  rw [if_neg (by omega), if_neg (by rw [hm]; decide)]
  exact hv
