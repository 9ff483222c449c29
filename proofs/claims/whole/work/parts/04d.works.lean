/-! WORKS: what a step does to the whole board -/
/-- a cube of P becomes s -/
def putP (P : Int → Bool) (B : Int → Int) (s : Int) : Int → Int := fun c => if 0 ≤ c ∧ c < 2880 ∧ P c = true then s else B c
theorem BOK_putP {B : Int → Int} (h : BOK B) (P : Int → Bool) {s : Int} (hs : 0 ≤ s ∧ s ≤ 7) : BOK (putP P B s) := fun c => by
  unfold putP
  split
  · exact hs
  · exact h c
theorem putP_none {P : Int → Bool} {B : Int → Int} {s : Int} (h : ∀ c, 0 ≤ c → c < 2880 → P c = false) : putP P B s = B := by
  funext c
  unfold putP
  split
  · rename_i q; rw [h c q.1 q.2.1] at q; exact absurd q.2.2 (by decide)
  · rfl
theorem putP_cong {P P' : Int → Bool} {B : Int → Int} {s : Int} (h : ∀ c, 0 ≤ c → c < 2880 → P c = P' c) : putP P B s = putP P' B s := by
  funext c
  unfold putP
  by_cases q : 0 ≤ c ∧ c < 2880
  · rw [h c q.1 q.2]
  · rw [if_neg (fun z => q ⟨z.1, z.2.1⟩), if_neg (fun z => q ⟨z.1, z.2.1⟩)]
/-- beside a cube of P -/
def nearP (P : Int → Bool) (c : Int) : Bool := anI (fun w => decide (bes c w ≠ -1) && P (bes c w)) 0 6
def stuffP (B : Int → Int) : Int → Bool := fun c => decide (B c ≠ 0)
noncomputable def surfP (B : Int → Int) : Int → Bool := fun c => (opnS B).1 c && nearP (stuffP B) c
def expoP (V : Int → Bool) (c : Int) : Bool := decide (2736 ≤ c) || nearP V c
noncomputable def bareP (B : Int → Int) (K : Int) : Int → Bool := fun c => hk K (B c) && expoP (opnS B).1 c
noncomputable def coat1 (B : Int → Int) (s : Int) : Int → Int := putP (surfP B) B s
noncomputable def coatS (s : Int) : Nat → (Int → Int) → (Int → Int)
  | 0, B => B
  | n + 1, B => coatS s n (coat1 B s)
noncomputable def etch1 (B : Int → Int) (K : Int) : Int → Int := putP (bareP B K) B 0
noncomputable def etchS (K : Int) : Nat → (Int → Int) → (Int → Int)
  | 0, B => B
  | n + 1, B => etchS K n (etch1 B K)
theorem coatS_same {B : Int → Int} {s : Int} (h : coat1 B s = B) (n : Nat) : coatS s n B = B := by
  induction n with
  | zero => rfl
  | succ n ih => rw [coatS, h]; exact ih
theorem etchS_same {B : Int → Int} {K : Int} (h : etch1 B K = B) (n : Nat) : etchS K n B = B := by
  induction n with
  | zero => rfl
  | succ n ih => rw [etchS, h]; exact ih
theorem coatS_step {B : Int → Int} {s i n : Int} (h : i < n) : coatS s (n - i).toNat B = coatS s (n - (i + 1)).toNat (coat1 B s) := by rw [toNat_step h]; rfl
theorem etchS_step {B : Int → Int} {K i n : Int} (h : i < n) : etchS K (n - i).toNat B = etchS K (n - (i + 1)).toNat (etch1 B K) := by rw [toNat_step h]; rfl
theorem BOK_coatS {s : Int} (hs : 0 ≤ s ∧ s ≤ 7) (n : Nat) : ∀ {B : Int → Int}, BOK B → BOK (coatS s n B) := by
  induction n with
  | zero => intro B h; exact h
  | succ n ih => intro B h; exact ih (BOK_putP h _ hs)
theorem BOK_etchS {K : Int} (n : Nat) : ∀ {B : Int → Int}, BOK B → BOK (etchS K n B) := by
  induction n with
  | zero => intro B h; exact h
  | succ n ih => intro B h; exact ih (BOK_putP h _ (by omega))
noncomputable def fillS (B : Int → Int) (s h : Int) : Int → Int := putP (fun c => decide (c < 144 * h) && (opnS B).1 c) B s
def flatS (B : Int → Int) (h : Int) : Int → Int := putP (fun c => decide (144 * h ≤ c)) B 0
noncomputable def dropS (B : Int → Int) : Int → Int := putP (fun c => !(stdS B).1 c) B 0
noncomputable def openN (B : Int → Int) : Int := cntI (fun c => (opnS B).1 c) 2880
noncomputable def floatN (B : Int → Int) : Int := cntI (fun c => !(stdS B).1 c && hk 254 (B c)) 2880
/-- the first k of P in their order -/
def pkN (P : Int → Bool) : Nat → List Int
  | 0 => []
  | k + 1 => pkN P k ++ (if P k then [(k : Int)] else [])
theorem pkI_e : ∃ F : (Int → Bool) → Int → List Int, ∀ P k, F P k = pkN P k.toNat := ⟨fun P k => pkN P k.toNat, fun _ _ => rfl⟩
noncomputable def pkI : (Int → Bool) → Int → List Int := Classical.choose pkI_e
theorem pkI_eq (P : Int → Bool) (k : Int) : pkI P k = pkN P k.toNat := Classical.choose_spec pkI_e P k
theorem pkI_0 (P : Int → Bool) : pkI P 0 = [] := by rw [pkI_eq]; rfl
theorem pkI_t {P : Int → Bool} {k : Int} (hk : 0 ≤ k) (h : P k = true) : pkI P (k + 1) = pkI P k ++ [k] := by
  rw [pkI_eq, pkI_eq]
  obtain ⟨n, rfl⟩ := Int.eq_ofNat_of_zero_le hk
  show pkN P n ++ (if P (n : Int) then [(n : Int)] else []) = _
  rw [if_pos h]; rfl
theorem pkI_f {P : Int → Bool} {k : Int} (hk : 0 ≤ k) (h : P k = false) : pkI P (k + 1) = pkI P k := by
  rw [pkI_eq, pkI_eq]
  obtain ⟨n, rfl⟩ := Int.eq_ofNat_of_zero_le hk
  show pkN P n ++ (if P (n : Int) then [(n : Int)] else []) = _
  rw [if_neg (by rw [h]; decide), List.append_nil]; rfl
theorem pkN_mem {P : Int → Bool} {c : Int} (k : Nat) : c ∈ pkN P k ↔ 0 ≤ c ∧ c < k ∧ P c = true := by
  induction k with
  | zero => simp [pkN]; omega
  | succ k ih =>
    unfold pkN
    rw [List.mem_append, ih]
    by_cases h : P k = true
    · rw [if_pos h, List.mem_singleton]
      constructor
      · rintro (q | q)
        · exact ⟨q.1, by omega, q.2.2⟩
        · subst q; exact ⟨by omega, by omega, h⟩
      · intro q
        by_cases e : c = k
        · exact Or.inr e
        · exact Or.inl ⟨q.1, by omega, q.2.2⟩
    · rw [if_neg h]
      constructor
      · rintro (q | q)
        · exact ⟨q.1, by omega, q.2.2⟩
        · cases q
      · intro q
        refine Or.inl ⟨q.1, ?_, q.2.2⟩
        have : c ≠ k := fun e => h (by rw [← e]; exact q.2.2)
        omega
theorem pkI_mem {P : Int → Bool} {c k : Int} (hk : 0 ≤ k) : c ∈ pkI P k ↔ 0 ≤ c ∧ c < k ∧ P c = true := by
  rw [pkI_eq, pkN_mem]
  constructor
  · intro q; exact ⟨q.1, by omega, q.2.2⟩
  · intro q; exact ⟨q.1, by omega, q.2.2⟩
theorem pkN_len (P : Int → Bool) (k : Nat) : ((pkN P k).length : Int) = cntS P k := by
  induction k with
  | zero => rfl
  | succ k ih =>
    unfold pkN
    rw [List.length_append]
    show _ = cntS P k + bI (P k)
    rw [← ih]
    cases P k <;> simp [bI]
theorem pkI_len {P : Int → Bool} {k : Int} (hk : 0 ≤ k) : 0 ≤ ((pkI P k).length : Int) ∧ ((pkI P k).length : Int) ≤ k := by
  rw [pkI_eq, pkN_len]
  have := cntS_rng P k.toNat
  omega
theorem pkI_get {P : Int → Bool} {k i : Int} (hk : 0 ≤ k) (hi : 0 ≤ i ∧ i < ((pkI P k).length : Int)) : 0 ≤ (pkI P k).getD i.toNat 0 ∧ (pkI P k).getD i.toNat 0 < k := by
  have hlt : i.toNat < (pkI P k).length := by omega
  rw [getD_lt hlt]
  have := (pkI_mem hk).mp (List.getElem_mem hlt)
  exact ⟨this.1, this.2.1⟩
/-- those of the first i of a list become s -/
def putL (B : Int → Int) (l : List Int) (s i : Int) : Int → Int := fun c => if c ∈ l.take i.toNat then s else B c
theorem putL_0 (B : Int → Int) (l : List Int) (s : Int) : putL B l s 0 = B := by funext c; unfold putL; simp
theorem putL_s {B : Int → Int} {l : List Int} {s i : Int} (hi : 0 ≤ i ∧ i < (l.length : Int)) : upI (putL B l s i) (l.getD i.toNat 0) s = putL B l s (i + 1) := by
  funext c
  have hlt : i.toNat < l.length := by omega
  have e : (i + 1).toNat = i.toNat + 1 := by omega
  unfold upI putL
  rw [e, List.take_succ_eq_append_getElem hlt, getD_lt hlt]
  by_cases q : c = l[i.toNat]
  · rw [if_pos q, if_pos (List.mem_append_right _ (List.mem_singleton.mpr q))]
  · rw [if_neg q]
    by_cases q2 : c ∈ l.take i.toNat
    · rw [if_pos q2, if_pos (List.mem_append_left _ q2)]
    · rw [if_neg q2, if_neg (fun z => (List.mem_append.mp z).elim q2 (fun z => q (List.mem_singleton.mp z)))]
theorem putL_pk {B : Int → Int} {P : Int → Bool} {s i : Int} (h : ((pkI P 2880).length : Int) ≤ i) : putL B (pkI P 2880) s i = putP P B s := by
  funext c
  unfold putL putP
  rw [List.take_of_length_le (by omega)]
  by_cases q : 0 ≤ c ∧ c < 2880 ∧ P c = true
  · rw [if_pos q, if_pos ((pkI_mem (by omega)).mpr q)]
  · rw [if_neg q, if_neg (fun z => q ((pkI_mem (by omega)).mp z))]
theorem pk_none {P : Int → Bool} (h : ((pkI P 2880).length : Int) ≤ 0) : ∀ c, 0 ≤ c → c < 2880 → P c = false := by
  intro c h1 h2
  cases q : P c with
  | false => rfl
  | true =>
    have := (pkI_mem (P := P) (c := c) (k := 2880) (by omega)).mpr ⟨h1, h2, q⟩
    have h3 := List.length_pos_of_mem this
    omega
theorem bI_nz {b : Bool} (h : ¬ bI b = 0) : true = b := by cases b <;> first | rfl | exact absurd rfl h
theorem bI_ne {a b : Bool} (h : ¬ bI a = bI b) : decide (a = b) = false := by cases a <;> cases b <;> first | rfl | exact absurd rfl h
theorem bI_eq {a b : Bool} (h : bI a = bI b) : a = b := by cases a <;> cases b <;> first | rfl | (exact absurd h (by decide))
theorem stepW_ok {ok : Int → Bool} {c : Int} {s : BS} (h : ∀ d, s.1 d = true → ok d = true) (w : Nat) : ∀ d, (stepW ok c w s).1 d = true → ok d = true := by
  induction w with
  | zero => exact h
  | succ w ih =>
    intro d hd
    unfold stepW at hd
    split at hd
    · rename_i q
      rw [visit_1, Bool.or_eq_true, decide_eq_true_iff] at hd
      rcases hd with hd | hd
      · exact ih d hd
      · rw [hd]; exact q.2
    · exact ih d hd
theorem bfs_ex (ok : Int → Bool) (s : BS) : ∃ n, bfs ok s = bfsN ok n s := ⟨_, bfs_eq ok s⟩
theorem bfs_ok {ok : Int → Bool} {s : BS} (h : ∀ d, s.1 d = true → ok d = true) : ∀ d, (bfs ok s).1 d = true → ok d = true := by
  have key : ∀ (n : Nat), ∀ d, (bfsN ok n s).1 d = true → ok d = true := by
    intro n
    induction n with
    | zero => exact h
    | succ n ih =>
      unfold bfsN
      split
      · exact stepW_ok ih 6
      · exact ih
  intro d hd
  obtain ⟨n, hn⟩ := bfs_ex ok s
  rw [hn] at hd
  exact key n d hd
theorem seedS_ok {K : Int} {B : Int → Int} {z : Int} : ∀ d, (seedS K B z).1 d = true → okB K B d = true := by
  have key : ∀ (n : Nat), ∀ d, (seedN (okB K B) (144 * z) n).1 d = true → okB K B d = true := by
    intro n
    induction n with
    | zero => intro d hd; cases hd
    | succ n ih =>
      intro d hd
      unfold seedN at hd
      split at hd
      · rename_i q
        rw [visit_1, Bool.or_eq_true, decide_eq_true_iff] at hd
        rcases hd with hd | hd
        · exact ih d hd
        · rw [hd]; exact q
      · exact ih d hd
  intro d hd
  have hn : seedS K B z = seedN (okB K B) (144 * z) (144 : Int).toNat := sdI_eq _ _ _
  rw [hn] at hd
  exact key _ d hd
theorem opnS_ok {B : Int → Int} {c : Int} (h : (opnS B).1 c = true) : hk 1 (B c) = true := by
  have hn : opnS B = bfs (okB 1 B) (seedS 1 B 19) := rfl
  rw [hn] at h
  exact bfs_ok (ok := okB 1 B) (s := seedS 1 B 19) seedS_ok c h
theorem stdS_ok {B : Int → Int} {c : Int} (h : (stdS B).1 c = true) : hk 254 (B c) = true := by
  have hn : stdS B = bfs (okB 254 B) (seedS 254 B 0) := rfl
  rw [hn] at h
  exact bfs_ok (ok := okB 254 B) (s := seedS 254 B 0) seedS_ok c h
theorem openN_eq (B : Int → Int) : cntI (fun c => decide ((opnS B).1 c = true) && hk 1 (B c)) 2880 = openN B := by
  refine cntI_cong fun c h1 h2 => ?_
  cases q : (opnS B).1 c with
  | false => rfl
  | true => rw [opnS_ok q]; rfl
theorem floatN_eq (B : Int → Int) : cntI (fun c => decide ((stdS B).1 c = false) && hk 254 (B c)) 2880 = floatN B := by
  refine cntI_cong fun c h1 h2 => ?_
  cases q : (stdS B).1 c with
  | false => rfl
  | true => rfl
