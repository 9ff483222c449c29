/-! NETS, as the class marks them: (marks, how many), behind the first k cubes -/
noncomputable def ntN (K : Int) (B : Int → Int) : Nat → (Int → Int) × Int
  | 0 => (fun _ => 0, 0)
  | k + 1 => if (ntN K B k).1 k = 0 ∧ hk K (B k) = true then (mkF (ntN K B k).1 ((ntN K B k).2 + 1) (bfs (okB K B) (visit (fun c => decide ((ntN K B k).1 c ≠ 0), []) k)), (ntN K B k).2 + 1) else ntN K B k
theorem ntI_e : ∃ F : Int → (Int → Int) → Int → (Int → Int) × Int, ∀ K B k, F K B k = ntN K B k.toNat := ⟨fun K B k => ntN K B k.toNat, fun _ _ _ => rfl⟩
noncomputable def ntI : Int → (Int → Int) → Int → (Int → Int) × Int := Classical.choose ntI_e
theorem ntI_eq (K : Int) (B : Int → Int) (k : Int) : ntI K B k = ntN K B k.toNat := Classical.choose_spec ntI_e K B k
theorem ntI_0 (K : Int) (B : Int → Int) : ntI K B 0 = (fun _ => 0, 0) := by rw [ntI_eq]; rfl
theorem ntI_s {K : Int} {B : Int → Int} {k : Int} (hk0 : 0 ≤ k) : ntI K B (k + 1) = if (ntI K B k).1 k = 0 ∧ hk K (B k) = true then (mkF (ntI K B k).1 ((ntI K B k).2 + 1) (bfs (okB K B) (visit (fun c => decide ((ntI K B k).1 c ≠ 0), []) k)), (ntI K B k).2 + 1) else ntI K B k := by
  rw [ntI_eq, ntI_eq]
  obtain ⟨n, rfl⟩ := Int.eq_ofNat_of_zero_le hk0
  rfl
theorem ntI_no {K : Int} {B : Int → Int} {k : Int} (hk0 : 0 ≤ k) (h : ¬ (ntI K B k).1 k = 0) : ntI K B (k + 1) = ntI K B k := by rw [ntI_s hk0, if_neg (fun z => h z.1)]
theorem ntI_nk {K : Int} {B : Int → Int} {k : Int} (hk0 : 0 ≤ k) (h : hk K (B k) = false) : ntI K B (k + 1) = ntI K B k := by rw [ntI_s hk0, if_neg (fun z => by rw [h] at z; exact absurd z.2 (by decide))]
theorem ntI_yes {K : Int} {B : Int → Int} {k : Int} (hk0 : 0 ≤ k) (h : (ntI K B k).1 k = 0) (h2 : hk K (B k) = true) : ntI K B (k + 1) = (mkF (ntI K B k).1 ((ntI K B k).2 + 1) (bfs (okB K B) (visit (fun c => decide ((ntI K B k).1 c ≠ 0), []) k)), (ntI K B k).2 + 1) := by rw [ntI_s hk0, if_pos ⟨h, h2⟩]
/-- a fresh spreading over older marks -/
def vs0 (M : Int → Int) : BS := (fun c => decide (M c ≠ 0), [])
theorem vs0_SV (M : Int → Int) : SV (vs0 M) := ⟨fun c hc => by simp [vs0] at hc, by have := cntI_rng (vs0 M).1 (k := 2880) (by omega); show ((([] : List Int).length : Nat) : Int) ≤ _; simp; omega⟩
theorem vs0_M {M : Int → Int} (c : Int) (h : M c ≠ 0) : (vs0 M).1 c = true := by unfold vs0; simpa using h
theorem vs0_f {M : Int → Int} {c : Int} (h : M c = 0) : (vs0 M).1 c = false := by unfold vs0; simpa using h
theorem mkF_vs0 (M : Int → Int) (mk : Int) : mkF M mk (vs0 M) = M := mkF_0 M mk
theorem bfsN_mono {ok : Int → Bool} {s : BS} {c : Int} (h : s.1 c = true) (n : Nat) : (bfsN ok n s).1 c = true := by
  have st : ∀ (d : Int) (w : Nat) (u : BS), u.1 c = true → (stepW ok d w u).1 c = true := by
    intro d w
    induction w with
    | zero => intro u hu; exact hu
    | succ w ih =>
      intro u hu
      unfold stepW
      split
      · rw [visit_1, ih u hu]; rfl
      · exact ih u hu
  induction n with
  | zero => exact h
  | succ n ih =>
    unfold bfsN
    split
    · exact st _ 6 _ ih
    · exact ih
theorem bfs_mono {ok : Int → Bool} {s : BS} {c : Int} (h : s.1 c = true) : (bfs ok s).1 c = true := by
  obtain ⟨n, hn⟩ := bfs_ex ok s
  rw [hn]
  exact bfsN_mono h n
theorem ntI_rng (K : Int) (B : Int → Int) {k : Int} (hk0 : 0 ≤ k) : (0 ≤ (ntI K B k).2 ∧ (ntI K B k).2 ≤ k) ∧ ∀ c, 0 ≤ (ntI K B k).1 c ∧ (ntI K B k).1 c ≤ (ntI K B k).2 := by
  rw [ntI_eq]
  have key : ∀ n : Nat, (0 ≤ (ntN K B n).2 ∧ (ntN K B n).2 ≤ n) ∧ ∀ c, 0 ≤ (ntN K B n).1 c ∧ (ntN K B n).1 c ≤ (ntN K B n).2 := by
    intro n
    induction n with
    | zero => exact ⟨⟨Int.le_refl _, Int.le_refl _⟩, fun c => ⟨Int.le_refl _, Int.le_refl _⟩⟩
    | succ n ih =>
      unfold ntN
      split
      · refine ⟨⟨by have := ih.1; show 0 ≤ (ntN K B n).2 + 1; omega, by have := ih.1; show (ntN K B n).2 + 1 ≤ _; omega⟩, fun c => ?_⟩
        exact mkF_rng (fun c => by have := ih.2 c; omega) (by have := ih.1; omega) c
      · exact ⟨⟨ih.1.1, by have := ih.1.2; omega⟩, ih.2⟩
  have := key k.toNat
  exact ⟨⟨this.1.1, by omega⟩, this.2⟩
noncomputable def netM (K : Int) (B : Int → Int) : Int → Int := (ntI K B 2880).1
noncomputable def netC (K : Int) (B : Int → Int) : Int := (ntI K B 2880).2
theorem netC_rng (K : Int) (B : Int → Int) : 0 ≤ netC K B ∧ netC K B ≤ 2880 := (ntI_rng K B (by omega)).1
theorem netM_rng (K : Int) (B : Int → Int) (c : Int) : 0 ≤ netM K B c ∧ netM K B c ≤ 2880 := by
  have h := (ntI_rng K B (k := 2880) (by omega)).2 c
  have h2 := netC_rng K B
  unfold netM netC at *
  omega
/-- the greatest z' below n with P, or -1 -/
def findDn (P : Int → Bool) : Nat → Int
  | 0 => -1
  | n + 1 => if P n then n else findDn P n
theorem fdI_e : ∃ F : (Int → Bool) → Int → Int, ∀ P z, F P z = findDn P z.toNat := ⟨fun P z => findDn P z.toNat, fun _ _ => rfl⟩
noncomputable def fdI : (Int → Bool) → Int → Int := Classical.choose fdI_e
theorem fdI_eq (P : Int → Bool) (z : Int) : fdI P z = findDn P z.toNat := Classical.choose_spec fdI_e P z
theorem fdI_t {P : Int → Bool} {z : Int} (h : 0 ≤ z) (hp : P z = true) : fdI P (z + 1) = z := by
  rw [fdI_eq]
  obtain ⟨n, rfl⟩ := Int.eq_ofNat_of_zero_le h
  show (if P (n : Int) then (n : Int) else _) = _
  rw [if_pos hp]
theorem fdI_f {P : Int → Bool} {z : Int} (h : 0 ≤ z) (hp : P z = false) : fdI P (z + 1) = fdI P z := by
  rw [fdI_eq, fdI_eq]
  obtain ⟨n, rfl⟩ := Int.eq_ofNat_of_zero_le h
  show (if P (n : Int) then (n : Int) else _) = _
  rw [if_neg (by rw [hp]; decide)]
  rfl
theorem fdI_z {P : Int → Bool} {z : Int} (h : z ≤ 0) : fdI P z = -1 := by rw [fdI_eq, show z.toNat = 0 by omega]; rfl
theorem fdI_rng (P : Int → Bool) {z : Int} (h : 0 ≤ z) : -1 ≤ fdI P z ∧ fdI P z < z ∨ z = 0 ∧ fdI P z = -1 := by
  rw [fdI_eq]
  have key : ∀ n : Nat, -1 ≤ findDn P n ∧ findDn P n < max n 0 ∨ n = 0 ∧ findDn P n = -1 := by
    intro n
    induction n with
    | zero => exact Or.inr ⟨rfl, rfl⟩
    | succ n ih => unfold findDn; split <;> omega
  have := key z.toNat
  omega
theorem fuI_rng (P : Int → Bool) {z N : Int} (h : 0 ≤ z ∧ z ≤ N) : -1 ≤ fuI P z N ∧ fuI P z N < N ∨ fuI P z N = -1 := by
  unfold fuI
  have key : ∀ (n : Nat) (a : Int), 0 ≤ a → -1 ≤ findUp P a n ∧ findUp P a n < a + n ∨ findUp P a n = -1 := by
    intro n
    induction n with
    | zero => intro a ha; exact Or.inr rfl
    | succ n ih => intro a ha; have := ih (a + 1) (by omega); unfold findUp; split <;> omega
  have := key (N - z).toNat z h.1
  omega
def overP (M : Int → Int) (i p : Int) : Bool := anI (fun z => decide (M (144 * z + p) = i + 1)) 0 20
/-! TAPES -/
def byteS (v k : Int) : Int := v % 4294967296 / 2 ^ (8 * k).toNat % 2 ^ 8
def putB (Tb : Int → Int) (L v : Int) : Int → Int := upI (upI (upI (upI Tb L (byteS v 3)) (L + 1) (byteS v 2)) (L + 2) (byteS v 1)) (L + 3) (byteS v 0)
def TOK (Tb : Int → Int) : Prop := ∀ j, 0 ≤ Tb j ∧ Tb j ≤ 255
theorem byteS_rng (v k : Int) : 0 ≤ byteS v k ∧ byteS v k ≤ 255 := by unfold byteS; omega
theorem TOK_up {Tb : Int → Int} (h : TOK Tb) {L b : Int} (hb : 0 ≤ b ∧ b ≤ 255) : TOK (upI Tb L b) := fun j => by
  by_cases q : j = L
  · rw [q, upI_s]; exact hb
  · rw [upI_n q]; exact h j
theorem TOK_putB {Tb : Int → Int} (h : TOK Tb) (L v : Int) : TOK (putB Tb L v) := TOK_up (TOK_up (TOK_up (TOK_up h (byteS_rng v 3)) (byteS_rng v 2)) (byteS_rng v 1)) (byteS_rng v 0)
