/-! WHAT THE CALLS MEAN: pure functions on boards (Int → Int), masks (Int → Bool), counts -/
def BOK (B : Int → Int) : Prop := ∀ c, 0 ≤ B c ∧ B c ≤ 7
theorem BOK_upI {B : Int → Int} (h : BOK B) {e v : Int} (hv : 0 ≤ v ∧ v ≤ 7) : BOK (upI B e v) := fun c => by
  by_cases q : c = e
  · subst q; rw [upI_s]; exact hv
  · rw [upI_n q]; exact h c
/-- how many of the first k have p -/
def cntS (p : Int → Bool) : Nat → Int
  | 0 => 0
  | n + 1 => cntS p n + bI (p n)
theorem cntI_ex : ∃ F : (Int → Bool) → Int → Int, ∀ p k, F p k = cntS p k.toNat := ⟨fun p k => cntS p k.toNat, fun _ _ => rfl⟩
/-- the same up to an Int; never unfolded by itself -/
noncomputable def cntI : (Int → Bool) → Int → Int := Classical.choose cntI_ex
theorem cntI_eq (p : Int → Bool) (k : Int) : cntI p k = cntS p k.toNat := Classical.choose_spec cntI_ex p k
theorem cntI_0 (p : Int → Bool) : cntI p 0 = 0 := by rw [cntI_eq]; rfl
theorem cntI_s (p : Int → Bool) {k : Int} (h : 0 ≤ k) : cntI p (k + 1) = cntI p k + bI (p k) := by
  rw [cntI_eq, cntI_eq]
  obtain ⟨n, rfl⟩ := Int.eq_ofNat_of_zero_le h
  rfl
theorem cntI_t {p : Int → Bool} {k : Int} (h : 0 ≤ k) (hp : p k = true) : cntI p (k + 1) = cntI p k + 1 := by rw [cntI_s p h, hp]; rfl
theorem cntI_f {p : Int → Bool} {k : Int} (h : 0 ≤ k) (hp : p k = false) : cntI p (k + 1) = cntI p k := by rw [cntI_s p h, hp]; exact Int.add_zero _
theorem cntS_rng (p : Int → Bool) (n : Nat) : 0 ≤ cntS p n ∧ cntS p n ≤ n := by
  induction n with
  | zero => exact ⟨Int.le_refl _, Int.le_refl _⟩
  | succ n ih => have := bI_rng (p n); show 0 ≤ cntS p n + bI (p n) ∧ cntS p n + bI (p n) ≤ (n + 1 : Nat); omega
theorem cntI_rng (p : Int → Bool) {k : Int} (h : 0 ≤ k) : 0 ≤ cntI p k ∧ cntI p k ≤ k := by
  have := cntS_rng p k.toNat
  rw [cntI_eq]
  omega
theorem cntS_cong {p q : Int → Bool} (n : Nat) (h : ∀ c : Int, 0 ≤ c → c < n → p c = q c) : cntS p n = cntS q n := by
  induction n with
  | zero => rfl
  | succ n ih =>
    show cntS p n + bI (p n) = cntS q n + bI (q n)
    rw [ih (fun c h1 h2 => h c h1 (by omega)), h n (by omega) (by omega)]
theorem cntI_cong {p q : Int → Bool} {k : Int} (h : ∀ c : Int, 0 ≤ c → c < k → p c = q c) : cntI p k = cntI q k := by rw [cntI_eq, cntI_eq]; exact cntS_cong _ (fun c h1 h2 => h c h1 (by omega))
theorem cntS_upd (p : Int → Bool) {e : Int} (he : p e = false) (n : Nat) : cntS (upI p e true) n = cntS p n + (if 0 ≤ e ∧ e < n then 1 else 0) := by
  induction n with
  | zero => rw [if_neg (by omega)]; rfl
  | succ n ih =>
    show cntS (upI p e true) n + bI (upI p e true n) = cntS p n + bI (p n) + _
    rw [ih]
    by_cases q : (n : Int) = e
    · subst q
      rw [upI_s, he, if_neg (by omega), if_pos (by omega), bI_t, bI_f]
    · rw [upI_n q]
      by_cases q2 : 0 ≤ e ∧ e < n
      · rw [if_pos q2, if_pos (by omega)]; omega
      · rw [if_neg q2, if_neg (by omega)]; omega
theorem cntI_upd (p : Int → Bool) {e k : Int} (he : p e = false) (h : 0 ≤ e ∧ e < k) : cntI (upI p e true) k = cntI p k + 1 := by
  rw [cntI_eq, cntI_eq, cntS_upd p he, if_pos (by omega)]
/-- a kind of a set of kinds -/
def hk (K v : Int) : Bool := decide (K / 2 ^ v.toNat % 2 = 1)
theorem hk_ne {K v : Int} : (K / 2 ^ v.toNat % 2 ^ 1 ≠ 0) ↔ hk K v = true := by
  unfold hk
  rw [decide_eq_true_iff]
  have : K / 2 ^ v.toNat % 2 = 0 ∨ K / 2 ^ v.toNat % 2 = 1 := by omega
  show K / 2 ^ v.toNat % 2 ≠ 0 ↔ _
  omega
theorem hk_eq {K v : Int} : (K / 2 ^ v.toNat % 2 ^ 1 = 0) ↔ hk K v = false := by
  have h := @hk_ne K v
  cases q : hk K v with
  | true => rw [q] at h; exact ⟨fun z => absurd z (h.mpr rfl), fun z => by cases z⟩
  | false => rw [q] at h; exact ⟨fun _ => rfl, fun _ => Classical.byContradiction fun z => by cases h.mp z⟩
/-- the cube beside a cube on a way: x - 1, x + 1, y - 1, y + 1, z - 1, z + 1; -1: none -/
def bes (c w : Int) : Int :=
  if w = 0 then (if c % 12 > 0 then c - 1 else -1)
  else if w = 1 then (if c % 12 < 11 then c + 1 else -1)
  else if w = 2 then (if c % 144 ≥ 12 then c - 12 else -1)
  else if w = 3 then (if c % 144 < 132 then c + 12 else -1)
  else if w = 4 then (if c ≥ 144 then c - 144 else -1)
  else (if c < 2736 then c + 144 else -1)
theorem bes_rng {c w : Int} (h : 0 ≤ c ∧ c < 2880) : -1 ≤ bes c w ∧ bes c w < 2880 := by
  unfold bes
  repeat' split
  all_goals omega
theorem pow2_rng {s : Int} (h : 0 ≤ s ∧ s ≤ 7) : 1 ≤ (2 : Int) ^ s.toNat ∧ (2 : Int) ^ s.toNat ≤ 128 := by
  rcases (show s = 0 ∨ s = 1 ∨ s = 2 ∨ s = 3 ∨ s = 4 ∨ s = 5 ∨ s = 6 ∨ s = 7 by omega) with h | h | h | h | h | h | h | h <;> subst h <;> decide
theorem hk_or_rng {K s : Int} (hK : 0 ≤ K ∧ K ≤ 255) (hs : 0 ≤ s ∧ s ≤ 7) : 0 ≤ (((K : Int).toNat ||| (1 * 2 ^ s.toNat : Int).toNat : Nat) : Int) ∧ (((K : Int).toNat ||| (1 * 2 ^ s.toNat : Int).toNat : Nat) : Int) ≤ 255 := by
  have h := pow2_rng hs
  have h1 : (K.toNat ||| (1 * 2 ^ s.toNat : Int).toNat) < 2 ^ 8 := Nat.or_lt_two_pow (by omega) (by omega)
  omega
/-- the highest cube of a place below n that is not empty, or -1 -/
def topN (B : Int → Int) (p : Int) : Nat → Int
  | 0 => -1
  | n + 1 => if B (144 * n + p) = 0 then topN B p n else n
def topS (B : Int → Int) (p : Int) : Int := topN B p 20
theorem topN_rng (B : Int → Int) (p : Int) (n : Nat) : -1 ≤ topN B p n ∧ topN B p n < n := by
  induction n with
  | zero => exact ⟨Int.le_refl _, by show (-1 : Int) < 0; decide⟩
  | succ n ih => unfold topN; split <;> omega
theorem topS_rng (B : Int → Int) (p : Int) : -1 ≤ topS B p ∧ topS B p ≤ 19 := by have := topN_rng B p 20; unfold topS; omega
theorem topN_up {B : Int → Int} {p : Int} {z : Int} {n : Nat} (hz : -1 ≤ z) (hn : z < n) (h : ∀ y : Int, z < y → y < n → B (144 * y + p) = 0) : topN B p n = topN B p (z + 1).toNat := by
  induction n with
  | zero => have : (z + 1).toNat = 0 := by omega
            rw [this]
  | succ n ih =>
    by_cases q : z = n
    · have : (z + 1).toNat = n + 1 := by omega
      rw [this]
    · rw [← ih (by omega) (fun y h1 h2 => h y h1 (by omega))]
      show (if B (144 * n + p) = 0 then topN B p n else (n : Int)) = _
      rw [if_pos (h n (by omega) (by omega))]
theorem topS_at {B : Int → Int} {p z : Int} (hz : 0 ≤ z ∧ z ≤ 19) (h : ∀ y : Int, z < y → y ≤ 19 → B (144 * y + p) = 0) (h0 : B (144 * z + p) ≠ 0) : topS B p = z := by
  unfold topS
  rw [topN_up (z := z) (by omega) (by omega) (fun y h1 h2 => h y h1 (by omega))]
  have : (z + 1).toNat = z.toNat + 1 := by omega
  rw [this]
  show (if B (144 * (z.toNat : Int) + p) = 0 then _ else ((z.toNat : Nat) : Int)) = z
  have e : ((z.toNat : Nat) : Int) = z := by omega
  rw [e, if_neg h0]
theorem topS_none {B : Int → Int} {p : Int} (h : ∀ y : Int, -1 < y → y ≤ 19 → B (144 * y + p) = 0) : topS B p = -1 := by
  unfold topS
  rw [topN_up (z := -1) (by omega) (by omega) (fun y h1 h2 => h y h1 (by omega))]
  rfl
theorem topS_above {B : Int → Int} {p y : Int} (h1 : topS B p < y) (h2 : y ≤ 19) : B (144 * y + p) = 0 := by
  have key : ∀ n : Nat, topN B p n < y → y < n → B (144 * y + p) = 0 := by
    intro n
    induction n with
    | zero => intro a b; have := topN_rng B p 0; omega
    | succ n ih =>
      intro a b
      unfold topN at a
      by_cases q : B (144 * n + p) = 0
      · rw [if_pos q] at a
        by_cases e : y = n
        · rw [e]; exact q
        · exact ih a (by omega)
      · rw [if_neg q] at a; omega
  exact key 20 h1 (by omega)
theorem topS_ne {B : Int → Int} {p : Int} (h : topS B p ≠ -1) : B (144 * topS B p + p) ≠ 0 := by
  have key : ∀ n : Nat, topN B p n ≠ -1 → B (144 * topN B p n + p) ≠ 0 := by
    intro n
    induction n with
    | zero => intro a; exact absurd rfl a
    | succ n ih =>
      intro a
      unfold topN at a ⊢
      by_cases q : B (144 * n + p) = 0
      · rw [if_pos q] at a ⊢; exact ih a
      · rw [if_neg q]; exact q
  exact key 20 h
