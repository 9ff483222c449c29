/-! a step that goes over the places of a mask -/
def plF (B : Int → Int) (p d o u n K : Int) : Int → Int := if d = 1 then layS B p o n else if d = 2 then cutS B p K n.toNat else dopeS B p o u K (topS B p) n.toNat
def atN (V : Int → Bool) (B : Int → Int) (d o u n K : Int) : Nat → (Int → Int)
  | 0 => B
  | p + 1 => if V p then plF (atN V B d o u n K p) p d o u n K else atN V B d o u n K p
theorem atI_e : ∃ F : (Int → Bool) → (Int → Int) → Int → Int → Int → Int → Int → Int → (Int → Int), ∀ V B d o u n K p, F V B d o u n K p = atN V B d o u n K p.toNat := ⟨fun V B d o u n K p => atN V B d o u n K p.toNat, fun _ _ _ _ _ _ _ _ => rfl⟩
noncomputable def atI : (Int → Bool) → (Int → Int) → Int → Int → Int → Int → Int → Int → (Int → Int) := Classical.choose atI_e
theorem atI_eq (V : Int → Bool) (B : Int → Int) (d o u n K p : Int) : atI V B d o u n K p = atN V B d o u n K p.toNat := Classical.choose_spec atI_e V B d o u n K p
theorem atI_0 (V : Int → Bool) (B : Int → Int) (d o u n K : Int) : atI V B d o u n K 0 = B := by rw [atI_eq]; rfl
theorem atI_s {V : Int → Bool} {B : Int → Int} {d o u n K p : Int} (h : 0 ≤ p) : atI V B d o u n K (p + 1) = if V p then plF (atI V B d o u n K p) p d o u n K else atI V B d o u n K p := by
  rw [atI_eq, atI_eq]
  obtain ⟨k, rfl⟩ := Int.eq_ofNat_of_zero_le h
  rfl
/-- the places of the mask in force; all, if there is none -/
def mkV (A : Int → Bool) (m : Int) : Int → Bool := fun p => decide (m < 0) || A (144 * m + p)
theorem atI_f {A : Int → Bool} {B : Int → Int} {m d o u n K p e : Int} (h : 0 ≤ p) (hm : 0 ≤ m) (ha : A e = false) (he : e = 144 * m + p) : atI (mkV A m) B d o u n K (p + 1) = atI (mkV A m) B d o u n K p := by
  subst he
  rw [atI_s h, if_neg (by unfold mkV; rw [decide_eq_false (by omega), ha]; decide)]
theorem mkV_t {A : Int → Bool} {m p e : Int} (h : m < 0 ∨ A e = true ∧ e = 144 * m + p) : mkV A m p = true := by
  unfold mkV
  rcases h with h | h
  · rw [decide_eq_true h]; rfl
  · rw [← h.2, h.1, Bool.or_true]
theorem atI_1 {V : Int → Bool} {B f : Int → Int} {d o u n K p : Int} (h : 0 ≤ p) (hf : f = atI V B d o u n K p) (hV : V p = true) (hd : d = 1) : layS f p o n = atI V B d o u n K (p + 1) := by
  rw [atI_s h, if_pos hV, ← hf]; unfold plF; rw [if_pos hd]
theorem atI_2 {V : Int → Bool} {B f : Int → Int} {d o u n K p : Int} (h : 0 ≤ p) (hf : f = atI V B d o u n K p) (hV : V p = true) (hd : d = 2) : cutS f p K n.toNat = atI V B d o u n K (p + 1) := by
  rw [atI_s h, if_pos hV, ← hf]; unfold plF; rw [if_neg (by omega), if_pos hd]
theorem atI_3 {V : Int → Bool} {B f : Int → Int} {d o u n K p : Int} (h : 0 ≤ p) (hf : f = atI V B d o u n K p) (hV : V p = true) (h1 : ¬ d = 1) (h2 : ¬ d = 2) : dopeS f p o u K (topS f p) n.toNat = atI V B d o u n K (p + 1) := by
  rw [atI_s h, if_pos hV, ← hf]; unfold plF; rw [if_neg h1, if_neg h2]
theorem BOK_layS {B : Int → Int} (h : BOK B) {p s n : Int} (hs : 0 ≤ s ∧ s ≤ 7) : BOK (layS B p s n) := BOK_layF h hs
