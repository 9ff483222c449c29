/-! NETS AND DEVICES, the pure side of the reference's loops -/
theorem fuI_none {P : Int → Bool} {a N : Int} (h : ∀ z, a ≤ z → z < N → P z = false) (ha : 0 ≤ a) : fuI P a N = -1 := by
  by_cases q : fuI P a N = -1
  · exact q
  · have := fuI_sat q ha
    rw [h _ this.2.1 this.2.2] at this
    exact absurd this.1 (by decide)
theorem fuI_upd {Q : Int → Bool} {c N : Int} (hc : 0 ≤ c ∧ c < N) : fuI (upI Q c true) 0 N = if fuI Q 0 N < 0 ∨ c < fuI Q 0 N then c else fuI Q 0 N := by
  have h1 := fuI_ex (P := upI Q c true) hc upI_s
  have h2 := fuI_sat (P := upI Q c true) (a := 0) (N := N) (by omega) (by omega)
  by_cases q : fuI Q 0 N = -1
  · rw [if_pos (by omega)]
    by_cases e : fuI (upI Q c true) 0 N = c
    · exact e
    · have h3 := h2.1
      rw [upI_n e] at h3
      have := fuI_ex (P := Q) (N := N) ⟨h2.2.1, h2.2.2⟩ h3
      omega
  · have h3 := fuI_sat q (by omega)
    have h4 : fuI (upI Q c true) 0 N ≤ fuI Q 0 N := by
      by_cases e : fuI Q 0 N = c
      · omega
      · exact (fuI_ex (P := upI Q c true) ⟨h3.2.1, h3.2.2⟩ (by rw [upI_n e]; exact h3.1)).2
    by_cases e : fuI (upI Q c true) 0 N = c
    · split <;> omega
    · have h5 := h2.1
      rw [upI_n e] at h5
      have := fuI_ex (P := Q) (N := N) ⟨h2.2.1, h2.2.2⟩ h5
      split <;> omega
theorem fdI_sat {P : Int → Bool} {N : Int} (hN : 0 ≤ N) (h : fdI P N ≠ -1) : P (fdI P N) = true ∧ 0 ≤ fdI P N ∧ fdI P N < N := by
  obtain ⟨n, rfl⟩ := Int.eq_ofNat_of_zero_le hN
  clear hN
  induction n with
  | zero => exact absurd (fdI_z (by omega)) h
  | succ n ih =>
    rw [show ((n + 1 : Nat) : Int) = (n : Int) + 1 by omega] at h ⊢
    cases e : P (n : Int) with
    | true => rw [fdI_t (by omega) e]; exact ⟨e, by omega, by omega⟩
    | false =>
      rw [fdI_f (by omega) e] at h ⊢
      have := ih h
      exact ⟨this.1, this.2.1, by omega⟩
theorem fdI_none {P : Int → Bool} {N : Int} (hN : 0 ≤ N) (h : ∀ z, 0 ≤ z → z < N → P z = false) : fdI P N = -1 := by
  by_cases q : fdI P N = -1
  · exact q
  · have := fdI_sat hN q
    rw [h _ this.2.1 this.2.2] at this
    exact absurd this.1 (by decide)
theorem fdI_upd {Q : Int → Bool} {c N : Int} (hc : 0 ≤ c ∧ c < N) : fdI (upI Q c true) N = if fdI Q N < c then c else fdI Q N := by
  have h1 := fdI_ex (P := upI Q c true) hc upI_s
  have h2 := fdI_sat (P := upI Q c true) (N := N) (by omega) (by omega)
  by_cases q : fdI Q N = -1
  · rw [if_pos (by omega)]
    by_cases e : fdI (upI Q c true) N = c
    · exact e
    · have h3 := h2.1
      rw [upI_n e] at h3
      have := fdI_ex (P := Q) (N := N) ⟨h2.2.1, h2.2.2⟩ h3
      omega
  · have h3 := fdI_sat (by omega) q
    have h4 : fdI Q N ≤ fdI (upI Q c true) N := by
      by_cases e : fdI Q N = c
      · omega
      · exact fdI_ex (P := upI Q c true) ⟨h3.2.1, h3.2.2⟩ (by rw [upI_n e]; exact h3.1)
    by_cases e : fdI (upI Q c true) N = c
    · split <;> omega
    · have h5 := h2.1
      rw [upI_n e] at h5
      have := fdI_ex (P := Q) (N := N) ⟨h2.2.1, h2.2.2⟩ h5
      split <;> omega
/-- the cubes of a net that have been seen, places first -/
def nvQ (P : Int → Bool) (p z : Int) : Int → Bool := fun c => P c && decide (c % 144 < p ∨ c % 144 = p ∧ c / 144 < z)
theorem nvQ_f {P : Int → Bool} {p z : Int} (hp : 0 ≤ p ∧ p < 144) (hP : P (144 * z + p) = false) : nvQ P p (z + 1) = nvQ P p z := by
  funext c
  unfold nvQ
  by_cases e : c = 144 * z + p
  · rw [e, hP]; rfl
  · congr 1
    exact decide_eq_decide.mpr (by omega)
theorem nvQ_t {P : Int → Bool} {p z : Int} (hp : 0 ≤ p ∧ p < 144) (hP : P (144 * z + p) = true) : nvQ P p (z + 1) = upI (nvQ P p z) (144 * z + p) true := by
  funext c
  by_cases e : c = 144 * z + p
  · rw [e, upI_s]; unfold nvQ; rw [hP, decide_eq_true (by omega)]; rfl
  · rw [upI_n e]; unfold nvQ; congr 1; exact decide_eq_decide.mpr (by omega)
theorem nvQ_n {P : Int → Bool} {p z : Int} (hp : 0 ≤ p ∧ p < 144) : nvQ P p z (144 * z + p) = false := by
  unfold nvQ; rw [decide_eq_false (by omega), Bool.and_false]
/-- what the loop over places and heights has gathered -/
def ngS (P : Int → Bool) (p z first cubes low high : Int) : Prop := first = fuI (nvQ P p z) 0 2880 ∧ cubes = cntI (nvQ P p z) 2880 ∧ low = (if first = -1 then 20 else first / 144) ∧ high = (if fdI (nvQ P p z) 2880 = -1 then -1 else fdI (nvQ P p z) 2880 / 144)
theorem nvQ_cong {P : Int → Bool} {p z p2 z2 : Int} (h : ∀ c : Int, 0 ≤ c → c < 2880 → ((c % 144 < p ∨ c % 144 = p ∧ c / 144 < z) ↔ (c % 144 < p2 ∨ c % 144 = p2 ∧ c / 144 < z2))) : ∀ c : Int, 0 ≤ c → c < 2880 → nvQ P p z c = nvQ P p2 z2 c := fun c h1 h2 => by
  unfold nvQ; congr 1; exact decide_eq_decide.mpr (h c h1 h2)
theorem fuI_cong {P Q : Int → Bool} {N : Int} (h : ∀ c : Int, 0 ≤ c → c < N → P c = Q c) : fuI P 0 N = fuI Q 0 N := by
  by_cases q : fuI P 0 N = -1
  · rw [q]; symm
    by_cases e : fuI Q 0 N = -1
    · exact e
    · have h1 := fuI_sat e (by omega)
      have := fuI_ex (P := P) ⟨h1.2.1, h1.2.2⟩ (by rw [h _ h1.2.1 h1.2.2]; exact h1.1)
      omega
  · have h1 := fuI_sat q (by omega)
    have h2 := fuI_ex (P := Q) ⟨h1.2.1, h1.2.2⟩ (by rw [← h _ h1.2.1 h1.2.2]; exact h1.1)
    have h3 := fuI_sat (P := Q) (a := 0) (N := N) (by omega) (by omega)
    have h4 := fuI_ex (P := P) ⟨h3.2.1, h3.2.2⟩ (by rw [h _ h3.2.1 h3.2.2]; exact h3.1)
    omega
theorem fdI_cong {P Q : Int → Bool} {N : Int} (hN : 0 ≤ N) (h : ∀ c : Int, 0 ≤ c → c < N → P c = Q c) : fdI P N = fdI Q N := by
  by_cases q : fdI P N = -1
  · rw [q]; symm
    by_cases e : fdI Q N = -1
    · exact e
    · have h1 := fdI_sat hN e
      have := fdI_ex (P := P) ⟨h1.2.1, h1.2.2⟩ (by rw [h _ h1.2.1 h1.2.2]; exact h1.1)
      omega
  · have h1 := fdI_sat hN q
    have h2 := fdI_ex (P := Q) ⟨h1.2.1, h1.2.2⟩ (by rw [← h _ h1.2.1 h1.2.2]; exact h1.1)
    have h3 := fdI_sat (P := Q) hN (by omega)
    have h4 := fdI_ex (P := P) ⟨h3.2.1, h3.2.2⟩ (by rw [h _ h3.2.1 h3.2.2]; exact h3.1)
    omega
theorem ngS_cong {P : Int → Bool} {p z p2 z2 a b d e : Int} (h : ngS P p z a b d e) (hc : ∀ c : Int, 0 ≤ c → c < 2880 → ((c % 144 < p ∨ c % 144 = p ∧ c / 144 < z) ↔ (c % 144 < p2 ∨ c % 144 = p2 ∧ c / 144 < z2))) : ngS P p2 z2 a b d e := by
  have hk := nvQ_cong (P := P) hc
  obtain ⟨h1, h2, h3, h4⟩ := h
  refine ⟨?_, ?_, h3, ?_⟩
  · rw [← fuI_cong hk]; exact h1
  · rw [← cntI_cong hk]; exact h2
  · rw [← fdI_cong (by omega) hk]; exact h4
theorem ngS_0 (P : Int → Bool) : ngS P 0 0 (-1) 0 20 (-1) := by
  have hn : ∀ c : Int, 0 ≤ c → c < 2880 → nvQ P 0 0 c = false := fun c h1 h2 => by unfold nvQ; rw [decide_eq_false (by omega), Bool.and_false]
  have h1 := fuI_none (P := nvQ P 0 0) (a := 0) (N := 2880) hn (by omega)
  have h2 := fdI_none (P := nvQ P 0 0) (N := 2880) (by omega) hn
  refine ⟨h1.symm, ?_, rfl, by rw [h2]; rfl⟩
  have h3 : cntI (nvQ P 0 0) 2880 = cntI (fun _ => false) 2880 := cntI_cong hn
  have h4 : ∀ n : Nat, cntI (fun _ => false) (n : Int) = 0 := fun n => by
    induction n with
    | zero => exact cntI_0 _
    | succ n ih => rw [show ((n + 1 : Nat) : Int) = (n : Int) + 1 by omega, cntI_f (by omega) rfl]; exact ih
  rw [h3]; exact (h4 2880).symm
theorem ngS_f {P : Int → Bool} {p z a b d e : Int} (hp : 0 ≤ p ∧ p < 144) (h : ngS P p z a b d e) (hP : P (144 * z + p) = false) : ngS P p (z + 1) a b d e := by
  unfold ngS at *; rw [nvQ_f hp hP]; exact h
theorem ngS_t {P : Int → Bool} {p z a b d e : Int} (hp : 0 ≤ p ∧ p < 144) (hz : 0 ≤ z ∧ z < 20) (h : ngS P p z a b d e) (hP : P (144 * z + p) = true) : ngS P p (z + 1) (if a < 0 ∨ 144 * z + p < a then 144 * z + p else a) (b + 1) (if z < d then z else d) (if e < z then z else e) := by
  obtain ⟨h1, h2, h3, h4⟩ := h
  have hr := fuI_rng (nvQ P p z) (z := 0) (N := 2880) (by omega)
  have hr2 := fdI_rng (nvQ P p z) (z := 2880) (by omega)
  unfold ngS
  rw [nvQ_t hp hP, fuI_upd (by omega), fdI_upd (by omega), cntI_upd _ (nvQ_n hp) (by omega)]
  refine ⟨by rw [h1], by rw [h2], ?_, ?_⟩
  · rw [h3, ← h1] at *; split <;> split <;> (try split) <;> (try split) <;> omega
  · rw [h4]; split <;> split <;> (try split) <;> (try split) <;> omega
/-! the first span behind a span -/
theorem endS_v {B : Int → Int} {p z : Int} (hz : 0 ≤ z ∧ z < 20) : (∀ y : Int, z < y → y < endS B p z → B (144 * y + p) = B (144 * z + p)) ∧ (endS B p z < 20 → B (144 * endS B p z + p) ≠ B (144 * z + p)) := by
  have key : ∀ (n : Nat) (e v : Int), 0 ≤ e → e + n = 20 → (∀ y : Int, e ≤ y → y < endI B p v e → B (144 * y + p) = v) ∧ (endI B p v e < 20 → B (144 * endI B p v e + p) ≠ v) := by
    intro n
    induction n with
    | zero => intro e v h0 h1; rw [endI_e (by omega)]; exact ⟨fun y a b => by omega, fun a => by omega⟩
    | succ n ih =>
      intro e v h0 h1
      by_cases q : B (144 * e + p) = v
      · rw [endI_t (by omega) q]
        have := ih (e + 1) v (by omega) (by omega)
        exact ⟨fun y a b => by
          by_cases w : y = e
          · rw [w]; exact q
          · exact this.1 y (by omega) b, this.2⟩
      · rw [endI_f (by omega) q]; exact ⟨fun y a b => by omega, fun _ => q⟩
  have := key (20 - (z + 1)).toNat (z + 1) (B (144 * z + p)) (by omega) (by omega)
  exact ⟨fun y a b => this.1 y (by omega) b, this.2⟩
theorem endS_low {B : Int → Int} {p i : Int} (h : 0 ≤ i ∧ i < spansS B p) : (endS B p (lowS B p i) ≤ topS B p ∧ i + 1 < spansS B p ∧ lowS B p (i + 1) = endS B p (lowS B p i)) ∨ (endS B p (lowS B p i) = topS B p + 1 ∧ i + 1 = spansS B p) := by
  have ht := topS_rng B p
  have hs := lowS_sat (lowS_ex h)
  obtain ⟨hb, hc, h0, h1⟩ := hs
  generalize lowS B p i = z at *
  have he := endS_rng B p (z := z) (by omega)
  have hv := endS_v (B := B) (p := p) (z := z) (by omega)
  generalize hE : endS B p z = E at *
  have hcn : ∀ n : Nat, z + 1 + n ≤ E → z + 1 + n ≤ topS B p + 1 → cntI (begS B p) (z + 1 + n) = i + 1 := by
    intro n
    induction n with
    | zero => intro _ _; rw [show z + 1 + ((0 : Nat) : Int) = z + 1 by omega, cntI_t (by omega) hb, hc]
    | succ n ih =>
      intro a b
      rw [show z + 1 + ((n + 1 : Nat) : Int) = (z + 1 + n) + 1 by omega, cntI_f (by omega) (begS_f (d := 144 * (z + 1 + n) + p) (e := 144 * (z + 1 + n) + p - 144) (by
        rw [hv.1 (z + 1 + n) (by omega) (by omega)]
        by_cases q : n = 0
        · rw [show 144 * (z + 1 + (n : Int)) + p - 144 = 144 * z + p by omega]
        · rw [show 144 * (z + 1 + (n : Int)) + p - 144 = 144 * (z + n) + p by omega, hv.1 (z + n) (by omega) (by omega)]) rfl rfl (by omega))]
      exact ih (by omega) (by omega)
  by_cases q : E ≤ topS B p
  · left
    have hbE : begS B p E = true := begS_t (d := 144 * E + p) (e := 144 * E + p - 144) (by
      have h9 := hv.2 (by omega)
      by_cases w : E = z + 1
      · rw [show 144 * E + p - 144 = 144 * z + p by omega]; exact h9
      · rw [show 144 * E + p - 144 = 144 * (E - 1) + p by omega, hv.1 (E - 1) (by omega) (by omega)]; exact h9) rfl rfl
    have hcE := hcn (E - (z + 1)).toNat (by omega) (by omega)
    rw [show z + 1 + (((E - (z + 1)).toNat : Nat) : Int) = E by omega] at hcE
    have hl := lowS_at (B := B) (p := p) (z := E) (by omega) hbE
    rw [hcE] at hl
    have hm := cntI_mono (begS B p) (a := E + 1) (b := topS B p + 1) (by omega) (by omega)
    rw [cntI_t (by omega) hbE, hcE] at hm
    exact ⟨q, by unfold spansS; omega, hl⟩
  · right
    have hE2 : E = topS B p + 1 := by
      by_cases w : E = topS B p + 1
      · exact w
      · have h9 := hv.1 (topS B p + 1) (by omega) (by omega)
        rw [topS_above (B := B) (p := p) (y := topS B p + 1) (by omega) (by omega)] at h9
        have h8 : B (144 * z + p) = B (144 * topS B p + p) := by
          by_cases u : topS B p = z
          · rw [u]
          · exact (hv.1 (topS B p) (by omega) (by omega)).symm
        exact absurd (h8.symm.trans h9.symm) (topS_ne (by omega))
    have hcE := hcn (E - (z + 1)).toNat (by omega) (by omega)
    rw [show z + 1 + (((E - (z + 1)).toNat : Nat) : Int) = topS B p + 1 by omega] at hcE
    exact ⟨hE2, by unfold spansS; omega⟩
/-! an order of stuffs from a height on -/
def begN (B : Int → Int) (p : Int) (D : Int → Int) : Nat → Int → Int → Bool
  | 0, _, _ => true
  | n + 1, k, z => decide (z < 20 ∧ B (144 * z + p) = D k) && begN B p D n (k + 1) (endS B p z)
def begA (B : Int → Int) (p : Int) (D : Int → Int) (m k z : Int) : Bool := begN B p D (m - k).toNat k z
theorem begA_e {B : Int → Int} {p : Int} {D : Int → Int} {m k z : Int} (h : m ≤ k) : begA B p D m k z = true := by unfold begA; rw [show (m - k).toNat = 0 by omega]; rfl
theorem begA_t {B : Int → Int} {p : Int} {D : Int → Int} {m k z : Int} (h : k < m) (h1 : z < 20) (h2 : B (144 * z + p) = D k) : begA B p D m k z = begA B p D m (k + 1) (endS B p z) := by
  unfold begA; rw [show (m - k).toNat = (m - (k + 1)).toNat + 1 by omega]
  show (decide (z < 20 ∧ B (144 * z + p) = D k) && _) = _
  rw [decide_eq_true ⟨h1, h2⟩]; rfl
theorem begA_f {B : Int → Int} {p : Int} {D : Int → Int} {m k z : Int} (h : k < m) (h1 : 20 ≤ z ∨ ¬ B (144 * z + p) = D k) : begA B p D m k z = false := by
  unfold begA; rw [show (m - k).toNat = (m - (k + 1)).toNat + 1 by omega]
  show (decide (z < 20 ∧ B (144 * z + p) = D k) && _) = _
  rw [decide_eq_false (fun q => by rcases h1 with h1 | h1; (have := q.1; omega); exact h1 q.2)]; rfl
def hasD (B : Int → Int) (D : Int → Int) (m p : Int) : Bool := anI (fun z => begS B p z && begA B p D m 0 z) 0 20
def SQ (B : Int → Int) (p : Int) (D : Int → Int) (m i : Int) : Prop := ∀ k : Int, 0 ≤ k → k < m → B (144 * lowS B p (i + k) + p) = D k
theorem begA_low {B : Int → Int} {p : Int} {D : Int → Int} {m : Int} (hD : ∀ k : Int, 0 ≤ k → k < m → 1 ≤ D k) (n : Nat) : ∀ (i k : Int), 0 ≤ k → k + n = m → 0 ≤ i ∧ i < spansS B p → (begA B p D m k (lowS B p i) = true ↔ i + n ≤ spansS B p ∧ ∀ j : Int, 0 ≤ j → j < n → B (144 * lowS B p (i + j) + p) = D (k + j)) := by
  have ht := topS_rng B p
  induction n with
  | zero => intro i k hk hm hi; rw [begA_e (by omega)]; exact ⟨fun _ => ⟨by omega, fun j a b => by omega⟩, fun _ => rfl⟩
  | succ n ih =>
    intro i k hk hm hi
    have hs := lowS_sat (lowS_ex hi)
    by_cases q : B (144 * lowS B p i + p) = D k
    · rw [begA_t (by omega) (by omega) q]
      rcases endS_low hi with ⟨e1, e2, e3⟩ | ⟨e1, e2⟩
      · rw [← e3]
        refine (ih (i + 1) (k + 1) (by omega) (by omega) (by omega)).trans ⟨fun a => ⟨by have := a.1; omega, fun j b c => ?_⟩, fun a => ⟨by have := a.1; omega, fun j b c => ?_⟩⟩
        · by_cases w : j = 0
          · rw [w, Int.add_zero, Int.add_zero]; exact q
          · have := a.2 (j - 1) (by omega) (by omega)
            rw [show i + 1 + (j - 1) = i + j by omega, show k + 1 + (j - 1) = k + j by omega] at this
            exact this
        · have := a.2 (j + 1) (by omega) (by omega)
          rw [show i + (j + 1) = i + 1 + j by omega, show k + (j + 1) = k + 1 + j by omega] at this
          exact this
      · by_cases w : n = 0
        · rw [begA_e (by omega)]
          refine ⟨fun _ => ⟨by omega, fun j b c => ?_⟩, fun _ => rfl⟩
          rw [show j = 0 by omega, Int.add_zero, Int.add_zero]; exact q
        · rw [begA_f (by omega) (by
            by_cases u : topS B p + 1 < 20
            · right; rw [e1, topS_above (B := B) (p := p) (y := topS B p + 1) (by omega) (by omega)]
              have := hD (k + 1) (by omega) (by omega); omega
            · left; omega)]
          exact ⟨fun a => absurd a (by decide), fun a => absurd a.1 (by omega)⟩
    · rw [begA_f (by omega) (Or.inr q)]
      refine ⟨fun a => absurd a (by decide), fun a => absurd ?_ q⟩
      have := a.2 0 (by omega) (by omega)
      rw [Int.add_zero, Int.add_zero] at this
      exact this
theorem hasD_iff {B : Int → Int} {p : Int} {D : Int → Int} {m : Int} (hm : 1 ≤ m) (hD : ∀ k : Int, 0 ≤ k → k < m → 1 ≤ D k) : hasD B D m p = true ↔ ∃ i : Int, 0 ≤ i ∧ i + m ≤ spansS B p ∧ SQ B p D m i := by
  have ht := topS_rng B p
  have hl := fun i hi => begA_low (B := B) (p := p) (D := D) (m := m) hD m.toNat i 0 (by omega) (by omega) hi
  constructor
  · intro h
    have ⟨z, h1, h2, h3⟩ : ∃ z : Int, 0 ≤ z ∧ z < 20 ∧ (begS B p z && begA B p D m 0 z) = true := by
      by_cases q : ∃ z : Int, 0 ≤ z ∧ z < 20 ∧ (begS B p z && begA B p D m 0 z) = true
      · exact q
      · have : hasD B D m p = false := anI_none (fun z a b => by
          cases e : (begS B p z && begA B p D m 0 z) with
          | false => rfl
          | true => exact absurd ⟨z, a, b, e⟩ q)
        rw [this] at h; exact absurd h (by decide)
    rw [Bool.and_eq_true] at h3
    by_cases q : z ≤ topS B p
    · have ha := lowS_at ⟨h1, q⟩ h3.1
      have hc := cntI_rng (begS B p) (k := z) h1
      have hm2 := cntI_mono (begS B p) (a := z + 1) (b := topS B p + 1) (by omega) (by omega)
      rw [cntI_t h1 h3.1] at hm2
      have := (hl (cntI (begS B p) z) ⟨hc.1, by unfold spansS; omega⟩).mp (by rw [ha]; exact h3.2)
      refine ⟨cntI (begS B p) z, hc.1, by have := this.1; omega, fun k a b => ?_⟩
      have h9 := this.2 k a (by omega)
      rw [Int.zero_add] at h9; exact h9
    · have : begA B p D m 0 z = false := begA_f (by omega) (Or.inr (by
        rw [topS_above (B := B) (p := p) (y := z) (by omega) (by omega)]
        have := hD 0 (by omega) (by omega); omega))
      rw [this] at h3; exact absurd h3.2 (by decide)
  · rintro ⟨i, h1, h2, h3⟩
    have hs := lowS_sat (lowS_ex (B := B) (p := p) (i := i) (by omega))
    refine anI_has (z := lowS B p i) (by omega) (by omega) ?_
    show (begS B p (lowS B p i) && begA B p D m 0 (lowS B p i)) = true
    rw [hs.1, (hl i (by omega)).mpr ⟨by omega, fun j a b => by rw [Int.zero_add]; exact h3 j a (by omega)⟩]; rfl
theorem hasD_ref {B : Int → Int} {p : Int} {D : Int → Int} {m i : Int} {b : Bool} (hm : 1 ≤ m) (hD : ∀ k : Int, 0 ≤ k → k < m → 1 ≤ D k) (hb : b = true ↔ ∃ j : Int, 0 ≤ j ∧ j < i ∧ SQ B p D m j) (h1 : spansS B p < i + m) (h2 : i = 0 ∨ i + m ≤ spansS B p + 1) : b = hasD B D m p := by
  rw [Bool.eq_iff_iff, hb, hasD_iff hm hD]
  exact ⟨fun ⟨j, a, c, d⟩ => ⟨j, a, by omega, d⟩, fun ⟨j, a, c, d⟩ => ⟨j, a, by omega, d⟩⟩
/-! the digits of an order -/
abbrev dg7 (v : Int) : Prop := 1 ≤ v ∧ v ≤ 7
def ordG (o : Int) : Bool := decide ((1 ≤ o ∧ o ≤ 7777) ∧ dg7 (o % 10) ∧ (10 ≤ o → dg7 (o / 10 % 10)) ∧ (100 ≤ o → dg7 (o / 100 % 10)) ∧ (1000 ≤ o → dg7 (o / 1000 % 10)))
def ordN (o : Int) : Int := if o < 10 then 1 else if o < 100 then 2 else if o < 1000 then 3 else 4
def ordD (o k : Int) : Int := if ordN o - 1 - k = 0 then o % 10 else if ordN o - 1 - k = 1 then o / 10 % 10 else if ordN o - 1 - k = 2 then o / 100 % 10 else o / 1000 % 10
theorem ordN_rng (o : Int) : 1 ≤ ordN o ∧ ordN o ≤ 4 := by unfold ordN; split <;> (try split) <;> (try split) <;> omega
theorem ordG_t {o : Int} (h : ordG o = true) : (1 ≤ o ∧ o ≤ 7777) ∧ dg7 (o % 10) ∧ (10 ≤ o → dg7 (o / 10 % 10)) ∧ (100 ≤ o → dg7 (o / 100 % 10)) ∧ (1000 ≤ o → dg7 (o / 1000 % 10)) := of_decide_eq_true h
theorem ordD_rng {o : Int} (h : ordG o = true) : ∀ k : Int, 0 ≤ k → k < ordN o → 1 ≤ ordD o k ∧ ordD o k ≤ 7 := by
  intro k h1 h2
  have := ordG_t h
  unfold dg7 at this
  unfold ordD ordN at *
  (repeat' split) <;> (repeat' split at h2) <;> omega
/-! what one order's places are -/
noncomputable def dvN (H : Int → Bool) : Nat → (Int → Bool) × Int × Int
  | 0 => (H, 0, 0)
  | p + 1 => if (dvN H p).1 p then (tkW (dvN H p).1 p, (dvN H p).2.1 + 1, if (dvN H p).2.2 < ((tkS (dvN H p).1 p).2.length : Int) then ((tkS (dvN H p).1 p).2.length : Int) else (dvN H p).2.2) else dvN H p
theorem dvI_e : ∃ F : (Int → Bool) → Int → (Int → Bool) × Int × Int, ∀ H p, F H p = dvN H p.toNat := ⟨fun H p => dvN H p.toNat, fun _ _ => rfl⟩
noncomputable def dvI : (Int → Bool) → Int → (Int → Bool) × Int × Int := Classical.choose dvI_e
theorem dvI_eq (H : Int → Bool) (p : Int) : dvI H p = dvN H p.toNat := Classical.choose_spec dvI_e H p
theorem dvI_0 (H : Int → Bool) : dvI H 0 = (H, 0, 0) := by rw [dvI_eq]; rfl
theorem dvI_f {H : Int → Bool} {p : Int} (h : 0 ≤ p) (hp : (dvI H p).1 p = false) : dvI H (p + 1) = dvI H p := by
  rw [dvI_eq, dvI_eq] at *
  obtain ⟨k, rfl⟩ := Int.eq_ofNat_of_zero_le h
  show (if (dvN H k).1 (k : Int) = true then _ else dvN H k) = _
  rw [if_neg (by rw [show (dvN H k).1 (k : Int) = false from hp]; decide)]; rfl
theorem dvI_t {H : Int → Bool} {p : Int} (h : 0 ≤ p) (hp : (dvI H p).1 p = true) : dvI H (p + 1) = (tkW (dvI H p).1 p, (dvI H p).2.1 + 1, if (dvI H p).2.2 < ((tkS (dvI H p).1 p).2.length : Int) then ((tkS (dvI H p).1 p).2.length : Int) else (dvI H p).2.2) := by
  rw [dvI_eq, dvI_eq] at *
  obtain ⟨k, rfl⟩ := Int.eq_ofNat_of_zero_le h
  show (if (dvN H k).1 (k : Int) = true then _ else dvN H k) = _
  rw [if_pos (show (dvN H k).1 (k : Int) = true from hp)]; rfl
noncomputable def devR (B : Int → Int) (o w : Int) : Int := if ordG o = false ∨ w < 0 ∨ 3 < w then -102 else if w = 0 then cntI (hasD B (ordD o) (ordN o)) 144 else if w = 1 then (dvI (hasD B (ordD o) (ordN o)) 144).2.1 else if w = 2 then fuI (hasD B (ordD o) (ordN o)) 0 144 else (dvI (hasD B (ordD o) (ordN o)) 144).2.2
/-! the loop of net, its ends -/
theorem ngS_end {P : Int → Bool} {p a b d e : Int} (h : ngS P p 0 a b d e) (hp : p = 144) (hx : fuI P 0 2880 ≠ -1) : a = fuI P 0 2880 ∧ b = cntI P 2880 ∧ d = fuI P 0 2880 / 144 ∧ e = fdI P 2880 / 144 := by
  subst hp
  have hq : ∀ c : Int, 0 ≤ c → c < 2880 → nvQ P 144 0 c = P c := fun c h1 h2 => by unfold nvQ; rw [decide_eq_true (by omega), Bool.and_true]
  obtain ⟨h1, h2, h3, h4⟩ := h
  rw [fuI_cong hq] at h1
  rw [cntI_cong hq] at h2
  rw [fdI_cong (by omega) hq] at h4
  have h5 := fuI_sat hx (by omega)
  have h6 := fdI_ex (P := P) ⟨h5.2.1, h5.2.2⟩ h5.1
  refine ⟨h1, h2, ?_, ?_⟩
  · rw [h3, if_neg (by omega), h1]
  · rw [h4, if_neg (by omega)]
def ovS (P : Int → Bool) (p z h : Int) : Prop := (h = 0 ∧ ∀ y : Int, 0 ≤ y → y < z → P (144 * y + p) = false) ∨ (h = 1 ∧ ∃ y : Int, 0 ≤ y ∧ y < z ∧ P (144 * y + p) = true)
theorem ovS_0 (P : Int → Bool) (p : Int) : ovS P p 0 0 := Or.inl ⟨rfl, fun y a b => by omega⟩
theorem ovS_f {P : Int → Bool} {p z h : Int} (hh : ovS P p z h) (hP : P (144 * z + p) = false) : ovS P p (z + 1) h := by
  rcases hh with ⟨a, b⟩ | ⟨a, y, b, c, d⟩
  · exact Or.inl ⟨a, fun y c d => by
      by_cases q : y = z
      · rw [q]; exact hP
      · exact b y c (by omega)⟩
  · exact Or.inr ⟨a, y, b, by omega, d⟩
theorem ovS_t {P : Int → Bool} {p z : Int} (hz : 0 ≤ z) (hP : P (144 * z + p) = true) : ovS P p (z + 1) 1 := Or.inr ⟨rfl, z, hz, by omega, hP⟩
theorem ovS_1 {M : Int → Int} {i p z h : Int} {P : Int → Bool} (hP : P = fun c => decide (M c = i + 1)) (hh : ovS P p z h) (hz : z = 20) (h1 : ¬ h = 0) : overP M i p = true := by
  subst hP hz
  rcases hh with ⟨a, _⟩ | ⟨_, y, b, c, d⟩
  · exact absurd a h1
  · exact anI_has b c d
theorem ovS_2 {M : Int → Int} {i p z h : Int} {P : Int → Bool} (hP : P = fun c => decide (M c = i + 1)) (hh : ovS P p z h) (hz : z = 20) (h1 : h = 0) : overP M i p = false := by
  subst hP hz
  rcases hh with ⟨_, b⟩ | ⟨a, _⟩
  · exact anI_none b
  · omega
theorem ordD_at {o n k l : Int} (hN : n = ordN o) (hk : 0 ≤ k ∧ k < n) (h : k = n - 1 ∧ l = o ∨ k = n - 2 ∧ l = o / 10 ∨ k = n - 3 ∧ l = o / 100 ∨ k = n - 4 ∧ l = o / 1000 ∨ k = n - 5) : l % 10 = ordD o k := by
  have := ordN_rng o
  unfold ordD
  rw [← hN] at *
  rcases h with h | h | h | h | h
  · rw [if_pos (by omega)]; omega
  · rw [if_neg (by omega), if_pos (by omega)]; omega
  · rw [if_neg (by omega), if_neg (by omega), if_pos (by omega)]; omega
  · rw [if_neg (by omega), if_neg (by omega), if_neg (by omega)]; omega
  · omega
def ordQ (o n : Int) : Prop := (1 ≤ o ∧ o ≤ 7777) ∧ (1 ≤ n → dg7 (o % 10)) ∧ (2 ≤ n → 10 ≤ o ∧ dg7 (o / 10 % 10)) ∧ (3 ≤ n → 100 ≤ o ∧ dg7 (o / 100 % 10)) ∧ (4 ≤ n → 1000 ≤ o ∧ dg7 (o / 1000 % 10))
def ordL (o n l : Int) : Prop := n = 0 ∧ l = o ∨ n = 1 ∧ l = o / 10 ∨ n = 2 ∧ l = o / 100 ∨ n = 3 ∧ l = o / 1000 ∨ n = 4 ∧ l = o / 10000
theorem ordQ_0 {o : Int} {g : Bool} (h : g = decide (1 ≤ o ∧ o ≤ 7777)) (q : g = true) : ordQ o 0 := by
  rw [q] at h
  exact ⟨of_decide_eq_true h.symm, fun z => by omega, fun z => by omega, fun z => by omega, fun z => by omega⟩
theorem ordQ_s {o n l : Int} (h : ordQ o n) (hl : ordL o n l) (h0 : 0 < l) (h1 : 1 ≤ l % 10 ∧ l % 10 ≤ 7) : ordQ o (n + 1) := by
  unfold ordQ ordL dg7 at *
  obtain ⟨a, b, c, d, e⟩ := h
  rcases hl with ⟨rfl, rfl⟩ | ⟨rfl, rfl⟩ | ⟨rfl, rfl⟩ | ⟨rfl, rfl⟩ | ⟨rfl, rfl⟩
  · exact ⟨a, fun _ => h1, fun z => by omega, fun z => by omega, fun z => by omega⟩
  · exact ⟨a, fun _ => b (by omega), fun _ => ⟨by omega, h1⟩, fun z => by omega, fun z => by omega⟩
  · exact ⟨a, fun _ => b (by omega), fun _ => c (by omega), fun _ => ⟨by omega, h1⟩, fun z => by omega⟩
  · exact ⟨a, fun _ => b (by omega), fun _ => c (by omega), fun _ => d (by omega), fun _ => ⟨by omega, h1⟩⟩
  · omega
theorem ordL_s {o n l : Int} (hl : ordL o n l) (h : ordQ o n) (h0 : 0 < l) : ordL o (n + 1) (l / 10) ∧ n + 1 ≤ 4 := by
  unfold ordL at *
  have := h.1
  omega
theorem ordF_s {o n l : Int} (hl : ordL o n l) (h : ordQ o n) (h0 : 0 < l) (h1 : ¬ (1 ≤ l % 10 ∧ l % 10 ≤ 7)) : ordG o = false := by
  have ha := h.1
  unfold ordG
  apply decide_eq_false
  rintro ⟨_, b, c, d, e⟩
  unfold dg7 at b c d e
  rcases hl with ⟨rfl, rfl⟩ | ⟨rfl, rfl⟩ | ⟨rfl, rfl⟩ | ⟨rfl, rfl⟩ | ⟨rfl, rfl⟩
  · omega
  · have := c (by omega); omega
  · have := d (by omega); omega
  · have := e (by omega); omega
  · omega
theorem ordF_0 {o : Int} (h : ¬ (1 ≤ o ∧ o ≤ 7777)) : ordG o = false := decide_eq_false (fun z => h z.1)
theorem ordN_of {o n l : Int} (hl : ordL o n l) (h : ordQ o n) (h0 : l ≤ 0) : n = ordN o := by
  have ha := h.1
  obtain ⟨_, _, b, c, d⟩ := h
  unfold ordN
  rcases hl with ⟨rfl, rfl⟩ | ⟨rfl, rfl⟩ | ⟨rfl, rfl⟩ | ⟨rfl, rfl⟩ | ⟨rfl, rfl⟩
  · omega
  · rw [if_pos (by omega)]
  · have := (b (by omega)).1; rw [if_neg (by omega), if_pos (by omega)]
  · have := (c (by omega)).1; rw [if_neg (by omega), if_neg (by omega), if_pos (by omega)]
  · have := (d (by omega)).1; rw [if_neg (by omega), if_neg (by omega), if_neg (by omega)]
theorem ordG_of {o n l : Int} {g : Bool} (hl : ordL o n l) (h : g = true → ordQ o n) (hf : g = false → ordG o = false) (h0 : l ≤ 0) : g = ordG o := by
  cases e : g with
  | false => exact (hf e).symm
  | true =>
    have hQ := h e
    have hN := ordN_of hl hQ h0
    symm
    unfold ordG
    apply decide_eq_true
    obtain ⟨a, b, c, d, f⟩ := hQ
    have ha := ordN_rng o
    unfold ordN at *
    refine ⟨a, b (by omega), fun z => (c ?_).2, fun z => (d ?_).2, fun z => (f ?_).2⟩
    all_goals (rw [hN]; repeat (first | rw [if_pos (by omega)] | rw [if_neg (by omega)])) <;> omega
theorem hasD_cg {B D : Int → Int} {o m : Int} (hg : ordG o = true) (h1 : ordG o = true → m = ordN o) (h2 : ordG o = true → ∀ k : Int, 0 ≤ k → k < ordN o → D k = ordD o k) : hasD B D m = hasD B (ordD o) (ordN o) := by
  have hm := h1 hg
  subst hm
  have h3 := h2 hg
  have key : ∀ (n : Nat) (p k z : Int), 0 ≤ k → k + n = ordN o → begA B p D (ordN o) k z = begA B p (ordD o) (ordN o) k z := by
    intro n
    induction n with
    | zero => intro p k z a b; rw [begA_e (by omega), begA_e (by omega)]
    | succ n ih =>
      intro p k z a b
      have h4 := h3 k a (by omega)
      by_cases q : z < 20 ∧ B (144 * z + p) = D k
      · rw [begA_t (by omega) q.1 q.2, begA_t (by omega) q.1 (by rw [← h4]; exact q.2)]
        exact ih p (k + 1) _ (by omega) (by omega)
      · have q2 : 20 ≤ z ∨ ¬ B (144 * z + p) = D k := by
          by_cases w : z < 20
          · right; exact fun u => q ⟨w, u⟩
          · left; omega
        rw [begA_f (by omega) q2, begA_f (by omega) (by rw [← h4]; exact q2)]
  have hr := ordN_rng o
  funext p
  unfold hasD
  congr 1
  funext z
  rw [key (ordN o).toNat p 0 z (by omega) (by omega)]
def dnB (P W : Int → Bool) (k : Int) : Int → Bool := fun c => if k ≤ c ∧ c < 144 then P c else W c
theorem dnB_144 (P W : Int → Bool) : dnB P W 144 = W := by funext c; unfold dnB; rw [if_neg (by omega)]
theorem dnB_s {P W : Int → Bool} {p : Int} (h : 0 ≤ p ∧ p < 144) {b : Bool} (hb : b = P p) : upI (dnB P W (p + 1)) p b = dnB P W p := by
  funext c
  by_cases e : c = p
  · rw [e, upI_s]; unfold dnB; rw [if_pos (by omega)]; exact hb
  · rw [upI_n e]; unfold dnB
    by_cases q : p + 1 ≤ c ∧ c < 144
    · rw [if_pos q, if_pos (by omega)]
    · rw [if_neg q, if_neg (by omega)]
theorem tkS_S4 {W : Int → Bool} {p : Int} (hp : 0 ≤ p ∧ p < 144) : S4 (tkS W p) := by
  unfold tkS
  refine bfs_ind (P := S4) (fun u d hu hd hok => S4_visit hu ?_) (fun u hu => hu.1) (S4_visit S4_0 hp)
  unfold ok4 at hok
  rw [Bool.and_eq_true] at hok
  have := of_decide_eq_true hok.1
  omega
theorem tkS_len {W : Int → Bool} {p : Int} (hp : 0 ≤ p ∧ p < 144) : ((tkS W p).2.length : Int) ≤ 2880 := SV_len (tkS_S4 hp).1
theorem dvI_rng (H : Int → Bool) {p : Int} (hp : 0 ≤ p ∧ p ≤ 144) : 0 ≤ (dvI H p).2.2 ∧ (dvI H p).2.2 ≤ 2880 := by
  obtain ⟨n, rfl⟩ := Int.eq_ofNat_of_zero_le hp.1
  induction n with
  | zero => rw [show ((0 : Nat) : Int) = 0 from rfl, dvI_0]; exact ⟨Int.le_refl _, show (0 : Int) ≤ 2880 by decide⟩
  | succ n ih =>
    have h := ih (by omega)
    rw [show ((n + 1 : Nat) : Int) = (n : Int) + 1 by omega]
    cases e : (dvI H n).1 n with
    | false => rw [dvI_f (by omega) e]; exact h
    | true =>
      rw [dvI_t (by omega) e]
      have := tkS_len (W := (dvI H n).1) (p := n) (by omega)
      dsimp only
      split <;> omega
