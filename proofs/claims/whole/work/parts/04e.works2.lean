/-- the first k of P become s -/
def preP (P : Int → Bool) (B : Int → Int) (s k : Int) : Int → Int := putP (fun c => decide (c < k) && P c) B s
theorem preP_0 {P : Int → Bool} {B : Int → Int} {s k : Int} (h : ∀ c, 0 ≤ c → c < k → P c = false) : preP P B s k = B := putP_none fun c h1 h2 => by
  by_cases q : c < k
  · rw [h c h1 q]; simp
  · simp [q]
theorem preP_t {P : Int → Bool} {B : Int → Int} {s k : Int} (hk : 0 ≤ k ∧ k < 2880) (h : P k = true) : upI (preP P B s k) k s = preP P B s (k + 1) := by
  funext c
  unfold upI preP putP
  by_cases q : c = k
  · subst q
    rw [if_pos rfl, if_pos ⟨hk.1, hk.2, by show (decide (c < c + 1) && P c) = true; rw [h, Bool.and_true, decide_eq_true_iff]; omega⟩]
  · rw [if_neg q]
    have e : (decide (c < k) && P c) = (decide (c < k + 1) && P c) := by congr 1; simp only [decide_eq_decide]; omega
    show (if 0 ≤ c ∧ c < 2880 ∧ (decide (c < k) && P c) = true then s else B c) = (if 0 ≤ c ∧ c < 2880 ∧ (decide (c < k + 1) && P c) = true then s else B c)
    rw [e]
theorem preP_f {P : Int → Bool} {B : Int → Int} {s k : Int} (h : P k = false) : preP P B s (k + 1) = preP P B s k := putP_cong fun c h1 h2 => by
  by_cases q : c = k
  · subst q; rw [h]; simp
  · congr 1; simp only [decide_eq_decide]; omega
theorem preP_e {P : Int → Bool} {B : Int → Int} {s k : Int} (h : 2880 ≤ k) : preP P B s k = putP P B s := putP_cong fun c h1 h2 => by simp; omega
/-! TURNING, as the class does it: a wave goes on from what came last -/
abbrev TX : Type := (Int → Int) × BS
def tbW (s t c : Int) : Nat → TX → TX
  | 0, x => x
  | w + 1, x => if bes c w ≠ -1 ∧ (tbW s t c w x).1 (bes c w) = s then (upI (tbW s t c w x).1 (bes c w) t, visit (tbW s t c w x).2 (bes c w)) else tbW s t c w x
def tbI (s t c w : Int) (x : TX) : TX := tbW s t c w.toNat x
theorem tbI_0 (s t c : Int) (x : TX) : tbI s t c 0 x = x := rfl
theorem tbI_s {s t c w : Int} {x : TX} (hw : 0 ≤ w) : tbI s t c (w + 1) x = if bes c w ≠ -1 ∧ (tbI s t c w x).1 (bes c w) = s then (upI (tbI s t c w x).1 (bes c w) t, visit (tbI s t c w x).2 (bes c w)) else tbI s t c w x := by
  unfold tbI
  obtain ⟨n, rfl⟩ := Int.eq_ofNat_of_zero_le hw
  rfl
theorem tbI_no {s t c w : Int} {x : TX} (hw : 0 ≤ w) (h : bes c w = -1) : tbI s t c (w + 1) x = tbI s t c w x := by rw [tbI_s hw, if_neg (fun z => z.1 h)]
theorem tbI_ns {s t c w : Int} {x : TX} (hw : 0 ≤ w) (h : ¬ (tbI s t c w x).1 (bes c w) = s) : tbI s t c (w + 1) x = tbI s t c w x := by rw [tbI_s hw, if_neg (fun z => h z.2)]
theorem tbI_yes {s t c w : Int} {x : TX} (hw : 0 ≤ w) (h0 : ¬ bes c w = -1) (h : (tbI s t c w x).1 (bes c w) = s) : tbI s t c (w + 1) x = (upI (tbI s t c w x).1 (bes c w) t, visit (tbI s t c w x).2 (bes c w)) := by rw [tbI_s hw, if_pos ⟨h0, h⟩]
def tbN (s t : Int) (l : List Int) (a : Int) : Nat → TX → TX
  | 0, x => x
  | k + 1, x => tbI s t (l.getD (a + k).toNat 0) 6 (tbN s t l a k x)
def tbL (s t : Int) (l : List Int) (a i : Int) (x : TX) : TX := tbN s t l a (i - a).toNat x
theorem tbL_0 (s t : Int) (l : List Int) (a : Int) (x : TX) : tbL s t l a a x = x := by unfold tbL; rw [show (a - a).toNat = 0 by omega]; rfl
theorem tbL_s {s t : Int} {l : List Int} {a i : Int} {x : TX} (h : a ≤ i) : tbL s t l a (i + 1) x = tbI s t (l.getD i.toNat 0) 6 (tbL s t l a i x) := by
  unfold tbL
  rw [show (i + 1 - a).toNat = (i - a).toNat + 1 by omega]
  show tbI s t (l.getD (a + ((i - a).toNat : Int)).toNat 0) 6 _ = _
  rw [show a + ((i - a).toNat : Int) = i by omega]
/-- what holds of a wave -/
def TV (s : Int) (x : TX) : Prop := SV x.2 ∧ BOK x.1 ∧ ∀ c, 0 ≤ c → c < 2880 → x.2.1 c = true → x.1 c ≠ s
theorem TV_go {s t c : Int} {x : TX} (h : TV s x) (hst : s ≠ t) (ht : 0 ≤ t ∧ t ≤ 7) (hc : 0 ≤ c ∧ c < 2880) : TV s (upI x.1 c t, visit x.2 c) := by
  refine ⟨SV_visit h.1 hc, BOK_upI h.2.1 ht, fun d h1 h2 h3 => ?_⟩
  have h3 : (visit x.2 c).1 d = true := h3
  show upI x.1 c t d ≠ s
  by_cases q : d = c
  · subst q; rw [upI_s]; exact fun z => hst z.symm
  · rw [upI_n q]
    rw [visit_1] at h3
    simp [q] at h3
    exact h.2.2 d h1 h2 h3
theorem TV_new {s c : Int} {x : TX} (h : TV s x) (hc : 0 ≤ c ∧ c < 2880) (he : x.1 c = s) : x.2.1 c = false := by
  cases q : x.2.1 c with
  | false => rfl
  | true => exact absurd he (h.2.2 c hc.1 hc.2 q)
theorem tbI_TV {s t c : Int} (hst : s ≠ t) (ht : 0 ≤ t ∧ t ≤ 7) (hc : 0 ≤ c ∧ c < 2880) {x : TX} (h : TV s x) (w : Nat) : TV s (tbW s t c w x) := by
  induction w with
  | zero => exact h
  | succ w ih =>
    unfold tbW
    split
    · rename_i q
      have := @bes_rng c w hc
      exact TV_go ih hst ht (by omega)
    · exact ih
def tuG (s t : Int) (y : TX × Int) : TX × Int := if y.2 < (y.1.2.2.length : Int) then (tbL s t y.1.2.2 y.2 (y.1.2.2.length : Int) y.1, (y.1.2.2.length : Int)) else y
def tuN (s t : Int) : Nat → TX × Int → TX × Int
  | 0, y => y
  | k + 1, y => tuG s t (tuN s t k y)
def tuI (s t k : Int) (y : TX × Int) : TX × Int := tuN s t k.toNat y
theorem tuI_s {s t k : Int} {y : TX × Int} (h : 0 ≤ k) : tuI s t (k + 1) y = tuG s t (tuI s t k y) := by
  unfold tuI
  obtain ⟨n, rfl⟩ := Int.eq_ofNat_of_zero_le h
  rfl
theorem tuN_stay {s t : Int} {y : TX × Int} {n : Nat} (h : ((tuN s t n y).1.2.2.length : Int) ≤ (tuN s t n y).2) (k : Nat) : tuN s t (n + k) y = tuN s t n y := by
  induction k with
  | zero => rfl
  | succ k ih =>
    show tuG s t (tuN s t (n + k) y) = _
    rw [ih]
    unfold tuG
    rw [if_neg (by omega)]
theorem tuI_stay {s t k m : Int} {y : TX × Int} (hk : 0 ≤ k ∧ k ≤ m) (h : ((tuI s t k y).1.2.2.length : Int) ≤ (tuI s t k y).2) : tuI s t m y = tuI s t k y := by
  unfold tuI at h ⊢
  rw [show m.toNat = k.toNat + (m.toNat - k.toNat) by omega, tuN_stay h]
noncomputable def tuB (B : Int → Int) (s t : Int) : TX × Int := ((putP (bareP B (1 * 2 ^ s.toNat)) B t, (fun c => decide (0 ≤ c ∧ c < 2880) && bareP B (1 * 2 ^ s.toNat) c, pkI (bareP B (1 * 2 ^ s.toNat)) 2880)), 0)
noncomputable def turnC (B : Int → Int) (s t n : Int) : Int → Int := if s = t then B else (tuI s t (n - 1) (tuB B s t)).1.1
theorem hk_one {s v : Int} (hs : 0 ≤ s ∧ s ≤ 31) (hv : 0 ≤ v ∧ v ≤ 31) : hk (1 * 2 ^ s.toNat) v = decide (v = s) := by
  have h := @hk_or 0 s v (by omega) hs hv
  have e : (((0 : Int).toNat ||| (1 * 2 ^ s.toNat : Int).toNat : Nat) : Int) = 1 * 2 ^ s.toNat := by
    have h1 : (0 : Int) ≤ 1 * 2 ^ s.toNat := by rw [Int.one_mul]; exact Int.le_of_lt (Int.pow_pos (by decide))
    rw [show (0 : Int).toNat = 0 from rfl, Nat.zero_or]
    omega
  rw [e] at h
  rw [h]
  have : hk 0 v = false := by unfold hk; simp
  rw [this]; rfl
theorem tuB_TV {B : Int → Int} {s t : Int} (hB : BOK B) (hs : 1 ≤ s ∧ s ≤ 7) (ht : 0 ≤ t ∧ t ≤ 7) (hst : s ≠ t) : TV s (tuB B s t).1 := by
  refine ⟨⟨fun c hc => ?_, ?_⟩, BOK_putP hB _ ht, fun c h1 h2 h3 => ?_⟩
  · have := (pkI_mem (by omega)).mp hc; exact ⟨this.1, this.2.1⟩
  · show ((pkI (bareP B (1 * 2 ^ s.toNat)) 2880).length : Int) ≤ cntI _ 2880
    rw [pkI_eq, pkN_len, cntI_eq]
    refine Int.le_of_eq (cntS_cong _ fun c h1 h2 => ?_)
    show _ = (decide (0 ≤ c ∧ c < 2880) && _)
    rw [decide_eq_true (show 0 ≤ c ∧ c < 2880 by omega), Bool.true_and]
  · have h3 : (decide (0 ≤ c ∧ c < 2880) && bareP B (1 * 2 ^ s.toNat) c) = true := h3
    show putP (bareP B (1 * 2 ^ s.toNat)) B t c ≠ s
    unfold putP
    simp [h1, h2] at h3
    rw [if_pos ⟨h1, h2, by simpa using h3⟩]
    exact fun z => hst z.symm
theorem tbL_TV' {s t : Int} (hst : s ≠ t) (ht : 0 ≤ t ∧ t ≤ 7) (l : List Int) (a : Int) {x : TX} (h : TV s x) (n : Nat) (hl : ∀ k : Nat, k < n → 0 ≤ l.getD (a + k).toNat 0 ∧ l.getD (a + k).toNat 0 < 2880) : TV s (tbN s t l a n x) := by
  induction n with
  | zero => exact h
  | succ n ih => exact tbI_TV hst ht (hl n (by omega)) (ih (fun k hk => hl k (by omega))) 6
theorem tbL_TV {s t : Int} {x : TX} (h : TV s x) (hst : s ≠ t) (ht : 0 ≤ t ∧ t ≤ 7) {a : Int} (ha : 0 ≤ a) (hal : a ≤ (x.2.2.length : Int)) : TV s (tbL s t x.2.2 a (x.2.2.length : Int) x) :=
  tbL_TV' hst ht _ _ h _ (fun k hk => SV_get h.1 (by omega))
theorem tbW_len (s t c : Int) (x : TX) (w : Nat) : x.2.2.length ≤ (tbW s t c w x).2.2.length := by
  induction w with
  | zero => exact Nat.le_refl _
  | succ w ih =>
    unfold tbW
    split
    · exact Nat.le_trans ih (visit_len _ _)
    · exact ih
theorem tbN_len (s t : Int) (l : List Int) (a : Int) (x : TX) (n : Nat) : x.2.2.length ≤ (tbN s t l a n x).2.2.length := by
  induction n with
  | zero => exact Nat.le_refl _
  | succ n ih => exact Nat.le_trans ih (tbW_len s t _ _ 6)
theorem tbL_len {s t : Int} {x : TX} (_ : TV s x) (_ : s ≠ t) (_ : 0 ≤ t ∧ t ≤ 7) {a : Int} (_ : 0 ≤ a) (_ : a ≤ (x.2.2.length : Int)) : (x.2.2.length : Int) ≤ ((tbL s t x.2.2 a (x.2.2.length : Int) x).2.2.length : Int) := by
  have := tbN_len s t x.2.2 a x ((x.2.2.length : Int) - a).toNat
  unfold tbL
  omega
