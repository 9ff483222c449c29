/-! THE PUBLIC CALLS, as numbers and functions -/
def rcF (A : Int → Bool) (k x0 x1 y0 : Int) (b : Bool) (y x : Int) : Int → Bool := fun j => if 0 ≤ j ∧ j / 144 = k ∧ x0 ≤ j % 12 ∧ ((y0 ≤ j % 144 / 12 ∧ j % 144 / 12 < y ∧ j % 12 ≤ x1) ∨ (j % 144 / 12 = y ∧ j % 12 < x)) then b else A j
theorem rcF_0 {A : Int → Bool} {k x0 x1 y0 : Int} {b : Bool} : rcF A k x0 x1 y0 b y0 x0 = A := by
  funext j
  unfold rcF
  rw [if_neg (by omega)]
theorem rcF_s {A : Int → Bool} {k x0 x1 y0 y x : Int} {b : Bool} (hk : 0 ≤ k) (hy : 0 ≤ y ∧ y < 12) (hx : x0 ≤ x ∧ 0 ≤ x0 ∧ x < 12) : upI (rcF A k x0 x1 y0 b y x) (144 * k + (12 * y + x)) b = rcF A k x0 x1 y0 b y (x + 1) := by
  funext j
  unfold upI rcF
  by_cases q : j = 144 * k + (12 * y + x)
  · rw [if_pos q, if_pos (by omega)]
  · rw [if_neg q]
    by_cases q2 : 0 ≤ j ∧ j / 144 = k ∧ x0 ≤ j % 12 ∧ ((y0 ≤ j % 144 / 12 ∧ j % 144 / 12 < y ∧ j % 12 ≤ x1) ∨ (j % 144 / 12 = y ∧ j % 12 < x))
    · rw [if_pos q2, if_pos (by omega)]
    · rw [if_neg q2, if_neg (by omega)]
theorem rcF_r {A : Int → Bool} {k x0 x1 y0 y x : Int} {b : Bool} (hy : y0 ≤ y) (hx : x = x1 + 1) : rcF A k x0 x1 y0 b y x = rcF A k x0 x1 y0 b (y + 1) x0 := by
  funext j
  subst hx
  unfold rcF
  by_cases q2 : 0 ≤ j ∧ j / 144 = k ∧ x0 ≤ j % 12 ∧ ((y0 ≤ j % 144 / 12 ∧ j % 144 / 12 < y ∧ j % 12 ≤ x1) ∨ (j % 144 / 12 = y ∧ j % 12 < x1 + 1))
  · rw [if_pos q2, if_pos (by omega)]
  · rw [if_neg q2, if_neg (by omega)]
noncomputable def sizeP (A : Int → Bool) (k : Int) : Int := cntI (fun p => A (144 * k + p)) 144
noncomputable def rectS (A : Int → Bool) (k x0 y0 x1 y1 : Int) (b : Bool) : Int × (Int → Bool) :=
  if k < 0 ∨ 7 < k then (-101, A)
  else if x0 < 0 ∨ x1 < x0 ∨ 12 ≤ x1 ∨ y0 < 0 ∨ y1 < y0 ∨ 12 ≤ y1 then (-102, A)
  else (sizeP (rcF A k x0 x1 y0 b (y1 + 1) x0) k, rcF A k x0 x1 y0 b (y1 + 1) x0)
def maskedS (A : Int → Bool) (k p : Int) : Int := if k < 0 ∨ 7 < k ∨ p < 0 ∨ 143 < p then -101 else bI (A (144 * k + p))
def trF (A : Int → Bool) (k i : Int) : Int → Bool := fun q => if 0 ≤ q ∧ q / 144 = k ∧ q % 144 < i then !(A q) else A q
theorem trF_0 {A : Int → Bool} {k : Int} : trF A k 0 = A := by funext j; unfold trF; rw [if_neg (by omega)]
theorem trF_s {A : Int → Bool} {k i : Int} {b : Bool} (hk : 0 ≤ k) (hi : 0 ≤ i ∧ i < 144) (hb : trF A k i (144 * k + i) = !b) : upI (trF A k i) (144 * k + i) b = trF A k (i + 1) := by
  have h0 : A (144 * k + i) = !b := by
    rw [← hb]; unfold trF; rw [if_neg (by omega)]
  funext j
  unfold upI trF
  by_cases q : j = 144 * k + i
  · rw [if_pos q, if_pos (by omega), q, h0, Bool.not_not]
  · rw [if_neg q]
    by_cases q2 : 0 ≤ j ∧ j / 144 = k ∧ j % 144 < i
    · rw [if_pos q2, if_pos (by omega)]
    · rw [if_neg q2, if_neg (by omega)]
noncomputable def turnedS (A : Int → Bool) (k : Int) : Int × (Int → Bool) := if k < 0 ∨ 7 < k then (-101, A) else (sizeP (trF A k 144) k, trF A k 144)
def feedS (Tb : Int → Int) (L a b c d e : Int) : Int × (Int → Int) × Int := if 600 < L + 20 then (-104, Tb, L) else (L + 20, putB (putB (putB (putB (putB Tb L a) (L + 4) b) (L + 8) c) (L + 12) d) (L + 16) e, L + 20)
def cutR (L n : Int) : Int × Int := if n < 0 ∨ L < n then (-102, L) else (L - n, n)
def atR (B : Int → Int) (p z : Int) : Int := if p < 0 ∨ 143 < p ∨ z < 0 ∨ 19 < z then -101 else B (144 * z + p)
def topR (B : Int → Int) (p : Int) : Int := if p < 0 ∨ 143 < p then -101 else topS B p
noncomputable def vol (B : Int → Int) (s : Int) : Int := cntI (fun c => decide (B c = s)) 2880
noncomputable def volS (B : Int → Int) (w : Int) : Int := if w < 0 ∨ 11 < w then -102 else if w = 8 then openN B else if w = 9 then floatN B else if w = 10 then 2880 - vol B 0 else if w = 11 then vol B 0 - openN B else vol B w
noncomputable def spanR (B : Int → Int) (p i w : Int) : Int := if p < 0 ∨ 143 < p then -101 else if i = -1 then spansS B p else if lowS B p i = -1 then -101 else if w = 0 then B (144 * lowS B p i + p) else if w = 1 then endS B p (lowS B p i) - lowS B p i else if w = 2 then lowS B p i else -102
def thinR (B : Int → Int) (s n : Int) : Int := if s < 1 ∨ 7 < s ∨ n < 1 ∨ 20 < n then -102 else fuI (fun p => thinS B p s n) 0 144
noncomputable def netsR (B : Int → Int) (t : Int) : Int := if t < 0 ∨ 127 < t then -102 else netC (2 * t) B
noncomputable def netOfR (B : Int → Int) (p z t : Int) : Int := if p < 0 ∨ 143 < p ∨ z < 0 ∨ 19 < z then -101 else if t < 0 ∨ 127 < t then -102 else netM (2 * t) B (144 * z + p) - 1
noncomputable def netP (B : Int → Int) (t i : Int) : Int → Bool := fun c => decide (netM (2 * t) B c = i + 1)
noncomputable def netR (B : Int → Int) (i t w : Int) : Int := if t < 0 ∨ 127 < t then -102 else if i < 0 ∨ netC (2 * t) B - 1 < i then -101 else if w = 0 then fuI (netP B t i) 0 2880 else if w = 1 then cntI (netP B t i) 2880 else if w = 2 then fuI (netP B t i) 0 2880 / 144 else if w = 3 then fdI (netP B t i) 2880 / 144 else if w = 4 then cntI (overP (netM (2 * t) B) i) 144 else -102
noncomputable def joinR (B : Int → Int) (p q t : Int) : Int := if p < 0 ∨ 143 < p ∨ q < 0 ∨ 143 < q then -101 else if t < 0 ∨ 127 < t then -102 else if topS B p = -1 ∨ topS B q = -1 then 0 else if netM (2 * t) B (144 * topS B p + p) ≠ 0 ∧ netM (2 * t) B (144 * topS B p + p) = netM (2 * t) B (144 * topS B q + q) then 1 else 0
def digN (B : Int → Int) : Nat → Int
  | 0 => 7
  | n + 1 => 31 * digN B n + B n
theorem digI_e : ∃ F : (Int → Int) → Int → Int, ∀ B k, F B k = digN B k.toNat := ⟨fun B k => digN B k.toNat, fun _ _ => rfl⟩
noncomputable def digI : (Int → Int) → Int → Int := Classical.choose digI_e
theorem digI_eq (B : Int → Int) (k : Int) : digI B k = digN B k.toNat := Classical.choose_spec digI_e B k
theorem digI_0 (B : Int → Int) : digI B 0 = 7 := by rw [digI_eq]; rfl
theorem digI_s {B : Int → Int} {k : Int} (h : 0 ≤ k) : digI B (k + 1) = 31 * digI B k + B k := by
  rw [digI_eq, digI_eq]
  obtain ⟨n, rfl⟩ := Int.eq_ofNat_of_zero_le h
  rfl
/-- how a cube is printed; a cross-cut -/
noncomputable def signS (B : Int → Int) (c : Int) : Int := if B c ≠ 0 then 96 + B c else if (opnS B).1 c then 46 else 45
noncomputable def secS (B : Int → Int) (ax wh j : Int) : Int := if j % 13 = 12 then 10 else signS B (144 * (19 - j / 13) + (if ax = 0 then 12 * wh + j % 13 else 12 * (j % 13) + wh))
noncomputable def pgF (Pg : Int → Int) (B : Int → Int) (ax wh k : Int) : Int → Int := fun j => if 0 ≤ j ∧ j < k then secS B ax wh j else Pg j
theorem pgF_0 (Pg : Int → Int) (B : Int → Int) (ax wh : Int) : pgF Pg B ax wh 0 = Pg := by funext j; unfold pgF; rw [if_neg (by omega)]
theorem pgF_s {Pg : Int → Int} {B : Int → Int} {ax wh k v : Int} (hk : 0 ≤ k) (hv : v = secS B ax wh k) : upI (pgF Pg B ax wh k) k v = pgF Pg B ax wh (k + 1) := by
  funext j
  unfold upI pgF
  by_cases q : j = k
  · subst q; rw [if_pos rfl, if_pos (by omega), hv]
  · rw [if_neg q]
    by_cases q2 : 0 ≤ j ∧ j < k
    · rw [if_pos q2, if_pos (by omega)]
    · rw [if_neg q2, if_neg (by omega)]
noncomputable def secR (Pg : Int → Int) (pb : Int) (B : Int → Int) (ax wh : Int) : Int × (Int → Int) × Int := if ax < 0 ∨ 1 < ax ∨ wh < 0 ∨ 11 < wh then (-102, Pg, pb) else (260, pgF Pg B ax wh 260, 260)
def outR (Pg : Int → Int) (pb i : Int) : Int := if 0 ≤ i ∧ i ≤ pb - 1 then Pg i else -1
theorem signS_rng {B : Int → Int} (hB : BOK B) (c : Int) : 45 ≤ signS B c ∧ signS B c ≤ 103 := by
  have := hB c
  unfold signS
  split
  · omega
  · split <;> omega
theorem cntI_not (p : Int → Bool) {k : Int} (h : 0 ≤ k) : cntI (fun c => !(p c)) k = k - cntI p k := by
  rw [cntI_eq, cntI_eq]
  have key : ∀ n : Nat, cntS (fun c => !(p c)) n = n - cntS p n := by
    intro n
    induction n with
    | zero => rfl
    | succ n ih =>
      show cntS (fun c => !(p c)) n + bI (!(p n)) = (n + 1 : Nat) - (cntS p n + bI (p n))
      rw [ih]
      cases p n <;> simp [bI] <;> omega
  rw [key]
  omega
theorem hk_254 {v : Int} (h : 0 ≤ v ∧ v ≤ 7) : hk 254 v = !(decide (v = 0)) := by
  rcases (show v = 0 ∨ v = 1 ∨ v = 2 ∨ v = 3 ∨ v = 4 ∨ v = 5 ∨ v = 6 ∨ v = 7 by omega) with h | h | h | h | h | h | h | h <;> subst h <;> decide
theorem hk_1 {v : Int} (h : 0 ≤ v ∧ v ≤ 7) : hk 1 v = decide (v = 0) := by
  rcases (show v = 0 ∨ v = 1 ∨ v = 2 ∨ v = 3 ∨ v = 4 ∨ v = 5 ∨ v = 6 ∨ v = 7 by omega) with h | h | h | h | h | h | h | h <;> subst h <;> decide
theorem vol_254 {B : Int → Int} (hB : BOK B) : cntI (fun c => hk 254 (B c)) 2880 = 2880 - vol B 0 := by
  rw [cntI_cong (q := fun c => !(decide (B c = 0))) (fun c _ _ => hk_254 (hB c)), cntI_not _ (by omega)]
  rfl
theorem vol_1 {B : Int → Int} (hB : BOK B) : cntI (fun c => hk 1 (B c)) 2880 = vol B 0 := cntI_cong (fun c _ _ => hk_1 (hB c))
theorem vol_s {B : Int → Int} (hB : BOK B) {s : Int} (hs : 0 ≤ s ∧ s ≤ 7) : cntI (fun c => hk (1 * 2 ^ s.toNat) (B c)) 2880 = vol B s := cntI_cong (fun c _ _ => hk_one (by omega) (by have := hB c; omega))
theorem vol_rng (B : Int → Int) (s : Int) : 0 ≤ vol B s ∧ vol B s ≤ 2880 := cntI_rng _ (by omega)
theorem openN_rng (B : Int → Int) : 0 ≤ openN B ∧ openN B ≤ 2880 := cntI_rng _ (by omega)
theorem floatN_rng (B : Int → Int) : 0 ≤ floatN B ∧ floatN B ≤ 2880 := cntI_rng _ (by omega)
/-- every net has a cube -/
theorem netM_ex {K : Int} {B : Int → Int} {i : Int} (h : 0 ≤ i ∧ i < netC K B) : ∃ c, 0 ≤ c ∧ c < 2880 ∧ netM K B c = i + 1 := by
  have key : ∀ n : Nat, n ≤ 2880 → ∀ i : Int, 0 ≤ i → i < (ntN K B n).2 → ∃ c, 0 ≤ c ∧ c < 2880 ∧ (ntN K B n).1 c = i + 1 := by
    intro n
    induction n with
    | zero => intro _ i h1 h2; exact absurd h2 (by show ¬ i < 0; omega)
    | succ n ih =>
      intro hn i h1 h2
      unfold ntN at h2 ⊢
      split at h2
      · rename_i q
        rw [if_pos q]
        have h2 : i < (ntN K B n).2 + 1 := h2
        by_cases e : i = (ntN K B n).2
        · refine ⟨n, by omega, by omega, ?_⟩
          show mkF _ _ _ _ = _
          unfold mkF
          rw [if_neg (fun z => z q.1), if_pos (bfs_mono (by rw [visit_1]; simp)), e]
        · obtain ⟨c, c1, c2, c3⟩ := ih (by omega) i h1 (by omega)
          refine ⟨c, c1, c2, ?_⟩
          show mkF _ _ _ _ = _
          unfold mkF
          rw [if_pos (by omega)]
          exact c3
      · rename_i q
        rw [if_neg q]
        exact ih (by omega) i h1 h2
  have h2 := h.2
  unfold netC at h2
  unfold netM
  rw [ntI_eq] at h2 ⊢
  exact key _ (by omega) i h.1 h2
theorem fuI_ex {P : Int → Bool} {N c : Int} (h : 0 ≤ c ∧ c < N) (hp : P c = true) : 0 ≤ fuI P 0 N ∧ fuI P 0 N ≤ c := by
  unfold fuI
  have key : ∀ (n : Nat) (a : Int), 0 ≤ a → a ≤ c → c < a + n → a ≤ findUp P a n ∧ findUp P a n ≤ c := by
    intro n
    induction n with
    | zero => intro a h1 h2 h3; omega
    | succ n ih =>
      intro a h1 h2 h3
      unfold findUp
      split
      · omega
      · rename_i q
        have : a ≠ c := fun e => q (by rw [e]; exact hp)
        have := ih (a + 1) (by omega) (by omega) (by omega)
        omega
  exact key _ 0 (by omega) h.1 (by omega)
theorem fdI_ex {P : Int → Bool} {N c : Int} (h : 0 ≤ c ∧ c < N) (hp : P c = true) : c ≤ fdI P N := by
  rw [fdI_eq]
  have key : ∀ n : Nat, c < n → c ≤ findDn P n := by
    intro n
    induction n with
    | zero => intro h; omega
    | succ n ih =>
      intro h2
      unfold findDn
      split
      · omega
      · rename_i q
        have : c ≠ n := fun e => q (by rw [← e]; exact hp)
        exact ih (by omega)
  exact key _ (by omega)
theorem netP_ex {B : Int → Int} {t i : Int} (h : 0 ≤ i ∧ i < netC (2 * t) B) : ∃ c, 0 ≤ c ∧ c < 2880 ∧ netP B t i c = true := by
  obtain ⟨c, h1, h2, h3⟩ := netM_ex h
  exact ⟨c, h1, h2, by unfold netP; rw [h3]; simp⟩
theorem netP_fu {B : Int → Int} {t i : Int} (h : 0 ≤ i ∧ i < netC (2 * t) B) : 0 ≤ fuI (netP B t i) 0 2880 ∧ fuI (netP B t i) 0 2880 < 2880 := by
  obtain ⟨c, h1, h2, h3⟩ := netP_ex h
  have := fuI_ex ⟨h1, h2⟩ h3
  omega
theorem netP_fd {B : Int → Int} {t i : Int} (h : 0 ≤ i ∧ i < netC (2 * t) B) : 0 ≤ fdI (netP B t i) 2880 ∧ fdI (netP B t i) 2880 < 2880 := by
  obtain ⟨c, h1, h2, h3⟩ := netP_ex h
  have h4 := fdI_ex ⟨h1, h2⟩ h3
  have := @fdI_rng (netP B t i) 2880 (by omega)
  omega
theorem sec_nl {B : Int → Int} {x w z : Int} (hz : 0 ≤ z ∧ z ≤ 19) : (10 : Int) = secS B x w (13 * (19 - z) + 12) := by
  unfold secS
  rw [if_pos (by omega)]
theorem sec_at {B : Int → Int} {x w z i c : Int} (hz : 0 ≤ z ∧ z ≤ 19) (hi : 0 ≤ i ∧ i < 12) (hc : c = 144 * z + (if x = 0 then 12 * w + i else 12 * i + w)) : signS B c = secS B x w (13 * (19 - z) + i) := by
  unfold secS
  rw [if_neg (by omega), hc, show (13 * (19 - z) + i) % 13 = i by omega, show 19 - (13 * (19 - z) + i) / 13 = z by omega]
