/-! TOKENS: where they begin and end, what they are -/
def scN (P : Int → Bool) : Nat → Int → Int
  | 0, a => a
  | n + 1, a => if P a then scN P n (a + 1) else a
def scI (P : Int → Bool) (a N : Int) : Int := scN P (N - a).toNat a
theorem scI_t {P : Int → Bool} {a N : Int} (h : a < N) (hp : P a = true) : scI P a N = scI P (a + 1) N := by unfold scI; rw [toNat_step h, scN, if_pos hp]
theorem scI_f {P : Int → Bool} {a N : Int} (h : a < N) (hp : P a = false) : scI P a N = a := by unfold scI; rw [toNat_step h, scN, if_neg (by rw [hp]; decide)]
theorem scI_e {P : Int → Bool} {a N : Int} (h : N ≤ a) : scI P a N = a := by unfold scI; rw [show (N - a).toNat = 0 by omega]; rfl
theorem scI_spec {P : Int → Bool} {a N : Int} (h : a ≤ N) : a ≤ scI P a N ∧ scI P a N ≤ N ∧ (∀ z, a ≤ z → z < scI P a N → P z = true) ∧ (scI P a N < N → P (scI P a N) = false) := by
  have key : ∀ (n : Nat) (a : Int), a + n = N → a ≤ scI P a N ∧ scI P a N ≤ N ∧ (∀ z, a ≤ z → z < scI P a N → P z = true) ∧ (scI P a N < N → P (scI P a N) = false) := by
    intro n
    induction n with
    | zero => intro a e; rw [scI_e (by omega)]; exact ⟨by omega, by omega, fun z p q => by omega, fun q => by omega⟩
    | succ n ih =>
      intro a e
      cases hp : P a with
      | false => rw [scI_f (by omega) hp]; exact ⟨by omega, by omega, fun z p q => by omega, fun _ => hp⟩
      | true =>
        rw [scI_t (by omega) hp]
        have := ih (a + 1) (by omega)
        exact ⟨by omega, this.2.1, fun z p q => by
          by_cases w : z = a
          · rw [w]; exact hp
          · exact this.2.2.1 z (by omega) q, this.2.2.2⟩
  exact key (N - a).toNat a (by omega)
def blk (v : Int) : Bool := decide (v = 32 ∨ v = 10)
def kdT (v : Int) : Int := if 97 ≤ v ∧ v ≤ 122 then 1 else if 48 ≤ v ∧ v ≤ 57 then 2 else 3
theorem kdT_rng (v : Int) : 1 ≤ kdT v ∧ kdT v ≤ 3 := by unfold kdT; split <;> (try split) <;> omega
theorem kdT_1 {v : Int} : kdT v = 1 ↔ 97 ≤ v ∧ v ≤ 122 := by unfold kdT; split <;> (try split) <;> omega
theorem kdT_2 {v : Int} : kdT v = 2 ↔ 48 ≤ v ∧ v ≤ 57 := by unfold kdT; split <;> (try split) <;> omega
theorem kdT_3 {v : Int} : kdT v = 3 ↔ ¬ (97 ≤ v ∧ v ≤ 122) ∧ ¬ (48 ≤ v ∧ v ≤ 57) := by unfold kdT; split <;> (try split) <;> omega
def bkP (Tb : Int → Int) : Int → Bool := fun z => blk (Tb z)
def tkF (Tb : Int → Int) (L e : Int) : Int := scI (bkP Tb) e L
theorem tkF_rng {Tb : Int → Int} {L e : Int} (h : e ≤ L) : e ≤ tkF Tb L e ∧ tkF Tb L e ≤ L := ⟨(scI_spec h).1, (scI_spec h).2.1⟩
def tkK (Tb : Int → Int) (L f : Int) : Int := if f < L then kdT (Tb f) else 0
theorem tkK_rng (Tb : Int → Int) (L f : Int) : 0 ≤ tkK Tb L f ∧ tkK Tb L f ≤ 3 := by unfold tkK; have := kdT_rng (Tb f); split <;> omega
def smP (Tb : Int → Int) (f : Int) : Int → Bool := fun z => decide (kdT (Tb z) = kdT (Tb f))
def tkR (Tb : Int → Int) (L f : Int) : Int := scI (smP Tb f) (f + 1) L
def tkE (Tb : Int → Int) (L f : Int) : Int := if f < L then (if kdT (Tb f) = 3 then f + 1 else tkR Tb L f) else f
theorem tkE_rng {Tb : Int → Int} {L f : Int} (h : f ≤ L) : f ≤ tkE Tb L f ∧ tkE Tb L f ≤ L ∧ (f < L → f < tkE Tb L f) := by
  unfold tkE
  by_cases q : f < L
  · have := scI_spec (P := smP Tb f) (a := f + 1) (N := L) (by omega)
    rw [if_pos q]
    unfold tkR
    split <;> omega
  · rw [if_neg q]; omega
def nxI (Tb : Int → Int) (L f k e : Int) : Prop := k = tkK Tb L f ∧ f ≤ e ∧ e ≤ L ∧ (k = 0 → e = f) ∧ (k = 3 → e = f + 1) ∧ ((k = 1 ∨ k = 2) → f < e ∧ scI (smP Tb f) e L = tkR Tb L f ∧ k = kdT (Tb f))
theorem nxI_0 {Tb : Int → Int} {L f : Int} (h : f ≤ L) (h1 : ¬ f < L) : nxI Tb L f 0 f := ⟨by unfold tkK; rw [if_neg h1], by omega, h, fun _ => rfl, fun q => by omega, fun q => by omega⟩
theorem nxI_1 {Tb : Int → Int} {L f : Int} (h1 : f < L) : nxI Tb L f (kdT (Tb f)) (f + 1) := by
  have := kdT_rng (Tb f)
  exact ⟨by unfold tkK; rw [if_pos h1], by omega, by omega, fun q => by omega, fun _ => rfl, fun _ => ⟨by omega, rfl, rfl⟩⟩
theorem nxI_s {Tb : Int → Int} {L f k e : Int} (h : nxI Tb L f k e) (h1 : ¬ k = 3) (h2 : e < L) (h3 : kdT (Tb e) = k) : nxI Tb L f k (e + 1) := by
  obtain ⟨a, b, c, d, g, i⟩ := h
  have := kdT_rng (Tb e)
  have i2 := i (by omega)
  exact ⟨a, by omega, by omega, fun q => by omega, fun q => by omega, fun q => ⟨by omega, by rw [← i2.2.1]; exact (scI_t h2 (decide_eq_true (by rw [h3]; exact i2.2.2))).symm, i2.2.2⟩⟩
theorem nxI_end {Tb : Int → Int} {L f k e : Int} (h : nxI Tb L f k e) (h1 : k = 3 ∨ L ≤ e ∨ ¬ kdT (Tb e) = k) : e = tkE Tb L f := by
  obtain ⟨a, b, c, d, g, i⟩ := h
  have hr := tkK_rng Tb L f
  unfold tkE
  unfold tkK at a hr
  by_cases q : f < L
  · rw [if_pos q] at a hr ⊢
    by_cases q3 : k = 3
    · rw [if_pos (by omega)]; exact g q3
    · rw [if_neg (by omega)]
      have := kdT_rng (Tb f)
      have i2 := i (by omega)
      rw [← i2.2.1]
      by_cases q4 : L ≤ e
      · rw [scI_e q4]
      · rw [scI_f (by omega) (decide_eq_false (by
          rcases h1 with h1 | h1 | h1
          · omega
          · omega
          · rw [← i2.2.2]; exact h1))]
  · rw [if_neg q] at a ⊢; exact d a
/-! the reference's token -/
def hrS (Tb : Int → Int) (L a : Int) : Int := if a < L then Tb a else -1
theorem hrS_lt {Tb : Int → Int} {L a : Int} (h : a < L) : hrS Tb L a = Tb a := if_pos h
theorem hrS_ge {Tb : Int → Int} {L a : Int} (h : L ≤ a) : hrS Tb L a = -1 := if_neg (by omega)
theorem hrS_rng {Tb : Int → Int} (hT : TOK Tb) (L a : Int) : -1 ≤ hrS Tb L a ∧ hrS Tb L a ≤ 255 := by unfold hrS; have := hT a; split <;> omega
def wvN (Tb : Int → Int) (f : Int) : Nat → Int
  | 0 => 0
  | n + 1 => if n < 9 then 27 * wvN Tb f n + Tb (f + n) - 96 else wvN Tb f n
def wvI (Tb : Int → Int) (f z : Int) : Int := wvN Tb f (z - f).toNat
theorem wvI_0 (Tb : Int → Int) (f : Int) : wvI Tb f f = 0 := by unfold wvI; rw [show (f - f).toNat = 0 by omega]; rfl
theorem wvI_s {Tb : Int → Int} {f z : Int} (h : f ≤ z) : wvI Tb f (z + 1) = if z - f < 9 then 27 * wvI Tb f z + Tb z - 96 else wvI Tb f z := by
  unfold wvI
  rw [show (z + 1 - f).toNat = (z - f).toNat + 1 by omega]
  show (if (z - f).toNat < 9 then 27 * wvN Tb f (z - f).toNat + Tb (f + ((z - f).toNat : Nat)) - 96 else _) = _
  rw [show f + (((z - f).toNat : Nat) : Int) = z by omega]
  by_cases q : z - f < 9
  · rw [if_pos q, if_pos (by omega)]
  · rw [if_neg q, if_neg (by omega)]
def nvN (Tb : Int → Int) (f : Int) : Nat → Int
  | 0 => 0
  | n + 1 => if n < 2 then 10 * nvN Tb f n + Tb (f + n) - 48 else nvN Tb f n
def nvI (Tb : Int → Int) (f z : Int) : Int := nvN Tb f (z - f).toNat
theorem nvI_0 (Tb : Int → Int) (f : Int) : nvI Tb f f = 0 := by unfold nvI; rw [show (f - f).toNat = 0 by omega]; rfl
theorem nvI_s {Tb : Int → Int} {f z : Int} (h : f ≤ z) : nvI Tb f (z + 1) = if z - f < 2 then 10 * nvI Tb f z + Tb z - 48 else nvI Tb f z := by
  unfold nvI
  rw [show (z + 1 - f).toNat = (z - f).toNat + 1 by omega]
  show (if (z - f).toNat < 2 then 10 * nvN Tb f (z - f).toNat + Tb (f + ((z - f).toNat : Nat)) - 48 else _) = _
  rw [show f + (((z - f).toNat : Nat) : Int) = z by omega]
  by_cases q : z - f < 2
  · rw [if_pos q, if_pos (by omega)]
  · rw [if_neg q, if_neg (by omega)]
theorem nvI_rng {Tb : Int → Int} {f z : Int} (h : f ≤ z) (hd : ∀ y, f ≤ y → y < z → 48 ≤ Tb y ∧ Tb y ≤ 57) : 0 ≤ nvI Tb f z ∧ nvI Tb f z ≤ 99 ∧ (z - f ≤ 1 → nvI Tb f z ≤ 9) ∧ (z - f ≤ 0 → nvI Tb f z ≤ 0) := by
  obtain ⟨n, rfl⟩ : ∃ n : Nat, z = f + n := ⟨(z - f).toNat, by omega⟩
  clear h
  induction n with
  | zero => rw [show f + ((0 : Nat) : Int) = f by omega, nvI_0]; omega
  | succ n ih =>
    have h1 := ih (fun y a b => hd y a (by omega))
    have h2 := hd (f + n) (by omega) (by omega)
    rw [show f + ((n + 1 : Nat) : Int) = f + n + 1 by omega, nvI_s (by omega)]
    split <;> omega
def tkT (Tb : Int → Int) (L f : Int) : Int := if tkK Tb L f = 0 then -1 else if tkK Tb L f = 1 then 300 else if tkK Tb L f = 2 then 301 else Tb f
def tkX (Tb : Int → Int) (L f : Int) : Int := if tkK Tb L f = 1 then wvI Tb f (tkE Tb L f) else 0
def tkV (Tb : Int → Int) (L f : Int) : Int := if tkK Tb L f = 2 then nvI Tb f (tkE Tb L f) else 0
def tkZ (Tb : Int → Int) (L f : Int) : Int := if tkK Tb L f = 1 ∨ tkK Tb L f = 2 then tkE Tb L f - f else 0
theorem tk_0 {Tb : Int → Int} {L f : Int} (h : ¬ f < L) : tkK Tb L f = 0 ∧ tkE Tb L f = f ∧ tkT Tb L f = -1 ∧ tkX Tb L f = 0 ∧ tkV Tb L f = 0 ∧ tkZ Tb L f = 0 := by
  have hk : tkK Tb L f = 0 := by unfold tkK; rw [if_neg h]
  refine ⟨hk, by unfold tkE; rw [if_neg h], ?_, ?_, ?_, ?_⟩
  · unfold tkT; rw [if_pos hk]
  · unfold tkX; rw [if_neg (by omega)]
  · unfold tkV; rw [if_neg (by omega)]
  · unfold tkZ; rw [if_neg (by omega)]
theorem tk_3 {Tb : Int → Int} {L f : Int} (h : f < L) (h3 : kdT (Tb f) = 3) : tkK Tb L f = 3 ∧ tkE Tb L f = f + 1 ∧ tkT Tb L f = Tb f ∧ tkX Tb L f = 0 ∧ tkV Tb L f = 0 ∧ tkZ Tb L f = 0 := by
  have hk : tkK Tb L f = 3 := by unfold tkK; rw [if_pos h]; exact h3
  refine ⟨hk, by unfold tkE; rw [if_pos h, if_pos h3], ?_, ?_, ?_, ?_⟩
  · unfold tkT; rw [if_neg (by omega), if_neg (by omega), if_neg (by omega)]
  · unfold tkX; rw [if_neg (by omega)]
  · unfold tkV; rw [if_neg (by omega)]
  · unfold tkZ; rw [if_neg (by omega)]
theorem tkE_of {Tb : Int → Int} {L f a : Int} (h : f < L) (h3 : ¬ kdT (Tb f) = 3) (ha : scI (smP Tb f) a L = scI (smP Tb f) f L) (hs : L ≤ a ∨ smP Tb f a = false) : tkE Tb L f = a := by
  unfold tkE tkR
  rw [if_pos h, if_neg h3, ← scI_t h (decide_eq_true rfl), ← ha]
  by_cases q : L ≤ a
  · exact scI_e q
  · exact scI_f (by omega) (by rcases hs with hs | hs; omega; exact hs)
theorem tk_1 {Tb : Int → Int} {L f a : Int} (h : f < L) (h3 : kdT (Tb f) = 1) (ha : tkE Tb L f = a) : tkK Tb L f = 1 ∧ tkT Tb L f = 300 ∧ tkX Tb L f = wvI Tb f a ∧ tkV Tb L f = 0 ∧ tkZ Tb L f = a - f := by
  have hk : tkK Tb L f = 1 := by unfold tkK; rw [if_pos h]; exact h3
  refine ⟨hk, ?_, ?_, ?_, ?_⟩
  · unfold tkT; rw [if_neg (by omega), if_pos hk]
  · unfold tkX; rw [if_pos hk, ha]
  · unfold tkV; rw [if_neg (by omega)]
  · unfold tkZ; rw [if_pos (Or.inl hk), ha]
theorem tk_2 {Tb : Int → Int} {L f a : Int} (h : f < L) (h3 : kdT (Tb f) = 2) (ha : tkE Tb L f = a) : tkK Tb L f = 2 ∧ tkT Tb L f = 301 ∧ tkX Tb L f = 0 ∧ tkV Tb L f = nvI Tb f a ∧ tkZ Tb L f = a - f := by
  have hk : tkK Tb L f = 2 := by unfold tkK; rw [if_pos h]; exact h3
  refine ⟨hk, ?_, ?_, ?_, ?_⟩
  · unfold tkT; rw [if_neg (by omega), if_neg (by omega), if_pos hk]
  · unfold tkX; rw [if_neg (by omega)]
  · unfold tkV; rw [if_pos hk, ha]
  · unfold tkZ; rw [if_pos (Or.inr hk), ha]
/-! single letters, sets of letters, words -/
def sfT (v : Int) : Int := if 97 ≤ v ∧ v ≤ 103 then v - 96 else -1
theorem sfT_rng (v : Int) : sfT v = -1 ∨ 1 ≤ sfT v ∧ sfT v ≤ 7 := by unfold sfT; split <;> omega
def stfS (Tb : Int → Int) (k f e : Int) : Int := if k = 1 ∧ e - f = 1 then sfT (Tb f) else -1
theorem stfS_rng (Tb : Int → Int) (k f e : Int) : stfS Tb k f e = -1 ∨ 1 ≤ stfS Tb k f e ∧ stfS Tb k f e ≤ 7 := by unfold stfS; split; exact sfT_rng _; exact Or.inl rfl
def orK (K s : Int) : Int := (((K : Int).toNat ||| (1 * 2 ^ s.toNat : Int).toNat : Nat) : Int)
def lsN (Tb : Int → Int) (f : Int) : Nat → Int
  | 0 => 0
  | n + 1 => if lsN Tb f n = -1 ∨ sfT (Tb (f + n)) = -1 ∨ hk (lsN Tb f n) (sfT (Tb (f + n))) = true then -1 else orK (lsN Tb f n) (sfT (Tb (f + n)))
def lsI (Tb : Int → Int) (f z : Int) : Int := lsN Tb f (z - f).toNat
theorem lsI_0 (Tb : Int → Int) (f : Int) : lsI Tb f f = 0 := by unfold lsI; rw [show (f - f).toNat = 0 by omega]; rfl
theorem lsI_s {Tb : Int → Int} {f z : Int} (h : f ≤ z) : lsI Tb f (z + 1) = if lsI Tb f z = -1 ∨ sfT (Tb z) = -1 ∨ hk (lsI Tb f z) (sfT (Tb z)) = true then -1 else orK (lsI Tb f z) (sfT (Tb z)) := by
  unfold lsI
  rw [show (z + 1 - f).toNat = (z - f).toNat + 1 by omega]
  show (if lsN Tb f (z - f).toNat = -1 ∨ sfT (Tb (f + ((z - f).toNat : Nat))) = -1 ∨ hk (lsN Tb f (z - f).toNat) (sfT (Tb (f + ((z - f).toNat : Nat)))) = true then -1 else orK (lsN Tb f (z - f).toNat) (sfT (Tb (f + ((z - f).toNat : Nat))))) = _
  rw [show f + (((z - f).toNat : Nat) : Int) = z by omega]
theorem lsI_bad {Tb : Int → Int} {f z e : Int} (h : f ≤ z) (he : z ≤ e) (hb : lsI Tb f z = -1) : lsI Tb f e = -1 := by
  obtain ⟨n, rfl⟩ : ∃ n : Nat, e = z + n := ⟨(e - z).toNat, by omega⟩
  clear he
  induction n with
  | zero => rw [show z + ((0 : Nat) : Int) = z by omega]; exact hb
  | succ n ih => rw [show z + ((n + 1 : Nat) : Int) = z + n + 1 by omega, lsI_s (by omega), if_pos (Or.inl ih)]
theorem lsI_rng (Tb : Int → Int) {f z : Int} (h : f ≤ z) : lsI Tb f z = -1 ∨ 0 ≤ lsI Tb f z ∧ lsI Tb f z ≤ 255 := by
  obtain ⟨n, rfl⟩ : ∃ n : Nat, z = f + n := ⟨(z - f).toNat, by omega⟩
  clear h
  induction n with
  | zero => rw [show f + ((0 : Nat) : Int) = f by omega, lsI_0]; omega
  | succ n ih =>
    rw [show f + ((n + 1 : Nat) : Int) = f + n + 1 by omega, lsI_s (by omega)]
    split
    · exact Or.inl rfl
    · rename_i q
      have h2 := sfT_rng (Tb (f + n))
      have h3 := hk_or_rng (K := lsI Tb f (f + n)) (s := sfT (Tb (f + n))) (by omega) (by omega)
      right; exact h3
def stsS (Tb : Int → Int) (k f e : Int) : Int := if k = 1 then lsI Tb f e else -1
def vluS (Tb : Int → Int) (k f e : Int) : Int := if k = 2 ∧ e - f ≤ 2 then nvI Tb f e else -1
def wdP (Tb : Int → Int) (f : Int) (kk : Nat) : Int → Bool := fun i => decide (¬ Tb (f + i) = sch kk i)
def wdS (Tb : Int → Int) (k f e : Int) (kk : Nat) : Bool := decide (k = 1 ∧ e - f = slen kk) && !(anI (wdP Tb f kk) 0 (slen kk))
def swS (Tb : Int → Int) (k f e : Int) : Int := fuI (fun w => wdS Tb k f e w.toNat) 0 14
def fmK (w : Int) : Nat := if w = 0 ∨ w = 3 then 14 else if w = 1 ∨ w = 4 then 15 else if w = 2 then 16 else if w = 5 then 17 else if w = 6 then 18 else if w = 7 then 19 else if w = 9 then 20 else if w = 11 then 21 else if w = 13 then 22 else 23
theorem fmK_lt (w : Int) : 14 ≤ fmK w ∧ fmK w < 24 := by unfold fmK; repeat' split
                                                         all_goals omega
