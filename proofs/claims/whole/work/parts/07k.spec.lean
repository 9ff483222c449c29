/-! THE REFERENCE'S PARTS against the class's -/
def opV (Tb : Int → Int) (L c f : Int) : Int := if c = 84 then stsS Tb (tkK Tb L f) f (tkE Tb L f) else if c = 114 then relS Tb (tkK Tb L f) f else if c = 115 ∨ c = 116 then stfS Tb (tkK Tb L f) f (tkE Tb L f) else if numC c then vluS Tb (tkK Tb L f) f (tkE Tb L f) else 0
def op1 (Tb : Int → Int) (L c ft fa f v ft1 fa1 f1 : Int) : Prop :=
  (¬ ft = 0 ∧ ft1 = ft ∧ fa1 = fa ∧ f1 = f) ∨ (ft = 0 ∧ rpF Tb (tkK Tb L f) f (tkE Tb L f) c = 0 ∧ v = opV Tb L c f ∧ ft1 = 0 ∧ fa1 = fa ∧ f1 = tkF Tb L (tkE Tb L f)) ∨ (ft = 0 ∧ ¬ rpF Tb (tkK Tb L f) f (tkE Tb L f) c = 0 ∧ ft1 = rpF Tb (tkK Tb L f) f (tkE Tb L f) c ∧ fa1 = f ∧ f1 = f)
/-! sets of letters, forwards and backwards -/
def gdL (Tb : Int → Int) (a b : Int) : Prop := ∀ j : Int, a ≤ j → j < b → sfT (Tb j) ≠ -1 ∧ ∀ i : Int, a ≤ i → i < j → Tb i ≠ Tb j
def stL2 (Tb : Int → Int) (K a b : Int) : Prop := (0 ≤ K ∧ K ≤ 255) ∧ ∀ v : Int, 0 ≤ v → v ≤ 7 → (hk K v = true ↔ ∃ j : Int, a ≤ j ∧ j < b ∧ sfT (Tb j) = v)
theorem sfT_inj {u v : Int} (h : sfT u = sfT v) (hu : sfT u ≠ -1) : u = v := by
  unfold sfT at *
  (repeat' split at h) <;> (repeat' split at hu) <;> omega
theorem hk_orK {K s v : Int} (hK : 0 ≤ K) (hs : 0 ≤ s ∧ s ≤ 31) (hv : 0 ≤ v ∧ v ≤ 31) : hk (orK K s) v = (hk K v || decide (v = s)) := hk_or hK hs hv
theorem lsI_ch (Tb : Int → Int) {f z : Int} (h : f ≤ z) : (lsI Tb f z = -1 ∧ ¬ gdL Tb f z) ∨ (lsI Tb f z ≠ -1 ∧ gdL Tb f z ∧ stL2 Tb (lsI Tb f z) f z) := by
  obtain ⟨n, rfl⟩ : ∃ n : Nat, z = f + n := ⟨(z - f).toNat, by omega⟩
  clear h
  induction n with
  | zero =>
    rw [show f + ((0 : Nat) : Int) = f by omega, lsI_0]
    exact Or.inr ⟨by omega, fun j a b => by omega, ⟨by omega, by omega⟩, fun v a b => ⟨fun q => by unfold hk at q; simp at q, fun ⟨j, x, y, _⟩ => by omega⟩⟩
  | succ n ih =>
    rw [show f + ((n + 1 : Nat) : Int) = f + n + 1 by omega, lsI_s (by omega)]
    by_cases q : lsI Tb f (f + n) = -1 ∨ sfT (Tb (f + n)) = -1 ∨ hk (lsI Tb f (f + n)) (sfT (Tb (f + n))) = true
    · rw [if_pos q]
      refine Or.inl ⟨rfl, fun hg => ?_⟩
      have hg0 : gdL Tb f (f + n) := fun j a b => hg j a (by omega)
      rcases ih with ih | ih
      · exact ih.2 hg0
      · rcases q with q | q | q
        · exact ih.1 q
        · exact (hg (f + n) (by omega) (by omega)).1 q
        · have hr := sfT_rng (Tb (f + n))
          have hne := (hg (f + n) (by omega) (by omega)).1
          obtain ⟨j, a, b, e⟩ := (ih.2.2.2 _ (by omega) (by omega)).mp q
          exact (hg (f + n) (by omega) (by omega)).2 j a b (sfT_inj e (by rw [e]; exact hne))
    · rw [if_neg q]
      have q1 : lsI Tb f (f + n) ≠ -1 := fun z => q (Or.inl z)
      have q2 : sfT (Tb (f + n)) ≠ -1 := fun z => q (Or.inr (Or.inl z))
      have q3 : ¬ hk (lsI Tb f (f + n)) (sfT (Tb (f + n))) = true := fun z => q (Or.inr (Or.inr z))
      have hr := (sfT_rng (Tb (f + n))).resolve_left q2
      have hK := (lsI_rng Tb (f := f) (z := f + n) (by omega)).resolve_left q1
      have ih := ih.resolve_left (fun z => q1 z.1)
      have hor := hk_or_rng (K := lsI Tb f (f + n)) (s := sfT (Tb (f + n))) hK (by omega)
      refine Or.inr ⟨fun z => ?_, fun j a b => ?_, ⟨hor, fun v a b => ?_⟩⟩
      · have : 0 ≤ orK (lsI Tb f (f + n)) (sfT (Tb (f + n))) := hor.1
        omega
      · by_cases w : j = f + n
        · rw [w]
          refine ⟨q2, fun i x y e => q3 ?_⟩
          exact (ih.2.2.2 _ (by omega) (by omega)).mpr ⟨i, x, y, by rw [e]⟩
        · exact ih.2.1 j a (by omega)
      · rw [hk_orK hK.1 (by omega) (by omega), Bool.or_eq_true, decide_eq_true_eq, ih.2.2.2 v a b]
        constructor
        · rintro (⟨j, x, y, e⟩ | e)
          · exact ⟨j, x, by omega, e⟩
          · exact ⟨f + n, by omega, by omega, e.symm⟩
        · rintro ⟨j, x, y, e⟩
          by_cases w : j = f + n
          · rw [w] at e; exact Or.inr e.symm
          · exact Or.inl ⟨j, x, by omega, e⟩
theorem hk_ext {K M : Int} (hK : 0 ≤ K ∧ K ≤ 255) (hM : 0 ≤ M ∧ M ≤ 255) (h : ∀ v : Int, 0 ≤ v → v ≤ 7 → (hk K v = true ↔ hk M v = true)) : K = M := by
  have h0 := h 0 (by omega) (by omega)
  have h1 := h 1 (by omega) (by omega)
  have h2 := h 2 (by omega) (by omega)
  have h3 := h 3 (by omega) (by omega)
  have h4 := h 4 (by omega) (by omega)
  have h5 := h 5 (by omega) (by omega)
  have h6 := h 6 (by omega) (by omega)
  have h7 := h 7 (by omega) (by omega)
  unfold hk at h0 h1 h2 h3 h4 h5 h6 h7
  simp only [decide_eq_true_eq] at h0 h1 h2 h3 h4 h5 h6 h7
  simp only [show (2 : Int) ^ (0 : Int).toNat = 1 from rfl, show (2 : Int) ^ (1 : Int).toNat = 2 from rfl, show (2 : Int) ^ (2 : Int).toNat = 4 from rfl, show (2 : Int) ^ (3 : Int).toNat = 8 from rfl, show (2 : Int) ^ (4 : Int).toNat = 16 from rfl, show (2 : Int) ^ (5 : Int).toNat = 32 from rfl, show (2 : Int) ^ (6 : Int).toNat = 64 from rfl, show (2 : Int) ^ (7 : Int).toNat = 128 from rfl] at h0 h1 h2 h3 h4 h5 h6 h7
  have b0 : K / 1 % 2 = M / 1 % 2 := by omega
  have b1 : K / 2 % 2 = M / 2 % 2 := by omega
  have b2 : K / 4 % 2 = M / 4 % 2 := by omega
  have b3 : K / 8 % 2 = M / 8 % 2 := by omega
  have b4 : K / 16 % 2 = M / 16 % 2 := by omega
  have b5 : K / 32 % 2 = M / 32 % 2 := by omega
  have b6 : K / 64 % 2 = M / 64 % 2 := by omega
  have b7 : K / 128 % 2 = M / 128 % 2 := by omega
  clear h0 h1 h2 h3 h4 h5 h6 h7 h
  omega
/-- how many of a to g a set has -/
def pcK (K : Int) : Int := bI (hk K 1) + bI (hk K 2) + bI (hk K 3) + bI (hk K 4) + bI (hk K 5) + bI (hk K 6) + bI (hk K 7)
theorem pcK_rng (K : Int) : 0 ≤ pcK K ∧ pcK K ≤ 7 := by
  unfold pcK
  have h1 := bI_rng (hk K 1); have h2 := bI_rng (hk K 2); have h3 := bI_rng (hk K 3); have h4 := bI_rng (hk K 4); have h5 := bI_rng (hk K 5); have h6 := bI_rng (hk K 6); have h7 := bI_rng (hk K 7)
  omega
theorem pcK_or {K s : Int} (hK : 0 ≤ K) (hs : 1 ≤ s ∧ s ≤ 7) (h : hk K s = false) : pcK (orK K s) = pcK K + 1 := by
  unfold pcK
  rw [hk_orK hK (by omega) (by omega), hk_orK hK (by omega) (by omega), hk_orK hK (by omega) (by omega), hk_orK hK (by omega) (by omega), hk_orK hK (by omega) (by omega), hk_orK hK (by omega) (by omega), hk_orK hK (by omega) (by omega)]
  rcases (show s = 1 ∨ s = 2 ∨ s = 3 ∨ s = 4 ∨ s = 5 ∨ s = 6 ∨ s = 7 by omega) with e | e | e | e | e | e | e <;> subst e <;> simp [h, bI] <;> omega
theorem lsI_pc (Tb : Int → Int) {f z : Int} (h : f ≤ z) (hz : lsI Tb f z ≠ -1) : pcK (lsI Tb f z) = z - f := by
  obtain ⟨n, rfl⟩ : ∃ n : Nat, z = f + n := ⟨(z - f).toNat, by omega⟩
  clear h
  induction n with
  | zero => rw [show f + ((0 : Nat) : Int) = f by omega, lsI_0]; unfold pcK hk bI; simp
  | succ n ih =>
    rw [show f + ((n + 1 : Nat) : Int) = f + n + 1 by omega, lsI_s (by omega)] at hz ⊢
    by_cases q : lsI Tb f (f + n) = -1 ∨ sfT (Tb (f + n)) = -1 ∨ hk (lsI Tb f (f + n)) (sfT (Tb (f + n))) = true
    · rw [if_pos q] at hz; exact absurd rfl hz
    · rw [if_neg q]
      have q1 : lsI Tb f (f + n) ≠ -1 := fun z => q (Or.inl z)
      have q2 : sfT (Tb (f + n)) ≠ -1 := fun z => q (Or.inr (Or.inl z))
      have q3 : hk (lsI Tb f (f + n)) (sfT (Tb (f + n))) = false := by
        cases e : hk (lsI Tb f (f + n)) (sfT (Tb (f + n))) with
        | false => rfl
        | true => exact absurd (Or.inr (Or.inr e)) q
      have hr := (sfT_rng (Tb (f + n))).resolve_left q2
      have hK := (lsI_rng Tb (f := f) (z := f + n) (by omega)).resolve_left q1
      rw [pcK_or hK.1 hr q3, ih q1]; omega
theorem lsI_7 (Tb : Int → Int) {f z : Int} (h : f ≤ z) (hz : 7 < z - f) : lsI Tb f z = -1 := by
  by_cases q : lsI Tb f z = -1
  · exact q
  · have h1 := lsI_pc Tb h q
    have h2 := pcK_rng (lsI Tb f z)
    omega
/-- the word's number, how large it is -/
theorem wvI_big {Tb : Int → Int} {f z : Int} (h : f ≤ z) (hd : ∀ y : Int, f ≤ y → y < z → 97 ≤ Tb y ∧ Tb y ≤ 122) : 0 ≤ wvI Tb f z ∧ wvI Tb f z < 7625597484987 ∧ (f < z → 1 ≤ wvI Tb f z) ∧ (z - f ≤ 8 → wvI Tb f z < 282429536481) ∧ (z - f ≤ 7 → wvI Tb f z < 10460353203) ∧ (z - f ≤ 6 → wvI Tb f z < 387420489) ∧ (z - f ≤ 5 → wvI Tb f z < 14348907) ∧ (z - f ≤ 4 → wvI Tb f z < 531441) ∧ (z - f ≤ 3 → wvI Tb f z < 19683) ∧ (z - f ≤ 2 → wvI Tb f z < 729) ∧ (z - f ≤ 1 → wvI Tb f z < 27) ∧ (z - f ≤ 0 → wvI Tb f z < 1) := by
  obtain ⟨n, rfl⟩ : ∃ n : Nat, z = f + n := ⟨(z - f).toNat, by omega⟩
  clear h
  induction n with
  | zero => rw [show f + ((0 : Nat) : Int) = f by omega, wvI_0]; omega
  | succ n ih =>
    have h1 := ih (fun y a b => hd y a (by omega))
    have h2 := hd (f + n) (by omega) (by omega)
    rw [show f + ((n + 1 : Nat) : Int) = f + n + 1 by omega, wvI_s (by omega)]
    split <;> omega
theorem pow2_26 {s : Int} (h : 0 ≤ s ∧ s ≤ 26) : 1 ≤ (2 : Int) ^ s.toNat ∧ (2 : Int) ^ s.toNat ≤ 67108864 := by
  have key : ∀ n : Nat, n ≤ 26 → 1 ≤ (2 : Int) ^ n ∧ (2 : Int) ^ n ≤ 67108864 := by decide +kernel
  exact key _ (by omega)
/-! the names of the steps, as numbers -/

def kdR (w z : Int) : Int := if 6 < z then 0 else if w = 8800 then 1 else if w = 2774 then 2 else if w = 90104 then 3 else if w = 70031 then 4 else if w = 113084 then 5 else if w = 409469 then 6 else if w = 124995 then 7 else if w = 126893 then 8 else if w = 92275 then 9 else if w = 257132 then 10 else if w = 40586 then 11 else if w = 453836 then 12 else if w = 12391871 then 13 else if w = 261256151 then 14 else 0
theorem wd_iff {Tb : Int → Int} {L f : Int} (hf : 0 ≤ f ∧ f ≤ L) (h1 : tkK Tb L f = 1) (hz : tkZ Tb L f ≤ 6) {kk : Nat} (hkk : kk < 14) (V : Int) (hV : ∀ x0 x1 x2 x3 x4 x5 : Int, (1 ≤ x0 ∧ x0 ≤ 26) → (1 ≤ x1 ∧ x1 ≤ 26) → (1 ≤ x2 ∧ x2 ≤ 26) → (1 ≤ x3 ∧ x3 ≤ 26) → (1 ≤ x4 ∧ x4 ≤ 26) → (1 ≤ x5 ∧ x5 ≤ 26) →
    (x0 = V ↔ slen kk = 1 ∧ x0 + 96 = sch kk 0) ∧ (27 * x0 + x1 = V ↔ slen kk = 2 ∧ x0 + 96 = sch kk 0 ∧ x1 + 96 = sch kk 1) ∧ (27 * (27 * x0 + x1) + x2 = V ↔ slen kk = 3 ∧ x0 + 96 = sch kk 0 ∧ x1 + 96 = sch kk 1 ∧ x2 + 96 = sch kk 2) ∧ (27 * (27 * (27 * x0 + x1) + x2) + x3 = V ↔ slen kk = 4 ∧ x0 + 96 = sch kk 0 ∧ x1 + 96 = sch kk 1 ∧ x2 + 96 = sch kk 2 ∧ x3 + 96 = sch kk 3) ∧ (27 * (27 * (27 * (27 * x0 + x1) + x2) + x3) + x4 = V ↔ slen kk = 5 ∧ x0 + 96 = sch kk 0 ∧ x1 + 96 = sch kk 1 ∧ x2 + 96 = sch kk 2 ∧ x3 + 96 = sch kk 3 ∧ x4 + 96 = sch kk 4) ∧ (27 * (27 * (27 * (27 * (27 * x0 + x1) + x2) + x3) + x4) + x5 = V ↔ slen kk = 6 ∧ x0 + 96 = sch kk 0 ∧ x1 + 96 = sch kk 1 ∧ x2 + 96 = sch kk 2 ∧ x3 + 96 = sch kk 3 ∧ x4 + 96 = sch kk 4 ∧ x5 + 96 = sch kk 5)) : (wdS Tb (tkK Tb L f) f (tkE Tb L f) kk = true ↔ tkX Tb L f = V) := by
  have ht := @tok_ok Tb L f hf
  have hX : tkX Tb L f = wvI Tb f (tkE Tb L f) := by unfold tkX; rw [if_pos h1]
  have hZ : tkZ Tb L f = tkE Tb L f - f := by unfold tkZ; rw [if_pos (Or.inl h1)]
  have hd := ht.2.2.2.2 h1
  have hlt := ht.2.2.1 (by omega)
  rw [hX]
  have hw : wdS Tb (tkK Tb L f) f (tkE Tb L f) kk = true ↔ tkE Tb L f - f = slen kk ∧ ∀ i : Int, 0 ≤ i → i < slen kk → Tb (f + i) = sch kk i := by
    unfold wdS
    rw [Bool.and_eq_true, decide_eq_true_eq, Bool.not_eq_true']
    constructor
    · rintro ⟨⟨_, a⟩, b⟩
      refine ⟨a, fun i x y => ?_⟩
      by_cases q : Tb (f + i) = sch kk i
      · exact q
      · rw [anI_has (P := wdP Tb f kk) x y (decide_eq_true q)] at b; exact absurd b (by decide)
    · rintro ⟨a, b⟩
      exact ⟨⟨h1, a⟩, anI_none (fun z x y => decide_eq_false (fun q => q (b z x y)))⟩
  rw [hw]
  have u : ∀ n : Int, 0 ≤ n → n < 9 → wvI Tb f (f + n + 1) = 27 * wvI Tb f (f + n) + Tb (f + n) - 96 := fun n a b => by rw [wvI_s (by omega), if_pos (by omega)]
  have u0 := u 0 (by omega) (by omega)
  have u1 := u 1 (by omega) (by omega)
  have u2 := u 2 (by omega) (by omega)
  have u3 := u 3 (by omega) (by omega)
  have u4 := u 4 (by omega) (by omega)
  have u5 := u 5 (by omega) (by omega)
  rw [Int.add_zero, wvI_0] at u0
  simp only [Int.add_assoc, Int.reduceAdd] at u1 u2 u3 u4 u5
  have dg : ∀ i : Int, 0 ≤ i → f + i < tkE Tb L f → 1 ≤ Tb (f + i) - 96 ∧ Tb (f + i) - 96 ≤ 26 := fun i a b => by have := hd (f + i) (by omega) b; omega
  have hz0 : Tb (f + 0) = Tb f := by rw [Int.add_zero]
  generalize hE : tkE Tb L f = e at *
  have key : ∀ (n : Int), e - f = n → ∀ (P : Prop), (slen kk = n → (P ↔ ∀ i : Int, 0 ≤ i → i < n → Tb (f + i) = sch kk i)) → ((e - f = slen kk ∧ ∀ i : Int, 0 ≤ i → i < slen kk → Tb (f + i) = sch kk i) ↔ slen kk = n ∧ P) := by
    intro n hn P hP
    constructor
    · rintro ⟨a, b⟩
      have : slen kk = n := by omega
      exact ⟨this, (hP this).mpr (by rw [this] at b; exact b)⟩
    · rintro ⟨a, b⟩
      exact ⟨by omega, by rw [a]; exact (hP a).mp b⟩
  rcases (show e - f = 1 ∨ e - f = 2 ∨ e - f = 3 ∨ e - f = 4 ∨ e - f = 5 ∨ e - f = 6 by omega) with q | q | q | q | q | q
  · have d := fun i a b => dg i a b
    have d0 := dg 0 (by omega) (by omega)
    have hv := (hV (Tb (f + 0) - 96) 1 1 1 1 1 d0 ⟨by omega, by omega⟩ ⟨by omega, by omega⟩ ⟨by omega, by omega⟩ ⟨by omega, by omega⟩ ⟨by omega, by omega⟩).1
    rw [key 1 q (Tb (f + 0) - 96 + 96 = sch kk 0) (fun _ => ?_)]
    · rw [← hv]
      have he : e = f + 1 := by omega
      rw [he]
      constructor <;> intro z <;> omega
    · constructor
      · intro z i a b
        rcases (show i = 0 by omega) with e9 <;> subst e9 <;> omega
      · intro z
        have z0 := z 0 (by omega) (by omega)
        omega
  · have d := fun i a b => dg i a b
    have d0 := dg 0 (by omega) (by omega)
    have d1 := dg 1 (by omega) (by omega)
    have hv := (hV (Tb (f + 0) - 96) (Tb (f + 1) - 96) 1 1 1 1 d0 d1 ⟨by omega, by omega⟩ ⟨by omega, by omega⟩ ⟨by omega, by omega⟩ ⟨by omega, by omega⟩).2.1
    rw [key 2 q (Tb (f + 0) - 96 + 96 = sch kk 0 ∧ Tb (f + 1) - 96 + 96 = sch kk 1) (fun _ => ?_)]
    · rw [← hv]
      have he : e = f + 2 := by omega
      rw [he]
      constructor <;> intro z <;> omega
    · constructor
      · intro z i a b
        rcases (show i = 0 ∨ i = 1 by omega) with e9 | e9 <;> subst e9 <;> omega
      · intro z
        have z0 := z 0 (by omega) (by omega)
        have z1 := z 1 (by omega) (by omega)
        omega
  · have d := fun i a b => dg i a b
    have d0 := dg 0 (by omega) (by omega)
    have d1 := dg 1 (by omega) (by omega)
    have d2 := dg 2 (by omega) (by omega)
    have hv := (hV (Tb (f + 0) - 96) (Tb (f + 1) - 96) (Tb (f + 2) - 96) 1 1 1 d0 d1 d2 ⟨by omega, by omega⟩ ⟨by omega, by omega⟩ ⟨by omega, by omega⟩).2.2.1
    rw [key 3 q (Tb (f + 0) - 96 + 96 = sch kk 0 ∧ Tb (f + 1) - 96 + 96 = sch kk 1 ∧ Tb (f + 2) - 96 + 96 = sch kk 2) (fun _ => ?_)]
    · rw [← hv]
      have he : e = f + 3 := by omega
      rw [he]
      constructor <;> intro z <;> omega
    · constructor
      · intro z i a b
        rcases (show i = 0 ∨ i = 1 ∨ i = 2 by omega) with e9 | e9 | e9 <;> subst e9 <;> omega
      · intro z
        have z0 := z 0 (by omega) (by omega)
        have z1 := z 1 (by omega) (by omega)
        have z2 := z 2 (by omega) (by omega)
        omega
  · have d := fun i a b => dg i a b
    have d0 := dg 0 (by omega) (by omega)
    have d1 := dg 1 (by omega) (by omega)
    have d2 := dg 2 (by omega) (by omega)
    have d3 := dg 3 (by omega) (by omega)
    have hv := (hV (Tb (f + 0) - 96) (Tb (f + 1) - 96) (Tb (f + 2) - 96) (Tb (f + 3) - 96) 1 1 d0 d1 d2 d3 ⟨by omega, by omega⟩ ⟨by omega, by omega⟩).2.2.2.1
    rw [key 4 q (Tb (f + 0) - 96 + 96 = sch kk 0 ∧ Tb (f + 1) - 96 + 96 = sch kk 1 ∧ Tb (f + 2) - 96 + 96 = sch kk 2 ∧ Tb (f + 3) - 96 + 96 = sch kk 3) (fun _ => ?_)]
    · rw [← hv]
      have he : e = f + 4 := by omega
      rw [he]
      constructor <;> intro z <;> omega
    · constructor
      · intro z i a b
        rcases (show i = 0 ∨ i = 1 ∨ i = 2 ∨ i = 3 by omega) with e9 | e9 | e9 | e9 <;> subst e9 <;> omega
      · intro z
        have z0 := z 0 (by omega) (by omega)
        have z1 := z 1 (by omega) (by omega)
        have z2 := z 2 (by omega) (by omega)
        have z3 := z 3 (by omega) (by omega)
        omega
  · have d := fun i a b => dg i a b
    have d0 := dg 0 (by omega) (by omega)
    have d1 := dg 1 (by omega) (by omega)
    have d2 := dg 2 (by omega) (by omega)
    have d3 := dg 3 (by omega) (by omega)
    have d4 := dg 4 (by omega) (by omega)
    have hv := (hV (Tb (f + 0) - 96) (Tb (f + 1) - 96) (Tb (f + 2) - 96) (Tb (f + 3) - 96) (Tb (f + 4) - 96) 1 d0 d1 d2 d3 d4 ⟨by omega, by omega⟩).2.2.2.2.1
    rw [key 5 q (Tb (f + 0) - 96 + 96 = sch kk 0 ∧ Tb (f + 1) - 96 + 96 = sch kk 1 ∧ Tb (f + 2) - 96 + 96 = sch kk 2 ∧ Tb (f + 3) - 96 + 96 = sch kk 3 ∧ Tb (f + 4) - 96 + 96 = sch kk 4) (fun _ => ?_)]
    · rw [← hv]
      have he : e = f + 5 := by omega
      rw [he]
      constructor <;> intro z <;> omega
    · constructor
      · intro z i a b
        rcases (show i = 0 ∨ i = 1 ∨ i = 2 ∨ i = 3 ∨ i = 4 by omega) with e9 | e9 | e9 | e9 | e9 <;> subst e9 <;> omega
      · intro z
        have z0 := z 0 (by omega) (by omega)
        have z1 := z 1 (by omega) (by omega)
        have z2 := z 2 (by omega) (by omega)
        have z3 := z 3 (by omega) (by omega)
        have z4 := z 4 (by omega) (by omega)
        omega
  · have d := fun i a b => dg i a b
    have d0 := dg 0 (by omega) (by omega)
    have d1 := dg 1 (by omega) (by omega)
    have d2 := dg 2 (by omega) (by omega)
    have d3 := dg 3 (by omega) (by omega)
    have d4 := dg 4 (by omega) (by omega)
    have d5 := dg 5 (by omega) (by omega)
    have hv := (hV (Tb (f + 0) - 96) (Tb (f + 1) - 96) (Tb (f + 2) - 96) (Tb (f + 3) - 96) (Tb (f + 4) - 96) (Tb (f + 5) - 96) d0 d1 d2 d3 d4 d5).2.2.2.2.2
    rw [key 6 q (Tb (f + 0) - 96 + 96 = sch kk 0 ∧ Tb (f + 1) - 96 + 96 = sch kk 1 ∧ Tb (f + 2) - 96 + 96 = sch kk 2 ∧ Tb (f + 3) - 96 + 96 = sch kk 3 ∧ Tb (f + 4) - 96 + 96 = sch kk 4 ∧ Tb (f + 5) - 96 + 96 = sch kk 5) (fun _ => ?_)]
    · rw [← hv]
      have he : e = f + 6 := by omega
      rw [he]
      constructor <;> intro z <;> omega
    · constructor
      · intro z i a b
        rcases (show i = 0 ∨ i = 1 ∨ i = 2 ∨ i = 3 ∨ i = 4 ∨ i = 5 by omega) with e9 | e9 | e9 | e9 | e9 | e9 <;> subst e9 <;> omega
      · intro z
        have z0 := z 0 (by omega) (by omega)
        have z1 := z 1 (by omega) (by omega)
        have z2 := z 2 (by omega) (by omega)
        have z3 := z 3 (by omega) (by omega)
        have z4 := z 4 (by omega) (by omega)
        have z5 := z 5 (by omega) (by omega)
        omega
