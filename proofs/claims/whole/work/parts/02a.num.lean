/-! NUMBERS: an int is iI z, a long lI z, a boolean bI b -/
def iI (z : Int) : Int32 := Int32.ofInt z
def lI (z : Int) : Int64 := Int64.ofInt z
def bI (b : Bool) : Int := if b then 1 else 0
theorem bI_t : bI true = 1 := rfl
theorem bI_f : bI false = 0 := rfl
theorem bI_rng (b : Bool) : 0 ≤ bI b ∧ bI b ≤ 1 := by cases b <;> decide
theorem bI_one {b : Bool} : bI b = 1 ↔ b = true := by cases b <;> decide
theorem bI_zero {b : Bool} : bI b = 0 ↔ b = false := by cases b <;> decide
theorem iI_toInt {z : Int} (h : -2147483648 ≤ z ∧ z ≤ 2147483647) : (iI z).toInt = z := Int32.toInt_ofInt_of_le (by omega) (by omega)
theorem iI_self (x : Int32) : iI x.toInt = x := Int32.ofInt_toInt x
theorem iI_rng (x : Int32) : -2147483648 ≤ x.toInt ∧ x.toInt ≤ 2147483647 := ⟨Int32.le_toInt x, by have := Int32.toInt_lt x; omega⟩
theorem iI_of (x : Int32) : ∃ z : Int, x = iI z ∧ -2147483648 ≤ z ∧ z ≤ 2147483647 := ⟨x.toInt, (iI_self x).symm, iI_rng x⟩
theorem iI_add (a b : Int) : iI a + iI b = iI (a + b) := (Int32.ofInt_add a b).symm
theorem iI_sub (a b : Int) : iI a - iI b = iI (a - b) := (Int32.ofInt_sub a b).symm
theorem iI_mul (a b : Int) : iI a * iI b = iI (a * b) := (Int32.ofInt_mul a b).symm
theorem iI_neg (a : Int) : -iI a = iI (-a) := (Int32.ofInt_neg a).symm
theorem iI_lt {a b : Int} (ha : -2147483648 ≤ a ∧ a ≤ 2147483647) (hb : -2147483648 ≤ b ∧ b ≤ 2147483647) : iI a < iI b ↔ a < b := by rw [Int32.lt_iff_toInt_lt, iI_toInt ha, iI_toInt hb]
theorem iI_le {a b : Int} (ha : -2147483648 ≤ a ∧ a ≤ 2147483647) (hb : -2147483648 ≤ b ∧ b ≤ 2147483647) : iI a ≤ iI b ↔ a ≤ b := by rw [Int32.le_iff_toInt_le, iI_toInt ha, iI_toInt hb]
theorem iI_eq {a b : Int} (ha : -2147483648 ≤ a ∧ a ≤ 2147483647) (hb : -2147483648 ≤ b ∧ b ≤ 2147483647) : iI a = iI b ↔ a = b := by rw [← Int32.toInt_inj, iI_toInt ha, iI_toInt hb]
theorem iI_0 : iI 0 = 0 := rfl
theorem iI_nat {z : Int} (h : 0 ≤ z) : iI z = nI z.toNat := by
  obtain ⟨n, rfl⟩ := Int.eq_ofNat_of_zero_le h
  exact Int32.ofInt_eq_ofNat
theorem iI_clamp {z : Int} (h : 0 ≤ z ∧ z ≤ 2147483647) : (iI z).toNatClampNeg = z.toNat := by rw [iI_nat h.1]; exact nI_clamp (by omega)
theorem iI_in {z : Int} {n : Nat} (h : 0 ≤ z ∧ z < (n : Int)) (hn : n ≤ 2147483647) : vp_in (iI z) n := vp_in_iff.mpr (by rw [iI_toInt (by omega)]; exact h)
theorem iI_wrap {a b : Int} (h : a % 4294967296 = b % 4294967296) : iI a = iI b := by
  unfold iI
  rw [← Int32.toInt_inj, Int32.toInt_ofInt, Int32.toInt_ofInt]
  have e : ∀ x : Int, x.bmod 4294967296 = (x % 4294967296).bmod 4294967296 := fun x => (Int.emod_bmod (x := x) (n := 4294967296)).symm
  show a.bmod 4294967296 = b.bmod 4294967296
  rw [e a, e b, h]
theorem iI_rem {a d : Int} (ha : 0 ≤ a ∧ a ≤ 2147483647) (hd : 0 < d ∧ d ≤ 2147483647) : iI a - iI a / iI d * iI d = iI (a % d) := by
  obtain ⟨n, rfl⟩ := Int.eq_ofNat_of_zero_le ha.1
  obtain ⟨k, rfl⟩ := Int.eq_ofNat_of_zero_le (Int.le_of_lt hd.1)
  rw [iI_nat ha.1, iI_nat (by omega), iI_nat (by omega)]
  have h := @pk_rem n k (by omega) (by omega) (by omega)
  exact h
theorem iI_div {a d : Int} (ha : 0 ≤ a ∧ a ≤ 2147483647) (hd : 0 < d ∧ d ≤ 2147483647) : iI a / iI d = iI (a / d) := by
  obtain ⟨n, rfl⟩ := Int.eq_ofNat_of_zero_le ha.1
  obtain ⟨k, rfl⟩ := Int.eq_ofNat_of_zero_le (Int.le_of_lt hd.1)
  have h2 : (0 : Int) ≤ (n : Int) / (k : Int) := Int.ediv_nonneg (by omega) (by omega)
  rw [iI_nat ha.1, iI_nat (by omega), iI_nat h2]
  have h := @pk_div n k (by omega) (by omega) (by omega)
  exact h
theorem iI_ne0 {d : Int} (hd : 0 < d ∧ d ≤ 2147483647) : ¬ iI d = 0 := by
  rw [← iI_0, iI_eq (by omega) (by omega)]; omega
theorem iI_tb (a : Int) : ((iI a).toBitVec.toNat : Int) = a % 4294967296 := by
  show (((BitVec.ofInt 32 a).toNat : Nat) : Int) = _
  rw [BitVec.toNat_ofInt]
  omega
theorem iI_andm (a : Int) (k : Nat) {m : Int} (hm : m = 2 ^ k - 1) (hk : k ≤ 31) : iI a &&& iI m = iI (a % 2 ^ k) := by
  have hp : (2 : Nat) ^ k ≤ 2 ^ 31 := Nat.pow_le_pow_right (by omega) hk
  have hp0 : 0 < (2 : Nat) ^ k := Nat.pow_pos (by omega)
  have hpc : ((2 : Int) ^ k) = (((2 : Nat) ^ k : Nat) : Int) := by simp
  have h1 : (iI m).toBitVec.toNat = 2 ^ k - 1 := by
    have h := iI_tb m
    rw [hm, hpc] at h
    rw [hm, hpc]
    omega
  rw [pk_and (iI a) k h1]
  have h2 := iI_tb a
  have h3 : (0 : Int) ≤ a % 2 ^ k := Int.emod_nonneg _ (by rw [hpc]; omega)
  rw [iI_nat h3]
  congr 1
  have h4 : (((iI a).toBitVec.toNat % 2 ^ k : Nat) : Int) = a % 2 ^ k := by
    rw [Int.natCast_emod, h2, hpc]
    have hd : ((2 ^ k : Nat) : Int) ∣ 4294967296 := by
      have : (2 : Nat) ^ k ∣ 2 ^ 32 := Nat.pow_dvd_pow 2 (by omega)
      have h5 := Int.natCast_dvd_natCast.mpr this
      exact h5
    exact Int.emod_emod_of_dvd a hd
  omega
theorem iI_shc : ∀ n : Nat, n < 32 → ((nI n &&& 31).toBitVec.smod 32).toNat = n := by decide +kernel
theorem iI_shu : ∀ n : Nat, n < 32 → (((nI n).toUInt32 &&& Int32.toUInt32 31).toBitVec % 32).toNat = n := by decide +kernel
theorem iI_shl (a : Int) {k : Int} (hk : 0 ≤ k ∧ k ≤ 31) : iI a <<< (iI k &&& 31) = iI (a * 2 ^ k.toNat) := by
  obtain ⟨n, rfl⟩ := Int.eq_ofNat_of_zero_le hk.1
  rw [iI_nat hk.1]
  have h := pk_shl (iI a) (nI n &&& 31) n (iI_shc n (by omega))
  have h1 := iI_tb a
  have h2 : ((iI (a * 2 ^ (n : Int).toNat)).toBitVec.toNat : Int) = (a * 2 ^ n) % 4294967296 := iI_tb _
  have h3 : (iI a <<< (nI n &&& 31)).toBitVec.toNat = (iI (a * 2 ^ (n : Int).toNat)).toBitVec.toNat := by
    have h4 : ((((iI a).toBitVec.toNat * 2 ^ n % 2 ^ 32 : Nat)) : Int) = (a * 2 ^ n) % 4294967296 := by
      rw [Int.natCast_emod, Int.natCast_mul, h1]
      simp [Int.mul_emod]
    rw [h]
    omega
  exact Int32.toBitVec_inj.mp (BitVec.eq_of_toNat_eq h3)
theorem iI_shr {a : Int} (ha : -2147483648 ≤ a ∧ a ≤ 2147483647) {k : Int} (hk : 0 ≤ k ∧ k ≤ 31) : iI a >>> (iI k &&& 31) = iI (a / 2 ^ k.toNat) := by
  obtain ⟨n, rfl⟩ := Int.eq_ofNat_of_zero_le hk.1
  rw [iI_nat hk.1]
  have h := pk_shr (iI a) (nI n &&& 31) n (iI_shc n (by omega))
  rw [iI_toInt ha, Int.shiftRight_eq_div_pow] at h
  have hp0 : (0 : Int) < ((2 ^ n : Nat) : Int) := by have := Nat.pow_pos (n := n) (show 0 < 2 by omega); omega
  have h5 : ((2 ^ n : Nat) : Int) = (2 : Int) ^ n := by simp
  have h6 : -2147483648 ≤ a / ((2 ^ n : Nat) : Int) ∧ a / ((2 ^ n : Nat) : Int) ≤ 2147483647 := by
    constructor
    · apply Int.le_ediv_of_mul_le hp0
      have : (-2147483648 : Int) * ((2 ^ n : Nat) : Int) ≤ -2147483648 * 1 := Int.mul_le_mul_of_nonpos_left (by omega) (by omega)
      omega
    · by_cases h0 : 0 ≤ a
      · exact Int.le_trans (Int.ediv_le_self _ h0) ha.2
      · have := Int.ediv_neg_of_neg_of_pos (by omega : a < 0) hp0; omega
  apply Int32.toInt_inj.mp
  show _ = (iI (a / 2 ^ (n : Int).toNat)).toInt
  have h7 : (n : Int).toNat = n := rfl
  rw [h7, ← h5, iI_toInt h6]
  exact h
theorem iI_ushr (a : Int) {k : Int} (hk : 0 ≤ k ∧ k ≤ 31) : ((iI a).toUInt32 >>> ((iI k).toUInt32 &&& Int32.toUInt32 31)).toInt32 = iI (a % 4294967296 / 2 ^ k.toNat) := by
  obtain ⟨n, rfl⟩ := Int.eq_ofNat_of_zero_le hk.1
  rw [iI_nat hk.1]
  have h := pk_ushr (iI a) (nI n) n (iI_shu n (by omega))
  have h1 := iI_tb a
  have h2 := iI_tb (a % 4294967296 / 2 ^ (n : Int).toNat)
  have h5 : ((2 ^ n : Nat) : Int) = (2 : Int) ^ n := by simp
  have h3 : (((iI a).toBitVec.toNat / 2 ^ n : Nat) : Int) = a % 4294967296 / 2 ^ n := by rw [Int.natCast_ediv, h1, h5]
  have h6 : (iI a).toBitVec.toNat / 2 ^ n < 4294967296 := Nat.lt_of_le_of_lt (Nat.div_le_self _ _) (iI a).toBitVec.isLt
  apply Int32.toBitVec_inj.mp
  apply BitVec.eq_of_toNat_eq
  show ((nI n).toUInt32 |> fun s => ((iI a).toUInt32 >>> (s &&& Int32.toUInt32 31)).toInt32.toBitVec.toNat) = _
  show ((iI a).toUInt32 >>> ((nI n).toUInt32 &&& Int32.toUInt32 31)).toInt32.toBitVec.toNat = _
  rw [h]
  have h7 : (n : Int).toNat = n := rfl
  rw [h7] at h2 ⊢
  rw [← h3] at h2 ⊢
  omega
theorem iI_or {a b : Nat} : iI (a : Int) ||| iI (b : Int) = iI ((a ||| b : Nat) : Int) := by
  apply Int32.toBitVec_inj.mp
  show (BitVec.ofInt 32 a) ||| (BitVec.ofInt 32 b) = BitVec.ofInt 32 ((a ||| b : Nat) : Int)
  rw [BitVec.ofInt_natCast, BitVec.ofInt_natCast, BitVec.ofInt_natCast, BitVec.ofNat_or]
theorem iI_i2b (a : Int) : (iI a).toInt8.toInt32 = iI ((a + 128) % 256 - 128) := by
  apply Int32.toInt_inj.mp
  rw [Int8.toInt_toInt32, Int32.toInt_toInt8, iI_toInt (z := (a + 128) % 256 - 128) (by omega)]
  unfold iI
  rw [Int32.toInt_ofInt, Int.bmod_bmod_of_dvd (by decide), Int.bmod_def]
  split <;> omega
theorem iI_l {a : Int} (ha : -2147483648 ≤ a ∧ a ≤ 2147483647) : (iI a).toInt64 = lI a := by
  rw [← iI_toInt ha, iI_self]
  unfold lI
  apply Int64.toInt_inj.mp
  rw [Int32.toInt_toInt64, Int64.toInt_ofInt_of_le]
  · have := iI_rng (iI a); omega
  · have := iI_rng (iI a); omega
theorem lI_i (a : Int) : (lI a).toInt32 = iI a := by unfold lI iI; exact Int64.toInt32_ofInt
theorem lI_toInt {z : Int} (h : -9223372036854775808 ≤ z ∧ z ≤ 9223372036854775807) : (lI z).toInt = z := Int64.toInt_ofInt_of_le (by omega) (by omega)
theorem lI_add (a b : Int) : lI a + lI b = lI (a + b) := (Int64.ofInt_add a b).symm
theorem lI_sub (a b : Int) : lI a - lI b = lI (a - b) := (Int64.ofInt_sub a b).symm
theorem lI_mul (a b : Int) : lI a * lI b = lI (a * b) := (Int64.ofInt_mul a b).symm
theorem lI_nat {z : Int} (h : 0 ≤ z) : lI z = lN z.toNat := by
  obtain ⟨n, rfl⟩ := Int.eq_ofNat_of_zero_le h
  exact Int64.ofInt_eq_ofNat
theorem lI_div {a d : Int} (ha : 0 ≤ a ∧ a ≤ 9223372036854775807) (hd : 0 < d ∧ d ≤ 9223372036854775807) : lI a / lI d = lI (a / d) := by
  obtain ⟨n, rfl⟩ := Int.eq_ofNat_of_zero_le ha.1
  obtain ⟨k, rfl⟩ := Int.eq_ofNat_of_zero_le (Int.le_of_lt hd.1)
  have h2 : (0 : Int) ≤ (n : Int) / (k : Int) := Int.ediv_nonneg (by omega) (by omega)
  rw [lI_nat ha.1, lI_nat (by omega), lI_nat h2]
  have h := @pk_lDiv n k (by omega) (by omega) (by omega)
  exact h
theorem lI_rem {a d : Int} (ha : 0 ≤ a ∧ a ≤ 9223372036854775807) (hd : 0 < d ∧ d ≤ 9223372036854775807) : lI a - lI a / lI d * lI d = lI (a % d) := by
  obtain ⟨n, rfl⟩ := Int.eq_ofNat_of_zero_le ha.1
  obtain ⟨k, rfl⟩ := Int.eq_ofNat_of_zero_le (Int.le_of_lt hd.1)
  rw [lI_nat ha.1, lI_nat (by omega), lI_nat (by omega)]
  have h := @pk_lRem n k (by omega) (by omega) (by omega)
  exact h
theorem lI_ne0 {d : Int} (hd : 0 < d ∧ d ≤ 9223372036854775807) : ¬ lI d = 0 := fun h => by
  have h2 := congrArg Int64.toInt h
  rw [lI_toInt (by omega)] at h2
  have h3 : (0 : Int64).toInt = 0 := rfl
  omega
def cmpI (a b : Int) : Int := if b < a then 1 else if a = b then 0 else -1
theorem lI_cmp {a b : Int} (ha : -9223372036854775808 ≤ a ∧ a ≤ 9223372036854775807) (hb : -9223372036854775808 ≤ b ∧ b ≤ 9223372036854775807) : lg_cmp (lI a) (lI b) = iI (cmpI a b) := by
  unfold lg_cmp cmpI
  have h1 : lI a > lI b ↔ b < a := by rw [gt_iff_lt, Int64.lt_iff_toInt_lt, lI_toInt ha, lI_toInt hb]
  have h2 : lI a = lI b ↔ a = b := by rw [← Int64.toInt_inj, lI_toInt ha, lI_toInt hb]
  by_cases q1 : b < a
  · rw [if_pos (h1.mpr q1), if_pos q1]; rfl
  · rw [if_neg (fun h => q1 (h1.mp h)), if_neg q1]
    by_cases q2 : a = b
    · rw [if_pos (h2.mpr q2), if_pos q2]; rfl
    · rw [if_neg (fun h => q2 (h2.mp h)), if_neg q2]; rfl
theorem cmpI_rng (a b : Int) : -1 ≤ cmpI a b ∧ cmpI a b ≤ 1 := by unfold cmpI; split <;> (try split) <;> omega
theorem cmpI_lt {a b : Int} : cmpI a b < 0 ↔ a < b := by unfold cmpI; split <;> (try split) <;> omega
theorem cmpI_le {a b : Int} : cmpI a b ≤ 0 ↔ a ≤ b := by unfold cmpI; split <;> (try split) <;> omega
theorem cmpI_eq {a b : Int} : cmpI a b = 0 ↔ a = b := by unfold cmpI; split <;> (try split) <;> omega
theorem iI_zst (b : Bool) : vp_nar .boolean (iI (bI b)) = iI (bI b) := by cases b <;> rfl
theorem iI_bst {a : Int} (h : -128 ≤ a ∧ a ≤ 127) : vp_nar .byte (iI a) = iI a := by
  rw [vp_nar_byte, iI_i2b]
  congr 1
  omega
/-- contents of an array as a function on Int -/
def upI {α : Type} (f : Int → α) (e : Int) (v : α) : Int → α := fun j => if j = e then v else f j
theorem upI_s {α : Type} {f : Int → α} {e : Int} {v : α} : upI f e v e = v := if_pos rfl
theorem upI_n {α : Type} {f : Int → α} {e j : Int} {v : α} (h : j ≠ e) : upI f e v j = f j := if_neg h
theorem upI_iI (f : Int → Int) {e v : Int} (he : 0 ≤ e) : upd (fun j : Nat => iI (f j)) e.toNat (iI v) = fun j : Nat => iI (upI f e v j) := by
  funext j
  unfold upd upI
  by_cases h : j = e.toNat
  · rw [if_pos h, if_pos (by omega)]
  · rw [if_neg h, if_neg (by omega)]
theorem upI_bI (f : Int → Bool) {e : Int} {v : Bool} (he : 0 ≤ e) : upd (fun j : Nat => iI (bI (f j))) e.toNat (iI (bI v)) = fun j : Nat => iI (bI (upI f e v j)) := by
  funext j
  unfold upd upI
  by_cases h : j = e.toNat
  · rw [if_pos h, if_pos (by omega)]
  · rw [if_neg h, if_neg (by omega)]
/-- a block copied -/
def cpI {α : Type} (f g : Int → α) (sp dp n : Int) : Int → α := fun k => if dp ≤ k ∧ k < dp + n then f (sp + (k - dp)) else g k
theorem cpI_iI (f g : Int → Int) {sp dp n : Int} (h1 : 0 ≤ sp) (h2 : 0 ≤ dp) (h3 : 0 ≤ n) : va_cpy (fun j : Nat => iI (f j)) (fun j : Nat => iI (g j)) sp.toNat dp.toNat n.toNat = fun j : Nat => iI (cpI f g sp dp n j) := by
  funext j
  unfold va_cpy cpI
  by_cases h : dp ≤ (j : Int) ∧ (j : Int) < dp + n
  · have h2 : dp.toNat ≤ j ∧ j < dp.toNat + n.toNat := by omega
    have h3 : ((sp.toNat + (j - dp.toNat) : Nat) : Int) = sp + ((j : Int) - dp) := by omega
    rw [if_pos h, if_pos h2]
    show iI (f ((sp.toNat + (j - dp.toNat) : Nat) : Int)) = _
    rw [h3]
  · have h2 : ¬ (dp.toNat ≤ j ∧ j < dp.toNat + n.toNat) := by omega
    rw [if_neg h, if_neg h2]
