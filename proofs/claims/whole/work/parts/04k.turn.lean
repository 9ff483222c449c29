/-! TURNING and HISTORY, as the reference has them -/
noncomputable def tuP (s : Int) (B : Int → Int) (i : Nat) (y : (Int → Int) × (Int → Bool)) : Int → Bool := if i = 0 then bareP B (1 * 2 ^ s.toNat) else fun c => decide (y.1 c = s) && nearP y.2 c
noncomputable def turnSt (B : Int → Int) (s t : Int) : Nat → (Int → Int) × (Int → Bool)
  | 0 => (B, fun _ => false)
  | i + 1 => (putP (tuP s B i (turnSt B s t i)) (turnSt B s t i).1 t, fun c => (turnSt B s t i).2 c || tuP s B i (turnSt B s t i) c)
noncomputable def turnI (B : Int → Int) (s t i : Int) : (Int → Int) × (Int → Bool) := turnSt B s t i.toNat
/-- what is chosen in round i -/
noncomputable def turnP (B : Int → Int) (s t i : Int) : Int → Bool := tuP s B i.toNat (turnI B s t i)
theorem turnI_0 (B : Int → Int) (s t : Int) : turnI B s t 0 = (B, fun _ => false) := rfl
theorem turnI_s {B : Int → Int} {s t i : Int} (h : 0 ≤ i) : turnI B s t (i + 1) = (putP (turnP B s t i) (turnI B s t i).1 t, fun c => (turnI B s t i).2 c || turnP B s t i c) := by
  unfold turnP turnI
  obtain ⟨n, rfl⟩ := Int.eq_ofNat_of_zero_le h
  rfl
theorem turnP_0 {B : Int → Int} {s t i c : Int} (h : i = 0) : turnP B s t i c = bareP B (1 * 2 ^ s.toNat) c := by subst h; rfl
theorem turnP_n {B : Int → Int} {s t i c : Int} {f : Int → Int} {g : Int → Bool} (hi : 0 ≤ i) (h : ¬ i = 0) (hf : f = (turnI B s t i).1) (hg : g = (turnI B s t i).2) : turnP B s t i c = (decide (f c = s) && nearP g c) := by
  subst hf hg
  unfold turnP tuP
  rw [if_neg (by omega)]
noncomputable def turnR (B : Int → Int) (s t n : Int) : Int → Int := if s = t then B else (turnI B s t n).1
theorem prB_at {P V : Int → Bool} {k : Int} : prB P V k k = V k := by unfold prB; rw [if_neg (by omega)]
theorem hk_bit0 {s : Int} (h : 1 ≤ s ∧ s ≤ 7) : hk (1 * 2 ^ s.toNat) 0 = false := by rw [hk_one (by omega) (by omega)]; exact decide_eq_false (by omega)
/-- the first k of F come to H from e on -/
def cpF (H F : Int → Int) (e k : Int) : Int → Int := fun j => if e ≤ j ∧ j < e + k then F (j - e) else H j
theorem cpF_0 {H F : Int → Int} {e : Int} : cpF H F e 0 = H := by funext j; unfold cpF; rw [if_neg (by omega)]
theorem cpF_s {H F : Int → Int} {e k : Int} (h : 0 ≤ k) : upI (cpF H F e k) (e + k) (F k) = cpF H F e (k + 1) := by
  funext j
  unfold upI cpF
  by_cases q : j = e + k
  · rw [if_pos q, if_pos (by omega), q, show e + k - e = k by omega]
  · rw [if_neg q]
    by_cases q2 : e ≤ j ∧ j < e + k
    · rw [if_pos q2, if_pos (by omega)]
    · rw [if_neg q2, if_neg (by omega)]
/-- the first k of H from e on come to B -/
def bdF (B H : Int → Int) (e k : Int) : Int → Int := fun c => if 0 ≤ c ∧ c < k then H (e + c) else B c
theorem bdF_0 {B H : Int → Int} {e : Int} : bdF B H e 0 = B := by funext j; unfold bdF; rw [if_neg (by omega)]
theorem bdF_s {B H : Int → Int} {e k : Int} (h : 0 ≤ k) : upI (bdF B H e k) k (H (e + k)) = bdF B H e (k + 1) := by
  funext j
  unfold upI bdF
  by_cases q : j = k
  · rw [if_pos q, if_pos (by omega), q]
  · rw [if_neg q]
    by_cases q2 : 0 ≤ j ∧ j < k
    · rw [if_pos q2, if_pos (by omega)]
    · rw [if_neg q2, if_neg (by omega)]
/-- the first k of H from 2880 on come to the front -/
def shF (H : Int → Int) (k : Int) : Int → Int := fun j => if 0 ≤ j ∧ j < k then H (j + 2880) else H j
theorem shF_0 {H : Int → Int} : shF H 0 = H := by funext j; unfold shF; rw [if_neg (by omega)]
theorem shF_at {H : Int → Int} {k : Int} (h : 0 ≤ k) : shF H k (k + 2880) = H (k + 2880) := by unfold shF; rw [if_neg (by omega)]
theorem shF_s {H : Int → Int} {k : Int} (h : 0 ≤ k) : upI (shF H k) k (H (k + 2880)) = shF H (k + 1) := by
  funext j
  unfold upI shF
  by_cases q : j = k
  · rw [if_pos q, if_pos (by omega), q]
  · rw [if_neg q]
    by_cases q2 : 0 ≤ j ∧ j < k
    · rw [if_pos q2, if_pos (by omega)]
    · rw [if_neg q2, if_neg (by omega)]
def undoB (B H : Int → Int) (n : Int) : Int → Int := if n = 0 then B else bdF B H (2880 * (n - 1)) 2880
def keepH (H F : Int → Int) (n : Int) : Int → Int := if n = 6 then cpF (shF H 14400) F 14400 2880 else cpF H F (2880 * n) 2880
