/-! one part, on the reference's side -/
theorem op_n {Tb : Int → Int} {L c ft fa f v : Int} (h : ¬ ft = 0) : op1 Tb L c ft fa f v ft fa f := Or.inl ⟨h, rfl, rfl, rfl⟩
theorem op_t {Tb : Int → Int} {L c ft fa f v : Int} (h : ft = 0) (hp : rpF Tb (tkK Tb L f) f (tkE Tb L f) c = 0) (hv : v = opV Tb L c f) : op1 Tb L c ft fa f v ft fa (tkF Tb L (tkE Tb L f)) := Or.inr (Or.inl ⟨h, hp, hv, h, rfl, rfl⟩)
theorem op_b1 {Tb : Int → Int} {L c ft fa f v : Int} (h : ft = 0) (hp : rpF Tb (tkK Tb L f) f (tkE Tb L f) c = 1) : op1 Tb L c ft fa f v (if ft = 0 then 1 else ft) (if ft = 0 then f else fa) f := by
  rw [if_pos h, if_pos h]; exact Or.inr (Or.inr ⟨h, by rw [hp]; decide, hp.symm, rfl, rfl⟩)
theorem op_b2 {Tb : Int → Int} {L c ft fa f v : Int} (h : ft = 0) (hp : rpF Tb (tkK Tb L f) f (tkE Tb L f) c = 2) : op1 Tb L c ft fa f v (if ft = 0 then 2 else ft) (if ft = 0 then f else fa) f := by
  rw [if_pos h, if_pos h]; exact Or.inr (Or.inr ⟨h, by rw [hp]; decide, hp.symm, rfl, rfl⟩)
theorem tkT_k {Tb : Int → Int} {L f : Int} (hT : TOK Tb) : (tkK Tb L f = 0 ∧ tkT Tb L f = -1) ∨ (tkK Tb L f = 1 ∧ tkT Tb L f = 300) ∨ (tkK Tb L f = 2 ∧ tkT Tb L f = 301) ∨ (tkK Tb L f = 3 ∧ tkT Tb L f = Tb f ∧ 0 ≤ Tb f ∧ Tb f ≤ 255) := by
  have h := tkK_rng Tb L f
  have h2 := hT f
  unfold tkT
  rcases (show tkK Tb L f = 0 ∨ tkK Tb L f = 1 ∨ tkK Tb L f = 2 ∨ tkK Tb L f = 3 by omega) with q | q | q | q <;> rw [q]
  · exact Or.inl ⟨rfl, rfl⟩
  · exact Or.inr (Or.inl ⟨rfl, rfl⟩)
  · exact Or.inr (Or.inr (Or.inl ⟨rfl, rfl⟩))
  · exact Or.inr (Or.inr (Or.inr ⟨rfl, rfl, h2⟩))
theorem tkT_rng {Tb : Int → Int} (hT : TOK Tb) (L f : Int) : -1 ≤ tkT Tb L f ∧ tkT Tb L f ≤ 301 := by have := @tkT_k Tb L f hT; omega
theorem rpF_s {Tb : Int → Int} {k f e c : Int} (h : c = 59 ∨ c = 123) : rpF Tb k f e c = if k = 3 ∧ Tb f = c then 0 else 1 := by rcases h with h | h <;> subst h <;> rfl
theorem want_b {Tb : Int → Int} {L f c : Int} (hT : TOK Tb) (hc : c = 59 ∨ c = 123) (h : ¬ tkT Tb L f = c) : rpF Tb (tkK Tb L f) f (tkE Tb L f) c = 1 := by
  rw [rpF_s hc, if_neg (fun z => h (by have := @tkT_k Tb L f hT; omega))]
theorem want_t {Tb : Int → Int} {L f c : Int} (hT : TOK Tb) (hc : c = 59 ∨ c = 123) (h : tkT Tb L f = c) : rpF Tb (tkK Tb L f) f (tkE Tb L f) c = 0 := by
  rw [rpF_s hc, if_pos (by have := @tkT_k Tb L f hT; omega)]
theorem opV_w {Tb : Int → Int} {L f c : Int} (hc : c = 59 ∨ c = 123) : 0 = opV Tb L c f := by rcases hc with h | h <;> subst h <;> rfl
theorem tkX_rng {Tb : Int → Int} {L f : Int} (hf : 0 ≤ f ∧ f ≤ L) : 0 ≤ tkX Tb L f ∧ tkX Tb L f < 7625597484987 := by
  have ht := @tok_ok Tb L f hf
  unfold tkX
  split
  · rename_i q
    have := wvI_big (Tb := Tb) (f := f) (z := tkE Tb L f) (by omega) (ht.2.2.2.2 q)
    omega
  · omega
theorem tkZ_rng {Tb : Int → Int} {L f : Int} (hf : 0 ≤ f ∧ f ≤ L) : 0 ≤ tkZ Tb L f ∧ tkZ Tb L f ≤ L := by
  have ht := @tok_ok Tb L f hf
  unfold tkZ
  split <;> omega
theorem tkV_rng {Tb : Int → Int} {L f : Int} (hf : 0 ≤ f ∧ f ≤ L) : 0 ≤ tkV Tb L f ∧ tkV Tb L f ≤ 99 := by
  have ht := @tok_ok Tb L f hf
  unfold tkV
  split
  · rename_i q
    have := nvI_rng (Tb := Tb) (f := f) (z := tkE Tb L f) (by omega) (ht.2.2.2.1 q)
    omega
  · omega
theorem rpF_l {Tb : Int → Int} {k f e c : Int} (h : c = 115 ∨ c = 116) : rpF Tb k f e c = fuS (stfS Tb k f e) := by rcases h with h | h <;> subst h <;> rfl
theorem one_x {Tb : Int → Int} {L f : Int} (h1 : tkK Tb L f = 1) (hz : tkE Tb L f - f = 1) : tkX Tb L f = Tb f - 96 := by
  unfold tkX
  rw [if_pos h1, show tkE Tb L f = f + 1 by omega, wvI_s (by omega), if_pos (by omega), wvI_0]; omega
theorem let_b {Tb : Int → Int} {L f c : Int} (hT : TOK Tb) (hf : 0 ≤ f ∧ f ≤ L) (hc : c = 115 ∨ c = 116) (h : ¬ tkT Tb L f = 300 ∨ ¬ tkZ Tb L f = 1 ∨ 7 < tkX Tb L f) : rpF Tb (tkK Tb L f) f (tkE Tb L f) c = 1 := by
  have ht := @tok_ok Tb L f hf
  have hk := @tkT_k Tb L f hT
  rw [rpF_l hc]
  have : stfS Tb (tkK Tb L f) f (tkE Tb L f) = -1 := by
    unfold stfS
    by_cases q : tkK Tb L f = 1 ∧ tkE Tb L f - f = 1
    · rw [if_pos q]
      have hx := one_x q.1 q.2
      have hZ : tkZ Tb L f = tkE Tb L f - f := by unfold tkZ; rw [if_pos (Or.inl q.1)]
      unfold sfT; rw [if_neg (by omega)]
    · rw [if_neg q]
  unfold fuS; rw [if_pos this]
theorem let_t {Tb : Int → Int} {L f c : Int} (hT : TOK Tb) (hf : 0 ≤ f ∧ f ≤ L) (hc : c = 115 ∨ c = 116) (h1 : tkT Tb L f = 300) (h2 : tkZ Tb L f = 1) (h3 : tkX Tb L f ≤ 7) : rpF Tb (tkK Tb L f) f (tkE Tb L f) c = 0 ∧ tkX Tb L f = opV Tb L c f := by
  have ht := @tok_ok Tb L f hf
  have hk := @tkT_k Tb L f hT
  have hk1 : tkK Tb L f = 1 := by omega
  have hZ : tkZ Tb L f = tkE Tb L f - f := by unfold tkZ; rw [if_pos (Or.inl hk1)]
  have hx := one_x hk1 (by omega)
  have hd := ht.2.2.2.2 hk1 f (by omega) (by omega)
  have hs : stfS Tb (tkK Tb L f) f (tkE Tb L f) = Tb f - 96 := by
    unfold stfS; rw [if_pos (by omega)]; unfold sfT; rw [if_pos (by omega)]
  refine ⟨?_, ?_⟩
  · rw [rpF_l hc, hs]; unfold fuS; rw [if_neg (by omega)]
  · unfold opV
    rw [if_neg (by omega), if_neg (by omega), if_pos hc, hs, hx]
theorem num_k {Tb : Int → Int} {L f : Int} (h1 : tkK Tb L f = 2) : tkZ Tb L f = tkE Tb L f - f ∧ (tkE Tb L f - f ≤ 2 → vluS Tb (tkK Tb L f) f (tkE Tb L f) = tkV Tb L f) ∧ (¬ tkE Tb L f - f ≤ 2 → vluS Tb (tkK Tb L f) f (tkE Tb L f) = -1) := by
  refine ⟨by unfold tkZ; rw [if_pos (Or.inr h1)], fun q => ?_, fun q => ?_⟩
  · unfold vluS tkV; rw [if_pos ⟨h1, q⟩, if_pos h1]
  · unfold vluS; rw [if_neg (fun z => q z.2)]
theorem num_b2 {Tb : Int → Int} {L f c lo hi : Int} (hT : TOK Tb) (hc : numC c ∧ lo = loC c ∧ hi = hiC c) (hlo : 0 ≤ lo) (h1 : tkT Tb L f = 301) (h : 2 < tkZ Tb L f ∨ ¬ (lo ≤ tkV Tb L f ∧ tkV Tb L f ≤ hi)) : rpF Tb (tkK Tb L f) f (tkE Tb L f) c = 2 := by
  have hk := @tkT_k Tb L f hT
  have hk2 : tkK Tb L f = 2 := by omega
  have hn := @num_k Tb L f hk2
  rw [rp_num hc.1, ← hc.2.1, ← hc.2.2]
  unfold nmS
  rw [if_pos hk2, if_neg (by
    by_cases q : tkE Tb L f - f ≤ 2
    · rw [hn.2.1 q]; omega
    · rw [hn.2.2 q]; omega)]
theorem num_b1 {Tb : Int → Int} {L f c : Int} (hT : TOK Tb) (hc : numC c) (h1 : ¬ tkT Tb L f = 301) : rpF Tb (tkK Tb L f) f (tkE Tb L f) c = 1 := by
  have hk := @tkT_k Tb L f hT
  rw [rp_num hc]
  unfold nmS; rw [if_neg (by omega)]
theorem num_t {Tb : Int → Int} {L f c lo hi : Int} (hT : TOK Tb) (hc : numC c ∧ lo = loC c ∧ hi = hiC c) (h1 : tkT Tb L f = 301) (h2 : tkZ Tb L f ≤ 2) (h3 : lo ≤ tkV Tb L f ∧ tkV Tb L f ≤ hi) : rpF Tb (tkK Tb L f) f (tkE Tb L f) c = 0 ∧ tkV Tb L f = opV Tb L c f := by
  have hk := @tkT_k Tb L f hT
  have hk2 : tkK Tb L f = 2 := by omega
  have hn := @num_k Tb L f hk2
  have hv := hn.2.1 (by omega)
  refine ⟨?_, ?_⟩
  · rw [rp_num hc.1, ← hc.2.1, ← hc.2.2]
    unfold nmS; rw [if_pos hk2, hv, if_pos h3]
  · have hc1 := hc.1
    unfold opV
    rw [if_neg (by omega), if_neg (by omega), if_neg (by omega), if_pos hc.1, hv]
theorem rel_t {Tb : Int → Int} {L f : Int} (hT : TOK Tb) (h : tkT Tb L f = 61 ∨ tkT Tb L f = 60 ∨ tkT Tb L f = 62) : rpF Tb (tkK Tb L f) f (tkE Tb L f) 114 = 0 ∧ tkT Tb L f = opV Tb L 114 f := by
  have hk := @tkT_k Tb L f hT
  have hr : relS Tb (tkK Tb L f) f = tkT Tb L f := by
    unfold relS
    repeat' split
    all_goals omega
  refine ⟨?_, ?_⟩
  · show fuS (relS Tb (tkK Tb L f) f) = 0
    rw [hr]; unfold fuS; rw [if_neg (by omega)]
  · show _ = relS Tb (tkK Tb L f) f
    rw [hr]
theorem rel_b {Tb : Int → Int} {L f : Int} (hT : TOK Tb) (h : ¬ (tkT Tb L f = 61 ∨ tkT Tb L f = 60 ∨ tkT Tb L f = 62)) : rpF Tb (tkK Tb L f) f (tkE Tb L f) 114 = 1 := by
  have hk := @tkT_k Tb L f hT
  show fuS (relS Tb (tkK Tb L f) f) = 1
  have hr : relS Tb (tkK Tb L f) f = -1 := by
    unfold relS
    repeat' split
    all_goals omega
  rw [hr]; rfl
/-! the letters of a set, from the last to the first -/
def ltG (Tb : Int → Int) (f n r : Int) (g : Bool) (K : Int) : Prop := (g = true → gdL Tb (f + r) (f + n) ∧ stL2 Tb K (f + r) (f + n)) ∧ (g = false → ¬ gdL Tb f (f + n))
theorem lt_step {Tb : Int → Int} {f n r K : Int} (hr : 0 < r ∧ r ≤ n) (hd : ∀ y : Int, f ≤ y → y < f + n → 97 ≤ Tb y ∧ Tb y ≤ 122) (h : ltG Tb f n r true K) {b : Bool} {s : Int} (hs : s = Tb (f + r - 1) - 96) (hb : b = true ↔ s < 8 ∧ hk K s = false) : ltG Tb f n (r - 1) b (orK K s) := by
  obtain ⟨h1, _⟩ := h
  obtain ⟨hg, hK⟩ := h1 rfl
  have hx := hd (f + r - 1) (by omega) (by omega)
  have hsf : sfT (Tb (f + r - 1)) = if s < 8 then s else -1 := by
    unfold sfT
    by_cases q : s < 8
    · rw [if_pos q, if_pos (by omega)]; omega
    · rw [if_neg q, if_neg (by omega)]
  have hin : s < 8 → (hk K s = true ↔ ∃ j : Int, f + r ≤ j ∧ j < f + n ∧ Tb j = Tb (f + r - 1)) := by
    intro q
    rw [hK.2 s (by omega) (by omega)]
    rw [if_pos q] at hsf
    constructor
    · rintro ⟨j, x, y, e⟩
      exact ⟨j, x, y, sfT_inj (e.trans hsf.symm) (by omega)⟩
    · rintro ⟨j, x, y, e⟩
      exact ⟨j, x, y, by rw [e, hsf]⟩
  refine ⟨fun q => ?_, fun q => ?_⟩
  · have q2 := hb.mp q
    rw [if_pos q2.1] at hsf
    have hno : ¬ ∃ j : Int, f + r ≤ j ∧ j < f + n ∧ Tb j = Tb (f + r - 1) := fun z => by
      have := (hin q2.1).mpr z
      rw [q2.2] at this; exact absurd this (by decide)
    refine ⟨fun j x y => ?_, hk_or_rng hK.1 (by omega), fun v x y => ?_⟩
    · by_cases w : j = f + r - 1
      · rw [w]; exact ⟨by omega, fun i u t => by omega⟩
      · have := hg j (by omega) y
        refine ⟨this.1, fun i u t e => ?_⟩
        by_cases z : i = f + r - 1
        · exact hno ⟨j, by omega, y, by rw [← e, z]⟩
        · exact this.2 i (by omega) t e
    · rw [hk_orK hK.1.1 (by omega) (by omega), Bool.or_eq_true, decide_eq_true_eq, hK.2 v x y]
      constructor
      · rintro (⟨j, u, t, e⟩ | e)
        · exact ⟨j, by omega, t, e⟩
        · exact ⟨f + r - 1, by omega, by omega, by rw [hsf, e]⟩
      · rintro ⟨j, u, t, e⟩
        by_cases w : j = f + r - 1
        · rw [w, hsf] at e; exact Or.inr e.symm
        · exact Or.inl ⟨j, by omega, t, e⟩
  · intro hg2
    have q2 : ¬ (s < 8 ∧ hk K s = false) := fun z => by rw [hb.mpr z] at q; exact absurd q (by decide)
    by_cases w : s < 8
    · have hkt : hk K s = true := by
        cases e : hk K s with
        | true => rfl
        | false => exact absurd ⟨w, e⟩ q2
      obtain ⟨j, x, y, e⟩ := (hin w).mp hkt
      exact (hg2 j (by omega) y).2 (f + r - 1) (by omega) (by omega) e.symm
    · rw [if_neg w] at hsf
      exact (hg2 (f + r - 1) (by omega) (by omega)).1 hsf
theorem lt_b {Tb : Int → Int} {L f : Int} (hT : TOK Tb) (hf : 0 ≤ f ∧ f ≤ L) (h : ¬ tkT Tb L f = 300 ∨ 7 < tkZ Tb L f ∨ ¬ gdL Tb f (tkE Tb L f)) : rpF Tb (tkK Tb L f) f (tkE Tb L f) 84 = 1 := by
  have ht := @tok_ok Tb L f hf
  have hk := @tkT_k Tb L f hT
  show fuS (stsS Tb (tkK Tb L f) f (tkE Tb L f)) = 1
  have : stsS Tb (tkK Tb L f) f (tkE Tb L f) = -1 := by
    unfold stsS
    by_cases q : tkK Tb L f = 1
    · rw [if_pos q]
      have hZ : tkZ Tb L f = tkE Tb L f - f := by unfold tkZ; rw [if_pos (Or.inl q)]
      rcases h with h | h | h
      · omega
      · exact lsI_7 Tb (by omega) (by omega)
      · rcases lsI_ch Tb (f := f) (z := tkE Tb L f) (by omega) with w | w
        · exact w.1
        · exact absurd w.2.1 h
    · rw [if_neg q]
  rw [this]; rfl
theorem lt_t {Tb : Int → Int} {L f K : Int} (hT : TOK Tb) (hf : 0 ≤ f ∧ f ≤ L) (h : tkT Tb L f = 300) (hg : gdL Tb f (tkE Tb L f)) (hK : stL2 Tb K f (tkE Tb L f)) : rpF Tb (tkK Tb L f) f (tkE Tb L f) 84 = 0 ∧ K = opV Tb L 84 f := by
  have ht := @tok_ok Tb L f hf
  have hk := @tkT_k Tb L f hT
  have hk1 : tkK Tb L f = 1 := by omega
  have hc := (lsI_ch Tb (f := f) (z := tkE Tb L f) (by omega)).resolve_left (fun z => z.2 hg)
  have hs : stsS Tb (tkK Tb L f) f (tkE Tb L f) = lsI Tb f (tkE Tb L f) := by unfold stsS; rw [if_pos hk1]
  have he : K = lsI Tb f (tkE Tb L f) := hk_ext hK.1 hc.2.2.1 (fun v a b => by rw [hK.2 v a b, hc.2.2.2 v a b])
  refine ⟨?_, ?_⟩
  · show fuS (stsS Tb (tkK Tb L f) f (tkE Tb L f)) = 0
    rw [hs]; unfold fuS; rw [if_neg hc.1]
  · show K = stsS Tb (tkK Tb L f) f (tkE Tb L f)
    rw [hs]; exact he
theorem wv_div {Tb : Int → Int} {f r : Int} (hr : 0 < r ∧ r ≤ 7) (hd : 97 ≤ Tb (f + r - 1) ∧ Tb (f + r - 1) ≤ 122) : wvI Tb f (f + r) % 27 = Tb (f + r - 1) - 96 ∧ wvI Tb f (f + r) / 27 = wvI Tb f (f + (r - 1)) := by
  have h := wvI_s (Tb := Tb) (f := f) (z := f + r - 1) (by omega)
  rw [if_pos (by omega), show f + r - 1 + 1 = f + r by omega] at h
  rw [show f + (r - 1) = f + r - 1 by omega]
  omega
def LTI (Tb : Int → Int) (L f w K : Int) (g : Bool) (r : Int) : Prop := (g = true → tkT Tb L f = 300 ∧ tkZ Tb L f ≤ 7 ∧ (0 ≤ r ∧ r ≤ tkE Tb L f - f) ∧ w = wvI Tb f (f + r) ∧ gdL Tb (f + r) (tkE Tb L f) ∧ stL2 Tb K (f + r) (tkE Tb L f)) ∧ (g = false → ¬ tkT Tb L f = 300 ∨ 7 < tkZ Tb L f ∨ ¬ gdL Tb f (tkE Tb L f))
theorem LTI_f {Tb : Int → Int} {L f w K r : Int} (h : ¬ tkT Tb L f = 300 ∨ 7 < tkZ Tb L f) : LTI Tb L f w K false r := ⟨fun z => absurd z (by decide), fun _ => h.elim Or.inl (fun z => Or.inr (Or.inl z))⟩
theorem LTI_t {Tb : Int → Int} {L f : Int} (hT : TOK Tb) (hf : 0 ≤ f ∧ f ≤ L) (h1 : tkT Tb L f = 300) (h2 : tkZ Tb L f ≤ 7) : LTI Tb L f (tkX Tb L f) 0 true (tkZ Tb L f) := by
  have ht := @tok_ok Tb L f hf
  have htk := @tkT_k Tb L f hT
  have hk1 : tkK Tb L f = 1 := by omega
  have hZ : tkZ Tb L f = tkE Tb L f - f := by unfold tkZ; rw [if_pos (Or.inl hk1)]
  refine ⟨fun _ => ⟨h1, h2, by omega, ?_, fun j a b => by omega, ⟨by omega, by omega⟩, fun v a b => ⟨fun q => ?_, fun ⟨j, x, y, _⟩ => by omega⟩⟩, fun z => absurd z (by decide)⟩
  · unfold tkX; rw [if_pos hk1, hZ, show f + (tkE Tb L f - f) = tkE Tb L f by omega]
  · unfold hk at q; simp at q
theorem LTI_w {Tb : Int → Int} {L f w K r : Int} (hT : TOK Tb) (hf : 0 ≤ f ∧ f ≤ L) (h : LTI Tb L f w K true r) : (0 ≤ w ∧ w < 10460353203) ∧ (0 ≤ K ∧ K ≤ 255) ∧ (0 < w → 0 < r ∧ r ≤ 7 ∧ 1 ≤ w % 27 ∧ w % 27 ≤ 26 ∧ w % 27 = Tb (f + r - 1) - 96 ∧ w / 27 = wvI Tb f (f + (r - 1))) ∧ (w ≤ 0 → r = 0) := by
  obtain ⟨h1, h2, h3, h4, h5, h6⟩ := h.1 rfl
  have ht := @tok_ok Tb L f hf
  have hk := @tkT_k Tb L f hT
  have hk1 : tkK Tb L f = 1 := by omega
  have hZ : tkZ Tb L f = tkE Tb L f - f := by unfold tkZ; rw [if_pos (Or.inl hk1)]
  have hd := ht.2.2.2.2 hk1
  have hb := wvI_big (Tb := Tb) (f := f) (z := f + r) (by omega) (fun y a b => hd y a (by omega))
  rw [← h4] at hb
  refine ⟨by omega, h6.1, fun q => ?_, fun q => by omega⟩
  have hr : 0 < r := by
    by_cases z : r = 0
    · have := hb.2.2.2.2.2.2.2.2.2.2.2 (by omega); omega
    · omega
  have hx := hd (f + r - 1) (by omega) (by omega)
  have hv := wv_div (Tb := Tb) (f := f) (r := r) (by omega) hx
  rw [← h4] at hv
  exact ⟨hr, by omega, by omega, by omega, hv.1, hv.2⟩
theorem LTI_s {Tb : Int → Int} {L f w K r : Int} (hT : TOK Tb) (hf : 0 ≤ f ∧ f ≤ L) (h : LTI Tb L f w K true r) (hw : 0 < w) {b : Bool} (hb : b = true ↔ w % 27 < 8 ∧ hk K (w % 27) = false) : LTI Tb L f (w / 27) (orK K (w % 27)) b (r - 1) := by
  have hW := (LTI_w hT hf h).2.2.1 hw
  obtain ⟨h1, h2, h3, h4, h5, h6⟩ := h.1 rfl
  have ht := @tok_ok Tb L f hf
  have hk := @tkT_k Tb L f hT
  have hk1 : tkK Tb L f = 1 := by omega
  have hd := ht.2.2.2.2 hk1
  have e1 : f + (tkE Tb L f - f) = tkE Tb L f := by omega
  have hs := lt_step (Tb := Tb) (f := f) (n := tkE Tb L f - f) (r := r) (K := K) ⟨hW.1, h3.2⟩ (fun y a c => hd y a (by omega)) ⟨fun _ => by rw [e1]; exact ⟨h5, h6⟩, fun z => absurd z (by decide)⟩ hW.2.2.2.2.1 hb
  unfold ltG at hs
  rw [e1] at hs
  exact ⟨fun q => ⟨h1, h2, by omega, hW.2.2.2.2.2, (hs.1 q).1, (hs.1 q).2⟩, fun q => Or.inr (Or.inr (hs.2 q))⟩
theorem LTI_e {Tb : Int → Int} {L f w K r : Int} (hT : TOK Tb) (hf : 0 ≤ f ∧ f ≤ L) (h : LTI Tb L f w K true r) (hw : w ≤ 0) : rpF Tb (tkK Tb L f) f (tkE Tb L f) 84 = 0 ∧ K = opV Tb L 84 f := by
  have hr := (LTI_w hT hf h).2.2.2 hw
  obtain ⟨h1, h2, h3, h4, h5, h6⟩ := h.1 rfl
  rw [hr, Int.add_zero] at h5 h6
  exact lt_t hT hf h1 h5 h6
