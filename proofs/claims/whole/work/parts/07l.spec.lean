/-! the word of a step, on both sides -/
theorem wd_0 {Tb : Int → Int} {L f : Int} (hf : 0 ≤ f ∧ f ≤ L) (h1 : tkK Tb L f = 1) (hz : tkZ Tb L f ≤ 6) : (wdS Tb (tkK Tb L f) f (tkE Tb L f) 0 = true ↔ tkX Tb L f = 8800) := by
  refine wd_iff hf h1 hz (by decide) 8800 ?_
  simp only [show slen 0 = 3 from rfl, show sch 0 0 = 108 from rfl, show sch 0 1 = 97 from rfl, show sch 0 2 = 121 from rfl, show sch 0 3 = 0 from rfl, show sch 0 4 = 0 from rfl, show sch 0 5 = 0 from rfl]
  intro x0 x1 x2 x3 x4 x5 a0 a1 a2 a3 a4 a5
  refine ⟨?_, ?_, ?_, ?_, ?_, ?_⟩
  · constructor
    · intro z
      skip
      omega
    · intro z; omega
  · constructor
    · intro z
      have e1 : x1 = 25 ∧ x0 = 325 := by omega
      omega
    · intro z; omega
  · constructor
    · intro z
      have e2 : x2 = 25 ∧ 27 * x0 + x1 = 325 := by omega
      have e1 : x1 = 1 ∧ x0 = 12 := by omega
      exact ⟨trivial, by omega, by omega, by omega⟩
    · intro z; omega
  · constructor
    · intro z
      have e3 : x3 = 25 ∧ 27 * (27 * x0 + x1) + x2 = 325 := by omega
      have e2 : x2 = 1 ∧ 27 * x0 + x1 = 12 := by omega
      have e1 : x1 = 12 ∧ x0 = 0 := by omega
      omega
    · intro z; omega
  · constructor
    · intro z
      have e4 : x4 = 25 ∧ 27 * (27 * (27 * x0 + x1) + x2) + x3 = 325 := by omega
      have e3 : x3 = 1 ∧ 27 * (27 * x0 + x1) + x2 = 12 := by omega
      have e2 : x2 = 12 ∧ 27 * x0 + x1 = 0 := by omega
      have e1 : x1 = 27 ∧ x0 = -1 := by omega
      omega
    · intro z; omega
  · constructor
    · intro z
      have e5 : x5 = 25 ∧ 27 * (27 * (27 * (27 * x0 + x1) + x2) + x3) + x4 = 325 := by omega
      have e4 : x4 = 1 ∧ 27 * (27 * (27 * x0 + x1) + x2) + x3 = 12 := by omega
      have e3 : x3 = 12 ∧ 27 * (27 * x0 + x1) + x2 = 0 := by omega
      have e2 : x2 = 27 ∧ 27 * x0 + x1 = -1 := by omega
      have e1 : x1 = 26 ∧ x0 = -1 := by omega
      omega
    · intro z; omega
theorem wd_1 {Tb : Int → Int} {L f : Int} (hf : 0 ≤ f ∧ f ≤ L) (h1 : tkK Tb L f = 1) (hz : tkZ Tb L f ≤ 6) : (wdS Tb (tkK Tb L f) f (tkE Tb L f) 1 = true ↔ tkX Tb L f = 2774) := by
  refine wd_iff hf h1 hz (by decide) 2774 ?_
  simp only [show slen 1 = 3 from rfl, show sch 1 0 = 99 from rfl, show sch 1 1 = 117 from rfl, show sch 1 2 = 116 from rfl, show sch 1 3 = 0 from rfl, show sch 1 4 = 0 from rfl, show sch 1 5 = 0 from rfl]
  intro x0 x1 x2 x3 x4 x5 a0 a1 a2 a3 a4 a5
  refine ⟨?_, ?_, ?_, ?_, ?_, ?_⟩
  · constructor
    · intro z
      skip
      omega
    · intro z; omega
  · constructor
    · intro z
      have e1 : x1 = 20 ∧ x0 = 102 := by omega
      omega
    · intro z; omega
  · constructor
    · intro z
      have e2 : x2 = 20 ∧ 27 * x0 + x1 = 102 := by omega
      have e1 : x1 = 21 ∧ x0 = 3 := by omega
      exact ⟨trivial, by omega, by omega, by omega⟩
    · intro z; omega
  · constructor
    · intro z
      have e3 : x3 = 20 ∧ 27 * (27 * x0 + x1) + x2 = 102 := by omega
      have e2 : x2 = 21 ∧ 27 * x0 + x1 = 3 := by omega
      have e1 : x1 = 3 ∧ x0 = 0 := by omega
      omega
    · intro z; omega
  · constructor
    · intro z
      have e4 : x4 = 20 ∧ 27 * (27 * (27 * x0 + x1) + x2) + x3 = 102 := by omega
      have e3 : x3 = 21 ∧ 27 * (27 * x0 + x1) + x2 = 3 := by omega
      have e2 : x2 = 3 ∧ 27 * x0 + x1 = 0 := by omega
      have e1 : x1 = 27 ∧ x0 = -1 := by omega
      omega
    · intro z; omega
  · constructor
    · intro z
      have e5 : x5 = 20 ∧ 27 * (27 * (27 * (27 * x0 + x1) + x2) + x3) + x4 = 102 := by omega
      have e4 : x4 = 21 ∧ 27 * (27 * (27 * x0 + x1) + x2) + x3 = 3 := by omega
      have e3 : x3 = 3 ∧ 27 * (27 * x0 + x1) + x2 = 0 := by omega
      have e2 : x2 = 27 ∧ 27 * x0 + x1 = -1 := by omega
      have e1 : x1 = 26 ∧ x0 = -1 := by omega
      omega
    · intro z; omega
theorem wd_2 {Tb : Int → Int} {L f : Int} (hf : 0 ≤ f ∧ f ≤ L) (h1 : tkK Tb L f = 1) (hz : tkZ Tb L f ≤ 6) : (wdS Tb (tkK Tb L f) f (tkE Tb L f) 2 = true ↔ tkX Tb L f = 90104) := by
  refine wd_iff hf h1 hz (by decide) 90104 ?_
  simp only [show slen 2 = 4 from rfl, show sch 2 0 = 100 from rfl, show sch 2 1 = 111 from rfl, show sch 2 2 = 112 from rfl, show sch 2 3 = 101 from rfl, show sch 2 4 = 0 from rfl, show sch 2 5 = 0 from rfl]
  intro x0 x1 x2 x3 x4 x5 a0 a1 a2 a3 a4 a5
  refine ⟨?_, ?_, ?_, ?_, ?_, ?_⟩
  · constructor
    · intro z
      skip
      omega
    · intro z; omega
  · constructor
    · intro z
      have e1 : x1 = 5 ∧ x0 = 3337 := by omega
      omega
    · intro z; omega
  · constructor
    · intro z
      have e2 : x2 = 5 ∧ 27 * x0 + x1 = 3337 := by omega
      have e1 : x1 = 16 ∧ x0 = 123 := by omega
      omega
    · intro z; omega
  · constructor
    · intro z
      have e3 : x3 = 5 ∧ 27 * (27 * x0 + x1) + x2 = 3337 := by omega
      have e2 : x2 = 16 ∧ 27 * x0 + x1 = 123 := by omega
      have e1 : x1 = 15 ∧ x0 = 4 := by omega
      exact ⟨trivial, by omega, by omega, by omega, by omega⟩
    · intro z; omega
  · constructor
    · intro z
      have e4 : x4 = 5 ∧ 27 * (27 * (27 * x0 + x1) + x2) + x3 = 3337 := by omega
      have e3 : x3 = 16 ∧ 27 * (27 * x0 + x1) + x2 = 123 := by omega
      have e2 : x2 = 15 ∧ 27 * x0 + x1 = 4 := by omega
      have e1 : x1 = 4 ∧ x0 = 0 := by omega
      omega
    · intro z; omega
  · constructor
    · intro z
      have e5 : x5 = 5 ∧ 27 * (27 * (27 * (27 * x0 + x1) + x2) + x3) + x4 = 3337 := by omega
      have e4 : x4 = 16 ∧ 27 * (27 * (27 * x0 + x1) + x2) + x3 = 123 := by omega
      have e3 : x3 = 15 ∧ 27 * (27 * x0 + x1) + x2 = 4 := by omega
      have e2 : x2 = 4 ∧ 27 * x0 + x1 = 0 := by omega
      have e1 : x1 = 27 ∧ x0 = -1 := by omega
      omega
    · intro z; omega
theorem wd_3 {Tb : Int → Int} {L f : Int} (hf : 0 ≤ f ∧ f ≤ L) (h1 : tkK Tb L f = 1) (hz : tkZ Tb L f ≤ 6) : (wdS Tb (tkK Tb L f) f (tkE Tb L f) 3 = true ↔ tkX Tb L f = 70031) := by
  refine wd_iff hf h1 hz (by decide) 70031 ?_
  simp only [show slen 3 = 4 from rfl, show sch 3 0 = 99 from rfl, show sch 3 1 = 111 from rfl, show sch 3 2 = 97 from rfl, show sch 3 3 = 116 from rfl, show sch 3 4 = 0 from rfl, show sch 3 5 = 0 from rfl]
  intro x0 x1 x2 x3 x4 x5 a0 a1 a2 a3 a4 a5
  refine ⟨?_, ?_, ?_, ?_, ?_, ?_⟩
  · constructor
    · intro z
      skip
      omega
    · intro z; omega
  · constructor
    · intro z
      have e1 : x1 = 20 ∧ x0 = 2593 := by omega
      omega
    · intro z; omega
  · constructor
    · intro z
      have e2 : x2 = 20 ∧ 27 * x0 + x1 = 2593 := by omega
      have e1 : x1 = 1 ∧ x0 = 96 := by omega
      omega
    · intro z; omega
  · constructor
    · intro z
      have e3 : x3 = 20 ∧ 27 * (27 * x0 + x1) + x2 = 2593 := by omega
      have e2 : x2 = 1 ∧ 27 * x0 + x1 = 96 := by omega
      have e1 : x1 = 15 ∧ x0 = 3 := by omega
      exact ⟨trivial, by omega, by omega, by omega, by omega⟩
    · intro z; omega
  · constructor
    · intro z
      have e4 : x4 = 20 ∧ 27 * (27 * (27 * x0 + x1) + x2) + x3 = 2593 := by omega
      have e3 : x3 = 1 ∧ 27 * (27 * x0 + x1) + x2 = 96 := by omega
      have e2 : x2 = 15 ∧ 27 * x0 + x1 = 3 := by omega
      have e1 : x1 = 3 ∧ x0 = 0 := by omega
      omega
    · intro z; omega
  · constructor
    · intro z
      have e5 : x5 = 20 ∧ 27 * (27 * (27 * (27 * x0 + x1) + x2) + x3) + x4 = 2593 := by omega
      have e4 : x4 = 1 ∧ 27 * (27 * (27 * x0 + x1) + x2) + x3 = 96 := by omega
      have e3 : x3 = 15 ∧ 27 * (27 * x0 + x1) + x2 = 3 := by omega
      have e2 : x2 = 3 ∧ 27 * x0 + x1 = 0 := by omega
      have e1 : x1 = 27 ∧ x0 = -1 := by omega
      omega
    · intro z; omega
theorem wd_4 {Tb : Int → Int} {L f : Int} (hf : 0 ≤ f ∧ f ≤ L) (h1 : tkK Tb L f = 1) (hz : tkZ Tb L f ≤ 6) : (wdS Tb (tkK Tb L f) f (tkE Tb L f) 4 = true ↔ tkX Tb L f = 113084) := by
  refine wd_iff hf h1 hz (by decide) 113084 ?_
  simp only [show slen 4 = 4 from rfl, show sch 4 0 = 101 from rfl, show sch 4 1 = 116 from rfl, show sch 4 2 = 99 from rfl, show sch 4 3 = 104 from rfl, show sch 4 4 = 0 from rfl, show sch 4 5 = 0 from rfl]
  intro x0 x1 x2 x3 x4 x5 a0 a1 a2 a3 a4 a5
  refine ⟨?_, ?_, ?_, ?_, ?_, ?_⟩
  · constructor
    · intro z
      skip
      omega
    · intro z; omega
  · constructor
    · intro z
      have e1 : x1 = 8 ∧ x0 = 4188 := by omega
      omega
    · intro z; omega
  · constructor
    · intro z
      have e2 : x2 = 8 ∧ 27 * x0 + x1 = 4188 := by omega
      have e1 : x1 = 3 ∧ x0 = 155 := by omega
      omega
    · intro z; omega
  · constructor
    · intro z
      have e3 : x3 = 8 ∧ 27 * (27 * x0 + x1) + x2 = 4188 := by omega
      have e2 : x2 = 3 ∧ 27 * x0 + x1 = 155 := by omega
      have e1 : x1 = 20 ∧ x0 = 5 := by omega
      exact ⟨trivial, by omega, by omega, by omega, by omega⟩
    · intro z; omega
  · constructor
    · intro z
      have e4 : x4 = 8 ∧ 27 * (27 * (27 * x0 + x1) + x2) + x3 = 4188 := by omega
      have e3 : x3 = 3 ∧ 27 * (27 * x0 + x1) + x2 = 155 := by omega
      have e2 : x2 = 20 ∧ 27 * x0 + x1 = 5 := by omega
      have e1 : x1 = 5 ∧ x0 = 0 := by omega
      omega
    · intro z; omega
  · constructor
    · intro z
      have e5 : x5 = 8 ∧ 27 * (27 * (27 * (27 * x0 + x1) + x2) + x3) + x4 = 4188 := by omega
      have e4 : x4 = 3 ∧ 27 * (27 * (27 * x0 + x1) + x2) + x3 = 155 := by omega
      have e3 : x3 = 20 ∧ 27 * (27 * x0 + x1) + x2 = 5 := by omega
      have e2 : x2 = 5 ∧ 27 * x0 + x1 = 0 := by omega
      have e1 : x1 = 27 ∧ x0 = -1 := by omega
      omega
    · intro z; omega
theorem wd_5 {Tb : Int → Int} {L f : Int} (hf : 0 ≤ f ∧ f ≤ L) (h1 : tkK Tb L f = 1) (hz : tkZ Tb L f ≤ 6) : (wdS Tb (tkK Tb L f) f (tkE Tb L f) 5 = true ↔ tkX Tb L f = 409469) := by
  refine wd_iff hf h1 hz (by decide) 409469 ?_
  simp only [show slen 5 = 4 from rfl, show sch 5 0 = 116 from rfl, show sch 5 1 = 117 from rfl, show sch 5 2 = 114 from rfl, show sch 5 3 = 110 from rfl, show sch 5 4 = 0 from rfl, show sch 5 5 = 0 from rfl]
  intro x0 x1 x2 x3 x4 x5 a0 a1 a2 a3 a4 a5
  refine ⟨?_, ?_, ?_, ?_, ?_, ?_⟩
  · constructor
    · intro z
      skip
      omega
    · intro z; omega
  · constructor
    · intro z
      have e1 : x1 = 14 ∧ x0 = 15165 := by omega
      omega
    · intro z; omega
  · constructor
    · intro z
      have e2 : x2 = 14 ∧ 27 * x0 + x1 = 15165 := by omega
      have e1 : x1 = 18 ∧ x0 = 561 := by omega
      omega
    · intro z; omega
  · constructor
    · intro z
      have e3 : x3 = 14 ∧ 27 * (27 * x0 + x1) + x2 = 15165 := by omega
      have e2 : x2 = 18 ∧ 27 * x0 + x1 = 561 := by omega
      have e1 : x1 = 21 ∧ x0 = 20 := by omega
      exact ⟨trivial, by omega, by omega, by omega, by omega⟩
    · intro z; omega
  · constructor
    · intro z
      have e4 : x4 = 14 ∧ 27 * (27 * (27 * x0 + x1) + x2) + x3 = 15165 := by omega
      have e3 : x3 = 18 ∧ 27 * (27 * x0 + x1) + x2 = 561 := by omega
      have e2 : x2 = 21 ∧ 27 * x0 + x1 = 20 := by omega
      have e1 : x1 = 20 ∧ x0 = 0 := by omega
      omega
    · intro z; omega
  · constructor
    · intro z
      have e5 : x5 = 14 ∧ 27 * (27 * (27 * (27 * x0 + x1) + x2) + x3) + x4 = 15165 := by omega
      have e4 : x4 = 18 ∧ 27 * (27 * (27 * x0 + x1) + x2) + x3 = 561 := by omega
      have e3 : x3 = 21 ∧ 27 * (27 * x0 + x1) + x2 = 20 := by omega
      have e2 : x2 = 20 ∧ 27 * x0 + x1 = 0 := by omega
      have e1 : x1 = 27 ∧ x0 = -1 := by omega
      omega
    · intro z; omega
theorem wd_6 {Tb : Int → Int} {L f : Int} (hf : 0 ≤ f ∧ f ≤ L) (h1 : tkK Tb L f = 1) (hz : tkZ Tb L f ≤ 6) : (wdS Tb (tkK Tb L f) f (tkE Tb L f) 6 = true ↔ tkX Tb L f = 124995) := by
  refine wd_iff hf h1 hz (by decide) 124995 ?_
  simp only [show slen 6 = 4 from rfl, show sch 6 0 = 102 from rfl, show sch 6 1 = 105 from rfl, show sch 6 2 = 108 from rfl, show sch 6 3 = 108 from rfl, show sch 6 4 = 0 from rfl, show sch 6 5 = 0 from rfl]
  intro x0 x1 x2 x3 x4 x5 a0 a1 a2 a3 a4 a5
  refine ⟨?_, ?_, ?_, ?_, ?_, ?_⟩
  · constructor
    · intro z
      skip
      omega
    · intro z; omega
  · constructor
    · intro z
      have e1 : x1 = 12 ∧ x0 = 4629 := by omega
      omega
    · intro z; omega
  · constructor
    · intro z
      have e2 : x2 = 12 ∧ 27 * x0 + x1 = 4629 := by omega
      have e1 : x1 = 12 ∧ x0 = 171 := by omega
      omega
    · intro z; omega
  · constructor
    · intro z
      have e3 : x3 = 12 ∧ 27 * (27 * x0 + x1) + x2 = 4629 := by omega
      have e2 : x2 = 12 ∧ 27 * x0 + x1 = 171 := by omega
      have e1 : x1 = 9 ∧ x0 = 6 := by omega
      exact ⟨trivial, by omega, by omega, by omega, by omega⟩
    · intro z; omega
  · constructor
    · intro z
      have e4 : x4 = 12 ∧ 27 * (27 * (27 * x0 + x1) + x2) + x3 = 4629 := by omega
      have e3 : x3 = 12 ∧ 27 * (27 * x0 + x1) + x2 = 171 := by omega
      have e2 : x2 = 9 ∧ 27 * x0 + x1 = 6 := by omega
      have e1 : x1 = 6 ∧ x0 = 0 := by omega
      omega
    · intro z; omega
  · constructor
    · intro z
      have e5 : x5 = 12 ∧ 27 * (27 * (27 * (27 * x0 + x1) + x2) + x3) + x4 = 4629 := by omega
      have e4 : x4 = 12 ∧ 27 * (27 * (27 * x0 + x1) + x2) + x3 = 171 := by omega
      have e3 : x3 = 9 ∧ 27 * (27 * x0 + x1) + x2 = 6 := by omega
      have e2 : x2 = 6 ∧ 27 * x0 + x1 = 0 := by omega
      have e1 : x1 = 27 ∧ x0 = -1 := by omega
      omega
    · intro z; omega
theorem wd_7 {Tb : Int → Int} {L f : Int} (hf : 0 ≤ f ∧ f ≤ L) (h1 : tkK Tb L f = 1) (hz : tkZ Tb L f ≤ 6) : (wdS Tb (tkK Tb L f) f (tkE Tb L f) 7 = true ↔ tkX Tb L f = 126893) := by
  refine wd_iff hf h1 hz (by decide) 126893 ?_
  simp only [show slen 7 = 4 from rfl, show sch 7 0 = 102 from rfl, show sch 7 1 = 108 from rfl, show sch 7 2 = 97 from rfl, show sch 7 3 = 116 from rfl, show sch 7 4 = 0 from rfl, show sch 7 5 = 0 from rfl]
  intro x0 x1 x2 x3 x4 x5 a0 a1 a2 a3 a4 a5
  refine ⟨?_, ?_, ?_, ?_, ?_, ?_⟩
  · constructor
    · intro z
      skip
      omega
    · intro z; omega
  · constructor
    · intro z
      have e1 : x1 = 20 ∧ x0 = 4699 := by omega
      omega
    · intro z; omega
  · constructor
    · intro z
      have e2 : x2 = 20 ∧ 27 * x0 + x1 = 4699 := by omega
      have e1 : x1 = 1 ∧ x0 = 174 := by omega
      omega
    · intro z; omega
  · constructor
    · intro z
      have e3 : x3 = 20 ∧ 27 * (27 * x0 + x1) + x2 = 4699 := by omega
      have e2 : x2 = 1 ∧ 27 * x0 + x1 = 174 := by omega
      have e1 : x1 = 12 ∧ x0 = 6 := by omega
      exact ⟨trivial, by omega, by omega, by omega, by omega⟩
    · intro z; omega
  · constructor
    · intro z
      have e4 : x4 = 20 ∧ 27 * (27 * (27 * x0 + x1) + x2) + x3 = 4699 := by omega
      have e3 : x3 = 1 ∧ 27 * (27 * x0 + x1) + x2 = 174 := by omega
      have e2 : x2 = 12 ∧ 27 * x0 + x1 = 6 := by omega
      have e1 : x1 = 6 ∧ x0 = 0 := by omega
      omega
    · intro z; omega
  · constructor
    · intro z
      have e5 : x5 = 20 ∧ 27 * (27 * (27 * (27 * x0 + x1) + x2) + x3) + x4 = 4699 := by omega
      have e4 : x4 = 1 ∧ 27 * (27 * (27 * x0 + x1) + x2) + x3 = 174 := by omega
      have e3 : x3 = 12 ∧ 27 * (27 * x0 + x1) + x2 = 6 := by omega
      have e2 : x2 = 6 ∧ 27 * x0 + x1 = 0 := by omega
      have e1 : x1 = 27 ∧ x0 = -1 := by omega
      omega
    · intro z; omega
theorem wd_8 {Tb : Int → Int} {L f : Int} (hf : 0 ≤ f ∧ f ≤ L) (h1 : tkK Tb L f = 1) (hz : tkZ Tb L f ≤ 6) : (wdS Tb (tkK Tb L f) f (tkE Tb L f) 8 = true ↔ tkX Tb L f = 92275) := by
  refine wd_iff hf h1 hz (by decide) 92275 ?_
  simp only [show slen 8 = 4 from rfl, show sch 8 0 = 100 from rfl, show sch 8 1 = 114 from rfl, show sch 8 2 = 111 from rfl, show sch 8 3 = 112 from rfl, show sch 8 4 = 0 from rfl, show sch 8 5 = 0 from rfl]
  intro x0 x1 x2 x3 x4 x5 a0 a1 a2 a3 a4 a5
  refine ⟨?_, ?_, ?_, ?_, ?_, ?_⟩
  · constructor
    · intro z
      skip
      omega
    · intro z; omega
  · constructor
    · intro z
      have e1 : x1 = 16 ∧ x0 = 3417 := by omega
      omega
    · intro z; omega
  · constructor
    · intro z
      have e2 : x2 = 16 ∧ 27 * x0 + x1 = 3417 := by omega
      have e1 : x1 = 15 ∧ x0 = 126 := by omega
      omega
    · intro z; omega
  · constructor
    · intro z
      have e3 : x3 = 16 ∧ 27 * (27 * x0 + x1) + x2 = 3417 := by omega
      have e2 : x2 = 15 ∧ 27 * x0 + x1 = 126 := by omega
      have e1 : x1 = 18 ∧ x0 = 4 := by omega
      exact ⟨trivial, by omega, by omega, by omega, by omega⟩
    · intro z; omega
  · constructor
    · intro z
      have e4 : x4 = 16 ∧ 27 * (27 * (27 * x0 + x1) + x2) + x3 = 3417 := by omega
      have e3 : x3 = 15 ∧ 27 * (27 * x0 + x1) + x2 = 126 := by omega
      have e2 : x2 = 18 ∧ 27 * x0 + x1 = 4 := by omega
      have e1 : x1 = 4 ∧ x0 = 0 := by omega
      omega
    · intro z; omega
  · constructor
    · intro z
      have e5 : x5 = 16 ∧ 27 * (27 * (27 * (27 * x0 + x1) + x2) + x3) + x4 = 3417 := by omega
      have e4 : x4 = 15 ∧ 27 * (27 * (27 * x0 + x1) + x2) + x3 = 126 := by omega
      have e3 : x3 = 18 ∧ 27 * (27 * x0 + x1) + x2 = 4 := by omega
      have e2 : x2 = 4 ∧ 27 * x0 + x1 = 0 := by omega
      have e1 : x1 = 27 ∧ x0 = -1 := by omega
      omega
    · intro z; omega
theorem wd_9 {Tb : Int → Int} {L f : Int} (hf : 0 ≤ f ∧ f ≤ L) (h1 : tkK Tb L f = 1) (hz : tkZ Tb L f ≤ 6) : (wdS Tb (tkK Tb L f) f (tkE Tb L f) 9 = true ↔ tkX Tb L f = 257132) := by
  refine wd_iff hf h1 hz (by decide) 257132 ?_
  simp only [show slen 9 = 4 from rfl, show sch 9 0 = 109 from rfl, show sch 9 1 = 97 from rfl, show sch 9 2 = 115 from rfl, show sch 9 3 = 107 from rfl, show sch 9 4 = 0 from rfl, show sch 9 5 = 0 from rfl]
  intro x0 x1 x2 x3 x4 x5 a0 a1 a2 a3 a4 a5
  refine ⟨?_, ?_, ?_, ?_, ?_, ?_⟩
  · constructor
    · intro z
      skip
      omega
    · intro z; omega
  · constructor
    · intro z
      have e1 : x1 = 11 ∧ x0 = 9523 := by omega
      omega
    · intro z; omega
  · constructor
    · intro z
      have e2 : x2 = 11 ∧ 27 * x0 + x1 = 9523 := by omega
      have e1 : x1 = 19 ∧ x0 = 352 := by omega
      omega
    · intro z; omega
  · constructor
    · intro z
      have e3 : x3 = 11 ∧ 27 * (27 * x0 + x1) + x2 = 9523 := by omega
      have e2 : x2 = 19 ∧ 27 * x0 + x1 = 352 := by omega
      have e1 : x1 = 1 ∧ x0 = 13 := by omega
      exact ⟨trivial, by omega, by omega, by omega, by omega⟩
    · intro z; omega
  · constructor
    · intro z
      have e4 : x4 = 11 ∧ 27 * (27 * (27 * x0 + x1) + x2) + x3 = 9523 := by omega
      have e3 : x3 = 19 ∧ 27 * (27 * x0 + x1) + x2 = 352 := by omega
      have e2 : x2 = 1 ∧ 27 * x0 + x1 = 13 := by omega
      have e1 : x1 = 13 ∧ x0 = 0 := by omega
      omega
    · intro z; omega
  · constructor
    · intro z
      have e5 : x5 = 11 ∧ 27 * (27 * (27 * (27 * x0 + x1) + x2) + x3) + x4 = 9523 := by omega
      have e4 : x4 = 19 ∧ 27 * (27 * (27 * x0 + x1) + x2) + x3 = 352 := by omega
      have e3 : x3 = 1 ∧ 27 * (27 * x0 + x1) + x2 = 13 := by omega
      have e2 : x2 = 13 ∧ 27 * x0 + x1 = 0 := by omega
      have e1 : x1 = 27 ∧ x0 = -1 := by omega
      omega
    · intro z; omega
theorem wd_10 {Tb : Int → Int} {L f : Int} (hf : 0 ≤ f ∧ f ≤ L) (h1 : tkK Tb L f = 1) (hz : tkZ Tb L f ≤ 6) : (wdS Tb (tkK Tb L f) f (tkE Tb L f) 10 = true ↔ tkX Tb L f = 40586) := by
  refine wd_iff hf h1 hz (by decide) 40586 ?_
  simp only [show slen 10 = 4 from rfl, show sch 10 0 = 98 from rfl, show sch 10 1 = 97 from rfl, show sch 10 2 = 114 from rfl, show sch 10 3 = 101 from rfl, show sch 10 4 = 0 from rfl, show sch 10 5 = 0 from rfl]
  intro x0 x1 x2 x3 x4 x5 a0 a1 a2 a3 a4 a5
  refine ⟨?_, ?_, ?_, ?_, ?_, ?_⟩
  · constructor
    · intro z
      skip
      omega
    · intro z; omega
  · constructor
    · intro z
      have e1 : x1 = 5 ∧ x0 = 1503 := by omega
      omega
    · intro z; omega
  · constructor
    · intro z
      have e2 : x2 = 5 ∧ 27 * x0 + x1 = 1503 := by omega
      have e1 : x1 = 18 ∧ x0 = 55 := by omega
      omega
    · intro z; omega
  · constructor
    · intro z
      have e3 : x3 = 5 ∧ 27 * (27 * x0 + x1) + x2 = 1503 := by omega
      have e2 : x2 = 18 ∧ 27 * x0 + x1 = 55 := by omega
      have e1 : x1 = 1 ∧ x0 = 2 := by omega
      exact ⟨trivial, by omega, by omega, by omega, by omega⟩
    · intro z; omega
  · constructor
    · intro z
      have e4 : x4 = 5 ∧ 27 * (27 * (27 * x0 + x1) + x2) + x3 = 1503 := by omega
      have e3 : x3 = 18 ∧ 27 * (27 * x0 + x1) + x2 = 55 := by omega
      have e2 : x2 = 1 ∧ 27 * x0 + x1 = 2 := by omega
      have e1 : x1 = 2 ∧ x0 = 0 := by omega
      omega
    · intro z; omega
  · constructor
    · intro z
      have e5 : x5 = 5 ∧ 27 * (27 * (27 * (27 * x0 + x1) + x2) + x3) + x4 = 1503 := by omega
      have e4 : x4 = 18 ∧ 27 * (27 * (27 * x0 + x1) + x2) + x3 = 55 := by omega
      have e3 : x3 = 1 ∧ 27 * (27 * x0 + x1) + x2 = 2 := by omega
      have e2 : x2 = 2 ∧ 27 * x0 + x1 = 0 := by omega
      have e1 : x1 = 27 ∧ x0 = -1 := by omega
      omega
    · intro z; omega
theorem wd_11 {Tb : Int → Int} {L f : Int} (hf : 0 ≤ f ∧ f ≤ L) (h1 : tkK Tb L f = 1) (hz : tkZ Tb L f ≤ 6) : (wdS Tb (tkK Tb L f) f (tkE Tb L f) 11 = true ↔ tkX Tb L f = 453836) := by
  refine wd_iff hf h1 hz (by decide) 453836 ?_
  simp only [show slen 11 = 4 from rfl, show sch 11 0 = 119 from rfl, show sch 11 1 = 97 from rfl, show sch 11 2 = 110 from rfl, show sch 11 3 = 116 from rfl, show sch 11 4 = 0 from rfl, show sch 11 5 = 0 from rfl]
  intro x0 x1 x2 x3 x4 x5 a0 a1 a2 a3 a4 a5
  refine ⟨?_, ?_, ?_, ?_, ?_, ?_⟩
  · constructor
    · intro z
      skip
      omega
    · intro z; omega
  · constructor
    · intro z
      have e1 : x1 = 20 ∧ x0 = 16808 := by omega
      omega
    · intro z; omega
  · constructor
    · intro z
      have e2 : x2 = 20 ∧ 27 * x0 + x1 = 16808 := by omega
      have e1 : x1 = 14 ∧ x0 = 622 := by omega
      omega
    · intro z; omega
  · constructor
    · intro z
      have e3 : x3 = 20 ∧ 27 * (27 * x0 + x1) + x2 = 16808 := by omega
      have e2 : x2 = 14 ∧ 27 * x0 + x1 = 622 := by omega
      have e1 : x1 = 1 ∧ x0 = 23 := by omega
      exact ⟨trivial, by omega, by omega, by omega, by omega⟩
    · intro z; omega
  · constructor
    · intro z
      have e4 : x4 = 20 ∧ 27 * (27 * (27 * x0 + x1) + x2) + x3 = 16808 := by omega
      have e3 : x3 = 14 ∧ 27 * (27 * x0 + x1) + x2 = 622 := by omega
      have e2 : x2 = 1 ∧ 27 * x0 + x1 = 23 := by omega
      have e1 : x1 = 23 ∧ x0 = 0 := by omega
      omega
    · intro z; omega
  · constructor
    · intro z
      have e5 : x5 = 20 ∧ 27 * (27 * (27 * (27 * x0 + x1) + x2) + x3) + x4 = 16808 := by omega
      have e4 : x4 = 14 ∧ 27 * (27 * (27 * x0 + x1) + x2) + x3 = 622 := by omega
      have e3 : x3 = 1 ∧ 27 * (27 * x0 + x1) + x2 = 23 := by omega
      have e2 : x2 = 23 ∧ 27 * x0 + x1 = 0 := by omega
      have e1 : x1 = 27 ∧ x0 = -1 := by omega
      omega
    · intro z; omega
theorem wd_12 {Tb : Int → Int} {L f : Int} (hf : 0 ≤ f ∧ f ≤ L) (h1 : tkK Tb L f = 1) (hz : tkZ Tb L f ≤ 6) : (wdS Tb (tkK Tb L f) f (tkE Tb L f) 12 = true ↔ tkX Tb L f = 12391871) := by
  refine wd_iff hf h1 hz (by decide) 12391871 ?_
  simp only [show slen 12 = 5 from rfl, show sch 12 0 = 119 from rfl, show sch 12 1 = 104 from rfl, show sch 12 2 = 111 from rfl, show sch 12 3 = 108 from rfl, show sch 12 4 = 101 from rfl, show sch 12 5 = 0 from rfl]
  intro x0 x1 x2 x3 x4 x5 a0 a1 a2 a3 a4 a5
  refine ⟨?_, ?_, ?_, ?_, ?_, ?_⟩
  · constructor
    · intro z
      skip
      omega
    · intro z; omega
  · constructor
    · intro z
      have e1 : x1 = 5 ∧ x0 = 458958 := by omega
      omega
    · intro z; omega
  · constructor
    · intro z
      have e2 : x2 = 5 ∧ 27 * x0 + x1 = 458958 := by omega
      have e1 : x1 = 12 ∧ x0 = 16998 := by omega
      omega
    · intro z; omega
  · constructor
    · intro z
      have e3 : x3 = 5 ∧ 27 * (27 * x0 + x1) + x2 = 458958 := by omega
      have e2 : x2 = 12 ∧ 27 * x0 + x1 = 16998 := by omega
      have e1 : x1 = 15 ∧ x0 = 629 := by omega
      omega
    · intro z; omega
  · constructor
    · intro z
      have e4 : x4 = 5 ∧ 27 * (27 * (27 * x0 + x1) + x2) + x3 = 458958 := by omega
      have e3 : x3 = 12 ∧ 27 * (27 * x0 + x1) + x2 = 16998 := by omega
      have e2 : x2 = 15 ∧ 27 * x0 + x1 = 629 := by omega
      have e1 : x1 = 8 ∧ x0 = 23 := by omega
      exact ⟨trivial, by omega, by omega, by omega, by omega, by omega⟩
    · intro z; omega
  · constructor
    · intro z
      have e5 : x5 = 5 ∧ 27 * (27 * (27 * (27 * x0 + x1) + x2) + x3) + x4 = 458958 := by omega
      have e4 : x4 = 12 ∧ 27 * (27 * (27 * x0 + x1) + x2) + x3 = 16998 := by omega
      have e3 : x3 = 15 ∧ 27 * (27 * x0 + x1) + x2 = 629 := by omega
      have e2 : x2 = 8 ∧ 27 * x0 + x1 = 23 := by omega
      have e1 : x1 = 23 ∧ x0 = 0 := by omega
      omega
    · intro z; omega
theorem wd_13 {Tb : Int → Int} {L f : Int} (hf : 0 ≤ f ∧ f ≤ L) (h1 : tkK Tb L f = 1) (hz : tkZ Tb L f ≤ 6) : (wdS Tb (tkK Tb L f) f (tkE Tb L f) 13 = true ↔ tkX Tb L f = 261256151) := by
  refine wd_iff hf h1 hz (by decide) 261256151 ?_
  simp only [show slen 13 = 6 from rfl, show sch 13 0 = 114 from rfl, show sch 13 1 = 101 from rfl, show sch 13 2 = 112 from rfl, show sch 13 3 = 101 from rfl, show sch 13 4 = 97 from rfl, show sch 13 5 = 116 from rfl]
  intro x0 x1 x2 x3 x4 x5 a0 a1 a2 a3 a4 a5
  refine ⟨?_, ?_, ?_, ?_, ?_, ?_⟩
  · constructor
    · intro z
      skip
      omega
    · intro z; omega
  · constructor
    · intro z
      have e1 : x1 = 20 ∧ x0 = 9676153 := by omega
      omega
    · intro z; omega
  · constructor
    · intro z
      have e2 : x2 = 20 ∧ 27 * x0 + x1 = 9676153 := by omega
      have e1 : x1 = 1 ∧ x0 = 358376 := by omega
      omega
    · intro z; omega
  · constructor
    · intro z
      have e3 : x3 = 20 ∧ 27 * (27 * x0 + x1) + x2 = 9676153 := by omega
      have e2 : x2 = 1 ∧ 27 * x0 + x1 = 358376 := by omega
      have e1 : x1 = 5 ∧ x0 = 13273 := by omega
      omega
    · intro z; omega
  · constructor
    · intro z
      have e4 : x4 = 20 ∧ 27 * (27 * (27 * x0 + x1) + x2) + x3 = 9676153 := by omega
      have e3 : x3 = 1 ∧ 27 * (27 * x0 + x1) + x2 = 358376 := by omega
      have e2 : x2 = 5 ∧ 27 * x0 + x1 = 13273 := by omega
      have e1 : x1 = 16 ∧ x0 = 491 := by omega
      omega
    · intro z; omega
  · constructor
    · intro z
      have e5 : x5 = 20 ∧ 27 * (27 * (27 * (27 * x0 + x1) + x2) + x3) + x4 = 9676153 := by omega
      have e4 : x4 = 1 ∧ 27 * (27 * (27 * x0 + x1) + x2) + x3 = 358376 := by omega
      have e3 : x3 = 5 ∧ 27 * (27 * x0 + x1) + x2 = 13273 := by omega
      have e2 : x2 = 16 ∧ 27 * x0 + x1 = 491 := by omega
      have e1 : x1 = 5 ∧ x0 = 18 := by omega
      exact ⟨trivial, by omega, by omega, by omega, by omega, by omega, by omega⟩
    · intro z; omega
theorem kd_sw {Tb : Int → Int} {L f : Int} (hf : 0 ≤ f ∧ f ≤ L) (h1 : tkK Tb L f = 1) : kdR (tkX Tb L f) (tkZ Tb L f) = swS Tb (tkK Tb L f) f (tkE Tb L f) + 1 := by
  unfold kdR
  by_cases hz : 6 < tkZ Tb L f
  · rw [if_pos hz]
    have hZ : tkZ Tb L f = tkE Tb L f - f := by unfold tkZ; rw [if_pos (Or.inl h1)]
    have : swS Tb (tkK Tb L f) f (tkE Tb L f) = -1 := by
      unfold swS
      refine fuI_none (fun z a b => ?_) (by omega)
      show wdS Tb (tkK Tb L f) f (tkE Tb L f) z.toNat = false
      have := slen_rng (kk := z.toNat) (by omega)
      unfold wdS; rw [decide_eq_false (by omega)]; rfl
    rw [this]; rfl
  · rw [if_neg hz]
    have w0 := wd_0 hf h1 (show tkZ Tb L f ≤ 6 by omega)
    have w1 := wd_1 hf h1 (show tkZ Tb L f ≤ 6 by omega)
    have w2 := wd_2 hf h1 (show tkZ Tb L f ≤ 6 by omega)
    have w3 := wd_3 hf h1 (show tkZ Tb L f ≤ 6 by omega)
    have w4 := wd_4 hf h1 (show tkZ Tb L f ≤ 6 by omega)
    have w5 := wd_5 hf h1 (show tkZ Tb L f ≤ 6 by omega)
    have w6 := wd_6 hf h1 (show tkZ Tb L f ≤ 6 by omega)
    have w7 := wd_7 hf h1 (show tkZ Tb L f ≤ 6 by omega)
    have w8 := wd_8 hf h1 (show tkZ Tb L f ≤ 6 by omega)
    have w9 := wd_9 hf h1 (show tkZ Tb L f ≤ 6 by omega)
    have w10 := wd_10 hf h1 (show tkZ Tb L f ≤ 6 by omega)
    have w11 := wd_11 hf h1 (show tkZ Tb L f ≤ 6 by omega)
    have w12 := wd_12 hf h1 (show tkZ Tb L f ≤ 6 by omega)
    have w13 := wd_13 hf h1 (show tkZ Tb L f ≤ 6 by omega)
    have ff : ∀ i : Nat, i < 14 → ¬ wdS Tb (tkK Tb L f) f (tkE Tb L f) i = true → fuI (fun w => wdS Tb (tkK Tb L f) f (tkE Tb L f) w.toNat) (i : Int) 14 = fuI (fun w => wdS Tb (tkK Tb L f) f (tkE Tb L f) w.toNat) ((i : Int) + 1) 14 := fun i hi h => fuI_f (by omega) (by cases e : wdS Tb (tkK Tb L f) f (tkE Tb L f) i with | false => exact e | true => exact absurd e h)
    unfold swS
    by_cases q0 : tkX Tb L f = 8800
    · rw [if_pos q0, show fuI (fun w => wdS Tb (tkK Tb L f) f (tkE Tb L f) w.toNat) 0 14 = 0 from fuI_t (by omega) (w0.mpr q0)] <;> rfl
    have g0 : fuI (fun w => wdS Tb (tkK Tb L f) f (tkE Tb L f) w.toNat) 0 14 = fuI (fun w => wdS Tb (tkK Tb L f) f (tkE Tb L f) w.toNat) 1 14 := ff 0 (by omega) (fun z => q0 (w0.mp z))
    rw [if_neg q0]
    by_cases q1 : tkX Tb L f = 2774
    · rw [if_pos q1, g0, show fuI (fun w => wdS Tb (tkK Tb L f) f (tkE Tb L f) w.toNat) 1 14 = 1 from fuI_t (by omega) (w1.mpr q1)] <;> rfl
    have g1 : fuI (fun w => wdS Tb (tkK Tb L f) f (tkE Tb L f) w.toNat) 1 14 = fuI (fun w => wdS Tb (tkK Tb L f) f (tkE Tb L f) w.toNat) 2 14 := ff 1 (by omega) (fun z => q1 (w1.mp z))
    rw [if_neg q1]
    by_cases q2 : tkX Tb L f = 90104
    · rw [if_pos q2, g0, g1, show fuI (fun w => wdS Tb (tkK Tb L f) f (tkE Tb L f) w.toNat) 2 14 = 2 from fuI_t (by omega) (w2.mpr q2)] <;> rfl
    have g2 : fuI (fun w => wdS Tb (tkK Tb L f) f (tkE Tb L f) w.toNat) 2 14 = fuI (fun w => wdS Tb (tkK Tb L f) f (tkE Tb L f) w.toNat) 3 14 := ff 2 (by omega) (fun z => q2 (w2.mp z))
    rw [if_neg q2]
    by_cases q3 : tkX Tb L f = 70031
    · rw [if_pos q3, g0, g1, g2, show fuI (fun w => wdS Tb (tkK Tb L f) f (tkE Tb L f) w.toNat) 3 14 = 3 from fuI_t (by omega) (w3.mpr q3)] <;> rfl
    have g3 : fuI (fun w => wdS Tb (tkK Tb L f) f (tkE Tb L f) w.toNat) 3 14 = fuI (fun w => wdS Tb (tkK Tb L f) f (tkE Tb L f) w.toNat) 4 14 := ff 3 (by omega) (fun z => q3 (w3.mp z))
    rw [if_neg q3]
    by_cases q4 : tkX Tb L f = 113084
    · rw [if_pos q4, g0, g1, g2, g3, show fuI (fun w => wdS Tb (tkK Tb L f) f (tkE Tb L f) w.toNat) 4 14 = 4 from fuI_t (by omega) (w4.mpr q4)] <;> rfl
    have g4 : fuI (fun w => wdS Tb (tkK Tb L f) f (tkE Tb L f) w.toNat) 4 14 = fuI (fun w => wdS Tb (tkK Tb L f) f (tkE Tb L f) w.toNat) 5 14 := ff 4 (by omega) (fun z => q4 (w4.mp z))
    rw [if_neg q4]
    by_cases q5 : tkX Tb L f = 409469
    · rw [if_pos q5, g0, g1, g2, g3, g4, show fuI (fun w => wdS Tb (tkK Tb L f) f (tkE Tb L f) w.toNat) 5 14 = 5 from fuI_t (by omega) (w5.mpr q5)] <;> rfl
    have g5 : fuI (fun w => wdS Tb (tkK Tb L f) f (tkE Tb L f) w.toNat) 5 14 = fuI (fun w => wdS Tb (tkK Tb L f) f (tkE Tb L f) w.toNat) 6 14 := ff 5 (by omega) (fun z => q5 (w5.mp z))
    rw [if_neg q5]
    by_cases q6 : tkX Tb L f = 124995
    · rw [if_pos q6, g0, g1, g2, g3, g4, g5, show fuI (fun w => wdS Tb (tkK Tb L f) f (tkE Tb L f) w.toNat) 6 14 = 6 from fuI_t (by omega) (w6.mpr q6)] <;> rfl
    have g6 : fuI (fun w => wdS Tb (tkK Tb L f) f (tkE Tb L f) w.toNat) 6 14 = fuI (fun w => wdS Tb (tkK Tb L f) f (tkE Tb L f) w.toNat) 7 14 := ff 6 (by omega) (fun z => q6 (w6.mp z))
    rw [if_neg q6]
    by_cases q7 : tkX Tb L f = 126893
    · rw [if_pos q7, g0, g1, g2, g3, g4, g5, g6, show fuI (fun w => wdS Tb (tkK Tb L f) f (tkE Tb L f) w.toNat) 7 14 = 7 from fuI_t (by omega) (w7.mpr q7)] <;> rfl
    have g7 : fuI (fun w => wdS Tb (tkK Tb L f) f (tkE Tb L f) w.toNat) 7 14 = fuI (fun w => wdS Tb (tkK Tb L f) f (tkE Tb L f) w.toNat) 8 14 := ff 7 (by omega) (fun z => q7 (w7.mp z))
    rw [if_neg q7]
    by_cases q8 : tkX Tb L f = 92275
    · rw [if_pos q8, g0, g1, g2, g3, g4, g5, g6, g7, show fuI (fun w => wdS Tb (tkK Tb L f) f (tkE Tb L f) w.toNat) 8 14 = 8 from fuI_t (by omega) (w8.mpr q8)] <;> rfl
    have g8 : fuI (fun w => wdS Tb (tkK Tb L f) f (tkE Tb L f) w.toNat) 8 14 = fuI (fun w => wdS Tb (tkK Tb L f) f (tkE Tb L f) w.toNat) 9 14 := ff 8 (by omega) (fun z => q8 (w8.mp z))
    rw [if_neg q8]
    by_cases q9 : tkX Tb L f = 257132
    · rw [if_pos q9, g0, g1, g2, g3, g4, g5, g6, g7, g8, show fuI (fun w => wdS Tb (tkK Tb L f) f (tkE Tb L f) w.toNat) 9 14 = 9 from fuI_t (by omega) (w9.mpr q9)] <;> rfl
    have g9 : fuI (fun w => wdS Tb (tkK Tb L f) f (tkE Tb L f) w.toNat) 9 14 = fuI (fun w => wdS Tb (tkK Tb L f) f (tkE Tb L f) w.toNat) 10 14 := ff 9 (by omega) (fun z => q9 (w9.mp z))
    rw [if_neg q9]
    by_cases q10 : tkX Tb L f = 40586
    · rw [if_pos q10, g0, g1, g2, g3, g4, g5, g6, g7, g8, g9, show fuI (fun w => wdS Tb (tkK Tb L f) f (tkE Tb L f) w.toNat) 10 14 = 10 from fuI_t (by omega) (w10.mpr q10)] <;> rfl
    have g10 : fuI (fun w => wdS Tb (tkK Tb L f) f (tkE Tb L f) w.toNat) 10 14 = fuI (fun w => wdS Tb (tkK Tb L f) f (tkE Tb L f) w.toNat) 11 14 := ff 10 (by omega) (fun z => q10 (w10.mp z))
    rw [if_neg q10]
    by_cases q11 : tkX Tb L f = 453836
    · rw [if_pos q11, g0, g1, g2, g3, g4, g5, g6, g7, g8, g9, g10, show fuI (fun w => wdS Tb (tkK Tb L f) f (tkE Tb L f) w.toNat) 11 14 = 11 from fuI_t (by omega) (w11.mpr q11)] <;> rfl
    have g11 : fuI (fun w => wdS Tb (tkK Tb L f) f (tkE Tb L f) w.toNat) 11 14 = fuI (fun w => wdS Tb (tkK Tb L f) f (tkE Tb L f) w.toNat) 12 14 := ff 11 (by omega) (fun z => q11 (w11.mp z))
    rw [if_neg q11]
    by_cases q12 : tkX Tb L f = 12391871
    · rw [if_pos q12, g0, g1, g2, g3, g4, g5, g6, g7, g8, g9, g10, g11, show fuI (fun w => wdS Tb (tkK Tb L f) f (tkE Tb L f) w.toNat) 12 14 = 12 from fuI_t (by omega) (w12.mpr q12)] <;> rfl
    have g12 : fuI (fun w => wdS Tb (tkK Tb L f) f (tkE Tb L f) w.toNat) 12 14 = fuI (fun w => wdS Tb (tkK Tb L f) f (tkE Tb L f) w.toNat) 13 14 := ff 12 (by omega) (fun z => q12 (w12.mp z))
    rw [if_neg q12]
    by_cases q13 : tkX Tb L f = 261256151
    · rw [if_pos q13, g0, g1, g2, g3, g4, g5, g6, g7, g8, g9, g10, g11, g12, show fuI (fun w => wdS Tb (tkK Tb L f) f (tkE Tb L f) w.toNat) 13 14 = 13 from fuI_t (by omega) (w13.mpr q13)] <;> rfl
    have g13 : fuI (fun w => wdS Tb (tkK Tb L f) f (tkE Tb L f) w.toNat) 13 14 = fuI (fun w => wdS Tb (tkK Tb L f) f (tkE Tb L f) w.toNat) 14 14 := ff 13 (by omega) (fun z => q13 (w13.mp z))
    rw [if_neg q13]
    rw [g0, g1, g2, g3, g4, g5, g6, g7, g8, g9, g10, g11, g12, g13, fuI_e (z := 14) (by omega)] <;> rfl
