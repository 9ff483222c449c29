/-! what a step asks of the volume -/
noncomputable def wantS (B : Int → Int) (s c n : Int) : Bool := if c = 61 then decide (vol B s = 10 * n) else if c = 60 then decide (vol B s < 10 * n) else decide (10 * n < vol B s)
