/-! THE GENERATOR: the check, and what it says -/
def evs (m G n : Nat) : Nat → Bool
  | 0 => true
  | k + 1 => evs m G n k && decide (evH m (2 * k + 1) G n 0 = 0)
def ckg (m : Nat) : Nat → Nat → Nat → Nat → Bool
  | 0, _, _, _ => true
  | f + 1, t, G, r => frc (mpF m (2 * t + 1)) (fun v => frc (if cnew (2 * t + 1) m then clm G v (r + 1) else G) (fun G1 => frc (if cnew (2 * t + 1) m then r + csize (2 * t + 1) m else r) (fun r1 =>
      (if evH m (2 * t + 1) G (r + 1) 0 = 0 then decide (G1 = G) && decide (r1 = r) else decide (clm v G 14 = G1) && decide (r + gtp v 14 = r1)) && decide (evH m (2 * t + 2) G1 (r1 + 1) 0 = 0) && decide (G1 / 2 ^ r1 = 1) && decide (v < 2 ^ (csize (2 * t + 1) m + 1)) && decide (1 ≤ r1) && evs m G1 (r1 + 1) (t + 1) && ckg m f (t + 1) G1 r1)))
set_option maxRecDepth 100000 in
theorem ckg_all : ∀ m, m < 14 → 3 ≤ m → ckg m 8 0 1 0 = true := by decide +kernel
