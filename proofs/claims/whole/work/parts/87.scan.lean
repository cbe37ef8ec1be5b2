/-! ===== the parting: both scans find one set ===== -/
def rv8 (m : Nat) : Nat := m % 2 * 128 + m / 2 % 2 * 64 + m / 4 % 2 * 32 + m / 8 % 2 * 16 + m / 16 % 2 * 8 + m / 32 % 2 * 4 + m / 64 % 2 * 2 + m / 128 % 2
def rv (l m : Nat) : Nat := rv8 m / 2 ^ (8 - l)
theorem rv_ok : ∀ l, l < 9 → ∀ m, m < 2 ^ l → rv l m < 2 ^ l ∧ rv l (rv l m) = m ∧ pop8 (rv l m) = pop8 m ∧ rv8 (rv l m) = m * 2 ^ (8 - l) := by decide +kernel
theorem rv_b0 : ∀ l, l < 9 → rv l (2 ^ l - 1) = 2 ^ l - 1 ∧ rv l 0 = 0 ∧ 1 ≤ 2 ^ l ∧ 2 ^ l ≤ 256 ∧ 1 ≤ 2 ^ (8 - l) := by decide +kernel
theorem rv_bit : ∀ l, l < 9 → ∀ m, m < 2 ^ l → ∀ i, i < l → m / 2 ^ (l - 1 - i) % 2 = rv l m / 2 ^ i % 2 := by decide +kernel
def lwb (d : Nat) : Nat := if d % 2 = 1 then 1 else if d / 2 % 2 = 1 then 2 else if d / 4 % 2 = 1 then 4 else if d / 8 % 2 = 1 then 8 else if d / 16 % 2 = 1 then 16 else if d / 32 % 2 = 1 then 32 else if d / 64 % 2 = 1 then 64 else if d / 128 % 2 = 1 then 128 else 0
theorem low_ok : ∀ s, s < 256 → ∀ b, b < 256 → decide ((nI s &&& (nI s ^^^ nI b)) &&& -(nI s ^^^ nI b) = 0) = decide (¬ rv8 b < rv8 s) := by decide +kernel
