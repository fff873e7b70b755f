def rsL (n a : Nat) : Nat → Nat
  | 0 => 0
  | d + 1 => rsL n a d + eu n d * choF (a + n - 1 - d) n
theorem rs_ok : ∀ n, n < 11 → ∀ m, m < n → (m + 1) ^ n - rsL n (m + 1) m = eu n m ∧ ∀ d, d < m + 1 → rsL n (m + 1) d ≤ (m + 1) ^ n := by decide +kernel
