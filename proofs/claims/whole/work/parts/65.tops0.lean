/-! ===== levels of all orders of at most six cards ===== -/
set_option maxRecDepth 100000 in
theorem g0_ok : ∀ n, n < 7 → ∀ r, r < fac n → gF n 0 r = if r = 0 then 1 else 0 := by decide +kernel
