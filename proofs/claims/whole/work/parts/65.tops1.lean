set_option maxRecDepth 100000 in
theorem cnt_ok : ∀ n, n < 7 → ∀ l, l < n → smF (fun i => if lvR n i = l then 1 else 0) (fac n) = upF n l - loF n l := by decide +kernel
theorem fac6 : ∀ n, n < 7 → fac n ≤ 720 := by decide
theorem fL_sm (ct rw : Nat → Nat) (A B : Nat) : ∀ n, fL ct rw A B n = smF (fun l => ct l * (rw l * B - A + (A - rw l * B))) n
  | 0 => rfl
  | n + 1 => by
    rw [fL, fL_sm ct rw A B n]
    rfl
theorem far_top {n k A B : Nat} (hn : n < 7) (hn1 : 1 ≤ n) : smF (fun i => gF n k i * B - A + (A - gF n k i * B)) (fac n) = fL (fun l => upF n l - loF n l) (fun lv => stS k lv (n + 1 - lv)) A B n := by
  rw [fL_sm]
  have h1 : smF (fun i => gF n k i * B - A + (A - gF n k i * B)) (fac n) = smF (fun i => smF (fun l => if lvR n i = l then stS k l (n + 1 - l) * B - A + (A - stS k l (n + 1 - l) * B) else 0) n) (fac n) := sm_congr _ (fun i _ => by
    have h2 : smF (fun l => if lvR n i = l then stS k l (n + 1 - l) * B - A + (A - stS k l (n + 1 - l) * B) else 0) n = smF (fun l => if l = lvR n i then gF n k i * B - A + (A - gF n k i * B) else 0) n := sm_congr n (fun l _ => by
      by_cases q : lvR n i = l
      · rw [if_pos q, if_pos q.symm, ← q]
        rfl
      · rw [if_neg q, if_neg (fun z => q z.symm)])
    rw [h2, sm_one, if_pos (lvR_lt hn1)])
  rw [h1, sm_swap]
  refine sm_congr n (fun l hl => ?_)
  rw [← cnt_ok n hn l hl, Nat.mul_comm (smF _ (fac n)), sm_mul]
  refine sm_congr _ (fun i _ => ?_)
  by_cases q : lvR n i = l
  · rw [if_pos q, if_pos q, Nat.mul_one]
  · rw [if_neg q, if_neg q, Nat.mul_zero]
theorem gF_lt {n k r : Nat} (hn : n < 7) (hn1 : 1 ≤ n) (hk : k < 7) : gF n k r < 2 ^ 20 := by
  have h1 := lvR_lt (r := r) hn1
  exact stS_lt k hk _ (by omega) _ (by omega)
