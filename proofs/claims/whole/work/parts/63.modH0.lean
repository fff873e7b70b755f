/-! ===== the reference: lots told and drawn ===== -/
set_option maxHeartbeats 4000000 in
set_option maxRecDepth 100000 in
theorem m_lot (k L a i : Nat) (hL : L < 2 ^ 63) (ha : 1 ≤ a) (ha2 : a ≤ 10) (hi : i ≤ 10) (h : PH) : Runs yX8_lot cX8_lot 7 (some .int) (k) [.long (lN L), .int (nI a), .int (nI i)] h (fun o h' => ∃ r : Int32, o = some (.int r) ∧ r = nI (L / a ^ i % a) ∧ h = h') := by
  refine Runs.of (by decide) (Nat.le_of_ble_eq_true rfl) [some (.long (lN L)), none, some (.int (nI a)), some (.int (nI i)), none, none, none] 3 rfl (fun Γ g z => ?_)
  have hd : ∀ j, L / a ^ j < 2 ^ 63 := fun j => Nat.lt_of_le_of_lt (Nat.div_le_self _ _) hL
  have loop : ∀ j, j ≤ i → PB Γ 6 [some (.long (lN L)), none, some (.int (nI a)), some (.int (nI i)), some (.long (lN (L / a ^ j))), none, some (.int (nI j))] [] h := by
    refine pb_loop i (fun j hj ih => ?_)
    have hdj := hd j
    refine pb_iload6 g dX8_lot_6 ?_
    refine pb_iload_n3 g dX8_lot_8 ?_
    first | refine pb_icmp_geN g 25 dX8_lot_9 (by decide) (by omega) (by omega) (fun c9 => ?_) (fun c9 => ?_) | refine pb_icmp_ge g 25 dX8_lot_9 (by decide) (fun c9 => ?_) (fun c9 => ?_)
    · refine pb_lload4 g dX8_lot_25 ?_
      refine pb_iload_n2 g dX8_lot_27 ?_
      first | refine pb_i2lN g dX8_lot_28 (by omega) ?_ | refine pb_i2l g dX8_lot_28 ?_
      first | refine pb_lremN g dX8_lot_29 (by omega) (by omega) (by omega) ?_ | refine pb_lrem g dX8_lot_29 (by assumption) ?_
      first | refine pb_l2iN g dX8_lot_30 ?_ | refine pb_l2i g dX8_lot_30 ?_
      refine pb_iret g z dX8_lot_31 ?_
      obtain rfl : j = i := by omega
      exact ⟨_, rfl, rfl, rfl⟩
    · refine pb_lload4 g dX8_lot_12 ?_
      refine pb_iload_n2 g dX8_lot_14 ?_
      first | refine pb_i2lN g dX8_lot_15 (by omega) ?_ | refine pb_i2l g dX8_lot_15 ?_
      first | refine pb_ldivN g dX8_lot_16 (by omega) (by omega) (by omega) ?_ | refine pb_ldiv g dX8_lot_16 (by assumption) ?_
      refine pb_lstore4 g dX8_lot_17 (by decide) ?_
      first | refine pb_iinc6N g dX8_lot_19 (by decide) ?_ | refine pb_iinc6 g dX8_lot_19 (by decide) rfl ?_
      refine pb_goto g 6 dX8_lot_22 (by decide) ?_
      rw [Nat.div_div_eq_div_mul, ← Nat.pow_succ]
      exact ih c9
  refine pb_lload_n0 g dX8_lot_0 ?_
  refine pb_lstore4 g dX8_lot_1 (by decide) ?_
  refine pb_iconst (v := nI 0) g dX8_lot_3 (by decide) ?_
  refine pb_istore6 g dX8_lot_4 (by decide) ?_
  have z9 := loop 0 (Nat.zero_le _)
  rw [Nat.pow_zero, Nat.div_one] at z9
  exact z9
