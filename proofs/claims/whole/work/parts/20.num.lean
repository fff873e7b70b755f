/-! ===== Numbers, Ways ===== -/
set_option maxHeartbeats 4000000 in
set_option maxRecDepth 100000 in
theorem c_raised (k b t : Nat) (ht : t < 2 ^ 31) (h : PH) : Runs yX1_raised cX1_raised 6 (some .long) (k) [.long (lN b), .int (nI t)] h (fun o h' => ∃ r : Int64, o = some (.long r) ∧ r = lN (b ^ t) ∧ h = h') := by
  refine Runs.of (by decide) (Nat.le_of_ble_eq_true rfl) [some (.long (lN b)), none, some (.int (nI t)), none, none, none] 3 rfl (fun Γ g z => ?_)
  have loop : ∀ i, i ≤ t → PB Γ 5 [some (.long (lN b)), none, some (.int (nI t)), some (.long (lN (b ^ i))), none, some (.int (nI i))] [] (h) := by
    refine pb_loop (t) (fun i hi ih => ?_)
    refine pb_iload5 g dX1_raised_5 ?_
    refine pb_iload_n2 g dX1_raised_7 ?_
    first | refine pb_icmp_geN g 21 dX1_raised_8 (by decide) (by omega) (by omega) (fun c8 => ?_) (fun c8 => ?_) | refine pb_icmp_ge g 21 dX1_raised_8 (by decide) (fun c8 => ?_) (fun c8 => ?_)
    · refine pb_lload_n3 g dX1_raised_21 ?_
      refine pb_lret g z dX1_raised_22 ?_
      exact ⟨_, rfl, by rw [show i = t by omega], rfl⟩
    · refine pb_lload_n3 g dX1_raised_11 ?_
      refine pb_lload_n0 g dX1_raised_12 ?_
      first | refine pb_lmulN g dX1_raised_13 ?_ | refine pb_lmul g dX1_raised_13 ?_
      refine pb_lstore_n3 g dX1_raised_14 (by decide) ?_
      first | refine pb_iinc5N g dX1_raised_15 (by decide) ?_ | refine pb_iinc5 g dX1_raised_15 (by decide) rfl ?_
      refine pb_goto g 5 dX1_raised_18 (by decide) ?_
      exact ih c8
  refine pb_lconst (v := lN 1) g dX1_raised_0 rfl ?_
  refine pb_lstore_n3 g dX1_raised_1 (by decide) ?_
  refine pb_iconst (v := nI 0) g dX1_raised_2 (by decide) ?_
  refine pb_istore5 g dX1_raised_3 (by decide) ?_
  exact loop 0 (Nat.zero_le _)
def chL (o t : Nat) : Nat → Nat
  | 0 => 1
  | i + 1 => chL o t i * (o - t + (i + 1)) / (i + 1)
def choF (o t : Nat) : Nat := if o < t then 0 else chL o t t
theorem chL_bd : ∀ o, o < 21 → ∀ t, t < 11 → ∀ i, i < t → chL o t i * (o - t + (i + 1)) < 2 ^ 63 := by decide +kernel
set_option maxHeartbeats 4000000 in
set_option maxRecDepth 100000 in
theorem c_choices (k oo t : Nat) (ho : oo < 21) (ht : t < 11) (h : PH) : Runs yX1_choices cX1_choices 5 (some .long) (k) [.int (nI oo), .int (nI t)] h (fun o h' => ∃ r : Int64, o = some (.long r) ∧ r = lN (choF oo t) ∧ h = h') := by
  refine Runs.of (by decide) (Nat.le_of_ble_eq_true rfl) [some (.int (nI oo)), some (.int (nI t)), none, none, none] 3 rfl (fun Γ g z => ?_)
  by_cases hto : t ≤ oo
  · have loop : ∀ i, i ≤ t → PB Γ 12 [some (.int (nI oo)), some (.int (nI t)), some (.long (lN (chL oo t i))), none, some (.int (nI (i + 1)))] [] h := by
      refine pb_loop t (fun i hi ih => ?_)
      by_cases hit : i < t
      · have hbd := chL_bd oo ho t ht i hit
        refine pb_iload4 g dX1_choices_12 ?_
        refine pb_iload_n1 g dX1_choices_14 ?_
        first | refine pb_icmp_gtN g 38 dX1_choices_15 (by decide) (by omega) (by omega) (fun c15 => ?_) (fun c15 => ?_) | refine pb_icmp_gt g 38 dX1_choices_15 (by decide) (fun c15 => ?_) (fun c15 => ?_)
        · exact absurd c15 (by omega)
        · refine pb_lload_n2 g dX1_choices_18 ?_
          refine pb_iload_n0 g dX1_choices_19 ?_
          refine pb_iload_n1 g dX1_choices_20 ?_
          first | refine pb_isubN g dX1_choices_21 (by omega) ?_ | refine pb_isub g dX1_choices_21 ?_
          refine pb_iload4 g dX1_choices_22 ?_
          first | refine pb_iaddN g dX1_choices_24 ?_ | refine pb_iadd g dX1_choices_24 ?_
          first | refine pb_i2lN g dX1_choices_25 (by omega) ?_ | refine pb_i2l g dX1_choices_25 ?_
          first | refine pb_lmulN g dX1_choices_26 ?_ | refine pb_lmul g dX1_choices_26 ?_
          refine pb_iload4 g dX1_choices_27 ?_
          first | refine pb_i2lN g dX1_choices_29 (by omega) ?_ | refine pb_i2l g dX1_choices_29 ?_
          first | refine pb_ldivN g dX1_choices_30 (by omega) (by omega) (by omega) ?_ | refine pb_ldiv g dX1_choices_30 (by assumption) ?_
          refine pb_lstore_n2 g dX1_choices_31 (by decide) ?_
          first | refine pb_iinc4N g dX1_choices_32 (by decide) ?_ | refine pb_iinc4 g dX1_choices_32 (by decide) rfl ?_
          refine pb_goto g 12 dX1_choices_35 (by decide) ?_
          exact ih hit
      · obtain rfl : i = t := by omega
        refine pb_iload4 g dX1_choices_12 ?_
        refine pb_iload_n1 g dX1_choices_14 ?_
        first | refine pb_icmp_gtN g 38 dX1_choices_15 (by decide) (by omega) (by omega) (fun c15 => ?_) (fun c15 => ?_) | refine pb_icmp_gt g 38 dX1_choices_15 (by decide) (fun c15 => ?_) (fun c15 => ?_)
        · refine pb_lload_n2 g dX1_choices_38 ?_
          refine pb_lret g z dX1_choices_39 ?_
          exact ⟨_, rfl, by rw [choF, if_neg (by omega)], rfl⟩
        · exact absurd c15 (by omega)
    refine pb_iload_n1 g dX1_choices_0 ?_
    refine pb_iload_n0 g dX1_choices_1 ?_
    first | refine pb_icmp_leN g 7 dX1_choices_2 (by decide) (by omega) (by omega) (fun c2 => ?_) (fun c2 => ?_) | refine pb_icmp_le g 7 dX1_choices_2 (by decide) (fun c2 => ?_) (fun c2 => ?_)
    · refine pb_lconst (v := lN 1) g dX1_choices_7 rfl ?_
      refine pb_lstore_n2 g dX1_choices_8 (by decide) ?_
      refine pb_iconst (v := nI 1) g dX1_choices_9 (by decide) ?_
      refine pb_istore4 g dX1_choices_10 (by decide) ?_
      exact loop 0 (Nat.zero_le _)
    · exact absurd c2 (by omega)
  ·
    refine pb_iload_n1 g dX1_choices_0 ?_
    refine pb_iload_n0 g dX1_choices_1 ?_
    first | refine pb_icmp_leN g 7 dX1_choices_2 (by decide) (by omega) (by omega) (fun c2 => ?_) (fun c2 => ?_) | refine pb_icmp_le g 7 dX1_choices_2 (by decide) (fun c2 => ?_) (fun c2 => ?_)
    · exact absurd c2 (by omega)
    · refine pb_lconst (v := lN 0) g dX1_choices_5 rfl ?_
      refine pb_lret g z dX1_choices_6 ?_
      exact ⟨_, rfl, by rw [choF, if_pos (by omega)], rfl⟩
set_option maxHeartbeats 4000000 in
set_option maxRecDepth 100000 in
theorem c_splits (k oo t a b : Nat) (ho : oo < 21) (ht : t < 11) (hto : t ≤ oo) (ha : a < 2 ^ 31) (hb : b < 2 ^ 31) (h : PH) : Runs yX1_splits cX1_splits 4 (some .long) (k + 1) [.int (nI oo), .int (nI t), .int (nI a), .int (nI b)] h (fun o h' => ∃ r : Int64, o = some (.long r) ∧ r = lN (choF oo t * a ^ t * b ^ (oo - t)) ∧ h = h') := by
  refine Runs.of (by decide) (Nat.le_of_ble_eq_true rfl) [some (.int (nI oo)), some (.int (nI t)), some (.int (nI a)), some (.int (nI b))] 0 rfl (fun Γ g z => ?_)
  refine pb_iload_n0 g dX1_splits_0 ?_
  refine pb_iload_n1 g dX1_splits_1 ?_
  refine pb_Sl2 g qX1_9 dX1_splits_2 k (by omega) (c_choices k oo t ho ht h) (fun r2 h2 e2 => ?_)
  obtain ⟨rfl, rfl⟩ := e2
  refine pb_iload_n2 g dX1_splits_5 ?_
  first | refine pb_i2lN g dX1_splits_6 (by omega) ?_ | refine pb_i2l g dX1_splits_6 ?_
  refine pb_iload_n1 g dX1_splits_7 ?_
  refine pb_Sl2 g qX1_15 dX1_splits_8 k (by omega) (c_raised k a t (by omega) h) (fun r8 h8 e8 => ?_)
  obtain ⟨rfl, rfl⟩ := e8
  first | refine pb_lmulN g dX1_splits_11 ?_ | refine pb_lmul g dX1_splits_11 ?_
  refine pb_iload_n3 g dX1_splits_12 ?_
  first | refine pb_i2lN g dX1_splits_13 (by omega) ?_ | refine pb_i2l g dX1_splits_13 ?_
  refine pb_iload_n0 g dX1_splits_14 ?_
  refine pb_iload_n1 g dX1_splits_15 ?_
  first | refine pb_isubN g dX1_splits_16 (by omega) ?_ | refine pb_isub g dX1_splits_16 ?_
  refine pb_Sl2 g qX1_15 dX1_splits_17 k (by omega) (c_raised k b (oo - t) (by omega) h) (fun r17 h17 e17 => ?_)
  obtain ⟨rfl, rfl⟩ := e17
  first | refine pb_lmulN g dX1_splits_20 ?_ | refine pb_lmul g dX1_splits_20 ?_
  refine pb_lret g z dX1_splits_21 ?_
  exact ⟨_, rfl, rfl, rfl⟩
/-- Euclid's pair behind i steps, as long as the lower one isn't 0 -/
def euP (a b : Nat) : Nat → Nat × Nat
  | 0 => (a, b)
  | i + 1 => if (euP a b i).2 = 0 then euP a b i else ((euP a b i).2, (euP a b i).1 % (euP a b i).2)
theorem euP_gcd (a b : Nat) : ∀ i, Nat.gcd (euP a b i).1 (euP a b i).2 = Nat.gcd a b
  | 0 => rfl
  | i + 1 => by
    have ih := euP_gcd a b i
    unfold euP
    split
    · exact ih
    · show Nat.gcd (euP a b i).2 ((euP a b i).1 % (euP a b i).2) = _
      rw [← ih, Nat.gcd_comm (euP a b i).2, ← Nat.gcd_rec, Nat.gcd_comm]
theorem euP_le (a b M : Nat) (ha : a < M) (hb : b < M) : ∀ i, (euP a b i).1 < M ∧ (euP a b i).2 < M
  | 0 => ⟨ha, hb⟩
  | i + 1 => by
    obtain ⟨h1, h2⟩ := euP_le a b M ha hb i
    unfold euP
    split
    · exact ⟨h1, h2⟩
    · next hn => exact ⟨h2, Nat.lt_of_le_of_lt (Nat.le_of_lt (Nat.mod_lt _ (Nat.pos_of_ne_zero hn))) h2⟩
def fibP : Nat → Nat × Nat
  | 0 => (0, 1)
  | n + 1 => ((fibP n).2, (fibP n).1 + (fibP n).2)
/-- from a pair with the lower one below the upper: a lower one above 0 behind n steps makes the first pair as large as Fibonacci's -/
theorem euP_fib (a b : Nat) (s : Nat) : ∀ n i, (euP a b i).2 < (euP a b i).1 → i + n = s → (euP a b s).2 ≠ 0 → (fibP (n + 1)).1 ≤ (euP a b i).2 ∧ (fibP (n + 1)).2 ≤ (euP a b i).1
  | 0, i, hlt, he, hne => by
    obtain rfl : i = s := by omega
    have h1 : 0 < (euP a b i).2 := Nat.pos_of_ne_zero hne
    refine ⟨h1, ?_⟩
    show 0 + 1 ≤ _
    omega
  | n + 1, i, hlt, he, hne => by
    by_cases h0 : (euP a b i).2 = 0
    · exfalso
      have key : ∀ d, (euP a b (i + d)).2 = 0 := by
        intro d
        induction d with
        | zero => exact h0
        | succ d ihd =>
          show (euP a b (i + d + 1)).2 = 0
          unfold euP
          rw [if_pos ihd]
          exact ihd
      have := key (n + 1)
      rw [he] at this
      exact hne this
    · have e1 : euP a b (i + 1) = ((euP a b i).2, (euP a b i).1 % (euP a b i).2) := by
        rw [euP, if_neg h0]
      have hm : (euP a b i).1 % (euP a b i).2 < (euP a b i).2 := Nat.mod_lt _ (Nat.pos_of_ne_zero h0)
      obtain ⟨f1, f2⟩ := euP_fib a b s n (i + 1) (by rw [e1]; exact hm) (by omega) hne
      rw [e1] at f1 f2
      dsimp only at f1 f2
      have hge : (euP a b i).2 + (euP a b i).1 % (euP a b i).2 ≤ (euP a b i).1 := by
        have h1 := Nat.div_add_mod (euP a b i).1 (euP a b i).2
        have h2 : 1 ≤ (euP a b i).1 / (euP a b i).2 := Nat.div_pos (Nat.le_of_lt hlt) (Nat.pos_of_ne_zero h0)
        have h3 : (euP a b i).2 * 1 ≤ (euP a b i).2 * ((euP a b i).1 / (euP a b i).2) := Nat.mul_le_mul_left _ h2
        omega
      refine ⟨f2, ?_⟩
      show (fibP (n + 1)).1 + (fibP (n + 1)).2 ≤ _
      omega
theorem euP_end (a b : Nat) (ha : a < 2 ^ 63) (hb : b < 2 ^ 63) : (euP a b 100).2 = 0 := by
  apply Classical.byContradiction
  intro hne
  by_cases h0 : b = 0
  · have key : ∀ d, (euP a b d).2 = 0 := by
      intro d
      induction d with
      | zero => exact h0
      | succ d ihd =>
        unfold euP
        rw [if_pos ihd]
        exact ihd
    exact hne (key 100)
  · have e1 : euP a b 1 = (b, a % b) := by
      rw [euP, if_neg (show ¬ (euP a b 0).2 = 0 from h0)]
      rfl
    have hlt : (euP a b 1).2 < (euP a b 1).1 := by
      rw [e1]
      exact Nat.mod_lt _ (Nat.pos_of_ne_zero h0)
    have h2 := (euP_fib a b 100 99 1 hlt rfl hne).1
    have h3 := (euP_le a b (2 ^ 63) ha hb 1).2
    have h4 : 2 ^ 63 < (fibP 100).1 := by decide +kernel
    have h5 : (fibP (99 + 1)).1 = (fibP 100).1 := rfl
    omega
theorem euP_stop (a b s : Nat) (h : (euP a b s).2 = 0) : (euP a b s).1 = Nat.gcd a b := by
  rw [← euP_gcd a b s, h, Nat.gcd_zero_right]
set_option maxHeartbeats 4000000 in
set_option maxRecDepth 100000 in
theorem c_divisor (k a b : Nat) (ha : a < 2 ^ 63) (hb : b < 2 ^ 63) (h : PH) : Runs yX1_divisor cX1_divisor 11 (some .long) (k + 1) [.long (lN a), .long (lN b)] h (fun o h' => ∃ r : Int64, o = some (.long r) ∧ r = lN (max 1 (Nat.gcd a b)) ∧ h = h') := by
  refine Runs.of (by decide) (Nat.le_of_ble_eq_true rfl) [some (.long (lN a)), none, some (.long (lN b)), none, none, none, none, none, none, none, none] 7 rfl (fun Γ g z => ?_)
  have loop : ∀ i, i ≤ 100 → ∀ w : Option Value, PB Γ 9 [some (.long (lN a)), none, some (.long (lN b)), none, some (.long (lN (euP a b i).1)), none, some (.long (lN (euP a b i).2)), none, some (.int (nI i)), w, none] [] h := by
    refine pb_loop 100 (fun i hi ih w => ?_)
    obtain ⟨m1, m2⟩ := euP_le a b (2 ^ 63) ha hb i
    have m3 := euP_stop a b i
    by_cases h0 : (euP a b i).2 = 0
    · have e100 : True := trivial
      refine pb_iload8 g dX1_divisor_9 ?_
      refine pb_bipush (v := nI 100) g dX1_divisor_11 (by decide) ?_
      first | refine pb_icmp_geN g 44 dX1_divisor_13 (by decide) (by omega) (by omega) (fun c13 => ?_) (fun c13 => ?_) | refine pb_icmp_ge g 44 dX1_divisor_13 (by decide) (fun c13 => ?_) (fun c13 => ?_)
      · refine pb_lconst (v := lN 1) g dX1_divisor_44 rfl ?_
        refine pb_lload4 g dX1_divisor_45 ?_
        first | refine pb_mmaxlN g qX1_19 (by omega) dX1_divisor_47 (by omega) (by omega) ?_ | refine pb_mmaxl g qX1_19 (by omega) dX1_divisor_47 ?_
        refine pb_lret g z dX1_divisor_50 ?_
        exact ⟨_, rfl, by rw [m3 (by assumption)], rfl⟩
      · refine pb_lload6 g dX1_divisor_16 ?_
        refine pb_lconst (v := lN 0) g dX1_divisor_18 rfl ?_
        first | refine pb_lc_eqN g 44 dX1_divisor_19 dX1_divisor_20 (by decide) (by omega) (by omega) (fun c19 => ?_) (fun c19 => ?_) | refine pb_lc_eq g 44 dX1_divisor_19 dX1_divisor_20 (by decide) (fun c19 => ?_) (fun c19 => ?_)
        · refine pb_lconst (v := lN 1) g dX1_divisor_44 rfl ?_
          refine pb_lload4 g dX1_divisor_45 ?_
          first | refine pb_mmaxlN g qX1_19 (by omega) dX1_divisor_47 (by omega) (by omega) ?_ | refine pb_mmaxl g qX1_19 (by omega) dX1_divisor_47 ?_
          refine pb_lret g z dX1_divisor_50 ?_
          exact ⟨_, rfl, by rw [m3 (by assumption)], rfl⟩
        · exact absurd h0 c19
    · have hi2 : i < 100 := by
        rcases Nat.lt_or_ge i 100 with q | q
        · exact q
        · exact absurd (by rw [show i = 100 by omega]; exact euP_end a b ha hb) h0
      have e1 : euP a b (i + 1) = ((euP a b i).2, (euP a b i).1 % (euP a b i).2) := by rw [euP, if_neg h0]
      have ih := ih hi2
      rw [e1] at ih
      refine pb_iload8 g dX1_divisor_9 ?_
      refine pb_bipush (v := nI 100) g dX1_divisor_11 (by decide) ?_
      first | refine pb_icmp_geN g 44 dX1_divisor_13 (by decide) (by omega) (by omega) (fun c13 => ?_) (fun c13 => ?_) | refine pb_icmp_ge g 44 dX1_divisor_13 (by decide) (fun c13 => ?_) (fun c13 => ?_)
      · exact absurd c13 (by omega)
      · refine pb_lload6 g dX1_divisor_16 ?_
        refine pb_lconst (v := lN 0) g dX1_divisor_18 rfl ?_
        first | refine pb_lc_eqN g 44 dX1_divisor_19 dX1_divisor_20 (by decide) (by omega) (by omega) (fun c19 => ?_) (fun c19 => ?_) | refine pb_lc_eq g 44 dX1_divisor_19 dX1_divisor_20 (by decide) (fun c19 => ?_) (fun c19 => ?_)
        · exact absurd c19 h0
        · refine pb_lload4 g dX1_divisor_23 ?_
          refine pb_lload6 g dX1_divisor_25 ?_
          first | refine pb_lremN g dX1_divisor_27 (by omega) (by omega) (by omega) ?_ | refine pb_lrem g dX1_divisor_27 (by assumption) ?_
          refine pb_lstore9 g dX1_divisor_28 (by decide) ?_
          refine pb_lload6 g dX1_divisor_30 ?_
          refine pb_lstore4 g dX1_divisor_32 (by decide) ?_
          refine pb_lload9 g dX1_divisor_34 ?_
          refine pb_lstore6 g dX1_divisor_36 (by decide) ?_
          first | refine pb_iinc8N g dX1_divisor_38 (by decide) ?_ | refine pb_iinc8 g dX1_divisor_38 (by decide) rfl ?_
          refine pb_goto g 9 dX1_divisor_41 (by decide) ?_
          exact ih _
  refine pb_lload_n0 g dX1_divisor_0 ?_
  refine pb_lstore4 g dX1_divisor_1 (by decide) ?_
  refine pb_lload_n2 g dX1_divisor_3 ?_
  refine pb_lstore6 g dX1_divisor_4 (by decide) ?_
  refine pb_iconst (v := nI 0) g dX1_divisor_6 (by decide) ?_
  refine pb_istore8 g dX1_divisor_7 (by decide) ?_
  exact loop 0 (Nat.zero_le _) _
set_option maxHeartbeats 4000000 in
set_option maxRecDepth 100000 in
theorem c_part (k a b w : Nat) (ha : a < 2 ^ 63) (hb : b < 2 ^ 63) (h0 : 0 < b) (hw : w < 2) (h : PH) : Runs yX1_part cX1_part 7 (some .long) (k + 2) [.long (lN a), .long (lN b), .int (nI w)] h (fun o h' => ∃ r : Int64, o = some (.long r) ∧ r = lN ((if w = 0 then a else b) / Nat.gcd a b) ∧ h = h') := by
  refine Runs.of (by decide) (Nat.le_of_ble_eq_true rfl) [some (.long (lN a)), none, some (.long (lN b)), none, some (.int (nI w)), none, none] 2 rfl (fun Γ g z => ?_)
  have hg0 : 0 < Nat.gcd a b := Nat.gcd_pos_of_pos_right a h0
  have hg1 : Nat.gcd a b ≤ b := Nat.le_of_dvd h0 (Nat.gcd_dvd_right a b)
  have hg : max 1 (Nat.gcd a b) = Nat.gcd a b := by omega
  refine pb_lload_n0 g dX1_part_0 ?_
  refine pb_lload_n2 g dX1_part_1 ?_
  refine pb_Sl2 g qX1_25 dX1_part_2 (k + 1) (by omega) (c_divisor k a b ha hb h) (fun r2 h2 e2 => ?_)
  obtain ⟨rfl, rfl⟩ := e2
  rw [hg]
  refine pb_lstore5 g dX1_part_5 (by decide) ?_
  refine pb_iload4 g dX1_part_7 ?_
  first | refine pb_if_neN g 16 dX1_part_9 (by decide) (by omega) (fun c9 => ?_) (fun c9 => ?_) | refine pb_if_ne g 16 dX1_part_9 (by decide) (fun c9 => ?_) (fun c9 => ?_)
  · refine pb_lload_n2 g dX1_part_16 ?_
    refine pb_lload5 g dX1_part_17 ?_
    first | refine pb_ldivN g dX1_part_19 (by omega) (by omega) (by omega) ?_ | refine pb_ldiv g dX1_part_19 (by assumption) ?_
    refine pb_lret g z dX1_part_20 ?_
    exact ⟨_, rfl, by first | rw [if_pos (by assumption)] | rw [if_neg (by assumption)], rfl⟩
  · refine pb_lload_n0 g dX1_part_12 ?_
    refine pb_goto g 17 dX1_part_13 (by decide) ?_
    refine pb_lload5 g dX1_part_17 ?_
    first | refine pb_ldivN g dX1_part_19 (by omega) (by omega) (by omega) ?_ | refine pb_ldiv g dX1_part_19 (by assumption) ?_
    refine pb_lret g z dX1_part_20 ?_
    exact ⟨_, rfl, by first | rw [if_pos (by assumption)] | rw [if_neg (by assumption)], rfl⟩
set_option maxHeartbeats 4000000 in
set_option maxRecDepth 100000 in
theorem c_carried (k i w n : Nat) (hi : i < n) (hw : w < 2) (hn : n ≤ 10) (h : PH) : Runs yX6_carried cX6_carried 4 (some .int) (k) [.int (nI i), .int (nI w), .int (nI n)] h (fun o h' => ∃ r : Int32, o = some (.int r) ∧ r = nI (if i < n / 2 then 2 * i + w else 2 * (i - n / 2) + 1 - w) ∧ h = h') := by
  refine Runs.of (by decide) (Nat.le_of_ble_eq_true rfl) [some (.int (nI i)), some (.int (nI w)), some (.int (nI n)), none] 1 rfl (fun Γ g z => ?_)
  refine pb_iload_n2 g dX6_carried_0 ?_
  refine pb_iconst (v := nI 2) g dX6_carried_1 (by decide) ?_
  first | refine pb_idivN g dX6_carried_2 (by omega) (by omega) (by omega) ?_ | refine pb_idiv g dX6_carried_2 (by assumption) ?_
  refine pb_istore_n3 g dX6_carried_3 (by decide) ?_
  refine pb_iload_n0 g dX6_carried_4 ?_
  refine pb_iload_n3 g dX6_carried_5 ?_
  first | refine pb_icmp_geN g 17 dX6_carried_6 (by decide) (by omega) (by omega) (fun c6 => ?_) (fun c6 => ?_) | refine pb_icmp_ge g 17 dX6_carried_6 (by decide) (fun c6 => ?_) (fun c6 => ?_)
  · refine pb_iconst (v := nI 2) g dX6_carried_17 (by decide) ?_
    refine pb_iload_n0 g dX6_carried_18 ?_
    refine pb_iload_n3 g dX6_carried_19 ?_
    first | refine pb_isubN g dX6_carried_20 (by omega) ?_ | refine pb_isub g dX6_carried_20 ?_
    first | refine pb_imulN g dX6_carried_21 ?_ | refine pb_imul g dX6_carried_21 ?_
    refine pb_iconst (v := nI 1) g dX6_carried_22 (by decide) ?_
    first | refine pb_iaddN g dX6_carried_23 ?_ | refine pb_iadd g dX6_carried_23 ?_
    refine pb_iload_n1 g dX6_carried_24 ?_
    first | refine pb_isubN g dX6_carried_25 (by omega) ?_ | refine pb_isub g dX6_carried_25 ?_
    refine pb_iret g z dX6_carried_26 ?_
    exact ⟨_, rfl, by congr 1; split <;> omega, rfl⟩
  · refine pb_iconst (v := nI 2) g dX6_carried_9 (by decide) ?_
    refine pb_iload_n0 g dX6_carried_10 ?_
    first | refine pb_imulN g dX6_carried_11 ?_ | refine pb_imul g dX6_carried_11 ?_
    refine pb_iload_n1 g dX6_carried_12 ?_
    first | refine pb_iaddN g dX6_carried_13 ?_ | refine pb_iadd g dX6_carried_13 ?_
    refine pb_goto g 26 dX6_carried_14 (by decide) ?_
    refine pb_iret g z dX6_carried_26 ?_
    exact ⟨_, rfl, by congr 1; split <;> omega, rfl⟩
