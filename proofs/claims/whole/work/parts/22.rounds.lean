/-! ===== Rounds, Ways, rows of counts ===== -/
/-- m done j times -/
def itF (m : Nat → Nat) : Nat → Nat → Nat
  | 0, s => s
  | j + 1, s => m (itF m j s)
theorem itF_lt {m : Nat → Nat} {n : Nat} (hm : ∀ j, j < n → m j < n) {s : Nat} (hs : s < n) : ∀ j, itF m j s < n
  | 0 => hs
  | j + 1 => hm _ (itF_lt hm hs j)
/-- the least e from a bound on with which the place comes back, or the last -/
def lfL (m : Nat → Nat) (s : Nat) : Nat → Nat → Nat
  | 0, e => e
  | d + 1, e => if itF m e s = s then e else lfL m s d (e + 1)
theorem lfL_bd (m : Nat → Nat) (s : Nat) : ∀ d e, e ≤ lfL m s d e ∧ lfL m s d e ≤ e + d
  | 0, e => ⟨Nat.le_refl _, Nat.le_refl _⟩
  | d + 1, e => by
    unfold lfL
    split
    · omega
    · have := lfL_bd m s d (e + 1)
      omega
def lenF (m : Nat → Nat) (n s : Nat) : Nat := lfL m s (n - 1) 1
def hiL (m : Nat → Nat) (s : Nat) : Nat → Nat → Nat
  | 0, a => a
  | d + 1, a => if s < a then hiL m s d (m a) else a
def hmL (m : Nat → Nat) (n : Nat) : Nat → Nat
  | 0 => 0
  | s + 1 => hmL m n s + (if hiL m s n (m s) = s then 1 else 0)
def lpL (m : Nat → Nat) (n : Nat) : Nat → Nat
  | 0 => 1
  | s + 1 => lpL m n s * (lenF m n s / Nat.gcd (lpL m n s) (lenF m n s))
theorem lenF_bd {m : Nat → Nat} {n s : Nat} (hn : 1 ≤ n) : 1 ≤ lenF m n s ∧ lenF m n s ≤ n := by
  have := lfL_bd m s (n - 1) 1
  unfold lenF
  omega
theorem lpL_dvd (m : Nat → Nat) (n : Nat) (hn : n ≤ 10) (hn1 : 1 ≤ n) : ∀ i, lpL m n i ∣ 2520
  | 0 => ⟨2520, by rw [lpL, Nat.one_mul]⟩
  | i + 1 => by
    have ih := lpL_dvd m n hn hn1 i
    obtain ⟨l1, l2⟩ := lenF_bd (m := m) (s := i) hn1
    have h10 : ∀ j, 1 ≤ j → j ≤ 10 → j ∣ 2520 := by
      intro j h1 h2
      have : ∀ j : Fin 11, 1 ≤ j.val → 2520 % j.val = 0 := by decide
      exact Nat.dvd_of_mod_eq_zero (this ⟨j, by omega⟩ h1)
    have h2 := h10 (lenF m n i) l1 (by omega)
    show lpL m n i * (lenF m n i / Nat.gcd (lpL m n i) (lenF m n i)) ∣ 2520
    rw [← Nat.mul_div_assoc _ (Nat.gcd_dvd_right _ _)]
    exact Nat.lcm_dvd ih h2
theorem lpL_lt (m : Nat → Nat) (n : Nat) (hn : n ≤ 10) (hn1 : 1 ≤ n) (i : Nat) : 1 ≤ lpL m n i ∧ lpL m n i ≤ 2520 := by
  have h := lpL_dvd m n hn hn1 i
  exact ⟨Nat.pos_of_dvd_of_pos h (by decide), Nat.le_of_dvd (by decide) h⟩
set_option maxHeartbeats 4000000 in
set_option maxRecDepth 100000 in
theorem c_lengthFrom (k n s ko : Nat) (hn : n ≤ 10) (hs : s < n) (f : Nat → Int32) (m : Nat → Nat) (hf : ∀ j, j < n → f j = nI (m j)) (hm : ∀ j, j < n → m j < n) (h : PH) (h1 : h[ko]? = some (pI 10 f)) : Runs yX3_lengthFrom cX3_lengthFrom 5 (some .int) (k) [.ref ko, .int (nI n), .int (nI s)] h (fun o h' => ∃ r : Int32, o = some (.int r) ∧ r = nI (lenF m n s) ∧ h = h') := by
  refine Runs.of (by decide) (Nat.le_of_ble_eq_true rfl) [some (.ref ko), some (.int (nI n)), some (.int (nI s)), none, none] 2 rfl (fun Γ g z => ?_)
  have loop : ∀ e, e ≤ n → 1 ≤ e → lfL m s (n - e) e = lenF m n s → PB Γ 7 [some (.ref ko), some (.int (nI n)), some (.int (nI s)), some (.int (nI e)), some (.int (nI (itF m e s)))] [] h := by
    refine pb_loop n (fun e he ih h1e hl => ?_)
    have hlt := itF_lt hm hs e
    by_cases hen : e < n
    · have ih := ih hen (by omega)
      rw [show n - e = n - (e + 1) + 1 by omega, lfL] at hl
      refine pb_iload_n3 g dX3_lengthFrom_7 ?_
      refine pb_iload_n1 g dX3_lengthFrom_8 ?_
      first | refine pb_icmp_geN g 30 dX3_lengthFrom_9 (by decide) (by omega) (by omega) (fun c9 => ?_) (fun c9 => ?_) | refine pb_icmp_ge g 30 dX3_lengthFrom_9 (by decide) (fun c9 => ?_) (fun c9 => ?_)
      · exact absurd c9 (by omega)
      · refine pb_iload4 g dX3_lengthFrom_12 ?_
        refine pb_iload_n2 g dX3_lengthFrom_14 ?_
        first | refine pb_icmp_eqN g 30 dX3_lengthFrom_15 (by decide) (by omega) (by omega) (fun c15 => ?_) (fun c15 => ?_) | refine pb_icmp_eq g 30 dX3_lengthFrom_15 (by decide) (fun c15 => ?_) (fun c15 => ?_)
        · refine pb_iload_n3 g dX3_lengthFrom_30 ?_
          refine pb_iret g z dX3_lengthFrom_31 ?_
          rw [if_pos c15] at hl
          exact ⟨_, rfl, by rw [← hl], rfl⟩
        · refine pb_aload_n0 g dX3_lengthFrom_18 ?_
          refine pb_iload4 g dX3_lengthFrom_19 ?_
          first | refine pb_ialdN g dX3_lengthFrom_21 (by first | assumption | rfl) (by omega) (by omega) ?_ | refine pb_ald0 g dX3_lengthFrom_21 (by omega) ?_ | refine pb_ald1 g dX3_lengthFrom_21 (by omega) ?_ | refine pb_ald2 g dX3_lengthFrom_21 (by omega) ?_ | refine pb_ald3 g dX3_lengthFrom_21 (by omega) ?_ | refine pb_iald g dX3_lengthFrom_21 (by first | assumption | rfl) (by assumption) ?_
          rw [hf (itF m e s) hlt]
          refine pb_istore4 g dX3_lengthFrom_22 (by decide) ?_
          first | refine pb_iinc3N g dX3_lengthFrom_24 (by decide) ?_ | refine pb_iinc3 g dX3_lengthFrom_24 (by decide) rfl ?_
          refine pb_goto g 7 dX3_lengthFrom_27 (by decide) ?_
          rw [if_neg c15] at hl
          exact ih hl
    · obtain rfl : e = n := by omega
      rw [Nat.sub_self, lfL] at hl
      refine pb_iload_n3 g dX3_lengthFrom_7 ?_
      refine pb_iload_n1 g dX3_lengthFrom_8 ?_
      first | refine pb_icmp_geN g 30 dX3_lengthFrom_9 (by decide) (by omega) (by omega) (fun c9 => ?_) (fun c9 => ?_) | refine pb_icmp_ge g 30 dX3_lengthFrom_9 (by decide) (fun c9 => ?_) (fun c9 => ?_)
      · refine pb_iload_n3 g dX3_lengthFrom_30 ?_
        refine pb_iret g z dX3_lengthFrom_31 ?_
        exact ⟨_, rfl, by rw [← hl], rfl⟩
      · exact absurd c9 (by omega)
  refine pb_iconst (v := nI 1) g dX3_lengthFrom_0 (by decide) ?_
  refine pb_istore_n3 g dX3_lengthFrom_1 (by decide) ?_
  refine pb_aload_n0 g dX3_lengthFrom_2 ?_
  refine pb_iload_n2 g dX3_lengthFrom_3 ?_
  first | refine pb_ialdN g dX3_lengthFrom_4 (by first | assumption | rfl) (by omega) (by omega) ?_ | refine pb_ald0 g dX3_lengthFrom_4 (by omega) ?_ | refine pb_ald1 g dX3_lengthFrom_4 (by omega) ?_ | refine pb_ald2 g dX3_lengthFrom_4 (by omega) ?_ | refine pb_ald3 g dX3_lengthFrom_4 (by omega) ?_ | refine pb_iald g dX3_lengthFrom_4 (by first | assumption | rfl) (by assumption) ?_
  rw [hf s hs]
  refine pb_istore4 g dX3_lengthFrom_5 (by decide) ?_
  exact loop 1 (by omega) (Nat.le_refl 1) rfl
set_option maxHeartbeats 4000000 in
set_option maxRecDepth 100000 in
theorem c_howMany (k n ko : Nat) (hn : n ≤ 10) (f : Nat → Int32) (m : Nat → Nat) (hf : ∀ j, j < n → f j = nI (m j)) (hm : ∀ j, j < n → m j < n) (h : PH) (h1 : h[ko]? = some (pI 10 f)) : Runs yX3_howMany cX3_howMany 6 (some .int) (k) [.ref ko, .int (nI n)] h (fun o h' => ∃ r : Int32, o = some (.int r) ∧ r = nI (hmL m n n) ∧ h = h') := by
  refine Runs.of (by decide) (Nat.le_of_ble_eq_true rfl) [some (.ref ko), some (.int (nI n)), none, none, none, none] 4 rfl (fun Γ g z => ?_)
  have loop : ∀ s, s ≤ n → ∀ w1 w2 : Option Value, PB Γ 4 [some (.ref ko), some (.int (nI n)), some (.int (nI (hmL m n s))), some (.int (nI s)), w1, w2] [] h := by
    refine pb_loop n (fun s hs ih w1 w2 => ?_)
    by_cases hsn : s < n
    · have ih := ih hsn
      have inner : ∀ i, i ≤ n → ∀ a, a < n → hiL m s (n - i) a = hiL m s n (m s) → PB Γ 17 [some (.ref ko), some (.int (nI n)), some (.int (nI (hmL m n s))), some (.int (nI s)), some (.int (nI a)), some (.int (nI i))] [] h := by
        refine pb_loop n (fun i hi ihi a ha hh => ?_)
        by_cases hin : i < n
        · have ihi := ihi hin
          rw [show n - i = n - (i + 1) + 1 by omega, hiL] at hh
          refine pb_iload5 g dX3_howMany_17 ?_
          refine pb_iload_n1 g dX3_howMany_19 ?_
          first | refine pb_icmp_geN g 41 dX3_howMany_20 (by decide) (by omega) (by omega) (fun c20 => ?_) (fun c20 => ?_) | refine pb_icmp_ge g 41 dX3_howMany_20 (by decide) (fun c20 => ?_) (fun c20 => ?_)
          · exact absurd c20 (by omega)
          · refine pb_iload4 g dX3_howMany_23 ?_
            refine pb_iload_n3 g dX3_howMany_25 ?_
            first | refine pb_icmp_leN g 41 dX3_howMany_26 (by decide) (by omega) (by omega) (fun c26 => ?_) (fun c26 => ?_) | refine pb_icmp_le g 41 dX3_howMany_26 (by decide) (fun c26 => ?_) (fun c26 => ?_)
            · rw [if_neg (by omega)] at hh
              refine pb_iload4 g dX3_howMany_41 ?_
              refine pb_iload_n3 g dX3_howMany_43 ?_
              first | refine pb_icmp_neN g 50 dX3_howMany_44 (by decide) (by omega) (by omega) (fun c44 => ?_) (fun c44 => ?_) | refine pb_icmp_ne g 50 dX3_howMany_44 (by decide) (fun c44 => ?_) (fun c44 => ?_)
              · first | refine pb_iinc3N g dX3_howMany_50 (by decide) ?_ | refine pb_iinc3 g dX3_howMany_50 (by decide) rfl ?_
                refine pb_goto g 4 dX3_howMany_53 (by decide) ?_
                first | (rw [hmL, if_neg (by omega)] at ih; exact ih _ _) | (rw [hmL, if_pos (by omega)] at ih; exact ih _ _)
              · first | refine pb_iinc2N g dX3_howMany_47 (by decide) ?_ | refine pb_iinc2 g dX3_howMany_47 (by decide) rfl ?_
                first | refine pb_iinc3N g dX3_howMany_50 (by decide) ?_ | refine pb_iinc3 g dX3_howMany_50 (by decide) rfl ?_
                refine pb_goto g 4 dX3_howMany_53 (by decide) ?_
                first | (rw [hmL, if_neg (by omega)] at ih; exact ih _ _) | (rw [hmL, if_pos (by omega)] at ih; exact ih _ _)
            · refine pb_aload_n0 g dX3_howMany_29 ?_
              refine pb_iload4 g dX3_howMany_30 ?_
              first | refine pb_ialdN g dX3_howMany_32 (by first | assumption | rfl) (by omega) (by omega) ?_ | refine pb_ald0 g dX3_howMany_32 (by omega) ?_ | refine pb_ald1 g dX3_howMany_32 (by omega) ?_ | refine pb_ald2 g dX3_howMany_32 (by omega) ?_ | refine pb_ald3 g dX3_howMany_32 (by omega) ?_ | refine pb_iald g dX3_howMany_32 (by first | assumption | rfl) (by assumption) ?_
              rw [hf a ha]
              refine pb_istore4 g dX3_howMany_33 (by decide) ?_
              first | refine pb_iinc5N g dX3_howMany_35 (by decide) ?_ | refine pb_iinc5 g dX3_howMany_35 (by decide) rfl ?_
              refine pb_goto g 17 dX3_howMany_38 (by decide) ?_
              rw [if_pos c26] at hh
              exact ihi (m a) (hm a ha) hh
        · obtain rfl : i = n := by omega
          rw [Nat.sub_self, hiL] at hh
          refine pb_iload5 g dX3_howMany_17 ?_
          refine pb_iload_n1 g dX3_howMany_19 ?_
          first | refine pb_icmp_geN g 41 dX3_howMany_20 (by decide) (by omega) (by omega) (fun c20 => ?_) (fun c20 => ?_) | refine pb_icmp_ge g 41 dX3_howMany_20 (by decide) (fun c20 => ?_) (fun c20 => ?_)
          · refine pb_iload4 g dX3_howMany_41 ?_
            refine pb_iload_n3 g dX3_howMany_43 ?_
            first | refine pb_icmp_neN g 50 dX3_howMany_44 (by decide) (by omega) (by omega) (fun c44 => ?_) (fun c44 => ?_) | refine pb_icmp_ne g 50 dX3_howMany_44 (by decide) (fun c44 => ?_) (fun c44 => ?_)
            · first | refine pb_iinc3N g dX3_howMany_50 (by decide) ?_ | refine pb_iinc3 g dX3_howMany_50 (by decide) rfl ?_
              refine pb_goto g 4 dX3_howMany_53 (by decide) ?_
              first | (rw [hmL, if_neg (by omega)] at ih; exact ih _ _) | (rw [hmL, if_pos (by omega)] at ih; exact ih _ _)
            · first | refine pb_iinc2N g dX3_howMany_47 (by decide) ?_ | refine pb_iinc2 g dX3_howMany_47 (by decide) rfl ?_
              first | refine pb_iinc3N g dX3_howMany_50 (by decide) ?_ | refine pb_iinc3 g dX3_howMany_50 (by decide) rfl ?_
              refine pb_goto g 4 dX3_howMany_53 (by decide) ?_
              first | (rw [hmL, if_neg (by omega)] at ih; exact ih _ _) | (rw [hmL, if_pos (by omega)] at ih; exact ih _ _)
          · exact absurd c20 (by omega)
      refine pb_iload_n3 g dX3_howMany_4 ?_
      refine pb_iload_n1 g dX3_howMany_5 ?_
      first | refine pb_icmp_geN g 56 dX3_howMany_6 (by decide) (by omega) (by omega) (fun c6 => ?_) (fun c6 => ?_) | refine pb_icmp_ge g 56 dX3_howMany_6 (by decide) (fun c6 => ?_) (fun c6 => ?_)
      · exact absurd c6 (by omega)
      · refine pb_aload_n0 g dX3_howMany_9 ?_
        refine pb_iload_n3 g dX3_howMany_10 ?_
        first | refine pb_ialdN g dX3_howMany_11 (by first | assumption | rfl) (by omega) (by omega) ?_ | refine pb_ald0 g dX3_howMany_11 (by omega) ?_ | refine pb_ald1 g dX3_howMany_11 (by omega) ?_ | refine pb_ald2 g dX3_howMany_11 (by omega) ?_ | refine pb_ald3 g dX3_howMany_11 (by omega) ?_ | refine pb_iald g dX3_howMany_11 (by first | assumption | rfl) (by assumption) ?_
        rw [hf s hsn]
        refine pb_istore4 g dX3_howMany_12 (by decide) ?_
        refine pb_iconst (v := nI 0) g dX3_howMany_14 (by decide) ?_
        refine pb_istore5 g dX3_howMany_15 (by decide) ?_
        exact inner 0 (Nat.zero_le _) (m s) (hm s hsn) rfl
    · obtain rfl : s = n := by omega
      refine pb_iload_n3 g dX3_howMany_4 ?_
      refine pb_iload_n1 g dX3_howMany_5 ?_
      first | refine pb_icmp_geN g 56 dX3_howMany_6 (by decide) (by omega) (by omega) (fun c6 => ?_) (fun c6 => ?_) | refine pb_icmp_ge g 56 dX3_howMany_6 (by decide) (fun c6 => ?_) (fun c6 => ?_)
      · refine pb_iload_n2 g dX3_howMany_56 ?_
        refine pb_iret g z dX3_howMany_57 ?_
        exact ⟨_, rfl, rfl, rfl⟩
      · exact absurd c6 (by omega)
  refine pb_iconst (v := nI 0) g dX3_howMany_0 (by decide) ?_
  refine pb_istore_n2 g dX3_howMany_1 (by decide) ?_
  refine pb_iconst (v := nI 0) g dX3_howMany_2 (by decide) ?_
  refine pb_istore_n3 g dX3_howMany_3 (by decide) ?_
  exact loop 0 (Nat.zero_le _) _ _
set_option maxHeartbeats 4000000 in
set_option maxRecDepth 100000 in
theorem c_leastPower (k n ko : Nat) (hn : n ≤ 10) (hn1 : 1 ≤ n) (f : Nat → Int32) (m : Nat → Nat) (hf : ∀ j, j < n → f j = nI (m j)) (hm : ∀ j, j < n → m j < n) (h : PH) (h1 : h[ko]? = some (pI 10 f)) : Runs yX3_leastPower cX3_leastPower 5 (some .int) (k + 2) [.ref ko, .int (nI n)] h (fun o h' => ∃ r : Int32, o = some (.int r) ∧ r = nI (lpL m n n) ∧ h = h') := by
  refine Runs.of (by decide) (Nat.le_of_ble_eq_true rfl) [some (.ref ko), some (.int (nI n)), none, none, none] 3 rfl (fun Γ g z => ?_)
  have loop : ∀ s, s ≤ n → ∀ w1 : Option Value, PB Γ 4 [some (.ref ko), some (.int (nI n)), some (.int (nI (lpL m n s))), some (.int (nI s)), w1] [] h := by
    refine pb_loop n (fun s hs ih w1 => ?_)
    by_cases hsn : s < n
    · have ih := ih hsn
      obtain ⟨b1, b2⟩ := lenF_bd (m := m) (s := s) hn1
      obtain ⟨b3, b4⟩ := lpL_lt m n hn hn1 s
      have hg : 0 < Nat.gcd (lpL m n s) (lenF m n s) := Nat.gcd_pos_of_pos_left _ (by omega)
      have hg2 : Nat.gcd (lpL m n s) (lenF m n s) ≤ lenF m n s := Nat.le_of_dvd (by omega) (Nat.gcd_dvd_right _ _)
      have hgm : max 1 (Nat.gcd (lpL m n s) (lenF m n s)) = Nat.gcd (lpL m n s) (lenF m n s) := by omega
      refine pb_iload_n3 g dX3_leastPower_4 ?_
      refine pb_iload_n1 g dX3_leastPower_5 ?_
      first | refine pb_icmp_geN g 38 dX3_leastPower_6 (by decide) (by omega) (by omega) (fun c6 => ?_) (fun c6 => ?_) | refine pb_icmp_ge g 38 dX3_leastPower_6 (by decide) (fun c6 => ?_) (fun c6 => ?_)
      · exact absurd c6 (by omega)
      · refine pb_aload_n0 g dX3_leastPower_9 ?_
        refine pb_iload_n1 g dX3_leastPower_10 ?_
        refine pb_iload_n3 g dX3_leastPower_11 ?_
        refine pb_Si3 g qX3_7 dX3_leastPower_12 (k + 1) (by omega) (c_lengthFrom (k + 1) n s ko hn hsn f m hf hm h h1) (fun r12 h12 e12 => ?_)
        obtain ⟨rfl, rfl⟩ := e12
        refine pb_istore4 g dX3_leastPower_15 (by decide) ?_
        refine pb_iload_n2 g dX3_leastPower_17 ?_
        refine pb_iload4 g dX3_leastPower_18 ?_
        refine pb_iload_n2 g dX3_leastPower_20 ?_
        first | refine pb_i2lN g dX3_leastPower_21 (by omega) ?_ | refine pb_i2l g dX3_leastPower_21 ?_
        refine pb_iload4 g dX3_leastPower_22 ?_
        first | refine pb_i2lN g dX3_leastPower_24 (by omega) ?_ | refine pb_i2l g dX3_leastPower_24 ?_
        refine pb_Sl2 g qX3_13 dX3_leastPower_25 (k + 1) (by omega) (c_divisor k (lpL m n s) (lenF m n s) (by omega) (by omega) h) (fun r25 h25 e25 => ?_)
        obtain ⟨rfl, rfl⟩ := e25
        rw [hgm]
        first | refine pb_l2iN g dX3_leastPower_28 ?_ | refine pb_l2i g dX3_leastPower_28 ?_
        first | refine pb_idivN g dX3_leastPower_29 (by omega) (by omega) (by omega) ?_ | refine pb_idiv g dX3_leastPower_29 (by assumption) ?_
        first | refine pb_imulN g dX3_leastPower_30 ?_ | refine pb_imul g dX3_leastPower_30 ?_
        refine pb_istore_n2 g dX3_leastPower_31 (by decide) ?_
        first | refine pb_iinc3N g dX3_leastPower_32 (by decide) ?_ | refine pb_iinc3 g dX3_leastPower_32 (by decide) rfl ?_
        refine pb_goto g 4 dX3_leastPower_35 (by decide) ?_
        exact ih _
    · obtain rfl : s = n := by omega
      refine pb_iload_n3 g dX3_leastPower_4 ?_
      refine pb_iload_n1 g dX3_leastPower_5 ?_
      first | refine pb_icmp_geN g 38 dX3_leastPower_6 (by decide) (by omega) (by omega) (fun c6 => ?_) (fun c6 => ?_) | refine pb_icmp_ge g 38 dX3_leastPower_6 (by decide) (fun c6 => ?_) (fun c6 => ?_)
      · refine pb_iload_n2 g dX3_leastPower_38 ?_
        refine pb_iret g z dX3_leastPower_39 ?_
        exact ⟨_, rfl, rfl, rfl⟩
      · exact absurd c6 (by omega)
  refine pb_iconst (v := nI 1) g dX3_leastPower_0 (by decide) ?_
  refine pb_istore_n2 g dX3_leastPower_1 (by decide) ?_
  refine pb_iconst (v := nI 0) g dX3_leastPower_2 (by decide) ?_
  refine pb_istore_n3 g dX3_leastPower_3 (by decide) ?_
  exact loop 0 (Nat.zero_le _) _
set_option maxHeartbeats 4000000 in
set_option maxRecDepth 100000 in
theorem c_along (k n s ko E : Nat) (hn : n ≤ 10) (hs : s < n) (hE : E < 2 ^ 63) (f : Nat → Int32) (m : Nat → Nat) (hf : ∀ j, j < n → f j = nI (m j)) (hm : ∀ j, j < n → m j < n) (h : PH) (h1 : h[ko]? = some (pI 10 f)) : Runs yX3_along cX3_along 8 (some .int) (k + 1) [.ref ko, .int (nI n), .int (nI s), .long (lN E)] h (fun o h' => ∃ r : Int32, o = some (.int r) ∧ r = nI (itF m (E % lenF m n s) s) ∧ h = h') := by
  refine Runs.of (by decide) (Nat.le_of_ble_eq_true rfl) [some (.ref ko), some (.int (nI n)), some (.int (nI s)), some (.long (lN E)), none, none, none, none] 3 rfl (fun Γ g z => ?_)
  obtain ⟨b1, b2⟩ := lenF_bd (m := m) (s := s) (show 1 ≤ n by omega)
  have b3 : E % lenF m n s < lenF m n s := Nat.mod_lt _ (by omega)
  have loop : ∀ i, i ≤ E % lenF m n s → PB Γ 18 [some (.ref ko), some (.int (nI n)), some (.int (nI s)), some (.long (lN E)), none, some (.int (nI (E % lenF m n s))), some (.int (nI (itF m i s))), some (.int (nI i))] [] h := by
    refine pb_loop (E % lenF m n s) (fun i hi ih => ?_)
    have hlt := itF_lt hm hs i
    refine pb_iload7 g dX3_along_18 ?_
    refine pb_iload5 g dX3_along_20 ?_
    first | refine pb_icmp_geN g 37 dX3_along_22 (by decide) (by omega) (by omega) (fun c22 => ?_) (fun c22 => ?_) | refine pb_icmp_ge g 37 dX3_along_22 (by decide) (fun c22 => ?_) (fun c22 => ?_)
    · refine pb_iload6 g dX3_along_37 ?_
      refine pb_iret g z dX3_along_39 ?_
      exact ⟨_, rfl, by rw [show i = E % lenF m n s by omega], rfl⟩
    · refine pb_aload_n0 g dX3_along_25 ?_
      refine pb_iload6 g dX3_along_26 ?_
      first | refine pb_ialdN g dX3_along_28 (by first | assumption | rfl) (by omega) (by omega) ?_ | refine pb_ald0 g dX3_along_28 (by omega) ?_ | refine pb_ald1 g dX3_along_28 (by omega) ?_ | refine pb_ald2 g dX3_along_28 (by omega) ?_ | refine pb_ald3 g dX3_along_28 (by omega) ?_ | refine pb_iald g dX3_along_28 (by first | assumption | rfl) (by assumption) ?_
      rw [hf (itF m i s) hlt]
      refine pb_istore6 g dX3_along_29 (by decide) ?_
      first | refine pb_iinc7N g dX3_along_31 (by decide) ?_ | refine pb_iinc7 g dX3_along_31 (by decide) rfl ?_
      refine pb_goto g 18 dX3_along_34 (by decide) ?_
      exact ih c22
  refine pb_lload_n3 g dX3_along_0 ?_
  refine pb_aload_n0 g dX3_along_1 ?_
  refine pb_iload_n1 g dX3_along_2 ?_
  refine pb_iload_n2 g dX3_along_3 ?_
  refine pb_Si3 g qX3_7 dX3_along_4 k (by omega) (c_lengthFrom k n s ko hn hs f m hf hm h h1) (fun r4 h4 e4 => ?_)
  obtain ⟨rfl, rfl⟩ := e4
  first | refine pb_i2lN g dX3_along_7 (by omega) ?_ | refine pb_i2l g dX3_along_7 ?_
  first | refine pb_lremN g dX3_along_8 (by omega) (by omega) (by omega) ?_ | refine pb_lrem g dX3_along_8 (by assumption) ?_
  first | refine pb_l2iN g dX3_along_9 ?_ | refine pb_l2i g dX3_along_9 ?_
  refine pb_istore5 g dX3_along_10 (by decide) ?_
  refine pb_iload_n2 g dX3_along_12 ?_
  refine pb_istore6 g dX3_along_13 (by decide) ?_
  refine pb_iconst (v := nI 0) g dX3_along_15 (by decide) ?_
  refine pb_istore7 g dX3_along_16 (by decide) ?_
  exact loop 0 (Nat.zero_le _)
def carF (n i w : Nat) : Nat := if i < n / 2 then 2 * i + w else 2 * (i - n / 2) + 1 - w
theorem carF_lt {n i w : Nat} (he : n % 2 = 0) (hi : i < n) (hw : w < 2) : carF n i w < n := by
  unfold carF
  split <;> omega
def enL (n w : Nat) : Nat → Nat → Nat
  | 0, a => a
  | b + 1, a => enL n w b (carF n a (w / 2 ^ b % 2))
def enF (n i w : Nat) : Nat := enL n w w.log2 i
def shL (n i j : Nat) : Nat → Nat → Nat
  | 0, _ => 1
  | d + 1, w => if enF n i w = j then w else shL n i j d (w + 1)
def shF (n i j : Nat) : Nat := shL n i j 31 1
theorem shL_bd (n i j : Nat) : ∀ d w, 1 ≤ w → w + d = 32 → 1 ≤ shL n i j d w ∧ shL n i j d w < 32
  | 0, w, _, _ => ⟨Nat.le_refl 1, by show 1 < 32; decide⟩
  | d + 1, w, h1, h2 => by
    unfold shL
    split
    · omega
    · exact shL_bd n i j d (w + 1) (by omega) (by omega)
theorem nlz_ok : ∀ w, w < 32 → 1 ≤ w → (if 16 ≤ w then (if 4 ≤ w / 16 then 31 - 4 - 2 - w / 16 / 4 / 2 else 31 - 4 - w / 16 / 2) else (if 4 ≤ w then 31 - 2 - w / 4 / 2 else 31 - w / 2)) = 31 - w.log2 := by decide
theorem log2_5 : ∀ w, w < 32 → w.log2 ≤ 4 := by decide
set_option maxHeartbeats 4000000 in
set_option maxRecDepth 100000 in
theorem c_nlz (k w : Nat) (hw : w < 32) (hw1 : 1 ≤ w) (h : PH) : Runs yJ6_numberOfLeadingZeros_0f7a4 cJ6_numberOfLeadingZeros_0f7a4 2 (some .int) (k) [.int (nI w)] h (fun o h' => ∃ r : Int32, o = some (.int r) ∧ r = nI (31 - w.log2) ∧ h = h') := by
  refine Runs.of (by decide) (Nat.le_of_ble_eq_true rfl) [some (.int (nI w)), none] 1 rfl (fun Γ g z => ?_)
  have hz := nlz_ok w hw hw1
  refine pb_iload_n0 g dJ6_numberOfLeadingZeros_0f7a4_0 ?_
  first | refine pb_if_gtN g 15 dJ6_numberOfLeadingZeros_0f7a4_1 (by decide) (by omega) (fun c1 => ?_) (fun c1 => ?_) | refine pb_if_gt g 15 dJ6_numberOfLeadingZeros_0f7a4_1 (by decide) (fun c1 => ?_) (fun c1 => ?_)
  · refine pb_bipush (v := nI 31) g dJ6_numberOfLeadingZeros_0f7a4_15 (by decide) ?_
    refine pb_istore_n1 g dJ6_numberOfLeadingZeros_0f7a4_17 (by decide) ?_
    refine pb_iload_n0 g dJ6_numberOfLeadingZeros_0f7a4_18 ?_
    refine pb_ldcw (w := nI 65536) g kJ6_264 (by decide) dJ6_numberOfLeadingZeros_0f7a4_19 ?_
    first | refine pb_icmp_ltN g 33 dJ6_numberOfLeadingZeros_0f7a4_22 (by decide) (by omega) (by omega) (fun c22 => ?_) (fun c22 => ?_) | refine pb_icmp_lt g 33 dJ6_numberOfLeadingZeros_0f7a4_22 (by decide) (fun c22 => ?_) (fun c22 => ?_)
    · refine pb_iload_n0 g dJ6_numberOfLeadingZeros_0f7a4_33 ?_
      refine pb_sipush (v := nI 256) g dJ6_numberOfLeadingZeros_0f7a4_34 (by decide) ?_
      first | refine pb_icmp_ltN g 48 dJ6_numberOfLeadingZeros_0f7a4_37 (by decide) (by omega) (by omega) (fun c37 => ?_) (fun c37 => ?_) | refine pb_icmp_lt g 48 dJ6_numberOfLeadingZeros_0f7a4_37 (by decide) (fun c37 => ?_) (fun c37 => ?_)
      · refine pb_iload_n0 g dJ6_numberOfLeadingZeros_0f7a4_48 ?_
        refine pb_bipush (v := nI 16) g dJ6_numberOfLeadingZeros_0f7a4_49 (by decide) ?_
        first | refine pb_icmp_ltN g 61 dJ6_numberOfLeadingZeros_0f7a4_51 (by decide) (by omega) (by omega) (fun c51 => ?_) (fun c51 => ?_) | refine pb_icmp_lt g 61 dJ6_numberOfLeadingZeros_0f7a4_51 (by decide) (fun c51 => ?_) (fun c51 => ?_)
        · refine pb_iload_n0 g dJ6_numberOfLeadingZeros_0f7a4_61 ?_
          refine pb_iconst (v := nI 4) g dJ6_numberOfLeadingZeros_0f7a4_62 (by decide) ?_
          first | refine pb_icmp_ltN g 73 dJ6_numberOfLeadingZeros_0f7a4_63 (by decide) (by omega) (by omega) (fun c63 => ?_) (fun c63 => ?_) | refine pb_icmp_lt g 73 dJ6_numberOfLeadingZeros_0f7a4_63 (by decide) (fun c63 => ?_) (fun c63 => ?_)
          · refine pb_iload_n1 g dJ6_numberOfLeadingZeros_0f7a4_73 ?_
            refine pb_iload_n0 g dJ6_numberOfLeadingZeros_0f7a4_74 ?_
            refine pb_iconst (v := nI 1) g dJ6_numberOfLeadingZeros_0f7a4_75 (by decide) ?_
            first | refine pb_iushrN g dJ6_numberOfLeadingZeros_0f7a4_76 (by omega) (by omega) ?_ | refine pb_iushr g dJ6_numberOfLeadingZeros_0f7a4_76 ?_
            first | refine pb_isubN g dJ6_numberOfLeadingZeros_0f7a4_77 (by omega) ?_ | refine pb_isub g dJ6_numberOfLeadingZeros_0f7a4_77 ?_
            refine pb_iret g z dJ6_numberOfLeadingZeros_0f7a4_78 ?_
            refine ⟨_, rfl, ?_, rfl⟩
            rw [← hz]
            congr 1
            first | rw [if_pos (by omega), if_pos (by omega)] | rw [if_pos (by omega), if_neg (by omega)] | rw [if_neg (by omega), if_pos (by omega)] | rw [if_neg (by omega), if_neg (by omega)]
          · first | (refine pb_iinc1 (v := nI (31 - 2)) g dJ6_numberOfLeadingZeros_0f7a4_66 (by decide) (by decide) ?_) | (refine pb_iinc1 (v := nI (31 - 4 - 2)) g dJ6_numberOfLeadingZeros_0f7a4_66 (by decide) (by decide) ?_)
            refine pb_iload_n0 g dJ6_numberOfLeadingZeros_0f7a4_69 ?_
            refine pb_iconst (v := nI 2) g dJ6_numberOfLeadingZeros_0f7a4_70 (by decide) ?_
            first | refine pb_iushrN g dJ6_numberOfLeadingZeros_0f7a4_71 (by omega) (by omega) ?_ | refine pb_iushr g dJ6_numberOfLeadingZeros_0f7a4_71 ?_
            refine pb_istore_n0 g dJ6_numberOfLeadingZeros_0f7a4_72 (by decide) ?_
            refine pb_iload_n1 g dJ6_numberOfLeadingZeros_0f7a4_73 ?_
            refine pb_iload_n0 g dJ6_numberOfLeadingZeros_0f7a4_74 ?_
            refine pb_iconst (v := nI 1) g dJ6_numberOfLeadingZeros_0f7a4_75 (by decide) ?_
            first | refine pb_iushrN g dJ6_numberOfLeadingZeros_0f7a4_76 (by omega) (by omega) ?_ | refine pb_iushr g dJ6_numberOfLeadingZeros_0f7a4_76 ?_
            first | refine pb_isubN g dJ6_numberOfLeadingZeros_0f7a4_77 (by omega) ?_ | refine pb_isub g dJ6_numberOfLeadingZeros_0f7a4_77 ?_
            refine pb_iret g z dJ6_numberOfLeadingZeros_0f7a4_78 ?_
            refine ⟨_, rfl, ?_, rfl⟩
            rw [← hz]
            congr 1
            first | rw [if_pos (by omega), if_pos (by omega)] | rw [if_pos (by omega), if_neg (by omega)] | rw [if_neg (by omega), if_pos (by omega)] | rw [if_neg (by omega), if_neg (by omega)]
        · first | (refine pb_iinc1 (v := nI (31 - 4)) g dJ6_numberOfLeadingZeros_0f7a4_54 (by decide) (by decide) ?_) | (refine pb_iinc1 (v := nI (31 - 4 - 4)) g dJ6_numberOfLeadingZeros_0f7a4_54 (by decide) (by decide) ?_)
          refine pb_iload_n0 g dJ6_numberOfLeadingZeros_0f7a4_57 ?_
          refine pb_iconst (v := nI 4) g dJ6_numberOfLeadingZeros_0f7a4_58 (by decide) ?_
          first | refine pb_iushrN g dJ6_numberOfLeadingZeros_0f7a4_59 (by omega) (by omega) ?_ | refine pb_iushr g dJ6_numberOfLeadingZeros_0f7a4_59 ?_
          refine pb_istore_n0 g dJ6_numberOfLeadingZeros_0f7a4_60 (by decide) ?_
          refine pb_iload_n0 g dJ6_numberOfLeadingZeros_0f7a4_61 ?_
          refine pb_iconst (v := nI 4) g dJ6_numberOfLeadingZeros_0f7a4_62 (by decide) ?_
          first | refine pb_icmp_ltN g 73 dJ6_numberOfLeadingZeros_0f7a4_63 (by decide) (by omega) (by omega) (fun c63 => ?_) (fun c63 => ?_) | refine pb_icmp_lt g 73 dJ6_numberOfLeadingZeros_0f7a4_63 (by decide) (fun c63 => ?_) (fun c63 => ?_)
          · refine pb_iload_n1 g dJ6_numberOfLeadingZeros_0f7a4_73 ?_
            refine pb_iload_n0 g dJ6_numberOfLeadingZeros_0f7a4_74 ?_
            refine pb_iconst (v := nI 1) g dJ6_numberOfLeadingZeros_0f7a4_75 (by decide) ?_
            first | refine pb_iushrN g dJ6_numberOfLeadingZeros_0f7a4_76 (by omega) (by omega) ?_ | refine pb_iushr g dJ6_numberOfLeadingZeros_0f7a4_76 ?_
            first | refine pb_isubN g dJ6_numberOfLeadingZeros_0f7a4_77 (by omega) ?_ | refine pb_isub g dJ6_numberOfLeadingZeros_0f7a4_77 ?_
            refine pb_iret g z dJ6_numberOfLeadingZeros_0f7a4_78 ?_
            refine ⟨_, rfl, ?_, rfl⟩
            rw [← hz]
            congr 1
            first | rw [if_pos (by omega), if_pos (by omega)] | rw [if_pos (by omega), if_neg (by omega)] | rw [if_neg (by omega), if_pos (by omega)] | rw [if_neg (by omega), if_neg (by omega)]
          · first | (refine pb_iinc1 (v := nI (31 - 2)) g dJ6_numberOfLeadingZeros_0f7a4_66 (by decide) (by decide) ?_) | (refine pb_iinc1 (v := nI (31 - 4 - 2)) g dJ6_numberOfLeadingZeros_0f7a4_66 (by decide) (by decide) ?_)
            refine pb_iload_n0 g dJ6_numberOfLeadingZeros_0f7a4_69 ?_
            refine pb_iconst (v := nI 2) g dJ6_numberOfLeadingZeros_0f7a4_70 (by decide) ?_
            first | refine pb_iushrN g dJ6_numberOfLeadingZeros_0f7a4_71 (by omega) (by omega) ?_ | refine pb_iushr g dJ6_numberOfLeadingZeros_0f7a4_71 ?_
            refine pb_istore_n0 g dJ6_numberOfLeadingZeros_0f7a4_72 (by decide) ?_
            refine pb_iload_n1 g dJ6_numberOfLeadingZeros_0f7a4_73 ?_
            refine pb_iload_n0 g dJ6_numberOfLeadingZeros_0f7a4_74 ?_
            refine pb_iconst (v := nI 1) g dJ6_numberOfLeadingZeros_0f7a4_75 (by decide) ?_
            first | refine pb_iushrN g dJ6_numberOfLeadingZeros_0f7a4_76 (by omega) (by omega) ?_ | refine pb_iushr g dJ6_numberOfLeadingZeros_0f7a4_76 ?_
            first | refine pb_isubN g dJ6_numberOfLeadingZeros_0f7a4_77 (by omega) ?_ | refine pb_isub g dJ6_numberOfLeadingZeros_0f7a4_77 ?_
            refine pb_iret g z dJ6_numberOfLeadingZeros_0f7a4_78 ?_
            refine ⟨_, rfl, ?_, rfl⟩
            rw [← hz]
            congr 1
            first | rw [if_pos (by omega), if_pos (by omega)] | rw [if_pos (by omega), if_neg (by omega)] | rw [if_neg (by omega), if_pos (by omega)] | rw [if_neg (by omega), if_neg (by omega)]
      · exact absurd c37 (by omega)
    · exact absurd c22 (by omega)
  · exact absurd c1 (by omega)
set_option maxHeartbeats 4000000 in
set_option maxRecDepth 100000 in
theorem c_lengthOf (k w : Nat) (hw : w < 32) (hw1 : 1 ≤ w) (h : PH) : Runs yX6_lengthOf cX6_lengthOf 1 (some .int) (k + 1) [.int (nI w)] h (fun o h' => ∃ r : Int32, o = some (.int r) ∧ r = nI w.log2 ∧ h = h') := by
  refine Runs.of (by decide) (Nat.le_of_ble_eq_true rfl) [some (.int (nI w))] 0 rfl (fun Γ g z => ?_)
  have h5 := log2_5 w hw
  refine pb_bipush (v := nI 31) g dX6_lengthOf_0 (by decide) ?_
  refine pb_iload_n0 g dX6_lengthOf_2 ?_
  refine pb_Si1 g qX6_22 dX6_lengthOf_3 k (by omega) (c_nlz k w hw hw1 h) (fun r3 h3 e3 => ?_)
  obtain ⟨rfl, rfl⟩ := e3
  first | refine pb_isubN g dX6_lengthOf_6 (by omega) ?_ | refine pb_isub g dX6_lengthOf_6 ?_
  refine pb_iret g z dX6_lengthOf_7 ?_
  exact ⟨_, rfl, by congr 1; omega, rfl⟩
set_option maxHeartbeats 4000000 in
set_option maxRecDepth 100000 in
theorem c_end (k i w n : Nat) (hi : i < n) (hn : n ≤ 10) (he : n % 2 = 0) (hw : w < 32) (hw1 : 1 ≤ w) (h : PH) : Runs yX6_end cX6_end 5 (some .int) (k + 2) [.int (nI i), .int (nI w), .int (nI n)] h (fun o h' => ∃ r : Int32, o = some (.int r) ∧ r = nI (enF n i w) ∧ h = h') := by
  refine Runs.of (by decide) (Nat.le_of_ble_eq_true rfl) [some (.int (nI i)), some (.int (nI w)), some (.int (nI n)), none, none] 2 rfl (fun Γ g z => ?_)
  have loop : ∀ b, b ≤ 4 → ∀ a, a < n → enL n w b a = enF n i w → PB Γ 10 [some (.int (nI i)), some (.int (nI w)), some (.int (nI n)), some (.int (nI a)), some (.int (nI b - nI 1))] [] h := by
    refine pb_down (fun b ih hb4 a ha hh => ?_)
    cases b with
    | zero =>
        refine pb_iload4 g dX6_end_10 ?_
        refine pb_if_lt g 33 dX6_end_12 (by decide) (fun c12 => ?_) (fun c12 => ?_)
        · refine pb_iload_n3 g dX6_end_33 ?_
          refine pb_iret g z dX6_end_34 ?_
          exact ⟨_, rfl, by rw [← hh]; rfl, rfl⟩
        · exact absurd (show nI 0 - nI 1 < 0 by decide) c12
    | succ b =>
      have e1 : nI (b + 1) - nI 1 = nI b := nI_pred b
      rw [e1]
      have hd : w / 2 ^ b < 2 ^ 31 := Nat.lt_of_le_of_lt (Nat.div_le_self _ _) (by omega)
      have hw2 : w / 2 ^ b % 2 < 2 := Nat.mod_lt _ (by decide)
      have ih := ih b rfl (by omega)
      refine pb_iload4 g dX6_end_10 ?_
      refine pb_if_ltN g 33 dX6_end_12 (by decide) (by omega) ?_
      refine pb_iload_n3 g dX6_end_15 ?_
      refine pb_iload_n1 g dX6_end_16 ?_
      refine pb_iload4 g dX6_end_17 ?_
      first | refine pb_ishrN g dX6_end_19 (by omega) (by omega) ?_ | refine pb_ishr g dX6_end_19 ?_
      refine pb_iconst (v := nI 1) g dX6_end_20 (by decide) ?_
      first | refine pb_iandN g dX6_end_21 (by omega) ?_ | refine pb_iand g dX6_end_21 ?_
      refine pb_iload_n2 g dX6_end_22 ?_
      refine pb_Si3 g qX6_19 dX6_end_23 (k + 1) (by omega) (c_carried (k + 1) a (w / 2 ^ b % 2) n ha hw2 hn h) (fun r23 h23 e23 => ?_)
      obtain ⟨rfl, rfl⟩ := e23
      refine pb_istore_n3 g dX6_end_26 (by decide) ?_
      refine pb_iinc4 (v := nI b - nI 1) g dX6_end_27 (by decide) (by rw [Int32.sub_eq_add_neg]; rfl) ?_
      refine pb_goto g 10 dX6_end_30 (by decide) ?_
      exact ih _ (carF_lt he ha hw2) hh
  refine pb_iload_n0 g dX6_end_0 ?_
  refine pb_istore_n3 g dX6_end_1 (by decide) ?_
  refine pb_iload_n1 g dX6_end_2 ?_
  refine pb_Si1 g qX6_15 dX6_end_3 (k + 1) (by omega) (c_lengthOf k w hw hw1 h) (fun r3 h3 e3 => ?_)
  obtain ⟨rfl, rfl⟩ := e3
  refine pb_iconst (v := nI 1) g dX6_end_6 (by decide) ?_
  refine pb_isub g dX6_end_7 ?_
  refine pb_istore4 g dX6_end_8 (by decide) ?_
  exact loop _ (log2_5 w hw) i hi rfl
set_option maxHeartbeats 4000000 in
set_option maxRecDepth 100000 in
theorem c_shortest (k i j n : Nat) (hi : i < n) (hj : j < n) (hn : n ≤ 10) (he : n % 2 = 0) (h : PH) : Runs yX6_shortest cX6_shortest 4 (some .int) (k + 3) [.int (nI i), .int (nI j), .int (nI n)] h (fun o h' => ∃ r : Int32, o = some (.int r) ∧ r = nI (shF n i j) ∧ h = h') := by
  refine Runs.of (by decide) (Nat.le_of_ble_eq_true rfl) [some (.int (nI i)), some (.int (nI j)), some (.int (nI n)), none] 1 rfl (fun Γ g z => ?_)
  have hen : ∀ w b a, a < n → enL n w b a < n := by
    intro w b
    induction b with
    | zero => intro a ha; exact ha
    | succ b ihb => intro a ha; exact ihb _ (carF_lt he ha (Nat.mod_lt _ (by decide)))
  have loop : ∀ w, w ≤ 32 → 1 ≤ w → shL n i j (32 - w) w = shF n i j → PB Γ 2 [some (.int (nI i)), some (.int (nI j)), some (.int (nI n)), some (.int (nI w))] [] h := by
    refine pb_loop 32 (fun w hw ih h1 hh => ?_)
    have hlt : enF n i w < n := hen w _ i hi
    by_cases hw32 : w < 32
    · have ih := ih hw32 (by omega)
      rw [show 32 - w = 32 - (w + 1) + 1 by omega, shL] at hh
      refine pb_iload_n3 g dX6_shortest_2 ?_
      refine pb_bipush (v := nI 32) g dX6_shortest_3 (by decide) ?_
      first | refine pb_icmp_geN g 26 dX6_shortest_5 (by decide) (by omega) (by omega) (fun c5 => ?_) (fun c5 => ?_) | refine pb_icmp_ge g 26 dX6_shortest_5 (by decide) (fun c5 => ?_) (fun c5 => ?_)
      · exact absurd c5 (by omega)
      · refine pb_iload_n0 g dX6_shortest_8 ?_
        refine pb_iload_n3 g dX6_shortest_9 ?_
        refine pb_iload_n2 g dX6_shortest_10 ?_
        refine pb_Si3 g qX6_9 dX6_shortest_11 (k + 2) (by omega) (c_end k i w n hi hn he hw32 h1 h) (fun r11 h11 e11 => ?_)
        obtain ⟨rfl, rfl⟩ := e11
        refine pb_iload_n1 g dX6_shortest_14 ?_
        first | refine pb_icmp_neN g 20 dX6_shortest_15 (by decide) (by omega) (by omega) (fun c15 => ?_) (fun c15 => ?_) | refine pb_icmp_ne g 20 dX6_shortest_15 (by decide) (fun c15 => ?_) (fun c15 => ?_)
        · first | refine pb_iinc3N g dX6_shortest_20 (by decide) ?_ | refine pb_iinc3 g dX6_shortest_20 (by decide) rfl ?_
          refine pb_goto g 2 dX6_shortest_23 (by decide) ?_
          rw [if_neg c15] at hh
          exact ih hh
        · refine pb_iload_n3 g dX6_shortest_18 ?_
          refine pb_iret g z dX6_shortest_19 ?_
          rw [if_pos c15] at hh
          exact ⟨_, rfl, by rw [← hh], rfl⟩
    · obtain rfl : w = 32 := by omega
      rw [Nat.sub_self, shL] at hh
      refine pb_iload_n3 g dX6_shortest_2 ?_
      refine pb_bipush (v := nI 32) g dX6_shortest_3 (by decide) ?_
      first | refine pb_icmp_geN g 26 dX6_shortest_5 (by decide) (by omega) (by omega) (fun c5 => ?_) (fun c5 => ?_) | refine pb_icmp_ge g 26 dX6_shortest_5 (by decide) (fun c5 => ?_) (fun c5 => ?_)
      · refine pb_iconst (v := nI 1) g dX6_shortest_26 (by decide) ?_
        refine pb_iret g z dX6_shortest_27 ?_
        exact ⟨_, rfl, by rw [← hh], rfl⟩
      · exact absurd c5 (by omega)
  refine pb_iconst (v := nI 1) g dX6_shortest_0 (by decide) ?_
  refine pb_istore_n3 g dX6_shortest_1 (by decide) ?_
  exact loop 1 (by decide) (Nat.le_refl 1) rfl
