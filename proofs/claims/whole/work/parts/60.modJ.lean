/-! ===== the reference: fractions, rows of a riffle ===== -/
theorem sz_lN {X Y : Nat} (hX : X < 2 ^ 62) (hY : Y < 2 ^ 62) : (if lN 0 ≤ lN X - lN Y then lN X - lN Y else -(lN X - lN Y)) = lN (X - Y + (Y - X)) := by
  have ha := abs_lN hX hY
  by_cases h1 : 0 < lN X - lN Y
  · rw [if_pos h1] at ha
    rw [if_pos (show lN 0 ≤ lN X - lN Y from Int64.le_of_lt h1)]
    exact ha
  · rw [if_neg h1] at ha
    by_cases h2 : lN 0 ≤ lN X - lN Y
    · have h3 : lN X - lN Y = 0 := Int64.le_antisymm (Int64.not_lt.mp h1) h2
      rw [if_pos h2, ← ha, h3]
      rfl
    · rw [if_neg h2]
      exact ha
theorem pas2 : ∀ o, o < 20 → ∀ t, t < 10 → choF (o + 1) (t + 1) = choF o (t + 1) + choF o t := by decide +kernel
theorem cho_0 (o : Nat) : choF o 0 = 1 := by
  rw [choF, if_neg (Nat.not_lt_zero _)]
  rfl
theorem cho_hi {o t : Nat} (h : o < t) : choF o t = 0 := by rw [choF, if_pos h]
theorem upL_ext {g v : Nat → Int64} {i : Nat} {x : Int64} (hg : ∀ j, j < i → g j = v j) (hx : x = v i) : ∀ j, j < i + 1 → vp_updL g i x j = v j := fun j hj => by
  by_cases e : j = i
  · rw [e, updL_eq, hx]
  · rw [updL_ne e]
    exact hg j (by omega)
set_option maxHeartbeats 4000000 in
set_option maxRecDepth 100000 in
theorem m_common (k A B : Nat) (hA : A < 2 ^ 63) (hB : B < 2 ^ 63) (h : PH) : Runs yX8_common cX8_common 10 (some .long) (k) [.long (lN A), .long (lN B)] h (fun o h' => ∃ r : Int64, o = some (.long r) ∧ r = lN (Nat.gcd A B) ∧ h = h') := by
  refine Runs.of (by decide) (Nat.le_of_ble_eq_true rfl) [some (.long (lN A)), none, some (.long (lN B)), none, none, none, none, none, none, none] 6 rfl (fun Γ g z => ?_)
  have loop : ∀ N y, y < N → ∀ x, x < 2 ^ 63 → y < 2 ^ 63 → Nat.gcd x y = Nat.gcd A B → ∀ w8 w9 : Option Value, PB Γ 6 [some (.long (lN A)), none, some (.long (lN B)), none, some (.long (lN x)), none, some (.long (lN y)), none, w8, w9] [] h := by
    intro N
    induction N with
    | zero => exact fun y hy => absurd hy (Nat.not_lt_zero y)
    | succ N ih =>
      intro y hyN x hx hy hg w8 w9
      have hml : 0 < y → x % y < y := fun q => Nat.mod_lt x q
      refine pb_lload6 g dX8_common_6 ?_
      refine pb_lconst (v := lN 0) g dX8_common_8 rfl ?_
      first | refine pb_lc_eqN g 31 dX8_common_9 dX8_common_10 (by decide) (by omega) (by omega) (fun c9 => ?_) (fun c9 => ?_) | refine pb_lc_eq g 31 dX8_common_9 dX8_common_10 (by decide) (fun c9 => ?_) (fun c9 => ?_)
      · refine pb_lload4 g dX8_common_31 ?_
        refine pb_lret g z dX8_common_33 ?_
        exact ⟨_, rfl, by rw [← hg, c9, Nat.gcd_zero_right], rfl⟩
      · refine pb_lload4 g dX8_common_13 ?_
        refine pb_lload6 g dX8_common_15 ?_
        first | refine pb_lremN g dX8_common_17 (by omega) (by omega) (by omega) ?_ | refine pb_lrem g dX8_common_17 (by assumption) ?_
        refine pb_lstore8 g dX8_common_18 (by decide) ?_
        refine pb_lload6 g dX8_common_20 ?_
        refine pb_lstore4 g dX8_common_22 (by decide) ?_
        refine pb_lload8 g dX8_common_24 ?_
        refine pb_lstore6 g dX8_common_26 (by decide) ?_
        refine pb_goto g 6 dX8_common_28 (by decide) ?_
        have hm9 := hml (by omega)
        exact ih (x % y) (by omega) y hy (by omega) (by
          rw [← hg, Nat.gcd_comm x y, Nat.gcd_rec y x]
          exact Nat.gcd_comm _ _) _ _
  refine pb_lload_n0 g dX8_common_0 ?_
  refine pb_lstore4 g dX8_common_1 (by decide) ?_
  refine pb_lload_n2 g dX8_common_3 ?_
  refine pb_lstore6 g dX8_common_4 (by decide) ?_
  exact loop (B + 1) B (by omega) A hA hB rfl _ _
set_option maxHeartbeats 4000000 in
set_option maxRecDepth 100000 in
theorem m_lowest (k A B w : Nat) (hA : A < 2 ^ 63) (hB : B < 2 ^ 63) (h0 : 0 < B) (hw : w < 2) (h : PH) : Runs yX8_lowest cX8_lowest 8 (some .long) (k + 1) [.ref 0, .long (lN A), .long (lN B), .int (nI w)] h (fun o h' => ∃ r : Int64, o = some (.long r) ∧ r = frL A B w ∧ h = h') := by
  refine Runs.of (by decide) (Nat.le_of_ble_eq_true rfl) [some (.ref 0), some (.long (lN A)), none, some (.long (lN B)), none, some (.int (nI w)), none, none] 2 rfl (fun Γ g z => ?_)
  have hg0 : 0 < Nat.gcd B A := Nat.gcd_pos_of_pos_left _ h0
  have hgl : Nat.gcd B A ≤ B := Nat.le_of_dvd h0 (Nat.gcd_dvd_left B A)
  refine pb_lload_n3 g dX8_lowest_0 ?_
  refine pb_lload_n1 g dX8_lowest_1 ?_
  refine pb_Sl2 g qX8_78 dX8_lowest_2 k (by omega) (m_common k B A hB hA _) (fun r2 h2 e2 => ?_)
  obtain ⟨rfl, rfl⟩ := e2
  refine pb_lstore6 g dX8_lowest_5 (by decide) ?_
  refine pb_iload5 g dX8_lowest_7 ?_
  first | refine pb_if_neN g 19 dX8_lowest_9 (by decide) (by omega) (fun c9 => ?_) (fun c9 => ?_) | refine pb_if_ne g 19 dX8_lowest_9 (by decide) (fun c9 => ?_) (fun c9 => ?_)
  · refine pb_lload_n3 g dX8_lowest_19 ?_
    refine pb_lload6 g dX8_lowest_20 ?_
    first | refine pb_ldivN g dX8_lowest_22 (by omega) (by omega) (by omega) ?_ | refine pb_ldiv g dX8_lowest_22 (by assumption) ?_
    refine pb_lret g z dX8_lowest_23 ?_
    exact ⟨_, rfl, by first | rw [frL, if_pos (by omega), Nat.gcd_comm A B] | rw [frL, if_neg (by omega), Nat.gcd_comm A B], rfl⟩
  · refine pb_lload_n1 g dX8_lowest_12 ?_
    refine pb_lload6 g dX8_lowest_13 ?_
    first | refine pb_ldivN g dX8_lowest_15 (by omega) (by omega) (by omega) ?_ | refine pb_ldiv g dX8_lowest_15 (by assumption) ?_
    refine pb_goto g 23 dX8_lowest_16 (by decide) ?_
    refine pb_lret g z dX8_lowest_23 ?_
    exact ⟨_, rfl, by first | rw [frL, if_pos (by omega), Nat.gcd_comm A B] | rw [frL, if_neg (by omega), Nat.gcd_comm A B], rfl⟩
set_option maxHeartbeats 4000000 in
set_option maxRecDepth 100000 in
theorem m_size (k X Y : Nat) (hX : X < 2 ^ 62) (hY : Y < 2 ^ 62) (h : PH) : Runs yX8_size cX8_size 2 (some .long) (k) [.long (lN X - lN Y)] h (fun o h' => ∃ r : Int64, o = some (.long r) ∧ r = lN (X - Y + (Y - X)) ∧ h = h') := by
  refine Runs.of (by decide) (Nat.le_of_ble_eq_true rfl) [some (.long (lN X - lN Y)), none] 0 rfl (fun Γ g z => ?_)
  have ha := sz_lN hX hY
  refine pb_lload_n0 g dX8_size_0 ?_
  refine pb_lconst (v := lN 0) g dX8_size_1 rfl ?_
  first | refine pb_lc_geN g 11 dX8_size_2 dX8_size_3 (by decide) (by omega) (by omega) (fun c2 => ?_) (fun c2 => ?_) | refine pb_lc_ge g 11 dX8_size_2 dX8_size_3 (by decide) (fun c2 => ?_) (fun c2 => ?_)
  · refine pb_lload_n0 g dX8_size_11 ?_
    refine pb_lret g z dX8_size_12 ?_
    first | (rw [if_pos c2] at ha; exact ⟨_, rfl, ha, rfl⟩) | (rw [if_neg c2] at ha; exact ⟨_, rfl, ha, rfl⟩)
  · refine pb_lload_n0 g dX8_size_6 ?_
    refine pb_lneg g dX8_size_7 ?_
    refine pb_goto g 12 dX8_size_8 (by decide) ?_
    refine pb_lret g z dX8_size_12 ?_
    first | (rw [if_pos c2] at ha; exact ⟨_, rfl, ha, rfl⟩) | (rw [if_neg c2] at ha; exact ⟨_, rfl, ha, rfl⟩)
set_option maxHeartbeats 4000000 in
set_option maxRecDepth 100000 in
theorem m_isChanceF (k : Nat) {xn xP xsd xbo : Int32} {xod xkn xhs xmm xln xot xfa xgr xtsr xtsz xce xmv xtc : Nat → Int32} {xwy xnx xch xaf xfo xco : Nat → Int64} {S : Nat} {x y : Int32} (hx : ¬ inN x S) (hS : S ≤ 10) : Runs yX8_isChance cX8_isChance 3 (some .boolean) (k + 1) [.ref 0, .int x, .int y] (mkH 20 (mdF xn xP (nI S) xsd xod xkn xhs xmm xln xot xwy xnx xch xaf xfa xgr xfo xco xtsr xtsz xce xmv xtc xbo)) (fun o h' => ∃ r : Int32, o = some (.int r) ∧ r = nI 0 ∧ mkH 20 (mdF xn xP (nI S) xsd xod xkn xhs xmm xln xot xwy xnx xch xaf xfa xgr xfo xco xtsr xtsz xce xmv xtc xbo) = h') := by
  refine Runs.of (by decide) (Nat.le_of_ble_eq_true rfl) [some (.ref 0), some (.int x), some (.int y)] 0 rfl (fun Γ g z => ?_)
  refine pb_aload_n0 g dX8_isChance_0 ?_
  refine pb_iload_n1 g dX8_isChance_1 ?_
  refine pb_Vi1 g qX8_123 dX8_isChance_2 k (by omega) mr_o (m_isShuffleF k (S := S) hx hS) (fun r2 h2 e2 => ?_)
  obtain ⟨rfl, rfl⟩ := e2
  first | refine pb_if_eqN g 26 dX8_isChance_5 (by decide) (by omega) (fun c5 => ?_) (fun c5 => ?_) | refine pb_if_eq g 26 dX8_isChance_5 (by decide) (fun c5 => ?_) (fun c5 => ?_)
  · refine pb_iconst (v := nI 0) g dX8_isChance_26 (by decide) ?_
    refine pb_zret g z dX8_isChance_27 (by first | rfl | decide) ?_
    exact ⟨_, rfl, rfl, rfl⟩
  · exact absurd c5 (by decide)
set_option maxHeartbeats 4000000 in
set_option maxRecDepth 100000 in
theorem m_isChance (k : Nat) {xP xsd xbo : Int32} {xod xkn xhs xmm xln xot xfa xgr xtsr xtsz xce xmv xtc : Nat → Int32} {xwy xnx xch xaf xfo xco : Nat → Int64} {s n S K a : Nat} (hs : s < S) (hS : S ≤ 10) (hk : xkn s = nI K) (hh : xhs s = nI a) (hK : K < 5) (ha1 : 1 ≤ a) (ha : a ≤ 10) (hn : n ≤ 10) {x : Int32} : Runs yX8_isChance cX8_isChance 3 (some .boolean) (k + 1) [.ref 0, .int (nI s), .int x] (mkH 20 (mdF (nI n) xP (nI S) xsd xod xkn xhs xmm xln xot xwy xnx xch xaf xfa xgr xfo xco xtsr xtsz xce xmv xtc xbo)) (fun o h' => ∃ r : Int32, o = some (.int r) ∧ r = (if hcX n K a x = true then nI 1 else nI 0) ∧ mkH 20 (mdF (nI n) xP (nI S) xsd xod xkn xhs xmm xln xot xwy xnx xch xaf xfa xgr xfo xco xtsr xtsz xce xmv xtc xbo) = h') := by
  refine Runs.of (by decide) (Nat.le_of_ble_eq_true rfl) [some (.ref 0), some (.int (nI s)), some (.int x)] 0 rfl (fun Γ g z => ?_)
  by_cases hk3 : K < 3
  · have e : hcX n K a x = false := by
      unfold hcX
      cases ix x 7 with
      | none => rfl
      | some k0 => simp [hcB, show ¬ 3 ≤ K by omega]
    refine pb_aload_n0 g dX8_isChance_0 ?_
    refine pb_iload_n1 g dX8_isChance_1 ?_
    refine pb_Vi1 g qX8_123 dX8_isChance_2 k (by omega) mr_o (m_isShuffleT k (S := S) (j := s) hs hS) (fun r2 h2 e2 => ?_)
    obtain ⟨rfl, rfl⟩ := e2
    first | refine pb_if_eqN g 26 dX8_isChance_5 (by decide) (by omega) (fun c5 => ?_) (fun c5 => ?_) | refine pb_if_eq g 26 dX8_isChance_5 (by decide) (fun c5 => ?_) (fun c5 => ?_)
    · exact absurd c5 (by decide)
    · refine pb_aload_n0 g dX8_isChance_8 ?_
      refine pb_iload_n1 g dX8_isChance_9 ?_
      refine pb_Vi1 g qX8_126 dX8_isChance_10 k (by omega) mr_o (m_hasMove k (s := s) (K := K) (by omega) hk hK) (fun r10 h10 e10 => ?_)
      obtain ⟨rfl, rfl⟩ := e10
      rw [if_pos hk3]
      first | refine pb_if_neN g 26 dX8_isChance_13 (by decide) (by omega) (fun c13 => ?_) (fun c13 => ?_) | refine pb_if_ne g 26 dX8_isChance_13 (by decide) (fun c13 => ?_) (fun c13 => ?_)
      · refine pb_iconst (v := nI 0) g dX8_isChance_26 (by decide) ?_
        refine pb_zret g z dX8_isChance_27 (by first | rfl | decide) ?_
        exact ⟨_, rfl, by rw [e]; rfl, rfl⟩
      · exact absurd c13 (by decide)
  · cases hx : ix x 7 with
    | none =>
      have e : hcX n K a x = false := by simp only [hcX, hx]
      have hxn := inN_not (by decide) (ix_none (by decide) hx)
      have hx6 : x < 0 ∨ ¬ x ≤ nI 6 := hxn.imp id (fun q w => absurd (Int32.le_trans q w) (by decide))
      refine pb_aload_n0 g dX8_isChance_0 ?_
      refine pb_iload_n1 g dX8_isChance_1 ?_
      refine pb_Vi1 g qX8_123 dX8_isChance_2 k (by omega) mr_o (m_isShuffleT k (S := S) (j := s) hs hS) (fun r2 h2 e2 => ?_)
      obtain ⟨rfl, rfl⟩ := e2
      first | refine pb_if_eqN g 26 dX8_isChance_5 (by decide) (by omega) (fun c5 => ?_) (fun c5 => ?_) | refine pb_if_eq g 26 dX8_isChance_5 (by decide) (fun c5 => ?_) (fun c5 => ?_)
      · exact absurd c5 (by decide)
      · refine pb_aload_n0 g dX8_isChance_8 ?_
        refine pb_iload_n1 g dX8_isChance_9 ?_
        refine pb_Vi1 g qX8_126 dX8_isChance_10 k (by omega) mr_o (m_hasMove k (s := s) (K := K) (by omega) hk hK) (fun r10 h10 e10 => ?_)
        obtain ⟨rfl, rfl⟩ := e10
        rw [if_neg hk3]
        first | refine pb_if_neN g 26 dX8_isChance_13 (by decide) (by omega) (fun c13 => ?_) (fun c13 => ?_) | refine pb_if_ne g 26 dX8_isChance_13 (by decide) (fun c13 => ?_) (fun c13 => ?_)
        · exact absurd c13 (by decide)
        · refine pb_iload_n2 g dX8_isChance_16 ?_
          refine pb_if_lt g 26 dX8_isChance_17 (by decide) (fun c17 => ?_) (fun c17 => ?_)
          · refine pb_iconst (v := nI 0) g dX8_isChance_26 (by decide) ?_
            refine pb_zret g z dX8_isChance_27 (by first | rfl | decide) ?_
            exact ⟨_, rfl, by rw [e]; rfl, rfl⟩
          · refine pb_iload_n2 g dX8_isChance_20 ?_
            refine pb_bipush (v := nI 6) g dX8_isChance_21 (by decide) ?_
            first | refine pb_icmp_leN g 28 dX8_isChance_23 (by decide) (by omega) (by omega) (fun c23 => ?_) (fun c23 => ?_) | refine pb_icmp_le g 28 dX8_isChance_23 (by decide) (fun c23 => ?_) (fun c23 => ?_)
            · exact absurd hx6 (fun q => q.elim c17 (fun w => w c23))
            · refine pb_iconst (v := nI 0) g dX8_isChance_26 (by decide) ?_
              refine pb_zret g z dX8_isChance_27 (by first | rfl | decide) ?_
              exact ⟨_, rfl, by rw [e]; rfl, rfl⟩
    | some k0 =>
      obtain ⟨hk0, rfl⟩ := ix_some (by decide) hx
      have hpw := pow_10 (a := a) (k := k0) ha (by omega)
      by_cases h4 : K = 4
      · by_cases h6 : n ≤ 6
        · have e : hcX n K a (nI k0) = true := by simp only [hcX, hx]; simp [hcB, h4, h6]
          refine pb_aload_n0 g dX8_isChance_0 ?_
          refine pb_iload_n1 g dX8_isChance_1 ?_
          refine pb_Vi1 g qX8_123 dX8_isChance_2 k (by omega) mr_o (m_isShuffleT k (S := S) (j := s) hs hS) (fun r2 h2 e2 => ?_)
          obtain ⟨rfl, rfl⟩ := e2
          first | refine pb_if_eqN g 26 dX8_isChance_5 (by decide) (by omega) (fun c5 => ?_) (fun c5 => ?_) | refine pb_if_eq g 26 dX8_isChance_5 (by decide) (fun c5 => ?_) (fun c5 => ?_)
          · exact absurd c5 (by decide)
          · refine pb_aload_n0 g dX8_isChance_8 ?_
            refine pb_iload_n1 g dX8_isChance_9 ?_
            refine pb_Vi1 g qX8_126 dX8_isChance_10 k (by omega) mr_o (m_hasMove k (s := s) (K := K) (by omega) hk hK) (fun r10 h10 e10 => ?_)
            obtain ⟨rfl, rfl⟩ := e10
            rw [if_neg hk3]
            first | refine pb_if_neN g 26 dX8_isChance_13 (by decide) (by omega) (fun c13 => ?_) (fun c13 => ?_) | refine pb_if_ne g 26 dX8_isChance_13 (by decide) (fun c13 => ?_) (fun c13 => ?_)
            · exact absurd c13 (by decide)
            · refine pb_iload_n2 g dX8_isChance_16 ?_
              refine pb_if_ltN g 26 dX8_isChance_17 (by decide) (by omega) ?_
              refine pb_iload_n2 g dX8_isChance_20 ?_
              refine pb_bipush (v := nI 6) g dX8_isChance_21 (by decide) ?_
              first | refine pb_icmp_leN g 28 dX8_isChance_23 (by decide) (by omega) (by omega) (fun c23 => ?_) (fun c23 => ?_) | refine pb_icmp_le g 28 dX8_isChance_23 (by decide) (fun c23 => ?_) (fun c23 => ?_)
              · refine pb_aload_n0 g dX8_isChance_28 ?_
                refine pb_getf g fX8_17 dX8_isChance_29 mr_o rfl ?_
                refine pb_iload_n1 g dX8_isChance_32 ?_
                first | refine pb_ialdN g dX8_isChance_33 (by first | exact mr_kind | exact mr_order | exact mr_heaps | exact mr_m | exact mr_line | exact mr_other | exact mr_ways | exact mr_next | exact mr_chances | exact mr_after | exact mr_far | exact mr_groups | exact mr_found | exact mr_counts | exact mr_traySort | exact mr_traySize | exact mr_cells | exact mr_moved | exact mr_traced | assumption) (by omega) (by omega) ?_ | refine pb_ald0 g dX8_isChance_33 (by omega) ?_ | refine pb_ald1 g dX8_isChance_33 (by omega) ?_ | refine pb_ald2 g dX8_isChance_33 (by omega) ?_ | refine pb_ald3 g dX8_isChance_33 (by omega) ?_ | refine pb_iald g dX8_isChance_33 (by first | exact mr_kind | exact mr_order | exact mr_heaps | exact mr_m | exact mr_line | exact mr_other | exact mr_ways | exact mr_next | exact mr_chances | exact mr_after | exact mr_far | exact mr_groups | exact mr_found | exact mr_counts | exact mr_traySort | exact mr_traySize | exact mr_cells | exact mr_moved | exact mr_traced | assumption) (by assumption) ?_
                rw [hk]
                refine pb_iconst (v := nI 4) g dX8_isChance_34 (by decide) ?_
                first | refine pb_icmp_neN g 55 dX8_isChance_35 (by decide) (by omega) (by omega) (fun c35 => ?_) (fun c35 => ?_) | refine pb_icmp_ne g 55 dX8_isChance_35 (by decide) (fun c35 => ?_) (fun c35 => ?_)
                · exact absurd h4 c35
                · refine pb_aload_n0 g dX8_isChance_38 ?_
                  refine pb_getf g fX8_7 dX8_isChance_39 mr_o rfl ?_
                  refine pb_bipush (v := nI 6) g dX8_isChance_42 (by decide) ?_
                  first | refine pb_icmp_gtN g 51 dX8_isChance_44 (by decide) (by omega) (by omega) (fun c44 => ?_) (fun c44 => ?_) | refine pb_icmp_gt g 51 dX8_isChance_44 (by decide) (fun c44 => ?_) (fun c44 => ?_)
                  · exact absurd c44 (by omega)
                  · refine pb_iconst (v := nI 1) g dX8_isChance_47 (by decide) ?_
                    refine pb_goto g 78 dX8_isChance_48 (by decide) ?_
                    refine pb_zret g z dX8_isChance_78 (by first | rfl | decide) ?_
                    exact ⟨_, rfl, by rw [e]; rfl, rfl⟩
              · exact absurd c23 (by omega)
        · have e : hcX n K a (nI k0) = false := by simp only [hcX, hx]; simp [hcB, h4, h6]
          refine pb_aload_n0 g dX8_isChance_0 ?_
          refine pb_iload_n1 g dX8_isChance_1 ?_
          refine pb_Vi1 g qX8_123 dX8_isChance_2 k (by omega) mr_o (m_isShuffleT k (S := S) (j := s) hs hS) (fun r2 h2 e2 => ?_)
          obtain ⟨rfl, rfl⟩ := e2
          first | refine pb_if_eqN g 26 dX8_isChance_5 (by decide) (by omega) (fun c5 => ?_) (fun c5 => ?_) | refine pb_if_eq g 26 dX8_isChance_5 (by decide) (fun c5 => ?_) (fun c5 => ?_)
          · exact absurd c5 (by decide)
          · refine pb_aload_n0 g dX8_isChance_8 ?_
            refine pb_iload_n1 g dX8_isChance_9 ?_
            refine pb_Vi1 g qX8_126 dX8_isChance_10 k (by omega) mr_o (m_hasMove k (s := s) (K := K) (by omega) hk hK) (fun r10 h10 e10 => ?_)
            obtain ⟨rfl, rfl⟩ := e10
            rw [if_neg hk3]
            first | refine pb_if_neN g 26 dX8_isChance_13 (by decide) (by omega) (fun c13 => ?_) (fun c13 => ?_) | refine pb_if_ne g 26 dX8_isChance_13 (by decide) (fun c13 => ?_) (fun c13 => ?_)
            · exact absurd c13 (by decide)
            · refine pb_iload_n2 g dX8_isChance_16 ?_
              refine pb_if_ltN g 26 dX8_isChance_17 (by decide) (by omega) ?_
              refine pb_iload_n2 g dX8_isChance_20 ?_
              refine pb_bipush (v := nI 6) g dX8_isChance_21 (by decide) ?_
              first | refine pb_icmp_leN g 28 dX8_isChance_23 (by decide) (by omega) (by omega) (fun c23 => ?_) (fun c23 => ?_) | refine pb_icmp_le g 28 dX8_isChance_23 (by decide) (fun c23 => ?_) (fun c23 => ?_)
              · refine pb_aload_n0 g dX8_isChance_28 ?_
                refine pb_getf g fX8_17 dX8_isChance_29 mr_o rfl ?_
                refine pb_iload_n1 g dX8_isChance_32 ?_
                first | refine pb_ialdN g dX8_isChance_33 (by first | exact mr_kind | exact mr_order | exact mr_heaps | exact mr_m | exact mr_line | exact mr_other | exact mr_ways | exact mr_next | exact mr_chances | exact mr_after | exact mr_far | exact mr_groups | exact mr_found | exact mr_counts | exact mr_traySort | exact mr_traySize | exact mr_cells | exact mr_moved | exact mr_traced | assumption) (by omega) (by omega) ?_ | refine pb_ald0 g dX8_isChance_33 (by omega) ?_ | refine pb_ald1 g dX8_isChance_33 (by omega) ?_ | refine pb_ald2 g dX8_isChance_33 (by omega) ?_ | refine pb_ald3 g dX8_isChance_33 (by omega) ?_ | refine pb_iald g dX8_isChance_33 (by first | exact mr_kind | exact mr_order | exact mr_heaps | exact mr_m | exact mr_line | exact mr_other | exact mr_ways | exact mr_next | exact mr_chances | exact mr_after | exact mr_far | exact mr_groups | exact mr_found | exact mr_counts | exact mr_traySort | exact mr_traySize | exact mr_cells | exact mr_moved | exact mr_traced | assumption) (by assumption) ?_
                rw [hk]
                refine pb_iconst (v := nI 4) g dX8_isChance_34 (by decide) ?_
                first | refine pb_icmp_neN g 55 dX8_isChance_35 (by decide) (by omega) (by omega) (fun c35 => ?_) (fun c35 => ?_) | refine pb_icmp_ne g 55 dX8_isChance_35 (by decide) (fun c35 => ?_) (fun c35 => ?_)
                · exact absurd h4 c35
                · refine pb_aload_n0 g dX8_isChance_38 ?_
                  refine pb_getf g fX8_7 dX8_isChance_39 mr_o rfl ?_
                  refine pb_bipush (v := nI 6) g dX8_isChance_42 (by decide) ?_
                  first | refine pb_icmp_gtN g 51 dX8_isChance_44 (by decide) (by omega) (by omega) (fun c44 => ?_) (fun c44 => ?_) | refine pb_icmp_gt g 51 dX8_isChance_44 (by decide) (fun c44 => ?_) (fun c44 => ?_)
                  · refine pb_iconst (v := nI 0) g dX8_isChance_51 (by decide) ?_
                    refine pb_goto g 78 dX8_isChance_52 (by decide) ?_
                    refine pb_zret g z dX8_isChance_78 (by first | rfl | decide) ?_
                    exact ⟨_, rfl, by rw [e]; rfl, rfl⟩
                  · exact absurd c44 (by omega)
              · exact absurd c23 (by omega)
      · by_cases h10 : a ^ k0 ≤ 10
        · have e : hcX n K a (nI k0) = true := by simp only [hcX, hx]; simp [hcB, h4, h10, show 3 ≤ K by omega]
          refine pb_aload_n0 g dX8_isChance_0 ?_
          refine pb_iload_n1 g dX8_isChance_1 ?_
          refine pb_Vi1 g qX8_123 dX8_isChance_2 k (by omega) mr_o (m_isShuffleT k (S := S) (j := s) hs hS) (fun r2 h2 e2 => ?_)
          obtain ⟨rfl, rfl⟩ := e2
          first | refine pb_if_eqN g 26 dX8_isChance_5 (by decide) (by omega) (fun c5 => ?_) (fun c5 => ?_) | refine pb_if_eq g 26 dX8_isChance_5 (by decide) (fun c5 => ?_) (fun c5 => ?_)
          · exact absurd c5 (by decide)
          · refine pb_aload_n0 g dX8_isChance_8 ?_
            refine pb_iload_n1 g dX8_isChance_9 ?_
            refine pb_Vi1 g qX8_126 dX8_isChance_10 k (by omega) mr_o (m_hasMove k (s := s) (K := K) (by omega) hk hK) (fun r10 h10 e10 => ?_)
            obtain ⟨rfl, rfl⟩ := e10
            rw [if_neg hk3]
            first | refine pb_if_neN g 26 dX8_isChance_13 (by decide) (by omega) (fun c13 => ?_) (fun c13 => ?_) | refine pb_if_ne g 26 dX8_isChance_13 (by decide) (fun c13 => ?_) (fun c13 => ?_)
            · exact absurd c13 (by decide)
            · refine pb_iload_n2 g dX8_isChance_16 ?_
              refine pb_if_ltN g 26 dX8_isChance_17 (by decide) (by omega) ?_
              refine pb_iload_n2 g dX8_isChance_20 ?_
              refine pb_bipush (v := nI 6) g dX8_isChance_21 (by decide) ?_
              first | refine pb_icmp_leN g 28 dX8_isChance_23 (by decide) (by omega) (by omega) (fun c23 => ?_) (fun c23 => ?_) | refine pb_icmp_le g 28 dX8_isChance_23 (by decide) (fun c23 => ?_) (fun c23 => ?_)
              · refine pb_aload_n0 g dX8_isChance_28 ?_
                refine pb_getf g fX8_17 dX8_isChance_29 mr_o rfl ?_
                refine pb_iload_n1 g dX8_isChance_32 ?_
                first | refine pb_ialdN g dX8_isChance_33 (by first | exact mr_kind | exact mr_order | exact mr_heaps | exact mr_m | exact mr_line | exact mr_other | exact mr_ways | exact mr_next | exact mr_chances | exact mr_after | exact mr_far | exact mr_groups | exact mr_found | exact mr_counts | exact mr_traySort | exact mr_traySize | exact mr_cells | exact mr_moved | exact mr_traced | assumption) (by omega) (by omega) ?_ | refine pb_ald0 g dX8_isChance_33 (by omega) ?_ | refine pb_ald1 g dX8_isChance_33 (by omega) ?_ | refine pb_ald2 g dX8_isChance_33 (by omega) ?_ | refine pb_ald3 g dX8_isChance_33 (by omega) ?_ | refine pb_iald g dX8_isChance_33 (by first | exact mr_kind | exact mr_order | exact mr_heaps | exact mr_m | exact mr_line | exact mr_other | exact mr_ways | exact mr_next | exact mr_chances | exact mr_after | exact mr_far | exact mr_groups | exact mr_found | exact mr_counts | exact mr_traySort | exact mr_traySize | exact mr_cells | exact mr_moved | exact mr_traced | assumption) (by assumption) ?_
                rw [hk]
                refine pb_iconst (v := nI 4) g dX8_isChance_34 (by decide) ?_
                first | refine pb_icmp_neN g 55 dX8_isChance_35 (by decide) (by omega) (by omega) (fun c35 => ?_) (fun c35 => ?_) | refine pb_icmp_ne g 55 dX8_isChance_35 (by decide) (fun c35 => ?_) (fun c35 => ?_)
                · refine pb_aload_n0 g dX8_isChance_55 ?_
                  refine pb_getf g fX8_20 dX8_isChance_56 mr_o rfl ?_
                  refine pb_iload_n1 g dX8_isChance_59 ?_
                  first | refine pb_ialdN g dX8_isChance_60 (by first | exact mr_heaps | exact mr_kind | exact mr_order | exact mr_m | exact mr_line | exact mr_other | exact mr_ways | exact mr_next | exact mr_chances | exact mr_after | exact mr_far | exact mr_groups | exact mr_found | exact mr_counts | exact mr_traySort | exact mr_traySize | exact mr_cells | exact mr_moved | exact mr_traced | assumption) (by omega) (by omega) ?_ | refine pb_ald0 g dX8_isChance_60 (by omega) ?_ | refine pb_ald1 g dX8_isChance_60 (by omega) ?_ | refine pb_ald2 g dX8_isChance_60 (by omega) ?_ | refine pb_ald3 g dX8_isChance_60 (by omega) ?_ | refine pb_iald g dX8_isChance_60 (by first | exact mr_heaps | exact mr_kind | exact mr_order | exact mr_m | exact mr_line | exact mr_other | exact mr_ways | exact mr_next | exact mr_chances | exact mr_after | exact mr_far | exact mr_groups | exact mr_found | exact mr_counts | exact mr_traySort | exact mr_traySize | exact mr_cells | exact mr_moved | exact mr_traced | assumption) (by assumption) ?_
                  rw [hh]
                  first | refine pb_i2lN g dX8_isChance_61 (by omega) ?_ | refine pb_i2l g dX8_isChance_61 ?_
                  refine pb_iload_n2 g dX8_isChance_62 ?_
                  refine pb_Sl2 g qX8_145 dX8_isChance_63 k (by omega) (m_power k (a) (k0) (by omega) _) (fun r63 h63 e63 => ?_)
                  obtain ⟨rfl, rfl⟩ := e63
                  refine pb_ldc2w (w := lN 10) g kX8_162 (by decide) dX8_isChance_66 ?_
                  first | refine pb_lc_gtN g 77 dX8_isChance_69 dX8_isChance_70 (by decide) (by omega) (by omega) (fun c69 => ?_) (fun c69 => ?_) | refine pb_lc_gt g 77 dX8_isChance_69 dX8_isChance_70 (by decide) (fun c69 => ?_) (fun c69 => ?_)
                  · exact absurd c69 (by omega)
                  · refine pb_iconst (v := nI 1) g dX8_isChance_73 (by decide) ?_
                    refine pb_goto g 78 dX8_isChance_74 (by decide) ?_
                    refine pb_zret g z dX8_isChance_78 (by first | rfl | decide) ?_
                    exact ⟨_, rfl, by rw [e]; rfl, rfl⟩
                · exact absurd c35 h4
              · exact absurd c23 (by omega)
        · have e : hcX n K a (nI k0) = false := by simp only [hcX, hx]; simp [hcB, h4, h10]
          refine pb_aload_n0 g dX8_isChance_0 ?_
          refine pb_iload_n1 g dX8_isChance_1 ?_
          refine pb_Vi1 g qX8_123 dX8_isChance_2 k (by omega) mr_o (m_isShuffleT k (S := S) (j := s) hs hS) (fun r2 h2 e2 => ?_)
          obtain ⟨rfl, rfl⟩ := e2
          first | refine pb_if_eqN g 26 dX8_isChance_5 (by decide) (by omega) (fun c5 => ?_) (fun c5 => ?_) | refine pb_if_eq g 26 dX8_isChance_5 (by decide) (fun c5 => ?_) (fun c5 => ?_)
          · exact absurd c5 (by decide)
          · refine pb_aload_n0 g dX8_isChance_8 ?_
            refine pb_iload_n1 g dX8_isChance_9 ?_
            refine pb_Vi1 g qX8_126 dX8_isChance_10 k (by omega) mr_o (m_hasMove k (s := s) (K := K) (by omega) hk hK) (fun r10 h10 e10 => ?_)
            obtain ⟨rfl, rfl⟩ := e10
            rw [if_neg hk3]
            first | refine pb_if_neN g 26 dX8_isChance_13 (by decide) (by omega) (fun c13 => ?_) (fun c13 => ?_) | refine pb_if_ne g 26 dX8_isChance_13 (by decide) (fun c13 => ?_) (fun c13 => ?_)
            · exact absurd c13 (by decide)
            · refine pb_iload_n2 g dX8_isChance_16 ?_
              refine pb_if_ltN g 26 dX8_isChance_17 (by decide) (by omega) ?_
              refine pb_iload_n2 g dX8_isChance_20 ?_
              refine pb_bipush (v := nI 6) g dX8_isChance_21 (by decide) ?_
              first | refine pb_icmp_leN g 28 dX8_isChance_23 (by decide) (by omega) (by omega) (fun c23 => ?_) (fun c23 => ?_) | refine pb_icmp_le g 28 dX8_isChance_23 (by decide) (fun c23 => ?_) (fun c23 => ?_)
              · refine pb_aload_n0 g dX8_isChance_28 ?_
                refine pb_getf g fX8_17 dX8_isChance_29 mr_o rfl ?_
                refine pb_iload_n1 g dX8_isChance_32 ?_
                first | refine pb_ialdN g dX8_isChance_33 (by first | exact mr_kind | exact mr_order | exact mr_heaps | exact mr_m | exact mr_line | exact mr_other | exact mr_ways | exact mr_next | exact mr_chances | exact mr_after | exact mr_far | exact mr_groups | exact mr_found | exact mr_counts | exact mr_traySort | exact mr_traySize | exact mr_cells | exact mr_moved | exact mr_traced | assumption) (by omega) (by omega) ?_ | refine pb_ald0 g dX8_isChance_33 (by omega) ?_ | refine pb_ald1 g dX8_isChance_33 (by omega) ?_ | refine pb_ald2 g dX8_isChance_33 (by omega) ?_ | refine pb_ald3 g dX8_isChance_33 (by omega) ?_ | refine pb_iald g dX8_isChance_33 (by first | exact mr_kind | exact mr_order | exact mr_heaps | exact mr_m | exact mr_line | exact mr_other | exact mr_ways | exact mr_next | exact mr_chances | exact mr_after | exact mr_far | exact mr_groups | exact mr_found | exact mr_counts | exact mr_traySort | exact mr_traySize | exact mr_cells | exact mr_moved | exact mr_traced | assumption) (by assumption) ?_
                rw [hk]
                refine pb_iconst (v := nI 4) g dX8_isChance_34 (by decide) ?_
                first | refine pb_icmp_neN g 55 dX8_isChance_35 (by decide) (by omega) (by omega) (fun c35 => ?_) (fun c35 => ?_) | refine pb_icmp_ne g 55 dX8_isChance_35 (by decide) (fun c35 => ?_) (fun c35 => ?_)
                · refine pb_aload_n0 g dX8_isChance_55 ?_
                  refine pb_getf g fX8_20 dX8_isChance_56 mr_o rfl ?_
                  refine pb_iload_n1 g dX8_isChance_59 ?_
                  first | refine pb_ialdN g dX8_isChance_60 (by first | exact mr_heaps | exact mr_kind | exact mr_order | exact mr_m | exact mr_line | exact mr_other | exact mr_ways | exact mr_next | exact mr_chances | exact mr_after | exact mr_far | exact mr_groups | exact mr_found | exact mr_counts | exact mr_traySort | exact mr_traySize | exact mr_cells | exact mr_moved | exact mr_traced | assumption) (by omega) (by omega) ?_ | refine pb_ald0 g dX8_isChance_60 (by omega) ?_ | refine pb_ald1 g dX8_isChance_60 (by omega) ?_ | refine pb_ald2 g dX8_isChance_60 (by omega) ?_ | refine pb_ald3 g dX8_isChance_60 (by omega) ?_ | refine pb_iald g dX8_isChance_60 (by first | exact mr_heaps | exact mr_kind | exact mr_order | exact mr_m | exact mr_line | exact mr_other | exact mr_ways | exact mr_next | exact mr_chances | exact mr_after | exact mr_far | exact mr_groups | exact mr_found | exact mr_counts | exact mr_traySort | exact mr_traySize | exact mr_cells | exact mr_moved | exact mr_traced | assumption) (by assumption) ?_
                  rw [hh]
                  first | refine pb_i2lN g dX8_isChance_61 (by omega) ?_ | refine pb_i2l g dX8_isChance_61 ?_
                  refine pb_iload_n2 g dX8_isChance_62 ?_
                  refine pb_Sl2 g qX8_145 dX8_isChance_63 k (by omega) (m_power k (a) (k0) (by omega) _) (fun r63 h63 e63 => ?_)
                  obtain ⟨rfl, rfl⟩ := e63
                  refine pb_ldc2w (w := lN 10) g kX8_162 (by decide) dX8_isChance_66 ?_
                  first | refine pb_lc_gtN g 77 dX8_isChance_69 dX8_isChance_70 (by decide) (by omega) (by omega) (fun c69 => ?_) (fun c69 => ?_) | refine pb_lc_gt g 77 dX8_isChance_69 dX8_isChance_70 (by decide) (fun c69 => ?_) (fun c69 => ?_)
                  · refine pb_iconst (v := nI 0) g dX8_isChance_77 (by decide) ?_
                    refine pb_zret g z dX8_isChance_78 (by first | rfl | decide) ?_
                    exact ⟨_, rfl, by rw [e]; rfl, rfl⟩
                  · exact absurd c69 (by omega)
                · exact absurd c35 h4
              · exact absurd c23 (by omega)
set_option maxHeartbeats 4000000 in
set_option maxRecDepth 100000 in
theorem m_heapWays (k : Nat) {xP xS xsd xbo : Int32} {xod xkn xhs xmm xln xot xfa xgr xtsr xtsz xce xmv xtc : Nat → Int32} {xwy xnx xch xaf xfo xco : Nat → Int64} {n a r : Nat} (hn : n ≤ 10) (hn1 : 1 ≤ n) (ha : a ≤ 10) (hr : r < n) : Runs yX8_heapWays cX8_heapWays 7 (some .long) (k) [.ref 0, .int (nI a), .int (nI r)] (mkH 20 (mdF (nI n) xP xS xsd xod xkn xhs xmm xln xot xwy xnx xch xaf xfa xgr xfo xco xtsr xtsz xce xmv xtc xbo)) (fun oo h' => ∃ r9 : Int64, oo = some (.long r9) ∧ r9 = lN (choF (a + (n - 1 - r)) n) ∧ ∃ f1 f2 : Nat → Int64, mkH 20 (mdF (nI n) xP xS xsd xod xkn xhs xmm xln xot (f1) (f2) xch xaf xfa xgr xfo xco xtsr xtsz xce xmv xtc xbo) = h') := by
  refine Runs.of (by decide) (Nat.le_of_ble_eq_true rfl) [some (.ref 0), some (.int (nI a)), some (.int (nI r)), none, none, none, none] 4 rfl (fun Γ g z => ?_)
  have last : ∀ (f g0 : Nat → Int64) (w6 : Option Value), (∀ j, j < a → f j = lN (choF (j + (n - 1 - r)) (n - 1))) → ∀ i, i ≤ a → PB Γ 138 [some (.ref 0), some (.int (nI a)), some (.int (nI r)), some (.long (lN (choF (i + (n - 1 - r)) n))), none, some (.int (nI i)), w6] [] (mkH 20 (mdF (nI n) xP xS xsd xod xkn xhs xmm xln xot (f) (g0) xch xaf xfa xgr xfo xco xtsr xtsz xce xmv xtc xbo)) := by
    intro f g0 w6 hf
    refine pb_loop a (fun i hi ih => ?_)
    by_cases hia : i < a
    · have ih := ih hia
      have hp := pas2 (i + (n - 1 - r)) (by omega) (n - 1) (by omega)
      rw [show n - 1 + 1 = n by omega, show i + (n - 1 - r) + 1 = i + 1 + (n - 1 - r) by omega] at hp
      rw [hp] at ih
      refine pb_iload5 g dX8_heapWays_138 ?_
      refine pb_iload_n1 g dX8_heapWays_140 ?_
      first | refine pb_icmp_geN g 160 dX8_heapWays_141 (by decide) (by omega) (by omega) (fun c141 => ?_) (fun c141 => ?_) | refine pb_icmp_ge g 160 dX8_heapWays_141 (by decide) (fun c141 => ?_) (fun c141 => ?_)
      · exact absurd c141 (by omega)
      · refine pb_lload_n3 g dX8_heapWays_144 ?_
        refine pb_aload_n0 g dX8_heapWays_145 ?_
        refine pb_getf g fX8_32 dX8_heapWays_146 mr_o rfl ?_
        refine pb_iload5 g dX8_heapWays_149 ?_
        first | refine pb_laldN g dX8_heapWays_151 (by first | exact mr_ways | exact mr_order | exact mr_kind | exact mr_heaps | exact mr_m | exact mr_line | exact mr_other | exact mr_next | exact mr_chances | exact mr_after | exact mr_far | exact mr_groups | exact mr_found | exact mr_counts | exact mr_traySort | exact mr_traySize | exact mr_cells | exact mr_moved | exact mr_traced | assumption) (by omega) (by omega) ?_ | refine pb_lald g dX8_heapWays_151 (by first | exact mr_ways | exact mr_order | exact mr_kind | exact mr_heaps | exact mr_m | exact mr_line | exact mr_other | exact mr_next | exact mr_chances | exact mr_after | exact mr_far | exact mr_groups | exact mr_found | exact mr_counts | exact mr_traySort | exact mr_traySize | exact mr_cells | exact mr_moved | exact mr_traced | assumption) (by assumption) ?_
        rw [hf i hia]
        first | refine pb_laddN g dX8_heapWays_152 ?_ | refine pb_ladd g dX8_heapWays_152 ?_
        refine pb_lstore_n3 g dX8_heapWays_153 (by decide) ?_
        first | refine pb_iinc5N g dX8_heapWays_154 (by decide) ?_ | refine pb_iinc5 g dX8_heapWays_154 (by decide) rfl ?_
        refine pb_goto g 138 dX8_heapWays_157 (by decide) ?_
        exact ih
    · obtain rfl : i = a := by omega
      refine pb_iload5 g dX8_heapWays_138 ?_
      refine pb_iload_n1 g dX8_heapWays_140 ?_
      first | refine pb_icmp_geN g 160 dX8_heapWays_141 (by decide) (by omega) (by omega) (fun c141 => ?_) (fun c141 => ?_) | refine pb_icmp_ge g 160 dX8_heapWays_141 (by decide) (fun c141 => ?_) (fun c141 => ?_)
      · refine pb_lload_n3 g dX8_heapWays_160 ?_
        refine pb_lret g z dX8_heapWays_161 ?_
        exact ⟨_, rfl, rfl, _, _, rfl⟩
      · exact absurd c141 (by omega)
  have loop : ∀ m, m ≤ n - 1 → ∀ (f g0 : Nat → Int64) (w4 w5 w6 : Option Value), (∀ j, j < a → f j = lN (choF (j + (m - r)) m)) → PB Γ 22 [some (.ref 0), some (.int (nI a)), some (.int (nI r)), some (.int (nI (m + 1))), w4, w5, w6] [] (mkH 20 (mdF (nI n) xP xS xsd xod xkn xhs xmm xln xot (f) (g0) xch xaf xfa xgr xfo xco xtsr xtsz xce xmv xtc xbo)) := by
    refine pb_loop (n - 1) (fun m hm ih f g0 w4 w5 w6 hf => ?_)
    by_cases hmn : m < n - 1
    · have ih := ih hmn
      have copy : ∀ (g0 : Nat → Int64) (s9 : Int64), (∀ j, j < a → g0 j = lN (choF (j + (m + 1 - r)) (m + 1))) → ∀ i, i ≤ a → ∀ f : Nat → Int64, (∀ j, j < i → f j = lN (choF (j + (m + 1 - r)) (m + 1))) → PB Γ 101 [some (.ref 0), some (.int (nI a)), some (.int (nI r)), some (.int (nI (m + 1))), some (.long s9), none, some (.int (nI i))] [] (mkH 20 (mdF (nI n) xP xS xsd xod xkn xhs xmm xln xot (f) (g0) xch xaf xfa xgr xfo xco xtsr xtsz xce xmv xtc xbo)) := by
        intro g0 s9 hg
        refine pb_loop a (fun i hi ihc f hf7 => ?_)
        by_cases hia : i < a
        · have ihc := ihc hia
          refine pb_iload6 g dX8_heapWays_101 ?_
          refine pb_iload_n1 g dX8_heapWays_103 ?_
          first | refine pb_icmp_geN g 127 dX8_heapWays_104 (by decide) (by omega) (by omega) (fun c104 => ?_) (fun c104 => ?_) | refine pb_icmp_ge g 127 dX8_heapWays_104 (by decide) (fun c104 => ?_) (fun c104 => ?_)
          · exact absurd c104 (by omega)
          · refine pb_aload_n0 g dX8_heapWays_107 ?_
            refine pb_getf g fX8_32 dX8_heapWays_108 mr_o rfl ?_
            refine pb_iload6 g dX8_heapWays_111 ?_
            refine pb_aload_n0 g dX8_heapWays_113 ?_
            refine pb_getf g fX8_36 dX8_heapWays_114 mr_o rfl ?_
            refine pb_iload6 g dX8_heapWays_117 ?_
            first | refine pb_laldN g dX8_heapWays_119 (by first | exact mr_next | exact mr_ways | exact mr_order | exact mr_kind | exact mr_heaps | exact mr_m | exact mr_line | exact mr_other | exact mr_chances | exact mr_after | exact mr_far | exact mr_groups | exact mr_found | exact mr_counts | exact mr_traySort | exact mr_traySize | exact mr_cells | exact mr_moved | exact mr_traced | assumption) (by omega) (by omega) ?_ | refine pb_lald g dX8_heapWays_119 (by first | exact mr_next | exact mr_ways | exact mr_order | exact mr_kind | exact mr_heaps | exact mr_m | exact mr_line | exact mr_other | exact mr_chances | exact mr_after | exact mr_far | exact mr_groups | exact mr_found | exact mr_counts | exact mr_traySort | exact mr_traySize | exact mr_cells | exact mr_moved | exact mr_traced | assumption) (by assumption) ?_
            first | refine pb_lastN g dX8_heapWays_120 (by first | exact mr_next | exact mr_ways | exact mr_order | exact mr_kind | exact mr_heaps | exact mr_m | exact mr_line | exact mr_other | exact mr_chances | exact mr_after | exact mr_far | exact mr_groups | exact mr_found | exact mr_counts | exact mr_traySort | exact mr_traySize | exact mr_cells | exact mr_moved | exact mr_traced | assumption) (by omega) (by omega) ?_ | refine pb_last g dX8_heapWays_120 (by first | exact mr_next | exact mr_ways | exact mr_order | exact mr_kind | exact mr_heaps | exact mr_m | exact mr_line | exact mr_other | exact mr_chances | exact mr_after | exact mr_far | exact mr_groups | exact mr_found | exact mr_counts | exact mr_traySort | exact mr_traySize | exact mr_cells | exact mr_moved | exact mr_traced | assumption) (by assumption) ?_
            first | rw [ms_next] | rw [ms_ways]
            first | refine pb_iinc6N g dX8_heapWays_121 (by decide) ?_ | refine pb_iinc6 g dX8_heapWays_121 (by decide) rfl ?_
            refine pb_goto g 101 dX8_heapWays_124 (by decide) ?_
            exact ihc _ (upL_ext (v := fun j => lN (choF (j + (m + 1 - r)) (m + 1))) hf7 (hg i hia))
        · obtain rfl : i = a := by omega
          refine pb_iload6 g dX8_heapWays_101 ?_
          refine pb_iload_n1 g dX8_heapWays_103 ?_
          first | refine pb_icmp_geN g 127 dX8_heapWays_104 (by decide) (by omega) (by omega) (fun c104 => ?_) (fun c104 => ?_) | refine pb_icmp_ge g 127 dX8_heapWays_104 (by decide) (fun c104 => ?_) (fun c104 => ?_)
          · first | refine pb_iinc3N g dX8_heapWays_127 (by decide) ?_ | refine pb_iinc3 g dX8_heapWays_127 (by decide) rfl ?_
            refine pb_goto g 22 dX8_heapWays_130 (by decide) ?_
            exact ih _ _ _ _ _ hf7
          · exact absurd c104 (by omega)
      have inner : ∀ i, i ≤ a → ∀ g0 : Nat → Int64, (∀ j, j < i → g0 j = lN (choF (j + (m + 1 - r)) (m + 1))) → PB Γ 36 [some (.ref 0), some (.int (nI a)), some (.int (nI r)), some (.int (nI (m + 1))), some (.long (lN (choF (i + (m - r)) (m + 1)))), none, some (.int (nI i))] [] (mkH 20 (mdF (nI n) xP xS xsd xod xkn xhs xmm xln xot (f) (g0) xch xaf xfa xgr xfo xco xtsr xtsz xce xmv xtc xbo)) := by
        refine pb_loop a (fun i hi ihi g0 hg => ?_)
        by_cases hia : i < a
        · have ihi := ihi hia
          have hfi := hf i hia
          have hp := pas2 (i + (m - r)) (by omega) m (by omega)
          rw [show i + (m - r) + 1 = i + 1 + (m - r) by omega] at hp
          rw [hp] at ihi
          refine pb_iload6 g dX8_heapWays_36 ?_
          refine pb_iload_n1 g dX8_heapWays_38 ?_
          first | refine pb_icmp_geN g 98 dX8_heapWays_39 (by decide) (by omega) (by omega) (fun c39 => ?_) (fun c39 => ?_) | refine pb_icmp_ge g 98 dX8_heapWays_39 (by decide) (fun c39 => ?_) (fun c39 => ?_)
          · exact absurd c39 (by omega)
          · refine pb_iload_n3 g dX8_heapWays_42 ?_
            refine pb_iload_n2 g dX8_heapWays_43 ?_
            first | refine pb_icmp_gtN g 71 dX8_heapWays_44 (by decide) (by omega) (by omega) (fun c44 => ?_) (fun c44 => ?_) | refine pb_icmp_gt g 71 dX8_heapWays_44 (by decide) (fun c44 => ?_) (fun c44 => ?_)
            · refine pb_lload4 g dX8_heapWays_71 ?_
              refine pb_aload_n0 g dX8_heapWays_73 ?_
              refine pb_getf g fX8_32 dX8_heapWays_74 mr_o rfl ?_
              refine pb_iload6 g dX8_heapWays_77 ?_
              first | refine pb_laldN g dX8_heapWays_79 (by first | exact mr_ways | exact mr_order | exact mr_kind | exact mr_heaps | exact mr_m | exact mr_line | exact mr_other | exact mr_next | exact mr_chances | exact mr_after | exact mr_far | exact mr_groups | exact mr_found | exact mr_counts | exact mr_traySort | exact mr_traySize | exact mr_cells | exact mr_moved | exact mr_traced | assumption) (by omega) (by omega) ?_ | refine pb_lald g dX8_heapWays_79 (by first | exact mr_ways | exact mr_order | exact mr_kind | exact mr_heaps | exact mr_m | exact mr_line | exact mr_other | exact mr_next | exact mr_chances | exact mr_after | exact mr_far | exact mr_groups | exact mr_found | exact mr_counts | exact mr_traySort | exact mr_traySize | exact mr_cells | exact mr_moved | exact mr_traced | assumption) (by assumption) ?_
              rw [hfi]
              first | refine pb_laddN g dX8_heapWays_80 ?_ | refine pb_ladd g dX8_heapWays_80 ?_
              refine pb_lstore4 g dX8_heapWays_81 (by decide) ?_
              refine pb_aload_n0 g dX8_heapWays_83 ?_
              refine pb_getf g fX8_36 dX8_heapWays_84 mr_o rfl ?_
              refine pb_iload6 g dX8_heapWays_87 ?_
              refine pb_lload4 g dX8_heapWays_89 ?_
              first | refine pb_lastN g dX8_heapWays_91 (by first | exact mr_next | exact mr_ways | exact mr_order | exact mr_kind | exact mr_heaps | exact mr_m | exact mr_line | exact mr_other | exact mr_chances | exact mr_after | exact mr_far | exact mr_groups | exact mr_found | exact mr_counts | exact mr_traySort | exact mr_traySize | exact mr_cells | exact mr_moved | exact mr_traced | assumption) (by omega) (by omega) ?_ | refine pb_last g dX8_heapWays_91 (by first | exact mr_next | exact mr_ways | exact mr_order | exact mr_kind | exact mr_heaps | exact mr_m | exact mr_line | exact mr_other | exact mr_chances | exact mr_after | exact mr_far | exact mr_groups | exact mr_found | exact mr_counts | exact mr_traySort | exact mr_traySize | exact mr_cells | exact mr_moved | exact mr_traced | assumption) (by assumption) ?_
              first | rw [ms_next] | rw [ms_ways]
              first | refine pb_iinc6N g dX8_heapWays_92 (by decide) ?_ | refine pb_iinc6 g dX8_heapWays_92 (by decide) rfl ?_
              refine pb_goto g 36 dX8_heapWays_95 (by decide) ?_
              first | exact ihi _ (upL_ext (v := fun j => lN (choF (j + (m + 1 - r)) (m + 1))) hg (by rw [show m + 1 - r = m - r by omega])) | exact ihi _ (upL_ext (v := fun j => lN (choF (j + (m + 1 - r)) (m + 1))) hg (by rw [← hp, show m + 1 - r = m - r + 1 by omega, ← Nat.add_assoc, Nat.add_right_comm]))
            · refine pb_aload_n0 g dX8_heapWays_47 ?_
              refine pb_getf g fX8_36 dX8_heapWays_48 mr_o rfl ?_
              refine pb_iload6 g dX8_heapWays_51 ?_
              refine pb_lload4 g dX8_heapWays_53 ?_
              first | refine pb_lastN g dX8_heapWays_55 (by first | exact mr_next | exact mr_order | exact mr_kind | exact mr_heaps | exact mr_m | exact mr_line | exact mr_other | exact mr_ways | exact mr_chances | exact mr_after | exact mr_far | exact mr_groups | exact mr_found | exact mr_counts | exact mr_traySort | exact mr_traySize | exact mr_cells | exact mr_moved | exact mr_traced | assumption) (by omega) (by omega) ?_ | refine pb_last g dX8_heapWays_55 (by first | exact mr_next | exact mr_order | exact mr_kind | exact mr_heaps | exact mr_m | exact mr_line | exact mr_other | exact mr_ways | exact mr_chances | exact mr_after | exact mr_far | exact mr_groups | exact mr_found | exact mr_counts | exact mr_traySort | exact mr_traySize | exact mr_cells | exact mr_moved | exact mr_traced | assumption) (by assumption) ?_
              first | rw [ms_next]
              refine pb_lload4 g dX8_heapWays_56 ?_
              refine pb_aload_n0 g dX8_heapWays_58 ?_
              refine pb_getf g fX8_32 dX8_heapWays_59 mr_o rfl ?_
              refine pb_iload6 g dX8_heapWays_62 ?_
              first | refine pb_laldN g dX8_heapWays_64 (by first | exact mr_ways | exact mr_next | exact mr_order | exact mr_kind | exact mr_heaps | exact mr_m | exact mr_line | exact mr_other | exact mr_chances | exact mr_after | exact mr_far | exact mr_groups | exact mr_found | exact mr_counts | exact mr_traySort | exact mr_traySize | exact mr_cells | exact mr_moved | exact mr_traced | assumption) (by omega) (by omega) ?_ | refine pb_lald g dX8_heapWays_64 (by first | exact mr_ways | exact mr_next | exact mr_order | exact mr_kind | exact mr_heaps | exact mr_m | exact mr_line | exact mr_other | exact mr_chances | exact mr_after | exact mr_far | exact mr_groups | exact mr_found | exact mr_counts | exact mr_traySort | exact mr_traySize | exact mr_cells | exact mr_moved | exact mr_traced | assumption) (by assumption) ?_
              rw [hfi]
              first | refine pb_laddN g dX8_heapWays_65 ?_ | refine pb_ladd g dX8_heapWays_65 ?_
              refine pb_lstore4 g dX8_heapWays_66 (by decide) ?_
              refine pb_goto g 92 dX8_heapWays_68 (by decide) ?_
              first | refine pb_iinc6N g dX8_heapWays_92 (by decide) ?_ | refine pb_iinc6 g dX8_heapWays_92 (by decide) rfl ?_
              refine pb_goto g 36 dX8_heapWays_95 (by decide) ?_
              first | exact ihi _ (upL_ext (v := fun j => lN (choF (j + (m + 1 - r)) (m + 1))) hg (by rw [show m + 1 - r = m - r by omega])) | exact ihi _ (upL_ext (v := fun j => lN (choF (j + (m + 1 - r)) (m + 1))) hg (by rw [← hp, show m + 1 - r = m - r + 1 by omega, ← Nat.add_assoc, Nat.add_right_comm]))
        · obtain rfl : i = a := by omega
          refine pb_iload6 g dX8_heapWays_36 ?_
          refine pb_iload_n1 g dX8_heapWays_38 ?_
          first | refine pb_icmp_geN g 98 dX8_heapWays_39 (by decide) (by omega) (by omega) (fun c39 => ?_) (fun c39 => ?_) | refine pb_icmp_ge g 98 dX8_heapWays_39 (by decide) (fun c39 => ?_) (fun c39 => ?_)
          · refine pb_iconst (v := nI 0) g dX8_heapWays_98 (by decide) ?_
            refine pb_istore6 g dX8_heapWays_99 (by decide) ?_
            exact copy _ _ hg 0 (Nat.zero_le _) _ (fun j hj => absurd hj (by omega))
          · exact absurd c39 (by omega)
      refine pb_iload_n3 g dX8_heapWays_22 ?_
      refine pb_aload_n0 g dX8_heapWays_23 ?_
      refine pb_getf g fX8_7 dX8_heapWays_24 mr_o rfl ?_
      first | refine pb_icmp_geN g 133 dX8_heapWays_27 (by decide) (by omega) (by omega) (fun c27 => ?_) (fun c27 => ?_) | refine pb_icmp_ge g 133 dX8_heapWays_27 (by decide) (fun c27 => ?_) (fun c27 => ?_)
      · exact absurd c27 (by omega)
      · refine pb_lconst (v := lN 0) g dX8_heapWays_30 rfl ?_
        refine pb_lstore4 g dX8_heapWays_31 (by decide) ?_
        refine pb_iconst (v := nI 0) g dX8_heapWays_33 (by decide) ?_
        refine pb_istore6 g dX8_heapWays_34 (by decide) ?_
        have z9 := inner 0 (Nat.zero_le _) g0 (fun j hj => absurd hj (by omega))
        rw [cho_hi (show 0 + (m - r) < m + 1 by omega)] at z9
        exact z9
    · obtain rfl : m = n - 1 := by omega
      refine pb_iload_n3 g dX8_heapWays_22 ?_
      refine pb_aload_n0 g dX8_heapWays_23 ?_
      refine pb_getf g fX8_7 dX8_heapWays_24 mr_o rfl ?_
      first | refine pb_icmp_geN g 133 dX8_heapWays_27 (by decide) (by omega) (by omega) (fun c27 => ?_) (fun c27 => ?_) | refine pb_icmp_ge g 133 dX8_heapWays_27 (by decide) (fun c27 => ?_) (fun c27 => ?_)
      · refine pb_lconst (v := lN 0) g dX8_heapWays_133 rfl ?_
        refine pb_lstore_n3 g dX8_heapWays_134 (by decide) ?_
        refine pb_iconst (v := nI 0) g dX8_heapWays_135 (by decide) ?_
        refine pb_istore5 g dX8_heapWays_136 (by decide) ?_
        have z9 := last f g0 w6 hf 0 (Nat.zero_le _)
        rw [cho_hi (show 0 + (n - 1 - r) < n by omega)] at z9
        exact z9
      · exact absurd c27 (by omega)
  have loop0 : ∀ i, i ≤ a → ∀ f : Nat → Int64, (∀ j, j < i → f j = lN 1) → PB Γ 2 [some (.ref 0), some (.int (nI a)), some (.int (nI r)), some (.int (nI i)), none, none, none] [] (mkH 20 (mdF (nI n) xP xS xsd xod xkn xhs xmm xln xot (f) xnx xch xaf xfa xgr xfo xco xtsr xtsz xce xmv xtc xbo)) := by
    refine pb_loop a (fun i hi ih f hf => ?_)
    by_cases hia : i < a
    · have ih := ih hia
      refine pb_iload_n3 g dX8_heapWays_2 ?_
      refine pb_iload_n1 g dX8_heapWays_3 ?_
      first | refine pb_icmp_geN g 20 dX8_heapWays_4 (by decide) (by omega) (by omega) (fun c4 => ?_) (fun c4 => ?_) | refine pb_icmp_ge g 20 dX8_heapWays_4 (by decide) (fun c4 => ?_) (fun c4 => ?_)
      · exact absurd c4 (by omega)
      · refine pb_aload_n0 g dX8_heapWays_7 ?_
        refine pb_getf g fX8_32 dX8_heapWays_8 mr_o rfl ?_
        refine pb_iload_n3 g dX8_heapWays_11 ?_
        refine pb_lconst (v := lN 1) g dX8_heapWays_12 rfl ?_
        first | refine pb_lastN g dX8_heapWays_13 (by first | exact mr_ways | exact mr_order | exact mr_kind | exact mr_heaps | exact mr_m | exact mr_line | exact mr_other | exact mr_next | exact mr_chances | exact mr_after | exact mr_far | exact mr_groups | exact mr_found | exact mr_counts | exact mr_traySort | exact mr_traySize | exact mr_cells | exact mr_moved | exact mr_traced | assumption) (by omega) (by omega) ?_ | refine pb_last g dX8_heapWays_13 (by first | exact mr_ways | exact mr_order | exact mr_kind | exact mr_heaps | exact mr_m | exact mr_line | exact mr_other | exact mr_next | exact mr_chances | exact mr_after | exact mr_far | exact mr_groups | exact mr_found | exact mr_counts | exact mr_traySort | exact mr_traySize | exact mr_cells | exact mr_moved | exact mr_traced | assumption) (by assumption) ?_
        first | rw [ms_ways]
        first | refine pb_iinc3N g dX8_heapWays_14 (by decide) ?_ | refine pb_iinc3 g dX8_heapWays_14 (by decide) rfl ?_
        refine pb_goto g 2 dX8_heapWays_17 (by decide) ?_
        exact ih _ (upL_ext (v := fun _ => lN 1) hf rfl)
    · obtain rfl : i = a := by omega
      refine pb_iload_n3 g dX8_heapWays_2 ?_
      refine pb_iload_n1 g dX8_heapWays_3 ?_
      first | refine pb_icmp_geN g 20 dX8_heapWays_4 (by decide) (by omega) (by omega) (fun c4 => ?_) (fun c4 => ?_) | refine pb_icmp_ge g 20 dX8_heapWays_4 (by decide) (fun c4 => ?_) (fun c4 => ?_)
      · refine pb_iconst (v := nI 1) g dX8_heapWays_20 (by decide) ?_
        refine pb_istore_n3 g dX8_heapWays_21 (by decide) ?_
        exact loop 0 (Nat.zero_le _) _ _ _ _ _ (fun j hj => by
          rw [hf j hj, cho_0])
      · exact absurd c4 (by omega)
  refine pb_iconst (v := nI 0) g dX8_heapWays_0 (by decide) ?_
  refine pb_istore_n3 g dX8_heapWays_1 (by decide) ?_
  exact loop0 0 (Nat.zero_le _) _ (fun j hj => absurd hj (by omega))
set_option maxHeartbeats 4000000 in
set_option maxRecDepth 100000 in
theorem m_runs (k : Nat) (q : SP) (x : Int32) (h : PH) (hD : IsM q h) (hI : SI q) : Runs yX8_runs cX8_runs 6 (some .long) (k + 6) [.ref 0, .int x] h (fun oo h' => ∃ r : Int64, oo = some (.long r) ∧ r = sRuns q x ∧ IsM (q) h') := by
  obtain ⟨⟨n, P, S, sd⟩, ⟨σ, μ, K, Hh⟩, ⟨ts, zz, it⟩, ⟨ra, tr⟩⟩ := q
  obtain ⟨⟨hn1, hn, hP, hS⟩, hσ, hK, hz, hra⟩ := hI
  obtain ⟨xod, xkn, xhs, xmm, xln, xot, xfa, xgr, xtsr, xtsz, xce, xmv, xtc, xwy, xnx, xch, xaf, xfo, xco, rfl, d1, d2, d3, d4, d5⟩ := hD
  refine Runs.of (by decide) (Nat.le_of_ble_eq_true rfl) [some (.ref 0), some (.int x), none, none, none, none] 4 rfl (fun Γ g z => ?_)
  by_cases hb : x < nI 1 ∨ nI n < x
  · have e : sRuns ((n, P, S, sd), (σ, μ, K, Hh), (ts, zz, it), (ra, tr)) x = NOL := if_pos hb
    refine pb_iload_n1 g dX8_runs_0 ?_
    refine pb_iconst (v := nI 1) g dX8_runs_1 (by decide) ?_
    first | refine pb_icmp_ltN g 13 dX8_runs_2 (by decide) (by omega) (by omega) (fun c2 => ?_) (fun c2 => ?_) | refine pb_icmp_lt g 13 dX8_runs_2 (by decide) (fun c2 => ?_) (fun c2 => ?_)
    · refine pb_ldc2w (w := (-4611686018427387904)) g kX8_157 (by decide) dX8_runs_13 ?_
      refine pb_lret g z dX8_runs_16 ?_
      exact ⟨_, rfl, by rw [e]; rfl, ⟨_, _, _, _, _, _, _, _, _, _, _, _, _, _, _, _, _, _, _, rfl, d1, d2, d3, d4, d5⟩⟩
    · refine pb_iload_n1 g dX8_runs_5 ?_
      refine pb_aload_n0 g dX8_runs_6 ?_
      refine pb_getf g fX8_7 dX8_runs_7 mr_o rfl ?_
      first | refine pb_icmp_leN g 17 dX8_runs_10 (by decide) (by omega) (by omega) (fun c10 => ?_) (fun c10 => ?_) | refine pb_icmp_le g 17 dX8_runs_10 (by decide) (fun c10 => ?_) (fun c10 => ?_)
      · exact absurd hb (fun q => q.elim c2 (fun w => absurd c10 (Int32.not_le.mpr w)))
      · refine pb_ldc2w (w := (-4611686018427387904)) g kX8_157 (by decide) dX8_runs_13 ?_
        refine pb_lret g z dX8_runs_16 ?_
        exact ⟨_, rfl, by rw [e]; rfl, ⟨_, _, _, _, _, _, _, _, _, _, _, _, _, _, _, _, _, _, _, rfl, d1, d2, d3, d4, d5⟩⟩
  · have e0 : sRuns ((n, P, S, sd), (σ, μ, K, Hh), (ts, zz, it), (ra, tr)) x = lN (eu n (x.toNatClampNeg - 1)) := if_neg hb
    obtain ⟨R, hR1, hR2, rfl⟩ := rng (by omega) (by decide) hb
    rw [nI_clamp (by omega)] at e0
    have loop : ∀ m, m ≤ R → ∀ (f1 f2 fc : Nat → Int64) (w3 w4 w5 : Option Value), (∀ j, 1 ≤ j → j ≤ m → fc j = lN (eu n (j - 1))) → PB Γ 19 [some (.ref 0), some (.int (nI R)), some (.int (nI (m + 1))), w3, w4, w5] [] (mkH 20 (mdF (nI n) (nI P) (nI S) (sd) xod xkn xhs xmm xln xot (f1) (f2) xch xaf xfa xgr xfo (fc) xtsr xtsz xce xmv xtc (nI ra))) := by
      refine pb_loop R (fun m hm ih f1 f2 fc w3 w4 w5 hfc => ?_)
      by_cases hmR : m < R
      · have ih := ih hmR
        obtain ⟨r1, r2⟩ := rs_ok n (by omega) m (by omega)
        have inner : ∀ d, d ≤ m → ∀ f1 f2 : Nat → Int64, PB Γ 37 [some (.ref 0), some (.int (nI R)), some (.int (nI (m + 1))), some (.long (lN ((m + 1) ^ n - rsL n (m + 1) d))), none, some (.int (nI (d + 1)))] [] (mkH 20 (mdF (nI n) (nI P) (nI S) (sd) xod xkn xhs xmm xln xot (f1) (f2) xch xaf xfa xgr xfo (fc) xtsr xtsz xce xmv xtc (nI ra))) := by
          refine pb_loop m (fun d hd ihd f1 f2 => ?_)
          by_cases hdm : d < m
          · have ihd := ihd hdm
            have r3 : rsL n (m + 1) d + eu n d * choF (m + 1 + n - 1 - d) n ≤ (m + 1) ^ n := r2 (d + 1) (by omega)
            have hh : choF (m + 1 + (n - 1 - d)) n = choF (m + 1 + n - 1 - d) n := by rw [show m + 1 + (n - 1 - d) = m + 1 + n - 1 - d by omega]
            rw [show (m + 1) ^ n - rsL n (m + 1) (d + 1) = (m + 1) ^ n - rsL n (m + 1) d - eu n d * choF (m + 1 + n - 1 - d) n from (Nat.sub_sub _ _ _).symm] at ihd
            refine pb_iload5 g dX8_runs_37 ?_
            refine pb_iload_n2 g dX8_runs_39 ?_
            first | refine pb_icmp_geN g 69 dX8_runs_40 (by decide) (by omega) (by omega) (fun c40 => ?_) (fun c40 => ?_) | refine pb_icmp_ge g 69 dX8_runs_40 (by decide) (fun c40 => ?_) (fun c40 => ?_)
            · exact absurd c40 (by omega)
            · refine pb_lload_n3 g dX8_runs_43 ?_
              refine pb_aload_n0 g dX8_runs_44 ?_
              refine pb_getf g fX8_54 dX8_runs_45 mr_o rfl ?_
              refine pb_iload5 g dX8_runs_48 ?_
              first | refine pb_laldN g dX8_runs_50 (by first | exact mr_counts | exact mr_order | exact mr_kind | exact mr_heaps | exact mr_m | exact mr_line | exact mr_other | exact mr_ways | exact mr_next | exact mr_chances | exact mr_after | exact mr_far | exact mr_groups | exact mr_found | exact mr_traySort | exact mr_traySize | exact mr_cells | exact mr_moved | exact mr_traced | assumption) (by omega) (by omega) ?_ | refine pb_lald g dX8_runs_50 (by first | exact mr_counts | exact mr_order | exact mr_kind | exact mr_heaps | exact mr_m | exact mr_line | exact mr_other | exact mr_ways | exact mr_next | exact mr_chances | exact mr_after | exact mr_far | exact mr_groups | exact mr_found | exact mr_traySort | exact mr_traySize | exact mr_cells | exact mr_moved | exact mr_traced | assumption) (by assumption) ?_
              rw [hfc (d + 1) (by omega) (by omega), Nat.add_sub_cancel]
              refine pb_aload_n0 g dX8_runs_51 ?_
              refine pb_iload_n2 g dX8_runs_52 ?_
              refine pb_iload5 g dX8_runs_53 ?_
              refine pb_iconst (v := nI 1) g dX8_runs_55 (by decide) ?_
              first | refine pb_isubN g dX8_runs_56 (by omega) ?_ | refine pb_isub g dX8_runs_56 ?_
              rw [Nat.add_sub_cancel]
              refine pb_Vl2 g qX8_175 dX8_runs_57 (k + 5) (by omega) mr_o (m_heapWays (k + 5) (n := n) (a := m + 1) (r := d) hn hn1 (by omega) (by omega)) (fun r57 h57 e57 => ?_)
              obtain ⟨rfl, f1, f2, rfl⟩ := e57
              rw [hh]
              first | refine pb_lmulN g dX8_runs_60 ?_ | refine pb_lmul g dX8_runs_60 ?_
              first | refine pb_lsubN g dX8_runs_61 (by omega) ?_ | refine pb_lsub g dX8_runs_61 ?_
              refine pb_lstore_n3 g dX8_runs_62 (by decide) ?_
              first | refine pb_iinc5N g dX8_runs_63 (by decide) ?_ | refine pb_iinc5 g dX8_runs_63 (by decide) rfl ?_
              refine pb_goto g 37 dX8_runs_66 (by decide) ?_
              exact ihd _ _
          · obtain rfl : d = m := by omega
            refine pb_iload5 g dX8_runs_37 ?_
            refine pb_iload_n2 g dX8_runs_39 ?_
            first | refine pb_icmp_geN g 69 dX8_runs_40 (by decide) (by omega) (by omega) (fun c40 => ?_) (fun c40 => ?_) | refine pb_icmp_ge g 69 dX8_runs_40 (by decide) (fun c40 => ?_) (fun c40 => ?_)
            · refine pb_aload_n0 g dX8_runs_69 ?_
              refine pb_getf g fX8_54 dX8_runs_70 mr_o rfl ?_
              refine pb_iload_n2 g dX8_runs_73 ?_
              refine pb_lload_n3 g dX8_runs_74 ?_
              first | refine pb_lastN g dX8_runs_75 (by first | exact mr_counts | exact mr_order | exact mr_kind | exact mr_heaps | exact mr_m | exact mr_line | exact mr_other | exact mr_ways | exact mr_next | exact mr_chances | exact mr_after | exact mr_far | exact mr_groups | exact mr_found | exact mr_traySort | exact mr_traySize | exact mr_cells | exact mr_moved | exact mr_traced | assumption) (by omega) (by omega) ?_ | refine pb_last g dX8_runs_75 (by first | exact mr_counts | exact mr_order | exact mr_kind | exact mr_heaps | exact mr_m | exact mr_line | exact mr_other | exact mr_ways | exact mr_next | exact mr_chances | exact mr_after | exact mr_far | exact mr_groups | exact mr_found | exact mr_traySort | exact mr_traySize | exact mr_cells | exact mr_moved | exact mr_traced | assumption) (by assumption) ?_
              first | rw [ms_counts]
              first | refine pb_iinc2N g dX8_runs_76 (by decide) ?_ | refine pb_iinc2 g dX8_runs_76 (by decide) rfl ?_
              refine pb_goto g 19 dX8_runs_79 (by decide) ?_
              rw [r1]
              exact ih _ _ _ _ _ _ (fun j h1 h2 => by
                by_cases q : j = d + 1
                · rw [q, updL_eq, Nat.add_sub_cancel]
                · rw [updL_ne q]
                  exact hfc j h1 (by omega))
            · exact absurd c40 (by omega)
        refine pb_iload_n2 g dX8_runs_19 ?_
        refine pb_iload_n1 g dX8_runs_20 ?_
        first | refine pb_icmp_gtN g 82 dX8_runs_21 (by decide) (by omega) (by omega) (fun c21 => ?_) (fun c21 => ?_) | refine pb_icmp_gt g 82 dX8_runs_21 (by decide) (fun c21 => ?_) (fun c21 => ?_)
        · exact absurd c21 (by omega)
        · refine pb_iload_n2 g dX8_runs_24 ?_
          first | refine pb_i2lN g dX8_runs_25 (by omega) ?_ | refine pb_i2l g dX8_runs_25 ?_
          refine pb_aload_n0 g dX8_runs_26 ?_
          refine pb_getf g fX8_7 dX8_runs_27 mr_o rfl ?_
          refine pb_Sl2 g qX8_145 dX8_runs_30 (k + 5) (by omega) (m_power (k + 5) (m + 1) (n) (by omega) _) (fun r30 h30 e30 => ?_)
          obtain ⟨rfl, rfl⟩ := e30
          refine pb_lstore_n3 g dX8_runs_33 (by decide) ?_
          refine pb_iconst (v := nI 1) g dX8_runs_34 (by decide) ?_
          refine pb_istore5 g dX8_runs_35 (by decide) ?_
          have z9 := inner 0 (Nat.zero_le _) f1 f2
          rw [rsL, Nat.sub_zero] at z9
          exact z9
      · obtain rfl : m = R := by omega
        refine pb_iload_n2 g dX8_runs_19 ?_
        refine pb_iload_n1 g dX8_runs_20 ?_
        first | refine pb_icmp_gtN g 82 dX8_runs_21 (by decide) (by omega) (by omega) (fun c21 => ?_) (fun c21 => ?_) | refine pb_icmp_gt g 82 dX8_runs_21 (by decide) (fun c21 => ?_) (fun c21 => ?_)
        · refine pb_aload_n0 g dX8_runs_82 ?_
          refine pb_getf g fX8_54 dX8_runs_83 mr_o rfl ?_
          refine pb_iload_n1 g dX8_runs_86 ?_
          first | refine pb_laldN g dX8_runs_87 (by first | exact mr_counts | exact mr_order | exact mr_kind | exact mr_heaps | exact mr_m | exact mr_line | exact mr_other | exact mr_ways | exact mr_next | exact mr_chances | exact mr_after | exact mr_far | exact mr_groups | exact mr_found | exact mr_traySort | exact mr_traySize | exact mr_cells | exact mr_moved | exact mr_traced | assumption) (by omega) (by omega) ?_ | refine pb_lald g dX8_runs_87 (by first | exact mr_counts | exact mr_order | exact mr_kind | exact mr_heaps | exact mr_m | exact mr_line | exact mr_other | exact mr_ways | exact mr_next | exact mr_chances | exact mr_after | exact mr_far | exact mr_groups | exact mr_found | exact mr_traySort | exact mr_traySize | exact mr_cells | exact mr_moved | exact mr_traced | assumption) (by assumption) ?_
          refine pb_lret g z dX8_runs_88 ?_
          exact ⟨_, rfl, by rw [e0, hfc m (by omega) (Nat.le_refl m)], ⟨_, _, _, _, _, _, _, _, _, _, _, _, _, _, _, _, _, _, _, rfl, d1, d2, d3, d4, d5⟩⟩
        · exact absurd c21 (by omega)
    refine pb_iload_n1 g dX8_runs_0 ?_
    refine pb_iconst (v := nI 1) g dX8_runs_1 (by decide) ?_
    first | refine pb_icmp_ltN g 13 dX8_runs_2 (by decide) (by omega) (by omega) (fun c2 => ?_) (fun c2 => ?_) | refine pb_icmp_lt g 13 dX8_runs_2 (by decide) (fun c2 => ?_) (fun c2 => ?_)
    · exact absurd c2 (by omega)
    · refine pb_iload_n1 g dX8_runs_5 ?_
      refine pb_aload_n0 g dX8_runs_6 ?_
      refine pb_getf g fX8_7 dX8_runs_7 mr_o rfl ?_
      first | refine pb_icmp_leN g 17 dX8_runs_10 (by decide) (by omega) (by omega) (fun c10 => ?_) (fun c10 => ?_) | refine pb_icmp_le g 17 dX8_runs_10 (by decide) (fun c10 => ?_) (fun c10 => ?_)
      · refine pb_iconst (v := nI 1) g dX8_runs_17 (by decide) ?_
        refine pb_istore_n2 g dX8_runs_18 (by decide) ?_
        exact loop 0 (Nat.zero_le _) _ _ _ _ _ _ (fun j h1 h2 => absurd h1 (by omega))
      · exact absurd c10 (by omega)
set_option maxHeartbeats 4000000 in
set_option maxRecDepth 100000 in
theorem m_unlike (k : Nat) (q : SP) (s x w : Int32) (h : PH) (hD : IsM q h) (hI : SI q) : Runs yX8_unlike cX8_unlike 9 (some .long) (k + 6) [.ref 0, .int s, .int x, .int w] h (fun oo h' => ∃ r : Int64, oo = some (.long r) ∧ r = sUnlike q s x w ∧ IsM (q) h') := by
  obtain ⟨⟨n, P, S, sd⟩, ⟨σ, μ, K, Hh⟩, ⟨ts, zz, it⟩, ⟨ra, tr⟩⟩ := q
  obtain ⟨⟨hn1, hn, hP, hS⟩, hσ, hK, hz, hra⟩ := hI
  obtain ⟨xod, xkn, xhs, xmm, xln, xot, xfa, xgr, xtsr, xtsz, xce, xmv, xtc, xwy, xnx, xch, xaf, xfo, xco, rfl, d1, d2, d3, d4, d5⟩ := hD
  refine Runs.of (by decide) (Nat.le_of_ble_eq_true rfl) [some (.ref 0), some (.int s), some (.int x), some (.int w), none, none, none, none, none] 5 rfl (fun Γ g z => ?_)
  cases hs : ix s S with
  | none =>
    have e : sUnlike ((n, P, S, sd), (σ, μ, K, Hh), (ts, zz, it), (ra, tr)) s x w = NOL := by simp only [sUnlike, hs]
    have hsn := ix_none (by omega) hs
    refine pb_aload_n0 g dX8_unlike_0 ?_
    refine pb_iload_n1 g dX8_unlike_1 ?_
    refine pb_Vi1 g qX8_123 dX8_unlike_2 (k + 5) (by omega) mr_o (m_isShuffleF (k + 5) (by assumption) hS) (fun r2 h2 e2 => ?_)
    obtain ⟨rfl, rfl⟩ := e2
    first | refine pb_if_eqN g 55 dX8_unlike_5 (by decide) (by omega) (fun c5 => ?_) (fun c5 => ?_) | refine pb_if_eq g 55 dX8_unlike_5 (by decide) (fun c5 => ?_) (fun c5 => ?_)
    · refine pb_ldc2w (w := (-4611686018427387904)) g kX8_157 (by decide) dX8_unlike_55 ?_
      refine pb_lret g z dX8_unlike_58 ?_
      exact ⟨_, rfl, by rw [e]; rfl, ⟨_, _, _, _, _, _, _, _, _, _, _, _, _, _, _, _, _, _, _, rfl, d1, d2, d3, d4, d5⟩⟩
    · exact absurd c5 (by decide)
  | some s0 =>
    obtain ⟨hs0, rfl⟩ := ix_some (by omega) hs
    have hKs := hK s0 hs0
    have hk3 : ∀ w, ¬ K s0 = 3 → sUnlike ((n, P, S, sd), (σ, μ, K, Hh), (ts, zz, it), (ra, tr)) (nI s0) x w = NOL := fun w h3 => by
      simp only [sUnlike, hs]
      cases ix w 2 with
      | none => rfl
      | some w0 =>
        cases ix x 7 with
        | none => rfl
        | some k0 => exact if_neg (fun z => h3 z.2)
    by_cases h3 : K s0 = 3
    · cases hx : ix x 7 with
      | none =>
        have e : sUnlike ((n, P, S, sd), (σ, μ, K, Hh), (ts, zz, it), (ra, tr)) (nI s0) x w = NOL := by
          simp only [sUnlike, hs, hx]
          cases ix w 2 <;> rfl
        have hxn := inN_not (by decide) (ix_none (by decide) hx)
        have hx6 : x < 0 ∨ ¬ x ≤ nI 6 := hxn.imp id (fun q w => absurd (Int32.le_trans q w) (by decide))
        refine pb_aload_n0 g dX8_unlike_0 ?_
        refine pb_iload_n1 g dX8_unlike_1 ?_
        refine pb_Vi1 g qX8_123 dX8_unlike_2 (k + 5) (by omega) mr_o (m_isShuffleT (k + 5) (by assumption) hS) (fun r2 h2 e2 => ?_)
        obtain ⟨rfl, rfl⟩ := e2
        first | refine pb_if_eqN g 55 dX8_unlike_5 (by decide) (by omega) (fun c5 => ?_) (fun c5 => ?_) | refine pb_if_eq g 55 dX8_unlike_5 (by decide) (fun c5 => ?_) (fun c5 => ?_)
        · exact absurd c5 (by decide)
        · refine pb_aload_n0 g dX8_unlike_8 ?_
          refine pb_getf g fX8_17 dX8_unlike_9 mr_o rfl ?_
          refine pb_iload_n1 g dX8_unlike_12 ?_
          first | refine pb_ialdN g dX8_unlike_13 (by first | exact mr_kind | exact mr_order | exact mr_heaps | exact mr_m | exact mr_line | exact mr_other | exact mr_ways | exact mr_next | exact mr_chances | exact mr_after | exact mr_far | exact mr_groups | exact mr_found | exact mr_counts | exact mr_traySort | exact mr_traySize | exact mr_cells | exact mr_moved | exact mr_traced | assumption) (by omega) (by omega) ?_ | refine pb_ald0 g dX8_unlike_13 (by omega) ?_ | refine pb_ald1 g dX8_unlike_13 (by omega) ?_ | refine pb_ald2 g dX8_unlike_13 (by omega) ?_ | refine pb_ald3 g dX8_unlike_13 (by omega) ?_ | refine pb_iald g dX8_unlike_13 (by first | exact mr_kind | exact mr_order | exact mr_heaps | exact mr_m | exact mr_line | exact mr_other | exact mr_ways | exact mr_next | exact mr_chances | exact mr_after | exact mr_far | exact mr_groups | exact mr_found | exact mr_counts | exact mr_traySort | exact mr_traySize | exact mr_cells | exact mr_moved | exact mr_traced | assumption) (by assumption) ?_
          rw [(d2 s0 hs0).1]
          refine pb_iconst (v := nI 3) g dX8_unlike_14 (by decide) ?_
          first | refine pb_icmp_neN g 55 dX8_unlike_15 (by decide) (by omega) (by omega) (fun c15 => ?_) (fun c15 => ?_) | refine pb_icmp_ne g 55 dX8_unlike_15 (by decide) (fun c15 => ?_) (fun c15 => ?_)
          · exact absurd h3 c15
          · refine pb_iload_n2 g dX8_unlike_18 ?_
            refine pb_if_lt g 55 dX8_unlike_19 (by decide) (fun c19 => ?_) (fun c19 => ?_)
            · refine pb_ldc2w (w := (-4611686018427387904)) g kX8_157 (by decide) dX8_unlike_55 ?_
              refine pb_lret g z dX8_unlike_58 ?_
              exact ⟨_, rfl, by rw [e]; rfl, ⟨_, _, _, _, _, _, _, _, _, _, _, _, _, _, _, _, _, _, _, rfl, d1, d2, d3, d4, d5⟩⟩
            · refine pb_iload_n2 g dX8_unlike_22 ?_
              refine pb_bipush (v := nI 6) g dX8_unlike_23 (by decide) ?_
              first | refine pb_icmp_gtN g 55 dX8_unlike_25 (by decide) (by omega) (by omega) (fun c25 => ?_) (fun c25 => ?_) | refine pb_icmp_gt g 55 dX8_unlike_25 (by decide) (fun c25 => ?_) (fun c25 => ?_)
              · refine pb_ldc2w (w := (-4611686018427387904)) g kX8_157 (by decide) dX8_unlike_55 ?_
                refine pb_lret g z dX8_unlike_58 ?_
                exact ⟨_, rfl, by rw [e]; rfl, ⟨_, _, _, _, _, _, _, _, _, _, _, _, _, _, _, _, _, _, _, rfl, d1, d2, d3, d4, d5⟩⟩
              · exact absurd hx6 (fun q => q.elim c19 (fun w => w (Int32.not_lt.mp c25)))
      | some k0 =>
        obtain ⟨hk0, rfl⟩ := ix_some (by decide) hx
        have hpw := pow_10 (a := Hh s0) (k := k0) hKs.2.2.1 (by omega)
        have hHb := hKs.2.2.1
        by_cases h10 : Hh s0 ^ k0 ≤ 10
        · have hcb : hcB n (K s0) (Hh s0) k0 = true := by simp [hcB, h3, h10]
          cases hw : ix w 2 with
          | none =>
            have e : sUnlike ((n, P, S, sd), (σ, μ, K, Hh), (ts, zz, it), (ra, tr)) (nI s0) (nI k0) w = NOL := by simp only [sUnlike, hs, hw]
            have hwn := inN_not (by decide) (ix_none (by decide) hw)
            refine pb_aload_n0 g dX8_unlike_0 ?_
            refine pb_iload_n1 g dX8_unlike_1 ?_
            refine pb_Vi1 g qX8_123 dX8_unlike_2 (k + 5) (by omega) mr_o (m_isShuffleT (k + 5) (by assumption) hS) (fun r2 h2 e2 => ?_)
            obtain ⟨rfl, rfl⟩ := e2
            first | refine pb_if_eqN g 55 dX8_unlike_5 (by decide) (by omega) (fun c5 => ?_) (fun c5 => ?_) | refine pb_if_eq g 55 dX8_unlike_5 (by decide) (fun c5 => ?_) (fun c5 => ?_)
            · exact absurd c5 (by decide)
            · refine pb_aload_n0 g dX8_unlike_8 ?_
              refine pb_getf g fX8_17 dX8_unlike_9 mr_o rfl ?_
              refine pb_iload_n1 g dX8_unlike_12 ?_
              first | refine pb_ialdN g dX8_unlike_13 (by first | exact mr_kind | exact mr_order | exact mr_heaps | exact mr_m | exact mr_line | exact mr_other | exact mr_ways | exact mr_next | exact mr_chances | exact mr_after | exact mr_far | exact mr_groups | exact mr_found | exact mr_counts | exact mr_traySort | exact mr_traySize | exact mr_cells | exact mr_moved | exact mr_traced | assumption) (by omega) (by omega) ?_ | refine pb_ald0 g dX8_unlike_13 (by omega) ?_ | refine pb_ald1 g dX8_unlike_13 (by omega) ?_ | refine pb_ald2 g dX8_unlike_13 (by omega) ?_ | refine pb_ald3 g dX8_unlike_13 (by omega) ?_ | refine pb_iald g dX8_unlike_13 (by first | exact mr_kind | exact mr_order | exact mr_heaps | exact mr_m | exact mr_line | exact mr_other | exact mr_ways | exact mr_next | exact mr_chances | exact mr_after | exact mr_far | exact mr_groups | exact mr_found | exact mr_counts | exact mr_traySort | exact mr_traySize | exact mr_cells | exact mr_moved | exact mr_traced | assumption) (by assumption) ?_
              rw [(d2 s0 hs0).1]
              refine pb_iconst (v := nI 3) g dX8_unlike_14 (by decide) ?_
              first | refine pb_icmp_neN g 55 dX8_unlike_15 (by decide) (by omega) (by omega) (fun c15 => ?_) (fun c15 => ?_) | refine pb_icmp_ne g 55 dX8_unlike_15 (by decide) (fun c15 => ?_) (fun c15 => ?_)
              · exact absurd h3 c15
              · refine pb_iload_n2 g dX8_unlike_18 ?_
                refine pb_if_ltN g 55 dX8_unlike_19 (by decide) (by omega) ?_
                refine pb_iload_n2 g dX8_unlike_22 ?_
                refine pb_bipush (v := nI 6) g dX8_unlike_23 (by decide) ?_
                first | refine pb_icmp_gtN g 55 dX8_unlike_25 (by decide) (by omega) (by omega) (fun c25 => ?_) (fun c25 => ?_) | refine pb_icmp_gt g 55 dX8_unlike_25 (by decide) (fun c25 => ?_) (fun c25 => ?_)
                · exact absurd c25 (by omega)
                · refine pb_aload_n0 g dX8_unlike_28 ?_
                  refine pb_getf g fX8_20 dX8_unlike_29 mr_o rfl ?_
                  refine pb_iload_n1 g dX8_unlike_32 ?_
                  first | refine pb_ialdN g dX8_unlike_33 (by first | exact mr_heaps | exact mr_kind | exact mr_order | exact mr_m | exact mr_line | exact mr_other | exact mr_ways | exact mr_next | exact mr_chances | exact mr_after | exact mr_far | exact mr_groups | exact mr_found | exact mr_counts | exact mr_traySort | exact mr_traySize | exact mr_cells | exact mr_moved | exact mr_traced | assumption) (by omega) (by omega) ?_ | refine pb_ald0 g dX8_unlike_33 (by omega) ?_ | refine pb_ald1 g dX8_unlike_33 (by omega) ?_ | refine pb_ald2 g dX8_unlike_33 (by omega) ?_ | refine pb_ald3 g dX8_unlike_33 (by omega) ?_ | refine pb_iald g dX8_unlike_33 (by first | exact mr_heaps | exact mr_kind | exact mr_order | exact mr_m | exact mr_line | exact mr_other | exact mr_ways | exact mr_next | exact mr_chances | exact mr_after | exact mr_far | exact mr_groups | exact mr_found | exact mr_counts | exact mr_traySort | exact mr_traySize | exact mr_cells | exact mr_moved | exact mr_traced | assumption) (by assumption) ?_
                  rw [(d2 s0 hs0).2.1]
                  first | refine pb_i2lN g dX8_unlike_34 (by omega) ?_ | refine pb_i2l g dX8_unlike_34 ?_
                  refine pb_iload_n2 g dX8_unlike_35 ?_
                  refine pb_Sl2 g qX8_145 dX8_unlike_36 (k + 5) (by omega) (m_power (k + 5) (Hh s0) (k0) (by omega) _) (fun r36 h36 e36 => ?_)
                  obtain ⟨rfl, rfl⟩ := e36
                  refine pb_ldc2w (w := lN 10) g kX8_162 (by decide) dX8_unlike_39 ?_
                  first | refine pb_lc_gtN g 55 dX8_unlike_42 dX8_unlike_43 (by decide) (by omega) (by omega) (fun c42 => ?_) (fun c42 => ?_) | refine pb_lc_gt g 55 dX8_unlike_42 dX8_unlike_43 (by decide) (fun c42 => ?_) (fun c42 => ?_)
                  · exact absurd c42 (by omega)
                  · refine pb_iload_n3 g dX8_unlike_46 ?_
                    refine pb_if_lt g 55 dX8_unlike_47 (by decide) (fun c47 => ?_) (fun c47 => ?_)
                    · refine pb_ldc2w (w := (-4611686018427387904)) g kX8_157 (by decide) dX8_unlike_55 ?_
                      refine pb_lret g z dX8_unlike_58 ?_
                      exact ⟨_, rfl, by rw [e]; rfl, ⟨_, _, _, _, _, _, _, _, _, _, _, _, _, _, _, _, _, _, _, rfl, d1, d2, d3, d4, d5⟩⟩
                    · refine pb_iload_n3 g dX8_unlike_50 ?_
                      refine pb_iconst (v := nI 1) g dX8_unlike_51 (by decide) ?_
                      first | refine pb_icmp_leN g 59 dX8_unlike_52 (by decide) (by omega) (by omega) (fun c52 => ?_) (fun c52 => ?_) | refine pb_icmp_le g 59 dX8_unlike_52 (by decide) (fun c52 => ?_) (fun c52 => ?_)
                      · exact absurd hwn (fun q => q.elim c47 (fun w => absurd (Int32.le_trans w c52) (by decide)))
                      · refine pb_ldc2w (w := (-4611686018427387904)) g kX8_157 (by decide) dX8_unlike_55 ?_
                        refine pb_lret g z dX8_unlike_58 ?_
                        exact ⟨_, rfl, by rw [e]; rfl, ⟨_, _, _, _, _, _, _, _, _, _, _, _, _, _, _, _, _, _, _, rfl, d1, d2, d3, d4, d5⟩⟩
          | some w0 =>
            obtain ⟨hw0, rfl⟩ := ix_some (by decide) hw
            have e : sUnlike ((n, P, S, sd), (σ, μ, K, Hh), (ts, zz, it), (ra, tr)) (nI s0) (nI k0) (nI w0) = frL (ulL (Hh s0 ^ k0) n) ((Hh s0 ^ k0) ^ n) w0 := by simp only [sUnlike, hs, hw, hx, if_pos (And.intro hcb h3)]
            have hr0 : 0 < Hh s0 ^ k0 := Nat.pow_pos (by omega)
            have hpn : (Hh s0 ^ k0) ^ n ≤ 10 ^ 10 := Nat.le_trans (Nat.pow_le_pow_left h10 n) (Nat.pow_le_pow_right (by decide) hn)
            have hpn0 : 0 < (Hh s0 ^ k0) ^ n := Nat.pow_pos hr0
            have hul := ul_lt (Hh s0 ^ k0) (by omega) n (by omega)
            have loop : ∀ i, i ≤ n → PB Γ 78 [some (.ref 0), some (.int (nI s0)), some (.int (nI k0)), some (.int (nI w0)), some (.long (lN (Hh s0 ^ k0))), none, some (.long (lN (ulL (Hh s0 ^ k0) i))), none, some (.int (nI i))] [] (mkH 20 (mdF (nI n) (nI P) (nI S) (sd) xod xkn xhs xmm xln xot xwy xnx xch xaf xfa xgr xfo xco xtsr xtsz xce xmv xtc (nI ra))) := by
              refine pb_loop n (fun i hi ih => ?_)
              by_cases hin : i < n
              · have ih := ih hin
                rw [ulL] at ih
                by_cases hgt : i < Hh s0 ^ k0
                · have : True := trivial
                  refine pb_iload8 g dX8_unlike_78 ?_
                  refine pb_aload_n0 g dX8_unlike_80 ?_
                  refine pb_getf g fX8_7 dX8_unlike_81 mr_o rfl ?_
                  first | refine pb_icmp_geN g 117 dX8_unlike_84 (by decide) (by omega) (by omega) (fun c84 => ?_) (fun c84 => ?_) | refine pb_icmp_ge g 117 dX8_unlike_84 (by decide) (fun c84 => ?_) (fun c84 => ?_)
                  · exact absurd c84 (by omega)
                  · refine pb_lload6 g dX8_unlike_87 ?_
                    refine pb_lload4 g dX8_unlike_89 ?_
                    refine pb_iload8 g dX8_unlike_91 ?_
                    first | refine pb_i2lN g dX8_unlike_93 (by omega) ?_ | refine pb_i2l g dX8_unlike_93 ?_
                    first | refine pb_lc_leN g 107 dX8_unlike_94 dX8_unlike_95 (by decide) (by omega) (by omega) (fun c94 => ?_) (fun c94 => ?_) | refine pb_lc_le g 107 dX8_unlike_94 dX8_unlike_95 (by decide) (fun c94 => ?_) (fun c94 => ?_)
                    · exact absurd c94 (by omega)
                    · refine pb_lload4 g dX8_unlike_98 ?_
                      refine pb_iload8 g dX8_unlike_100 ?_
                      first | refine pb_i2lN g dX8_unlike_102 (by omega) ?_ | refine pb_i2l g dX8_unlike_102 ?_
                      first | refine pb_lsubN g dX8_unlike_103 (by omega) ?_ | refine pb_lsub g dX8_unlike_103 ?_
                      refine pb_goto g 108 dX8_unlike_104 (by decide) ?_
                      first | refine pb_lmulN g dX8_unlike_108 ?_ | refine pb_lmul g dX8_unlike_108 ?_
                      refine pb_lstore6 g dX8_unlike_109 (by decide) ?_
                      first | refine pb_iinc8N g dX8_unlike_111 (by decide) ?_ | refine pb_iinc8 g dX8_unlike_111 (by decide) rfl ?_
                      refine pb_goto g 78 dX8_unlike_114 (by decide) ?_
                      exact ih
                · rw [show Hh s0 ^ k0 - i = 0 by omega] at ih
                  refine pb_iload8 g dX8_unlike_78 ?_
                  refine pb_aload_n0 g dX8_unlike_80 ?_
                  refine pb_getf g fX8_7 dX8_unlike_81 mr_o rfl ?_
                  first | refine pb_icmp_geN g 117 dX8_unlike_84 (by decide) (by omega) (by omega) (fun c84 => ?_) (fun c84 => ?_) | refine pb_icmp_ge g 117 dX8_unlike_84 (by decide) (fun c84 => ?_) (fun c84 => ?_)
                  · exact absurd c84 (by omega)
                  · refine pb_lload6 g dX8_unlike_87 ?_
                    refine pb_lload4 g dX8_unlike_89 ?_
                    refine pb_iload8 g dX8_unlike_91 ?_
                    first | refine pb_i2lN g dX8_unlike_93 (by omega) ?_ | refine pb_i2l g dX8_unlike_93 ?_
                    first | refine pb_lc_leN g 107 dX8_unlike_94 dX8_unlike_95 (by decide) (by omega) (by omega) (fun c94 => ?_) (fun c94 => ?_) | refine pb_lc_le g 107 dX8_unlike_94 dX8_unlike_95 (by decide) (fun c94 => ?_) (fun c94 => ?_)
                    · refine pb_lconst (v := lN 0) g dX8_unlike_107 rfl ?_
                      first | refine pb_lmulN g dX8_unlike_108 ?_ | refine pb_lmul g dX8_unlike_108 ?_
                      refine pb_lstore6 g dX8_unlike_109 (by decide) ?_
                      first | refine pb_iinc8N g dX8_unlike_111 (by decide) ?_ | refine pb_iinc8 g dX8_unlike_111 (by decide) rfl ?_
                      refine pb_goto g 78 dX8_unlike_114 (by decide) ?_
                      exact ih
                    · exact absurd c94 (by omega)
              · obtain rfl : i = n := by omega
                refine pb_iload8 g dX8_unlike_78 ?_
                refine pb_aload_n0 g dX8_unlike_80 ?_
                refine pb_getf g fX8_7 dX8_unlike_81 mr_o rfl ?_
                first | refine pb_icmp_geN g 117 dX8_unlike_84 (by decide) (by omega) (by omega) (fun c84 => ?_) (fun c84 => ?_) | refine pb_icmp_ge g 117 dX8_unlike_84 (by decide) (fun c84 => ?_) (fun c84 => ?_)
                · refine pb_aload_n0 g dX8_unlike_117 ?_
                  refine pb_lload6 g dX8_unlike_118 ?_
                  refine pb_lload4 g dX8_unlike_120 ?_
                  refine pb_aload_n0 g dX8_unlike_122 ?_
                  refine pb_getf g fX8_7 dX8_unlike_123 mr_o rfl ?_
                  refine pb_Sl2 g qX8_145 dX8_unlike_126 (k + 5) (by omega) (m_power (k + 5) (Hh s0 ^ k0) (i) (by omega) _) (fun r126 h126 e126 => ?_)
                  obtain ⟨rfl, rfl⟩ := e126
                  refine pb_iload_n3 g dX8_unlike_129 ?_
                  refine pb_Vl3 g qX8_171 dX8_unlike_130 (k + 5) (by omega) mr_o (m_lowest (k + 4) _ _ w0 hul (by omega) hpn0 hw0 _) (fun r130 h130 e130 => ?_)
                  obtain ⟨rfl, rfl⟩ := e130
                  refine pb_lret g z dX8_unlike_133 ?_
                  exact ⟨_, rfl, by rw [e], ⟨_, _, _, _, _, _, _, _, _, _, _, _, _, _, _, _, _, _, _, rfl, d1, d2, d3, d4, d5⟩⟩
                · exact absurd c84 (by omega)
            refine pb_aload_n0 g dX8_unlike_0 ?_
            refine pb_iload_n1 g dX8_unlike_1 ?_
            refine pb_Vi1 g qX8_123 dX8_unlike_2 (k + 5) (by omega) mr_o (m_isShuffleT (k + 5) (by assumption) hS) (fun r2 h2 e2 => ?_)
            obtain ⟨rfl, rfl⟩ := e2
            first | refine pb_if_eqN g 55 dX8_unlike_5 (by decide) (by omega) (fun c5 => ?_) (fun c5 => ?_) | refine pb_if_eq g 55 dX8_unlike_5 (by decide) (fun c5 => ?_) (fun c5 => ?_)
            · exact absurd c5 (by decide)
            · refine pb_aload_n0 g dX8_unlike_8 ?_
              refine pb_getf g fX8_17 dX8_unlike_9 mr_o rfl ?_
              refine pb_iload_n1 g dX8_unlike_12 ?_
              first | refine pb_ialdN g dX8_unlike_13 (by first | exact mr_kind | exact mr_order | exact mr_heaps | exact mr_m | exact mr_line | exact mr_other | exact mr_ways | exact mr_next | exact mr_chances | exact mr_after | exact mr_far | exact mr_groups | exact mr_found | exact mr_counts | exact mr_traySort | exact mr_traySize | exact mr_cells | exact mr_moved | exact mr_traced | assumption) (by omega) (by omega) ?_ | refine pb_ald0 g dX8_unlike_13 (by omega) ?_ | refine pb_ald1 g dX8_unlike_13 (by omega) ?_ | refine pb_ald2 g dX8_unlike_13 (by omega) ?_ | refine pb_ald3 g dX8_unlike_13 (by omega) ?_ | refine pb_iald g dX8_unlike_13 (by first | exact mr_kind | exact mr_order | exact mr_heaps | exact mr_m | exact mr_line | exact mr_other | exact mr_ways | exact mr_next | exact mr_chances | exact mr_after | exact mr_far | exact mr_groups | exact mr_found | exact mr_counts | exact mr_traySort | exact mr_traySize | exact mr_cells | exact mr_moved | exact mr_traced | assumption) (by assumption) ?_
              rw [(d2 s0 hs0).1]
              refine pb_iconst (v := nI 3) g dX8_unlike_14 (by decide) ?_
              first | refine pb_icmp_neN g 55 dX8_unlike_15 (by decide) (by omega) (by omega) (fun c15 => ?_) (fun c15 => ?_) | refine pb_icmp_ne g 55 dX8_unlike_15 (by decide) (fun c15 => ?_) (fun c15 => ?_)
              · exact absurd h3 c15
              · refine pb_iload_n2 g dX8_unlike_18 ?_
                refine pb_if_ltN g 55 dX8_unlike_19 (by decide) (by omega) ?_
                refine pb_iload_n2 g dX8_unlike_22 ?_
                refine pb_bipush (v := nI 6) g dX8_unlike_23 (by decide) ?_
                first | refine pb_icmp_gtN g 55 dX8_unlike_25 (by decide) (by omega) (by omega) (fun c25 => ?_) (fun c25 => ?_) | refine pb_icmp_gt g 55 dX8_unlike_25 (by decide) (fun c25 => ?_) (fun c25 => ?_)
                · exact absurd c25 (by omega)
                · refine pb_aload_n0 g dX8_unlike_28 ?_
                  refine pb_getf g fX8_20 dX8_unlike_29 mr_o rfl ?_
                  refine pb_iload_n1 g dX8_unlike_32 ?_
                  first | refine pb_ialdN g dX8_unlike_33 (by first | exact mr_heaps | exact mr_kind | exact mr_order | exact mr_m | exact mr_line | exact mr_other | exact mr_ways | exact mr_next | exact mr_chances | exact mr_after | exact mr_far | exact mr_groups | exact mr_found | exact mr_counts | exact mr_traySort | exact mr_traySize | exact mr_cells | exact mr_moved | exact mr_traced | assumption) (by omega) (by omega) ?_ | refine pb_ald0 g dX8_unlike_33 (by omega) ?_ | refine pb_ald1 g dX8_unlike_33 (by omega) ?_ | refine pb_ald2 g dX8_unlike_33 (by omega) ?_ | refine pb_ald3 g dX8_unlike_33 (by omega) ?_ | refine pb_iald g dX8_unlike_33 (by first | exact mr_heaps | exact mr_kind | exact mr_order | exact mr_m | exact mr_line | exact mr_other | exact mr_ways | exact mr_next | exact mr_chances | exact mr_after | exact mr_far | exact mr_groups | exact mr_found | exact mr_counts | exact mr_traySort | exact mr_traySize | exact mr_cells | exact mr_moved | exact mr_traced | assumption) (by assumption) ?_
                  rw [(d2 s0 hs0).2.1]
                  first | refine pb_i2lN g dX8_unlike_34 (by omega) ?_ | refine pb_i2l g dX8_unlike_34 ?_
                  refine pb_iload_n2 g dX8_unlike_35 ?_
                  refine pb_Sl2 g qX8_145 dX8_unlike_36 (k + 5) (by omega) (m_power (k + 5) (Hh s0) (k0) (by omega) _) (fun r36 h36 e36 => ?_)
                  obtain ⟨rfl, rfl⟩ := e36
                  refine pb_ldc2w (w := lN 10) g kX8_162 (by decide) dX8_unlike_39 ?_
                  first | refine pb_lc_gtN g 55 dX8_unlike_42 dX8_unlike_43 (by decide) (by omega) (by omega) (fun c42 => ?_) (fun c42 => ?_) | refine pb_lc_gt g 55 dX8_unlike_42 dX8_unlike_43 (by decide) (fun c42 => ?_) (fun c42 => ?_)
                  · exact absurd c42 (by omega)
                  · refine pb_iload_n3 g dX8_unlike_46 ?_
                    refine pb_if_ltN g 55 dX8_unlike_47 (by decide) (by omega) ?_
                    refine pb_iload_n3 g dX8_unlike_50 ?_
                    refine pb_iconst (v := nI 1) g dX8_unlike_51 (by decide) ?_
                    first | refine pb_icmp_leN g 59 dX8_unlike_52 (by decide) (by omega) (by omega) (fun c52 => ?_) (fun c52 => ?_) | refine pb_icmp_le g 59 dX8_unlike_52 (by decide) (fun c52 => ?_) (fun c52 => ?_)
                    · refine pb_aload_n0 g dX8_unlike_59 ?_
                      refine pb_getf g fX8_20 dX8_unlike_60 mr_o rfl ?_
                      refine pb_iload_n1 g dX8_unlike_63 ?_
                      first | refine pb_ialdN g dX8_unlike_64 (by first | exact mr_heaps | exact mr_kind | exact mr_order | exact mr_m | exact mr_line | exact mr_other | exact mr_ways | exact mr_next | exact mr_chances | exact mr_after | exact mr_far | exact mr_groups | exact mr_found | exact mr_counts | exact mr_traySort | exact mr_traySize | exact mr_cells | exact mr_moved | exact mr_traced | assumption) (by omega) (by omega) ?_ | refine pb_ald0 g dX8_unlike_64 (by omega) ?_ | refine pb_ald1 g dX8_unlike_64 (by omega) ?_ | refine pb_ald2 g dX8_unlike_64 (by omega) ?_ | refine pb_ald3 g dX8_unlike_64 (by omega) ?_ | refine pb_iald g dX8_unlike_64 (by first | exact mr_heaps | exact mr_kind | exact mr_order | exact mr_m | exact mr_line | exact mr_other | exact mr_ways | exact mr_next | exact mr_chances | exact mr_after | exact mr_far | exact mr_groups | exact mr_found | exact mr_counts | exact mr_traySort | exact mr_traySize | exact mr_cells | exact mr_moved | exact mr_traced | assumption) (by assumption) ?_
                      rw [(d2 s0 hs0).2.1]
                      first | refine pb_i2lN g dX8_unlike_65 (by omega) ?_ | refine pb_i2l g dX8_unlike_65 ?_
                      refine pb_iload_n2 g dX8_unlike_66 ?_
                      refine pb_Sl2 g qX8_145 dX8_unlike_67 (k + 5) (by omega) (m_power (k + 5) (Hh s0) (k0) (by omega) _) (fun r67 h67 e67 => ?_)
                      obtain ⟨rfl, rfl⟩ := e67
                      refine pb_lstore4 g dX8_unlike_70 (by decide) ?_
                      refine pb_lconst (v := lN 1) g dX8_unlike_72 rfl ?_
                      refine pb_lstore6 g dX8_unlike_73 (by decide) ?_
                      refine pb_iconst (v := nI 0) g dX8_unlike_75 (by decide) ?_
                      refine pb_istore8 g dX8_unlike_76 (by decide) ?_
                      exact loop 0 (Nat.zero_le _)
                    · exact absurd c52 (by omega)
        · have hcb : ¬ hcB n (K s0) (Hh s0) k0 = true := by simp [hcB, h3, h10]
          have e : sUnlike ((n, P, S, sd), (σ, μ, K, Hh), (ts, zz, it), (ra, tr)) (nI s0) (nI k0) w = NOL := by
            simp only [sUnlike, hs, hx]
            cases ix w 2 with
            | none => rfl
            | some w0 => exact if_neg (fun z => hcb z.1)
          refine pb_aload_n0 g dX8_unlike_0 ?_
          refine pb_iload_n1 g dX8_unlike_1 ?_
          refine pb_Vi1 g qX8_123 dX8_unlike_2 (k + 5) (by omega) mr_o (m_isShuffleT (k + 5) (by assumption) hS) (fun r2 h2 e2 => ?_)
          obtain ⟨rfl, rfl⟩ := e2
          first | refine pb_if_eqN g 55 dX8_unlike_5 (by decide) (by omega) (fun c5 => ?_) (fun c5 => ?_) | refine pb_if_eq g 55 dX8_unlike_5 (by decide) (fun c5 => ?_) (fun c5 => ?_)
          · exact absurd c5 (by decide)
          · refine pb_aload_n0 g dX8_unlike_8 ?_
            refine pb_getf g fX8_17 dX8_unlike_9 mr_o rfl ?_
            refine pb_iload_n1 g dX8_unlike_12 ?_
            first | refine pb_ialdN g dX8_unlike_13 (by first | exact mr_kind | exact mr_order | exact mr_heaps | exact mr_m | exact mr_line | exact mr_other | exact mr_ways | exact mr_next | exact mr_chances | exact mr_after | exact mr_far | exact mr_groups | exact mr_found | exact mr_counts | exact mr_traySort | exact mr_traySize | exact mr_cells | exact mr_moved | exact mr_traced | assumption) (by omega) (by omega) ?_ | refine pb_ald0 g dX8_unlike_13 (by omega) ?_ | refine pb_ald1 g dX8_unlike_13 (by omega) ?_ | refine pb_ald2 g dX8_unlike_13 (by omega) ?_ | refine pb_ald3 g dX8_unlike_13 (by omega) ?_ | refine pb_iald g dX8_unlike_13 (by first | exact mr_kind | exact mr_order | exact mr_heaps | exact mr_m | exact mr_line | exact mr_other | exact mr_ways | exact mr_next | exact mr_chances | exact mr_after | exact mr_far | exact mr_groups | exact mr_found | exact mr_counts | exact mr_traySort | exact mr_traySize | exact mr_cells | exact mr_moved | exact mr_traced | assumption) (by assumption) ?_
            rw [(d2 s0 hs0).1]
            refine pb_iconst (v := nI 3) g dX8_unlike_14 (by decide) ?_
            first | refine pb_icmp_neN g 55 dX8_unlike_15 (by decide) (by omega) (by omega) (fun c15 => ?_) (fun c15 => ?_) | refine pb_icmp_ne g 55 dX8_unlike_15 (by decide) (fun c15 => ?_) (fun c15 => ?_)
            · exact absurd h3 c15
            · refine pb_iload_n2 g dX8_unlike_18 ?_
              refine pb_if_ltN g 55 dX8_unlike_19 (by decide) (by omega) ?_
              refine pb_iload_n2 g dX8_unlike_22 ?_
              refine pb_bipush (v := nI 6) g dX8_unlike_23 (by decide) ?_
              first | refine pb_icmp_gtN g 55 dX8_unlike_25 (by decide) (by omega) (by omega) (fun c25 => ?_) (fun c25 => ?_) | refine pb_icmp_gt g 55 dX8_unlike_25 (by decide) (fun c25 => ?_) (fun c25 => ?_)
              · exact absurd c25 (by omega)
              · refine pb_aload_n0 g dX8_unlike_28 ?_
                refine pb_getf g fX8_20 dX8_unlike_29 mr_o rfl ?_
                refine pb_iload_n1 g dX8_unlike_32 ?_
                first | refine pb_ialdN g dX8_unlike_33 (by first | exact mr_heaps | exact mr_kind | exact mr_order | exact mr_m | exact mr_line | exact mr_other | exact mr_ways | exact mr_next | exact mr_chances | exact mr_after | exact mr_far | exact mr_groups | exact mr_found | exact mr_counts | exact mr_traySort | exact mr_traySize | exact mr_cells | exact mr_moved | exact mr_traced | assumption) (by omega) (by omega) ?_ | refine pb_ald0 g dX8_unlike_33 (by omega) ?_ | refine pb_ald1 g dX8_unlike_33 (by omega) ?_ | refine pb_ald2 g dX8_unlike_33 (by omega) ?_ | refine pb_ald3 g dX8_unlike_33 (by omega) ?_ | refine pb_iald g dX8_unlike_33 (by first | exact mr_heaps | exact mr_kind | exact mr_order | exact mr_m | exact mr_line | exact mr_other | exact mr_ways | exact mr_next | exact mr_chances | exact mr_after | exact mr_far | exact mr_groups | exact mr_found | exact mr_counts | exact mr_traySort | exact mr_traySize | exact mr_cells | exact mr_moved | exact mr_traced | assumption) (by assumption) ?_
                rw [(d2 s0 hs0).2.1]
                first | refine pb_i2lN g dX8_unlike_34 (by omega) ?_ | refine pb_i2l g dX8_unlike_34 ?_
                refine pb_iload_n2 g dX8_unlike_35 ?_
                refine pb_Sl2 g qX8_145 dX8_unlike_36 (k + 5) (by omega) (m_power (k + 5) (Hh s0) (k0) (by omega) _) (fun r36 h36 e36 => ?_)
                obtain ⟨rfl, rfl⟩ := e36
                refine pb_ldc2w (w := lN 10) g kX8_162 (by decide) dX8_unlike_39 ?_
                first | refine pb_lc_gtN g 55 dX8_unlike_42 dX8_unlike_43 (by decide) (by omega) (by omega) (fun c42 => ?_) (fun c42 => ?_) | refine pb_lc_gt g 55 dX8_unlike_42 dX8_unlike_43 (by decide) (fun c42 => ?_) (fun c42 => ?_)
                · refine pb_ldc2w (w := (-4611686018427387904)) g kX8_157 (by decide) dX8_unlike_55 ?_
                  refine pb_lret g z dX8_unlike_58 ?_
                  exact ⟨_, rfl, by rw [e]; rfl, ⟨_, _, _, _, _, _, _, _, _, _, _, _, _, _, _, _, _, _, _, rfl, d1, d2, d3, d4, d5⟩⟩
                · exact absurd c42 (by omega)
    · have e := hk3 w h3
      refine pb_aload_n0 g dX8_unlike_0 ?_
      refine pb_iload_n1 g dX8_unlike_1 ?_
      refine pb_Vi1 g qX8_123 dX8_unlike_2 (k + 5) (by omega) mr_o (m_isShuffleT (k + 5) (by assumption) hS) (fun r2 h2 e2 => ?_)
      obtain ⟨rfl, rfl⟩ := e2
      first | refine pb_if_eqN g 55 dX8_unlike_5 (by decide) (by omega) (fun c5 => ?_) (fun c5 => ?_) | refine pb_if_eq g 55 dX8_unlike_5 (by decide) (fun c5 => ?_) (fun c5 => ?_)
      · exact absurd c5 (by decide)
      · refine pb_aload_n0 g dX8_unlike_8 ?_
        refine pb_getf g fX8_17 dX8_unlike_9 mr_o rfl ?_
        refine pb_iload_n1 g dX8_unlike_12 ?_
        first | refine pb_ialdN g dX8_unlike_13 (by first | exact mr_kind | exact mr_order | exact mr_heaps | exact mr_m | exact mr_line | exact mr_other | exact mr_ways | exact mr_next | exact mr_chances | exact mr_after | exact mr_far | exact mr_groups | exact mr_found | exact mr_counts | exact mr_traySort | exact mr_traySize | exact mr_cells | exact mr_moved | exact mr_traced | assumption) (by omega) (by omega) ?_ | refine pb_ald0 g dX8_unlike_13 (by omega) ?_ | refine pb_ald1 g dX8_unlike_13 (by omega) ?_ | refine pb_ald2 g dX8_unlike_13 (by omega) ?_ | refine pb_ald3 g dX8_unlike_13 (by omega) ?_ | refine pb_iald g dX8_unlike_13 (by first | exact mr_kind | exact mr_order | exact mr_heaps | exact mr_m | exact mr_line | exact mr_other | exact mr_ways | exact mr_next | exact mr_chances | exact mr_after | exact mr_far | exact mr_groups | exact mr_found | exact mr_counts | exact mr_traySort | exact mr_traySize | exact mr_cells | exact mr_moved | exact mr_traced | assumption) (by assumption) ?_
        rw [(d2 s0 hs0).1]
        refine pb_iconst (v := nI 3) g dX8_unlike_14 (by decide) ?_
        first | refine pb_icmp_neN g 55 dX8_unlike_15 (by decide) (by omega) (by omega) (fun c15 => ?_) (fun c15 => ?_) | refine pb_icmp_ne g 55 dX8_unlike_15 (by decide) (fun c15 => ?_) (fun c15 => ?_)
        · refine pb_ldc2w (w := (-4611686018427387904)) g kX8_157 (by decide) dX8_unlike_55 ?_
          refine pb_lret g z dX8_unlike_58 ?_
          exact ⟨_, rfl, by rw [e]; rfl, ⟨_, _, _, _, _, _, _, _, _, _, _, _, _, _, _, _, _, _, _, rfl, d1, d2, d3, d4, d5⟩⟩
        · exact absurd c15 h3
