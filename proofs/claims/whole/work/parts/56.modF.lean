/-! ===== the reference: rounds and powers of a move ===== -/
theorem it_inj {m : Nat → Nat} {n : Nat} (hm : IsPm n m) {s : Nat} (hs : s < n) : ∀ a d, itF m a s = itF m (a + d) s → itF m d s = s
  | 0, d, h => by
    rw [Nat.zero_add] at h
    exact h.symm
  | a + 1, d, h => by
    rw [show a + 1 + d = (a + d) + 1 by omega] at h
    exact it_inj hm hs a d (hm.2 _ _ (itF_lt hm.1 hs a) (itF_lt hm.1 hs (a + d)) h)
theorem hole {n : Nat} (f : Nat → Nat) (hf : ∀ i, i < n + 1 → f i < n) : ∃ i j, i < j ∧ j < n + 1 ∧ f i = f j := by
  apply Classical.byContradiction
  intro hno
  have hpm : IsPm (n + 1) f := by
    refine ⟨fun i hi => Nat.lt_succ_of_lt (hf i hi), fun i j hi hj he => ?_⟩
    rcases Nat.lt_trichotomy i j with q | q | q
    · exact absurd ⟨i, j, q, hj, he⟩ hno
    · exact q
    · exact absurd ⟨j, i, q, hi, he.symm⟩ hno
  obtain ⟨i, hi, he⟩ := pm_onto (n + 1) f hpm n (by omega)
  have := hf i hi
  omega
theorem cyc {m : Nat → Nat} {n : Nat} (hm : IsPm n m) {s : Nat} (hs : s < n) : ∃ e, 1 ≤ e ∧ e ≤ n ∧ itF m e s = s := by
  obtain ⟨i, j, hij, hj, he⟩ := hole (fun e => itF m e s) (fun i _ => itF_lt hm.1 hs i)
  refine ⟨j - i, by omega, by omega, it_inj hm hs i (j - i) ?_⟩
  rw [show i + (j - i) = j by omega]
  exact he
theorem lf_ok (m : Nat → Nat) (s : Nat) : ∀ d e, (∃ x, e ≤ x ∧ x ≤ e + d ∧ itF m x s = s) → itF m (lfL m s d e) s = s ∧ ∀ x, e ≤ x → x < lfL m s d e → ¬ itF m x s = s
  | 0, e, ⟨x, h1, h2, h3⟩ => by
    obtain rfl : x = e := by omega
    exact ⟨h3, fun y y1 y2 => absurd y2 (by rw [lfL]; omega)⟩
  | d + 1, e, ⟨x, h1, h2, h3⟩ => by
    rw [lfL]
    by_cases he : itF m e s = s
    · rw [if_pos he]
      exact ⟨he, fun y y1 y2 => absurd y2 (by omega)⟩
    · rw [if_neg he]
      have hx : x ≠ e := fun q => he (by rw [← q]; exact h3)
      obtain ⟨g1, g2⟩ := lf_ok m s d (e + 1) ⟨x, by omega, by omega, h3⟩
      refine ⟨g1, fun y y1 y2 => ?_⟩
      by_cases q : y = e
      · rw [q]
        exact he
      · exact g2 y (by omega) y2
theorem len_ok {m : Nat → Nat} {n : Nat} (hm : IsPm n m) {s : Nat} (hs : s < n) : itF m (lenF m n s) s = s ∧ ∀ x, 1 ≤ x → x < lenF m n s → ¬ itF m x s = s := by
  obtain ⟨e, h1, h2, h3⟩ := cyc hm hs
  exact lf_ok m s (n - 1) 1 ⟨e, h1, by omega, h3⟩
theorem lcm_ok {e r j : Nat} (he : 0 < e) (hr : 0 < r) (hj : 0 < j) (hjJ : j ≤ r / Nat.gcd e r) : e * j % r = 0 ↔ j = r / Nat.gcd e r := by
  have hl : Nat.lcm e r = e * (r / Nat.gcd e r) := by rw [Nat.lcm, Nat.mul_div_assoc _ (Nat.gcd_dvd_right e r)]
  constructor
  · intro h
    have h1 : Nat.lcm e r ∣ e * j := Nat.lcm_dvd ⟨j, rfl⟩ (Nat.dvd_of_mod_eq_zero h)
    have h2 := Nat.le_of_dvd (Nat.mul_pos he hj) h1
    rw [hl] at h2
    have h3 := Nat.le_of_mul_le_mul_left h2 he
    omega
  · intro h
    rw [h, ← hl]
    exact Nat.mod_eq_zero_of_dvd (Nat.dvd_lcm_right e r)
set_option maxHeartbeats 4000000 in
set_option maxRecDepth 100000 in
theorem m_roundOf (k : Nat) {xP xS xsd xbo : Int32} {xod xkn xhs xmm xln xot xfa xgr xtsr xtsz xce xmv xtc : Nat → Int32} {xwy xnx xch xaf xfo xco : Nat → Int64} {n s i : Nat} (hn : n ≤ 10) (hs : s < 10) (hi : i < n) (m : Nat → Nat) (hf : ∀ j, j < n → xmm (10 * s + j) = nI (m j)) (hm : IsPm n m) : Runs yX8_roundOf cX8_roundOf 5 (some .int) (k) [.ref 0, .int (nI s), .int (nI i)] (mkH 20 (mdF (nI n) xP xS xsd xod xkn xhs xmm xln xot xwy xnx xch xaf xfa xgr xfo xco xtsr xtsz xce xmv xtc xbo)) (fun o h' => ∃ r : Int32, o = some (.int r) ∧ r = nI (lenF m n i) ∧ mkH 20 (mdF (nI n) xP xS xsd xod xkn xhs xmm xln xot xwy xnx xch xaf xfa xgr xfo xco xtsr xtsz xce xmv xtc xbo) = h') := by
  refine Runs.of (by decide) (Nat.le_of_ble_eq_true rfl) [some (.ref 0), some (.int (nI s)), some (.int (nI i)), none, none] 2 rfl (fun Γ g z => ?_)
  obtain ⟨hL1, hL2⟩ := len_ok hm hi
  obtain ⟨hL3, hL4⟩ := lenF_bd (m := m) (n := n) (s := i) (by omega)
  have loop : ∀ e, e ≤ lenF m n i → 1 ≤ e → PB Γ 15 [some (.ref 0), some (.int (nI s)), some (.int (nI i)), some (.int (nI e)), some (.int (nI (itF m e i)))] [] (mkH 20 (mdF (nI n) xP xS xsd xod xkn xhs xmm xln xot xwy xnx xch xaf xfa xgr xfo xco xtsr xtsz xce xmv xtc xbo)) := by
    refine pb_loop (lenF m n i) (fun e he ih he1 => ?_)
    have hat := itF_lt hm.1 hi e
    refine pb_iload4 g dX8_roundOf_15 ?_
    refine pb_iload_n2 g dX8_roundOf_17 ?_
    first | refine pb_icmp_eqN g 41 dX8_roundOf_18 (by decide) (by omega) (by omega) (fun c18 => ?_) (fun c18 => ?_) | refine pb_icmp_eq g 41 dX8_roundOf_18 (by decide) (fun c18 => ?_) (fun c18 => ?_)
    · refine pb_iload_n3 g dX8_roundOf_41 ?_
      refine pb_iret g z dX8_roundOf_42 ?_
      refine ⟨_, rfl, ?_, rfl⟩
      rcases Nat.lt_or_ge e (lenF m n i) with q | q
      · exact absurd c18 (hL2 e he1 q)
      · rw [show e = lenF m n i by omega]
    · refine pb_aload_n0 g dX8_roundOf_21 ?_
      refine pb_getf g fX8_23 dX8_roundOf_22 mr_o rfl ?_
      refine pb_bipush (v := nI 10) g dX8_roundOf_25 (by decide) ?_
      refine pb_iload_n1 g dX8_roundOf_27 ?_
      first | refine pb_imulN g dX8_roundOf_28 ?_ | refine pb_imul g dX8_roundOf_28 ?_
      refine pb_iload4 g dX8_roundOf_29 ?_
      first | refine pb_iaddN g dX8_roundOf_31 ?_ | refine pb_iadd g dX8_roundOf_31 ?_
      first | refine pb_ialdN g dX8_roundOf_32 (by first | exact mr_m | exact mr_order | exact mr_kind | exact mr_heaps | exact mr_line | exact mr_other | exact mr_ways | exact mr_next | exact mr_chances | exact mr_after | exact mr_far | exact mr_groups | exact mr_found | exact mr_counts | exact mr_traySort | exact mr_traySize | exact mr_cells | exact mr_moved | exact mr_traced | assumption) (by omega) (by omega) ?_ | refine pb_ald0 g dX8_roundOf_32 (by omega) ?_ | refine pb_ald1 g dX8_roundOf_32 (by omega) ?_ | refine pb_ald2 g dX8_roundOf_32 (by omega) ?_ | refine pb_ald3 g dX8_roundOf_32 (by omega) ?_ | refine pb_iald g dX8_roundOf_32 (by first | exact mr_m | exact mr_order | exact mr_kind | exact mr_heaps | exact mr_line | exact mr_other | exact mr_ways | exact mr_next | exact mr_chances | exact mr_after | exact mr_far | exact mr_groups | exact mr_found | exact mr_counts | exact mr_traySort | exact mr_traySize | exact mr_cells | exact mr_moved | exact mr_traced | assumption) (by assumption) ?_
      rw [hf (itF m e i) hat]
      refine pb_istore4 g dX8_roundOf_33 (by decide) ?_
      first | refine pb_iinc3N g dX8_roundOf_35 (by decide) ?_ | refine pb_iinc3 g dX8_roundOf_35 (by decide) rfl ?_
      refine pb_goto g 15 dX8_roundOf_38 (by decide) ?_
      exact ih (Nat.lt_of_le_of_ne he (fun q => c18 (by rw [q]; exact hL1))) (by omega)
  refine pb_iconst (v := nI 1) g dX8_roundOf_0 (by decide) ?_
  refine pb_istore_n3 g dX8_roundOf_1 (by decide) ?_
  refine pb_aload_n0 g dX8_roundOf_2 ?_
  refine pb_getf g fX8_23 dX8_roundOf_3 mr_o rfl ?_
  refine pb_bipush (v := nI 10) g dX8_roundOf_6 (by decide) ?_
  refine pb_iload_n1 g dX8_roundOf_8 ?_
  first | refine pb_imulN g dX8_roundOf_9 ?_ | refine pb_imul g dX8_roundOf_9 ?_
  refine pb_iload_n2 g dX8_roundOf_10 ?_
  first | refine pb_iaddN g dX8_roundOf_11 ?_ | refine pb_iadd g dX8_roundOf_11 ?_
  first | refine pb_ialdN g dX8_roundOf_12 (by first | exact mr_m | exact mr_order | exact mr_kind | exact mr_heaps | exact mr_line | exact mr_other | exact mr_ways | exact mr_next | exact mr_chances | exact mr_after | exact mr_far | exact mr_groups | exact mr_found | exact mr_counts | exact mr_traySort | exact mr_traySize | exact mr_cells | exact mr_moved | exact mr_traced | assumption) (by omega) (by omega) ?_ | refine pb_ald0 g dX8_roundOf_12 (by omega) ?_ | refine pb_ald1 g dX8_roundOf_12 (by omega) ?_ | refine pb_ald2 g dX8_roundOf_12 (by omega) ?_ | refine pb_ald3 g dX8_roundOf_12 (by omega) ?_ | refine pb_iald g dX8_roundOf_12 (by first | exact mr_m | exact mr_order | exact mr_kind | exact mr_heaps | exact mr_line | exact mr_other | exact mr_ways | exact mr_next | exact mr_chances | exact mr_after | exact mr_far | exact mr_groups | exact mr_found | exact mr_counts | exact mr_traySort | exact mr_traySize | exact mr_cells | exact mr_moved | exact mr_traced | assumption) (by assumption) ?_
  rw [hf i hi]
  refine pb_istore4 g dX8_roundOf_13 (by decide) ?_
  exact loop 1 hL3 (Nat.le_refl 1)
set_option maxHeartbeats 4000000 in
set_option maxRecDepth 100000 in
theorem m_rounds (k : Nat) {xP xS xsd xbo : Int32} {xod xkn xhs xmm xln xot xfa xgr xtsr xtsz xce xmv xtc : Nat → Int32} {xwy xnx xch xaf xfo xco : Nat → Int64} {n s : Nat} (hn : n ≤ 10) (hs : s < 10) (m : Nat → Nat) (hf : ∀ j, j < n → xmm (10 * s + j) = nI (m j)) (hm : IsPm n m) : Runs yX8_rounds cX8_rounds 6 (some .int) (k) [.ref 0, .int (nI s)] (mkH 20 (mdF (nI n) xP xS xsd xod xkn xhs xmm xln xot xwy xnx xch xaf xfa xgr xfo xco xtsr xtsz xce xmv xtc xbo)) (fun o h' => ∃ r : Int32, o = some (.int r) ∧ r = nI (hmL m n n) ∧ mkH 20 (mdF (nI n) xP xS xsd xod xkn xhs xmm xln xot xwy xnx xch xaf xfa xgr xfo xco xtsr xtsz xce xmv xtc xbo) = h') := by
  refine Runs.of (by decide) (Nat.le_of_ble_eq_true rfl) [some (.ref 0), some (.int (nI s)), none, none, none, none] 4 rfl (fun Γ g z => ?_)
  have loop : ∀ i, i ≤ n → ∀ w4 w5 : Option Value, PB Γ 4 [some (.ref 0), some (.int (nI s)), some (.int (nI (hmL m n i))), some (.int (nI i)), w4, w5] [] (mkH 20 (mdF (nI n) xP xS xsd xod xkn xhs xmm xln xot xwy xnx xch xaf xfa xgr xfo xco xtsr xtsz xce xmv xtc xbo)) := by
    refine pb_loop n (fun i hi ih w4 w5 => ?_)
    by_cases hin : i < n
    · obtain ⟨hL1, hL2⟩ := len_ok hm hin
      obtain ⟨hL3, hL4⟩ := lenF_bd (m := m) (n := n) (s := i) (by omega)
      have ih := ih hin
      have lB : ¬ hiL m i n (m i) = i → ∀ e, e ≤ lenF m n i → 1 ≤ e → PB Γ 28 [some (.ref 0), some (.int (nI s)), some (.int (nI (hmL m n i))), some (.int (nI i)), some (.int (nI 0)), some (.int (nI (itF m e i)))] [] (mkH 20 (mdF (nI n) xP xS xsd xod xkn xhs xmm xln xot xwy xnx xch xaf xfa xgr xfo xco xtsr xtsz xce xmv xtc xbo)) := by
        intro hX
        rw [hmL, if_neg hX, Nat.add_zero] at ih
        refine pb_loop (lenF m n i) (fun e he ihe he1 => ?_)
        have hat := itF_lt hm.1 hin e
        refine pb_iload5 g dX8_rounds_28 ?_
        refine pb_iload_n3 g dX8_rounds_30 ?_
        first | refine pb_icmp_eqN g 60 dX8_rounds_31 (by decide) (by omega) (by omega) (fun c31 => ?_) (fun c31 => ?_) | refine pb_icmp_eq g 60 dX8_rounds_31 (by decide) (fun c31 => ?_) (fun c31 => ?_)
        · refine pb_iload4 g dX8_rounds_60 ?_
          first | refine pb_if_eqN g 68 dX8_rounds_62 (by decide) (by omega) (fun c62 => ?_) (fun c62 => ?_) | refine pb_if_eq g 68 dX8_rounds_62 (by decide) (fun c62 => ?_) (fun c62 => ?_)
          · first | refine pb_iinc3N g dX8_rounds_68 (by decide) ?_ | refine pb_iinc3 g dX8_rounds_68 (by decide) rfl ?_
            refine pb_goto g 4 dX8_rounds_71 (by decide) ?_
            exact ih _ _
          · exact absurd c62 (by decide)
        · refine pb_iload5 g dX8_rounds_34 ?_
          refine pb_iload_n3 g dX8_rounds_36 ?_
          first | refine pb_icmp_geN g 43 dX8_rounds_37 (by decide) (by omega) (by omega) (fun c37 => ?_) (fun c37 => ?_) | refine pb_icmp_ge g 43 dX8_rounds_37 (by decide) (fun c37 => ?_) (fun c37 => ?_)
          · refine pb_aload_n0 g dX8_rounds_43 ?_
            refine pb_getf g fX8_23 dX8_rounds_44 mr_o rfl ?_
            refine pb_bipush (v := nI 10) g dX8_rounds_47 (by decide) ?_
            refine pb_iload_n1 g dX8_rounds_49 ?_
            first | refine pb_imulN g dX8_rounds_50 ?_ | refine pb_imul g dX8_rounds_50 ?_
            refine pb_iload5 g dX8_rounds_51 ?_
            first | refine pb_iaddN g dX8_rounds_53 ?_ | refine pb_iadd g dX8_rounds_53 ?_
            first | refine pb_ialdN g dX8_rounds_54 (by first | exact mr_m | exact mr_order | exact mr_kind | exact mr_heaps | exact mr_line | exact mr_other | exact mr_ways | exact mr_next | exact mr_chances | exact mr_after | exact mr_far | exact mr_groups | exact mr_found | exact mr_counts | exact mr_traySort | exact mr_traySize | exact mr_cells | exact mr_moved | exact mr_traced | assumption) (by omega) (by omega) ?_ | refine pb_ald0 g dX8_rounds_54 (by omega) ?_ | refine pb_ald1 g dX8_rounds_54 (by omega) ?_ | refine pb_ald2 g dX8_rounds_54 (by omega) ?_ | refine pb_ald3 g dX8_rounds_54 (by omega) ?_ | refine pb_iald g dX8_rounds_54 (by first | exact mr_m | exact mr_order | exact mr_kind | exact mr_heaps | exact mr_line | exact mr_other | exact mr_ways | exact mr_next | exact mr_chances | exact mr_after | exact mr_far | exact mr_groups | exact mr_found | exact mr_counts | exact mr_traySort | exact mr_traySize | exact mr_cells | exact mr_moved | exact mr_traced | assumption) (by assumption) ?_
            rw [hf (itF m e i) hat]
            refine pb_istore5 g dX8_rounds_55 (by decide) ?_
            refine pb_goto g 28 dX8_rounds_57 (by decide) ?_
            exact ihe (Nat.lt_of_le_of_ne he (fun q => c31 (by rw [q]; exact hL1))) (by omega)
          · refine pb_iconst (v := nI 0) g dX8_rounds_40 (by decide) ?_
            refine pb_istore4 g dX8_rounds_41 (by decide) ?_
            refine pb_aload_n0 g dX8_rounds_43 ?_
            refine pb_getf g fX8_23 dX8_rounds_44 mr_o rfl ?_
            refine pb_bipush (v := nI 10) g dX8_rounds_47 (by decide) ?_
            refine pb_iload_n1 g dX8_rounds_49 ?_
            first | refine pb_imulN g dX8_rounds_50 ?_ | refine pb_imul g dX8_rounds_50 ?_
            refine pb_iload5 g dX8_rounds_51 ?_
            first | refine pb_iaddN g dX8_rounds_53 ?_ | refine pb_iadd g dX8_rounds_53 ?_
            first | refine pb_ialdN g dX8_rounds_54 (by first | exact mr_m | exact mr_order | exact mr_kind | exact mr_heaps | exact mr_line | exact mr_other | exact mr_ways | exact mr_next | exact mr_chances | exact mr_after | exact mr_far | exact mr_groups | exact mr_found | exact mr_counts | exact mr_traySort | exact mr_traySize | exact mr_cells | exact mr_moved | exact mr_traced | assumption) (by omega) (by omega) ?_ | refine pb_ald0 g dX8_rounds_54 (by omega) ?_ | refine pb_ald1 g dX8_rounds_54 (by omega) ?_ | refine pb_ald2 g dX8_rounds_54 (by omega) ?_ | refine pb_ald3 g dX8_rounds_54 (by omega) ?_ | refine pb_iald g dX8_rounds_54 (by first | exact mr_m | exact mr_order | exact mr_kind | exact mr_heaps | exact mr_line | exact mr_other | exact mr_ways | exact mr_next | exact mr_chances | exact mr_after | exact mr_far | exact mr_groups | exact mr_found | exact mr_counts | exact mr_traySort | exact mr_traySize | exact mr_cells | exact mr_moved | exact mr_traced | assumption) (by assumption) ?_
            rw [hf (itF m e i) hat]
            refine pb_istore5 g dX8_rounds_55 (by decide) ?_
            refine pb_goto g 28 dX8_rounds_57 (by decide) ?_
            exact ihe (Nat.lt_of_le_of_ne he (fun q => c31 (by rw [q]; exact hL1))) (by omega)
      have lA : ∀ e, e ≤ lenF m n i → 1 ≤ e → hiL m i (n + 1 - e) (itF m e i) = hiL m i n (m i) → PB Γ 28 [some (.ref 0), some (.int (nI s)), some (.int (nI (hmL m n i))), some (.int (nI i)), some (.int (nI 1)), some (.int (nI (itF m e i)))] [] (mkH 20 (mdF (nI n) xP xS xsd xod xkn xhs xmm xln xot xwy xnx xch xaf xfa xgr xfo xco xtsr xtsz xce xmv xtc xbo)) := by
        refine pb_loop (lenF m n i) (fun e he ihe he1 hh => ?_)
        have hat := itF_lt hm.1 hin e
        by_cases hei : itF m e i = i
        · have hX : hiL m i n (m i) = i := by
            rw [← hh, hei]
            cases n + 1 - e with
            | zero => rfl
            | succ d => exact if_neg (Nat.lt_irrefl i)
          rw [hmL, if_pos hX] at ih
          refine pb_iload5 g dX8_rounds_28 ?_
          refine pb_iload_n3 g dX8_rounds_30 ?_
          first | refine pb_icmp_eqN g 60 dX8_rounds_31 (by decide) (by omega) (by omega) (fun c31 => ?_) (fun c31 => ?_) | refine pb_icmp_eq g 60 dX8_rounds_31 (by decide) (fun c31 => ?_) (fun c31 => ?_)
          · refine pb_iload4 g dX8_rounds_60 ?_
            first | refine pb_if_eqN g 68 dX8_rounds_62 (by decide) (by omega) (fun c62 => ?_) (fun c62 => ?_) | refine pb_if_eq g 68 dX8_rounds_62 (by decide) (fun c62 => ?_) (fun c62 => ?_)
            · exact absurd c62 (by decide)
            · first | refine pb_iinc2N g dX8_rounds_65 (by decide) ?_ | refine pb_iinc2 g dX8_rounds_65 (by decide) rfl ?_
              first | refine pb_iinc3N g dX8_rounds_68 (by decide) ?_ | refine pb_iinc3 g dX8_rounds_68 (by decide) rfl ?_
              refine pb_goto g 4 dX8_rounds_71 (by decide) ?_
              exact ih _ _
          · exact absurd hei c31
        · have hlt : e < lenF m n i := Nat.lt_of_le_of_ne he (fun q => hei (by rw [q]; exact hL1))
          have ihe := ihe hlt
          obtain ⟨d, hd⟩ : ∃ d, n + 1 - e = d + 1 := ⟨n - e, by omega⟩
          rw [hd, hiL] at hh
          by_cases hlo : itF m e i < i
          · rw [if_neg (by omega)] at hh
            have hX : ¬ hiL m i n (m i) = i := by
              rw [← hh]
              exact hei
            have lB := lB hX (e + 1) (by omega) (by omega)
            refine pb_iload5 g dX8_rounds_28 ?_
            refine pb_iload_n3 g dX8_rounds_30 ?_
            first | refine pb_icmp_eqN g 60 dX8_rounds_31 (by decide) (by omega) (by omega) (fun c31 => ?_) (fun c31 => ?_) | refine pb_icmp_eq g 60 dX8_rounds_31 (by decide) (fun c31 => ?_) (fun c31 => ?_)
            · exact absurd c31 hei
            · refine pb_iload5 g dX8_rounds_34 ?_
              refine pb_iload_n3 g dX8_rounds_36 ?_
              first | refine pb_icmp_geN g 43 dX8_rounds_37 (by decide) (by omega) (by omega) (fun c37 => ?_) (fun c37 => ?_) | refine pb_icmp_ge g 43 dX8_rounds_37 (by decide) (fun c37 => ?_) (fun c37 => ?_)
              · exact absurd c37 (by omega)
              · refine pb_iconst (v := nI 0) g dX8_rounds_40 (by decide) ?_
                refine pb_istore4 g dX8_rounds_41 (by decide) ?_
                refine pb_aload_n0 g dX8_rounds_43 ?_
                refine pb_getf g fX8_23 dX8_rounds_44 mr_o rfl ?_
                refine pb_bipush (v := nI 10) g dX8_rounds_47 (by decide) ?_
                refine pb_iload_n1 g dX8_rounds_49 ?_
                first | refine pb_imulN g dX8_rounds_50 ?_ | refine pb_imul g dX8_rounds_50 ?_
                refine pb_iload5 g dX8_rounds_51 ?_
                first | refine pb_iaddN g dX8_rounds_53 ?_ | refine pb_iadd g dX8_rounds_53 ?_
                first | refine pb_ialdN g dX8_rounds_54 (by first | exact mr_m | exact mr_order | exact mr_kind | exact mr_heaps | exact mr_line | exact mr_other | exact mr_ways | exact mr_next | exact mr_chances | exact mr_after | exact mr_far | exact mr_groups | exact mr_found | exact mr_counts | exact mr_traySort | exact mr_traySize | exact mr_cells | exact mr_moved | exact mr_traced | assumption) (by omega) (by omega) ?_ | refine pb_ald0 g dX8_rounds_54 (by omega) ?_ | refine pb_ald1 g dX8_rounds_54 (by omega) ?_ | refine pb_ald2 g dX8_rounds_54 (by omega) ?_ | refine pb_ald3 g dX8_rounds_54 (by omega) ?_ | refine pb_iald g dX8_rounds_54 (by first | exact mr_m | exact mr_order | exact mr_kind | exact mr_heaps | exact mr_line | exact mr_other | exact mr_ways | exact mr_next | exact mr_chances | exact mr_after | exact mr_far | exact mr_groups | exact mr_found | exact mr_counts | exact mr_traySort | exact mr_traySize | exact mr_cells | exact mr_moved | exact mr_traced | assumption) (by assumption) ?_
                rw [hf (itF m e i) hat]
                refine pb_istore5 g dX8_rounds_55 (by decide) ?_
                refine pb_goto g 28 dX8_rounds_57 (by decide) ?_
                exact lB
          · rw [if_pos (by omega), show d = n + 1 - (e + 1) by omega] at hh
            refine pb_iload5 g dX8_rounds_28 ?_
            refine pb_iload_n3 g dX8_rounds_30 ?_
            first | refine pb_icmp_eqN g 60 dX8_rounds_31 (by decide) (by omega) (by omega) (fun c31 => ?_) (fun c31 => ?_) | refine pb_icmp_eq g 60 dX8_rounds_31 (by decide) (fun c31 => ?_) (fun c31 => ?_)
            · exact absurd c31 hei
            · refine pb_iload5 g dX8_rounds_34 ?_
              refine pb_iload_n3 g dX8_rounds_36 ?_
              first | refine pb_icmp_geN g 43 dX8_rounds_37 (by decide) (by omega) (by omega) (fun c37 => ?_) (fun c37 => ?_) | refine pb_icmp_ge g 43 dX8_rounds_37 (by decide) (fun c37 => ?_) (fun c37 => ?_)
              · refine pb_aload_n0 g dX8_rounds_43 ?_
                refine pb_getf g fX8_23 dX8_rounds_44 mr_o rfl ?_
                refine pb_bipush (v := nI 10) g dX8_rounds_47 (by decide) ?_
                refine pb_iload_n1 g dX8_rounds_49 ?_
                first | refine pb_imulN g dX8_rounds_50 ?_ | refine pb_imul g dX8_rounds_50 ?_
                refine pb_iload5 g dX8_rounds_51 ?_
                first | refine pb_iaddN g dX8_rounds_53 ?_ | refine pb_iadd g dX8_rounds_53 ?_
                first | refine pb_ialdN g dX8_rounds_54 (by first | exact mr_m | exact mr_order | exact mr_kind | exact mr_heaps | exact mr_line | exact mr_other | exact mr_ways | exact mr_next | exact mr_chances | exact mr_after | exact mr_far | exact mr_groups | exact mr_found | exact mr_counts | exact mr_traySort | exact mr_traySize | exact mr_cells | exact mr_moved | exact mr_traced | assumption) (by omega) (by omega) ?_ | refine pb_ald0 g dX8_rounds_54 (by omega) ?_ | refine pb_ald1 g dX8_rounds_54 (by omega) ?_ | refine pb_ald2 g dX8_rounds_54 (by omega) ?_ | refine pb_ald3 g dX8_rounds_54 (by omega) ?_ | refine pb_iald g dX8_rounds_54 (by first | exact mr_m | exact mr_order | exact mr_kind | exact mr_heaps | exact mr_line | exact mr_other | exact mr_ways | exact mr_next | exact mr_chances | exact mr_after | exact mr_far | exact mr_groups | exact mr_found | exact mr_counts | exact mr_traySort | exact mr_traySize | exact mr_cells | exact mr_moved | exact mr_traced | assumption) (by assumption) ?_
                rw [hf (itF m e i) hat]
                refine pb_istore5 g dX8_rounds_55 (by decide) ?_
                refine pb_goto g 28 dX8_rounds_57 (by decide) ?_
                exact ihe (by omega) hh
              · exact absurd c37 (by omega)
      refine pb_iload_n3 g dX8_rounds_4 ?_
      refine pb_aload_n0 g dX8_rounds_5 ?_
      refine pb_getf g fX8_7 dX8_rounds_6 mr_o rfl ?_
      first | refine pb_icmp_geN g 74 dX8_rounds_9 (by decide) (by omega) (by omega) (fun c9 => ?_) (fun c9 => ?_) | refine pb_icmp_ge g 74 dX8_rounds_9 (by decide) (fun c9 => ?_) (fun c9 => ?_)
      · exact absurd c9 (by omega)
      · refine pb_iconst (v := nI 1) g dX8_rounds_12 (by decide) ?_
        refine pb_istore4 g dX8_rounds_13 (by decide) ?_
        refine pb_aload_n0 g dX8_rounds_15 ?_
        refine pb_getf g fX8_23 dX8_rounds_16 mr_o rfl ?_
        refine pb_bipush (v := nI 10) g dX8_rounds_19 (by decide) ?_
        refine pb_iload_n1 g dX8_rounds_21 ?_
        first | refine pb_imulN g dX8_rounds_22 ?_ | refine pb_imul g dX8_rounds_22 ?_
        refine pb_iload_n3 g dX8_rounds_23 ?_
        first | refine pb_iaddN g dX8_rounds_24 ?_ | refine pb_iadd g dX8_rounds_24 ?_
        first | refine pb_ialdN g dX8_rounds_25 (by first | exact mr_m | exact mr_order | exact mr_kind | exact mr_heaps | exact mr_line | exact mr_other | exact mr_ways | exact mr_next | exact mr_chances | exact mr_after | exact mr_far | exact mr_groups | exact mr_found | exact mr_counts | exact mr_traySort | exact mr_traySize | exact mr_cells | exact mr_moved | exact mr_traced | assumption) (by omega) (by omega) ?_ | refine pb_ald0 g dX8_rounds_25 (by omega) ?_ | refine pb_ald1 g dX8_rounds_25 (by omega) ?_ | refine pb_ald2 g dX8_rounds_25 (by omega) ?_ | refine pb_ald3 g dX8_rounds_25 (by omega) ?_ | refine pb_iald g dX8_rounds_25 (by first | exact mr_m | exact mr_order | exact mr_kind | exact mr_heaps | exact mr_line | exact mr_other | exact mr_ways | exact mr_next | exact mr_chances | exact mr_after | exact mr_far | exact mr_groups | exact mr_found | exact mr_counts | exact mr_traySort | exact mr_traySize | exact mr_cells | exact mr_moved | exact mr_traced | assumption) (by assumption) ?_
        rw [hf i hin]
        refine pb_istore5 g dX8_rounds_26 (by decide) ?_
        exact lA 1 hL3 (Nat.le_refl 1) rfl
    · obtain rfl : i = n := by omega
      refine pb_iload_n3 g dX8_rounds_4 ?_
      refine pb_aload_n0 g dX8_rounds_5 ?_
      refine pb_getf g fX8_7 dX8_rounds_6 mr_o rfl ?_
      first | refine pb_icmp_geN g 74 dX8_rounds_9 (by decide) (by omega) (by omega) (fun c9 => ?_) (fun c9 => ?_) | refine pb_icmp_ge g 74 dX8_rounds_9 (by decide) (fun c9 => ?_) (fun c9 => ?_)
      · refine pb_iload_n2 g dX8_rounds_74 ?_
        refine pb_iret g z dX8_rounds_75 ?_
        exact ⟨_, rfl, rfl, rfl⟩
      · exact absurd c9 (by omega)
  refine pb_iconst (v := nI 0) g dX8_rounds_0 (by decide) ?_
  refine pb_istore_n2 g dX8_rounds_1 (by decide) ?_
  refine pb_iconst (v := nI 0) g dX8_rounds_2 (by decide) ?_
  refine pb_istore_n3 g dX8_rounds_3 (by decide) ?_
  exact loop 0 (Nat.zero_le _) _ _
set_option maxHeartbeats 4000000 in
set_option maxRecDepth 100000 in
theorem m_whole (k : Nat) {xP xS xsd xbo : Int32} {xod xkn xhs xmm xln xot xfa xgr xtsr xtsz xce xmv xtc : Nat → Int32} {xwy xnx xch xaf xfo xco : Nat → Int64} {n s : Nat} (hn : n ≤ 10) (hs : s < 10) (m : Nat → Nat) (hf : ∀ j, j < n → xmm (10 * s + j) = nI (m j)) (hm : IsPm n m) (hn1 : 1 ≤ n) : Runs yX8_whole cX8_whole 6 (some .int) (k + 1) [.ref 0, .int (nI s)] (mkH 20 (mdF (nI n) xP xS xsd xod xkn xhs xmm xln xot xwy xnx xch xaf xfa xgr xfo xco xtsr xtsz xce xmv xtc xbo)) (fun o h' => ∃ r : Int32, o = some (.int r) ∧ r = nI (lpL m n n) ∧ mkH 20 (mdF (nI n) xP xS xsd xod xkn xhs xmm xln xot xwy xnx xch xaf xfa xgr xfo xco xtsr xtsz xce xmv xtc xbo) = h') := by
  refine Runs.of (by decide) (Nat.le_of_ble_eq_true rfl) [some (.ref 0), some (.int (nI s)), none, none, none, none] 4 rfl (fun Γ g z => ?_)
  have loop : ∀ i, i ≤ n → ∀ w4 w5 : Option Value, PB Γ 4 [some (.ref 0), some (.int (nI s)), some (.int (nI (lpL m n i))), some (.int (nI i)), w4, w5] [] (mkH 20 (mdF (nI n) xP xS xsd xod xkn xhs xmm xln xot xwy xnx xch xaf xfa xgr xfo xco xtsr xtsz xce xmv xtc xbo)) := by
    refine pb_loop n (fun i hi ih w4 w5 => ?_)
    by_cases hin : i < n
    · obtain ⟨hL3, hL4⟩ := lenF_bd (m := m) (n := n) (s := i) hn1
      obtain ⟨hp1, hp2⟩ := lpL_lt m n hn hn1 i
      obtain ⟨hq1, hq2⟩ := lpL_lt m n hn hn1 (i + 1)
      have hq2 : lpL m n i * (lenF m n i / Nat.gcd (lpL m n i) (lenF m n i)) ≤ 2520 := hq2
      have hJ : 0 < lenF m n i / Nat.gcd (lpL m n i) (lenF m n i) := Nat.div_pos (Nat.le_of_dvd (by omega) (Nat.gcd_dvd_right _ _)) (Nat.gcd_pos_of_pos_left _ hp1)
      have ih := ih hin
      have inner : ∀ j, j ≤ lenF m n i / Nat.gcd (lpL m n i) (lenF m n i) → 1 ≤ j → PB Γ 23 [some (.ref 0), some (.int (nI s)), some (.int (nI (lpL m n i))), some (.int (nI i)), some (.int (nI (lenF m n i))), some (.int (nI (lpL m n i * j)))] [] (mkH 20 (mdF (nI n) xP xS xsd xod xkn xhs xmm xln xot xwy xnx xch xaf xfa xgr xfo xco xtsr xtsz xce xmv xtc xbo)) := by
        refine pb_loop _ (fun j hj ihj hj1 => ?_)
        have hb : lpL m n i * j ≤ 2520 := Nat.le_trans (Nat.mul_le_mul_left _ hj) hq2
        have hmod := lcm_ok (e := lpL m n i) (r := lenF m n i) hp1 hL3 hj1 hj
        have hml := Nat.mod_lt (lpL m n i * j) hL3
        refine pb_iload5 g dX8_whole_23 ?_
        refine pb_iload4 g dX8_whole_25 ?_
        first | refine pb_iremN g dX8_whole_27 (by omega) (by omega) (by omega) ?_ | refine pb_irem g dX8_whole_27 (by assumption) ?_
        first | refine pb_if_eqN g 40 dX8_whole_28 (by decide) (by omega) (fun c28 => ?_) (fun c28 => ?_) | refine pb_if_eq g 40 dX8_whole_28 (by decide) (fun c28 => ?_) (fun c28 => ?_)
        · refine pb_iload5 g dX8_whole_40 ?_
          refine pb_istore_n2 g dX8_whole_42 (by decide) ?_
          first | refine pb_iinc3N g dX8_whole_43 (by decide) ?_ | refine pb_iinc3 g dX8_whole_43 (by decide) rfl ?_
          refine pb_goto g 4 dX8_whole_46 (by decide) ?_
          have q := hmod.mp c28
          rw [lpL, ← q] at ih
          exact ih _ _
        · refine pb_iload5 g dX8_whole_31 ?_
          refine pb_iload_n2 g dX8_whole_33 ?_
          first | refine pb_iaddN g dX8_whole_34 ?_ | refine pb_iadd g dX8_whole_34 ?_
          refine pb_istore5 g dX8_whole_35 (by decide) ?_
          refine pb_goto g 23 dX8_whole_37 (by decide) ?_
          exact ihj (Nat.lt_of_le_of_ne hj (fun q => c28 (hmod.mpr q))) (by omega)
      refine pb_iload_n3 g dX8_whole_4 ?_
      refine pb_aload_n0 g dX8_whole_5 ?_
      refine pb_getf g fX8_7 dX8_whole_6 mr_o rfl ?_
      first | refine pb_icmp_geN g 49 dX8_whole_9 (by decide) (by omega) (by omega) (fun c9 => ?_) (fun c9 => ?_) | refine pb_icmp_ge g 49 dX8_whole_9 (by decide) (fun c9 => ?_) (fun c9 => ?_)
      · exact absurd c9 (by omega)
      · refine pb_aload_n0 g dX8_whole_12 ?_
        refine pb_iload_n1 g dX8_whole_13 ?_
        refine pb_iload_n3 g dX8_whole_14 ?_
        refine pb_Vi2 g qX8_129 dX8_whole_15 k (by omega) mr_o (m_roundOf k (n := n) (s := s) (i := i) hn hs hin m hf hm) (fun r15 h15 e15 => ?_)
        obtain ⟨rfl, rfl⟩ := e15
        refine pb_istore4 g dX8_whole_18 (by decide) ?_
        refine pb_iload_n2 g dX8_whole_20 ?_
        refine pb_istore5 g dX8_whole_21 (by decide) ?_
        have z9 := inner 1 (by omega) (Nat.le_refl 1)
        rw [Nat.mul_one] at z9
        exact z9
    · obtain rfl : i = n := by omega
      refine pb_iload_n3 g dX8_whole_4 ?_
      refine pb_aload_n0 g dX8_whole_5 ?_
      refine pb_getf g fX8_7 dX8_whole_6 mr_o rfl ?_
      first | refine pb_icmp_geN g 49 dX8_whole_9 (by decide) (by omega) (by omega) (fun c9 => ?_) (fun c9 => ?_) | refine pb_icmp_ge g 49 dX8_whole_9 (by decide) (fun c9 => ?_) (fun c9 => ?_)
      · refine pb_iload_n2 g dX8_whole_49 ?_
        refine pb_iret g z dX8_whole_50 ?_
        exact ⟨_, rfl, rfl, rfl⟩
      · exact absurd c9 (by omega)
  refine pb_iconst (v := nI 1) g dX8_whole_0 (by decide) ?_
  refine pb_istore_n2 g dX8_whole_1 (by decide) ?_
  refine pb_iconst (v := nI 0) g dX8_whole_2 (by decide) ?_
  refine pb_istore_n3 g dX8_whole_3 (by decide) ?_
  exact loop 0 (Nat.zero_le _) _ _
set_option maxHeartbeats 4000000 in
set_option maxRecDepth 100000 in
theorem m_shuffleTold (k : Nat) (q : SP) (s w : Int32) (h : PH) (hD : IsM q h) (hI : SI q) : Runs yX8_shuffleTold cX8_shuffleTold 3 (some .int) (k + 6) [.ref 0, .int s, .int w] h (fun oo h' => ∃ r : Int32, oo = some (.int r) ∧ r = sShTold q s w ∧ IsM (q) h') := by
  obtain ⟨⟨n, P, S, sd⟩, ⟨σ, μ, K, Hh⟩, ⟨ts, zz, it⟩, ⟨ra, tr⟩⟩ := q
  obtain ⟨⟨hn1, hn, hP, hS⟩, hσ, hK, hz, hra⟩ := hI
  obtain ⟨xod, xkn, xhs, xmm, xln, xot, xfa, xgr, xtsr, xtsz, xce, xmv, xtc, xwy, xnx, xch, xaf, xfo, xco, rfl, d1, d2, d3, d4, d5⟩ := hD
  refine Runs.of (by decide) (Nat.le_of_ble_eq_true rfl) [some (.ref 0), some (.int s), some (.int w)] 0 rfl (fun Γ g z => ?_)
  cases hs : ix s S with
  | none =>
    have e : sShTold ((n, P, S, sd), (σ, μ, K, Hh), (ts, zz, it), (ra, tr)) s w = -2 := by simp only [sShTold, hs]
    have hsn := ix_none (by omega) hs
    refine pb_aload_n0 g dX8_shuffleTold_0 ?_
    refine pb_iload_n1 g dX8_shuffleTold_1 ?_
    refine pb_Vi1 g qX8_123 dX8_shuffleTold_2 (k + 5) (by omega) mr_o (m_isShuffleF (k + 5) (by assumption) hS) (fun r2 h2 e2 => ?_)
    obtain ⟨rfl, rfl⟩ := e2
    first | refine pb_if_neN g 11 dX8_shuffleTold_5 (by decide) (by omega) (fun c5 => ?_) (fun c5 => ?_) | refine pb_if_ne g 11 dX8_shuffleTold_5 (by decide) (fun c5 => ?_) (fun c5 => ?_)
    · exact absurd c5 (by decide)
    · refine pb_bipush (v := -2) g dX8_shuffleTold_8 (by decide) ?_
      refine pb_iret g z dX8_shuffleTold_10 ?_
      exact ⟨_, rfl, by rw [e], ⟨_, _, _, _, _, _, _, _, _, _, _, _, _, _, _, _, _, _, _, rfl, d1, d2, d3, d4, d5⟩⟩
  | some s0 =>
    obtain ⟨hs0, rfl⟩ := ix_some (by omega) hs
    have hbody : PB Γ 11 [some (.ref 0), some (.int (nI s0)), some (.int w)] [] (mkH 20 (mdF (nI n) (nI P) (nI S) (sd) xod xkn xhs xmm xln xot xwy xnx xch xaf xfa xgr xfo xco xtsr xtsz xce xmv xtc (nI ra))) := by
      refine pb_iload_n2 g dX8_shuffleTold_11 ?_
      refine pb_tab g dX8_shuffleTold_12 4 rfl (by decide) (fun j => [44, 51, 58, 76].getD j 0) 94 (by decide) rfl (fun j hj hw => ?_) (fun hw => ?_)
      · subst hw
        match j, hj with
        | 0, _ =>
          have e : sShTold ((n, P, S, sd), (σ, μ, K, Hh), (ts, zz, it), (ra, tr)) (nI s0) (nI 0) = nI (K s0) := by simp only [sShTold, hs]; rfl
          show PB Γ 44 _ _ _
          refine pb_aload_n0 g dX8_shuffleTold_44 ?_
          refine pb_getf g fX8_17 dX8_shuffleTold_45 mr_o rfl ?_
          refine pb_iload_n1 g dX8_shuffleTold_48 ?_
          first | refine pb_ialdN g dX8_shuffleTold_49 (by first | exact mr_kind | exact mr_order | exact mr_heaps | exact mr_m | exact mr_line | exact mr_other | exact mr_ways | exact mr_next | exact mr_chances | exact mr_after | exact mr_far | exact mr_groups | exact mr_found | exact mr_counts | exact mr_traySort | exact mr_traySize | exact mr_cells | exact mr_moved | exact mr_traced | assumption) (by omega) (by omega) ?_ | refine pb_ald0 g dX8_shuffleTold_49 (by omega) ?_ | refine pb_ald1 g dX8_shuffleTold_49 (by omega) ?_ | refine pb_ald2 g dX8_shuffleTold_49 (by omega) ?_ | refine pb_ald3 g dX8_shuffleTold_49 (by omega) ?_ | refine pb_iald g dX8_shuffleTold_49 (by first | exact mr_kind | exact mr_order | exact mr_heaps | exact mr_m | exact mr_line | exact mr_other | exact mr_ways | exact mr_next | exact mr_chances | exact mr_after | exact mr_far | exact mr_groups | exact mr_found | exact mr_counts | exact mr_traySort | exact mr_traySize | exact mr_cells | exact mr_moved | exact mr_traced | assumption) (by assumption) ?_
          rw [(d2 s0 hs0).1]
          refine pb_iret g z dX8_shuffleTold_50 ?_
          exact ⟨_, rfl, by rw [e], ⟨_, _, _, _, _, _, _, _, _, _, _, _, _, _, _, _, _, _, _, rfl, d1, d2, d3, d4, d5⟩⟩
        | 1, _ =>
          have e : sShTold ((n, P, S, sd), (σ, μ, K, Hh), (ts, zz, it), (ra, tr)) (nI s0) (nI 1) = nI (Hh s0) := by simp only [sShTold, hs]; rfl
          show PB Γ 51 _ _ _
          refine pb_aload_n0 g dX8_shuffleTold_51 ?_
          refine pb_getf g fX8_20 dX8_shuffleTold_52 mr_o rfl ?_
          refine pb_iload_n1 g dX8_shuffleTold_55 ?_
          first | refine pb_ialdN g dX8_shuffleTold_56 (by first | exact mr_heaps | exact mr_order | exact mr_kind | exact mr_m | exact mr_line | exact mr_other | exact mr_ways | exact mr_next | exact mr_chances | exact mr_after | exact mr_far | exact mr_groups | exact mr_found | exact mr_counts | exact mr_traySort | exact mr_traySize | exact mr_cells | exact mr_moved | exact mr_traced | assumption) (by omega) (by omega) ?_ | refine pb_ald0 g dX8_shuffleTold_56 (by omega) ?_ | refine pb_ald1 g dX8_shuffleTold_56 (by omega) ?_ | refine pb_ald2 g dX8_shuffleTold_56 (by omega) ?_ | refine pb_ald3 g dX8_shuffleTold_56 (by omega) ?_ | refine pb_iald g dX8_shuffleTold_56 (by first | exact mr_heaps | exact mr_order | exact mr_kind | exact mr_m | exact mr_line | exact mr_other | exact mr_ways | exact mr_next | exact mr_chances | exact mr_after | exact mr_far | exact mr_groups | exact mr_found | exact mr_counts | exact mr_traySort | exact mr_traySize | exact mr_cells | exact mr_moved | exact mr_traced | assumption) (by assumption) ?_
          rw [(d2 s0 hs0).2.1]
          refine pb_iret g z dX8_shuffleTold_57 ?_
          exact ⟨_, rfl, by rw [e], ⟨_, _, _, _, _, _, _, _, _, _, _, _, _, _, _, _, _, _, _, rfl, d1, d2, d3, d4, d5⟩⟩
        | 2, _ =>
          show PB Γ 58 _ _ _
          by_cases h3 : K s0 < 3
          · have e : sShTold ((n, P, S, sd), (σ, μ, K, Hh), (ts, zz, it), (ra, tr)) (nI s0) (nI 2) = nI (hmL (μ s0) n n) := by simp only [sShTold, hs]; exact if_pos h3
            have hpm := (hK s0 hs0).2.2.2.2 h3
            refine pb_aload_n0 g dX8_shuffleTold_58 ?_
            refine pb_iload_n1 g dX8_shuffleTold_59 ?_
            refine pb_Vi1 g qX8_126 dX8_shuffleTold_60 (k + 5) (by omega) mr_o (m_hasMove (k + 5) (s := s0) (K := K s0) (by omega) (d2 s0 (by assumption)).1 (hK s0 (by assumption)).1) (fun r60 h60 e60 => ?_)
            obtain ⟨rfl, rfl⟩ := e60
            rw [if_pos (by assumption)]
            first | refine pb_if_eqN g 74 dX8_shuffleTold_63 (by decide) (by omega) (fun c63 => ?_) (fun c63 => ?_) | refine pb_if_eq g 74 dX8_shuffleTold_63 (by decide) (fun c63 => ?_) (fun c63 => ?_)
            · exact absurd c63 (by decide)
            · refine pb_aload_n0 g dX8_shuffleTold_66 ?_
              refine pb_iload_n1 g dX8_shuffleTold_67 ?_
              refine pb_Vi1 g qX8_132 dX8_shuffleTold_68 (k + 5) (by omega) mr_o (m_rounds (k + 5) (n := n) (s := s0) hn (by omega) (μ s0) ((d2 s0 hs0).2.2 h3) hpm) (fun r68 h68 e68 => ?_)
              obtain ⟨rfl, rfl⟩ := e68
              refine pb_goto g 75 dX8_shuffleTold_71 (by decide) ?_
              refine pb_iret g z dX8_shuffleTold_75 ?_
              exact ⟨_, rfl, by rw [e], ⟨_, _, _, _, _, _, _, _, _, _, _, _, _, _, _, _, _, _, _, rfl, d1, d2, d3, d4, d5⟩⟩
          · have e : sShTold ((n, P, S, sd), (σ, μ, K, Hh), (ts, zz, it), (ra, tr)) (nI s0) (nI 2) = -1 := by simp only [sShTold, hs]; exact if_neg h3
            refine pb_aload_n0 g dX8_shuffleTold_58 ?_
            refine pb_iload_n1 g dX8_shuffleTold_59 ?_
            refine pb_Vi1 g qX8_126 dX8_shuffleTold_60 (k + 5) (by omega) mr_o (m_hasMove (k + 5) (s := s0) (K := K s0) (by omega) (d2 s0 (by assumption)).1 (hK s0 (by assumption)).1) (fun r60 h60 e60 => ?_)
            obtain ⟨rfl, rfl⟩ := e60
            rw [if_neg (by assumption)]
            first | refine pb_if_eqN g 74 dX8_shuffleTold_63 (by decide) (by omega) (fun c63 => ?_) (fun c63 => ?_) | refine pb_if_eq g 74 dX8_shuffleTold_63 (by decide) (fun c63 => ?_) (fun c63 => ?_)
            · refine pb_iconst (v := -1) g dX8_shuffleTold_74 (by decide) ?_
              refine pb_iret g z dX8_shuffleTold_75 ?_
              exact ⟨_, rfl, by rw [e], ⟨_, _, _, _, _, _, _, _, _, _, _, _, _, _, _, _, _, _, _, rfl, d1, d2, d3, d4, d5⟩⟩
            · exact absurd c63 (by decide)
        | 3, _ =>
          show PB Γ 76 _ _ _
          by_cases h3 : K s0 < 3
          · have e : sShTold ((n, P, S, sd), (σ, μ, K, Hh), (ts, zz, it), (ra, tr)) (nI s0) (nI 3) = nI (lpL (μ s0) n n) := by simp only [sShTold, hs]; exact if_pos h3
            have hpm := (hK s0 hs0).2.2.2.2 h3
            refine pb_aload_n0 g dX8_shuffleTold_76 ?_
            refine pb_iload_n1 g dX8_shuffleTold_77 ?_
            refine pb_Vi1 g qX8_126 dX8_shuffleTold_78 (k + 5) (by omega) mr_o (m_hasMove (k + 5) (s := s0) (K := K s0) (by omega) (d2 s0 (by assumption)).1 (hK s0 (by assumption)).1) (fun r78 h78 e78 => ?_)
            obtain ⟨rfl, rfl⟩ := e78
            rw [if_pos (by assumption)]
            first | refine pb_if_eqN g 92 dX8_shuffleTold_81 (by decide) (by omega) (fun c81 => ?_) (fun c81 => ?_) | refine pb_if_eq g 92 dX8_shuffleTold_81 (by decide) (fun c81 => ?_) (fun c81 => ?_)
            · exact absurd c81 (by decide)
            · refine pb_aload_n0 g dX8_shuffleTold_84 ?_
              refine pb_iload_n1 g dX8_shuffleTold_85 ?_
              refine pb_Vi1 g qX8_135 dX8_shuffleTold_86 (k + 5) (by omega) mr_o (m_whole (k + 4) (n := n) (s := s0) hn (by omega) (μ s0) ((d2 s0 hs0).2.2 h3) hpm hn1) (fun r86 h86 e86 => ?_)
              obtain ⟨rfl, rfl⟩ := e86
              refine pb_goto g 93 dX8_shuffleTold_89 (by decide) ?_
              refine pb_iret g z dX8_shuffleTold_93 ?_
              exact ⟨_, rfl, by rw [e], ⟨_, _, _, _, _, _, _, _, _, _, _, _, _, _, _, _, _, _, _, rfl, d1, d2, d3, d4, d5⟩⟩
          · have e : sShTold ((n, P, S, sd), (σ, μ, K, Hh), (ts, zz, it), (ra, tr)) (nI s0) (nI 3) = -1 := by simp only [sShTold, hs]; exact if_neg h3
            refine pb_aload_n0 g dX8_shuffleTold_76 ?_
            refine pb_iload_n1 g dX8_shuffleTold_77 ?_
            refine pb_Vi1 g qX8_126 dX8_shuffleTold_78 (k + 5) (by omega) mr_o (m_hasMove (k + 5) (s := s0) (K := K s0) (by omega) (d2 s0 (by assumption)).1 (hK s0 (by assumption)).1) (fun r78 h78 e78 => ?_)
            obtain ⟨rfl, rfl⟩ := e78
            rw [if_neg (by assumption)]
            first | refine pb_if_eqN g 92 dX8_shuffleTold_81 (by decide) (by omega) (fun c81 => ?_) (fun c81 => ?_) | refine pb_if_eq g 92 dX8_shuffleTold_81 (by decide) (fun c81 => ?_) (fun c81 => ?_)
            · refine pb_iconst (v := -1) g dX8_shuffleTold_92 (by decide) ?_
              refine pb_iret g z dX8_shuffleTold_93 ?_
              exact ⟨_, rfl, by rw [e], ⟨_, _, _, _, _, _, _, _, _, _, _, _, _, _, _, _, _, _, _, rfl, d1, d2, d3, d4, d5⟩⟩
            · exact absurd c81 (by decide)
      · have e : sShTold ((n, P, S, sd), (σ, μ, K, Hh), (ts, zz, it), (ra, tr)) (nI s0) w = -2 := by
          simp only [sShTold, hs]
          rw [if_neg (hw 0 (by decide)), if_neg (hw 1 (by decide)), if_neg (hw 2 (by decide)), if_neg (hw 3 (by decide))]
        refine pb_bipush (v := -2) g dX8_shuffleTold_94 (by decide) ?_
        refine pb_iret g z dX8_shuffleTold_96 ?_
        exact ⟨_, rfl, by rw [e], ⟨_, _, _, _, _, _, _, _, _, _, _, _, _, _, _, _, _, _, _, rfl, d1, d2, d3, d4, d5⟩⟩
    refine pb_aload_n0 g dX8_shuffleTold_0 ?_
    refine pb_iload_n1 g dX8_shuffleTold_1 ?_
    refine pb_Vi1 g qX8_123 dX8_shuffleTold_2 (k + 5) (by omega) mr_o (m_isShuffleT (k + 5) (by assumption) hS) (fun r2 h2 e2 => ?_)
    obtain ⟨rfl, rfl⟩ := e2
    first | refine pb_if_neN g 11 dX8_shuffleTold_5 (by decide) (by omega) (fun c5 => ?_) (fun c5 => ?_) | refine pb_if_ne g 11 dX8_shuffleTold_5 (by decide) (fun c5 => ?_) (fun c5 => ?_)
    · exact hbody
    · exact absurd c5 (by decide)
set_option maxHeartbeats 4000000 in
set_option maxRecDepth 100000 in
theorem m_powerC (k : Nat) (q : SP) (s : Int32) (ee : Int64) (i : Int32) (h : PH) (hD : IsM q h) (hI : SI q) : Runs yX8_power_ cX8_power_ 8 (some .int) (k + 6) [.ref 0, .int s, .long ee, .int i] h (fun oo h' => ∃ r : Int32, oo = some (.int r) ∧ r = sPower q s ee i ∧ IsM (q) h') := by
  obtain ⟨⟨n, P, S, sd⟩, ⟨σ, μ, K, Hh⟩, ⟨ts, zz, it⟩, ⟨ra, tr⟩⟩ := q
  obtain ⟨⟨hn1, hn, hP, hS⟩, hσ, hK, hz, hra⟩ := hI
  obtain ⟨xod, xkn, xhs, xmm, xln, xot, xfa, xgr, xtsr, xtsz, xce, xmv, xtc, xwy, xnx, xch, xaf, xfo, xco, rfl, d1, d2, d3, d4, d5⟩ := hD
  refine Runs.of (by decide) (Nat.le_of_ble_eq_true rfl) [some (.ref 0), some (.int s), some (.long ee), none, some (.int i), none, none, none] 3 rfl (fun Γ g z => ?_)
  cases hs : ix s S with
  | none =>
    have e : sPower ((n, P, S, sd), (σ, μ, K, Hh), (ts, zz, it), (ra, tr)) s ee i = -2 := by simp only [sPower, hs]
    have hsn := ix_none (by omega) hs
    refine pb_aload_n0 g dX8_power__0 ?_
    refine pb_iload_n1 g dX8_power__1 ?_
    refine pb_Vi1 g qX8_123 dX8_power__2 (k + 5) (by omega) mr_o (m_isShuffleF (k + 5) (by assumption) hS) (fun r2 h2 e2 => ?_)
    obtain ⟨rfl, rfl⟩ := e2
    first | refine pb_if_eqN g 23 dX8_power__5 (by decide) (by omega) (fun c5 => ?_) (fun c5 => ?_) | refine pb_if_eq g 23 dX8_power__5 (by decide) (fun c5 => ?_) (fun c5 => ?_)
    · refine pb_bipush (v := -2) g dX8_power__23 (by decide) ?_
      refine pb_iret g z dX8_power__25 ?_
      exact ⟨_, rfl, by rw [e], ⟨_, _, _, _, _, _, _, _, _, _, _, _, _, _, _, _, _, _, _, rfl, d1, d2, d3, d4, d5⟩⟩
    · exact absurd c5 (by decide)
  | some s0 =>
    obtain ⟨hs0, rfl⟩ := ix_some (by omega) hs
    cases hi : ix i n with
    | none =>
      have e : sPower ((n, P, S, sd), (σ, μ, K, Hh), (ts, zz, it), (ra, tr)) (nI s0) ee i = -2 := by simp only [sPower, hs, hi]
      have hin := ix_none (by omega) hi
      refine pb_aload_n0 g dX8_power__0 ?_
      refine pb_iload_n1 g dX8_power__1 ?_
      refine pb_Vi1 g qX8_123 dX8_power__2 (k + 5) (by omega) mr_o (m_isShuffleT (k + 5) (by assumption) hS) (fun r2 h2 e2 => ?_)
      obtain ⟨rfl, rfl⟩ := e2
      first | refine pb_if_eqN g 23 dX8_power__5 (by decide) (by omega) (fun c5 => ?_) (fun c5 => ?_) | refine pb_if_eq g 23 dX8_power__5 (by decide) (fun c5 => ?_) (fun c5 => ?_)
      · exact absurd c5 (by decide)
      · refine pb_lload_n2 g dX8_power__8 ?_
        refine pb_lconst (v := lN 0) g dX8_power__9 rfl ?_
        first | refine pb_lc_ltN g 23 dX8_power__10 dX8_power__11 (by decide) (by omega) (by omega) (fun c10 => ?_) (fun c10 => ?_) | refine pb_lc_lt g 23 dX8_power__10 dX8_power__11 (by decide) (fun c10 => ?_) (fun c10 => ?_)
        · refine pb_bipush (v := -2) g dX8_power__23 (by decide) ?_
          refine pb_iret g z dX8_power__25 ?_
          exact ⟨_, rfl, by rw [e], ⟨_, _, _, _, _, _, _, _, _, _, _, _, _, _, _, _, _, _, _, rfl, d1, d2, d3, d4, d5⟩⟩
        · refine pb_aload_n0 g dX8_power__14 ?_
          refine pb_iload4 g dX8_power__15 ?_
          refine pb_Vi1 g qX8_98 dX8_power__17 (k + 5) (by omega) mr_o (m_isPlaceF (k + 5) (by assumption) hn) (fun r17 h17 e17 => ?_)
          obtain ⟨rfl, rfl⟩ := e17
          first | refine pb_if_neN g 26 dX8_power__20 (by decide) (by omega) (fun c20 => ?_) (fun c20 => ?_) | refine pb_if_ne g 26 dX8_power__20 (by decide) (fun c20 => ?_) (fun c20 => ?_)
          · exact absurd c20 (by decide)
          · refine pb_bipush (v := -2) g dX8_power__23 (by decide) ?_
            refine pb_iret g z dX8_power__25 ?_
            exact ⟨_, rfl, by rw [e], ⟨_, _, _, _, _, _, _, _, _, _, _, _, _, _, _, _, _, _, _, rfl, d1, d2, d3, d4, d5⟩⟩
    | some i0 =>
      obtain ⟨hi0, rfl⟩ := ix_some (by omega) hi
      by_cases he0 : ee < 0
      · have e : sPower ((n, P, S, sd), (σ, μ, K, Hh), (ts, zz, it), (ra, tr)) (nI s0) ee (nI i0) = -2 := by simp only [sPower, hs, hi]; exact if_pos he0
        refine pb_aload_n0 g dX8_power__0 ?_
        refine pb_iload_n1 g dX8_power__1 ?_
        refine pb_Vi1 g qX8_123 dX8_power__2 (k + 5) (by omega) mr_o (m_isShuffleT (k + 5) (by assumption) hS) (fun r2 h2 e2 => ?_)
        obtain ⟨rfl, rfl⟩ := e2
        first | refine pb_if_eqN g 23 dX8_power__5 (by decide) (by omega) (fun c5 => ?_) (fun c5 => ?_) | refine pb_if_eq g 23 dX8_power__5 (by decide) (fun c5 => ?_) (fun c5 => ?_)
        · exact absurd c5 (by decide)
        · refine pb_lload_n2 g dX8_power__8 ?_
          refine pb_lconst (v := lN 0) g dX8_power__9 rfl ?_
          first | refine pb_lc_ltN g 23 dX8_power__10 dX8_power__11 (by decide) (by omega) (by omega) (fun c10 => ?_) (fun c10 => ?_) | refine pb_lc_lt g 23 dX8_power__10 dX8_power__11 (by decide) (fun c10 => ?_) (fun c10 => ?_)
          · refine pb_bipush (v := -2) g dX8_power__23 (by decide) ?_
            refine pb_iret g z dX8_power__25 ?_
            exact ⟨_, rfl, by rw [e], ⟨_, _, _, _, _, _, _, _, _, _, _, _, _, _, _, _, _, _, _, rfl, d1, d2, d3, d4, d5⟩⟩
          · exact absurd he0 c10
      · by_cases h3 : K s0 < 3
        · obtain ⟨E, hE, rfl⟩ := pk_lOf he0
          have hpm := (hK s0 hs0).2.2.2.2 h3
          have hf := (d2 s0 hs0).2.2 h3
          have e : sPower ((n, P, S, sd), (σ, μ, K, Hh), (ts, zz, it), (ra, tr)) (nI s0) (lN E) (nI i0) = nI (itF (μ s0) (E % lenF (μ s0) n i0) i0) := by
            simp only [sPower, hs, hi]
            rw [if_neg he0, if_pos h3, lN_clamp hE]
          obtain ⟨hL3, hL4⟩ := lenF_bd (m := μ s0) (n := n) (s := i0) hn1
          have hmd := Nat.mod_lt E hL3
          have loop : ∀ b, b ≤ E % lenF (μ s0) n i0 → PB Γ 56 [some (.ref 0), some (.int (nI s0)), some (.long (lN E)), none, some (.int (nI i0)), some (.int (nI (E % lenF (μ s0) n i0))), some (.int (nI (itF (μ s0) b i0))), some (.int (nI b))] [] (mkH 20 (mdF (nI n) (nI P) (nI S) (sd) xod xkn xhs xmm xln xot xwy xnx xch xaf xfa xgr xfo xco xtsr xtsz xce xmv xtc (nI ra))) := by
            refine pb_loop _ (fun b hb ih => ?_)
            have hat := itF_lt hpm.1 hi0 b
            refine pb_iload7 g dX8_power__56 ?_
            refine pb_iload5 g dX8_power__58 ?_
            first | refine pb_icmp_geN g 83 dX8_power__60 (by decide) (by omega) (by omega) (fun c60 => ?_) (fun c60 => ?_) | refine pb_icmp_ge g 83 dX8_power__60 (by decide) (fun c60 => ?_) (fun c60 => ?_)
            · refine pb_iload6 g dX8_power__83 ?_
              refine pb_iret g z dX8_power__85 ?_
              have q : b = E % lenF (μ s0) n i0 := by omega
              exact ⟨_, rfl, by rw [e, ← q], ⟨_, _, _, _, _, _, _, _, _, _, _, _, _, _, _, _, _, _, _, rfl, d1, d2, d3, d4, d5⟩⟩
            · refine pb_aload_n0 g dX8_power__63 ?_
              refine pb_getf g fX8_23 dX8_power__64 mr_o rfl ?_
              refine pb_bipush (v := nI 10) g dX8_power__67 (by decide) ?_
              refine pb_iload_n1 g dX8_power__69 ?_
              first | refine pb_imulN g dX8_power__70 ?_ | refine pb_imul g dX8_power__70 ?_
              refine pb_iload6 g dX8_power__71 ?_
              first | refine pb_iaddN g dX8_power__73 ?_ | refine pb_iadd g dX8_power__73 ?_
              first | refine pb_ialdN g dX8_power__74 (by first | exact mr_m | exact mr_order | exact mr_kind | exact mr_heaps | exact mr_line | exact mr_other | exact mr_ways | exact mr_next | exact mr_chances | exact mr_after | exact mr_far | exact mr_groups | exact mr_found | exact mr_counts | exact mr_traySort | exact mr_traySize | exact mr_cells | exact mr_moved | exact mr_traced | assumption) (by omega) (by omega) ?_ | refine pb_ald0 g dX8_power__74 (by omega) ?_ | refine pb_ald1 g dX8_power__74 (by omega) ?_ | refine pb_ald2 g dX8_power__74 (by omega) ?_ | refine pb_ald3 g dX8_power__74 (by omega) ?_ | refine pb_iald g dX8_power__74 (by first | exact mr_m | exact mr_order | exact mr_kind | exact mr_heaps | exact mr_line | exact mr_other | exact mr_ways | exact mr_next | exact mr_chances | exact mr_after | exact mr_far | exact mr_groups | exact mr_found | exact mr_counts | exact mr_traySort | exact mr_traySize | exact mr_cells | exact mr_moved | exact mr_traced | assumption) (by assumption) ?_
              rw [hf _ hat]
              refine pb_istore6 g dX8_power__75 (by decide) ?_
              first | refine pb_iinc7N g dX8_power__77 (by decide) ?_ | refine pb_iinc7 g dX8_power__77 (by decide) rfl ?_
              refine pb_goto g 56 dX8_power__80 (by decide) ?_
              exact ih c60
          refine pb_aload_n0 g dX8_power__0 ?_
          refine pb_iload_n1 g dX8_power__1 ?_
          refine pb_Vi1 g qX8_123 dX8_power__2 (k + 5) (by omega) mr_o (m_isShuffleT (k + 5) (by assumption) hS) (fun r2 h2 e2 => ?_)
          obtain ⟨rfl, rfl⟩ := e2
          first | refine pb_if_eqN g 23 dX8_power__5 (by decide) (by omega) (fun c5 => ?_) (fun c5 => ?_) | refine pb_if_eq g 23 dX8_power__5 (by decide) (fun c5 => ?_) (fun c5 => ?_)
          · exact absurd c5 (by decide)
          · refine pb_lload_n2 g dX8_power__8 ?_
            refine pb_lconst (v := lN 0) g dX8_power__9 rfl ?_
            first | refine pb_lc_ltN g 23 dX8_power__10 dX8_power__11 (by decide) (by omega) (by omega) (fun c10 => ?_) (fun c10 => ?_) | refine pb_lc_lt g 23 dX8_power__10 dX8_power__11 (by decide) (fun c10 => ?_) (fun c10 => ?_)
            · exact absurd c10 (by omega)
            · refine pb_aload_n0 g dX8_power__14 ?_
              refine pb_iload4 g dX8_power__15 ?_
              refine pb_Vi1 g qX8_98 dX8_power__17 (k + 5) (by omega) mr_o (m_isPlaceT (k + 5) (by assumption) hn) (fun r17 h17 e17 => ?_)
              obtain ⟨rfl, rfl⟩ := e17
              first | refine pb_if_neN g 26 dX8_power__20 (by decide) (by omega) (fun c20 => ?_) (fun c20 => ?_) | refine pb_if_ne g 26 dX8_power__20 (by decide) (fun c20 => ?_) (fun c20 => ?_)
              · refine pb_aload_n0 g dX8_power__26 ?_
                refine pb_iload_n1 g dX8_power__27 ?_
                refine pb_Vi1 g qX8_126 dX8_power__28 (k + 5) (by omega) mr_o (m_hasMove (k + 5) (s := s0) (K := K s0) (by omega) (d2 s0 (by assumption)).1 (hK s0 (by assumption)).1) (fun r28 h28 e28 => ?_)
                obtain ⟨rfl, rfl⟩ := e28
                rw [if_pos (by assumption)]
                first | refine pb_if_neN g 36 dX8_power__31 (by decide) (by omega) (fun c31 => ?_) (fun c31 => ?_) | refine pb_if_ne g 36 dX8_power__31 (by decide) (fun c31 => ?_) (fun c31 => ?_)
                · refine pb_lload_n2 g dX8_power__36 ?_
                  refine pb_aload_n0 g dX8_power__37 ?_
                  refine pb_iload_n1 g dX8_power__38 ?_
                  refine pb_iload4 g dX8_power__39 ?_
                  refine pb_Vi2 g qX8_129 dX8_power__41 (k + 5) (by omega) mr_o (m_roundOf (k + 5) (n := n) (s := s0) (i := i0) hn (by omega) hi0 (μ s0) hf hpm) (fun r41 h41 e41 => ?_)
                  obtain ⟨rfl, rfl⟩ := e41
                  first | refine pb_i2lN g dX8_power__44 (by omega) ?_ | refine pb_i2l g dX8_power__44 ?_
                  first | refine pb_lremN g dX8_power__45 (by omega) (by omega) (by omega) ?_ | refine pb_lrem g dX8_power__45 (by assumption) ?_
                  first | refine pb_l2iN g dX8_power__46 ?_ | refine pb_l2i g dX8_power__46 ?_
                  refine pb_istore5 g dX8_power__47 (by decide) ?_
                  refine pb_iload4 g dX8_power__49 ?_
                  refine pb_istore6 g dX8_power__51 (by decide) ?_
                  refine pb_iconst (v := nI 0) g dX8_power__53 (by decide) ?_
                  refine pb_istore7 g dX8_power__54 (by decide) ?_
                  exact loop 0 (Nat.zero_le _)
                · exact absurd c31 (by decide)
              · exact absurd c20 (by decide)
        · have e : sPower ((n, P, S, sd), (σ, μ, K, Hh), (ts, zz, it), (ra, tr)) (nI s0) ee (nI i0) = -1 := by
            simp only [sPower, hs, hi]
            rw [if_neg he0, if_neg h3]
          refine pb_aload_n0 g dX8_power__0 ?_
          refine pb_iload_n1 g dX8_power__1 ?_
          refine pb_Vi1 g qX8_123 dX8_power__2 (k + 5) (by omega) mr_o (m_isShuffleT (k + 5) (by assumption) hS) (fun r2 h2 e2 => ?_)
          obtain ⟨rfl, rfl⟩ := e2
          first | refine pb_if_eqN g 23 dX8_power__5 (by decide) (by omega) (fun c5 => ?_) (fun c5 => ?_) | refine pb_if_eq g 23 dX8_power__5 (by decide) (fun c5 => ?_) (fun c5 => ?_)
          · exact absurd c5 (by decide)
          · refine pb_lload_n2 g dX8_power__8 ?_
            refine pb_lconst (v := lN 0) g dX8_power__9 rfl ?_
            first | refine pb_lc_ltN g 23 dX8_power__10 dX8_power__11 (by decide) (by omega) (by omega) (fun c10 => ?_) (fun c10 => ?_) | refine pb_lc_lt g 23 dX8_power__10 dX8_power__11 (by decide) (fun c10 => ?_) (fun c10 => ?_)
            · exact absurd c10 he0
            · refine pb_aload_n0 g dX8_power__14 ?_
              refine pb_iload4 g dX8_power__15 ?_
              refine pb_Vi1 g qX8_98 dX8_power__17 (k + 5) (by omega) mr_o (m_isPlaceT (k + 5) (by assumption) hn) (fun r17 h17 e17 => ?_)
              obtain ⟨rfl, rfl⟩ := e17
              first | refine pb_if_neN g 26 dX8_power__20 (by decide) (by omega) (fun c20 => ?_) (fun c20 => ?_) | refine pb_if_ne g 26 dX8_power__20 (by decide) (fun c20 => ?_) (fun c20 => ?_)
              · refine pb_aload_n0 g dX8_power__26 ?_
                refine pb_iload_n1 g dX8_power__27 ?_
                refine pb_Vi1 g qX8_126 dX8_power__28 (k + 5) (by omega) mr_o (m_hasMove (k + 5) (s := s0) (K := K s0) (by omega) (d2 s0 (by assumption)).1 (hK s0 (by assumption)).1) (fun r28 h28 e28 => ?_)
                obtain ⟨rfl, rfl⟩ := e28
                rw [if_neg (by assumption)]
                first | refine pb_if_neN g 36 dX8_power__31 (by decide) (by omega) (fun c31 => ?_) (fun c31 => ?_) | refine pb_if_ne g 36 dX8_power__31 (by decide) (fun c31 => ?_) (fun c31 => ?_)
                · exact absurd c31 (by decide)
                · refine pb_iconst (v := -1) g dX8_power__34 (by decide) ?_
                  refine pb_iret g z dX8_power__35 ?_
                  exact ⟨_, rfl, by rw [e], ⟨_, _, _, _, _, _, _, _, _, _, _, _, _, _, _, _, _, _, _, rfl, d1, d2, d3, d4, d5⟩⟩
              · exact absurd c20 (by decide)
