/-! ===== the reference: lots told and drawn ===== -/
set_option maxHeartbeats 4000000 in
set_option maxRecDepth 100000 in
theorem m_draw (k : Nat) (q : SP) (s p : Int32) (h : PH) (hD : IsM q h) (hI : SI q) : Runs yX8_draw cX8_draw 8 (some .long) (k + 6) [.ref 0, .int s, .int p] h (fun oo h' => ∃ r : Int64, oo = some (.long r) ∧ r = (sDraw q s p).1 ∧ IsM ((sDraw q s p).2) h') := by
  obtain ⟨⟨n, P, S, sd⟩, ⟨σ, μ, K, Hh⟩, ⟨ts, zz, it⟩, ⟨ra, tr⟩⟩ := q
  obtain ⟨⟨hn1, hn, hP, hS⟩, hσ, hK, hz, hra⟩ := hI
  obtain ⟨xod, xkn, xhs, xmm, xln, xot, xfa, xgr, xtsr, xtsz, xce, xmv, xtc, xwy, xnx, xch, xaf, xfo, xco, rfl, d1, d2, d3, d4, d5⟩ := hD
  refine Runs.of (by decide) (Nat.le_of_ble_eq_true rfl) [some (.ref 0), some (.int s), some (.int p), none, none, none, none, none] 5 rfl (fun Γ g z => ?_)
  cases hs : ix s S with
  | none =>
    have e : sDraw ((n, P, S, sd), (σ, μ, K, Hh), (ts, zz, it), (ra, tr)) s p = (NOL, ((n, P, S, sd), (σ, μ, K, Hh), (ts, zz, it), (ra, tr))) := by simp only [sDraw, hs]
    have hsn := ix_none (by omega) hs
    refine pb_aload_n0 g dX8_draw_0 ?_
    refine pb_iload_n1 g dX8_draw_1 ?_
    refine pb_Vi1 g qX8_123 dX8_draw_2 (k + 5) (by omega) mr_o (m_isShuffleF (k + 5) (by assumption) hS) (fun r2 h2 e2 => ?_)
    obtain ⟨rfl, rfl⟩ := e2
    first | refine pb_if_eqN g 24 dX8_draw_5 (by decide) (by omega) (fun c5 => ?_) (fun c5 => ?_) | refine pb_if_eq g 24 dX8_draw_5 (by decide) (fun c5 => ?_) (fun c5 => ?_)
    · refine pb_ldc2w (w := (-4611686018427387904)) g kX8_157 (by decide) dX8_draw_24 ?_
      refine pb_lret g z dX8_draw_27 ?_
      exact ⟨_, rfl, by rw [e]; rfl, by rw [e]; exact ⟨_, _, _, _, _, _, _, _, _, _, _, _, _, _, _, _, _, _, _, rfl, d1, d2, d3, d4, d5⟩⟩
    · exact absurd c5 (by decide)
  | some s0 =>
    obtain ⟨hs0, rfl⟩ := ix_some (by omega) hs
    cases hpx : ix p P with
    | none =>
      have e : sDraw ((n, P, S, sd), (σ, μ, K, Hh), (ts, zz, it), (ra, tr)) (nI s0) p = (NOL, ((n, P, S, sd), (σ, μ, K, Hh), (ts, zz, it), (ra, tr))) := by simp only [sDraw, hs, hpx]
      have hpn := ix_none (by omega) hpx
      refine pb_aload_n0 g dX8_draw_0 ?_
      refine pb_iload_n1 g dX8_draw_1 ?_
      refine pb_Vi1 g qX8_123 dX8_draw_2 (k + 5) (by omega) mr_o (m_isShuffleT (k + 5) (by assumption) hS) (fun r2 h2 e2 => ?_)
      obtain ⟨rfl, rfl⟩ := e2
      first | refine pb_if_eqN g 24 dX8_draw_5 (by decide) (by omega) (fun c5 => ?_) (fun c5 => ?_) | refine pb_if_eq g 24 dX8_draw_5 (by decide) (fun c5 => ?_) (fun c5 => ?_)
      · exact absurd c5 (by decide)
      · refine pb_aload_n0 g dX8_draw_8 ?_
        refine pb_iload_n2 g dX8_draw_9 ?_
        refine pb_Vi1 g qX8_101 dX8_draw_10 (k + 5) (by omega) mr_o (m_isPackF (k + 5) (by assumption) hP) (fun r10 h10 e10 => ?_)
        obtain ⟨rfl, rfl⟩ := e10
        first | refine pb_if_eqN g 24 dX8_draw_13 (by decide) (by omega) (fun c13 => ?_) (fun c13 => ?_) | refine pb_if_eq g 24 dX8_draw_13 (by decide) (fun c13 => ?_) (fun c13 => ?_)
        · refine pb_ldc2w (w := (-4611686018427387904)) g kX8_157 (by decide) dX8_draw_24 ?_
          refine pb_lret g z dX8_draw_27 ?_
          exact ⟨_, rfl, by rw [e]; rfl, by rw [e]; exact ⟨_, _, _, _, _, _, _, _, _, _, _, _, _, _, _, _, _, _, _, rfl, d1, d2, d3, d4, d5⟩⟩
        · exact absurd c13 (by decide)
    | some p0 =>
      obtain ⟨hp0, rfl⟩ := ix_some (by omega) hpx
      have hKs := hK s0 hs0
      by_cases h3 : K s0 < 3
      · have e : sDraw ((n, P, S, sd), (σ, μ, K, Hh), (ts, zz, it), (ra, tr)) (nI s0) (nI p0) = (NOL, ((n, P, S, sd), (σ, μ, K, Hh), (ts, zz, it), (ra, tr))) := by simp only [sDraw, hs, hpx]; exact if_pos h3
        refine pb_aload_n0 g dX8_draw_0 ?_
        refine pb_iload_n1 g dX8_draw_1 ?_
        refine pb_Vi1 g qX8_123 dX8_draw_2 (k + 5) (by omega) mr_o (m_isShuffleT (k + 5) (by assumption) hS) (fun r2 h2 e2 => ?_)
        obtain ⟨rfl, rfl⟩ := e2
        first | refine pb_if_eqN g 24 dX8_draw_5 (by decide) (by omega) (fun c5 => ?_) (fun c5 => ?_) | refine pb_if_eq g 24 dX8_draw_5 (by decide) (fun c5 => ?_) (fun c5 => ?_)
        · exact absurd c5 (by decide)
        · refine pb_aload_n0 g dX8_draw_8 ?_
          refine pb_iload_n2 g dX8_draw_9 ?_
          refine pb_Vi1 g qX8_101 dX8_draw_10 (k + 5) (by omega) mr_o (m_isPackT (k + 5) (by assumption) hP) (fun r10 h10 e10 => ?_)
          obtain ⟨rfl, rfl⟩ := e10
          first | refine pb_if_eqN g 24 dX8_draw_13 (by decide) (by omega) (fun c13 => ?_) (fun c13 => ?_) | refine pb_if_eq g 24 dX8_draw_13 (by decide) (fun c13 => ?_) (fun c13 => ?_)
          · exact absurd c13 (by decide)
          · refine pb_aload_n0 g dX8_draw_16 ?_
            refine pb_iload_n1 g dX8_draw_17 ?_
            refine pb_Vi1 g qX8_126 dX8_draw_18 (k + 5) (by omega) mr_o (m_hasMove (k + 5) (s := s0) (K := K s0) (by omega) (d2 s0 (by assumption)).1 (hK s0 (by assumption)).1) (fun r18 h18 e18 => ?_)
            obtain ⟨rfl, rfl⟩ := e18
            rw [if_pos (by assumption)]
            first | refine pb_if_eqN g 28 dX8_draw_21 (by decide) (by omega) (fun c21 => ?_) (fun c21 => ?_) | refine pb_if_eq g 28 dX8_draw_21 (by decide) (fun c21 => ?_) (fun c21 => ?_)
            · exact absurd c21 (by decide)
            · refine pb_ldc2w (w := (-4611686018427387904)) g kX8_157 (by decide) dX8_draw_24 ?_
              refine pb_lret g z dX8_draw_27 ?_
              exact ⟨_, rfl, by rw [e]; rfl, by rw [e]; exact ⟨_, _, _, _, _, _, _, _, _, _, _, _, _, _, _, _, _, _, _, rfl, d1, d2, d3, d4, d5⟩⟩
      · have hdl : ∀ i, dwV (Hh s0) sd i < Hh s0 := fun i => dwL_lt (by omega) _ _
        have hlt := lot_lt (K := K s0) hKs.2.2.1 hn
        have e : sDraw ((n, P, S, sd), (σ, μ, K, Hh), (ts, zz, it), (ra, tr)) (nI s0) (nI p0) = (lN (asN (Hh s0) (dwV (Hh s0) sd) (lotN (K s0) n)), ((n, P, S, dwS (Hh s0) sd (lotN (K s0) n)), (va_up σ p0 (layO n (K s0) (dwV (Hh s0) sd) (σ p0)), μ, K, Hh), (ts, zz, it), (ra, tr))) := by
          simp only [sDraw, hs, hpx]
          exact if_neg h3
        have hal := as_lt hdl (lotN (K s0) n)
        have hlo := layO_congr (n := n) (K := K s0) (o := σ p0) (by omega) (fun i hi => as_dig hdl (lotN (K s0) n) i hi)
        by_cases hk4 : K s0 = 4
        · have hHn := hKs.2.2.2.1 hk4
          have hdn : dwL n dwMx sd = dwL (Hh s0) dwMx sd := by rw [hHn]
          have e1 : lotN (K s0) n = 1 := by rw [lotN, if_pos hk4]
          have e2 : asN (Hh s0) (dwV (Hh s0) sd) 1 = (dwL (Hh s0) dwMx sd).2 := by
            show 0 + dwV (Hh s0) sd 0 * Hh s0 ^ 0 = _
            rw [Nat.pow_zero, Nat.mul_one, Nat.zero_add]
            rfl
          have hv0 : (dwL (Hh s0) dwMx sd).2 < Hh s0 := hdl 0
          rw [e1] at e hlo
          rw [e2] at e hlo
          refine pb_aload_n0 g dX8_draw_0 ?_
          refine pb_iload_n1 g dX8_draw_1 ?_
          refine pb_Vi1 g qX8_123 dX8_draw_2 (k + 5) (by omega) mr_o (m_isShuffleT (k + 5) (by assumption) hS) (fun r2 h2 e2 => ?_)
          obtain ⟨rfl, rfl⟩ := e2
          first | refine pb_if_eqN g 24 dX8_draw_5 (by decide) (by omega) (fun c5 => ?_) (fun c5 => ?_) | refine pb_if_eq g 24 dX8_draw_5 (by decide) (fun c5 => ?_) (fun c5 => ?_)
          · exact absurd c5 (by decide)
          · refine pb_aload_n0 g dX8_draw_8 ?_
            refine pb_iload_n2 g dX8_draw_9 ?_
            refine pb_Vi1 g qX8_101 dX8_draw_10 (k + 5) (by omega) mr_o (m_isPackT (k + 5) (by assumption) hP) (fun r10 h10 e10 => ?_)
            obtain ⟨rfl, rfl⟩ := e10
            first | refine pb_if_eqN g 24 dX8_draw_13 (by decide) (by omega) (fun c13 => ?_) (fun c13 => ?_) | refine pb_if_eq g 24 dX8_draw_13 (by decide) (fun c13 => ?_) (fun c13 => ?_)
            · exact absurd c13 (by decide)
            · refine pb_aload_n0 g dX8_draw_16 ?_
              refine pb_iload_n1 g dX8_draw_17 ?_
              refine pb_Vi1 g qX8_126 dX8_draw_18 (k + 5) (by omega) mr_o (m_hasMove (k + 5) (s := s0) (K := K s0) (by omega) (d2 s0 (by assumption)).1 (hK s0 (by assumption)).1) (fun r18 h18 e18 => ?_)
              obtain ⟨rfl, rfl⟩ := e18
              rw [if_neg (by assumption)]
              first | refine pb_if_eqN g 28 dX8_draw_21 (by decide) (by omega) (fun c21 => ?_) (fun c21 => ?_) | refine pb_if_eq g 28 dX8_draw_21 (by decide) (fun c21 => ?_) (fun c21 => ?_)
              · refine pb_lconst (v := lN 0) g dX8_draw_28 rfl ?_
                refine pb_lstore_n3 g dX8_draw_29 (by decide) ?_
                refine pb_aload_n0 g dX8_draw_30 ?_
                refine pb_getf g fX8_17 dX8_draw_31 mr_o rfl ?_
                refine pb_iload_n1 g dX8_draw_34 ?_
                first | refine pb_ialdN g dX8_draw_35 (by first | exact mr_kind | exact mr_order | exact mr_heaps | exact mr_m | exact mr_line | exact mr_other | exact mr_ways | exact mr_next | exact mr_chances | exact mr_after | exact mr_far | exact mr_groups | exact mr_found | exact mr_counts | exact mr_traySort | exact mr_traySize | exact mr_cells | exact mr_moved | exact mr_traced | assumption) (by omega) (by omega) ?_ | refine pb_ald0 g dX8_draw_35 (by omega) ?_ | refine pb_ald1 g dX8_draw_35 (by omega) ?_ | refine pb_ald2 g dX8_draw_35 (by omega) ?_ | refine pb_ald3 g dX8_draw_35 (by omega) ?_ | refine pb_iald g dX8_draw_35 (by first | exact mr_kind | exact mr_order | exact mr_heaps | exact mr_m | exact mr_line | exact mr_other | exact mr_ways | exact mr_next | exact mr_chances | exact mr_after | exact mr_far | exact mr_groups | exact mr_found | exact mr_counts | exact mr_traySort | exact mr_traySize | exact mr_cells | exact mr_moved | exact mr_traced | assumption) (by assumption) ?_
                rw [(d2 s0 hs0).1]
                refine pb_iconst (v := nI 4) g dX8_draw_36 (by decide) ?_
                first | refine pb_icmp_neN g 53 dX8_draw_37 (by decide) (by omega) (by omega) (fun c37 => ?_) (fun c37 => ?_) | refine pb_icmp_ne g 53 dX8_draw_37 (by decide) (fun c37 => ?_) (fun c37 => ?_)
                · exact absurd hk4 c37
                · refine pb_aload_n0 g dX8_draw_40 ?_
                  refine pb_aload_n0 g dX8_draw_41 ?_
                  refine pb_getf g fX8_7 dX8_draw_42 mr_o rfl ?_
                  refine pb_Vi1 g qX8_159 dX8_draw_45 (k + 5) (by omega) mr_o (m_drawn (k + 5) (b := n) hn hn1) (fun r45 h45 e45 => ?_)
                  obtain ⟨rfl, rfl⟩ := e45
                  rw [hdn]
                  first | refine pb_i2lN g dX8_draw_48 (by omega) ?_ | refine pb_i2l g dX8_draw_48 ?_
                  refine pb_lstore_n3 g dX8_draw_49 (by decide) ?_
                  refine pb_goto g 103 dX8_draw_50 (by decide) ?_
                  refine pb_aload_n0 g dX8_draw_103 ?_
                  refine pb_iload_n1 g dX8_draw_104 ?_
                  refine pb_iload_n2 g dX8_draw_105 ?_
                  refine pb_lload_n3 g dX8_draw_106 ?_
                  refine pb_Vv3 g qX8_149 dX8_draw_107 (k + 5) (by omega) mr_o (m_lays (k + 4) (n := n) (p := p0) (s := s0) (K := K s0) (a := Hh s0) (L := (dwL (Hh s0) dwMx sd).2) hn hn1 (by omega) (by omega) (d2 s0 hs0).1 hKs.1 (d2 s0 hs0).2.1 hKs.2.1 hKs.2.2.1 (by omega) (fun q => ⟨by omega, hKs.2.2.2.1 q⟩) (σ p0) (d1 p0 hp0)) (fun h107 e107 => ?_)
                  obtain ⟨f9, l9, rfl, hf9⟩ := e107
                  refine pb_lload_n3 g dX8_draw_110 ?_
                  refine pb_lret g z dX8_draw_111 ?_
                  exact ⟨_, rfl, by rw [e], by rw [e]; exact ⟨_, _, _, _, _, _, _, _, _, _, _, _, _, _, _, _, _, _, _, rfl, m1_up hn d1 (fun j hj => (hf9 j hj).trans (by rw [hlo j hj])) (fun p h1 _ => h1), d2, d3, d4, d5⟩⟩
              · exact absurd c21 (by decide)
        · have e1 : lotN (K s0) n = n := by rw [lotN, if_neg hk4]
          rw [e1] at e hlo hal hlt
          have hpi : ∀ i, i ≤ n → Hh s0 ^ i ≤ 10 ^ 10 := fun i hi => Nat.le_trans (Nat.pow_le_pow_left hKs.2.2.1 i) (Nat.pow_le_pow_right (by decide) (by omega))
          have loop : ∀ i, i ≤ n → PB Γ 59 [some (.ref 0), some (.int (nI s0)), some (.int (nI p0)), some (.long (lN (asN (Hh s0) (dwV (Hh s0) sd) i))), none, some (.long (lN (Hh s0 ^ i))), none, some (.int (nI i))] [] (mkH 20 (mdF (nI n) (nI P) (nI S) (dwS (Hh s0) sd i) xod xkn xhs xmm xln xot xwy xnx xch xaf xfa xgr xfo xco xtsr xtsz xce xmv xtc (nI ra))) := by
            refine pb_loop n (fun i hi ih => ?_)
            by_cases hin : i < n
            · have ih := ih hin
              have hdi := hdl i
              have hpp := hpi i hi
              rw [asN, Nat.pow_succ] at ih
              refine pb_iload7 g dX8_draw_59 ?_
              refine pb_aload_n0 g dX8_draw_61 ?_
              refine pb_getf g fX8_7 dX8_draw_62 mr_o rfl ?_
              first | refine pb_icmp_geN g 103 dX8_draw_65 (by decide) (by omega) (by omega) (fun c65 => ?_) (fun c65 => ?_) | refine pb_icmp_ge g 103 dX8_draw_65 (by decide) (fun c65 => ?_) (fun c65 => ?_)
              · exact absurd c65 (by omega)
              · refine pb_lload_n3 g dX8_draw_68 ?_
                refine pb_aload_n0 g dX8_draw_69 ?_
                refine pb_aload_n0 g dX8_draw_70 ?_
                refine pb_getf g fX8_20 dX8_draw_71 mr_o rfl ?_
                refine pb_iload_n1 g dX8_draw_74 ?_
                first | refine pb_ialdN g dX8_draw_75 (by first | exact mr_heaps | exact mr_order | exact mr_kind | exact mr_m | exact mr_line | exact mr_other | exact mr_ways | exact mr_next | exact mr_chances | exact mr_after | exact mr_far | exact mr_groups | exact mr_found | exact mr_counts | exact mr_traySort | exact mr_traySize | exact mr_cells | exact mr_moved | exact mr_traced | assumption) (by omega) (by omega) ?_ | refine pb_ald0 g dX8_draw_75 (by omega) ?_ | refine pb_ald1 g dX8_draw_75 (by omega) ?_ | refine pb_ald2 g dX8_draw_75 (by omega) ?_ | refine pb_ald3 g dX8_draw_75 (by omega) ?_ | refine pb_iald g dX8_draw_75 (by first | exact mr_heaps | exact mr_order | exact mr_kind | exact mr_m | exact mr_line | exact mr_other | exact mr_ways | exact mr_next | exact mr_chances | exact mr_after | exact mr_far | exact mr_groups | exact mr_found | exact mr_counts | exact mr_traySort | exact mr_traySize | exact mr_cells | exact mr_moved | exact mr_traced | assumption) (by assumption) ?_
                rw [(d2 s0 hs0).2.1]
                refine pb_Vi1 g qX8_159 dX8_draw_76 (k + 5) (by omega) mr_o (m_drawn (k + 5) (b := Hh s0) hKs.2.2.1 hKs.2.1) (fun r76 h76 e76 => ?_)
                obtain ⟨rfl, rfl⟩ := e76
                change PB Γ _ _ (.int (nI (dwV (Hh s0) sd i)) :: _) _
                first | refine pb_i2lN g dX8_draw_79 (by omega) ?_ | refine pb_i2l g dX8_draw_79 ?_
                refine pb_lload5 g dX8_draw_80 ?_
                first | refine pb_lmulN g dX8_draw_82 ?_ | refine pb_lmul g dX8_draw_82 ?_
                first | refine pb_laddN g dX8_draw_83 ?_ | refine pb_ladd g dX8_draw_83 ?_
                refine pb_lstore_n3 g dX8_draw_84 (by decide) ?_
                refine pb_lload5 g dX8_draw_85 ?_
                refine pb_aload_n0 g dX8_draw_87 ?_
                refine pb_getf g fX8_20 dX8_draw_88 mr_o rfl ?_
                refine pb_iload_n1 g dX8_draw_91 ?_
                first | refine pb_ialdN g dX8_draw_92 (by first | exact mr_heaps | exact mr_order | exact mr_kind | exact mr_m | exact mr_line | exact mr_other | exact mr_ways | exact mr_next | exact mr_chances | exact mr_after | exact mr_far | exact mr_groups | exact mr_found | exact mr_counts | exact mr_traySort | exact mr_traySize | exact mr_cells | exact mr_moved | exact mr_traced | assumption) (by omega) (by omega) ?_ | refine pb_ald0 g dX8_draw_92 (by omega) ?_ | refine pb_ald1 g dX8_draw_92 (by omega) ?_ | refine pb_ald2 g dX8_draw_92 (by omega) ?_ | refine pb_ald3 g dX8_draw_92 (by omega) ?_ | refine pb_iald g dX8_draw_92 (by first | exact mr_heaps | exact mr_order | exact mr_kind | exact mr_m | exact mr_line | exact mr_other | exact mr_ways | exact mr_next | exact mr_chances | exact mr_after | exact mr_far | exact mr_groups | exact mr_found | exact mr_counts | exact mr_traySort | exact mr_traySize | exact mr_cells | exact mr_moved | exact mr_traced | assumption) (by assumption) ?_
                rw [(d2 s0 hs0).2.1]
                first | refine pb_i2lN g dX8_draw_93 (by omega) ?_ | refine pb_i2l g dX8_draw_93 ?_
                first | refine pb_lmulN g dX8_draw_94 ?_ | refine pb_lmul g dX8_draw_94 ?_
                refine pb_lstore5 g dX8_draw_95 (by decide) ?_
                first | refine pb_iinc7N g dX8_draw_97 (by decide) ?_ | refine pb_iinc7 g dX8_draw_97 (by decide) rfl ?_
                refine pb_goto g 59 dX8_draw_100 (by decide) ?_
                exact ih
            · obtain rfl : i = n := by omega
              refine pb_iload7 g dX8_draw_59 ?_
              refine pb_aload_n0 g dX8_draw_61 ?_
              refine pb_getf g fX8_7 dX8_draw_62 mr_o rfl ?_
              first | refine pb_icmp_geN g 103 dX8_draw_65 (by decide) (by omega) (by omega) (fun c65 => ?_) (fun c65 => ?_) | refine pb_icmp_ge g 103 dX8_draw_65 (by decide) (fun c65 => ?_) (fun c65 => ?_)
              · refine pb_aload_n0 g dX8_draw_103 ?_
                refine pb_iload_n1 g dX8_draw_104 ?_
                refine pb_iload_n2 g dX8_draw_105 ?_
                refine pb_lload_n3 g dX8_draw_106 ?_
                refine pb_Vv3 g qX8_149 dX8_draw_107 (k + 5) (by omega) mr_o (m_lays (k + 4) (n := i) (p := p0) (s := s0) (K := K s0) (a := Hh s0) (L := asN (Hh s0) (dwV (Hh s0) sd) i) hn hn1 (by omega) (by omega) (d2 s0 hs0).1 hKs.1 (d2 s0 hs0).2.1 hKs.2.1 hKs.2.2.1 (by omega) (fun q => absurd q hk4) (σ p0) (d1 p0 hp0)) (fun h107 e107 => ?_)
                obtain ⟨f9, l9, rfl, hf9⟩ := e107
                refine pb_lload_n3 g dX8_draw_110 ?_
                refine pb_lret g z dX8_draw_111 ?_
                exact ⟨_, rfl, by rw [e], by rw [e]; exact ⟨_, _, _, _, _, _, _, _, _, _, _, _, _, _, _, _, _, _, _, rfl, m1_up hn d1 (fun j hj => (hf9 j hj).trans (by rw [hlo j hj])) (fun p h1 _ => h1), d2, d3, d4, d5⟩⟩
              · exact absurd c65 (by omega)
          refine pb_aload_n0 g dX8_draw_0 ?_
          refine pb_iload_n1 g dX8_draw_1 ?_
          refine pb_Vi1 g qX8_123 dX8_draw_2 (k + 5) (by omega) mr_o (m_isShuffleT (k + 5) (by assumption) hS) (fun r2 h2 e2 => ?_)
          obtain ⟨rfl, rfl⟩ := e2
          first | refine pb_if_eqN g 24 dX8_draw_5 (by decide) (by omega) (fun c5 => ?_) (fun c5 => ?_) | refine pb_if_eq g 24 dX8_draw_5 (by decide) (fun c5 => ?_) (fun c5 => ?_)
          · exact absurd c5 (by decide)
          · refine pb_aload_n0 g dX8_draw_8 ?_
            refine pb_iload_n2 g dX8_draw_9 ?_
            refine pb_Vi1 g qX8_101 dX8_draw_10 (k + 5) (by omega) mr_o (m_isPackT (k + 5) (by assumption) hP) (fun r10 h10 e10 => ?_)
            obtain ⟨rfl, rfl⟩ := e10
            first | refine pb_if_eqN g 24 dX8_draw_13 (by decide) (by omega) (fun c13 => ?_) (fun c13 => ?_) | refine pb_if_eq g 24 dX8_draw_13 (by decide) (fun c13 => ?_) (fun c13 => ?_)
            · exact absurd c13 (by decide)
            · refine pb_aload_n0 g dX8_draw_16 ?_
              refine pb_iload_n1 g dX8_draw_17 ?_
              refine pb_Vi1 g qX8_126 dX8_draw_18 (k + 5) (by omega) mr_o (m_hasMove (k + 5) (s := s0) (K := K s0) (by omega) (d2 s0 (by assumption)).1 (hK s0 (by assumption)).1) (fun r18 h18 e18 => ?_)
              obtain ⟨rfl, rfl⟩ := e18
              rw [if_neg (by assumption)]
              first | refine pb_if_eqN g 28 dX8_draw_21 (by decide) (by omega) (fun c21 => ?_) (fun c21 => ?_) | refine pb_if_eq g 28 dX8_draw_21 (by decide) (fun c21 => ?_) (fun c21 => ?_)
              · refine pb_lconst (v := lN 0) g dX8_draw_28 rfl ?_
                refine pb_lstore_n3 g dX8_draw_29 (by decide) ?_
                refine pb_aload_n0 g dX8_draw_30 ?_
                refine pb_getf g fX8_17 dX8_draw_31 mr_o rfl ?_
                refine pb_iload_n1 g dX8_draw_34 ?_
                first | refine pb_ialdN g dX8_draw_35 (by first | exact mr_kind | exact mr_order | exact mr_heaps | exact mr_m | exact mr_line | exact mr_other | exact mr_ways | exact mr_next | exact mr_chances | exact mr_after | exact mr_far | exact mr_groups | exact mr_found | exact mr_counts | exact mr_traySort | exact mr_traySize | exact mr_cells | exact mr_moved | exact mr_traced | assumption) (by omega) (by omega) ?_ | refine pb_ald0 g dX8_draw_35 (by omega) ?_ | refine pb_ald1 g dX8_draw_35 (by omega) ?_ | refine pb_ald2 g dX8_draw_35 (by omega) ?_ | refine pb_ald3 g dX8_draw_35 (by omega) ?_ | refine pb_iald g dX8_draw_35 (by first | exact mr_kind | exact mr_order | exact mr_heaps | exact mr_m | exact mr_line | exact mr_other | exact mr_ways | exact mr_next | exact mr_chances | exact mr_after | exact mr_far | exact mr_groups | exact mr_found | exact mr_counts | exact mr_traySort | exact mr_traySize | exact mr_cells | exact mr_moved | exact mr_traced | assumption) (by assumption) ?_
                rw [(d2 s0 hs0).1]
                refine pb_iconst (v := nI 4) g dX8_draw_36 (by decide) ?_
                first | refine pb_icmp_neN g 53 dX8_draw_37 (by decide) (by omega) (by omega) (fun c37 => ?_) (fun c37 => ?_) | refine pb_icmp_ne g 53 dX8_draw_37 (by decide) (fun c37 => ?_) (fun c37 => ?_)
                · refine pb_lconst (v := lN 1) g dX8_draw_53 rfl ?_
                  refine pb_lstore5 g dX8_draw_54 (by decide) ?_
                  refine pb_iconst (v := nI 0) g dX8_draw_56 (by decide) ?_
                  refine pb_istore7 g dX8_draw_57 (by decide) ?_
                  have z9 := loop 0 (Nat.zero_le _)
                  rw [Nat.pow_zero] at z9
                  exact z9
                · exact absurd c37 hk4
              · exact absurd c21 (by decide)
