/-! ===== the reference: far ===== -/
set_option maxHeartbeats 4000000 in
set_option maxRecDepth 100000 in
theorem m_far (k : Nat) (q : SP) (s x w : Int32) (h : PH) (hD : IsM q h) (hI : SI q) : Runs yX8_far cX8_far 12 (some .long) (k + 12) [.ref 0, .int s, .int x, .int w] h (fun oo h' => ∃ r : Int64, oo = some (.long r) ∧ r = sFar q s x w ∧ IsM (q) h') := by
  obtain ⟨⟨n, P, S, sd⟩, ⟨σ, μ, K, Hh⟩, ⟨ts, zz, it⟩, ⟨ra, tr⟩⟩ := q
  obtain ⟨⟨hn1, hn, hP, hS⟩, hσ, hK, hz, hra⟩ := hI
  obtain ⟨xod, xkn, xhs, xmm, xln, xot, xfa, xgr, xtsr, xtsz, xce, xmv, xtc, xwy, xnx, xch, xaf, xfo, xco, rfl, d1, d2, d3, d4, d5⟩ := hD
  refine Runs.of (by decide) (Nat.le_of_ble_eq_true rfl) [some (.ref 0), some (.int s), some (.int x), some (.int w), none, none, none, none, none, none, none, none] 8 rfl (fun Γ g z => ?_)
  cases hs : ix s S with
  | none =>
    have e : sFar ((n, P, S, sd), (σ, μ, K, Hh), (ts, zz, it), (ra, tr)) s x w = NOL := by simp only [sFar, hs]
    have hsn := ix_none (by omega) hs
    refine pb_aload_n0 g dX8_far_0 ?_
    refine pb_iload_n1 g dX8_far_1 ?_
    refine pb_iload_n2 g dX8_far_2 ?_
    refine pb_Vi2 g qX8_164 dX8_far_3 (k + 11) (by omega) mr_o (m_isChanceF (k + 10) (S := S) (by assumption) hS) (fun r3 h3 e3 => ?_)
    obtain ⟨rfl, rfl⟩ := e3
    first | refine pb_if_eqN g 18 dX8_far_6 (by decide) (by omega) (fun c6 => ?_) (fun c6 => ?_) | refine pb_if_eq g 18 dX8_far_6 (by decide) (fun c6 => ?_) (fun c6 => ?_)
    · refine pb_ldc2w (w := (-4611686018427387904)) g kX8_157 (by decide) dX8_far_18 ?_
      refine pb_lret g z dX8_far_21 ?_
      exact ⟨_, rfl, by rw [e]; rfl, ⟨_, _, _, _, _, _, _, _, _, _, _, _, _, _, _, _, _, _, _, rfl, d1, d2, d3, d4, d5⟩⟩
    · exact absurd c6 (by decide)
  | some s0 =>
    obtain ⟨hs0, rfl⟩ := ix_some (by omega) hs
    have hKs := hK s0 hs0
    by_cases hcx : hcX n (K s0) (Hh s0) x = true
    · cases hx : ix x 7 with
      | none => simp [hcX, hx] at hcx
      | some k0 =>
        obtain ⟨hk0, rfl⟩ := ix_some (by decide) hx
        have hcb : hcB n (K s0) (Hh s0) k0 = true := by simpa [hcX, hx] using hcx
        cases hw : ix w 2 with
        | none =>
          have e : sFar ((n, P, S, sd), (σ, μ, K, Hh), (ts, zz, it), (ra, tr)) (nI s0) (nI k0) w = NOL := by simp only [sFar, hs, hw]
          have hwn := inN_not (by decide) (ix_none (by decide) hw)
          refine pb_aload_n0 g dX8_far_0 ?_
          refine pb_iload_n1 g dX8_far_1 ?_
          refine pb_iload_n2 g dX8_far_2 ?_
          refine pb_Vi2 g qX8_164 dX8_far_3 (k + 11) (by omega) mr_o (m_isChance (k + 10) (s := s0) (n := n) (S := S) (K := K s0) (a := Hh s0) hs0 hS (d2 s0 hs0).1 (d2 s0 hs0).2.1 hKs.1 hKs.2.1 hKs.2.2.1 hn) (fun r3 h3 e3 => ?_)
          obtain ⟨rfl, rfl⟩ := e3
          rw [if_pos hcx]
          first | refine pb_if_eqN g 18 dX8_far_6 (by decide) (by omega) (fun c6 => ?_) (fun c6 => ?_) | refine pb_if_eq g 18 dX8_far_6 (by decide) (fun c6 => ?_) (fun c6 => ?_)
          · exact absurd c6 (by decide)
          · refine pb_iload_n3 g dX8_far_9 ?_
            refine pb_if_lt g 18 dX8_far_10 (by decide) (fun c10 => ?_) (fun c10 => ?_)
            · refine pb_ldc2w (w := (-4611686018427387904)) g kX8_157 (by decide) dX8_far_18 ?_
              refine pb_lret g z dX8_far_21 ?_
              exact ⟨_, rfl, by rw [e]; rfl, ⟨_, _, _, _, _, _, _, _, _, _, _, _, _, _, _, _, _, _, _, rfl, d1, d2, d3, d4, d5⟩⟩
            · refine pb_iload_n3 g dX8_far_13 ?_
              refine pb_iconst (v := nI 1) g dX8_far_14 (by decide) ?_
              first | refine pb_icmp_leN g 22 dX8_far_15 (by decide) (by omega) (by omega) (fun c15 => ?_) (fun c15 => ?_) | refine pb_icmp_le g 22 dX8_far_15 (by decide) (fun c15 => ?_) (fun c15 => ?_)
              · exact absurd hwn (fun q => q.elim c10 (fun w => absurd (Int32.le_trans w c15) (by decide)))
              · refine pb_ldc2w (w := (-4611686018427387904)) g kX8_157 (by decide) dX8_far_18 ?_
                refine pb_lret g z dX8_far_21 ?_
                exact ⟨_, rfl, by rw [e]; rfl, ⟨_, _, _, _, _, _, _, _, _, _, _, _, _, _, _, _, _, _, _, rfl, d1, d2, d3, d4, d5⟩⟩
        | some w0 =>
          obtain ⟨hw0, rfl⟩ := ix_some (by decide) hw
          have e : sFar ((n, P, S, sd), (σ, μ, K, Hh), (ts, zz, it), (ra, tr)) (nI s0) (nI k0) (nI w0) = frL (farF n (K s0) (Hh s0) k0) (2 * allF n (K s0) (Hh s0) k0 * fac n) w0 := by simp only [sFar, hs, hw, hx, if_pos hcb]
          obtain ⟨⟨f1, f2⟩, f3, f4⟩ := hc_facts hn1 hn hKs.1 hKs.2.1 hKs.2.2.1 hKs.2.2.2.1 hk0 hcb
          obtain ⟨g1, g2⟩ := fac_lt n (by omega)
          have g3 : fac n ≤ 3628800 := by
            have : ∀ m, m < 11 → fac m ≤ 3628800 := by decide
            exact this n (by omega)
          have g4 : 2 * allF n (K s0) (Hh s0) k0 * fac n ≤ 2 * 10 ^ 10 * 3628800 := Nat.mul_le_mul (Nat.mul_le_mul_left 2 f2) g3
          have g5 : 0 < 2 * allF n (K s0) (Hh s0) k0 * fac n := Nat.mul_pos (by omega) g1
          by_cases hk4 : K s0 = 4
          · have hn6 : n ≤ 6 := hcB_4 (by rw [← hk4]; exact hcb)
            have hHn := hKs.2.2.2.1 hk4
            have hf7 := fac6 n (by omega)
            have ea : allF n (K s0) (Hh s0) k0 = n ^ k0 := by rw [allF, lotN, if_pos hk4, Nat.mul_one, hHn]
            have er : farF n (K s0) (Hh s0) k0 = smF (fun i => gF n k0 i * fac n - n ^ k0 + (n ^ k0 - gF n k0 i * fac n)) (fac n) := by
              rw [far_top (by omega) hn1, farF, ea]
              exact fL_congr n (fun l _ => ⟨by rw [ctF, if_pos hk4], by rw [rwF, if_pos hk4]⟩)
            rw [ea, er] at e
            rw [ea] at f1 f2 g4 g5
            rw [er] at f4
            have loop : ∀ (fc fa : Nat → Int64) (fl : Nat → Int32), (∀ r, r < fac n → fc r = lN (gF n k0 r)) → ∀ i, i ≤ fac n → PB Γ 64 [some (.ref 0), some (.int (nI s0)), some (.int (nI k0)), some (.int (nI w0)), some (.long (lN (fac n))), none, some (.long (lN (smF (fun i => gF n k0 i * fac n - n ^ k0 + (n ^ k0 - gF n k0 i * fac n)) i))), none, some (.long (lN (n ^ k0))), none, some (.int (nI i)), none] [] (mkH 20 (mdF (nI n) (nI P) (nI S) (sd) xod xkn xhs xmm (fl) xot xwy xnx (fc) (fa) xfa xgr xfo xco xtsr xtsz xce xmv xtc (nI ra))) := by
              intro fc fa fl hfc
              refine pb_loop (fac n) (fun i hi ih => ?_)
              by_cases hia : i < fac n
              · have ih := ih hia
                have hgi := gF_lt (n := n) (k := k0) (r := i) (by omega) hn1 hk0
                have hgm : gF n k0 i * fac n ≤ 2 ^ 20 * 720 := Nat.mul_le_mul (Nat.le_of_lt hgi) hf7
                refine pb_iload10 g dX8_far_64 ?_
                first | refine pb_i2lN g dX8_far_66 (by omega) ?_ | refine pb_i2l g dX8_far_66 ?_
                refine pb_lload4 g dX8_far_67 ?_
                first | refine pb_lc_geN g 100 dX8_far_69 dX8_far_70 (by decide) (by omega) (by omega) (fun c69 => ?_) (fun c69 => ?_) | refine pb_lc_ge g 100 dX8_far_69 dX8_far_70 (by decide) (fun c69 => ?_) (fun c69 => ?_)
                · exact absurd c69 (by omega)
                · refine pb_lload6 g dX8_far_73 ?_
                  refine pb_aload_n0 g dX8_far_75 ?_
                  refine pb_getf g fX8_39 dX8_far_76 mr_o rfl ?_
                  refine pb_iload10 g dX8_far_79 ?_
                  first | refine pb_laldN g dX8_far_81 (by first | exact mr_chances | exact mr_order | exact mr_kind | exact mr_heaps | exact mr_m | exact mr_line | exact mr_other | exact mr_ways | exact mr_next | exact mr_after | exact mr_far | exact mr_groups | exact mr_found | exact mr_counts | exact mr_traySort | exact mr_traySize | exact mr_cells | exact mr_moved | exact mr_traced | assumption) (by omega) (by omega) ?_ | refine pb_lald g dX8_far_81 (by first | exact mr_chances | exact mr_order | exact mr_kind | exact mr_heaps | exact mr_m | exact mr_line | exact mr_other | exact mr_ways | exact mr_next | exact mr_after | exact mr_far | exact mr_groups | exact mr_found | exact mr_counts | exact mr_traySort | exact mr_traySize | exact mr_cells | exact mr_moved | exact mr_traced | assumption) (by assumption) ?_
                  rw [hfc i hia]
                  refine pb_lload4 g dX8_far_82 ?_
                  first | refine pb_lmulN g dX8_far_84 ?_ | refine pb_lmul g dX8_far_84 ?_
                  refine pb_lload8 g dX8_far_85 ?_
                  refine pb_lsub g dX8_far_87 ?_
                  refine pb_Sl1 g qX8_179 dX8_far_88 (k + 11) (by omega) (m_size (k + 11) _ _ (by omega) (by omega) _) (fun r88 h88 e88 => ?_)
                  obtain ⟨rfl, rfl⟩ := e88
                  first | refine pb_laddN g dX8_far_91 ?_ | refine pb_ladd g dX8_far_91 ?_
                  refine pb_lstore6 g dX8_far_92 (by decide) ?_
                  first | refine pb_iinc10N g dX8_far_94 (by decide) ?_ | refine pb_iinc10 g dX8_far_94 (by decide) rfl ?_
                  refine pb_goto g 64 dX8_far_97 (by decide) ?_
                  exact ih
              · have hie : i = fac n := by omega
                rw [hie]
                refine pb_iload10 g dX8_far_64 ?_
                first | refine pb_i2lN g dX8_far_66 (by omega) ?_ | refine pb_i2l g dX8_far_66 ?_
                refine pb_lload4 g dX8_far_67 ?_
                first | refine pb_lc_geN g 100 dX8_far_69 dX8_far_70 (by decide) (by omega) (by omega) (fun c69 => ?_) (fun c69 => ?_) | refine pb_lc_ge g 100 dX8_far_69 dX8_far_70 (by decide) (fun c69 => ?_) (fun c69 => ?_)
                · refine pb_aload_n0 g dX8_far_100 ?_
                  refine pb_lload6 g dX8_far_101 ?_
                  refine pb_ldc2w (w := lN 2) g kX8_183 (by decide) dX8_far_103 ?_
                  refine pb_lload8 g dX8_far_106 ?_
                  first | refine pb_lmulN g dX8_far_108 ?_ | refine pb_lmul g dX8_far_108 ?_
                  refine pb_lload4 g dX8_far_109 ?_
                  first | refine pb_lmulN g dX8_far_111 ?_ | refine pb_lmul g dX8_far_111 ?_
                  refine pb_iload_n3 g dX8_far_112 ?_
                  refine pb_Vl3 g qX8_171 dX8_far_113 (k + 11) (by omega) mr_o (m_lowest (k + 10) _ _ w0 f4 (by omega) g5 hw0 _) (fun r113 h113 e113 => ?_)
                  obtain ⟨rfl, rfl⟩ := e113
                  refine pb_lret g z dX8_far_116 ?_
                  exact ⟨_, rfl, by rw [e], ⟨_, _, _, _, _, _, _, _, _, _, _, _, _, _, _, _, _, _, _, rfl, d1, d2, d3, d4, d5⟩⟩
                · exact absurd c69 (by omega)
            refine pb_aload_n0 g dX8_far_0 ?_
            refine pb_iload_n1 g dX8_far_1 ?_
            refine pb_iload_n2 g dX8_far_2 ?_
            refine pb_Vi2 g qX8_164 dX8_far_3 (k + 11) (by omega) mr_o (m_isChance (k + 10) (s := s0) (n := n) (S := S) (K := K s0) (a := Hh s0) hs0 hS (d2 s0 hs0).1 (d2 s0 hs0).2.1 hKs.1 hKs.2.1 hKs.2.2.1 hn) (fun r3 h3 e3 => ?_)
            obtain ⟨rfl, rfl⟩ := e3
            rw [if_pos hcx]
            first | refine pb_if_eqN g 18 dX8_far_6 (by decide) (by omega) (fun c6 => ?_) (fun c6 => ?_) | refine pb_if_eq g 18 dX8_far_6 (by decide) (fun c6 => ?_) (fun c6 => ?_)
            · exact absurd c6 (by decide)
            · refine pb_iload_n3 g dX8_far_9 ?_
              refine pb_if_ltN g 18 dX8_far_10 (by decide) (by omega) ?_
              refine pb_iload_n3 g dX8_far_13 ?_
              refine pb_iconst (v := nI 1) g dX8_far_14 (by decide) ?_
              first | refine pb_icmp_leN g 22 dX8_far_15 (by decide) (by omega) (by omega) (fun c15 => ?_) (fun c15 => ?_) | refine pb_icmp_le g 22 dX8_far_15 (by decide) (fun c15 => ?_) (fun c15 => ?_)
              · refine pb_aload_n0 g dX8_far_22 ?_
                refine pb_getf g fX8_7 dX8_far_23 mr_o rfl ?_
                refine pb_Si1 g qX8_82 dX8_far_26 (k + 11) (by omega) (m_orders (k + 11) n (by omega) _) (fun r26 h26 e26 => ?_)
                obtain ⟨rfl, rfl⟩ := e26
                first | refine pb_i2lN g dX8_far_29 (by omega) ?_ | refine pb_i2l g dX8_far_29 ?_
                refine pb_lstore4 g dX8_far_30 (by decide) ?_
                refine pb_lconst (v := lN 0) g dX8_far_32 rfl ?_
                refine pb_lstore6 g dX8_far_33 (by decide) ?_
                refine pb_aload_n0 g dX8_far_35 ?_
                refine pb_getf g fX8_17 dX8_far_36 mr_o rfl ?_
                refine pb_iload_n1 g dX8_far_39 ?_
                first | refine pb_ialdN g dX8_far_40 (by first | exact mr_kind | exact mr_order | exact mr_heaps | exact mr_m | exact mr_line | exact mr_other | exact mr_ways | exact mr_next | exact mr_chances | exact mr_after | exact mr_far | exact mr_groups | exact mr_found | exact mr_counts | exact mr_traySort | exact mr_traySize | exact mr_cells | exact mr_moved | exact mr_traced | assumption) (by omega) (by omega) ?_ | refine pb_ald0 g dX8_far_40 (by omega) ?_ | refine pb_ald1 g dX8_far_40 (by omega) ?_ | refine pb_ald2 g dX8_far_40 (by omega) ?_ | refine pb_ald3 g dX8_far_40 (by omega) ?_ | refine pb_iald g dX8_far_40 (by first | exact mr_kind | exact mr_order | exact mr_heaps | exact mr_m | exact mr_line | exact mr_other | exact mr_ways | exact mr_next | exact mr_chances | exact mr_after | exact mr_far | exact mr_groups | exact mr_found | exact mr_counts | exact mr_traySort | exact mr_traySize | exact mr_cells | exact mr_moved | exact mr_traced | assumption) (by assumption) ?_
                rw [(d2 s0 hs0).1]
                refine pb_iconst (v := nI 4) g dX8_far_41 (by decide) ?_
                first | refine pb_icmp_neN g 117 dX8_far_42 (by decide) (by omega) (by omega) (fun c42 => ?_) (fun c42 => ?_) | refine pb_icmp_ne g 117 dX8_far_42 (by decide) (fun c42 => ?_) (fun c42 => ?_)
                · exact absurd hk4 c42
                · refine pb_aload_n0 g dX8_far_45 ?_
                  refine pb_getf g fX8_7 dX8_far_46 mr_o rfl ?_
                  first | refine pb_i2lN g dX8_far_49 (by omega) ?_ | refine pb_i2l g dX8_far_49 ?_
                  refine pb_iload_n2 g dX8_far_50 ?_
                  refine pb_Sl2 g qX8_145 dX8_far_51 (k + 11) (by omega) (m_power (k + 11) (n) (k0) (by omega) _) (fun r51 h51 e51 => ?_)
                  obtain ⟨rfl, rfl⟩ := e51
                  refine pb_lstore8 g dX8_far_54 (by decide) ?_
                  refine pb_aload_n0 g dX8_far_56 ?_
                  refine pb_iload_n2 g dX8_far_57 ?_
                  refine pb_Vv1 g qX8_168 dX8_far_58 (k + 11) (by omega) mr_o (m_tops (k + 9) (n := n) (k0 := k0) hn6 hn1 (by omega)) (fun h58 e58 => ?_)
                  obtain ⟨fc, fa, fl, rfl, hfc⟩ := e58
                  refine pb_iconst (v := nI 0) g dX8_far_61 (by decide) ?_
                  refine pb_istore10 g dX8_far_62 (by decide) ?_
                  exact loop _ _ _ hfc 0 (Nat.zero_le _)
              · exact absurd c15 (by omega)
          · obtain ⟨-, hr⟩ := hcB_3 hKs.1 hk4 hcb
            have hHa := hKs.2.1
            have hHb := hKs.2.2.1
            have ea : allF n (K s0) (Hh s0) k0 = (Hh s0 ^ k0) ^ n := by rw [allF, lotN, if_neg hk4, Nat.pow_mul]
            have er : farF n (K s0) (Hh s0) k0 = fL (eu n) (fun lv => choF (Hh s0 ^ k0 + (n - 1 - lv)) n) ((Hh s0 ^ k0) ^ n) (fac n) n := by
              rw [farF, ea]
              exact fL_congr n (fun l hl => ⟨by rw [ctF, if_neg hk4], by
                rw [rwF, if_neg hk4]
                congr 1
                omega⟩)
            rw [ea, er] at e
            rw [ea] at f1 f2 g4 g5
            rw [er] at f4
            have f3 : ∀ l, l < n → choF (Hh s0 ^ k0 + (n - 1 - l)) n < 2 ^ 20 := fun l hl => by
              have f9 := f3 l hl
              rw [rwF, if_neg hk4, show Hh s0 ^ k0 + n - 1 - l = Hh s0 ^ k0 + (n - 1 - l) by omega] at f9
              exact f9
            have loop : ∀ l, l ≤ n → ∀ h : PH, IsM ((n, P, S, sd), (σ, μ, K, Hh), (ts, zz, it), (ra, tr)) h → PB Γ 146 [some (.ref 0), some (.int (nI s0)), some (.int (nI k0)), some (.int (nI w0)), some (.long (lN (fac n))), none, some (.long (lN (fL (eu n) (fun lv => choF (Hh s0 ^ k0 + (n - 1 - lv)) n) ((Hh s0 ^ k0) ^ n) (fac n) l))), none, some (.int (nI (Hh s0 ^ k0))), some (.long (lN ((Hh s0 ^ k0) ^ n))), none, some (.int (nI (l + 1)))] [] h := by
              refine pb_loop n (fun l hl ih h hM => ?_)
              have hMM := hM
              obtain ⟨xod, xkn, xhs, xmm, xln, xot, xfa, xgr, xtsr, xtsz, xce, xmv, xtc, xwy, xnx, xch, xaf, xfo, xco, rfl, d1, d2, d3, d4, d5⟩ := hM
              by_cases hln : l < n
              · have ih := ih hln
                have f9 := f3 l hln
                have f5 : choF (Hh s0 ^ k0 + (n - 1 - l)) n * fac n ≤ 2 ^ 20 * 3628800 := Nat.mul_le_mul (Nat.le_of_lt f9) g3
                have hrun : sRuns ((n, P, S, sd), (σ, μ, K, Hh), (ts, zz, it), (ra, tr)) (nI (l + 1)) = lN (eu n l) := by
                  simp only [sRuns]
                  rw [if_neg, nI_clamp (by omega), Nat.add_sub_cancel]
                  rintro (q | q)
                  · have := (nI_ltI (by omega) (by omega)).mp q
                    omega
                  · have := (nI_ltI (by omega) (by omega)).mp q
                    omega
                refine pb_iload11 g dX8_far_146 ?_
                refine pb_aload_n0 g dX8_far_148 ?_
                refine pb_getf g fX8_7 dX8_far_149 mr_o rfl ?_
                first | refine pb_icmp_gtN g 192 dX8_far_152 (by decide) (by omega) (by omega) (fun c152 => ?_) (fun c152 => ?_) | refine pb_icmp_gt g 192 dX8_far_152 (by decide) (fun c152 => ?_) (fun c152 => ?_)
                · exact absurd c152 (by omega)
                · refine pb_lload6 g dX8_far_155 ?_
                  refine pb_aload_n0 g dX8_far_157 ?_
                  refine pb_iload11 g dX8_far_158 ?_
                  refine pb_Vl1 g qX8_185 dX8_far_160 (k + 11) (by omega) mr_o (m_runs (k + 5) ((n, P, S, sd), (σ, μ, K, Hh), (ts, zz, it), (ra, tr)) (nI (l + 1)) _ hMM ⟨⟨hn1, hn, hP, hS⟩, hσ, hK, hz, hra⟩) (fun r160 h160 e160 => ?_)
                  obtain ⟨rfl, hM⟩ := e160
                  obtain ⟨xod, xkn, xhs, xmm, xln, xot, xfa, xgr, xtsr, xtsz, xce, xmv, xtc, xwy, xnx, xch, xaf, xfo, xco, rfl, d1, d2, d3, d4, d5⟩ := hM
                  rw [hrun]
                  refine pb_aload_n0 g dX8_far_163 ?_
                  refine pb_iload8 g dX8_far_164 ?_
                  refine pb_iload11 g dX8_far_166 ?_
                  refine pb_iconst (v := nI 1) g dX8_far_168 (by decide) ?_
                  first | refine pb_isubN g dX8_far_169 (by omega) ?_ | refine pb_isub g dX8_far_169 ?_
                  rw [Nat.add_sub_cancel]
                  refine pb_Vl2 g qX8_175 dX8_far_170 (k + 11) (by omega) mr_o (m_heapWays (k + 11) (n := n) (a := Hh s0 ^ k0) (r := l) hn hn1 hr (by omega)) (fun r170 h170 e170 => ?_)
                  obtain ⟨rfl, f7, f8, rfl⟩ := e170
                  refine pb_lload4 g dX8_far_173 ?_
                  first | refine pb_lmulN g dX8_far_175 ?_ | refine pb_lmul g dX8_far_175 ?_
                  refine pb_lload9 g dX8_far_176 ?_
                  refine pb_lsub g dX8_far_178 ?_
                  refine pb_Sl1 g qX8_179 dX8_far_179 (k + 11) (by omega) (m_size (k + 11) _ _ (by omega) (by omega) _) (fun r179 h179 e179 => ?_)
                  obtain ⟨rfl, rfl⟩ := e179
                  first | refine pb_lmulN g dX8_far_182 ?_ | refine pb_lmul g dX8_far_182 ?_
                  first | refine pb_laddN g dX8_far_183 ?_ | refine pb_ladd g dX8_far_183 ?_
                  refine pb_lstore6 g dX8_far_184 (by decide) ?_
                  first | refine pb_iinc11N g dX8_far_186 (by decide) ?_ | refine pb_iinc11 g dX8_far_186 (by decide) rfl ?_
                  refine pb_goto g 146 dX8_far_189 (by decide) ?_
                  exact ih _ ⟨_, _, _, _, _, _, _, _, _, _, _, _, _, _, _, _, _, _, _, rfl, d1, d2, d3, d4, d5⟩
              · obtain rfl : l = n := by omega
                refine pb_iload11 g dX8_far_146 ?_
                refine pb_aload_n0 g dX8_far_148 ?_
                refine pb_getf g fX8_7 dX8_far_149 mr_o rfl ?_
                first | refine pb_icmp_gtN g 192 dX8_far_152 (by decide) (by omega) (by omega) (fun c152 => ?_) (fun c152 => ?_) | refine pb_icmp_gt g 192 dX8_far_152 (by decide) (fun c152 => ?_) (fun c152 => ?_)
                · refine pb_aload_n0 g dX8_far_192 ?_
                  refine pb_lload6 g dX8_far_193 ?_
                  refine pb_ldc2w (w := lN 2) g kX8_183 (by decide) dX8_far_195 ?_
                  refine pb_lload9 g dX8_far_198 ?_
                  first | refine pb_lmulN g dX8_far_200 ?_ | refine pb_lmul g dX8_far_200 ?_
                  refine pb_lload4 g dX8_far_201 ?_
                  first | refine pb_lmulN g dX8_far_203 ?_ | refine pb_lmul g dX8_far_203 ?_
                  refine pb_iload_n3 g dX8_far_204 ?_
                  refine pb_Vl3 g qX8_171 dX8_far_205 (k + 11) (by omega) mr_o (m_lowest (k + 10) _ _ w0 f4 (by omega) g5 hw0 _) (fun r205 h205 e205 => ?_)
                  obtain ⟨rfl, rfl⟩ := e205
                  refine pb_lret g z dX8_far_208 ?_
                  exact ⟨_, rfl, by rw [e], ⟨_, _, _, _, _, _, _, _, _, _, _, _, _, _, _, _, _, _, _, rfl, d1, d2, d3, d4, d5⟩⟩
                · exact absurd c152 (by omega)
            refine pb_aload_n0 g dX8_far_0 ?_
            refine pb_iload_n1 g dX8_far_1 ?_
            refine pb_iload_n2 g dX8_far_2 ?_
            refine pb_Vi2 g qX8_164 dX8_far_3 (k + 11) (by omega) mr_o (m_isChance (k + 10) (s := s0) (n := n) (S := S) (K := K s0) (a := Hh s0) hs0 hS (d2 s0 hs0).1 (d2 s0 hs0).2.1 hKs.1 hKs.2.1 hKs.2.2.1 hn) (fun r3 h3 e3 => ?_)
            obtain ⟨rfl, rfl⟩ := e3
            rw [if_pos hcx]
            first | refine pb_if_eqN g 18 dX8_far_6 (by decide) (by omega) (fun c6 => ?_) (fun c6 => ?_) | refine pb_if_eq g 18 dX8_far_6 (by decide) (fun c6 => ?_) (fun c6 => ?_)
            · exact absurd c6 (by decide)
            · refine pb_iload_n3 g dX8_far_9 ?_
              refine pb_if_ltN g 18 dX8_far_10 (by decide) (by omega) ?_
              refine pb_iload_n3 g dX8_far_13 ?_
              refine pb_iconst (v := nI 1) g dX8_far_14 (by decide) ?_
              first | refine pb_icmp_leN g 22 dX8_far_15 (by decide) (by omega) (by omega) (fun c15 => ?_) (fun c15 => ?_) | refine pb_icmp_le g 22 dX8_far_15 (by decide) (fun c15 => ?_) (fun c15 => ?_)
              · refine pb_aload_n0 g dX8_far_22 ?_
                refine pb_getf g fX8_7 dX8_far_23 mr_o rfl ?_
                refine pb_Si1 g qX8_82 dX8_far_26 (k + 11) (by omega) (m_orders (k + 11) n (by omega) _) (fun r26 h26 e26 => ?_)
                obtain ⟨rfl, rfl⟩ := e26
                first | refine pb_i2lN g dX8_far_29 (by omega) ?_ | refine pb_i2l g dX8_far_29 ?_
                refine pb_lstore4 g dX8_far_30 (by decide) ?_
                refine pb_lconst (v := lN 0) g dX8_far_32 rfl ?_
                refine pb_lstore6 g dX8_far_33 (by decide) ?_
                refine pb_aload_n0 g dX8_far_35 ?_
                refine pb_getf g fX8_17 dX8_far_36 mr_o rfl ?_
                refine pb_iload_n1 g dX8_far_39 ?_
                first | refine pb_ialdN g dX8_far_40 (by first | exact mr_kind | exact mr_order | exact mr_heaps | exact mr_m | exact mr_line | exact mr_other | exact mr_ways | exact mr_next | exact mr_chances | exact mr_after | exact mr_far | exact mr_groups | exact mr_found | exact mr_counts | exact mr_traySort | exact mr_traySize | exact mr_cells | exact mr_moved | exact mr_traced | assumption) (by omega) (by omega) ?_ | refine pb_ald0 g dX8_far_40 (by omega) ?_ | refine pb_ald1 g dX8_far_40 (by omega) ?_ | refine pb_ald2 g dX8_far_40 (by omega) ?_ | refine pb_ald3 g dX8_far_40 (by omega) ?_ | refine pb_iald g dX8_far_40 (by first | exact mr_kind | exact mr_order | exact mr_heaps | exact mr_m | exact mr_line | exact mr_other | exact mr_ways | exact mr_next | exact mr_chances | exact mr_after | exact mr_far | exact mr_groups | exact mr_found | exact mr_counts | exact mr_traySort | exact mr_traySize | exact mr_cells | exact mr_moved | exact mr_traced | assumption) (by assumption) ?_
                rw [(d2 s0 hs0).1]
                refine pb_iconst (v := nI 4) g dX8_far_41 (by decide) ?_
                first | refine pb_icmp_neN g 117 dX8_far_42 (by decide) (by omega) (by omega) (fun c42 => ?_) (fun c42 => ?_) | refine pb_icmp_ne g 117 dX8_far_42 (by decide) (fun c42 => ?_) (fun c42 => ?_)
                · refine pb_aload_n0 g dX8_far_117 ?_
                  refine pb_getf g fX8_20 dX8_far_118 mr_o rfl ?_
                  refine pb_iload_n1 g dX8_far_121 ?_
                  first | refine pb_ialdN g dX8_far_122 (by first | exact mr_heaps | exact mr_kind | exact mr_order | exact mr_m | exact mr_line | exact mr_other | exact mr_ways | exact mr_next | exact mr_chances | exact mr_after | exact mr_far | exact mr_groups | exact mr_found | exact mr_counts | exact mr_traySort | exact mr_traySize | exact mr_cells | exact mr_moved | exact mr_traced | assumption) (by omega) (by omega) ?_ | refine pb_ald0 g dX8_far_122 (by omega) ?_ | refine pb_ald1 g dX8_far_122 (by omega) ?_ | refine pb_ald2 g dX8_far_122 (by omega) ?_ | refine pb_ald3 g dX8_far_122 (by omega) ?_ | refine pb_iald g dX8_far_122 (by first | exact mr_heaps | exact mr_kind | exact mr_order | exact mr_m | exact mr_line | exact mr_other | exact mr_ways | exact mr_next | exact mr_chances | exact mr_after | exact mr_far | exact mr_groups | exact mr_found | exact mr_counts | exact mr_traySort | exact mr_traySize | exact mr_cells | exact mr_moved | exact mr_traced | assumption) (by assumption) ?_
                  rw [(d2 s0 hs0).2.1]
                  first | refine pb_i2lN g dX8_far_123 (by omega) ?_ | refine pb_i2l g dX8_far_123 ?_
                  refine pb_iload_n2 g dX8_far_124 ?_
                  refine pb_Sl2 g qX8_145 dX8_far_125 (k + 11) (by omega) (m_power (k + 11) (Hh s0) (k0) (by omega) _) (fun r125 h125 e125 => ?_)
                  obtain ⟨rfl, rfl⟩ := e125
                  first | refine pb_l2iN g dX8_far_128 ?_ | refine pb_l2i g dX8_far_128 ?_
                  refine pb_istore8 g dX8_far_129 (by decide) ?_
                  refine pb_iload8 g dX8_far_131 ?_
                  first | refine pb_i2lN g dX8_far_133 (by omega) ?_ | refine pb_i2l g dX8_far_133 ?_
                  refine pb_aload_n0 g dX8_far_134 ?_
                  refine pb_getf g fX8_7 dX8_far_135 mr_o rfl ?_
                  refine pb_Sl2 g qX8_145 dX8_far_138 (k + 11) (by omega) (m_power (k + 11) (Hh s0 ^ k0) (n) (by omega) _) (fun r138 h138 e138 => ?_)
                  obtain ⟨rfl, rfl⟩ := e138
                  refine pb_lstore9 g dX8_far_141 (by decide) ?_
                  refine pb_iconst (v := nI 1) g dX8_far_143 (by decide) ?_
                  refine pb_istore11 g dX8_far_144 (by decide) ?_
                  exact loop 0 (Nat.zero_le _) _ ⟨_, _, _, _, _, _, _, _, _, _, _, _, _, _, _, _, _, _, _, rfl, d1, d2, d3, d4, d5⟩
                · exact absurd c42 hk4
              · exact absurd c15 (by omega)
    · have e : sFar ((n, P, S, sd), (σ, μ, K, Hh), (ts, zz, it), (ra, tr)) (nI s0) x w = NOL := by
        simp only [sFar, hs]
        cases ix w 2 with
        | none => rfl
        | some w0 =>
          cases hx : ix x 7 with
          | none => rfl
          | some k0 => simp only [hcX, hx] at hcx; exact if_neg hcx
      refine pb_aload_n0 g dX8_far_0 ?_
      refine pb_iload_n1 g dX8_far_1 ?_
      refine pb_iload_n2 g dX8_far_2 ?_
      refine pb_Vi2 g qX8_164 dX8_far_3 (k + 11) (by omega) mr_o (m_isChance (k + 10) (s := s0) (n := n) (S := S) (K := K s0) (a := Hh s0) hs0 hS (d2 s0 hs0).1 (d2 s0 hs0).2.1 hKs.1 hKs.2.1 hKs.2.2.1 hn) (fun r3 h3 e3 => ?_)
      obtain ⟨rfl, rfl⟩ := e3
      rw [if_neg hcx]
      first | refine pb_if_eqN g 18 dX8_far_6 (by decide) (by omega) (fun c6 => ?_) (fun c6 => ?_) | refine pb_if_eq g 18 dX8_far_6 (by decide) (fun c6 => ?_) (fun c6 => ?_)
      · refine pb_ldc2w (w := (-4611686018427387904)) g kX8_157 (by decide) dX8_far_18 ?_
        refine pb_lret g z dX8_far_21 ?_
        exact ⟨_, rfl, by rw [e]; rfl, ⟨_, _, _, _, _, _, _, _, _, _, _, _, _, _, _, _, _, _, _, rfl, d1, d2, d3, d4, d5⟩⟩
      · exact absurd c6 (by decide)
