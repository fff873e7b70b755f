/-! ===== the reference: chance, far ===== -/
set_option maxHeartbeats 4000000 in
set_option maxRecDepth 100000 in
theorem m_chance (k : Nat) (q : SP) (s x p w : Int32) (h : PH) (hD : IsM q h) (hI : SI q) : Runs yX8_chance cX8_chance 6 (some .long) (k + 6) [.ref 0, .int s, .int x, .int p, .int w] h (fun oo h' => ∃ r : Int64, oo = some (.long r) ∧ r = sChance q s x p w ∧ IsM (q) h') := by
  obtain ⟨⟨n, P, S, sd⟩, ⟨σ, μ, K, Hh⟩, ⟨ts, zz, it⟩, ⟨ra, tr⟩⟩ := q
  obtain ⟨⟨hn1, hn, hP, hS⟩, hσ, hK, hz, hra⟩ := hI
  obtain ⟨xod, xkn, xhs, xmm, xln, xot, xfa, xgr, xtsr, xtsz, xce, xmv, xtc, xwy, xnx, xch, xaf, xfo, xco, rfl, d1, d2, d3, d4, d5⟩ := hD
  refine Runs.of (by decide) (Nat.le_of_ble_eq_true rfl) [some (.ref 0), some (.int s), some (.int x), some (.int p), some (.int w), none] 1 rfl (fun Γ g z => ?_)
  cases hs : ix s S with
  | none =>
    have e : sChance ((n, P, S, sd), (σ, μ, K, Hh), (ts, zz, it), (ra, tr)) s x p w = NOL := by simp only [sChance, hs]
    have hsn := ix_none (by omega) hs
    refine pb_aload_n0 g dX8_chance_0 ?_
    refine pb_iload_n1 g dX8_chance_1 ?_
    refine pb_iload_n2 g dX8_chance_2 ?_
    refine pb_Vi2 g qX8_164 dX8_chance_3 (k + 5) (by omega) mr_o (m_isChanceF (k + 4) (S := S) (by assumption) hS) (fun r3 h3 e3 => ?_)
    obtain ⟨rfl, rfl⟩ := e3
    first | refine pb_if_eqN g 28 dX8_chance_6 (by decide) (by omega) (fun c6 => ?_) (fun c6 => ?_) | refine pb_if_eq g 28 dX8_chance_6 (by decide) (fun c6 => ?_) (fun c6 => ?_)
    · refine pb_ldc2w (w := (-4611686018427387904)) g kX8_157 (by decide) dX8_chance_28 ?_
      refine pb_lret g z dX8_chance_31 ?_
      exact ⟨_, rfl, by rw [e]; rfl, ⟨_, _, _, _, _, _, _, _, _, _, _, _, _, _, _, _, _, _, _, rfl, d1, d2, d3, d4, d5⟩⟩
    · exact absurd c6 (by decide)
  | some s0 =>
    obtain ⟨hs0, rfl⟩ := ix_some (by omega) hs
    have hKs := hK s0 hs0
    by_cases hcx : hcX n (K s0) (Hh s0) x = true
    · cases hx : ix x 7 with
      | none => simp [hcX, hx] at hcx
      | some k0 =>
        obtain ⟨hk0, rfl⟩ := ix_some (by decide) hx
        have hcb : hcB n (K s0) (Hh s0) k0 = true := by simpa [hcX, hx] using hcx
        cases hpx : ix p P with
        | none =>
          have e : sChance ((n, P, S, sd), (σ, μ, K, Hh), (ts, zz, it), (ra, tr)) (nI s0) (nI k0) p w = NOL := by simp only [sChance, hs, hpx]
          have hpn := ix_none (by omega) hpx
          refine pb_aload_n0 g dX8_chance_0 ?_
          refine pb_iload_n1 g dX8_chance_1 ?_
          refine pb_iload_n2 g dX8_chance_2 ?_
          refine pb_Vi2 g qX8_164 dX8_chance_3 (k + 5) (by omega) mr_o (m_isChance (k + 4) (s := s0) (n := n) (S := S) (K := K s0) (a := Hh s0) hs0 hS (d2 s0 hs0).1 (d2 s0 hs0).2.1 hKs.1 hKs.2.1 hKs.2.2.1 hn) (fun r3 h3 e3 => ?_)
          obtain ⟨rfl, rfl⟩ := e3
          rw [if_pos hcx]
          first | refine pb_if_eqN g 28 dX8_chance_6 (by decide) (by omega) (fun c6 => ?_) (fun c6 => ?_) | refine pb_if_eq g 28 dX8_chance_6 (by decide) (fun c6 => ?_) (fun c6 => ?_)
          · exact absurd c6 (by decide)
          · refine pb_aload_n0 g dX8_chance_9 ?_
            refine pb_iload_n3 g dX8_chance_10 ?_
            refine pb_Vi1 g qX8_101 dX8_chance_11 (k + 5) (by omega) mr_o (m_isPackF (k + 5) (by assumption) hP) (fun r11 h11 e11 => ?_)
            obtain ⟨rfl, rfl⟩ := e11
            first | refine pb_if_eqN g 28 dX8_chance_14 (by decide) (by omega) (fun c14 => ?_) (fun c14 => ?_) | refine pb_if_eq g 28 dX8_chance_14 (by decide) (fun c14 => ?_) (fun c14 => ?_)
            · refine pb_ldc2w (w := (-4611686018427387904)) g kX8_157 (by decide) dX8_chance_28 ?_
              refine pb_lret g z dX8_chance_31 ?_
              exact ⟨_, rfl, by rw [e]; rfl, ⟨_, _, _, _, _, _, _, _, _, _, _, _, _, _, _, _, _, _, _, rfl, d1, d2, d3, d4, d5⟩⟩
            · exact absurd c14 (by decide)
        | some p0 =>
          obtain ⟨hp0, rfl⟩ := ix_some (by omega) hpx
          cases hw : ix w 2 with
          | none =>
            have e : sChance ((n, P, S, sd), (σ, μ, K, Hh), (ts, zz, it), (ra, tr)) (nI s0) (nI k0) (nI p0) w = NOL := by simp only [sChance, hs, hpx, hw]
            have hwn := inN_not (by decide) (ix_none (by decide) hw)
            refine pb_aload_n0 g dX8_chance_0 ?_
            refine pb_iload_n1 g dX8_chance_1 ?_
            refine pb_iload_n2 g dX8_chance_2 ?_
            refine pb_Vi2 g qX8_164 dX8_chance_3 (k + 5) (by omega) mr_o (m_isChance (k + 4) (s := s0) (n := n) (S := S) (K := K s0) (a := Hh s0) hs0 hS (d2 s0 hs0).1 (d2 s0 hs0).2.1 hKs.1 hKs.2.1 hKs.2.2.1 hn) (fun r3 h3 e3 => ?_)
            obtain ⟨rfl, rfl⟩ := e3
            rw [if_pos hcx]
            first | refine pb_if_eqN g 28 dX8_chance_6 (by decide) (by omega) (fun c6 => ?_) (fun c6 => ?_) | refine pb_if_eq g 28 dX8_chance_6 (by decide) (fun c6 => ?_) (fun c6 => ?_)
            · exact absurd c6 (by decide)
            · refine pb_aload_n0 g dX8_chance_9 ?_
              refine pb_iload_n3 g dX8_chance_10 ?_
              refine pb_Vi1 g qX8_101 dX8_chance_11 (k + 5) (by omega) mr_o (m_isPackT (k + 5) (by assumption) hP) (fun r11 h11 e11 => ?_)
              obtain ⟨rfl, rfl⟩ := e11
              first | refine pb_if_eqN g 28 dX8_chance_14 (by decide) (by omega) (fun c14 => ?_) (fun c14 => ?_) | refine pb_if_eq g 28 dX8_chance_14 (by decide) (fun c14 => ?_) (fun c14 => ?_)
              · exact absurd c14 (by decide)
              · refine pb_iload4 g dX8_chance_17 ?_
                refine pb_if_lt g 28 dX8_chance_19 (by decide) (fun c19 => ?_) (fun c19 => ?_)
                · refine pb_ldc2w (w := (-4611686018427387904)) g kX8_157 (by decide) dX8_chance_28 ?_
                  refine pb_lret g z dX8_chance_31 ?_
                  exact ⟨_, rfl, by rw [e]; rfl, ⟨_, _, _, _, _, _, _, _, _, _, _, _, _, _, _, _, _, _, _, rfl, d1, d2, d3, d4, d5⟩⟩
                · refine pb_iload4 g dX8_chance_22 ?_
                  refine pb_iconst (v := nI 1) g dX8_chance_24 (by decide) ?_
                  first | refine pb_icmp_leN g 32 dX8_chance_25 (by decide) (by omega) (by omega) (fun c25 => ?_) (fun c25 => ?_) | refine pb_icmp_le g 32 dX8_chance_25 (by decide) (fun c25 => ?_) (fun c25 => ?_)
                  · exact absurd hwn (fun q => q.elim c19 (fun w => absurd (Int32.le_trans w c25) (by decide)))
                  · refine pb_ldc2w (w := (-4611686018427387904)) g kX8_157 (by decide) dX8_chance_28 ?_
                    refine pb_lret g z dX8_chance_31 ?_
                    exact ⟨_, rfl, by rw [e]; rfl, ⟨_, _, _, _, _, _, _, _, _, _, _, _, _, _, _, _, _, _, _, rfl, d1, d2, d3, d4, d5⟩⟩
          | some w0 =>
            obtain ⟨hw0, rfl⟩ := ix_some (by decide) hw
            have e : sChance ((n, P, S, sd), (σ, μ, K, Hh), (ts, zz, it), (ra, tr)) (nI s0) (nI k0) (nI p0) (nI w0) = frL (rwF n (K s0) (Hh s0) k0 (lvF n (K s0) (σ p0))) (allF n (K s0) (Hh s0) k0) w0 := by simp only [sChance, hs, hpx, hw, hx, if_pos hcb]
            obtain ⟨⟨f1, f2⟩, f3, f4⟩ := hc_facts hn1 hn hKs.1 hKs.2.1 hKs.2.2.1 hKs.2.2.2.1 hk0 hcb
            have hlv : lvF n (K s0) (σ p0) < n := lvF_lt hn1
            have f3 := f3 _ hlv
            have hpm := hσ p0 hp0
            have hl : ∀ j, j < n → tkF xln xod (10 * p0) n j = nI (σ p0 j) := fun j hj => by rw [tk_at _ _ _ n j hj]; exact d1 p0 hp0 j hj
            by_cases hk4 : K s0 = 4
            · have hn6 : n ≤ 6 := hcB_4 (by rw [← hk4]; exact hcb)
              have hHn := hKs.2.2.2.1 hk4
              have hf7 := fac6 n (by omega)
              have hrk := rk_lt (σ p0) n
              have ea : allF n (K s0) (Hh s0) k0 = n ^ k0 := by rw [allF, lotN, if_pos hk4, Nat.mul_one, hHn]
              have er : rwF n (K s0) (Hh s0) k0 (lvF n (K s0) (σ p0)) = gF n k0 (rkL (σ p0) n n) := by rw [rwF, if_pos hk4, lvF, if_pos hk4, gF, lvR_rk hpm]
              rw [ea, er] at e
              rw [ea] at f1 f2
              rw [er] at f3
              refine pb_aload_n0 g dX8_chance_0 ?_
              refine pb_iload_n1 g dX8_chance_1 ?_
              refine pb_iload_n2 g dX8_chance_2 ?_
              refine pb_Vi2 g qX8_164 dX8_chance_3 (k + 5) (by omega) mr_o (m_isChance (k + 4) (s := s0) (n := n) (S := S) (K := K s0) (a := Hh s0) hs0 hS (d2 s0 hs0).1 (d2 s0 hs0).2.1 hKs.1 hKs.2.1 hKs.2.2.1 hn) (fun r3 h3 e3 => ?_)
              obtain ⟨rfl, rfl⟩ := e3
              rw [if_pos hcx]
              first | refine pb_if_eqN g 28 dX8_chance_6 (by decide) (by omega) (fun c6 => ?_) (fun c6 => ?_) | refine pb_if_eq g 28 dX8_chance_6 (by decide) (fun c6 => ?_) (fun c6 => ?_)
              · exact absurd c6 (by decide)
              · refine pb_aload_n0 g dX8_chance_9 ?_
                refine pb_iload_n3 g dX8_chance_10 ?_
                refine pb_Vi1 g qX8_101 dX8_chance_11 (k + 5) (by omega) mr_o (m_isPackT (k + 5) (by assumption) hP) (fun r11 h11 e11 => ?_)
                obtain ⟨rfl, rfl⟩ := e11
                first | refine pb_if_eqN g 28 dX8_chance_14 (by decide) (by omega) (fun c14 => ?_) (fun c14 => ?_) | refine pb_if_eq g 28 dX8_chance_14 (by decide) (fun c14 => ?_) (fun c14 => ?_)
                · exact absurd c14 (by decide)
                · refine pb_iload4 g dX8_chance_17 ?_
                  refine pb_if_ltN g 28 dX8_chance_19 (by decide) (by omega) ?_
                  refine pb_iload4 g dX8_chance_22 ?_
                  refine pb_iconst (v := nI 1) g dX8_chance_24 (by decide) ?_
                  first | refine pb_icmp_leN g 32 dX8_chance_25 (by decide) (by omega) (by omega) (fun c25 => ?_) (fun c25 => ?_) | refine pb_icmp_le g 32 dX8_chance_25 (by decide) (fun c25 => ?_) (fun c25 => ?_)
                  · refine pb_aload_n0 g dX8_chance_32 ?_
                    refine pb_iload_n3 g dX8_chance_33 ?_
                    refine pb_Vv1 g qX8_107 dX8_chance_34 (k + 5) (by omega) mr_o (m_takes (k + 5) (n := n) (p := p0) hn (by omega)) (fun h34 e34 => ?_)
                    subst e34
                    refine pb_aload_n0 g dX8_chance_37 ?_
                    refine pb_getf g fX8_17 dX8_chance_38 mr_o rfl ?_
                    refine pb_iload_n1 g dX8_chance_41 ?_
                    first | refine pb_ialdN g dX8_chance_42 (by first | exact mr_kind | exact mr_order | exact mr_heaps | exact mr_m | exact mr_line | exact mr_other | exact mr_ways | exact mr_next | exact mr_chances | exact mr_after | exact mr_far | exact mr_groups | exact mr_found | exact mr_counts | exact mr_traySort | exact mr_traySize | exact mr_cells | exact mr_moved | exact mr_traced | assumption) (by omega) (by omega) ?_ | refine pb_ald0 g dX8_chance_42 (by omega) ?_ | refine pb_ald1 g dX8_chance_42 (by omega) ?_ | refine pb_ald2 g dX8_chance_42 (by omega) ?_ | refine pb_ald3 g dX8_chance_42 (by omega) ?_ | refine pb_iald g dX8_chance_42 (by first | exact mr_kind | exact mr_order | exact mr_heaps | exact mr_m | exact mr_line | exact mr_other | exact mr_ways | exact mr_next | exact mr_chances | exact mr_after | exact mr_far | exact mr_groups | exact mr_found | exact mr_counts | exact mr_traySort | exact mr_traySize | exact mr_cells | exact mr_moved | exact mr_traced | assumption) (by assumption) ?_
                    rw [(d2 s0 hs0).1]
                    refine pb_iconst (v := nI 4) g dX8_chance_43 (by decide) ?_
                    first | refine pb_icmp_neN g 81 dX8_chance_44 (by decide) (by omega) (by omega) (fun c44 => ?_) (fun c44 => ?_) | refine pb_icmp_ne g 81 dX8_chance_44 (by decide) (fun c44 => ?_) (fun c44 => ?_)
                    · exact absurd hk4 c44
                    · refine pb_aload_n0 g dX8_chance_47 ?_
                      refine pb_Vi0 g qX8_110 dX8_chance_48 (k + 5) (by omega) mr_o (m_rank (k + 4) (n := n) hn (σ p0) hl (fun j hj => Nat.lt_of_lt_of_le (hpm.1 j hj) hn)) (fun r48 h48 e48 => ?_)
                      obtain ⟨rfl, rfl⟩ := e48
                      refine pb_istore5 g dX8_chance_51 (by decide) ?_
                      refine pb_aload_n0 g dX8_chance_53 ?_
                      refine pb_iload_n2 g dX8_chance_54 ?_
                      refine pb_Vv1 g qX8_168 dX8_chance_55 (k + 5) (by omega) mr_o (m_tops (k + 3) (n := n) (k0 := k0) hn6 hn1 (by omega)) (fun h55 e55 => ?_)
                      obtain ⟨fc, fa, fl, rfl, hfc⟩ := e55
                      refine pb_aload_n0 g dX8_chance_58 ?_
                      refine pb_aload_n0 g dX8_chance_59 ?_
                      refine pb_getf g fX8_39 dX8_chance_60 mr_o rfl ?_
                      refine pb_iload5 g dX8_chance_63 ?_
                      first | refine pb_laldN g dX8_chance_65 (by first | exact mr_chances | exact mr_kind | exact mr_order | exact mr_heaps | exact mr_m | exact mr_line | exact mr_other | exact mr_ways | exact mr_next | exact mr_after | exact mr_far | exact mr_groups | exact mr_found | exact mr_counts | exact mr_traySort | exact mr_traySize | exact mr_cells | exact mr_moved | exact mr_traced | assumption) (by omega) (by omega) ?_ | refine pb_lald g dX8_chance_65 (by first | exact mr_chances | exact mr_kind | exact mr_order | exact mr_heaps | exact mr_m | exact mr_line | exact mr_other | exact mr_ways | exact mr_next | exact mr_after | exact mr_far | exact mr_groups | exact mr_found | exact mr_counts | exact mr_traySort | exact mr_traySize | exact mr_cells | exact mr_moved | exact mr_traced | assumption) (by assumption) ?_
                      rw [hfc _ hrk]
                      refine pb_aload_n0 g dX8_chance_66 ?_
                      refine pb_getf g fX8_7 dX8_chance_67 mr_o rfl ?_
                      first | refine pb_i2lN g dX8_chance_70 (by omega) ?_ | refine pb_i2l g dX8_chance_70 ?_
                      refine pb_iload_n2 g dX8_chance_71 ?_
                      refine pb_Sl2 g qX8_145 dX8_chance_72 (k + 5) (by omega) (m_power (k + 5) (n) (k0) (by omega) _) (fun r72 h72 e72 => ?_)
                      obtain ⟨rfl, rfl⟩ := e72
                      refine pb_iload4 g dX8_chance_75 ?_
                      refine pb_Vl3 g qX8_171 dX8_chance_77 (k + 5) (by omega) mr_o (m_lowest (k + 4) _ _ w0 (by omega) (by omega) f1 hw0 _) (fun r77 h77 e77 => ?_)
                      obtain ⟨rfl, rfl⟩ := e77
                      refine pb_lret g z dX8_chance_80 ?_
                      exact ⟨_, rfl, by rw [e], ⟨_, _, _, _, _, _, _, _, _, _, _, _, _, _, _, _, _, _, _, rfl, d1, d2, d3, d4, d5⟩⟩
                  · exact absurd c25 (by omega)
            · obtain ⟨-, hr⟩ := hcB_3 hKs.1 hk4 hcb
              have hrb := rnL_bd (bkN (σ p0) n) (n - 1)
              have hHa := hKs.2.1
              have hHb := hKs.2.2.1
              have ea : allF n (K s0) (Hh s0) k0 = (Hh s0 ^ k0) ^ n := by rw [allF, lotN, if_neg hk4, Nat.pow_mul]
              have er : rwF n (K s0) (Hh s0) k0 (lvF n (K s0) (σ p0)) = choF (Hh s0 ^ k0 + (n - 1 - (rnL (bkN (σ p0) n) (n - 1) - 1))) n := by
                rw [rwF, if_neg hk4, lvF, if_neg hk4]
                congr 1
                omega
              rw [ea, er] at e
              rw [ea] at f1 f2
              rw [er] at f3
              refine pb_aload_n0 g dX8_chance_0 ?_
              refine pb_iload_n1 g dX8_chance_1 ?_
              refine pb_iload_n2 g dX8_chance_2 ?_
              refine pb_Vi2 g qX8_164 dX8_chance_3 (k + 5) (by omega) mr_o (m_isChance (k + 4) (s := s0) (n := n) (S := S) (K := K s0) (a := Hh s0) hs0 hS (d2 s0 hs0).1 (d2 s0 hs0).2.1 hKs.1 hKs.2.1 hKs.2.2.1 hn) (fun r3 h3 e3 => ?_)
              obtain ⟨rfl, rfl⟩ := e3
              rw [if_pos hcx]
              first | refine pb_if_eqN g 28 dX8_chance_6 (by decide) (by omega) (fun c6 => ?_) (fun c6 => ?_) | refine pb_if_eq g 28 dX8_chance_6 (by decide) (fun c6 => ?_) (fun c6 => ?_)
              · exact absurd c6 (by decide)
              · refine pb_aload_n0 g dX8_chance_9 ?_
                refine pb_iload_n3 g dX8_chance_10 ?_
                refine pb_Vi1 g qX8_101 dX8_chance_11 (k + 5) (by omega) mr_o (m_isPackT (k + 5) (by assumption) hP) (fun r11 h11 e11 => ?_)
                obtain ⟨rfl, rfl⟩ := e11
                first | refine pb_if_eqN g 28 dX8_chance_14 (by decide) (by omega) (fun c14 => ?_) (fun c14 => ?_) | refine pb_if_eq g 28 dX8_chance_14 (by decide) (fun c14 => ?_) (fun c14 => ?_)
                · exact absurd c14 (by decide)
                · refine pb_iload4 g dX8_chance_17 ?_
                  refine pb_if_ltN g 28 dX8_chance_19 (by decide) (by omega) ?_
                  refine pb_iload4 g dX8_chance_22 ?_
                  refine pb_iconst (v := nI 1) g dX8_chance_24 (by decide) ?_
                  first | refine pb_icmp_leN g 32 dX8_chance_25 (by decide) (by omega) (by omega) (fun c25 => ?_) (fun c25 => ?_) | refine pb_icmp_le g 32 dX8_chance_25 (by decide) (fun c25 => ?_) (fun c25 => ?_)
                  · refine pb_aload_n0 g dX8_chance_32 ?_
                    refine pb_iload_n3 g dX8_chance_33 ?_
                    refine pb_Vv1 g qX8_107 dX8_chance_34 (k + 5) (by omega) mr_o (m_takes (k + 5) (n := n) (p := p0) hn (by omega)) (fun h34 e34 => ?_)
                    subst e34
                    refine pb_aload_n0 g dX8_chance_37 ?_
                    refine pb_getf g fX8_17 dX8_chance_38 mr_o rfl ?_
                    refine pb_iload_n1 g dX8_chance_41 ?_
                    first | refine pb_ialdN g dX8_chance_42 (by first | exact mr_kind | exact mr_order | exact mr_heaps | exact mr_m | exact mr_line | exact mr_other | exact mr_ways | exact mr_next | exact mr_chances | exact mr_after | exact mr_far | exact mr_groups | exact mr_found | exact mr_counts | exact mr_traySort | exact mr_traySize | exact mr_cells | exact mr_moved | exact mr_traced | assumption) (by omega) (by omega) ?_ | refine pb_ald0 g dX8_chance_42 (by omega) ?_ | refine pb_ald1 g dX8_chance_42 (by omega) ?_ | refine pb_ald2 g dX8_chance_42 (by omega) ?_ | refine pb_ald3 g dX8_chance_42 (by omega) ?_ | refine pb_iald g dX8_chance_42 (by first | exact mr_kind | exact mr_order | exact mr_heaps | exact mr_m | exact mr_line | exact mr_other | exact mr_ways | exact mr_next | exact mr_chances | exact mr_after | exact mr_far | exact mr_groups | exact mr_found | exact mr_counts | exact mr_traySort | exact mr_traySize | exact mr_cells | exact mr_moved | exact mr_traced | assumption) (by assumption) ?_
                    rw [(d2 s0 hs0).1]
                    refine pb_iconst (v := nI 4) g dX8_chance_43 (by decide) ?_
                    first | refine pb_icmp_neN g 81 dX8_chance_44 (by decide) (by omega) (by omega) (fun c44 => ?_) (fun c44 => ?_) | refine pb_icmp_ne g 81 dX8_chance_44 (by decide) (fun c44 => ?_) (fun c44 => ?_)
                    · refine pb_aload_n0 g dX8_chance_81 ?_
                      refine pb_getf g fX8_20 dX8_chance_82 mr_o rfl ?_
                      refine pb_iload_n1 g dX8_chance_85 ?_
                      first | refine pb_ialdN g dX8_chance_86 (by first | exact mr_heaps | exact mr_kind | exact mr_order | exact mr_m | exact mr_line | exact mr_other | exact mr_ways | exact mr_next | exact mr_chances | exact mr_after | exact mr_far | exact mr_groups | exact mr_found | exact mr_counts | exact mr_traySort | exact mr_traySize | exact mr_cells | exact mr_moved | exact mr_traced | assumption) (by omega) (by omega) ?_ | refine pb_ald0 g dX8_chance_86 (by omega) ?_ | refine pb_ald1 g dX8_chance_86 (by omega) ?_ | refine pb_ald2 g dX8_chance_86 (by omega) ?_ | refine pb_ald3 g dX8_chance_86 (by omega) ?_ | refine pb_iald g dX8_chance_86 (by first | exact mr_heaps | exact mr_kind | exact mr_order | exact mr_m | exact mr_line | exact mr_other | exact mr_ways | exact mr_next | exact mr_chances | exact mr_after | exact mr_far | exact mr_groups | exact mr_found | exact mr_counts | exact mr_traySort | exact mr_traySize | exact mr_cells | exact mr_moved | exact mr_traced | assumption) (by assumption) ?_
                      rw [(d2 s0 hs0).2.1]
                      first | refine pb_i2lN g dX8_chance_87 (by omega) ?_ | refine pb_i2l g dX8_chance_87 ?_
                      refine pb_iload_n2 g dX8_chance_88 ?_
                      refine pb_Sl2 g qX8_145 dX8_chance_89 (k + 5) (by omega) (m_power (k + 5) (Hh s0) (k0) (by omega) _) (fun r89 h89 e89 => ?_)
                      obtain ⟨rfl, rfl⟩ := e89
                      first | refine pb_l2iN g dX8_chance_92 ?_ | refine pb_l2i g dX8_chance_92 ?_
                      refine pb_istore5 g dX8_chance_93 (by decide) ?_
                      refine pb_aload_n0 g dX8_chance_95 ?_
                      refine pb_aload_n0 g dX8_chance_96 ?_
                      refine pb_iload5 g dX8_chance_97 ?_
                      refine pb_aload_n0 g dX8_chance_99 ?_
                      refine pb_Vi0 g qX8_113 dX8_chance_100 (k + 5) (by omega) mr_o (m_runsOf (k + 4) (n := n) hn hn1 (σ p0) hl hpm) (fun r100 h100 e100 => ?_)
                      obtain ⟨rfl, rfl⟩ := e100
                      refine pb_iconst (v := nI 1) g dX8_chance_103 (by decide) ?_
                      first | refine pb_isubN g dX8_chance_104 (by omega) ?_ | refine pb_isub g dX8_chance_104 ?_
                      refine pb_Vl2 g qX8_175 dX8_chance_105 (k + 5) (by omega) mr_o (m_heapWays (k + 5) (n := n) (a := Hh s0 ^ k0) (r := rnL (bkN (σ p0) n) (n - 1) - 1) hn hn1 hr (by omega)) (fun r105 h105 e105 => ?_)
                      obtain ⟨rfl, f7, f8, rfl⟩ := e105
                      refine pb_iload5 g dX8_chance_108 ?_
                      first | refine pb_i2lN g dX8_chance_110 (by omega) ?_ | refine pb_i2l g dX8_chance_110 ?_
                      refine pb_aload_n0 g dX8_chance_111 ?_
                      refine pb_getf g fX8_7 dX8_chance_112 mr_o rfl ?_
                      refine pb_Sl2 g qX8_145 dX8_chance_115 (k + 5) (by omega) (m_power (k + 5) (Hh s0 ^ k0) (n) (by omega) _) (fun r115 h115 e115 => ?_)
                      obtain ⟨rfl, rfl⟩ := e115
                      refine pb_iload4 g dX8_chance_118 ?_
                      refine pb_Vl3 g qX8_171 dX8_chance_120 (k + 5) (by omega) mr_o (m_lowest (k + 4) _ _ w0 (by omega) (by omega) f1 hw0 _) (fun r120 h120 e120 => ?_)
                      obtain ⟨rfl, rfl⟩ := e120
                      refine pb_lret g z dX8_chance_123 ?_
                      exact ⟨_, rfl, by rw [e], ⟨_, _, _, _, _, _, _, _, _, _, _, _, _, _, _, _, _, _, _, rfl, d1, d2, d3, d4, d5⟩⟩
                    · exact absurd c44 hk4
                  · exact absurd c25 (by omega)
    · have e : sChance ((n, P, S, sd), (σ, μ, K, Hh), (ts, zz, it), (ra, tr)) (nI s0) x p w = NOL := by
        simp only [sChance, hs]
        cases ix p P with
        | none => rfl
        | some p0 =>
          cases ix w 2 with
          | none => rfl
          | some w0 =>
            cases hx : ix x 7 with
            | none => rfl
            | some k0 => simp only [hcX, hx] at hcx; exact if_neg hcx
      refine pb_aload_n0 g dX8_chance_0 ?_
      refine pb_iload_n1 g dX8_chance_1 ?_
      refine pb_iload_n2 g dX8_chance_2 ?_
      refine pb_Vi2 g qX8_164 dX8_chance_3 (k + 5) (by omega) mr_o (m_isChance (k + 4) (s := s0) (n := n) (S := S) (K := K s0) (a := Hh s0) hs0 hS (d2 s0 hs0).1 (d2 s0 hs0).2.1 hKs.1 hKs.2.1 hKs.2.2.1 hn) (fun r3 h3 e3 => ?_)
      obtain ⟨rfl, rfl⟩ := e3
      rw [if_neg hcx]
      first | refine pb_if_eqN g 28 dX8_chance_6 (by decide) (by omega) (fun c6 => ?_) (fun c6 => ?_) | refine pb_if_eq g 28 dX8_chance_6 (by decide) (fun c6 => ?_) (fun c6 => ?_)
      · refine pb_ldc2w (w := (-4611686018427387904)) g kX8_157 (by decide) dX8_chance_28 ?_
        refine pb_lret g z dX8_chance_31 ?_
        exact ⟨_, rfl, by rw [e]; rfl, ⟨_, _, _, _, _, _, _, _, _, _, _, _, _, _, _, _, _, _, _, rfl, d1, d2, d3, d4, d5⟩⟩
      · exact absurd c6 (by decide)
