/-! ===== the reference: lots told and drawn ===== -/
set_option maxHeartbeats 4000000 in
set_option maxRecDepth 100000 in
theorem m_lots (k : Nat) (q : SP) (s p : Int32) (L : Int64) (h : PH) (hD : IsM q h) (hI : SI q) : Runs yX8_lots cX8_lots 5 (some .int) (k + 6) [.ref 0, .int s, .int p, .long L] h (fun oo h' => ∃ r : Int32, oo = some (.int r) ∧ r = (sLots q s p L).1 ∧ IsM ((sLots q s p L).2) h') := by
  obtain ⟨⟨n, P, S, sd⟩, ⟨σ, μ, K, Hh⟩, ⟨ts, zz, it⟩, ⟨ra, tr⟩⟩ := q
  obtain ⟨⟨hn1, hn, hP, hS⟩, hσ, hK, hz, hra⟩ := hI
  obtain ⟨xod, xkn, xhs, xmm, xln, xot, xfa, xgr, xtsr, xtsz, xce, xmv, xtc, xwy, xnx, xch, xaf, xfo, xco, rfl, d1, d2, d3, d4, d5⟩ := hD
  refine Runs.of (by decide) (Nat.le_of_ble_eq_true rfl) [some (.ref 0), some (.int s), some (.int p), some (.long L), none] 0 rfl (fun Γ g z => ?_)
  cases hs : ix s S with
  | none =>
    have e : sLots ((n, P, S, sd), (σ, μ, K, Hh), (ts, zz, it), (ra, tr)) s p L = (-2, ((n, P, S, sd), (σ, μ, K, Hh), (ts, zz, it), (ra, tr))) := by simp only [sLots, hs]
    have hsn := ix_none (by omega) hs
    refine pb_aload_n0 g dX8_lots_0 ?_
    refine pb_iload_n1 g dX8_lots_1 ?_
    refine pb_Vi1 g qX8_123 dX8_lots_2 (k + 5) (by omega) mr_o (m_isShuffleF (k + 5) (by assumption) hS) (fun r2 h2 e2 => ?_)
    obtain ⟨rfl, rfl⟩ := e2
    first | refine pb_if_eqN g 16 dX8_lots_5 (by decide) (by omega) (fun c5 => ?_) (fun c5 => ?_) | refine pb_if_eq g 16 dX8_lots_5 (by decide) (fun c5 => ?_) (fun c5 => ?_)
    · refine pb_bipush (v := -2) g dX8_lots_16 (by decide) ?_
      refine pb_iret g z dX8_lots_18 ?_
      exact ⟨_, rfl, by rw [e], by rw [e]; exact ⟨_, _, _, _, _, _, _, _, _, _, _, _, _, _, _, _, _, _, _, rfl, d1, d2, d3, d4, d5⟩⟩
    · exact absurd c5 (by decide)
  | some s0 =>
    obtain ⟨hs0, rfl⟩ := ix_some (by omega) hs
    cases hpx : ix p P with
    | none =>
      have e : sLots ((n, P, S, sd), (σ, μ, K, Hh), (ts, zz, it), (ra, tr)) (nI s0) p L = (-2, ((n, P, S, sd), (σ, μ, K, Hh), (ts, zz, it), (ra, tr))) := by simp only [sLots, hs, hpx]
      have hpn := ix_none (by omega) hpx
      refine pb_aload_n0 g dX8_lots_0 ?_
      refine pb_iload_n1 g dX8_lots_1 ?_
      refine pb_Vi1 g qX8_123 dX8_lots_2 (k + 5) (by omega) mr_o (m_isShuffleT (k + 5) (by assumption) hS) (fun r2 h2 e2 => ?_)
      obtain ⟨rfl, rfl⟩ := e2
      first | refine pb_if_eqN g 16 dX8_lots_5 (by decide) (by omega) (fun c5 => ?_) (fun c5 => ?_) | refine pb_if_eq g 16 dX8_lots_5 (by decide) (fun c5 => ?_) (fun c5 => ?_)
      · exact absurd c5 (by decide)
      · refine pb_aload_n0 g dX8_lots_8 ?_
        refine pb_iload_n2 g dX8_lots_9 ?_
        refine pb_Vi1 g qX8_101 dX8_lots_10 (k + 5) (by omega) mr_o (m_isPackF (k + 5) (by assumption) hP) (fun r10 h10 e10 => ?_)
        obtain ⟨rfl, rfl⟩ := e10
        first | refine pb_if_neN g 19 dX8_lots_13 (by decide) (by omega) (fun c13 => ?_) (fun c13 => ?_) | refine pb_if_ne g 19 dX8_lots_13 (by decide) (fun c13 => ?_) (fun c13 => ?_)
        · exact absurd c13 (by decide)
        · refine pb_bipush (v := -2) g dX8_lots_16 (by decide) ?_
          refine pb_iret g z dX8_lots_18 ?_
          exact ⟨_, rfl, by rw [e], by rw [e]; exact ⟨_, _, _, _, _, _, _, _, _, _, _, _, _, _, _, _, _, _, _, rfl, d1, d2, d3, d4, d5⟩⟩
    | some p0 =>
      obtain ⟨hp0, rfl⟩ := ix_some (by omega) hpx
      have hKs := hK s0 hs0
      by_cases h3 : K s0 < 3
      · have e : sLots ((n, P, S, sd), (σ, μ, K, Hh), (ts, zz, it), (ra, tr)) (nI s0) (nI p0) L = (-3, ((n, P, S, sd), (σ, μ, K, Hh), (ts, zz, it), (ra, tr))) := by simp only [sLots, hs, hpx]; exact if_pos h3
        refine pb_aload_n0 g dX8_lots_0 ?_
        refine pb_iload_n1 g dX8_lots_1 ?_
        refine pb_Vi1 g qX8_123 dX8_lots_2 (k + 5) (by omega) mr_o (m_isShuffleT (k + 5) (by assumption) hS) (fun r2 h2 e2 => ?_)
        obtain ⟨rfl, rfl⟩ := e2
        first | refine pb_if_eqN g 16 dX8_lots_5 (by decide) (by omega) (fun c5 => ?_) (fun c5 => ?_) | refine pb_if_eq g 16 dX8_lots_5 (by decide) (fun c5 => ?_) (fun c5 => ?_)
        · exact absurd c5 (by decide)
        · refine pb_aload_n0 g dX8_lots_8 ?_
          refine pb_iload_n2 g dX8_lots_9 ?_
          refine pb_Vi1 g qX8_101 dX8_lots_10 (k + 5) (by omega) mr_o (m_isPackT (k + 5) (by assumption) hP) (fun r10 h10 e10 => ?_)
          obtain ⟨rfl, rfl⟩ := e10
          first | refine pb_if_neN g 19 dX8_lots_13 (by decide) (by omega) (fun c13 => ?_) (fun c13 => ?_) | refine pb_if_ne g 19 dX8_lots_13 (by decide) (fun c13 => ?_) (fun c13 => ?_)
          · refine pb_aload_n0 g dX8_lots_19 ?_
            refine pb_iload_n1 g dX8_lots_20 ?_
            refine pb_Vi1 g qX8_126 dX8_lots_21 (k + 5) (by omega) mr_o (m_hasMove (k + 5) (s := s0) (K := K s0) (by omega) (d2 s0 (by assumption)).1 (hK s0 (by assumption)).1) (fun r21 h21 e21 => ?_)
            obtain ⟨rfl, rfl⟩ := e21
            rw [if_pos (by assumption)]
            first | refine pb_if_eqN g 30 dX8_lots_24 (by decide) (by omega) (fun c24 => ?_) (fun c24 => ?_) | refine pb_if_eq g 30 dX8_lots_24 (by decide) (fun c24 => ?_) (fun c24 => ?_)
            · exact absurd c24 (by decide)
            · refine pb_bipush (v := -3) g dX8_lots_27 (by decide) ?_
              refine pb_iret g z dX8_lots_29 ?_
              exact ⟨_, rfl, by rw [e], by rw [e]; exact ⟨_, _, _, _, _, _, _, _, _, _, _, _, _, _, _, _, _, _, _, rfl, d1, d2, d3, d4, d5⟩⟩
          · exact absurd c13 (by decide)
      · by_cases hL0 : L < 0
        · have e : sLots ((n, P, S, sd), (σ, μ, K, Hh), (ts, zz, it), (ra, tr)) (nI s0) (nI p0) L = (-2, ((n, P, S, sd), (σ, μ, K, Hh), (ts, zz, it), (ra, tr))) := by simp only [sLots, hs, hpx]; rw [if_neg h3, if_pos (Or.inl hL0)]
          refine pb_aload_n0 g dX8_lots_0 ?_
          refine pb_iload_n1 g dX8_lots_1 ?_
          refine pb_Vi1 g qX8_123 dX8_lots_2 (k + 5) (by omega) mr_o (m_isShuffleT (k + 5) (by assumption) hS) (fun r2 h2 e2 => ?_)
          obtain ⟨rfl, rfl⟩ := e2
          first | refine pb_if_eqN g 16 dX8_lots_5 (by decide) (by omega) (fun c5 => ?_) (fun c5 => ?_) | refine pb_if_eq g 16 dX8_lots_5 (by decide) (fun c5 => ?_) (fun c5 => ?_)
          · exact absurd c5 (by decide)
          · refine pb_aload_n0 g dX8_lots_8 ?_
            refine pb_iload_n2 g dX8_lots_9 ?_
            refine pb_Vi1 g qX8_101 dX8_lots_10 (k + 5) (by omega) mr_o (m_isPackT (k + 5) (by assumption) hP) (fun r10 h10 e10 => ?_)
            obtain ⟨rfl, rfl⟩ := e10
            first | refine pb_if_neN g 19 dX8_lots_13 (by decide) (by omega) (fun c13 => ?_) (fun c13 => ?_) | refine pb_if_ne g 19 dX8_lots_13 (by decide) (fun c13 => ?_) (fun c13 => ?_)
            · refine pb_aload_n0 g dX8_lots_19 ?_
              refine pb_iload_n1 g dX8_lots_20 ?_
              refine pb_Vi1 g qX8_126 dX8_lots_21 (k + 5) (by omega) mr_o (m_hasMove (k + 5) (s := s0) (K := K s0) (by omega) (d2 s0 (by assumption)).1 (hK s0 (by assumption)).1) (fun r21 h21 e21 => ?_)
              obtain ⟨rfl, rfl⟩ := e21
              rw [if_neg (by assumption)]
              first | refine pb_if_eqN g 30 dX8_lots_24 (by decide) (by omega) (fun c24 => ?_) (fun c24 => ?_) | refine pb_if_eq g 30 dX8_lots_24 (by decide) (fun c24 => ?_) (fun c24 => ?_)
              · refine pb_lload_n3 g dX8_lots_30 ?_
                refine pb_lconst (v := lN 0) g dX8_lots_31 rfl ?_
                first | refine pb_lc_ltN g 73 dX8_lots_32 dX8_lots_33 (by decide) (by omega) (by omega) (fun c32 => ?_) (fun c32 => ?_) | refine pb_lc_lt g 73 dX8_lots_32 dX8_lots_33 (by decide) (fun c32 => ?_) (fun c32 => ?_)
                · refine pb_bipush (v := -2) g dX8_lots_73 (by decide) ?_
                  refine pb_iret g z dX8_lots_75 ?_
                  exact ⟨_, rfl, by rw [e], by rw [e]; exact ⟨_, _, _, _, _, _, _, _, _, _, _, _, _, _, _, _, _, _, _, rfl, d1, d2, d3, d4, d5⟩⟩
                · exact absurd hL0 c32
              · exact absurd c24 (by decide)
            · exact absurd c13 (by decide)
        · obtain ⟨L, hL, rfl⟩ := pk_lOf hL0
          have hlt := lot_lt (K := K s0) hKs.2.2.1 hn
          by_cases hk4 : K s0 = 4
          · have e1 : Hh s0 ^ lotN (K s0) n = n := by rw [lotN, if_pos hk4, Nat.pow_one, hKs.2.2.2.1 hk4]
            rw [e1] at hlt
            by_cases hLn : L < n
            · have e : sLots ((n, P, S, sd), (σ, μ, K, Hh), (ts, zz, it), (ra, tr)) (nI s0) (nI p0) (lN L) = (1, ((n, P, S, sd), (va_up σ p0 (layO n (K s0) (fun i => L / Hh s0 ^ i % Hh s0) (σ p0)), μ, K, Hh), (ts, zz, it), (ra, tr))) := by
                simp only [sLots, hs, hpx]
                rw [if_neg h3, if_neg (fun z => z.elim hL0 (fun w => by rw [e1] at w; exact absurd ((pk_lLE (by omega) hL).mp w) (by omega))), lN_clamp hL]
              refine pb_aload_n0 g dX8_lots_0 ?_
              refine pb_iload_n1 g dX8_lots_1 ?_
              refine pb_Vi1 g qX8_123 dX8_lots_2 (k + 5) (by omega) mr_o (m_isShuffleT (k + 5) (by assumption) hS) (fun r2 h2 e2 => ?_)
              obtain ⟨rfl, rfl⟩ := e2
              first | refine pb_if_eqN g 16 dX8_lots_5 (by decide) (by omega) (fun c5 => ?_) (fun c5 => ?_) | refine pb_if_eq g 16 dX8_lots_5 (by decide) (fun c5 => ?_) (fun c5 => ?_)
              · exact absurd c5 (by decide)
              · refine pb_aload_n0 g dX8_lots_8 ?_
                refine pb_iload_n2 g dX8_lots_9 ?_
                refine pb_Vi1 g qX8_101 dX8_lots_10 (k + 5) (by omega) mr_o (m_isPackT (k + 5) (by assumption) hP) (fun r10 h10 e10 => ?_)
                obtain ⟨rfl, rfl⟩ := e10
                first | refine pb_if_neN g 19 dX8_lots_13 (by decide) (by omega) (fun c13 => ?_) (fun c13 => ?_) | refine pb_if_ne g 19 dX8_lots_13 (by decide) (fun c13 => ?_) (fun c13 => ?_)
                · refine pb_aload_n0 g dX8_lots_19 ?_
                  refine pb_iload_n1 g dX8_lots_20 ?_
                  refine pb_Vi1 g qX8_126 dX8_lots_21 (k + 5) (by omega) mr_o (m_hasMove (k + 5) (s := s0) (K := K s0) (by omega) (d2 s0 (by assumption)).1 (hK s0 (by assumption)).1) (fun r21 h21 e21 => ?_)
                  obtain ⟨rfl, rfl⟩ := e21
                  rw [if_neg (by assumption)]
                  first | refine pb_if_eqN g 30 dX8_lots_24 (by decide) (by omega) (fun c24 => ?_) (fun c24 => ?_) | refine pb_if_eq g 30 dX8_lots_24 (by decide) (fun c24 => ?_) (fun c24 => ?_)
                  · refine pb_lload_n3 g dX8_lots_30 ?_
                    refine pb_lconst (v := lN 0) g dX8_lots_31 rfl ?_
                    first | refine pb_lc_ltN g 73 dX8_lots_32 dX8_lots_33 (by decide) (by omega) (by omega) (fun c32 => ?_) (fun c32 => ?_) | refine pb_lc_lt g 73 dX8_lots_32 dX8_lots_33 (by decide) (fun c32 => ?_) (fun c32 => ?_)
                    · exact absurd c32 (by omega)
                    · refine pb_lload_n3 g dX8_lots_36 ?_
                      refine pb_aload_n0 g dX8_lots_37 ?_
                      refine pb_getf g fX8_17 dX8_lots_38 mr_o rfl ?_
                      refine pb_iload_n1 g dX8_lots_41 ?_
                      first | refine pb_ialdN g dX8_lots_42 (by first | exact mr_kind | exact mr_order | exact mr_heaps | exact mr_m | exact mr_line | exact mr_other | exact mr_ways | exact mr_next | exact mr_chances | exact mr_after | exact mr_far | exact mr_groups | exact mr_found | exact mr_counts | exact mr_traySort | exact mr_traySize | exact mr_cells | exact mr_moved | exact mr_traced | assumption) (by omega) (by omega) ?_ | refine pb_ald0 g dX8_lots_42 (by omega) ?_ | refine pb_ald1 g dX8_lots_42 (by omega) ?_ | refine pb_ald2 g dX8_lots_42 (by omega) ?_ | refine pb_ald3 g dX8_lots_42 (by omega) ?_ | refine pb_iald g dX8_lots_42 (by first | exact mr_kind | exact mr_order | exact mr_heaps | exact mr_m | exact mr_line | exact mr_other | exact mr_ways | exact mr_next | exact mr_chances | exact mr_after | exact mr_far | exact mr_groups | exact mr_found | exact mr_counts | exact mr_traySort | exact mr_traySize | exact mr_cells | exact mr_moved | exact mr_traced | assumption) (by assumption) ?_
                      rw [(d2 s0 hs0).1]
                      refine pb_iconst (v := nI 4) g dX8_lots_43 (by decide) ?_
                      first | refine pb_icmp_neN g 55 dX8_lots_44 (by decide) (by omega) (by omega) (fun c44 => ?_) (fun c44 => ?_) | refine pb_icmp_ne g 55 dX8_lots_44 (by decide) (fun c44 => ?_) (fun c44 => ?_)
                      · exact absurd hk4 c44
                      · refine pb_aload_n0 g dX8_lots_47 ?_
                        refine pb_getf g fX8_7 dX8_lots_48 mr_o rfl ?_
                        first | refine pb_i2lN g dX8_lots_51 (by omega) ?_ | refine pb_i2l g dX8_lots_51 ?_
                        refine pb_goto g 69 dX8_lots_52 (by decide) ?_
                        first | refine pb_lc_ltN g 76 dX8_lots_69 dX8_lots_70 (by decide) (by omega) (by omega) (fun c69 => ?_) (fun c69 => ?_) | refine pb_lc_lt g 76 dX8_lots_69 dX8_lots_70 (by decide) (fun c69 => ?_) (fun c69 => ?_)
                        · refine pb_aload_n0 g dX8_lots_76 ?_
                          refine pb_iload_n1 g dX8_lots_77 ?_
                          refine pb_iload_n2 g dX8_lots_78 ?_
                          refine pb_lload_n3 g dX8_lots_79 ?_
                          refine pb_Vv3 g qX8_149 dX8_lots_80 (k + 5) (by omega) mr_o (m_lays (k + 4) (n := n) (p := p0) (s := s0) (K := K s0) (a := Hh s0) (L := L) hn hn1 (by omega) (by omega) (d2 s0 hs0).1 hKs.1 (d2 s0 hs0).2.1 hKs.2.1 hKs.2.2.1 hL (fun q => ⟨hLn, hKs.2.2.2.1 q⟩) (σ p0) (d1 p0 hp0)) (fun h80 e80 => ?_)
                          obtain ⟨f9, l9, rfl, hf9⟩ := e80
                          refine pb_iconst (v := nI 1) g dX8_lots_83 (by decide) ?_
                          refine pb_iret g z dX8_lots_84 ?_
                          exact ⟨_, rfl, by rw [e]; rfl, by rw [e]; exact ⟨_, _, _, _, _, _, _, _, _, _, _, _, _, _, _, _, _, _, _, rfl, m1_up hn d1 hf9 (fun p h1 _ => h1), d2, d3, d4, d5⟩⟩
                        · exact absurd c69 (by omega)
                  · exact absurd c24 (by decide)
                · exact absurd c13 (by decide)
            · have e : sLots ((n, P, S, sd), (σ, μ, K, Hh), (ts, zz, it), (ra, tr)) (nI s0) (nI p0) (lN L) = (-2, ((n, P, S, sd), (σ, μ, K, Hh), (ts, zz, it), (ra, tr))) := by
                simp only [sLots, hs, hpx]
                rw [if_neg h3, if_pos (Or.inr (by rw [e1]; exact (pk_lLE (by omega) hL).mpr (by omega)))]
              refine pb_aload_n0 g dX8_lots_0 ?_
              refine pb_iload_n1 g dX8_lots_1 ?_
              refine pb_Vi1 g qX8_123 dX8_lots_2 (k + 5) (by omega) mr_o (m_isShuffleT (k + 5) (by assumption) hS) (fun r2 h2 e2 => ?_)
              obtain ⟨rfl, rfl⟩ := e2
              first | refine pb_if_eqN g 16 dX8_lots_5 (by decide) (by omega) (fun c5 => ?_) (fun c5 => ?_) | refine pb_if_eq g 16 dX8_lots_5 (by decide) (fun c5 => ?_) (fun c5 => ?_)
              · exact absurd c5 (by decide)
              · refine pb_aload_n0 g dX8_lots_8 ?_
                refine pb_iload_n2 g dX8_lots_9 ?_
                refine pb_Vi1 g qX8_101 dX8_lots_10 (k + 5) (by omega) mr_o (m_isPackT (k + 5) (by assumption) hP) (fun r10 h10 e10 => ?_)
                obtain ⟨rfl, rfl⟩ := e10
                first | refine pb_if_neN g 19 dX8_lots_13 (by decide) (by omega) (fun c13 => ?_) (fun c13 => ?_) | refine pb_if_ne g 19 dX8_lots_13 (by decide) (fun c13 => ?_) (fun c13 => ?_)
                · refine pb_aload_n0 g dX8_lots_19 ?_
                  refine pb_iload_n1 g dX8_lots_20 ?_
                  refine pb_Vi1 g qX8_126 dX8_lots_21 (k + 5) (by omega) mr_o (m_hasMove (k + 5) (s := s0) (K := K s0) (by omega) (d2 s0 (by assumption)).1 (hK s0 (by assumption)).1) (fun r21 h21 e21 => ?_)
                  obtain ⟨rfl, rfl⟩ := e21
                  rw [if_neg (by assumption)]
                  first | refine pb_if_eqN g 30 dX8_lots_24 (by decide) (by omega) (fun c24 => ?_) (fun c24 => ?_) | refine pb_if_eq g 30 dX8_lots_24 (by decide) (fun c24 => ?_) (fun c24 => ?_)
                  · refine pb_lload_n3 g dX8_lots_30 ?_
                    refine pb_lconst (v := lN 0) g dX8_lots_31 rfl ?_
                    first | refine pb_lc_ltN g 73 dX8_lots_32 dX8_lots_33 (by decide) (by omega) (by omega) (fun c32 => ?_) (fun c32 => ?_) | refine pb_lc_lt g 73 dX8_lots_32 dX8_lots_33 (by decide) (fun c32 => ?_) (fun c32 => ?_)
                    · exact absurd c32 (by omega)
                    · refine pb_lload_n3 g dX8_lots_36 ?_
                      refine pb_aload_n0 g dX8_lots_37 ?_
                      refine pb_getf g fX8_17 dX8_lots_38 mr_o rfl ?_
                      refine pb_iload_n1 g dX8_lots_41 ?_
                      first | refine pb_ialdN g dX8_lots_42 (by first | exact mr_kind | exact mr_order | exact mr_heaps | exact mr_m | exact mr_line | exact mr_other | exact mr_ways | exact mr_next | exact mr_chances | exact mr_after | exact mr_far | exact mr_groups | exact mr_found | exact mr_counts | exact mr_traySort | exact mr_traySize | exact mr_cells | exact mr_moved | exact mr_traced | assumption) (by omega) (by omega) ?_ | refine pb_ald0 g dX8_lots_42 (by omega) ?_ | refine pb_ald1 g dX8_lots_42 (by omega) ?_ | refine pb_ald2 g dX8_lots_42 (by omega) ?_ | refine pb_ald3 g dX8_lots_42 (by omega) ?_ | refine pb_iald g dX8_lots_42 (by first | exact mr_kind | exact mr_order | exact mr_heaps | exact mr_m | exact mr_line | exact mr_other | exact mr_ways | exact mr_next | exact mr_chances | exact mr_after | exact mr_far | exact mr_groups | exact mr_found | exact mr_counts | exact mr_traySort | exact mr_traySize | exact mr_cells | exact mr_moved | exact mr_traced | assumption) (by assumption) ?_
                      rw [(d2 s0 hs0).1]
                      refine pb_iconst (v := nI 4) g dX8_lots_43 (by decide) ?_
                      first | refine pb_icmp_neN g 55 dX8_lots_44 (by decide) (by omega) (by omega) (fun c44 => ?_) (fun c44 => ?_) | refine pb_icmp_ne g 55 dX8_lots_44 (by decide) (fun c44 => ?_) (fun c44 => ?_)
                      · exact absurd hk4 c44
                      · refine pb_aload_n0 g dX8_lots_47 ?_
                        refine pb_getf g fX8_7 dX8_lots_48 mr_o rfl ?_
                        first | refine pb_i2lN g dX8_lots_51 (by omega) ?_ | refine pb_i2l g dX8_lots_51 ?_
                        refine pb_goto g 69 dX8_lots_52 (by decide) ?_
                        first | refine pb_lc_ltN g 76 dX8_lots_69 dX8_lots_70 (by decide) (by omega) (by omega) (fun c69 => ?_) (fun c69 => ?_) | refine pb_lc_lt g 76 dX8_lots_69 dX8_lots_70 (by decide) (fun c69 => ?_) (fun c69 => ?_)
                        · exact absurd c69 (by omega)
                        · refine pb_bipush (v := -2) g dX8_lots_73 (by decide) ?_
                          refine pb_iret g z dX8_lots_75 ?_
                          exact ⟨_, rfl, by rw [e], by rw [e]; exact ⟨_, _, _, _, _, _, _, _, _, _, _, _, _, _, _, _, _, _, _, rfl, d1, d2, d3, d4, d5⟩⟩
                  · exact absurd c24 (by decide)
                · exact absurd c13 (by decide)
          · have e1 : Hh s0 ^ lotN (K s0) n = Hh s0 ^ n := by rw [lotN, if_neg hk4]
            rw [e1] at hlt
            by_cases hLn : L < Hh s0 ^ n
            · have e : sLots ((n, P, S, sd), (σ, μ, K, Hh), (ts, zz, it), (ra, tr)) (nI s0) (nI p0) (lN L) = (1, ((n, P, S, sd), (va_up σ p0 (layO n (K s0) (fun i => L / Hh s0 ^ i % Hh s0) (σ p0)), μ, K, Hh), (ts, zz, it), (ra, tr))) := by
                simp only [sLots, hs, hpx]
                rw [if_neg h3, if_neg (fun z => z.elim hL0 (fun w => by rw [e1] at w; exact absurd ((pk_lLE (by omega) hL).mp w) (by omega))), lN_clamp hL]
              refine pb_aload_n0 g dX8_lots_0 ?_
              refine pb_iload_n1 g dX8_lots_1 ?_
              refine pb_Vi1 g qX8_123 dX8_lots_2 (k + 5) (by omega) mr_o (m_isShuffleT (k + 5) (by assumption) hS) (fun r2 h2 e2 => ?_)
              obtain ⟨rfl, rfl⟩ := e2
              first | refine pb_if_eqN g 16 dX8_lots_5 (by decide) (by omega) (fun c5 => ?_) (fun c5 => ?_) | refine pb_if_eq g 16 dX8_lots_5 (by decide) (fun c5 => ?_) (fun c5 => ?_)
              · exact absurd c5 (by decide)
              · refine pb_aload_n0 g dX8_lots_8 ?_
                refine pb_iload_n2 g dX8_lots_9 ?_
                refine pb_Vi1 g qX8_101 dX8_lots_10 (k + 5) (by omega) mr_o (m_isPackT (k + 5) (by assumption) hP) (fun r10 h10 e10 => ?_)
                obtain ⟨rfl, rfl⟩ := e10
                first | refine pb_if_neN g 19 dX8_lots_13 (by decide) (by omega) (fun c13 => ?_) (fun c13 => ?_) | refine pb_if_ne g 19 dX8_lots_13 (by decide) (fun c13 => ?_) (fun c13 => ?_)
                · refine pb_aload_n0 g dX8_lots_19 ?_
                  refine pb_iload_n1 g dX8_lots_20 ?_
                  refine pb_Vi1 g qX8_126 dX8_lots_21 (k + 5) (by omega) mr_o (m_hasMove (k + 5) (s := s0) (K := K s0) (by omega) (d2 s0 (by assumption)).1 (hK s0 (by assumption)).1) (fun r21 h21 e21 => ?_)
                  obtain ⟨rfl, rfl⟩ := e21
                  rw [if_neg (by assumption)]
                  first | refine pb_if_eqN g 30 dX8_lots_24 (by decide) (by omega) (fun c24 => ?_) (fun c24 => ?_) | refine pb_if_eq g 30 dX8_lots_24 (by decide) (fun c24 => ?_) (fun c24 => ?_)
                  · refine pb_lload_n3 g dX8_lots_30 ?_
                    refine pb_lconst (v := lN 0) g dX8_lots_31 rfl ?_
                    first | refine pb_lc_ltN g 73 dX8_lots_32 dX8_lots_33 (by decide) (by omega) (by omega) (fun c32 => ?_) (fun c32 => ?_) | refine pb_lc_lt g 73 dX8_lots_32 dX8_lots_33 (by decide) (fun c32 => ?_) (fun c32 => ?_)
                    · exact absurd c32 (by omega)
                    · refine pb_lload_n3 g dX8_lots_36 ?_
                      refine pb_aload_n0 g dX8_lots_37 ?_
                      refine pb_getf g fX8_17 dX8_lots_38 mr_o rfl ?_
                      refine pb_iload_n1 g dX8_lots_41 ?_
                      first | refine pb_ialdN g dX8_lots_42 (by first | exact mr_kind | exact mr_order | exact mr_heaps | exact mr_m | exact mr_line | exact mr_other | exact mr_ways | exact mr_next | exact mr_chances | exact mr_after | exact mr_far | exact mr_groups | exact mr_found | exact mr_counts | exact mr_traySort | exact mr_traySize | exact mr_cells | exact mr_moved | exact mr_traced | assumption) (by omega) (by omega) ?_ | refine pb_ald0 g dX8_lots_42 (by omega) ?_ | refine pb_ald1 g dX8_lots_42 (by omega) ?_ | refine pb_ald2 g dX8_lots_42 (by omega) ?_ | refine pb_ald3 g dX8_lots_42 (by omega) ?_ | refine pb_iald g dX8_lots_42 (by first | exact mr_kind | exact mr_order | exact mr_heaps | exact mr_m | exact mr_line | exact mr_other | exact mr_ways | exact mr_next | exact mr_chances | exact mr_after | exact mr_far | exact mr_groups | exact mr_found | exact mr_counts | exact mr_traySort | exact mr_traySize | exact mr_cells | exact mr_moved | exact mr_traced | assumption) (by assumption) ?_
                      rw [(d2 s0 hs0).1]
                      refine pb_iconst (v := nI 4) g dX8_lots_43 (by decide) ?_
                      first | refine pb_icmp_neN g 55 dX8_lots_44 (by decide) (by omega) (by omega) (fun c44 => ?_) (fun c44 => ?_) | refine pb_icmp_ne g 55 dX8_lots_44 (by decide) (fun c44 => ?_) (fun c44 => ?_)
                      · refine pb_aload_n0 g dX8_lots_55 ?_
                        refine pb_getf g fX8_20 dX8_lots_56 mr_o rfl ?_
                        refine pb_iload_n1 g dX8_lots_59 ?_
                        first | refine pb_ialdN g dX8_lots_60 (by first | exact mr_heaps | exact mr_kind | exact mr_order | exact mr_m | exact mr_line | exact mr_other | exact mr_ways | exact mr_next | exact mr_chances | exact mr_after | exact mr_far | exact mr_groups | exact mr_found | exact mr_counts | exact mr_traySort | exact mr_traySize | exact mr_cells | exact mr_moved | exact mr_traced | assumption) (by omega) (by omega) ?_ | refine pb_ald0 g dX8_lots_60 (by omega) ?_ | refine pb_ald1 g dX8_lots_60 (by omega) ?_ | refine pb_ald2 g dX8_lots_60 (by omega) ?_ | refine pb_ald3 g dX8_lots_60 (by omega) ?_ | refine pb_iald g dX8_lots_60 (by first | exact mr_heaps | exact mr_kind | exact mr_order | exact mr_m | exact mr_line | exact mr_other | exact mr_ways | exact mr_next | exact mr_chances | exact mr_after | exact mr_far | exact mr_groups | exact mr_found | exact mr_counts | exact mr_traySort | exact mr_traySize | exact mr_cells | exact mr_moved | exact mr_traced | assumption) (by assumption) ?_
                        rw [(d2 s0 hs0).2.1]
                        first | refine pb_i2lN g dX8_lots_61 (by omega) ?_ | refine pb_i2l g dX8_lots_61 ?_
                        refine pb_aload_n0 g dX8_lots_62 ?_
                        refine pb_getf g fX8_7 dX8_lots_63 mr_o rfl ?_
                        refine pb_Sl2 g qX8_145 dX8_lots_66 (k + 5) (by omega) (m_power (k + 5) (Hh s0) n (by omega) _) (fun r66 h66 e66 => ?_)
                        obtain ⟨rfl, rfl⟩ := e66
                        first | refine pb_lc_ltN g 76 dX8_lots_69 dX8_lots_70 (by decide) (by omega) (by omega) (fun c69 => ?_) (fun c69 => ?_) | refine pb_lc_lt g 76 dX8_lots_69 dX8_lots_70 (by decide) (fun c69 => ?_) (fun c69 => ?_)
                        · refine pb_aload_n0 g dX8_lots_76 ?_
                          refine pb_iload_n1 g dX8_lots_77 ?_
                          refine pb_iload_n2 g dX8_lots_78 ?_
                          refine pb_lload_n3 g dX8_lots_79 ?_
                          refine pb_Vv3 g qX8_149 dX8_lots_80 (k + 5) (by omega) mr_o (m_lays (k + 4) (n := n) (p := p0) (s := s0) (K := K s0) (a := Hh s0) (L := L) hn hn1 (by omega) (by omega) (d2 s0 hs0).1 hKs.1 (d2 s0 hs0).2.1 hKs.2.1 hKs.2.2.1 hL (fun q => absurd q hk4) (σ p0) (d1 p0 hp0)) (fun h80 e80 => ?_)
                          obtain ⟨f9, l9, rfl, hf9⟩ := e80
                          refine pb_iconst (v := nI 1) g dX8_lots_83 (by decide) ?_
                          refine pb_iret g z dX8_lots_84 ?_
                          exact ⟨_, rfl, by rw [e]; rfl, by rw [e]; exact ⟨_, _, _, _, _, _, _, _, _, _, _, _, _, _, _, _, _, _, _, rfl, m1_up hn d1 hf9 (fun p h1 _ => h1), d2, d3, d4, d5⟩⟩
                        · exact absurd c69 (by omega)
                      · exact absurd c44 hk4
                  · exact absurd c24 (by decide)
                · exact absurd c13 (by decide)
            · have e : sLots ((n, P, S, sd), (σ, μ, K, Hh), (ts, zz, it), (ra, tr)) (nI s0) (nI p0) (lN L) = (-2, ((n, P, S, sd), (σ, μ, K, Hh), (ts, zz, it), (ra, tr))) := by
                simp only [sLots, hs, hpx]
                rw [if_neg h3, if_pos (Or.inr (by rw [e1]; exact (pk_lLE (by omega) hL).mpr (by omega)))]
              refine pb_aload_n0 g dX8_lots_0 ?_
              refine pb_iload_n1 g dX8_lots_1 ?_
              refine pb_Vi1 g qX8_123 dX8_lots_2 (k + 5) (by omega) mr_o (m_isShuffleT (k + 5) (by assumption) hS) (fun r2 h2 e2 => ?_)
              obtain ⟨rfl, rfl⟩ := e2
              first | refine pb_if_eqN g 16 dX8_lots_5 (by decide) (by omega) (fun c5 => ?_) (fun c5 => ?_) | refine pb_if_eq g 16 dX8_lots_5 (by decide) (fun c5 => ?_) (fun c5 => ?_)
              · exact absurd c5 (by decide)
              · refine pb_aload_n0 g dX8_lots_8 ?_
                refine pb_iload_n2 g dX8_lots_9 ?_
                refine pb_Vi1 g qX8_101 dX8_lots_10 (k + 5) (by omega) mr_o (m_isPackT (k + 5) (by assumption) hP) (fun r10 h10 e10 => ?_)
                obtain ⟨rfl, rfl⟩ := e10
                first | refine pb_if_neN g 19 dX8_lots_13 (by decide) (by omega) (fun c13 => ?_) (fun c13 => ?_) | refine pb_if_ne g 19 dX8_lots_13 (by decide) (fun c13 => ?_) (fun c13 => ?_)
                · refine pb_aload_n0 g dX8_lots_19 ?_
                  refine pb_iload_n1 g dX8_lots_20 ?_
                  refine pb_Vi1 g qX8_126 dX8_lots_21 (k + 5) (by omega) mr_o (m_hasMove (k + 5) (s := s0) (K := K s0) (by omega) (d2 s0 (by assumption)).1 (hK s0 (by assumption)).1) (fun r21 h21 e21 => ?_)
                  obtain ⟨rfl, rfl⟩ := e21
                  rw [if_neg (by assumption)]
                  first | refine pb_if_eqN g 30 dX8_lots_24 (by decide) (by omega) (fun c24 => ?_) (fun c24 => ?_) | refine pb_if_eq g 30 dX8_lots_24 (by decide) (fun c24 => ?_) (fun c24 => ?_)
                  · refine pb_lload_n3 g dX8_lots_30 ?_
                    refine pb_lconst (v := lN 0) g dX8_lots_31 rfl ?_
                    first | refine pb_lc_ltN g 73 dX8_lots_32 dX8_lots_33 (by decide) (by omega) (by omega) (fun c32 => ?_) (fun c32 => ?_) | refine pb_lc_lt g 73 dX8_lots_32 dX8_lots_33 (by decide) (fun c32 => ?_) (fun c32 => ?_)
                    · exact absurd c32 (by omega)
                    · refine pb_lload_n3 g dX8_lots_36 ?_
                      refine pb_aload_n0 g dX8_lots_37 ?_
                      refine pb_getf g fX8_17 dX8_lots_38 mr_o rfl ?_
                      refine pb_iload_n1 g dX8_lots_41 ?_
                      first | refine pb_ialdN g dX8_lots_42 (by first | exact mr_kind | exact mr_order | exact mr_heaps | exact mr_m | exact mr_line | exact mr_other | exact mr_ways | exact mr_next | exact mr_chances | exact mr_after | exact mr_far | exact mr_groups | exact mr_found | exact mr_counts | exact mr_traySort | exact mr_traySize | exact mr_cells | exact mr_moved | exact mr_traced | assumption) (by omega) (by omega) ?_ | refine pb_ald0 g dX8_lots_42 (by omega) ?_ | refine pb_ald1 g dX8_lots_42 (by omega) ?_ | refine pb_ald2 g dX8_lots_42 (by omega) ?_ | refine pb_ald3 g dX8_lots_42 (by omega) ?_ | refine pb_iald g dX8_lots_42 (by first | exact mr_kind | exact mr_order | exact mr_heaps | exact mr_m | exact mr_line | exact mr_other | exact mr_ways | exact mr_next | exact mr_chances | exact mr_after | exact mr_far | exact mr_groups | exact mr_found | exact mr_counts | exact mr_traySort | exact mr_traySize | exact mr_cells | exact mr_moved | exact mr_traced | assumption) (by assumption) ?_
                      rw [(d2 s0 hs0).1]
                      refine pb_iconst (v := nI 4) g dX8_lots_43 (by decide) ?_
                      first | refine pb_icmp_neN g 55 dX8_lots_44 (by decide) (by omega) (by omega) (fun c44 => ?_) (fun c44 => ?_) | refine pb_icmp_ne g 55 dX8_lots_44 (by decide) (fun c44 => ?_) (fun c44 => ?_)
                      · refine pb_aload_n0 g dX8_lots_55 ?_
                        refine pb_getf g fX8_20 dX8_lots_56 mr_o rfl ?_
                        refine pb_iload_n1 g dX8_lots_59 ?_
                        first | refine pb_ialdN g dX8_lots_60 (by first | exact mr_heaps | exact mr_kind | exact mr_order | exact mr_m | exact mr_line | exact mr_other | exact mr_ways | exact mr_next | exact mr_chances | exact mr_after | exact mr_far | exact mr_groups | exact mr_found | exact mr_counts | exact mr_traySort | exact mr_traySize | exact mr_cells | exact mr_moved | exact mr_traced | assumption) (by omega) (by omega) ?_ | refine pb_ald0 g dX8_lots_60 (by omega) ?_ | refine pb_ald1 g dX8_lots_60 (by omega) ?_ | refine pb_ald2 g dX8_lots_60 (by omega) ?_ | refine pb_ald3 g dX8_lots_60 (by omega) ?_ | refine pb_iald g dX8_lots_60 (by first | exact mr_heaps | exact mr_kind | exact mr_order | exact mr_m | exact mr_line | exact mr_other | exact mr_ways | exact mr_next | exact mr_chances | exact mr_after | exact mr_far | exact mr_groups | exact mr_found | exact mr_counts | exact mr_traySort | exact mr_traySize | exact mr_cells | exact mr_moved | exact mr_traced | assumption) (by assumption) ?_
                        rw [(d2 s0 hs0).2.1]
                        first | refine pb_i2lN g dX8_lots_61 (by omega) ?_ | refine pb_i2l g dX8_lots_61 ?_
                        refine pb_aload_n0 g dX8_lots_62 ?_
                        refine pb_getf g fX8_7 dX8_lots_63 mr_o rfl ?_
                        refine pb_Sl2 g qX8_145 dX8_lots_66 (k + 5) (by omega) (m_power (k + 5) (Hh s0) n (by omega) _) (fun r66 h66 e66 => ?_)
                        obtain ⟨rfl, rfl⟩ := e66
                        first | refine pb_lc_ltN g 76 dX8_lots_69 dX8_lots_70 (by decide) (by omega) (by omega) (fun c69 => ?_) (fun c69 => ?_) | refine pb_lc_lt g 76 dX8_lots_69 dX8_lots_70 (by decide) (fun c69 => ?_) (fun c69 => ?_)
                        · exact absurd c69 (by omega)
                        · refine pb_bipush (v := -2) g dX8_lots_73 (by decide) ?_
                          refine pb_iret g z dX8_lots_75 ?_
                          exact ⟨_, rfl, by rw [e], by rw [e]; exact ⟨_, _, _, _, _, _, _, _, _, _, _, _, _, _, _, _, _, _, _, rfl, d1, d2, d3, d4, d5⟩⟩
                      · exact absurd c44 hk4
                  · exact absurd c24 (by decide)
                · exact absurd c13 (by decide)
