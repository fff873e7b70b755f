/-! ===== the reference: copies, orders told, ranks ===== -/
set_option maxHeartbeats 4000000 in
set_option maxRecDepth 100000 in
theorem m_copy (k : Nat) (q : SP) (t i u j m : Int32) (h : PH) (hD : IsM q h) (hI : SI q) : Runs yX8_copy cX8_copy 7 (some .int) (k + 6) [.ref 0, .int t, .int i, .int u, .int j, .int m] h (fun oo h' => ∃ r : Int32, oo = some (.int r) ∧ r = (sCopy q t i u j m).1 ∧ IsM ((sCopy q t i u j m).2) h') := by
  obtain ⟨⟨n, P, S, sd⟩, ⟨σ, μ, K, Hh⟩, ⟨ts, zz, it⟩, ⟨ra, tr⟩⟩ := q
  obtain ⟨⟨hn1, hn, hP, hS⟩, hσ, hK, hz, hra⟩ := hI
  obtain ⟨xod, xkn, xhs, xmm, xln, xot, xfa, xgr, xtsr, xtsz, xce, xmv, xtc, xwy, xnx, xch, xaf, xfo, xco, rfl, d1, d2, d3, d4, d5⟩ := hD
  refine Runs.of (by decide) (Nat.le_of_ble_eq_true rfl) [some (.ref 0), some (.int t), some (.int i), some (.int u), some (.int j), some (.int m), none] 1 rfl (fun Γ g z => ?_)
  cases htx : ix t 4 with
  | none =>
    have e : sCopy ((n, P, S, sd), (σ, μ, K, Hh), (ts, zz, it), (ra, tr)) t i u j m = (-2, ((n, P, S, sd), (σ, μ, K, Hh), (ts, zz, it), (ra, tr))) := by simp only [sCopy, htx]
    have htn := ix_none (by decide) htx
    refine pb_iload_n1 g dX8_copy_0 ?_
    refine pb_Si1 g qX8_94 dX8_copy_1 (k + 5) (by omega) (m_isTrayF (k + 5) _ (by assumption) _) (fun r1 h1 e1 => ?_)
    obtain ⟨rfl, rfl⟩ := e1
    first | refine pb_if_eqN g 14 dX8_copy_4 (by decide) (by omega) (fun c4 => ?_) (fun c4 => ?_) | refine pb_if_eq g 14 dX8_copy_4 (by decide) (fun c4 => ?_) (fun c4 => ?_)
    · refine pb_bipush (v := -2) g dX8_copy_14 (by decide) ?_
      refine pb_iret g z dX8_copy_16 ?_
      exact ⟨_, rfl, by rw [e], by rw [e]; exact ⟨_, _, _, _, _, _, _, _, _, _, _, _, _, _, _, _, _, _, _, rfl, d1, d2, d3, d4, d5⟩⟩
    · exact absurd c4 (by decide)
  | some t0 =>
    obtain ⟨ht0, rfl⟩ := ix_some (by decide) htx
    cases hox : ix u 4 with
    | none =>
      have e : sCopy ((n, P, S, sd), (σ, μ, K, Hh), (ts, zz, it), (ra, tr)) (nI t0) i u j m = (-2, ((n, P, S, sd), (σ, μ, K, Hh), (ts, zz, it), (ra, tr))) := by simp only [sCopy, htx, hox]
      have hon := ix_none (by decide) hox
      refine pb_iload_n1 g dX8_copy_0 ?_
      refine pb_Si1 g qX8_94 dX8_copy_1 (k + 5) (by omega) (m_isTrayT (k + 5) _ (by assumption) _) (fun r1 h1 e1 => ?_)
      obtain ⟨rfl, rfl⟩ := e1
      first | refine pb_if_eqN g 14 dX8_copy_4 (by decide) (by omega) (fun c4 => ?_) (fun c4 => ?_) | refine pb_if_eq g 14 dX8_copy_4 (by decide) (fun c4 => ?_) (fun c4 => ?_)
      · exact absurd c4 (by decide)
      · refine pb_iload_n3 g dX8_copy_7 ?_
        refine pb_Si1 g qX8_94 dX8_copy_8 (k + 5) (by omega) (m_isTrayF (k + 5) _ (by assumption) _) (fun r8 h8 e8 => ?_)
        obtain ⟨rfl, rfl⟩ := e8
        first | refine pb_if_neN g 17 dX8_copy_11 (by decide) (by omega) (fun c11 => ?_) (fun c11 => ?_) | refine pb_if_ne g 17 dX8_copy_11 (by decide) (fun c11 => ?_) (fun c11 => ?_)
        · exact absurd c11 (by decide)
        · refine pb_bipush (v := -2) g dX8_copy_14 (by decide) ?_
          refine pb_iret g z dX8_copy_16 ?_
          exact ⟨_, rfl, by rw [e], by rw [e]; exact ⟨_, _, _, _, _, _, _, _, _, _, _, _, _, _, _, _, _, _, _, rfl, d1, d2, d3, d4, d5⟩⟩
    | some o0 =>
      obtain ⟨ho0, rfl⟩ := ix_some (by decide) hox
      have hz1 := (hz t0 ht0).1
      have hz2 := (hz o0 ho0).1
      by_cases hmi : ts t0 = -1
      · have e : sCopy ((n, P, S, sd), (σ, μ, K, Hh), (ts, zz, it), (ra, tr)) (nI t0) i (nI o0) j m = (-11, ((n, P, S, sd), (σ, μ, K, Hh), (ts, zz, it), (ra, tr))) := by
          simp only [sCopy, htx, hox]
          rw [if_pos (Or.inl hmi)]
        refine pb_iload_n1 g dX8_copy_0 ?_
        refine pb_Si1 g qX8_94 dX8_copy_1 (k + 5) (by omega) (m_isTrayT (k + 5) _ (by assumption) _) (fun r1 h1 e1 => ?_)
        obtain ⟨rfl, rfl⟩ := e1
        first | refine pb_if_eqN g 14 dX8_copy_4 (by decide) (by omega) (fun c4 => ?_) (fun c4 => ?_) | refine pb_if_eq g 14 dX8_copy_4 (by decide) (fun c4 => ?_) (fun c4 => ?_)
        · exact absurd c4 (by decide)
        · refine pb_iload_n3 g dX8_copy_7 ?_
          refine pb_Si1 g qX8_94 dX8_copy_8 (k + 5) (by omega) (m_isTrayT (k + 5) _ (by assumption) _) (fun r8 h8 e8 => ?_)
          obtain ⟨rfl, rfl⟩ := e8
          first | refine pb_if_neN g 17 dX8_copy_11 (by decide) (by omega) (fun c11 => ?_) (fun c11 => ?_) | refine pb_if_ne g 17 dX8_copy_11 (by decide) (fun c11 => ?_) (fun c11 => ?_)
          · refine pb_aload_n0 g dX8_copy_17 ?_
            refine pb_getf g fX8_57 dX8_copy_18 mr_o rfl ?_
            refine pb_iload_n1 g dX8_copy_21 ?_
            first | refine pb_ialdN g dX8_copy_22 (by first | exact mr_traySort | exact mr_order | exact mr_kind | exact mr_heaps | exact mr_m | exact mr_line | exact mr_other | exact mr_ways | exact mr_next | exact mr_chances | exact mr_after | exact mr_far | exact mr_groups | exact mr_found | exact mr_counts | exact mr_traySize | exact mr_cells | exact mr_moved | exact mr_traced | assumption) (by omega) (by omega) ?_ | refine pb_ald0 g dX8_copy_22 (by omega) ?_ | refine pb_ald1 g dX8_copy_22 (by omega) ?_ | refine pb_ald2 g dX8_copy_22 (by omega) ?_ | refine pb_ald3 g dX8_copy_22 (by omega) ?_ | refine pb_iald g dX8_copy_22 (by first | exact mr_traySort | exact mr_order | exact mr_kind | exact mr_heaps | exact mr_m | exact mr_line | exact mr_other | exact mr_ways | exact mr_next | exact mr_chances | exact mr_after | exact mr_far | exact mr_groups | exact mr_found | exact mr_counts | exact mr_traySize | exact mr_cells | exact mr_moved | exact mr_traced | assumption) (by assumption) ?_
            rw [(d3 t0 ht0).1, hmi]
            refine pb_if_lt g 35 dX8_copy_23 (by decide) (fun c23 => ?_) (fun c23 => ?_)
            · refine pb_bipush (v := -11) g dX8_copy_35 (by decide) ?_
              refine pb_iret g z dX8_copy_37 ?_
              exact ⟨_, rfl, by rw [e], by rw [e]; exact ⟨_, _, _, _, _, _, _, _, _, _, _, _, _, _, _, _, _, _, _, rfl, d1, d2, d3, d4, d5⟩⟩
            · exact absurd (by decide) c23
          · exact absurd c11 (by decide)
      · obtain ⟨a0, ha0, hts1⟩ := ts_some (hz t0 ht0) hmi
        by_cases hmo : ts o0 = -1
        · have e : sCopy ((n, P, S, sd), (σ, μ, K, Hh), (ts, zz, it), (ra, tr)) (nI t0) i (nI o0) j m = (-11, ((n, P, S, sd), (σ, μ, K, Hh), (ts, zz, it), (ra, tr))) := by
            simp only [sCopy, htx, hox]
            rw [if_pos (Or.inr hmo)]
          refine pb_iload_n1 g dX8_copy_0 ?_
          refine pb_Si1 g qX8_94 dX8_copy_1 (k + 5) (by omega) (m_isTrayT (k + 5) _ (by assumption) _) (fun r1 h1 e1 => ?_)
          obtain ⟨rfl, rfl⟩ := e1
          first | refine pb_if_eqN g 14 dX8_copy_4 (by decide) (by omega) (fun c4 => ?_) (fun c4 => ?_) | refine pb_if_eq g 14 dX8_copy_4 (by decide) (fun c4 => ?_) (fun c4 => ?_)
          · exact absurd c4 (by decide)
          · refine pb_iload_n3 g dX8_copy_7 ?_
            refine pb_Si1 g qX8_94 dX8_copy_8 (k + 5) (by omega) (m_isTrayT (k + 5) _ (by assumption) _) (fun r8 h8 e8 => ?_)
            obtain ⟨rfl, rfl⟩ := e8
            first | refine pb_if_neN g 17 dX8_copy_11 (by decide) (by omega) (fun c11 => ?_) (fun c11 => ?_) | refine pb_if_ne g 17 dX8_copy_11 (by decide) (fun c11 => ?_) (fun c11 => ?_)
            · refine pb_aload_n0 g dX8_copy_17 ?_
              refine pb_getf g fX8_57 dX8_copy_18 mr_o rfl ?_
              refine pb_iload_n1 g dX8_copy_21 ?_
              first | refine pb_ialdN g dX8_copy_22 (by first | exact mr_traySort | exact mr_order | exact mr_kind | exact mr_heaps | exact mr_m | exact mr_line | exact mr_other | exact mr_ways | exact mr_next | exact mr_chances | exact mr_after | exact mr_far | exact mr_groups | exact mr_found | exact mr_counts | exact mr_traySize | exact mr_cells | exact mr_moved | exact mr_traced | assumption) (by omega) (by omega) ?_ | refine pb_ald0 g dX8_copy_22 (by omega) ?_ | refine pb_ald1 g dX8_copy_22 (by omega) ?_ | refine pb_ald2 g dX8_copy_22 (by omega) ?_ | refine pb_ald3 g dX8_copy_22 (by omega) ?_ | refine pb_iald g dX8_copy_22 (by first | exact mr_traySort | exact mr_order | exact mr_kind | exact mr_heaps | exact mr_m | exact mr_line | exact mr_other | exact mr_ways | exact mr_next | exact mr_chances | exact mr_after | exact mr_far | exact mr_groups | exact mr_found | exact mr_counts | exact mr_traySize | exact mr_cells | exact mr_moved | exact mr_traced | assumption) (by assumption) ?_
              rw [(d3 t0 ht0).1, hts1]
              refine pb_if_ltN g 35 dX8_copy_23 (by decide) (by omega) ?_
              refine pb_aload_n0 g dX8_copy_26 ?_
              refine pb_getf g fX8_57 dX8_copy_27 mr_o rfl ?_
              refine pb_iload_n3 g dX8_copy_30 ?_
              first | refine pb_ialdN g dX8_copy_31 (by first | exact mr_traySort | exact mr_order | exact mr_kind | exact mr_heaps | exact mr_m | exact mr_line | exact mr_other | exact mr_ways | exact mr_next | exact mr_chances | exact mr_after | exact mr_far | exact mr_groups | exact mr_found | exact mr_counts | exact mr_traySize | exact mr_cells | exact mr_moved | exact mr_traced | assumption) (by omega) (by omega) ?_ | refine pb_ald0 g dX8_copy_31 (by omega) ?_ | refine pb_ald1 g dX8_copy_31 (by omega) ?_ | refine pb_ald2 g dX8_copy_31 (by omega) ?_ | refine pb_ald3 g dX8_copy_31 (by omega) ?_ | refine pb_iald g dX8_copy_31 (by first | exact mr_traySort | exact mr_order | exact mr_kind | exact mr_heaps | exact mr_m | exact mr_line | exact mr_other | exact mr_ways | exact mr_next | exact mr_chances | exact mr_after | exact mr_far | exact mr_groups | exact mr_found | exact mr_counts | exact mr_traySize | exact mr_cells | exact mr_moved | exact mr_traced | assumption) (by assumption) ?_
              rw [(d3 o0 ho0).1, hmo]
              refine pb_if_ge g 38 dX8_copy_32 (by decide) (fun c32 => ?_) (fun c32 => ?_)
              · exact absurd c32 (by decide)
              · refine pb_bipush (v := -11) g dX8_copy_35 (by decide) ?_
                refine pb_iret g z dX8_copy_37 ?_
                exact ⟨_, rfl, by rw [e], by rw [e]; exact ⟨_, _, _, _, _, _, _, _, _, _, _, _, _, _, _, _, _, _, _, rfl, d1, d2, d3, d4, d5⟩⟩
            · exact absurd c11 (by decide)
        · obtain ⟨b0, hb0, hts2⟩ := ts_some (hz o0 ho0) hmo
          have hno0 : ¬ (ts t0 = -1 ∨ ts o0 = -1) := fun z => z.elim hmi hmo
          by_cases hne : a0 = b0
          · have hne2 : ts t0 = ts o0 := by rw [hts1, hts2, hne]
            have hbad : ¬ (hdN (zz t0) i m ∧ hdN (zz o0) j m) → sCopy ((n, P, S, sd), (σ, μ, K, Hh), (ts, zz, it), (ra, tr)) (nI t0) i (nI o0) j m = (-12, ((n, P, S, sd), (σ, μ, K, Hh), (ts, zz, it), (ra, tr))) := fun hn9 => by
              simp only [sCopy, htx, hox]
              rw [if_neg hno0, if_neg (fun z => z hne2), if_neg hn9]
            by_cases hm0 : m < 0
            · have e := hbad (fun z => z.1.2.1 hm0)
              refine pb_iload_n1 g dX8_copy_0 ?_
              refine pb_Si1 g qX8_94 dX8_copy_1 (k + 5) (by omega) (m_isTrayT (k + 5) _ (by assumption) _) (fun r1 h1 e1 => ?_)
              obtain ⟨rfl, rfl⟩ := e1
              first | refine pb_if_eqN g 14 dX8_copy_4 (by decide) (by omega) (fun c4 => ?_) (fun c4 => ?_) | refine pb_if_eq g 14 dX8_copy_4 (by decide) (fun c4 => ?_) (fun c4 => ?_)
              · exact absurd c4 (by decide)
              · refine pb_iload_n3 g dX8_copy_7 ?_
                refine pb_Si1 g qX8_94 dX8_copy_8 (k + 5) (by omega) (m_isTrayT (k + 5) _ (by assumption) _) (fun r8 h8 e8 => ?_)
                obtain ⟨rfl, rfl⟩ := e8
                first | refine pb_if_neN g 17 dX8_copy_11 (by decide) (by omega) (fun c11 => ?_) (fun c11 => ?_) | refine pb_if_ne g 17 dX8_copy_11 (by decide) (fun c11 => ?_) (fun c11 => ?_)
                · refine pb_aload_n0 g dX8_copy_17 ?_
                  refine pb_getf g fX8_57 dX8_copy_18 mr_o rfl ?_
                  refine pb_iload_n1 g dX8_copy_21 ?_
                  first | refine pb_ialdN g dX8_copy_22 (by first | exact mr_traySort | exact mr_order | exact mr_kind | exact mr_heaps | exact mr_m | exact mr_line | exact mr_other | exact mr_ways | exact mr_next | exact mr_chances | exact mr_after | exact mr_far | exact mr_groups | exact mr_found | exact mr_counts | exact mr_traySize | exact mr_cells | exact mr_moved | exact mr_traced | assumption) (by omega) (by omega) ?_ | refine pb_ald0 g dX8_copy_22 (by omega) ?_ | refine pb_ald1 g dX8_copy_22 (by omega) ?_ | refine pb_ald2 g dX8_copy_22 (by omega) ?_ | refine pb_ald3 g dX8_copy_22 (by omega) ?_ | refine pb_iald g dX8_copy_22 (by first | exact mr_traySort | exact mr_order | exact mr_kind | exact mr_heaps | exact mr_m | exact mr_line | exact mr_other | exact mr_ways | exact mr_next | exact mr_chances | exact mr_after | exact mr_far | exact mr_groups | exact mr_found | exact mr_counts | exact mr_traySize | exact mr_cells | exact mr_moved | exact mr_traced | assumption) (by assumption) ?_
                  rw [(d3 t0 ht0).1, hts1]
                  refine pb_if_ltN g 35 dX8_copy_23 (by decide) (by omega) ?_
                  refine pb_aload_n0 g dX8_copy_26 ?_
                  refine pb_getf g fX8_57 dX8_copy_27 mr_o rfl ?_
                  refine pb_iload_n3 g dX8_copy_30 ?_
                  first | refine pb_ialdN g dX8_copy_31 (by first | exact mr_traySort | exact mr_order | exact mr_kind | exact mr_heaps | exact mr_m | exact mr_line | exact mr_other | exact mr_ways | exact mr_next | exact mr_chances | exact mr_after | exact mr_far | exact mr_groups | exact mr_found | exact mr_counts | exact mr_traySize | exact mr_cells | exact mr_moved | exact mr_traced | assumption) (by omega) (by omega) ?_ | refine pb_ald0 g dX8_copy_31 (by omega) ?_ | refine pb_ald1 g dX8_copy_31 (by omega) ?_ | refine pb_ald2 g dX8_copy_31 (by omega) ?_ | refine pb_ald3 g dX8_copy_31 (by omega) ?_ | refine pb_iald g dX8_copy_31 (by first | exact mr_traySort | exact mr_order | exact mr_kind | exact mr_heaps | exact mr_m | exact mr_line | exact mr_other | exact mr_ways | exact mr_next | exact mr_chances | exact mr_after | exact mr_far | exact mr_groups | exact mr_found | exact mr_counts | exact mr_traySize | exact mr_cells | exact mr_moved | exact mr_traced | assumption) (by assumption) ?_
                  rw [(d3 o0 ho0).1, hts2]
                  refine pb_if_geN g 38 dX8_copy_32 (by decide) (by omega) ?_
                  refine pb_aload_n0 g dX8_copy_38 ?_
                  refine pb_getf g fX8_57 dX8_copy_39 mr_o rfl ?_
                  refine pb_iload_n1 g dX8_copy_42 ?_
                  first | refine pb_ialdN g dX8_copy_43 (by first | exact mr_traySort | exact mr_order | exact mr_kind | exact mr_heaps | exact mr_m | exact mr_line | exact mr_other | exact mr_ways | exact mr_next | exact mr_chances | exact mr_after | exact mr_far | exact mr_groups | exact mr_found | exact mr_counts | exact mr_traySize | exact mr_cells | exact mr_moved | exact mr_traced | assumption) (by omega) (by omega) ?_ | refine pb_ald0 g dX8_copy_43 (by omega) ?_ | refine pb_ald1 g dX8_copy_43 (by omega) ?_ | refine pb_ald2 g dX8_copy_43 (by omega) ?_ | refine pb_ald3 g dX8_copy_43 (by omega) ?_ | refine pb_iald g dX8_copy_43 (by first | exact mr_traySort | exact mr_order | exact mr_kind | exact mr_heaps | exact mr_m | exact mr_line | exact mr_other | exact mr_ways | exact mr_next | exact mr_chances | exact mr_after | exact mr_far | exact mr_groups | exact mr_found | exact mr_counts | exact mr_traySize | exact mr_cells | exact mr_moved | exact mr_traced | assumption) (by assumption) ?_
                  rw [(d3 t0 ht0).1, hts1]
                  refine pb_aload_n0 g dX8_copy_44 ?_
                  refine pb_getf g fX8_57 dX8_copy_45 mr_o rfl ?_
                  refine pb_iload_n3 g dX8_copy_48 ?_
                  first | refine pb_ialdN g dX8_copy_49 (by first | exact mr_traySort | exact mr_order | exact mr_kind | exact mr_heaps | exact mr_m | exact mr_line | exact mr_other | exact mr_ways | exact mr_next | exact mr_chances | exact mr_after | exact mr_far | exact mr_groups | exact mr_found | exact mr_counts | exact mr_traySize | exact mr_cells | exact mr_moved | exact mr_traced | assumption) (by omega) (by omega) ?_ | refine pb_ald0 g dX8_copy_49 (by omega) ?_ | refine pb_ald1 g dX8_copy_49 (by omega) ?_ | refine pb_ald2 g dX8_copy_49 (by omega) ?_ | refine pb_ald3 g dX8_copy_49 (by omega) ?_ | refine pb_iald g dX8_copy_49 (by first | exact mr_traySort | exact mr_order | exact mr_kind | exact mr_heaps | exact mr_m | exact mr_line | exact mr_other | exact mr_ways | exact mr_next | exact mr_chances | exact mr_after | exact mr_far | exact mr_groups | exact mr_found | exact mr_counts | exact mr_traySize | exact mr_cells | exact mr_moved | exact mr_traced | assumption) (by assumption) ?_
                  rw [(d3 o0 ho0).1, hts2]
                  first | refine pb_icmp_eqN g 56 dX8_copy_50 (by decide) (by omega) (by omega) (fun c50 => ?_) (fun c50 => ?_) | refine pb_icmp_eq g 56 dX8_copy_50 (by decide) (fun c50 => ?_) (fun c50 => ?_)
                  · refine pb_iload5 g dX8_copy_56 ?_
                    refine pb_if_lt g 97 dX8_copy_58 (by decide) (fun c58 => ?_) (fun c58 => ?_)
                    · refine pb_bipush (v := -12) g dX8_copy_97 (by decide) ?_
                      refine pb_iret g z dX8_copy_99 ?_
                      exact ⟨_, rfl, by rw [e], by rw [e]; exact ⟨_, _, _, _, _, _, _, _, _, _, _, _, _, _, _, _, _, _, _, rfl, d1, d2, d3, d4, d5⟩⟩
                    · exact absurd hm0 c58
                  · exact absurd hne c50
                · exact absurd c11 (by decide)
            · by_cases hi0 : i < 0
              · have e := hbad (fun z => z.1.1 hi0)
                refine pb_iload_n1 g dX8_copy_0 ?_
                refine pb_Si1 g qX8_94 dX8_copy_1 (k + 5) (by omega) (m_isTrayT (k + 5) _ (by assumption) _) (fun r1 h1 e1 => ?_)
                obtain ⟨rfl, rfl⟩ := e1
                first | refine pb_if_eqN g 14 dX8_copy_4 (by decide) (by omega) (fun c4 => ?_) (fun c4 => ?_) | refine pb_if_eq g 14 dX8_copy_4 (by decide) (fun c4 => ?_) (fun c4 => ?_)
                · exact absurd c4 (by decide)
                · refine pb_iload_n3 g dX8_copy_7 ?_
                  refine pb_Si1 g qX8_94 dX8_copy_8 (k + 5) (by omega) (m_isTrayT (k + 5) _ (by assumption) _) (fun r8 h8 e8 => ?_)
                  obtain ⟨rfl, rfl⟩ := e8
                  first | refine pb_if_neN g 17 dX8_copy_11 (by decide) (by omega) (fun c11 => ?_) (fun c11 => ?_) | refine pb_if_ne g 17 dX8_copy_11 (by decide) (fun c11 => ?_) (fun c11 => ?_)
                  · refine pb_aload_n0 g dX8_copy_17 ?_
                    refine pb_getf g fX8_57 dX8_copy_18 mr_o rfl ?_
                    refine pb_iload_n1 g dX8_copy_21 ?_
                    first | refine pb_ialdN g dX8_copy_22 (by first | exact mr_traySort | exact mr_order | exact mr_kind | exact mr_heaps | exact mr_m | exact mr_line | exact mr_other | exact mr_ways | exact mr_next | exact mr_chances | exact mr_after | exact mr_far | exact mr_groups | exact mr_found | exact mr_counts | exact mr_traySize | exact mr_cells | exact mr_moved | exact mr_traced | assumption) (by omega) (by omega) ?_ | refine pb_ald0 g dX8_copy_22 (by omega) ?_ | refine pb_ald1 g dX8_copy_22 (by omega) ?_ | refine pb_ald2 g dX8_copy_22 (by omega) ?_ | refine pb_ald3 g dX8_copy_22 (by omega) ?_ | refine pb_iald g dX8_copy_22 (by first | exact mr_traySort | exact mr_order | exact mr_kind | exact mr_heaps | exact mr_m | exact mr_line | exact mr_other | exact mr_ways | exact mr_next | exact mr_chances | exact mr_after | exact mr_far | exact mr_groups | exact mr_found | exact mr_counts | exact mr_traySize | exact mr_cells | exact mr_moved | exact mr_traced | assumption) (by assumption) ?_
                    rw [(d3 t0 ht0).1, hts1]
                    refine pb_if_ltN g 35 dX8_copy_23 (by decide) (by omega) ?_
                    refine pb_aload_n0 g dX8_copy_26 ?_
                    refine pb_getf g fX8_57 dX8_copy_27 mr_o rfl ?_
                    refine pb_iload_n3 g dX8_copy_30 ?_
                    first | refine pb_ialdN g dX8_copy_31 (by first | exact mr_traySort | exact mr_order | exact mr_kind | exact mr_heaps | exact mr_m | exact mr_line | exact mr_other | exact mr_ways | exact mr_next | exact mr_chances | exact mr_after | exact mr_far | exact mr_groups | exact mr_found | exact mr_counts | exact mr_traySize | exact mr_cells | exact mr_moved | exact mr_traced | assumption) (by omega) (by omega) ?_ | refine pb_ald0 g dX8_copy_31 (by omega) ?_ | refine pb_ald1 g dX8_copy_31 (by omega) ?_ | refine pb_ald2 g dX8_copy_31 (by omega) ?_ | refine pb_ald3 g dX8_copy_31 (by omega) ?_ | refine pb_iald g dX8_copy_31 (by first | exact mr_traySort | exact mr_order | exact mr_kind | exact mr_heaps | exact mr_m | exact mr_line | exact mr_other | exact mr_ways | exact mr_next | exact mr_chances | exact mr_after | exact mr_far | exact mr_groups | exact mr_found | exact mr_counts | exact mr_traySize | exact mr_cells | exact mr_moved | exact mr_traced | assumption) (by assumption) ?_
                    rw [(d3 o0 ho0).1, hts2]
                    refine pb_if_geN g 38 dX8_copy_32 (by decide) (by omega) ?_
                    refine pb_aload_n0 g dX8_copy_38 ?_
                    refine pb_getf g fX8_57 dX8_copy_39 mr_o rfl ?_
                    refine pb_iload_n1 g dX8_copy_42 ?_
                    first | refine pb_ialdN g dX8_copy_43 (by first | exact mr_traySort | exact mr_order | exact mr_kind | exact mr_heaps | exact mr_m | exact mr_line | exact mr_other | exact mr_ways | exact mr_next | exact mr_chances | exact mr_after | exact mr_far | exact mr_groups | exact mr_found | exact mr_counts | exact mr_traySize | exact mr_cells | exact mr_moved | exact mr_traced | assumption) (by omega) (by omega) ?_ | refine pb_ald0 g dX8_copy_43 (by omega) ?_ | refine pb_ald1 g dX8_copy_43 (by omega) ?_ | refine pb_ald2 g dX8_copy_43 (by omega) ?_ | refine pb_ald3 g dX8_copy_43 (by omega) ?_ | refine pb_iald g dX8_copy_43 (by first | exact mr_traySort | exact mr_order | exact mr_kind | exact mr_heaps | exact mr_m | exact mr_line | exact mr_other | exact mr_ways | exact mr_next | exact mr_chances | exact mr_after | exact mr_far | exact mr_groups | exact mr_found | exact mr_counts | exact mr_traySize | exact mr_cells | exact mr_moved | exact mr_traced | assumption) (by assumption) ?_
                    rw [(d3 t0 ht0).1, hts1]
                    refine pb_aload_n0 g dX8_copy_44 ?_
                    refine pb_getf g fX8_57 dX8_copy_45 mr_o rfl ?_
                    refine pb_iload_n3 g dX8_copy_48 ?_
                    first | refine pb_ialdN g dX8_copy_49 (by first | exact mr_traySort | exact mr_order | exact mr_kind | exact mr_heaps | exact mr_m | exact mr_line | exact mr_other | exact mr_ways | exact mr_next | exact mr_chances | exact mr_after | exact mr_far | exact mr_groups | exact mr_found | exact mr_counts | exact mr_traySize | exact mr_cells | exact mr_moved | exact mr_traced | assumption) (by omega) (by omega) ?_ | refine pb_ald0 g dX8_copy_49 (by omega) ?_ | refine pb_ald1 g dX8_copy_49 (by omega) ?_ | refine pb_ald2 g dX8_copy_49 (by omega) ?_ | refine pb_ald3 g dX8_copy_49 (by omega) ?_ | refine pb_iald g dX8_copy_49 (by first | exact mr_traySort | exact mr_order | exact mr_kind | exact mr_heaps | exact mr_m | exact mr_line | exact mr_other | exact mr_ways | exact mr_next | exact mr_chances | exact mr_after | exact mr_far | exact mr_groups | exact mr_found | exact mr_counts | exact mr_traySize | exact mr_cells | exact mr_moved | exact mr_traced | assumption) (by assumption) ?_
                    rw [(d3 o0 ho0).1, hts2]
                    first | refine pb_icmp_eqN g 56 dX8_copy_50 (by decide) (by omega) (by omega) (fun c50 => ?_) (fun c50 => ?_) | refine pb_icmp_eq g 56 dX8_copy_50 (by decide) (fun c50 => ?_) (fun c50 => ?_)
                    · refine pb_iload5 g dX8_copy_56 ?_
                      refine pb_if_lt g 97 dX8_copy_58 (by decide) (fun c58 => ?_) (fun c58 => ?_)
                      · exact absurd c58 hm0
                      · refine pb_iload_n2 g dX8_copy_61 ?_
                        refine pb_if_lt g 97 dX8_copy_62 (by decide) (fun c62 => ?_) (fun c62 => ?_)
                        · refine pb_bipush (v := -12) g dX8_copy_97 (by decide) ?_
                          refine pb_iret g z dX8_copy_99 ?_
                          exact ⟨_, rfl, by rw [e], by rw [e]; exact ⟨_, _, _, _, _, _, _, _, _, _, _, _, _, _, _, _, _, _, _, rfl, d1, d2, d3, d4, d5⟩⟩
                        · exact absurd hi0 c62
                    · exact absurd hne c50
                  · exact absurd c11 (by decide)
              · by_cases hj0 : j < 0
                · have e := hbad (fun z => z.2.1 hj0)
                  refine pb_iload_n1 g dX8_copy_0 ?_
                  refine pb_Si1 g qX8_94 dX8_copy_1 (k + 5) (by omega) (m_isTrayT (k + 5) _ (by assumption) _) (fun r1 h1 e1 => ?_)
                  obtain ⟨rfl, rfl⟩ := e1
                  first | refine pb_if_eqN g 14 dX8_copy_4 (by decide) (by omega) (fun c4 => ?_) (fun c4 => ?_) | refine pb_if_eq g 14 dX8_copy_4 (by decide) (fun c4 => ?_) (fun c4 => ?_)
                  · exact absurd c4 (by decide)
                  · refine pb_iload_n3 g dX8_copy_7 ?_
                    refine pb_Si1 g qX8_94 dX8_copy_8 (k + 5) (by omega) (m_isTrayT (k + 5) _ (by assumption) _) (fun r8 h8 e8 => ?_)
                    obtain ⟨rfl, rfl⟩ := e8
                    first | refine pb_if_neN g 17 dX8_copy_11 (by decide) (by omega) (fun c11 => ?_) (fun c11 => ?_) | refine pb_if_ne g 17 dX8_copy_11 (by decide) (fun c11 => ?_) (fun c11 => ?_)
                    · refine pb_aload_n0 g dX8_copy_17 ?_
                      refine pb_getf g fX8_57 dX8_copy_18 mr_o rfl ?_
                      refine pb_iload_n1 g dX8_copy_21 ?_
                      first | refine pb_ialdN g dX8_copy_22 (by first | exact mr_traySort | exact mr_order | exact mr_kind | exact mr_heaps | exact mr_m | exact mr_line | exact mr_other | exact mr_ways | exact mr_next | exact mr_chances | exact mr_after | exact mr_far | exact mr_groups | exact mr_found | exact mr_counts | exact mr_traySize | exact mr_cells | exact mr_moved | exact mr_traced | assumption) (by omega) (by omega) ?_ | refine pb_ald0 g dX8_copy_22 (by omega) ?_ | refine pb_ald1 g dX8_copy_22 (by omega) ?_ | refine pb_ald2 g dX8_copy_22 (by omega) ?_ | refine pb_ald3 g dX8_copy_22 (by omega) ?_ | refine pb_iald g dX8_copy_22 (by first | exact mr_traySort | exact mr_order | exact mr_kind | exact mr_heaps | exact mr_m | exact mr_line | exact mr_other | exact mr_ways | exact mr_next | exact mr_chances | exact mr_after | exact mr_far | exact mr_groups | exact mr_found | exact mr_counts | exact mr_traySize | exact mr_cells | exact mr_moved | exact mr_traced | assumption) (by assumption) ?_
                      rw [(d3 t0 ht0).1, hts1]
                      refine pb_if_ltN g 35 dX8_copy_23 (by decide) (by omega) ?_
                      refine pb_aload_n0 g dX8_copy_26 ?_
                      refine pb_getf g fX8_57 dX8_copy_27 mr_o rfl ?_
                      refine pb_iload_n3 g dX8_copy_30 ?_
                      first | refine pb_ialdN g dX8_copy_31 (by first | exact mr_traySort | exact mr_order | exact mr_kind | exact mr_heaps | exact mr_m | exact mr_line | exact mr_other | exact mr_ways | exact mr_next | exact mr_chances | exact mr_after | exact mr_far | exact mr_groups | exact mr_found | exact mr_counts | exact mr_traySize | exact mr_cells | exact mr_moved | exact mr_traced | assumption) (by omega) (by omega) ?_ | refine pb_ald0 g dX8_copy_31 (by omega) ?_ | refine pb_ald1 g dX8_copy_31 (by omega) ?_ | refine pb_ald2 g dX8_copy_31 (by omega) ?_ | refine pb_ald3 g dX8_copy_31 (by omega) ?_ | refine pb_iald g dX8_copy_31 (by first | exact mr_traySort | exact mr_order | exact mr_kind | exact mr_heaps | exact mr_m | exact mr_line | exact mr_other | exact mr_ways | exact mr_next | exact mr_chances | exact mr_after | exact mr_far | exact mr_groups | exact mr_found | exact mr_counts | exact mr_traySize | exact mr_cells | exact mr_moved | exact mr_traced | assumption) (by assumption) ?_
                      rw [(d3 o0 ho0).1, hts2]
                      refine pb_if_geN g 38 dX8_copy_32 (by decide) (by omega) ?_
                      refine pb_aload_n0 g dX8_copy_38 ?_
                      refine pb_getf g fX8_57 dX8_copy_39 mr_o rfl ?_
                      refine pb_iload_n1 g dX8_copy_42 ?_
                      first | refine pb_ialdN g dX8_copy_43 (by first | exact mr_traySort | exact mr_order | exact mr_kind | exact mr_heaps | exact mr_m | exact mr_line | exact mr_other | exact mr_ways | exact mr_next | exact mr_chances | exact mr_after | exact mr_far | exact mr_groups | exact mr_found | exact mr_counts | exact mr_traySize | exact mr_cells | exact mr_moved | exact mr_traced | assumption) (by omega) (by omega) ?_ | refine pb_ald0 g dX8_copy_43 (by omega) ?_ | refine pb_ald1 g dX8_copy_43 (by omega) ?_ | refine pb_ald2 g dX8_copy_43 (by omega) ?_ | refine pb_ald3 g dX8_copy_43 (by omega) ?_ | refine pb_iald g dX8_copy_43 (by first | exact mr_traySort | exact mr_order | exact mr_kind | exact mr_heaps | exact mr_m | exact mr_line | exact mr_other | exact mr_ways | exact mr_next | exact mr_chances | exact mr_after | exact mr_far | exact mr_groups | exact mr_found | exact mr_counts | exact mr_traySize | exact mr_cells | exact mr_moved | exact mr_traced | assumption) (by assumption) ?_
                      rw [(d3 t0 ht0).1, hts1]
                      refine pb_aload_n0 g dX8_copy_44 ?_
                      refine pb_getf g fX8_57 dX8_copy_45 mr_o rfl ?_
                      refine pb_iload_n3 g dX8_copy_48 ?_
                      first | refine pb_ialdN g dX8_copy_49 (by first | exact mr_traySort | exact mr_order | exact mr_kind | exact mr_heaps | exact mr_m | exact mr_line | exact mr_other | exact mr_ways | exact mr_next | exact mr_chances | exact mr_after | exact mr_far | exact mr_groups | exact mr_found | exact mr_counts | exact mr_traySize | exact mr_cells | exact mr_moved | exact mr_traced | assumption) (by omega) (by omega) ?_ | refine pb_ald0 g dX8_copy_49 (by omega) ?_ | refine pb_ald1 g dX8_copy_49 (by omega) ?_ | refine pb_ald2 g dX8_copy_49 (by omega) ?_ | refine pb_ald3 g dX8_copy_49 (by omega) ?_ | refine pb_iald g dX8_copy_49 (by first | exact mr_traySort | exact mr_order | exact mr_kind | exact mr_heaps | exact mr_m | exact mr_line | exact mr_other | exact mr_ways | exact mr_next | exact mr_chances | exact mr_after | exact mr_far | exact mr_groups | exact mr_found | exact mr_counts | exact mr_traySize | exact mr_cells | exact mr_moved | exact mr_traced | assumption) (by assumption) ?_
                      rw [(d3 o0 ho0).1, hts2]
                      first | refine pb_icmp_eqN g 56 dX8_copy_50 (by decide) (by omega) (by omega) (fun c50 => ?_) (fun c50 => ?_) | refine pb_icmp_eq g 56 dX8_copy_50 (by decide) (fun c50 => ?_) (fun c50 => ?_)
                      · refine pb_iload5 g dX8_copy_56 ?_
                        refine pb_if_lt g 97 dX8_copy_58 (by decide) (fun c58 => ?_) (fun c58 => ?_)
                        · exact absurd c58 hm0
                        · refine pb_iload_n2 g dX8_copy_61 ?_
                          refine pb_if_lt g 97 dX8_copy_62 (by decide) (fun c62 => ?_) (fun c62 => ?_)
                          · exact absurd c62 hi0
                          · refine pb_iload4 g dX8_copy_65 ?_
                            refine pb_if_lt g 97 dX8_copy_67 (by decide) (fun c67 => ?_) (fun c67 => ?_)
                            · refine pb_bipush (v := -12) g dX8_copy_97 (by decide) ?_
                              refine pb_iret g z dX8_copy_99 ?_
                              exact ⟨_, rfl, by rw [e], by rw [e]; exact ⟨_, _, _, _, _, _, _, _, _, _, _, _, _, _, _, _, _, _, _, rfl, d1, d2, d3, d4, d5⟩⟩
                            · exact absurd hj0 c67
                      · exact absurd hne c50
                    · exact absurd c11 (by decide)
                · obtain ⟨m0, hm9, rfl⟩ := nI_of hm0
                  obtain ⟨i0, hi9, rfl⟩ := nI_of hi0
                  obtain ⟨j0, hj9, rfl⟩ := nI_of hj0
                  by_cases hh1 : i0 + m0 ≤ zz t0
                  · by_cases hh2 : j0 + m0 ≤ zz o0
                    · have e : sCopy ((n, P, S, sd), (σ, μ, K, Hh), (ts, zz, it), (ra, tr)) (nI t0) (nI i0) (nI o0) (nI j0) (nI m0) = (nI m0, ((n, P, S, sd), (σ, μ, K, Hh), (ts, zz, va_up it o0 (va_cpy (it t0) (it o0) i0 j0 m0)), (ra, tr))) := by
                        simp only [sCopy, htx, hox]
                        rw [if_neg hno0, if_neg (fun z => z hne2), if_pos ⟨(hdN_nI hi9 hm9).mpr hh1, (hdN_nI hj9 hm9).mpr hh2⟩, nI_clamp hi9, nI_clamp hj9, nI_clamp hm9]
                      have loop2 : ∀ fm : Nat → Int32, (∀ i, i < m0 → fm i = xce (40 * t0 + i0 + i)) → ∀ i, i ≤ m0 → PB Γ 140 [some (.ref 0), some (.int (nI t0)), some (.int (nI i0)), some (.int (nI o0)), some (.int (nI j0)), some (.int (nI m0)), some (.int (nI i))] [] (mkH 20 (mdF (nI n) (nI P) (nI S) (sd) xod xkn xhs xmm xln xot xwy xnx xch xaf xfa xgr xfo xco xtsr xtsz (cpF xce fm (40 * o0 + j0) i) (fm) xtc (nI ra))) := by
                        intro fm hfm
                        refine pb_loop m0 (fun i hi ih => ?_)
                        refine pb_iload6 g dX8_copy_140 ?_
                        refine pb_iload5 g dX8_copy_142 ?_
                        first | refine pb_icmp_geN g 175 dX8_copy_144 (by decide) (by omega) (by omega) (fun c144 => ?_) (fun c144 => ?_) | refine pb_icmp_ge g 175 dX8_copy_144 (by decide) (fun c144 => ?_) (fun c144 => ?_)
                        · refine pb_iload5 g dX8_copy_175 ?_
                          refine pb_iret g z dX8_copy_177 ?_
                          obtain rfl : i = m0 := by omega
                          exact ⟨_, rfl, by rw [e], by rw [e]; exact ⟨_, _, _, _, _, _, _, _, _, _, _, _, _, _, _, _, _, _, _, rfl, d1, d2, fun t ht => by
                            obtain ⟨h1, h2, h3⟩ := d3 t ht
                            refine ⟨h1, h2, fun a ha => ?_⟩
                            by_cases q : t = o0
                            · subst q
                              rw [va_upS]
                              unfold va_cpy
                              by_cases w : j0 ≤ a ∧ a < j0 + i
                              · rw [if_pos w, show 40 * t + a = 40 * t + j0 + (a - j0) by omega, cp_in _ _ _ i _ (by omega), hfm _ (by omega), show 40 * t0 + i0 + (a - j0) = 40 * t0 + (i0 + (a - j0)) by omega]
                                exact (d3 t0 ht0).2.2 _ (by omega)
                              · rw [if_neg w, cp_out _ _ _ i _ (by omega)]
                                exact h3 a ha
                            · rw [va_upN q, cp_out _ _ _ i _ (by omega)]
                              exact h3 a ha, d4, d5⟩⟩
                        · refine pb_aload_n0 g dX8_copy_147 ?_
                          refine pb_getf g fX8_63 dX8_copy_148 mr_o rfl ?_
                          refine pb_bipush (v := nI 40) g dX8_copy_151 (by decide) ?_
                          refine pb_iload_n3 g dX8_copy_153 ?_
                          first | refine pb_imulN g dX8_copy_154 ?_ | refine pb_imul g dX8_copy_154 ?_
                          refine pb_iload4 g dX8_copy_155 ?_
                          first | refine pb_iaddN g dX8_copy_157 ?_ | refine pb_iadd g dX8_copy_157 ?_
                          refine pb_iload6 g dX8_copy_158 ?_
                          first | refine pb_iaddN g dX8_copy_160 ?_ | refine pb_iadd g dX8_copy_160 ?_
                          refine pb_aload_n0 g dX8_copy_161 ?_
                          refine pb_getf g fX8_66 dX8_copy_162 mr_o rfl ?_
                          refine pb_iload6 g dX8_copy_165 ?_
                          first | refine pb_ialdN g dX8_copy_167 (by first | exact mr_moved | exact mr_cells | exact mr_order | exact mr_kind | exact mr_heaps | exact mr_m | exact mr_line | exact mr_other | exact mr_ways | exact mr_next | exact mr_chances | exact mr_after | exact mr_far | exact mr_groups | exact mr_found | exact mr_counts | exact mr_traySort | exact mr_traySize | exact mr_traced | assumption) (by omega) (by omega) ?_ | refine pb_ald0 g dX8_copy_167 (by omega) ?_ | refine pb_ald1 g dX8_copy_167 (by omega) ?_ | refine pb_ald2 g dX8_copy_167 (by omega) ?_ | refine pb_ald3 g dX8_copy_167 (by omega) ?_ | refine pb_iald g dX8_copy_167 (by first | exact mr_moved | exact mr_cells | exact mr_order | exact mr_kind | exact mr_heaps | exact mr_m | exact mr_line | exact mr_other | exact mr_ways | exact mr_next | exact mr_chances | exact mr_after | exact mr_far | exact mr_groups | exact mr_found | exact mr_counts | exact mr_traySort | exact mr_traySize | exact mr_traced | assumption) (by assumption) ?_
                          first | refine pb_iastN g dX8_copy_168 (by first | exact mr_moved | exact mr_cells | exact mr_order | exact mr_kind | exact mr_heaps | exact mr_m | exact mr_line | exact mr_other | exact mr_ways | exact mr_next | exact mr_chances | exact mr_after | exact mr_far | exact mr_groups | exact mr_found | exact mr_counts | exact mr_traySort | exact mr_traySize | exact mr_traced | assumption) (by omega) (by omega) ?_ | refine pb_iast g dX8_copy_168 (by first | exact mr_moved | exact mr_cells | exact mr_order | exact mr_kind | exact mr_heaps | exact mr_m | exact mr_line | exact mr_other | exact mr_ways | exact mr_next | exact mr_chances | exact mr_after | exact mr_far | exact mr_groups | exact mr_found | exact mr_counts | exact mr_traySort | exact mr_traySize | exact mr_traced | assumption) (by assumption) ?_
                          first | rw [ms_moved] | rw [ms_cells]
                          first | refine pb_iinc6N g dX8_copy_169 (by decide) ?_ | refine pb_iinc6 g dX8_copy_169 (by decide) rfl ?_
                          refine pb_goto g 140 dX8_copy_172 (by decide) ?_
                          exact ih c144
                      have loop1 : ∀ i, i ≤ m0 → PB Γ 103 [some (.ref 0), some (.int (nI t0)), some (.int (nI i0)), some (.int (nI o0)), some (.int (nI j0)), some (.int (nI m0)), some (.int (nI i))] [] (mkH 20 (mdF (nI n) (nI P) (nI S) (sd) xod xkn xhs xmm xln xot xwy xnx xch xaf xfa xgr xfo xco xtsr xtsz xce (wrF xmv (fun i => xce (40 * t0 + i0 + i)) i) xtc (nI ra))) := by
                        refine pb_loop m0 (fun i hi ih => ?_)
                        refine pb_iload6 g dX8_copy_103 ?_
                        refine pb_iload5 g dX8_copy_105 ?_
                        first | refine pb_icmp_geN g 137 dX8_copy_107 (by decide) (by omega) (by omega) (fun c107 => ?_) (fun c107 => ?_) | refine pb_icmp_ge g 137 dX8_copy_107 (by decide) (fun c107 => ?_) (fun c107 => ?_)
                        · refine pb_iconst (v := nI 0) g dX8_copy_137 (by decide) ?_
                          refine pb_istore6 g dX8_copy_138 (by decide) ?_
                          exact loop2 _ (fun a ha => wr_at _ _ i a (by omega)) 0 (Nat.zero_le _)
                        · refine pb_aload_n0 g dX8_copy_110 ?_
                          refine pb_getf g fX8_66 dX8_copy_111 mr_o rfl ?_
                          refine pb_iload6 g dX8_copy_114 ?_
                          refine pb_aload_n0 g dX8_copy_116 ?_
                          refine pb_getf g fX8_63 dX8_copy_117 mr_o rfl ?_
                          refine pb_bipush (v := nI 40) g dX8_copy_120 (by decide) ?_
                          refine pb_iload_n1 g dX8_copy_122 ?_
                          first | refine pb_imulN g dX8_copy_123 ?_ | refine pb_imul g dX8_copy_123 ?_
                          refine pb_iload_n2 g dX8_copy_124 ?_
                          first | refine pb_iaddN g dX8_copy_125 ?_ | refine pb_iadd g dX8_copy_125 ?_
                          refine pb_iload6 g dX8_copy_126 ?_
                          first | refine pb_iaddN g dX8_copy_128 ?_ | refine pb_iadd g dX8_copy_128 ?_
                          first | refine pb_ialdN g dX8_copy_129 (by first | exact mr_cells | exact mr_moved | exact mr_order | exact mr_kind | exact mr_heaps | exact mr_m | exact mr_line | exact mr_other | exact mr_ways | exact mr_next | exact mr_chances | exact mr_after | exact mr_far | exact mr_groups | exact mr_found | exact mr_counts | exact mr_traySort | exact mr_traySize | exact mr_traced | assumption) (by omega) (by omega) ?_ | refine pb_ald0 g dX8_copy_129 (by omega) ?_ | refine pb_ald1 g dX8_copy_129 (by omega) ?_ | refine pb_ald2 g dX8_copy_129 (by omega) ?_ | refine pb_ald3 g dX8_copy_129 (by omega) ?_ | refine pb_iald g dX8_copy_129 (by first | exact mr_cells | exact mr_moved | exact mr_order | exact mr_kind | exact mr_heaps | exact mr_m | exact mr_line | exact mr_other | exact mr_ways | exact mr_next | exact mr_chances | exact mr_after | exact mr_far | exact mr_groups | exact mr_found | exact mr_counts | exact mr_traySort | exact mr_traySize | exact mr_traced | assumption) (by assumption) ?_
                          first | refine pb_iastN g dX8_copy_130 (by first | exact mr_cells | exact mr_moved | exact mr_order | exact mr_kind | exact mr_heaps | exact mr_m | exact mr_line | exact mr_other | exact mr_ways | exact mr_next | exact mr_chances | exact mr_after | exact mr_far | exact mr_groups | exact mr_found | exact mr_counts | exact mr_traySort | exact mr_traySize | exact mr_traced | assumption) (by omega) (by omega) ?_ | refine pb_iast g dX8_copy_130 (by first | exact mr_cells | exact mr_moved | exact mr_order | exact mr_kind | exact mr_heaps | exact mr_m | exact mr_line | exact mr_other | exact mr_ways | exact mr_next | exact mr_chances | exact mr_after | exact mr_far | exact mr_groups | exact mr_found | exact mr_counts | exact mr_traySort | exact mr_traySize | exact mr_traced | assumption) (by assumption) ?_
                          first | rw [ms_cells] | rw [ms_moved]
                          first | refine pb_iinc6N g dX8_copy_131 (by decide) ?_ | refine pb_iinc6 g dX8_copy_131 (by decide) rfl ?_
                          refine pb_goto g 103 dX8_copy_134 (by decide) ?_
                          exact ih c107
                      refine pb_iload_n1 g dX8_copy_0 ?_
                      refine pb_Si1 g qX8_94 dX8_copy_1 (k + 5) (by omega) (m_isTrayT (k + 5) _ (by assumption) _) (fun r1 h1 e1 => ?_)
                      obtain ⟨rfl, rfl⟩ := e1
                      first | refine pb_if_eqN g 14 dX8_copy_4 (by decide) (by omega) (fun c4 => ?_) (fun c4 => ?_) | refine pb_if_eq g 14 dX8_copy_4 (by decide) (fun c4 => ?_) (fun c4 => ?_)
                      · exact absurd c4 (by decide)
                      · refine pb_iload_n3 g dX8_copy_7 ?_
                        refine pb_Si1 g qX8_94 dX8_copy_8 (k + 5) (by omega) (m_isTrayT (k + 5) _ (by assumption) _) (fun r8 h8 e8 => ?_)
                        obtain ⟨rfl, rfl⟩ := e8
                        first | refine pb_if_neN g 17 dX8_copy_11 (by decide) (by omega) (fun c11 => ?_) (fun c11 => ?_) | refine pb_if_ne g 17 dX8_copy_11 (by decide) (fun c11 => ?_) (fun c11 => ?_)
                        · refine pb_aload_n0 g dX8_copy_17 ?_
                          refine pb_getf g fX8_57 dX8_copy_18 mr_o rfl ?_
                          refine pb_iload_n1 g dX8_copy_21 ?_
                          first | refine pb_ialdN g dX8_copy_22 (by first | exact mr_traySort | exact mr_order | exact mr_kind | exact mr_heaps | exact mr_m | exact mr_line | exact mr_other | exact mr_ways | exact mr_next | exact mr_chances | exact mr_after | exact mr_far | exact mr_groups | exact mr_found | exact mr_counts | exact mr_traySize | exact mr_cells | exact mr_moved | exact mr_traced | assumption) (by omega) (by omega) ?_ | refine pb_ald0 g dX8_copy_22 (by omega) ?_ | refine pb_ald1 g dX8_copy_22 (by omega) ?_ | refine pb_ald2 g dX8_copy_22 (by omega) ?_ | refine pb_ald3 g dX8_copy_22 (by omega) ?_ | refine pb_iald g dX8_copy_22 (by first | exact mr_traySort | exact mr_order | exact mr_kind | exact mr_heaps | exact mr_m | exact mr_line | exact mr_other | exact mr_ways | exact mr_next | exact mr_chances | exact mr_after | exact mr_far | exact mr_groups | exact mr_found | exact mr_counts | exact mr_traySize | exact mr_cells | exact mr_moved | exact mr_traced | assumption) (by assumption) ?_
                          rw [(d3 t0 ht0).1, hts1]
                          refine pb_if_ltN g 35 dX8_copy_23 (by decide) (by omega) ?_
                          refine pb_aload_n0 g dX8_copy_26 ?_
                          refine pb_getf g fX8_57 dX8_copy_27 mr_o rfl ?_
                          refine pb_iload_n3 g dX8_copy_30 ?_
                          first | refine pb_ialdN g dX8_copy_31 (by first | exact mr_traySort | exact mr_order | exact mr_kind | exact mr_heaps | exact mr_m | exact mr_line | exact mr_other | exact mr_ways | exact mr_next | exact mr_chances | exact mr_after | exact mr_far | exact mr_groups | exact mr_found | exact mr_counts | exact mr_traySize | exact mr_cells | exact mr_moved | exact mr_traced | assumption) (by omega) (by omega) ?_ | refine pb_ald0 g dX8_copy_31 (by omega) ?_ | refine pb_ald1 g dX8_copy_31 (by omega) ?_ | refine pb_ald2 g dX8_copy_31 (by omega) ?_ | refine pb_ald3 g dX8_copy_31 (by omega) ?_ | refine pb_iald g dX8_copy_31 (by first | exact mr_traySort | exact mr_order | exact mr_kind | exact mr_heaps | exact mr_m | exact mr_line | exact mr_other | exact mr_ways | exact mr_next | exact mr_chances | exact mr_after | exact mr_far | exact mr_groups | exact mr_found | exact mr_counts | exact mr_traySize | exact mr_cells | exact mr_moved | exact mr_traced | assumption) (by assumption) ?_
                          rw [(d3 o0 ho0).1, hts2]
                          refine pb_if_geN g 38 dX8_copy_32 (by decide) (by omega) ?_
                          refine pb_aload_n0 g dX8_copy_38 ?_
                          refine pb_getf g fX8_57 dX8_copy_39 mr_o rfl ?_
                          refine pb_iload_n1 g dX8_copy_42 ?_
                          first | refine pb_ialdN g dX8_copy_43 (by first | exact mr_traySort | exact mr_order | exact mr_kind | exact mr_heaps | exact mr_m | exact mr_line | exact mr_other | exact mr_ways | exact mr_next | exact mr_chances | exact mr_after | exact mr_far | exact mr_groups | exact mr_found | exact mr_counts | exact mr_traySize | exact mr_cells | exact mr_moved | exact mr_traced | assumption) (by omega) (by omega) ?_ | refine pb_ald0 g dX8_copy_43 (by omega) ?_ | refine pb_ald1 g dX8_copy_43 (by omega) ?_ | refine pb_ald2 g dX8_copy_43 (by omega) ?_ | refine pb_ald3 g dX8_copy_43 (by omega) ?_ | refine pb_iald g dX8_copy_43 (by first | exact mr_traySort | exact mr_order | exact mr_kind | exact mr_heaps | exact mr_m | exact mr_line | exact mr_other | exact mr_ways | exact mr_next | exact mr_chances | exact mr_after | exact mr_far | exact mr_groups | exact mr_found | exact mr_counts | exact mr_traySize | exact mr_cells | exact mr_moved | exact mr_traced | assumption) (by assumption) ?_
                          rw [(d3 t0 ht0).1, hts1]
                          refine pb_aload_n0 g dX8_copy_44 ?_
                          refine pb_getf g fX8_57 dX8_copy_45 mr_o rfl ?_
                          refine pb_iload_n3 g dX8_copy_48 ?_
                          first | refine pb_ialdN g dX8_copy_49 (by first | exact mr_traySort | exact mr_order | exact mr_kind | exact mr_heaps | exact mr_m | exact mr_line | exact mr_other | exact mr_ways | exact mr_next | exact mr_chances | exact mr_after | exact mr_far | exact mr_groups | exact mr_found | exact mr_counts | exact mr_traySize | exact mr_cells | exact mr_moved | exact mr_traced | assumption) (by omega) (by omega) ?_ | refine pb_ald0 g dX8_copy_49 (by omega) ?_ | refine pb_ald1 g dX8_copy_49 (by omega) ?_ | refine pb_ald2 g dX8_copy_49 (by omega) ?_ | refine pb_ald3 g dX8_copy_49 (by omega) ?_ | refine pb_iald g dX8_copy_49 (by first | exact mr_traySort | exact mr_order | exact mr_kind | exact mr_heaps | exact mr_m | exact mr_line | exact mr_other | exact mr_ways | exact mr_next | exact mr_chances | exact mr_after | exact mr_far | exact mr_groups | exact mr_found | exact mr_counts | exact mr_traySize | exact mr_cells | exact mr_moved | exact mr_traced | assumption) (by assumption) ?_
                          rw [(d3 o0 ho0).1, hts2]
                          first | refine pb_icmp_eqN g 56 dX8_copy_50 (by decide) (by omega) (by omega) (fun c50 => ?_) (fun c50 => ?_) | refine pb_icmp_eq g 56 dX8_copy_50 (by decide) (fun c50 => ?_) (fun c50 => ?_)
                          · refine pb_iload5 g dX8_copy_56 ?_
                            refine pb_if_ltN g 97 dX8_copy_58 (by decide) (by omega) ?_
                            refine pb_iload_n2 g dX8_copy_61 ?_
                            refine pb_if_ltN g 97 dX8_copy_62 (by decide) (by omega) ?_
                            refine pb_iload4 g dX8_copy_65 ?_
                            refine pb_if_ltN g 97 dX8_copy_67 (by decide) (by omega) ?_
                            refine pb_iload_n2 g dX8_copy_70 ?_
                            refine pb_aload_n0 g dX8_copy_71 ?_
                            refine pb_getf g fX8_60 dX8_copy_72 mr_o rfl ?_
                            refine pb_iload_n1 g dX8_copy_75 ?_
                            first | refine pb_ialdN g dX8_copy_76 (by first | exact mr_traySize | exact mr_traySort | exact mr_order | exact mr_kind | exact mr_heaps | exact mr_m | exact mr_line | exact mr_other | exact mr_ways | exact mr_next | exact mr_chances | exact mr_after | exact mr_far | exact mr_groups | exact mr_found | exact mr_counts | exact mr_cells | exact mr_moved | exact mr_traced | assumption) (by omega) (by omega) ?_ | refine pb_ald0 g dX8_copy_76 (by omega) ?_ | refine pb_ald1 g dX8_copy_76 (by omega) ?_ | refine pb_ald2 g dX8_copy_76 (by omega) ?_ | refine pb_ald3 g dX8_copy_76 (by omega) ?_ | refine pb_iald g dX8_copy_76 (by first | exact mr_traySize | exact mr_traySort | exact mr_order | exact mr_kind | exact mr_heaps | exact mr_m | exact mr_line | exact mr_other | exact mr_ways | exact mr_next | exact mr_chances | exact mr_after | exact mr_far | exact mr_groups | exact mr_found | exact mr_counts | exact mr_cells | exact mr_moved | exact mr_traced | assumption) (by assumption) ?_
                            rw [(d3 t0 ht0).2.1]
                            refine pb_iload5 g dX8_copy_77 ?_
                            first | refine pb_isubN g dX8_copy_79 (by omega) ?_ | refine pb_isub g dX8_copy_79 ?_
                            first | refine pb_icmp_gtN g 97 dX8_copy_80 (by decide) (by omega) (by omega) (fun c80 => ?_) (fun c80 => ?_) | refine pb_icmp_gt g 97 dX8_copy_80 (by decide) (fun c80 => ?_) (fun c80 => ?_)
                            · exact absurd c80 (by omega)
                            · refine pb_iload4 g dX8_copy_83 ?_
                              refine pb_aload_n0 g dX8_copy_85 ?_
                              refine pb_getf g fX8_60 dX8_copy_86 mr_o rfl ?_
                              refine pb_iload_n3 g dX8_copy_89 ?_
                              first | refine pb_ialdN g dX8_copy_90 (by first | exact mr_traySize | exact mr_traySort | exact mr_order | exact mr_kind | exact mr_heaps | exact mr_m | exact mr_line | exact mr_other | exact mr_ways | exact mr_next | exact mr_chances | exact mr_after | exact mr_far | exact mr_groups | exact mr_found | exact mr_counts | exact mr_cells | exact mr_moved | exact mr_traced | assumption) (by omega) (by omega) ?_ | refine pb_ald0 g dX8_copy_90 (by omega) ?_ | refine pb_ald1 g dX8_copy_90 (by omega) ?_ | refine pb_ald2 g dX8_copy_90 (by omega) ?_ | refine pb_ald3 g dX8_copy_90 (by omega) ?_ | refine pb_iald g dX8_copy_90 (by first | exact mr_traySize | exact mr_traySort | exact mr_order | exact mr_kind | exact mr_heaps | exact mr_m | exact mr_line | exact mr_other | exact mr_ways | exact mr_next | exact mr_chances | exact mr_after | exact mr_far | exact mr_groups | exact mr_found | exact mr_counts | exact mr_cells | exact mr_moved | exact mr_traced | assumption) (by assumption) ?_
                              rw [(d3 o0 ho0).2.1]
                              refine pb_iload5 g dX8_copy_91 ?_
                              first | refine pb_isubN g dX8_copy_93 (by omega) ?_ | refine pb_isub g dX8_copy_93 ?_
                              first | refine pb_icmp_leN g 100 dX8_copy_94 (by decide) (by omega) (by omega) (fun c94 => ?_) (fun c94 => ?_) | refine pb_icmp_le g 100 dX8_copy_94 (by decide) (fun c94 => ?_) (fun c94 => ?_)
                              · refine pb_iconst (v := nI 0) g dX8_copy_100 (by decide) ?_
                                refine pb_istore6 g dX8_copy_101 (by decide) ?_
                                exact loop1 0 (Nat.zero_le _)
                              · exact absurd c94 (by omega)
                          · exact absurd hne c50
                        · exact absurd c11 (by decide)
                    · have e := hbad (fun z => hh2 ((hdN_nI hj9 hm9).mp z.2))
                      by_cases hmz : m0 ≤ zz o0
                      · have : True := trivial
                        refine pb_iload_n1 g dX8_copy_0 ?_
                        refine pb_Si1 g qX8_94 dX8_copy_1 (k + 5) (by omega) (m_isTrayT (k + 5) _ (by assumption) _) (fun r1 h1 e1 => ?_)
                        obtain ⟨rfl, rfl⟩ := e1
                        first | refine pb_if_eqN g 14 dX8_copy_4 (by decide) (by omega) (fun c4 => ?_) (fun c4 => ?_) | refine pb_if_eq g 14 dX8_copy_4 (by decide) (fun c4 => ?_) (fun c4 => ?_)
                        · exact absurd c4 (by decide)
                        · refine pb_iload_n3 g dX8_copy_7 ?_
                          refine pb_Si1 g qX8_94 dX8_copy_8 (k + 5) (by omega) (m_isTrayT (k + 5) _ (by assumption) _) (fun r8 h8 e8 => ?_)
                          obtain ⟨rfl, rfl⟩ := e8
                          first | refine pb_if_neN g 17 dX8_copy_11 (by decide) (by omega) (fun c11 => ?_) (fun c11 => ?_) | refine pb_if_ne g 17 dX8_copy_11 (by decide) (fun c11 => ?_) (fun c11 => ?_)
                          · refine pb_aload_n0 g dX8_copy_17 ?_
                            refine pb_getf g fX8_57 dX8_copy_18 mr_o rfl ?_
                            refine pb_iload_n1 g dX8_copy_21 ?_
                            first | refine pb_ialdN g dX8_copy_22 (by first | exact mr_traySort | exact mr_order | exact mr_kind | exact mr_heaps | exact mr_m | exact mr_line | exact mr_other | exact mr_ways | exact mr_next | exact mr_chances | exact mr_after | exact mr_far | exact mr_groups | exact mr_found | exact mr_counts | exact mr_traySize | exact mr_cells | exact mr_moved | exact mr_traced | assumption) (by omega) (by omega) ?_ | refine pb_ald0 g dX8_copy_22 (by omega) ?_ | refine pb_ald1 g dX8_copy_22 (by omega) ?_ | refine pb_ald2 g dX8_copy_22 (by omega) ?_ | refine pb_ald3 g dX8_copy_22 (by omega) ?_ | refine pb_iald g dX8_copy_22 (by first | exact mr_traySort | exact mr_order | exact mr_kind | exact mr_heaps | exact mr_m | exact mr_line | exact mr_other | exact mr_ways | exact mr_next | exact mr_chances | exact mr_after | exact mr_far | exact mr_groups | exact mr_found | exact mr_counts | exact mr_traySize | exact mr_cells | exact mr_moved | exact mr_traced | assumption) (by assumption) ?_
                            rw [(d3 t0 ht0).1, hts1]
                            refine pb_if_ltN g 35 dX8_copy_23 (by decide) (by omega) ?_
                            refine pb_aload_n0 g dX8_copy_26 ?_
                            refine pb_getf g fX8_57 dX8_copy_27 mr_o rfl ?_
                            refine pb_iload_n3 g dX8_copy_30 ?_
                            first | refine pb_ialdN g dX8_copy_31 (by first | exact mr_traySort | exact mr_order | exact mr_kind | exact mr_heaps | exact mr_m | exact mr_line | exact mr_other | exact mr_ways | exact mr_next | exact mr_chances | exact mr_after | exact mr_far | exact mr_groups | exact mr_found | exact mr_counts | exact mr_traySize | exact mr_cells | exact mr_moved | exact mr_traced | assumption) (by omega) (by omega) ?_ | refine pb_ald0 g dX8_copy_31 (by omega) ?_ | refine pb_ald1 g dX8_copy_31 (by omega) ?_ | refine pb_ald2 g dX8_copy_31 (by omega) ?_ | refine pb_ald3 g dX8_copy_31 (by omega) ?_ | refine pb_iald g dX8_copy_31 (by first | exact mr_traySort | exact mr_order | exact mr_kind | exact mr_heaps | exact mr_m | exact mr_line | exact mr_other | exact mr_ways | exact mr_next | exact mr_chances | exact mr_after | exact mr_far | exact mr_groups | exact mr_found | exact mr_counts | exact mr_traySize | exact mr_cells | exact mr_moved | exact mr_traced | assumption) (by assumption) ?_
                            rw [(d3 o0 ho0).1, hts2]
                            refine pb_if_geN g 38 dX8_copy_32 (by decide) (by omega) ?_
                            refine pb_aload_n0 g dX8_copy_38 ?_
                            refine pb_getf g fX8_57 dX8_copy_39 mr_o rfl ?_
                            refine pb_iload_n1 g dX8_copy_42 ?_
                            first | refine pb_ialdN g dX8_copy_43 (by first | exact mr_traySort | exact mr_order | exact mr_kind | exact mr_heaps | exact mr_m | exact mr_line | exact mr_other | exact mr_ways | exact mr_next | exact mr_chances | exact mr_after | exact mr_far | exact mr_groups | exact mr_found | exact mr_counts | exact mr_traySize | exact mr_cells | exact mr_moved | exact mr_traced | assumption) (by omega) (by omega) ?_ | refine pb_ald0 g dX8_copy_43 (by omega) ?_ | refine pb_ald1 g dX8_copy_43 (by omega) ?_ | refine pb_ald2 g dX8_copy_43 (by omega) ?_ | refine pb_ald3 g dX8_copy_43 (by omega) ?_ | refine pb_iald g dX8_copy_43 (by first | exact mr_traySort | exact mr_order | exact mr_kind | exact mr_heaps | exact mr_m | exact mr_line | exact mr_other | exact mr_ways | exact mr_next | exact mr_chances | exact mr_after | exact mr_far | exact mr_groups | exact mr_found | exact mr_counts | exact mr_traySize | exact mr_cells | exact mr_moved | exact mr_traced | assumption) (by assumption) ?_
                            rw [(d3 t0 ht0).1, hts1]
                            refine pb_aload_n0 g dX8_copy_44 ?_
                            refine pb_getf g fX8_57 dX8_copy_45 mr_o rfl ?_
                            refine pb_iload_n3 g dX8_copy_48 ?_
                            first | refine pb_ialdN g dX8_copy_49 (by first | exact mr_traySort | exact mr_order | exact mr_kind | exact mr_heaps | exact mr_m | exact mr_line | exact mr_other | exact mr_ways | exact mr_next | exact mr_chances | exact mr_after | exact mr_far | exact mr_groups | exact mr_found | exact mr_counts | exact mr_traySize | exact mr_cells | exact mr_moved | exact mr_traced | assumption) (by omega) (by omega) ?_ | refine pb_ald0 g dX8_copy_49 (by omega) ?_ | refine pb_ald1 g dX8_copy_49 (by omega) ?_ | refine pb_ald2 g dX8_copy_49 (by omega) ?_ | refine pb_ald3 g dX8_copy_49 (by omega) ?_ | refine pb_iald g dX8_copy_49 (by first | exact mr_traySort | exact mr_order | exact mr_kind | exact mr_heaps | exact mr_m | exact mr_line | exact mr_other | exact mr_ways | exact mr_next | exact mr_chances | exact mr_after | exact mr_far | exact mr_groups | exact mr_found | exact mr_counts | exact mr_traySize | exact mr_cells | exact mr_moved | exact mr_traced | assumption) (by assumption) ?_
                            rw [(d3 o0 ho0).1, hts2]
                            first | refine pb_icmp_eqN g 56 dX8_copy_50 (by decide) (by omega) (by omega) (fun c50 => ?_) (fun c50 => ?_) | refine pb_icmp_eq g 56 dX8_copy_50 (by decide) (fun c50 => ?_) (fun c50 => ?_)
                            · refine pb_iload5 g dX8_copy_56 ?_
                              refine pb_if_ltN g 97 dX8_copy_58 (by decide) (by omega) ?_
                              refine pb_iload_n2 g dX8_copy_61 ?_
                              refine pb_if_ltN g 97 dX8_copy_62 (by decide) (by omega) ?_
                              refine pb_iload4 g dX8_copy_65 ?_
                              refine pb_if_ltN g 97 dX8_copy_67 (by decide) (by omega) ?_
                              refine pb_iload_n2 g dX8_copy_70 ?_
                              refine pb_aload_n0 g dX8_copy_71 ?_
                              refine pb_getf g fX8_60 dX8_copy_72 mr_o rfl ?_
                              refine pb_iload_n1 g dX8_copy_75 ?_
                              first | refine pb_ialdN g dX8_copy_76 (by first | exact mr_traySize | exact mr_traySort | exact mr_order | exact mr_kind | exact mr_heaps | exact mr_m | exact mr_line | exact mr_other | exact mr_ways | exact mr_next | exact mr_chances | exact mr_after | exact mr_far | exact mr_groups | exact mr_found | exact mr_counts | exact mr_cells | exact mr_moved | exact mr_traced | assumption) (by omega) (by omega) ?_ | refine pb_ald0 g dX8_copy_76 (by omega) ?_ | refine pb_ald1 g dX8_copy_76 (by omega) ?_ | refine pb_ald2 g dX8_copy_76 (by omega) ?_ | refine pb_ald3 g dX8_copy_76 (by omega) ?_ | refine pb_iald g dX8_copy_76 (by first | exact mr_traySize | exact mr_traySort | exact mr_order | exact mr_kind | exact mr_heaps | exact mr_m | exact mr_line | exact mr_other | exact mr_ways | exact mr_next | exact mr_chances | exact mr_after | exact mr_far | exact mr_groups | exact mr_found | exact mr_counts | exact mr_cells | exact mr_moved | exact mr_traced | assumption) (by assumption) ?_
                              rw [(d3 t0 ht0).2.1]
                              refine pb_iload5 g dX8_copy_77 ?_
                              first | refine pb_isubN g dX8_copy_79 (by omega) ?_ | refine pb_isub g dX8_copy_79 ?_
                              first | refine pb_icmp_gtN g 97 dX8_copy_80 (by decide) (by omega) (by omega) (fun c80 => ?_) (fun c80 => ?_) | refine pb_icmp_gt g 97 dX8_copy_80 (by decide) (fun c80 => ?_) (fun c80 => ?_)
                              · exact absurd c80 (by omega)
                              · refine pb_iload4 g dX8_copy_83 ?_
                                refine pb_aload_n0 g dX8_copy_85 ?_
                                refine pb_getf g fX8_60 dX8_copy_86 mr_o rfl ?_
                                refine pb_iload_n3 g dX8_copy_89 ?_
                                first | refine pb_ialdN g dX8_copy_90 (by first | exact mr_traySize | exact mr_traySort | exact mr_order | exact mr_kind | exact mr_heaps | exact mr_m | exact mr_line | exact mr_other | exact mr_ways | exact mr_next | exact mr_chances | exact mr_after | exact mr_far | exact mr_groups | exact mr_found | exact mr_counts | exact mr_cells | exact mr_moved | exact mr_traced | assumption) (by omega) (by omega) ?_ | refine pb_ald0 g dX8_copy_90 (by omega) ?_ | refine pb_ald1 g dX8_copy_90 (by omega) ?_ | refine pb_ald2 g dX8_copy_90 (by omega) ?_ | refine pb_ald3 g dX8_copy_90 (by omega) ?_ | refine pb_iald g dX8_copy_90 (by first | exact mr_traySize | exact mr_traySort | exact mr_order | exact mr_kind | exact mr_heaps | exact mr_m | exact mr_line | exact mr_other | exact mr_ways | exact mr_next | exact mr_chances | exact mr_after | exact mr_far | exact mr_groups | exact mr_found | exact mr_counts | exact mr_cells | exact mr_moved | exact mr_traced | assumption) (by assumption) ?_
                                rw [(d3 o0 ho0).2.1]
                                refine pb_iload5 g dX8_copy_91 ?_
                                first | refine pb_isubN g dX8_copy_93 (by omega) ?_ | refine pb_isub g dX8_copy_93 ?_
                                first | refine pb_icmp_leN g 100 dX8_copy_94 (by decide) (by omega) (by omega) (fun c94 => ?_) (fun c94 => ?_) | refine pb_icmp_le g 100 dX8_copy_94 (by decide) (fun c94 => ?_) (fun c94 => ?_)
                                · exact absurd c94 (by omega)
                                · refine pb_bipush (v := -12) g dX8_copy_97 (by decide) ?_
                                  refine pb_iret g z dX8_copy_99 ?_
                                  exact ⟨_, rfl, by rw [e], by rw [e]; exact ⟨_, _, _, _, _, _, _, _, _, _, _, _, _, _, _, _, _, _, _, rfl, d1, d2, d3, d4, d5⟩⟩
                            · exact absurd hne c50
                          · exact absurd c11 (by decide)
                      · have hlt : nI (zz o0) - nI m0 < nI j0 := Int32.lt_of_lt_of_le (sub_neg hz2 hm9 (by omega)) (nI_pos' hj9)
                        refine pb_iload_n1 g dX8_copy_0 ?_
                        refine pb_Si1 g qX8_94 dX8_copy_1 (k + 5) (by omega) (m_isTrayT (k + 5) _ (by assumption) _) (fun r1 h1 e1 => ?_)
                        obtain ⟨rfl, rfl⟩ := e1
                        first | refine pb_if_eqN g 14 dX8_copy_4 (by decide) (by omega) (fun c4 => ?_) (fun c4 => ?_) | refine pb_if_eq g 14 dX8_copy_4 (by decide) (fun c4 => ?_) (fun c4 => ?_)
                        · exact absurd c4 (by decide)
                        · refine pb_iload_n3 g dX8_copy_7 ?_
                          refine pb_Si1 g qX8_94 dX8_copy_8 (k + 5) (by omega) (m_isTrayT (k + 5) _ (by assumption) _) (fun r8 h8 e8 => ?_)
                          obtain ⟨rfl, rfl⟩ := e8
                          first | refine pb_if_neN g 17 dX8_copy_11 (by decide) (by omega) (fun c11 => ?_) (fun c11 => ?_) | refine pb_if_ne g 17 dX8_copy_11 (by decide) (fun c11 => ?_) (fun c11 => ?_)
                          · refine pb_aload_n0 g dX8_copy_17 ?_
                            refine pb_getf g fX8_57 dX8_copy_18 mr_o rfl ?_
                            refine pb_iload_n1 g dX8_copy_21 ?_
                            first | refine pb_ialdN g dX8_copy_22 (by first | exact mr_traySort | exact mr_order | exact mr_kind | exact mr_heaps | exact mr_m | exact mr_line | exact mr_other | exact mr_ways | exact mr_next | exact mr_chances | exact mr_after | exact mr_far | exact mr_groups | exact mr_found | exact mr_counts | exact mr_traySize | exact mr_cells | exact mr_moved | exact mr_traced | assumption) (by omega) (by omega) ?_ | refine pb_ald0 g dX8_copy_22 (by omega) ?_ | refine pb_ald1 g dX8_copy_22 (by omega) ?_ | refine pb_ald2 g dX8_copy_22 (by omega) ?_ | refine pb_ald3 g dX8_copy_22 (by omega) ?_ | refine pb_iald g dX8_copy_22 (by first | exact mr_traySort | exact mr_order | exact mr_kind | exact mr_heaps | exact mr_m | exact mr_line | exact mr_other | exact mr_ways | exact mr_next | exact mr_chances | exact mr_after | exact mr_far | exact mr_groups | exact mr_found | exact mr_counts | exact mr_traySize | exact mr_cells | exact mr_moved | exact mr_traced | assumption) (by assumption) ?_
                            rw [(d3 t0 ht0).1, hts1]
                            refine pb_if_ltN g 35 dX8_copy_23 (by decide) (by omega) ?_
                            refine pb_aload_n0 g dX8_copy_26 ?_
                            refine pb_getf g fX8_57 dX8_copy_27 mr_o rfl ?_
                            refine pb_iload_n3 g dX8_copy_30 ?_
                            first | refine pb_ialdN g dX8_copy_31 (by first | exact mr_traySort | exact mr_order | exact mr_kind | exact mr_heaps | exact mr_m | exact mr_line | exact mr_other | exact mr_ways | exact mr_next | exact mr_chances | exact mr_after | exact mr_far | exact mr_groups | exact mr_found | exact mr_counts | exact mr_traySize | exact mr_cells | exact mr_moved | exact mr_traced | assumption) (by omega) (by omega) ?_ | refine pb_ald0 g dX8_copy_31 (by omega) ?_ | refine pb_ald1 g dX8_copy_31 (by omega) ?_ | refine pb_ald2 g dX8_copy_31 (by omega) ?_ | refine pb_ald3 g dX8_copy_31 (by omega) ?_ | refine pb_iald g dX8_copy_31 (by first | exact mr_traySort | exact mr_order | exact mr_kind | exact mr_heaps | exact mr_m | exact mr_line | exact mr_other | exact mr_ways | exact mr_next | exact mr_chances | exact mr_after | exact mr_far | exact mr_groups | exact mr_found | exact mr_counts | exact mr_traySize | exact mr_cells | exact mr_moved | exact mr_traced | assumption) (by assumption) ?_
                            rw [(d3 o0 ho0).1, hts2]
                            refine pb_if_geN g 38 dX8_copy_32 (by decide) (by omega) ?_
                            refine pb_aload_n0 g dX8_copy_38 ?_
                            refine pb_getf g fX8_57 dX8_copy_39 mr_o rfl ?_
                            refine pb_iload_n1 g dX8_copy_42 ?_
                            first | refine pb_ialdN g dX8_copy_43 (by first | exact mr_traySort | exact mr_order | exact mr_kind | exact mr_heaps | exact mr_m | exact mr_line | exact mr_other | exact mr_ways | exact mr_next | exact mr_chances | exact mr_after | exact mr_far | exact mr_groups | exact mr_found | exact mr_counts | exact mr_traySize | exact mr_cells | exact mr_moved | exact mr_traced | assumption) (by omega) (by omega) ?_ | refine pb_ald0 g dX8_copy_43 (by omega) ?_ | refine pb_ald1 g dX8_copy_43 (by omega) ?_ | refine pb_ald2 g dX8_copy_43 (by omega) ?_ | refine pb_ald3 g dX8_copy_43 (by omega) ?_ | refine pb_iald g dX8_copy_43 (by first | exact mr_traySort | exact mr_order | exact mr_kind | exact mr_heaps | exact mr_m | exact mr_line | exact mr_other | exact mr_ways | exact mr_next | exact mr_chances | exact mr_after | exact mr_far | exact mr_groups | exact mr_found | exact mr_counts | exact mr_traySize | exact mr_cells | exact mr_moved | exact mr_traced | assumption) (by assumption) ?_
                            rw [(d3 t0 ht0).1, hts1]
                            refine pb_aload_n0 g dX8_copy_44 ?_
                            refine pb_getf g fX8_57 dX8_copy_45 mr_o rfl ?_
                            refine pb_iload_n3 g dX8_copy_48 ?_
                            first | refine pb_ialdN g dX8_copy_49 (by first | exact mr_traySort | exact mr_order | exact mr_kind | exact mr_heaps | exact mr_m | exact mr_line | exact mr_other | exact mr_ways | exact mr_next | exact mr_chances | exact mr_after | exact mr_far | exact mr_groups | exact mr_found | exact mr_counts | exact mr_traySize | exact mr_cells | exact mr_moved | exact mr_traced | assumption) (by omega) (by omega) ?_ | refine pb_ald0 g dX8_copy_49 (by omega) ?_ | refine pb_ald1 g dX8_copy_49 (by omega) ?_ | refine pb_ald2 g dX8_copy_49 (by omega) ?_ | refine pb_ald3 g dX8_copy_49 (by omega) ?_ | refine pb_iald g dX8_copy_49 (by first | exact mr_traySort | exact mr_order | exact mr_kind | exact mr_heaps | exact mr_m | exact mr_line | exact mr_other | exact mr_ways | exact mr_next | exact mr_chances | exact mr_after | exact mr_far | exact mr_groups | exact mr_found | exact mr_counts | exact mr_traySize | exact mr_cells | exact mr_moved | exact mr_traced | assumption) (by assumption) ?_
                            rw [(d3 o0 ho0).1, hts2]
                            first | refine pb_icmp_eqN g 56 dX8_copy_50 (by decide) (by omega) (by omega) (fun c50 => ?_) (fun c50 => ?_) | refine pb_icmp_eq g 56 dX8_copy_50 (by decide) (fun c50 => ?_) (fun c50 => ?_)
                            · refine pb_iload5 g dX8_copy_56 ?_
                              refine pb_if_ltN g 97 dX8_copy_58 (by decide) (by omega) ?_
                              refine pb_iload_n2 g dX8_copy_61 ?_
                              refine pb_if_ltN g 97 dX8_copy_62 (by decide) (by omega) ?_
                              refine pb_iload4 g dX8_copy_65 ?_
                              refine pb_if_ltN g 97 dX8_copy_67 (by decide) (by omega) ?_
                              refine pb_iload_n2 g dX8_copy_70 ?_
                              refine pb_aload_n0 g dX8_copy_71 ?_
                              refine pb_getf g fX8_60 dX8_copy_72 mr_o rfl ?_
                              refine pb_iload_n1 g dX8_copy_75 ?_
                              first | refine pb_ialdN g dX8_copy_76 (by first | exact mr_traySize | exact mr_traySort | exact mr_order | exact mr_kind | exact mr_heaps | exact mr_m | exact mr_line | exact mr_other | exact mr_ways | exact mr_next | exact mr_chances | exact mr_after | exact mr_far | exact mr_groups | exact mr_found | exact mr_counts | exact mr_cells | exact mr_moved | exact mr_traced | assumption) (by omega) (by omega) ?_ | refine pb_ald0 g dX8_copy_76 (by omega) ?_ | refine pb_ald1 g dX8_copy_76 (by omega) ?_ | refine pb_ald2 g dX8_copy_76 (by omega) ?_ | refine pb_ald3 g dX8_copy_76 (by omega) ?_ | refine pb_iald g dX8_copy_76 (by first | exact mr_traySize | exact mr_traySort | exact mr_order | exact mr_kind | exact mr_heaps | exact mr_m | exact mr_line | exact mr_other | exact mr_ways | exact mr_next | exact mr_chances | exact mr_after | exact mr_far | exact mr_groups | exact mr_found | exact mr_counts | exact mr_cells | exact mr_moved | exact mr_traced | assumption) (by assumption) ?_
                              rw [(d3 t0 ht0).2.1]
                              refine pb_iload5 g dX8_copy_77 ?_
                              first | refine pb_isubN g dX8_copy_79 (by omega) ?_ | refine pb_isub g dX8_copy_79 ?_
                              first | refine pb_icmp_gtN g 97 dX8_copy_80 (by decide) (by omega) (by omega) (fun c80 => ?_) (fun c80 => ?_) | refine pb_icmp_gt g 97 dX8_copy_80 (by decide) (fun c80 => ?_) (fun c80 => ?_)
                              · exact absurd c80 (by omega)
                              · refine pb_iload4 g dX8_copy_83 ?_
                                refine pb_aload_n0 g dX8_copy_85 ?_
                                refine pb_getf g fX8_60 dX8_copy_86 mr_o rfl ?_
                                refine pb_iload_n3 g dX8_copy_89 ?_
                                first | refine pb_ialdN g dX8_copy_90 (by first | exact mr_traySize | exact mr_traySort | exact mr_order | exact mr_kind | exact mr_heaps | exact mr_m | exact mr_line | exact mr_other | exact mr_ways | exact mr_next | exact mr_chances | exact mr_after | exact mr_far | exact mr_groups | exact mr_found | exact mr_counts | exact mr_cells | exact mr_moved | exact mr_traced | assumption) (by omega) (by omega) ?_ | refine pb_ald0 g dX8_copy_90 (by omega) ?_ | refine pb_ald1 g dX8_copy_90 (by omega) ?_ | refine pb_ald2 g dX8_copy_90 (by omega) ?_ | refine pb_ald3 g dX8_copy_90 (by omega) ?_ | refine pb_iald g dX8_copy_90 (by first | exact mr_traySize | exact mr_traySort | exact mr_order | exact mr_kind | exact mr_heaps | exact mr_m | exact mr_line | exact mr_other | exact mr_ways | exact mr_next | exact mr_chances | exact mr_after | exact mr_far | exact mr_groups | exact mr_found | exact mr_counts | exact mr_cells | exact mr_moved | exact mr_traced | assumption) (by assumption) ?_
                                rw [(d3 o0 ho0).2.1]
                                refine pb_iload5 g dX8_copy_91 ?_
                                refine pb_isub g dX8_copy_93 ?_
                                first | refine pb_icmp_leN g 100 dX8_copy_94 (by decide) (by omega) (by omega) (fun c94 => ?_) (fun c94 => ?_) | refine pb_icmp_le g 100 dX8_copy_94 (by decide) (fun c94 => ?_) (fun c94 => ?_)
                                · exact absurd hlt (Int32.not_lt.mpr c94)
                                · refine pb_bipush (v := -12) g dX8_copy_97 (by decide) ?_
                                  refine pb_iret g z dX8_copy_99 ?_
                                  exact ⟨_, rfl, by rw [e], by rw [e]; exact ⟨_, _, _, _, _, _, _, _, _, _, _, _, _, _, _, _, _, _, _, rfl, d1, d2, d3, d4, d5⟩⟩
                            · exact absurd hne c50
                          · exact absurd c11 (by decide)
                  · have e := hbad (fun z => hh1 ((hdN_nI hi9 hm9).mp z.1))
                    by_cases hmz : m0 ≤ zz t0
                    · have : True := trivial
                      refine pb_iload_n1 g dX8_copy_0 ?_
                      refine pb_Si1 g qX8_94 dX8_copy_1 (k + 5) (by omega) (m_isTrayT (k + 5) _ (by assumption) _) (fun r1 h1 e1 => ?_)
                      obtain ⟨rfl, rfl⟩ := e1
                      first | refine pb_if_eqN g 14 dX8_copy_4 (by decide) (by omega) (fun c4 => ?_) (fun c4 => ?_) | refine pb_if_eq g 14 dX8_copy_4 (by decide) (fun c4 => ?_) (fun c4 => ?_)
                      · exact absurd c4 (by decide)
                      · refine pb_iload_n3 g dX8_copy_7 ?_
                        refine pb_Si1 g qX8_94 dX8_copy_8 (k + 5) (by omega) (m_isTrayT (k + 5) _ (by assumption) _) (fun r8 h8 e8 => ?_)
                        obtain ⟨rfl, rfl⟩ := e8
                        first | refine pb_if_neN g 17 dX8_copy_11 (by decide) (by omega) (fun c11 => ?_) (fun c11 => ?_) | refine pb_if_ne g 17 dX8_copy_11 (by decide) (fun c11 => ?_) (fun c11 => ?_)
                        · refine pb_aload_n0 g dX8_copy_17 ?_
                          refine pb_getf g fX8_57 dX8_copy_18 mr_o rfl ?_
                          refine pb_iload_n1 g dX8_copy_21 ?_
                          first | refine pb_ialdN g dX8_copy_22 (by first | exact mr_traySort | exact mr_order | exact mr_kind | exact mr_heaps | exact mr_m | exact mr_line | exact mr_other | exact mr_ways | exact mr_next | exact mr_chances | exact mr_after | exact mr_far | exact mr_groups | exact mr_found | exact mr_counts | exact mr_traySize | exact mr_cells | exact mr_moved | exact mr_traced | assumption) (by omega) (by omega) ?_ | refine pb_ald0 g dX8_copy_22 (by omega) ?_ | refine pb_ald1 g dX8_copy_22 (by omega) ?_ | refine pb_ald2 g dX8_copy_22 (by omega) ?_ | refine pb_ald3 g dX8_copy_22 (by omega) ?_ | refine pb_iald g dX8_copy_22 (by first | exact mr_traySort | exact mr_order | exact mr_kind | exact mr_heaps | exact mr_m | exact mr_line | exact mr_other | exact mr_ways | exact mr_next | exact mr_chances | exact mr_after | exact mr_far | exact mr_groups | exact mr_found | exact mr_counts | exact mr_traySize | exact mr_cells | exact mr_moved | exact mr_traced | assumption) (by assumption) ?_
                          rw [(d3 t0 ht0).1, hts1]
                          refine pb_if_ltN g 35 dX8_copy_23 (by decide) (by omega) ?_
                          refine pb_aload_n0 g dX8_copy_26 ?_
                          refine pb_getf g fX8_57 dX8_copy_27 mr_o rfl ?_
                          refine pb_iload_n3 g dX8_copy_30 ?_
                          first | refine pb_ialdN g dX8_copy_31 (by first | exact mr_traySort | exact mr_order | exact mr_kind | exact mr_heaps | exact mr_m | exact mr_line | exact mr_other | exact mr_ways | exact mr_next | exact mr_chances | exact mr_after | exact mr_far | exact mr_groups | exact mr_found | exact mr_counts | exact mr_traySize | exact mr_cells | exact mr_moved | exact mr_traced | assumption) (by omega) (by omega) ?_ | refine pb_ald0 g dX8_copy_31 (by omega) ?_ | refine pb_ald1 g dX8_copy_31 (by omega) ?_ | refine pb_ald2 g dX8_copy_31 (by omega) ?_ | refine pb_ald3 g dX8_copy_31 (by omega) ?_ | refine pb_iald g dX8_copy_31 (by first | exact mr_traySort | exact mr_order | exact mr_kind | exact mr_heaps | exact mr_m | exact mr_line | exact mr_other | exact mr_ways | exact mr_next | exact mr_chances | exact mr_after | exact mr_far | exact mr_groups | exact mr_found | exact mr_counts | exact mr_traySize | exact mr_cells | exact mr_moved | exact mr_traced | assumption) (by assumption) ?_
                          rw [(d3 o0 ho0).1, hts2]
                          refine pb_if_geN g 38 dX8_copy_32 (by decide) (by omega) ?_
                          refine pb_aload_n0 g dX8_copy_38 ?_
                          refine pb_getf g fX8_57 dX8_copy_39 mr_o rfl ?_
                          refine pb_iload_n1 g dX8_copy_42 ?_
                          first | refine pb_ialdN g dX8_copy_43 (by first | exact mr_traySort | exact mr_order | exact mr_kind | exact mr_heaps | exact mr_m | exact mr_line | exact mr_other | exact mr_ways | exact mr_next | exact mr_chances | exact mr_after | exact mr_far | exact mr_groups | exact mr_found | exact mr_counts | exact mr_traySize | exact mr_cells | exact mr_moved | exact mr_traced | assumption) (by omega) (by omega) ?_ | refine pb_ald0 g dX8_copy_43 (by omega) ?_ | refine pb_ald1 g dX8_copy_43 (by omega) ?_ | refine pb_ald2 g dX8_copy_43 (by omega) ?_ | refine pb_ald3 g dX8_copy_43 (by omega) ?_ | refine pb_iald g dX8_copy_43 (by first | exact mr_traySort | exact mr_order | exact mr_kind | exact mr_heaps | exact mr_m | exact mr_line | exact mr_other | exact mr_ways | exact mr_next | exact mr_chances | exact mr_after | exact mr_far | exact mr_groups | exact mr_found | exact mr_counts | exact mr_traySize | exact mr_cells | exact mr_moved | exact mr_traced | assumption) (by assumption) ?_
                          rw [(d3 t0 ht0).1, hts1]
                          refine pb_aload_n0 g dX8_copy_44 ?_
                          refine pb_getf g fX8_57 dX8_copy_45 mr_o rfl ?_
                          refine pb_iload_n3 g dX8_copy_48 ?_
                          first | refine pb_ialdN g dX8_copy_49 (by first | exact mr_traySort | exact mr_order | exact mr_kind | exact mr_heaps | exact mr_m | exact mr_line | exact mr_other | exact mr_ways | exact mr_next | exact mr_chances | exact mr_after | exact mr_far | exact mr_groups | exact mr_found | exact mr_counts | exact mr_traySize | exact mr_cells | exact mr_moved | exact mr_traced | assumption) (by omega) (by omega) ?_ | refine pb_ald0 g dX8_copy_49 (by omega) ?_ | refine pb_ald1 g dX8_copy_49 (by omega) ?_ | refine pb_ald2 g dX8_copy_49 (by omega) ?_ | refine pb_ald3 g dX8_copy_49 (by omega) ?_ | refine pb_iald g dX8_copy_49 (by first | exact mr_traySort | exact mr_order | exact mr_kind | exact mr_heaps | exact mr_m | exact mr_line | exact mr_other | exact mr_ways | exact mr_next | exact mr_chances | exact mr_after | exact mr_far | exact mr_groups | exact mr_found | exact mr_counts | exact mr_traySize | exact mr_cells | exact mr_moved | exact mr_traced | assumption) (by assumption) ?_
                          rw [(d3 o0 ho0).1, hts2]
                          first | refine pb_icmp_eqN g 56 dX8_copy_50 (by decide) (by omega) (by omega) (fun c50 => ?_) (fun c50 => ?_) | refine pb_icmp_eq g 56 dX8_copy_50 (by decide) (fun c50 => ?_) (fun c50 => ?_)
                          · refine pb_iload5 g dX8_copy_56 ?_
                            refine pb_if_ltN g 97 dX8_copy_58 (by decide) (by omega) ?_
                            refine pb_iload_n2 g dX8_copy_61 ?_
                            refine pb_if_ltN g 97 dX8_copy_62 (by decide) (by omega) ?_
                            refine pb_iload4 g dX8_copy_65 ?_
                            refine pb_if_ltN g 97 dX8_copy_67 (by decide) (by omega) ?_
                            refine pb_iload_n2 g dX8_copy_70 ?_
                            refine pb_aload_n0 g dX8_copy_71 ?_
                            refine pb_getf g fX8_60 dX8_copy_72 mr_o rfl ?_
                            refine pb_iload_n1 g dX8_copy_75 ?_
                            first | refine pb_ialdN g dX8_copy_76 (by first | exact mr_traySize | exact mr_traySort | exact mr_order | exact mr_kind | exact mr_heaps | exact mr_m | exact mr_line | exact mr_other | exact mr_ways | exact mr_next | exact mr_chances | exact mr_after | exact mr_far | exact mr_groups | exact mr_found | exact mr_counts | exact mr_cells | exact mr_moved | exact mr_traced | assumption) (by omega) (by omega) ?_ | refine pb_ald0 g dX8_copy_76 (by omega) ?_ | refine pb_ald1 g dX8_copy_76 (by omega) ?_ | refine pb_ald2 g dX8_copy_76 (by omega) ?_ | refine pb_ald3 g dX8_copy_76 (by omega) ?_ | refine pb_iald g dX8_copy_76 (by first | exact mr_traySize | exact mr_traySort | exact mr_order | exact mr_kind | exact mr_heaps | exact mr_m | exact mr_line | exact mr_other | exact mr_ways | exact mr_next | exact mr_chances | exact mr_after | exact mr_far | exact mr_groups | exact mr_found | exact mr_counts | exact mr_cells | exact mr_moved | exact mr_traced | assumption) (by assumption) ?_
                            rw [(d3 t0 ht0).2.1]
                            refine pb_iload5 g dX8_copy_77 ?_
                            first | refine pb_isubN g dX8_copy_79 (by omega) ?_ | refine pb_isub g dX8_copy_79 ?_
                            first | refine pb_icmp_gtN g 97 dX8_copy_80 (by decide) (by omega) (by omega) (fun c80 => ?_) (fun c80 => ?_) | refine pb_icmp_gt g 97 dX8_copy_80 (by decide) (fun c80 => ?_) (fun c80 => ?_)
                            · refine pb_bipush (v := -12) g dX8_copy_97 (by decide) ?_
                              refine pb_iret g z dX8_copy_99 ?_
                              exact ⟨_, rfl, by rw [e], by rw [e]; exact ⟨_, _, _, _, _, _, _, _, _, _, _, _, _, _, _, _, _, _, _, rfl, d1, d2, d3, d4, d5⟩⟩
                            · exact absurd c80 (by omega)
                          · exact absurd hne c50
                        · exact absurd c11 (by decide)
                    · have hlt : nI (zz t0) - nI m0 < nI i0 := Int32.lt_of_lt_of_le (sub_neg hz1 hm9 (by omega)) (nI_pos' hi9)
                      refine pb_iload_n1 g dX8_copy_0 ?_
                      refine pb_Si1 g qX8_94 dX8_copy_1 (k + 5) (by omega) (m_isTrayT (k + 5) _ (by assumption) _) (fun r1 h1 e1 => ?_)
                      obtain ⟨rfl, rfl⟩ := e1
                      first | refine pb_if_eqN g 14 dX8_copy_4 (by decide) (by omega) (fun c4 => ?_) (fun c4 => ?_) | refine pb_if_eq g 14 dX8_copy_4 (by decide) (fun c4 => ?_) (fun c4 => ?_)
                      · exact absurd c4 (by decide)
                      · refine pb_iload_n3 g dX8_copy_7 ?_
                        refine pb_Si1 g qX8_94 dX8_copy_8 (k + 5) (by omega) (m_isTrayT (k + 5) _ (by assumption) _) (fun r8 h8 e8 => ?_)
                        obtain ⟨rfl, rfl⟩ := e8
                        first | refine pb_if_neN g 17 dX8_copy_11 (by decide) (by omega) (fun c11 => ?_) (fun c11 => ?_) | refine pb_if_ne g 17 dX8_copy_11 (by decide) (fun c11 => ?_) (fun c11 => ?_)
                        · refine pb_aload_n0 g dX8_copy_17 ?_
                          refine pb_getf g fX8_57 dX8_copy_18 mr_o rfl ?_
                          refine pb_iload_n1 g dX8_copy_21 ?_
                          first | refine pb_ialdN g dX8_copy_22 (by first | exact mr_traySort | exact mr_order | exact mr_kind | exact mr_heaps | exact mr_m | exact mr_line | exact mr_other | exact mr_ways | exact mr_next | exact mr_chances | exact mr_after | exact mr_far | exact mr_groups | exact mr_found | exact mr_counts | exact mr_traySize | exact mr_cells | exact mr_moved | exact mr_traced | assumption) (by omega) (by omega) ?_ | refine pb_ald0 g dX8_copy_22 (by omega) ?_ | refine pb_ald1 g dX8_copy_22 (by omega) ?_ | refine pb_ald2 g dX8_copy_22 (by omega) ?_ | refine pb_ald3 g dX8_copy_22 (by omega) ?_ | refine pb_iald g dX8_copy_22 (by first | exact mr_traySort | exact mr_order | exact mr_kind | exact mr_heaps | exact mr_m | exact mr_line | exact mr_other | exact mr_ways | exact mr_next | exact mr_chances | exact mr_after | exact mr_far | exact mr_groups | exact mr_found | exact mr_counts | exact mr_traySize | exact mr_cells | exact mr_moved | exact mr_traced | assumption) (by assumption) ?_
                          rw [(d3 t0 ht0).1, hts1]
                          refine pb_if_ltN g 35 dX8_copy_23 (by decide) (by omega) ?_
                          refine pb_aload_n0 g dX8_copy_26 ?_
                          refine pb_getf g fX8_57 dX8_copy_27 mr_o rfl ?_
                          refine pb_iload_n3 g dX8_copy_30 ?_
                          first | refine pb_ialdN g dX8_copy_31 (by first | exact mr_traySort | exact mr_order | exact mr_kind | exact mr_heaps | exact mr_m | exact mr_line | exact mr_other | exact mr_ways | exact mr_next | exact mr_chances | exact mr_after | exact mr_far | exact mr_groups | exact mr_found | exact mr_counts | exact mr_traySize | exact mr_cells | exact mr_moved | exact mr_traced | assumption) (by omega) (by omega) ?_ | refine pb_ald0 g dX8_copy_31 (by omega) ?_ | refine pb_ald1 g dX8_copy_31 (by omega) ?_ | refine pb_ald2 g dX8_copy_31 (by omega) ?_ | refine pb_ald3 g dX8_copy_31 (by omega) ?_ | refine pb_iald g dX8_copy_31 (by first | exact mr_traySort | exact mr_order | exact mr_kind | exact mr_heaps | exact mr_m | exact mr_line | exact mr_other | exact mr_ways | exact mr_next | exact mr_chances | exact mr_after | exact mr_far | exact mr_groups | exact mr_found | exact mr_counts | exact mr_traySize | exact mr_cells | exact mr_moved | exact mr_traced | assumption) (by assumption) ?_
                          rw [(d3 o0 ho0).1, hts2]
                          refine pb_if_geN g 38 dX8_copy_32 (by decide) (by omega) ?_
                          refine pb_aload_n0 g dX8_copy_38 ?_
                          refine pb_getf g fX8_57 dX8_copy_39 mr_o rfl ?_
                          refine pb_iload_n1 g dX8_copy_42 ?_
                          first | refine pb_ialdN g dX8_copy_43 (by first | exact mr_traySort | exact mr_order | exact mr_kind | exact mr_heaps | exact mr_m | exact mr_line | exact mr_other | exact mr_ways | exact mr_next | exact mr_chances | exact mr_after | exact mr_far | exact mr_groups | exact mr_found | exact mr_counts | exact mr_traySize | exact mr_cells | exact mr_moved | exact mr_traced | assumption) (by omega) (by omega) ?_ | refine pb_ald0 g dX8_copy_43 (by omega) ?_ | refine pb_ald1 g dX8_copy_43 (by omega) ?_ | refine pb_ald2 g dX8_copy_43 (by omega) ?_ | refine pb_ald3 g dX8_copy_43 (by omega) ?_ | refine pb_iald g dX8_copy_43 (by first | exact mr_traySort | exact mr_order | exact mr_kind | exact mr_heaps | exact mr_m | exact mr_line | exact mr_other | exact mr_ways | exact mr_next | exact mr_chances | exact mr_after | exact mr_far | exact mr_groups | exact mr_found | exact mr_counts | exact mr_traySize | exact mr_cells | exact mr_moved | exact mr_traced | assumption) (by assumption) ?_
                          rw [(d3 t0 ht0).1, hts1]
                          refine pb_aload_n0 g dX8_copy_44 ?_
                          refine pb_getf g fX8_57 dX8_copy_45 mr_o rfl ?_
                          refine pb_iload_n3 g dX8_copy_48 ?_
                          first | refine pb_ialdN g dX8_copy_49 (by first | exact mr_traySort | exact mr_order | exact mr_kind | exact mr_heaps | exact mr_m | exact mr_line | exact mr_other | exact mr_ways | exact mr_next | exact mr_chances | exact mr_after | exact mr_far | exact mr_groups | exact mr_found | exact mr_counts | exact mr_traySize | exact mr_cells | exact mr_moved | exact mr_traced | assumption) (by omega) (by omega) ?_ | refine pb_ald0 g dX8_copy_49 (by omega) ?_ | refine pb_ald1 g dX8_copy_49 (by omega) ?_ | refine pb_ald2 g dX8_copy_49 (by omega) ?_ | refine pb_ald3 g dX8_copy_49 (by omega) ?_ | refine pb_iald g dX8_copy_49 (by first | exact mr_traySort | exact mr_order | exact mr_kind | exact mr_heaps | exact mr_m | exact mr_line | exact mr_other | exact mr_ways | exact mr_next | exact mr_chances | exact mr_after | exact mr_far | exact mr_groups | exact mr_found | exact mr_counts | exact mr_traySize | exact mr_cells | exact mr_moved | exact mr_traced | assumption) (by assumption) ?_
                          rw [(d3 o0 ho0).1, hts2]
                          first | refine pb_icmp_eqN g 56 dX8_copy_50 (by decide) (by omega) (by omega) (fun c50 => ?_) (fun c50 => ?_) | refine pb_icmp_eq g 56 dX8_copy_50 (by decide) (fun c50 => ?_) (fun c50 => ?_)
                          · refine pb_iload5 g dX8_copy_56 ?_
                            refine pb_if_ltN g 97 dX8_copy_58 (by decide) (by omega) ?_
                            refine pb_iload_n2 g dX8_copy_61 ?_
                            refine pb_if_ltN g 97 dX8_copy_62 (by decide) (by omega) ?_
                            refine pb_iload4 g dX8_copy_65 ?_
                            refine pb_if_ltN g 97 dX8_copy_67 (by decide) (by omega) ?_
                            refine pb_iload_n2 g dX8_copy_70 ?_
                            refine pb_aload_n0 g dX8_copy_71 ?_
                            refine pb_getf g fX8_60 dX8_copy_72 mr_o rfl ?_
                            refine pb_iload_n1 g dX8_copy_75 ?_
                            first | refine pb_ialdN g dX8_copy_76 (by first | exact mr_traySize | exact mr_traySort | exact mr_order | exact mr_kind | exact mr_heaps | exact mr_m | exact mr_line | exact mr_other | exact mr_ways | exact mr_next | exact mr_chances | exact mr_after | exact mr_far | exact mr_groups | exact mr_found | exact mr_counts | exact mr_cells | exact mr_moved | exact mr_traced | assumption) (by omega) (by omega) ?_ | refine pb_ald0 g dX8_copy_76 (by omega) ?_ | refine pb_ald1 g dX8_copy_76 (by omega) ?_ | refine pb_ald2 g dX8_copy_76 (by omega) ?_ | refine pb_ald3 g dX8_copy_76 (by omega) ?_ | refine pb_iald g dX8_copy_76 (by first | exact mr_traySize | exact mr_traySort | exact mr_order | exact mr_kind | exact mr_heaps | exact mr_m | exact mr_line | exact mr_other | exact mr_ways | exact mr_next | exact mr_chances | exact mr_after | exact mr_far | exact mr_groups | exact mr_found | exact mr_counts | exact mr_cells | exact mr_moved | exact mr_traced | assumption) (by assumption) ?_
                            rw [(d3 t0 ht0).2.1]
                            refine pb_iload5 g dX8_copy_77 ?_
                            refine pb_isub g dX8_copy_79 ?_
                            first | refine pb_icmp_gtN g 97 dX8_copy_80 (by decide) (by omega) (by omega) (fun c80 => ?_) (fun c80 => ?_) | refine pb_icmp_gt g 97 dX8_copy_80 (by decide) (fun c80 => ?_) (fun c80 => ?_)
                            · refine pb_bipush (v := -12) g dX8_copy_97 (by decide) ?_
                              refine pb_iret g z dX8_copy_99 ?_
                              exact ⟨_, rfl, by rw [e], by rw [e]; exact ⟨_, _, _, _, _, _, _, _, _, _, _, _, _, _, _, _, _, _, _, rfl, d1, d2, d3, d4, d5⟩⟩
                            · exact absurd hlt c80
                          · exact absurd hne c50
                        · exact absurd c11 (by decide)
          · have e : sCopy ((n, P, S, sd), (σ, μ, K, Hh), (ts, zz, it), (ra, tr)) (nI t0) i (nI o0) j m = (-13, ((n, P, S, sd), (σ, μ, K, Hh), (ts, zz, it), (ra, tr))) := by
              simp only [sCopy, htx, hox]
              rw [if_neg hno0, if_pos (fun z => hne ((nI_eq (by omega) (by omega)).mp (by rw [← hts1, ← hts2]; exact z)))]
            refine pb_iload_n1 g dX8_copy_0 ?_
            refine pb_Si1 g qX8_94 dX8_copy_1 (k + 5) (by omega) (m_isTrayT (k + 5) _ (by assumption) _) (fun r1 h1 e1 => ?_)
            obtain ⟨rfl, rfl⟩ := e1
            first | refine pb_if_eqN g 14 dX8_copy_4 (by decide) (by omega) (fun c4 => ?_) (fun c4 => ?_) | refine pb_if_eq g 14 dX8_copy_4 (by decide) (fun c4 => ?_) (fun c4 => ?_)
            · exact absurd c4 (by decide)
            · refine pb_iload_n3 g dX8_copy_7 ?_
              refine pb_Si1 g qX8_94 dX8_copy_8 (k + 5) (by omega) (m_isTrayT (k + 5) _ (by assumption) _) (fun r8 h8 e8 => ?_)
              obtain ⟨rfl, rfl⟩ := e8
              first | refine pb_if_neN g 17 dX8_copy_11 (by decide) (by omega) (fun c11 => ?_) (fun c11 => ?_) | refine pb_if_ne g 17 dX8_copy_11 (by decide) (fun c11 => ?_) (fun c11 => ?_)
              · refine pb_aload_n0 g dX8_copy_17 ?_
                refine pb_getf g fX8_57 dX8_copy_18 mr_o rfl ?_
                refine pb_iload_n1 g dX8_copy_21 ?_
                first | refine pb_ialdN g dX8_copy_22 (by first | exact mr_traySort | exact mr_order | exact mr_kind | exact mr_heaps | exact mr_m | exact mr_line | exact mr_other | exact mr_ways | exact mr_next | exact mr_chances | exact mr_after | exact mr_far | exact mr_groups | exact mr_found | exact mr_counts | exact mr_traySize | exact mr_cells | exact mr_moved | exact mr_traced | assumption) (by omega) (by omega) ?_ | refine pb_ald0 g dX8_copy_22 (by omega) ?_ | refine pb_ald1 g dX8_copy_22 (by omega) ?_ | refine pb_ald2 g dX8_copy_22 (by omega) ?_ | refine pb_ald3 g dX8_copy_22 (by omega) ?_ | refine pb_iald g dX8_copy_22 (by first | exact mr_traySort | exact mr_order | exact mr_kind | exact mr_heaps | exact mr_m | exact mr_line | exact mr_other | exact mr_ways | exact mr_next | exact mr_chances | exact mr_after | exact mr_far | exact mr_groups | exact mr_found | exact mr_counts | exact mr_traySize | exact mr_cells | exact mr_moved | exact mr_traced | assumption) (by assumption) ?_
                rw [(d3 t0 ht0).1, hts1]
                refine pb_if_ltN g 35 dX8_copy_23 (by decide) (by omega) ?_
                refine pb_aload_n0 g dX8_copy_26 ?_
                refine pb_getf g fX8_57 dX8_copy_27 mr_o rfl ?_
                refine pb_iload_n3 g dX8_copy_30 ?_
                first | refine pb_ialdN g dX8_copy_31 (by first | exact mr_traySort | exact mr_order | exact mr_kind | exact mr_heaps | exact mr_m | exact mr_line | exact mr_other | exact mr_ways | exact mr_next | exact mr_chances | exact mr_after | exact mr_far | exact mr_groups | exact mr_found | exact mr_counts | exact mr_traySize | exact mr_cells | exact mr_moved | exact mr_traced | assumption) (by omega) (by omega) ?_ | refine pb_ald0 g dX8_copy_31 (by omega) ?_ | refine pb_ald1 g dX8_copy_31 (by omega) ?_ | refine pb_ald2 g dX8_copy_31 (by omega) ?_ | refine pb_ald3 g dX8_copy_31 (by omega) ?_ | refine pb_iald g dX8_copy_31 (by first | exact mr_traySort | exact mr_order | exact mr_kind | exact mr_heaps | exact mr_m | exact mr_line | exact mr_other | exact mr_ways | exact mr_next | exact mr_chances | exact mr_after | exact mr_far | exact mr_groups | exact mr_found | exact mr_counts | exact mr_traySize | exact mr_cells | exact mr_moved | exact mr_traced | assumption) (by assumption) ?_
                rw [(d3 o0 ho0).1, hts2]
                refine pb_if_geN g 38 dX8_copy_32 (by decide) (by omega) ?_
                refine pb_aload_n0 g dX8_copy_38 ?_
                refine pb_getf g fX8_57 dX8_copy_39 mr_o rfl ?_
                refine pb_iload_n1 g dX8_copy_42 ?_
                first | refine pb_ialdN g dX8_copy_43 (by first | exact mr_traySort | exact mr_order | exact mr_kind | exact mr_heaps | exact mr_m | exact mr_line | exact mr_other | exact mr_ways | exact mr_next | exact mr_chances | exact mr_after | exact mr_far | exact mr_groups | exact mr_found | exact mr_counts | exact mr_traySize | exact mr_cells | exact mr_moved | exact mr_traced | assumption) (by omega) (by omega) ?_ | refine pb_ald0 g dX8_copy_43 (by omega) ?_ | refine pb_ald1 g dX8_copy_43 (by omega) ?_ | refine pb_ald2 g dX8_copy_43 (by omega) ?_ | refine pb_ald3 g dX8_copy_43 (by omega) ?_ | refine pb_iald g dX8_copy_43 (by first | exact mr_traySort | exact mr_order | exact mr_kind | exact mr_heaps | exact mr_m | exact mr_line | exact mr_other | exact mr_ways | exact mr_next | exact mr_chances | exact mr_after | exact mr_far | exact mr_groups | exact mr_found | exact mr_counts | exact mr_traySize | exact mr_cells | exact mr_moved | exact mr_traced | assumption) (by assumption) ?_
                rw [(d3 t0 ht0).1, hts1]
                refine pb_aload_n0 g dX8_copy_44 ?_
                refine pb_getf g fX8_57 dX8_copy_45 mr_o rfl ?_
                refine pb_iload_n3 g dX8_copy_48 ?_
                first | refine pb_ialdN g dX8_copy_49 (by first | exact mr_traySort | exact mr_order | exact mr_kind | exact mr_heaps | exact mr_m | exact mr_line | exact mr_other | exact mr_ways | exact mr_next | exact mr_chances | exact mr_after | exact mr_far | exact mr_groups | exact mr_found | exact mr_counts | exact mr_traySize | exact mr_cells | exact mr_moved | exact mr_traced | assumption) (by omega) (by omega) ?_ | refine pb_ald0 g dX8_copy_49 (by omega) ?_ | refine pb_ald1 g dX8_copy_49 (by omega) ?_ | refine pb_ald2 g dX8_copy_49 (by omega) ?_ | refine pb_ald3 g dX8_copy_49 (by omega) ?_ | refine pb_iald g dX8_copy_49 (by first | exact mr_traySort | exact mr_order | exact mr_kind | exact mr_heaps | exact mr_m | exact mr_line | exact mr_other | exact mr_ways | exact mr_next | exact mr_chances | exact mr_after | exact mr_far | exact mr_groups | exact mr_found | exact mr_counts | exact mr_traySize | exact mr_cells | exact mr_moved | exact mr_traced | assumption) (by assumption) ?_
                rw [(d3 o0 ho0).1, hts2]
                first | refine pb_icmp_eqN g 56 dX8_copy_50 (by decide) (by omega) (by omega) (fun c50 => ?_) (fun c50 => ?_) | refine pb_icmp_eq g 56 dX8_copy_50 (by decide) (fun c50 => ?_) (fun c50 => ?_)
                · exact absurd c50 hne
                · refine pb_bipush (v := -13) g dX8_copy_53 (by decide) ?_
                  refine pb_iret g z dX8_copy_55 ?_
                  exact ⟨_, rfl, by rw [e], by rw [e]; exact ⟨_, _, _, _, _, _, _, _, _, _, _, _, _, _, _, _, _, _, _, rfl, d1, d2, d3, d4, d5⟩⟩
              · exact absurd c11 (by decide)
set_option maxHeartbeats 4000000 in
set_option maxRecDepth 100000 in
theorem m_rank (k : Nat) {xP xS xsd xbo : Int32} {xod xkn xhs xmm xln xot xfa xgr xtsr xtsz xce xmv xtc : Nat → Int32} {xwy xnx xch xaf xfo xco : Nat → Int64} {n : Nat} (hn : n ≤ 10) (o : Nat → Nat) (hf : ∀ j, j < n → xln j = nI (o j)) (ho : ∀ j, j < n → o j < 10) : Runs yX8_rank cX8_rank 5 (some .int) (k + 1) [.ref 0] (mkH 20 (mdF (nI n) xP xS xsd xod xkn xhs xmm xln xot xwy xnx xch xaf xfa xgr xfo xco xtsr xtsz xce xmv xtc xbo)) (fun oo h' => ∃ r : Int32, oo = some (.int r) ∧ r = nI (rkL o n n) ∧ mkH 20 (mdF (nI n) xP xS xsd xod xkn xhs xmm xln xot xwy xnx xch xaf xfa xgr xfo xco xtsr xtsz xce xmv xtc xbo) = h') := by
  refine Runs.of (by decide) (Nat.le_of_ble_eq_true rfl) [some (.ref 0), none, none, none, none] 4 rfl (fun Γ g z => ?_)
  have loop : ∀ i, i ≤ n → ∀ w1 w2 : Option Value, PB Γ 4 [some (.ref 0), some (.int (nI (rkL o n i))), some (.int (nI i)), w1, w2] [] (mkH 20 (mdF (nI n) xP xS xsd xod xkn xhs xmm xln xot xwy xnx xch xaf xfa xgr xfo xco xtsr xtsz xce xmv xtc xbo)) := by
    refine pb_loop n (fun i hi ih w1 w2 => ?_)
    by_cases hin : i < n
    · have hoi := ho i hin
      have inner : ∀ d, d ≤ n - 1 - i → PB Γ 19 [some (.ref 0), some (.int (nI (rkL o n i))), some (.int (nI i)), some (.int (nI (lcL o i d))), some (.int (nI (i + 1 + d)))] [] (mkH 20 (mdF (nI n) xP xS xsd xod xkn xhs xmm xln xot xwy xnx xch xaf xfa xgr xfo xco xtsr xtsz xce xmv xtc xbo)) := by
        refine pb_loop (n - 1 - i) (fun d hd ihd => ?_)
        by_cases hdn : i + 1 + d < n
        · have hod := ho (i + 1 + d) hdn
          have ihd := ihd (by omega)
          refine pb_iload4 g dX8_rank_19 ?_
          refine pb_aload_n0 g dX8_rank_21 ?_
          refine pb_getf g fX8_7 dX8_rank_22 mr_o rfl ?_
          first | refine pb_icmp_geN g 53 dX8_rank_25 (by decide) (by omega) (by omega) (fun c25 => ?_) (fun c25 => ?_) | refine pb_icmp_ge g 53 dX8_rank_25 (by decide) (fun c25 => ?_) (fun c25 => ?_)
          · exact absurd c25 (by omega)
          · refine pb_aload_n0 g dX8_rank_28 ?_
            refine pb_getf g fX8_26 dX8_rank_29 mr_o rfl ?_
            refine pb_iload4 g dX8_rank_32 ?_
            first | refine pb_ialdN g dX8_rank_34 (by first | exact mr_line | exact mr_order | exact mr_kind | exact mr_heaps | exact mr_m | exact mr_other | exact mr_ways | exact mr_next | exact mr_chances | exact mr_after | exact mr_far | exact mr_groups | exact mr_found | exact mr_counts | exact mr_traySort | exact mr_traySize | exact mr_cells | exact mr_moved | exact mr_traced | assumption) (by omega) (by omega) ?_ | refine pb_ald0 g dX8_rank_34 (by omega) ?_ | refine pb_ald1 g dX8_rank_34 (by omega) ?_ | refine pb_ald2 g dX8_rank_34 (by omega) ?_ | refine pb_ald3 g dX8_rank_34 (by omega) ?_ | refine pb_iald g dX8_rank_34 (by first | exact mr_line | exact mr_order | exact mr_kind | exact mr_heaps | exact mr_m | exact mr_other | exact mr_ways | exact mr_next | exact mr_chances | exact mr_after | exact mr_far | exact mr_groups | exact mr_found | exact mr_counts | exact mr_traySort | exact mr_traySize | exact mr_cells | exact mr_moved | exact mr_traced | assumption) (by assumption) ?_
            rw [hf (i + 1 + d) hdn]
            refine pb_aload_n0 g dX8_rank_35 ?_
            refine pb_getf g fX8_26 dX8_rank_36 mr_o rfl ?_
            refine pb_iload_n2 g dX8_rank_39 ?_
            first | refine pb_ialdN g dX8_rank_40 (by first | exact mr_line | exact mr_order | exact mr_kind | exact mr_heaps | exact mr_m | exact mr_other | exact mr_ways | exact mr_next | exact mr_chances | exact mr_after | exact mr_far | exact mr_groups | exact mr_found | exact mr_counts | exact mr_traySort | exact mr_traySize | exact mr_cells | exact mr_moved | exact mr_traced | assumption) (by omega) (by omega) ?_ | refine pb_ald0 g dX8_rank_40 (by omega) ?_ | refine pb_ald1 g dX8_rank_40 (by omega) ?_ | refine pb_ald2 g dX8_rank_40 (by omega) ?_ | refine pb_ald3 g dX8_rank_40 (by omega) ?_ | refine pb_iald g dX8_rank_40 (by first | exact mr_line | exact mr_order | exact mr_kind | exact mr_heaps | exact mr_m | exact mr_other | exact mr_ways | exact mr_next | exact mr_chances | exact mr_after | exact mr_far | exact mr_groups | exact mr_found | exact mr_counts | exact mr_traySort | exact mr_traySize | exact mr_cells | exact mr_moved | exact mr_traced | assumption) (by assumption) ?_
            rw [hf i hin]
            first | refine pb_icmp_geN g 47 dX8_rank_41 (by decide) (by omega) (by omega) (fun c41 => ?_) (fun c41 => ?_) | refine pb_icmp_ge g 47 dX8_rank_41 (by decide) (fun c41 => ?_) (fun c41 => ?_)
            · first | refine pb_iinc4N g dX8_rank_47 (by decide) ?_ | refine pb_iinc4 g dX8_rank_47 (by decide) rfl ?_
              refine pb_goto g 19 dX8_rank_50 (by decide) ?_
              first | (rw [lcL, if_neg (by omega)] at ihd; exact ihd) | (rw [lcL, if_pos (by omega)] at ihd; exact ihd)
            · first | refine pb_iinc3N g dX8_rank_44 (by decide) ?_ | refine pb_iinc3 g dX8_rank_44 (by decide) rfl ?_
              first | refine pb_iinc4N g dX8_rank_47 (by decide) ?_ | refine pb_iinc4 g dX8_rank_47 (by decide) rfl ?_
              refine pb_goto g 19 dX8_rank_50 (by decide) ?_
              first | (rw [lcL, if_neg (by omega)] at ihd; exact ihd) | (rw [lcL, if_pos (by omega)] at ihd; exact ihd)
        · obtain rfl : d = n - 1 - i := by omega
          have ih := ih hin
          refine pb_iload4 g dX8_rank_19 ?_
          refine pb_aload_n0 g dX8_rank_21 ?_
          refine pb_getf g fX8_7 dX8_rank_22 mr_o rfl ?_
          first | refine pb_icmp_geN g 53 dX8_rank_25 (by decide) (by omega) (by omega) (fun c25 => ?_) (fun c25 => ?_) | refine pb_icmp_ge g 53 dX8_rank_25 (by decide) (fun c25 => ?_) (fun c25 => ?_)
          · refine pb_iload_n1 g dX8_rank_53 ?_
            refine pb_iload_n3 g dX8_rank_54 ?_
            refine pb_aload_n0 g dX8_rank_55 ?_
            refine pb_getf g fX8_7 dX8_rank_56 mr_o rfl ?_
            refine pb_iconst (v := nI 1) g dX8_rank_59 (by decide) ?_
            first | refine pb_isubN g dX8_rank_60 (by omega) ?_ | refine pb_isub g dX8_rank_60 ?_
            refine pb_iload_n2 g dX8_rank_61 ?_
            first | refine pb_isubN g dX8_rank_62 (by omega) ?_ | refine pb_isub g dX8_rank_62 ?_
            refine pb_Si1 g qX8_82 dX8_rank_63 k (by omega) (m_orders k (n - 1 - i) (by omega) _) (fun r63 h63 e63 => ?_)
            obtain ⟨rfl, rfl⟩ := e63
            first | refine pb_imulN g dX8_rank_66 ?_ | refine pb_imul g dX8_rank_66 ?_
            first | refine pb_iaddN g dX8_rank_67 ?_ | refine pb_iadd g dX8_rank_67 ?_
            refine pb_istore_n1 g dX8_rank_68 (by decide) ?_
            first | refine pb_iinc2N g dX8_rank_69 (by decide) ?_ | refine pb_iinc2 g dX8_rank_69 (by decide) rfl ?_
            refine pb_goto g 4 dX8_rank_72 (by decide) ?_
            exact ih _ _
          · exact absurd c25 (by omega)
      refine pb_iload_n2 g dX8_rank_4 ?_
      refine pb_aload_n0 g dX8_rank_5 ?_
      refine pb_getf g fX8_7 dX8_rank_6 mr_o rfl ?_
      first | refine pb_icmp_geN g 75 dX8_rank_9 (by decide) (by omega) (by omega) (fun c9 => ?_) (fun c9 => ?_) | refine pb_icmp_ge g 75 dX8_rank_9 (by decide) (fun c9 => ?_) (fun c9 => ?_)
      · exact absurd c9 (by omega)
      · refine pb_iconst (v := nI 0) g dX8_rank_12 (by decide) ?_
        refine pb_istore_n3 g dX8_rank_13 (by decide) ?_
        refine pb_iload_n2 g dX8_rank_14 ?_
        refine pb_iconst (v := nI 1) g dX8_rank_15 (by decide) ?_
        first | refine pb_iaddN g dX8_rank_16 ?_ | refine pb_iadd g dX8_rank_16 ?_
        refine pb_istore4 g dX8_rank_17 (by decide) ?_
        exact inner 0 (Nat.zero_le _)
    · obtain rfl : i = n := by omega
      refine pb_iload_n2 g dX8_rank_4 ?_
      refine pb_aload_n0 g dX8_rank_5 ?_
      refine pb_getf g fX8_7 dX8_rank_6 mr_o rfl ?_
      first | refine pb_icmp_geN g 75 dX8_rank_9 (by decide) (by omega) (by omega) (fun c9 => ?_) (fun c9 => ?_) | refine pb_icmp_ge g 75 dX8_rank_9 (by decide) (fun c9 => ?_) (fun c9 => ?_)
      · refine pb_iload_n1 g dX8_rank_75 ?_
        refine pb_iret g z dX8_rank_76 ?_
        exact ⟨_, rfl, rfl, rfl⟩
      · exact absurd c9 (by omega)
  refine pb_iconst (v := nI 0) g dX8_rank_0 (by decide) ?_
  refine pb_istore_n1 g dX8_rank_1 (by decide) ?_
  refine pb_iconst (v := nI 0) g dX8_rank_2 (by decide) ?_
  refine pb_istore_n2 g dX8_rank_3 (by decide) ?_
  exact loop 0 (Nat.zero_le _) _ _
