/-! ===== the reference: deals, trays ===== -/
theorem ts_some {z : Nat} {x : Int32} (h : z ≤ 40 ∧ (x = -1 ∨ x = nI 0 ∨ x = nI 1 ∨ x = nI 2)) (hm : ¬ x = -1) : ∃ o, o < 3 ∧ x = nI o := by
  rcases h.2 with q | q | q | q
  · exact absurd q hm
  · exact ⟨0, by decide, q⟩
  · exact ⟨1, by decide, q⟩
  · exact ⟨2, by decide, q⟩
theorem lt_m1 {x : Int32} (h : x < 0) (hne : ¬ x = -1) : x < -1 := by
  rw [Int32.lt_iff_toInt_lt] at h ⊢
  have h1 : x.toInt ≠ (-1 : Int32).toInt := fun q => hne (Int32.toInt_inj.mp q)
  have h2 : (-1 : Int32).toInt = -1 := by decide
  have h3 : (0 : Int32).toInt = 0 := by decide
  omega
theorem nlt_m1 : ∀ o, o < 3 → ¬ nI o < -1 := by decide
set_option maxHeartbeats 4000000 in
set_option maxRecDepth 100000 in
theorem m_isTrayT (k j : Nat) (hj : j < 4) (h : PH) : Runs yX8_isTray cX8_isTray 1 (some .boolean) (k) [.int (nI j)] h (fun o h' => ∃ r : Int32, o = some (.int r) ∧ r = nI 1 ∧ h = h') := by
  refine Runs.of (by decide) (Nat.le_of_ble_eq_true rfl) [some (.int (nI j))] 0 rfl (fun Γ g z => ?_)
  refine pb_iload_n0 g dX8_isTray_0 ?_
  refine pb_if_ltN g 13 dX8_isTray_1 (by decide) (by omega) ?_
  refine pb_iload_n0 g dX8_isTray_4 ?_
  refine pb_iconst (v := nI 4) g dX8_isTray_5 (by decide) ?_
  first | refine pb_icmp_geN g 13 dX8_isTray_6 (by decide) (by omega) (by omega) (fun c6 => ?_) (fun c6 => ?_) | refine pb_icmp_ge g 13 dX8_isTray_6 (by decide) (fun c6 => ?_) (fun c6 => ?_)
  · exact absurd c6 (by omega)
  · refine pb_iconst (v := nI 1) g dX8_isTray_9 (by decide) ?_
    refine pb_goto g 14 dX8_isTray_10 (by decide) ?_
    refine pb_zret g z dX8_isTray_14 (by first | rfl | decide) ?_
    exact ⟨_, rfl, rfl, rfl⟩
set_option maxHeartbeats 4000000 in
set_option maxRecDepth 100000 in
theorem m_isTrayF (k : Nat) (x : Int32) (hx : ¬ inN x 4) (h : PH) : Runs yX8_isTray cX8_isTray 1 (some .boolean) (k) [.int x] h (fun o h' => ∃ r : Int32, o = some (.int r) ∧ r = nI 0 ∧ h = h') := by
  refine Runs.of (by decide) (Nat.le_of_ble_eq_true rfl) [some (.int x)] 0 rfl (fun Γ g z => ?_)
  have hx2 := inN_not (by decide) hx
  refine pb_iload_n0 g dX8_isTray_0 ?_
  refine pb_if_lt g 13 dX8_isTray_1 (by decide) (fun c1 => ?_) (fun c1 => ?_)
  · refine pb_iconst (v := nI 0) g dX8_isTray_13 (by decide) ?_
    refine pb_zret g z dX8_isTray_14 (by first | rfl | decide) ?_
    exact ⟨_, rfl, rfl, rfl⟩
  · refine pb_iload_n0 g dX8_isTray_4 ?_
    refine pb_iconst (v := nI 4) g dX8_isTray_5 (by decide) ?_
    first | refine pb_icmp_geN g 13 dX8_isTray_6 (by decide) (by omega) (by omega) (fun c6 => ?_) (fun c6 => ?_) | refine pb_icmp_ge g 13 dX8_isTray_6 (by decide) (fun c6 => ?_) (fun c6 => ?_)
    · refine pb_iconst (v := nI 0) g dX8_isTray_13 (by decide) ?_
      refine pb_zret g z dX8_isTray_14 (by first | rfl | decide) ?_
      exact ⟨_, rfl, rfl, rfl⟩
    · exact absurd hx2 (fun q => q.elim c1 c6)
set_option maxHeartbeats 4000000 in
set_option maxRecDepth 100000 in
theorem m_deal (k : Nat) (q : SP) (x : Int32) (h : PH) (hD : IsM q h) (hI : SI q) : Runs yX8_deal cX8_deal 5 (some .int) (k + 6) [.ref 0, .int x] h (fun oo h' => ∃ r : Int32, oo = some (.int r) ∧ r = (sDeal q x).1 ∧ IsM ((sDeal q x).2) h') := by
  obtain ⟨⟨n, P, S, sd⟩, ⟨σ, μ, K, Hh⟩, ⟨ts, zz, it⟩, ⟨ra, tr⟩⟩ := q
  obtain ⟨⟨hn1, hn, hP, hS⟩, hσ, hK, hz, hra⟩ := hI
  obtain ⟨xod, xkn, xhs, xmm, xln, xot, xfa, xgr, xtsr, xtsz, xce, xmv, xtc, xwy, xnx, xch, xaf, xfo, xco, rfl, d1, d2, d3, d4, d5⟩ := hD
  refine Runs.of (by decide) (Nat.le_of_ble_eq_true rfl) [some (.ref 0), some (.int x), none, none, none] 3 rfl (fun Γ g z => ?_)
  by_cases hb : x < nI 1 ∨ nI n < x
  · have e : sDeal ((n, P, S, sd), (σ, μ, K, Hh), (ts, zz, it), (ra, tr)) x = (-2, ((n, P, S, sd), (σ, μ, K, Hh), (ts, zz, it), (ra, tr))) := if_pos hb
    refine pb_iload_n1 g dX8_deal_0 ?_
    refine pb_iconst (v := nI 1) g dX8_deal_1 (by decide) ?_
    first | refine pb_icmp_ltN g 13 dX8_deal_2 (by decide) (by omega) (by omega) (fun c2 => ?_) (fun c2 => ?_) | refine pb_icmp_lt g 13 dX8_deal_2 (by decide) (fun c2 => ?_) (fun c2 => ?_)
    · refine pb_bipush (v := -2) g dX8_deal_13 (by decide) ?_
      refine pb_iret g z dX8_deal_15 ?_
      exact ⟨_, rfl, by rw [e], by rw [e]; exact ⟨_, _, _, _, _, _, _, _, _, _, _, _, _, _, _, _, _, _, _, rfl, d1, d2, d3, d4, d5⟩⟩
    · refine pb_iload_n1 g dX8_deal_5 ?_
      refine pb_aload_n0 g dX8_deal_6 ?_
      refine pb_getf g fX8_7 dX8_deal_7 mr_o rfl ?_
      first | refine pb_icmp_leN g 16 dX8_deal_10 (by decide) (by omega) (by omega) (fun c10 => ?_) (fun c10 => ?_) | refine pb_icmp_le g 16 dX8_deal_10 (by decide) (fun c10 => ?_) (fun c10 => ?_)
      · exact absurd hb (fun q => q.elim c2 (fun w => absurd c10 (Int32.not_le.mpr w)))
      · refine pb_bipush (v := -2) g dX8_deal_13 (by decide) ?_
        refine pb_iret g z dX8_deal_15 ?_
        exact ⟨_, rfl, by rw [e], by rw [e]; exact ⟨_, _, _, _, _, _, _, _, _, _, _, _, _, _, _, _, _, _, _, rfl, d1, d2, d3, d4, d5⟩⟩
  · have e0 : sDeal ((n, P, S, sd), (σ, μ, K, Hh), (ts, zz, it), (ra, tr)) x = sMk ((n, P, S, sd), (σ, μ, K, Hh), (ts, zz, it), (ra, tr)) 2 x.toNatClampNeg (fun j => (dlF n x.toNatClampNeg x.toNatClampNeg).getD j 0) := if_neg hb
    obtain ⟨m, hm1, hm2, rfl⟩ := rng (by omega) (by decide) hb
    rw [nI_clamp (by omega)] at e0
    by_cases h10 : S = 10
    · have e : sDeal ((n, P, S, sd), (σ, μ, K, Hh), (ts, zz, it), (ra, tr)) (nI m) = (-4, ((n, P, S, sd), (σ, μ, K, Hh), (ts, zz, it), (ra, tr))) := by rw [e0]; exact if_pos h10
      refine pb_iload_n1 g dX8_deal_0 ?_
      refine pb_iconst (v := nI 1) g dX8_deal_1 (by decide) ?_
      first | refine pb_icmp_ltN g 13 dX8_deal_2 (by decide) (by omega) (by omega) (fun c2 => ?_) (fun c2 => ?_) | refine pb_icmp_lt g 13 dX8_deal_2 (by decide) (fun c2 => ?_) (fun c2 => ?_)
      · exact absurd c2 (by omega)
      · refine pb_iload_n1 g dX8_deal_5 ?_
        refine pb_aload_n0 g dX8_deal_6 ?_
        refine pb_getf g fX8_7 dX8_deal_7 mr_o rfl ?_
        first | refine pb_icmp_leN g 16 dX8_deal_10 (by decide) (by omega) (by omega) (fun c10 => ?_) (fun c10 => ?_) | refine pb_icmp_le g 16 dX8_deal_10 (by decide) (fun c10 => ?_) (fun c10 => ?_)
        · refine pb_aload_n0 g dX8_deal_16 ?_
          refine pb_getf g fX8_75 dX8_deal_17 mr_o rfl ?_
          refine pb_bipush (v := nI 10) g dX8_deal_20 (by decide) ?_
          first | refine pb_icmp_neN g 28 dX8_deal_22 (by decide) (by omega) (by omega) (fun c22 => ?_) (fun c22 => ?_) | refine pb_icmp_ne g 28 dX8_deal_22 (by decide) (fun c22 => ?_) (fun c22 => ?_)
          · exact absurd h10 c22
          · refine pb_bipush (v := -4) g dX8_deal_25 (by decide) ?_
            refine pb_iret g z dX8_deal_27 ?_
            exact ⟨_, rfl, by rw [e], by rw [e]; exact ⟨_, _, _, _, _, _, _, _, _, _, _, _, _, _, _, _, _, _, _, rfl, d1, d2, d3, d4, d5⟩⟩
        · exact absurd c10 (by omega)
    · have e : sDeal ((n, P, S, sd), (σ, μ, K, Hh), (ts, zz, it), (ra, tr)) (nI m) = (nI S, ((n, P, S + 1, sd), (σ, va_up μ S (fun j => (dlF n m m).getD j 0), va_up K S 2, va_up Hh S m), (ts, zz, it), (ra, tr))) := by rw [e0]; exact if_neg h10
      obtain ⟨L0, L1, L2⟩ := dm_ok n (by omega) m (by omega) (by omega)
      have loop : ∀ g0, g0 ≤ m → ∀ (w4 : Option Value) (fs : Nat → Int32), (∀ j, j < (dmF n m g0).length → fs j = nI ((dmF n m g0).getD j 0)) → PB Γ 32 [some (.ref 0), some (.int (nI m)), some (.int (nI (dmF n m g0).length)), some (.int (nI g0)), w4] [] (mkH 20 (mdF (nI n) (nI P) (nI S) (sd) xod xkn xhs xmm (fs) xot xwy xnx xch xaf xfa xgr xfo xco xtsr xtsz xce xmv xtc (nI ra))) := by
        refine pb_loop m (fun g0 hg0 ih w4 fs hfs => ?_)
        by_cases hgm : g0 < m
        · have ih := ih hgm
          have L2 := L2 g0 hgm
          have inner : ∀ i, i ≤ n → ∀ pre, pre ++ rmL m g0 i = dmF n m (g0 + 1) → ∀ fs : Nat → Int32, (∀ j, j < pre.length → fs j = nI (pre.getD j 0)) → PB Γ 45 [some (.ref 0), some (.int (nI m)), some (.int (nI pre.length)), some (.int (nI g0)), some (.int (nI i - nI 1))] [] (mkH 20 (mdF (nI n) (nI P) (nI S) (sd) xod xkn xhs xmm (fs) xot xwy xnx xch xaf xfa xgr xfo xco xtsr xtsz xce xmv xtc (nI ra))) := by
            refine pb_down (fun i ihi hin pre hpre fs hfs => ?_)
            cases i with
            | zero =>
              have hpre2 : pre = dmF n m (g0 + 1) := by rw [← hpre, rmL, List.append_nil]
              refine pb_iload4 g dX8_deal_45 ?_
              refine pb_if_lt g 75 dX8_deal_47 (by decide) (fun c47 => ?_) (fun c47 => ?_)
              · first | refine pb_iinc3N g dX8_deal_75 (by decide) ?_ | refine pb_iinc3 g dX8_deal_75 (by decide) rfl ?_
                refine pb_goto g 32 dX8_deal_78 (by decide) ?_
                rw [← hpre2] at ih
                exact ih _ fs hfs
              · exact absurd (show nI 0 - nI 1 < 0 by decide) c47
            | succ i =>
              rw [show nI (i + 1) - nI 1 = nI i from nI_pred i]
              have ihi := ihi i rfl (by omega)
              rw [rmL] at hpre
              have himod : i % m < m := Nat.mod_lt _ (by omega)
              by_cases hig : i % m = g0
              · rw [if_pos hig] at hpre
                have hlen2 : (pre ++ [i]).length = pre.length + 1 := by simp
                have hle : pre.length < n := by
                  have := congrArg List.length hpre
                  rw [List.length_append, List.length_cons] at this
                  omega
                have hnew : ∀ j, j < (pre ++ [i]).length → upd fs pre.length (nI i) j = nI ((pre ++ [i]).getD j 0) := fun j hj => by
                  by_cases e9 : j = pre.length
                  · subst e9
                    rw [upd, if_pos rfl]
                    simp
                  · rw [upd, if_neg e9, hfs j (by omega)]
                    congr 1
                    simp [List.getElem?_append_left (show j < pre.length by omega)]
                have ihi := ihi (pre ++ [i]) (by rw [← hpre, List.append_assoc]; rfl) _ hnew
                rw [hlen2] at ihi
                refine pb_iload4 g dX8_deal_45 ?_
                refine pb_if_ltN g 75 dX8_deal_47 (by decide) (by omega) ?_
                refine pb_iload4 g dX8_deal_50 ?_
                refine pb_iload_n1 g dX8_deal_52 ?_
                first | refine pb_iremN g dX8_deal_53 (by omega) (by omega) (by omega) ?_ | refine pb_irem g dX8_deal_53 (by assumption) ?_
                refine pb_iload_n3 g dX8_deal_54 ?_
                first | refine pb_icmp_neN g 69 dX8_deal_55 (by decide) (by omega) (by omega) (fun c55 => ?_) (fun c55 => ?_) | refine pb_icmp_ne g 69 dX8_deal_55 (by decide) (fun c55 => ?_) (fun c55 => ?_)
                · exact absurd hig c55
                · refine pb_aload_n0 g dX8_deal_58 ?_
                  refine pb_getf g fX8_26 dX8_deal_59 mr_o rfl ?_
                  refine pb_iload_n2 g dX8_deal_62 ?_
                  first | refine pb_iinc2N g dX8_deal_63 (by decide) ?_ | refine pb_iinc2 g dX8_deal_63 (by decide) rfl ?_
                  refine pb_iload4 g dX8_deal_66 ?_
                  first | refine pb_iastN g dX8_deal_68 (by first | exact mr_line | exact mr_order | exact mr_kind | exact mr_heaps | exact mr_m | exact mr_other | exact mr_ways | exact mr_next | exact mr_chances | exact mr_after | exact mr_far | exact mr_groups | exact mr_found | exact mr_counts | exact mr_traySort | exact mr_traySize | exact mr_cells | exact mr_moved | exact mr_traced | assumption) (by omega) (by omega) ?_ | refine pb_iast g dX8_deal_68 (by first | exact mr_line | exact mr_order | exact mr_kind | exact mr_heaps | exact mr_m | exact mr_other | exact mr_ways | exact mr_next | exact mr_chances | exact mr_after | exact mr_far | exact mr_groups | exact mr_found | exact mr_counts | exact mr_traySort | exact mr_traySize | exact mr_cells | exact mr_moved | exact mr_traced | assumption) (by assumption) ?_
                  first | rw [ms_line]
                  refine pb_iinc4 (v := nI i - nI 1) g dX8_deal_69 (by decide) (by rw [Int32.sub_eq_add_neg]; rfl) ?_
                  refine pb_goto g 45 dX8_deal_72 (by decide) ?_
                  exact ihi
              · rw [if_neg hig] at hpre
                have ihi := ihi pre hpre fs hfs
                refine pb_iload4 g dX8_deal_45 ?_
                refine pb_if_ltN g 75 dX8_deal_47 (by decide) (by omega) ?_
                refine pb_iload4 g dX8_deal_50 ?_
                refine pb_iload_n1 g dX8_deal_52 ?_
                first | refine pb_iremN g dX8_deal_53 (by omega) (by omega) (by omega) ?_ | refine pb_irem g dX8_deal_53 (by assumption) ?_
                refine pb_iload_n3 g dX8_deal_54 ?_
                first | refine pb_icmp_neN g 69 dX8_deal_55 (by decide) (by omega) (by omega) (fun c55 => ?_) (fun c55 => ?_) | refine pb_icmp_ne g 69 dX8_deal_55 (by decide) (fun c55 => ?_) (fun c55 => ?_)
                · refine pb_iinc4 (v := nI i - nI 1) g dX8_deal_69 (by decide) (by rw [Int32.sub_eq_add_neg]; rfl) ?_
                  refine pb_goto g 45 dX8_deal_72 (by decide) ?_
                  exact ihi
                · exact absurd c55 hig
          refine pb_iload_n3 g dX8_deal_32 ?_
          refine pb_iload_n1 g dX8_deal_33 ?_
          first | refine pb_icmp_geN g 81 dX8_deal_34 (by decide) (by omega) (by omega) (fun c34 => ?_) (fun c34 => ?_) | refine pb_icmp_ge g 81 dX8_deal_34 (by decide) (fun c34 => ?_) (fun c34 => ?_)
          · exact absurd c34 (by omega)
          · refine pb_aload_n0 g dX8_deal_37 ?_
            refine pb_getf g fX8_7 dX8_deal_38 mr_o rfl ?_
            refine pb_iconst (v := nI 1) g dX8_deal_41 (by decide) ?_
            refine pb_isub g dX8_deal_42 ?_
            refine pb_istore4 g dX8_deal_43 (by decide) ?_
            exact inner n (Nat.le_refl n) _ rfl fs hfs
        · obtain rfl : g0 = m := by omega
          refine pb_iload_n3 g dX8_deal_32 ?_
          refine pb_iload_n1 g dX8_deal_33 ?_
          first | refine pb_icmp_geN g 81 dX8_deal_34 (by decide) (by omega) (by omega) (fun c34 => ?_) (fun c34 => ?_) | refine pb_icmp_ge g 81 dX8_deal_34 (by decide) (fun c34 => ?_) (fun c34 => ?_)
          · refine pb_aload_n0 g dX8_deal_81 ?_
            refine pb_iconst (v := nI 2) g dX8_deal_82 (by decide) ?_
            refine pb_iload_n1 g dX8_deal_83 ?_
            refine pb_Vi2 g qX8_116 dX8_deal_84 (k + 5) (by omega) mr_o (m_makes (k + 5) (n := n) (S := S) (a := 2) (b := g0) hn (by omega)) (fun r84 h84 e84 => ?_)
            obtain ⟨rfl, rfl⟩ := e84
            refine pb_iret g z dX8_deal_87 ?_
            exact ⟨_, rfl, by rw [e], by rw [e]; exact ⟨_, _, _, _, _, _, _, _, _, _, _, _, _, _, _, _, _, _, _, rfl, d1, m2_up hn d2 (fun _ j hj => by rw [hfs j (by rw [L1]; exact hj), L0]), d3, d4, d5⟩⟩
          · exact absurd c34 (by omega)
      refine pb_iload_n1 g dX8_deal_0 ?_
      refine pb_iconst (v := nI 1) g dX8_deal_1 (by decide) ?_
      first | refine pb_icmp_ltN g 13 dX8_deal_2 (by decide) (by omega) (by omega) (fun c2 => ?_) (fun c2 => ?_) | refine pb_icmp_lt g 13 dX8_deal_2 (by decide) (fun c2 => ?_) (fun c2 => ?_)
      · exact absurd c2 (by omega)
      · refine pb_iload_n1 g dX8_deal_5 ?_
        refine pb_aload_n0 g dX8_deal_6 ?_
        refine pb_getf g fX8_7 dX8_deal_7 mr_o rfl ?_
        first | refine pb_icmp_leN g 16 dX8_deal_10 (by decide) (by omega) (by omega) (fun c10 => ?_) (fun c10 => ?_) | refine pb_icmp_le g 16 dX8_deal_10 (by decide) (fun c10 => ?_) (fun c10 => ?_)
        · refine pb_aload_n0 g dX8_deal_16 ?_
          refine pb_getf g fX8_75 dX8_deal_17 mr_o rfl ?_
          refine pb_bipush (v := nI 10) g dX8_deal_20 (by decide) ?_
          first | refine pb_icmp_neN g 28 dX8_deal_22 (by decide) (by omega) (by omega) (fun c22 => ?_) (fun c22 => ?_) | refine pb_icmp_ne g 28 dX8_deal_22 (by decide) (fun c22 => ?_) (fun c22 => ?_)
          · refine pb_iconst (v := nI 0) g dX8_deal_28 (by decide) ?_
            refine pb_istore_n2 g dX8_deal_29 (by decide) ?_
            refine pb_iconst (v := nI 0) g dX8_deal_30 (by decide) ?_
            refine pb_istore_n3 g dX8_deal_31 (by decide) ?_
            exact loop 0 (Nat.zero_le _) _ xln (fun j hj => absurd hj (by simp [dmF]))
          · exact absurd c22 h10
        · exact absurd c10 (by omega)
set_option maxHeartbeats 4000000 in
set_option maxRecDepth 100000 in
theorem m_tray (k : Nat) (q : SP) (t so x : Int32) (h : PH) (hD : IsM q h) (hI : SI q) : Runs yX8_tray cX8_tray 5 (some .int) (k + 6) [.ref 0, .int t, .int so, .int x] h (fun oo h' => ∃ r : Int32, oo = some (.int r) ∧ r = (sTray q t so x).1 ∧ IsM ((sTray q t so x).2) h') := by
  obtain ⟨⟨n, P, S, sd⟩, ⟨σ, μ, K, Hh⟩, ⟨ts, zz, it⟩, ⟨ra, tr⟩⟩ := q
  obtain ⟨⟨hn1, hn, hP, hS⟩, hσ, hK, hz, hra⟩ := hI
  obtain ⟨xod, xkn, xhs, xmm, xln, xot, xfa, xgr, xtsr, xtsz, xce, xmv, xtc, xwy, xnx, xch, xaf, xfo, xco, rfl, d1, d2, d3, d4, d5⟩ := hD
  refine Runs.of (by decide) (Nat.le_of_ble_eq_true rfl) [some (.ref 0), some (.int t), some (.int so), some (.int x), none] 1 rfl (fun Γ g z => ?_)
  cases htx : ix t 4 with
  | none =>
    have e : sTray ((n, P, S, sd), (σ, μ, K, Hh), (ts, zz, it), (ra, tr)) t so x = (-2, ((n, P, S, sd), (σ, μ, K, Hh), (ts, zz, it), (ra, tr))) := by simp only [sTray, htx]
    have htn := ix_none (by decide) htx
    refine pb_iload_n1 g dX8_tray_0 ?_
    refine pb_Si1 g qX8_94 dX8_tray_1 (k + 5) (by omega) (m_isTrayF (k + 5) _ (by assumption) _) (fun r1 h1 e1 => ?_)
    obtain ⟨rfl, rfl⟩ := e1
    first | refine pb_if_eqN g 27 dX8_tray_4 (by decide) (by omega) (fun c4 => ?_) (fun c4 => ?_) | refine pb_if_eq g 27 dX8_tray_4 (by decide) (fun c4 => ?_) (fun c4 => ?_)
    · refine pb_bipush (v := -2) g dX8_tray_27 (by decide) ?_
      refine pb_iret g z dX8_tray_29 ?_
      exact ⟨_, rfl, by rw [e], by rw [e]; exact ⟨_, _, _, _, _, _, _, _, _, _, _, _, _, _, _, _, _, _, _, rfl, d1, d2, d3, d4, d5⟩⟩
    · exact absurd c4 (by decide)
  | some t0 =>
    obtain ⟨ht0, rfl⟩ := ix_some (by decide) htx
    by_cases hm1 : so = -1
    · subst hm1
      have e : sTray ((n, P, S, sd), (σ, μ, K, Hh), (ts, zz, it), (ra, tr)) (nI t0) (-1) x = (1, ((n, P, S, sd), (σ, μ, K, Hh), (upd ts t0 (-1), va_up zz t0 0, va_up it t0 (fun _ => 0)), (ra, tr))) := by simp only [sTray, htx, if_pos]
      have loop : ∀ i, i ≤ 40 → PB Γ 66 [some (.ref 0), some (.int (nI t0)), some (.int (-1)), some (.int x), some (.int (nI i))] [] (mkH 20 (mdF (nI n) (nI P) (nI S) (sd) xod xkn xhs xmm xln xot xwy xnx xch xaf xfa xgr xfo xco (upd xtsr t0 (-1)) (upd xtsz t0 (nI 0)) (cpF xce (fun _ => nI 0) (40 * t0) i) xmv xtc (nI ra))) := by
        refine pb_loop 40 (fun i hi ih => ?_)
        refine pb_iload4 g dX8_tray_66 ?_
        refine pb_bipush (v := nI 40) g dX8_tray_68 (by decide) ?_
        first | refine pb_icmp_geN g 92 dX8_tray_70 (by decide) (by omega) (by omega) (fun c70 => ?_) (fun c70 => ?_) | refine pb_icmp_ge g 92 dX8_tray_70 (by decide) (fun c70 => ?_) (fun c70 => ?_)
        · refine pb_iconst (v := nI 1) g dX8_tray_92 (by decide) ?_
          refine pb_iret g z dX8_tray_93 ?_
          obtain rfl : i = 40 := by omega
          exact ⟨_, rfl, by rw [e]; rfl, by rw [e]; exact ⟨_, _, _, _, _, _, _, _, _, _, _, _, _, _, _, _, _, _, _, rfl, d1, d2, fun t ht => by
            by_cases q : t = t0
            · subst q
              rw [va_upS, va_upS]
              exact ⟨(if_pos rfl).trans (if_pos rfl).symm, if_pos rfl, fun j hj => cp_in _ _ _ 40 j hj⟩
            · rw [va_upN q, va_upN q]
              obtain ⟨h1, h2, h3⟩ := d3 t ht
              exact ⟨((if_neg q).trans h1).trans (if_neg q).symm, (if_neg q).trans h2, fun j hj => by rw [cp_out _ _ _ 40 _ (by omega)]; exact h3 j hj⟩, d4, d5⟩⟩
        · refine pb_aload_n0 g dX8_tray_73 ?_
          refine pb_getf g fX8_63 dX8_tray_74 mr_o rfl ?_
          refine pb_bipush (v := nI 40) g dX8_tray_77 (by decide) ?_
          refine pb_iload_n1 g dX8_tray_79 ?_
          first | refine pb_imulN g dX8_tray_80 ?_ | refine pb_imul g dX8_tray_80 ?_
          refine pb_iload4 g dX8_tray_81 ?_
          first | refine pb_iaddN g dX8_tray_83 ?_ | refine pb_iadd g dX8_tray_83 ?_
          refine pb_iconst (v := nI 0) g dX8_tray_84 (by decide) ?_
          first | refine pb_iastN g dX8_tray_85 (by first | exact mr_cells | exact mr_order | exact mr_kind | exact mr_heaps | exact mr_m | exact mr_line | exact mr_other | exact mr_ways | exact mr_next | exact mr_chances | exact mr_after | exact mr_far | exact mr_groups | exact mr_found | exact mr_counts | exact mr_traySort | exact mr_traySize | exact mr_moved | exact mr_traced | assumption) (by omega) (by omega) ?_ | refine pb_iast g dX8_tray_85 (by first | exact mr_cells | exact mr_order | exact mr_kind | exact mr_heaps | exact mr_m | exact mr_line | exact mr_other | exact mr_ways | exact mr_next | exact mr_chances | exact mr_after | exact mr_far | exact mr_groups | exact mr_found | exact mr_counts | exact mr_traySort | exact mr_traySize | exact mr_moved | exact mr_traced | assumption) (by assumption) ?_
          first | rw [ms_cells]
          first | refine pb_iinc4N g dX8_tray_86 (by decide) ?_ | refine pb_iinc4 g dX8_tray_86 (by decide) rfl ?_
          refine pb_goto g 66 dX8_tray_89 (by decide) ?_
          exact ih (by omega)
      refine pb_iload_n1 g dX8_tray_0 ?_
      refine pb_Si1 g qX8_94 dX8_tray_1 (k + 5) (by omega) (m_isTrayT (k + 5) _ (by assumption) _) (fun r1 h1 e1 => ?_)
      obtain ⟨rfl, rfl⟩ := e1
      first | refine pb_if_eqN g 27 dX8_tray_4 (by decide) (by omega) (fun c4 => ?_) (fun c4 => ?_) | refine pb_if_eq g 27 dX8_tray_4 (by decide) (fun c4 => ?_) (fun c4 => ?_)
      · exact absurd c4 (by decide)
      · refine pb_iload_n2 g dX8_tray_7 ?_
        refine pb_iconst (v := -1) g dX8_tray_8 (by decide) ?_
        first | refine pb_icmp_ltN g 27 dX8_tray_9 (by decide) (by omega) (by omega) (fun c9 => ?_) (fun c9 => ?_) | refine pb_icmp_lt g 27 dX8_tray_9 (by decide) (fun c9 => ?_) (fun c9 => ?_)
        · exact absurd c9 (by decide)
        · refine pb_iload_n2 g dX8_tray_12 ?_
          refine pb_iconst (v := nI 2) g dX8_tray_13 (by decide) ?_
          first | refine pb_icmp_gtN g 27 dX8_tray_14 (by decide) (by omega) (by omega) (fun c14 => ?_) (fun c14 => ?_) | refine pb_icmp_gt g 27 dX8_tray_14 (by decide) (fun c14 => ?_) (fun c14 => ?_)
          · exact absurd c14 (by decide)
          · refine pb_iload_n2 g dX8_tray_17 ?_
            refine pb_if_lt g 30 dX8_tray_18 (by decide) (fun c18 => ?_) (fun c18 => ?_)
            · refine pb_iload_n2 g dX8_tray_30 ?_
              refine pb_if_lt g 41 dX8_tray_31 (by decide) (fun c31 => ?_) (fun c31 => ?_)
              · refine pb_aload_n0 g dX8_tray_41 ?_
                refine pb_getf g fX8_57 dX8_tray_42 mr_o rfl ?_
                refine pb_iload_n1 g dX8_tray_45 ?_
                refine pb_iload_n2 g dX8_tray_46 ?_
                first | refine pb_iastN g dX8_tray_47 (by first | exact mr_traySort | exact mr_order | exact mr_kind | exact mr_heaps | exact mr_m | exact mr_line | exact mr_other | exact mr_ways | exact mr_next | exact mr_chances | exact mr_after | exact mr_far | exact mr_groups | exact mr_found | exact mr_counts | exact mr_traySize | exact mr_cells | exact mr_moved | exact mr_traced | assumption) (by omega) (by omega) ?_ | refine pb_iast g dX8_tray_47 (by first | exact mr_traySort | exact mr_order | exact mr_kind | exact mr_heaps | exact mr_m | exact mr_line | exact mr_other | exact mr_ways | exact mr_next | exact mr_chances | exact mr_after | exact mr_far | exact mr_groups | exact mr_found | exact mr_counts | exact mr_traySize | exact mr_cells | exact mr_moved | exact mr_traced | assumption) (by assumption) ?_
                first | rw [ms_traySort]
                refine pb_aload_n0 g dX8_tray_48 ?_
                refine pb_getf g fX8_60 dX8_tray_49 mr_o rfl ?_
                refine pb_iload_n1 g dX8_tray_52 ?_
                refine pb_iload_n2 g dX8_tray_53 ?_
                refine pb_if_ge g 61 dX8_tray_54 (by decide) (fun c54 => ?_) (fun c54 => ?_)
                · exact absurd c54 (by decide)
                · refine pb_iconst (v := nI 0) g dX8_tray_57 (by decide) ?_
                  refine pb_goto g 62 dX8_tray_58 (by decide) ?_
                  first | refine pb_iastN g dX8_tray_62 (by first | exact mr_traySize | exact mr_traySort | exact mr_order | exact mr_kind | exact mr_heaps | exact mr_m | exact mr_line | exact mr_other | exact mr_ways | exact mr_next | exact mr_chances | exact mr_after | exact mr_far | exact mr_groups | exact mr_found | exact mr_counts | exact mr_cells | exact mr_moved | exact mr_traced | assumption) (by omega) (by omega) ?_ | refine pb_iast g dX8_tray_62 (by first | exact mr_traySize | exact mr_traySort | exact mr_order | exact mr_kind | exact mr_heaps | exact mr_m | exact mr_line | exact mr_other | exact mr_ways | exact mr_next | exact mr_chances | exact mr_after | exact mr_far | exact mr_groups | exact mr_found | exact mr_counts | exact mr_cells | exact mr_moved | exact mr_traced | assumption) (by assumption) ?_
                  first | rw [ms_traySize] | rw [ms_traySort]
                  refine pb_iconst (v := nI 0) g dX8_tray_63 (by decide) ?_
                  refine pb_istore4 g dX8_tray_64 (by decide) ?_
                  exact loop 0 (Nat.zero_le _)
              · exact absurd (by decide) c31
            · exact absurd (by decide) c18
    · cases hsx : ix so 3 with
      | none =>
        have e : sTray ((n, P, S, sd), (σ, μ, K, Hh), (ts, zz, it), (ra, tr)) (nI t0) so x = (-2, ((n, P, S, sd), (σ, μ, K, Hh), (ts, zz, it), (ra, tr))) := by simp only [sTray, htx, if_neg hm1, hsx]
        have hsn := inN_not (by decide) (ix_none (by decide) hsx)
        have hsn : so < -1 ∨ nI 2 < so := hsn.imp (fun q => lt_m1 q hm1) (fun q => Int32.lt_of_lt_of_le (by decide) q)
        refine pb_iload_n1 g dX8_tray_0 ?_
        refine pb_Si1 g qX8_94 dX8_tray_1 (k + 5) (by omega) (m_isTrayT (k + 5) _ (by assumption) _) (fun r1 h1 e1 => ?_)
        obtain ⟨rfl, rfl⟩ := e1
        first | refine pb_if_eqN g 27 dX8_tray_4 (by decide) (by omega) (fun c4 => ?_) (fun c4 => ?_) | refine pb_if_eq g 27 dX8_tray_4 (by decide) (fun c4 => ?_) (fun c4 => ?_)
        · exact absurd c4 (by decide)
        · refine pb_iload_n2 g dX8_tray_7 ?_
          refine pb_iconst (v := -1) g dX8_tray_8 (by decide) ?_
          first | refine pb_icmp_ltN g 27 dX8_tray_9 (by decide) (by omega) (by omega) (fun c9 => ?_) (fun c9 => ?_) | refine pb_icmp_lt g 27 dX8_tray_9 (by decide) (fun c9 => ?_) (fun c9 => ?_)
          · refine pb_bipush (v := -2) g dX8_tray_27 (by decide) ?_
            refine pb_iret g z dX8_tray_29 ?_
            exact ⟨_, rfl, by rw [e], by rw [e]; exact ⟨_, _, _, _, _, _, _, _, _, _, _, _, _, _, _, _, _, _, _, rfl, d1, d2, d3, d4, d5⟩⟩
          · refine pb_iload_n2 g dX8_tray_12 ?_
            refine pb_iconst (v := nI 2) g dX8_tray_13 (by decide) ?_
            first | refine pb_icmp_gtN g 27 dX8_tray_14 (by decide) (by omega) (by omega) (fun c14 => ?_) (fun c14 => ?_) | refine pb_icmp_gt g 27 dX8_tray_14 (by decide) (fun c14 => ?_) (fun c14 => ?_)
            · refine pb_bipush (v := -2) g dX8_tray_27 (by decide) ?_
              refine pb_iret g z dX8_tray_29 ?_
              exact ⟨_, rfl, by rw [e], by rw [e]; exact ⟨_, _, _, _, _, _, _, _, _, _, _, _, _, _, _, _, _, _, _, rfl, d1, d2, d3, d4, d5⟩⟩
            · exact absurd hsn (fun q => q.elim c9 c14)
      | some o0 =>
        obtain ⟨ho0, rfl⟩ := ix_some (by decide) hsx
        have hno := nlt_m1 o0 ho0
        by_cases h40 : nI 40 < x
        · have e : sTray ((n, P, S, sd), (σ, μ, K, Hh), (ts, zz, it), (ra, tr)) (nI t0) (nI o0) x = (-2, ((n, P, S, sd), (σ, μ, K, Hh), (ts, zz, it), (ra, tr))) := by simp only [sTray, htx, if_neg hm1, hsx, if_pos h40]
          refine pb_iload_n1 g dX8_tray_0 ?_
          refine pb_Si1 g qX8_94 dX8_tray_1 (k + 5) (by omega) (m_isTrayT (k + 5) _ (by assumption) _) (fun r1 h1 e1 => ?_)
          obtain ⟨rfl, rfl⟩ := e1
          first | refine pb_if_eqN g 27 dX8_tray_4 (by decide) (by omega) (fun c4 => ?_) (fun c4 => ?_) | refine pb_if_eq g 27 dX8_tray_4 (by decide) (fun c4 => ?_) (fun c4 => ?_)
          · exact absurd c4 (by decide)
          · refine pb_iload_n2 g dX8_tray_7 ?_
            refine pb_iconst (v := -1) g dX8_tray_8 (by decide) ?_
            first | refine pb_icmp_ltN g 27 dX8_tray_9 (by decide) (by omega) (by omega) (fun c9 => ?_) (fun c9 => ?_) | refine pb_icmp_lt g 27 dX8_tray_9 (by decide) (fun c9 => ?_) (fun c9 => ?_)
            · exact absurd c9 hno
            · refine pb_iload_n2 g dX8_tray_12 ?_
              refine pb_iconst (v := nI 2) g dX8_tray_13 (by decide) ?_
              first | refine pb_icmp_gtN g 27 dX8_tray_14 (by decide) (by omega) (by omega) (fun c14 => ?_) (fun c14 => ?_) | refine pb_icmp_gt g 27 dX8_tray_14 (by decide) (fun c14 => ?_) (fun c14 => ?_)
              · exact absurd c14 (by omega)
              · refine pb_iload_n2 g dX8_tray_17 ?_
                refine pb_if_ltN g 30 dX8_tray_18 (by decide) (by omega) ?_
                refine pb_iload_n3 g dX8_tray_21 ?_
                refine pb_bipush (v := nI 40) g dX8_tray_22 (by decide) ?_
                first | refine pb_icmp_leN g 30 dX8_tray_24 (by decide) (by omega) (by omega) (fun c24 => ?_) (fun c24 => ?_) | refine pb_icmp_le g 30 dX8_tray_24 (by decide) (fun c24 => ?_) (fun c24 => ?_)
                · exact absurd h40 (Int32.not_lt.mpr c24)
                · refine pb_bipush (v := -2) g dX8_tray_27 (by decide) ?_
                  refine pb_iret g z dX8_tray_29 ?_
                  exact ⟨_, rfl, by rw [e], by rw [e]; exact ⟨_, _, _, _, _, _, _, _, _, _, _, _, _, _, _, _, _, _, _, rfl, d1, d2, d3, d4, d5⟩⟩
        · by_cases hneg : x < 0
          · have e : sTray ((n, P, S, sd), (σ, μ, K, Hh), (ts, zz, it), (ra, tr)) (nI t0) (nI o0) x = (-14, ((n, P, S, sd), (σ, μ, K, Hh), (ts, zz, it), (ra, tr))) := by simp only [sTray, htx, if_neg hm1, hsx, if_neg h40, if_pos hneg]
            refine pb_iload_n1 g dX8_tray_0 ?_
            refine pb_Si1 g qX8_94 dX8_tray_1 (k + 5) (by omega) (m_isTrayT (k + 5) _ (by assumption) _) (fun r1 h1 e1 => ?_)
            obtain ⟨rfl, rfl⟩ := e1
            first | refine pb_if_eqN g 27 dX8_tray_4 (by decide) (by omega) (fun c4 => ?_) (fun c4 => ?_) | refine pb_if_eq g 27 dX8_tray_4 (by decide) (fun c4 => ?_) (fun c4 => ?_)
            · exact absurd c4 (by decide)
            · refine pb_iload_n2 g dX8_tray_7 ?_
              refine pb_iconst (v := -1) g dX8_tray_8 (by decide) ?_
              first | refine pb_icmp_ltN g 27 dX8_tray_9 (by decide) (by omega) (by omega) (fun c9 => ?_) (fun c9 => ?_) | refine pb_icmp_lt g 27 dX8_tray_9 (by decide) (fun c9 => ?_) (fun c9 => ?_)
              · exact absurd c9 hno
              · refine pb_iload_n2 g dX8_tray_12 ?_
                refine pb_iconst (v := nI 2) g dX8_tray_13 (by decide) ?_
                first | refine pb_icmp_gtN g 27 dX8_tray_14 (by decide) (by omega) (by omega) (fun c14 => ?_) (fun c14 => ?_) | refine pb_icmp_gt g 27 dX8_tray_14 (by decide) (fun c14 => ?_) (fun c14 => ?_)
                · exact absurd c14 (by omega)
                · refine pb_iload_n2 g dX8_tray_17 ?_
                  refine pb_if_ltN g 30 dX8_tray_18 (by decide) (by omega) ?_
                  refine pb_iload_n3 g dX8_tray_21 ?_
                  refine pb_bipush (v := nI 40) g dX8_tray_22 (by decide) ?_
                  first | refine pb_icmp_leN g 30 dX8_tray_24 (by decide) (by omega) (by omega) (fun c24 => ?_) (fun c24 => ?_) | refine pb_icmp_le g 30 dX8_tray_24 (by decide) (fun c24 => ?_) (fun c24 => ?_)
                  · refine pb_iload_n2 g dX8_tray_30 ?_
                    refine pb_if_ltN g 41 dX8_tray_31 (by decide) (by omega) ?_
                    refine pb_iload_n3 g dX8_tray_34 ?_
                    refine pb_if_ge g 41 dX8_tray_35 (by decide) (fun c35 => ?_) (fun c35 => ?_)
                    · exact absurd hneg (Int32.not_lt.mpr c35)
                    · refine pb_bipush (v := -14) g dX8_tray_38 (by decide) ?_
                      refine pb_iret g z dX8_tray_40 ?_
                      exact ⟨_, rfl, by rw [e], by rw [e]; exact ⟨_, _, _, _, _, _, _, _, _, _, _, _, _, _, _, _, _, _, _, rfl, d1, d2, d3, d4, d5⟩⟩
                  · exact absurd (Int32.not_lt.mp h40) c24
          · obtain ⟨m, hm, rfl⟩ := nI_of hneg
            have hm40 : m ≤ 40 := Nat.not_lt.mp fun q => h40 ((nI_ltI (by decide) hm).mpr q)
            have e : sTray ((n, P, S, sd), (σ, μ, K, Hh), (ts, zz, it), (ra, tr)) (nI t0) (nI o0) (nI m) = (1, ((n, P, S, sd), (σ, μ, K, Hh), (upd ts t0 (nI o0), va_up zz t0 m, va_up it t0 (fun _ => 0)), (ra, tr))) := by simp only [sTray, htx, if_neg hm1, hsx, if_neg h40, if_neg hneg, nI_clamp hm]
            have loop : ∀ i, i ≤ 40 → PB Γ 66 [some (.ref 0), some (.int (nI t0)), some (.int (nI o0)), some (.int (nI m)), some (.int (nI i))] [] (mkH 20 (mdF (nI n) (nI P) (nI S) (sd) xod xkn xhs xmm xln xot xwy xnx xch xaf xfa xgr xfo xco (upd xtsr t0 (nI o0)) (upd xtsz t0 (nI m)) (cpF xce (fun _ => nI 0) (40 * t0) i) xmv xtc (nI ra))) := by
              refine pb_loop 40 (fun i hi ih => ?_)
              refine pb_iload4 g dX8_tray_66 ?_
              refine pb_bipush (v := nI 40) g dX8_tray_68 (by decide) ?_
              first | refine pb_icmp_geN g 92 dX8_tray_70 (by decide) (by omega) (by omega) (fun c70 => ?_) (fun c70 => ?_) | refine pb_icmp_ge g 92 dX8_tray_70 (by decide) (fun c70 => ?_) (fun c70 => ?_)
              · refine pb_iconst (v := nI 1) g dX8_tray_92 (by decide) ?_
                refine pb_iret g z dX8_tray_93 ?_
                obtain rfl : i = 40 := by omega
                exact ⟨_, rfl, by rw [e]; rfl, by rw [e]; exact ⟨_, _, _, _, _, _, _, _, _, _, _, _, _, _, _, _, _, _, _, rfl, d1, d2, fun t ht => by
                  by_cases q : t = t0
                  · subst q
                    rw [va_upS, va_upS]
                    exact ⟨(if_pos rfl).trans (if_pos rfl).symm, if_pos rfl, fun j hj => cp_in _ _ _ 40 j hj⟩
                  · rw [va_upN q, va_upN q]
                    obtain ⟨h1, h2, h3⟩ := d3 t ht
                    exact ⟨((if_neg q).trans h1).trans (if_neg q).symm, (if_neg q).trans h2, fun j hj => by rw [cp_out _ _ _ 40 _ (by omega)]; exact h3 j hj⟩, d4, d5⟩⟩
              · refine pb_aload_n0 g dX8_tray_73 ?_
                refine pb_getf g fX8_63 dX8_tray_74 mr_o rfl ?_
                refine pb_bipush (v := nI 40) g dX8_tray_77 (by decide) ?_
                refine pb_iload_n1 g dX8_tray_79 ?_
                first | refine pb_imulN g dX8_tray_80 ?_ | refine pb_imul g dX8_tray_80 ?_
                refine pb_iload4 g dX8_tray_81 ?_
                first | refine pb_iaddN g dX8_tray_83 ?_ | refine pb_iadd g dX8_tray_83 ?_
                refine pb_iconst (v := nI 0) g dX8_tray_84 (by decide) ?_
                first | refine pb_iastN g dX8_tray_85 (by first | exact mr_cells | exact mr_order | exact mr_kind | exact mr_heaps | exact mr_m | exact mr_line | exact mr_other | exact mr_ways | exact mr_next | exact mr_chances | exact mr_after | exact mr_far | exact mr_groups | exact mr_found | exact mr_counts | exact mr_traySort | exact mr_traySize | exact mr_moved | exact mr_traced | assumption) (by omega) (by omega) ?_ | refine pb_iast g dX8_tray_85 (by first | exact mr_cells | exact mr_order | exact mr_kind | exact mr_heaps | exact mr_m | exact mr_line | exact mr_other | exact mr_ways | exact mr_next | exact mr_chances | exact mr_after | exact mr_far | exact mr_groups | exact mr_found | exact mr_counts | exact mr_traySort | exact mr_traySize | exact mr_moved | exact mr_traced | assumption) (by assumption) ?_
                first | rw [ms_cells]
                first | refine pb_iinc4N g dX8_tray_86 (by decide) ?_ | refine pb_iinc4 g dX8_tray_86 (by decide) rfl ?_
                refine pb_goto g 66 dX8_tray_89 (by decide) ?_
                exact ih (by omega)
            refine pb_iload_n1 g dX8_tray_0 ?_
            refine pb_Si1 g qX8_94 dX8_tray_1 (k + 5) (by omega) (m_isTrayT (k + 5) _ (by assumption) _) (fun r1 h1 e1 => ?_)
            obtain ⟨rfl, rfl⟩ := e1
            first | refine pb_if_eqN g 27 dX8_tray_4 (by decide) (by omega) (fun c4 => ?_) (fun c4 => ?_) | refine pb_if_eq g 27 dX8_tray_4 (by decide) (fun c4 => ?_) (fun c4 => ?_)
            · exact absurd c4 (by decide)
            · refine pb_iload_n2 g dX8_tray_7 ?_
              refine pb_iconst (v := -1) g dX8_tray_8 (by decide) ?_
              first | refine pb_icmp_ltN g 27 dX8_tray_9 (by decide) (by omega) (by omega) (fun c9 => ?_) (fun c9 => ?_) | refine pb_icmp_lt g 27 dX8_tray_9 (by decide) (fun c9 => ?_) (fun c9 => ?_)
              · exact absurd c9 hno
              · refine pb_iload_n2 g dX8_tray_12 ?_
                refine pb_iconst (v := nI 2) g dX8_tray_13 (by decide) ?_
                first | refine pb_icmp_gtN g 27 dX8_tray_14 (by decide) (by omega) (by omega) (fun c14 => ?_) (fun c14 => ?_) | refine pb_icmp_gt g 27 dX8_tray_14 (by decide) (fun c14 => ?_) (fun c14 => ?_)
                · exact absurd c14 (by omega)
                · refine pb_iload_n2 g dX8_tray_17 ?_
                  refine pb_if_ltN g 30 dX8_tray_18 (by decide) (by omega) ?_
                  refine pb_iload_n3 g dX8_tray_21 ?_
                  refine pb_bipush (v := nI 40) g dX8_tray_22 (by decide) ?_
                  first | refine pb_icmp_leN g 30 dX8_tray_24 (by decide) (by omega) (by omega) (fun c24 => ?_) (fun c24 => ?_) | refine pb_icmp_le g 30 dX8_tray_24 (by decide) (fun c24 => ?_) (fun c24 => ?_)
                  · refine pb_iload_n2 g dX8_tray_30 ?_
                    refine pb_if_ltN g 41 dX8_tray_31 (by decide) (by omega) ?_
                    refine pb_iload_n3 g dX8_tray_34 ?_
                    refine pb_if_geN g 41 dX8_tray_35 (by decide) (by omega) ?_
                    refine pb_aload_n0 g dX8_tray_41 ?_
                    refine pb_getf g fX8_57 dX8_tray_42 mr_o rfl ?_
                    refine pb_iload_n1 g dX8_tray_45 ?_
                    refine pb_iload_n2 g dX8_tray_46 ?_
                    first | refine pb_iastN g dX8_tray_47 (by first | exact mr_traySort | exact mr_order | exact mr_kind | exact mr_heaps | exact mr_m | exact mr_line | exact mr_other | exact mr_ways | exact mr_next | exact mr_chances | exact mr_after | exact mr_far | exact mr_groups | exact mr_found | exact mr_counts | exact mr_traySize | exact mr_cells | exact mr_moved | exact mr_traced | assumption) (by omega) (by omega) ?_ | refine pb_iast g dX8_tray_47 (by first | exact mr_traySort | exact mr_order | exact mr_kind | exact mr_heaps | exact mr_m | exact mr_line | exact mr_other | exact mr_ways | exact mr_next | exact mr_chances | exact mr_after | exact mr_far | exact mr_groups | exact mr_found | exact mr_counts | exact mr_traySize | exact mr_cells | exact mr_moved | exact mr_traced | assumption) (by assumption) ?_
                    first | rw [ms_traySort]
                    refine pb_aload_n0 g dX8_tray_48 ?_
                    refine pb_getf g fX8_60 dX8_tray_49 mr_o rfl ?_
                    refine pb_iload_n1 g dX8_tray_52 ?_
                    refine pb_iload_n2 g dX8_tray_53 ?_
                    refine pb_if_geN g 61 dX8_tray_54 (by decide) (by omega) ?_
                    refine pb_iload_n3 g dX8_tray_61 ?_
                    first | refine pb_iastN g dX8_tray_62 (by first | exact mr_traySize | exact mr_traySort | exact mr_order | exact mr_kind | exact mr_heaps | exact mr_m | exact mr_line | exact mr_other | exact mr_ways | exact mr_next | exact mr_chances | exact mr_after | exact mr_far | exact mr_groups | exact mr_found | exact mr_counts | exact mr_cells | exact mr_moved | exact mr_traced | assumption) (by omega) (by omega) ?_ | refine pb_iast g dX8_tray_62 (by first | exact mr_traySize | exact mr_traySort | exact mr_order | exact mr_kind | exact mr_heaps | exact mr_m | exact mr_line | exact mr_other | exact mr_ways | exact mr_next | exact mr_chances | exact mr_after | exact mr_far | exact mr_groups | exact mr_found | exact mr_counts | exact mr_cells | exact mr_moved | exact mr_traced | assumption) (by assumption) ?_
                    first | rw [ms_traySize] | rw [ms_traySort]
                    refine pb_iconst (v := nI 0) g dX8_tray_63 (by decide) ?_
                    refine pb_istore4 g dX8_tray_64 (by decide) ?_
                    exact loop 0 (Nat.zero_le _)
                  · exact absurd c24 (by omega)
set_option maxHeartbeats 4000000 in
set_option maxRecDepth 100000 in
theorem m_cell (k : Nat) (q : SP) (t i v : Int32) (h : PH) (hD : IsM q h) (hI : SI q) : Runs yX8_cell cX8_cell 4 (some .int) (k + 6) [.ref 0, .int t, .int i, .int v] h (fun oo h' => ∃ r : Int32, oo = some (.int r) ∧ r = (sCell q t i v).1 ∧ IsM ((sCell q t i v).2) h') := by
  obtain ⟨⟨n, P, S, sd⟩, ⟨σ, μ, K, Hh⟩, ⟨ts, zz, it⟩, ⟨ra, tr⟩⟩ := q
  obtain ⟨⟨hn1, hn, hP, hS⟩, hσ, hK, hz, hra⟩ := hI
  obtain ⟨xod, xkn, xhs, xmm, xln, xot, xfa, xgr, xtsr, xtsz, xce, xmv, xtc, xwy, xnx, xch, xaf, xfo, xco, rfl, d1, d2, d3, d4, d5⟩ := hD
  refine Runs.of (by decide) (Nat.le_of_ble_eq_true rfl) [some (.ref 0), some (.int t), some (.int i), some (.int v)] 0 rfl (fun Γ g z => ?_)
  cases htx : ix t 4 with
  | none =>
    have e : sCell ((n, P, S, sd), (σ, μ, K, Hh), (ts, zz, it), (ra, tr)) t i v = (-2, ((n, P, S, sd), (σ, μ, K, Hh), (ts, zz, it), (ra, tr))) := by simp only [sCell, htx]
    have htn := ix_none (by decide) htx
    refine pb_iload_n1 g dX8_cell_0 ?_
    refine pb_Si1 g qX8_94 dX8_cell_1 (k + 5) (by omega) (m_isTrayF (k + 5) _ (by assumption) _) (fun r1 h1 e1 => ?_)
    obtain ⟨rfl, rfl⟩ := e1
    first | refine pb_if_neN g 10 dX8_cell_4 (by decide) (by omega) (fun c4 => ?_) (fun c4 => ?_) | refine pb_if_ne g 10 dX8_cell_4 (by decide) (fun c4 => ?_) (fun c4 => ?_)
    · exact absurd c4 (by decide)
    · refine pb_bipush (v := -2) g dX8_cell_7 (by decide) ?_
      refine pb_iret g z dX8_cell_9 ?_
      exact ⟨_, rfl, by rw [e], by rw [e]; exact ⟨_, _, _, _, _, _, _, _, _, _, _, _, _, _, _, _, _, _, _, rfl, d1, d2, d3, d4, d5⟩⟩
  | some t0 =>
    obtain ⟨ht0, rfl⟩ := ix_some (by decide) htx
    have hz40 := (hz t0 ht0).1
    by_cases hmi : ts t0 = -1
    · have e : sCell ((n, P, S, sd), (σ, μ, K, Hh), (ts, zz, it), (ra, tr)) (nI t0) i v = (-11, ((n, P, S, sd), (σ, μ, K, Hh), (ts, zz, it), (ra, tr))) := by simp only [sCell, htx, if_pos hmi]
      refine pb_iload_n1 g dX8_cell_0 ?_
      refine pb_Si1 g qX8_94 dX8_cell_1 (k + 5) (by omega) (m_isTrayT (k + 5) _ (by assumption) _) (fun r1 h1 e1 => ?_)
      obtain ⟨rfl, rfl⟩ := e1
      first | refine pb_if_neN g 10 dX8_cell_4 (by decide) (by omega) (fun c4 => ?_) (fun c4 => ?_) | refine pb_if_ne g 10 dX8_cell_4 (by decide) (fun c4 => ?_) (fun c4 => ?_)
      · refine pb_aload_n0 g dX8_cell_10 ?_
        refine pb_getf g fX8_57 dX8_cell_11 mr_o rfl ?_
        refine pb_iload_n1 g dX8_cell_14 ?_
        first | refine pb_ialdN g dX8_cell_15 (by first | exact mr_traySort | exact mr_order | exact mr_kind | exact mr_heaps | exact mr_m | exact mr_line | exact mr_other | exact mr_ways | exact mr_next | exact mr_chances | exact mr_after | exact mr_far | exact mr_groups | exact mr_found | exact mr_counts | exact mr_traySize | exact mr_cells | exact mr_moved | exact mr_traced | assumption) (by omega) (by omega) ?_ | refine pb_ald0 g dX8_cell_15 (by omega) ?_ | refine pb_ald1 g dX8_cell_15 (by omega) ?_ | refine pb_ald2 g dX8_cell_15 (by omega) ?_ | refine pb_ald3 g dX8_cell_15 (by omega) ?_ | refine pb_iald g dX8_cell_15 (by first | exact mr_traySort | exact mr_order | exact mr_kind | exact mr_heaps | exact mr_m | exact mr_line | exact mr_other | exact mr_ways | exact mr_next | exact mr_chances | exact mr_after | exact mr_far | exact mr_groups | exact mr_found | exact mr_counts | exact mr_traySize | exact mr_cells | exact mr_moved | exact mr_traced | assumption) (by assumption) ?_
        rw [(d3 t0 ht0).1, hmi]
        refine pb_if_ge g 22 dX8_cell_16 (by decide) (fun c16 => ?_) (fun c16 => ?_)
        · exact absurd c16 (by decide)
        · refine pb_bipush (v := -11) g dX8_cell_19 (by decide) ?_
          refine pb_iret g z dX8_cell_21 ?_
          exact ⟨_, rfl, by rw [e], by rw [e]; exact ⟨_, _, _, _, _, _, _, _, _, _, _, _, _, _, _, _, _, _, _, rfl, d1, d2, d3, d4, d5⟩⟩
      · exact absurd c4 (by decide)
    · obtain ⟨o0, ho0, hts⟩ := ts_some (hz t0 ht0) hmi
      cases hix : ix i (zz t0) with
      | none =>
        have e : sCell ((n, P, S, sd), (σ, μ, K, Hh), (ts, zz, it), (ra, tr)) (nI t0) i v = (-12, ((n, P, S, sd), (σ, μ, K, Hh), (ts, zz, it), (ra, tr))) := by simp only [sCell, htx, if_neg hmi, hix]
        have hin := inN_not (by omega) (ix_none (by omega) hix)
        refine pb_iload_n1 g dX8_cell_0 ?_
        refine pb_Si1 g qX8_94 dX8_cell_1 (k + 5) (by omega) (m_isTrayT (k + 5) _ (by assumption) _) (fun r1 h1 e1 => ?_)
        obtain ⟨rfl, rfl⟩ := e1
        first | refine pb_if_neN g 10 dX8_cell_4 (by decide) (by omega) (fun c4 => ?_) (fun c4 => ?_) | refine pb_if_ne g 10 dX8_cell_4 (by decide) (fun c4 => ?_) (fun c4 => ?_)
        · refine pb_aload_n0 g dX8_cell_10 ?_
          refine pb_getf g fX8_57 dX8_cell_11 mr_o rfl ?_
          refine pb_iload_n1 g dX8_cell_14 ?_
          first | refine pb_ialdN g dX8_cell_15 (by first | exact mr_traySort | exact mr_order | exact mr_kind | exact mr_heaps | exact mr_m | exact mr_line | exact mr_other | exact mr_ways | exact mr_next | exact mr_chances | exact mr_after | exact mr_far | exact mr_groups | exact mr_found | exact mr_counts | exact mr_traySize | exact mr_cells | exact mr_moved | exact mr_traced | assumption) (by omega) (by omega) ?_ | refine pb_ald0 g dX8_cell_15 (by omega) ?_ | refine pb_ald1 g dX8_cell_15 (by omega) ?_ | refine pb_ald2 g dX8_cell_15 (by omega) ?_ | refine pb_ald3 g dX8_cell_15 (by omega) ?_ | refine pb_iald g dX8_cell_15 (by first | exact mr_traySort | exact mr_order | exact mr_kind | exact mr_heaps | exact mr_m | exact mr_line | exact mr_other | exact mr_ways | exact mr_next | exact mr_chances | exact mr_after | exact mr_far | exact mr_groups | exact mr_found | exact mr_counts | exact mr_traySize | exact mr_cells | exact mr_moved | exact mr_traced | assumption) (by assumption) ?_
          rw [(d3 t0 ht0).1, hts]
          refine pb_if_geN g 22 dX8_cell_16 (by decide) (by omega) ?_
          refine pb_iload_n2 g dX8_cell_22 ?_
          refine pb_if_lt g 36 dX8_cell_23 (by decide) (fun c23 => ?_) (fun c23 => ?_)
          · refine pb_bipush (v := -12) g dX8_cell_36 (by decide) ?_
            refine pb_iret g z dX8_cell_38 ?_
            exact ⟨_, rfl, by rw [e], by rw [e]; exact ⟨_, _, _, _, _, _, _, _, _, _, _, _, _, _, _, _, _, _, _, rfl, d1, d2, d3, d4, d5⟩⟩
          · refine pb_iload_n2 g dX8_cell_26 ?_
            refine pb_aload_n0 g dX8_cell_27 ?_
            refine pb_getf g fX8_60 dX8_cell_28 mr_o rfl ?_
            refine pb_iload_n1 g dX8_cell_31 ?_
            first | refine pb_ialdN g dX8_cell_32 (by first | exact mr_traySize | exact mr_traySort | exact mr_order | exact mr_kind | exact mr_heaps | exact mr_m | exact mr_line | exact mr_other | exact mr_ways | exact mr_next | exact mr_chances | exact mr_after | exact mr_far | exact mr_groups | exact mr_found | exact mr_counts | exact mr_cells | exact mr_moved | exact mr_traced | assumption) (by omega) (by omega) ?_ | refine pb_ald0 g dX8_cell_32 (by omega) ?_ | refine pb_ald1 g dX8_cell_32 (by omega) ?_ | refine pb_ald2 g dX8_cell_32 (by omega) ?_ | refine pb_ald3 g dX8_cell_32 (by omega) ?_ | refine pb_iald g dX8_cell_32 (by first | exact mr_traySize | exact mr_traySort | exact mr_order | exact mr_kind | exact mr_heaps | exact mr_m | exact mr_line | exact mr_other | exact mr_ways | exact mr_next | exact mr_chances | exact mr_after | exact mr_far | exact mr_groups | exact mr_found | exact mr_counts | exact mr_cells | exact mr_moved | exact mr_traced | assumption) (by assumption) ?_
            rw [(d3 t0 ht0).2.1]
            first | refine pb_icmp_ltN g 39 dX8_cell_33 (by decide) (by omega) (by omega) (fun c33 => ?_) (fun c33 => ?_) | refine pb_icmp_lt g 39 dX8_cell_33 (by decide) (fun c33 => ?_) (fun c33 => ?_)
            · exact absurd hin (fun q => q.elim c23 (fun w => absurd c33 (Int32.not_lt.mpr w)))
            · refine pb_bipush (v := -12) g dX8_cell_36 (by decide) ?_
              refine pb_iret g z dX8_cell_38 ?_
              exact ⟨_, rfl, by rw [e], by rw [e]; exact ⟨_, _, _, _, _, _, _, _, _, _, _, _, _, _, _, _, _, _, _, rfl, d1, d2, d3, d4, d5⟩⟩
        · exact absurd c4 (by decide)
      | some i0 =>
        obtain ⟨hi0, rfl⟩ := ix_some (by omega) hix
        have e : sCell ((n, P, S, sd), (σ, μ, K, Hh), (ts, zz, it), (ra, tr)) (nI t0) (nI i0) v = (1, ((n, P, S, sd), (σ, μ, K, Hh), (ts, zz, va_up it t0 (upd (it t0) i0 (nar (ts t0) v))), (ra, tr))) := by simp only [sCell, htx, if_neg hmi, hix]
        refine pb_iload_n1 g dX8_cell_0 ?_
        refine pb_Si1 g qX8_94 dX8_cell_1 (k + 5) (by omega) (m_isTrayT (k + 5) _ (by assumption) _) (fun r1 h1 e1 => ?_)
        obtain ⟨rfl, rfl⟩ := e1
        first | refine pb_if_neN g 10 dX8_cell_4 (by decide) (by omega) (fun c4 => ?_) (fun c4 => ?_) | refine pb_if_ne g 10 dX8_cell_4 (by decide) (fun c4 => ?_) (fun c4 => ?_)
        · refine pb_aload_n0 g dX8_cell_10 ?_
          refine pb_getf g fX8_57 dX8_cell_11 mr_o rfl ?_
          refine pb_iload_n1 g dX8_cell_14 ?_
          first | refine pb_ialdN g dX8_cell_15 (by first | exact mr_traySort | exact mr_order | exact mr_kind | exact mr_heaps | exact mr_m | exact mr_line | exact mr_other | exact mr_ways | exact mr_next | exact mr_chances | exact mr_after | exact mr_far | exact mr_groups | exact mr_found | exact mr_counts | exact mr_traySize | exact mr_cells | exact mr_moved | exact mr_traced | assumption) (by omega) (by omega) ?_ | refine pb_ald0 g dX8_cell_15 (by omega) ?_ | refine pb_ald1 g dX8_cell_15 (by omega) ?_ | refine pb_ald2 g dX8_cell_15 (by omega) ?_ | refine pb_ald3 g dX8_cell_15 (by omega) ?_ | refine pb_iald g dX8_cell_15 (by first | exact mr_traySort | exact mr_order | exact mr_kind | exact mr_heaps | exact mr_m | exact mr_line | exact mr_other | exact mr_ways | exact mr_next | exact mr_chances | exact mr_after | exact mr_far | exact mr_groups | exact mr_found | exact mr_counts | exact mr_traySize | exact mr_cells | exact mr_moved | exact mr_traced | assumption) (by assumption) ?_
          rw [(d3 t0 ht0).1, hts]
          refine pb_if_geN g 22 dX8_cell_16 (by decide) (by omega) ?_
          refine pb_iload_n2 g dX8_cell_22 ?_
          refine pb_if_ltN g 36 dX8_cell_23 (by decide) (by omega) ?_
          refine pb_iload_n2 g dX8_cell_26 ?_
          refine pb_aload_n0 g dX8_cell_27 ?_
          refine pb_getf g fX8_60 dX8_cell_28 mr_o rfl ?_
          refine pb_iload_n1 g dX8_cell_31 ?_
          first | refine pb_ialdN g dX8_cell_32 (by first | exact mr_traySize | exact mr_traySort | exact mr_order | exact mr_kind | exact mr_heaps | exact mr_m | exact mr_line | exact mr_other | exact mr_ways | exact mr_next | exact mr_chances | exact mr_after | exact mr_far | exact mr_groups | exact mr_found | exact mr_counts | exact mr_cells | exact mr_moved | exact mr_traced | assumption) (by omega) (by omega) ?_ | refine pb_ald0 g dX8_cell_32 (by omega) ?_ | refine pb_ald1 g dX8_cell_32 (by omega) ?_ | refine pb_ald2 g dX8_cell_32 (by omega) ?_ | refine pb_ald3 g dX8_cell_32 (by omega) ?_ | refine pb_iald g dX8_cell_32 (by first | exact mr_traySize | exact mr_traySort | exact mr_order | exact mr_kind | exact mr_heaps | exact mr_m | exact mr_line | exact mr_other | exact mr_ways | exact mr_next | exact mr_chances | exact mr_after | exact mr_far | exact mr_groups | exact mr_found | exact mr_counts | exact mr_cells | exact mr_moved | exact mr_traced | assumption) (by assumption) ?_
          rw [(d3 t0 ht0).2.1]
          first | refine pb_icmp_ltN g 39 dX8_cell_33 (by decide) (by omega) (by omega) (fun c33 => ?_) (fun c33 => ?_) | refine pb_icmp_lt g 39 dX8_cell_33 (by decide) (fun c33 => ?_) (fun c33 => ?_)
          · refine pb_aload_n0 g dX8_cell_39 ?_
            refine pb_getf g fX8_63 dX8_cell_40 mr_o rfl ?_
            refine pb_bipush (v := nI 40) g dX8_cell_43 (by decide) ?_
            refine pb_iload_n1 g dX8_cell_45 ?_
            first | refine pb_imulN g dX8_cell_46 ?_ | refine pb_imul g dX8_cell_46 ?_
            refine pb_iload_n2 g dX8_cell_47 ?_
            first | refine pb_iaddN g dX8_cell_48 ?_ | refine pb_iadd g dX8_cell_48 ?_
            refine pb_aload_n0 g dX8_cell_49 ?_
            refine pb_getf g fX8_57 dX8_cell_50 mr_o rfl ?_
            refine pb_iload_n1 g dX8_cell_53 ?_
            first | refine pb_ialdN g dX8_cell_54 (by first | exact mr_traySort | exact mr_cells | exact mr_traySize | exact mr_order | exact mr_kind | exact mr_heaps | exact mr_m | exact mr_line | exact mr_other | exact mr_ways | exact mr_next | exact mr_chances | exact mr_after | exact mr_far | exact mr_groups | exact mr_found | exact mr_counts | exact mr_moved | exact mr_traced | assumption) (by omega) (by omega) ?_ | refine pb_ald0 g dX8_cell_54 (by omega) ?_ | refine pb_ald1 g dX8_cell_54 (by omega) ?_ | refine pb_ald2 g dX8_cell_54 (by omega) ?_ | refine pb_ald3 g dX8_cell_54 (by omega) ?_ | refine pb_iald g dX8_cell_54 (by first | exact mr_traySort | exact mr_cells | exact mr_traySize | exact mr_order | exact mr_kind | exact mr_heaps | exact mr_m | exact mr_line | exact mr_other | exact mr_ways | exact mr_next | exact mr_chances | exact mr_after | exact mr_far | exact mr_groups | exact mr_found | exact mr_counts | exact mr_moved | exact mr_traced | assumption) (by assumption) ?_
            rw [(d3 t0 ht0).1, hts]
            first | refine pb_if_neN g 63 dX8_cell_55 (by decide) (by omega) (fun c55 => ?_) (fun c55 => ?_) | refine pb_if_ne g 63 dX8_cell_55 (by decide) (fun c55 => ?_) (fun c55 => ?_)
            · refine pb_aload_n0 g dX8_cell_63 ?_
              refine pb_getf g fX8_57 dX8_cell_64 mr_o rfl ?_
              refine pb_iload_n1 g dX8_cell_67 ?_
              first | refine pb_ialdN g dX8_cell_68 (by first | exact mr_traySort | exact mr_cells | exact mr_traySize | exact mr_order | exact mr_kind | exact mr_heaps | exact mr_m | exact mr_line | exact mr_other | exact mr_ways | exact mr_next | exact mr_chances | exact mr_after | exact mr_far | exact mr_groups | exact mr_found | exact mr_counts | exact mr_moved | exact mr_traced | assumption) (by omega) (by omega) ?_ | refine pb_ald0 g dX8_cell_68 (by omega) ?_ | refine pb_ald1 g dX8_cell_68 (by omega) ?_ | refine pb_ald2 g dX8_cell_68 (by omega) ?_ | refine pb_ald3 g dX8_cell_68 (by omega) ?_ | refine pb_iald g dX8_cell_68 (by first | exact mr_traySort | exact mr_cells | exact mr_traySize | exact mr_order | exact mr_kind | exact mr_heaps | exact mr_m | exact mr_line | exact mr_other | exact mr_ways | exact mr_next | exact mr_chances | exact mr_after | exact mr_far | exact mr_groups | exact mr_found | exact mr_counts | exact mr_moved | exact mr_traced | assumption) (by assumption) ?_
              rw [(d3 t0 ht0).1, hts]
              refine pb_iconst (v := nI 1) g dX8_cell_69 (by decide) ?_
              first | refine pb_icmp_neN g 78 dX8_cell_70 (by decide) (by omega) (by omega) (fun c70 => ?_) (fun c70 => ?_) | refine pb_icmp_ne g 78 dX8_cell_70 (by decide) (fun c70 => ?_) (fun c70 => ?_)
              · refine pb_iload_n3 g dX8_cell_78 ?_
                first | refine pb_iastN g dX8_cell_79 (by first | exact mr_traySort | exact mr_cells | exact mr_traySize | exact mr_order | exact mr_kind | exact mr_heaps | exact mr_m | exact mr_line | exact mr_other | exact mr_ways | exact mr_next | exact mr_chances | exact mr_after | exact mr_far | exact mr_groups | exact mr_found | exact mr_counts | exact mr_moved | exact mr_traced | assumption) (by omega) (by omega) ?_ | refine pb_iast g dX8_cell_79 (by first | exact mr_traySort | exact mr_cells | exact mr_traySize | exact mr_order | exact mr_kind | exact mr_heaps | exact mr_m | exact mr_line | exact mr_other | exact mr_ways | exact mr_next | exact mr_chances | exact mr_after | exact mr_far | exact mr_groups | exact mr_found | exact mr_counts | exact mr_moved | exact mr_traced | assumption) (by assumption) ?_
                first | rw [ms_traySort] | rw [ms_cells] | rw [ms_traySize]
                refine pb_iconst (v := nI 1) g dX8_cell_80 (by decide) ?_
                refine pb_iret g z dX8_cell_81 ?_
                exact ⟨_, rfl, by rw [e]; rfl, by rw [e]; exact ⟨_, _, _, _, _, _, _, _, _, _, _, _, _, _, _, _, _, _, _, rfl, d1, d2, fun t ht => by
                  obtain ⟨h1, h2, h3⟩ := d3 t ht
                  refine ⟨h1, h2, fun j hj => ?_⟩
                  by_cases q : t = t0
                  · subst q
                    rw [va_upS, upd, upd]
                    by_cases w : j = i0
                    · rw [if_pos (by omega), if_pos w, hts, nar]
                      first | rw [if_pos (by assumption)] | rw [if_neg (by assumption), if_pos (by assumption)] | rw [if_neg (by assumption), if_neg (by assumption)] | (rw [if_pos ((nI_eq (by omega) (by decide)).mpr (by omega))]) | (rw [if_neg (fun z => by have := (nI_eq (by omega) (by decide)).mp z; omega), if_pos ((nI_eq (by omega) (by decide)).mpr (by omega))]) | (rw [if_neg (fun z => by have := (nI_eq (by omega) (by decide)).mp z; omega), if_neg (fun z => by have := (nI_eq (by omega) (by decide)).mp z; omega)])
                    · rw [if_neg (by omega), if_neg w]
                      exact h3 j hj
                  · rw [va_upN q, upd, if_neg (by omega)]
                    exact h3 j hj, d4, d5⟩⟩
              · refine pb_iload_n3 g dX8_cell_73 ?_
                refine pb_i2s g dX8_cell_74 ?_
                refine pb_goto g 79 dX8_cell_75 (by decide) ?_
                first | refine pb_iastN g dX8_cell_79 (by first | exact mr_traySort | exact mr_cells | exact mr_traySize | exact mr_order | exact mr_kind | exact mr_heaps | exact mr_m | exact mr_line | exact mr_other | exact mr_ways | exact mr_next | exact mr_chances | exact mr_after | exact mr_far | exact mr_groups | exact mr_found | exact mr_counts | exact mr_moved | exact mr_traced | assumption) (by omega) (by omega) ?_ | refine pb_iast g dX8_cell_79 (by first | exact mr_traySort | exact mr_cells | exact mr_traySize | exact mr_order | exact mr_kind | exact mr_heaps | exact mr_m | exact mr_line | exact mr_other | exact mr_ways | exact mr_next | exact mr_chances | exact mr_after | exact mr_far | exact mr_groups | exact mr_found | exact mr_counts | exact mr_moved | exact mr_traced | assumption) (by assumption) ?_
                first | rw [ms_traySort] | rw [ms_cells] | rw [ms_traySize]
                refine pb_iconst (v := nI 1) g dX8_cell_80 (by decide) ?_
                refine pb_iret g z dX8_cell_81 ?_
                exact ⟨_, rfl, by rw [e]; rfl, by rw [e]; exact ⟨_, _, _, _, _, _, _, _, _, _, _, _, _, _, _, _, _, _, _, rfl, d1, d2, fun t ht => by
                  obtain ⟨h1, h2, h3⟩ := d3 t ht
                  refine ⟨h1, h2, fun j hj => ?_⟩
                  by_cases q : t = t0
                  · subst q
                    rw [va_upS, upd, upd]
                    by_cases w : j = i0
                    · rw [if_pos (by omega), if_pos w, hts, nar]
                      first | rw [if_pos (by assumption)] | rw [if_neg (by assumption), if_pos (by assumption)] | rw [if_neg (by assumption), if_neg (by assumption)] | (rw [if_pos ((nI_eq (by omega) (by decide)).mpr (by omega))]) | (rw [if_neg (fun z => by have := (nI_eq (by omega) (by decide)).mp z; omega), if_pos ((nI_eq (by omega) (by decide)).mpr (by omega))]) | (rw [if_neg (fun z => by have := (nI_eq (by omega) (by decide)).mp z; omega), if_neg (fun z => by have := (nI_eq (by omega) (by decide)).mp z; omega)])
                    · rw [if_neg (by omega), if_neg w]
                      exact h3 j hj
                  · rw [va_upN q, upd, if_neg (by omega)]
                    exact h3 j hj, d4, d5⟩⟩
            · refine pb_iload_n3 g dX8_cell_58 ?_
              refine pb_i2b g dX8_cell_59 ?_
              refine pb_goto g 79 dX8_cell_60 (by decide) ?_
              first | refine pb_iastN g dX8_cell_79 (by first | exact mr_traySort | exact mr_cells | exact mr_traySize | exact mr_order | exact mr_kind | exact mr_heaps | exact mr_m | exact mr_line | exact mr_other | exact mr_ways | exact mr_next | exact mr_chances | exact mr_after | exact mr_far | exact mr_groups | exact mr_found | exact mr_counts | exact mr_moved | exact mr_traced | assumption) (by omega) (by omega) ?_ | refine pb_iast g dX8_cell_79 (by first | exact mr_traySort | exact mr_cells | exact mr_traySize | exact mr_order | exact mr_kind | exact mr_heaps | exact mr_m | exact mr_line | exact mr_other | exact mr_ways | exact mr_next | exact mr_chances | exact mr_after | exact mr_far | exact mr_groups | exact mr_found | exact mr_counts | exact mr_moved | exact mr_traced | assumption) (by assumption) ?_
              first | rw [ms_traySort] | rw [ms_cells] | rw [ms_traySize]
              refine pb_iconst (v := nI 1) g dX8_cell_80 (by decide) ?_
              refine pb_iret g z dX8_cell_81 ?_
              exact ⟨_, rfl, by rw [e]; rfl, by rw [e]; exact ⟨_, _, _, _, _, _, _, _, _, _, _, _, _, _, _, _, _, _, _, rfl, d1, d2, fun t ht => by
                obtain ⟨h1, h2, h3⟩ := d3 t ht
                refine ⟨h1, h2, fun j hj => ?_⟩
                by_cases q : t = t0
                · subst q
                  rw [va_upS, upd, upd]
                  by_cases w : j = i0
                  · rw [if_pos (by omega), if_pos w, hts, nar]
                    first | rw [if_pos (by assumption)] | rw [if_neg (by assumption), if_pos (by assumption)] | rw [if_neg (by assumption), if_neg (by assumption)] | (rw [if_pos ((nI_eq (by omega) (by decide)).mpr (by omega))]) | (rw [if_neg (fun z => by have := (nI_eq (by omega) (by decide)).mp z; omega), if_pos ((nI_eq (by omega) (by decide)).mpr (by omega))]) | (rw [if_neg (fun z => by have := (nI_eq (by omega) (by decide)).mp z; omega), if_neg (fun z => by have := (nI_eq (by omega) (by decide)).mp z; omega)])
                  · rw [if_neg (by omega), if_neg w]
                    exact h3 j hj
                · rw [va_upN q, upd, if_neg (by omega)]
                  exact h3 j hj, d4, d5⟩⟩
          · exact absurd c33 (by omega)
        · exact absurd c4 (by decide)
