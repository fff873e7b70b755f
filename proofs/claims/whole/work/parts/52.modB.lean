/-! ===== the reference: calls, second part ===== -/
/-- the first n by a rule -/
def wrF (f v : Nat → Int32) : Nat → (Nat → Int32)
  | 0 => f
  | i + 1 => upd (wrF f v i) i (v i)
theorem wr_at (f v : Nat → Int32) : ∀ n j, j < n → wrF f v n j = v j
  | 0, j, h => absurd h (by omega)
  | n + 1, j, h => by
    show upd (wrF f v n) n (v n) j = _
    by_cases e : j = n
    · rw [upd, if_pos e, e]
    · rw [upd, if_neg e]
      exact wr_at f v n j (by omega)
def rmL (h g : Nat) : Nat → List Nat
  | 0 => []
  | i + 1 => if i % h = g then i :: rmL h g i else rmL h g i
def dmF (n h : Nat) : Nat → List Nat
  | 0 => []
  | g + 1 => dmF n h g ++ rmL h g n
theorem dm_ok : ∀ n, n < 11 → ∀ h, h < n + 1 → 0 < h → dmF n h h = dlF n h h ∧ (dmF n h h).length = n ∧ ∀ g, g < h → (dmF n h (g + 1)).length ≤ n := by decide +kernel
set_option maxHeartbeats 4000000 in
set_option maxRecDepth 100000 in
theorem m_pack (k : Nat) (q : SP)  (h : PH) (hD : IsM q h) (hI : SI q) : Runs yX8_pack cX8_pack 2 (some .int) (k + 6) [.ref 0] h (fun oo h' => ∃ r : Int32, oo = some (.int r) ∧ r = (sPack q).1 ∧ IsM ((sPack q).2) h') := by
  obtain ⟨⟨n, P, S, sd⟩, ⟨σ, μ, K, Hh⟩, ⟨ts, zz, it⟩, ⟨ra, tr⟩⟩ := q
  obtain ⟨⟨hn1, hn, hP, hS⟩, hσ, hK, hz, hra⟩ := hI
  obtain ⟨xod, xkn, xhs, xmm, xln, xot, xfa, xgr, xtsr, xtsz, xce, xmv, xtc, xwy, xnx, xch, xaf, xfo, xco, rfl, d1, d2, d3, d4, d5⟩ := hD
  refine Runs.of (by decide) (Nat.le_of_ble_eq_true rfl) [some (.ref 0), none] 1 rfl (fun Γ g z => ?_)
  by_cases hP12 : P = 12
  · have e : sPack ((n, P, S, sd), (σ, μ, K, Hh), (ts, zz, it), (ra, tr)) = (-4, ((n, P, S, sd), (σ, μ, K, Hh), (ts, zz, it), (ra, tr))) := by simp only [sPack, if_pos hP12]
    refine pb_aload_n0 g dX8_pack_0 ?_
    refine pb_getf g fX8_72 dX8_pack_1 mr_o rfl ?_
    refine pb_bipush (v := nI 12) g dX8_pack_4 (by decide) ?_
    first | refine pb_icmp_neN g 12 dX8_pack_6 (by decide) (by omega) (by omega) (fun c6 => ?_) (fun c6 => ?_) | refine pb_icmp_ne g 12 dX8_pack_6 (by decide) (fun c6 => ?_) (fun c6 => ?_)
    · exact absurd hP12 c6
    · refine pb_bipush (v := -4) g dX8_pack_9 (by decide) ?_
      refine pb_iret g z dX8_pack_11 ?_
      exact ⟨_, rfl, by rw [e], by rw [e]; exact ⟨_, _, _, _, _, _, _, _, _, _, _, _, _, _, _, _, _, _, _, rfl, d1, d2, d3, d4, d5⟩⟩
  · have e : sPack ((n, P, S, sd), (σ, μ, K, Hh), (ts, zz, it), (ra, tr)) = (nI P, ((n, P + 1, S, sd), (va_up σ P (fun j => j), μ, K, Hh), (ts, zz, it), (ra, tr))) := by simp only [sPack, if_neg hP12]
    have loop : ∀ i, i ≤ n → PB Γ 14 [some (.ref 0), some (.int (nI i))] [] (mkH 20 (mdF (nI n) (nI P) (nI S) (sd) xod xkn xhs xmm (wrF xln (fun i => nI i) i) xot xwy xnx xch xaf xfa xgr xfo xco xtsr xtsz xce xmv xtc (nI ra))) := by
      refine pb_loop n (fun i hi ih => ?_)
      refine pb_iload_n1 g dX8_pack_14 ?_
      refine pb_aload_n0 g dX8_pack_15 ?_
      refine pb_getf g fX8_7 dX8_pack_16 mr_o rfl ?_
      first | refine pb_icmp_geN g 35 dX8_pack_19 (by decide) (by omega) (by omega) (fun c19 => ?_) (fun c19 => ?_) | refine pb_icmp_ge g 35 dX8_pack_19 (by decide) (fun c19 => ?_) (fun c19 => ?_)
      · refine pb_aload_n0 g dX8_pack_35 ?_
        refine pb_Vi0 g qX8_86 dX8_pack_36 (k + 5) (by omega) mr_o (m_comes (k + 5) (n := n) (P := P) hn (by omega)) (fun r36 h36 e36 => ?_)
        obtain ⟨rfl, rfl⟩ := e36
        refine pb_iret g z dX8_pack_39 ?_
        obtain rfl : i = n := by omega
        exact ⟨_, rfl, by rw [e], by rw [e]; exact ⟨_, _, _, _, _, _, _, _, _, _, _, _, _, _, _, _, _, _, _, rfl, m1_up hn d1 (fun j hj => wr_at _ _ i j hj) (fun p h1 h2 => by omega), d2, d3, d4, d5⟩⟩
      · refine pb_aload_n0 g dX8_pack_22 ?_
        refine pb_getf g fX8_26 dX8_pack_23 mr_o rfl ?_
        refine pb_iload_n1 g dX8_pack_26 ?_
        refine pb_iload_n1 g dX8_pack_27 ?_
        first | refine pb_iastN g dX8_pack_28 (by first | exact mr_line | exact mr_order | exact mr_kind | exact mr_heaps | exact mr_m | exact mr_other | exact mr_ways | exact mr_next | exact mr_chances | exact mr_after | exact mr_far | exact mr_groups | exact mr_found | exact mr_counts | exact mr_traySort | exact mr_traySize | exact mr_cells | exact mr_moved | exact mr_traced | assumption) (by omega) (by omega) ?_ | refine pb_iast g dX8_pack_28 (by first | exact mr_line | exact mr_order | exact mr_kind | exact mr_heaps | exact mr_m | exact mr_other | exact mr_ways | exact mr_next | exact mr_chances | exact mr_after | exact mr_far | exact mr_groups | exact mr_found | exact mr_counts | exact mr_traySort | exact mr_traySize | exact mr_cells | exact mr_moved | exact mr_traced | assumption) (by assumption) ?_
        first | rw [ms_line]
        first | refine pb_iinc1N g dX8_pack_29 (by decide) ?_ | refine pb_iinc1 g dX8_pack_29 (by decide) rfl ?_
        refine pb_goto g 14 dX8_pack_32 (by decide) ?_
        exact ih c19
    refine pb_aload_n0 g dX8_pack_0 ?_
    refine pb_getf g fX8_72 dX8_pack_1 mr_o rfl ?_
    refine pb_bipush (v := nI 12) g dX8_pack_4 (by decide) ?_
    first | refine pb_icmp_neN g 12 dX8_pack_6 (by decide) (by omega) (by omega) (fun c6 => ?_) (fun c6 => ?_) | refine pb_icmp_ne g 12 dX8_pack_6 (by decide) (fun c6 => ?_) (fun c6 => ?_)
    · refine pb_iconst (v := nI 0) g dX8_pack_12 (by decide) ?_
      refine pb_istore_n1 g dX8_pack_13 (by decide) ?_
      exact loop 0 (Nat.zero_le _)
    · exact absurd c6 hP12
set_option maxHeartbeats 4000000 in
set_option maxRecDepth 100000 in
theorem m_behind (k : Nat) (q : SP) (x y : Int32) (h : PH) (hD : IsM q h) (hI : SI q) : Runs yX8_behind cX8_behind 4 (some .int) (k + 6) [.ref 0, .int x, .int y] h (fun oo h' => ∃ r : Int32, oo = some (.int r) ∧ r = (sBehind q x y).1 ∧ IsM ((sBehind q x y).2) h') := by
  obtain ⟨⟨n, P, S, sd⟩, ⟨σ, μ, K, Hh⟩, ⟨ts, zz, it⟩, ⟨ra, tr⟩⟩ := q
  obtain ⟨⟨hn1, hn, hP, hS⟩, hσ, hK, hz, hra⟩ := hI
  obtain ⟨xod, xkn, xhs, xmm, xln, xot, xfa, xgr, xtsr, xtsz, xce, xmv, xtc, xwy, xnx, xch, xaf, xfo, xco, rfl, d1, d2, d3, d4, d5⟩ := hD
  refine Runs.of (by decide) (Nat.le_of_ble_eq_true rfl) [some (.ref 0), some (.int x), some (.int y), none] 1 rfl (fun Γ g z => ?_)
  cases hx : ix x S with
  | none =>
    have e : sBehind ((n, P, S, sd), (σ, μ, K, Hh), (ts, zz, it), (ra, tr)) x y = (-2, ((n, P, S, sd), (σ, μ, K, Hh), (ts, zz, it), (ra, tr))) := by simp only [sBehind, hx]
    have hxn := ix_none (by omega) hx
    refine pb_aload_n0 g dX8_behind_0 ?_
    refine pb_iload_n1 g dX8_behind_1 ?_
    refine pb_Vi1 g qX8_123 dX8_behind_2 (k + 5) (by omega) mr_o (m_isShuffleF (k + 5) (by assumption) hS) (fun r2 h2 e2 => ?_)
    obtain ⟨rfl, rfl⟩ := e2
    first | refine pb_if_eqN g 16 dX8_behind_5 (by decide) (by omega) (fun c5 => ?_) (fun c5 => ?_) | refine pb_if_eq g 16 dX8_behind_5 (by decide) (fun c5 => ?_) (fun c5 => ?_)
    · refine pb_bipush (v := -2) g dX8_behind_16 (by decide) ?_
      refine pb_iret g z dX8_behind_18 ?_
      exact ⟨_, rfl, by rw [e], by rw [e]; exact ⟨_, _, _, _, _, _, _, _, _, _, _, _, _, _, _, _, _, _, _, rfl, d1, d2, d3, d4, d5⟩⟩
    · exact absurd c5 (by decide)
  | some x0 =>
    obtain ⟨hx0, rfl⟩ := ix_some (by omega) hx
    cases hy : ix y S with
    | none =>
      have e : sBehind ((n, P, S, sd), (σ, μ, K, Hh), (ts, zz, it), (ra, tr)) (nI x0) y = (-2, ((n, P, S, sd), (σ, μ, K, Hh), (ts, zz, it), (ra, tr))) := by simp only [sBehind, hx, hy]
      have hyn := ix_none (by omega) hy
      refine pb_aload_n0 g dX8_behind_0 ?_
      refine pb_iload_n1 g dX8_behind_1 ?_
      refine pb_Vi1 g qX8_123 dX8_behind_2 (k + 5) (by omega) mr_o (m_isShuffleT (k + 5) (by assumption) hS) (fun r2 h2 e2 => ?_)
      obtain ⟨rfl, rfl⟩ := e2
      first | refine pb_if_eqN g 16 dX8_behind_5 (by decide) (by omega) (fun c5 => ?_) (fun c5 => ?_) | refine pb_if_eq g 16 dX8_behind_5 (by decide) (fun c5 => ?_) (fun c5 => ?_)
      · exact absurd c5 (by decide)
      · refine pb_aload_n0 g dX8_behind_8 ?_
        refine pb_iload_n2 g dX8_behind_9 ?_
        refine pb_Vi1 g qX8_123 dX8_behind_10 (k + 5) (by omega) mr_o (m_isShuffleF (k + 5) (by assumption) hS) (fun r10 h10 e10 => ?_)
        obtain ⟨rfl, rfl⟩ := e10
        first | refine pb_if_neN g 19 dX8_behind_13 (by decide) (by omega) (fun c13 => ?_) (fun c13 => ?_) | refine pb_if_ne g 19 dX8_behind_13 (by decide) (fun c13 => ?_) (fun c13 => ?_)
        · exact absurd c13 (by decide)
        · refine pb_bipush (v := -2) g dX8_behind_16 (by decide) ?_
          refine pb_iret g z dX8_behind_18 ?_
          exact ⟨_, rfl, by rw [e], by rw [e]; exact ⟨_, _, _, _, _, _, _, _, _, _, _, _, _, _, _, _, _, _, _, rfl, d1, d2, d3, d4, d5⟩⟩
    | some y0 =>
      obtain ⟨hy0, rfl⟩ := ix_some (by omega) hy
      by_cases hx3 : K x0 < 3
      · by_cases hy3 : K y0 < 3
        · by_cases h10 : S = 10
          · have e : sBehind ((n, P, S, sd), (σ, μ, K, Hh), (ts, zz, it), (ra, tr)) (nI x0) (nI y0) = (-4, ((n, P, S, sd), (σ, μ, K, Hh), (ts, zz, it), (ra, tr))) := by simp only [sBehind, hx, hy, if_pos (And.intro hx3 hy3), sMk, if_pos h10]
            refine pb_aload_n0 g dX8_behind_0 ?_
            refine pb_iload_n1 g dX8_behind_1 ?_
            refine pb_Vi1 g qX8_123 dX8_behind_2 (k + 5) (by omega) mr_o (m_isShuffleT (k + 5) (by assumption) hS) (fun r2 h2 e2 => ?_)
            obtain ⟨rfl, rfl⟩ := e2
            first | refine pb_if_eqN g 16 dX8_behind_5 (by decide) (by omega) (fun c5 => ?_) (fun c5 => ?_) | refine pb_if_eq g 16 dX8_behind_5 (by decide) (fun c5 => ?_) (fun c5 => ?_)
            · exact absurd c5 (by decide)
            · refine pb_aload_n0 g dX8_behind_8 ?_
              refine pb_iload_n2 g dX8_behind_9 ?_
              refine pb_Vi1 g qX8_123 dX8_behind_10 (k + 5) (by omega) mr_o (m_isShuffleT (k + 5) (by assumption) hS) (fun r10 h10 e10 => ?_)
              obtain ⟨rfl, rfl⟩ := e10
              first | refine pb_if_neN g 19 dX8_behind_13 (by decide) (by omega) (fun c13 => ?_) (fun c13 => ?_) | refine pb_if_ne g 19 dX8_behind_13 (by decide) (fun c13 => ?_) (fun c13 => ?_)
              · refine pb_aload_n0 g dX8_behind_19 ?_
                refine pb_iload_n1 g dX8_behind_20 ?_
                refine pb_Vi1 g qX8_126 dX8_behind_21 (k + 5) (by omega) mr_o (m_hasMove (k + 5) (s := x0) (K := K x0) (by omega) (d2 x0 (by assumption)).1 (hK x0 (by assumption)).1) (fun r21 h21 e21 => ?_)
                obtain ⟨rfl, rfl⟩ := e21
                rw [if_pos (by assumption)]
                first | refine pb_if_eqN g 35 dX8_behind_24 (by decide) (by omega) (fun c24 => ?_) (fun c24 => ?_) | refine pb_if_eq g 35 dX8_behind_24 (by decide) (fun c24 => ?_) (fun c24 => ?_)
                · exact absurd c24 (by decide)
                · refine pb_aload_n0 g dX8_behind_27 ?_
                  refine pb_iload_n2 g dX8_behind_28 ?_
                  refine pb_Vi1 g qX8_126 dX8_behind_29 (k + 5) (by omega) mr_o (m_hasMove (k + 5) (s := y0) (K := K y0) (by omega) (d2 y0 (by assumption)).1 (hK y0 (by assumption)).1) (fun r29 h29 e29 => ?_)
                  obtain ⟨rfl, rfl⟩ := e29
                  rw [if_pos (by assumption)]
                  first | refine pb_if_neN g 38 dX8_behind_32 (by decide) (by omega) (fun c32 => ?_) (fun c32 => ?_) | refine pb_if_ne g 38 dX8_behind_32 (by decide) (fun c32 => ?_) (fun c32 => ?_)
                  · refine pb_aload_n0 g dX8_behind_38 ?_
                    refine pb_getf g fX8_75 dX8_behind_39 mr_o rfl ?_
                    refine pb_bipush (v := nI 10) g dX8_behind_42 (by decide) ?_
                    first | refine pb_icmp_neN g 50 dX8_behind_44 (by decide) (by omega) (by omega) (fun c44 => ?_) (fun c44 => ?_) | refine pb_icmp_ne g 50 dX8_behind_44 (by decide) (fun c44 => ?_) (fun c44 => ?_)
                    · exact absurd h10 c44
                    · refine pb_bipush (v := -4) g dX8_behind_47 (by decide) ?_
                      refine pb_iret g z dX8_behind_49 ?_
                      exact ⟨_, rfl, by rw [e], by rw [e]; exact ⟨_, _, _, _, _, _, _, _, _, _, _, _, _, _, _, _, _, _, _, rfl, d1, d2, d3, d4, d5⟩⟩
                  · exact absurd c32 (by decide)
              · exact absurd c13 (by decide)
          · have e : sBehind ((n, P, S, sd), (σ, μ, K, Hh), (ts, zz, it), (ra, tr)) (nI x0) (nI y0) = (nI S, ((n, P, S + 1, sd), (σ, va_up μ S (fun i => μ x0 (μ y0 i)), va_up K S 0, va_up Hh S 2), (ts, zz, it), (ra, tr))) := by simp only [sBehind, hx, hy, if_pos (And.intro hx3 hy3), sMk, if_neg h10]
            have hmy := ((hK y0 hy0).2.2.2.2 hy3).1
            have loop : ∀ i, i ≤ n → PB Γ 52 [some (.ref 0), some (.int (nI x0)), some (.int (nI y0)), some (.int (nI i))] [] (mkH 20 (mdF (nI n) (nI P) (nI S) (sd) xod xkn xhs xmm (wrF xln (fun i => nI (μ x0 (μ y0 i))) i) xot xwy xnx xch xaf xfa xgr xfo xco xtsr xtsz xce xmv xtc (nI ra))) := by
              refine pb_loop n (fun i hi ih => ?_)
              by_cases hin : i < n
              · have ih := ih hin
                have hmi := hmy i hin
                refine pb_iload_n3 g dX8_behind_52 ?_
                refine pb_aload_n0 g dX8_behind_53 ?_
                refine pb_getf g fX8_7 dX8_behind_54 mr_o rfl ?_
                first | refine pb_icmp_geN g 93 dX8_behind_57 (by decide) (by omega) (by omega) (fun c57 => ?_) (fun c57 => ?_) | refine pb_icmp_ge g 93 dX8_behind_57 (by decide) (fun c57 => ?_) (fun c57 => ?_)
                · exact absurd c57 (by omega)
                · refine pb_aload_n0 g dX8_behind_60 ?_
                  refine pb_getf g fX8_26 dX8_behind_61 mr_o rfl ?_
                  refine pb_iload_n3 g dX8_behind_64 ?_
                  refine pb_aload_n0 g dX8_behind_65 ?_
                  refine pb_getf g fX8_23 dX8_behind_66 mr_o rfl ?_
                  refine pb_bipush (v := nI 10) g dX8_behind_69 (by decide) ?_
                  refine pb_iload_n1 g dX8_behind_71 ?_
                  first | refine pb_imulN g dX8_behind_72 ?_ | refine pb_imul g dX8_behind_72 ?_
                  refine pb_aload_n0 g dX8_behind_73 ?_
                  refine pb_getf g fX8_23 dX8_behind_74 mr_o rfl ?_
                  refine pb_bipush (v := nI 10) g dX8_behind_77 (by decide) ?_
                  refine pb_iload_n2 g dX8_behind_79 ?_
                  first | refine pb_imulN g dX8_behind_80 ?_ | refine pb_imul g dX8_behind_80 ?_
                  refine pb_iload_n3 g dX8_behind_81 ?_
                  first | refine pb_iaddN g dX8_behind_82 ?_ | refine pb_iadd g dX8_behind_82 ?_
                  first | refine pb_ialdN g dX8_behind_83 (by first | exact mr_m | exact mr_line | exact mr_order | exact mr_kind | exact mr_heaps | exact mr_other | exact mr_ways | exact mr_next | exact mr_chances | exact mr_after | exact mr_far | exact mr_groups | exact mr_found | exact mr_counts | exact mr_traySort | exact mr_traySize | exact mr_cells | exact mr_moved | exact mr_traced | assumption) (by omega) (by omega) ?_ | refine pb_ald0 g dX8_behind_83 (by omega) ?_ | refine pb_ald1 g dX8_behind_83 (by omega) ?_ | refine pb_ald2 g dX8_behind_83 (by omega) ?_ | refine pb_ald3 g dX8_behind_83 (by omega) ?_ | refine pb_iald g dX8_behind_83 (by first | exact mr_m | exact mr_line | exact mr_order | exact mr_kind | exact mr_heaps | exact mr_other | exact mr_ways | exact mr_next | exact mr_chances | exact mr_after | exact mr_far | exact mr_groups | exact mr_found | exact mr_counts | exact mr_traySort | exact mr_traySize | exact mr_cells | exact mr_moved | exact mr_traced | assumption) (by assumption) ?_
                  rw [(d2 y0 hy0).2.2 hy3 i hin]
                  first | refine pb_iaddN g dX8_behind_84 ?_ | refine pb_iadd g dX8_behind_84 ?_
                  first | refine pb_ialdN g dX8_behind_85 (by first | exact mr_m | exact mr_line | exact mr_order | exact mr_kind | exact mr_heaps | exact mr_other | exact mr_ways | exact mr_next | exact mr_chances | exact mr_after | exact mr_far | exact mr_groups | exact mr_found | exact mr_counts | exact mr_traySort | exact mr_traySize | exact mr_cells | exact mr_moved | exact mr_traced | assumption) (by omega) (by omega) ?_ | refine pb_ald0 g dX8_behind_85 (by omega) ?_ | refine pb_ald1 g dX8_behind_85 (by omega) ?_ | refine pb_ald2 g dX8_behind_85 (by omega) ?_ | refine pb_ald3 g dX8_behind_85 (by omega) ?_ | refine pb_iald g dX8_behind_85 (by first | exact mr_m | exact mr_line | exact mr_order | exact mr_kind | exact mr_heaps | exact mr_other | exact mr_ways | exact mr_next | exact mr_chances | exact mr_after | exact mr_far | exact mr_groups | exact mr_found | exact mr_counts | exact mr_traySort | exact mr_traySize | exact mr_cells | exact mr_moved | exact mr_traced | assumption) (by assumption) ?_
                  rw [(d2 x0 hx0).2.2 hx3 (μ y0 i) hmi]
                  first | refine pb_iastN g dX8_behind_86 (by first | exact mr_m | exact mr_line | exact mr_order | exact mr_kind | exact mr_heaps | exact mr_other | exact mr_ways | exact mr_next | exact mr_chances | exact mr_after | exact mr_far | exact mr_groups | exact mr_found | exact mr_counts | exact mr_traySort | exact mr_traySize | exact mr_cells | exact mr_moved | exact mr_traced | assumption) (by omega) (by omega) ?_ | refine pb_iast g dX8_behind_86 (by first | exact mr_m | exact mr_line | exact mr_order | exact mr_kind | exact mr_heaps | exact mr_other | exact mr_ways | exact mr_next | exact mr_chances | exact mr_after | exact mr_far | exact mr_groups | exact mr_found | exact mr_counts | exact mr_traySort | exact mr_traySize | exact mr_cells | exact mr_moved | exact mr_traced | assumption) (by assumption) ?_
                  first | rw [ms_m] | rw [ms_line]
                  first | refine pb_iinc3N g dX8_behind_87 (by decide) ?_ | refine pb_iinc3 g dX8_behind_87 (by decide) rfl ?_
                  refine pb_goto g 52 dX8_behind_90 (by decide) ?_
                  exact ih
              · obtain rfl : i = n := by omega
                refine pb_iload_n3 g dX8_behind_52 ?_
                refine pb_aload_n0 g dX8_behind_53 ?_
                refine pb_getf g fX8_7 dX8_behind_54 mr_o rfl ?_
                first | refine pb_icmp_geN g 93 dX8_behind_57 (by decide) (by omega) (by omega) (fun c57 => ?_) (fun c57 => ?_) | refine pb_icmp_ge g 93 dX8_behind_57 (by decide) (fun c57 => ?_) (fun c57 => ?_)
                · refine pb_aload_n0 g dX8_behind_93 ?_
                  refine pb_iconst (v := nI 0) g dX8_behind_94 (by decide) ?_
                  refine pb_iconst (v := nI 2) g dX8_behind_95 (by decide) ?_
                  refine pb_Vi2 g qX8_116 dX8_behind_96 (k + 5) (by omega) mr_o (m_makes (k + 5) (n := i) (S := S) (a := 0) (b := 2) hn (by omega)) (fun r96 h96 e96 => ?_)
                  obtain ⟨rfl, rfl⟩ := e96
                  refine pb_iret g z dX8_behind_99 ?_
                  exact ⟨_, rfl, by rw [e], by rw [e]; exact ⟨_, _, _, _, _, _, _, _, _, _, _, _, _, _, _, _, _, _, _, rfl, d1, m2_up hn d2 (fun _ j hj => wr_at _ _ i j hj), d3, d4, d5⟩⟩
                · exact absurd c57 (by omega)
            refine pb_aload_n0 g dX8_behind_0 ?_
            refine pb_iload_n1 g dX8_behind_1 ?_
            refine pb_Vi1 g qX8_123 dX8_behind_2 (k + 5) (by omega) mr_o (m_isShuffleT (k + 5) (by assumption) hS) (fun r2 h2 e2 => ?_)
            obtain ⟨rfl, rfl⟩ := e2
            first | refine pb_if_eqN g 16 dX8_behind_5 (by decide) (by omega) (fun c5 => ?_) (fun c5 => ?_) | refine pb_if_eq g 16 dX8_behind_5 (by decide) (fun c5 => ?_) (fun c5 => ?_)
            · exact absurd c5 (by decide)
            · refine pb_aload_n0 g dX8_behind_8 ?_
              refine pb_iload_n2 g dX8_behind_9 ?_
              refine pb_Vi1 g qX8_123 dX8_behind_10 (k + 5) (by omega) mr_o (m_isShuffleT (k + 5) (by assumption) hS) (fun r10 h10 e10 => ?_)
              obtain ⟨rfl, rfl⟩ := e10
              first | refine pb_if_neN g 19 dX8_behind_13 (by decide) (by omega) (fun c13 => ?_) (fun c13 => ?_) | refine pb_if_ne g 19 dX8_behind_13 (by decide) (fun c13 => ?_) (fun c13 => ?_)
              · refine pb_aload_n0 g dX8_behind_19 ?_
                refine pb_iload_n1 g dX8_behind_20 ?_
                refine pb_Vi1 g qX8_126 dX8_behind_21 (k + 5) (by omega) mr_o (m_hasMove (k + 5) (s := x0) (K := K x0) (by omega) (d2 x0 (by assumption)).1 (hK x0 (by assumption)).1) (fun r21 h21 e21 => ?_)
                obtain ⟨rfl, rfl⟩ := e21
                rw [if_pos (by assumption)]
                first | refine pb_if_eqN g 35 dX8_behind_24 (by decide) (by omega) (fun c24 => ?_) (fun c24 => ?_) | refine pb_if_eq g 35 dX8_behind_24 (by decide) (fun c24 => ?_) (fun c24 => ?_)
                · exact absurd c24 (by decide)
                · refine pb_aload_n0 g dX8_behind_27 ?_
                  refine pb_iload_n2 g dX8_behind_28 ?_
                  refine pb_Vi1 g qX8_126 dX8_behind_29 (k + 5) (by omega) mr_o (m_hasMove (k + 5) (s := y0) (K := K y0) (by omega) (d2 y0 (by assumption)).1 (hK y0 (by assumption)).1) (fun r29 h29 e29 => ?_)
                  obtain ⟨rfl, rfl⟩ := e29
                  rw [if_pos (by assumption)]
                  first | refine pb_if_neN g 38 dX8_behind_32 (by decide) (by omega) (fun c32 => ?_) (fun c32 => ?_) | refine pb_if_ne g 38 dX8_behind_32 (by decide) (fun c32 => ?_) (fun c32 => ?_)
                  · refine pb_aload_n0 g dX8_behind_38 ?_
                    refine pb_getf g fX8_75 dX8_behind_39 mr_o rfl ?_
                    refine pb_bipush (v := nI 10) g dX8_behind_42 (by decide) ?_
                    first | refine pb_icmp_neN g 50 dX8_behind_44 (by decide) (by omega) (by omega) (fun c44 => ?_) (fun c44 => ?_) | refine pb_icmp_ne g 50 dX8_behind_44 (by decide) (fun c44 => ?_) (fun c44 => ?_)
                    · refine pb_iconst (v := nI 0) g dX8_behind_50 (by decide) ?_
                      refine pb_istore_n3 g dX8_behind_51 (by decide) ?_
                      exact loop 0 (Nat.zero_le _)
                    · exact absurd c44 h10
                  · exact absurd c32 (by decide)
              · exact absurd c13 (by decide)
        · have e : sBehind ((n, P, S, sd), (σ, μ, K, Hh), (ts, zz, it), (ra, tr)) (nI x0) (nI y0) = (-3, ((n, P, S, sd), (σ, μ, K, Hh), (ts, zz, it), (ra, tr))) := by simp only [sBehind, hx, hy, if_neg (fun z : K x0 < 3 ∧ K y0 < 3 => hy3 z.2)]
          refine pb_aload_n0 g dX8_behind_0 ?_
          refine pb_iload_n1 g dX8_behind_1 ?_
          refine pb_Vi1 g qX8_123 dX8_behind_2 (k + 5) (by omega) mr_o (m_isShuffleT (k + 5) (by assumption) hS) (fun r2 h2 e2 => ?_)
          obtain ⟨rfl, rfl⟩ := e2
          first | refine pb_if_eqN g 16 dX8_behind_5 (by decide) (by omega) (fun c5 => ?_) (fun c5 => ?_) | refine pb_if_eq g 16 dX8_behind_5 (by decide) (fun c5 => ?_) (fun c5 => ?_)
          · exact absurd c5 (by decide)
          · refine pb_aload_n0 g dX8_behind_8 ?_
            refine pb_iload_n2 g dX8_behind_9 ?_
            refine pb_Vi1 g qX8_123 dX8_behind_10 (k + 5) (by omega) mr_o (m_isShuffleT (k + 5) (by assumption) hS) (fun r10 h10 e10 => ?_)
            obtain ⟨rfl, rfl⟩ := e10
            first | refine pb_if_neN g 19 dX8_behind_13 (by decide) (by omega) (fun c13 => ?_) (fun c13 => ?_) | refine pb_if_ne g 19 dX8_behind_13 (by decide) (fun c13 => ?_) (fun c13 => ?_)
            · refine pb_aload_n0 g dX8_behind_19 ?_
              refine pb_iload_n1 g dX8_behind_20 ?_
              refine pb_Vi1 g qX8_126 dX8_behind_21 (k + 5) (by omega) mr_o (m_hasMove (k + 5) (s := x0) (K := K x0) (by omega) (d2 x0 (by assumption)).1 (hK x0 (by assumption)).1) (fun r21 h21 e21 => ?_)
              obtain ⟨rfl, rfl⟩ := e21
              rw [if_pos (by assumption)]
              first | refine pb_if_eqN g 35 dX8_behind_24 (by decide) (by omega) (fun c24 => ?_) (fun c24 => ?_) | refine pb_if_eq g 35 dX8_behind_24 (by decide) (fun c24 => ?_) (fun c24 => ?_)
              · exact absurd c24 (by decide)
              · refine pb_aload_n0 g dX8_behind_27 ?_
                refine pb_iload_n2 g dX8_behind_28 ?_
                refine pb_Vi1 g qX8_126 dX8_behind_29 (k + 5) (by omega) mr_o (m_hasMove (k + 5) (s := y0) (K := K y0) (by omega) (d2 y0 (by assumption)).1 (hK y0 (by assumption)).1) (fun r29 h29 e29 => ?_)
                obtain ⟨rfl, rfl⟩ := e29
                rw [if_neg (by assumption)]
                first | refine pb_if_neN g 38 dX8_behind_32 (by decide) (by omega) (fun c32 => ?_) (fun c32 => ?_) | refine pb_if_ne g 38 dX8_behind_32 (by decide) (fun c32 => ?_) (fun c32 => ?_)
                · exact absurd c32 (by decide)
                · refine pb_bipush (v := -3) g dX8_behind_35 (by decide) ?_
                  refine pb_iret g z dX8_behind_37 ?_
                  exact ⟨_, rfl, by rw [e], by rw [e]; exact ⟨_, _, _, _, _, _, _, _, _, _, _, _, _, _, _, _, _, _, _, rfl, d1, d2, d3, d4, d5⟩⟩
            · exact absurd c13 (by decide)
      · have e : sBehind ((n, P, S, sd), (σ, μ, K, Hh), (ts, zz, it), (ra, tr)) (nI x0) (nI y0) = (-3, ((n, P, S, sd), (σ, μ, K, Hh), (ts, zz, it), (ra, tr))) := by simp only [sBehind, hx, hy, if_neg (fun z : K x0 < 3 ∧ K y0 < 3 => hx3 z.1)]
        refine pb_aload_n0 g dX8_behind_0 ?_
        refine pb_iload_n1 g dX8_behind_1 ?_
        refine pb_Vi1 g qX8_123 dX8_behind_2 (k + 5) (by omega) mr_o (m_isShuffleT (k + 5) (by assumption) hS) (fun r2 h2 e2 => ?_)
        obtain ⟨rfl, rfl⟩ := e2
        first | refine pb_if_eqN g 16 dX8_behind_5 (by decide) (by omega) (fun c5 => ?_) (fun c5 => ?_) | refine pb_if_eq g 16 dX8_behind_5 (by decide) (fun c5 => ?_) (fun c5 => ?_)
        · exact absurd c5 (by decide)
        · refine pb_aload_n0 g dX8_behind_8 ?_
          refine pb_iload_n2 g dX8_behind_9 ?_
          refine pb_Vi1 g qX8_123 dX8_behind_10 (k + 5) (by omega) mr_o (m_isShuffleT (k + 5) (by assumption) hS) (fun r10 h10 e10 => ?_)
          obtain ⟨rfl, rfl⟩ := e10
          first | refine pb_if_neN g 19 dX8_behind_13 (by decide) (by omega) (fun c13 => ?_) (fun c13 => ?_) | refine pb_if_ne g 19 dX8_behind_13 (by decide) (fun c13 => ?_) (fun c13 => ?_)
          · refine pb_aload_n0 g dX8_behind_19 ?_
            refine pb_iload_n1 g dX8_behind_20 ?_
            refine pb_Vi1 g qX8_126 dX8_behind_21 (k + 5) (by omega) mr_o (m_hasMove (k + 5) (s := x0) (K := K x0) (by omega) (d2 x0 (by assumption)).1 (hK x0 (by assumption)).1) (fun r21 h21 e21 => ?_)
            obtain ⟨rfl, rfl⟩ := e21
            rw [if_neg (by assumption)]
            first | refine pb_if_eqN g 35 dX8_behind_24 (by decide) (by omega) (fun c24 => ?_) (fun c24 => ?_) | refine pb_if_eq g 35 dX8_behind_24 (by decide) (fun c24 => ?_) (fun c24 => ?_)
            · refine pb_bipush (v := -3) g dX8_behind_35 (by decide) ?_
              refine pb_iret g z dX8_behind_37 ?_
              exact ⟨_, rfl, by rw [e], by rw [e]; exact ⟨_, _, _, _, _, _, _, _, _, _, _, _, _, _, _, _, _, _, _, rfl, d1, d2, d3, d4, d5⟩⟩
            · exact absurd c24 (by decide)
          · exact absurd c13 (by decide)
set_option maxHeartbeats 4000000 in
set_option maxRecDepth 100000 in
theorem m_back (k : Nat) (q : SP) (x : Int32) (h : PH) (hD : IsM q h) (hI : SI q) : Runs yX8_back cX8_back 3 (some .int) (k + 6) [.ref 0, .int x] h (fun oo h' => ∃ r : Int32, oo = some (.int r) ∧ r = (sBack q x).1 ∧ IsM ((sBack q x).2) h') := by
  obtain ⟨⟨n, P, S, sd⟩, ⟨σ, μ, K, Hh⟩, ⟨ts, zz, it⟩, ⟨ra, tr⟩⟩ := q
  obtain ⟨⟨hn1, hn, hP, hS⟩, hσ, hK, hz, hra⟩ := hI
  obtain ⟨xod, xkn, xhs, xmm, xln, xot, xfa, xgr, xtsr, xtsz, xce, xmv, xtc, xwy, xnx, xch, xaf, xfo, xco, rfl, d1, d2, d3, d4, d5⟩ := hD
  refine Runs.of (by decide) (Nat.le_of_ble_eq_true rfl) [some (.ref 0), some (.int x), none] 1 rfl (fun Γ g z => ?_)
  cases hx : ix x S with
  | none =>
    have e : sBack ((n, P, S, sd), (σ, μ, K, Hh), (ts, zz, it), (ra, tr)) x = (-2, ((n, P, S, sd), (σ, μ, K, Hh), (ts, zz, it), (ra, tr))) := by simp only [sBack, hx]
    have hxn := ix_none (by omega) hx
    refine pb_aload_n0 g dX8_back_0 ?_
    refine pb_iload_n1 g dX8_back_1 ?_
    refine pb_Vi1 g qX8_123 dX8_back_2 (k + 5) (by omega) mr_o (m_isShuffleF (k + 5) (by assumption) hS) (fun r2 h2 e2 => ?_)
    obtain ⟨rfl, rfl⟩ := e2
    first | refine pb_if_neN g 11 dX8_back_5 (by decide) (by omega) (fun c5 => ?_) (fun c5 => ?_) | refine pb_if_ne g 11 dX8_back_5 (by decide) (fun c5 => ?_) (fun c5 => ?_)
    · exact absurd c5 (by decide)
    · refine pb_bipush (v := -2) g dX8_back_8 (by decide) ?_
      refine pb_iret g z dX8_back_10 ?_
      exact ⟨_, rfl, by rw [e], by rw [e]; exact ⟨_, _, _, _, _, _, _, _, _, _, _, _, _, _, _, _, _, _, _, rfl, d1, d2, d3, d4, d5⟩⟩
  | some x0 =>
    obtain ⟨hx0, rfl⟩ := ix_some (by omega) hx
    by_cases hx3 : K x0 < 3
    · by_cases h10 : S = 10
      · have e : sBack ((n, P, S, sd), (σ, μ, K, Hh), (ts, zz, it), (ra, tr)) (nI x0) = (-4, ((n, P, S, sd), (σ, μ, K, Hh), (ts, zz, it), (ra, tr))) := by simp only [sBack, hx, if_pos hx3, sMk, if_pos h10]
        refine pb_aload_n0 g dX8_back_0 ?_
        refine pb_iload_n1 g dX8_back_1 ?_
        refine pb_Vi1 g qX8_123 dX8_back_2 (k + 5) (by omega) mr_o (m_isShuffleT (k + 5) (by assumption) hS) (fun r2 h2 e2 => ?_)
        obtain ⟨rfl, rfl⟩ := e2
        first | refine pb_if_neN g 11 dX8_back_5 (by decide) (by omega) (fun c5 => ?_) (fun c5 => ?_) | refine pb_if_ne g 11 dX8_back_5 (by decide) (fun c5 => ?_) (fun c5 => ?_)
        · refine pb_aload_n0 g dX8_back_11 ?_
          refine pb_iload_n1 g dX8_back_12 ?_
          refine pb_Vi1 g qX8_126 dX8_back_13 (k + 5) (by omega) mr_o (m_hasMove (k + 5) (s := x0) (K := K x0) (by omega) (d2 x0 (by assumption)).1 (hK x0 (by assumption)).1) (fun r13 h13 e13 => ?_)
          obtain ⟨rfl, rfl⟩ := e13
          rw [if_pos (by assumption)]
          first | refine pb_if_neN g 22 dX8_back_16 (by decide) (by omega) (fun c16 => ?_) (fun c16 => ?_) | refine pb_if_ne g 22 dX8_back_16 (by decide) (fun c16 => ?_) (fun c16 => ?_)
          · refine pb_aload_n0 g dX8_back_22 ?_
            refine pb_getf g fX8_75 dX8_back_23 mr_o rfl ?_
            refine pb_bipush (v := nI 10) g dX8_back_26 (by decide) ?_
            first | refine pb_icmp_neN g 34 dX8_back_28 (by decide) (by omega) (by omega) (fun c28 => ?_) (fun c28 => ?_) | refine pb_icmp_ne g 34 dX8_back_28 (by decide) (fun c28 => ?_) (fun c28 => ?_)
            · exact absurd h10 c28
            · refine pb_bipush (v := -4) g dX8_back_31 (by decide) ?_
              refine pb_iret g z dX8_back_33 ?_
              exact ⟨_, rfl, by rw [e], by rw [e]; exact ⟨_, _, _, _, _, _, _, _, _, _, _, _, _, _, _, _, _, _, _, rfl, d1, d2, d3, d4, d5⟩⟩
          · exact absurd c16 (by decide)
        · exact absurd c5 (by decide)
      · have e : sBack ((n, P, S, sd), (σ, μ, K, Hh), (ts, zz, it), (ra, tr)) (nI x0) = (nI S, ((n, P, S + 1, sd), (σ, va_up μ S (bkN (μ x0) n), va_up K S 0, va_up Hh S 2), (ts, zz, it), (ra, tr))) := by simp only [sBack, hx, if_pos hx3, sMk, if_neg h10]
        have hpm := (hK x0 hx0).2.2.2.2 hx3
        have loop : ∀ i, i ≤ n → PB Γ 36 [some (.ref 0), some (.int (nI x0)), some (.int (nI i))] [] (mkH 20 (mdF (nI n) (nI P) (nI S) (sd) xod xkn xhs xmm (bkF (μ x0) xln i) xot xwy xnx xch xaf xfa xgr xfo xco xtsr xtsz xce xmv xtc (nI ra))) := by
          refine pb_loop n (fun i hi ih => ?_)
          by_cases hin : i < n
          · have ih := ih hin
            have hmi := hpm.1 i hin
            refine pb_iload_n2 g dX8_back_36 ?_
            refine pb_aload_n0 g dX8_back_37 ?_
            refine pb_getf g fX8_7 dX8_back_38 mr_o rfl ?_
            first | refine pb_icmp_geN g 67 dX8_back_41 (by decide) (by omega) (by omega) (fun c41 => ?_) (fun c41 => ?_) | refine pb_icmp_ge g 67 dX8_back_41 (by decide) (fun c41 => ?_) (fun c41 => ?_)
            · exact absurd c41 (by omega)
            · refine pb_aload_n0 g dX8_back_44 ?_
              refine pb_getf g fX8_26 dX8_back_45 mr_o rfl ?_
              refine pb_aload_n0 g dX8_back_48 ?_
              refine pb_getf g fX8_23 dX8_back_49 mr_o rfl ?_
              refine pb_bipush (v := nI 10) g dX8_back_52 (by decide) ?_
              refine pb_iload_n1 g dX8_back_54 ?_
              first | refine pb_imulN g dX8_back_55 ?_ | refine pb_imul g dX8_back_55 ?_
              refine pb_iload_n2 g dX8_back_56 ?_
              first | refine pb_iaddN g dX8_back_57 ?_ | refine pb_iadd g dX8_back_57 ?_
              first | refine pb_ialdN g dX8_back_58 (by first | exact mr_m | exact mr_line | exact mr_order | exact mr_kind | exact mr_heaps | exact mr_other | exact mr_ways | exact mr_next | exact mr_chances | exact mr_after | exact mr_far | exact mr_groups | exact mr_found | exact mr_counts | exact mr_traySort | exact mr_traySize | exact mr_cells | exact mr_moved | exact mr_traced | assumption) (by omega) (by omega) ?_ | refine pb_ald0 g dX8_back_58 (by omega) ?_ | refine pb_ald1 g dX8_back_58 (by omega) ?_ | refine pb_ald2 g dX8_back_58 (by omega) ?_ | refine pb_ald3 g dX8_back_58 (by omega) ?_ | refine pb_iald g dX8_back_58 (by first | exact mr_m | exact mr_line | exact mr_order | exact mr_kind | exact mr_heaps | exact mr_other | exact mr_ways | exact mr_next | exact mr_chances | exact mr_after | exact mr_far | exact mr_groups | exact mr_found | exact mr_counts | exact mr_traySort | exact mr_traySize | exact mr_cells | exact mr_moved | exact mr_traced | assumption) (by assumption) ?_
              rw [(d2 x0 hx0).2.2 hx3 i hin]
              refine pb_iload_n2 g dX8_back_59 ?_
              first | refine pb_iastN g dX8_back_60 (by first | exact mr_m | exact mr_line | exact mr_order | exact mr_kind | exact mr_heaps | exact mr_other | exact mr_ways | exact mr_next | exact mr_chances | exact mr_after | exact mr_far | exact mr_groups | exact mr_found | exact mr_counts | exact mr_traySort | exact mr_traySize | exact mr_cells | exact mr_moved | exact mr_traced | assumption) (by omega) (by omega) ?_ | refine pb_iast g dX8_back_60 (by first | exact mr_m | exact mr_line | exact mr_order | exact mr_kind | exact mr_heaps | exact mr_other | exact mr_ways | exact mr_next | exact mr_chances | exact mr_after | exact mr_far | exact mr_groups | exact mr_found | exact mr_counts | exact mr_traySort | exact mr_traySize | exact mr_cells | exact mr_moved | exact mr_traced | assumption) (by assumption) ?_
              first | rw [ms_m] | rw [ms_line]
              first | refine pb_iinc2N g dX8_back_61 (by decide) ?_ | refine pb_iinc2 g dX8_back_61 (by decide) rfl ?_
              refine pb_goto g 36 dX8_back_64 (by decide) ?_
              exact ih
          · obtain rfl : i = n := by omega
            refine pb_iload_n2 g dX8_back_36 ?_
            refine pb_aload_n0 g dX8_back_37 ?_
            refine pb_getf g fX8_7 dX8_back_38 mr_o rfl ?_
            first | refine pb_icmp_geN g 67 dX8_back_41 (by decide) (by omega) (by omega) (fun c41 => ?_) (fun c41 => ?_) | refine pb_icmp_ge g 67 dX8_back_41 (by decide) (fun c41 => ?_) (fun c41 => ?_)
            · refine pb_aload_n0 g dX8_back_67 ?_
              refine pb_iconst (v := nI 0) g dX8_back_68 (by decide) ?_
              refine pb_iconst (v := nI 2) g dX8_back_69 (by decide) ?_
              refine pb_Vi2 g qX8_116 dX8_back_70 (k + 5) (by omega) mr_o (m_makes (k + 5) (n := i) (S := S) (a := 0) (b := 2) hn (by omega)) (fun r70 h70 e70 => ?_)
              obtain ⟨rfl, rfl⟩ := e70
              refine pb_iret g z dX8_back_73 ?_
              exact ⟨_, rfl, by rw [e], by rw [e]; exact ⟨_, _, _, _, _, _, _, _, _, _, _, _, _, _, _, _, _, _, _, rfl, d1, m2_up hn d2 (fun _ j hj => (bk_pm hpm _ j hj).1), d3, d4, d5⟩⟩
            · exact absurd c41 (by omega)
        refine pb_aload_n0 g dX8_back_0 ?_
        refine pb_iload_n1 g dX8_back_1 ?_
        refine pb_Vi1 g qX8_123 dX8_back_2 (k + 5) (by omega) mr_o (m_isShuffleT (k + 5) (by assumption) hS) (fun r2 h2 e2 => ?_)
        obtain ⟨rfl, rfl⟩ := e2
        first | refine pb_if_neN g 11 dX8_back_5 (by decide) (by omega) (fun c5 => ?_) (fun c5 => ?_) | refine pb_if_ne g 11 dX8_back_5 (by decide) (fun c5 => ?_) (fun c5 => ?_)
        · refine pb_aload_n0 g dX8_back_11 ?_
          refine pb_iload_n1 g dX8_back_12 ?_
          refine pb_Vi1 g qX8_126 dX8_back_13 (k + 5) (by omega) mr_o (m_hasMove (k + 5) (s := x0) (K := K x0) (by omega) (d2 x0 (by assumption)).1 (hK x0 (by assumption)).1) (fun r13 h13 e13 => ?_)
          obtain ⟨rfl, rfl⟩ := e13
          rw [if_pos (by assumption)]
          first | refine pb_if_neN g 22 dX8_back_16 (by decide) (by omega) (fun c16 => ?_) (fun c16 => ?_) | refine pb_if_ne g 22 dX8_back_16 (by decide) (fun c16 => ?_) (fun c16 => ?_)
          · refine pb_aload_n0 g dX8_back_22 ?_
            refine pb_getf g fX8_75 dX8_back_23 mr_o rfl ?_
            refine pb_bipush (v := nI 10) g dX8_back_26 (by decide) ?_
            first | refine pb_icmp_neN g 34 dX8_back_28 (by decide) (by omega) (by omega) (fun c28 => ?_) (fun c28 => ?_) | refine pb_icmp_ne g 34 dX8_back_28 (by decide) (fun c28 => ?_) (fun c28 => ?_)
            · refine pb_iconst (v := nI 0) g dX8_back_34 (by decide) ?_
              refine pb_istore_n2 g dX8_back_35 (by decide) ?_
              exact loop 0 (Nat.zero_le _)
            · exact absurd c28 h10
          · exact absurd c16 (by decide)
        · exact absurd c5 (by decide)
    · have e : sBack ((n, P, S, sd), (σ, μ, K, Hh), (ts, zz, it), (ra, tr)) (nI x0) = (-3, ((n, P, S, sd), (σ, μ, K, Hh), (ts, zz, it), (ra, tr))) := by simp only [sBack, hx, if_neg hx3]
      refine pb_aload_n0 g dX8_back_0 ?_
      refine pb_iload_n1 g dX8_back_1 ?_
      refine pb_Vi1 g qX8_123 dX8_back_2 (k + 5) (by omega) mr_o (m_isShuffleT (k + 5) (by assumption) hS) (fun r2 h2 e2 => ?_)
      obtain ⟨rfl, rfl⟩ := e2
      first | refine pb_if_neN g 11 dX8_back_5 (by decide) (by omega) (fun c5 => ?_) (fun c5 => ?_) | refine pb_if_ne g 11 dX8_back_5 (by decide) (fun c5 => ?_) (fun c5 => ?_)
      · refine pb_aload_n0 g dX8_back_11 ?_
        refine pb_iload_n1 g dX8_back_12 ?_
        refine pb_Vi1 g qX8_126 dX8_back_13 (k + 5) (by omega) mr_o (m_hasMove (k + 5) (s := x0) (K := K x0) (by omega) (d2 x0 (by assumption)).1 (hK x0 (by assumption)).1) (fun r13 h13 e13 => ?_)
        obtain ⟨rfl, rfl⟩ := e13
        rw [if_neg (by assumption)]
        first | refine pb_if_neN g 22 dX8_back_16 (by decide) (by omega) (fun c16 => ?_) (fun c16 => ?_) | refine pb_if_ne g 22 dX8_back_16 (by decide) (fun c16 => ?_) (fun c16 => ?_)
        · exact absurd c16 (by decide)
        · refine pb_bipush (v := -3) g dX8_back_19 (by decide) ?_
          refine pb_iret g z dX8_back_21 ?_
          exact ⟨_, rfl, by rw [e], by rw [e]; exact ⟨_, _, _, _, _, _, _, _, _, _, _, _, _, _, _, _, _, _, _, rfl, d1, d2, d3, d4, d5⟩⟩
      · exact absurd c5 (by decide)
set_option maxHeartbeats 4000000 in
set_option maxRecDepth 100000 in
theorem m_moves (k : Nat) (q : SP) (s i : Int32) (h : PH) (hD : IsM q h) (hI : SI q) : Runs yX8_moves cX8_moves 3 (some .int) (k + 6) [.ref 0, .int s, .int i] h (fun oo h' => ∃ r : Int32, oo = some (.int r) ∧ r = sMoves q s i ∧ IsM (q) h') := by
  obtain ⟨⟨n, P, S, sd⟩, ⟨σ, μ, K, Hh⟩, ⟨ts, zz, it⟩, ⟨ra, tr⟩⟩ := q
  obtain ⟨⟨hn1, hn, hP, hS⟩, hσ, hK, hz, hra⟩ := hI
  obtain ⟨xod, xkn, xhs, xmm, xln, xot, xfa, xgr, xtsr, xtsz, xce, xmv, xtc, xwy, xnx, xch, xaf, xfo, xco, rfl, d1, d2, d3, d4, d5⟩ := hD
  refine Runs.of (by decide) (Nat.le_of_ble_eq_true rfl) [some (.ref 0), some (.int s), some (.int i)] 0 rfl (fun Γ g z => ?_)
  cases hs : ix s S with
  | none =>
    have e : sMoves ((n, P, S, sd), (σ, μ, K, Hh), (ts, zz, it), (ra, tr)) s i = -2 := by simp only [sMoves, hs]
    have hsn := ix_none (by omega) hs
    refine pb_aload_n0 g dX8_moves_0 ?_
    refine pb_iload_n1 g dX8_moves_1 ?_
    refine pb_Vi1 g qX8_123 dX8_moves_2 (k + 5) (by omega) mr_o (m_isShuffleF (k + 5) (by assumption) hS) (fun r2 h2 e2 => ?_)
    obtain ⟨rfl, rfl⟩ := e2
    first | refine pb_if_eqN g 16 dX8_moves_5 (by decide) (by omega) (fun c5 => ?_) (fun c5 => ?_) | refine pb_if_eq g 16 dX8_moves_5 (by decide) (fun c5 => ?_) (fun c5 => ?_)
    · refine pb_bipush (v := -2) g dX8_moves_16 (by decide) ?_
      refine pb_iret g z dX8_moves_18 ?_
      exact ⟨_, rfl, by rw [e], ⟨_, _, _, _, _, _, _, _, _, _, _, _, _, _, _, _, _, _, _, rfl, d1, d2, d3, d4, d5⟩⟩
    · exact absurd c5 (by decide)
  | some s0 =>
    obtain ⟨hs0, rfl⟩ := ix_some (by omega) hs
    cases hi : ix i n with
    | none =>
      have e : sMoves ((n, P, S, sd), (σ, μ, K, Hh), (ts, zz, it), (ra, tr)) (nI s0) i = -2 := by simp only [sMoves, hs, hi]
      have hin := ix_none (by omega) hi
      refine pb_aload_n0 g dX8_moves_0 ?_
      refine pb_iload_n1 g dX8_moves_1 ?_
      refine pb_Vi1 g qX8_123 dX8_moves_2 (k + 5) (by omega) mr_o (m_isShuffleT (k + 5) (by assumption) hS) (fun r2 h2 e2 => ?_)
      obtain ⟨rfl, rfl⟩ := e2
      first | refine pb_if_eqN g 16 dX8_moves_5 (by decide) (by omega) (fun c5 => ?_) (fun c5 => ?_) | refine pb_if_eq g 16 dX8_moves_5 (by decide) (fun c5 => ?_) (fun c5 => ?_)
      · exact absurd c5 (by decide)
      · refine pb_aload_n0 g dX8_moves_8 ?_
        refine pb_iload_n2 g dX8_moves_9 ?_
        refine pb_Vi1 g qX8_98 dX8_moves_10 (k + 5) (by omega) mr_o (m_isPlaceF (k + 5) (by assumption) hn) (fun r10 h10 e10 => ?_)
        obtain ⟨rfl, rfl⟩ := e10
        first | refine pb_if_neN g 19 dX8_moves_13 (by decide) (by omega) (fun c13 => ?_) (fun c13 => ?_) | refine pb_if_ne g 19 dX8_moves_13 (by decide) (fun c13 => ?_) (fun c13 => ?_)
        · exact absurd c13 (by decide)
        · refine pb_bipush (v := -2) g dX8_moves_16 (by decide) ?_
          refine pb_iret g z dX8_moves_18 ?_
          exact ⟨_, rfl, by rw [e], ⟨_, _, _, _, _, _, _, _, _, _, _, _, _, _, _, _, _, _, _, rfl, d1, d2, d3, d4, d5⟩⟩
    | some i0 =>
      obtain ⟨hi0, rfl⟩ := ix_some (by omega) hi
      by_cases h3 : K s0 < 3
      · have e : sMoves ((n, P, S, sd), (σ, μ, K, Hh), (ts, zz, it), (ra, tr)) (nI s0) (nI i0) = nI (μ s0 i0) := by simp only [sMoves, hs, hi, if_pos h3]
        refine pb_aload_n0 g dX8_moves_0 ?_
        refine pb_iload_n1 g dX8_moves_1 ?_
        refine pb_Vi1 g qX8_123 dX8_moves_2 (k + 5) (by omega) mr_o (m_isShuffleT (k + 5) (by assumption) hS) (fun r2 h2 e2 => ?_)
        obtain ⟨rfl, rfl⟩ := e2
        first | refine pb_if_eqN g 16 dX8_moves_5 (by decide) (by omega) (fun c5 => ?_) (fun c5 => ?_) | refine pb_if_eq g 16 dX8_moves_5 (by decide) (fun c5 => ?_) (fun c5 => ?_)
        · exact absurd c5 (by decide)
        · refine pb_aload_n0 g dX8_moves_8 ?_
          refine pb_iload_n2 g dX8_moves_9 ?_
          refine pb_Vi1 g qX8_98 dX8_moves_10 (k + 5) (by omega) mr_o (m_isPlaceT (k + 5) (by assumption) hn) (fun r10 h10 e10 => ?_)
          obtain ⟨rfl, rfl⟩ := e10
          first | refine pb_if_neN g 19 dX8_moves_13 (by decide) (by omega) (fun c13 => ?_) (fun c13 => ?_) | refine pb_if_ne g 19 dX8_moves_13 (by decide) (fun c13 => ?_) (fun c13 => ?_)
          · refine pb_aload_n0 g dX8_moves_19 ?_
            refine pb_iload_n1 g dX8_moves_20 ?_
            refine pb_Vi1 g qX8_126 dX8_moves_21 (k + 5) (by omega) mr_o (m_hasMove (k + 5) (s := s0) (K := K s0) (by omega) (d2 s0 (by assumption)).1 (hK s0 (by assumption)).1) (fun r21 h21 e21 => ?_)
            obtain ⟨rfl, rfl⟩ := e21
            rw [if_pos (by assumption)]
            first | refine pb_if_eqN g 41 dX8_moves_24 (by decide) (by omega) (fun c24 => ?_) (fun c24 => ?_) | refine pb_if_eq g 41 dX8_moves_24 (by decide) (fun c24 => ?_) (fun c24 => ?_)
            · exact absurd c24 (by decide)
            · refine pb_aload_n0 g dX8_moves_27 ?_
              refine pb_getf g fX8_23 dX8_moves_28 mr_o rfl ?_
              refine pb_bipush (v := nI 10) g dX8_moves_31 (by decide) ?_
              refine pb_iload_n1 g dX8_moves_33 ?_
              first | refine pb_imulN g dX8_moves_34 ?_ | refine pb_imul g dX8_moves_34 ?_
              refine pb_iload_n2 g dX8_moves_35 ?_
              first | refine pb_iaddN g dX8_moves_36 ?_ | refine pb_iadd g dX8_moves_36 ?_
              first | refine pb_ialdN g dX8_moves_37 (by first | exact mr_m | exact mr_order | exact mr_kind | exact mr_heaps | exact mr_line | exact mr_other | exact mr_ways | exact mr_next | exact mr_chances | exact mr_after | exact mr_far | exact mr_groups | exact mr_found | exact mr_counts | exact mr_traySort | exact mr_traySize | exact mr_cells | exact mr_moved | exact mr_traced | assumption) (by omega) (by omega) ?_ | refine pb_ald0 g dX8_moves_37 (by omega) ?_ | refine pb_ald1 g dX8_moves_37 (by omega) ?_ | refine pb_ald2 g dX8_moves_37 (by omega) ?_ | refine pb_ald3 g dX8_moves_37 (by omega) ?_ | refine pb_iald g dX8_moves_37 (by first | exact mr_m | exact mr_order | exact mr_kind | exact mr_heaps | exact mr_line | exact mr_other | exact mr_ways | exact mr_next | exact mr_chances | exact mr_after | exact mr_far | exact mr_groups | exact mr_found | exact mr_counts | exact mr_traySort | exact mr_traySize | exact mr_cells | exact mr_moved | exact mr_traced | assumption) (by assumption) ?_
              rw [(d2 s0 hs0).2.2 h3 i0 hi0]
              refine pb_goto g 42 dX8_moves_38 (by decide) ?_
              refine pb_iret g z dX8_moves_42 ?_
              exact ⟨_, rfl, by rw [e], ⟨_, _, _, _, _, _, _, _, _, _, _, _, _, _, _, _, _, _, _, rfl, d1, d2, d3, d4, d5⟩⟩
          · exact absurd c13 (by decide)
      · have e : sMoves ((n, P, S, sd), (σ, μ, K, Hh), (ts, zz, it), (ra, tr)) (nI s0) (nI i0) = -1 := by simp only [sMoves, hs, hi, if_neg h3]
        refine pb_aload_n0 g dX8_moves_0 ?_
        refine pb_iload_n1 g dX8_moves_1 ?_
        refine pb_Vi1 g qX8_123 dX8_moves_2 (k + 5) (by omega) mr_o (m_isShuffleT (k + 5) (by assumption) hS) (fun r2 h2 e2 => ?_)
        obtain ⟨rfl, rfl⟩ := e2
        first | refine pb_if_eqN g 16 dX8_moves_5 (by decide) (by omega) (fun c5 => ?_) (fun c5 => ?_) | refine pb_if_eq g 16 dX8_moves_5 (by decide) (fun c5 => ?_) (fun c5 => ?_)
        · exact absurd c5 (by decide)
        · refine pb_aload_n0 g dX8_moves_8 ?_
          refine pb_iload_n2 g dX8_moves_9 ?_
          refine pb_Vi1 g qX8_98 dX8_moves_10 (k + 5) (by omega) mr_o (m_isPlaceT (k + 5) (by assumption) hn) (fun r10 h10 e10 => ?_)
          obtain ⟨rfl, rfl⟩ := e10
          first | refine pb_if_neN g 19 dX8_moves_13 (by decide) (by omega) (fun c13 => ?_) (fun c13 => ?_) | refine pb_if_ne g 19 dX8_moves_13 (by decide) (fun c13 => ?_) (fun c13 => ?_)
          · refine pb_aload_n0 g dX8_moves_19 ?_
            refine pb_iload_n1 g dX8_moves_20 ?_
            refine pb_Vi1 g qX8_126 dX8_moves_21 (k + 5) (by omega) mr_o (m_hasMove (k + 5) (s := s0) (K := K s0) (by omega) (d2 s0 (by assumption)).1 (hK s0 (by assumption)).1) (fun r21 h21 e21 => ?_)
            obtain ⟨rfl, rfl⟩ := e21
            rw [if_neg (by assumption)]
            first | refine pb_if_eqN g 41 dX8_moves_24 (by decide) (by omega) (fun c24 => ?_) (fun c24 => ?_) | refine pb_if_eq g 41 dX8_moves_24 (by decide) (fun c24 => ?_) (fun c24 => ?_)
            · refine pb_iconst (v := -1) g dX8_moves_41 (by decide) ?_
              refine pb_iret g z dX8_moves_42 ?_
              exact ⟨_, rfl, by rw [e], ⟨_, _, _, _, _, _, _, _, _, _, _, _, _, _, _, _, _, _, _, rfl, d1, d2, d3, d4, d5⟩⟩
            · exact absurd c24 (by decide)
          · exact absurd c13 (by decide)
set_option maxHeartbeats 4000000 in
set_option maxRecDepth 100000 in
theorem m_perfect (k : Nat) (q : SP) (w : Int32) (h : PH) (hD : IsM q h) (hI : SI q) : Runs yX8_perfect cX8_perfect 3 (some .int) (k + 6) [.ref 0, .int w] h (fun oo h' => ∃ r : Int32, oo = some (.int r) ∧ r = (sPerfect q w).1 ∧ IsM ((sPerfect q w).2) h') := by
  obtain ⟨⟨n, P, S, sd⟩, ⟨σ, μ, K, Hh⟩, ⟨ts, zz, it⟩, ⟨ra, tr⟩⟩ := q
  obtain ⟨⟨hn1, hn, hP, hS⟩, hσ, hK, hz, hra⟩ := hI
  obtain ⟨xod, xkn, xhs, xmm, xln, xot, xfa, xgr, xtsr, xtsz, xce, xmv, xtc, xwy, xnx, xch, xaf, xfo, xco, rfl, d1, d2, d3, d4, d5⟩ := hD
  refine Runs.of (by decide) (Nat.le_of_ble_eq_true rfl) [some (.ref 0), some (.int w), none] 1 rfl (fun Γ g z => ?_)
  cases hw : ix w 2 with
  | none =>
    have e : sPerfect ((n, P, S, sd), (σ, μ, K, Hh), (ts, zz, it), (ra, tr)) w = (-2, ((n, P, S, sd), (σ, μ, K, Hh), (ts, zz, it), (ra, tr))) := by simp only [sPerfect, hw]
    have hwn := ix_none (by decide) hw
    refine pb_iload_n1 g dX8_perfect_0 ?_
    first | refine pb_if_eqN g 12 dX8_perfect_1 (by decide) (by omega) (fun c1 => ?_) (fun c1 => ?_) | refine pb_if_eq g 12 dX8_perfect_1 (by decide) (fun c1 => ?_) (fun c1 => ?_)
    · exact absurd ⟨0, by decide, c1⟩ hwn
    · refine pb_iload_n1 g dX8_perfect_4 ?_
      refine pb_iconst (v := nI 1) g dX8_perfect_5 (by decide) ?_
      first | refine pb_icmp_eqN g 12 dX8_perfect_6 (by decide) (by omega) (by omega) (fun c6 => ?_) (fun c6 => ?_) | refine pb_icmp_eq g 12 dX8_perfect_6 (by decide) (fun c6 => ?_) (fun c6 => ?_)
      · exact absurd ⟨1, by decide, c6⟩ hwn
      · refine pb_bipush (v := -2) g dX8_perfect_9 (by decide) ?_
        refine pb_iret g z dX8_perfect_11 ?_
        exact ⟨_, rfl, by rw [e], by rw [e]; exact ⟨_, _, _, _, _, _, _, _, _, _, _, _, _, _, _, _, _, _, _, rfl, d1, d2, d3, d4, d5⟩⟩
  | some w0 =>
    obtain ⟨hw0, rfl⟩ := ix_some (by decide) hw
    have hbody : PB Γ 12 [some (.ref 0), some (.int (nI w0)), none] [] (mkH 20 (mdF (nI n) (nI P) (nI S) (sd) xod xkn xhs xmm xln xot xwy xnx xch xaf xfa xgr xfo xco xtsr xtsz xce xmv xtc (nI ra))) := by
      by_cases hodd : n % 2 = 1
      · have e : sPerfect ((n, P, S, sd), (σ, μ, K, Hh), (ts, zz, it), (ra, tr)) (nI w0) = (-3, ((n, P, S, sd), (σ, μ, K, Hh), (ts, zz, it), (ra, tr))) := by simp only [sPerfect, hw, if_pos hodd]
        refine pb_aload_n0 g dX8_perfect_12 ?_
        refine pb_getf g fX8_7 dX8_perfect_13 mr_o rfl ?_
        refine pb_iconst (v := nI 2) g dX8_perfect_16 (by decide) ?_
        first | refine pb_iremN g dX8_perfect_17 (by omega) (by omega) (by omega) ?_ | refine pb_irem g dX8_perfect_17 (by assumption) ?_
        refine pb_iconst (v := nI 1) g dX8_perfect_18 (by decide) ?_
        first | refine pb_icmp_neN g 25 dX8_perfect_19 (by decide) (by omega) (by omega) (fun c19 => ?_) (fun c19 => ?_) | refine pb_icmp_ne g 25 dX8_perfect_19 (by decide) (fun c19 => ?_) (fun c19 => ?_)
        · exact absurd hodd c19
        · refine pb_bipush (v := -3) g dX8_perfect_22 (by decide) ?_
          refine pb_iret g z dX8_perfect_24 ?_
          exact ⟨_, rfl, by rw [e], by rw [e]; exact ⟨_, _, _, _, _, _, _, _, _, _, _, _, _, _, _, _, _, _, _, rfl, d1, d2, d3, d4, d5⟩⟩
      · have heven : n % 2 = 0 := by omega
        by_cases h10 : S = 10
        · have e : sPerfect ((n, P, S, sd), (σ, μ, K, Hh), (ts, zz, it), (ra, tr)) (nI w0) = (-4, ((n, P, S, sd), (σ, μ, K, Hh), (ts, zz, it), (ra, tr))) := by simp only [sPerfect, hw, if_neg hodd, sMk, if_pos h10]
          refine pb_aload_n0 g dX8_perfect_12 ?_
          refine pb_getf g fX8_7 dX8_perfect_13 mr_o rfl ?_
          refine pb_iconst (v := nI 2) g dX8_perfect_16 (by decide) ?_
          first | refine pb_iremN g dX8_perfect_17 (by omega) (by omega) (by omega) ?_ | refine pb_irem g dX8_perfect_17 (by assumption) ?_
          refine pb_iconst (v := nI 1) g dX8_perfect_18 (by decide) ?_
          first | refine pb_icmp_neN g 25 dX8_perfect_19 (by decide) (by omega) (by omega) (fun c19 => ?_) (fun c19 => ?_) | refine pb_icmp_ne g 25 dX8_perfect_19 (by decide) (fun c19 => ?_) (fun c19 => ?_)
          · refine pb_aload_n0 g dX8_perfect_25 ?_
            refine pb_getf g fX8_75 dX8_perfect_26 mr_o rfl ?_
            refine pb_bipush (v := nI 10) g dX8_perfect_29 (by decide) ?_
            first | refine pb_icmp_neN g 37 dX8_perfect_31 (by decide) (by omega) (by omega) (fun c31 => ?_) (fun c31 => ?_) | refine pb_icmp_ne g 37 dX8_perfect_31 (by decide) (fun c31 => ?_) (fun c31 => ?_)
            · exact absurd h10 c31
            · refine pb_bipush (v := -4) g dX8_perfect_34 (by decide) ?_
              refine pb_iret g z dX8_perfect_36 ?_
              exact ⟨_, rfl, by rw [e], by rw [e]; exact ⟨_, _, _, _, _, _, _, _, _, _, _, _, _, _, _, _, _, _, _, rfl, d1, d2, d3, d4, d5⟩⟩
          · exact absurd c19 hodd
        · have e : sPerfect ((n, P, S, sd), (σ, μ, K, Hh), (ts, zz, it), (ra, tr)) (nI w0) = (nI S, ((n, P, S + 1, sd), (σ, va_up μ S (bkN (fun i => carF n i w0) n), va_up K S 1, va_up Hh S 2), (ts, zz, it), (ra, tr))) := by simp only [sPerfect, hw, if_neg hodd, sMk, if_neg h10]
          have hpm := carF_pm (n := n) heven hw0
          have loop : ∀ i, i ≤ n → PB Γ 39 [some (.ref 0), some (.int (nI w0)), some (.int (nI i))] [] (mkH 20 (mdF (nI n) (nI P) (nI S) (sd) xod xkn xhs xmm (bkF (fun i => carF n i w0) xln i) xot xwy xnx xch xaf xfa xgr xfo xco xtsr xtsz xce xmv xtc (nI ra))) := by
            refine pb_loop n (fun i hi ih => ?_)
            by_cases hin : i < n
            · have ih := ih hin
              have hcl : carF n i w0 < n := hpm.1 i hin
              refine pb_iload_n2 g dX8_perfect_39 ?_
              refine pb_aload_n0 g dX8_perfect_40 ?_
              refine pb_getf g fX8_7 dX8_perfect_41 mr_o rfl ?_
              first | refine pb_icmp_geN g 65 dX8_perfect_44 (by decide) (by omega) (by omega) (fun c44 => ?_) (fun c44 => ?_) | refine pb_icmp_ge g 65 dX8_perfect_44 (by decide) (fun c44 => ?_) (fun c44 => ?_)
              · exact absurd c44 (by omega)
              · refine pb_aload_n0 g dX8_perfect_47 ?_
                refine pb_getf g fX8_26 dX8_perfect_48 mr_o rfl ?_
                refine pb_aload_n0 g dX8_perfect_51 ?_
                refine pb_iload_n1 g dX8_perfect_52 ?_
                refine pb_iload_n2 g dX8_perfect_53 ?_
                refine pb_Vi2 g qX8_120 dX8_perfect_54 (k + 5) (by omega) mr_o (m_goes (k + 5) (n := n) (i := i) (w := w0) hin hw0 hn) (fun r54 h54 e54 => ?_)
                obtain ⟨rfl, rfl⟩ := e54
                refine pb_iload_n2 g dX8_perfect_57 ?_
                first | refine pb_iastN g dX8_perfect_58 (by first | exact mr_line | exact mr_order | exact mr_kind | exact mr_heaps | exact mr_m | exact mr_other | exact mr_ways | exact mr_next | exact mr_chances | exact mr_after | exact mr_far | exact mr_groups | exact mr_found | exact mr_counts | exact mr_traySort | exact mr_traySize | exact mr_cells | exact mr_moved | exact mr_traced | assumption) (by omega) (by omega) ?_ | refine pb_iast g dX8_perfect_58 (by first | exact mr_line | exact mr_order | exact mr_kind | exact mr_heaps | exact mr_m | exact mr_other | exact mr_ways | exact mr_next | exact mr_chances | exact mr_after | exact mr_far | exact mr_groups | exact mr_found | exact mr_counts | exact mr_traySort | exact mr_traySize | exact mr_cells | exact mr_moved | exact mr_traced | assumption) (by assumption) ?_
                first | rw [ms_line]
                first | refine pb_iinc2N g dX8_perfect_59 (by decide) ?_ | refine pb_iinc2 g dX8_perfect_59 (by decide) rfl ?_
                refine pb_goto g 39 dX8_perfect_62 (by decide) ?_
                exact ih
            · obtain rfl : i = n := by omega
              refine pb_iload_n2 g dX8_perfect_39 ?_
              refine pb_aload_n0 g dX8_perfect_40 ?_
              refine pb_getf g fX8_7 dX8_perfect_41 mr_o rfl ?_
              first | refine pb_icmp_geN g 65 dX8_perfect_44 (by decide) (by omega) (by omega) (fun c44 => ?_) (fun c44 => ?_) | refine pb_icmp_ge g 65 dX8_perfect_44 (by decide) (fun c44 => ?_) (fun c44 => ?_)
              · refine pb_aload_n0 g dX8_perfect_65 ?_
                refine pb_iconst (v := nI 1) g dX8_perfect_66 (by decide) ?_
                refine pb_iconst (v := nI 2) g dX8_perfect_67 (by decide) ?_
                refine pb_Vi2 g qX8_116 dX8_perfect_68 (k + 5) (by omega) mr_o (m_makes (k + 5) (n := i) (S := S) (a := 1) (b := 2) hn (by omega)) (fun r68 h68 e68 => ?_)
                obtain ⟨rfl, rfl⟩ := e68
                refine pb_iret g z dX8_perfect_71 ?_
                exact ⟨_, rfl, by rw [e], by rw [e]; exact ⟨_, _, _, _, _, _, _, _, _, _, _, _, _, _, _, _, _, _, _, rfl, d1, m2_up hn d2 (fun _ j hj => (bk_pm hpm _ j hj).1), d3, d4, d5⟩⟩
              · exact absurd c44 (by omega)
          refine pb_aload_n0 g dX8_perfect_12 ?_
          refine pb_getf g fX8_7 dX8_perfect_13 mr_o rfl ?_
          refine pb_iconst (v := nI 2) g dX8_perfect_16 (by decide) ?_
          first | refine pb_iremN g dX8_perfect_17 (by omega) (by omega) (by omega) ?_ | refine pb_irem g dX8_perfect_17 (by assumption) ?_
          refine pb_iconst (v := nI 1) g dX8_perfect_18 (by decide) ?_
          first | refine pb_icmp_neN g 25 dX8_perfect_19 (by decide) (by omega) (by omega) (fun c19 => ?_) (fun c19 => ?_) | refine pb_icmp_ne g 25 dX8_perfect_19 (by decide) (fun c19 => ?_) (fun c19 => ?_)
          · refine pb_aload_n0 g dX8_perfect_25 ?_
            refine pb_getf g fX8_75 dX8_perfect_26 mr_o rfl ?_
            refine pb_bipush (v := nI 10) g dX8_perfect_29 (by decide) ?_
            first | refine pb_icmp_neN g 37 dX8_perfect_31 (by decide) (by omega) (by omega) (fun c31 => ?_) (fun c31 => ?_) | refine pb_icmp_ne g 37 dX8_perfect_31 (by decide) (fun c31 => ?_) (fun c31 => ?_)
            · refine pb_iconst (v := nI 0) g dX8_perfect_37 (by decide) ?_
              refine pb_istore_n2 g dX8_perfect_38 (by decide) ?_
              exact loop 0 (Nat.zero_le _)
            · exact absurd c31 h10
          · exact absurd c19 hodd
    refine pb_iload_n1 g dX8_perfect_0 ?_
    first | refine pb_if_eqN g 12 dX8_perfect_1 (by decide) (by omega) (fun c1 => ?_) (fun c1 => ?_) | refine pb_if_eq g 12 dX8_perfect_1 (by decide) (fun c1 => ?_) (fun c1 => ?_)
    · exact hbody
    · refine pb_iload_n1 g dX8_perfect_4 ?_
      refine pb_iconst (v := nI 1) g dX8_perfect_5 (by decide) ?_
      first | refine pb_icmp_eqN g 12 dX8_perfect_6 (by decide) (by omega) (by omega) (fun c6 => ?_) (fun c6 => ?_) | refine pb_icmp_eq g 12 dX8_perfect_6 (by decide) (fun c6 => ?_) (fun c6 => ?_)
      · exact hbody
      · exact absurd c6 (by omega)
set_option maxHeartbeats 4000000 in
set_option maxRecDepth 100000 in
theorem m_does (k : Nat) (q : SP) (s p : Int32) (h : PH) (hD : IsM q h) (hI : SI q) : Runs yX8_does cX8_does 4 (some .int) (k + 6) [.ref 0, .int s, .int p] h (fun oo h' => ∃ r : Int32, oo = some (.int r) ∧ r = (sDoes q s p).1 ∧ IsM ((sDoes q s p).2) h') := by
  obtain ⟨⟨n, P, S, sd⟩, ⟨σ, μ, K, Hh⟩, ⟨ts, zz, it⟩, ⟨ra, tr⟩⟩ := q
  obtain ⟨⟨hn1, hn, hP, hS⟩, hσ, hK, hz, hra⟩ := hI
  obtain ⟨xod, xkn, xhs, xmm, xln, xot, xfa, xgr, xtsr, xtsz, xce, xmv, xtc, xwy, xnx, xch, xaf, xfo, xco, rfl, d1, d2, d3, d4, d5⟩ := hD
  refine Runs.of (by decide) (Nat.le_of_ble_eq_true rfl) [some (.ref 0), some (.int s), some (.int p), none] 1 rfl (fun Γ g z => ?_)
  cases hs : ix s S with
  | none =>
    have e : sDoes ((n, P, S, sd), (σ, μ, K, Hh), (ts, zz, it), (ra, tr)) s p = (-2, ((n, P, S, sd), (σ, μ, K, Hh), (ts, zz, it), (ra, tr))) := by simp only [sDoes, hs]
    have hsn := ix_none (by omega) hs
    refine pb_aload_n0 g dX8_does_0 ?_
    refine pb_iload_n1 g dX8_does_1 ?_
    refine pb_Vi1 g qX8_123 dX8_does_2 (k + 5) (by omega) mr_o (m_isShuffleF (k + 5) (by assumption) hS) (fun r2 h2 e2 => ?_)
    obtain ⟨rfl, rfl⟩ := e2
    first | refine pb_if_eqN g 16 dX8_does_5 (by decide) (by omega) (fun c5 => ?_) (fun c5 => ?_) | refine pb_if_eq g 16 dX8_does_5 (by decide) (fun c5 => ?_) (fun c5 => ?_)
    · refine pb_bipush (v := -2) g dX8_does_16 (by decide) ?_
      refine pb_iret g z dX8_does_18 ?_
      exact ⟨_, rfl, by rw [e], by rw [e]; exact ⟨_, _, _, _, _, _, _, _, _, _, _, _, _, _, _, _, _, _, _, rfl, d1, d2, d3, d4, d5⟩⟩
    · exact absurd c5 (by decide)
  | some s0 =>
    obtain ⟨hs0, rfl⟩ := ix_some (by omega) hs
    cases hpx : ix p P with
    | none =>
      have e : sDoes ((n, P, S, sd), (σ, μ, K, Hh), (ts, zz, it), (ra, tr)) (nI s0) p = (-2, ((n, P, S, sd), (σ, μ, K, Hh), (ts, zz, it), (ra, tr))) := by simp only [sDoes, hs, hpx]
      have hpn := ix_none (by omega) hpx
      refine pb_aload_n0 g dX8_does_0 ?_
      refine pb_iload_n1 g dX8_does_1 ?_
      refine pb_Vi1 g qX8_123 dX8_does_2 (k + 5) (by omega) mr_o (m_isShuffleT (k + 5) (by assumption) hS) (fun r2 h2 e2 => ?_)
      obtain ⟨rfl, rfl⟩ := e2
      first | refine pb_if_eqN g 16 dX8_does_5 (by decide) (by omega) (fun c5 => ?_) (fun c5 => ?_) | refine pb_if_eq g 16 dX8_does_5 (by decide) (fun c5 => ?_) (fun c5 => ?_)
      · exact absurd c5 (by decide)
      · refine pb_aload_n0 g dX8_does_8 ?_
        refine pb_iload_n2 g dX8_does_9 ?_
        refine pb_Vi1 g qX8_101 dX8_does_10 (k + 5) (by omega) mr_o (m_isPackF (k + 5) (by assumption) hP) (fun r10 h10 e10 => ?_)
        obtain ⟨rfl, rfl⟩ := e10
        first | refine pb_if_neN g 19 dX8_does_13 (by decide) (by omega) (fun c13 => ?_) (fun c13 => ?_) | refine pb_if_ne g 19 dX8_does_13 (by decide) (fun c13 => ?_) (fun c13 => ?_)
        · exact absurd c13 (by decide)
        · refine pb_bipush (v := -2) g dX8_does_16 (by decide) ?_
          refine pb_iret g z dX8_does_18 ?_
          exact ⟨_, rfl, by rw [e], by rw [e]; exact ⟨_, _, _, _, _, _, _, _, _, _, _, _, _, _, _, _, _, _, _, rfl, d1, d2, d3, d4, d5⟩⟩
    | some p0 =>
      obtain ⟨hp0, rfl⟩ := ix_some (by omega) hpx
      by_cases h3 : K s0 < 3
      · have e : sDoes ((n, P, S, sd), (σ, μ, K, Hh), (ts, zz, it), (ra, tr)) (nI s0) (nI p0) = (1, ((n, P, S, sd), (va_up σ p0 (fun i => σ p0 (μ s0 i)), μ, K, Hh), (ts, zz, it), (ra, tr))) := by simp only [sDoes, hs, hpx, if_pos h3]
        have hms := ((hK s0 hs0).2.2.2.2 h3).1
        have loop : ∀ i, i ≤ n → PB Γ 32 [some (.ref 0), some (.int (nI s0)), some (.int (nI p0)), some (.int (nI i))] [] (mkH 20 (mdF (nI n) (nI P) (nI S) (sd) xod xkn xhs xmm (wrF xln (fun i => nI (σ p0 (μ s0 i))) i) xot xwy xnx xch xaf xfa xgr xfo xco xtsr xtsz xce xmv xtc (nI ra))) := by
          refine pb_loop n (fun i hi ih => ?_)
          by_cases hin : i < n
          · have ih := ih hin
            have hmi := hms i hin
            refine pb_iload_n3 g dX8_does_32 ?_
            refine pb_aload_n0 g dX8_does_33 ?_
            refine pb_getf g fX8_7 dX8_does_34 mr_o rfl ?_
            first | refine pb_icmp_geN g 73 dX8_does_37 (by decide) (by omega) (by omega) (fun c37 => ?_) (fun c37 => ?_) | refine pb_icmp_ge g 73 dX8_does_37 (by decide) (fun c37 => ?_) (fun c37 => ?_)
            · exact absurd c37 (by omega)
            · refine pb_aload_n0 g dX8_does_40 ?_
              refine pb_getf g fX8_26 dX8_does_41 mr_o rfl ?_
              refine pb_iload_n3 g dX8_does_44 ?_
              refine pb_aload_n0 g dX8_does_45 ?_
              refine pb_getf g fX8_13 dX8_does_46 mr_o rfl ?_
              refine pb_bipush (v := nI 10) g dX8_does_49 (by decide) ?_
              refine pb_iload_n2 g dX8_does_51 ?_
              first | refine pb_imulN g dX8_does_52 ?_ | refine pb_imul g dX8_does_52 ?_
              refine pb_aload_n0 g dX8_does_53 ?_
              refine pb_getf g fX8_23 dX8_does_54 mr_o rfl ?_
              refine pb_bipush (v := nI 10) g dX8_does_57 (by decide) ?_
              refine pb_iload_n1 g dX8_does_59 ?_
              first | refine pb_imulN g dX8_does_60 ?_ | refine pb_imul g dX8_does_60 ?_
              refine pb_iload_n3 g dX8_does_61 ?_
              first | refine pb_iaddN g dX8_does_62 ?_ | refine pb_iadd g dX8_does_62 ?_
              first | refine pb_ialdN g dX8_does_63 (by first | exact mr_m | exact mr_order | exact mr_line | exact mr_kind | exact mr_heaps | exact mr_other | exact mr_ways | exact mr_next | exact mr_chances | exact mr_after | exact mr_far | exact mr_groups | exact mr_found | exact mr_counts | exact mr_traySort | exact mr_traySize | exact mr_cells | exact mr_moved | exact mr_traced | assumption) (by omega) (by omega) ?_ | refine pb_ald0 g dX8_does_63 (by omega) ?_ | refine pb_ald1 g dX8_does_63 (by omega) ?_ | refine pb_ald2 g dX8_does_63 (by omega) ?_ | refine pb_ald3 g dX8_does_63 (by omega) ?_ | refine pb_iald g dX8_does_63 (by first | exact mr_m | exact mr_order | exact mr_line | exact mr_kind | exact mr_heaps | exact mr_other | exact mr_ways | exact mr_next | exact mr_chances | exact mr_after | exact mr_far | exact mr_groups | exact mr_found | exact mr_counts | exact mr_traySort | exact mr_traySize | exact mr_cells | exact mr_moved | exact mr_traced | assumption) (by assumption) ?_
              rw [(d2 s0 hs0).2.2 h3 i hin]
              first | refine pb_iaddN g dX8_does_64 ?_ | refine pb_iadd g dX8_does_64 ?_
              first | refine pb_ialdN g dX8_does_65 (by first | exact mr_m | exact mr_order | exact mr_line | exact mr_kind | exact mr_heaps | exact mr_other | exact mr_ways | exact mr_next | exact mr_chances | exact mr_after | exact mr_far | exact mr_groups | exact mr_found | exact mr_counts | exact mr_traySort | exact mr_traySize | exact mr_cells | exact mr_moved | exact mr_traced | assumption) (by omega) (by omega) ?_ | refine pb_ald0 g dX8_does_65 (by omega) ?_ | refine pb_ald1 g dX8_does_65 (by omega) ?_ | refine pb_ald2 g dX8_does_65 (by omega) ?_ | refine pb_ald3 g dX8_does_65 (by omega) ?_ | refine pb_iald g dX8_does_65 (by first | exact mr_m | exact mr_order | exact mr_line | exact mr_kind | exact mr_heaps | exact mr_other | exact mr_ways | exact mr_next | exact mr_chances | exact mr_after | exact mr_far | exact mr_groups | exact mr_found | exact mr_counts | exact mr_traySort | exact mr_traySize | exact mr_cells | exact mr_moved | exact mr_traced | assumption) (by assumption) ?_
              rw [d1 p0 hp0 (μ s0 i) hmi]
              first | refine pb_iastN g dX8_does_66 (by first | exact mr_m | exact mr_order | exact mr_line | exact mr_kind | exact mr_heaps | exact mr_other | exact mr_ways | exact mr_next | exact mr_chances | exact mr_after | exact mr_far | exact mr_groups | exact mr_found | exact mr_counts | exact mr_traySort | exact mr_traySize | exact mr_cells | exact mr_moved | exact mr_traced | assumption) (by omega) (by omega) ?_ | refine pb_iast g dX8_does_66 (by first | exact mr_m | exact mr_order | exact mr_line | exact mr_kind | exact mr_heaps | exact mr_other | exact mr_ways | exact mr_next | exact mr_chances | exact mr_after | exact mr_far | exact mr_groups | exact mr_found | exact mr_counts | exact mr_traySort | exact mr_traySize | exact mr_cells | exact mr_moved | exact mr_traced | assumption) (by assumption) ?_
              first | rw [ms_m] | rw [ms_order] | rw [ms_line]
              first | refine pb_iinc3N g dX8_does_67 (by decide) ?_ | refine pb_iinc3 g dX8_does_67 (by decide) rfl ?_
              refine pb_goto g 32 dX8_does_70 (by decide) ?_
              exact ih
          · obtain rfl : i = n := by omega
            refine pb_iload_n3 g dX8_does_32 ?_
            refine pb_aload_n0 g dX8_does_33 ?_
            refine pb_getf g fX8_7 dX8_does_34 mr_o rfl ?_
            first | refine pb_icmp_geN g 73 dX8_does_37 (by decide) (by omega) (by omega) (fun c37 => ?_) (fun c37 => ?_) | refine pb_icmp_ge g 73 dX8_does_37 (by decide) (fun c37 => ?_) (fun c37 => ?_)
            · refine pb_aload_n0 g dX8_does_73 ?_
              refine pb_iload_n2 g dX8_does_74 ?_
              refine pb_Vv1 g qX8_138 dX8_does_75 (k + 5) (by omega) mr_o (m_puts (k + 5) (n := i) (p := p0) hn (by omega)) (fun h75 e75 => ?_)
              subst e75
              refine pb_iconst (v := nI 1) g dX8_does_78 (by decide) ?_
              refine pb_iret g z dX8_does_79 ?_
              exact ⟨_, rfl, by rw [e]; rfl, by rw [e]; exact ⟨_, _, _, _, _, _, _, _, _, _, _, _, _, _, _, _, _, _, _, rfl, m1_up hn d1 (fun j hj => wr_at _ _ i j hj) (fun p h1 _ => h1), d2, d3, d4, d5⟩⟩
            · exact absurd c37 (by omega)
        refine pb_aload_n0 g dX8_does_0 ?_
        refine pb_iload_n1 g dX8_does_1 ?_
        refine pb_Vi1 g qX8_123 dX8_does_2 (k + 5) (by omega) mr_o (m_isShuffleT (k + 5) (by assumption) hS) (fun r2 h2 e2 => ?_)
        obtain ⟨rfl, rfl⟩ := e2
        first | refine pb_if_eqN g 16 dX8_does_5 (by decide) (by omega) (fun c5 => ?_) (fun c5 => ?_) | refine pb_if_eq g 16 dX8_does_5 (by decide) (fun c5 => ?_) (fun c5 => ?_)
        · exact absurd c5 (by decide)
        · refine pb_aload_n0 g dX8_does_8 ?_
          refine pb_iload_n2 g dX8_does_9 ?_
          refine pb_Vi1 g qX8_101 dX8_does_10 (k + 5) (by omega) mr_o (m_isPackT (k + 5) (by assumption) hP) (fun r10 h10 e10 => ?_)
          obtain ⟨rfl, rfl⟩ := e10
          first | refine pb_if_neN g 19 dX8_does_13 (by decide) (by omega) (fun c13 => ?_) (fun c13 => ?_) | refine pb_if_ne g 19 dX8_does_13 (by decide) (fun c13 => ?_) (fun c13 => ?_)
          · refine pb_aload_n0 g dX8_does_19 ?_
            refine pb_iload_n1 g dX8_does_20 ?_
            refine pb_Vi1 g qX8_126 dX8_does_21 (k + 5) (by omega) mr_o (m_hasMove (k + 5) (s := s0) (K := K s0) (by omega) (d2 s0 (by assumption)).1 (hK s0 (by assumption)).1) (fun r21 h21 e21 => ?_)
            obtain ⟨rfl, rfl⟩ := e21
            rw [if_pos (by assumption)]
            first | refine pb_if_neN g 30 dX8_does_24 (by decide) (by omega) (fun c24 => ?_) (fun c24 => ?_) | refine pb_if_ne g 30 dX8_does_24 (by decide) (fun c24 => ?_) (fun c24 => ?_)
            · refine pb_iconst (v := nI 0) g dX8_does_30 (by decide) ?_
              refine pb_istore_n3 g dX8_does_31 (by decide) ?_
              exact loop 0 (Nat.zero_le _)
            · exact absurd c24 (by decide)
          · exact absurd c13 (by decide)
      · have e : sDoes ((n, P, S, sd), (σ, μ, K, Hh), (ts, zz, it), (ra, tr)) (nI s0) (nI p0) = (-3, ((n, P, S, sd), (σ, μ, K, Hh), (ts, zz, it), (ra, tr))) := by simp only [sDoes, hs, hpx, if_neg h3]
        refine pb_aload_n0 g dX8_does_0 ?_
        refine pb_iload_n1 g dX8_does_1 ?_
        refine pb_Vi1 g qX8_123 dX8_does_2 (k + 5) (by omega) mr_o (m_isShuffleT (k + 5) (by assumption) hS) (fun r2 h2 e2 => ?_)
        obtain ⟨rfl, rfl⟩ := e2
        first | refine pb_if_eqN g 16 dX8_does_5 (by decide) (by omega) (fun c5 => ?_) (fun c5 => ?_) | refine pb_if_eq g 16 dX8_does_5 (by decide) (fun c5 => ?_) (fun c5 => ?_)
        · exact absurd c5 (by decide)
        · refine pb_aload_n0 g dX8_does_8 ?_
          refine pb_iload_n2 g dX8_does_9 ?_
          refine pb_Vi1 g qX8_101 dX8_does_10 (k + 5) (by omega) mr_o (m_isPackT (k + 5) (by assumption) hP) (fun r10 h10 e10 => ?_)
          obtain ⟨rfl, rfl⟩ := e10
          first | refine pb_if_neN g 19 dX8_does_13 (by decide) (by omega) (fun c13 => ?_) (fun c13 => ?_) | refine pb_if_ne g 19 dX8_does_13 (by decide) (fun c13 => ?_) (fun c13 => ?_)
          · refine pb_aload_n0 g dX8_does_19 ?_
            refine pb_iload_n1 g dX8_does_20 ?_
            refine pb_Vi1 g qX8_126 dX8_does_21 (k + 5) (by omega) mr_o (m_hasMove (k + 5) (s := s0) (K := K s0) (by omega) (d2 s0 (by assumption)).1 (hK s0 (by assumption)).1) (fun r21 h21 e21 => ?_)
            obtain ⟨rfl, rfl⟩ := e21
            rw [if_neg (by assumption)]
            first | refine pb_if_neN g 30 dX8_does_24 (by decide) (by omega) (fun c24 => ?_) (fun c24 => ?_) | refine pb_if_ne g 30 dX8_does_24 (by decide) (fun c24 => ?_) (fun c24 => ?_)
            · exact absurd c24 (by decide)
            · refine pb_bipush (v := -3) g dX8_does_27 (by decide) ?_
              refine pb_iret g z dX8_does_29 ?_
              exact ⟨_, rfl, by rw [e], by rw [e]; exact ⟨_, _, _, _, _, _, _, _, _, _, _, _, _, _, _, _, _, _, _, rfl, d1, d2, d3, d4, d5⟩⟩
          · exact absurd c13 (by decide)
set_option maxHeartbeats 4000000 in
set_option maxRecDepth 100000 in
theorem m_taken (k : Nat) (q : SP) (s x : Int32) (h : PH) (hD : IsM q h) (hI : SI q) : Runs yX8_taken cX8_taken 4 (some .int) (k + 6) [.ref 0, .int s, .int x] h (fun oo h' => ∃ r : Int32, oo = some (.int r) ∧ r = sTaken q s x ∧ IsM (q) h') := by
  obtain ⟨⟨n, P, S, sd⟩, ⟨σ, μ, K, Hh⟩, ⟨ts, zz, it⟩, ⟨ra, tr⟩⟩ := q
  obtain ⟨⟨hn1, hn, hP, hS⟩, hσ, hK, hz, hra⟩ := hI
  obtain ⟨xod, xkn, xhs, xmm, xln, xot, xfa, xgr, xtsr, xtsz, xce, xmv, xtc, xwy, xnx, xch, xaf, xfo, xco, rfl, d1, d2, d3, d4, d5⟩ := hD
  refine Runs.of (by decide) (Nat.le_of_ble_eq_true rfl) [some (.ref 0), some (.int s), some (.int x), none] 1 rfl (fun Γ g z => ?_)
  cases hx : ix x 5 with
  | none =>
    have e : sTaken ((n, P, S, sd), (σ, μ, K, Hh), (ts, zz, it), (ra, tr)) s x = -2 := by simp only [sTaken, hx]
    have hn2 := inN_not (by decide) (ix_none (by decide) hx)
    refine pb_iload_n2 g dX8_taken_0 ?_
    refine pb_if_lt g 9 dX8_taken_1 (by decide) (fun c1 => ?_) (fun c1 => ?_)
    · refine pb_bipush (v := -2) g dX8_taken_9 (by decide) ?_
      refine pb_iret g z dX8_taken_11 ?_
      exact ⟨_, rfl, by rw [e], ⟨_, _, _, _, _, _, _, _, _, _, _, _, _, _, _, _, _, _, _, rfl, d1, d2, d3, d4, d5⟩⟩
    · refine pb_iload_n2 g dX8_taken_4 ?_
      refine pb_iconst (v := nI 4) g dX8_taken_5 (by decide) ?_
      first | refine pb_icmp_leN g 12 dX8_taken_6 (by decide) (by omega) (by omega) (fun c6 => ?_) (fun c6 => ?_) | refine pb_icmp_le g 12 dX8_taken_6 (by decide) (fun c6 => ?_) (fun c6 => ?_)
      · exact absurd hn2 (fun q => q.elim c1 (fun w => absurd (Int32.le_trans w c6) (by decide)))
      · refine pb_bipush (v := -2) g dX8_taken_9 (by decide) ?_
        refine pb_iret g z dX8_taken_11 ?_
        exact ⟨_, rfl, by rw [e], ⟨_, _, _, _, _, _, _, _, _, _, _, _, _, _, _, _, _, _, _, rfl, d1, d2, d3, d4, d5⟩⟩
  | some u =>
    obtain ⟨hu, rfl⟩ := ix_some (by decide) hx
    cases hs : ix s S with
    | none =>
      have e : sTaken ((n, P, S, sd), (σ, μ, K, Hh), (ts, zz, it), (ra, tr)) s (nI u) = -11 := by simp only [sTaken, hx, hs]
      have hsn := ix_none (by omega) hs
      refine pb_iload_n2 g dX8_taken_0 ?_
      refine pb_if_ltN g 9 dX8_taken_1 (by decide) (by omega) ?_
      refine pb_iload_n2 g dX8_taken_4 ?_
      refine pb_iconst (v := nI 4) g dX8_taken_5 (by decide) ?_
      first | refine pb_icmp_leN g 12 dX8_taken_6 (by decide) (by omega) (by omega) (fun c6 => ?_) (fun c6 => ?_) | refine pb_icmp_le g 12 dX8_taken_6 (by decide) (fun c6 => ?_) (fun c6 => ?_)
      · refine pb_aload_n0 g dX8_taken_12 ?_
        refine pb_iload_n1 g dX8_taken_13 ?_
        refine pb_Vi1 g qX8_123 dX8_taken_14 (k + 5) (by omega) mr_o (m_isShuffleF (k + 5) (by assumption) hS) (fun r14 h14 e14 => ?_)
        obtain ⟨rfl, rfl⟩ := e14
        first | refine pb_if_neN g 23 dX8_taken_17 (by decide) (by omega) (fun c17 => ?_) (fun c17 => ?_) | refine pb_if_ne g 23 dX8_taken_17 (by decide) (fun c17 => ?_) (fun c17 => ?_)
        · exact absurd c17 (by decide)
        · refine pb_bipush (v := -11) g dX8_taken_20 (by decide) ?_
          refine pb_iret g z dX8_taken_22 ?_
          exact ⟨_, rfl, by rw [e], ⟨_, _, _, _, _, _, _, _, _, _, _, _, _, _, _, _, _, _, _, rfl, d1, d2, d3, d4, d5⟩⟩
      · exact absurd c6 (by omega)
    | some s0 =>
      obtain ⟨hs0, rfl⟩ := ix_some (by omega) hs
      have hk1 := (hK s0 hs0).1
      by_cases hq : u = 0 ∨ K s0 = u ∨ (1 < u ∧ u < K s0)
      · have e : sTaken ((n, P, S, sd), (σ, μ, K, Hh), (ts, zz, it), (ra, tr)) (nI s0) (nI u) = nI (Hh s0) := by simp only [sTaken, hx, hs, if_pos hq]
        refine pb_iload_n2 g dX8_taken_0 ?_
        refine pb_if_ltN g 9 dX8_taken_1 (by decide) (by omega) ?_
        refine pb_iload_n2 g dX8_taken_4 ?_
        refine pb_iconst (v := nI 4) g dX8_taken_5 (by decide) ?_
        first | refine pb_icmp_leN g 12 dX8_taken_6 (by decide) (by omega) (by omega) (fun c6 => ?_) (fun c6 => ?_) | refine pb_icmp_le g 12 dX8_taken_6 (by decide) (fun c6 => ?_) (fun c6 => ?_)
        · refine pb_aload_n0 g dX8_taken_12 ?_
          refine pb_iload_n1 g dX8_taken_13 ?_
          refine pb_Vi1 g qX8_123 dX8_taken_14 (k + 5) (by omega) mr_o (m_isShuffleT (k + 5) (by assumption) hS) (fun r14 h14 e14 => ?_)
          obtain ⟨rfl, rfl⟩ := e14
          first | refine pb_if_neN g 23 dX8_taken_17 (by decide) (by omega) (fun c17 => ?_) (fun c17 => ?_) | refine pb_if_ne g 23 dX8_taken_17 (by decide) (fun c17 => ?_) (fun c17 => ?_)
          · refine pb_iload_n2 g dX8_taken_23 ?_
            first | refine pb_if_eqN g 52 dX8_taken_24 (by decide) (by omega) (fun c24 => ?_) (fun c24 => ?_) | refine pb_if_eq g 52 dX8_taken_24 (by decide) (fun c24 => ?_) (fun c24 => ?_)
            · refine pb_iconst (v := nI 1) g dX8_taken_52 (by decide) ?_
              refine pb_goto g 57 dX8_taken_53 (by decide) ?_
              refine pb_istore_n3 g dX8_taken_57 (by decide) ?_
              refine pb_iload_n3 g dX8_taken_58 ?_
              refine pb_if_eqN g 71 dX8_taken_59 (by decide) (by decide) (fun c => absurd c (by decide)) (fun _ => ?_)
              refine pb_aload_n0 g dX8_taken_62 ?_
              refine pb_getf g fX8_20 dX8_taken_63 mr_o rfl ?_
              refine pb_iload_n1 g dX8_taken_66 ?_
              refine pb_ialdN g dX8_taken_67 mr_heaps (by omega) (by omega) ?_
              rw [(d2 s0 hs0).2.1]
              refine pb_goto g 73 dX8_taken_68 (by decide) ?_
              refine pb_iret g z dX8_taken_73 ?_
              exact ⟨_, rfl, by rw [e], ⟨_, _, _, _, _, _, _, _, _, _, _, _, _, _, _, _, _, _, _, rfl, d1, d2, d3, d4, d5⟩⟩
            · refine pb_aload_n0 g dX8_taken_27 ?_
              refine pb_getf g fX8_17 dX8_taken_28 mr_o rfl ?_
              refine pb_iload_n1 g dX8_taken_31 ?_
              first | refine pb_ialdN g dX8_taken_32 (by first | exact mr_kind | exact mr_order | exact mr_heaps | exact mr_m | exact mr_line | exact mr_other | exact mr_ways | exact mr_next | exact mr_chances | exact mr_after | exact mr_far | exact mr_groups | exact mr_found | exact mr_counts | exact mr_traySort | exact mr_traySize | exact mr_cells | exact mr_moved | exact mr_traced | assumption) (by omega) (by omega) ?_ | refine pb_ald0 g dX8_taken_32 (by omega) ?_ | refine pb_ald1 g dX8_taken_32 (by omega) ?_ | refine pb_ald2 g dX8_taken_32 (by omega) ?_ | refine pb_ald3 g dX8_taken_32 (by omega) ?_ | refine pb_iald g dX8_taken_32 (by first | exact mr_kind | exact mr_order | exact mr_heaps | exact mr_m | exact mr_line | exact mr_other | exact mr_ways | exact mr_next | exact mr_chances | exact mr_after | exact mr_far | exact mr_groups | exact mr_found | exact mr_counts | exact mr_traySort | exact mr_traySize | exact mr_cells | exact mr_moved | exact mr_traced | assumption) (by assumption) ?_
              rw [(d2 s0 hs0).1]
              refine pb_iload_n2 g dX8_taken_33 ?_
              first | refine pb_icmp_eqN g 52 dX8_taken_34 (by decide) (by omega) (by omega) (fun c34 => ?_) (fun c34 => ?_) | refine pb_icmp_eq g 52 dX8_taken_34 (by decide) (fun c34 => ?_) (fun c34 => ?_)
              · refine pb_iconst (v := nI 1) g dX8_taken_52 (by decide) ?_
                refine pb_goto g 57 dX8_taken_53 (by decide) ?_
                refine pb_istore_n3 g dX8_taken_57 (by decide) ?_
                refine pb_iload_n3 g dX8_taken_58 ?_
                refine pb_if_eqN g 71 dX8_taken_59 (by decide) (by decide) (fun c => absurd c (by decide)) (fun _ => ?_)
                refine pb_aload_n0 g dX8_taken_62 ?_
                refine pb_getf g fX8_20 dX8_taken_63 mr_o rfl ?_
                refine pb_iload_n1 g dX8_taken_66 ?_
                refine pb_ialdN g dX8_taken_67 mr_heaps (by omega) (by omega) ?_
                rw [(d2 s0 hs0).2.1]
                refine pb_goto g 73 dX8_taken_68 (by decide) ?_
                refine pb_iret g z dX8_taken_73 ?_
                exact ⟨_, rfl, by rw [e], ⟨_, _, _, _, _, _, _, _, _, _, _, _, _, _, _, _, _, _, _, rfl, d1, d2, d3, d4, d5⟩⟩
              · refine pb_iload_n2 g dX8_taken_37 ?_
                refine pb_iconst (v := nI 1) g dX8_taken_38 (by decide) ?_
                first | refine pb_icmp_leN g 56 dX8_taken_39 (by decide) (by omega) (by omega) (fun c39 => ?_) (fun c39 => ?_) | refine pb_icmp_le g 56 dX8_taken_39 (by decide) (fun c39 => ?_) (fun c39 => ?_)
                · exact absurd hq (by omega)
                · refine pb_aload_n0 g dX8_taken_42 ?_
                  refine pb_getf g fX8_17 dX8_taken_43 mr_o rfl ?_
                  refine pb_iload_n1 g dX8_taken_46 ?_
                  first | refine pb_ialdN g dX8_taken_47 (by first | exact mr_kind | exact mr_order | exact mr_heaps | exact mr_m | exact mr_line | exact mr_other | exact mr_ways | exact mr_next | exact mr_chances | exact mr_after | exact mr_far | exact mr_groups | exact mr_found | exact mr_counts | exact mr_traySort | exact mr_traySize | exact mr_cells | exact mr_moved | exact mr_traced | assumption) (by omega) (by omega) ?_ | refine pb_ald0 g dX8_taken_47 (by omega) ?_ | refine pb_ald1 g dX8_taken_47 (by omega) ?_ | refine pb_ald2 g dX8_taken_47 (by omega) ?_ | refine pb_ald3 g dX8_taken_47 (by omega) ?_ | refine pb_iald g dX8_taken_47 (by first | exact mr_kind | exact mr_order | exact mr_heaps | exact mr_m | exact mr_line | exact mr_other | exact mr_ways | exact mr_next | exact mr_chances | exact mr_after | exact mr_far | exact mr_groups | exact mr_found | exact mr_counts | exact mr_traySort | exact mr_traySize | exact mr_cells | exact mr_moved | exact mr_traced | assumption) (by assumption) ?_
                  rw [(d2 s0 hs0).1]
                  refine pb_iload_n2 g dX8_taken_48 ?_
                  first | refine pb_icmp_leN g 56 dX8_taken_49 (by decide) (by omega) (by omega) (fun c49 => ?_) (fun c49 => ?_) | refine pb_icmp_le g 56 dX8_taken_49 (by decide) (fun c49 => ?_) (fun c49 => ?_)
                  · exact absurd hq (by omega)
                  · refine pb_iconst (v := nI 1) g dX8_taken_52 (by decide) ?_
                    refine pb_goto g 57 dX8_taken_53 (by decide) ?_
                    refine pb_istore_n3 g dX8_taken_57 (by decide) ?_
                    refine pb_iload_n3 g dX8_taken_58 ?_
                    refine pb_if_eqN g 71 dX8_taken_59 (by decide) (by decide) (fun c => absurd c (by decide)) (fun _ => ?_)
                    refine pb_aload_n0 g dX8_taken_62 ?_
                    refine pb_getf g fX8_20 dX8_taken_63 mr_o rfl ?_
                    refine pb_iload_n1 g dX8_taken_66 ?_
                    refine pb_ialdN g dX8_taken_67 mr_heaps (by omega) (by omega) ?_
                    rw [(d2 s0 hs0).2.1]
                    refine pb_goto g 73 dX8_taken_68 (by decide) ?_
                    refine pb_iret g z dX8_taken_73 ?_
                    exact ⟨_, rfl, by rw [e], ⟨_, _, _, _, _, _, _, _, _, _, _, _, _, _, _, _, _, _, _, rfl, d1, d2, d3, d4, d5⟩⟩
          · exact absurd c17 (by decide)
        · exact absurd c6 (by omega)
      · have e : sTaken ((n, P, S, sd), (σ, μ, K, Hh), (ts, zz, it), (ra, tr)) (nI s0) (nI u) = -13 := by simp only [sTaken, hx, hs, if_neg hq]
        refine pb_iload_n2 g dX8_taken_0 ?_
        refine pb_if_ltN g 9 dX8_taken_1 (by decide) (by omega) ?_
        refine pb_iload_n2 g dX8_taken_4 ?_
        refine pb_iconst (v := nI 4) g dX8_taken_5 (by decide) ?_
        first | refine pb_icmp_leN g 12 dX8_taken_6 (by decide) (by omega) (by omega) (fun c6 => ?_) (fun c6 => ?_) | refine pb_icmp_le g 12 dX8_taken_6 (by decide) (fun c6 => ?_) (fun c6 => ?_)
        · refine pb_aload_n0 g dX8_taken_12 ?_
          refine pb_iload_n1 g dX8_taken_13 ?_
          refine pb_Vi1 g qX8_123 dX8_taken_14 (k + 5) (by omega) mr_o (m_isShuffleT (k + 5) (by assumption) hS) (fun r14 h14 e14 => ?_)
          obtain ⟨rfl, rfl⟩ := e14
          first | refine pb_if_neN g 23 dX8_taken_17 (by decide) (by omega) (fun c17 => ?_) (fun c17 => ?_) | refine pb_if_ne g 23 dX8_taken_17 (by decide) (fun c17 => ?_) (fun c17 => ?_)
          · refine pb_iload_n2 g dX8_taken_23 ?_
            first | refine pb_if_eqN g 52 dX8_taken_24 (by decide) (by omega) (fun c24 => ?_) (fun c24 => ?_) | refine pb_if_eq g 52 dX8_taken_24 (by decide) (fun c24 => ?_) (fun c24 => ?_)
            · exact absurd (Or.inl c24) hq
            · refine pb_aload_n0 g dX8_taken_27 ?_
              refine pb_getf g fX8_17 dX8_taken_28 mr_o rfl ?_
              refine pb_iload_n1 g dX8_taken_31 ?_
              first | refine pb_ialdN g dX8_taken_32 (by first | exact mr_kind | exact mr_order | exact mr_heaps | exact mr_m | exact mr_line | exact mr_other | exact mr_ways | exact mr_next | exact mr_chances | exact mr_after | exact mr_far | exact mr_groups | exact mr_found | exact mr_counts | exact mr_traySort | exact mr_traySize | exact mr_cells | exact mr_moved | exact mr_traced | assumption) (by omega) (by omega) ?_ | refine pb_ald0 g dX8_taken_32 (by omega) ?_ | refine pb_ald1 g dX8_taken_32 (by omega) ?_ | refine pb_ald2 g dX8_taken_32 (by omega) ?_ | refine pb_ald3 g dX8_taken_32 (by omega) ?_ | refine pb_iald g dX8_taken_32 (by first | exact mr_kind | exact mr_order | exact mr_heaps | exact mr_m | exact mr_line | exact mr_other | exact mr_ways | exact mr_next | exact mr_chances | exact mr_after | exact mr_far | exact mr_groups | exact mr_found | exact mr_counts | exact mr_traySort | exact mr_traySize | exact mr_cells | exact mr_moved | exact mr_traced | assumption) (by assumption) ?_
              rw [(d2 s0 hs0).1]
              refine pb_iload_n2 g dX8_taken_33 ?_
              first | refine pb_icmp_eqN g 52 dX8_taken_34 (by decide) (by omega) (by omega) (fun c34 => ?_) (fun c34 => ?_) | refine pb_icmp_eq g 52 dX8_taken_34 (by decide) (fun c34 => ?_) (fun c34 => ?_)
              · exact absurd (Or.inr (Or.inl c34)) hq
              · refine pb_iload_n2 g dX8_taken_37 ?_
                refine pb_iconst (v := nI 1) g dX8_taken_38 (by decide) ?_
                first | refine pb_icmp_leN g 56 dX8_taken_39 (by decide) (by omega) (by omega) (fun c39 => ?_) (fun c39 => ?_) | refine pb_icmp_le g 56 dX8_taken_39 (by decide) (fun c39 => ?_) (fun c39 => ?_)
                · refine pb_iconst (v := nI 0) g dX8_taken_56 (by decide) ?_
                  refine pb_istore_n3 g dX8_taken_57 (by decide) ?_
                  refine pb_iload_n3 g dX8_taken_58 ?_
                  refine pb_if_eqN g 71 dX8_taken_59 (by decide) (by decide) (fun _ => ?_) (fun c => absurd rfl c)
                  refine pb_bipush (v := -13) g dX8_taken_71 (by decide) ?_
                  refine pb_iret g z dX8_taken_73 ?_
                  exact ⟨_, rfl, by rw [e], ⟨_, _, _, _, _, _, _, _, _, _, _, _, _, _, _, _, _, _, _, rfl, d1, d2, d3, d4, d5⟩⟩
                · refine pb_aload_n0 g dX8_taken_42 ?_
                  refine pb_getf g fX8_17 dX8_taken_43 mr_o rfl ?_
                  refine pb_iload_n1 g dX8_taken_46 ?_
                  first | refine pb_ialdN g dX8_taken_47 (by first | exact mr_kind | exact mr_order | exact mr_heaps | exact mr_m | exact mr_line | exact mr_other | exact mr_ways | exact mr_next | exact mr_chances | exact mr_after | exact mr_far | exact mr_groups | exact mr_found | exact mr_counts | exact mr_traySort | exact mr_traySize | exact mr_cells | exact mr_moved | exact mr_traced | assumption) (by omega) (by omega) ?_ | refine pb_ald0 g dX8_taken_47 (by omega) ?_ | refine pb_ald1 g dX8_taken_47 (by omega) ?_ | refine pb_ald2 g dX8_taken_47 (by omega) ?_ | refine pb_ald3 g dX8_taken_47 (by omega) ?_ | refine pb_iald g dX8_taken_47 (by first | exact mr_kind | exact mr_order | exact mr_heaps | exact mr_m | exact mr_line | exact mr_other | exact mr_ways | exact mr_next | exact mr_chances | exact mr_after | exact mr_far | exact mr_groups | exact mr_found | exact mr_counts | exact mr_traySort | exact mr_traySize | exact mr_cells | exact mr_moved | exact mr_traced | assumption) (by assumption) ?_
                  rw [(d2 s0 hs0).1]
                  refine pb_iload_n2 g dX8_taken_48 ?_
                  first | refine pb_icmp_leN g 56 dX8_taken_49 (by decide) (by omega) (by omega) (fun c49 => ?_) (fun c49 => ?_) | refine pb_icmp_le g 56 dX8_taken_49 (by decide) (fun c49 => ?_) (fun c49 => ?_)
                  · refine pb_iconst (v := nI 0) g dX8_taken_56 (by decide) ?_
                    refine pb_istore_n3 g dX8_taken_57 (by decide) ?_
                    refine pb_iload_n3 g dX8_taken_58 ?_
                    refine pb_if_eqN g 71 dX8_taken_59 (by decide) (by decide) (fun _ => ?_) (fun c => absurd rfl c)
                    refine pb_bipush (v := -13) g dX8_taken_71 (by decide) ?_
                    refine pb_iret g z dX8_taken_73 ?_
                    exact ⟨_, rfl, by rw [e], ⟨_, _, _, _, _, _, _, _, _, _, _, _, _, _, _, _, _, _, _, rfl, d1, d2, d3, d4, d5⟩⟩
                  · exact absurd (Or.inr (Or.inr ⟨by omega, by omega⟩)) hq
          · exact absurd c17 (by decide)
        · exact absurd c6 (by omega)
