/-! ===== the desk: calls, third part ===== -/
theorem carF_pm {n w : Nat} (he : n % 2 = 0) (hw : w < 2) : IsPm n (fun i => carF n i w) := ⟨fun j hj => carF_lt he hj hw, fun i j hi hj h => by
  have h : carF n i w = carF n j w := h
  unfold carF at h
  split at h <;> split at h <;> omega⟩
set_option maxHeartbeats 4000000 in
set_option maxRecDepth 100000 in
theorem x_deal (k : Nat) (q : SP) (x : Int32) (h : PH) (hD : IsD q h) (hI : SI q) : Runs yX7_deal cX7_deal 2 (some .int) (k + 6) [.ref 0, .int x] h (fun o h' => ∃ r : Int32, o = some (.int r) ∧ r = (sDeal q x).1 ∧ IsD ((sDeal q x).2) h') := by
  obtain ⟨⟨n, P, S, sd⟩, ⟨σ, μ, K, Hh⟩, ⟨ts, zz, it⟩, ⟨ra, tr⟩⟩ := q
  obtain ⟨⟨hn1, hn, hP, hS⟩, hσ, hK, hz, hra⟩ := hI
  obtain ⟨pk, fr, itd, jk, kd, hp, kt, ak, an, ah, jl, rfl, d1, d2, d3, d4⟩ := hD
  refine Runs.of (by decide) (Nat.le_of_ble_eq_true rfl) [some (.ref 0), some (.int x)] 0 rfl (fun Γ g z => ?_)
  by_cases hb : x < nI 1 ∨ nI n < x
  · have e : sDeal ((n, P, S, sd), (σ, μ, K, Hh), (ts, zz, it), (ra, tr)) x = (-2, ((n, P, S, sd), (σ, μ, K, Hh), (ts, zz, it), (ra, tr))) := if_pos hb
    refine pb_iload_n1 g dX7_deal_0 ?_
    refine pb_iconst (v := nI 1) g dX7_deal_1 (by decide) ?_
    first | refine pb_icmp_ltN g 13 dX7_deal_2 (by decide) (by omega) (by omega) (fun c2 => ?_) (fun c2 => ?_) | refine pb_icmp_lt g 13 dX7_deal_2 (by decide) (fun c2 => ?_) (fun c2 => ?_)
    · refine pb_bipush (v := -2) g dX7_deal_13 (by decide) ?_
      refine pb_iret g z dX7_deal_15 ?_
      exact ⟨_, rfl, by rw [e], by rw [e]; exact ⟨_, _, _, _, _, _, _, _, _, _, _, rfl, d1, d2, d3, d4⟩⟩
    · refine pb_iload_n1 g dX7_deal_5 ?_
      refine pb_aload_n0 g dX7_deal_6 ?_
      refine pb_getf g fX7_33 dX7_deal_7 dr_o rfl ?_
      first | refine pb_icmp_leN g 16 dX7_deal_10 (by decide) (by omega) (by omega) (fun c10 => ?_) (fun c10 => ?_) | refine pb_icmp_le g 16 dX7_deal_10 (by decide) (fun c10 => ?_) (fun c10 => ?_)
      · exact absurd hb (fun q => q.elim c2 (fun w => absurd c10 (Int32.not_le.mpr w)))
      · refine pb_bipush (v := -2) g dX7_deal_13 (by decide) ?_
        refine pb_iret g z dX7_deal_15 ?_
        exact ⟨_, rfl, by rw [e], by rw [e]; exact ⟨_, _, _, _, _, _, _, _, _, _, _, rfl, d1, d2, d3, d4⟩⟩
  · have e0 : sDeal ((n, P, S, sd), (σ, μ, K, Hh), (ts, zz, it), (ra, tr)) x = sMk ((n, P, S, sd), (σ, μ, K, Hh), (ts, zz, it), (ra, tr)) 2 x.toNatClampNeg (fun j => (dlF n x.toNatClampNeg x.toNatClampNeg).getD j 0) := if_neg hb
    obtain ⟨m, hm1, hm2, rfl⟩ := rng (by omega) (by decide) hb
    rw [nI_clamp (by omega)] at e0
    by_cases h10 : S = 10
    · have e : sDeal ((n, P, S, sd), (σ, μ, K, Hh), (ts, zz, it), (ra, tr)) (nI m) = (-4, ((n, P, S, sd), (σ, μ, K, Hh), (ts, zz, it), (ra, tr))) := by rw [e0]; exact if_pos h10
      refine pb_iload_n1 g dX7_deal_0 ?_
      refine pb_iconst (v := nI 1) g dX7_deal_1 (by decide) ?_
      first | refine pb_icmp_ltN g 13 dX7_deal_2 (by decide) (by omega) (by omega) (fun c2 => ?_) (fun c2 => ?_) | refine pb_icmp_lt g 13 dX7_deal_2 (by decide) (fun c2 => ?_) (fun c2 => ?_)
      · exact absurd c2 (by omega)
      · refine pb_iload_n1 g dX7_deal_5 ?_
        refine pb_aload_n0 g dX7_deal_6 ?_
        refine pb_getf g fX7_33 dX7_deal_7 dr_o rfl ?_
        first | refine pb_icmp_leN g 16 dX7_deal_10 (by decide) (by omega) (by omega) (fun c10 => ?_) (fun c10 => ?_) | refine pb_icmp_le g 16 dX7_deal_10 (by decide) (fun c10 => ?_) (fun c10 => ?_)
        · refine pb_aload_n0 g dX7_deal_16 ?_
          refine pb_getf g fX7_40 dX7_deal_17 dr_o rfl ?_
          refine pb_bipush (v := nI 10) g dX7_deal_20 (by decide) ?_
          first | refine pb_icmp_ltN g 28 dX7_deal_22 (by decide) (by omega) (by omega) (fun c22 => ?_) (fun c22 => ?_) | refine pb_icmp_lt g 28 dX7_deal_22 (by decide) (fun c22 => ?_) (fun c22 => ?_)
          · exact absurd c22 (by omega)
          · refine pb_bipush (v := -4) g dX7_deal_25 (by decide) ?_
            refine pb_iret g z dX7_deal_27 ?_
            exact ⟨_, rfl, by rw [e], by rw [e]; exact ⟨_, _, _, _, _, _, _, _, _, _, _, rfl, d1, d2, d3, d4⟩⟩
        · exact absurd c10 (by omega)
    · have e : sDeal ((n, P, S, sd), (σ, μ, K, Hh), (ts, zz, it), (ra, tr)) (nI m) = (nI S, ((n, P, S + 1, sd), (σ, va_up μ S (fun j => (dlF n m m).getD j 0), va_up K S 2, va_up Hh S m), (ts, zz, it), (ra, tr))) := by rw [e0]; exact if_neg h10
      refine pb_iload_n1 g dX7_deal_0 ?_
      refine pb_iconst (v := nI 1) g dX7_deal_1 (by decide) ?_
      first | refine pb_icmp_ltN g 13 dX7_deal_2 (by decide) (by omega) (by omega) (fun c2 => ?_) (fun c2 => ?_) | refine pb_icmp_lt g 13 dX7_deal_2 (by decide) (fun c2 => ?_) (fun c2 => ?_)
      · exact absurd c2 (by omega)
      · refine pb_iload_n1 g dX7_deal_5 ?_
        refine pb_aload_n0 g dX7_deal_6 ?_
        refine pb_getf g fX7_33 dX7_deal_7 dr_o rfl ?_
        first | refine pb_icmp_leN g 16 dX7_deal_10 (by decide) (by omega) (by omega) (fun c10 => ?_) (fun c10 => ?_) | refine pb_icmp_le g 16 dX7_deal_10 (by decide) (fun c10 => ?_) (fun c10 => ?_)
        · refine pb_aload_n0 g dX7_deal_16 ?_
          refine pb_getf g fX7_40 dX7_deal_17 dr_o rfl ?_
          refine pb_bipush (v := nI 10) g dX7_deal_20 (by decide) ?_
          first | refine pb_icmp_ltN g 28 dX7_deal_22 (by decide) (by omega) (by omega) (fun c22 => ?_) (fun c22 => ?_) | refine pb_icmp_lt g 28 dX7_deal_22 (by decide) (fun c22 => ?_) (fun c22 => ?_)
          · refine pb_aload_n0 g dX7_deal_28 ?_
            refine pb_getf g fX7_16 dX7_deal_29 dr_o rfl ?_
            refine pb_aload_n0 g dX7_deal_32 ?_
            refine pb_getf g fX7_40 dX7_deal_33 dr_o rfl ?_
            refine pb_aaldN g dX7_deal_36 dr_shs (by decide) (by omega) (by omega) (by rfl) ?_
            refine pb_getf g fX7_129 dX7_deal_37 (dr_sh (by omega)) rfl ?_
            refine pb_aload_n0 g dX7_deal_40 ?_
            refine pb_getf g fX7_33 dX7_deal_41 dr_o rfl ?_
            refine pb_iload_n1 g dX7_deal_44 ?_
            refine pb_Sv3 g qX7_145 dX7_deal_45 (k + 5) (by omega) (c_setDealt (k + 5) n m (25 + S) hn hm1 hm2 (fr S) _ (dr_fr (by omega))) (fun h45 e45 => ?_)
            obtain ⟨f9, rfl, hf9⟩ := e45
            rw [ds_fr (by omega)]
            refine pb_aload_n0 g dX7_deal_48 ?_
            refine pb_iconst (v := nI 2) g dX7_deal_49 (by decide) ?_
            refine pb_iload_n1 g dX7_deal_50 ?_
            refine pb_Vi2 g qX7_132 dX7_deal_51 (k + 5) (by omega) dr_o (x_addShuffle (k + 5) (a := 2) (b := m) (by omega)) (fun r51 h51 e51 => ?_)
            obtain ⟨rfl, rfl⟩ := e51
            refine pb_iret g z dX7_deal_54 ?_
            exact ⟨_, rfl, by rw [e], by rw [e]; exact ⟨_, _, _, _, _, _, _, _, _, _, _, rfl, d1, d2_up d2 (fun _ j hj => by exact hf9 j hj), d3, d4⟩⟩
          · exact absurd c22 (by omega)
        · exact absurd c10 (by omega)
set_option maxHeartbeats 4000000 in
set_option maxRecDepth 100000 in
theorem x_perfect (k : Nat) (q : SP) (w : Int32) (h : PH) (hD : IsD q h) (hI : SI q) : Runs yX7_perfect cX7_perfect 4 (some .int) (k + 6) [.ref 0, .int w] h (fun o h' => ∃ r : Int32, o = some (.int r) ∧ r = (sPerfect q w).1 ∧ IsD ((sPerfect q w).2) h') := by
  obtain ⟨⟨n, P, S, sd⟩, ⟨σ, μ, K, Hh⟩, ⟨ts, zz, it⟩, ⟨ra, tr⟩⟩ := q
  obtain ⟨⟨hn1, hn, hP, hS⟩, hσ, hK, hz, hra⟩ := hI
  obtain ⟨pk, fr, itd, jk, kd, hp, kt, ak, an, ah, jl, rfl, d1, d2, d3, d4⟩ := hD
  refine Runs.of (by decide) (Nat.le_of_ble_eq_true rfl) [some (.ref 0), some (.int w), none, none] 2 rfl (fun Γ g z => ?_)
  cases hw : ix w 2 with
  | none =>
    have e : sPerfect ((n, P, S, sd), (σ, μ, K, Hh), (ts, zz, it), (ra, tr)) w = (-2, ((n, P, S, sd), (σ, μ, K, Hh), (ts, zz, it), (ra, tr))) := by simp only [sPerfect, hw]
    have hwn := ix_none (by decide) hw
    refine pb_iload_n1 g dX7_perfect_0 ?_
    first | refine pb_if_eqN g 12 dX7_perfect_1 (by decide) (by omega) (fun c1 => ?_) (fun c1 => ?_) | refine pb_if_eq g 12 dX7_perfect_1 (by decide) (fun c1 => ?_) (fun c1 => ?_)
    · exact absurd ⟨0, by decide, c1⟩ hwn
    · refine pb_iload_n1 g dX7_perfect_4 ?_
      refine pb_iconst (v := nI 1) g dX7_perfect_5 (by decide) ?_
      first | refine pb_icmp_eqN g 12 dX7_perfect_6 (by decide) (by omega) (by omega) (fun c6 => ?_) (fun c6 => ?_) | refine pb_icmp_eq g 12 dX7_perfect_6 (by decide) (fun c6 => ?_) (fun c6 => ?_)
      · exact absurd ⟨1, by decide, c6⟩ hwn
      · refine pb_bipush (v := -2) g dX7_perfect_9 (by decide) ?_
        refine pb_iret g z dX7_perfect_11 ?_
        exact ⟨_, rfl, by rw [e], by rw [e]; exact ⟨_, _, _, _, _, _, _, _, _, _, _, rfl, d1, d2, d3, d4⟩⟩
  | some w0 =>
    obtain ⟨hw0, rfl⟩ := ix_some (by decide) hw
    have hbody : PB Γ 12 [some (.ref 0), some (.int (nI w0)), none, none] [] (mkH 52 (dkF (nI n) (nI P) (nI S) sd pk fr (itd) kd hp ts (fun t => nI (zz t)) (nI ra) ak an ah kt jk jl)) := by
      by_cases hodd : n % 2 = 1
      · have e : sPerfect ((n, P, S, sd), (σ, μ, K, Hh), (ts, zz, it), (ra, tr)) (nI w0) = (-3, ((n, P, S, sd), (σ, μ, K, Hh), (ts, zz, it), (ra, tr))) := by simp only [sPerfect, hw, if_pos hodd]
        refine pb_aload_n0 g dX7_perfect_12 ?_
        refine pb_Vi0 g qX7_136 dX7_perfect_13 (k + 5) (by omega) dr_o (x_isOdd (k + 5) hn) (fun r13 h13 e13 => ?_)
        obtain ⟨rfl, rfl⟩ := e13
        rw [show n % 2 = 1 by omega]
        first | refine pb_if_eqN g 22 dX7_perfect_16 (by decide) (by omega) (fun c16 => ?_) (fun c16 => ?_) | refine pb_if_eq g 22 dX7_perfect_16 (by decide) (fun c16 => ?_) (fun c16 => ?_)
        · exact absurd c16 (by decide)
        · refine pb_bipush (v := -3) g dX7_perfect_19 (by decide) ?_
          refine pb_iret g z dX7_perfect_21 ?_
          exact ⟨_, rfl, by rw [e], by rw [e]; exact ⟨_, _, _, _, _, _, _, _, _, _, _, rfl, d1, d2, d3, d4⟩⟩
      · have heven : n % 2 = 0 := by omega
        by_cases h10 : S = 10
        · have e : sPerfect ((n, P, S, sd), (σ, μ, K, Hh), (ts, zz, it), (ra, tr)) (nI w0) = (-4, ((n, P, S, sd), (σ, μ, K, Hh), (ts, zz, it), (ra, tr))) := by simp only [sPerfect, hw, if_neg hodd, sMk, if_pos h10]
          refine pb_aload_n0 g dX7_perfect_12 ?_
          refine pb_Vi0 g qX7_136 dX7_perfect_13 (k + 5) (by omega) dr_o (x_isOdd (k + 5) hn) (fun r13 h13 e13 => ?_)
          obtain ⟨rfl, rfl⟩ := e13
          rw [show n % 2 = 0 by omega]
          first | refine pb_if_eqN g 22 dX7_perfect_16 (by decide) (by omega) (fun c16 => ?_) (fun c16 => ?_) | refine pb_if_eq g 22 dX7_perfect_16 (by decide) (fun c16 => ?_) (fun c16 => ?_)
          · refine pb_aload_n0 g dX7_perfect_22 ?_
            refine pb_getf g fX7_40 dX7_perfect_23 dr_o rfl ?_
            refine pb_bipush (v := nI 10) g dX7_perfect_26 (by decide) ?_
            first | refine pb_icmp_ltN g 34 dX7_perfect_28 (by decide) (by omega) (by omega) (fun c28 => ?_) (fun c28 => ?_) | refine pb_icmp_lt g 34 dX7_perfect_28 (by decide) (fun c28 => ?_) (fun c28 => ?_)
            · exact absurd c28 (by omega)
            · refine pb_bipush (v := -4) g dX7_perfect_31 (by decide) ?_
              refine pb_iret g z dX7_perfect_33 ?_
              exact ⟨_, rfl, by rw [e], by rw [e]; exact ⟨_, _, _, _, _, _, _, _, _, _, _, rfl, d1, d2, d3, d4⟩⟩
          · exact absurd c16 (by decide)
        · have e : sPerfect ((n, P, S, sd), (σ, μ, K, Hh), (ts, zz, it), (ra, tr)) (nI w0) = (nI S, ((n, P, S + 1, sd), (σ, va_up μ S (bkN (fun i => carF n i w0) n), va_up K S 1, va_up Hh S 2), (ts, zz, it), (ra, tr))) := by simp only [sPerfect, hw, if_neg hodd, sMk, if_neg h10]
          have hpm := carF_pm (n := n) heven hw0
          have loop : ∀ i, i ≤ n → PB Γ 49 [some (.ref 0), some (.int (nI w0)), some (.ref (25 + S)), some (.int (nI i))] [] (mkH 52 (dkF (nI n) (nI P) (nI S) sd pk (va_up fr S (bkF (fun i => carF n i w0) (fr S) i)) (itd) kd hp ts (fun t => nI (zz t)) (nI ra) ak an ah kt jk jl)) := by
            refine pb_loop n (fun i hi ih => ?_)
            by_cases hin : i < n
            · have ih := ih hin
              have hcl := hpm.1 i hin
              have hcl : carF n i w0 < n := hcl
              refine pb_iload_n3 g dX7_perfect_49 ?_
              refine pb_aload_n0 g dX7_perfect_50 ?_
              refine pb_getf g fX7_33 dX7_perfect_51 dr_o rfl ?_
              first | refine pb_icmp_geN g 75 dX7_perfect_54 (by decide) (by omega) (by omega) (fun c54 => ?_) (fun c54 => ?_) | refine pb_icmp_ge g 75 dX7_perfect_54 (by decide) (fun c54 => ?_) (fun c54 => ?_)
              · exact absurd c54 (by omega)
              · refine pb_aload_n2 g dX7_perfect_57 ?_
                refine pb_iload_n3 g dX7_perfect_58 ?_
                refine pb_iload_n1 g dX7_perfect_59 ?_
                refine pb_aload_n0 g dX7_perfect_60 ?_
                refine pb_getf g fX7_33 dX7_perfect_61 dr_o rfl ?_
                refine pb_Si3 g qX7_139 dX7_perfect_64 (k + 5) (by omega) (c_carried (k + 5) i w0 n hin hw0 hn _) (fun r64 h64 e64 => ?_)
                obtain ⟨rfl, rfl⟩ := e64
                change PB Γ _ _ (.int (nI (carF n i w0)) :: _) _
                refine pb_iload_n3 g dX7_perfect_67 ?_
                first | refine pb_iastN g dX7_perfect_68 (by first | exact dr_pk (by omega) | exact dr_fr (by omega) | exact dr_it (by omega) | exact dr_kt | exact dr_bf | exact dr_pl | exact dr_lr | exact dr_nh | exact dr_lc | exact dr_bl | assumption) (by omega) (by omega) ?_ | refine pb_iast g dX7_perfect_68 (by first | exact dr_pk (by omega) | exact dr_fr (by omega) | exact dr_it (by omega) | exact dr_kt | exact dr_bf | exact dr_pl | exact dr_lr | exact dr_nh | exact dr_lc | exact dr_bl | assumption) (by assumption) ?_
                rw [ds_fr (by omega), bx_uu, va_upS]
                first | refine pb_iinc3N g dX7_perfect_69 (by decide) ?_ | refine pb_iinc3 g dX7_perfect_69 (by decide) rfl ?_
                refine pb_goto g 49 dX7_perfect_72 (by decide) ?_
                exact ih
            · obtain rfl : i = n := by omega
              refine pb_iload_n3 g dX7_perfect_49 ?_
              refine pb_aload_n0 g dX7_perfect_50 ?_
              refine pb_getf g fX7_33 dX7_perfect_51 dr_o rfl ?_
              first | refine pb_icmp_geN g 75 dX7_perfect_54 (by decide) (by omega) (by omega) (fun c54 => ?_) (fun c54 => ?_) | refine pb_icmp_ge g 75 dX7_perfect_54 (by decide) (fun c54 => ?_) (fun c54 => ?_)
              · refine pb_aload_n0 g dX7_perfect_75 ?_
                refine pb_iconst (v := nI 1) g dX7_perfect_76 (by decide) ?_
                refine pb_iconst (v := nI 2) g dX7_perfect_77 (by decide) ?_
                refine pb_Vi2 g qX7_132 dX7_perfect_78 (k + 5) (by omega) dr_o (x_addShuffle (k + 5) (a := 1) (b := 2) (by omega)) (fun r78 h78 e78 => ?_)
                obtain ⟨rfl, rfl⟩ := e78
                refine pb_iret g z dX7_perfect_81 ?_
                exact ⟨_, rfl, by rw [e], by rw [e]; exact ⟨_, _, _, _, _, _, _, _, _, _, _, rfl, d1, d2_up d2 (fun _ j hj => (bk_pm hpm _ j hj).1), d3, d4⟩⟩
              · exact absurd c54 (by omega)
          refine pb_aload_n0 g dX7_perfect_12 ?_
          refine pb_Vi0 g qX7_136 dX7_perfect_13 (k + 5) (by omega) dr_o (x_isOdd (k + 5) hn) (fun r13 h13 e13 => ?_)
          obtain ⟨rfl, rfl⟩ := e13
          rw [show n % 2 = 0 by omega]
          first | refine pb_if_eqN g 22 dX7_perfect_16 (by decide) (by omega) (fun c16 => ?_) (fun c16 => ?_) | refine pb_if_eq g 22 dX7_perfect_16 (by decide) (fun c16 => ?_) (fun c16 => ?_)
          · refine pb_aload_n0 g dX7_perfect_22 ?_
            refine pb_getf g fX7_40 dX7_perfect_23 dr_o rfl ?_
            refine pb_bipush (v := nI 10) g dX7_perfect_26 (by decide) ?_
            first | refine pb_icmp_ltN g 34 dX7_perfect_28 (by decide) (by omega) (by omega) (fun c28 => ?_) (fun c28 => ?_) | refine pb_icmp_lt g 34 dX7_perfect_28 (by decide) (fun c28 => ?_) (fun c28 => ?_)
            · refine pb_aload_n0 g dX7_perfect_34 ?_
              refine pb_getf g fX7_16 dX7_perfect_35 dr_o rfl ?_
              refine pb_aload_n0 g dX7_perfect_38 ?_
              refine pb_getf g fX7_40 dX7_perfect_39 dr_o rfl ?_
              refine pb_aaldN g dX7_perfect_42 dr_shs (by decide) (by omega) (by omega) (by rfl) ?_
              refine pb_getf g fX7_129 dX7_perfect_43 (dr_sh (by omega)) rfl ?_
              refine pb_astore_n2 g dX7_perfect_46 (by decide) ?_
              refine pb_iconst (v := nI 0) g dX7_perfect_47 (by decide) ?_
              refine pb_istore_n3 g dX7_perfect_48 (by decide) ?_
              have hl := loop 0 (Nat.zero_le _)
              rw [bkF, vu_self] at hl
              exact hl
            · exact absurd c28 (by omega)
          · exact absurd c16 (by decide)
    refine pb_iload_n1 g dX7_perfect_0 ?_
    first | refine pb_if_eqN g 12 dX7_perfect_1 (by decide) (by omega) (fun c1 => ?_) (fun c1 => ?_) | refine pb_if_eq g 12 dX7_perfect_1 (by decide) (fun c1 => ?_) (fun c1 => ?_)
    · exact hbody
    · refine pb_iload_n1 g dX7_perfect_4 ?_
      refine pb_iconst (v := nI 1) g dX7_perfect_5 (by decide) ?_
      first | refine pb_icmp_eqN g 12 dX7_perfect_6 (by decide) (by omega) (by omega) (fun c6 => ?_) (fun c6 => ?_) | refine pb_icmp_eq g 12 dX7_perfect_6 (by decide) (fun c6 => ?_) (fun c6 => ?_)
      · exact hbody
      · exact absurd c6 (by omega)
set_option maxHeartbeats 4000000 in
set_option maxRecDepth 100000 in
theorem x_does (k : Nat) (q : SP) (s p : Int32) (h : PH) (hD : IsD q h) (hI : SI q) : Runs yX7_does cX7_does 3 (some .int) (k + 6) [.ref 0, .int s, .int p] h (fun o h' => ∃ r : Int32, o = some (.int r) ∧ r = (sDoes q s p).1 ∧ IsD ((sDoes q s p).2) h') := by
  obtain ⟨⟨n, P, S, sd⟩, ⟨σ, μ, K, Hh⟩, ⟨ts, zz, it⟩, ⟨ra, tr⟩⟩ := q
  obtain ⟨⟨hn1, hn, hP, hS⟩, hσ, hK, hz, hra⟩ := hI
  obtain ⟨pk, fr, itd, jk, kd, hp, kt, ak, an, ah, jl, rfl, d1, d2, d3, d4⟩ := hD
  refine Runs.of (by decide) (Nat.le_of_ble_eq_true rfl) [some (.ref 0), some (.int s), some (.int p)] 0 rfl (fun Γ g z => ?_)
  cases hs : ix s S with
  | none =>
    have e : sDoes ((n, P, S, sd), (σ, μ, K, Hh), (ts, zz, it), (ra, tr)) s p = (-2, ((n, P, S, sd), (σ, μ, K, Hh), (ts, zz, it), (ra, tr))) := by simp only [sDoes, hs]
    have hsn := ix_none (by omega) hs
    refine pb_aload_n0 g dX7_does_0 ?_
    refine pb_iload_n1 g dX7_does_1 ?_
    refine pb_Vi1 g qX7_148 dX7_does_2 (k + 5) (by omega) dr_o (x_isShuffleF (k + 5) (by assumption) hS) (fun r2 h2 e2 => ?_)
    obtain ⟨rfl, rfl⟩ := e2
    first | refine pb_if_eqN g 16 dX7_does_5 (by decide) (by omega) (fun c5 => ?_) (fun c5 => ?_) | refine pb_if_eq g 16 dX7_does_5 (by decide) (fun c5 => ?_) (fun c5 => ?_)
    · refine pb_bipush (v := -2) g dX7_does_16 (by decide) ?_
      refine pb_iret g z dX7_does_18 ?_
      exact ⟨_, rfl, by rw [e], by rw [e]; exact ⟨_, _, _, _, _, _, _, _, _, _, _, rfl, d1, d2, d3, d4⟩⟩
    · exact absurd c5 (by decide)
  | some s0 =>
    obtain ⟨hs0, rfl⟩ := ix_some (by omega) hs
    cases hpx : ix p P with
    | none =>
      have e : sDoes ((n, P, S, sd), (σ, μ, K, Hh), (ts, zz, it), (ra, tr)) (nI s0) p = (-2, ((n, P, S, sd), (σ, μ, K, Hh), (ts, zz, it), (ra, tr))) := by simp only [sDoes, hs, hpx]
      have hpn := ix_none (by omega) hpx
      refine pb_aload_n0 g dX7_does_0 ?_
      refine pb_iload_n1 g dX7_does_1 ?_
      refine pb_Vi1 g qX7_148 dX7_does_2 (k + 5) (by omega) dr_o (x_isShuffleT (k + 5) (by assumption) hS) (fun r2 h2 e2 => ?_)
      obtain ⟨rfl, rfl⟩ := e2
      first | refine pb_if_eqN g 16 dX7_does_5 (by decide) (by omega) (fun c5 => ?_) (fun c5 => ?_) | refine pb_if_eq g 16 dX7_does_5 (by decide) (fun c5 => ?_) (fun c5 => ?_)
      · exact absurd c5 (by decide)
      · refine pb_aload_n0 g dX7_does_8 ?_
        refine pb_iload_n2 g dX7_does_9 ?_
        refine pb_Vi1 g qX7_112 dX7_does_10 (k + 5) (by omega) dr_o (x_isPackF (k + 5) (by assumption) hP) (fun r10 h10 e10 => ?_)
        obtain ⟨rfl, rfl⟩ := e10
        first | refine pb_if_neN g 19 dX7_does_13 (by decide) (by omega) (fun c13 => ?_) (fun c13 => ?_) | refine pb_if_ne g 19 dX7_does_13 (by decide) (fun c13 => ?_) (fun c13 => ?_)
        · exact absurd c13 (by decide)
        · refine pb_bipush (v := -2) g dX7_does_16 (by decide) ?_
          refine pb_iret g z dX7_does_18 ?_
          exact ⟨_, rfl, by rw [e], by rw [e]; exact ⟨_, _, _, _, _, _, _, _, _, _, _, rfl, d1, d2, d3, d4⟩⟩
    | some p0 =>
      obtain ⟨hp0, rfl⟩ := ix_some (by omega) hpx
      by_cases h3 : K s0 < 3
      · have e : sDoes ((n, P, S, sd), (σ, μ, K, Hh), (ts, zz, it), (ra, tr)) (nI s0) (nI p0) = (1, ((n, P, S, sd), (va_up σ p0 (fun i => σ p0 (μ s0 i)), μ, K, Hh), (ts, zz, it), (ra, tr))) := by simp only [sDoes, hs, hpx, if_pos h3]
        have hms := ((hK s0 hs0).2.2.2.2 h3).1
        refine pb_aload_n0 g dX7_does_0 ?_
        refine pb_iload_n1 g dX7_does_1 ?_
        refine pb_Vi1 g qX7_148 dX7_does_2 (k + 5) (by omega) dr_o (x_isShuffleT (k + 5) (by assumption) hS) (fun r2 h2 e2 => ?_)
        obtain ⟨rfl, rfl⟩ := e2
        first | refine pb_if_eqN g 16 dX7_does_5 (by decide) (by omega) (fun c5 => ?_) (fun c5 => ?_) | refine pb_if_eq g 16 dX7_does_5 (by decide) (fun c5 => ?_) (fun c5 => ?_)
        · exact absurd c5 (by decide)
        · refine pb_aload_n0 g dX7_does_8 ?_
          refine pb_iload_n2 g dX7_does_9 ?_
          refine pb_Vi1 g qX7_112 dX7_does_10 (k + 5) (by omega) dr_o (x_isPackT (k + 5) (by assumption) hP) (fun r10 h10 e10 => ?_)
          obtain ⟨rfl, rfl⟩ := e10
          first | refine pb_if_neN g 19 dX7_does_13 (by decide) (by omega) (fun c13 => ?_) (fun c13 => ?_) | refine pb_if_ne g 19 dX7_does_13 (by decide) (fun c13 => ?_) (fun c13 => ?_)
          · refine pb_aload_n0 g dX7_does_19 ?_
            refine pb_getf g fX7_16 dX7_does_20 dr_o rfl ?_
            refine pb_iload_n1 g dX7_does_23 ?_
            refine pb_aaldN g dX7_does_24 dr_shs (by decide) (by omega) (by omega) (by rfl) ?_
            refine pb_Vi0 g qX7_151 dX7_does_25 (k + 5) (by omega) (dr_sh (by omega)) (x_hasMove (k + 5) (s := s0) (K := K s0) (by omega) (d2 s0 (by assumption)).1 (hK s0 (by assumption)).1) (fun r25 h25 e25 => ?_)
            obtain ⟨rfl, rfl⟩ := e25
            rw [if_pos (by assumption)]
            first | refine pb_if_neN g 34 dX7_does_28 (by decide) (by omega) (fun c28 => ?_) (fun c28 => ?_) | refine pb_if_ne g 34 dX7_does_28 (by decide) (fun c28 => ?_) (fun c28 => ?_)
            · refine pb_aload_n0 g dX7_does_34 ?_
              refine pb_getf g fX7_11 dX7_does_35 dr_o rfl ?_
              refine pb_iload_n2 g dX7_does_38 ?_
              refine pb_aaldN g dX7_does_39 dr_packs (by decide) (by omega) (by omega) (by rfl) ?_
              refine pb_iconst (v := nI 0) g dX7_does_40 (by decide) ?_
              refine pb_aload_n0 g dX7_does_41 ?_
              refine pb_getf g fX7_46 dX7_does_42 dr_o rfl ?_
              refine pb_iconst (v := nI 0) g dX7_does_45 (by decide) ?_
              refine pb_aload_n0 g dX7_does_46 ?_
              refine pb_getf g fX7_33 dX7_does_47 dr_o rfl ?_
              refine pb_copy g aX7_106.1 aX7_106.2.1 aX7_106.2.2.1 aX7_106.2.2.2 dX7_does_50 (by first | exact dr_pk (by omega) | exact dr_fr (by omega) | exact dr_it (by omega) | exact dr_kt | exact dr_bf | exact dr_pl | exact dr_lr | exact dr_nh | exact dr_lc | exact dr_bl | assumption) (by first | exact dr_pk (by omega) | exact dr_fr (by omega) | exact dr_it (by omega) | exact dr_kt | exact dr_bf | exact dr_pl | exact dr_lr | exact dr_nh | exact dr_lc | exact dr_bl | assumption) (by omega) (by omega) (by omega) (by omega) (by omega) (Nat.le_of_ble_eq_true rfl) ?_
              rw [ds_bf]
              refine pb_aload_n0 g dX7_does_53 ?_
              refine pb_getf g fX7_46 dX7_does_54 dr_o rfl ?_
              refine pb_aload_n0 g dX7_does_57 ?_
              refine pb_getf g fX7_16 dX7_does_58 dr_o rfl ?_
              refine pb_iload_n1 g dX7_does_61 ?_
              refine pb_aaldN g dX7_does_62 dr_shs (by decide) (by omega) (by omega) (by rfl) ?_
              refine pb_getf g fX7_129 dX7_does_63 (dr_sh (by omega)) rfl ?_
              refine pb_aload_n0 g dX7_does_66 ?_
              refine pb_getf g fX7_11 dX7_does_67 dr_o rfl ?_
              refine pb_iload_n2 g dX7_does_70 ?_
              refine pb_aaldN g dX7_does_71 dr_packs (by decide) (by omega) (by omega) (by rfl) ?_
              refine pb_aload_n0 g dX7_does_72 ?_
              refine pb_getf g fX7_33 dX7_does_73 dr_o rfl ?_
              refine pb_Sv4 g qX7_154 dX7_does_76 (k + 5) (by omega) (c_setThrough (k + 5) n 46 (25 + s0) (2 + p0) hn (by omega) (by omega) _ (fr s0) (pk p0) (μ s0) ((d2 s0 hs0).2.2 h3) (fun j hj => by have := hms j hj; omega) _ dr_bf (dr_fr (by omega)) (dr_pk (by omega))) (fun h76 e76 => ?_)
              subst e76
              rw [ds_pk (by omega)]
              refine pb_iconst (v := nI 1) g dX7_does_79 (by decide) ?_
              refine pb_iret g z dX7_does_80 ?_
              exact ⟨_, rfl, by rw [e]; rfl, by rw [e]; exact ⟨_, _, _, _, _, _, _, _, _, _, _, rfl, d1_up d1 (fun j hj => by
                rw [th_at _ _ _ n j hj, va_upS, sb_cpy0 (hms j hj)]
                exact d1 p0 hp0 _ (hms j hj)) (fun p h1 _ => h1), d2, d3, d4⟩⟩
            · exact absurd c28 (by decide)
          · exact absurd c13 (by decide)
      · have e : sDoes ((n, P, S, sd), (σ, μ, K, Hh), (ts, zz, it), (ra, tr)) (nI s0) (nI p0) = (-3, ((n, P, S, sd), (σ, μ, K, Hh), (ts, zz, it), (ra, tr))) := by simp only [sDoes, hs, hpx, if_neg h3]
        refine pb_aload_n0 g dX7_does_0 ?_
        refine pb_iload_n1 g dX7_does_1 ?_
        refine pb_Vi1 g qX7_148 dX7_does_2 (k + 5) (by omega) dr_o (x_isShuffleT (k + 5) (by assumption) hS) (fun r2 h2 e2 => ?_)
        obtain ⟨rfl, rfl⟩ := e2
        first | refine pb_if_eqN g 16 dX7_does_5 (by decide) (by omega) (fun c5 => ?_) (fun c5 => ?_) | refine pb_if_eq g 16 dX7_does_5 (by decide) (fun c5 => ?_) (fun c5 => ?_)
        · exact absurd c5 (by decide)
        · refine pb_aload_n0 g dX7_does_8 ?_
          refine pb_iload_n2 g dX7_does_9 ?_
          refine pb_Vi1 g qX7_112 dX7_does_10 (k + 5) (by omega) dr_o (x_isPackT (k + 5) (by assumption) hP) (fun r10 h10 e10 => ?_)
          obtain ⟨rfl, rfl⟩ := e10
          first | refine pb_if_neN g 19 dX7_does_13 (by decide) (by omega) (fun c13 => ?_) (fun c13 => ?_) | refine pb_if_ne g 19 dX7_does_13 (by decide) (fun c13 => ?_) (fun c13 => ?_)
          · refine pb_aload_n0 g dX7_does_19 ?_
            refine pb_getf g fX7_16 dX7_does_20 dr_o rfl ?_
            refine pb_iload_n1 g dX7_does_23 ?_
            refine pb_aaldN g dX7_does_24 dr_shs (by decide) (by omega) (by omega) (by rfl) ?_
            refine pb_Vi0 g qX7_151 dX7_does_25 (k + 5) (by omega) (dr_sh (by omega)) (x_hasMove (k + 5) (s := s0) (K := K s0) (by omega) (d2 s0 (by assumption)).1 (hK s0 (by assumption)).1) (fun r25 h25 e25 => ?_)
            obtain ⟨rfl, rfl⟩ := e25
            rw [if_neg (by assumption)]
            first | refine pb_if_neN g 34 dX7_does_28 (by decide) (by omega) (fun c28 => ?_) (fun c28 => ?_) | refine pb_if_ne g 34 dX7_does_28 (by decide) (fun c28 => ?_) (fun c28 => ?_)
            · exact absurd c28 (by decide)
            · refine pb_bipush (v := -3) g dX7_does_31 (by decide) ?_
              refine pb_iret g z dX7_does_33 ?_
              exact ⟨_, rfl, by rw [e], by rw [e]; exact ⟨_, _, _, _, _, _, _, _, _, _, _, rfl, d1, d2, d3, d4⟩⟩
          · exact absurd c13 (by decide)
set_option maxHeartbeats 4000000 in
set_option maxRecDepth 100000 in
theorem x_packTold (k : Nat) (q : SP) (p w : Int32) (h : PH) (hD : IsD q h) (hI : SI q) : Runs yX7_packTold cX7_packTold 3 (some .int) (k + 6) [.ref 0, .int p, .int w] h (fun o h' => ∃ r : Int32, o = some (.int r) ∧ r = sPackTold q p w ∧ IsD (q) h') := by
  obtain ⟨⟨n, P, S, sd⟩, ⟨σ, μ, K, Hh⟩, ⟨ts, zz, it⟩, ⟨ra, tr⟩⟩ := q
  obtain ⟨⟨hn1, hn, hP, hS⟩, hσ, hK, hz, hra⟩ := hI
  obtain ⟨pk, fr, itd, jk, kd, hp, kt, ak, an, ah, jl, rfl, d1, d2, d3, d4⟩ := hD
  refine Runs.of (by decide) (Nat.le_of_ble_eq_true rfl) [some (.ref 0), some (.int p), some (.int w)] 0 rfl (fun Γ g z => ?_)
  cases hpx : ix p P with
  | none =>
    have e : sPackTold ((n, P, S, sd), (σ, μ, K, Hh), (ts, zz, it), (ra, tr)) p w = -2 := by simp only [sPackTold, hpx]
    have hpn := ix_none (by omega) hpx
    refine pb_aload_n0 g dX7_packTold_0 ?_
    refine pb_iload_n1 g dX7_packTold_1 ?_
    refine pb_Vi1 g qX7_112 dX7_packTold_2 (k + 5) (by omega) dr_o (x_isPackF (k + 5) (by assumption) hP) (fun r2 h2 e2 => ?_)
    obtain ⟨rfl, rfl⟩ := e2
    first | refine pb_if_neN g 11 dX7_packTold_5 (by decide) (by omega) (fun c5 => ?_) (fun c5 => ?_) | refine pb_if_ne g 11 dX7_packTold_5 (by decide) (fun c5 => ?_) (fun c5 => ?_)
    · exact absurd c5 (by decide)
    · refine pb_bipush (v := -2) g dX7_packTold_8 (by decide) ?_
      refine pb_iret g z dX7_packTold_10 ?_
      exact ⟨_, rfl, by rw [e], ⟨_, _, _, _, _, _, _, _, _, _, _, rfl, d1, d2, d3, d4⟩⟩
  | some p0 =>
    obtain ⟨hp0, rfl⟩ := ix_some (by omega) hpx
    have hpm := hσ p0 hp0
    have hb10 : ∀ j, j < n → σ p0 j < 10 := fun j hj => by have := hpm.1 j hj; omega
    have hpl : ∀ j, j < n → va_up jk 1 (bkF (σ p0) (jk 1) n) 1 j = nI (bkN (σ p0) n j) := fun j hj => by rw [va_upS]; exact (bk_pm hpm _ j hj).1
    have hpb : ∀ j, j < n → bkN (σ p0) n j < 10 := fun j hj => by have := (bkN_pm hpm).1 j hj; omega
    have hbody : PB Γ 28 [some (.ref 0), some (.int (nI p0)), some (.int w)] [] (mkH 52 (dkF (nI n) (nI P) (nI S) sd pk fr (itd) kd hp ts (fun t => nI (zz t)) (nI ra) ak an ah kt (va_up jk 1 (bkF (σ p0) (jk 1) n)) jl)) := by
      refine pb_iload_n2 g dX7_packTold_28 ?_
      refine pb_tab g dX7_packTold_29 3 rfl (by decide) (fun j => [56, 70, 82].getD j 0) 89 (by decide) rfl (fun j hj hw => ?_) (fun hw => ?_)
      · subst hw
        match j, hj with
        | 0, _ =>
          have e : sPackTold ((n, P, S, sd), (σ, μ, K, Hh), (ts, zz, it), (ra, tr)) (nI p0) (nI 0) = nI (rkL (σ p0) n n) := by simp only [sPackTold, hpx]; rfl
          show PB Γ 56 _ _ _
          refine pb_aload_n0 g dX7_packTold_56 ?_
          refine pb_getf g fX7_11 dX7_packTold_57 dr_o rfl ?_
          refine pb_iload_n1 g dX7_packTold_60 ?_
          refine pb_aaldN g dX7_packTold_61 dr_packs (by decide) (by omega) (by omega) (by rfl) ?_
          refine pb_aload_n0 g dX7_packTold_62 ?_
          refine pb_getf g fX7_33 dX7_packTold_63 dr_o rfl ?_
          refine pb_Si2 g qX7_122 dX7_packTold_66 (k + 5) (by omega) (c_rankOf (k + 5) n (2 + p0) hn (pk p0) (σ p0) (d1 p0 hp0) hb10 _ (dr_pk (by omega))) (fun r66 h66 e66 => ?_)
          obtain ⟨rfl, rfl⟩ := e66
          refine pb_iret g z dX7_packTold_69 ?_
          exact ⟨_, rfl, by rw [e], ⟨_, _, _, _, _, _, _, _, _, _, _, rfl, d1, d2, d3, d4⟩⟩
        | 1, _ =>
          have e : sPackTold ((n, P, S, sd), (σ, μ, K, Hh), (ts, zz, it), (ra, tr)) (nI p0) (nI 1) = nI (rnL (bkN (σ p0) n) (n - 1)) := by simp only [sPackTold, hpx]; rfl
          show PB Γ 70 _ _ _
          refine pb_aload_n0 g dX7_packTold_70 ?_
          refine pb_getf g fX7_50 dX7_packTold_71 dr_o rfl ?_
          refine pb_aload_n0 g dX7_packTold_74 ?_
          refine pb_getf g fX7_33 dX7_packTold_75 dr_o rfl ?_
          refine pb_Si2 g qX7_126 dX7_packTold_78 (k + 5) (by omega) (c_runsOf (k + 5) n 47 hn hn1 _ (bkN (σ p0) n) hpl hpb _ dr_pl) (fun r78 h78 e78 => ?_)
          obtain ⟨rfl, rfl⟩ := e78
          refine pb_iret g z dX7_packTold_81 ?_
          exact ⟨_, rfl, by rw [e], ⟨_, _, _, _, _, _, _, _, _, _, _, rfl, d1, d2, d3, d4⟩⟩
        | 2, _ =>
          have e : sPackTold ((n, P, S, sd), (σ, μ, K, Hh), (ts, zz, it), (ra, tr)) (nI p0) (nI 2) = nI (bkN (σ p0) n 0) := by simp only [sPackTold, hpx]; rfl
          show PB Γ 82 _ _ _
          refine pb_aload_n0 g dX7_packTold_82 ?_
          refine pb_getf g fX7_50 dX7_packTold_83 dr_o rfl ?_
          refine pb_iconst (v := nI 0) g dX7_packTold_86 (by decide) ?_
          first | refine pb_ialdN g dX7_packTold_87 (by first | exact dr_pl | exact dr_pk (by omega) | exact dr_fr (by omega) | exact dr_it (by omega) | exact dr_kt | exact dr_bf | exact dr_lr | exact dr_nh | exact dr_lc | exact dr_bl | assumption) (by omega) (by omega) ?_ | refine pb_ald0 g dX7_packTold_87 (by omega) ?_ | refine pb_ald1 g dX7_packTold_87 (by omega) ?_ | refine pb_ald2 g dX7_packTold_87 (by omega) ?_ | refine pb_ald3 g dX7_packTold_87 (by omega) ?_ | refine pb_iald g dX7_packTold_87 (by first | exact dr_pl | exact dr_pk (by omega) | exact dr_fr (by omega) | exact dr_it (by omega) | exact dr_kt | exact dr_bf | exact dr_lr | exact dr_nh | exact dr_lc | exact dr_bl | assumption) (by assumption) ?_
          rw [hpl 0 (by omega)]
          refine pb_iret g z dX7_packTold_88 ?_
          exact ⟨_, rfl, by rw [e], ⟨_, _, _, _, _, _, _, _, _, _, _, rfl, d1, d2, d3, d4⟩⟩
      · have e : sPackTold ((n, P, S, sd), (σ, μ, K, Hh), (ts, zz, it), (ra, tr)) (nI p0) w = -2 := by
          simp only [sPackTold, hpx]
          rw [if_neg (hw 0 (by decide)), if_neg (hw 1 (by decide)), if_neg (hw 2 (by decide))]
        refine pb_bipush (v := -2) g dX7_packTold_89 (by decide) ?_
        refine pb_iret g z dX7_packTold_91 ?_
        exact ⟨_, rfl, by rw [e], ⟨_, _, _, _, _, _, _, _, _, _, _, rfl, d1, d2, d3, d4⟩⟩
    refine pb_aload_n0 g dX7_packTold_0 ?_
    refine pb_iload_n1 g dX7_packTold_1 ?_
    refine pb_Vi1 g qX7_112 dX7_packTold_2 (k + 5) (by omega) dr_o (x_isPackT (k + 5) (by assumption) hP) (fun r2 h2 e2 => ?_)
    obtain ⟨rfl, rfl⟩ := e2
    first | refine pb_if_neN g 11 dX7_packTold_5 (by decide) (by omega) (fun c5 => ?_) (fun c5 => ?_) | refine pb_if_ne g 11 dX7_packTold_5 (by decide) (fun c5 => ?_) (fun c5 => ?_)
    · refine pb_aload_n0 g dX7_packTold_11 ?_
      refine pb_getf g fX7_11 dX7_packTold_12 dr_o rfl ?_
      refine pb_iload_n1 g dX7_packTold_15 ?_
      refine pb_aaldN g dX7_packTold_16 dr_packs (by decide) (by omega) (by omega) (by rfl) ?_
      refine pb_aload_n0 g dX7_packTold_17 ?_
      refine pb_getf g fX7_50 dX7_packTold_18 dr_o rfl ?_
      refine pb_aload_n0 g dX7_packTold_21 ?_
      refine pb_getf g fX7_33 dX7_packTold_22 dr_o rfl ?_
      refine pb_Sv3 g qX7_118 dX7_packTold_25 (k + 5) (by omega) (c_setBack (k + 5) n (2 + p0) 47 hn (by omega) (pk p0) (jk 1) (σ p0) (d1 p0 hp0) hb10 _ (dr_pk (by omega)) dr_pl) (fun h25 e25 => ?_)
      subst e25
      rw [ds_pl]
      exact hbody
    · exact absurd c5 (by decide)
set_option maxHeartbeats 4000000 in
set_option maxRecDepth 100000 in
theorem x_shuffleTold (k : Nat) (q : SP) (s w : Int32) (h : PH) (hD : IsD q h) (hI : SI q) : Runs yX7_shuffleTold cX7_shuffleTold 4 (some .int) (k + 6) [.ref 0, .int s, .int w] h (fun o h' => ∃ r : Int32, o = some (.int r) ∧ r = sShTold q s w ∧ IsD (q) h') := by
  obtain ⟨⟨n, P, S, sd⟩, ⟨σ, μ, K, Hh⟩, ⟨ts, zz, it⟩, ⟨ra, tr⟩⟩ := q
  obtain ⟨⟨hn1, hn, hP, hS⟩, hσ, hK, hz, hra⟩ := hI
  obtain ⟨pk, fr, itd, jk, kd, hp, kt, ak, an, ah, jl, rfl, d1, d2, d3, d4⟩ := hD
  refine Runs.of (by decide) (Nat.le_of_ble_eq_true rfl) [some (.ref 0), some (.int s), some (.int w), none] 1 rfl (fun Γ g z => ?_)
  cases hs : ix s S with
  | none =>
    have e : sShTold ((n, P, S, sd), (σ, μ, K, Hh), (ts, zz, it), (ra, tr)) s w = -2 := by simp only [sShTold, hs]
    have hsn := ix_none (by omega) hs
    refine pb_aload_n0 g dX7_shuffleTold_0 ?_
    refine pb_iload_n1 g dX7_shuffleTold_1 ?_
    refine pb_Vi1 g qX7_148 dX7_shuffleTold_2 (k + 5) (by omega) dr_o (x_isShuffleF (k + 5) (by assumption) hS) (fun r2 h2 e2 => ?_)
    obtain ⟨rfl, rfl⟩ := e2
    first | refine pb_if_neN g 11 dX7_shuffleTold_5 (by decide) (by omega) (fun c5 => ?_) (fun c5 => ?_) | refine pb_if_ne g 11 dX7_shuffleTold_5 (by decide) (fun c5 => ?_) (fun c5 => ?_)
    · exact absurd c5 (by decide)
    · refine pb_bipush (v := -2) g dX7_shuffleTold_8 (by decide) ?_
      refine pb_iret g z dX7_shuffleTold_10 ?_
      exact ⟨_, rfl, by rw [e], ⟨_, _, _, _, _, _, _, _, _, _, _, rfl, d1, d2, d3, d4⟩⟩
  | some s0 =>
    obtain ⟨hs0, rfl⟩ := ix_some (by omega) hs
    have hbody : PB Γ 18 [some (.ref 0), some (.int (nI s0)), some (.int w), some (.ref (15 + s0))] [] (mkH 52 (dkF (nI n) (nI P) (nI S) sd pk fr (itd) kd hp ts (fun t => nI (zz t)) (nI ra) ak an ah kt jk jl)) := by
      refine pb_iload_n2 g dX7_shuffleTold_18 ?_
      refine pb_tab g dX7_shuffleTold_19 4 rfl (by decide) (fun j => [48, 53, 58, 81].getD j 0) 104 (by decide) rfl (fun j hj hw => ?_) (fun hw => ?_)
      · subst hw
        match j, hj with
        | 0, _ =>
          have e : sShTold ((n, P, S, sd), (σ, μ, K, Hh), (ts, zz, it), (ra, tr)) (nI s0) (nI 0) = nI (K s0) := by simp only [sShTold, hs]; rfl
          show PB Γ 48 _ _ _
          refine pb_aload_n3 g dX7_shuffleTold_48 ?_
          refine pb_getf g fX7_158 dX7_shuffleTold_49 (dr_sh (by omega)) rfl ?_
          rw [(d2 s0 hs0).1]
          refine pb_iret g z dX7_shuffleTold_52 ?_
          exact ⟨_, rfl, by rw [e], ⟨_, _, _, _, _, _, _, _, _, _, _, rfl, d1, d2, d3, d4⟩⟩
        | 1, _ =>
          have e : sShTold ((n, P, S, sd), (σ, μ, K, Hh), (ts, zz, it), (ra, tr)) (nI s0) (nI 1) = nI (Hh s0) := by simp only [sShTold, hs]; rfl
          show PB Γ 53 _ _ _
          refine pb_aload_n3 g dX7_shuffleTold_53 ?_
          refine pb_getf g fX7_161 dX7_shuffleTold_54 (dr_sh (by omega)) rfl ?_
          rw [(d2 s0 hs0).2.1]
          refine pb_iret g z dX7_shuffleTold_57 ?_
          exact ⟨_, rfl, by rw [e], ⟨_, _, _, _, _, _, _, _, _, _, _, rfl, d1, d2, d3, d4⟩⟩
        | 2, _ =>
          show PB Γ 58 _ _ _
          by_cases h3 : K s0 < 3
          · have e : sShTold ((n, P, S, sd), (σ, μ, K, Hh), (ts, zz, it), (ra, tr)) (nI s0) (nI 2) = nI (hmL (μ s0) n n) := by simp only [sShTold, hs]; exact if_pos h3
            have hpm := (hK s0 hs0).2.2.2.2 h3
            refine pb_aload_n3 g dX7_shuffleTold_58 ?_
            refine pb_Vi0 g qX7_151 dX7_shuffleTold_59 (k + 5) (by omega) (dr_sh (by omega)) (x_hasMove (k + 5) (s := s0) (K := K s0) (by omega) (d2 s0 (by assumption)).1 (hK s0 (by assumption)).1) (fun r59 h59 e59 => ?_)
            obtain ⟨rfl, rfl⟩ := e59
            rw [if_pos (by assumption)]
            first | refine pb_if_eqN g 79 dX7_shuffleTold_62 (by decide) (by omega) (fun c62 => ?_) (fun c62 => ?_) | refine pb_if_eq g 79 dX7_shuffleTold_62 (by decide) (fun c62 => ?_) (fun c62 => ?_)
            · exact absurd c62 (by decide)
            · refine pb_aload_n3 g dX7_shuffleTold_65 ?_
              refine pb_getf g fX7_129 dX7_shuffleTold_66 (dr_sh (by omega)) rfl ?_
              refine pb_aload_n0 g dX7_shuffleTold_69 ?_
              refine pb_getf g fX7_33 dX7_shuffleTold_70 dr_o rfl ?_
              refine pb_Si2 g qX7_164 dX7_shuffleTold_73 (k + 5) (by omega) (c_howMany (k + 5) n (25 + s0) hn (fr s0) (μ s0) ((d2 s0 hs0).2.2 h3) hpm.1 _ (dr_fr (by omega))) (fun r73 h73 e73 => ?_)
              obtain ⟨rfl, rfl⟩ := e73
              refine pb_goto g 80 dX7_shuffleTold_76 (by decide) ?_
              refine pb_iret g z dX7_shuffleTold_80 ?_
              exact ⟨_, rfl, by rw [e], ⟨_, _, _, _, _, _, _, _, _, _, _, rfl, d1, d2, d3, d4⟩⟩
          · have e : sShTold ((n, P, S, sd), (σ, μ, K, Hh), (ts, zz, it), (ra, tr)) (nI s0) (nI 2) = -1 := by simp only [sShTold, hs]; exact if_neg h3
            refine pb_aload_n3 g dX7_shuffleTold_58 ?_
            refine pb_Vi0 g qX7_151 dX7_shuffleTold_59 (k + 5) (by omega) (dr_sh (by omega)) (x_hasMove (k + 5) (s := s0) (K := K s0) (by omega) (d2 s0 (by assumption)).1 (hK s0 (by assumption)).1) (fun r59 h59 e59 => ?_)
            obtain ⟨rfl, rfl⟩ := e59
            rw [if_neg (by assumption)]
            first | refine pb_if_eqN g 79 dX7_shuffleTold_62 (by decide) (by omega) (fun c62 => ?_) (fun c62 => ?_) | refine pb_if_eq g 79 dX7_shuffleTold_62 (by decide) (fun c62 => ?_) (fun c62 => ?_)
            · refine pb_iconst (v := -1) g dX7_shuffleTold_79 (by decide) ?_
              refine pb_iret g z dX7_shuffleTold_80 ?_
              exact ⟨_, rfl, by rw [e], ⟨_, _, _, _, _, _, _, _, _, _, _, rfl, d1, d2, d3, d4⟩⟩
            · exact absurd c62 (by decide)
        | 3, _ =>
          show PB Γ 81 _ _ _
          by_cases h3 : K s0 < 3
          · have e : sShTold ((n, P, S, sd), (σ, μ, K, Hh), (ts, zz, it), (ra, tr)) (nI s0) (nI 3) = nI (lpL (μ s0) n n) := by simp only [sShTold, hs]; exact if_pos h3
            have hpm := (hK s0 hs0).2.2.2.2 h3
            refine pb_aload_n3 g dX7_shuffleTold_81 ?_
            refine pb_Vi0 g qX7_151 dX7_shuffleTold_82 (k + 5) (by omega) (dr_sh (by omega)) (x_hasMove (k + 5) (s := s0) (K := K s0) (by omega) (d2 s0 (by assumption)).1 (hK s0 (by assumption)).1) (fun r82 h82 e82 => ?_)
            obtain ⟨rfl, rfl⟩ := e82
            rw [if_pos (by assumption)]
            first | refine pb_if_eqN g 102 dX7_shuffleTold_85 (by decide) (by omega) (fun c85 => ?_) (fun c85 => ?_) | refine pb_if_eq g 102 dX7_shuffleTold_85 (by decide) (fun c85 => ?_) (fun c85 => ?_)
            · exact absurd c85 (by decide)
            · refine pb_aload_n3 g dX7_shuffleTold_88 ?_
              refine pb_getf g fX7_129 dX7_shuffleTold_89 (dr_sh (by omega)) rfl ?_
              refine pb_aload_n0 g dX7_shuffleTold_92 ?_
              refine pb_getf g fX7_33 dX7_shuffleTold_93 dr_o rfl ?_
              refine pb_Si2 g qX7_169 dX7_shuffleTold_96 (k + 5) (by omega) (c_leastPower (k + 3) n (25 + s0) hn hn1 (fr s0) (μ s0) ((d2 s0 hs0).2.2 h3) hpm.1 _ (dr_fr (by omega))) (fun r96 h96 e96 => ?_)
              obtain ⟨rfl, rfl⟩ := e96
              refine pb_goto g 103 dX7_shuffleTold_99 (by decide) ?_
              refine pb_iret g z dX7_shuffleTold_103 ?_
              exact ⟨_, rfl, by rw [e], ⟨_, _, _, _, _, _, _, _, _, _, _, rfl, d1, d2, d3, d4⟩⟩
          · have e : sShTold ((n, P, S, sd), (σ, μ, K, Hh), (ts, zz, it), (ra, tr)) (nI s0) (nI 3) = -1 := by simp only [sShTold, hs]; exact if_neg h3
            refine pb_aload_n3 g dX7_shuffleTold_81 ?_
            refine pb_Vi0 g qX7_151 dX7_shuffleTold_82 (k + 5) (by omega) (dr_sh (by omega)) (x_hasMove (k + 5) (s := s0) (K := K s0) (by omega) (d2 s0 (by assumption)).1 (hK s0 (by assumption)).1) (fun r82 h82 e82 => ?_)
            obtain ⟨rfl, rfl⟩ := e82
            rw [if_neg (by assumption)]
            first | refine pb_if_eqN g 102 dX7_shuffleTold_85 (by decide) (by omega) (fun c85 => ?_) (fun c85 => ?_) | refine pb_if_eq g 102 dX7_shuffleTold_85 (by decide) (fun c85 => ?_) (fun c85 => ?_)
            · refine pb_iconst (v := -1) g dX7_shuffleTold_102 (by decide) ?_
              refine pb_iret g z dX7_shuffleTold_103 ?_
              exact ⟨_, rfl, by rw [e], ⟨_, _, _, _, _, _, _, _, _, _, _, rfl, d1, d2, d3, d4⟩⟩
            · exact absurd c85 (by decide)
      · have e : sShTold ((n, P, S, sd), (σ, μ, K, Hh), (ts, zz, it), (ra, tr)) (nI s0) w = -2 := by
          simp only [sShTold, hs]
          rw [if_neg (hw 0 (by decide)), if_neg (hw 1 (by decide)), if_neg (hw 2 (by decide)), if_neg (hw 3 (by decide))]
        refine pb_bipush (v := -2) g dX7_shuffleTold_104 (by decide) ?_
        refine pb_iret g z dX7_shuffleTold_106 ?_
        exact ⟨_, rfl, by rw [e], ⟨_, _, _, _, _, _, _, _, _, _, _, rfl, d1, d2, d3, d4⟩⟩
    refine pb_aload_n0 g dX7_shuffleTold_0 ?_
    refine pb_iload_n1 g dX7_shuffleTold_1 ?_
    refine pb_Vi1 g qX7_148 dX7_shuffleTold_2 (k + 5) (by omega) dr_o (x_isShuffleT (k + 5) (by assumption) hS) (fun r2 h2 e2 => ?_)
    obtain ⟨rfl, rfl⟩ := e2
    first | refine pb_if_neN g 11 dX7_shuffleTold_5 (by decide) (by omega) (fun c5 => ?_) (fun c5 => ?_) | refine pb_if_ne g 11 dX7_shuffleTold_5 (by decide) (fun c5 => ?_) (fun c5 => ?_)
    · refine pb_aload_n0 g dX7_shuffleTold_11 ?_
      refine pb_getf g fX7_16 dX7_shuffleTold_12 dr_o rfl ?_
      refine pb_iload_n1 g dX7_shuffleTold_15 ?_
      refine pb_aaldN g dX7_shuffleTold_16 dr_shs (by decide) (by omega) (by omega) (by rfl) ?_
      refine pb_astore_n3 g dX7_shuffleTold_17 (by decide) ?_
      exact hbody
    · exact absurd c5 (by decide)
set_option maxHeartbeats 4000000 in
set_option maxRecDepth 100000 in
theorem x_power (k : Nat) (q : SP) (s : Int32) (ee : Int64) (i : Int32) (h : PH) (hD : IsD q h) (hI : SI q) : Runs yX7_power cX7_power 5 (some .int) (k + 6) [.ref 0, .int s, .long ee, .int i] h (fun o h' => ∃ r : Int32, o = some (.int r) ∧ r = sPower q s ee i ∧ IsD (q) h') := by
  obtain ⟨⟨n, P, S, sd⟩, ⟨σ, μ, K, Hh⟩, ⟨ts, zz, it⟩, ⟨ra, tr⟩⟩ := q
  obtain ⟨⟨hn1, hn, hP, hS⟩, hσ, hK, hz, hra⟩ := hI
  obtain ⟨pk, fr, itd, jk, kd, hp, kt, ak, an, ah, jl, rfl, d1, d2, d3, d4⟩ := hD
  refine Runs.of (by decide) (Nat.le_of_ble_eq_true rfl) [some (.ref 0), some (.int s), some (.long ee), none, some (.int i)] 0 rfl (fun Γ g z => ?_)
  cases hs : ix s S with
  | none =>
    have e : sPower ((n, P, S, sd), (σ, μ, K, Hh), (ts, zz, it), (ra, tr)) s ee i = -2 := by simp only [sPower, hs]
    have hsn := ix_none (by omega) hs
    refine pb_aload_n0 g dX7_power_0 ?_
    refine pb_iload_n1 g dX7_power_1 ?_
    refine pb_Vi1 g qX7_148 dX7_power_2 (k + 5) (by omega) dr_o (x_isShuffleF (k + 5) (by assumption) hS) (fun r2 h2 e2 => ?_)
    obtain ⟨rfl, rfl⟩ := e2
    first | refine pb_if_eqN g 23 dX7_power_5 (by decide) (by omega) (fun c5 => ?_) (fun c5 => ?_) | refine pb_if_eq g 23 dX7_power_5 (by decide) (fun c5 => ?_) (fun c5 => ?_)
    · refine pb_bipush (v := -2) g dX7_power_23 (by decide) ?_
      refine pb_iret g z dX7_power_25 ?_
      exact ⟨_, rfl, by rw [e], ⟨_, _, _, _, _, _, _, _, _, _, _, rfl, d1, d2, d3, d4⟩⟩
    · exact absurd c5 (by decide)
  | some s0 =>
    obtain ⟨hs0, rfl⟩ := ix_some (by omega) hs
    cases hi : ix i n with
    | none =>
      have e : sPower ((n, P, S, sd), (σ, μ, K, Hh), (ts, zz, it), (ra, tr)) (nI s0) ee i = -2 := by simp only [sPower, hs, hi]
      have hin := ix_none (by omega) hi
      refine pb_aload_n0 g dX7_power_0 ?_
      refine pb_iload_n1 g dX7_power_1 ?_
      refine pb_Vi1 g qX7_148 dX7_power_2 (k + 5) (by omega) dr_o (x_isShuffleT (k + 5) (by assumption) hS) (fun r2 h2 e2 => ?_)
      obtain ⟨rfl, rfl⟩ := e2
      first | refine pb_if_eqN g 23 dX7_power_5 (by decide) (by omega) (fun c5 => ?_) (fun c5 => ?_) | refine pb_if_eq g 23 dX7_power_5 (by decide) (fun c5 => ?_) (fun c5 => ?_)
      · exact absurd c5 (by decide)
      · refine pb_aload_n0 g dX7_power_8 ?_
        refine pb_iload4 g dX7_power_9 ?_
        refine pb_Vi1 g qX7_115 dX7_power_11 (k + 5) (by omega) dr_o (x_isPlaceF (k + 5) (by assumption) hn) (fun r11 h11 e11 => ?_)
        obtain ⟨rfl, rfl⟩ := e11
        first | refine pb_if_eqN g 23 dX7_power_14 (by decide) (by omega) (fun c14 => ?_) (fun c14 => ?_) | refine pb_if_eq g 23 dX7_power_14 (by decide) (fun c14 => ?_) (fun c14 => ?_)
        · refine pb_bipush (v := -2) g dX7_power_23 (by decide) ?_
          refine pb_iret g z dX7_power_25 ?_
          exact ⟨_, rfl, by rw [e], ⟨_, _, _, _, _, _, _, _, _, _, _, rfl, d1, d2, d3, d4⟩⟩
        · exact absurd c14 (by decide)
    | some i0 =>
      obtain ⟨hi0, rfl⟩ := ix_some (by omega) hi
      by_cases hneg : ee < 0
      · have e : sPower ((n, P, S, sd), (σ, μ, K, Hh), (ts, zz, it), (ra, tr)) (nI s0) ee (nI i0) = -2 := by simp only [sPower, hs, hi, if_pos hneg]
        refine pb_aload_n0 g dX7_power_0 ?_
        refine pb_iload_n1 g dX7_power_1 ?_
        refine pb_Vi1 g qX7_148 dX7_power_2 (k + 5) (by omega) dr_o (x_isShuffleT (k + 5) (by assumption) hS) (fun r2 h2 e2 => ?_)
        obtain ⟨rfl, rfl⟩ := e2
        first | refine pb_if_eqN g 23 dX7_power_5 (by decide) (by omega) (fun c5 => ?_) (fun c5 => ?_) | refine pb_if_eq g 23 dX7_power_5 (by decide) (fun c5 => ?_) (fun c5 => ?_)
        · exact absurd c5 (by decide)
        · refine pb_aload_n0 g dX7_power_8 ?_
          refine pb_iload4 g dX7_power_9 ?_
          refine pb_Vi1 g qX7_115 dX7_power_11 (k + 5) (by omega) dr_o (x_isPlaceT (k + 5) (by assumption) hn) (fun r11 h11 e11 => ?_)
          obtain ⟨rfl, rfl⟩ := e11
          first | refine pb_if_eqN g 23 dX7_power_14 (by decide) (by omega) (fun c14 => ?_) (fun c14 => ?_) | refine pb_if_eq g 23 dX7_power_14 (by decide) (fun c14 => ?_) (fun c14 => ?_)
          · exact absurd c14 (by decide)
          · refine pb_lload_n2 g dX7_power_17 ?_
            refine pb_lconst (v := lN 0) g dX7_power_18 rfl ?_
            first | refine pb_lc_geN g 26 dX7_power_19 dX7_power_20 (by decide) (by omega) (by omega) (fun c19 => ?_) (fun c19 => ?_) | refine pb_lc_ge g 26 dX7_power_19 dX7_power_20 (by decide) (fun c19 => ?_) (fun c19 => ?_)
            · exact absurd hneg (Int64.not_lt.mpr c19)
            · refine pb_bipush (v := -2) g dX7_power_23 (by decide) ?_
              refine pb_iret g z dX7_power_25 ?_
              exact ⟨_, rfl, by rw [e], ⟨_, _, _, _, _, _, _, _, _, _, _, rfl, d1, d2, d3, d4⟩⟩
      · obtain ⟨E, hE, rfl⟩ := pk_lOf hneg
        by_cases h3 : K s0 < 3
        · have e : sPower ((n, P, S, sd), (σ, μ, K, Hh), (ts, zz, it), (ra, tr)) (nI s0) (lN E) (nI i0) = nI (itF (μ s0) (E % lenF (μ s0) n i0) i0) := by simp only [sPower, hs, hi, if_neg hneg, if_pos h3, lN_clamp hE]
          have hpm := (hK s0 hs0).2.2.2.2 h3
          refine pb_aload_n0 g dX7_power_0 ?_
          refine pb_iload_n1 g dX7_power_1 ?_
          refine pb_Vi1 g qX7_148 dX7_power_2 (k + 5) (by omega) dr_o (x_isShuffleT (k + 5) (by assumption) hS) (fun r2 h2 e2 => ?_)
          obtain ⟨rfl, rfl⟩ := e2
          first | refine pb_if_eqN g 23 dX7_power_5 (by decide) (by omega) (fun c5 => ?_) (fun c5 => ?_) | refine pb_if_eq g 23 dX7_power_5 (by decide) (fun c5 => ?_) (fun c5 => ?_)
          · exact absurd c5 (by decide)
          · refine pb_aload_n0 g dX7_power_8 ?_
            refine pb_iload4 g dX7_power_9 ?_
            refine pb_Vi1 g qX7_115 dX7_power_11 (k + 5) (by omega) dr_o (x_isPlaceT (k + 5) (by assumption) hn) (fun r11 h11 e11 => ?_)
            obtain ⟨rfl, rfl⟩ := e11
            first | refine pb_if_eqN g 23 dX7_power_14 (by decide) (by omega) (fun c14 => ?_) (fun c14 => ?_) | refine pb_if_eq g 23 dX7_power_14 (by decide) (fun c14 => ?_) (fun c14 => ?_)
            · exact absurd c14 (by decide)
            · refine pb_lload_n2 g dX7_power_17 ?_
              refine pb_lconst (v := lN 0) g dX7_power_18 rfl ?_
              first | refine pb_lc_geN g 26 dX7_power_19 dX7_power_20 (by decide) (by omega) (by omega) (fun c19 => ?_) (fun c19 => ?_) | refine pb_lc_ge g 26 dX7_power_19 dX7_power_20 (by decide) (fun c19 => ?_) (fun c19 => ?_)
              · refine pb_aload_n0 g dX7_power_26 ?_
                refine pb_getf g fX7_16 dX7_power_27 dr_o rfl ?_
                refine pb_iload_n1 g dX7_power_30 ?_
                refine pb_aaldN g dX7_power_31 dr_shs (by decide) (by omega) (by omega) (by rfl) ?_
                refine pb_Vi0 g qX7_151 dX7_power_32 (k + 5) (by omega) (dr_sh (by omega)) (x_hasMove (k + 5) (s := s0) (K := K s0) (by omega) (d2 s0 (by assumption)).1 (hK s0 (by assumption)).1) (fun r32 h32 e32 => ?_)
                obtain ⟨rfl, rfl⟩ := e32
                rw [if_pos (by assumption)]
                first | refine pb_if_eqN g 60 dX7_power_35 (by decide) (by omega) (fun c35 => ?_) (fun c35 => ?_) | refine pb_if_eq g 60 dX7_power_35 (by decide) (fun c35 => ?_) (fun c35 => ?_)
                · exact absurd c35 (by decide)
                · refine pb_aload_n0 g dX7_power_38 ?_
                  refine pb_getf g fX7_16 dX7_power_39 dr_o rfl ?_
                  refine pb_iload_n1 g dX7_power_42 ?_
                  refine pb_aaldN g dX7_power_43 dr_shs (by decide) (by omega) (by omega) (by rfl) ?_
                  refine pb_getf g fX7_129 dX7_power_44 (dr_sh (by omega)) rfl ?_
                  refine pb_aload_n0 g dX7_power_47 ?_
                  refine pb_getf g fX7_33 dX7_power_48 dr_o rfl ?_
                  refine pb_iload4 g dX7_power_51 ?_
                  refine pb_lload_n2 g dX7_power_53 ?_
                  refine pb_Si4 g qX7_172 dX7_power_54 (k + 5) (by omega) (c_along (k + 4) n i0 (25 + s0) E hn hi0 hE (fr s0) (μ s0) ((d2 s0 hs0).2.2 h3) hpm.1 _ (dr_fr (by omega))) (fun r54 h54 e54 => ?_)
                  obtain ⟨rfl, rfl⟩ := e54
                  refine pb_goto g 61 dX7_power_57 (by decide) ?_
                  refine pb_iret g z dX7_power_61 ?_
                  exact ⟨_, rfl, by rw [e], ⟨_, _, _, _, _, _, _, _, _, _, _, rfl, d1, d2, d3, d4⟩⟩
              · exact absurd c19 (by omega)
        · have e : sPower ((n, P, S, sd), (σ, μ, K, Hh), (ts, zz, it), (ra, tr)) (nI s0) (lN E) (nI i0) = -1 := by simp only [sPower, hs, hi, if_neg hneg, if_neg h3]
          refine pb_aload_n0 g dX7_power_0 ?_
          refine pb_iload_n1 g dX7_power_1 ?_
          refine pb_Vi1 g qX7_148 dX7_power_2 (k + 5) (by omega) dr_o (x_isShuffleT (k + 5) (by assumption) hS) (fun r2 h2 e2 => ?_)
          obtain ⟨rfl, rfl⟩ := e2
          first | refine pb_if_eqN g 23 dX7_power_5 (by decide) (by omega) (fun c5 => ?_) (fun c5 => ?_) | refine pb_if_eq g 23 dX7_power_5 (by decide) (fun c5 => ?_) (fun c5 => ?_)
          · exact absurd c5 (by decide)
          · refine pb_aload_n0 g dX7_power_8 ?_
            refine pb_iload4 g dX7_power_9 ?_
            refine pb_Vi1 g qX7_115 dX7_power_11 (k + 5) (by omega) dr_o (x_isPlaceT (k + 5) (by assumption) hn) (fun r11 h11 e11 => ?_)
            obtain ⟨rfl, rfl⟩ := e11
            first | refine pb_if_eqN g 23 dX7_power_14 (by decide) (by omega) (fun c14 => ?_) (fun c14 => ?_) | refine pb_if_eq g 23 dX7_power_14 (by decide) (fun c14 => ?_) (fun c14 => ?_)
            · exact absurd c14 (by decide)
            · refine pb_lload_n2 g dX7_power_17 ?_
              refine pb_lconst (v := lN 0) g dX7_power_18 rfl ?_
              first | refine pb_lc_geN g 26 dX7_power_19 dX7_power_20 (by decide) (by omega) (by omega) (fun c19 => ?_) (fun c19 => ?_) | refine pb_lc_ge g 26 dX7_power_19 dX7_power_20 (by decide) (fun c19 => ?_) (fun c19 => ?_)
              · refine pb_aload_n0 g dX7_power_26 ?_
                refine pb_getf g fX7_16 dX7_power_27 dr_o rfl ?_
                refine pb_iload_n1 g dX7_power_30 ?_
                refine pb_aaldN g dX7_power_31 dr_shs (by decide) (by omega) (by omega) (by rfl) ?_
                refine pb_Vi0 g qX7_151 dX7_power_32 (k + 5) (by omega) (dr_sh (by omega)) (x_hasMove (k + 5) (s := s0) (K := K s0) (by omega) (d2 s0 (by assumption)).1 (hK s0 (by assumption)).1) (fun r32 h32 e32 => ?_)
                obtain ⟨rfl, rfl⟩ := e32
                rw [if_neg (by assumption)]
                first | refine pb_if_eqN g 60 dX7_power_35 (by decide) (by omega) (fun c35 => ?_) (fun c35 => ?_) | refine pb_if_eq g 60 dX7_power_35 (by decide) (fun c35 => ?_) (fun c35 => ?_)
                · refine pb_iconst (v := -1) g dX7_power_60 (by decide) ?_
                  refine pb_iret g z dX7_power_61 ?_
                  exact ⟨_, rfl, by rw [e], ⟨_, _, _, _, _, _, _, _, _, _, _, rfl, d1, d2, d3, d4⟩⟩
                · exact absurd c35 (by decide)
              · exact absurd c19 (by omega)
