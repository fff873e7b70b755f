/-! ===== the desk: lots told and drawn ===== -/
def lcg (s : Int32) : Int32 := s * nI 1103515245 + nI 12345
def lotV (s : Int32) : Nat := ((s.toUInt32 >>> ((nI 16).toUInt32 &&& Int32.toUInt32 31)).toInt32).toBitVec.toNat % 2 ^ 4
theorem lotV_eq (s : Int32) : (s.toUInt32 >>> ((nI 16).toUInt32 &&& Int32.toUInt32 31)).toInt32 &&& nI 15 = nI (lotV s) := pk_and _ 4 (by decide)
theorem lotV_lt (s : Int32) : lotV s < 16 := Nat.mod_lt _ (by decide)
/-- at most so many draws: the seed then, and the lot -/
def dwL (b : Nat) : Nat → Int32 → Int32 × Nat
  | 0, s => (s, 0)
  | d + 1, s => if lotV (lcg s) < b then (lcg s, lotV (lcg s)) else dwL b d (lcg s)
theorem dwL_lt {b : Nat} (hb : 0 < b) : ∀ d s, (dwL b d s).2 < b
  | 0, s => hb
  | d + 1, s => by
    unfold dwL
    split
    · next q => exact q
    · exact dwL_lt hb d _
/-- how many draws at most: a number that nobody unfolds -/
noncomputable def dwMx : Nat := Classical.choose (⟨1048576, rfl⟩ : ∃ m : Nat, m = 1048576)
theorem dwMx_eq : dwMx = 1048576 := Classical.choose_spec (⟨1048576, rfl⟩ : ∃ m : Nat, m = 1048576)
noncomputable def dwS (b : Nat) (s : Int32) : Nat → Int32
  | 0 => s
  | i + 1 => (dwL b dwMx (dwS b s i)).1
noncomputable def dwV (b : Nat) (s : Int32) (i : Nat) : Nat := (dwL b dwMx (dwS b s i)).2
/-- lots as one number -/
def asN (b : Nat) (l : Nat → Nat) : Nat → Nat
  | 0 => 0
  | i + 1 => asN b l i + l i * b ^ i
def sLots : SP → Int32 → Int32 → Int64 → Int32 × SP
  | ((n, P, S, sd), (σ, μ, K, Hh), c, d), s, p, L => match ix s S, ix p P with
    | some s, some p => if K s < 3 then (-3, ((n, P, S, sd), (σ, μ, K, Hh), c, d)) else if L < 0 ∨ lN (Hh s ^ lotN (K s) n) ≤ L then (-2, ((n, P, S, sd), (σ, μ, K, Hh), c, d)) else (1, ((n, P, S, sd), (va_up σ p (layO n (K s) (fun i => L.toNatClampNeg / Hh s ^ i % Hh s) (σ p)), μ, K, Hh), c, d))
    | _, _ => (-2, ((n, P, S, sd), (σ, μ, K, Hh), c, d))
noncomputable def sDraw : SP → Int32 → Int32 → Int64 × SP
  | ((n, P, S, sd), (σ, μ, K, Hh), c, d), s, p => match ix s S, ix p P with
    | some s, some p => if K s < 3 then (NOL, ((n, P, S, sd), (σ, μ, K, Hh), c, d)) else (lN (asN (Hh s) (dwV (Hh s) sd) (lotN (K s) n)), ((n, P, S, dwS (Hh s) sd (lotN (K s) n)), (va_up σ p (layO n (K s) (dwV (Hh s) sd) (σ p)), μ, K, Hh), c, d))
    | _, _ => (NOL, ((n, P, S, sd), (σ, μ, K, Hh), c, d))
theorem lot_lt {K n a : Nat} (ha : a ≤ 10) (hn : n ≤ 10) : a ^ lotN K n ≤ 10 ^ 10 := by
  refine Nat.le_trans (Nat.pow_le_pow_left ha _) (Nat.pow_le_pow_right (by decide) ?_)
  unfold lotN
  split <;> omega
set_option maxHeartbeats 4000000 in
set_option maxRecDepth 100000 in
theorem x_drawnLot (k : Nat) {cd pc sc sd ar ak an ah : Int32} {pk fr it jk : Nat → Nat → Int32} {kd hp ts tz kt : Nat → Int32} {jl : Nat → Nat → Int64} {b : Nat} (hb : b ≤ 10) : Runs yX7_drawnLot cX7_drawnLot 4 (some .int) (k) [.ref 0, .int (nI b)] (mkH 52 (dkF cd pc sc sd pk fr it kd hp ts tz ar ak an ah kt jk jl)) (fun oo h' => ∃ r : Int32, oo = some (.int r) ∧ r = nI (dwL b dwMx sd).2 ∧ mkH 52 (dkF cd pc sc ((dwL b dwMx sd).1) pk fr it kd hp ts tz ar ak an ah kt jk jl) = h') := by
  refine Runs.of (by decide) (Nat.le_of_ble_eq_true rfl) [some (.ref 0), some (.int (nI b)), none, none] 2 rfl (fun Γ g z => ?_)
  have hM := dwMx_eq
  have loop : ∀ i, i ≤ dwMx → ∀ (s : Int32) (w : Option Value), dwL b (dwMx - i) s = dwL b dwMx sd → PB Γ 2 [some (.ref 0), some (.int (nI b)), some (.int (nI i)), w] [] (mkH 52 (dkF cd pc sc (s) pk fr it kd hp ts tz ar ak an ah kt jk jl)) := by
    refine pb_loop dwMx (fun i hi ih s w he => ?_)
    by_cases hin : i < dwMx
    · have ih := ih hin
      rw [show dwMx - i = dwMx - (i + 1) + 1 by omega, dwL] at he
      have hv := lotV_lt (lcg s)
      refine pb_iload_n2 g dX7_drawnLot_2 ?_
      refine pb_ldcw (w := nI 1048576) g kX7_277 (by decide) dX7_drawnLot_3 ?_
      first | refine pb_icmp_geN g 49 dX7_drawnLot_6 (by decide) (by omega) (by omega) (fun c6 => ?_) (fun c6 => ?_) | refine pb_icmp_ge g 49 dX7_drawnLot_6 (by decide) (fun c6 => ?_) (fun c6 => ?_)
      · exact absurd c6 (by omega)
      · refine pb_aload_n0 g dX7_drawnLot_9 ?_
        refine pb_aload_n0 g dX7_drawnLot_10 ?_
        refine pb_getf g fX7_43 dX7_drawnLot_11 dr_o rfl ?_
        refine pb_ldcw (w := nI 1103515245) g kX7_278 (by decide) dX7_drawnLot_14 ?_
        refine pb_imul g dX7_drawnLot_17 ?_
        refine pb_sipush (v := nI 12345) g dX7_drawnLot_18 (by decide) ?_
        refine pb_iadd g dX7_drawnLot_21 ?_
        change PB Γ _ _ (.int (lcg s) :: _) _
        refine pb_puti g wX7_43 dX7_drawnLot_22 dr_o (Nat.le_of_ble_eq_true rfl) ?_
        rw [ds_sd]
        refine pb_aload_n0 g dX7_drawnLot_25 ?_
        refine pb_getf g fX7_43 dX7_drawnLot_26 dr_o rfl ?_
        refine pb_bipush (v := nI 16) g dX7_drawnLot_29 (by decide) ?_
        refine pb_iushr g dX7_drawnLot_31 ?_
        refine pb_bipush (v := nI 15) g dX7_drawnLot_32 (by decide) ?_
        refine pb_iand g dX7_drawnLot_34 ?_
        rw [lotV_eq]
        refine pb_istore_n3 g dX7_drawnLot_35 (by decide) ?_
        refine pb_iload_n3 g dX7_drawnLot_36 ?_
        refine pb_iload_n1 g dX7_drawnLot_37 ?_
        first | refine pb_icmp_geN g 43 dX7_drawnLot_38 (by decide) (by omega) (by omega) (fun c38 => ?_) (fun c38 => ?_) | refine pb_icmp_ge g 43 dX7_drawnLot_38 (by decide) (fun c38 => ?_) (fun c38 => ?_)
        · first | refine pb_iinc2N g dX7_drawnLot_43 (by decide) ?_ | refine pb_iinc2 g dX7_drawnLot_43 (by decide) rfl ?_
          refine pb_goto g 2 dX7_drawnLot_46 (by decide) ?_
          rw [if_neg (by omega)] at he
          exact ih _ _ he
        · refine pb_iload_n3 g dX7_drawnLot_41 ?_
          refine pb_iret g z dX7_drawnLot_42 ?_
          rw [if_pos c38] at he
          exact ⟨_, rfl, by rw [← he], by rw [← he]⟩
    · obtain rfl : i = dwMx := by omega
      rw [Nat.sub_self, dwL] at he
      refine pb_iload_n2 g dX7_drawnLot_2 ?_
      refine pb_ldcw (w := nI 1048576) g kX7_277 (by decide) dX7_drawnLot_3 ?_
      first | refine pb_icmp_geN g 49 dX7_drawnLot_6 (by decide) (by omega) (by omega) (fun c6 => ?_) (fun c6 => ?_) | refine pb_icmp_ge g 49 dX7_drawnLot_6 (by decide) (fun c6 => ?_) (fun c6 => ?_)
      · refine pb_iconst (v := nI 0) g dX7_drawnLot_49 (by decide) ?_
        refine pb_iret g z dX7_drawnLot_50 ?_
        exact ⟨_, rfl, by rw [← he], by rw [← he]⟩
      · exact absurd c6 (by omega)
  refine pb_iconst (v := nI 0) g dX7_drawnLot_0 (by decide) ?_
  refine pb_istore_n2 g dX7_drawnLot_1 (by decide) ?_
  exact loop 0 (Nat.zero_le _) sd _ rfl
set_option maxHeartbeats 4000000 in
set_option maxRecDepth 100000 in
theorem x_lots (k : Nat) (q : SP) (s p : Int32) (L : Int64) (h : PH) (hD : IsD q h) (hI : SI q) : Runs yX7_lots cX7_lots 9 (some .int) (k + 6) [.ref 0, .int s, .int p, .long L] h (fun o h' => ∃ r : Int32, o = some (.int r) ∧ r = (sLots q s p L).1 ∧ IsD ((sLots q s p L).2) h') := by
  obtain ⟨⟨n, P, S, sd⟩, ⟨σ, μ, K, Hh⟩, ⟨ts, zz, it⟩, ⟨ra, tr⟩⟩ := q
  obtain ⟨⟨hn1, hn, hP, hS⟩, hσ, hK, hz, hra⟩ := hI
  obtain ⟨pk, fr, itd, jk, kd, hp, kt, ak, an, ah, jl, rfl, d1, d2, d3, d4⟩ := hD
  refine Runs.of (by decide) (Nat.le_of_ble_eq_true rfl) [some (.ref 0), some (.int s), some (.int p), some (.long L), none, none, none, none, none] 4 rfl (fun Γ g z => ?_)
  cases hs : ix s S with
  | none =>
    have e : sLots ((n, P, S, sd), (σ, μ, K, Hh), (ts, zz, it), (ra, tr)) s p L = (-2, ((n, P, S, sd), (σ, μ, K, Hh), (ts, zz, it), (ra, tr))) := by simp only [sLots, hs]
    have hsn := ix_none (by omega) hs
    refine pb_aload_n0 g dX7_lots_0 ?_
    refine pb_iload_n1 g dX7_lots_1 ?_
    refine pb_Vi1 g qX7_148 dX7_lots_2 (k + 5) (by omega) dr_o (x_isShuffleF (k + 5) (by assumption) hS) (fun r2 h2 e2 => ?_)
    obtain ⟨rfl, rfl⟩ := e2
    first | refine pb_if_eqN g 16 dX7_lots_5 (by decide) (by omega) (fun c5 => ?_) (fun c5 => ?_) | refine pb_if_eq g 16 dX7_lots_5 (by decide) (fun c5 => ?_) (fun c5 => ?_)
    · refine pb_bipush (v := -2) g dX7_lots_16 (by decide) ?_
      refine pb_iret g z dX7_lots_18 ?_
      exact ⟨_, rfl, by rw [e], by rw [e]; exact ⟨_, _, _, _, _, _, _, _, _, _, _, rfl, d1, d2, d3, d4⟩⟩
    · exact absurd c5 (by decide)
  | some s0 =>
    obtain ⟨hs0, rfl⟩ := ix_some (by omega) hs
    cases hpx : ix p P with
    | none =>
      have e : sLots ((n, P, S, sd), (σ, μ, K, Hh), (ts, zz, it), (ra, tr)) (nI s0) p L = (-2, ((n, P, S, sd), (σ, μ, K, Hh), (ts, zz, it), (ra, tr))) := by simp only [sLots, hs, hpx]
      have hpn := ix_none (by omega) hpx
      refine pb_aload_n0 g dX7_lots_0 ?_
      refine pb_iload_n1 g dX7_lots_1 ?_
      refine pb_Vi1 g qX7_148 dX7_lots_2 (k + 5) (by omega) dr_o (x_isShuffleT (k + 5) (by assumption) hS) (fun r2 h2 e2 => ?_)
      obtain ⟨rfl, rfl⟩ := e2
      first | refine pb_if_eqN g 16 dX7_lots_5 (by decide) (by omega) (fun c5 => ?_) (fun c5 => ?_) | refine pb_if_eq g 16 dX7_lots_5 (by decide) (fun c5 => ?_) (fun c5 => ?_)
      · exact absurd c5 (by decide)
      · refine pb_aload_n0 g dX7_lots_8 ?_
        refine pb_iload_n2 g dX7_lots_9 ?_
        refine pb_Vi1 g qX7_112 dX7_lots_10 (k + 5) (by omega) dr_o (x_isPackF (k + 5) (by assumption) hP) (fun r10 h10 e10 => ?_)
        obtain ⟨rfl, rfl⟩ := e10
        first | refine pb_if_neN g 19 dX7_lots_13 (by decide) (by omega) (fun c13 => ?_) (fun c13 => ?_) | refine pb_if_ne g 19 dX7_lots_13 (by decide) (fun c13 => ?_) (fun c13 => ?_)
        · exact absurd c13 (by decide)
        · refine pb_bipush (v := -2) g dX7_lots_16 (by decide) ?_
          refine pb_iret g z dX7_lots_18 ?_
          exact ⟨_, rfl, by rw [e], by rw [e]; exact ⟨_, _, _, _, _, _, _, _, _, _, _, rfl, d1, d2, d3, d4⟩⟩
    | some p0 =>
      obtain ⟨hp0, rfl⟩ := ix_some (by omega) hpx
      have hKs := hK s0 hs0
      by_cases h3 : K s0 < 3
      · have e : sLots ((n, P, S, sd), (σ, μ, K, Hh), (ts, zz, it), (ra, tr)) (nI s0) (nI p0) L = (-3, ((n, P, S, sd), (σ, μ, K, Hh), (ts, zz, it), (ra, tr))) := by simp only [sLots, hs, hpx, if_pos h3]
        refine pb_aload_n0 g dX7_lots_0 ?_
        refine pb_iload_n1 g dX7_lots_1 ?_
        refine pb_Vi1 g qX7_148 dX7_lots_2 (k + 5) (by omega) dr_o (x_isShuffleT (k + 5) (by assumption) hS) (fun r2 h2 e2 => ?_)
        obtain ⟨rfl, rfl⟩ := e2
        first | refine pb_if_eqN g 16 dX7_lots_5 (by decide) (by omega) (fun c5 => ?_) (fun c5 => ?_) | refine pb_if_eq g 16 dX7_lots_5 (by decide) (fun c5 => ?_) (fun c5 => ?_)
        · exact absurd c5 (by decide)
        · refine pb_aload_n0 g dX7_lots_8 ?_
          refine pb_iload_n2 g dX7_lots_9 ?_
          refine pb_Vi1 g qX7_112 dX7_lots_10 (k + 5) (by omega) dr_o (x_isPackT (k + 5) (by assumption) hP) (fun r10 h10 e10 => ?_)
          obtain ⟨rfl, rfl⟩ := e10
          first | refine pb_if_neN g 19 dX7_lots_13 (by decide) (by omega) (fun c13 => ?_) (fun c13 => ?_) | refine pb_if_ne g 19 dX7_lots_13 (by decide) (fun c13 => ?_) (fun c13 => ?_)
          · refine pb_aload_n0 g dX7_lots_19 ?_
            refine pb_getf g fX7_16 dX7_lots_20 dr_o rfl ?_
            refine pb_iload_n1 g dX7_lots_23 ?_
            refine pb_aaldN g dX7_lots_24 dr_shs (by decide) (by omega) (by omega) (by rfl) ?_
            refine pb_astore5 g dX7_lots_25 (by decide) ?_
            refine pb_aload5 g dX7_lots_27 ?_
            refine pb_Vi0 g qX7_151 dX7_lots_29 (k + 5) (by omega) (dr_sh (by omega)) (x_hasMove (k + 5) (s := s0) (K := K s0) (by omega) (d2 s0 (by assumption)).1 (hK s0 (by assumption)).1) (fun r29 h29 e29 => ?_)
            obtain ⟨rfl, rfl⟩ := e29
            rw [if_pos (by assumption)]
            first | refine pb_if_eqN g 38 dX7_lots_32 (by decide) (by omega) (fun c32 => ?_) (fun c32 => ?_) | refine pb_if_eq g 38 dX7_lots_32 (by decide) (fun c32 => ?_) (fun c32 => ?_)
            · exact absurd c32 (by decide)
            · refine pb_bipush (v := -3) g dX7_lots_35 (by decide) ?_
              refine pb_iret g z dX7_lots_37 ?_
              exact ⟨_, rfl, by rw [e], by rw [e]; exact ⟨_, _, _, _, _, _, _, _, _, _, _, rfl, d1, d2, d3, d4⟩⟩
          · exact absurd c13 (by decide)
      · have hll : lotN (K s0) n ≤ 10 := by unfold lotN; split <;> omega
        have hpw := lot_lt (K := K s0) (n := n) (a := Hh s0) hKs.2.2.1 hn
        by_cases hb : L < 0 ∨ lN (Hh s0 ^ lotN (K s0) n) ≤ L
        · have e : sLots ((n, P, S, sd), (σ, μ, K, Hh), (ts, zz, it), (ra, tr)) (nI s0) (nI p0) L = (-2, ((n, P, S, sd), (σ, μ, K, Hh), (ts, zz, it), (ra, tr))) := by simp only [sLots, hs, hpx, if_neg h3, if_pos hb]
          refine pb_aload_n0 g dX7_lots_0 ?_
          refine pb_iload_n1 g dX7_lots_1 ?_
          refine pb_Vi1 g qX7_148 dX7_lots_2 (k + 5) (by omega) dr_o (x_isShuffleT (k + 5) (by assumption) hS) (fun r2 h2 e2 => ?_)
          obtain ⟨rfl, rfl⟩ := e2
          first | refine pb_if_eqN g 16 dX7_lots_5 (by decide) (by omega) (fun c5 => ?_) (fun c5 => ?_) | refine pb_if_eq g 16 dX7_lots_5 (by decide) (fun c5 => ?_) (fun c5 => ?_)
          · exact absurd c5 (by decide)
          · refine pb_aload_n0 g dX7_lots_8 ?_
            refine pb_iload_n2 g dX7_lots_9 ?_
            refine pb_Vi1 g qX7_112 dX7_lots_10 (k + 5) (by omega) dr_o (x_isPackT (k + 5) (by assumption) hP) (fun r10 h10 e10 => ?_)
            obtain ⟨rfl, rfl⟩ := e10
            first | refine pb_if_neN g 19 dX7_lots_13 (by decide) (by omega) (fun c13 => ?_) (fun c13 => ?_) | refine pb_if_ne g 19 dX7_lots_13 (by decide) (fun c13 => ?_) (fun c13 => ?_)
            · refine pb_aload_n0 g dX7_lots_19 ?_
              refine pb_getf g fX7_16 dX7_lots_20 dr_o rfl ?_
              refine pb_iload_n1 g dX7_lots_23 ?_
              refine pb_aaldN g dX7_lots_24 dr_shs (by decide) (by omega) (by omega) (by rfl) ?_
              refine pb_astore5 g dX7_lots_25 (by decide) ?_
              refine pb_aload5 g dX7_lots_27 ?_
              refine pb_Vi0 g qX7_151 dX7_lots_29 (k + 5) (by omega) (dr_sh (by omega)) (x_hasMove (k + 5) (s := s0) (K := K s0) (by omega) (d2 s0 (by assumption)).1 (hK s0 (by assumption)).1) (fun r29 h29 e29 => ?_)
              obtain ⟨rfl, rfl⟩ := e29
              rw [if_neg (by assumption)]
              first | refine pb_if_eqN g 38 dX7_lots_32 (by decide) (by omega) (fun c32 => ?_) (fun c32 => ?_) | refine pb_if_eq g 38 dX7_lots_32 (by decide) (fun c32 => ?_) (fun c32 => ?_)
              · refine pb_lload_n3 g dX7_lots_38 ?_
                refine pb_lconst (v := lN 0) g dX7_lots_39 rfl ?_
                first | refine pb_lc_ltN g 64 dX7_lots_40 dX7_lots_41 (by decide) (by omega) (by omega) (fun c40 => ?_) (fun c40 => ?_) | refine pb_lc_lt g 64 dX7_lots_40 dX7_lots_41 (by decide) (fun c40 => ?_) (fun c40 => ?_)
                · refine pb_bipush (v := -2) g dX7_lots_64 (by decide) ?_
                  refine pb_iret g z dX7_lots_66 ?_
                  exact ⟨_, rfl, by rw [e], by rw [e]; exact ⟨_, _, _, _, _, _, _, _, _, _, _, rfl, d1, d2, d3, d4⟩⟩
                · refine pb_lload_n3 g dX7_lots_44 ?_
                  refine pb_aload5 g dX7_lots_45 ?_
                  refine pb_getf g fX7_161 dX7_lots_47 (dr_sh (by omega)) rfl ?_
                  rw [(d2 s0 hs0).2.1]
                  first | refine pb_i2lN g dX7_lots_50 (by omega) ?_ | refine pb_i2l g dX7_lots_50 ?_
                  refine pb_aload_n0 g dX7_lots_51 ?_
                  refine pb_aload5 g dX7_lots_52 ?_
                  refine pb_Vi1 g qX7_179 dX7_lots_54 (k + 5) (by omega) dr_o (x_lotsOf (k + 5) (s := s0) (K := K s0) (n := n) (by omega) (d2 s0 hs0).1 hKs.1) (fun r54 h54 e54 => ?_)
                  obtain ⟨rfl, rfl⟩ := e54
                  change PB Γ _ _ (.int (nI (lotN (K s0) n)) :: _) _
                  refine pb_Sl2 g qX7_183 dX7_lots_57 (k + 5) (by omega) (c_raised (k + 5) (Hh s0) (lotN (K s0) n) (by omega) _) (fun r57 h57 e57 => ?_)
                  obtain ⟨rfl, rfl⟩ := e57
                  first | refine pb_lc_ltN g 67 dX7_lots_60 dX7_lots_61 (by decide) (by omega) (by omega) (fun c60 => ?_) (fun c60 => ?_) | refine pb_lc_lt g 67 dX7_lots_60 dX7_lots_61 (by decide) (fun c60 => ?_) (fun c60 => ?_)
                  · exact absurd hb (fun q => q.elim c40 (fun w => absurd c60 (Int64.not_lt.mpr w)))
                  · refine pb_bipush (v := -2) g dX7_lots_64 (by decide) ?_
                    refine pb_iret g z dX7_lots_66 ?_
                    exact ⟨_, rfl, by rw [e], by rw [e]; exact ⟨_, _, _, _, _, _, _, _, _, _, _, rfl, d1, d2, d3, d4⟩⟩
              · exact absurd c32 (by decide)
            · exact absurd c13 (by decide)
        · obtain ⟨E, hE, rfl⟩ := pk_lOf (fun q => hb (Or.inl q))
          have hE2 : E < Hh s0 ^ lotN (K s0) n := Nat.not_le.mp fun q => hb (Or.inr ((pk_lLE (by omega) hE).mpr q))
          have e : sLots ((n, P, S, sd), (σ, μ, K, Hh), (ts, zz, it), (ra, tr)) (nI s0) (nI p0) (lN E) = (1, ((n, P, S, sd), (va_up σ p0 (layO n (K s0) (fun i => E / Hh s0 ^ i % Hh s0) (σ p0)), μ, K, Hh), (ts, zz, it), (ra, tr))) := by simp only [sLots, hs, hpx, if_neg h3, if_neg hb, lN_clamp hE]
          have h0 : ¬ lN E < 0 := fun q => hb (Or.inl q)
          have loop : ∀ i, i ≤ lotN (K s0) n → ∀ j4 : Nat → Nat → Int32, (∀ m, m < i → j4 2 m = nI (E / Hh s0 ^ m % Hh s0)) → PB Γ 73 [some (.ref 0), some (.int (nI s0)), some (.int (nI p0)), some (.long (lN E)), none, some (.ref (15 + s0)), some (.long (lN (E / Hh s0 ^ i))), none, some (.int (nI i))] [] (mkH 52 (dkF (nI n) (nI P) (nI S) sd pk fr (itd) kd hp ts (fun t => nI (zz t)) (nI ra) ak an ah kt (j4) jl)) := by
            refine pb_loop (lotN (K s0) n) (fun i hi ih j4 q2 => ?_)
            have hdv : E / Hh s0 ^ i ≤ E := Nat.div_le_self _ _
            by_cases hin : i < lotN (K s0) n
            · have ih := ih hin
              rw [Nat.pow_succ, ← Nat.div_div_eq_div_mul] at ih
              refine pb_iload8 g dX7_lots_73 ?_
              refine pb_aload_n0 g dX7_lots_75 ?_
              refine pb_aload5 g dX7_lots_76 ?_
              refine pb_Vi1 g qX7_179 dX7_lots_78 (k + 5) (by omega) dr_o (x_lotsOf (k + 5) (s := s0) (K := K s0) (n := n) (by omega) (d2 s0 hs0).1 hKs.1) (fun r78 h78 e78 => ?_)
              obtain ⟨rfl, rfl⟩ := e78
              change PB Γ _ _ (.int (nI (lotN (K s0) n)) :: _) _
              first | refine pb_icmp_geN g 118 dX7_lots_81 (by decide) (by omega) (by omega) (fun c81 => ?_) (fun c81 => ?_) | refine pb_icmp_ge g 118 dX7_lots_81 (by decide) (fun c81 => ?_) (fun c81 => ?_)
              · exact absurd c81 (by omega)
              · refine pb_aload_n0 g dX7_lots_84 ?_
                refine pb_getf g fX7_53 dX7_lots_85 dr_o rfl ?_
                refine pb_iload8 g dX7_lots_88 ?_
                refine pb_lload6 g dX7_lots_90 ?_
                refine pb_aload5 g dX7_lots_92 ?_
                refine pb_getf g fX7_161 dX7_lots_94 (dr_sh (by omega)) rfl ?_
                rw [(d2 s0 hs0).2.1]
                first | refine pb_i2lN g dX7_lots_97 (by omega) ?_ | refine pb_i2l g dX7_lots_97 ?_
                first | refine pb_lremN g dX7_lots_98 (by omega) (by omega) (by omega) ?_ | refine pb_lrem g dX7_lots_98 (by assumption) ?_
                first | refine pb_l2iN g dX7_lots_99 ?_ | refine pb_l2i g dX7_lots_99 ?_
                first | refine pb_iastN g dX7_lots_100 (by first | exact dr_lr | exact dr_pk (by omega) | exact dr_fr (by omega) | exact dr_it (by omega) | exact dr_kt | exact dr_bf | exact dr_pl | exact dr_nh | exact dr_lc | exact dr_bl | assumption) (by omega) (by omega) ?_ | refine pb_iast g dX7_lots_100 (by first | exact dr_lr | exact dr_pk (by omega) | exact dr_fr (by omega) | exact dr_it (by omega) | exact dr_kt | exact dr_bf | exact dr_pl | exact dr_nh | exact dr_lc | exact dr_bl | assumption) (by assumption) ?_
                rw [ds_lr]
                refine pb_lload6 g dX7_lots_101 ?_
                refine pb_aload5 g dX7_lots_103 ?_
                refine pb_getf g fX7_161 dX7_lots_105 (dr_sh (by omega)) rfl ?_
                rw [(d2 s0 hs0).2.1]
                first | refine pb_i2lN g dX7_lots_108 (by omega) ?_ | refine pb_i2l g dX7_lots_108 ?_
                first | refine pb_ldivN g dX7_lots_109 (by omega) (by omega) (by omega) ?_ | refine pb_ldiv g dX7_lots_109 (by assumption) ?_
                refine pb_lstore6 g dX7_lots_110 (by decide) ?_
                first | refine pb_iinc8N g dX7_lots_112 (by decide) ?_ | refine pb_iinc8 g dX7_lots_112 (by decide) rfl ?_
                refine pb_goto g 73 dX7_lots_115 (by decide) ?_
                exact ih _ (fun m hm => by
                  rw [va_upS, upd]
                  by_cases q : m = i
                  · rw [if_pos q, q]
                  · rw [if_neg q]
                    exact q2 m (by omega))
            · obtain rfl : i = lotN (K s0) n := by omega
              refine pb_iload8 g dX7_lots_73 ?_
              refine pb_aload_n0 g dX7_lots_75 ?_
              refine pb_aload5 g dX7_lots_76 ?_
              refine pb_Vi1 g qX7_179 dX7_lots_78 (k + 5) (by omega) dr_o (x_lotsOf (k + 5) (s := s0) (K := K s0) (n := n) (by omega) (d2 s0 hs0).1 hKs.1) (fun r78 h78 e78 => ?_)
              obtain ⟨rfl, rfl⟩ := e78
              change PB Γ _ _ (.int (nI (lotN (K s0) n)) :: _) _
              first | refine pb_icmp_geN g 118 dX7_lots_81 (by decide) (by omega) (by omega) (fun c81 => ?_) (fun c81 => ?_) | refine pb_icmp_ge g 118 dX7_lots_81 (by decide) (fun c81 => ?_) (fun c81 => ?_)
              · refine pb_aload_n0 g dX7_lots_118 ?_
                refine pb_aload5 g dX7_lots_119 ?_
                refine pb_aload_n0 g dX7_lots_121 ?_
                refine pb_getf g fX7_11 dX7_lots_122 dr_o rfl ?_
                refine pb_iload_n2 g dX7_lots_125 ?_
                refine pb_aaldN g dX7_lots_126 dr_packs (by decide) (by omega) (by omega) (by rfl) ?_
                refine pb_Vv2 g qX7_189 dX7_lots_127 (k + 5) (by omega) dr_o (x_layByLots (k + 4) (s := s0) (K := K s0) (n := n) (a := Hh s0) (p := p0) (by omega) (d2 s0 hs0).1 (d2 s0 hs0).2.1 hKs.1 hn hn1 hKs.2.2.1 (by omega) (fun i => E / Hh s0 ^ i % Hh s0) (fun q => ⟨q2 0 (by unfold lotN; rw [if_pos q]; decide), Nat.lt_of_lt_of_le (Nat.mod_lt _ (by omega)) (by rw [hKs.2.2.2.1 q]; exact Nat.le_refl _)⟩) (fun q i hi => ⟨q2 i (by unfold lotN; rw [if_neg q]; exact hi), Nat.mod_lt _ (by omega)⟩)) (fun h127 e127 => ?_)
                obtain ⟨f9, j9, rfl, hf9⟩ := e127
                refine pb_iconst (v := nI 1) g dX7_lots_130 (by decide) ?_
                refine pb_iret g z dX7_lots_131 ?_
                exact ⟨_, rfl, by rw [e]; rfl, by rw [e]; exact ⟨_, _, _, _, _, _, _, _, _, _, _, rfl, d1_up d1 (fun j hj => by
                  obtain ⟨i9, h9, h8, h7⟩ := hf9 j hj
                  rw [h8, h7]
                  exact d1 p0 hp0 i9 h9) (fun p h1 _ => h1), d2, d3, d4⟩⟩
              · exact absurd c81 (by omega)
          refine pb_aload_n0 g dX7_lots_0 ?_
          refine pb_iload_n1 g dX7_lots_1 ?_
          refine pb_Vi1 g qX7_148 dX7_lots_2 (k + 5) (by omega) dr_o (x_isShuffleT (k + 5) (by assumption) hS) (fun r2 h2 e2 => ?_)
          obtain ⟨rfl, rfl⟩ := e2
          first | refine pb_if_eqN g 16 dX7_lots_5 (by decide) (by omega) (fun c5 => ?_) (fun c5 => ?_) | refine pb_if_eq g 16 dX7_lots_5 (by decide) (fun c5 => ?_) (fun c5 => ?_)
          · exact absurd c5 (by decide)
          · refine pb_aload_n0 g dX7_lots_8 ?_
            refine pb_iload_n2 g dX7_lots_9 ?_
            refine pb_Vi1 g qX7_112 dX7_lots_10 (k + 5) (by omega) dr_o (x_isPackT (k + 5) (by assumption) hP) (fun r10 h10 e10 => ?_)
            obtain ⟨rfl, rfl⟩ := e10
            first | refine pb_if_neN g 19 dX7_lots_13 (by decide) (by omega) (fun c13 => ?_) (fun c13 => ?_) | refine pb_if_ne g 19 dX7_lots_13 (by decide) (fun c13 => ?_) (fun c13 => ?_)
            · refine pb_aload_n0 g dX7_lots_19 ?_
              refine pb_getf g fX7_16 dX7_lots_20 dr_o rfl ?_
              refine pb_iload_n1 g dX7_lots_23 ?_
              refine pb_aaldN g dX7_lots_24 dr_shs (by decide) (by omega) (by omega) (by rfl) ?_
              refine pb_astore5 g dX7_lots_25 (by decide) ?_
              refine pb_aload5 g dX7_lots_27 ?_
              refine pb_Vi0 g qX7_151 dX7_lots_29 (k + 5) (by omega) (dr_sh (by omega)) (x_hasMove (k + 5) (s := s0) (K := K s0) (by omega) (d2 s0 (by assumption)).1 (hK s0 (by assumption)).1) (fun r29 h29 e29 => ?_)
              obtain ⟨rfl, rfl⟩ := e29
              rw [if_neg (by assumption)]
              first | refine pb_if_eqN g 38 dX7_lots_32 (by decide) (by omega) (fun c32 => ?_) (fun c32 => ?_) | refine pb_if_eq g 38 dX7_lots_32 (by decide) (fun c32 => ?_) (fun c32 => ?_)
              · refine pb_lload_n3 g dX7_lots_38 ?_
                refine pb_lconst (v := lN 0) g dX7_lots_39 rfl ?_
                first | refine pb_lc_ltN g 64 dX7_lots_40 dX7_lots_41 (by decide) (by omega) (by omega) (fun c40 => ?_) (fun c40 => ?_) | refine pb_lc_lt g 64 dX7_lots_40 dX7_lots_41 (by decide) (fun c40 => ?_) (fun c40 => ?_)
                · exact absurd c40 (by first | exact h0 | omega)
                · refine pb_lload_n3 g dX7_lots_44 ?_
                  refine pb_aload5 g dX7_lots_45 ?_
                  refine pb_getf g fX7_161 dX7_lots_47 (dr_sh (by omega)) rfl ?_
                  rw [(d2 s0 hs0).2.1]
                  first | refine pb_i2lN g dX7_lots_50 (by omega) ?_ | refine pb_i2l g dX7_lots_50 ?_
                  refine pb_aload_n0 g dX7_lots_51 ?_
                  refine pb_aload5 g dX7_lots_52 ?_
                  refine pb_Vi1 g qX7_179 dX7_lots_54 (k + 5) (by omega) dr_o (x_lotsOf (k + 5) (s := s0) (K := K s0) (n := n) (by omega) (d2 s0 hs0).1 hKs.1) (fun r54 h54 e54 => ?_)
                  obtain ⟨rfl, rfl⟩ := e54
                  change PB Γ _ _ (.int (nI (lotN (K s0) n)) :: _) _
                  refine pb_Sl2 g qX7_183 dX7_lots_57 (k + 5) (by omega) (c_raised (k + 5) (Hh s0) (lotN (K s0) n) (by omega) _) (fun r57 h57 e57 => ?_)
                  obtain ⟨rfl, rfl⟩ := e57
                  first | refine pb_lc_ltN g 67 dX7_lots_60 dX7_lots_61 (by decide) (by omega) (by omega) (fun c60 => ?_) (fun c60 => ?_) | refine pb_lc_lt g 67 dX7_lots_60 dX7_lots_61 (by decide) (fun c60 => ?_) (fun c60 => ?_)
                  · refine pb_lload_n3 g dX7_lots_67 ?_
                    refine pb_lstore6 g dX7_lots_68 (by decide) ?_
                    refine pb_iconst (v := nI 0) g dX7_lots_70 (by decide) ?_
                    refine pb_istore8 g dX7_lots_71 (by decide) ?_
                    have hl := loop 0 (Nat.zero_le _) jk (fun m hm => absurd hm (by omega))
                    rw [Nat.pow_zero, Nat.div_one] at hl
                    exact hl
                  · exact absurd hE2 (by omega)
              · exact absurd c32 (by decide)
            · exact absurd c13 (by decide)
set_option maxHeartbeats 4000000 in
set_option maxRecDepth 100000 in
theorem x_draw (k : Nat) (q : SP) (s p : Int32) (h : PH) (hD : IsD q h) (hI : SI q) : Runs yX7_draw cX7_draw 9 (some .long) (k + 6) [.ref 0, .int s, .int p] h (fun o h' => ∃ r : Int64, o = some (.long r) ∧ r = (sDraw q s p).1 ∧ IsD ((sDraw q s p).2) h') := by
  obtain ⟨⟨n, P, S, sd⟩, ⟨σ, μ, K, Hh⟩, ⟨ts, zz, it⟩, ⟨ra, tr⟩⟩ := q
  obtain ⟨⟨hn1, hn, hP, hS⟩, hσ, hK, hz, hra⟩ := hI
  obtain ⟨pk, fr, itd, jk, kd, hp, kt, ak, an, ah, jl, rfl, d1, d2, d3, d4⟩ := hD
  refine Runs.of (by decide) (Nat.le_of_ble_eq_true rfl) [some (.ref 0), some (.int s), some (.int p), none, none, none, none, none, none] 6 rfl (fun Γ g z => ?_)
  cases hs : ix s S with
  | none =>
    have e : sDraw ((n, P, S, sd), (σ, μ, K, Hh), (ts, zz, it), (ra, tr)) s p = (NOL, ((n, P, S, sd), (σ, μ, K, Hh), (ts, zz, it), (ra, tr))) := by simp only [sDraw, hs]
    have hsn := ix_none (by omega) hs
    refine pb_aload_n0 g dX7_draw_0 ?_
    refine pb_iload_n1 g dX7_draw_1 ?_
    refine pb_Vi1 g qX7_148 dX7_draw_2 (k + 5) (by omega) dr_o (x_isShuffleF (k + 5) (by assumption) hS) (fun r2 h2 e2 => ?_)
    obtain ⟨rfl, rfl⟩ := e2
    first | refine pb_if_eqN g 28 dX7_draw_5 (by decide) (by omega) (fun c5 => ?_) (fun c5 => ?_) | refine pb_if_eq g 28 dX7_draw_5 (by decide) (fun c5 => ?_) (fun c5 => ?_)
    · refine pb_ldc2w (w := (-4611686018427387904)) g kX7_193 (by decide) dX7_draw_28 ?_
      refine pb_lret g z dX7_draw_31 ?_
      exact ⟨_, rfl, by rw [e]; rfl, by rw [e]; exact ⟨_, _, _, _, _, _, _, _, _, _, _, rfl, d1, d2, d3, d4⟩⟩
    · exact absurd c5 (by decide)
  | some s0 =>
    obtain ⟨hs0, rfl⟩ := ix_some (by omega) hs
    cases hpx : ix p P with
    | none =>
      have e : sDraw ((n, P, S, sd), (σ, μ, K, Hh), (ts, zz, it), (ra, tr)) (nI s0) p = (NOL, ((n, P, S, sd), (σ, μ, K, Hh), (ts, zz, it), (ra, tr))) := by simp only [sDraw, hs, hpx]
      have hpn := ix_none (by omega) hpx
      refine pb_aload_n0 g dX7_draw_0 ?_
      refine pb_iload_n1 g dX7_draw_1 ?_
      refine pb_Vi1 g qX7_148 dX7_draw_2 (k + 5) (by omega) dr_o (x_isShuffleT (k + 5) (by assumption) hS) (fun r2 h2 e2 => ?_)
      obtain ⟨rfl, rfl⟩ := e2
      first | refine pb_if_eqN g 28 dX7_draw_5 (by decide) (by omega) (fun c5 => ?_) (fun c5 => ?_) | refine pb_if_eq g 28 dX7_draw_5 (by decide) (fun c5 => ?_) (fun c5 => ?_)
      · exact absurd c5 (by decide)
      · refine pb_aload_n0 g dX7_draw_8 ?_
        refine pb_iload_n2 g dX7_draw_9 ?_
        refine pb_Vi1 g qX7_112 dX7_draw_10 (k + 5) (by omega) dr_o (x_isPackF (k + 5) (by assumption) hP) (fun r10 h10 e10 => ?_)
        obtain ⟨rfl, rfl⟩ := e10
        first | refine pb_if_eqN g 28 dX7_draw_13 (by decide) (by omega) (fun c13 => ?_) (fun c13 => ?_) | refine pb_if_eq g 28 dX7_draw_13 (by decide) (fun c13 => ?_) (fun c13 => ?_)
        · refine pb_ldc2w (w := (-4611686018427387904)) g kX7_193 (by decide) dX7_draw_28 ?_
          refine pb_lret g z dX7_draw_31 ?_
          exact ⟨_, rfl, by rw [e]; rfl, by rw [e]; exact ⟨_, _, _, _, _, _, _, _, _, _, _, rfl, d1, d2, d3, d4⟩⟩
        · exact absurd c13 (by decide)
    | some p0 =>
      obtain ⟨hp0, rfl⟩ := ix_some (by omega) hpx
      have hKs := hK s0 hs0
      by_cases h3 : K s0 < 3
      · have e : sDraw ((n, P, S, sd), (σ, μ, K, Hh), (ts, zz, it), (ra, tr)) (nI s0) (nI p0) = (NOL, ((n, P, S, sd), (σ, μ, K, Hh), (ts, zz, it), (ra, tr))) := by simp only [sDraw, hs, hpx, if_pos h3]
        refine pb_aload_n0 g dX7_draw_0 ?_
        refine pb_iload_n1 g dX7_draw_1 ?_
        refine pb_Vi1 g qX7_148 dX7_draw_2 (k + 5) (by omega) dr_o (x_isShuffleT (k + 5) (by assumption) hS) (fun r2 h2 e2 => ?_)
        obtain ⟨rfl, rfl⟩ := e2
        first | refine pb_if_eqN g 28 dX7_draw_5 (by decide) (by omega) (fun c5 => ?_) (fun c5 => ?_) | refine pb_if_eq g 28 dX7_draw_5 (by decide) (fun c5 => ?_) (fun c5 => ?_)
        · exact absurd c5 (by decide)
        · refine pb_aload_n0 g dX7_draw_8 ?_
          refine pb_iload_n2 g dX7_draw_9 ?_
          refine pb_Vi1 g qX7_112 dX7_draw_10 (k + 5) (by omega) dr_o (x_isPackT (k + 5) (by assumption) hP) (fun r10 h10 e10 => ?_)
          obtain ⟨rfl, rfl⟩ := e10
          first | refine pb_if_eqN g 28 dX7_draw_13 (by decide) (by omega) (fun c13 => ?_) (fun c13 => ?_) | refine pb_if_eq g 28 dX7_draw_13 (by decide) (fun c13 => ?_) (fun c13 => ?_)
          · exact absurd c13 (by decide)
          · refine pb_aload_n0 g dX7_draw_16 ?_
            refine pb_getf g fX7_16 dX7_draw_17 dr_o rfl ?_
            refine pb_iload_n1 g dX7_draw_20 ?_
            refine pb_aaldN g dX7_draw_21 dr_shs (by decide) (by omega) (by omega) (by rfl) ?_
            refine pb_Vi0 g qX7_151 dX7_draw_22 (k + 5) (by omega) (dr_sh (by omega)) (x_hasMove (k + 5) (s := s0) (K := K s0) (by omega) (d2 s0 (by assumption)).1 (hK s0 (by assumption)).1) (fun r22 h22 e22 => ?_)
            obtain ⟨rfl, rfl⟩ := e22
            rw [if_pos (by assumption)]
            first | refine pb_if_eqN g 32 dX7_draw_25 (by decide) (by omega) (fun c25 => ?_) (fun c25 => ?_) | refine pb_if_eq g 32 dX7_draw_25 (by decide) (fun c25 => ?_) (fun c25 => ?_)
            · exact absurd c25 (by decide)
            · refine pb_ldc2w (w := (-4611686018427387904)) g kX7_193 (by decide) dX7_draw_28 ?_
              refine pb_lret g z dX7_draw_31 ?_
              exact ⟨_, rfl, by rw [e]; rfl, by rw [e]; exact ⟨_, _, _, _, _, _, _, _, _, _, _, rfl, d1, d2, d3, d4⟩⟩
      · have hll : lotN (K s0) n ≤ 10 := by unfold lotN; split <;> omega
        have e : sDraw ((n, P, S, sd), (σ, μ, K, Hh), (ts, zz, it), (ra, tr)) (nI s0) (nI p0) = (lN (asN (Hh s0) (dwV (Hh s0) sd) (lotN (K s0) n)), ((n, P, S, dwS (Hh s0) sd (lotN (K s0) n)), (va_up σ p0 (layO n (K s0) (dwV (Hh s0) sd) (σ p0)), μ, K, Hh), (ts, zz, it), (ra, tr))) := by simp only [sDraw, hs, hpx, if_neg h3]
        have hdl : ∀ i, dwV (Hh s0) sd i < Hh s0 := fun i => dwL_lt (by omega) _ _
        have loop : ∀ i, i ≤ lotN (K s0) n → ∀ j4 : Nat → Nat → Int32, (∀ m, m < i → j4 2 m = nI (dwV (Hh s0) sd m)) → PB Γ 48 [some (.ref 0), some (.int (nI s0)), some (.int (nI p0)), some (.ref (15 + s0)), some (.long (lN (asN (Hh s0) (dwV (Hh s0) sd) i))), none, some (.long (lN (Hh s0 ^ i))), none, some (.int (nI i))] [] (mkH 52 (dkF (nI n) (nI P) (nI S) (dwS (Hh s0) sd i) pk fr (itd) kd hp ts (fun t => nI (zz t)) (nI ra) ak an ah kt (j4) jl)) := by
          refine pb_loop (lotN (K s0) n) (fun i hi ih j4 q2 => ?_)
          by_cases hin : i < lotN (K s0) n
          · have ih := ih hin
            have hdi := hdl i
            refine pb_iload8 g dX7_draw_48 ?_
            refine pb_aload_n0 g dX7_draw_50 ?_
            refine pb_aload_n3 g dX7_draw_51 ?_
            refine pb_Vi1 g qX7_179 dX7_draw_52 (k + 5) (by omega) dr_o (x_lotsOf (k + 5) (s := s0) (K := K s0) (n := n) (by omega) (d2 s0 hs0).1 hKs.1) (fun r52 h52 e52 => ?_)
            obtain ⟨rfl, rfl⟩ := e52
            change PB Γ _ _ (.int (nI (lotN (K s0) n)) :: _) _
            first | refine pb_icmp_geN g 105 dX7_draw_55 (by decide) (by omega) (by omega) (fun c55 => ?_) (fun c55 => ?_) | refine pb_icmp_ge g 105 dX7_draw_55 (by decide) (fun c55 => ?_) (fun c55 => ?_)
            · exact absurd c55 (by omega)
            · refine pb_aload_n0 g dX7_draw_58 ?_
              refine pb_getf g fX7_53 dX7_draw_59 dr_o rfl ?_
              refine pb_iload8 g dX7_draw_62 ?_
              refine pb_aload_n0 g dX7_draw_64 ?_
              refine pb_aload_n3 g dX7_draw_65 ?_
              refine pb_getf g fX7_161 dX7_draw_66 (dr_sh (by omega)) rfl ?_
              rw [(d2 s0 hs0).2.1]
              refine pb_Vi1 g qX7_195 dX7_draw_69 (k + 5) (by omega) dr_o (x_drawnLot (k + 5) (b := Hh s0) hKs.2.2.1) (fun r69 h69 e69 => ?_)
              obtain ⟨rfl, rfl⟩ := e69
              change PB Γ _ _ (.int (nI (dwV (Hh s0) sd i)) :: _) _
              first | refine pb_iastN g dX7_draw_72 (by first | exact dr_lr | exact dr_pk (by omega) | exact dr_fr (by omega) | exact dr_it (by omega) | exact dr_kt | exact dr_bf | exact dr_pl | exact dr_nh | exact dr_lc | exact dr_bl | assumption) (by omega) (by omega) ?_ | refine pb_iast g dX7_draw_72 (by first | exact dr_lr | exact dr_pk (by omega) | exact dr_fr (by omega) | exact dr_it (by omega) | exact dr_kt | exact dr_bf | exact dr_pl | exact dr_nh | exact dr_lc | exact dr_bl | assumption) (by assumption) ?_
              rw [ds_lr]
              refine pb_lload4 g dX7_draw_73 ?_
              refine pb_aload_n0 g dX7_draw_75 ?_
              refine pb_getf g fX7_53 dX7_draw_76 dr_o rfl ?_
              refine pb_iload8 g dX7_draw_79 ?_
              first | refine pb_ialdN g dX7_draw_81 (by first | exact dr_lr | exact dr_pk (by omega) | exact dr_fr (by omega) | exact dr_it (by omega) | exact dr_kt | exact dr_bf | exact dr_pl | exact dr_nh | exact dr_lc | exact dr_bl | assumption) (by omega) (by omega) ?_ | refine pb_ald0 g dX7_draw_81 (by omega) ?_ | refine pb_ald1 g dX7_draw_81 (by omega) ?_ | refine pb_ald2 g dX7_draw_81 (by omega) ?_ | refine pb_ald3 g dX7_draw_81 (by omega) ?_ | refine pb_iald g dX7_draw_81 (by first | exact dr_lr | exact dr_pk (by omega) | exact dr_fr (by omega) | exact dr_it (by omega) | exact dr_kt | exact dr_bf | exact dr_pl | exact dr_nh | exact dr_lc | exact dr_bl | assumption) (by assumption) ?_
              rw [va_upS, show upd (j4 2) i (nI (dwV (Hh s0) sd i)) i = nI (dwV (Hh s0) sd i) from if_pos rfl]
              first | refine pb_i2lN g dX7_draw_82 (by omega) ?_ | refine pb_i2l g dX7_draw_82 ?_
              refine pb_lload6 g dX7_draw_83 ?_
              first | refine pb_lmulN g dX7_draw_85 ?_ | refine pb_lmul g dX7_draw_85 ?_
              first | refine pb_laddN g dX7_draw_86 ?_ | refine pb_ladd g dX7_draw_86 ?_
              refine pb_lstore4 g dX7_draw_87 (by decide) ?_
              refine pb_lload6 g dX7_draw_89 ?_
              refine pb_aload_n3 g dX7_draw_91 ?_
              refine pb_getf g fX7_161 dX7_draw_92 (dr_sh (by omega)) rfl ?_
              rw [(d2 s0 hs0).2.1]
              first | refine pb_i2lN g dX7_draw_95 (by omega) ?_ | refine pb_i2l g dX7_draw_95 ?_
              first | refine pb_lmulN g dX7_draw_96 ?_ | refine pb_lmul g dX7_draw_96 ?_
              refine pb_lstore6 g dX7_draw_97 (by decide) ?_
              first | refine pb_iinc8N g dX7_draw_99 (by decide) ?_ | refine pb_iinc8 g dX7_draw_99 (by decide) rfl ?_
              refine pb_goto g 48 dX7_draw_102 (by decide) ?_
              exact ih _ (fun m hm => by
                rw [va_upS, upd]
                by_cases q : m = i
                · rw [if_pos q, q]
                · rw [if_neg q]
                  exact q2 m (by omega))
          · obtain rfl : i = lotN (K s0) n := by omega
            refine pb_iload8 g dX7_draw_48 ?_
            refine pb_aload_n0 g dX7_draw_50 ?_
            refine pb_aload_n3 g dX7_draw_51 ?_
            refine pb_Vi1 g qX7_179 dX7_draw_52 (k + 5) (by omega) dr_o (x_lotsOf (k + 5) (s := s0) (K := K s0) (n := n) (by omega) (d2 s0 hs0).1 hKs.1) (fun r52 h52 e52 => ?_)
            obtain ⟨rfl, rfl⟩ := e52
            change PB Γ _ _ (.int (nI (lotN (K s0) n)) :: _) _
            first | refine pb_icmp_geN g 105 dX7_draw_55 (by decide) (by omega) (by omega) (fun c55 => ?_) (fun c55 => ?_) | refine pb_icmp_ge g 105 dX7_draw_55 (by decide) (fun c55 => ?_) (fun c55 => ?_)
            · refine pb_aload_n0 g dX7_draw_105 ?_
              refine pb_aload_n3 g dX7_draw_106 ?_
              refine pb_aload_n0 g dX7_draw_107 ?_
              refine pb_getf g fX7_11 dX7_draw_108 dr_o rfl ?_
              refine pb_iload_n2 g dX7_draw_111 ?_
              refine pb_aaldN g dX7_draw_112 dr_packs (by decide) (by omega) (by omega) (by rfl) ?_
              refine pb_Vv2 g qX7_189 dX7_draw_113 (k + 5) (by omega) dr_o (x_layByLots (k + 4) (s := s0) (K := K s0) (n := n) (a := Hh s0) (p := p0) (by omega) (d2 s0 hs0).1 (d2 s0 hs0).2.1 hKs.1 hn hn1 hKs.2.2.1 (by omega) (dwV (Hh s0) sd) (fun q => ⟨q2 0 (by unfold lotN; rw [if_pos q]; decide), Nat.lt_of_lt_of_le (hdl 0) (by rw [hKs.2.2.2.1 q]; exact Nat.le_refl _)⟩) (fun q i hi => ⟨q2 i (by unfold lotN; rw [if_neg q]; exact hi), hdl i⟩)) (fun h113 e113 => ?_)
              obtain ⟨f9, j9, rfl, hf9⟩ := e113
              refine pb_lload4 g dX7_draw_116 ?_
              refine pb_lret g z dX7_draw_118 ?_
              exact ⟨_, rfl, by rw [e], by rw [e]; exact ⟨_, _, _, _, _, _, _, _, _, _, _, rfl, d1_up d1 (fun j hj => by
                obtain ⟨i9, h9, h8, h7⟩ := hf9 j hj
                rw [h8, h7]
                exact d1 p0 hp0 i9 h9) (fun p h1 _ => h1), d2, d3, d4⟩⟩
            · exact absurd c55 (by omega)
        refine pb_aload_n0 g dX7_draw_0 ?_
        refine pb_iload_n1 g dX7_draw_1 ?_
        refine pb_Vi1 g qX7_148 dX7_draw_2 (k + 5) (by omega) dr_o (x_isShuffleT (k + 5) (by assumption) hS) (fun r2 h2 e2 => ?_)
        obtain ⟨rfl, rfl⟩ := e2
        first | refine pb_if_eqN g 28 dX7_draw_5 (by decide) (by omega) (fun c5 => ?_) (fun c5 => ?_) | refine pb_if_eq g 28 dX7_draw_5 (by decide) (fun c5 => ?_) (fun c5 => ?_)
        · exact absurd c5 (by decide)
        · refine pb_aload_n0 g dX7_draw_8 ?_
          refine pb_iload_n2 g dX7_draw_9 ?_
          refine pb_Vi1 g qX7_112 dX7_draw_10 (k + 5) (by omega) dr_o (x_isPackT (k + 5) (by assumption) hP) (fun r10 h10 e10 => ?_)
          obtain ⟨rfl, rfl⟩ := e10
          first | refine pb_if_eqN g 28 dX7_draw_13 (by decide) (by omega) (fun c13 => ?_) (fun c13 => ?_) | refine pb_if_eq g 28 dX7_draw_13 (by decide) (fun c13 => ?_) (fun c13 => ?_)
          · exact absurd c13 (by decide)
          · refine pb_aload_n0 g dX7_draw_16 ?_
            refine pb_getf g fX7_16 dX7_draw_17 dr_o rfl ?_
            refine pb_iload_n1 g dX7_draw_20 ?_
            refine pb_aaldN g dX7_draw_21 dr_shs (by decide) (by omega) (by omega) (by rfl) ?_
            refine pb_Vi0 g qX7_151 dX7_draw_22 (k + 5) (by omega) (dr_sh (by omega)) (x_hasMove (k + 5) (s := s0) (K := K s0) (by omega) (d2 s0 (by assumption)).1 (hK s0 (by assumption)).1) (fun r22 h22 e22 => ?_)
            obtain ⟨rfl, rfl⟩ := e22
            rw [if_neg (by assumption)]
            first | refine pb_if_eqN g 32 dX7_draw_25 (by decide) (by omega) (fun c25 => ?_) (fun c25 => ?_) | refine pb_if_eq g 32 dX7_draw_25 (by decide) (fun c25 => ?_) (fun c25 => ?_)
            · refine pb_aload_n0 g dX7_draw_32 ?_
              refine pb_getf g fX7_16 dX7_draw_33 dr_o rfl ?_
              refine pb_iload_n1 g dX7_draw_36 ?_
              refine pb_aaldN g dX7_draw_37 dr_shs (by decide) (by omega) (by omega) (by rfl) ?_
              refine pb_astore_n3 g dX7_draw_38 (by decide) ?_
              refine pb_lconst (v := lN 0) g dX7_draw_39 rfl ?_
              refine pb_lstore4 g dX7_draw_40 (by decide) ?_
              refine pb_lconst (v := lN 1) g dX7_draw_42 rfl ?_
              refine pb_lstore6 g dX7_draw_43 (by decide) ?_
              refine pb_iconst (v := nI 0) g dX7_draw_45 (by decide) ?_
              refine pb_istore8 g dX7_draw_46 (by decide) ?_
              exact loop 0 (Nat.zero_le _) jk (fun m hm => absurd hm (by omega))
            · exact absurd c25 (by decide)
