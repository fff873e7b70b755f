/-! ===== the desk: calls, second part ===== -/
theorem va_upS {α : Type} {f : Nat → α} {k : Nat} {v : α} : va_up f k v k = v := if_pos rfl
theorem va_upN {α : Type} {f : Nat → α} {k j : Nat} {v : α} (h : j ≠ k) : va_up f k v j = f j := if_neg h
theorem vu_self {α : Type} {f : Nat → α} {k : Nat} : va_up f k (f k) = f := by
  funext j
  by_cases e : j = k
  · rw [e, va_upS]
  · rw [va_upN e]
theorem lN_clamp {E : Nat} (h : E < 2 ^ 63) : (lN E).toNatClampNeg = E := by
  show (lN E).toInt.toNat = E
  rw [pk_lT h]
  rfl
def abv (a : Nat) : Nat := if a = 4 then 3 else if a = 3 then 2 else 0
theorem abv_at : ∀ a, a < 5 → (psV 2).getD a 0 = if a = 0 then -1 else nI (abv a) := by decide
theorem abv_lt (a : Nat) : abv a < 5 := by unfold abv; split; omega; split <;> omega
def uL (k : Nat) : Nat → Nat → Bool
  | 0, a => decide (a = k)
  | d + 1, a => if a = k then true else if a = 0 then false else uL k d (abv a)
theorem uL_ok : ∀ k, k < 5 → ∀ K, K < 5 → uL k 5 K = decide (k = 0 ∨ K = k ∨ (1 < k ∧ k < K)) := by decide
theorem m1_ne : ∀ k, k < 5 → ¬ (-1 : Int32) = nI k := by decide
set_option maxHeartbeats 4000000 in
set_option maxRecDepth 100000 in
theorem x_isUnder (k : Nat) {cd pc sc sd ar ak an ah : Int32} {pk fr it jk : Nat → Nat → Int32} {kd hp ts tz kt : Nat → Int32} {jl : Nat → Nat → Int64} {s K u : Nat} (hs : s < 10) (hk : kd s = nI K) (hK : K < 5) (hu : u < 5) : Runs yX4_isUnder cX4_isUnder 4 (some .boolean) (k) [.ref (15 + s), .int (nI u)] (mkH 52 (dkF cd pc sc sd pk fr it kd hp ts tz ar ak an ah kt jk jl)) (fun o h' => ∃ r : Int32, o = some (.int r) ∧ r = (if (u = 0 ∨ K = u ∨ (1 < u ∧ u < K)) then nI 1 else nI 0) ∧ mkH 52 (dkF cd pc sc sd pk fr it kd hp ts tz ar ak an ah kt jk jl) = h') := by
  refine Runs.of (by decide) (Nat.le_of_ble_eq_true rfl) [some (.ref (15 + s)), some (.int (nI u)), none, none] 2 rfl (fun Γ g z => ?_)
  have hfin := uL_ok u hu K hK
  have hm1 := m1_ne u hu
  have loop : ∀ i, i ≤ 5 → ∀ a, a < 5 → uL u (5 - i) a = uL u 5 K → PB Γ 7 [some (.ref (15 + s)), some (.int (nI u)), some (.int (nI a)), some (.int (nI i))] [] (mkH 52 (dkF cd pc sc sd pk fr it kd hp ts tz ar ak an ah kt jk jl)) := by
    refine pb_loop 5 (fun i hi ih a ha hh => ?_)
    rw [hfin] at hh
    by_cases hi5 : i < 5
    · have ih := ih hi5
      rw [show 5 - i = 5 - (i + 1) + 1 by omega, uL] at hh
      by_cases hau : a = u
      · rw [if_pos hau] at hh
        have hyes : u = 0 ∨ K = u ∨ (1 < u ∧ u < K) := of_decide_eq_true hh.symm
        refine pb_iload_n3 g dX4_isUnder_7 ?_
        refine pb_iconst (v := nI 5) g dX4_isUnder_8 (by decide) ?_
        first | refine pb_icmp_geN g 33 dX4_isUnder_9 (by decide) (by omega) (by omega) (fun c9 => ?_) (fun c9 => ?_) | refine pb_icmp_ge g 33 dX4_isUnder_9 (by decide) (fun c9 => ?_) (fun c9 => ?_)
        · exact absurd c9 (by omega)
        · refine pb_iload_n2 g dX4_isUnder_12 ?_
          refine pb_if_ltN g 33 dX4_isUnder_13 (by decide) (by omega) ?_
          refine pb_iload_n2 g dX4_isUnder_16 ?_
          refine pb_iload_n1 g dX4_isUnder_17 ?_
          first | refine pb_icmp_eqN g 33 dX4_isUnder_18 (by decide) (by omega) (by omega) (fun c18 => ?_) (fun c18 => ?_) | refine pb_icmp_eq g 33 dX4_isUnder_18 (by decide) (fun c18 => ?_) (fun c18 => ?_)
          · refine pb_iload_n2 g dX4_isUnder_33 ?_
            refine pb_iload_n1 g dX4_isUnder_34 ?_
            first | refine pb_icmp_neN g 42 dX4_isUnder_35 (by decide) (by omega) (by omega) (fun c35 => ?_) (fun c35 => ?_) | refine pb_icmp_ne g 42 dX4_isUnder_35 (by decide) (fun c35 => ?_) (fun c35 => ?_)
            · exact absurd hau c35
            · refine pb_iconst (v := nI 1) g dX4_isUnder_38 (by decide) ?_
              refine pb_goto g 43 dX4_isUnder_39 (by decide) ?_
              refine pb_zret g z dX4_isUnder_43 (by first | rfl | decide) ?_
              exact ⟨_, rfl, by rw [if_pos hyes], rfl⟩
          · exact absurd hau c18
      · rw [if_neg hau] at hh
        by_cases ha0 : a = 0
        · rw [if_pos ha0] at hh
          have hno : ¬ (u = 0 ∨ K = u ∨ (1 < u ∧ u < K)) := of_decide_eq_false hh.symm
          refine pb_iload_n3 g dX4_isUnder_7 ?_
          refine pb_iconst (v := nI 5) g dX4_isUnder_8 (by decide) ?_
          first | refine pb_icmp_geN g 33 dX4_isUnder_9 (by decide) (by omega) (by omega) (fun c9 => ?_) (fun c9 => ?_) | refine pb_icmp_ge g 33 dX4_isUnder_9 (by decide) (fun c9 => ?_) (fun c9 => ?_)
          · exact absurd c9 (by omega)
          · refine pb_iload_n2 g dX4_isUnder_12 ?_
            refine pb_if_ltN g 33 dX4_isUnder_13 (by decide) (by omega) ?_
            refine pb_iload_n2 g dX4_isUnder_16 ?_
            refine pb_iload_n1 g dX4_isUnder_17 ?_
            first | refine pb_icmp_eqN g 33 dX4_isUnder_18 (by decide) (by omega) (by omega) (fun c18 => ?_) (fun c18 => ?_) | refine pb_icmp_eq g 33 dX4_isUnder_18 (by decide) (fun c18 => ?_) (fun c18 => ?_)
            · exact absurd c18 hau
            · refine pb_gets g sX4_22 dX4_isUnder_21 ?_
              refine pb_iload_n2 g dX4_isUnder_24 ?_
              first | refine pb_ialdN g dX4_isUnder_25 (by first | exact dr_pk (by omega) | exact dr_fr (by omega) | exact dr_it (by omega) | exact dr_kt | exact dr_bf | exact dr_pl | exact dr_lr | exact dr_nh | exact dr_lc | exact dr_bl | assumption) (by omega) (by omega) ?_ | refine pb_ald0 g dX4_isUnder_25 (by omega) ?_ | refine pb_ald1 g dX4_isUnder_25 (by omega) ?_ | refine pb_ald2 g dX4_isUnder_25 (by omega) ?_ | refine pb_ald3 g dX4_isUnder_25 (by omega) ?_ | refine pb_iald g dX4_isUnder_25 (by first | exact dr_pk (by omega) | exact dr_fr (by omega) | exact dr_it (by omega) | exact dr_kt | exact dr_bf | exact dr_pl | exact dr_lr | exact dr_nh | exact dr_lc | exact dr_bl | assumption) (by assumption) ?_
              rw [abv_at a ha, if_pos ha0]
              refine pb_istore_n2 g dX4_isUnder_26 (by decide) ?_
              first | refine pb_iinc3N g dX4_isUnder_27 (by decide) ?_ | refine pb_iinc3 g dX4_isUnder_27 (by decide) rfl ?_
              refine pb_goto g 7 dX4_isUnder_30 (by decide) ?_
              refine pb_iload_n3 g dX4_isUnder_7 ?_
              refine pb_iconst (v := nI 5) g dX4_isUnder_8 (by decide) ?_
              refine pb_icmp_geN g 33 dX4_isUnder_9 (by decide) (by omega) (by omega) (fun _ => ?_) (fun _ => ?_)
              · refine pb_iload_n2 g dX4_isUnder_33 ?_
                refine pb_iload_n1 g dX4_isUnder_34 ?_
                refine pb_icmp_ne g 42 dX4_isUnder_35 (by decide) (fun _ => ?_) (fun q => absurd q hm1)
                refine pb_iconst (v := nI 0) g dX4_isUnder_42 (by decide) ?_
                refine pb_zret g z dX4_isUnder_43 (by rfl) ?_
                exact ⟨_, rfl, by rw [if_neg hno], rfl⟩
              · refine pb_iload_n2 g dX4_isUnder_12 ?_
                refine pb_if_lt g 33 dX4_isUnder_13 (by decide) (fun _ => ?_) (fun q => absurd (by decide) q)
                refine pb_iload_n2 g dX4_isUnder_33 ?_
                refine pb_iload_n1 g dX4_isUnder_34 ?_
                refine pb_icmp_ne g 42 dX4_isUnder_35 (by decide) (fun _ => ?_) (fun q => absurd q hm1)
                refine pb_iconst (v := nI 0) g dX4_isUnder_42 (by decide) ?_
                refine pb_zret g z dX4_isUnder_43 (by rfl) ?_
                exact ⟨_, rfl, by rw [if_neg hno], rfl⟩
        · rw [if_neg ha0] at hh
          have ih := ih (abv a) (abv_lt a) (by rw [hh, hfin])
          refine pb_iload_n3 g dX4_isUnder_7 ?_
          refine pb_iconst (v := nI 5) g dX4_isUnder_8 (by decide) ?_
          first | refine pb_icmp_geN g 33 dX4_isUnder_9 (by decide) (by omega) (by omega) (fun c9 => ?_) (fun c9 => ?_) | refine pb_icmp_ge g 33 dX4_isUnder_9 (by decide) (fun c9 => ?_) (fun c9 => ?_)
          · exact absurd c9 (by omega)
          · refine pb_iload_n2 g dX4_isUnder_12 ?_
            refine pb_if_ltN g 33 dX4_isUnder_13 (by decide) (by omega) ?_
            refine pb_iload_n2 g dX4_isUnder_16 ?_
            refine pb_iload_n1 g dX4_isUnder_17 ?_
            first | refine pb_icmp_eqN g 33 dX4_isUnder_18 (by decide) (by omega) (by omega) (fun c18 => ?_) (fun c18 => ?_) | refine pb_icmp_eq g 33 dX4_isUnder_18 (by decide) (fun c18 => ?_) (fun c18 => ?_)
            · exact absurd c18 hau
            · refine pb_gets g sX4_22 dX4_isUnder_21 ?_
              refine pb_iload_n2 g dX4_isUnder_24 ?_
              first | refine pb_ialdN g dX4_isUnder_25 (by first | exact dr_pk (by omega) | exact dr_fr (by omega) | exact dr_it (by omega) | exact dr_kt | exact dr_bf | exact dr_pl | exact dr_lr | exact dr_nh | exact dr_lc | exact dr_bl | assumption) (by omega) (by omega) ?_ | refine pb_ald0 g dX4_isUnder_25 (by omega) ?_ | refine pb_ald1 g dX4_isUnder_25 (by omega) ?_ | refine pb_ald2 g dX4_isUnder_25 (by omega) ?_ | refine pb_ald3 g dX4_isUnder_25 (by omega) ?_ | refine pb_iald g dX4_isUnder_25 (by first | exact dr_pk (by omega) | exact dr_fr (by omega) | exact dr_it (by omega) | exact dr_kt | exact dr_bf | exact dr_pl | exact dr_lr | exact dr_nh | exact dr_lc | exact dr_bl | assumption) (by assumption) ?_
              rw [abv_at a ha, if_neg ha0]
              refine pb_istore_n2 g dX4_isUnder_26 (by decide) ?_
              first | refine pb_iinc3N g dX4_isUnder_27 (by decide) ?_ | refine pb_iinc3 g dX4_isUnder_27 (by decide) rfl ?_
              refine pb_goto g 7 dX4_isUnder_30 (by decide) ?_
              exact ih
    · obtain rfl : i = 5 := by omega
      rw [show 5 - 5 = 0 by rfl, uL] at hh
      by_cases hau : a = u
      · have hyes : u = 0 ∨ K = u ∨ (1 < u ∧ u < K) := of_decide_eq_true (hh.symm.trans (decide_eq_true hau))
        refine pb_iload_n3 g dX4_isUnder_7 ?_
        refine pb_iconst (v := nI 5) g dX4_isUnder_8 (by decide) ?_
        first | refine pb_icmp_geN g 33 dX4_isUnder_9 (by decide) (by omega) (by omega) (fun c9 => ?_) (fun c9 => ?_) | refine pb_icmp_ge g 33 dX4_isUnder_9 (by decide) (fun c9 => ?_) (fun c9 => ?_)
        · refine pb_iload_n2 g dX4_isUnder_33 ?_
          refine pb_iload_n1 g dX4_isUnder_34 ?_
          first | refine pb_icmp_neN g 42 dX4_isUnder_35 (by decide) (by omega) (by omega) (fun c35 => ?_) (fun c35 => ?_) | refine pb_icmp_ne g 42 dX4_isUnder_35 (by decide) (fun c35 => ?_) (fun c35 => ?_)
          · exact absurd hau c35
          · refine pb_iconst (v := nI 1) g dX4_isUnder_38 (by decide) ?_
            refine pb_goto g 43 dX4_isUnder_39 (by decide) ?_
            refine pb_zret g z dX4_isUnder_43 (by first | rfl | decide) ?_
            exact ⟨_, rfl, by rw [if_pos hyes], rfl⟩
        · exact absurd c9 (by omega)
      · have hno : ¬ (u = 0 ∨ K = u ∨ (1 < u ∧ u < K)) := of_decide_eq_false (hh.symm.trans (decide_eq_false hau))
        refine pb_iload_n3 g dX4_isUnder_7 ?_
        refine pb_iconst (v := nI 5) g dX4_isUnder_8 (by decide) ?_
        first | refine pb_icmp_geN g 33 dX4_isUnder_9 (by decide) (by omega) (by omega) (fun c9 => ?_) (fun c9 => ?_) | refine pb_icmp_ge g 33 dX4_isUnder_9 (by decide) (fun c9 => ?_) (fun c9 => ?_)
        · refine pb_iload_n2 g dX4_isUnder_33 ?_
          refine pb_iload_n1 g dX4_isUnder_34 ?_
          first | refine pb_icmp_neN g 42 dX4_isUnder_35 (by decide) (by omega) (by omega) (fun c35 => ?_) (fun c35 => ?_) | refine pb_icmp_ne g 42 dX4_isUnder_35 (by decide) (fun c35 => ?_) (fun c35 => ?_)
          · refine pb_iconst (v := nI 0) g dX4_isUnder_42 (by decide) ?_
            refine pb_zret g z dX4_isUnder_43 (by first | rfl | decide) ?_
            exact ⟨_, rfl, by rw [if_neg hno], rfl⟩
          · exact absurd c35 hau
        · exact absurd c9 (by omega)
  refine pb_aload_n0 g dX4_isUnder_0 ?_
  refine pb_getf g fX4_15 dX4_isUnder_1 (dr_sh (by omega)) rfl ?_
  rw [hk]
  refine pb_istore_n2 g dX4_isUnder_4 (by decide) ?_
  refine pb_iconst (v := nI 0) g dX4_isUnder_5 (by decide) ?_
  refine pb_istore_n3 g dX4_isUnder_6 (by decide) ?_
  exact loop 0 (Nat.zero_le _) K hK rfl
set_option maxHeartbeats 4000000 in
set_option maxRecDepth 100000 in
theorem x_taken (k : Nat) (q : SP) (s x : Int32) (h : PH) (hD : IsD q h) (hI : SI q) : Runs yX7_taken cX7_taken 3 (some .int) (k + 6) [.ref 0, .int s, .int x] h (fun o h' => ∃ r : Int32, o = some (.int r) ∧ r = sTaken q s x ∧ IsD (q) h') := by
  obtain ⟨⟨n, P, S, sd⟩, ⟨σ, μ, K, Hh⟩, ⟨ts, zz, it⟩, ⟨ra, tr⟩⟩ := q
  obtain ⟨⟨hn1, hn, hP, hS⟩, hσ, hK, hz, hra⟩ := hI
  obtain ⟨pk, fr, itd, jk, kd, hp, kt, ak, an, ah, jl, rfl, d1, d2, d3, d4⟩ := hD
  refine Runs.of (by decide) (Nat.le_of_ble_eq_true rfl) [some (.ref 0), some (.int s), some (.int x)] 0 rfl (fun Γ g z => ?_)
  cases hx : ix x 5 with
  | none =>
    have e : sTaken ((n, P, S, sd), (σ, μ, K, Hh), (ts, zz, it), (ra, tr)) s x = -2 := by simp only [sTaken, hx]
    have hn2 := inN_not (by decide) (ix_none (by decide) hx)
    refine pb_iload_n2 g dX7_taken_0 ?_
    refine pb_if_lt g 9 dX7_taken_1 (by decide) (fun c1 => ?_) (fun c1 => ?_)
    · refine pb_bipush (v := -2) g dX7_taken_9 (by decide) ?_
      refine pb_iret g z dX7_taken_11 ?_
      exact ⟨_, rfl, by rw [e], ⟨_, _, _, _, _, _, _, _, _, _, _, rfl, d1, d2, d3, d4⟩⟩
    · refine pb_iload_n2 g dX7_taken_4 ?_
      refine pb_iconst (v := nI 5) g dX7_taken_5 (by decide) ?_
      first | refine pb_icmp_ltN g 12 dX7_taken_6 (by decide) (by omega) (by omega) (fun c6 => ?_) (fun c6 => ?_) | refine pb_icmp_lt g 12 dX7_taken_6 (by decide) (fun c6 => ?_) (fun c6 => ?_)
      · exact absurd hn2 (fun q => q.elim c1 (fun w => absurd c6 (Int32.not_lt.mpr w)))
      · refine pb_bipush (v := -2) g dX7_taken_9 (by decide) ?_
        refine pb_iret g z dX7_taken_11 ?_
        exact ⟨_, rfl, by rw [e], ⟨_, _, _, _, _, _, _, _, _, _, _, rfl, d1, d2, d3, d4⟩⟩
  | some u =>
    obtain ⟨hu, rfl⟩ := ix_some (by decide) hx
    cases hs : ix s S with
    | none =>
      have e : sTaken ((n, P, S, sd), (σ, μ, K, Hh), (ts, zz, it), (ra, tr)) s (nI u) = -11 := by simp only [sTaken, hx, hs]
      have hsn := ix_none (by omega) hs
      refine pb_iload_n2 g dX7_taken_0 ?_
      refine pb_if_ltN g 9 dX7_taken_1 (by decide) (by omega) ?_
      refine pb_iload_n2 g dX7_taken_4 ?_
      refine pb_iconst (v := nI 5) g dX7_taken_5 (by decide) ?_
      first | refine pb_icmp_ltN g 12 dX7_taken_6 (by decide) (by omega) (by omega) (fun c6 => ?_) (fun c6 => ?_) | refine pb_icmp_lt g 12 dX7_taken_6 (by decide) (fun c6 => ?_) (fun c6 => ?_)
      · refine pb_aload_n0 g dX7_taken_12 ?_
        refine pb_iload_n1 g dX7_taken_13 ?_
        refine pb_Vi1 g qX7_148 dX7_taken_14 (k + 5) (by omega) dr_o (x_isShuffleF (k + 5) (by assumption) hS) (fun r14 h14 e14 => ?_)
        obtain ⟨rfl, rfl⟩ := e14
        first | refine pb_if_neN g 23 dX7_taken_17 (by decide) (by omega) (fun c17 => ?_) (fun c17 => ?_) | refine pb_if_ne g 23 dX7_taken_17 (by decide) (fun c17 => ?_) (fun c17 => ?_)
        · exact absurd c17 (by decide)
        · refine pb_bipush (v := -11) g dX7_taken_20 (by decide) ?_
          refine pb_iret g z dX7_taken_22 ?_
          exact ⟨_, rfl, by rw [e], ⟨_, _, _, _, _, _, _, _, _, _, _, rfl, d1, d2, d3, d4⟩⟩
      · exact absurd c6 (by omega)
    | some s0 =>
      obtain ⟨hs0, rfl⟩ := ix_some (by omega) hs
      have hk1 := (hK s0 hs0).1
      by_cases hq : u = 0 ∨ K s0 = u ∨ (1 < u ∧ u < K s0)
      · have e : sTaken ((n, P, S, sd), (σ, μ, K, Hh), (ts, zz, it), (ra, tr)) (nI s0) (nI u) = nI (Hh s0) := by simp only [sTaken, hx, hs, if_pos hq]
        refine pb_iload_n2 g dX7_taken_0 ?_
        refine pb_if_ltN g 9 dX7_taken_1 (by decide) (by omega) ?_
        refine pb_iload_n2 g dX7_taken_4 ?_
        refine pb_iconst (v := nI 5) g dX7_taken_5 (by decide) ?_
        first | refine pb_icmp_ltN g 12 dX7_taken_6 (by decide) (by omega) (by omega) (fun c6 => ?_) (fun c6 => ?_) | refine pb_icmp_lt g 12 dX7_taken_6 (by decide) (fun c6 => ?_) (fun c6 => ?_)
        · refine pb_aload_n0 g dX7_taken_12 ?_
          refine pb_iload_n1 g dX7_taken_13 ?_
          refine pb_Vi1 g qX7_148 dX7_taken_14 (k + 5) (by omega) dr_o (x_isShuffleT (k + 5) (by assumption) hS) (fun r14 h14 e14 => ?_)
          obtain ⟨rfl, rfl⟩ := e14
          first | refine pb_if_neN g 23 dX7_taken_17 (by decide) (by omega) (fun c17 => ?_) (fun c17 => ?_) | refine pb_if_ne g 23 dX7_taken_17 (by decide) (fun c17 => ?_) (fun c17 => ?_)
          · refine pb_aload_n0 g dX7_taken_23 ?_
            refine pb_getf g fX7_16 dX7_taken_24 dr_o rfl ?_
            refine pb_iload_n1 g dX7_taken_27 ?_
            refine pb_aaldN g dX7_taken_28 dr_shs (by decide) (by omega) (by omega) (by rfl) ?_
            refine pb_iload_n2 g dX7_taken_29 ?_
            refine pb_Vi1 g qX7_176 dX7_taken_30 (k + 5) (by omega) (dr_sh (by omega)) (x_isUnder (k + 5) (u := u) (K := K s0) (by omega) (d2 s0 hs0).1 hk1 hu) (fun r30 h30 e30 => ?_)
            obtain ⟨rfl, rfl⟩ := e30
            rw [if_pos hq]
            first | refine pb_if_eqN g 48 dX7_taken_33 (by decide) (by omega) (fun c33 => ?_) (fun c33 => ?_) | refine pb_if_eq g 48 dX7_taken_33 (by decide) (fun c33 => ?_) (fun c33 => ?_)
            · exact absurd c33 (by decide)
            · refine pb_aload_n0 g dX7_taken_36 ?_
              refine pb_getf g fX7_16 dX7_taken_37 dr_o rfl ?_
              refine pb_iload_n1 g dX7_taken_40 ?_
              refine pb_aaldN g dX7_taken_41 dr_shs (by decide) (by omega) (by omega) (by rfl) ?_
              refine pb_getf g fX7_161 dX7_taken_42 (dr_sh (by omega)) rfl ?_
              rw [(d2 s0 hs0).2.1]
              refine pb_goto g 50 dX7_taken_45 (by decide) ?_
              refine pb_iret g z dX7_taken_50 ?_
              exact ⟨_, rfl, by rw [e], ⟨_, _, _, _, _, _, _, _, _, _, _, rfl, d1, d2, d3, d4⟩⟩
          · exact absurd c17 (by decide)
        · exact absurd c6 (by omega)
      · have e : sTaken ((n, P, S, sd), (σ, μ, K, Hh), (ts, zz, it), (ra, tr)) (nI s0) (nI u) = -13 := by simp only [sTaken, hx, hs, if_neg hq]
        refine pb_iload_n2 g dX7_taken_0 ?_
        refine pb_if_ltN g 9 dX7_taken_1 (by decide) (by omega) ?_
        refine pb_iload_n2 g dX7_taken_4 ?_
        refine pb_iconst (v := nI 5) g dX7_taken_5 (by decide) ?_
        first | refine pb_icmp_ltN g 12 dX7_taken_6 (by decide) (by omega) (by omega) (fun c6 => ?_) (fun c6 => ?_) | refine pb_icmp_lt g 12 dX7_taken_6 (by decide) (fun c6 => ?_) (fun c6 => ?_)
        · refine pb_aload_n0 g dX7_taken_12 ?_
          refine pb_iload_n1 g dX7_taken_13 ?_
          refine pb_Vi1 g qX7_148 dX7_taken_14 (k + 5) (by omega) dr_o (x_isShuffleT (k + 5) (by assumption) hS) (fun r14 h14 e14 => ?_)
          obtain ⟨rfl, rfl⟩ := e14
          first | refine pb_if_neN g 23 dX7_taken_17 (by decide) (by omega) (fun c17 => ?_) (fun c17 => ?_) | refine pb_if_ne g 23 dX7_taken_17 (by decide) (fun c17 => ?_) (fun c17 => ?_)
          · refine pb_aload_n0 g dX7_taken_23 ?_
            refine pb_getf g fX7_16 dX7_taken_24 dr_o rfl ?_
            refine pb_iload_n1 g dX7_taken_27 ?_
            refine pb_aaldN g dX7_taken_28 dr_shs (by decide) (by omega) (by omega) (by rfl) ?_
            refine pb_iload_n2 g dX7_taken_29 ?_
            refine pb_Vi1 g qX7_176 dX7_taken_30 (k + 5) (by omega) (dr_sh (by omega)) (x_isUnder (k + 5) (u := u) (K := K s0) (by omega) (d2 s0 hs0).1 hk1 hu) (fun r30 h30 e30 => ?_)
            obtain ⟨rfl, rfl⟩ := e30
            rw [if_neg hq]
            first | refine pb_if_eqN g 48 dX7_taken_33 (by decide) (by omega) (fun c33 => ?_) (fun c33 => ?_) | refine pb_if_eq g 48 dX7_taken_33 (by decide) (fun c33 => ?_) (fun c33 => ?_)
            · refine pb_bipush (v := -13) g dX7_taken_48 (by decide) ?_
              refine pb_iret g z dX7_taken_50 ?_
              exact ⟨_, rfl, by rw [e], ⟨_, _, _, _, _, _, _, _, _, _, _, rfl, d1, d2, d3, d4⟩⟩
            · exact absurd c33 (by decide)
          · exact absurd c17 (by decide)
        · exact absurd c6 (by omega)
set_option maxHeartbeats 4000000 in
set_option maxRecDepth 100000 in
theorem x_move (k : Nat) (q : SP) (p : Int32) (h : PH) (hD : IsD q h) (hI : SI q) : Runs yX7_move cX7_move 2 (some .int) (k + 6) [.ref 0, .int p] h (fun o h' => ∃ r : Int32, o = some (.int r) ∧ r = (sMove q p).1 ∧ IsD ((sMove q p).2) h') := by
  obtain ⟨⟨n, P, S, sd⟩, ⟨σ, μ, K, Hh⟩, ⟨ts, zz, it⟩, ⟨ra, tr⟩⟩ := q
  obtain ⟨⟨hn1, hn, hP, hS⟩, hσ, hK, hz, hra⟩ := hI
  obtain ⟨pk, fr, itd, jk, kd, hp, kt, ak, an, ah, jl, rfl, d1, d2, d3, d4⟩ := hD
  refine Runs.of (by decide) (Nat.le_of_ble_eq_true rfl) [some (.ref 0), some (.int p)] 0 rfl (fun Γ g z => ?_)
  cases hpx : ix p P with
  | none =>
    have e : sMove ((n, P, S, sd), (σ, μ, K, Hh), (ts, zz, it), (ra, tr)) p = (-2, ((n, P, S, sd), (σ, μ, K, Hh), (ts, zz, it), (ra, tr))) := by simp only [sMove, hpx]
    have hpn := ix_none (by omega) hpx
    refine pb_aload_n0 g dX7_move_0 ?_
    refine pb_iload_n1 g dX7_move_1 ?_
    refine pb_Vi1 g qX7_112 dX7_move_2 (k + 5) (by omega) dr_o (x_isPackF (k + 5) (by assumption) hP) (fun r2 h2 e2 => ?_)
    obtain ⟨rfl, rfl⟩ := e2
    first | refine pb_if_neN g 11 dX7_move_5 (by decide) (by omega) (fun c5 => ?_) (fun c5 => ?_) | refine pb_if_ne g 11 dX7_move_5 (by decide) (fun c5 => ?_) (fun c5 => ?_)
    · exact absurd c5 (by decide)
    · refine pb_bipush (v := -2) g dX7_move_8 (by decide) ?_
      refine pb_iret g z dX7_move_10 ?_
      exact ⟨_, rfl, by rw [e], by rw [e]; exact ⟨_, _, _, _, _, _, _, _, _, _, _, rfl, d1, d2, d3, d4⟩⟩
  | some p0 =>
    obtain ⟨hp0, rfl⟩ := ix_some (by omega) hpx
    by_cases h10 : S = 10
    · have e : sMove ((n, P, S, sd), (σ, μ, K, Hh), (ts, zz, it), (ra, tr)) (nI p0) = (-4, ((n, P, S, sd), (σ, μ, K, Hh), (ts, zz, it), (ra, tr))) := by simp only [sMove, hpx, sMk, if_pos h10]
      refine pb_aload_n0 g dX7_move_0 ?_
      refine pb_iload_n1 g dX7_move_1 ?_
      refine pb_Vi1 g qX7_112 dX7_move_2 (k + 5) (by omega) dr_o (x_isPackT (k + 5) (by assumption) hP) (fun r2 h2 e2 => ?_)
      obtain ⟨rfl, rfl⟩ := e2
      first | refine pb_if_neN g 11 dX7_move_5 (by decide) (by omega) (fun c5 => ?_) (fun c5 => ?_) | refine pb_if_ne g 11 dX7_move_5 (by decide) (fun c5 => ?_) (fun c5 => ?_)
      · refine pb_aload_n0 g dX7_move_11 ?_
        refine pb_getf g fX7_40 dX7_move_12 dr_o rfl ?_
        refine pb_bipush (v := nI 10) g dX7_move_15 (by decide) ?_
        first | refine pb_icmp_ltN g 23 dX7_move_17 (by decide) (by omega) (by omega) (fun c17 => ?_) (fun c17 => ?_) | refine pb_icmp_lt g 23 dX7_move_17 (by decide) (fun c17 => ?_) (fun c17 => ?_)
        · exact absurd c17 (by omega)
        · refine pb_bipush (v := -4) g dX7_move_20 (by decide) ?_
          refine pb_iret g z dX7_move_22 ?_
          exact ⟨_, rfl, by rw [e], by rw [e]; exact ⟨_, _, _, _, _, _, _, _, _, _, _, rfl, d1, d2, d3, d4⟩⟩
      · exact absurd c5 (by decide)
    · have e : sMove ((n, P, S, sd), (σ, μ, K, Hh), (ts, zz, it), (ra, tr)) (nI p0) = (nI S, ((n, P, S + 1, sd), (σ, va_up μ S (σ p0), va_up K S 0, va_up Hh S 2), (ts, zz, it), (ra, tr))) := by simp only [sMove, hpx, sMk, if_neg h10]
      refine pb_aload_n0 g dX7_move_0 ?_
      refine pb_iload_n1 g dX7_move_1 ?_
      refine pb_Vi1 g qX7_112 dX7_move_2 (k + 5) (by omega) dr_o (x_isPackT (k + 5) (by assumption) hP) (fun r2 h2 e2 => ?_)
      obtain ⟨rfl, rfl⟩ := e2
      first | refine pb_if_neN g 11 dX7_move_5 (by decide) (by omega) (fun c5 => ?_) (fun c5 => ?_) | refine pb_if_ne g 11 dX7_move_5 (by decide) (fun c5 => ?_) (fun c5 => ?_)
      · refine pb_aload_n0 g dX7_move_11 ?_
        refine pb_getf g fX7_40 dX7_move_12 dr_o rfl ?_
        refine pb_bipush (v := nI 10) g dX7_move_15 (by decide) ?_
        first | refine pb_icmp_ltN g 23 dX7_move_17 (by decide) (by omega) (by omega) (fun c17 => ?_) (fun c17 => ?_) | refine pb_icmp_lt g 23 dX7_move_17 (by decide) (fun c17 => ?_) (fun c17 => ?_)
        · refine pb_aload_n0 g dX7_move_23 ?_
          refine pb_getf g fX7_11 dX7_move_24 dr_o rfl ?_
          refine pb_iload_n1 g dX7_move_27 ?_
          refine pb_aaldN g dX7_move_28 dr_packs (by decide) (by omega) (by omega) (by rfl) ?_
          refine pb_iconst (v := nI 0) g dX7_move_29 (by decide) ?_
          refine pb_aload_n0 g dX7_move_30 ?_
          refine pb_getf g fX7_16 dX7_move_31 dr_o rfl ?_
          refine pb_aload_n0 g dX7_move_34 ?_
          refine pb_getf g fX7_40 dX7_move_35 dr_o rfl ?_
          refine pb_aaldN g dX7_move_38 dr_shs (by decide) (by omega) (by omega) (by rfl) ?_
          refine pb_getf g fX7_129 dX7_move_39 (dr_sh (by omega)) rfl ?_
          refine pb_iconst (v := nI 0) g dX7_move_42 (by decide) ?_
          refine pb_aload_n0 g dX7_move_43 ?_
          refine pb_getf g fX7_33 dX7_move_44 dr_o rfl ?_
          refine pb_copy g aX7_106.1 aX7_106.2.1 aX7_106.2.2.1 aX7_106.2.2.2 dX7_move_47 (by first | exact dr_pk (by omega) | exact dr_fr (by omega) | exact dr_it (by omega) | exact dr_kt | exact dr_bf | exact dr_pl | exact dr_lr | exact dr_nh | exact dr_lc | exact dr_bl | assumption) (by first | exact dr_pk (by omega) | exact dr_fr (by omega) | exact dr_it (by omega) | exact dr_kt | exact dr_bf | exact dr_pl | exact dr_lr | exact dr_nh | exact dr_lc | exact dr_bl | assumption) (by omega) (by omega) (by omega) (by omega) (by omega) (Nat.le_of_ble_eq_true rfl) ?_
          rw [ds_fr (by omega)]
          refine pb_aload_n0 g dX7_move_50 ?_
          refine pb_iconst (v := nI 0) g dX7_move_51 (by decide) ?_
          refine pb_iconst (v := nI 2) g dX7_move_52 (by decide) ?_
          refine pb_Vi2 g qX7_132 dX7_move_53 (k + 5) (by omega) dr_o (x_addShuffle (k + 5) (a := 0) (b := 2) (by omega)) (fun r53 h53 e53 => ?_)
          obtain ⟨rfl, rfl⟩ := e53
          refine pb_iret g z dX7_move_56 ?_
          exact ⟨_, rfl, by rw [e], by rw [e]; exact ⟨_, _, _, _, _, _, _, _, _, _, _, rfl, d1, d2_up d2 (fun _ j hj => by rw [sb_cpy0 hj]; exact d1 p0 hp0 j hj), d3, d4⟩⟩
        · exact absurd c17 (by omega)
      · exact absurd c5 (by decide)
set_option maxHeartbeats 4000000 in
set_option maxRecDepth 100000 in
theorem x_riffle (k : Nat) (q : SP) (x : Int32) (h : PH) (hD : IsD q h) (hI : SI q) : Runs yX7_riffle cX7_riffle 2 (some .int) (k + 6) [.ref 0, .int x] h (fun o h' => ∃ r : Int32, o = some (.int r) ∧ r = (sRiffle q x).1 ∧ IsD ((sRiffle q x).2) h') := by
  obtain ⟨⟨n, P, S, sd⟩, ⟨σ, μ, K, Hh⟩, ⟨ts, zz, it⟩, ⟨ra, tr⟩⟩ := q
  obtain ⟨⟨hn1, hn, hP, hS⟩, hσ, hK, hz, hra⟩ := hI
  obtain ⟨pk, fr, itd, jk, kd, hp, kt, ak, an, ah, jl, rfl, d1, d2, d3, d4⟩ := hD
  refine Runs.of (by decide) (Nat.le_of_ble_eq_true rfl) [some (.ref 0), some (.int x)] 0 rfl (fun Γ g z => ?_)
  by_cases hb : x < nI 1 ∨ nI 10 < x
  · have e : sRiffle ((n, P, S, sd), (σ, μ, K, Hh), (ts, zz, it), (ra, tr)) x = (-2, ((n, P, S, sd), (σ, μ, K, Hh), (ts, zz, it), (ra, tr))) := if_pos hb
    refine pb_iload_n1 g dX7_riffle_0 ?_
    refine pb_iconst (v := nI 1) g dX7_riffle_1 (by decide) ?_
    first | refine pb_icmp_ltN g 11 dX7_riffle_2 (by decide) (by omega) (by omega) (fun c2 => ?_) (fun c2 => ?_) | refine pb_icmp_lt g 11 dX7_riffle_2 (by decide) (fun c2 => ?_) (fun c2 => ?_)
    · refine pb_bipush (v := -2) g dX7_riffle_11 (by decide) ?_
      refine pb_iret g z dX7_riffle_13 ?_
      exact ⟨_, rfl, by rw [e], by rw [e]; exact ⟨_, _, _, _, _, _, _, _, _, _, _, rfl, d1, d2, d3, d4⟩⟩
    · refine pb_iload_n1 g dX7_riffle_5 ?_
      refine pb_bipush (v := nI 10) g dX7_riffle_6 (by decide) ?_
      first | refine pb_icmp_leN g 14 dX7_riffle_8 (by decide) (by omega) (by omega) (fun c8 => ?_) (fun c8 => ?_) | refine pb_icmp_le g 14 dX7_riffle_8 (by decide) (fun c8 => ?_) (fun c8 => ?_)
      · exact absurd hb (fun q => q.elim c2 (fun w => absurd c8 (Int32.not_le.mpr w)))
      · refine pb_bipush (v := -2) g dX7_riffle_11 (by decide) ?_
        refine pb_iret g z dX7_riffle_13 ?_
        exact ⟨_, rfl, by rw [e], by rw [e]; exact ⟨_, _, _, _, _, _, _, _, _, _, _, rfl, d1, d2, d3, d4⟩⟩
  · have e0 : sRiffle ((n, P, S, sd), (σ, μ, K, Hh), (ts, zz, it), (ra, tr)) x = sMk ((n, P, S, sd), (σ, μ, K, Hh), (ts, zz, it), (ra, tr)) 3 x.toNatClampNeg (fun j => j) := if_neg hb
    obtain ⟨m, hm1, hm2, rfl⟩ := rng (by decide) (by decide) hb
    rw [nI_clamp (by omega)] at e0
    by_cases h10 : S = 10
    · have e : sRiffle ((n, P, S, sd), (σ, μ, K, Hh), (ts, zz, it), (ra, tr)) (nI m) = (-4, ((n, P, S, sd), (σ, μ, K, Hh), (ts, zz, it), (ra, tr))) := by rw [e0]; exact if_pos h10
      refine pb_iload_n1 g dX7_riffle_0 ?_
      refine pb_iconst (v := nI 1) g dX7_riffle_1 (by decide) ?_
      first | refine pb_icmp_ltN g 11 dX7_riffle_2 (by decide) (by omega) (by omega) (fun c2 => ?_) (fun c2 => ?_) | refine pb_icmp_lt g 11 dX7_riffle_2 (by decide) (fun c2 => ?_) (fun c2 => ?_)
      · exact absurd c2 (by omega)
      · refine pb_iload_n1 g dX7_riffle_5 ?_
        refine pb_bipush (v := nI 10) g dX7_riffle_6 (by decide) ?_
        first | refine pb_icmp_leN g 14 dX7_riffle_8 (by decide) (by omega) (by omega) (fun c8 => ?_) (fun c8 => ?_) | refine pb_icmp_le g 14 dX7_riffle_8 (by decide) (fun c8 => ?_) (fun c8 => ?_)
        · refine pb_aload_n0 g dX7_riffle_14 ?_
          refine pb_getf g fX7_40 dX7_riffle_15 dr_o rfl ?_
          refine pb_bipush (v := nI 10) g dX7_riffle_18 (by decide) ?_
          first | refine pb_icmp_ltN g 28 dX7_riffle_20 (by decide) (by omega) (by omega) (fun c20 => ?_) (fun c20 => ?_) | refine pb_icmp_lt g 28 dX7_riffle_20 (by decide) (fun c20 => ?_) (fun c20 => ?_)
          · exact absurd c20 (by omega)
          · refine pb_bipush (v := -4) g dX7_riffle_23 (by decide) ?_
            refine pb_goto g 34 dX7_riffle_25 (by decide) ?_
            refine pb_iret g z dX7_riffle_34 ?_
            exact ⟨_, rfl, by rw [e], by rw [e]; exact ⟨_, _, _, _, _, _, _, _, _, _, _, rfl, d1, d2, d3, d4⟩⟩
        · exact absurd c8 (by omega)
    · have e : sRiffle ((n, P, S, sd), (σ, μ, K, Hh), (ts, zz, it), (ra, tr)) (nI m) = (nI S, ((n, P, S + 1, sd), (σ, va_up μ S (fun j => j), va_up K S 3, va_up Hh S m), (ts, zz, it), (ra, tr))) := by rw [e0]; exact if_neg h10
      refine pb_iload_n1 g dX7_riffle_0 ?_
      refine pb_iconst (v := nI 1) g dX7_riffle_1 (by decide) ?_
      first | refine pb_icmp_ltN g 11 dX7_riffle_2 (by decide) (by omega) (by omega) (fun c2 => ?_) (fun c2 => ?_) | refine pb_icmp_lt g 11 dX7_riffle_2 (by decide) (fun c2 => ?_) (fun c2 => ?_)
      · exact absurd c2 (by omega)
      · refine pb_iload_n1 g dX7_riffle_5 ?_
        refine pb_bipush (v := nI 10) g dX7_riffle_6 (by decide) ?_
        first | refine pb_icmp_leN g 14 dX7_riffle_8 (by decide) (by omega) (by omega) (fun c8 => ?_) (fun c8 => ?_) | refine pb_icmp_le g 14 dX7_riffle_8 (by decide) (fun c8 => ?_) (fun c8 => ?_)
        · refine pb_aload_n0 g dX7_riffle_14 ?_
          refine pb_getf g fX7_40 dX7_riffle_15 dr_o rfl ?_
          refine pb_bipush (v := nI 10) g dX7_riffle_18 (by decide) ?_
          first | refine pb_icmp_ltN g 28 dX7_riffle_20 (by decide) (by omega) (by omega) (fun c20 => ?_) (fun c20 => ?_) | refine pb_icmp_lt g 28 dX7_riffle_20 (by decide) (fun c20 => ?_) (fun c20 => ?_)
          · refine pb_aload_n0 g dX7_riffle_28 ?_
            refine pb_iconst (v := nI 3) g dX7_riffle_29 (by decide) ?_
            refine pb_iload_n1 g dX7_riffle_30 ?_
            refine pb_Vi2 g qX7_132 dX7_riffle_31 (k + 5) (by omega) dr_o (x_addShuffle (k + 5) (a := 3) (b := m) (by omega)) (fun r31 h31 e31 => ?_)
            obtain ⟨rfl, rfl⟩ := e31
            refine pb_iret g z dX7_riffle_34 ?_
            exact ⟨_, rfl, by rw [e], by rw [e]; exact ⟨_, _, _, _, _, _, _, _, _, _, _, rfl, d1, d2_up0 d2 (by decide), d3, d4⟩⟩
          · exact absurd c20 (by omega)
        · exact absurd c8 (by omega)
set_option maxHeartbeats 4000000 in
set_option maxRecDepth 100000 in
theorem x_top (k : Nat) (q : SP)  (h : PH) (hD : IsD q h) (hI : SI q) : Runs yX7_top cX7_top 1 (some .int) (k + 6) [.ref 0] h (fun o h' => ∃ r : Int32, o = some (.int r) ∧ r = (sTop q).1 ∧ IsD ((sTop q).2) h') := by
  obtain ⟨⟨n, P, S, sd⟩, ⟨σ, μ, K, Hh⟩, ⟨ts, zz, it⟩, ⟨ra, tr⟩⟩ := q
  obtain ⟨⟨hn1, hn, hP, hS⟩, hσ, hK, hz, hra⟩ := hI
  obtain ⟨pk, fr, itd, jk, kd, hp, kt, ak, an, ah, jl, rfl, d1, d2, d3, d4⟩ := hD
  refine Runs.of (by decide) (Nat.le_of_ble_eq_true rfl) [some (.ref 0)] 0 rfl (fun Γ g z => ?_)
  by_cases h10 : S = 10
  · have e : sTop ((n, P, S, sd), (σ, μ, K, Hh), (ts, zz, it), (ra, tr)) = (-4, ((n, P, S, sd), (σ, μ, K, Hh), (ts, zz, it), (ra, tr))) := if_pos h10
    refine pb_aload_n0 g dX7_top_0 ?_
    refine pb_getf g fX7_40 dX7_top_1 dr_o rfl ?_
    refine pb_bipush (v := nI 10) g dX7_top_4 (by decide) ?_
    first | refine pb_icmp_ltN g 14 dX7_top_6 (by decide) (by omega) (by omega) (fun c6 => ?_) (fun c6 => ?_) | refine pb_icmp_lt g 14 dX7_top_6 (by decide) (fun c6 => ?_) (fun c6 => ?_)
    · exact absurd c6 (by omega)
    · refine pb_bipush (v := -4) g dX7_top_9 (by decide) ?_
      refine pb_goto g 23 dX7_top_11 (by decide) ?_
      refine pb_iret g z dX7_top_23 ?_
      exact ⟨_, rfl, by rw [e], by rw [e]; exact ⟨_, _, _, _, _, _, _, _, _, _, _, rfl, d1, d2, d3, d4⟩⟩
  · have e : sTop ((n, P, S, sd), (σ, μ, K, Hh), (ts, zz, it), (ra, tr)) = (nI S, ((n, P, S + 1, sd), (σ, va_up μ S (fun j => j), va_up K S 4, va_up Hh S n), (ts, zz, it), (ra, tr))) := if_neg h10
    refine pb_aload_n0 g dX7_top_0 ?_
    refine pb_getf g fX7_40 dX7_top_1 dr_o rfl ?_
    refine pb_bipush (v := nI 10) g dX7_top_4 (by decide) ?_
    first | refine pb_icmp_ltN g 14 dX7_top_6 (by decide) (by omega) (by omega) (fun c6 => ?_) (fun c6 => ?_) | refine pb_icmp_lt g 14 dX7_top_6 (by decide) (fun c6 => ?_) (fun c6 => ?_)
    · refine pb_aload_n0 g dX7_top_14 ?_
      refine pb_iconst (v := nI 4) g dX7_top_15 (by decide) ?_
      refine pb_aload_n0 g dX7_top_16 ?_
      refine pb_getf g fX7_33 dX7_top_17 dr_o rfl ?_
      refine pb_Vi2 g qX7_132 dX7_top_20 (k + 5) (by omega) dr_o (x_addShuffle (k + 5) (a := 4) (b := n) (by omega)) (fun r20 h20 e20 => ?_)
      obtain ⟨rfl, rfl⟩ := e20
      refine pb_iret g z dX7_top_23 ?_
      exact ⟨_, rfl, by rw [e], by rw [e]; exact ⟨_, _, _, _, _, _, _, _, _, _, _, rfl, d1, d2_up0 d2 (by decide), d3, d4⟩⟩
    · exact absurd c6 (by omega)
set_option maxHeartbeats 4000000 in
set_option maxRecDepth 100000 in
theorem x_behind (k : Nat) (q : SP) (x y : Int32) (h : PH) (hD : IsD q h) (hI : SI q) : Runs yX7_behind cX7_behind 3 (some .int) (k + 6) [.ref 0, .int x, .int y] h (fun o h' => ∃ r : Int32, o = some (.int r) ∧ r = (sBehind q x y).1 ∧ IsD ((sBehind q x y).2) h') := by
  obtain ⟨⟨n, P, S, sd⟩, ⟨σ, μ, K, Hh⟩, ⟨ts, zz, it⟩, ⟨ra, tr⟩⟩ := q
  obtain ⟨⟨hn1, hn, hP, hS⟩, hσ, hK, hz, hra⟩ := hI
  obtain ⟨pk, fr, itd, jk, kd, hp, kt, ak, an, ah, jl, rfl, d1, d2, d3, d4⟩ := hD
  refine Runs.of (by decide) (Nat.le_of_ble_eq_true rfl) [some (.ref 0), some (.int x), some (.int y)] 0 rfl (fun Γ g z => ?_)
  cases hx : ix x S with
  | none =>
    have e : sBehind ((n, P, S, sd), (σ, μ, K, Hh), (ts, zz, it), (ra, tr)) x y = (-2, ((n, P, S, sd), (σ, μ, K, Hh), (ts, zz, it), (ra, tr))) := by simp only [sBehind, hx]
    have hxn := ix_none (by omega) hx
    refine pb_aload_n0 g dX7_behind_0 ?_
    refine pb_iload_n1 g dX7_behind_1 ?_
    refine pb_Vi1 g qX7_148 dX7_behind_2 (k + 5) (by omega) dr_o (x_isShuffleF (k + 5) (by assumption) hS) (fun r2 h2 e2 => ?_)
    obtain ⟨rfl, rfl⟩ := e2
    first | refine pb_if_eqN g 16 dX7_behind_5 (by decide) (by omega) (fun c5 => ?_) (fun c5 => ?_) | refine pb_if_eq g 16 dX7_behind_5 (by decide) (fun c5 => ?_) (fun c5 => ?_)
    · refine pb_bipush (v := -2) g dX7_behind_16 (by decide) ?_
      refine pb_iret g z dX7_behind_18 ?_
      exact ⟨_, rfl, by rw [e], by rw [e]; exact ⟨_, _, _, _, _, _, _, _, _, _, _, rfl, d1, d2, d3, d4⟩⟩
    · exact absurd c5 (by decide)
  | some x0 =>
    obtain ⟨hx0, rfl⟩ := ix_some (by omega) hx
    cases hy : ix y S with
    | none =>
      have e : sBehind ((n, P, S, sd), (σ, μ, K, Hh), (ts, zz, it), (ra, tr)) (nI x0) y = (-2, ((n, P, S, sd), (σ, μ, K, Hh), (ts, zz, it), (ra, tr))) := by simp only [sBehind, hx, hy]
      have hyn := ix_none (by omega) hy
      refine pb_aload_n0 g dX7_behind_0 ?_
      refine pb_iload_n1 g dX7_behind_1 ?_
      refine pb_Vi1 g qX7_148 dX7_behind_2 (k + 5) (by omega) dr_o (x_isShuffleT (k + 5) (by assumption) hS) (fun r2 h2 e2 => ?_)
      obtain ⟨rfl, rfl⟩ := e2
      first | refine pb_if_eqN g 16 dX7_behind_5 (by decide) (by omega) (fun c5 => ?_) (fun c5 => ?_) | refine pb_if_eq g 16 dX7_behind_5 (by decide) (fun c5 => ?_) (fun c5 => ?_)
      · exact absurd c5 (by decide)
      · refine pb_aload_n0 g dX7_behind_8 ?_
        refine pb_iload_n2 g dX7_behind_9 ?_
        refine pb_Vi1 g qX7_148 dX7_behind_10 (k + 5) (by omega) dr_o (x_isShuffleF (k + 5) (by assumption) hS) (fun r10 h10 e10 => ?_)
        obtain ⟨rfl, rfl⟩ := e10
        first | refine pb_if_neN g 19 dX7_behind_13 (by decide) (by omega) (fun c13 => ?_) (fun c13 => ?_) | refine pb_if_ne g 19 dX7_behind_13 (by decide) (fun c13 => ?_) (fun c13 => ?_)
        · exact absurd c13 (by decide)
        · refine pb_bipush (v := -2) g dX7_behind_16 (by decide) ?_
          refine pb_iret g z dX7_behind_18 ?_
          exact ⟨_, rfl, by rw [e], by rw [e]; exact ⟨_, _, _, _, _, _, _, _, _, _, _, rfl, d1, d2, d3, d4⟩⟩
    | some y0 =>
      obtain ⟨hy0, rfl⟩ := ix_some (by omega) hy
      by_cases hx3 : K x0 < 3
      · by_cases hy3 : K y0 < 3
        · by_cases h10 : S = 10
          · have e : sBehind ((n, P, S, sd), (σ, μ, K, Hh), (ts, zz, it), (ra, tr)) (nI x0) (nI y0) = (-4, ((n, P, S, sd), (σ, μ, K, Hh), (ts, zz, it), (ra, tr))) := by simp only [sBehind, hx, hy, if_pos (And.intro hx3 hy3), sMk, if_pos h10]
            refine pb_aload_n0 g dX7_behind_0 ?_
            refine pb_iload_n1 g dX7_behind_1 ?_
            refine pb_Vi1 g qX7_148 dX7_behind_2 (k + 5) (by omega) dr_o (x_isShuffleT (k + 5) (by assumption) hS) (fun r2 h2 e2 => ?_)
            obtain ⟨rfl, rfl⟩ := e2
            first | refine pb_if_eqN g 16 dX7_behind_5 (by decide) (by omega) (fun c5 => ?_) (fun c5 => ?_) | refine pb_if_eq g 16 dX7_behind_5 (by decide) (fun c5 => ?_) (fun c5 => ?_)
            · exact absurd c5 (by decide)
            · refine pb_aload_n0 g dX7_behind_8 ?_
              refine pb_iload_n2 g dX7_behind_9 ?_
              refine pb_Vi1 g qX7_148 dX7_behind_10 (k + 5) (by omega) dr_o (x_isShuffleT (k + 5) (by assumption) hS) (fun r10 h10 e10 => ?_)
              obtain ⟨rfl, rfl⟩ := e10
              first | refine pb_if_neN g 19 dX7_behind_13 (by decide) (by omega) (fun c13 => ?_) (fun c13 => ?_) | refine pb_if_ne g 19 dX7_behind_13 (by decide) (fun c13 => ?_) (fun c13 => ?_)
              · refine pb_aload_n0 g dX7_behind_19 ?_
                refine pb_getf g fX7_16 dX7_behind_20 dr_o rfl ?_
                refine pb_iload_n1 g dX7_behind_23 ?_
                refine pb_aaldN g dX7_behind_24 dr_shs (by decide) (by omega) (by omega) (by rfl) ?_
                refine pb_Vi0 g qX7_151 dX7_behind_25 (k + 5) (by omega) (dr_sh (by omega)) (x_hasMove (k + 5) (s := x0) (K := K x0) (by omega) (d2 x0 (by assumption)).1 (hK x0 (by assumption)).1) (fun r25 h25 e25 => ?_)
                obtain ⟨rfl, rfl⟩ := e25
                rw [if_pos (by assumption)]
                first | refine pb_if_eqN g 43 dX7_behind_28 (by decide) (by omega) (fun c28 => ?_) (fun c28 => ?_) | refine pb_if_eq g 43 dX7_behind_28 (by decide) (fun c28 => ?_) (fun c28 => ?_)
                · exact absurd c28 (by decide)
                · refine pb_aload_n0 g dX7_behind_31 ?_
                  refine pb_getf g fX7_16 dX7_behind_32 dr_o rfl ?_
                  refine pb_iload_n2 g dX7_behind_35 ?_
                  refine pb_aaldN g dX7_behind_36 dr_shs (by decide) (by omega) (by omega) (by rfl) ?_
                  refine pb_Vi0 g qX7_151 dX7_behind_37 (k + 5) (by omega) (dr_sh (by omega)) (x_hasMove (k + 5) (s := y0) (K := K y0) (by omega) (d2 y0 (by assumption)).1 (hK y0 (by assumption)).1) (fun r37 h37 e37 => ?_)
                  obtain ⟨rfl, rfl⟩ := e37
                  rw [if_pos (by assumption)]
                  first | refine pb_if_neN g 46 dX7_behind_40 (by decide) (by omega) (fun c40 => ?_) (fun c40 => ?_) | refine pb_if_ne g 46 dX7_behind_40 (by decide) (fun c40 => ?_) (fun c40 => ?_)
                  · refine pb_aload_n0 g dX7_behind_46 ?_
                    refine pb_getf g fX7_40 dX7_behind_47 dr_o rfl ?_
                    refine pb_bipush (v := nI 10) g dX7_behind_50 (by decide) ?_
                    first | refine pb_icmp_ltN g 58 dX7_behind_52 (by decide) (by omega) (by omega) (fun c52 => ?_) (fun c52 => ?_) | refine pb_icmp_lt g 58 dX7_behind_52 (by decide) (fun c52 => ?_) (fun c52 => ?_)
                    · exact absurd c52 (by omega)
                    · refine pb_bipush (v := -4) g dX7_behind_55 (by decide) ?_
                      refine pb_iret g z dX7_behind_57 ?_
                      exact ⟨_, rfl, by rw [e], by rw [e]; exact ⟨_, _, _, _, _, _, _, _, _, _, _, rfl, d1, d2, d3, d4⟩⟩
                  · exact absurd c40 (by decide)
              · exact absurd c13 (by decide)
          · have e : sBehind ((n, P, S, sd), (σ, μ, K, Hh), (ts, zz, it), (ra, tr)) (nI x0) (nI y0) = (nI S, ((n, P, S + 1, sd), (σ, va_up μ S (fun i => μ x0 (μ y0 i)), va_up K S 0, va_up Hh S 2), (ts, zz, it), (ra, tr))) := by simp only [sBehind, hx, hy, if_pos (And.intro hx3 hy3), sMk, if_neg h10]
            have hmy := ((hK y0 hy0).2.2.2.2 hy3).1
            refine pb_aload_n0 g dX7_behind_0 ?_
            refine pb_iload_n1 g dX7_behind_1 ?_
            refine pb_Vi1 g qX7_148 dX7_behind_2 (k + 5) (by omega) dr_o (x_isShuffleT (k + 5) (by assumption) hS) (fun r2 h2 e2 => ?_)
            obtain ⟨rfl, rfl⟩ := e2
            first | refine pb_if_eqN g 16 dX7_behind_5 (by decide) (by omega) (fun c5 => ?_) (fun c5 => ?_) | refine pb_if_eq g 16 dX7_behind_5 (by decide) (fun c5 => ?_) (fun c5 => ?_)
            · exact absurd c5 (by decide)
            · refine pb_aload_n0 g dX7_behind_8 ?_
              refine pb_iload_n2 g dX7_behind_9 ?_
              refine pb_Vi1 g qX7_148 dX7_behind_10 (k + 5) (by omega) dr_o (x_isShuffleT (k + 5) (by assumption) hS) (fun r10 h10 e10 => ?_)
              obtain ⟨rfl, rfl⟩ := e10
              first | refine pb_if_neN g 19 dX7_behind_13 (by decide) (by omega) (fun c13 => ?_) (fun c13 => ?_) | refine pb_if_ne g 19 dX7_behind_13 (by decide) (fun c13 => ?_) (fun c13 => ?_)
              · refine pb_aload_n0 g dX7_behind_19 ?_
                refine pb_getf g fX7_16 dX7_behind_20 dr_o rfl ?_
                refine pb_iload_n1 g dX7_behind_23 ?_
                refine pb_aaldN g dX7_behind_24 dr_shs (by decide) (by omega) (by omega) (by rfl) ?_
                refine pb_Vi0 g qX7_151 dX7_behind_25 (k + 5) (by omega) (dr_sh (by omega)) (x_hasMove (k + 5) (s := x0) (K := K x0) (by omega) (d2 x0 (by assumption)).1 (hK x0 (by assumption)).1) (fun r25 h25 e25 => ?_)
                obtain ⟨rfl, rfl⟩ := e25
                rw [if_pos (by assumption)]
                first | refine pb_if_eqN g 43 dX7_behind_28 (by decide) (by omega) (fun c28 => ?_) (fun c28 => ?_) | refine pb_if_eq g 43 dX7_behind_28 (by decide) (fun c28 => ?_) (fun c28 => ?_)
                · exact absurd c28 (by decide)
                · refine pb_aload_n0 g dX7_behind_31 ?_
                  refine pb_getf g fX7_16 dX7_behind_32 dr_o rfl ?_
                  refine pb_iload_n2 g dX7_behind_35 ?_
                  refine pb_aaldN g dX7_behind_36 dr_shs (by decide) (by omega) (by omega) (by rfl) ?_
                  refine pb_Vi0 g qX7_151 dX7_behind_37 (k + 5) (by omega) (dr_sh (by omega)) (x_hasMove (k + 5) (s := y0) (K := K y0) (by omega) (d2 y0 (by assumption)).1 (hK y0 (by assumption)).1) (fun r37 h37 e37 => ?_)
                  obtain ⟨rfl, rfl⟩ := e37
                  rw [if_pos (by assumption)]
                  first | refine pb_if_neN g 46 dX7_behind_40 (by decide) (by omega) (fun c40 => ?_) (fun c40 => ?_) | refine pb_if_ne g 46 dX7_behind_40 (by decide) (fun c40 => ?_) (fun c40 => ?_)
                  · refine pb_aload_n0 g dX7_behind_46 ?_
                    refine pb_getf g fX7_40 dX7_behind_47 dr_o rfl ?_
                    refine pb_bipush (v := nI 10) g dX7_behind_50 (by decide) ?_
                    first | refine pb_icmp_ltN g 58 dX7_behind_52 (by decide) (by omega) (by omega) (fun c52 => ?_) (fun c52 => ?_) | refine pb_icmp_lt g 58 dX7_behind_52 (by decide) (fun c52 => ?_) (fun c52 => ?_)
                    · refine pb_aload_n0 g dX7_behind_58 ?_
                      refine pb_getf g fX7_16 dX7_behind_59 dr_o rfl ?_
                      refine pb_iload_n1 g dX7_behind_62 ?_
                      refine pb_aaldN g dX7_behind_63 dr_shs (by decide) (by omega) (by omega) (by rfl) ?_
                      refine pb_getf g fX7_129 dX7_behind_64 (dr_sh (by omega)) rfl ?_
                      refine pb_aload_n0 g dX7_behind_67 ?_
                      refine pb_getf g fX7_16 dX7_behind_68 dr_o rfl ?_
                      refine pb_iload_n2 g dX7_behind_71 ?_
                      refine pb_aaldN g dX7_behind_72 dr_shs (by decide) (by omega) (by omega) (by rfl) ?_
                      refine pb_getf g fX7_129 dX7_behind_73 (dr_sh (by omega)) rfl ?_
                      refine pb_aload_n0 g dX7_behind_76 ?_
                      refine pb_getf g fX7_16 dX7_behind_77 dr_o rfl ?_
                      refine pb_aload_n0 g dX7_behind_80 ?_
                      refine pb_getf g fX7_40 dX7_behind_81 dr_o rfl ?_
                      refine pb_aaldN g dX7_behind_84 dr_shs (by decide) (by omega) (by omega) (by rfl) ?_
                      refine pb_getf g fX7_129 dX7_behind_85 (dr_sh (by omega)) rfl ?_
                      refine pb_aload_n0 g dX7_behind_88 ?_
                      refine pb_getf g fX7_33 dX7_behind_89 dr_o rfl ?_
                      refine pb_Sv4 g qX7_154 dX7_behind_92 (k + 5) (by omega) (c_setThrough (k + 5) n (25 + x0) (25 + y0) (25 + S) hn (by omega) (by omega) (fr x0) (fr y0) (fr S) (μ y0) ((d2 y0 hy0).2.2 hy3) (fun j hj => by have := hmy j hj; omega) _ (dr_fr (by omega)) (dr_fr (by omega)) (dr_fr (by omega))) (fun h92 e92 => ?_)
                      subst e92
                      rw [ds_fr (by omega)]
                      refine pb_aload_n0 g dX7_behind_95 ?_
                      refine pb_iconst (v := nI 0) g dX7_behind_96 (by decide) ?_
                      refine pb_iconst (v := nI 2) g dX7_behind_97 (by decide) ?_
                      refine pb_Vi2 g qX7_132 dX7_behind_98 (k + 5) (by omega) dr_o (x_addShuffle (k + 5) (a := 0) (b := 2) (by omega)) (fun r98 h98 e98 => ?_)
                      obtain ⟨rfl, rfl⟩ := e98
                      refine pb_iret g z dX7_behind_101 ?_
                      exact ⟨_, rfl, by rw [e], by rw [e]; exact ⟨_, _, _, _, _, _, _, _, _, _, _, rfl, d1, d2_up d2 (fun _ j hj => by rw [th_at _ _ _ n j hj]; exact (d2 x0 hx0).2.2 hx3 _ (hmy j hj)), d3, d4⟩⟩
                    · exact absurd c52 (by omega)
                  · exact absurd c40 (by decide)
              · exact absurd c13 (by decide)
        · have e : sBehind ((n, P, S, sd), (σ, μ, K, Hh), (ts, zz, it), (ra, tr)) (nI x0) (nI y0) = (-3, ((n, P, S, sd), (σ, μ, K, Hh), (ts, zz, it), (ra, tr))) := by simp only [sBehind, hx, hy, if_neg (fun z : K x0 < 3 ∧ K y0 < 3 => hy3 z.2)]
          refine pb_aload_n0 g dX7_behind_0 ?_
          refine pb_iload_n1 g dX7_behind_1 ?_
          refine pb_Vi1 g qX7_148 dX7_behind_2 (k + 5) (by omega) dr_o (x_isShuffleT (k + 5) (by assumption) hS) (fun r2 h2 e2 => ?_)
          obtain ⟨rfl, rfl⟩ := e2
          first | refine pb_if_eqN g 16 dX7_behind_5 (by decide) (by omega) (fun c5 => ?_) (fun c5 => ?_) | refine pb_if_eq g 16 dX7_behind_5 (by decide) (fun c5 => ?_) (fun c5 => ?_)
          · exact absurd c5 (by decide)
          · refine pb_aload_n0 g dX7_behind_8 ?_
            refine pb_iload_n2 g dX7_behind_9 ?_
            refine pb_Vi1 g qX7_148 dX7_behind_10 (k + 5) (by omega) dr_o (x_isShuffleT (k + 5) (by assumption) hS) (fun r10 h10 e10 => ?_)
            obtain ⟨rfl, rfl⟩ := e10
            first | refine pb_if_neN g 19 dX7_behind_13 (by decide) (by omega) (fun c13 => ?_) (fun c13 => ?_) | refine pb_if_ne g 19 dX7_behind_13 (by decide) (fun c13 => ?_) (fun c13 => ?_)
            · refine pb_aload_n0 g dX7_behind_19 ?_
              refine pb_getf g fX7_16 dX7_behind_20 dr_o rfl ?_
              refine pb_iload_n1 g dX7_behind_23 ?_
              refine pb_aaldN g dX7_behind_24 dr_shs (by decide) (by omega) (by omega) (by rfl) ?_
              refine pb_Vi0 g qX7_151 dX7_behind_25 (k + 5) (by omega) (dr_sh (by omega)) (x_hasMove (k + 5) (s := x0) (K := K x0) (by omega) (d2 x0 (by assumption)).1 (hK x0 (by assumption)).1) (fun r25 h25 e25 => ?_)
              obtain ⟨rfl, rfl⟩ := e25
              rw [if_pos (by assumption)]
              first | refine pb_if_eqN g 43 dX7_behind_28 (by decide) (by omega) (fun c28 => ?_) (fun c28 => ?_) | refine pb_if_eq g 43 dX7_behind_28 (by decide) (fun c28 => ?_) (fun c28 => ?_)
              · exact absurd c28 (by decide)
              · refine pb_aload_n0 g dX7_behind_31 ?_
                refine pb_getf g fX7_16 dX7_behind_32 dr_o rfl ?_
                refine pb_iload_n2 g dX7_behind_35 ?_
                refine pb_aaldN g dX7_behind_36 dr_shs (by decide) (by omega) (by omega) (by rfl) ?_
                refine pb_Vi0 g qX7_151 dX7_behind_37 (k + 5) (by omega) (dr_sh (by omega)) (x_hasMove (k + 5) (s := y0) (K := K y0) (by omega) (d2 y0 (by assumption)).1 (hK y0 (by assumption)).1) (fun r37 h37 e37 => ?_)
                obtain ⟨rfl, rfl⟩ := e37
                rw [if_neg (by assumption)]
                first | refine pb_if_neN g 46 dX7_behind_40 (by decide) (by omega) (fun c40 => ?_) (fun c40 => ?_) | refine pb_if_ne g 46 dX7_behind_40 (by decide) (fun c40 => ?_) (fun c40 => ?_)
                · exact absurd c40 (by decide)
                · refine pb_bipush (v := -3) g dX7_behind_43 (by decide) ?_
                  refine pb_iret g z dX7_behind_45 ?_
                  exact ⟨_, rfl, by rw [e], by rw [e]; exact ⟨_, _, _, _, _, _, _, _, _, _, _, rfl, d1, d2, d3, d4⟩⟩
            · exact absurd c13 (by decide)
      · have e : sBehind ((n, P, S, sd), (σ, μ, K, Hh), (ts, zz, it), (ra, tr)) (nI x0) (nI y0) = (-3, ((n, P, S, sd), (σ, μ, K, Hh), (ts, zz, it), (ra, tr))) := by simp only [sBehind, hx, hy, if_neg (fun z : K x0 < 3 ∧ K y0 < 3 => hx3 z.1)]
        refine pb_aload_n0 g dX7_behind_0 ?_
        refine pb_iload_n1 g dX7_behind_1 ?_
        refine pb_Vi1 g qX7_148 dX7_behind_2 (k + 5) (by omega) dr_o (x_isShuffleT (k + 5) (by assumption) hS) (fun r2 h2 e2 => ?_)
        obtain ⟨rfl, rfl⟩ := e2
        first | refine pb_if_eqN g 16 dX7_behind_5 (by decide) (by omega) (fun c5 => ?_) (fun c5 => ?_) | refine pb_if_eq g 16 dX7_behind_5 (by decide) (fun c5 => ?_) (fun c5 => ?_)
        · exact absurd c5 (by decide)
        · refine pb_aload_n0 g dX7_behind_8 ?_
          refine pb_iload_n2 g dX7_behind_9 ?_
          refine pb_Vi1 g qX7_148 dX7_behind_10 (k + 5) (by omega) dr_o (x_isShuffleT (k + 5) (by assumption) hS) (fun r10 h10 e10 => ?_)
          obtain ⟨rfl, rfl⟩ := e10
          first | refine pb_if_neN g 19 dX7_behind_13 (by decide) (by omega) (fun c13 => ?_) (fun c13 => ?_) | refine pb_if_ne g 19 dX7_behind_13 (by decide) (fun c13 => ?_) (fun c13 => ?_)
          · refine pb_aload_n0 g dX7_behind_19 ?_
            refine pb_getf g fX7_16 dX7_behind_20 dr_o rfl ?_
            refine pb_iload_n1 g dX7_behind_23 ?_
            refine pb_aaldN g dX7_behind_24 dr_shs (by decide) (by omega) (by omega) (by rfl) ?_
            refine pb_Vi0 g qX7_151 dX7_behind_25 (k + 5) (by omega) (dr_sh (by omega)) (x_hasMove (k + 5) (s := x0) (K := K x0) (by omega) (d2 x0 (by assumption)).1 (hK x0 (by assumption)).1) (fun r25 h25 e25 => ?_)
            obtain ⟨rfl, rfl⟩ := e25
            rw [if_neg (by assumption)]
            first | refine pb_if_eqN g 43 dX7_behind_28 (by decide) (by omega) (fun c28 => ?_) (fun c28 => ?_) | refine pb_if_eq g 43 dX7_behind_28 (by decide) (fun c28 => ?_) (fun c28 => ?_)
            · refine pb_bipush (v := -3) g dX7_behind_43 (by decide) ?_
              refine pb_iret g z dX7_behind_45 ?_
              exact ⟨_, rfl, by rw [e], by rw [e]; exact ⟨_, _, _, _, _, _, _, _, _, _, _, rfl, d1, d2, d3, d4⟩⟩
            · exact absurd c28 (by decide)
          · exact absurd c13 (by decide)
set_option maxHeartbeats 4000000 in
set_option maxRecDepth 100000 in
theorem x_back (k : Nat) (q : SP) (x : Int32) (h : PH) (hD : IsD q h) (hI : SI q) : Runs yX7_back cX7_back 2 (some .int) (k + 6) [.ref 0, .int x] h (fun o h' => ∃ r : Int32, o = some (.int r) ∧ r = (sBack q x).1 ∧ IsD ((sBack q x).2) h') := by
  obtain ⟨⟨n, P, S, sd⟩, ⟨σ, μ, K, Hh⟩, ⟨ts, zz, it⟩, ⟨ra, tr⟩⟩ := q
  obtain ⟨⟨hn1, hn, hP, hS⟩, hσ, hK, hz, hra⟩ := hI
  obtain ⟨pk, fr, itd, jk, kd, hp, kt, ak, an, ah, jl, rfl, d1, d2, d3, d4⟩ := hD
  refine Runs.of (by decide) (Nat.le_of_ble_eq_true rfl) [some (.ref 0), some (.int x)] 0 rfl (fun Γ g z => ?_)
  cases hx : ix x S with
  | none =>
    have e : sBack ((n, P, S, sd), (σ, μ, K, Hh), (ts, zz, it), (ra, tr)) x = (-2, ((n, P, S, sd), (σ, μ, K, Hh), (ts, zz, it), (ra, tr))) := by simp only [sBack, hx]
    have hxn := ix_none (by omega) hx
    refine pb_aload_n0 g dX7_back_0 ?_
    refine pb_iload_n1 g dX7_back_1 ?_
    refine pb_Vi1 g qX7_148 dX7_back_2 (k + 5) (by omega) dr_o (x_isShuffleF (k + 5) (by assumption) hS) (fun r2 h2 e2 => ?_)
    obtain ⟨rfl, rfl⟩ := e2
    first | refine pb_if_neN g 11 dX7_back_5 (by decide) (by omega) (fun c5 => ?_) (fun c5 => ?_) | refine pb_if_ne g 11 dX7_back_5 (by decide) (fun c5 => ?_) (fun c5 => ?_)
    · exact absurd c5 (by decide)
    · refine pb_bipush (v := -2) g dX7_back_8 (by decide) ?_
      refine pb_iret g z dX7_back_10 ?_
      exact ⟨_, rfl, by rw [e], by rw [e]; exact ⟨_, _, _, _, _, _, _, _, _, _, _, rfl, d1, d2, d3, d4⟩⟩
  | some x0 =>
    obtain ⟨hx0, rfl⟩ := ix_some (by omega) hx
    by_cases hx3 : K x0 < 3
    · by_cases h10 : S = 10
      · have e : sBack ((n, P, S, sd), (σ, μ, K, Hh), (ts, zz, it), (ra, tr)) (nI x0) = (-4, ((n, P, S, sd), (σ, μ, K, Hh), (ts, zz, it), (ra, tr))) := by simp only [sBack, hx, if_pos hx3, sMk, if_pos h10]
        refine pb_aload_n0 g dX7_back_0 ?_
        refine pb_iload_n1 g dX7_back_1 ?_
        refine pb_Vi1 g qX7_148 dX7_back_2 (k + 5) (by omega) dr_o (x_isShuffleT (k + 5) (by assumption) hS) (fun r2 h2 e2 => ?_)
        obtain ⟨rfl, rfl⟩ := e2
        first | refine pb_if_neN g 11 dX7_back_5 (by decide) (by omega) (fun c5 => ?_) (fun c5 => ?_) | refine pb_if_ne g 11 dX7_back_5 (by decide) (fun c5 => ?_) (fun c5 => ?_)
        · refine pb_aload_n0 g dX7_back_11 ?_
          refine pb_getf g fX7_16 dX7_back_12 dr_o rfl ?_
          refine pb_iload_n1 g dX7_back_15 ?_
          refine pb_aaldN g dX7_back_16 dr_shs (by decide) (by omega) (by omega) (by rfl) ?_
          refine pb_Vi0 g qX7_151 dX7_back_17 (k + 5) (by omega) (dr_sh (by omega)) (x_hasMove (k + 5) (s := x0) (K := K x0) (by omega) (d2 x0 (by assumption)).1 (hK x0 (by assumption)).1) (fun r17 h17 e17 => ?_)
          obtain ⟨rfl, rfl⟩ := e17
          rw [if_pos (by assumption)]
          first | refine pb_if_neN g 26 dX7_back_20 (by decide) (by omega) (fun c20 => ?_) (fun c20 => ?_) | refine pb_if_ne g 26 dX7_back_20 (by decide) (fun c20 => ?_) (fun c20 => ?_)
          · refine pb_aload_n0 g dX7_back_26 ?_
            refine pb_getf g fX7_40 dX7_back_27 dr_o rfl ?_
            refine pb_bipush (v := nI 10) g dX7_back_30 (by decide) ?_
            first | refine pb_icmp_ltN g 38 dX7_back_32 (by decide) (by omega) (by omega) (fun c32 => ?_) (fun c32 => ?_) | refine pb_icmp_lt g 38 dX7_back_32 (by decide) (fun c32 => ?_) (fun c32 => ?_)
            · exact absurd c32 (by omega)
            · refine pb_bipush (v := -4) g dX7_back_35 (by decide) ?_
              refine pb_iret g z dX7_back_37 ?_
              exact ⟨_, rfl, by rw [e], by rw [e]; exact ⟨_, _, _, _, _, _, _, _, _, _, _, rfl, d1, d2, d3, d4⟩⟩
          · exact absurd c20 (by decide)
        · exact absurd c5 (by decide)
      · have e : sBack ((n, P, S, sd), (σ, μ, K, Hh), (ts, zz, it), (ra, tr)) (nI x0) = (nI S, ((n, P, S + 1, sd), (σ, va_up μ S (bkN (μ x0) n), va_up K S 0, va_up Hh S 2), (ts, zz, it), (ra, tr))) := by simp only [sBack, hx, if_pos hx3, sMk, if_neg h10]
        have hpm := (hK x0 hx0).2.2.2.2 hx3
        have hmx := hpm.1
        refine pb_aload_n0 g dX7_back_0 ?_
        refine pb_iload_n1 g dX7_back_1 ?_
        refine pb_Vi1 g qX7_148 dX7_back_2 (k + 5) (by omega) dr_o (x_isShuffleT (k + 5) (by assumption) hS) (fun r2 h2 e2 => ?_)
        obtain ⟨rfl, rfl⟩ := e2
        first | refine pb_if_neN g 11 dX7_back_5 (by decide) (by omega) (fun c5 => ?_) (fun c5 => ?_) | refine pb_if_ne g 11 dX7_back_5 (by decide) (fun c5 => ?_) (fun c5 => ?_)
        · refine pb_aload_n0 g dX7_back_11 ?_
          refine pb_getf g fX7_16 dX7_back_12 dr_o rfl ?_
          refine pb_iload_n1 g dX7_back_15 ?_
          refine pb_aaldN g dX7_back_16 dr_shs (by decide) (by omega) (by omega) (by rfl) ?_
          refine pb_Vi0 g qX7_151 dX7_back_17 (k + 5) (by omega) (dr_sh (by omega)) (x_hasMove (k + 5) (s := x0) (K := K x0) (by omega) (d2 x0 (by assumption)).1 (hK x0 (by assumption)).1) (fun r17 h17 e17 => ?_)
          obtain ⟨rfl, rfl⟩ := e17
          rw [if_pos (by assumption)]
          first | refine pb_if_neN g 26 dX7_back_20 (by decide) (by omega) (fun c20 => ?_) (fun c20 => ?_) | refine pb_if_ne g 26 dX7_back_20 (by decide) (fun c20 => ?_) (fun c20 => ?_)
          · refine pb_aload_n0 g dX7_back_26 ?_
            refine pb_getf g fX7_40 dX7_back_27 dr_o rfl ?_
            refine pb_bipush (v := nI 10) g dX7_back_30 (by decide) ?_
            first | refine pb_icmp_ltN g 38 dX7_back_32 (by decide) (by omega) (by omega) (fun c32 => ?_) (fun c32 => ?_) | refine pb_icmp_lt g 38 dX7_back_32 (by decide) (fun c32 => ?_) (fun c32 => ?_)
            · refine pb_aload_n0 g dX7_back_38 ?_
              refine pb_getf g fX7_16 dX7_back_39 dr_o rfl ?_
              refine pb_iload_n1 g dX7_back_42 ?_
              refine pb_aaldN g dX7_back_43 dr_shs (by decide) (by omega) (by omega) (by rfl) ?_
              refine pb_getf g fX7_129 dX7_back_44 (dr_sh (by omega)) rfl ?_
              refine pb_aload_n0 g dX7_back_47 ?_
              refine pb_getf g fX7_16 dX7_back_48 dr_o rfl ?_
              refine pb_aload_n0 g dX7_back_51 ?_
              refine pb_getf g fX7_40 dX7_back_52 dr_o rfl ?_
              refine pb_aaldN g dX7_back_55 dr_shs (by decide) (by omega) (by omega) (by rfl) ?_
              refine pb_getf g fX7_129 dX7_back_56 (dr_sh (by omega)) rfl ?_
              refine pb_aload_n0 g dX7_back_59 ?_
              refine pb_getf g fX7_33 dX7_back_60 dr_o rfl ?_
              refine pb_Sv3 g qX7_118 dX7_back_63 (k + 5) (by omega) (c_setBack (k + 5) n (25 + x0) (25 + S) hn (by omega) (fr x0) (fr S) (μ x0) ((d2 x0 hx0).2.2 hx3) (fun j hj => by have := hmx j hj; omega) _ (dr_fr (by omega)) (dr_fr (by omega))) (fun h63 e63 => ?_)
              subst e63
              rw [ds_fr (by omega)]
              refine pb_aload_n0 g dX7_back_66 ?_
              refine pb_iconst (v := nI 0) g dX7_back_67 (by decide) ?_
              refine pb_iconst (v := nI 2) g dX7_back_68 (by decide) ?_
              refine pb_Vi2 g qX7_132 dX7_back_69 (k + 5) (by omega) dr_o (x_addShuffle (k + 5) (a := 0) (b := 2) (by omega)) (fun r69 h69 e69 => ?_)
              obtain ⟨rfl, rfl⟩ := e69
              refine pb_iret g z dX7_back_72 ?_
              exact ⟨_, rfl, by rw [e], by rw [e]; exact ⟨_, _, _, _, _, _, _, _, _, _, _, rfl, d1, d2_up d2 (fun _ j hj => by exact (bk_pm hpm _ j hj).1), d3, d4⟩⟩
            · exact absurd c32 (by omega)
          · exact absurd c20 (by decide)
        · exact absurd c5 (by decide)
    · have e : sBack ((n, P, S, sd), (σ, μ, K, Hh), (ts, zz, it), (ra, tr)) (nI x0) = (-3, ((n, P, S, sd), (σ, μ, K, Hh), (ts, zz, it), (ra, tr))) := by simp only [sBack, hx, if_neg hx3]
      refine pb_aload_n0 g dX7_back_0 ?_
      refine pb_iload_n1 g dX7_back_1 ?_
      refine pb_Vi1 g qX7_148 dX7_back_2 (k + 5) (by omega) dr_o (x_isShuffleT (k + 5) (by assumption) hS) (fun r2 h2 e2 => ?_)
      obtain ⟨rfl, rfl⟩ := e2
      first | refine pb_if_neN g 11 dX7_back_5 (by decide) (by omega) (fun c5 => ?_) (fun c5 => ?_) | refine pb_if_ne g 11 dX7_back_5 (by decide) (fun c5 => ?_) (fun c5 => ?_)
      · refine pb_aload_n0 g dX7_back_11 ?_
        refine pb_getf g fX7_16 dX7_back_12 dr_o rfl ?_
        refine pb_iload_n1 g dX7_back_15 ?_
        refine pb_aaldN g dX7_back_16 dr_shs (by decide) (by omega) (by omega) (by rfl) ?_
        refine pb_Vi0 g qX7_151 dX7_back_17 (k + 5) (by omega) (dr_sh (by omega)) (x_hasMove (k + 5) (s := x0) (K := K x0) (by omega) (d2 x0 (by assumption)).1 (hK x0 (by assumption)).1) (fun r17 h17 e17 => ?_)
        obtain ⟨rfl, rfl⟩ := e17
        rw [if_neg (by assumption)]
        first | refine pb_if_neN g 26 dX7_back_20 (by decide) (by omega) (fun c20 => ?_) (fun c20 => ?_) | refine pb_if_ne g 26 dX7_back_20 (by decide) (fun c20 => ?_) (fun c20 => ?_)
        · exact absurd c20 (by decide)
        · refine pb_bipush (v := -3) g dX7_back_23 (by decide) ?_
          refine pb_iret g z dX7_back_25 ?_
          exact ⟨_, rfl, by rw [e], by rw [e]; exact ⟨_, _, _, _, _, _, _, _, _, _, _, rfl, d1, d2, d3, d4⟩⟩
      · exact absurd c5 (by decide)
set_option maxHeartbeats 4000000 in
set_option maxRecDepth 100000 in
theorem x_moves (k : Nat) (q : SP) (s i : Int32) (h : PH) (hD : IsD q h) (hI : SI q) : Runs yX7_moves cX7_moves 3 (some .int) (k + 6) [.ref 0, .int s, .int i] h (fun o h' => ∃ r : Int32, o = some (.int r) ∧ r = sMoves q s i ∧ IsD (q) h') := by
  obtain ⟨⟨n, P, S, sd⟩, ⟨σ, μ, K, Hh⟩, ⟨ts, zz, it⟩, ⟨ra, tr⟩⟩ := q
  obtain ⟨⟨hn1, hn, hP, hS⟩, hσ, hK, hz, hra⟩ := hI
  obtain ⟨pk, fr, itd, jk, kd, hp, kt, ak, an, ah, jl, rfl, d1, d2, d3, d4⟩ := hD
  refine Runs.of (by decide) (Nat.le_of_ble_eq_true rfl) [some (.ref 0), some (.int s), some (.int i)] 0 rfl (fun Γ g z => ?_)
  cases hs : ix s S with
  | none =>
    have e : sMoves ((n, P, S, sd), (σ, μ, K, Hh), (ts, zz, it), (ra, tr)) s i = -2 := by simp only [sMoves, hs]
    have hsn := ix_none (by omega) hs
    refine pb_aload_n0 g dX7_moves_0 ?_
    refine pb_iload_n1 g dX7_moves_1 ?_
    refine pb_Vi1 g qX7_148 dX7_moves_2 (k + 5) (by omega) dr_o (x_isShuffleF (k + 5) (by assumption) hS) (fun r2 h2 e2 => ?_)
    obtain ⟨rfl, rfl⟩ := e2
    first | refine pb_if_eqN g 16 dX7_moves_5 (by decide) (by omega) (fun c5 => ?_) (fun c5 => ?_) | refine pb_if_eq g 16 dX7_moves_5 (by decide) (fun c5 => ?_) (fun c5 => ?_)
    · refine pb_bipush (v := -2) g dX7_moves_16 (by decide) ?_
      refine pb_iret g z dX7_moves_18 ?_
      exact ⟨_, rfl, by rw [e], ⟨_, _, _, _, _, _, _, _, _, _, _, rfl, d1, d2, d3, d4⟩⟩
    · exact absurd c5 (by decide)
  | some s0 =>
    obtain ⟨hs0, rfl⟩ := ix_some (by omega) hs
    cases hi : ix i n with
    | none =>
      have e : sMoves ((n, P, S, sd), (σ, μ, K, Hh), (ts, zz, it), (ra, tr)) (nI s0) i = -2 := by simp only [sMoves, hs, hi]
      have hin := ix_none (by omega) hi
      refine pb_aload_n0 g dX7_moves_0 ?_
      refine pb_iload_n1 g dX7_moves_1 ?_
      refine pb_Vi1 g qX7_148 dX7_moves_2 (k + 5) (by omega) dr_o (x_isShuffleT (k + 5) (by assumption) hS) (fun r2 h2 e2 => ?_)
      obtain ⟨rfl, rfl⟩ := e2
      first | refine pb_if_eqN g 16 dX7_moves_5 (by decide) (by omega) (fun c5 => ?_) (fun c5 => ?_) | refine pb_if_eq g 16 dX7_moves_5 (by decide) (fun c5 => ?_) (fun c5 => ?_)
      · exact absurd c5 (by decide)
      · refine pb_aload_n0 g dX7_moves_8 ?_
        refine pb_iload_n2 g dX7_moves_9 ?_
        refine pb_Vi1 g qX7_115 dX7_moves_10 (k + 5) (by omega) dr_o (x_isPlaceF (k + 5) (by assumption) hn) (fun r10 h10 e10 => ?_)
        obtain ⟨rfl, rfl⟩ := e10
        first | refine pb_if_neN g 19 dX7_moves_13 (by decide) (by omega) (fun c13 => ?_) (fun c13 => ?_) | refine pb_if_ne g 19 dX7_moves_13 (by decide) (fun c13 => ?_) (fun c13 => ?_)
        · exact absurd c13 (by decide)
        · refine pb_bipush (v := -2) g dX7_moves_16 (by decide) ?_
          refine pb_iret g z dX7_moves_18 ?_
          exact ⟨_, rfl, by rw [e], ⟨_, _, _, _, _, _, _, _, _, _, _, rfl, d1, d2, d3, d4⟩⟩
    | some i0 =>
      obtain ⟨hi0, rfl⟩ := ix_some (by omega) hi
      by_cases h3 : K s0 < 3
      · have e : sMoves ((n, P, S, sd), (σ, μ, K, Hh), (ts, zz, it), (ra, tr)) (nI s0) (nI i0) = nI (μ s0 i0) := by simp only [sMoves, hs, hi, if_pos h3]
        refine pb_aload_n0 g dX7_moves_0 ?_
        refine pb_iload_n1 g dX7_moves_1 ?_
        refine pb_Vi1 g qX7_148 dX7_moves_2 (k + 5) (by omega) dr_o (x_isShuffleT (k + 5) (by assumption) hS) (fun r2 h2 e2 => ?_)
        obtain ⟨rfl, rfl⟩ := e2
        first | refine pb_if_eqN g 16 dX7_moves_5 (by decide) (by omega) (fun c5 => ?_) (fun c5 => ?_) | refine pb_if_eq g 16 dX7_moves_5 (by decide) (fun c5 => ?_) (fun c5 => ?_)
        · exact absurd c5 (by decide)
        · refine pb_aload_n0 g dX7_moves_8 ?_
          refine pb_iload_n2 g dX7_moves_9 ?_
          refine pb_Vi1 g qX7_115 dX7_moves_10 (k + 5) (by omega) dr_o (x_isPlaceT (k + 5) (by assumption) hn) (fun r10 h10 e10 => ?_)
          obtain ⟨rfl, rfl⟩ := e10
          first | refine pb_if_neN g 19 dX7_moves_13 (by decide) (by omega) (fun c13 => ?_) (fun c13 => ?_) | refine pb_if_ne g 19 dX7_moves_13 (by decide) (fun c13 => ?_) (fun c13 => ?_)
          · refine pb_aload_n0 g dX7_moves_19 ?_
            refine pb_getf g fX7_16 dX7_moves_20 dr_o rfl ?_
            refine pb_iload_n1 g dX7_moves_23 ?_
            refine pb_aaldN g dX7_moves_24 dr_shs (by decide) (by omega) (by omega) (by rfl) ?_
            refine pb_Vi0 g qX7_151 dX7_moves_25 (k + 5) (by omega) (dr_sh (by omega)) (x_hasMove (k + 5) (s := s0) (K := K s0) (by omega) (d2 s0 (by assumption)).1 (hK s0 (by assumption)).1) (fun r25 h25 e25 => ?_)
            obtain ⟨rfl, rfl⟩ := e25
            rw [if_pos (by assumption)]
            first | refine pb_if_eqN g 45 dX7_moves_28 (by decide) (by omega) (fun c28 => ?_) (fun c28 => ?_) | refine pb_if_eq g 45 dX7_moves_28 (by decide) (fun c28 => ?_) (fun c28 => ?_)
            · exact absurd c28 (by decide)
            · refine pb_aload_n0 g dX7_moves_31 ?_
              refine pb_getf g fX7_16 dX7_moves_32 dr_o rfl ?_
              refine pb_iload_n1 g dX7_moves_35 ?_
              refine pb_aaldN g dX7_moves_36 dr_shs (by decide) (by omega) (by omega) (by rfl) ?_
              refine pb_getf g fX7_129 dX7_moves_37 (dr_sh (by omega)) rfl ?_
              refine pb_iload_n2 g dX7_moves_40 ?_
              first | refine pb_ialdN g dX7_moves_41 (by first | exact dr_fr (by omega) | exact dr_pk (by omega) | exact dr_it (by omega) | exact dr_kt | exact dr_bf | exact dr_pl | exact dr_lr | exact dr_nh | exact dr_lc | exact dr_bl | assumption) (by omega) (by omega) ?_ | refine pb_ald0 g dX7_moves_41 (by omega) ?_ | refine pb_ald1 g dX7_moves_41 (by omega) ?_ | refine pb_ald2 g dX7_moves_41 (by omega) ?_ | refine pb_ald3 g dX7_moves_41 (by omega) ?_ | refine pb_iald g dX7_moves_41 (by first | exact dr_fr (by omega) | exact dr_pk (by omega) | exact dr_it (by omega) | exact dr_kt | exact dr_bf | exact dr_pl | exact dr_lr | exact dr_nh | exact dr_lc | exact dr_bl | assumption) (by assumption) ?_
              rw [(d2 s0 hs0).2.2 h3 i0 hi0]
              refine pb_goto g 46 dX7_moves_42 (by decide) ?_
              refine pb_iret g z dX7_moves_46 ?_
              exact ⟨_, rfl, by rw [e], ⟨_, _, _, _, _, _, _, _, _, _, _, rfl, d1, d2, d3, d4⟩⟩
          · exact absurd c13 (by decide)
      · have e : sMoves ((n, P, S, sd), (σ, μ, K, Hh), (ts, zz, it), (ra, tr)) (nI s0) (nI i0) = -1 := by simp only [sMoves, hs, hi, if_neg h3]
        refine pb_aload_n0 g dX7_moves_0 ?_
        refine pb_iload_n1 g dX7_moves_1 ?_
        refine pb_Vi1 g qX7_148 dX7_moves_2 (k + 5) (by omega) dr_o (x_isShuffleT (k + 5) (by assumption) hS) (fun r2 h2 e2 => ?_)
        obtain ⟨rfl, rfl⟩ := e2
        first | refine pb_if_eqN g 16 dX7_moves_5 (by decide) (by omega) (fun c5 => ?_) (fun c5 => ?_) | refine pb_if_eq g 16 dX7_moves_5 (by decide) (fun c5 => ?_) (fun c5 => ?_)
        · exact absurd c5 (by decide)
        · refine pb_aload_n0 g dX7_moves_8 ?_
          refine pb_iload_n2 g dX7_moves_9 ?_
          refine pb_Vi1 g qX7_115 dX7_moves_10 (k + 5) (by omega) dr_o (x_isPlaceT (k + 5) (by assumption) hn) (fun r10 h10 e10 => ?_)
          obtain ⟨rfl, rfl⟩ := e10
          first | refine pb_if_neN g 19 dX7_moves_13 (by decide) (by omega) (fun c13 => ?_) (fun c13 => ?_) | refine pb_if_ne g 19 dX7_moves_13 (by decide) (fun c13 => ?_) (fun c13 => ?_)
          · refine pb_aload_n0 g dX7_moves_19 ?_
            refine pb_getf g fX7_16 dX7_moves_20 dr_o rfl ?_
            refine pb_iload_n1 g dX7_moves_23 ?_
            refine pb_aaldN g dX7_moves_24 dr_shs (by decide) (by omega) (by omega) (by rfl) ?_
            refine pb_Vi0 g qX7_151 dX7_moves_25 (k + 5) (by omega) (dr_sh (by omega)) (x_hasMove (k + 5) (s := s0) (K := K s0) (by omega) (d2 s0 (by assumption)).1 (hK s0 (by assumption)).1) (fun r25 h25 e25 => ?_)
            obtain ⟨rfl, rfl⟩ := e25
            rw [if_neg (by assumption)]
            first | refine pb_if_eqN g 45 dX7_moves_28 (by decide) (by omega) (fun c28 => ?_) (fun c28 => ?_) | refine pb_if_eq g 45 dX7_moves_28 (by decide) (fun c28 => ?_) (fun c28 => ?_)
            · refine pb_iconst (v := -1) g dX7_moves_45 (by decide) ?_
              refine pb_iret g z dX7_moves_46 ?_
              exact ⟨_, rfl, by rw [e], ⟨_, _, _, _, _, _, _, _, _, _, _, rfl, d1, d2, d3, d4⟩⟩
            · exact absurd c28 (by decide)
          · exact absurd c13 (by decide)
