/-! ===== the desk: calls, first part ===== -/
theorem rng {x : Int32} {a b : Nat} (hb : b < 2 ^ 31) (ha : a < 2 ^ 31) (h : ¬ (x < nI a ∨ nI b < x)) : ∃ m, a ≤ m ∧ m ≤ b ∧ x = nI m := by
  obtain ⟨m, hm, rfl⟩ := nI_of (x := x) (fun q => h (Or.inl (Int32.lt_of_lt_of_le q (nI_pos' ha))))
  refine ⟨m, Nat.not_lt.mp fun q => h (Or.inl ((nI_ltI hm ha).mpr q)), Nat.not_lt.mp fun q => h (Or.inr ((nI_ltI hb hm).mpr q)), rfl⟩
theorem d1_up {pk : Nat → Nat → Int32} {σ : Nat → Nat → Nat} {Q P n P0 : Nat} {f : Nat → Int32} {o : Nat → Nat} (d1 : ∀ p, p < P → ∀ j, j < n → pk p j = nI (σ p j)) (hf : ∀ j, j < n → f j = nI (o j)) (hQ : ∀ p, p < Q → p ≠ P0 → p < P) : ∀ p, p < Q → ∀ j, j < n → va_up pk P0 f p j = nI (va_up σ P0 o p j) := by
  intro p hp j hj
  by_cases e : p = P0
  · subst e
    rw [show va_up pk p f p = f from if_pos rfl, show va_up σ p o p = o from if_pos rfl]
    exact hf j hj
  · rw [show va_up pk P0 f p = pk p from if_neg e, show va_up σ P0 o p = σ p from if_neg e]
    exact d1 p (hQ p hp e) j hj
/-- a new shuffle is held -/
theorem d2_up {fr : Nat → Nat → Int32} {kd hp : Nat → Int32} {μ : Nat → Nat → Nat} {K Hh : Nat → Nat} {S n a b : Nat} {f : Nat → Int32} {m : Nat → Nat} (d2 : ∀ s, s < S → kd s = nI (K s) ∧ hp s = nI (Hh s) ∧ (K s < 3 → ∀ j, j < n → fr s j = nI (μ s j))) (hf : a < 3 → ∀ j, j < n → f j = nI (m j)) : ∀ s, s < S + 1 → upd kd S (nI a) s = nI (va_up K S a s) ∧ upd hp S (nI b) s = nI (va_up Hh S b s) ∧ (va_up K S a s < 3 → ∀ j, j < n → va_up fr S f s j = nI (va_up μ S m s j)) := by
  intro s hs
  by_cases e : s = S
  · subst e
    rw [show va_up K s a s = a from if_pos rfl, show va_up Hh s b s = b from if_pos rfl, show va_up fr s f s = f from if_pos rfl, show va_up μ s m s = m from if_pos rfl]
    exact ⟨if_pos rfl, if_pos rfl, hf⟩
  · rw [show va_up K S a s = K s from if_neg e, show va_up Hh S b s = Hh s from if_neg e, show va_up fr S f s = fr s from if_neg e, show va_up μ S m s = μ s from if_neg e]
    obtain ⟨h1, h2, h3⟩ := d2 s (by omega)
    exact ⟨(if_neg e).trans h1, (if_neg e).trans h2, h3⟩
theorem d2_up0 {fr : Nat → Nat → Int32} {kd hp : Nat → Int32} {μ : Nat → Nat → Nat} {K Hh : Nat → Nat} {S n a b : Nat} {m : Nat → Nat} (d2 : ∀ s, s < S → kd s = nI (K s) ∧ hp s = nI (Hh s) ∧ (K s < 3 → ∀ j, j < n → fr s j = nI (μ s j))) (ha : ¬ a < 3) : ∀ s, s < S + 1 → upd kd S (nI a) s = nI (va_up K S a s) ∧ upd hp S (nI b) s = nI (va_up Hh S b s) ∧ (va_up K S a s < 3 → ∀ j, j < n → fr s j = nI (va_up μ S m s j)) := by
  have h := d2_up (f := fr S) (m := m) (b := b) d2 (fun q => absurd q ha)
  intro s hs
  obtain ⟨h1, h2, h3⟩ := h s hs
  refine ⟨h1, h2, fun q j hj => ?_⟩
  have h4 := h3 q j hj
  by_cases e : s = S
  · subst e
    rwa [show va_up fr s (fr s) s = fr s from if_pos rfl] at h4
  · rwa [show va_up fr S (fr S) s = fr s from if_neg e] at h4
theorem sbC0 : ∀ n, n < 11 → ∀ j, j < n → sbC n 0 j = j := by decide +kernel
set_option maxHeartbeats 4000000 in
set_option maxRecDepth 100000 in
theorem x_begin (k : Nat) (q : SP) (x : Int32) (h : PH) (hD : IsD q h) (hI : SI q) : Runs yX7_begin cX7_begin 2 (some .int) (k + 6) [.ref 0, .int x] h (fun o h' => ∃ r : Int32, o = some (.int r) ∧ r = (sBegin q x).1 ∧ IsD ((sBegin q x).2) h') := by
  obtain ⟨⟨n, P, S, sd⟩, ⟨σ, μ, K, Hh⟩, ⟨ts, zz, it⟩, ⟨ra, tr⟩⟩ := q
  obtain ⟨⟨hn1, hn, hP, hS⟩, hσ, hK, hz, hra⟩ := hI
  obtain ⟨pk, fr, itd, jk, kd, hp, kt, ak, an, ah, jl, rfl, d1, d2, d3, d4⟩ := hD
  refine Runs.of (by decide) (Nat.le_of_ble_eq_true rfl) [some (.ref 0), some (.int x)] 0 rfl (fun Γ g z => ?_)
  by_cases hb : x < nI 1 ∨ nI 10 < x
  · have e : sBegin ((n, P, S, sd), (σ, μ, K, Hh), (ts, zz, it), (ra, tr)) x = (-2, ((n, P, S, sd), (σ, μ, K, Hh), (ts, zz, it), (ra, tr))) := if_pos hb
    refine pb_iload_n1 g dX7_begin_0 ?_
    refine pb_iconst (v := nI 1) g dX7_begin_1 (by decide) ?_
    first | refine pb_icmp_ltN g 11 dX7_begin_2 (by decide) (by omega) (by omega) (fun c2 => ?_) (fun c2 => ?_) | refine pb_icmp_lt g 11 dX7_begin_2 (by decide) (fun c2 => ?_) (fun c2 => ?_)
    · refine pb_bipush (v := -2) g dX7_begin_11 (by decide) ?_
      refine pb_iret g z dX7_begin_13 ?_
      exact ⟨_, rfl, by rw [e], by rw [e]; exact ⟨_, _, _, _, _, _, _, _, _, _, _, rfl, d1, d2, d3, d4⟩⟩
    · refine pb_iload_n1 g dX7_begin_5 ?_
      refine pb_bipush (v := nI 10) g dX7_begin_6 (by decide) ?_
      first | refine pb_icmp_leN g 14 dX7_begin_8 (by decide) (by omega) (by omega) (fun c8 => ?_) (fun c8 => ?_) | refine pb_icmp_le g 14 dX7_begin_8 (by decide) (fun c8 => ?_) (fun c8 => ?_)
      · exact absurd hb (fun q => q.elim c2 (fun w => absurd c8 (Int32.not_le.mpr w)))
      · refine pb_bipush (v := -2) g dX7_begin_11 (by decide) ?_
        refine pb_iret g z dX7_begin_13 ?_
        exact ⟨_, rfl, by rw [e], by rw [e]; exact ⟨_, _, _, _, _, _, _, _, _, _, _, rfl, d1, d2, d3, d4⟩⟩
  · have e : sBegin ((n, P, S, sd), (σ, μ, K, Hh), (ts, zz, it), (ra, tr)) x = (1, ((x.toNatClampNeg, 0, 0, sd), (σ, μ, K, Hh), (ts, zz, it), (ra, tr))) := if_neg hb
    obtain ⟨m, hm1, hm2, rfl⟩ := rng (by decide) (by decide) hb
    rw [nI_clamp (by omega)] at e
    refine pb_iload_n1 g dX7_begin_0 ?_
    refine pb_iconst (v := nI 1) g dX7_begin_1 (by decide) ?_
    first | refine pb_icmp_ltN g 11 dX7_begin_2 (by decide) (by omega) (by omega) (fun c2 => ?_) (fun c2 => ?_) | refine pb_icmp_lt g 11 dX7_begin_2 (by decide) (fun c2 => ?_) (fun c2 => ?_)
    · exact absurd c2 (by omega)
    · refine pb_iload_n1 g dX7_begin_5 ?_
      refine pb_bipush (v := nI 10) g dX7_begin_6 (by decide) ?_
      first | refine pb_icmp_leN g 14 dX7_begin_8 (by decide) (by omega) (by omega) (fun c8 => ?_) (fun c8 => ?_) | refine pb_icmp_le g 14 dX7_begin_8 (by decide) (fun c8 => ?_) (fun c8 => ?_)
      · refine pb_aload_n0 g dX7_begin_14 ?_
        refine pb_iload_n1 g dX7_begin_15 ?_
        refine pb_puti g wX7_33 dX7_begin_16 dr_o (Nat.le_of_ble_eq_true rfl) ?_
        rw [ds_cd]
        refine pb_aload_n0 g dX7_begin_19 ?_
        refine pb_iconst (v := nI 0) g dX7_begin_20 (by decide) ?_
        refine pb_puti g wX7_37 dX7_begin_21 dr_o (Nat.le_of_ble_eq_true rfl) ?_
        rw [ds_pc]
        refine pb_aload_n0 g dX7_begin_24 ?_
        refine pb_iconst (v := nI 0) g dX7_begin_25 (by decide) ?_
        refine pb_puti g wX7_40 dX7_begin_26 dr_o (Nat.le_of_ble_eq_true rfl) ?_
        rw [ds_sc]
        refine pb_iconst (v := nI 1) g dX7_begin_29 (by decide) ?_
        refine pb_iret g z dX7_begin_30 ?_
        exact ⟨_, rfl, by rw [e]; rfl, by rw [e]; exact ⟨_, _, _, _, _, _, _, _, _, _, _, rfl, fun p hp0 => absurd hp0 (by omega), fun s hs => absurd hs (by omega), d3, d4⟩⟩
      · exact absurd c8 (by omega)
set_option maxHeartbeats 4000000 in
set_option maxRecDepth 100000 in
theorem x_ranked (k : Nat) (q : SP) (x : Int32) (h : PH) (hD : IsD q h) (hI : SI q) : Runs yX7_ranked cX7_ranked 2 (some .int) (k + 6) [.ref 0, .int x] h (fun o h' => ∃ r : Int32, o = some (.int r) ∧ r = (sRanked q x).1 ∧ IsD ((sRanked q x).2) h') := by
  obtain ⟨⟨n, P, S, sd⟩, ⟨σ, μ, K, Hh⟩, ⟨ts, zz, it⟩, ⟨ra, tr⟩⟩ := q
  obtain ⟨⟨hn1, hn, hP, hS⟩, hσ, hK, hz, hra⟩ := hI
  obtain ⟨pk, fr, itd, jk, kd, hp, kt, ak, an, ah, jl, rfl, d1, d2, d3, d4⟩ := hD
  refine Runs.of (by decide) (Nat.le_of_ble_eq_true rfl) [some (.ref 0), some (.int x)] 0 rfl (fun Γ g z => ?_)
  obtain ⟨f1, f2⟩ := fac_lt n (by omega)
  cases hr : ix x (fac n) with
  | none =>
    have e : sRanked ((n, P, S, sd), (σ, μ, K, Hh), (ts, zz, it), (ra, tr)) x = (-2, ((n, P, S, sd), (σ, μ, K, Hh), (ts, zz, it), (ra, tr))) := by simp only [sRanked, hr]
    have hrn := inN_not (by omega) (ix_none (by omega) hr)
    refine pb_iload_n1 g dX7_ranked_0 ?_
    refine pb_if_lt g 16 dX7_ranked_1 (by decide) (fun c1 => ?_) (fun c1 => ?_)
    · refine pb_bipush (v := -2) g dX7_ranked_16 (by decide) ?_
      refine pb_iret g z dX7_ranked_18 ?_
      exact ⟨_, rfl, by rw [e], by rw [e]; exact ⟨_, _, _, _, _, _, _, _, _, _, _, rfl, d1, d2, d3, d4⟩⟩
    · refine pb_iload_n1 g dX7_ranked_4 ?_
      refine pb_gets g sX7_72 dX7_ranked_5 ?_
      refine pb_aload_n0 g dX7_ranked_8 ?_
      refine pb_getf g fX7_33 dX7_ranked_9 dr_o rfl ?_
      first | refine pb_ialdN g dX7_ranked_12 (by first | exact dr_pk (by omega) | exact dr_fr (by omega) | exact dr_it (by omega) | exact dr_kt | exact dr_bf | exact dr_pl | exact dr_lr | exact dr_nh | exact dr_lc | exact dr_bl | assumption) (by omega) (by omega) ?_ | refine pb_ald0 g dX7_ranked_12 (by omega) ?_ | refine pb_ald1 g dX7_ranked_12 (by omega) ?_ | refine pb_ald2 g dX7_ranked_12 (by omega) ?_ | refine pb_ald3 g dX7_ranked_12 (by omega) ?_ | refine pb_iald g dX7_ranked_12 (by first | exact dr_pk (by omega) | exact dr_fr (by omega) | exact dr_it (by omega) | exact dr_kt | exact dr_bf | exact dr_pl | exact dr_lr | exact dr_nh | exact dr_lc | exact dr_bl | assumption) (by assumption) ?_
      rw [fac_at n (by omega)]
      first | refine pb_icmp_ltN g 19 dX7_ranked_13 (by decide) (by omega) (by omega) (fun c13 => ?_) (fun c13 => ?_) | refine pb_icmp_lt g 19 dX7_ranked_13 (by decide) (fun c13 => ?_) (fun c13 => ?_)
      · exact absurd hrn (fun q => q.elim c1 (fun w => absurd c13 (Int32.not_lt.mpr w)))
      · refine pb_bipush (v := -2) g dX7_ranked_16 (by decide) ?_
        refine pb_iret g z dX7_ranked_18 ?_
        exact ⟨_, rfl, by rw [e], by rw [e]; exact ⟨_, _, _, _, _, _, _, _, _, _, _, rfl, d1, d2, d3, d4⟩⟩
  | some r =>
    obtain ⟨hr1, rfl⟩ := ix_some (by omega) hr
    by_cases hP12 : P = 12
    · have e : sRanked ((n, P, S, sd), (σ, μ, K, Hh), (ts, zz, it), (ra, tr)) (nI r) = (-4, ((n, P, S, sd), (σ, μ, K, Hh), (ts, zz, it), (ra, tr))) := by simp only [sRanked, hr, if_pos hP12]
      refine pb_iload_n1 g dX7_ranked_0 ?_
      refine pb_if_ltN g 16 dX7_ranked_1 (by decide) (by omega) ?_
      refine pb_iload_n1 g dX7_ranked_4 ?_
      refine pb_gets g sX7_72 dX7_ranked_5 ?_
      refine pb_aload_n0 g dX7_ranked_8 ?_
      refine pb_getf g fX7_33 dX7_ranked_9 dr_o rfl ?_
      first | refine pb_ialdN g dX7_ranked_12 (by first | exact dr_pk (by omega) | exact dr_fr (by omega) | exact dr_it (by omega) | exact dr_kt | exact dr_bf | exact dr_pl | exact dr_lr | exact dr_nh | exact dr_lc | exact dr_bl | assumption) (by omega) (by omega) ?_ | refine pb_ald0 g dX7_ranked_12 (by omega) ?_ | refine pb_ald1 g dX7_ranked_12 (by omega) ?_ | refine pb_ald2 g dX7_ranked_12 (by omega) ?_ | refine pb_ald3 g dX7_ranked_12 (by omega) ?_ | refine pb_iald g dX7_ranked_12 (by first | exact dr_pk (by omega) | exact dr_fr (by omega) | exact dr_it (by omega) | exact dr_kt | exact dr_bf | exact dr_pl | exact dr_lr | exact dr_nh | exact dr_lc | exact dr_bl | assumption) (by assumption) ?_
      rw [fac_at n (by omega)]
      first | refine pb_icmp_ltN g 19 dX7_ranked_13 (by decide) (by omega) (by omega) (fun c13 => ?_) (fun c13 => ?_) | refine pb_icmp_lt g 19 dX7_ranked_13 (by decide) (fun c13 => ?_) (fun c13 => ?_)
      · refine pb_aload_n0 g dX7_ranked_19 ?_
        refine pb_getf g fX7_37 dX7_ranked_20 dr_o rfl ?_
        refine pb_bipush (v := nI 12) g dX7_ranked_23 (by decide) ?_
        first | refine pb_icmp_ltN g 31 dX7_ranked_25 (by decide) (by omega) (by omega) (fun c25 => ?_) (fun c25 => ?_) | refine pb_icmp_lt g 31 dX7_ranked_25 (by decide) (fun c25 => ?_) (fun c25 => ?_)
        · exact absurd c25 (by omega)
        · refine pb_bipush (v := -4) g dX7_ranked_28 (by decide) ?_
          refine pb_iret g z dX7_ranked_30 ?_
          exact ⟨_, rfl, by rw [e], by rw [e]; exact ⟨_, _, _, _, _, _, _, _, _, _, _, rfl, d1, d2, d3, d4⟩⟩
      · exact absurd c13 (by omega)
    · have e : sRanked ((n, P, S, sd), (σ, μ, K, Hh), (ts, zz, it), (ra, tr)) (nI r) = (nI P, ((n, P + 1, S, sd), (va_up σ P (sbC n r), μ, K, Hh), (ts, zz, it), (ra, tr))) := by simp only [sRanked, hr, if_neg hP12]
      refine pb_iload_n1 g dX7_ranked_0 ?_
      refine pb_if_ltN g 16 dX7_ranked_1 (by decide) (by omega) ?_
      refine pb_iload_n1 g dX7_ranked_4 ?_
      refine pb_gets g sX7_72 dX7_ranked_5 ?_
      refine pb_aload_n0 g dX7_ranked_8 ?_
      refine pb_getf g fX7_33 dX7_ranked_9 dr_o rfl ?_
      first | refine pb_ialdN g dX7_ranked_12 (by first | exact dr_pk (by omega) | exact dr_fr (by omega) | exact dr_it (by omega) | exact dr_kt | exact dr_bf | exact dr_pl | exact dr_lr | exact dr_nh | exact dr_lc | exact dr_bl | assumption) (by omega) (by omega) ?_ | refine pb_ald0 g dX7_ranked_12 (by omega) ?_ | refine pb_ald1 g dX7_ranked_12 (by omega) ?_ | refine pb_ald2 g dX7_ranked_12 (by omega) ?_ | refine pb_ald3 g dX7_ranked_12 (by omega) ?_ | refine pb_iald g dX7_ranked_12 (by first | exact dr_pk (by omega) | exact dr_fr (by omega) | exact dr_it (by omega) | exact dr_kt | exact dr_bf | exact dr_pl | exact dr_lr | exact dr_nh | exact dr_lc | exact dr_bl | assumption) (by assumption) ?_
      rw [fac_at n (by omega)]
      first | refine pb_icmp_ltN g 19 dX7_ranked_13 (by decide) (by omega) (by omega) (fun c13 => ?_) (fun c13 => ?_) | refine pb_icmp_lt g 19 dX7_ranked_13 (by decide) (fun c13 => ?_) (fun c13 => ?_)
      · refine pb_aload_n0 g dX7_ranked_19 ?_
        refine pb_getf g fX7_37 dX7_ranked_20 dr_o rfl ?_
        refine pb_bipush (v := nI 12) g dX7_ranked_23 (by decide) ?_
        first | refine pb_icmp_ltN g 31 dX7_ranked_25 (by decide) (by omega) (by omega) (fun c25 => ?_) (fun c25 => ?_) | refine pb_icmp_lt g 31 dX7_ranked_25 (by decide) (fun c25 => ?_) (fun c25 => ?_)
        · refine pb_aload_n0 g dX7_ranked_31 ?_
          refine pb_getf g fX7_11 dX7_ranked_32 dr_o rfl ?_
          refine pb_aload_n0 g dX7_ranked_35 ?_
          refine pb_getf g fX7_37 dX7_ranked_36 dr_o rfl ?_
          refine pb_aaldN g dX7_ranked_39 dr_packs (by decide) (by omega) (by omega) (by rfl) ?_
          refine pb_aload_n0 g dX7_ranked_40 ?_
          refine pb_getf g fX7_33 dX7_ranked_41 dr_o rfl ?_
          refine pb_iload_n1 g dX7_ranked_44 ?_
          refine pb_Sv3 g qX7_75 dX7_ranked_45 (k + 5) (by omega) (c_setByRank (k + 4) n r (2 + P) hn hn1 (by omega) (pk P) _ (dr_pk (by omega))) (fun h45 e45 => ?_)
          subst e45
          rw [ds_pk (by omega)]
          refine pb_aload_n0 g dX7_ranked_48 ?_
          refine pb_dup g dX7_ranked_49 rfl ?_
          refine pb_getf g fX7_37 dX7_ranked_50 dr_o rfl ?_
          refine pb_dup_x1 g dX7_ranked_53 rfl rfl ?_
          refine pb_iconst (v := nI 1) g dX7_ranked_54 (by decide) ?_
          first | refine pb_iaddN g dX7_ranked_55 ?_ | refine pb_iadd g dX7_ranked_55 ?_
          refine pb_puti g wX7_37 dX7_ranked_56 dr_o (Nat.le_of_ble_eq_true rfl) ?_
          rw [ds_pc]
          refine pb_iret g z dX7_ranked_59 ?_
          exact ⟨_, rfl, by rw [e], by rw [e]; exact ⟨_, _, _, _, _, _, _, _, _, _, _, rfl, d1_up d1 (fun j hj => sbF_at n r (pk P) n j hj) (fun p h1 h2 => by omega), d2, d3, d4⟩⟩
        · exact absurd c25 (by omega)
      · exact absurd c13 (by omega)
set_option maxHeartbeats 4000000 in
set_option maxRecDepth 100000 in
theorem x_pack (k : Nat) (q : SP)  (h : PH) (hD : IsD q h) (hI : SI q) : Runs yX7_pack cX7_pack 1 (some .int) (k + 7) [.ref 0] h (fun o h' => ∃ r : Int32, o = some (.int r) ∧ r = (sPack q).1 ∧ IsD ((sPack q).2) h') := by
  obtain ⟨⟨n, P, S, sd⟩, ⟨σ, μ, K, Hh⟩, ⟨ts, zz, it⟩, ⟨ra, tr⟩⟩ := q
  obtain ⟨⟨hn1, hn, hP, hS⟩, hσ, hK, hz, hra⟩ := hI
  obtain ⟨pk, fr, itd, jk, kd, hp, kt, ak, an, ah, jl, rfl, d1, d2, d3, d4⟩ := hD
  refine Runs.of (by decide) (Nat.le_of_ble_eq_true rfl) [some (.ref 0)] 0 rfl (fun Γ g z => ?_)
  have hix : ix (nI 0) (fac n) = some 0 := ix_nI (fac_lt n (by omega)).1 (fac_lt n (by omega)).2
  have hrk := x_ranked k ((n, P, S, sd), (σ, μ, K, Hh), (ts, zz, it), (ra, tr)) (nI 0) _ ⟨pk, fr, itd, jk, kd, hp, kt, ak, an, ah, jl, rfl, d1, d2, d3, d4⟩ ⟨⟨hn1, hn, hP, hS⟩, hσ, hK, hz, hra⟩
  by_cases hP12 : P = 12
  · have e : sRanked ((n, P, S, sd), (σ, μ, K, Hh), (ts, zz, it), (ra, tr)) (nI 0) = (-4, ((n, P, S, sd), (σ, μ, K, Hh), (ts, zz, it), (ra, tr))) := by simp only [sRanked, hix, if_pos hP12]
    have e2 : sPack ((n, P, S, sd), (σ, μ, K, Hh), (ts, zz, it), (ra, tr)) = (-4, ((n, P, S, sd), (σ, μ, K, Hh), (ts, zz, it), (ra, tr))) := by simp only [sPack, if_pos hP12]
    rw [e] at hrk
    refine pb_aload_n0 g dX7_pack_0 ?_
    refine pb_iconst (v := nI 0) g dX7_pack_1 (by decide) ?_
    refine pb_Vi1 g qX7_68 dX7_pack_2 (k + 6) (by omega) dr_o (hrk) (fun r2 h2 e2 => ?_)
    obtain ⟨rfl, hD2⟩ := e2
    refine pb_iret g z dX7_pack_5 ?_
    exact ⟨_, rfl, by rw [e2], by rw [e2]; exact hD2⟩
  · have e : sRanked ((n, P, S, sd), (σ, μ, K, Hh), (ts, zz, it), (ra, tr)) (nI 0) = (nI P, ((n, P + 1, S, sd), (va_up σ P (sbC n 0), μ, K, Hh), (ts, zz, it), (ra, tr))) := by simp only [sRanked, hix, if_neg hP12]
    have e2 : sPack ((n, P, S, sd), (σ, μ, K, Hh), (ts, zz, it), (ra, tr)) = (nI P, ((n, P + 1, S, sd), (va_up σ P (fun j => j), μ, K, Hh), (ts, zz, it), (ra, tr))) := by simp only [sPack, if_neg hP12]
    rw [e] at hrk
    refine pb_aload_n0 g dX7_pack_0 ?_
    refine pb_iconst (v := nI 0) g dX7_pack_1 (by decide) ?_
    refine pb_Vi1 g qX7_68 dX7_pack_2 (k + 6) (by omega) dr_o (hrk) (fun r2 h2 e2 => ?_)
    obtain ⟨rfl, a1, a2, a3, a4, a5, a6, a7, a8, a9, aa, ab, rfl, g1, g2, g3, g4⟩ := e2
    refine pb_iret g z dX7_pack_5 ?_
    have g1' : ∀ p, p < P + 1 → ∀ j, j < n → a1 p j = nI (va_up σ P (fun j => j) p j) := fun p hp0 j hj => by
      rw [g1 p hp0 j hj]
      by_cases q : p = P
      · subst q
        rw [show va_up σ p (sbC n 0) p = sbC n 0 from if_pos rfl, show va_up σ p (fun j => j) p = (fun j => j) from if_pos rfl, sbC0 n (by omega) j hj]
      · rw [show va_up σ P (sbC n 0) p = σ p from if_neg q, show va_up σ P (fun j => j) p = σ p from if_neg q]
    exact ⟨_, rfl, by rw [e2], by rw [e2]; exact ⟨_, _, _, _, _, _, _, _, _, _, _, rfl, g1', g2, g3, g4⟩⟩
set_option maxHeartbeats 4000000 in
set_option maxRecDepth 100000 in
theorem x_card (k : Nat) (q : SP) (p j : Int32) (h : PH) (hD : IsD q h) (hI : SI q) : Runs yX7_card cX7_card 3 (some .int) (k + 6) [.ref 0, .int p, .int j] h (fun o h' => ∃ r : Int32, o = some (.int r) ∧ r = sCard q p j ∧ IsD (q) h') := by
  obtain ⟨⟨n, P, S, sd⟩, ⟨σ, μ, K, Hh⟩, ⟨ts, zz, it⟩, ⟨ra, tr⟩⟩ := q
  obtain ⟨⟨hn1, hn, hP, hS⟩, hσ, hK, hz, hra⟩ := hI
  obtain ⟨pk, fr, itd, jk, kd, hp, kt, ak, an, ah, jl, rfl, d1, d2, d3, d4⟩ := hD
  refine Runs.of (by decide) (Nat.le_of_ble_eq_true rfl) [some (.ref 0), some (.int p), some (.int j)] 0 rfl (fun Γ g z => ?_)
  cases hpx : ix p P with
  | none =>
    have e : sCard ((n, P, S, sd), (σ, μ, K, Hh), (ts, zz, it), (ra, tr)) p j = -2 := by simp only [sCard, hpx]
    have hpn := ix_none (by omega) hpx
    refine pb_aload_n0 g dX7_card_0 ?_
    refine pb_iload_n1 g dX7_card_1 ?_
    refine pb_Vi1 g qX7_112 dX7_card_2 (k + 5) (by omega) dr_o (x_isPackF (k + 5) (by assumption) hP) (fun r2 h2 e2 => ?_)
    obtain ⟨rfl, rfl⟩ := e2
    first | refine pb_if_eqN g 27 dX7_card_5 (by decide) (by omega) (fun c5 => ?_) (fun c5 => ?_) | refine pb_if_eq g 27 dX7_card_5 (by decide) (fun c5 => ?_) (fun c5 => ?_)
    · refine pb_bipush (v := -2) g dX7_card_27 (by decide) ?_
      refine pb_iret g z dX7_card_29 ?_
      exact ⟨_, rfl, by rw [e], ⟨_, _, _, _, _, _, _, _, _, _, _, rfl, d1, d2, d3, d4⟩⟩
    · exact absurd c5 (by decide)
  | some p0 =>
    obtain ⟨hp0, rfl⟩ := ix_some (by omega) hpx
    cases hjx : ix j n with
    | none =>
      have e : sCard ((n, P, S, sd), (σ, μ, K, Hh), (ts, zz, it), (ra, tr)) (nI p0) j = -2 := by simp only [sCard, hpx, hjx]
      have hjn := ix_none (by omega) hjx
      refine pb_aload_n0 g dX7_card_0 ?_
      refine pb_iload_n1 g dX7_card_1 ?_
      refine pb_Vi1 g qX7_112 dX7_card_2 (k + 5) (by omega) dr_o (x_isPackT (k + 5) (by assumption) hP) (fun r2 h2 e2 => ?_)
      obtain ⟨rfl, rfl⟩ := e2
      first | refine pb_if_eqN g 27 dX7_card_5 (by decide) (by omega) (fun c5 => ?_) (fun c5 => ?_) | refine pb_if_eq g 27 dX7_card_5 (by decide) (fun c5 => ?_) (fun c5 => ?_)
      · exact absurd c5 (by decide)
      · refine pb_aload_n0 g dX7_card_8 ?_
        refine pb_iload_n2 g dX7_card_9 ?_
        refine pb_Vi1 g qX7_115 dX7_card_10 (k + 5) (by omega) dr_o (x_isPlaceF (k + 5) (by assumption) hn) (fun r10 h10 e10 => ?_)
        obtain ⟨rfl, rfl⟩ := e10
        first | refine pb_if_eqN g 27 dX7_card_13 (by decide) (by omega) (fun c13 => ?_) (fun c13 => ?_) | refine pb_if_eq g 27 dX7_card_13 (by decide) (fun c13 => ?_) (fun c13 => ?_)
        · refine pb_bipush (v := -2) g dX7_card_27 (by decide) ?_
          refine pb_iret g z dX7_card_29 ?_
          exact ⟨_, rfl, by rw [e], ⟨_, _, _, _, _, _, _, _, _, _, _, rfl, d1, d2, d3, d4⟩⟩
        · exact absurd c13 (by decide)
    | some j0 =>
      obtain ⟨hj0, rfl⟩ := ix_some (by omega) hjx
      have e : sCard ((n, P, S, sd), (σ, μ, K, Hh), (ts, zz, it), (ra, tr)) (nI p0) (nI j0) = nI (σ p0 j0) := by simp only [sCard, hpx, hjx]
      refine pb_aload_n0 g dX7_card_0 ?_
      refine pb_iload_n1 g dX7_card_1 ?_
      refine pb_Vi1 g qX7_112 dX7_card_2 (k + 5) (by omega) dr_o (x_isPackT (k + 5) (by assumption) hP) (fun r2 h2 e2 => ?_)
      obtain ⟨rfl, rfl⟩ := e2
      first | refine pb_if_eqN g 27 dX7_card_5 (by decide) (by omega) (fun c5 => ?_) (fun c5 => ?_) | refine pb_if_eq g 27 dX7_card_5 (by decide) (fun c5 => ?_) (fun c5 => ?_)
      · exact absurd c5 (by decide)
      · refine pb_aload_n0 g dX7_card_8 ?_
        refine pb_iload_n2 g dX7_card_9 ?_
        refine pb_Vi1 g qX7_115 dX7_card_10 (k + 5) (by omega) dr_o (x_isPlaceT (k + 5) (by assumption) hn) (fun r10 h10 e10 => ?_)
        obtain ⟨rfl, rfl⟩ := e10
        first | refine pb_if_eqN g 27 dX7_card_13 (by decide) (by omega) (fun c13 => ?_) (fun c13 => ?_) | refine pb_if_eq g 27 dX7_card_13 (by decide) (fun c13 => ?_) (fun c13 => ?_)
        · exact absurd c13 (by decide)
        · refine pb_aload_n0 g dX7_card_16 ?_
          refine pb_getf g fX7_11 dX7_card_17 dr_o rfl ?_
          refine pb_iload_n1 g dX7_card_20 ?_
          refine pb_aaldN g dX7_card_21 dr_packs (by decide) (by omega) (by omega) (by rfl) ?_
          refine pb_iload_n2 g dX7_card_22 ?_
          first | refine pb_ialdN g dX7_card_23 (by first | exact dr_pk (by omega) | exact dr_fr (by omega) | exact dr_it (by omega) | exact dr_kt | exact dr_bf | exact dr_pl | exact dr_lr | exact dr_nh | exact dr_lc | exact dr_bl | assumption) (by omega) (by omega) ?_ | refine pb_ald0 g dX7_card_23 (by omega) ?_ | refine pb_ald1 g dX7_card_23 (by omega) ?_ | refine pb_ald2 g dX7_card_23 (by omega) ?_ | refine pb_ald3 g dX7_card_23 (by omega) ?_ | refine pb_iald g dX7_card_23 (by first | exact dr_pk (by omega) | exact dr_fr (by omega) | exact dr_it (by omega) | exact dr_kt | exact dr_bf | exact dr_pl | exact dr_lr | exact dr_nh | exact dr_lc | exact dr_bl | assumption) (by assumption) ?_
          rw [d1 p0 hp0 j0 hj0]
          refine pb_goto g 29 dX7_card_24 (by decide) ?_
          refine pb_iret g z dX7_card_29 ?_
          exact ⟨_, rfl, by rw [e], ⟨_, _, _, _, _, _, _, _, _, _, _, rfl, d1, d2, d3, d4⟩⟩
set_option maxHeartbeats 4000000 in
set_option maxRecDepth 100000 in
theorem x_seed (k : Nat) (q : SP) (x : Int32) (h : PH) (hD : IsD q h) (hI : SI q) : Runs yX7_seed cX7_seed 3 (some .int) (k + 6) [.ref 0, .int x] h (fun o h' => ∃ r : Int32, o = some (.int r) ∧ r = (sSeed q x).1 ∧ IsD ((sSeed q x).2) h') := by
  obtain ⟨⟨n, P, S, sd⟩, ⟨σ, μ, K, Hh⟩, ⟨ts, zz, it⟩, ⟨ra, tr⟩⟩ := q
  obtain ⟨⟨hn1, hn, hP, hS⟩, hσ, hK, hz, hra⟩ := hI
  obtain ⟨pk, fr, itd, jk, kd, hp, kt, ak, an, ah, jl, rfl, d1, d2, d3, d4⟩ := hD
  refine Runs.of (by decide) (Nat.le_of_ble_eq_true rfl) [some (.ref 0), some (.int x), none] 1 rfl (fun Γ g z => ?_)
  refine pb_aload_n0 g dX7_seed_0 ?_
  refine pb_getf g fX7_43 dX7_seed_1 dr_o rfl ?_
  refine pb_istore_n2 g dX7_seed_4 (by decide) ?_
  refine pb_aload_n0 g dX7_seed_5 ?_
  refine pb_iload_n1 g dX7_seed_6 ?_
  refine pb_puti g wX7_43 dX7_seed_7 dr_o (Nat.le_of_ble_eq_true rfl) ?_
  rw [ds_sd]
  refine pb_iload_n2 g dX7_seed_10 ?_
  refine pb_iret g z dX7_seed_11 ?_
  exact ⟨_, rfl, rfl, ⟨_, _, _, _, _, _, _, _, _, _, _, rfl, d1, d2, d3, d4⟩⟩
set_option maxHeartbeats 4000000 in
set_option maxRecDepth 100000 in
theorem x_count (k : Nat) (q : SP) (w : Int32) (h : PH) (hD : IsD q h) (hI : SI q) : Runs yX7_count cX7_count 2 (some .int) (k + 6) [.ref 0, .int w] h (fun o h' => ∃ r : Int32, o = some (.int r) ∧ r = sCount q w ∧ IsD (q) h') := by
  obtain ⟨⟨n, P, S, sd⟩, ⟨σ, μ, K, Hh⟩, ⟨ts, zz, it⟩, ⟨ra, tr⟩⟩ := q
  obtain ⟨⟨hn1, hn, hP, hS⟩, hσ, hK, hz, hra⟩ := hI
  obtain ⟨pk, fr, itd, jk, kd, hp, kt, ak, an, ah, jl, rfl, d1, d2, d3, d4⟩ := hD
  refine Runs.of (by decide) (Nat.le_of_ble_eq_true rfl) [some (.ref 0), some (.int w)] 0 rfl (fun Γ g z => ?_)
  refine pb_iload_n1 g dX7_count_0 ?_
  refine pb_tab g dX7_count_1 4 rfl (by decide) (fun j => [32, 37, 42, 47].getD j 0) 55 (by decide) rfl (fun j hj hw => ?_) (fun hw => ?_)
  · subst hw
    match j, hj with
    | 0, _ =>
      have e : sCount ((n, P, S, sd), (σ, μ, K, Hh), (ts, zz, it), (ra, tr)) (nI 0) = nI n := by first | rfl | simp [sCount, nI_eq]
      show PB Γ 32 _ _ _
      refine pb_aload_n0 g dX7_count_32 ?_
      refine pb_getf g fX7_33 dX7_count_33 dr_o rfl ?_
      refine pb_iret g z dX7_count_36 ?_
      exact ⟨_, rfl, by rw [e], ⟨_, _, _, _, _, _, _, _, _, _, _, rfl, d1, d2, d3, d4⟩⟩
    | 1, _ =>
      have e : sCount ((n, P, S, sd), (σ, μ, K, Hh), (ts, zz, it), (ra, tr)) (nI 1) = nI P := by first | rfl | simp [sCount, nI_eq]
      show PB Γ 37 _ _ _
      refine pb_aload_n0 g dX7_count_37 ?_
      refine pb_getf g fX7_37 dX7_count_38 dr_o rfl ?_
      refine pb_iret g z dX7_count_41 ?_
      exact ⟨_, rfl, by rw [e], ⟨_, _, _, _, _, _, _, _, _, _, _, rfl, d1, d2, d3, d4⟩⟩
    | 2, _ =>
      have e : sCount ((n, P, S, sd), (σ, μ, K, Hh), (ts, zz, it), (ra, tr)) (nI 2) = nI S := by first | rfl | simp [sCount, nI_eq]
      show PB Γ 42 _ _ _
      refine pb_aload_n0 g dX7_count_42 ?_
      refine pb_getf g fX7_40 dX7_count_43 dr_o rfl ?_
      refine pb_iret g z dX7_count_46 ?_
      exact ⟨_, rfl, by rw [e], ⟨_, _, _, _, _, _, _, _, _, _, _, rfl, d1, d2, d3, d4⟩⟩
    | 3, _ =>
      have e : sCount ((n, P, S, sd), (σ, μ, K, Hh), (ts, zz, it), (ra, tr)) (nI 3) = nI ra := by first | rfl | simp [sCount, nI_eq]
      show PB Γ 47 _ _ _
      refine pb_aload_n0 g dX7_count_47 ?_
      refine pb_getf g fX7_29 dX7_count_48 dr_o rfl ?_
      refine pb_getf g fX7_264 dX7_count_51 dr_ac rfl ?_
      refine pb_iret g z dX7_count_54 ?_
      exact ⟨_, rfl, by rw [e], ⟨_, _, _, _, _, _, _, _, _, _, _, rfl, d1, d2, d3, d4⟩⟩
  · have e : sCount ((n, P, S, sd), (σ, μ, K, Hh), (ts, zz, it), (ra, tr)) w = -2 := by
      simp only [sCount]
      rw [if_neg (hw 0 (by decide)), if_neg (hw 1 (by decide)), if_neg (hw 2 (by decide)), if_neg (hw 3 (by decide))]
    refine pb_bipush (v := -2) g dX7_count_55 (by decide) ?_
    refine pb_iret g z dX7_count_57 ?_
    exact ⟨_, rfl, by rw [e], ⟨_, _, _, _, _, _, _, _, _, _, _, rfl, d1, d2, d3, d4⟩⟩
set_option maxHeartbeats 4000000 in
set_option maxRecDepth 100000 in
theorem x_trace (k : Nat) (q : SP) (i : Int32) (h : PH) (hD : IsD q h) (hI : SI q) : Runs yX7_trace cX7_trace 2 (some .int) (k + 6) [.ref 0, .int i] h (fun o h' => ∃ r : Int32, o = some (.int r) ∧ r = sTrace q i ∧ IsD (q) h') := by
  obtain ⟨⟨n, P, S, sd⟩, ⟨σ, μ, K, Hh⟩, ⟨ts, zz, it⟩, ⟨ra, tr⟩⟩ := q
  obtain ⟨⟨hn1, hn, hP, hS⟩, hσ, hK, hz, hra⟩ := hI
  obtain ⟨pk, fr, itd, jk, kd, hp, kt, ak, an, ah, jl, rfl, d1, d2, d3, d4⟩ := hD
  refine Runs.of (by decide) (Nat.le_of_ble_eq_true rfl) [some (.ref 0), some (.int i)] 0 rfl (fun Γ g z => ?_)
  cases hix : ix i ra with
  | none =>
    have e : sTrace ((n, P, S, sd), (σ, μ, K, Hh), (ts, zz, it), (ra, tr)) i = -1 := by simp only [sTrace, hix]
    have hn2 := inN_not (by omega) (ix_none (by omega) hix)
    refine pb_iload_n1 g dX7_trace_0 ?_
    refine pb_if_lt g 21 dX7_trace_1 (by decide) (fun c1 => ?_) (fun c1 => ?_)
    · refine pb_iconst (v := -1) g dX7_trace_21 (by decide) ?_
      refine pb_goto g 34 dX7_trace_22 (by decide) ?_
      refine pb_iret g z dX7_trace_34 ?_
      exact ⟨_, rfl, by rw [e], ⟨_, _, _, _, _, _, _, _, _, _, _, rfl, d1, d2, d3, d4⟩⟩
    · refine pb_iload_n1 g dX7_trace_4 ?_
      refine pb_bipush (v := nI 40) g dX7_trace_5 (by decide) ?_
      first | refine pb_icmp_geN g 21 dX7_trace_7 (by decide) (by omega) (by omega) (fun c7 => ?_) (fun c7 => ?_) | refine pb_icmp_ge g 21 dX7_trace_7 (by decide) (fun c7 => ?_) (fun c7 => ?_)
      · refine pb_iconst (v := -1) g dX7_trace_21 (by decide) ?_
        refine pb_goto g 34 dX7_trace_22 (by decide) ?_
        refine pb_iret g z dX7_trace_34 ?_
        exact ⟨_, rfl, by rw [e], ⟨_, _, _, _, _, _, _, _, _, _, _, rfl, d1, d2, d3, d4⟩⟩
      · refine pb_iload_n1 g dX7_trace_10 ?_
        refine pb_aload_n0 g dX7_trace_11 ?_
        refine pb_getf g fX7_29 dX7_trace_12 dr_o rfl ?_
        refine pb_getf g fX7_264 dX7_trace_15 dr_ac rfl ?_
        first | refine pb_icmp_ltN g 25 dX7_trace_18 (by decide) (by omega) (by omega) (fun c18 => ?_) (fun c18 => ?_) | refine pb_icmp_lt g 25 dX7_trace_18 (by decide) (fun c18 => ?_) (fun c18 => ?_)
        · exact absurd hn2 (fun q => q.elim c1 (fun w => absurd c18 (Int32.not_lt.mpr w)))
        · refine pb_iconst (v := -1) g dX7_trace_21 (by decide) ?_
          refine pb_goto g 34 dX7_trace_22 (by decide) ?_
          refine pb_iret g z dX7_trace_34 ?_
          exact ⟨_, rfl, by rw [e], ⟨_, _, _, _, _, _, _, _, _, _, _, rfl, d1, d2, d3, d4⟩⟩
  | some i0 =>
    obtain ⟨hi0, rfl⟩ := ix_some (by omega) hix
    have e : sTrace ((n, P, S, sd), (σ, μ, K, Hh), (ts, zz, it), (ra, tr)) (nI i0) = tr i0 := by simp only [sTrace, hix]; rw [if_pos (by omega)]
    refine pb_iload_n1 g dX7_trace_0 ?_
    refine pb_if_ltN g 21 dX7_trace_1 (by decide) (by omega) ?_
    refine pb_iload_n1 g dX7_trace_4 ?_
    refine pb_bipush (v := nI 40) g dX7_trace_5 (by decide) ?_
    first | refine pb_icmp_geN g 21 dX7_trace_7 (by decide) (by omega) (by omega) (fun c7 => ?_) (fun c7 => ?_) | refine pb_icmp_ge g 21 dX7_trace_7 (by decide) (fun c7 => ?_) (fun c7 => ?_)
    · exact absurd c7 (by omega)
    · refine pb_iload_n1 g dX7_trace_10 ?_
      refine pb_aload_n0 g dX7_trace_11 ?_
      refine pb_getf g fX7_29 dX7_trace_12 dr_o rfl ?_
      refine pb_getf g fX7_264 dX7_trace_15 dr_ac rfl ?_
      first | refine pb_icmp_ltN g 25 dX7_trace_18 (by decide) (by omega) (by omega) (fun c18 => ?_) (fun c18 => ?_) | refine pb_icmp_lt g 25 dX7_trace_18 (by decide) (fun c18 => ?_) (fun c18 => ?_)
      · refine pb_aload_n0 g dX7_trace_25 ?_
        refine pb_getf g fX7_29 dX7_trace_26 dr_o rfl ?_
        refine pb_getf g fX7_267 dX7_trace_29 dr_ac rfl ?_
        refine pb_iload_n1 g dX7_trace_32 ?_
        first | refine pb_ialdN g dX7_trace_33 (by first | exact dr_kt | exact dr_pk (by omega) | exact dr_fr (by omega) | exact dr_it (by omega) | exact dr_bf | exact dr_pl | exact dr_lr | exact dr_nh | exact dr_lc | exact dr_bl | assumption) (by omega) (by omega) ?_ | refine pb_ald0 g dX7_trace_33 (by omega) ?_ | refine pb_ald1 g dX7_trace_33 (by omega) ?_ | refine pb_ald2 g dX7_trace_33 (by omega) ?_ | refine pb_ald3 g dX7_trace_33 (by omega) ?_ | refine pb_iald g dX7_trace_33 (by first | exact dr_kt | exact dr_pk (by omega) | exact dr_fr (by omega) | exact dr_it (by omega) | exact dr_bf | exact dr_pl | exact dr_lr | exact dr_nh | exact dr_lc | exact dr_bl | assumption) (by assumption) ?_
        rw [d4 i0 hi0 (by omega)]
        refine pb_iret g z dX7_trace_34 ?_
        exact ⟨_, rfl, by rw [e], ⟨_, _, _, _, _, _, _, _, _, _, _, rfl, d1, d2, d3, d4⟩⟩
      · exact absurd c18 (by omega)
