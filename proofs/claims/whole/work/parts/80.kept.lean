/-! ===== what holds of every desk is kept by every call ===== -/
theorem ps_mono {l : Nat → Nat} {h i h2 i2 : Nat} (hc : ∀ k, (l k < h ∨ (l k = h ∧ k < i)) → (l k < h2 ∨ (l k = h2 ∧ k < i2))) : ∀ m, psL l h i m ≤ psL l h2 i2 m
  | 0 => Nat.le_refl 0
  | m + 1 => by
    have ih := ps_mono hc m
    rw [psL, psL]
    by_cases q : l m < h ∨ (l m = h ∧ m < i)
    · rw [if_pos q, if_pos (hc m q)]
      omega
    · rw [if_neg q]
      omega
theorem ps_lt {l : Nat → Nat} {h i h2 i2 : Nat} (hc : ∀ k, (l k < h ∨ (l k = h ∧ k < i)) → (l k < h2 ∨ (l k = h2 ∧ k < i2))) {a : Nat} (ha1 : ¬ (l a < h ∨ (l a = h ∧ a < i))) (ha2 : l a < h2 ∨ (l a = h2 ∧ a < i2)) : ∀ m, a < m → psL l h i m < psL l h2 i2 m
  | 0, q => absurd q (Nat.not_lt_zero a)
  | m + 1, q => by
    rw [psL, psL]
    by_cases e : a = m
    · subst e
      have := ps_mono hc a
      rw [if_neg ha1, if_pos ha2]
      omega
    · have ih := ps_lt hc ha1 ha2 m (by omega)
      by_cases w : l m < h ∨ (l m = h ∧ m < i)
      · rw [if_pos w, if_pos (hc m w)]
        omega
      · rw [if_neg w]
        omega
theorem ps_pm (l : Nat → Nat) (n : Nat) : IsPm n (fun i => psL l (l i) i n) := by
  have key : ∀ i j, i < n → j < n → (l i < l j ∨ (l i = l j ∧ i < j)) → psL l (l i) i n < psL l (l j) j n := fun i j hi hj h =>
    ps_lt (a := i) (fun k hk => by omega) (fun z => by omega) h n hi
  refine ⟨fun j hj => (psL_at hj).2, fun i j hi hj he => ?_⟩
  have he : psL l (l i) i n = psL l (l j) j n := he
  rcases Nat.lt_trichotomy i j with q | q | q
  · rcases Nat.lt_or_ge (l j) (l i) with w | w
    · have := key j i hj hi (Or.inl w)
      omega
    · have := key i j hi hj (by omega)
      omega
  · exact q
  · rcases Nat.lt_or_ge (l i) (l j) with w | w
    · have := key i j hi hj (Or.inl w)
      omega
    · have := key j i hj hi (by omega)
      omega
theorem lay_pm {n K : Nat} {l o : Nat → Nat} (ho : IsPm n o) (h4 : K = 4 → l 0 < n) : IsPm n (layO n K l o) := by
  unfold layO
  by_cases q : K = 4
  · rw [if_pos q]
    exact tp_pm ho (h4 q)
  · rw [if_neg q]
    show IsPm n (fun i => o (psL l (l i) i n))
    exact pm_comp ho (ps_pm l n)
theorem dl_a : ∀ n, n < 11 → ∀ h, h < n → ∀ j, j < n → (dlF n (h + 1) (h + 1)).getD j 0 < n := by decide +kernel
theorem dl_b : ∀ n, n < 11 → ∀ h, h < n → ∀ i, i < n → ∀ j, j < i → ¬ (dlF n (h + 1) (h + 1)).getD i 0 = (dlF n (h + 1) (h + 1)).getD j 0 := by decide +kernel
theorem dl_pm (n : Nat) (hn : n < 11) (h : Nat) (hh : h < n + 1) (h0 : 0 < h) : IsPm n (fun j => (dlF n h h).getD j 0) := by
  obtain ⟨g, rfl⟩ : ∃ g, h = g + 1 := ⟨h - 1, by omega⟩
  refine ⟨fun j hj => dl_a n hn g (by omega) j hj, fun i j hi hj he => ?_⟩
  rcases Nat.lt_trichotomy i j with q | q | q
  · exact absurd he.symm (dl_b n hn g (by omega) j hj i q)
  · exact q
  · exact absurd he (dl_b n hn g (by omega) i hi j q)
theorem SI_sig {n P P2 S p : Nat} {sd sd2 : Int32} {σ μ : Nat → Nat → Nat} {K Hh : Nat → Nat} {c : (Nat → Int32) × (Nat → Nat) × (Nat → Nat → Int32)} {d : Nat × (Nat → Int32)} {o : Nat → Nat} (h : SI ((n, P, S, sd), (σ, μ, K, Hh), c, d)) (ho : IsPm n o) (hP : P2 ≤ 12) (hp : ∀ q, q < P2 → q ≠ p → q < P) : SI ((n, P2, S, sd2), (va_up σ p o, μ, K, Hh), c, d) := by
  obtain ⟨ts, zz, it⟩ := c
  obtain ⟨ra, tr⟩ := d
  obtain ⟨⟨h1, h2, h3, h4⟩, h5, h6, h7, h8⟩ := h
  refine ⟨⟨h1, h2, hP, h4⟩, fun q hq => ?_, h6, h7, h8⟩
  by_cases e : q = p
  · rw [e, va_upS]
    exact ho
  · rw [va_upN e]
    exact h5 q (hp q hq e)
theorem SI_mk {n P S a b : Nat} {sd : Int32} {σ μ : Nat → Nat → Nat} {K Hh : Nat → Nat} {c : (Nat → Int32) × (Nat → Nat) × (Nat → Nat → Int32)} {d : Nat × (Nat → Int32)} {m : Nat → Nat} (h : SI ((n, P, S, sd), (σ, μ, K, Hh), c, d)) (ha : a < 5) (hb1 : 1 ≤ b) (hb : b ≤ 10) (h4 : a = 4 → b = n) (hm : a < 3 → IsPm n m) : SI (sMk ((n, P, S, sd), (σ, μ, K, Hh), c, d) a b m).2 := by
  obtain ⟨ts, zz, it⟩ := c
  obtain ⟨ra, tr⟩ := d
  have hh := h
  obtain ⟨⟨h1, h2, h3, h4'⟩, h5, h6, h7, h8⟩ := h
  simp only [sMk]
  by_cases e : S = 10
  · rw [if_pos e]
    exact hh
  · rw [if_neg e]
    refine ⟨⟨h1, h2, h3, by omega⟩, h5, fun s hs => ?_, h7, h8⟩
    by_cases q : s = S
    · rw [q, va_upS, va_upS, va_upS]
      exact ⟨ha, hb1, hb, h4, hm⟩
    · rw [va_upN q, va_upN q, va_upN q]
      exact h6 s (by omega)
theorem SI_n {q : SP} (h : SI q) : 1 ≤ q.1.1 ∧ q.1.1 ≤ 10 := by
  obtain ⟨⟨n, P, S, sd⟩, ⟨σ, μ, K, Hh⟩, ⟨ts, zz, it⟩, ⟨ra, tr⟩⟩ := q
  exact ⟨h.1.1, h.1.2.1⟩
theorem si_begin {q : SP} (x : Int32) (h : SI q) : SI (sBegin q x).2 := by
  obtain ⟨⟨n, P, S, sd⟩, ⟨σ, μ, K, Hh⟩, ⟨ts, zz, it⟩, ⟨ra, tr⟩⟩ := q
  have hh := h
  obtain ⟨⟨h1, h2, h3, h4⟩, h5, h6, h7, h8⟩ := h
  simp only [sBegin]
  by_cases hb : x < nI 1 ∨ nI 10 < x
  · rw [if_pos hb]
    exact hh
  · rw [if_neg hb]
    obtain ⟨m, hm1, hm2, rfl⟩ := rng (by decide) (by decide) hb
    rw [nI_clamp (by omega)]
    exact ⟨⟨hm1, hm2, by omega, by omega⟩, fun p hp => absurd hp (Nat.not_lt_zero p), fun s hs => absurd hs (Nat.not_lt_zero s), h7, h8⟩
theorem si_ranked {q : SP} (x : Int32) (h : SI q) : SI (sRanked q x).2 := by
  obtain ⟨⟨n, P, S, sd⟩, ⟨σ, μ, K, Hh⟩, ⟨ts, zz, it⟩, ⟨ra, tr⟩⟩ := q
  have hh := h
  obtain ⟨⟨h1, h2, h3, h4⟩, h5, h6, h7, h8⟩ := h
  simp only [sRanked]
  cases hx : ix x (fac n) with
  | none => exact hh
  | some r =>
    have hr := (ix_some (Nat.lt_of_lt_of_le (fac_lt n (by omega)).2 (by decide)) hx).1
    dsimp only
    by_cases e : P = 12
    · rw [if_pos e]
      exact hh
    · rw [if_neg e]
      exact SI_sig hh (sb_pm n r hr) (by omega) (fun a b c => by omega)
theorem si_pack {q : SP}  (h : SI q) : SI (sPack q).2 := by
  obtain ⟨⟨n, P, S, sd⟩, ⟨σ, μ, K, Hh⟩, ⟨ts, zz, it⟩, ⟨ra, tr⟩⟩ := q
  have hh := h
  obtain ⟨⟨h1, h2, h3, h4⟩, h5, h6, h7, h8⟩ := h
  simp only [sPack]
  by_cases e : P = 12
  · rw [if_pos e]
    exact hh
  · rw [if_neg e]
    exact SI_sig hh ⟨fun j hj => hj, fun i j _ _ z => z⟩ (by omega) (fun a b c => by omega)
theorem si_told {q : SP} (t so i : Int32) (h : SI q) : SI (sTold q t so i).2 := by
  obtain ⟨⟨n, P, S, sd⟩, ⟨σ, μ, K, Hh⟩, ⟨ts, zz, it⟩, ⟨ra, tr⟩⟩ := q
  have hh := h
  obtain ⟨⟨h1, h2, h3, h4⟩, h5, h6, h7, h8⟩ := h
  simp only [sTold]
  cases ht : ix t 4 with
  | none => exact hh
  | some t0 =>
    cases hs : ix so 3 with
    | none => exact hh
    | some o0 =>
      dsimp only
      split
      · exact hh
      · split
        · exact hh
        · split
          · exact hh
          · split
            · exact hh
            · next hi =>
              split
              · exact hh
              · cases hc : isS (fun j => it t0 (i.toNatClampNeg + j)) n n with
                | none => rw [hc] at hi; exact absurd rfl hi
                | some s => exact SI_sig hh (isS_pm (by omega) hc).1 (by omega) (fun a b c => by omega)
theorem si_move {q : SP} (p : Int32) (h : SI q) : SI (sMove q p).2 := by
  obtain ⟨⟨n, P, S, sd⟩, ⟨σ, μ, K, Hh⟩, ⟨ts, zz, it⟩, ⟨ra, tr⟩⟩ := q
  have hh := h
  obtain ⟨⟨h1, h2, h3, h4⟩, h5, h6, h7, h8⟩ := h
  simp only [sMove]
  cases hp : ix p P with
  | none => exact hh
  | some p0 => exact SI_mk hh (by omega) (by omega) (by omega) (fun z => absurd z (by omega)) (fun _ => h5 p0 (ix_some (by omega) hp).1)
theorem si_perfect {q : SP} (w : Int32) (h : SI q) : SI (sPerfect q w).2 := by
  obtain ⟨⟨n, P, S, sd⟩, ⟨σ, μ, K, Hh⟩, ⟨ts, zz, it⟩, ⟨ra, tr⟩⟩ := q
  have hh := h
  obtain ⟨⟨h1, h2, h3, h4⟩, h5, h6, h7, h8⟩ := h
  simp only [sPerfect]
  cases hw : ix w 2 with
  | none => exact hh
  | some w0 =>
    dsimp only
    by_cases e : n % 2 = 1
    · rw [if_pos e]
      exact hh
    · rw [if_neg e]
      exact SI_mk hh (by omega) (by omega) (by omega) (fun z => absurd z (by omega)) (fun _ => bkN_pm (carF_pm (by omega) (ix_some (by decide) hw).1))
theorem si_deal {q : SP} (x : Int32) (h : SI q) : SI (sDeal q x).2 := by
  obtain ⟨⟨n, P, S, sd⟩, ⟨σ, μ, K, Hh⟩, ⟨ts, zz, it⟩, ⟨ra, tr⟩⟩ := q
  have hh := h
  obtain ⟨⟨h1, h2, h3, h4⟩, h5, h6, h7, h8⟩ := h
  simp only [sDeal]
  by_cases hb : x < nI 1 ∨ nI n < x
  · rw [if_pos hb]
    exact hh
  · rw [if_neg hb]
    obtain ⟨m, hm1, hm2, rfl⟩ := rng (by omega) (by decide) hb
    rw [nI_clamp (by omega)]
    exact SI_mk hh (by omega) (by omega) (by omega) (fun z => absurd z (by omega)) (fun _ => dl_pm n (by omega) m (by omega) (by omega))
theorem si_riffle {q : SP} (x : Int32) (h : SI q) : SI (sRiffle q x).2 := by
  obtain ⟨⟨n, P, S, sd⟩, ⟨σ, μ, K, Hh⟩, ⟨ts, zz, it⟩, ⟨ra, tr⟩⟩ := q
  have hh := h
  obtain ⟨⟨h1, h2, h3, h4⟩, h5, h6, h7, h8⟩ := h
  simp only [sRiffle]
  by_cases hb : x < nI 1 ∨ nI 10 < x
  · rw [if_pos hb]
    exact hh
  · rw [if_neg hb]
    obtain ⟨m, hm1, hm2, rfl⟩ := rng (by decide) (by decide) hb
    rw [nI_clamp (by omega)]
    exact SI_mk hh (by omega) (by omega) (by omega) (fun z => absurd z (by omega)) (fun z => absurd z (by omega))
theorem si_top {q : SP}  (h : SI q) : SI (sTop q).2 := by
  obtain ⟨⟨n, P, S, sd⟩, ⟨σ, μ, K, Hh⟩, ⟨ts, zz, it⟩, ⟨ra, tr⟩⟩ := q
  have hh := h
  obtain ⟨⟨h1, h2, h3, h4⟩, h5, h6, h7, h8⟩ := h
  exact SI_mk hh (by omega) (by omega) (by omega) (fun _ => rfl) (fun z => absurd z (by omega))
theorem si_behind {q : SP} (x y : Int32) (h : SI q) : SI (sBehind q x y).2 := by
  obtain ⟨⟨n, P, S, sd⟩, ⟨σ, μ, K, Hh⟩, ⟨ts, zz, it⟩, ⟨ra, tr⟩⟩ := q
  have hh := h
  obtain ⟨⟨h1, h2, h3, h4⟩, h5, h6, h7, h8⟩ := h
  simp only [sBehind]
  cases hx : ix x S with
  | none => exact hh
  | some x0 =>
    cases hy : ix y S with
    | none => exact hh
    | some y0 =>
      dsimp only
      by_cases e : K x0 < 3 ∧ K y0 < 3
      · rw [if_pos e]
        exact SI_mk hh (by omega) (by omega) (by omega) (fun z => absurd z (by omega)) (fun _ => pm_comp ((h6 x0 (ix_some (by omega) hx).1).2.2.2.2 e.1) ((h6 y0 (ix_some (by omega) hy).1).2.2.2.2 e.2))
      · rw [if_neg e]
        exact hh
theorem si_back {q : SP} (x : Int32) (h : SI q) : SI (sBack q x).2 := by
  obtain ⟨⟨n, P, S, sd⟩, ⟨σ, μ, K, Hh⟩, ⟨ts, zz, it⟩, ⟨ra, tr⟩⟩ := q
  have hh := h
  obtain ⟨⟨h1, h2, h3, h4⟩, h5, h6, h7, h8⟩ := h
  simp only [sBack]
  cases hx : ix x S with
  | none => exact hh
  | some x0 =>
    dsimp only
    by_cases e : K x0 < 3
    · rw [if_pos e]
      exact SI_mk hh (by omega) (by omega) (by omega) (fun z => absurd z (by omega)) (fun _ => bkN_pm ((h6 x0 (ix_some (by omega) hx).1).2.2.2.2 e))
    · rw [if_neg e]
      exact hh
theorem si_does {q : SP} (s p : Int32) (h : SI q) : SI (sDoes q s p).2 := by
  obtain ⟨⟨n, P, S, sd⟩, ⟨σ, μ, K, Hh⟩, ⟨ts, zz, it⟩, ⟨ra, tr⟩⟩ := q
  have hh := h
  obtain ⟨⟨h1, h2, h3, h4⟩, h5, h6, h7, h8⟩ := h
  simp only [sDoes]
  cases hs : ix s S with
  | none => exact hh
  | some s0 =>
    cases hp : ix p P with
    | none => exact hh
    | some p0 =>
      dsimp only
      by_cases e : K s0 < 3
      · rw [if_pos e]
        exact SI_sig hh (pm_comp (h5 p0 (ix_some (by omega) hp).1) ((h6 s0 (ix_some (by omega) hs).1).2.2.2.2 e)) h3 (fun a b c => b)
      · rw [if_neg e]
        exact hh
theorem si_lots {q : SP} (s p : Int32) (L : Int64) (h : SI q) : SI (sLots q s p L).2 := by
  obtain ⟨⟨n, P, S, sd⟩, ⟨σ, μ, K, Hh⟩, ⟨ts, zz, it⟩, ⟨ra, tr⟩⟩ := q
  have hh := h
  obtain ⟨⟨h1, h2, h3, h4⟩, h5, h6, h7, h8⟩ := h
  simp only [sLots]
  cases hs : ix s S with
  | none => exact hh
  | some s0 =>
    cases hp : ix p P with
    | none => exact hh
    | some p0 =>
      have hKs := h6 s0 (ix_some (by omega) hs).1
      dsimp only
      split
      · exact hh
      · split
        · exact hh
        · refine SI_sig hh (lay_pm (h5 p0 (ix_some (by omega) hp).1) (fun q => ?_)) h3 (fun a b c => b)
          have := Nat.mod_lt (L.toNatClampNeg / Hh s0 ^ 0) (show Hh s0 > 0 by omega)
          have := hKs.2.2.2.1 q
          omega
theorem si_draw {q : SP} (s p : Int32) (h : SI q) : SI (sDraw q s p).2 := by
  obtain ⟨⟨n, P, S, sd⟩, ⟨σ, μ, K, Hh⟩, ⟨ts, zz, it⟩, ⟨ra, tr⟩⟩ := q
  have hh := h
  obtain ⟨⟨h1, h2, h3, h4⟩, h5, h6, h7, h8⟩ := h
  simp only [sDraw]
  cases hs : ix s S with
  | none => exact hh
  | some s0 =>
    cases hp : ix p P with
    | none => exact hh
    | some p0 =>
      have hKs := h6 s0 (ix_some (by omega) hs).1
      dsimp only
      split
      · exact hh
      · refine SI_sig hh (lay_pm (h5 p0 (ix_some (by omega) hp).1) (fun q => ?_)) h3 (fun a b c => b)
        have h9 : dwV (Hh s0) sd 0 < Hh s0 := dwL_lt (by omega) _ _
        have := hKs.2.2.2.1 q
        omega
theorem si_seed {q : SP} (x : Int32) (h : SI q) : SI (sSeed q x).2 := by
  obtain ⟨⟨n, P, S, sd⟩, ⟨σ, μ, K, Hh⟩, ⟨ts, zz, it⟩, ⟨ra, tr⟩⟩ := q
  have hh := h
  obtain ⟨⟨h1, h2, h3, h4⟩, h5, h6, h7, h8⟩ := h
  exact ⟨⟨h1, h2, h3, h4⟩, h5, h6, h7, h8⟩
theorem si_tray {q : SP} (t so x : Int32) (h : SI q) : SI (sTray q t so x).2 := by
  obtain ⟨⟨n, P, S, sd⟩, ⟨σ, μ, K, Hh⟩, ⟨ts, zz, it⟩, ⟨ra, tr⟩⟩ := q
  have hh := h
  obtain ⟨⟨h1, h2, h3, h4⟩, h5, h6, h7, h8⟩ := h
  simp only [sTray]
  cases ht : ix t 4 with
  | none => exact hh
  | some t0 =>
    dsimp only
    split
    · refine ⟨⟨h1, h2, h3, h4⟩, h5, h6, fun t ht => ?_, h8⟩
      by_cases e : t = t0
      · rw [e, va_upS, upd, if_pos rfl]
        exact ⟨by omega, Or.inl rfl⟩
      · rw [va_upN e, upd, if_neg e]
        exact h7 t ht
    · cases hs : ix so 3 with
      | none => exact hh
      | some o =>
        have ho := (ix_some (by decide) hs).1
        dsimp only
        split
        · exact hh
        · next h40 =>
          split
          · exact hh
          · next h0 =>
            obtain ⟨m, hm, rfl⟩ := nI_of h0
            have hm40 : m ≤ 40 := Nat.not_lt.mp fun q => h40 ((nI_ltI (by decide) hm).mpr q)
            refine ⟨⟨h1, h2, h3, h4⟩, h5, h6, fun t ht => ?_, h8⟩
            by_cases e : t = t0
            · rw [e, va_upS, upd, if_pos rfl, nI_clamp hm]
              refine ⟨hm40, ?_⟩
              match o, ho with
              | 0, _ => exact Or.inr (Or.inl rfl)
              | 1, _ => exact Or.inr (Or.inr (Or.inl rfl))
              | 2, _ => exact Or.inr (Or.inr (Or.inr rfl))
            · rw [va_upN e, upd, if_neg e]
              exact h7 t ht
theorem si_cell {q : SP} (t i v : Int32) (h : SI q) : SI (sCell q t i v).2 := by
  obtain ⟨⟨n, P, S, sd⟩, ⟨σ, μ, K, Hh⟩, ⟨ts, zz, it⟩, ⟨ra, tr⟩⟩ := q
  have hh := h
  obtain ⟨⟨h1, h2, h3, h4⟩, h5, h6, h7, h8⟩ := h
  simp only [sCell]
  cases ht : ix t 4 with
  | none => exact hh
  | some t0 =>
    dsimp only
    split
    · exact hh
    · cases hi : ix i (zz t0) with
      | none => exact hh
      | some i0 => exact ⟨⟨h1, h2, h3, h4⟩, h5, h6, h7, h8⟩
theorem si_copy {q : SP} (t i o j m : Int32) (h : SI q) : SI (sCopy q t i o j m).2 := by
  obtain ⟨⟨n, P, S, sd⟩, ⟨σ, μ, K, Hh⟩, ⟨ts, zz, it⟩, ⟨ra, tr⟩⟩ := q
  have hh := h
  obtain ⟨⟨h1, h2, h3, h4⟩, h5, h6, h7, h8⟩ := h
  simp only [sCopy]
  cases ht : ix t 4 with
  | none => exact hh
  | some t0 =>
    cases ho : ix o 4 with
    | none => exact hh
    | some o0 =>
      dsimp only
      split
      · exact hh
      · split
        · exact hh
        · by_cases e : hdN (zz t0) i m ∧ hdN (zz o0) j m
          · rw [if_pos e]
            exact ⟨⟨h1, h2, h3, h4⟩, h5, h6, h7, h8⟩
          · rw [if_neg e]
            exact hh
theorem si_act {q : SP} (s t x : Int32) (h : SI q) : SI (sAct q s t x).2 := by
  obtain ⟨⟨n, P, S, sd⟩, ⟨σ, μ, K, Hh⟩, ⟨ts, zz, it⟩, ⟨ra, tr⟩⟩ := q
  have hh := h
  obtain ⟨⟨h1, h2, h3, h4⟩, h5, h6, h7, h8⟩ := h
  simp only [sAct]
  cases hs : ix s S with
  | none => exact ⟨⟨h1, h2, h3, h4⟩, h5, h6, h7, by omega⟩
  | some s0 =>
    cases ht : ix t 3 with
    | none => exact ⟨⟨h1, h2, h3, h4⟩, h5, h6, h7, by omega⟩
    | some t0 => exact ⟨⟨h1, h2, h3, h4⟩, h5, h6, h7, (ac_top (K s0) (h6 s0 (ix_some (by omega) hs).1).1 t0 (ix_some (by decide) ht).1).2⟩
