/-! ===== the reference: where a card comes ===== -/
def atF (i t : Nat) : Nat := if i = 0 then t else if i ≤ t then i - 1 else i
def tcL (i j : Nat) : Nat → Nat
  | 0 => 0
  | t + 1 => tcL i j t + (if atF i t = j then 1 else 0)
theorem tc_ok : ∀ n, n < 11 → ∀ i, i < n → ∀ j, j < n → tcL i j n = tpF n i j := by decide +kernel
theorem tcL_le (i j : Nat) : ∀ t, tcL i j t ≤ t
  | 0 => Nat.le_refl 0
  | t + 1 => by
    have := tcL_le i j t
    rw [tcL]
    split <;> omega
theorem sp_hi {o t x y : Nat} (h : o < t) : spN o t x y = 0 := by rw [spN, choF, if_pos h, Nat.zero_mul, Nat.zero_mul]
theorem sp_0 (e x y : Nat) : spN 0 e x y = if e = 0 then 1 else 0 := by
  cases e with
  | zero =>
    rw [if_pos rfl]
    show choF 0 0 * x ^ 0 * y ^ (0 - 0) = 1
    rw [Nat.pow_zero, Nat.sub_zero, Nat.pow_zero]
    rfl
  | succ e => rw [if_neg (by omega), sp_hi (by omega)]
theorem pas : ∀ t, t < 10 → ∀ c, c < 11 → choF (t + 1) (c + 1) = choF t (c + 1) + choF t c := by decide +kernel
theorem sp_s0 (t x y : Nat) : spN (t + 1) 0 x y = spN t 0 x y * y := by rw [spN, spN, cho_0, cho_0, Nat.sub_zero, Nat.sub_zero, Nat.pow_succ, Nat.mul_assoc (1 * x ^ 0) (y ^ t) y]
theorem sp_ss {t c x y : Nat} (ht : t < 10) (hc : c < 11) : spN (t + 1) (c + 1) x y = spN t (c + 1) x y * y + spN t c x y * x := by
  have h1 : spN (t + 1) (c + 1) x y = (choF t (c + 1) + choF t c) * x ^ (c + 1) * y ^ (t - c) := by rw [spN, pas t ht c hc, show t + 1 - (c + 1) = t - c by omega]
  have h2 : spN t c x y * x = choF t c * x ^ (c + 1) * y ^ (t - c) := by
    rw [spN, Nat.pow_succ]
    ac_rfl
  have h3 : spN t (c + 1) x y * y = choF t (c + 1) * x ^ (c + 1) * y ^ (t - c) := by
    by_cases q : c + 1 ≤ t
    · obtain ⟨u, hu⟩ : ∃ u, t - (c + 1) = u := ⟨_, rfl⟩
      rw [spN, hu, show t - c = u + 1 by omega, show y ^ (u + 1) = y ^ u * y from Nat.pow_succ y u]
      ac_rfl
    · rw [sp_hi (by omega), choF, if_pos (by omega), Nat.zero_mul, Nat.zero_mul, Nat.zero_mul]
  rw [h1, h2, h3, Nat.add_mul, Nat.add_mul]
def cvS (f g : Nat → Nat) (c : Nat) : Nat → Nat
  | 0 => 0
  | d + 1 => cvS f g c d + f d * g (c - d)
theorem cv_step {f g g' : Nat → Nat} {x y N c : Nat} (hs : ∀ c, c < N → g' (c + 1) = g (c + 1) * y + g c * x) (hc : c < N) : ∀ d, d ≤ c + 1 → cvS f g' (c + 1) d = cvS f g (c + 1) d * y + cvS f g c d * x
  | 0, _ => by
    show 0 = 0 * y + 0 * x
    rw [Nat.zero_mul, Nat.zero_mul]
  | d + 1, h => by
    show cvS f g' (c + 1) d + f d * g' (c + 1 - d) = (cvS f g (c + 1) d + f d * g (c + 1 - d)) * y + (cvS f g c d + f d * g (c - d)) * x
    rw [cv_step hs hc d (by omega), show c + 1 - d = (c - d) + 1 by omega, hs (c - d) (by omega), Nat.mul_add, Nat.add_mul, Nat.add_mul]
    ac_rfl
theorem cv_s {f g g' : Nat → Nat} {x y N c : Nat} (h0 : g' 0 = g 0 * y) (hs : ∀ c, c < N → g' (c + 1) = g (c + 1) * y + g c * x) (hc : c < N) : cvS f g' (c + 1) (c + 1 + 1) = cvS f g (c + 1) (c + 1 + 1) * y + cvS f g c (c + 1) * x := by
  show cvS f g' (c + 1) (c + 1) + f (c + 1) * g' (c + 1 - (c + 1)) = (cvS f g (c + 1) (c + 1) + f (c + 1) * g (c + 1 - (c + 1))) * y + cvS f g c (c + 1) * x
  rw [cv_step hs hc (c + 1) (Nat.le_refl _), Nat.sub_self, h0, Nat.add_mul]
  ac_rfl
theorem cv_0 {f g g' : Nat → Nat} {y : Nat} (h0 : g' 0 = g 0 * y) : cvS f g' 0 (0 + 1) = cvS f g 0 (0 + 1) * y := by
  show 0 + f 0 * g' (0 - 0) = (0 + f 0 * g (0 - 0)) * y
  rw [Nat.sub_self, h0, Nat.zero_add, Nat.zero_add, Nat.mul_assoc]
theorem cv_z {f g : Nat → Nat} {c p : Nat} : ∀ d, (∀ e, p ≤ e → e < p + d → f e * g (c - e) = 0) → cvS f g c (p + d) = cvS f g c p
  | 0, _ => rfl
  | d + 1, h => by
    show cvS f g c (p + d) + f (p + d) * g (c - (p + d)) = _
    rw [h (p + d) (by omega) (by omega), cv_z d (fun e h1 h2 => h e h1 (by omega)), Nat.add_zero]
theorem cv_rr {n a i j h : Nat} (hi : i < n) (hj : j < n) : cvS (fun e => spN j e (h + 1) (a - h - 1)) (fun e => spN (n - 1 - j) e h (a - h)) i (i + 1) = rrI n a i j h (min i j + 1 - (i - (n - 1 - j))) := by
  have h1 : ∀ d, cvS (fun e => spN j e (h + 1) (a - h - 1)) (fun e => spN (n - 1 - j) e h (a - h)) i (i - (n - 1 - j) + d) = rrI n a i j h d := by
    intro d
    induction d with
    | zero =>
      have h9 := cv_z (f := fun e => spN j e (h + 1) (a - h - 1)) (g := fun e => spN (n - 1 - j) e h (a - h)) (c := i) (p := 0) (i - (n - 1 - j)) (fun e _ he => by
        show spN j e (h + 1) (a - h - 1) * spN (n - 1 - j) (i - e) h (a - h) = 0
        rw [sp_hi (show n - 1 - j < i - e by omega), Nat.mul_zero])
      rw [Nat.zero_add] at h9
      exact h9
    | succ d ih =>
      show cvS (fun e => spN j e (h + 1) (a - h - 1)) (fun e => spN (n - 1 - j) e h (a - h)) i (i - (n - 1 - j) + d) + _ = rrI n a i j h d + _
      rw [ih]
      rfl
  have h2 := cv_z (f := fun e => spN j e (h + 1) (a - h - 1)) (g := fun e => spN (n - 1 - j) e h (a - h)) (c := i) (p := min i j + 1) (i - min i j) (fun e he he2 => by
    show spN j e (h + 1) (a - h - 1) * spN (n - 1 - j) (i - e) h (a - h) = 0
    rw [sp_hi (show j < e by omega), Nat.zero_mul])
  have h3 := h1 (min i j + 1 - (i - (n - 1 - j)))
  rw [show i - (n - 1 - j) + (min i j + 1 - (i - (n - 1 - j))) = min i j + 1 by omega] at h3
  rw [show min i j + 1 + (i - min i j) = i + 1 by omega] at h2
  exact h2.trans h3
theorem cv_d (f : Nat → Nat) (c x y : Nat) : cvS f (fun e => spN 0 e x y) c (c + 1) = f c := by
  show cvS f (fun e => spN 0 e x y) c c + f c * spN 0 (c - c) x y = f c
  have h9 := cv_z (f := f) (g := fun e => spN 0 e x y) (c := c) (p := 0) c (fun e _ he => by
    show f e * spN 0 (c - e) x y = 0
    rw [sp_hi (show 0 < c - e by omega), Nat.mul_zero])
  rw [Nat.zero_add] at h9
  rw [h9, Nat.sub_self, sp_0, if_pos rfl, Nat.mul_one]
  exact Nat.zero_add _
set_option maxHeartbeats 4000000 in
set_option maxRecDepth 100000 in
theorem m_place (k : Nat) (q : SP) (s i j w : Int32) (h : PH) (hD : IsM q h) (hI : SI q) : Runs yX8_place cX8_place 12 (some .long) (k + 6) [.ref 0, .int s, .int i, .int j, .int w] h (fun oo h' => ∃ r : Int64, oo = some (.long r) ∧ r = sPlace q s i j w ∧ IsM (q) h') := by
  obtain ⟨⟨n, P, S, sd⟩, ⟨σ, μ, K, Hh⟩, ⟨ts, zz, it⟩, ⟨ra, tr⟩⟩ := q
  obtain ⟨⟨hn1, hn, hP, hS⟩, hσ, hK, hz, hra⟩ := hI
  obtain ⟨xod, xkn, xhs, xmm, xln, xot, xfa, xgr, xtsr, xtsz, xce, xmv, xtc, xwy, xnx, xch, xaf, xfo, xco, rfl, d1, d2, d3, d4, d5⟩ := hD
  refine Runs.of (by decide) (Nat.le_of_ble_eq_true rfl) [some (.ref 0), some (.int s), some (.int i), some (.int j), some (.int w), none, none, none, none, none, none, none] 7 rfl (fun Γ g z => ?_)
  cases hs : ix s S with
  | none =>
    have e : sPlace ((n, P, S, sd), (σ, μ, K, Hh), (ts, zz, it), (ra, tr)) s i j w = NOL := by simp only [sPlace, hs]
    have hsn := ix_none (by omega) hs
    refine pb_aload_n0 g dX8_place_0 ?_
    refine pb_iload_n1 g dX8_place_1 ?_
    refine pb_Vi1 g qX8_123 dX8_place_2 (k + 5) (by omega) mr_o (m_isShuffleF (k + 5) (by assumption) hS) (fun r2 h2 e2 => ?_)
    obtain ⟨rfl, rfl⟩ := e2
    first | refine pb_if_eqN g 43 dX8_place_5 (by decide) (by omega) (fun c5 => ?_) (fun c5 => ?_) | refine pb_if_eq g 43 dX8_place_5 (by decide) (fun c5 => ?_) (fun c5 => ?_)
    · refine pb_ldc2w (w := (-4611686018427387904)) g kX8_157 (by decide) dX8_place_43 ?_
      refine pb_lret g z dX8_place_46 ?_
      exact ⟨_, rfl, by rw [e]; rfl, ⟨_, _, _, _, _, _, _, _, _, _, _, _, _, _, _, _, _, _, _, rfl, d1, d2, d3, d4, d5⟩⟩
    · exact absurd c5 (by decide)
  | some s0 =>
    obtain ⟨hs0, rfl⟩ := ix_some (by omega) hs
    have hKs := hK s0 hs0
    by_cases h3 : K s0 < 3
    · have e : sPlace ((n, P, S, sd), (σ, μ, K, Hh), (ts, zz, it), (ra, tr)) (nI s0) i j w = NOL := by
        simp only [sPlace, hs]
        cases hi : ix i n with
        | none => rfl
        | some i0 =>
          cases hj : ix j n with
          | none => rfl
          | some j0 =>
            cases hw : ix w 2 with
            | none => rfl
            | some w0 => exact if_pos h3
      refine pb_aload_n0 g dX8_place_0 ?_
      refine pb_iload_n1 g dX8_place_1 ?_
      refine pb_Vi1 g qX8_123 dX8_place_2 (k + 5) (by omega) mr_o (m_isShuffleT (k + 5) (by assumption) hS) (fun r2 h2 e2 => ?_)
      obtain ⟨rfl, rfl⟩ := e2
      first | refine pb_if_eqN g 43 dX8_place_5 (by decide) (by omega) (fun c5 => ?_) (fun c5 => ?_) | refine pb_if_eq g 43 dX8_place_5 (by decide) (fun c5 => ?_) (fun c5 => ?_)
      · exact absurd c5 (by decide)
      · refine pb_aload_n0 g dX8_place_8 ?_
        refine pb_iload_n1 g dX8_place_9 ?_
        refine pb_Vi1 g qX8_126 dX8_place_10 (k + 5) (by omega) mr_o (m_hasMove (k + 5) (s := s0) (K := K s0) (by omega) (d2 s0 (by assumption)).1 (hK s0 (by assumption)).1) (fun r10 h10 e10 => ?_)
        obtain ⟨rfl, rfl⟩ := e10
        rw [if_pos (by assumption)]
        first | refine pb_if_neN g 43 dX8_place_13 (by decide) (by omega) (fun c13 => ?_) (fun c13 => ?_) | refine pb_if_ne g 43 dX8_place_13 (by decide) (fun c13 => ?_) (fun c13 => ?_)
        · refine pb_ldc2w (w := (-4611686018427387904)) g kX8_157 (by decide) dX8_place_43 ?_
          refine pb_lret g z dX8_place_46 ?_
          exact ⟨_, rfl, by rw [e]; rfl, ⟨_, _, _, _, _, _, _, _, _, _, _, _, _, _, _, _, _, _, _, rfl, d1, d2, d3, d4, d5⟩⟩
        · exact absurd c13 (by decide)
    · cases hi : ix i n with
      | none =>
        have e : sPlace ((n, P, S, sd), (σ, μ, K, Hh), (ts, zz, it), (ra, tr)) (nI s0) i j w = NOL := by simp only [sPlace, hs, hi]
        have hin := ix_none (by omega) hi
        refine pb_aload_n0 g dX8_place_0 ?_
        refine pb_iload_n1 g dX8_place_1 ?_
        refine pb_Vi1 g qX8_123 dX8_place_2 (k + 5) (by omega) mr_o (m_isShuffleT (k + 5) (by assumption) hS) (fun r2 h2 e2 => ?_)
        obtain ⟨rfl, rfl⟩ := e2
        first | refine pb_if_eqN g 43 dX8_place_5 (by decide) (by omega) (fun c5 => ?_) (fun c5 => ?_) | refine pb_if_eq g 43 dX8_place_5 (by decide) (fun c5 => ?_) (fun c5 => ?_)
        · exact absurd c5 (by decide)
        · refine pb_aload_n0 g dX8_place_8 ?_
          refine pb_iload_n1 g dX8_place_9 ?_
          refine pb_Vi1 g qX8_126 dX8_place_10 (k + 5) (by omega) mr_o (m_hasMove (k + 5) (s := s0) (K := K s0) (by omega) (d2 s0 (by assumption)).1 (hK s0 (by assumption)).1) (fun r10 h10 e10 => ?_)
          obtain ⟨rfl, rfl⟩ := e10
          rw [if_neg (by assumption)]
          first | refine pb_if_neN g 43 dX8_place_13 (by decide) (by omega) (fun c13 => ?_) (fun c13 => ?_) | refine pb_if_ne g 43 dX8_place_13 (by decide) (fun c13 => ?_) (fun c13 => ?_)
          · exact absurd c13 (by decide)
          · refine pb_aload_n0 g dX8_place_16 ?_
            refine pb_iload_n2 g dX8_place_17 ?_
            refine pb_Vi1 g qX8_98 dX8_place_18 (k + 5) (by omega) mr_o (m_isPlaceF (k + 5) (by assumption) hn) (fun r18 h18 e18 => ?_)
            obtain ⟨rfl, rfl⟩ := e18
            first | refine pb_if_eqN g 43 dX8_place_21 (by decide) (by omega) (fun c21 => ?_) (fun c21 => ?_) | refine pb_if_eq g 43 dX8_place_21 (by decide) (fun c21 => ?_) (fun c21 => ?_)
            · refine pb_ldc2w (w := (-4611686018427387904)) g kX8_157 (by decide) dX8_place_43 ?_
              refine pb_lret g z dX8_place_46 ?_
              exact ⟨_, rfl, by rw [e]; rfl, ⟨_, _, _, _, _, _, _, _, _, _, _, _, _, _, _, _, _, _, _, rfl, d1, d2, d3, d4, d5⟩⟩
            · exact absurd c21 (by decide)
      | some i0 =>
        obtain ⟨hi0, rfl⟩ := ix_some (by omega) hi
        cases hj : ix j n with
        | none =>
          have e : sPlace ((n, P, S, sd), (σ, μ, K, Hh), (ts, zz, it), (ra, tr)) (nI s0) (nI i0) j w = NOL := by simp only [sPlace, hs, hi, hj]
          have hjn := ix_none (by omega) hj
          refine pb_aload_n0 g dX8_place_0 ?_
          refine pb_iload_n1 g dX8_place_1 ?_
          refine pb_Vi1 g qX8_123 dX8_place_2 (k + 5) (by omega) mr_o (m_isShuffleT (k + 5) (by assumption) hS) (fun r2 h2 e2 => ?_)
          obtain ⟨rfl, rfl⟩ := e2
          first | refine pb_if_eqN g 43 dX8_place_5 (by decide) (by omega) (fun c5 => ?_) (fun c5 => ?_) | refine pb_if_eq g 43 dX8_place_5 (by decide) (fun c5 => ?_) (fun c5 => ?_)
          · exact absurd c5 (by decide)
          · refine pb_aload_n0 g dX8_place_8 ?_
            refine pb_iload_n1 g dX8_place_9 ?_
            refine pb_Vi1 g qX8_126 dX8_place_10 (k + 5) (by omega) mr_o (m_hasMove (k + 5) (s := s0) (K := K s0) (by omega) (d2 s0 (by assumption)).1 (hK s0 (by assumption)).1) (fun r10 h10 e10 => ?_)
            obtain ⟨rfl, rfl⟩ := e10
            rw [if_neg (by assumption)]
            first | refine pb_if_neN g 43 dX8_place_13 (by decide) (by omega) (fun c13 => ?_) (fun c13 => ?_) | refine pb_if_ne g 43 dX8_place_13 (by decide) (fun c13 => ?_) (fun c13 => ?_)
            · exact absurd c13 (by decide)
            · refine pb_aload_n0 g dX8_place_16 ?_
              refine pb_iload_n2 g dX8_place_17 ?_
              refine pb_Vi1 g qX8_98 dX8_place_18 (k + 5) (by omega) mr_o (m_isPlaceT (k + 5) (by assumption) hn) (fun r18 h18 e18 => ?_)
              obtain ⟨rfl, rfl⟩ := e18
              first | refine pb_if_eqN g 43 dX8_place_21 (by decide) (by omega) (fun c21 => ?_) (fun c21 => ?_) | refine pb_if_eq g 43 dX8_place_21 (by decide) (fun c21 => ?_) (fun c21 => ?_)
              · exact absurd c21 (by decide)
              · refine pb_aload_n0 g dX8_place_24 ?_
                refine pb_iload_n3 g dX8_place_25 ?_
                refine pb_Vi1 g qX8_98 dX8_place_26 (k + 5) (by omega) mr_o (m_isPlaceF (k + 5) (by assumption) hn) (fun r26 h26 e26 => ?_)
                obtain ⟨rfl, rfl⟩ := e26
                first | refine pb_if_eqN g 43 dX8_place_29 (by decide) (by omega) (fun c29 => ?_) (fun c29 => ?_) | refine pb_if_eq g 43 dX8_place_29 (by decide) (fun c29 => ?_) (fun c29 => ?_)
                · refine pb_ldc2w (w := (-4611686018427387904)) g kX8_157 (by decide) dX8_place_43 ?_
                  refine pb_lret g z dX8_place_46 ?_
                  exact ⟨_, rfl, by rw [e]; rfl, ⟨_, _, _, _, _, _, _, _, _, _, _, _, _, _, _, _, _, _, _, rfl, d1, d2, d3, d4, d5⟩⟩
                · exact absurd c29 (by decide)
        | some j0 =>
          obtain ⟨hj0, rfl⟩ := ix_some (by omega) hj
          cases hw : ix w 2 with
          | none =>
            have e : sPlace ((n, P, S, sd), (σ, μ, K, Hh), (ts, zz, it), (ra, tr)) (nI s0) (nI i0) (nI j0) w = NOL := by simp only [sPlace, hs, hi, hj, hw]
            have hwn := inN_not (by decide) (ix_none (by decide) hw)
            refine pb_aload_n0 g dX8_place_0 ?_
            refine pb_iload_n1 g dX8_place_1 ?_
            refine pb_Vi1 g qX8_123 dX8_place_2 (k + 5) (by omega) mr_o (m_isShuffleT (k + 5) (by assumption) hS) (fun r2 h2 e2 => ?_)
            obtain ⟨rfl, rfl⟩ := e2
            first | refine pb_if_eqN g 43 dX8_place_5 (by decide) (by omega) (fun c5 => ?_) (fun c5 => ?_) | refine pb_if_eq g 43 dX8_place_5 (by decide) (fun c5 => ?_) (fun c5 => ?_)
            · exact absurd c5 (by decide)
            · refine pb_aload_n0 g dX8_place_8 ?_
              refine pb_iload_n1 g dX8_place_9 ?_
              refine pb_Vi1 g qX8_126 dX8_place_10 (k + 5) (by omega) mr_o (m_hasMove (k + 5) (s := s0) (K := K s0) (by omega) (d2 s0 (by assumption)).1 (hK s0 (by assumption)).1) (fun r10 h10 e10 => ?_)
              obtain ⟨rfl, rfl⟩ := e10
              rw [if_neg (by assumption)]
              first | refine pb_if_neN g 43 dX8_place_13 (by decide) (by omega) (fun c13 => ?_) (fun c13 => ?_) | refine pb_if_ne g 43 dX8_place_13 (by decide) (fun c13 => ?_) (fun c13 => ?_)
              · exact absurd c13 (by decide)
              · refine pb_aload_n0 g dX8_place_16 ?_
                refine pb_iload_n2 g dX8_place_17 ?_
                refine pb_Vi1 g qX8_98 dX8_place_18 (k + 5) (by omega) mr_o (m_isPlaceT (k + 5) (by assumption) hn) (fun r18 h18 e18 => ?_)
                obtain ⟨rfl, rfl⟩ := e18
                first | refine pb_if_eqN g 43 dX8_place_21 (by decide) (by omega) (fun c21 => ?_) (fun c21 => ?_) | refine pb_if_eq g 43 dX8_place_21 (by decide) (fun c21 => ?_) (fun c21 => ?_)
                · exact absurd c21 (by decide)
                · refine pb_aload_n0 g dX8_place_24 ?_
                  refine pb_iload_n3 g dX8_place_25 ?_
                  refine pb_Vi1 g qX8_98 dX8_place_26 (k + 5) (by omega) mr_o (m_isPlaceT (k + 5) (by assumption) hn) (fun r26 h26 e26 => ?_)
                  obtain ⟨rfl, rfl⟩ := e26
                  first | refine pb_if_eqN g 43 dX8_place_29 (by decide) (by omega) (fun c29 => ?_) (fun c29 => ?_) | refine pb_if_eq g 43 dX8_place_29 (by decide) (fun c29 => ?_) (fun c29 => ?_)
                  · exact absurd c29 (by decide)
                  · refine pb_iload4 g dX8_place_32 ?_
                    refine pb_if_lt g 43 dX8_place_34 (by decide) (fun c34 => ?_) (fun c34 => ?_)
                    · refine pb_ldc2w (w := (-4611686018427387904)) g kX8_157 (by decide) dX8_place_43 ?_
                      refine pb_lret g z dX8_place_46 ?_
                      exact ⟨_, rfl, by rw [e]; rfl, ⟨_, _, _, _, _, _, _, _, _, _, _, _, _, _, _, _, _, _, _, rfl, d1, d2, d3, d4, d5⟩⟩
                    · refine pb_iload4 g dX8_place_37 ?_
                      refine pb_iconst (v := nI 1) g dX8_place_39 (by decide) ?_
                      first | refine pb_icmp_leN g 47 dX8_place_40 (by decide) (by omega) (by omega) (fun c40 => ?_) (fun c40 => ?_) | refine pb_icmp_le g 47 dX8_place_40 (by decide) (fun c40 => ?_) (fun c40 => ?_)
                      · exact absurd hwn (fun q => q.elim c34 (fun w => absurd (Int32.le_trans w c40) (by decide)))
                      · refine pb_ldc2w (w := (-4611686018427387904)) g kX8_157 (by decide) dX8_place_43 ?_
                        refine pb_lret g z dX8_place_46 ?_
                        exact ⟨_, rfl, by rw [e]; rfl, ⟨_, _, _, _, _, _, _, _, _, _, _, _, _, _, _, _, _, _, _, rfl, d1, d2, d3, d4, d5⟩⟩
          | some w0 =>
            obtain ⟨hw0, rfl⟩ := ix_some (by decide) hw
            by_cases hk4 : K s0 = 4
            · have e : sPlace ((n, P, S, sd), (σ, μ, K, Hh), (ts, zz, it), (ra, tr)) (nI s0) (nI i0) (nI j0) (nI w0) = frL (tpF n i0 j0) n w0 := by
                simp only [sPlace, hs, hi, hj, hw]
                rw [if_neg h3, if_pos hk4]
              have htc := tc_ok n (by omega) i0 hi0 j0 hj0
              have loop : ∀ t, t ≤ n → ∀ w7 : Option Value, PB Γ 63 [some (.ref 0), some (.int (nI s0)), some (.int (nI i0)), some (.int (nI j0)), some (.int (nI w0)), some (.int (nI (tcL i0 j0 t))), some (.int (nI t)), w7, none, none, none, none] [] (mkH 20 (mdF (nI n) (nI P) (nI S) (sd) xod xkn xhs xmm xln xot xwy xnx xch xaf xfa xgr xfo xco xtsr xtsz xce xmv xtc (nI ra))) := by
                refine pb_loop n (fun t ht ih w7 => ?_)
                have htl := tcL_le i0 j0 t
                by_cases htn : t < n
                · have ih := ih htn
                  refine pb_iload6 g dX8_place_63 ?_
                  refine pb_aload_n0 g dX8_place_65 ?_
                  refine pb_getf g fX8_7 dX8_place_66 mr_o rfl ?_
                  first | refine pb_icmp_geN g 111 dX8_place_69 (by decide) (by omega) (by omega) (fun c69 => ?_) (fun c69 => ?_) | refine pb_icmp_ge g 111 dX8_place_69 (by decide) (fun c69 => ?_) (fun c69 => ?_)
                  · exact absurd c69 (by omega)
                  · refine pb_iload_n2 g dX8_place_72 ?_
                    first | refine pb_if_neN g 81 dX8_place_73 (by decide) (by omega) (fun c73 => ?_) (fun c73 => ?_) | refine pb_if_ne g 81 dX8_place_73 (by decide) (fun c73 => ?_) (fun c73 => ?_)
                    · refine pb_iload_n2 g dX8_place_81 ?_
                      refine pb_iload6 g dX8_place_82 ?_
                      first | refine pb_icmp_gtN g 93 dX8_place_84 (by decide) (by omega) (by omega) (fun c84 => ?_) (fun c84 => ?_) | refine pb_icmp_gt g 93 dX8_place_84 (by decide) (fun c84 => ?_) (fun c84 => ?_)
                      · refine pb_iload_n2 g dX8_place_93 ?_
                        refine pb_istore7 g dX8_place_94 (by decide) ?_
                        refine pb_iload7 g dX8_place_96 ?_
                        refine pb_iload_n3 g dX8_place_98 ?_
                        first | refine pb_icmp_neN g 105 dX8_place_99 (by decide) (by omega) (by omega) (fun c99 => ?_) (fun c99 => ?_) | refine pb_icmp_ne g 105 dX8_place_99 (by decide) (fun c99 => ?_) (fun c99 => ?_)
                        · first | refine pb_iinc6N g dX8_place_105 (by decide) ?_ | refine pb_iinc6 g dX8_place_105 (by decide) rfl ?_
                          refine pb_goto g 63 dX8_place_108 (by decide) ?_
                          first | (rw [tcL, if_pos (by unfold atF; split <;> (try split) <;> omega)] at ih; exact ih _) | (rw [tcL, if_neg (by unfold atF; split <;> (try split) <;> omega), Nat.add_zero] at ih; exact ih _)
                        · first | refine pb_iinc5N g dX8_place_102 (by decide) ?_ | refine pb_iinc5 g dX8_place_102 (by decide) rfl ?_
                          first | refine pb_iinc6N g dX8_place_105 (by decide) ?_ | refine pb_iinc6 g dX8_place_105 (by decide) rfl ?_
                          refine pb_goto g 63 dX8_place_108 (by decide) ?_
                          first | (rw [tcL, if_pos (by unfold atF; split <;> (try split) <;> omega)] at ih; exact ih _) | (rw [tcL, if_neg (by unfold atF; split <;> (try split) <;> omega), Nat.add_zero] at ih; exact ih _)
                      · refine pb_iload_n2 g dX8_place_87 ?_
                        refine pb_iconst (v := nI 1) g dX8_place_88 (by decide) ?_
                        first | refine pb_isubN g dX8_place_89 (by omega) ?_ | refine pb_isub g dX8_place_89 ?_
                        refine pb_goto g 94 dX8_place_90 (by decide) ?_
                        refine pb_istore7 g dX8_place_94 (by decide) ?_
                        refine pb_iload7 g dX8_place_96 ?_
                        refine pb_iload_n3 g dX8_place_98 ?_
                        first | refine pb_icmp_neN g 105 dX8_place_99 (by decide) (by omega) (by omega) (fun c99 => ?_) (fun c99 => ?_) | refine pb_icmp_ne g 105 dX8_place_99 (by decide) (fun c99 => ?_) (fun c99 => ?_)
                        · first | refine pb_iinc6N g dX8_place_105 (by decide) ?_ | refine pb_iinc6 g dX8_place_105 (by decide) rfl ?_
                          refine pb_goto g 63 dX8_place_108 (by decide) ?_
                          first | (rw [tcL, if_pos (by unfold atF; split <;> (try split) <;> omega)] at ih; exact ih _) | (rw [tcL, if_neg (by unfold atF; split <;> (try split) <;> omega), Nat.add_zero] at ih; exact ih _)
                        · first | refine pb_iinc5N g dX8_place_102 (by decide) ?_ | refine pb_iinc5 g dX8_place_102 (by decide) rfl ?_
                          first | refine pb_iinc6N g dX8_place_105 (by decide) ?_ | refine pb_iinc6 g dX8_place_105 (by decide) rfl ?_
                          refine pb_goto g 63 dX8_place_108 (by decide) ?_
                          first | (rw [tcL, if_pos (by unfold atF; split <;> (try split) <;> omega)] at ih; exact ih _) | (rw [tcL, if_neg (by unfold atF; split <;> (try split) <;> omega), Nat.add_zero] at ih; exact ih _)
                    · refine pb_iload6 g dX8_place_76 ?_
                      refine pb_goto g 94 dX8_place_78 (by decide) ?_
                      refine pb_istore7 g dX8_place_94 (by decide) ?_
                      refine pb_iload7 g dX8_place_96 ?_
                      refine pb_iload_n3 g dX8_place_98 ?_
                      first | refine pb_icmp_neN g 105 dX8_place_99 (by decide) (by omega) (by omega) (fun c99 => ?_) (fun c99 => ?_) | refine pb_icmp_ne g 105 dX8_place_99 (by decide) (fun c99 => ?_) (fun c99 => ?_)
                      · first | refine pb_iinc6N g dX8_place_105 (by decide) ?_ | refine pb_iinc6 g dX8_place_105 (by decide) rfl ?_
                        refine pb_goto g 63 dX8_place_108 (by decide) ?_
                        first | (rw [tcL, if_pos (by unfold atF; split <;> (try split) <;> omega)] at ih; exact ih _) | (rw [tcL, if_neg (by unfold atF; split <;> (try split) <;> omega), Nat.add_zero] at ih; exact ih _)
                      · first | refine pb_iinc5N g dX8_place_102 (by decide) ?_ | refine pb_iinc5 g dX8_place_102 (by decide) rfl ?_
                        first | refine pb_iinc6N g dX8_place_105 (by decide) ?_ | refine pb_iinc6 g dX8_place_105 (by decide) rfl ?_
                        refine pb_goto g 63 dX8_place_108 (by decide) ?_
                        first | (rw [tcL, if_pos (by unfold atF; split <;> (try split) <;> omega)] at ih; exact ih _) | (rw [tcL, if_neg (by unfold atF; split <;> (try split) <;> omega), Nat.add_zero] at ih; exact ih _)
                · obtain rfl : t = n := by omega
                  refine pb_iload6 g dX8_place_63 ?_
                  refine pb_aload_n0 g dX8_place_65 ?_
                  refine pb_getf g fX8_7 dX8_place_66 mr_o rfl ?_
                  first | refine pb_icmp_geN g 111 dX8_place_69 (by decide) (by omega) (by omega) (fun c69 => ?_) (fun c69 => ?_) | refine pb_icmp_ge g 111 dX8_place_69 (by decide) (fun c69 => ?_) (fun c69 => ?_)
                  · refine pb_aload_n0 g dX8_place_111 ?_
                    refine pb_iload5 g dX8_place_112 ?_
                    first | refine pb_i2lN g dX8_place_114 (by omega) ?_ | refine pb_i2l g dX8_place_114 ?_
                    refine pb_aload_n0 g dX8_place_115 ?_
                    refine pb_getf g fX8_7 dX8_place_116 mr_o rfl ?_
                    first | refine pb_i2lN g dX8_place_119 (by omega) ?_ | refine pb_i2l g dX8_place_119 ?_
                    refine pb_iload4 g dX8_place_120 ?_
                    refine pb_Vl3 g qX8_171 dX8_place_122 (k + 5) (by omega) mr_o (m_lowest (k + 4) (tcL i0 j0 t) t w0 (by omega) (by omega) hn1 hw0 _) (fun r122 h122 e122 => ?_)
                    obtain ⟨rfl, rfl⟩ := e122
                    refine pb_lret g z dX8_place_125 ?_
                    exact ⟨_, rfl, by rw [e, htc], ⟨_, _, _, _, _, _, _, _, _, _, _, _, _, _, _, _, _, _, _, rfl, d1, d2, d3, d4, d5⟩⟩
                  · exact absurd c69 (by omega)
              refine pb_aload_n0 g dX8_place_0 ?_
              refine pb_iload_n1 g dX8_place_1 ?_
              refine pb_Vi1 g qX8_123 dX8_place_2 (k + 5) (by omega) mr_o (m_isShuffleT (k + 5) (by assumption) hS) (fun r2 h2 e2 => ?_)
              obtain ⟨rfl, rfl⟩ := e2
              first | refine pb_if_eqN g 43 dX8_place_5 (by decide) (by omega) (fun c5 => ?_) (fun c5 => ?_) | refine pb_if_eq g 43 dX8_place_5 (by decide) (fun c5 => ?_) (fun c5 => ?_)
              · exact absurd c5 (by decide)
              · refine pb_aload_n0 g dX8_place_8 ?_
                refine pb_iload_n1 g dX8_place_9 ?_
                refine pb_Vi1 g qX8_126 dX8_place_10 (k + 5) (by omega) mr_o (m_hasMove (k + 5) (s := s0) (K := K s0) (by omega) (d2 s0 (by assumption)).1 (hK s0 (by assumption)).1) (fun r10 h10 e10 => ?_)
                obtain ⟨rfl, rfl⟩ := e10
                rw [if_neg (by assumption)]
                first | refine pb_if_neN g 43 dX8_place_13 (by decide) (by omega) (fun c13 => ?_) (fun c13 => ?_) | refine pb_if_ne g 43 dX8_place_13 (by decide) (fun c13 => ?_) (fun c13 => ?_)
                · exact absurd c13 (by decide)
                · refine pb_aload_n0 g dX8_place_16 ?_
                  refine pb_iload_n2 g dX8_place_17 ?_
                  refine pb_Vi1 g qX8_98 dX8_place_18 (k + 5) (by omega) mr_o (m_isPlaceT (k + 5) (by assumption) hn) (fun r18 h18 e18 => ?_)
                  obtain ⟨rfl, rfl⟩ := e18
                  first | refine pb_if_eqN g 43 dX8_place_21 (by decide) (by omega) (fun c21 => ?_) (fun c21 => ?_) | refine pb_if_eq g 43 dX8_place_21 (by decide) (fun c21 => ?_) (fun c21 => ?_)
                  · exact absurd c21 (by decide)
                  · refine pb_aload_n0 g dX8_place_24 ?_
                    refine pb_iload_n3 g dX8_place_25 ?_
                    refine pb_Vi1 g qX8_98 dX8_place_26 (k + 5) (by omega) mr_o (m_isPlaceT (k + 5) (by assumption) hn) (fun r26 h26 e26 => ?_)
                    obtain ⟨rfl, rfl⟩ := e26
                    first | refine pb_if_eqN g 43 dX8_place_29 (by decide) (by omega) (fun c29 => ?_) (fun c29 => ?_) | refine pb_if_eq g 43 dX8_place_29 (by decide) (fun c29 => ?_) (fun c29 => ?_)
                    · exact absurd c29 (by decide)
                    · refine pb_iload4 g dX8_place_32 ?_
                      refine pb_if_ltN g 43 dX8_place_34 (by decide) (by omega) ?_
                      refine pb_iload4 g dX8_place_37 ?_
                      refine pb_iconst (v := nI 1) g dX8_place_39 (by decide) ?_
                      first | refine pb_icmp_leN g 47 dX8_place_40 (by decide) (by omega) (by omega) (fun c40 => ?_) (fun c40 => ?_) | refine pb_icmp_le g 47 dX8_place_40 (by decide) (fun c40 => ?_) (fun c40 => ?_)
                      · refine pb_aload_n0 g dX8_place_47 ?_
                        refine pb_getf g fX8_17 dX8_place_48 mr_o rfl ?_
                        refine pb_iload_n1 g dX8_place_51 ?_
                        first | refine pb_ialdN g dX8_place_52 (by first | exact mr_kind | exact mr_order | exact mr_heaps | exact mr_m | exact mr_line | exact mr_other | exact mr_ways | exact mr_next | exact mr_chances | exact mr_after | exact mr_far | exact mr_groups | exact mr_found | exact mr_counts | exact mr_traySort | exact mr_traySize | exact mr_cells | exact mr_moved | exact mr_traced | assumption) (by omega) (by omega) ?_ | refine pb_ald0 g dX8_place_52 (by omega) ?_ | refine pb_ald1 g dX8_place_52 (by omega) ?_ | refine pb_ald2 g dX8_place_52 (by omega) ?_ | refine pb_ald3 g dX8_place_52 (by omega) ?_ | refine pb_iald g dX8_place_52 (by first | exact mr_kind | exact mr_order | exact mr_heaps | exact mr_m | exact mr_line | exact mr_other | exact mr_ways | exact mr_next | exact mr_chances | exact mr_after | exact mr_far | exact mr_groups | exact mr_found | exact mr_counts | exact mr_traySort | exact mr_traySize | exact mr_cells | exact mr_moved | exact mr_traced | assumption) (by assumption) ?_
                        rw [(d2 s0 hs0).1]
                        refine pb_iconst (v := nI 4) g dX8_place_53 (by decide) ?_
                        first | refine pb_icmp_neN g 126 dX8_place_54 (by decide) (by omega) (by omega) (fun c54 => ?_) (fun c54 => ?_) | refine pb_icmp_ne g 126 dX8_place_54 (by decide) (fun c54 => ?_) (fun c54 => ?_)
                        · exact absurd hk4 c54
                        · refine pb_iconst (v := nI 0) g dX8_place_57 (by decide) ?_
                          refine pb_istore5 g dX8_place_58 (by decide) ?_
                          refine pb_iconst (v := nI 0) g dX8_place_60 (by decide) ?_
                          refine pb_istore6 g dX8_place_61 (by decide) ?_
                          exact loop 0 (Nat.zero_le _) _
                      · exact absurd c40 (by omega)
            · have e : sPlace ((n, P, S, sd), (σ, μ, K, Hh), (ts, zz, it), (ra, tr)) (nI s0) (nI i0) (nI j0) (nI w0) = frL (rrO n (Hh s0) i0 j0 (Hh s0)) (Hh s0 ^ n) w0 := by
                simp only [sPlace, hs, hi, hj, hw]
                rw [if_neg h3, if_neg hk4]
              have hHb := hKs.2.2.1
              have hHa := hKs.2.1
              have hrr := rrO_le hn hHb hi0 hj0 (Hh s0) (Nat.le_refl _)
              have hrr2 : Hh s0 * (10 * (2 ^ 14 * 10 ^ 9)) ≤ 10 * (10 * (2 ^ 14 * 10 ^ 9)) := Nat.mul_le_mul_right _ hHb
              have hpn : Hh s0 ^ n ≤ 10 ^ 10 := Nat.le_trans (Nat.pow_le_pow_left hHb n) (Nat.pow_le_pow_right (by decide) hn)
              have hpn0 : 0 < Hh s0 ^ n := Nat.pow_pos hHa
              have loop : ∀ u, u ≤ Hh s0 → ∀ (f : Nat → Int64) (w9 w10 w11 : Option Value), PB Γ 140 [some (.ref 0), some (.int (nI s0)), some (.int (nI i0)), some (.int (nI j0)), some (.int (nI w0)), some (.int (nI (Hh s0))), some (.long (lN (rrO n (Hh s0) i0 j0 u))), none, some (.int (nI u)), w9, w10, w11] [] (mkH 20 (mdF (nI n) (nI P) (nI S) (sd) xod xkn xhs xmm xln xot (f) xnx xch xaf xfa xgr xfo xco xtsr xtsz xce xmv xtc (nI ra))) := by
                refine pb_loop (Hh s0) (fun u hu ih f w9 w10 w11 => ?_)
                by_cases hua : u < Hh s0
                · have ih := ih hua
                  have inner : ∀ (t x : Nat) (v v' : Nat → Nat), x ≤ Hh s0 → v' 0 = v 0 * (Hh s0 - x) → (∀ c, c < n → v' (c + 1) = v (c + 1) * (Hh s0 - x) + v c * x) → (∀ (f : Nat → Int64) (w11 : Option Value), (∀ c, c ≤ n → f c = lN (v' c)) → PB Γ 281 [some (.ref 0), some (.int (nI s0)), some (.int (nI i0)), some (.int (nI j0)), some (.int (nI w0)), some (.int (nI (Hh s0))), some (.long (lN (rrO n (Hh s0) i0 j0 u))), none, some (.int (nI u)), some (.int (nI t)), some (.int (nI x)), w11] [] (mkH 20 (mdF (nI n) (nI P) (nI S) (sd) xod xkn xhs xmm xln xot (f) xnx xch xaf xfa xgr xfo xco xtsr xtsz xce xmv xtc (nI ra)))) → ∀ c, c ≤ n + 1 → ∀ f : Nat → Int64, (∀ b, b < c → f b = lN (v b)) → (∀ b, c ≤ b → b ≤ n → f b = lN (v' b)) → PB Γ 226 [some (.ref 0), some (.int (nI s0)), some (.int (nI i0)), some (.int (nI j0)), some (.int (nI w0)), some (.int (nI (Hh s0))), some (.long (lN (rrO n (Hh s0) i0 j0 u))), none, some (.int (nI u)), some (.int (nI t)), some (.int (nI x)), some (.int (nI c - nI 1))] [] (mkH 20 (mdF (nI n) (nI P) (nI S) (sd) xod xkn xhs xmm xln xot (f) xnx xch xaf xfa xgr xfo xco xtsr xtsz xce xmv xtc (nI ra))) := by
                    intro t x v v' hx hv0 hvs kk
                    refine pb_down (fun c ihc hc f hf1 hf2 => ?_)
                    cases c with
                    | zero =>
                      have kk := kk f (some (.int (nI 0 - nI 1))) (fun c hc => hf2 c (Nat.zero_le _) hc)
                      refine pb_iload11 g dX8_place_226 ?_
                      refine pb_if_lt g 281 dX8_place_228 (by decide) (fun c228 => ?_) (fun c228 => ?_)
                      · exact kk
                      · exact absurd (show nI 0 - nI 1 < 0 by decide) c228
                    | succ c =>
                      rw [show nI (c + 1) - nI 1 = nI c from nI_pred c]
                      have ihc := ihc c rfl (by omega)
                      have hfc := hf1 c (by omega)
                      by_cases hc0 : c = 0
                      · subst hc0
                        refine pb_iload11 g dX8_place_226 ?_
                        refine pb_if_ltN g 281 dX8_place_228 (by decide) (by omega) ?_
                        refine pb_aload_n0 g dX8_place_231 ?_
                        refine pb_getf g fX8_32 dX8_place_232 mr_o rfl ?_
                        refine pb_iload11 g dX8_place_235 ?_
                        refine pb_aload_n0 g dX8_place_237 ?_
                        refine pb_getf g fX8_32 dX8_place_238 mr_o rfl ?_
                        refine pb_iload11 g dX8_place_241 ?_
                        first | refine pb_laldN g dX8_place_243 (by first | exact mr_ways | exact mr_order | exact mr_kind | exact mr_heaps | exact mr_m | exact mr_line | exact mr_other | exact mr_next | exact mr_chances | exact mr_after | exact mr_far | exact mr_groups | exact mr_found | exact mr_counts | exact mr_traySort | exact mr_traySize | exact mr_cells | exact mr_moved | exact mr_traced | assumption) (by omega) (by omega) ?_ | refine pb_lald g dX8_place_243 (by first | exact mr_ways | exact mr_order | exact mr_kind | exact mr_heaps | exact mr_m | exact mr_line | exact mr_other | exact mr_next | exact mr_chances | exact mr_after | exact mr_far | exact mr_groups | exact mr_found | exact mr_counts | exact mr_traySort | exact mr_traySize | exact mr_cells | exact mr_moved | exact mr_traced | assumption) (by assumption) ?_
                        rw [hfc]
                        refine pb_iload5 g dX8_place_244 ?_
                        refine pb_iload10 g dX8_place_246 ?_
                        first | refine pb_isubN g dX8_place_248 (by omega) ?_ | refine pb_isub g dX8_place_248 ?_
                        first | refine pb_i2lN g dX8_place_249 (by omega) ?_ | refine pb_i2l g dX8_place_249 ?_
                        first | refine pb_lmulN g dX8_place_250 ?_ | refine pb_lmul g dX8_place_250 ?_
                        refine pb_iload11 g dX8_place_251 ?_
                        first | refine pb_if_leN g 272 dX8_place_253 (by decide) (by omega) (fun c253 => ?_) (fun c253 => ?_) | refine pb_if_le g 272 dX8_place_253 (by decide) (fun c253 => ?_) (fun c253 => ?_)
                        · refine pb_lconst (v := lN 0) g dX8_place_272 rfl ?_
                          first | refine pb_laddN g dX8_place_273 ?_ | refine pb_ladd g dX8_place_273 ?_
                          try rw [Nat.add_zero]
                          first | refine pb_lastN g dX8_place_274 (by first | exact mr_ways | exact mr_order | exact mr_kind | exact mr_heaps | exact mr_m | exact mr_line | exact mr_other | exact mr_next | exact mr_chances | exact mr_after | exact mr_far | exact mr_groups | exact mr_found | exact mr_counts | exact mr_traySort | exact mr_traySize | exact mr_cells | exact mr_moved | exact mr_traced | assumption) (by omega) (by omega) ?_ | refine pb_last g dX8_place_274 (by first | exact mr_ways | exact mr_order | exact mr_kind | exact mr_heaps | exact mr_m | exact mr_line | exact mr_other | exact mr_next | exact mr_chances | exact mr_after | exact mr_far | exact mr_groups | exact mr_found | exact mr_counts | exact mr_traySort | exact mr_traySize | exact mr_cells | exact mr_moved | exact mr_traced | assumption) (by assumption) ?_
                          first | rw [ms_ways]
                          refine pb_iinc11 (v := nI 0 - nI 1) g dX8_place_275 (by decide) (by rw [Int32.sub_eq_add_neg]; rfl) ?_
                          refine pb_goto g 226 dX8_place_278 (by decide) ?_
                          exact ihc _ (fun b hb => by rw [updL_ne (by omega)]; exact hf1 b (by omega)) (fun b hb1 hb2 => by
                            by_cases q : b = 0
                            · rw [q, updL_eq, hv0, Nat.add_zero]
                            · rw [updL_ne q]
                              exact hf2 b (by omega) hb2)
                        · exact absurd c253 (by omega)
                      · obtain ⟨b0, rfl⟩ : ∃ b0, c = b0 + 1 := ⟨c - 1, by omega⟩
                        have hfb := hf1 b0 (by omega)
                        refine pb_iload11 g dX8_place_226 ?_
                        refine pb_if_ltN g 281 dX8_place_228 (by decide) (by omega) ?_
                        refine pb_aload_n0 g dX8_place_231 ?_
                        refine pb_getf g fX8_32 dX8_place_232 mr_o rfl ?_
                        refine pb_iload11 g dX8_place_235 ?_
                        refine pb_aload_n0 g dX8_place_237 ?_
                        refine pb_getf g fX8_32 dX8_place_238 mr_o rfl ?_
                        refine pb_iload11 g dX8_place_241 ?_
                        first | refine pb_laldN g dX8_place_243 (by first | exact mr_ways | exact mr_order | exact mr_kind | exact mr_heaps | exact mr_m | exact mr_line | exact mr_other | exact mr_next | exact mr_chances | exact mr_after | exact mr_far | exact mr_groups | exact mr_found | exact mr_counts | exact mr_traySort | exact mr_traySize | exact mr_cells | exact mr_moved | exact mr_traced | assumption) (by omega) (by omega) ?_ | refine pb_lald g dX8_place_243 (by first | exact mr_ways | exact mr_order | exact mr_kind | exact mr_heaps | exact mr_m | exact mr_line | exact mr_other | exact mr_next | exact mr_chances | exact mr_after | exact mr_far | exact mr_groups | exact mr_found | exact mr_counts | exact mr_traySort | exact mr_traySize | exact mr_cells | exact mr_moved | exact mr_traced | assumption) (by assumption) ?_
                        rw [hfc]
                        refine pb_iload5 g dX8_place_244 ?_
                        refine pb_iload10 g dX8_place_246 ?_
                        first | refine pb_isubN g dX8_place_248 (by omega) ?_ | refine pb_isub g dX8_place_248 ?_
                        first | refine pb_i2lN g dX8_place_249 (by omega) ?_ | refine pb_i2l g dX8_place_249 ?_
                        first | refine pb_lmulN g dX8_place_250 ?_ | refine pb_lmul g dX8_place_250 ?_
                        refine pb_iload11 g dX8_place_251 ?_
                        first | refine pb_if_leN g 272 dX8_place_253 (by decide) (by omega) (fun c253 => ?_) (fun c253 => ?_) | refine pb_if_le g 272 dX8_place_253 (by decide) (fun c253 => ?_) (fun c253 => ?_)
                        · exact absurd c253 (by omega)
                        · refine pb_aload_n0 g dX8_place_256 ?_
                          refine pb_getf g fX8_32 dX8_place_257 mr_o rfl ?_
                          refine pb_iload11 g dX8_place_260 ?_
                          refine pb_iconst (v := nI 1) g dX8_place_262 (by decide) ?_
                          first | refine pb_isubN g dX8_place_263 (by omega) ?_ | refine pb_isub g dX8_place_263 ?_
                          rw [Nat.add_sub_cancel]
                          first | refine pb_laldN g dX8_place_264 (by first | exact mr_ways | exact mr_order | exact mr_kind | exact mr_heaps | exact mr_m | exact mr_line | exact mr_other | exact mr_next | exact mr_chances | exact mr_after | exact mr_far | exact mr_groups | exact mr_found | exact mr_counts | exact mr_traySort | exact mr_traySize | exact mr_cells | exact mr_moved | exact mr_traced | assumption) (by omega) (by omega) ?_ | refine pb_lald g dX8_place_264 (by first | exact mr_ways | exact mr_order | exact mr_kind | exact mr_heaps | exact mr_m | exact mr_line | exact mr_other | exact mr_next | exact mr_chances | exact mr_after | exact mr_far | exact mr_groups | exact mr_found | exact mr_counts | exact mr_traySort | exact mr_traySize | exact mr_cells | exact mr_moved | exact mr_traced | assumption) (by assumption) ?_
                          rw [hfb]
                          refine pb_iload10 g dX8_place_265 ?_
                          first | refine pb_i2lN g dX8_place_267 (by omega) ?_ | refine pb_i2l g dX8_place_267 ?_
                          first | refine pb_lmulN g dX8_place_268 ?_ | refine pb_lmul g dX8_place_268 ?_
                          refine pb_goto g 273 dX8_place_269 (by decide) ?_
                          first | refine pb_laddN g dX8_place_273 ?_ | refine pb_ladd g dX8_place_273 ?_
                          first | refine pb_lastN g dX8_place_274 (by first | exact mr_ways | exact mr_order | exact mr_kind | exact mr_heaps | exact mr_m | exact mr_line | exact mr_other | exact mr_next | exact mr_chances | exact mr_after | exact mr_far | exact mr_groups | exact mr_found | exact mr_counts | exact mr_traySort | exact mr_traySize | exact mr_cells | exact mr_moved | exact mr_traced | assumption) (by omega) (by omega) ?_ | refine pb_last g dX8_place_274 (by first | exact mr_ways | exact mr_order | exact mr_kind | exact mr_heaps | exact mr_m | exact mr_line | exact mr_other | exact mr_next | exact mr_chances | exact mr_after | exact mr_far | exact mr_groups | exact mr_found | exact mr_counts | exact mr_traySort | exact mr_traySize | exact mr_cells | exact mr_moved | exact mr_traced | assumption) (by assumption) ?_
                          first | rw [ms_ways]
                          refine pb_iinc11 (v := nI (b0 + 1) - nI 1) g dX8_place_275 (by decide) (by rw [Int32.sub_eq_add_neg]; rfl) ?_
                          refine pb_goto g 226 dX8_place_278 (by decide) ?_
                          exact ihc _ (fun b hb => by rw [updL_ne (by omega)]; exact hf1 b (by omega)) (fun b hb1 hb2 => by
                            by_cases q : b = (b0 + 1)
                            · rw [q, updL_eq, hvs b0 (by omega)]
                            · rw [updL_ne q]
                              exact hf2 b (by omega) hb2)
                  have loopB : ∀ m, m ≤ n - 1 - j0 → ∀ (f : Nat → Int64) (w10 w11 : Option Value), (∀ c, c ≤ n → f c = lN (cvS (fun e => spN j0 e (u + 1) (Hh s0 - u - 1)) (fun e => spN m e u (Hh s0 - u)) c (c + 1))) → PB Γ 185 [some (.ref 0), some (.int (nI s0)), some (.int (nI i0)), some (.int (nI j0)), some (.int (nI w0)), some (.int (nI (Hh s0))), some (.long (lN (rrO n (Hh s0) i0 j0 u))), none, some (.int (nI u)), some (.int (nI (j0 + 1 + m))), w10, w11] [] (mkH 20 (mdF (nI n) (nI P) (nI S) (sd) xod xkn xhs xmm xln xot (f) xnx xch xaf xfa xgr xfo xco xtsr xtsz xce xmv xtc (nI ra))) := by
                    refine pb_loop (n - 1 - j0) (fun m hm ihB f w10 w11 hf => ?_)
                    by_cases hmn : m < n - 1 - j0
                    · have ihB := ihB hmn
                      have kk : ∀ (f : Nat → Int64) (w11 : Option Value), (∀ c, c ≤ n → f c = lN (cvS (fun e => spN j0 e (u + 1) (Hh s0 - u - 1)) (fun e => spN (m + 1) e u (Hh s0 - u)) c (c + 1))) → PB Γ 281 [some (.ref 0), some (.int (nI s0)), some (.int (nI i0)), some (.int (nI j0)), some (.int (nI w0)), some (.int (nI (Hh s0))), some (.long (lN (rrO n (Hh s0) i0 j0 u))), none, some (.int (nI u)), some (.int (nI (j0 + 1 + m))), some (.int (nI u)), w11] [] (mkH 20 (mdF (nI n) (nI P) (nI S) (sd) xod xkn xhs xmm xln xot (f) xnx xch xaf xfa xgr xfo xco xtsr xtsz xce xmv xtc (nI ra))) := by
                        intro f w11 hf
                        first | refine pb_iinc9N g dX8_place_281 (by decide) ?_ | refine pb_iinc9 g dX8_place_281 (by decide) rfl ?_
                        refine pb_goto g 185 dX8_place_284 (by decide) ?_
                        exact ihB _ _ _ hf
                      have inn := inner (j0 + 1 + m) u (fun c => cvS (fun e => spN j0 e (u + 1) (Hh s0 - u - 1)) (fun e => spN m e u (Hh s0 - u)) c (c + 1)) (fun c => cvS (fun e => spN j0 e (u + 1) (Hh s0 - u - 1)) (fun e => spN (m + 1) e u (Hh s0 - u)) c (c + 1)) (by omega) (cv_0 (sp_s0 m u (Hh s0 - u))) (fun c hc => cv_s (N := n) (sp_s0 m u (Hh s0 - u)) (fun c hc => sp_ss (by omega) (by omega)) hc) kk (n + 1) (Nat.le_refl _) f (fun b hb => hf b (by omega)) (fun b hb1 hb2 => absurd hb1 (by omega))
                      rw [show nI (n + 1) - nI 1 = nI n from nI_pred n] at inn
                      refine pb_iload9 g dX8_place_185 ?_
                      refine pb_aload_n0 g dX8_place_187 ?_
                      refine pb_getf g fX8_7 dX8_place_188 mr_o rfl ?_
                      first | refine pb_icmp_geN g 287 dX8_place_191 (by decide) (by omega) (by omega) (fun c191 => ?_) (fun c191 => ?_) | refine pb_icmp_ge g 287 dX8_place_191 (by decide) (fun c191 => ?_) (fun c191 => ?_)
                      · exact absurd c191 (by omega)
                      · refine pb_iload9 g dX8_place_194 ?_
                        refine pb_iload_n3 g dX8_place_196 ?_
                        first | refine pb_icmp_neN g 203 dX8_place_197 (by decide) (by omega) (by omega) (fun c197 => ?_) (fun c197 => ?_) | refine pb_icmp_ne g 203 dX8_place_197 (by decide) (fun c197 => ?_) (fun c197 => ?_)
                        · refine pb_iload9 g dX8_place_203 ?_
                          refine pb_iload_n3 g dX8_place_205 ?_
                          first | refine pb_icmp_geN g 216 dX8_place_206 (by decide) (by omega) (by omega) (fun c206 => ?_) (fun c206 => ?_) | refine pb_icmp_ge g 216 dX8_place_206 (by decide) (fun c206 => ?_) (fun c206 => ?_)
                          · refine pb_iload8 g dX8_place_216 ?_
                            refine pb_istore10 g dX8_place_218 (by decide) ?_
                            refine pb_aload_n0 g dX8_place_220 ?_
                            refine pb_getf g fX8_7 dX8_place_221 mr_o rfl ?_
                            refine pb_istore11 g dX8_place_224 (by decide) ?_
                            exact inn
                          · exact absurd c206 (by omega)
                        · exact absurd c197 (by omega)
                    · obtain rfl : m = n - 1 - j0 := by omega
                      have hfi := hf i0 (by omega)
                      rw [cv_rr hi0 hj0] at hfi
                      rw [rrO] at ih
                      refine pb_iload9 g dX8_place_185 ?_
                      refine pb_aload_n0 g dX8_place_187 ?_
                      refine pb_getf g fX8_7 dX8_place_188 mr_o rfl ?_
                      first | refine pb_icmp_geN g 287 dX8_place_191 (by decide) (by omega) (by omega) (fun c191 => ?_) (fun c191 => ?_) | refine pb_icmp_ge g 287 dX8_place_191 (by decide) (fun c191 => ?_) (fun c191 => ?_)
                      · refine pb_lload6 g dX8_place_287 ?_
                        refine pb_aload_n0 g dX8_place_289 ?_
                        refine pb_getf g fX8_32 dX8_place_290 mr_o rfl ?_
                        refine pb_iload_n2 g dX8_place_293 ?_
                        first | refine pb_laldN g dX8_place_294 (by first | exact mr_ways | exact mr_order | exact mr_kind | exact mr_heaps | exact mr_m | exact mr_line | exact mr_other | exact mr_next | exact mr_chances | exact mr_after | exact mr_far | exact mr_groups | exact mr_found | exact mr_counts | exact mr_traySort | exact mr_traySize | exact mr_cells | exact mr_moved | exact mr_traced | assumption) (by omega) (by omega) ?_ | refine pb_lald g dX8_place_294 (by first | exact mr_ways | exact mr_order | exact mr_kind | exact mr_heaps | exact mr_m | exact mr_line | exact mr_other | exact mr_next | exact mr_chances | exact mr_after | exact mr_far | exact mr_groups | exact mr_found | exact mr_counts | exact mr_traySort | exact mr_traySize | exact mr_cells | exact mr_moved | exact mr_traced | assumption) (by assumption) ?_
                        rw [hfi]
                        first | refine pb_laddN g dX8_place_295 ?_ | refine pb_ladd g dX8_place_295 ?_
                        refine pb_lstore6 g dX8_place_296 (by decide) ?_
                        first | refine pb_iinc8N g dX8_place_298 (by decide) ?_ | refine pb_iinc8 g dX8_place_298 (by decide) rfl ?_
                        refine pb_goto g 140 dX8_place_301 (by decide) ?_
                        exact ih _ _ _ _
                      · exact absurd c191 (by omega)
                  have loopA : ∀ t, t ≤ j0 → ∀ (f : Nat → Int64) (w10 w11 : Option Value), (∀ c, c ≤ n → f c = lN (spN t c (u + 1) (Hh s0 - u - 1))) → PB Γ 185 [some (.ref 0), some (.int (nI s0)), some (.int (nI i0)), some (.int (nI j0)), some (.int (nI w0)), some (.int (nI (Hh s0))), some (.long (lN (rrO n (Hh s0) i0 j0 u))), none, some (.int (nI u)), some (.int (nI t)), w10, w11] [] (mkH 20 (mdF (nI n) (nI P) (nI S) (sd) xod xkn xhs xmm xln xot (f) xnx xch xaf xfa xgr xfo xco xtsr xtsz xce xmv xtc (nI ra))) := by
                    refine pb_loop j0 (fun t ht ihA f w10 w11 hf => ?_)
                    by_cases htj : t < j0
                    · have ihA := ihA htj
                      have kk : ∀ (f : Nat → Int64) (w11 : Option Value), (∀ c, c ≤ n → f c = lN (spN (t + 1) c (u + 1) (Hh s0 - u - 1))) → PB Γ 281 [some (.ref 0), some (.int (nI s0)), some (.int (nI i0)), some (.int (nI j0)), some (.int (nI w0)), some (.int (nI (Hh s0))), some (.long (lN (rrO n (Hh s0) i0 j0 u))), none, some (.int (nI u)), some (.int (nI t)), some (.int (nI (u + 1))), w11] [] (mkH 20 (mdF (nI n) (nI P) (nI S) (sd) xod xkn xhs xmm xln xot (f) xnx xch xaf xfa xgr xfo xco xtsr xtsz xce xmv xtc (nI ra))) := by
                        intro f w11 hf
                        first | refine pb_iinc9N g dX8_place_281 (by decide) ?_ | refine pb_iinc9 g dX8_place_281 (by decide) rfl ?_
                        refine pb_goto g 185 dX8_place_284 (by decide) ?_
                        exact ihA _ _ _ hf
                      have inn := inner t (u + 1) (fun c => spN t c (u + 1) (Hh s0 - u - 1)) (fun c => spN (t + 1) c (u + 1) (Hh s0 - u - 1)) (by omega) (sp_s0 t (u + 1) (Hh s0 - u - 1)) (fun c hc => sp_ss (by omega) (by omega)) kk (n + 1) (Nat.le_refl _) f (fun b hb => hf b (by omega)) (fun b hb1 hb2 => absurd hb1 (by omega))
                      rw [show nI (n + 1) - nI 1 = nI n from nI_pred n] at inn
                      refine pb_iload9 g dX8_place_185 ?_
                      refine pb_aload_n0 g dX8_place_187 ?_
                      refine pb_getf g fX8_7 dX8_place_188 mr_o rfl ?_
                      first | refine pb_icmp_geN g 287 dX8_place_191 (by decide) (by omega) (by omega) (fun c191 => ?_) (fun c191 => ?_) | refine pb_icmp_ge g 287 dX8_place_191 (by decide) (fun c191 => ?_) (fun c191 => ?_)
                      · exact absurd c191 (by omega)
                      · refine pb_iload9 g dX8_place_194 ?_
                        refine pb_iload_n3 g dX8_place_196 ?_
                        first | refine pb_icmp_neN g 203 dX8_place_197 (by decide) (by omega) (by omega) (fun c197 => ?_) (fun c197 => ?_) | refine pb_icmp_ne g 203 dX8_place_197 (by decide) (fun c197 => ?_) (fun c197 => ?_)
                        · refine pb_iload9 g dX8_place_203 ?_
                          refine pb_iload_n3 g dX8_place_205 ?_
                          first | refine pb_icmp_geN g 216 dX8_place_206 (by decide) (by omega) (by omega) (fun c206 => ?_) (fun c206 => ?_) | refine pb_icmp_ge g 216 dX8_place_206 (by decide) (fun c206 => ?_) (fun c206 => ?_)
                          · exact absurd c206 (by omega)
                          · refine pb_iload8 g dX8_place_209 ?_
                            refine pb_iconst (v := nI 1) g dX8_place_211 (by decide) ?_
                            first | refine pb_iaddN g dX8_place_212 ?_ | refine pb_iadd g dX8_place_212 ?_
                            refine pb_goto g 218 dX8_place_213 (by decide) ?_
                            refine pb_istore10 g dX8_place_218 (by decide) ?_
                            refine pb_aload_n0 g dX8_place_220 ?_
                            refine pb_getf g fX8_7 dX8_place_221 mr_o rfl ?_
                            refine pb_istore11 g dX8_place_224 (by decide) ?_
                            exact inn
                        · exact absurd c197 (by omega)
                    · obtain rfl : t = j0 := by omega
                      have hB := loopB 0 (Nat.zero_le _) f w10 w11 (fun c hc => by rw [cv_d]; exact hf c hc)
                      refine pb_iload9 g dX8_place_185 ?_
                      refine pb_aload_n0 g dX8_place_187 ?_
                      refine pb_getf g fX8_7 dX8_place_188 mr_o rfl ?_
                      first | refine pb_icmp_geN g 287 dX8_place_191 (by decide) (by omega) (by omega) (fun c191 => ?_) (fun c191 => ?_) | refine pb_icmp_ge g 287 dX8_place_191 (by decide) (fun c191 => ?_) (fun c191 => ?_)
                      · exact absurd c191 (by omega)
                      · refine pb_iload9 g dX8_place_194 ?_
                        refine pb_iload_n3 g dX8_place_196 ?_
                        first | refine pb_icmp_neN g 203 dX8_place_197 (by decide) (by omega) (by omega) (fun c197 => ?_) (fun c197 => ?_) | refine pb_icmp_ne g 203 dX8_place_197 (by decide) (fun c197 => ?_) (fun c197 => ?_)
                        · exact absurd rfl c197
                        · refine pb_goto g 281 dX8_place_200 (by decide) ?_
                          first | refine pb_iinc9N g dX8_place_281 (by decide) ?_ | refine pb_iinc9 g dX8_place_281 (by decide) rfl ?_
                          refine pb_goto g 185 dX8_place_284 (by decide) ?_
                          exact hB
                  have init : ∀ c, c ≤ n + 1 → ∀ f : Nat → Int64, (∀ b, b < c → f b = lN (spN 0 b (u + 1) (Hh s0 - u - 1))) → PB Γ 150 [some (.ref 0), some (.int (nI s0)), some (.int (nI i0)), some (.int (nI j0)), some (.int (nI w0)), some (.int (nI (Hh s0))), some (.long (lN (rrO n (Hh s0) i0 j0 u))), none, some (.int (nI u)), some (.int (nI c)), w10, w11] [] (mkH 20 (mdF (nI n) (nI P) (nI S) (sd) xod xkn xhs xmm xln xot (f) xnx xch xaf xfa xgr xfo xco xtsr xtsz xce xmv xtc (nI ra))) := by
                    refine pb_loop (n + 1) (fun c hc ihc f hf => ?_)
                    by_cases hcn : c < n + 1
                    · have ihc := ihc hcn
                      refine pb_iload9 g dX8_place_150 ?_
                      refine pb_aload_n0 g dX8_place_152 ?_
                      refine pb_getf g fX8_7 dX8_place_153 mr_o rfl ?_
                      first | refine pb_icmp_gtN g 182 dX8_place_156 (by decide) (by omega) (by omega) (fun c156 => ?_) (fun c156 => ?_) | refine pb_icmp_gt g 182 dX8_place_156 (by decide) (fun c156 => ?_) (fun c156 => ?_)
                      · exact absurd c156 (by omega)
                      · refine pb_aload_n0 g dX8_place_159 ?_
                        refine pb_getf g fX8_32 dX8_place_160 mr_o rfl ?_
                        refine pb_iload9 g dX8_place_163 ?_
                        refine pb_iload9 g dX8_place_165 ?_
                        first | refine pb_if_neN g 174 dX8_place_167 (by decide) (by omega) (fun c167 => ?_) (fun c167 => ?_) | refine pb_if_ne g 174 dX8_place_167 (by decide) (fun c167 => ?_) (fun c167 => ?_)
                        · refine pb_lconst (v := lN 0) g dX8_place_174 rfl ?_
                          first | refine pb_lastN g dX8_place_175 (by first | exact mr_ways | exact mr_order | exact mr_kind | exact mr_heaps | exact mr_m | exact mr_line | exact mr_other | exact mr_next | exact mr_chances | exact mr_after | exact mr_far | exact mr_groups | exact mr_found | exact mr_counts | exact mr_traySort | exact mr_traySize | exact mr_cells | exact mr_moved | exact mr_traced | assumption) (by omega) (by omega) ?_ | refine pb_last g dX8_place_175 (by first | exact mr_ways | exact mr_order | exact mr_kind | exact mr_heaps | exact mr_m | exact mr_line | exact mr_other | exact mr_next | exact mr_chances | exact mr_after | exact mr_far | exact mr_groups | exact mr_found | exact mr_counts | exact mr_traySort | exact mr_traySize | exact mr_cells | exact mr_moved | exact mr_traced | assumption) (by assumption) ?_
                          first | rw [ms_ways]
                          first | refine pb_iinc9N g dX8_place_176 (by decide) ?_ | refine pb_iinc9 g dX8_place_176 (by decide) rfl ?_
                          refine pb_goto g 150 dX8_place_179 (by decide) ?_
                          exact ihc _ (upL_ext (v := fun b => lN (spN 0 b (u + 1) (Hh s0 - u - 1))) hf (by rw [sp_0]; first | rw [if_pos (by omega)] | rw [if_neg (by omega)]))
                        · refine pb_lconst (v := lN 1) g dX8_place_170 rfl ?_
                          refine pb_goto g 175 dX8_place_171 (by decide) ?_
                          first | refine pb_lastN g dX8_place_175 (by first | exact mr_ways | exact mr_order | exact mr_kind | exact mr_heaps | exact mr_m | exact mr_line | exact mr_other | exact mr_next | exact mr_chances | exact mr_after | exact mr_far | exact mr_groups | exact mr_found | exact mr_counts | exact mr_traySort | exact mr_traySize | exact mr_cells | exact mr_moved | exact mr_traced | assumption) (by omega) (by omega) ?_ | refine pb_last g dX8_place_175 (by first | exact mr_ways | exact mr_order | exact mr_kind | exact mr_heaps | exact mr_m | exact mr_line | exact mr_other | exact mr_next | exact mr_chances | exact mr_after | exact mr_far | exact mr_groups | exact mr_found | exact mr_counts | exact mr_traySort | exact mr_traySize | exact mr_cells | exact mr_moved | exact mr_traced | assumption) (by assumption) ?_
                          first | rw [ms_ways]
                          first | refine pb_iinc9N g dX8_place_176 (by decide) ?_ | refine pb_iinc9 g dX8_place_176 (by decide) rfl ?_
                          refine pb_goto g 150 dX8_place_179 (by decide) ?_
                          exact ihc _ (upL_ext (v := fun b => lN (spN 0 b (u + 1) (Hh s0 - u - 1))) hf (by rw [sp_0]; first | rw [if_pos (by omega)] | rw [if_neg (by omega)]))
                    · obtain rfl : c = n + 1 := by omega
                      refine pb_iload9 g dX8_place_150 ?_
                      refine pb_aload_n0 g dX8_place_152 ?_
                      refine pb_getf g fX8_7 dX8_place_153 mr_o rfl ?_
                      first | refine pb_icmp_gtN g 182 dX8_place_156 (by decide) (by omega) (by omega) (fun c156 => ?_) (fun c156 => ?_) | refine pb_icmp_gt g 182 dX8_place_156 (by decide) (fun c156 => ?_) (fun c156 => ?_)
                      · refine pb_iconst (v := nI 0) g dX8_place_182 (by decide) ?_
                        refine pb_istore9 g dX8_place_183 (by decide) ?_
                        exact loopA 0 (Nat.zero_le _) _ _ _ (fun c hc => hf c (by omega))
                      · exact absurd c156 (by omega)
                  refine pb_iload8 g dX8_place_140 ?_
                  refine pb_iload5 g dX8_place_142 ?_
                  first | refine pb_icmp_geN g 304 dX8_place_144 (by decide) (by omega) (by omega) (fun c144 => ?_) (fun c144 => ?_) | refine pb_icmp_ge g 304 dX8_place_144 (by decide) (fun c144 => ?_) (fun c144 => ?_)
                  · exact absurd c144 (by omega)
                  · refine pb_iconst (v := nI 0) g dX8_place_147 (by decide) ?_
                    refine pb_istore9 g dX8_place_148 (by decide) ?_
                    exact init 0 (Nat.zero_le _) _ (fun b hb => absurd hb (by omega))
                · obtain rfl : u = Hh s0 := by omega
                  refine pb_iload8 g dX8_place_140 ?_
                  refine pb_iload5 g dX8_place_142 ?_
                  first | refine pb_icmp_geN g 304 dX8_place_144 (by decide) (by omega) (by omega) (fun c144 => ?_) (fun c144 => ?_) | refine pb_icmp_ge g 304 dX8_place_144 (by decide) (fun c144 => ?_) (fun c144 => ?_)
                  · refine pb_aload_n0 g dX8_place_304 ?_
                    refine pb_lload6 g dX8_place_305 ?_
                    refine pb_iload5 g dX8_place_307 ?_
                    first | refine pb_i2lN g dX8_place_309 (by omega) ?_ | refine pb_i2l g dX8_place_309 ?_
                    refine pb_aload_n0 g dX8_place_310 ?_
                    refine pb_getf g fX8_7 dX8_place_311 mr_o rfl ?_
                    refine pb_Sl2 g qX8_145 dX8_place_314 (k + 5) (by omega) (m_power (k + 5) (Hh s0) (n) (by omega) _) (fun r314 h314 e314 => ?_)
                    obtain ⟨rfl, rfl⟩ := e314
                    refine pb_iload4 g dX8_place_317 ?_
                    refine pb_Vl3 g qX8_171 dX8_place_319 (k + 5) (by omega) mr_o (m_lowest (k + 4) _ _ w0 (by omega) (by omega) hpn0 hw0 _) (fun r319 h319 e319 => ?_)
                    obtain ⟨rfl, rfl⟩ := e319
                    refine pb_lret g z dX8_place_322 ?_
                    exact ⟨_, rfl, by rw [e], ⟨_, _, _, _, _, _, _, _, _, _, _, _, _, _, _, _, _, _, _, rfl, d1, d2, d3, d4, d5⟩⟩
                  · exact absurd c144 (by omega)
              refine pb_aload_n0 g dX8_place_0 ?_
              refine pb_iload_n1 g dX8_place_1 ?_
              refine pb_Vi1 g qX8_123 dX8_place_2 (k + 5) (by omega) mr_o (m_isShuffleT (k + 5) (by assumption) hS) (fun r2 h2 e2 => ?_)
              obtain ⟨rfl, rfl⟩ := e2
              first | refine pb_if_eqN g 43 dX8_place_5 (by decide) (by omega) (fun c5 => ?_) (fun c5 => ?_) | refine pb_if_eq g 43 dX8_place_5 (by decide) (fun c5 => ?_) (fun c5 => ?_)
              · exact absurd c5 (by decide)
              · refine pb_aload_n0 g dX8_place_8 ?_
                refine pb_iload_n1 g dX8_place_9 ?_
                refine pb_Vi1 g qX8_126 dX8_place_10 (k + 5) (by omega) mr_o (m_hasMove (k + 5) (s := s0) (K := K s0) (by omega) (d2 s0 (by assumption)).1 (hK s0 (by assumption)).1) (fun r10 h10 e10 => ?_)
                obtain ⟨rfl, rfl⟩ := e10
                rw [if_neg (by assumption)]
                first | refine pb_if_neN g 43 dX8_place_13 (by decide) (by omega) (fun c13 => ?_) (fun c13 => ?_) | refine pb_if_ne g 43 dX8_place_13 (by decide) (fun c13 => ?_) (fun c13 => ?_)
                · exact absurd c13 (by decide)
                · refine pb_aload_n0 g dX8_place_16 ?_
                  refine pb_iload_n2 g dX8_place_17 ?_
                  refine pb_Vi1 g qX8_98 dX8_place_18 (k + 5) (by omega) mr_o (m_isPlaceT (k + 5) (by assumption) hn) (fun r18 h18 e18 => ?_)
                  obtain ⟨rfl, rfl⟩ := e18
                  first | refine pb_if_eqN g 43 dX8_place_21 (by decide) (by omega) (fun c21 => ?_) (fun c21 => ?_) | refine pb_if_eq g 43 dX8_place_21 (by decide) (fun c21 => ?_) (fun c21 => ?_)
                  · exact absurd c21 (by decide)
                  · refine pb_aload_n0 g dX8_place_24 ?_
                    refine pb_iload_n3 g dX8_place_25 ?_
                    refine pb_Vi1 g qX8_98 dX8_place_26 (k + 5) (by omega) mr_o (m_isPlaceT (k + 5) (by assumption) hn) (fun r26 h26 e26 => ?_)
                    obtain ⟨rfl, rfl⟩ := e26
                    first | refine pb_if_eqN g 43 dX8_place_29 (by decide) (by omega) (fun c29 => ?_) (fun c29 => ?_) | refine pb_if_eq g 43 dX8_place_29 (by decide) (fun c29 => ?_) (fun c29 => ?_)
                    · exact absurd c29 (by decide)
                    · refine pb_iload4 g dX8_place_32 ?_
                      refine pb_if_ltN g 43 dX8_place_34 (by decide) (by omega) ?_
                      refine pb_iload4 g dX8_place_37 ?_
                      refine pb_iconst (v := nI 1) g dX8_place_39 (by decide) ?_
                      first | refine pb_icmp_leN g 47 dX8_place_40 (by decide) (by omega) (by omega) (fun c40 => ?_) (fun c40 => ?_) | refine pb_icmp_le g 47 dX8_place_40 (by decide) (fun c40 => ?_) (fun c40 => ?_)
                      · refine pb_aload_n0 g dX8_place_47 ?_
                        refine pb_getf g fX8_17 dX8_place_48 mr_o rfl ?_
                        refine pb_iload_n1 g dX8_place_51 ?_
                        first | refine pb_ialdN g dX8_place_52 (by first | exact mr_kind | exact mr_order | exact mr_heaps | exact mr_m | exact mr_line | exact mr_other | exact mr_ways | exact mr_next | exact mr_chances | exact mr_after | exact mr_far | exact mr_groups | exact mr_found | exact mr_counts | exact mr_traySort | exact mr_traySize | exact mr_cells | exact mr_moved | exact mr_traced | assumption) (by omega) (by omega) ?_ | refine pb_ald0 g dX8_place_52 (by omega) ?_ | refine pb_ald1 g dX8_place_52 (by omega) ?_ | refine pb_ald2 g dX8_place_52 (by omega) ?_ | refine pb_ald3 g dX8_place_52 (by omega) ?_ | refine pb_iald g dX8_place_52 (by first | exact mr_kind | exact mr_order | exact mr_heaps | exact mr_m | exact mr_line | exact mr_other | exact mr_ways | exact mr_next | exact mr_chances | exact mr_after | exact mr_far | exact mr_groups | exact mr_found | exact mr_counts | exact mr_traySort | exact mr_traySize | exact mr_cells | exact mr_moved | exact mr_traced | assumption) (by assumption) ?_
                        rw [(d2 s0 hs0).1]
                        refine pb_iconst (v := nI 4) g dX8_place_53 (by decide) ?_
                        first | refine pb_icmp_neN g 126 dX8_place_54 (by decide) (by omega) (by omega) (fun c54 => ?_) (fun c54 => ?_) | refine pb_icmp_ne g 126 dX8_place_54 (by decide) (fun c54 => ?_) (fun c54 => ?_)
                        · refine pb_aload_n0 g dX8_place_126 ?_
                          refine pb_getf g fX8_20 dX8_place_127 mr_o rfl ?_
                          refine pb_iload_n1 g dX8_place_130 ?_
                          first | refine pb_ialdN g dX8_place_131 (by first | exact mr_heaps | exact mr_kind | exact mr_order | exact mr_m | exact mr_line | exact mr_other | exact mr_ways | exact mr_next | exact mr_chances | exact mr_after | exact mr_far | exact mr_groups | exact mr_found | exact mr_counts | exact mr_traySort | exact mr_traySize | exact mr_cells | exact mr_moved | exact mr_traced | assumption) (by omega) (by omega) ?_ | refine pb_ald0 g dX8_place_131 (by omega) ?_ | refine pb_ald1 g dX8_place_131 (by omega) ?_ | refine pb_ald2 g dX8_place_131 (by omega) ?_ | refine pb_ald3 g dX8_place_131 (by omega) ?_ | refine pb_iald g dX8_place_131 (by first | exact mr_heaps | exact mr_kind | exact mr_order | exact mr_m | exact mr_line | exact mr_other | exact mr_ways | exact mr_next | exact mr_chances | exact mr_after | exact mr_far | exact mr_groups | exact mr_found | exact mr_counts | exact mr_traySort | exact mr_traySize | exact mr_cells | exact mr_moved | exact mr_traced | assumption) (by assumption) ?_
                          rw [(d2 s0 hs0).2.1]
                          refine pb_istore5 g dX8_place_132 (by decide) ?_
                          refine pb_lconst (v := lN 0) g dX8_place_134 rfl ?_
                          refine pb_lstore6 g dX8_place_135 (by decide) ?_
                          refine pb_iconst (v := nI 0) g dX8_place_137 (by decide) ?_
                          refine pb_istore8 g dX8_place_138 (by decide) ?_
                          exact loop 0 (Nat.zero_le _) _ _ _ _
                        · exact absurd c54 hk4
                      · exact absurd c40 (by omega)
