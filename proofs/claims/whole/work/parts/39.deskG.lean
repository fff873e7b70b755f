/-! ===== the desk: places, lots ===== -/
theorem pb_mmaxr {Γ : GT} {y : MethodName} {cc : ByteArray} {nL : Nat} {rt : Option FieldType} {k pc : Nat} {lv : List (Option Value)} {st : List Value} {h : PH} (g : GM Γ y cc nL rt k) {idx : Nat} (hC : PCS y.cls idx yJ9_max_7cf53 cJ9_max_7cf53 2 (some .int) 2) (hk : 1 ≤ k) (hdg : decode cc pc = .ok (.invokestatic idx, 3)) {x z : Int32} (kk : PB Γ (pc + 3) lv (.int (if x < z then z else x) :: st) h) (hw : (st.map fun v => v.category).sum ≤ 8 := by exact Nat.le_of_ble_eq_true rfl) : PB Γ pc lv (.int z :: .int x :: st) h := by
  obtain ⟨⟨p, l, e, R, s, m⟩, ⟨args, below, meth, c⟩, ⟨D, ta, ad, sa, A⟩, cl, sl, Z⟩ := Γ
  obtain ⟨hx, hb, hml, hr, hlk, hown, hts, hR, hK, hA, hPS, hPN⟩ := g
  intro H locs ls hP hD hS hl
  obtain ⟨⟨c1, c2, c3, c4, c5⟩, c6⟩ := hC
  exact va_mmax hx hb (hl.1.symm) hown (hts _ c2) (hts _ c6) (hts _ c3) (hts _ c1) (by omega) (by rw [pcv_sum]; omega) hR.2.2.1 hR.2.2.2 hdg (kk H locs ls hP hD hS hl)
theorem max0 {i b : Nat} (hi : i < 2 ^ 30) (hb : b < 2 ^ 30) : (if nI 0 < nI i - nI b then nI i - nI b else nI 0) = nI (i - b) := by
  by_cases h : b ≤ i
  · rw [pk_sub h]
    by_cases h0 : i - b = 0
    · rw [h0]; rfl
    · rw [if_pos ((nI_ltI (by decide) (by omega)).mpr (by omega))]
  · rw [if_neg, show i - b = 0 by omega]
    intro q
    have := pk_sneg hb (show i < b by omega)
    exact absurd (Int32.lt_trans q this) (by decide)
def spN (o t x y : Nat) : Nat := choF o t * x ^ t * y ^ (o - t)
def rrI (n a i j h : Nat) : Nat → Nat
  | 0 => 0
  | d + 1 => rrI n a i j h d + spN j (i - (n - 1 - j) + d) (h + 1) (a - h - 1) * spN (n - 1 - j) (i - (i - (n - 1 - j) + d)) h (a - h)
def rrO (n a i j : Nat) : Nat → Nat
  | 0 => 0
  | h + 1 => rrO n a i j h + rrI n a i j h (min i j + 1 - (i - (n - 1 - j)))
def tpF (n i j : Nat) : Nat := if i = 0 then 1 else if j = i then i else if j = i - 1 then n - i else 0
theorem cho9 : ∀ o, o < 10 → ∀ t, t < 11 → choF o t ≤ 2 ^ 7 := by decide +kernel
theorem spN_le {o t x y : Nat} (ho : o ≤ 9) (ht : t ≤ o) (hx : x ≤ 10) (hy : y ≤ 10) : spN o t x y ≤ 2 ^ 7 * 10 ^ o := by
  have h1 := cho9 o (by omega) t (by omega)
  have h2 : x ^ t * y ^ (o - t) ≤ 10 ^ t * 10 ^ (o - t) := Nat.mul_le_mul (Nat.pow_le_pow_left hx t) (Nat.pow_le_pow_left hy (o - t))
  rw [← Nat.pow_add, show t + (o - t) = o by omega] at h2
  rw [spN, Nat.mul_assoc]
  exact Nat.mul_le_mul h1 h2
theorem rrI_le {n a i j h : Nat} (hn : n ≤ 10) (ha : a ≤ 10) (hh : h < a) (hi : i < n) (hj : j < n) : ∀ d, d ≤ min i j + 1 - (i - (n - 1 - j)) → rrI n a i j h d ≤ d * (2 ^ 14 * 10 ^ 9)
  | 0, _ => Nat.zero_le _
  | d + 1, hd => by
    have ih := rrI_le hn ha hh hi hj d (by omega)
    have h1 := spN_le (o := j) (t := i - (n - 1 - j) + d) (x := h + 1) (y := a - h - 1) (by omega) (by omega) (by omega) (by omega)
    have h2 := spN_le (o := n - 1 - j) (t := i - (i - (n - 1 - j) + d)) (x := h) (y := a - h) (by omega) (by omega) (by omega) (by omega)
    have h3 := Nat.mul_le_mul h1 h2
    have h4 : 2 ^ 7 * 10 ^ j * (2 ^ 7 * 10 ^ (n - 1 - j)) = 2 ^ 14 * 10 ^ (n - 1) := by
      rw [show 2 ^ 14 = 2 ^ 7 * 2 ^ 7 by decide, show n - 1 = j + (n - 1 - j) by omega, Nat.pow_add, show j + (n - 1 - j) - j = n - 1 - j by omega]
      rw [Nat.mul_mul_mul_comm]
    have h5 : 10 ^ (n - 1) ≤ 10 ^ 9 := Nat.pow_le_pow_right (by decide) (by omega)
    rw [h4] at h3
    rw [rrI, Nat.succ_mul]
    have h6 : 2 ^ 14 * 10 ^ (n - 1) ≤ 2 ^ 14 * 10 ^ 9 := Nat.mul_le_mul_left _ h5
    omega
theorem rrO_le {n a i j : Nat} (hn : n ≤ 10) (ha : a ≤ 10) (hi : i < n) (hj : j < n) : ∀ h, h ≤ a → rrO n a i j h ≤ h * (10 * (2 ^ 14 * 10 ^ 9))
  | 0, _ => Nat.zero_le _
  | h + 1, hh => by
    have ih := rrO_le hn ha hi hj h (by omega)
    have h1 := rrI_le hn ha (show h < a by omega) hi hj _ (Nat.le_refl _)
    have h2 : (min i j + 1 - (i - (n - 1 - j))) * (2 ^ 14 * 10 ^ 9) ≤ 10 * (2 ^ 14 * 10 ^ 9) := Nat.mul_le_mul_right _ (by omega)
    rw [rrO, Nat.succ_mul]
    omega
def sPlace : SP → Int32 → Int32 → Int32 → Int32 → Int64
  | ((n, _, S, _), (_, _, K, Hh), _, _), s, i, j, w => match ix s S, ix i n, ix j n, ix w 2 with
    | some s, some i, some j, some w => if K s < 3 then NOL else if K s = 4 then frL (tpF n i j) n w else frL (rrO n (Hh s) i j (Hh s)) (Hh s ^ n) w
    | _, _, _, _ => NOL
set_option maxHeartbeats 4000000 in
set_option maxRecDepth 100000 in
theorem x_topLots (k : Nat) {pc sc sd ar ak an ah : Int32} {pk fr it jk : Nat → Nat → Int32} {kd hp ts tz kt : Nat → Int32} {jl : Nat → Nat → Int64} {n i j : Nat} (hi : i < n) (hj : j < n) (hn : n ≤ 10) : Runs yX7_topLotsToPlace cX7_topLotsToPlace 3 (some .int) (k) [.ref 0, .int (nI i), .int (nI j)] (mkH 52 (dkF (nI n) pc sc sd pk fr it kd hp ts tz ar ak an ah kt jk jl)) (fun o h' => ∃ r : Int32, o = some (.int r) ∧ r = nI (tpF n i j) ∧ mkH 52 (dkF (nI n) pc sc sd pk fr it kd hp ts tz ar ak an ah kt jk jl) = h') := by
  refine Runs.of (by decide) (Nat.le_of_ble_eq_true rfl) [some (.ref 0), some (.int (nI i)), some (.int (nI j))] 0 rfl (fun Γ g z => ?_)
  refine pb_iload_n1 g dX7_topLotsToPlace_0 ?_
  first | refine pb_if_neN g 6 dX7_topLotsToPlace_1 (by decide) (by omega) (fun c1 => ?_) (fun c1 => ?_) | refine pb_if_ne g 6 dX7_topLotsToPlace_1 (by decide) (fun c1 => ?_) (fun c1 => ?_)
  · refine pb_iload_n2 g dX7_topLotsToPlace_6 ?_
    refine pb_iload_n1 g dX7_topLotsToPlace_7 ?_
    first | refine pb_icmp_neN g 13 dX7_topLotsToPlace_8 (by decide) (by omega) (by omega) (fun c8 => ?_) (fun c8 => ?_) | refine pb_icmp_ne g 13 dX7_topLotsToPlace_8 (by decide) (fun c8 => ?_) (fun c8 => ?_)
    · refine pb_iload_n2 g dX7_topLotsToPlace_13 ?_
      refine pb_iload_n1 g dX7_topLotsToPlace_14 ?_
      refine pb_iconst (v := nI 1) g dX7_topLotsToPlace_15 (by decide) ?_
      first | refine pb_isubN g dX7_topLotsToPlace_16 (by omega) ?_ | refine pb_isub g dX7_topLotsToPlace_16 ?_
      first | refine pb_icmp_neN g 29 dX7_topLotsToPlace_17 (by decide) (by omega) (by omega) (fun c17 => ?_) (fun c17 => ?_) | refine pb_icmp_ne g 29 dX7_topLotsToPlace_17 (by decide) (fun c17 => ?_) (fun c17 => ?_)
      · refine pb_iconst (v := nI 0) g dX7_topLotsToPlace_29 (by decide) ?_
        refine pb_iret g z dX7_topLotsToPlace_30 ?_
        exact ⟨_, rfl, by congr 1; unfold tpF; split <;> (try split) <;> (try split) <;> omega, rfl⟩
      · refine pb_aload_n0 g dX7_topLotsToPlace_20 ?_
        refine pb_getf g fX7_33 dX7_topLotsToPlace_21 dr_o rfl ?_
        refine pb_iload_n1 g dX7_topLotsToPlace_24 ?_
        first | refine pb_isubN g dX7_topLotsToPlace_25 (by omega) ?_ | refine pb_isub g dX7_topLotsToPlace_25 ?_
        refine pb_goto g 30 dX7_topLotsToPlace_26 (by decide) ?_
        refine pb_iret g z dX7_topLotsToPlace_30 ?_
        exact ⟨_, rfl, by congr 1; unfold tpF; split <;> (try split) <;> (try split) <;> omega, rfl⟩
    · refine pb_iload_n1 g dX7_topLotsToPlace_11 ?_
      refine pb_iret g z dX7_topLotsToPlace_12 ?_
      exact ⟨_, rfl, by congr 1; unfold tpF; split <;> (try split) <;> (try split) <;> omega, rfl⟩
  · refine pb_iconst (v := nI 1) g dX7_topLotsToPlace_4 (by decide) ?_
    refine pb_iret g z dX7_topLotsToPlace_5 ?_
    exact ⟨_, rfl, by congr 1; unfold tpF; split <;> (try split) <;> (try split) <;> omega, rfl⟩
set_option maxHeartbeats 4000000 in
set_option maxRecDepth 100000 in
theorem x_riffleRows (k : Nat) {pc sc sd ar ak an ah : Int32} {pk fr it jk : Nat → Nat → Int32} {kd hp ts tz kt : Nat → Int32} {jl : Nat → Nat → Int64} {n a i j : Nat} (hi : i < n) (hj : j < n) (hn : n ≤ 10) (ha : a ≤ 10) : Runs yX7_riffleRowsToPlace cX7_riffleRowsToPlace 9 (some .long) (k + 2) [.ref 0, .int (nI a), .int (nI i), .int (nI j)] (mkH 52 (dkF (nI n) pc sc sd pk fr it kd hp ts tz ar ak an ah kt jk jl)) (fun o h' => ∃ r : Int64, o = some (.long r) ∧ r = lN (rrO n a i j a) ∧ mkH 52 (dkF (nI n) pc sc sd pk fr it kd hp ts tz ar ak an ah kt jk jl) = h') := by
  refine Runs.of (by decide) (Nat.le_of_ble_eq_true rfl) [some (.ref 0), some (.int (nI a)), some (.int (nI i)), some (.int (nI j)), none, none, none, none, none] 5 rfl (fun Γ g z => ?_)
  have loop : ∀ u, u ≤ a → ∀ w : Option Value, PB Γ 16 [some (.ref 0), some (.int (nI a)), some (.int (nI i)), some (.int (nI j)), some (.int (nI (n - 1 - j))), some (.long (lN (rrO n a i j u))), none, some (.int (nI u)), w] [] (mkH 52 (dkF (nI n) pc sc sd pk fr it kd hp ts tz ar ak an ah kt jk jl)) := by
    refine pb_loop a (fun u hu ih w => ?_)
    by_cases hua : u < a
    · have ih := ih hua
      have inner : ∀ d, d ≤ min i j + 1 - (i - (n - 1 - j)) → PB Γ 32 [some (.ref 0), some (.int (nI a)), some (.int (nI i)), some (.int (nI j)), some (.int (nI (n - 1 - j))), some (.long (lN (rrO n a i j u + rrI n a i j u d))), none, some (.int (nI u)), some (.int (nI (i - (n - 1 - j) + d)))] [] (mkH 52 (dkF (nI n) pc sc sd pk fr it kd hp ts tz ar ak an ah kt jk jl)) := by
        refine pb_loop (min i j + 1 - (i - (n - 1 - j))) (fun d hd ihd => ?_)
        by_cases hdd : d < min i j + 1 - (i - (n - 1 - j))
        · have ihd := ihd hdd
          refine pb_iload8 g dX7_riffleRowsToPlace_32 ?_
          refine pb_iload_n2 g dX7_riffleRowsToPlace_34 ?_
          refine pb_iload_n3 g dX7_riffleRowsToPlace_35 ?_
          refine pb_mmin g qX7_304 (by omega) dX7_riffleRowsToPlace_36 (by omega) (by omega) ?_
          first | refine pb_icmp_gtN g 85 dX7_riffleRowsToPlace_39 (by decide) (by omega) (by omega) (fun c39 => ?_) (fun c39 => ?_) | refine pb_icmp_gt g 85 dX7_riffleRowsToPlace_39 (by decide) (fun c39 => ?_) (fun c39 => ?_)
          · exact absurd c39 (by omega)
          · refine pb_lload5 g dX7_riffleRowsToPlace_42 ?_
            refine pb_iload_n3 g dX7_riffleRowsToPlace_44 ?_
            refine pb_iload8 g dX7_riffleRowsToPlace_45 ?_
            refine pb_iload7 g dX7_riffleRowsToPlace_47 ?_
            refine pb_iconst (v := nI 1) g dX7_riffleRowsToPlace_49 (by decide) ?_
            first | refine pb_iaddN g dX7_riffleRowsToPlace_50 ?_ | refine pb_iadd g dX7_riffleRowsToPlace_50 ?_
            refine pb_iload_n1 g dX7_riffleRowsToPlace_51 ?_
            refine pb_iload7 g dX7_riffleRowsToPlace_52 ?_
            first | refine pb_isubN g dX7_riffleRowsToPlace_54 (by omega) ?_ | refine pb_isub g dX7_riffleRowsToPlace_54 ?_
            refine pb_iconst (v := nI 1) g dX7_riffleRowsToPlace_55 (by decide) ?_
            first | refine pb_isubN g dX7_riffleRowsToPlace_56 (by omega) ?_ | refine pb_isub g dX7_riffleRowsToPlace_56 ?_
            refine pb_Sl4 g qX7_307 dX7_riffleRowsToPlace_57 (k + 1) (by omega) (c_splits k j (i - (n - 1 - j) + d) (u + 1) (a - u - 1) (by omega) (by omega) (by omega) (by omega) (by omega) _) (fun r57 h57 e57 => ?_)
            obtain ⟨rfl, rfl⟩ := e57
            change PB Γ _ _ (.long (lN (spN j (i - (n - 1 - j) + d) (u + 1) (a - u - 1))) :: _) _
            refine pb_iload4 g dX7_riffleRowsToPlace_60 ?_
            refine pb_iload_n2 g dX7_riffleRowsToPlace_62 ?_
            refine pb_iload8 g dX7_riffleRowsToPlace_63 ?_
            first | refine pb_isubN g dX7_riffleRowsToPlace_65 (by omega) ?_ | refine pb_isub g dX7_riffleRowsToPlace_65 ?_
            refine pb_iload7 g dX7_riffleRowsToPlace_66 ?_
            refine pb_iload_n1 g dX7_riffleRowsToPlace_68 ?_
            refine pb_iload7 g dX7_riffleRowsToPlace_69 ?_
            first | refine pb_isubN g dX7_riffleRowsToPlace_71 (by omega) ?_ | refine pb_isub g dX7_riffleRowsToPlace_71 ?_
            refine pb_Sl4 g qX7_307 dX7_riffleRowsToPlace_72 (k + 1) (by omega) (c_splits k (n - 1 - j) (i - (i - (n - 1 - j) + d)) u (a - u) (by omega) (by omega) (by omega) (by omega) (by omega) _) (fun r72 h72 e72 => ?_)
            obtain ⟨rfl, rfl⟩ := e72
            change PB Γ _ _ (.long (lN (spN (n - 1 - j) (i - (i - (n - 1 - j) + d)) u (a - u))) :: _) _
            first | refine pb_lmulN g dX7_riffleRowsToPlace_75 ?_ | refine pb_lmul g dX7_riffleRowsToPlace_75 ?_
            first | refine pb_laddN g dX7_riffleRowsToPlace_76 ?_ | refine pb_ladd g dX7_riffleRowsToPlace_76 ?_
            refine pb_lstore5 g dX7_riffleRowsToPlace_77 (by decide) ?_
            first | refine pb_iinc8N g dX7_riffleRowsToPlace_79 (by decide) ?_ | refine pb_iinc8 g dX7_riffleRowsToPlace_79 (by decide) rfl ?_
            refine pb_goto g 32 dX7_riffleRowsToPlace_82 (by decide) ?_
            rw [rrI, ← Nat.add_assoc (rrO n a i j u)] at ihd
            exact ihd
        · obtain rfl : d = min i j + 1 - (i - (n - 1 - j)) := by omega
          refine pb_iload8 g dX7_riffleRowsToPlace_32 ?_
          refine pb_iload_n2 g dX7_riffleRowsToPlace_34 ?_
          refine pb_iload_n3 g dX7_riffleRowsToPlace_35 ?_
          refine pb_mmin g qX7_304 (by omega) dX7_riffleRowsToPlace_36 (by omega) (by omega) ?_
          first | refine pb_icmp_gtN g 85 dX7_riffleRowsToPlace_39 (by decide) (by omega) (by omega) (fun c39 => ?_) (fun c39 => ?_) | refine pb_icmp_gt g 85 dX7_riffleRowsToPlace_39 (by decide) (fun c39 => ?_) (fun c39 => ?_)
          · first | refine pb_iinc7N g dX7_riffleRowsToPlace_85 (by decide) ?_ | refine pb_iinc7 g dX7_riffleRowsToPlace_85 (by decide) rfl ?_
            refine pb_goto g 16 dX7_riffleRowsToPlace_88 (by decide) ?_
            exact ih _
          · exact absurd c39 (by omega)
      refine pb_iload7 g dX7_riffleRowsToPlace_16 ?_
      refine pb_iload_n1 g dX7_riffleRowsToPlace_18 ?_
      first | refine pb_icmp_geN g 91 dX7_riffleRowsToPlace_19 (by decide) (by omega) (by omega) (fun c19 => ?_) (fun c19 => ?_) | refine pb_icmp_ge g 91 dX7_riffleRowsToPlace_19 (by decide) (fun c19 => ?_) (fun c19 => ?_)
      · exact absurd c19 (by omega)
      · refine pb_iconst (v := nI 0) g dX7_riffleRowsToPlace_22 (by decide) ?_
        refine pb_iload_n2 g dX7_riffleRowsToPlace_23 ?_
        refine pb_iload4 g dX7_riffleRowsToPlace_24 ?_
        refine pb_isub g dX7_riffleRowsToPlace_26 ?_
        refine pb_mmaxr g qX7_302 (by omega) dX7_riffleRowsToPlace_27 ?_
        rw [max0 (by omega) (by omega)]
        refine pb_istore8 g dX7_riffleRowsToPlace_30 (by decide) ?_
        exact inner 0 (Nat.zero_le _)
    · obtain rfl : u = a := by omega
      refine pb_iload7 g dX7_riffleRowsToPlace_16 ?_
      refine pb_iload_n1 g dX7_riffleRowsToPlace_18 ?_
      first | refine pb_icmp_geN g 91 dX7_riffleRowsToPlace_19 (by decide) (by omega) (by omega) (fun c19 => ?_) (fun c19 => ?_) | refine pb_icmp_ge g 91 dX7_riffleRowsToPlace_19 (by decide) (fun c19 => ?_) (fun c19 => ?_)
      · refine pb_lload5 g dX7_riffleRowsToPlace_91 ?_
        refine pb_lret g z dX7_riffleRowsToPlace_93 ?_
        exact ⟨_, rfl, rfl, rfl⟩
      · exact absurd c19 (by omega)
  refine pb_aload_n0 g dX7_riffleRowsToPlace_0 ?_
  refine pb_getf g fX7_33 dX7_riffleRowsToPlace_1 dr_o rfl ?_
  refine pb_iconst (v := nI 1) g dX7_riffleRowsToPlace_4 (by decide) ?_
  first | refine pb_isubN g dX7_riffleRowsToPlace_5 (by omega) ?_ | refine pb_isub g dX7_riffleRowsToPlace_5 ?_
  refine pb_iload_n3 g dX7_riffleRowsToPlace_6 ?_
  first | refine pb_isubN g dX7_riffleRowsToPlace_7 (by omega) ?_ | refine pb_isub g dX7_riffleRowsToPlace_7 ?_
  refine pb_istore4 g dX7_riffleRowsToPlace_8 (by decide) ?_
  refine pb_lconst (v := lN 0) g dX7_riffleRowsToPlace_10 rfl ?_
  refine pb_lstore5 g dX7_riffleRowsToPlace_11 (by decide) ?_
  refine pb_iconst (v := nI 0) g dX7_riffleRowsToPlace_13 (by decide) ?_
  refine pb_istore7 g dX7_riffleRowsToPlace_14 (by decide) ?_
  exact loop 0 (Nat.zero_le _) _
set_option maxHeartbeats 4000000 in
set_option maxRecDepth 100000 in
theorem x_place (k : Nat) (q : SP) (s i j w : Int32) (h : PH) (hD : IsD q h) (hI : SI q) : Runs yX7_place cX7_place 6 (some .long) (k + 6) [.ref 0, .int s, .int i, .int j, .int w] h (fun o h' => ∃ r : Int64, o = some (.long r) ∧ r = sPlace q s i j w ∧ IsD (q) h') := by
  obtain ⟨⟨n, P, S, sd⟩, ⟨σ, μ, K, Hh⟩, ⟨ts, zz, it⟩, ⟨ra, tr⟩⟩ := q
  obtain ⟨⟨hn1, hn, hP, hS⟩, hσ, hK, hz, hra⟩ := hI
  obtain ⟨pk, fr, itd, jk, kd, hp, kt, ak, an, ah, jl, rfl, d1, d2, d3, d4⟩ := hD
  refine Runs.of (by decide) (Nat.le_of_ble_eq_true rfl) [some (.ref 0), some (.int s), some (.int i), some (.int j), some (.int w), none] 1 rfl (fun Γ g z => ?_)
  cases hs : ix s S with
  | none =>
    have e : sPlace ((n, P, S, sd), (σ, μ, K, Hh), (ts, zz, it), (ra, tr)) s i j w = NOL := by simp only [sPlace, hs]
    have hsn := ix_none (by omega) hs
    refine pb_aload_n0 g dX7_place_0 ?_
    refine pb_iload_n1 g dX7_place_1 ?_
    refine pb_Vi1 g qX7_148 dX7_place_2 (k + 5) (by omega) dr_o (x_isShuffleF (k + 5) (by assumption) hS) (fun r2 h2 e2 => ?_)
    obtain ⟨rfl, rfl⟩ := e2
    first | refine pb_if_eqN g 32 dX7_place_5 (by decide) (by omega) (fun c5 => ?_) (fun c5 => ?_) | refine pb_if_eq g 32 dX7_place_5 (by decide) (fun c5 => ?_) (fun c5 => ?_)
    · refine pb_ldc2w (w := (-4611686018427387904)) g kX7_193 (by decide) dX7_place_32 ?_
      refine pb_lret g z dX7_place_35 ?_
      exact ⟨_, rfl, by rw [e]; rfl, ⟨_, _, _, _, _, _, _, _, _, _, _, rfl, d1, d2, d3, d4⟩⟩
    · exact absurd c5 (by decide)
  | some s0 =>
    obtain ⟨hs0, rfl⟩ := ix_some (by omega) hs
    cases hi : ix i n with
    | none =>
      have e : sPlace ((n, P, S, sd), (σ, μ, K, Hh), (ts, zz, it), (ra, tr)) (nI s0) i j w = NOL := by simp only [sPlace, hs, hi]
      have hin := ix_none (by omega) hi
      refine pb_aload_n0 g dX7_place_0 ?_
      refine pb_iload_n1 g dX7_place_1 ?_
      refine pb_Vi1 g qX7_148 dX7_place_2 (k + 5) (by omega) dr_o (x_isShuffleT (k + 5) (by assumption) hS) (fun r2 h2 e2 => ?_)
      obtain ⟨rfl, rfl⟩ := e2
      first | refine pb_if_eqN g 32 dX7_place_5 (by decide) (by omega) (fun c5 => ?_) (fun c5 => ?_) | refine pb_if_eq g 32 dX7_place_5 (by decide) (fun c5 => ?_) (fun c5 => ?_)
      · exact absurd c5 (by decide)
      · refine pb_aload_n0 g dX7_place_8 ?_
        refine pb_iload_n2 g dX7_place_9 ?_
        refine pb_Vi1 g qX7_115 dX7_place_10 (k + 5) (by omega) dr_o (x_isPlaceF (k + 5) (by assumption) hn) (fun r10 h10 e10 => ?_)
        obtain ⟨rfl, rfl⟩ := e10
        first | refine pb_if_eqN g 32 dX7_place_13 (by decide) (by omega) (fun c13 => ?_) (fun c13 => ?_) | refine pb_if_eq g 32 dX7_place_13 (by decide) (fun c13 => ?_) (fun c13 => ?_)
        · refine pb_ldc2w (w := (-4611686018427387904)) g kX7_193 (by decide) dX7_place_32 ?_
          refine pb_lret g z dX7_place_35 ?_
          exact ⟨_, rfl, by rw [e]; rfl, ⟨_, _, _, _, _, _, _, _, _, _, _, rfl, d1, d2, d3, d4⟩⟩
        · exact absurd c13 (by decide)
    | some i0 =>
      obtain ⟨hi0, rfl⟩ := ix_some (by omega) hi
      cases hj : ix j n with
      | none =>
        have e : sPlace ((n, P, S, sd), (σ, μ, K, Hh), (ts, zz, it), (ra, tr)) (nI s0) (nI i0) j w = NOL := by simp only [sPlace, hs, hi, hj]
        have hjn := ix_none (by omega) hj
        refine pb_aload_n0 g dX7_place_0 ?_
        refine pb_iload_n1 g dX7_place_1 ?_
        refine pb_Vi1 g qX7_148 dX7_place_2 (k + 5) (by omega) dr_o (x_isShuffleT (k + 5) (by assumption) hS) (fun r2 h2 e2 => ?_)
        obtain ⟨rfl, rfl⟩ := e2
        first | refine pb_if_eqN g 32 dX7_place_5 (by decide) (by omega) (fun c5 => ?_) (fun c5 => ?_) | refine pb_if_eq g 32 dX7_place_5 (by decide) (fun c5 => ?_) (fun c5 => ?_)
        · exact absurd c5 (by decide)
        · refine pb_aload_n0 g dX7_place_8 ?_
          refine pb_iload_n2 g dX7_place_9 ?_
          refine pb_Vi1 g qX7_115 dX7_place_10 (k + 5) (by omega) dr_o (x_isPlaceT (k + 5) (by assumption) hn) (fun r10 h10 e10 => ?_)
          obtain ⟨rfl, rfl⟩ := e10
          first | refine pb_if_eqN g 32 dX7_place_13 (by decide) (by omega) (fun c13 => ?_) (fun c13 => ?_) | refine pb_if_eq g 32 dX7_place_13 (by decide) (fun c13 => ?_) (fun c13 => ?_)
          · exact absurd c13 (by decide)
          · refine pb_aload_n0 g dX7_place_16 ?_
            refine pb_iload_n3 g dX7_place_17 ?_
            refine pb_Vi1 g qX7_115 dX7_place_18 (k + 5) (by omega) dr_o (x_isPlaceF (k + 5) (by assumption) hn) (fun r18 h18 e18 => ?_)
            obtain ⟨rfl, rfl⟩ := e18
            first | refine pb_if_eqN g 32 dX7_place_21 (by decide) (by omega) (fun c21 => ?_) (fun c21 => ?_) | refine pb_if_eq g 32 dX7_place_21 (by decide) (fun c21 => ?_) (fun c21 => ?_)
            · refine pb_ldc2w (w := (-4611686018427387904)) g kX7_193 (by decide) dX7_place_32 ?_
              refine pb_lret g z dX7_place_35 ?_
              exact ⟨_, rfl, by rw [e]; rfl, ⟨_, _, _, _, _, _, _, _, _, _, _, rfl, d1, d2, d3, d4⟩⟩
            · exact absurd c21 (by decide)
      | some j0 =>
        obtain ⟨hj0, rfl⟩ := ix_some (by omega) hj
        cases hw : ix w 2 with
        | none =>
          have e : sPlace ((n, P, S, sd), (σ, μ, K, Hh), (ts, zz, it), (ra, tr)) (nI s0) (nI i0) (nI j0) w = NOL := by simp only [sPlace, hs, hi, hj, hw]
          have hwn := ix_none (by decide) hw
          refine pb_aload_n0 g dX7_place_0 ?_
          refine pb_iload_n1 g dX7_place_1 ?_
          refine pb_Vi1 g qX7_148 dX7_place_2 (k + 5) (by omega) dr_o (x_isShuffleT (k + 5) (by assumption) hS) (fun r2 h2 e2 => ?_)
          obtain ⟨rfl, rfl⟩ := e2
          first | refine pb_if_eqN g 32 dX7_place_5 (by decide) (by omega) (fun c5 => ?_) (fun c5 => ?_) | refine pb_if_eq g 32 dX7_place_5 (by decide) (fun c5 => ?_) (fun c5 => ?_)
          · exact absurd c5 (by decide)
          · refine pb_aload_n0 g dX7_place_8 ?_
            refine pb_iload_n2 g dX7_place_9 ?_
            refine pb_Vi1 g qX7_115 dX7_place_10 (k + 5) (by omega) dr_o (x_isPlaceT (k + 5) (by assumption) hn) (fun r10 h10 e10 => ?_)
            obtain ⟨rfl, rfl⟩ := e10
            first | refine pb_if_eqN g 32 dX7_place_13 (by decide) (by omega) (fun c13 => ?_) (fun c13 => ?_) | refine pb_if_eq g 32 dX7_place_13 (by decide) (fun c13 => ?_) (fun c13 => ?_)
            · exact absurd c13 (by decide)
            · refine pb_aload_n0 g dX7_place_16 ?_
              refine pb_iload_n3 g dX7_place_17 ?_
              refine pb_Vi1 g qX7_115 dX7_place_18 (k + 5) (by omega) dr_o (x_isPlaceT (k + 5) (by assumption) hn) (fun r18 h18 e18 => ?_)
              obtain ⟨rfl, rfl⟩ := e18
              first | refine pb_if_eqN g 32 dX7_place_21 (by decide) (by omega) (fun c21 => ?_) (fun c21 => ?_) | refine pb_if_eq g 32 dX7_place_21 (by decide) (fun c21 => ?_) (fun c21 => ?_)
              · exact absurd c21 (by decide)
              · refine pb_iload4 g dX7_place_24 ?_
                refine pb_Si1 g qX7_198 dX7_place_26 (k + 5) (by omega) (x_isPartF (k + 5) _ (by assumption) _) (fun r26 h26 e26 => ?_)
                obtain ⟨rfl, rfl⟩ := e26
                first | refine pb_if_neN g 36 dX7_place_29 (by decide) (by omega) (fun c29 => ?_) (fun c29 => ?_) | refine pb_if_ne g 36 dX7_place_29 (by decide) (fun c29 => ?_) (fun c29 => ?_)
                · exact absurd c29 (by decide)
                · refine pb_ldc2w (w := (-4611686018427387904)) g kX7_193 (by decide) dX7_place_32 ?_
                  refine pb_lret g z dX7_place_35 ?_
                  exact ⟨_, rfl, by rw [e]; rfl, ⟨_, _, _, _, _, _, _, _, _, _, _, rfl, d1, d2, d3, d4⟩⟩
        | some w0 =>
          obtain ⟨hw0, rfl⟩ := ix_some (by decide) hw
          have hKs := hK s0 hs0
          by_cases h3 : K s0 < 3
          · have e : sPlace ((n, P, S, sd), (σ, μ, K, Hh), (ts, zz, it), (ra, tr)) (nI s0) (nI i0) (nI j0) (nI w0) = NOL := by simp only [sPlace, hs, hi, hj, hw, if_pos h3]
            refine pb_aload_n0 g dX7_place_0 ?_
            refine pb_iload_n1 g dX7_place_1 ?_
            refine pb_Vi1 g qX7_148 dX7_place_2 (k + 5) (by omega) dr_o (x_isShuffleT (k + 5) (by assumption) hS) (fun r2 h2 e2 => ?_)
            obtain ⟨rfl, rfl⟩ := e2
            first | refine pb_if_eqN g 32 dX7_place_5 (by decide) (by omega) (fun c5 => ?_) (fun c5 => ?_) | refine pb_if_eq g 32 dX7_place_5 (by decide) (fun c5 => ?_) (fun c5 => ?_)
            · exact absurd c5 (by decide)
            · refine pb_aload_n0 g dX7_place_8 ?_
              refine pb_iload_n2 g dX7_place_9 ?_
              refine pb_Vi1 g qX7_115 dX7_place_10 (k + 5) (by omega) dr_o (x_isPlaceT (k + 5) (by assumption) hn) (fun r10 h10 e10 => ?_)
              obtain ⟨rfl, rfl⟩ := e10
              first | refine pb_if_eqN g 32 dX7_place_13 (by decide) (by omega) (fun c13 => ?_) (fun c13 => ?_) | refine pb_if_eq g 32 dX7_place_13 (by decide) (fun c13 => ?_) (fun c13 => ?_)
              · exact absurd c13 (by decide)
              · refine pb_aload_n0 g dX7_place_16 ?_
                refine pb_iload_n3 g dX7_place_17 ?_
                refine pb_Vi1 g qX7_115 dX7_place_18 (k + 5) (by omega) dr_o (x_isPlaceT (k + 5) (by assumption) hn) (fun r18 h18 e18 => ?_)
                obtain ⟨rfl, rfl⟩ := e18
                first | refine pb_if_eqN g 32 dX7_place_21 (by decide) (by omega) (fun c21 => ?_) (fun c21 => ?_) | refine pb_if_eq g 32 dX7_place_21 (by decide) (fun c21 => ?_) (fun c21 => ?_)
                · exact absurd c21 (by decide)
                · refine pb_iload4 g dX7_place_24 ?_
                  refine pb_Si1 g qX7_198 dX7_place_26 (k + 5) (by omega) (x_isPartT (k + 5) _ (by assumption) _) (fun r26 h26 e26 => ?_)
                  obtain ⟨rfl, rfl⟩ := e26
                  first | refine pb_if_neN g 36 dX7_place_29 (by decide) (by omega) (fun c29 => ?_) (fun c29 => ?_) | refine pb_if_ne g 36 dX7_place_29 (by decide) (fun c29 => ?_) (fun c29 => ?_)
                  · refine pb_aload_n0 g dX7_place_36 ?_
                    refine pb_getf g fX7_16 dX7_place_37 dr_o rfl ?_
                    refine pb_iload_n1 g dX7_place_40 ?_
                    refine pb_aaldN g dX7_place_41 dr_shs (by decide) (by omega) (by omega) (by rfl) ?_
                    refine pb_astore5 g dX7_place_42 (by decide) ?_
                    refine pb_aload5 g dX7_place_44 ?_
                    refine pb_Vi0 g qX7_151 dX7_place_46 (k + 5) (by omega) (dr_sh (by omega)) (x_hasMove (k + 5) (s := s0) (K := K s0) (by omega) (d2 s0 (by assumption)).1 (hK s0 (by assumption)).1) (fun r46 h46 e46 => ?_)
                    obtain ⟨rfl, rfl⟩ := e46
                    rw [if_pos (by assumption)]
                    first | refine pb_if_eqN g 56 dX7_place_49 (by decide) (by omega) (fun c49 => ?_) (fun c49 => ?_) | refine pb_if_eq g 56 dX7_place_49 (by decide) (fun c49 => ?_) (fun c49 => ?_)
                    · exact absurd c49 (by decide)
                    · refine pb_ldc2w (w := (-4611686018427387904)) g kX7_193 (by decide) dX7_place_52 ?_
                      refine pb_lret g z dX7_place_55 ?_
                      exact ⟨_, rfl, by rw [e]; rfl, ⟨_, _, _, _, _, _, _, _, _, _, _, rfl, d1, d2, d3, d4⟩⟩
                  · exact absurd c29 (by decide)
          · by_cases h4 : K s0 = 4
            · have e : sPlace ((n, P, S, sd), (σ, μ, K, Hh), (ts, zz, it), (ra, tr)) (nI s0) (nI i0) (nI j0) (nI w0) = frL (tpF n i0 j0) n w0 := by simp only [sPlace, hs, hi, hj, hw, if_neg h3, if_pos h4]
              have ht : tpF n i0 j0 ≤ 10 := by unfold tpF; split <;> (try split) <;> (try split) <;> omega
              refine pb_aload_n0 g dX7_place_0 ?_
              refine pb_iload_n1 g dX7_place_1 ?_
              refine pb_Vi1 g qX7_148 dX7_place_2 (k + 5) (by omega) dr_o (x_isShuffleT (k + 5) (by assumption) hS) (fun r2 h2 e2 => ?_)
              obtain ⟨rfl, rfl⟩ := e2
              first | refine pb_if_eqN g 32 dX7_place_5 (by decide) (by omega) (fun c5 => ?_) (fun c5 => ?_) | refine pb_if_eq g 32 dX7_place_5 (by decide) (fun c5 => ?_) (fun c5 => ?_)
              · exact absurd c5 (by decide)
              · refine pb_aload_n0 g dX7_place_8 ?_
                refine pb_iload_n2 g dX7_place_9 ?_
                refine pb_Vi1 g qX7_115 dX7_place_10 (k + 5) (by omega) dr_o (x_isPlaceT (k + 5) (by assumption) hn) (fun r10 h10 e10 => ?_)
                obtain ⟨rfl, rfl⟩ := e10
                first | refine pb_if_eqN g 32 dX7_place_13 (by decide) (by omega) (fun c13 => ?_) (fun c13 => ?_) | refine pb_if_eq g 32 dX7_place_13 (by decide) (fun c13 => ?_) (fun c13 => ?_)
                · exact absurd c13 (by decide)
                · refine pb_aload_n0 g dX7_place_16 ?_
                  refine pb_iload_n3 g dX7_place_17 ?_
                  refine pb_Vi1 g qX7_115 dX7_place_18 (k + 5) (by omega) dr_o (x_isPlaceT (k + 5) (by assumption) hn) (fun r18 h18 e18 => ?_)
                  obtain ⟨rfl, rfl⟩ := e18
                  first | refine pb_if_eqN g 32 dX7_place_21 (by decide) (by omega) (fun c21 => ?_) (fun c21 => ?_) | refine pb_if_eq g 32 dX7_place_21 (by decide) (fun c21 => ?_) (fun c21 => ?_)
                  · exact absurd c21 (by decide)
                  · refine pb_iload4 g dX7_place_24 ?_
                    refine pb_Si1 g qX7_198 dX7_place_26 (k + 5) (by omega) (x_isPartT (k + 5) _ (by assumption) _) (fun r26 h26 e26 => ?_)
                    obtain ⟨rfl, rfl⟩ := e26
                    first | refine pb_if_neN g 36 dX7_place_29 (by decide) (by omega) (fun c29 => ?_) (fun c29 => ?_) | refine pb_if_ne g 36 dX7_place_29 (by decide) (fun c29 => ?_) (fun c29 => ?_)
                    · refine pb_aload_n0 g dX7_place_36 ?_
                      refine pb_getf g fX7_16 dX7_place_37 dr_o rfl ?_
                      refine pb_iload_n1 g dX7_place_40 ?_
                      refine pb_aaldN g dX7_place_41 dr_shs (by decide) (by omega) (by omega) (by rfl) ?_
                      refine pb_astore5 g dX7_place_42 (by decide) ?_
                      refine pb_aload5 g dX7_place_44 ?_
                      refine pb_Vi0 g qX7_151 dX7_place_46 (k + 5) (by omega) (dr_sh (by omega)) (x_hasMove (k + 5) (s := s0) (K := K s0) (by omega) (d2 s0 (by assumption)).1 (hK s0 (by assumption)).1) (fun r46 h46 e46 => ?_)
                      obtain ⟨rfl, rfl⟩ := e46
                      rw [if_neg (by assumption)]
                      first | refine pb_if_eqN g 56 dX7_place_49 (by decide) (by omega) (fun c49 => ?_) (fun c49 => ?_) | refine pb_if_eq g 56 dX7_place_49 (by decide) (fun c49 => ?_) (fun c49 => ?_)
                      · refine pb_aload5 g dX7_place_56 ?_
                        refine pb_getf g fX7_158 dX7_place_58 (dr_sh (by omega)) rfl ?_
                        rw [(d2 s0 hs0).1]
                        refine pb_iconst (v := nI 4) g dX7_place_61 (by decide) ?_
                        first | refine pb_icmp_neN g 83 dX7_place_62 (by decide) (by omega) (by omega) (fun c62 => ?_) (fun c62 => ?_) | refine pb_icmp_ne g 83 dX7_place_62 (by decide) (fun c62 => ?_) (fun c62 => ?_)
                        · exact absurd h4 c62
                        · refine pb_aload_n0 g dX7_place_65 ?_
                          refine pb_iload_n2 g dX7_place_66 ?_
                          refine pb_iload_n3 g dX7_place_67 ?_
                          refine pb_Vi2 g qX7_221 dX7_place_68 (k + 5) (by omega) dr_o (x_topLots (k + 5) (n := n) (i := i0) (j := j0) hi0 hj0 hn) (fun r68 h68 e68 => ?_)
                          obtain ⟨rfl, rfl⟩ := e68
                          first | refine pb_i2lN g dX7_place_71 (by omega) ?_ | refine pb_i2l g dX7_place_71 ?_
                          refine pb_aload_n0 g dX7_place_72 ?_
                          refine pb_getf g fX7_33 dX7_place_73 dr_o rfl ?_
                          first | refine pb_i2lN g dX7_place_76 (by omega) ?_ | refine pb_i2l g dX7_place_76 ?_
                          refine pb_iload4 g dX7_place_77 ?_
                          refine pb_Sl3 g qX7_217 dX7_place_79 (k + 5) (by omega) (c_part (k + 3) _ _ w0 (by omega) (by omega) (by omega) hw0 _) (fun r79 h79 e79 => ?_)
                          obtain ⟨rfl, rfl⟩ := e79
                          refine pb_lret g z dX7_place_82 ?_
                          exact ⟨_, rfl, by rw [e]; rfl, ⟨_, _, _, _, _, _, _, _, _, _, _, rfl, d1, d2, d3, d4⟩⟩
                      · exact absurd c49 (by decide)
                    · exact absurd c29 (by decide)
            · have e : sPlace ((n, P, S, sd), (σ, μ, K, Hh), (ts, zz, it), (ra, tr)) (nI s0) (nI i0) (nI j0) (nI w0) = frL (rrO n (Hh s0) i0 j0 (Hh s0)) (Hh s0 ^ n) w0 := by simp only [sPlace, hs, hi, hj, hw, if_neg h3, if_neg h4]
              have hr := rrO_le hn hKs.2.2.1 hi0 hj0 (Hh s0) (Nat.le_refl _)
              have hr2 : Hh s0 * (10 * (2 ^ 14 * 10 ^ 9)) ≤ 10 * (10 * (2 ^ 14 * 10 ^ 9)) := Nat.mul_le_mul_right _ hKs.2.2.1
              have hp1 : Hh s0 ^ n ≤ 10 ^ 10 := Nat.le_trans (Nat.pow_le_pow_left hKs.2.2.1 n) (Nat.pow_le_pow_right (by decide) hn)
              have hp2 : 0 < Hh s0 ^ n := Nat.pow_pos (by omega)
              refine pb_aload_n0 g dX7_place_0 ?_
              refine pb_iload_n1 g dX7_place_1 ?_
              refine pb_Vi1 g qX7_148 dX7_place_2 (k + 5) (by omega) dr_o (x_isShuffleT (k + 5) (by assumption) hS) (fun r2 h2 e2 => ?_)
              obtain ⟨rfl, rfl⟩ := e2
              first | refine pb_if_eqN g 32 dX7_place_5 (by decide) (by omega) (fun c5 => ?_) (fun c5 => ?_) | refine pb_if_eq g 32 dX7_place_5 (by decide) (fun c5 => ?_) (fun c5 => ?_)
              · exact absurd c5 (by decide)
              · refine pb_aload_n0 g dX7_place_8 ?_
                refine pb_iload_n2 g dX7_place_9 ?_
                refine pb_Vi1 g qX7_115 dX7_place_10 (k + 5) (by omega) dr_o (x_isPlaceT (k + 5) (by assumption) hn) (fun r10 h10 e10 => ?_)
                obtain ⟨rfl, rfl⟩ := e10
                first | refine pb_if_eqN g 32 dX7_place_13 (by decide) (by omega) (fun c13 => ?_) (fun c13 => ?_) | refine pb_if_eq g 32 dX7_place_13 (by decide) (fun c13 => ?_) (fun c13 => ?_)
                · exact absurd c13 (by decide)
                · refine pb_aload_n0 g dX7_place_16 ?_
                  refine pb_iload_n3 g dX7_place_17 ?_
                  refine pb_Vi1 g qX7_115 dX7_place_18 (k + 5) (by omega) dr_o (x_isPlaceT (k + 5) (by assumption) hn) (fun r18 h18 e18 => ?_)
                  obtain ⟨rfl, rfl⟩ := e18
                  first | refine pb_if_eqN g 32 dX7_place_21 (by decide) (by omega) (fun c21 => ?_) (fun c21 => ?_) | refine pb_if_eq g 32 dX7_place_21 (by decide) (fun c21 => ?_) (fun c21 => ?_)
                  · exact absurd c21 (by decide)
                  · refine pb_iload4 g dX7_place_24 ?_
                    refine pb_Si1 g qX7_198 dX7_place_26 (k + 5) (by omega) (x_isPartT (k + 5) _ (by assumption) _) (fun r26 h26 e26 => ?_)
                    obtain ⟨rfl, rfl⟩ := e26
                    first | refine pb_if_neN g 36 dX7_place_29 (by decide) (by omega) (fun c29 => ?_) (fun c29 => ?_) | refine pb_if_ne g 36 dX7_place_29 (by decide) (fun c29 => ?_) (fun c29 => ?_)
                    · refine pb_aload_n0 g dX7_place_36 ?_
                      refine pb_getf g fX7_16 dX7_place_37 dr_o rfl ?_
                      refine pb_iload_n1 g dX7_place_40 ?_
                      refine pb_aaldN g dX7_place_41 dr_shs (by decide) (by omega) (by omega) (by rfl) ?_
                      refine pb_astore5 g dX7_place_42 (by decide) ?_
                      refine pb_aload5 g dX7_place_44 ?_
                      refine pb_Vi0 g qX7_151 dX7_place_46 (k + 5) (by omega) (dr_sh (by omega)) (x_hasMove (k + 5) (s := s0) (K := K s0) (by omega) (d2 s0 (by assumption)).1 (hK s0 (by assumption)).1) (fun r46 h46 e46 => ?_)
                      obtain ⟨rfl, rfl⟩ := e46
                      rw [if_neg (by assumption)]
                      first | refine pb_if_eqN g 56 dX7_place_49 (by decide) (by omega) (fun c49 => ?_) (fun c49 => ?_) | refine pb_if_eq g 56 dX7_place_49 (by decide) (fun c49 => ?_) (fun c49 => ?_)
                      · refine pb_aload5 g dX7_place_56 ?_
                        refine pb_getf g fX7_158 dX7_place_58 (dr_sh (by omega)) rfl ?_
                        rw [(d2 s0 hs0).1]
                        refine pb_iconst (v := nI 4) g dX7_place_61 (by decide) ?_
                        first | refine pb_icmp_neN g 83 dX7_place_62 (by decide) (by omega) (by omega) (fun c62 => ?_) (fun c62 => ?_) | refine pb_icmp_ne g 83 dX7_place_62 (by decide) (fun c62 => ?_) (fun c62 => ?_)
                        · refine pb_aload_n0 g dX7_place_83 ?_
                          refine pb_aload5 g dX7_place_84 ?_
                          refine pb_getf g fX7_161 dX7_place_86 (dr_sh (by omega)) rfl ?_
                          rw [(d2 s0 hs0).2.1]
                          refine pb_iload_n2 g dX7_place_89 ?_
                          refine pb_iload_n3 g dX7_place_90 ?_
                          refine pb_Vl3 g qX7_224 dX7_place_91 (k + 5) (by omega) dr_o (x_riffleRows (k + 3) (n := n) (a := Hh s0) (i := i0) (j := j0) hi0 hj0 hn hKs.2.2.1) (fun r91 h91 e91 => ?_)
                          obtain ⟨rfl, rfl⟩ := e91
                          refine pb_aload5 g dX7_place_94 ?_
                          refine pb_getf g fX7_161 dX7_place_96 (dr_sh (by omega)) rfl ?_
                          rw [(d2 s0 hs0).2.1]
                          first | refine pb_i2lN g dX7_place_99 (by omega) ?_ | refine pb_i2l g dX7_place_99 ?_
                          refine pb_aload_n0 g dX7_place_100 ?_
                          refine pb_getf g fX7_33 dX7_place_101 dr_o rfl ?_
                          refine pb_Sl2 g qX7_183 dX7_place_104 (k + 5) (by omega) (c_raised (k + 5) (Hh s0) n (by omega) _) (fun r104 h104 e104 => ?_)
                          obtain ⟨rfl, rfl⟩ := e104
                          refine pb_iload4 g dX7_place_107 ?_
                          refine pb_Sl3 g qX7_217 dX7_place_109 (k + 5) (by omega) (c_part (k + 3) _ _ w0 (by omega) (by omega) hp2 hw0 _) (fun r109 h109 e109 => ?_)
                          obtain ⟨rfl, rfl⟩ := e109
                          refine pb_lret g z dX7_place_112 ?_
                          exact ⟨_, rfl, by rw [e]; rfl, ⟨_, _, _, _, _, _, _, _, _, _, _, rfl, d1, d2, d3, d4⟩⟩
                        · exact absurd c62 h4
                      · exact absurd c49 (by decide)
                    · exact absurd c29 (by decide)
