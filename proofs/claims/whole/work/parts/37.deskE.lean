/-! ===== the desk: numbers ===== -/
def NOL : Int64 := -4611686018427387904
def hcB (n K a k : Nat) : Bool := decide (3 ≤ K) && (if K = 4 then decide (n ≤ 6) else decide (a ^ k ≤ 10))
def hcX (n K a : Nat) (x : Int32) : Bool := match ix x 7 with
  | none => false
  | some k => hcB n K a k
def lotN (K n : Nat) : Nat := if K = 4 then 1 else n
def stS (k lv : Nat) : Nat → Nat
  | 0 => 0
  | d + 1 => stS k lv d + stir k (lv + d)
def lvF (n K : Nat) (o : Nat → Nat) : Nat := if K = 4 then lsL (bkN o n) (n - 1) else rnL (bkN o n) (n - 1) - 1
def rwF (n K a k lv : Nat) : Nat := if K = 4 then stS k lv (n + 1 - lv) else choF (a ^ k + n - 1 - lv) n
def allF (n K a k : Nat) : Nat := a ^ (k * lotN K n)
def ctF (n K l : Nat) : Nat := if K = 4 then upF n l - loF n l else eu n l
def fL (ct rw : Nat → Nat) (A B : Nat) : Nat → Nat
  | 0 => 0
  | l + 1 => fL ct rw A B l + ct l * (rw l * B - A + (A - rw l * B))
def farF (n K a k : Nat) : Nat := fL (ctF n K) (rwF n K a k) (allF n K a k) (fac n) n
def ulL (r : Nat) : Nat → Nat
  | 0 => 1
  | i + 1 => ulL r i * (r - i)
/-- a fraction in lowest terms: what stands above, or below, the line -/
def frL (a b w : Nat) : Int64 := lN ((if w = 0 then a else b) / Nat.gcd a b)
def sRuns : SP → Int32 → Int64
  | ((n, _, _, _), _, _, _), r => if r < nI 1 ∨ nI n < r then NOL else lN (eu n (r.toNatClampNeg - 1))
def sLeads : SP → Int32 → Int32 → Int32
  | ((n, _, _, _), _, _, _), i, j => match ix i n, ix j n with
    | some i, some j => if n % 2 = 1 then -3 else nI (shF n i j).log2
    | _, _ => -2
def sLead : SP → Int32 → Int32 → Int32 → Int32
  | ((n, _, _, _), _, _, _), i, j, x => match ix i n, ix j n with
    | some i, some j => if n % 2 = 1 then -3 else match ix x (shF n i j).log2 with
      | none => -1
      | some c => nI (shF n i j / 2 ^ ((shF n i j).log2 - 1 - c) % 2)
    | _, _ => -2
def gpF (n : Nat) : Nat := [0, 2, 8, 24, 24, 1920].getD (n / 2) 0
def sGroup : SP → Int32
  | ((n, _, _, _), _, _, _) => if n % 2 = 1 then -3 else nI (gpF n)
def sChance : SP → Int32 → Int32 → Int32 → Int32 → Int64
  | ((n, P, S, _), (σ, _, K, Hh), _, _), s, x, p, w => match ix s S, ix p P, ix w 2 with
    | some s, some p, some w => match ix x 7 with
      | none => NOL
      | some k => if hcB n (K s) (Hh s) k then frL (rwF n (K s) (Hh s) k (lvF n (K s) (σ p))) (allF n (K s) (Hh s) k) w else NOL
    | _, _, _ => NOL
def sFar : SP → Int32 → Int32 → Int32 → Int64
  | ((n, _, S, _), (_, _, K, Hh), _, _), s, x, w => match ix s S, ix w 2 with
    | some s, some w => match ix x 7 with
      | none => NOL
      | some k => if hcB n (K s) (Hh s) k then frL (farF n (K s) (Hh s) k) (2 * allF n (K s) (Hh s) k * fac n) w else NOL
    | _, _ => NOL
def sUnlike : SP → Int32 → Int32 → Int32 → Int64
  | ((n, _, S, _), (_, _, K, Hh), _, _), s, x, w => match ix s S, ix w 2 with
    | some s, some w => match ix x 7 with
      | none => NOL
      | some k => if hcB n (K s) (Hh s) k ∧ K s = 3 then frL (ulL (Hh s ^ k) n) ((Hh s ^ k) ^ n) w else NOL
    | _, _ => NOL
theorem gp_at : ∀ n, n < 11 → (psV 1).getD (n / 2) 0 = nI (gpF n) := by decide
theorem ul_lt : ∀ r, r < 11 → ∀ n, n < 11 → ulL r n < 2 ^ 63 := by decide +kernel
theorem cho_lt : ∀ o, o < 21 → ∀ t, t < 11 → choF o t < 2 ^ 20 := by decide +kernel
theorem stS_lt : ∀ k, k < 7 → ∀ lv, lv < 7 → ∀ d, d < 8 → stS k lv d < 2 ^ 20 := by decide +kernel
theorem far4_lt : ∀ n, n < 7 → ∀ k, k < 7 → fL (fun l => upF n l - loF n l) (fun lv => stS k lv (n + 1 - lv)) (n ^ k) (fac n) n < 2 ^ 63 := by decide +kernel
theorem far3_lt : ∀ n, n < 11 → ∀ r, r < 11 → fL (eu n) (fun lv => choF (r + n - 1 - lv) n) (r ^ n) (fac n) n < 2 ^ 63 := by decide +kernel
theorem hcB_4 {n a k : Nat} (h : hcB n 4 a k = true) : n ≤ 6 := by
  simpa [hcB] using h
theorem hcB_3 {n K a k : Nat} (hK : K < 5) (hne : ¬ K = 4) (h : hcB n K a k = true) : K = 3 ∧ a ^ k ≤ 10 := by
  simp [hcB, hne] at h
  exact ⟨by omega, h.2⟩
theorem pow_10 {a k : Nat} (ha : a ≤ 10) (hk : k ≤ 6) : a ^ k ≤ 10 ^ 6 := Nat.le_trans (Nat.pow_le_pow_left ha k) (Nat.pow_le_pow_right (by decide) hk)
theorem fL_congr {c c' r r' : Nat → Nat} {A B : Nat} : ∀ n, (∀ l, l < n → c l = c' l ∧ r l = r' l) → fL c r A B n = fL c' r' A B n
  | 0, _ => rfl
  | n + 1, h => by
    rw [fL, fL, fL_congr n (fun l hl => h l (by omega)), (h n (by omega)).1, (h n (by omega)).2]
theorem lsL_le (p : Nat → Nat) : ∀ l, lsL p l ≤ l
  | 0 => Nat.le_refl 0
  | l + 1 => by
    unfold lsL
    split
    · exact Nat.le_trans (lsL_le p l) (by omega)
    · exact Nat.le_refl _
theorem rnL_bd (p : Nat → Nat) : ∀ c, 1 ≤ rnL p c ∧ rnL p c ≤ c + 1
  | 0 => ⟨Nat.le_refl 1, Nat.le_refl 1⟩
  | c + 1 => by
    have := rnL_bd p c
    unfold rnL
    split <;> omega
theorem lvF_lt {n K : Nat} {o : Nat → Nat} (hn : 1 ≤ n) : lvF n K o < n := by
  unfold lvF
  have h1 := lsL_le (bkN o n) (n - 1)
  have h2 := rnL_bd (bkN o n) (n - 1)
  split <;> omega
/-- what is needed of all numbers where a shuffle has chances -/
theorem hc_facts {n K a k : Nat} (hn1 : 1 ≤ n) (hn : n ≤ 10) (hK : K < 5) (ha1 : 1 ≤ a) (ha : a ≤ 10) (ha4 : K = 4 → a = n) (hk : k < 7) (h : hcB n K a k = true) :
    (0 < allF n K a k ∧ allF n K a k ≤ 10 ^ 10) ∧ (∀ lv, lv < n → rwF n K a k lv < 2 ^ 20) ∧ farF n K a k < 2 ^ 63 := by
  by_cases h4 : K = 4
  · subst h4
    have hn6 := hcB_4 h
    have han := ha4 rfl
    subst han
    have e1 : allF a 4 a k = a ^ k := by rw [allF, lotN, if_pos rfl, Nat.mul_one]
    refine ⟨?_, fun lv hlv => ?_, ?_⟩
    · rw [e1]
      exact ⟨Nat.pow_pos (by omega), Nat.le_trans (pow_10 (by omega) (by omega)) (by decide)⟩
    · rw [rwF, if_pos rfl]
      exact stS_lt k hk lv (by omega) _ (by omega)
    · have := far4_lt a (by omega) k hk
      rw [farF, e1, fL_congr (c' := fun l => upF a l - loF a l) (r' := fun lv => stS k lv (a + 1 - lv)) a (fun l _ => ⟨by rw [ctF, if_pos rfl], by rw [rwF, if_pos rfl]⟩)]
      exact this
  · obtain ⟨h3, hr⟩ := hcB_3 hK h4 h
    have e1 : allF n K a k = (a ^ k) ^ n := by rw [allF, lotN, if_neg h4, Nat.pow_mul]
    have hr0 : 0 < a ^ k := Nat.pow_pos (by omega)
    refine ⟨?_, fun lv hlv => ?_, ?_⟩
    · rw [e1]
      exact ⟨Nat.pow_pos hr0, Nat.le_trans (Nat.pow_le_pow_left hr n) (Nat.pow_le_pow_right (by decide) hn)⟩
    · rw [rwF, if_neg h4]
      exact cho_lt _ (by omega) n (by omega)
    · have := far3_lt n (by omega) (a ^ k) (by omega)
      rw [farF, e1, fL_congr (c' := eu n) (r' := fun lv => choF (a ^ k + n - 1 - lv) n) n (fun l _ => ⟨by rw [ctF, if_neg h4], by rw [rwF, if_neg h4]⟩)]
      exact this
theorem abs_lN {A B : Nat} (hA : A < 2 ^ 62) (hB : B < 2 ^ 62) : (if 0 < lN A - lN B then lN A - lN B else -(lN A - lN B)) = lN (A - B + (B - A)) := by
  by_cases h : B ≤ A
  · rw [lN_sub h]
    by_cases h0 : A = B
    · subst h0
      rw [Nat.sub_self]
      rfl
    · rw [if_pos (show (0 : Int64) < lN (A - B) from (pk_lLT (a := 0) (by decide) (by omega)).mpr (by omega))]
      congr 1
      omega
  · have e : -(lN A - lN B) = lN B - lN A := by rw [Int64.neg_sub]
    have hneg : ¬ 0 < lN A - lN B := by
      rw [Int64.lt_iff_toInt_lt, Int64.toInt_sub, pk_lT (by omega), pk_lT (by omega), Int.bmod_eq_of_le (by omega) (by omega)]
      show ¬ (0 : Int) < _
      omega
    rw [if_neg hneg, e, lN_sub (by omega)]
    congr 1
    omega
set_option maxHeartbeats 4000000 in
set_option maxRecDepth 100000 in
theorem x_runs (k : Nat) (q : SP) (rr : Int32) (h : PH) (hD : IsD q h) (hI : SI q) : Runs yX7_runs cX7_runs 2 (some .long) (k + 6) [.ref 0, .int rr] h (fun o h' => ∃ r : Int64, o = some (.long r) ∧ r = sRuns q rr ∧ IsD (q) h') := by
  obtain ⟨⟨n, P, S, sd⟩, ⟨σ, μ, K, Hh⟩, ⟨ts, zz, it⟩, ⟨ra, tr⟩⟩ := q
  obtain ⟨⟨hn1, hn, hP, hS⟩, hσ, hK, hz, hra⟩ := hI
  obtain ⟨pk, fr, itd, jk, kd, hp, kt, ak, an, ah, jl, rfl, d1, d2, d3, d4⟩ := hD
  refine Runs.of (by decide) (Nat.le_of_ble_eq_true rfl) [some (.ref 0), some (.int rr)] 0 rfl (fun Γ g z => ?_)
  by_cases hb : rr < nI 1 ∨ nI n < rr
  · have e : sRuns ((n, P, S, sd), (σ, μ, K, Hh), (ts, zz, it), (ra, tr)) rr = NOL := if_pos hb
    refine pb_iload_n1 g dX7_runs_0 ?_
    refine pb_iconst (v := nI 1) g dX7_runs_1 (by decide) ?_
    first | refine pb_icmp_ltN g 13 dX7_runs_2 (by decide) (by omega) (by omega) (fun c2 => ?_) (fun c2 => ?_) | refine pb_icmp_lt g 13 dX7_runs_2 (by decide) (fun c2 => ?_) (fun c2 => ?_)
    · refine pb_ldc2w (w := (-4611686018427387904)) g kX7_193 (by decide) dX7_runs_13 ?_
      refine pb_lret g z dX7_runs_16 ?_
      exact ⟨_, rfl, by rw [e]; rfl, ⟨_, _, _, _, _, _, _, _, _, _, _, rfl, d1, d2, d3, d4⟩⟩
    · refine pb_iload_n1 g dX7_runs_5 ?_
      refine pb_aload_n0 g dX7_runs_6 ?_
      refine pb_getf g fX7_33 dX7_runs_7 dr_o rfl ?_
      first | refine pb_icmp_leN g 17 dX7_runs_10 (by decide) (by omega) (by omega) (fun c10 => ?_) (fun c10 => ?_) | refine pb_icmp_le g 17 dX7_runs_10 (by decide) (fun c10 => ?_) (fun c10 => ?_)
      · exact absurd hb (fun q => q.elim c2 (fun w => absurd c10 (Int32.not_le.mpr w)))
      · refine pb_ldc2w (w := (-4611686018427387904)) g kX7_193 (by decide) dX7_runs_13 ?_
        refine pb_lret g z dX7_runs_16 ?_
        exact ⟨_, rfl, by rw [e]; rfl, ⟨_, _, _, _, _, _, _, _, _, _, _, rfl, d1, d2, d3, d4⟩⟩
  · have e : sRuns ((n, P, S, sd), (σ, μ, K, Hh), (ts, zz, it), (ra, tr)) rr = lN (eu n (rr.toNatClampNeg - 1)) := if_neg hb
    obtain ⟨m, hm1, hm2, rfl⟩ := rng (by omega) (by decide) hb
    rw [nI_clamp (by omega)] at e
    refine pb_iload_n1 g dX7_runs_0 ?_
    refine pb_iconst (v := nI 1) g dX7_runs_1 (by decide) ?_
    first | refine pb_icmp_ltN g 13 dX7_runs_2 (by decide) (by omega) (by omega) (fun c2 => ?_) (fun c2 => ?_) | refine pb_icmp_lt g 13 dX7_runs_2 (by decide) (fun c2 => ?_) (fun c2 => ?_)
    · exact absurd c2 (by omega)
    · refine pb_iload_n1 g dX7_runs_5 ?_
      refine pb_aload_n0 g dX7_runs_6 ?_
      refine pb_getf g fX7_33 dX7_runs_7 dr_o rfl ?_
      first | refine pb_icmp_leN g 17 dX7_runs_10 (by decide) (by omega) (by omega) (fun c10 => ?_) (fun c10 => ?_) | refine pb_icmp_le g 17 dX7_runs_10 (by decide) (fun c10 => ?_) (fun c10 => ?_)
      · refine pb_aload_n0 g dX7_runs_17 ?_
        refine pb_getf g fX7_59 dX7_runs_18 dr_o rfl ?_
        refine pb_aload_n0 g dX7_runs_21 ?_
        refine pb_getf g fX7_33 dX7_runs_22 dr_o rfl ?_
        refine pb_Sv2 g qX7_244 dX7_runs_25 (k + 5) (by omega) (c_setRunCounts (k + 5) n 50 hn hn1 (jl 0) _ dr_lc) (fun h25 e25 => ?_)
        obtain ⟨f9, rfl, hf9⟩ := e25
        rw [ds_lc]
        refine pb_aload_n0 g dX7_runs_28 ?_
        refine pb_getf g fX7_59 dX7_runs_29 dr_o rfl ?_
        refine pb_iload_n1 g dX7_runs_32 ?_
        refine pb_iconst (v := nI 1) g dX7_runs_33 (by decide) ?_
        first | refine pb_isubN g dX7_runs_34 (by omega) ?_ | refine pb_isub g dX7_runs_34 ?_
        first | refine pb_laldN g dX7_runs_35 (by first | exact dr_lc | exact dr_pk (by omega) | exact dr_fr (by omega) | exact dr_it (by omega) | exact dr_kt | exact dr_bf | exact dr_pl | exact dr_lr | exact dr_nh | exact dr_bl | assumption) (by omega) (by omega) ?_ | refine pb_lald g dX7_runs_35 (by first | exact dr_lc | exact dr_pk (by omega) | exact dr_fr (by omega) | exact dr_it (by omega) | exact dr_kt | exact dr_bf | exact dr_pl | exact dr_lr | exact dr_nh | exact dr_bl | assumption) (by assumption) ?_
        rw [va_upS, hf9 (m - 1) (by omega)]
        refine pb_lret g z dX7_runs_36 ?_
        exact ⟨_, rfl, by rw [e], ⟨_, _, _, _, _, _, _, _, _, _, _, rfl, d1, d2, d3, d4⟩⟩
      · exact absurd c10 (by omega)
set_option maxHeartbeats 4000000 in
set_option maxRecDepth 100000 in
theorem x_leads (k : Nat) (q : SP) (i j : Int32) (h : PH) (hD : IsD q h) (hI : SI q) : Runs yX7_leads cX7_leads 3 (some .int) (k + 6) [.ref 0, .int i, .int j] h (fun o h' => ∃ r : Int32, o = some (.int r) ∧ r = sLeads q i j ∧ IsD (q) h') := by
  obtain ⟨⟨n, P, S, sd⟩, ⟨σ, μ, K, Hh⟩, ⟨ts, zz, it⟩, ⟨ra, tr⟩⟩ := q
  obtain ⟨⟨hn1, hn, hP, hS⟩, hσ, hK, hz, hra⟩ := hI
  obtain ⟨pk, fr, itd, jk, kd, hp, kt, ak, an, ah, jl, rfl, d1, d2, d3, d4⟩ := hD
  refine Runs.of (by decide) (Nat.le_of_ble_eq_true rfl) [some (.ref 0), some (.int i), some (.int j)] 0 rfl (fun Γ g z => ?_)
  cases hi : ix i n with
  | none =>
    have e : sLeads ((n, P, S, sd), (σ, μ, K, Hh), (ts, zz, it), (ra, tr)) i j = -2 := by simp only [sLeads, hi]
    have hin := ix_none (by omega) hi
    refine pb_aload_n0 g dX7_leads_0 ?_
    refine pb_iload_n1 g dX7_leads_1 ?_
    refine pb_Vi1 g qX7_115 dX7_leads_2 (k + 5) (by omega) dr_o (x_isPlaceF (k + 5) (by assumption) hn) (fun r2 h2 e2 => ?_)
    obtain ⟨rfl, rfl⟩ := e2
    first | refine pb_if_eqN g 16 dX7_leads_5 (by decide) (by omega) (fun c5 => ?_) (fun c5 => ?_) | refine pb_if_eq g 16 dX7_leads_5 (by decide) (fun c5 => ?_) (fun c5 => ?_)
    · refine pb_bipush (v := -2) g dX7_leads_16 (by decide) ?_
      refine pb_iret g z dX7_leads_18 ?_
      exact ⟨_, rfl, by rw [e], ⟨_, _, _, _, _, _, _, _, _, _, _, rfl, d1, d2, d3, d4⟩⟩
    · exact absurd c5 (by decide)
  | some i0 =>
    obtain ⟨hi0, rfl⟩ := ix_some (by omega) hi
    cases hj : ix j n with
    | none =>
      have e : sLeads ((n, P, S, sd), (σ, μ, K, Hh), (ts, zz, it), (ra, tr)) (nI i0) j = -2 := by simp only [sLeads, hi, hj]
      have hjn := ix_none (by omega) hj
      refine pb_aload_n0 g dX7_leads_0 ?_
      refine pb_iload_n1 g dX7_leads_1 ?_
      refine pb_Vi1 g qX7_115 dX7_leads_2 (k + 5) (by omega) dr_o (x_isPlaceT (k + 5) (by assumption) hn) (fun r2 h2 e2 => ?_)
      obtain ⟨rfl, rfl⟩ := e2
      first | refine pb_if_eqN g 16 dX7_leads_5 (by decide) (by omega) (fun c5 => ?_) (fun c5 => ?_) | refine pb_if_eq g 16 dX7_leads_5 (by decide) (fun c5 => ?_) (fun c5 => ?_)
      · exact absurd c5 (by decide)
      · refine pb_aload_n0 g dX7_leads_8 ?_
        refine pb_iload_n2 g dX7_leads_9 ?_
        refine pb_Vi1 g qX7_115 dX7_leads_10 (k + 5) (by omega) dr_o (x_isPlaceF (k + 5) (by assumption) hn) (fun r10 h10 e10 => ?_)
        obtain ⟨rfl, rfl⟩ := e10
        first | refine pb_if_neN g 19 dX7_leads_13 (by decide) (by omega) (fun c13 => ?_) (fun c13 => ?_) | refine pb_if_ne g 19 dX7_leads_13 (by decide) (fun c13 => ?_) (fun c13 => ?_)
        · exact absurd c13 (by decide)
        · refine pb_bipush (v := -2) g dX7_leads_16 (by decide) ?_
          refine pb_iret g z dX7_leads_18 ?_
          exact ⟨_, rfl, by rw [e], ⟨_, _, _, _, _, _, _, _, _, _, _, rfl, d1, d2, d3, d4⟩⟩
    | some j0 =>
      obtain ⟨hj0, rfl⟩ := ix_some (by omega) hj
      by_cases hodd : n % 2 = 1
      · have e : sLeads ((n, P, S, sd), (σ, μ, K, Hh), (ts, zz, it), (ra, tr)) (nI i0) (nI j0) = -3 := by simp only [sLeads, hi, hj, if_pos hodd]
        refine pb_aload_n0 g dX7_leads_0 ?_
        refine pb_iload_n1 g dX7_leads_1 ?_
        refine pb_Vi1 g qX7_115 dX7_leads_2 (k + 5) (by omega) dr_o (x_isPlaceT (k + 5) (by assumption) hn) (fun r2 h2 e2 => ?_)
        obtain ⟨rfl, rfl⟩ := e2
        first | refine pb_if_eqN g 16 dX7_leads_5 (by decide) (by omega) (fun c5 => ?_) (fun c5 => ?_) | refine pb_if_eq g 16 dX7_leads_5 (by decide) (fun c5 => ?_) (fun c5 => ?_)
        · exact absurd c5 (by decide)
        · refine pb_aload_n0 g dX7_leads_8 ?_
          refine pb_iload_n2 g dX7_leads_9 ?_
          refine pb_Vi1 g qX7_115 dX7_leads_10 (k + 5) (by omega) dr_o (x_isPlaceT (k + 5) (by assumption) hn) (fun r10 h10 e10 => ?_)
          obtain ⟨rfl, rfl⟩ := e10
          first | refine pb_if_neN g 19 dX7_leads_13 (by decide) (by omega) (fun c13 => ?_) (fun c13 => ?_) | refine pb_if_ne g 19 dX7_leads_13 (by decide) (fun c13 => ?_) (fun c13 => ?_)
          · refine pb_aload_n0 g dX7_leads_19 ?_
            refine pb_Vi0 g qX7_136 dX7_leads_20 (k + 5) (by omega) dr_o (x_isOdd (k + 5) hn) (fun r20 h20 e20 => ?_)
            obtain ⟨rfl, rfl⟩ := e20
            rw [show n % 2 = 1 by omega]
            first | refine pb_if_eqN g 31 dX7_leads_23 (by decide) (by omega) (fun c23 => ?_) (fun c23 => ?_) | refine pb_if_eq g 31 dX7_leads_23 (by decide) (fun c23 => ?_) (fun c23 => ?_)
            · exact absurd c23 (by decide)
            · refine pb_bipush (v := -3) g dX7_leads_26 (by decide) ?_
              refine pb_goto g 43 dX7_leads_28 (by decide) ?_
              refine pb_iret g z dX7_leads_43 ?_
              exact ⟨_, rfl, by rw [e], ⟨_, _, _, _, _, _, _, _, _, _, _, rfl, d1, d2, d3, d4⟩⟩
          · exact absurd c13 (by decide)
      · have e : sLeads ((n, P, S, sd), (σ, μ, K, Hh), (ts, zz, it), (ra, tr)) (nI i0) (nI j0) = nI (shF n i0 j0).log2 := by simp only [sLeads, hi, hj, if_neg hodd]
        obtain ⟨hw1, hw2⟩ := shL_bd n i0 j0 31 1 (by decide) (by decide)
        refine pb_aload_n0 g dX7_leads_0 ?_
        refine pb_iload_n1 g dX7_leads_1 ?_
        refine pb_Vi1 g qX7_115 dX7_leads_2 (k + 5) (by omega) dr_o (x_isPlaceT (k + 5) (by assumption) hn) (fun r2 h2 e2 => ?_)
        obtain ⟨rfl, rfl⟩ := e2
        first | refine pb_if_eqN g 16 dX7_leads_5 (by decide) (by omega) (fun c5 => ?_) (fun c5 => ?_) | refine pb_if_eq g 16 dX7_leads_5 (by decide) (fun c5 => ?_) (fun c5 => ?_)
        · exact absurd c5 (by decide)
        · refine pb_aload_n0 g dX7_leads_8 ?_
          refine pb_iload_n2 g dX7_leads_9 ?_
          refine pb_Vi1 g qX7_115 dX7_leads_10 (k + 5) (by omega) dr_o (x_isPlaceT (k + 5) (by assumption) hn) (fun r10 h10 e10 => ?_)
          obtain ⟨rfl, rfl⟩ := e10
          first | refine pb_if_neN g 19 dX7_leads_13 (by decide) (by omega) (fun c13 => ?_) (fun c13 => ?_) | refine pb_if_ne g 19 dX7_leads_13 (by decide) (fun c13 => ?_) (fun c13 => ?_)
          · refine pb_aload_n0 g dX7_leads_19 ?_
            refine pb_Vi0 g qX7_136 dX7_leads_20 (k + 5) (by omega) dr_o (x_isOdd (k + 5) hn) (fun r20 h20 e20 => ?_)
            obtain ⟨rfl, rfl⟩ := e20
            rw [show n % 2 = 0 by omega]
            first | refine pb_if_eqN g 31 dX7_leads_23 (by decide) (by omega) (fun c23 => ?_) (fun c23 => ?_) | refine pb_if_eq g 31 dX7_leads_23 (by decide) (fun c23 => ?_) (fun c23 => ?_)
            · refine pb_iload_n1 g dX7_leads_31 ?_
              refine pb_iload_n2 g dX7_leads_32 ?_
              refine pb_aload_n0 g dX7_leads_33 ?_
              refine pb_getf g fX7_33 dX7_leads_34 dr_o rfl ?_
              refine pb_Si3 g qX7_248 dX7_leads_37 (k + 5) (by omega) (c_shortest (k + 2) i0 j0 n hi0 hj0 hn (by omega) _) (fun r37 h37 e37 => ?_)
              obtain ⟨rfl, rfl⟩ := e37
              refine pb_Si1 g qX7_251 dX7_leads_40 (k + 5) (by omega) (c_lengthOf (k + 4) (shF n i0 j0) hw2 hw1 _) (fun r40 h40 e40 => ?_)
              obtain ⟨rfl, rfl⟩ := e40
              refine pb_iret g z dX7_leads_43 ?_
              exact ⟨_, rfl, by rw [e], ⟨_, _, _, _, _, _, _, _, _, _, _, rfl, d1, d2, d3, d4⟩⟩
            · exact absurd c23 (by decide)
          · exact absurd c13 (by decide)
set_option maxHeartbeats 4000000 in
set_option maxRecDepth 100000 in
theorem x_lead (k : Nat) (q : SP) (i j x : Int32) (h : PH) (hD : IsD q h) (hI : SI q) : Runs yX7_lead cX7_lead 6 (some .int) (k + 6) [.ref 0, .int i, .int j, .int x] h (fun o h' => ∃ r : Int32, o = some (.int r) ∧ r = sLead q i j x ∧ IsD (q) h') := by
  obtain ⟨⟨n, P, S, sd⟩, ⟨σ, μ, K, Hh⟩, ⟨ts, zz, it⟩, ⟨ra, tr⟩⟩ := q
  obtain ⟨⟨hn1, hn, hP, hS⟩, hσ, hK, hz, hra⟩ := hI
  obtain ⟨pk, fr, itd, jk, kd, hp, kt, ak, an, ah, jl, rfl, d1, d2, d3, d4⟩ := hD
  refine Runs.of (by decide) (Nat.le_of_ble_eq_true rfl) [some (.ref 0), some (.int i), some (.int j), some (.int x), none, none] 2 rfl (fun Γ g z => ?_)
  cases hi : ix i n with
  | none =>
    have e : sLead ((n, P, S, sd), (σ, μ, K, Hh), (ts, zz, it), (ra, tr)) i j x = -2 := by simp only [sLead, hi]
    have hin := ix_none (by omega) hi
    refine pb_aload_n0 g dX7_lead_0 ?_
    refine pb_iload_n1 g dX7_lead_1 ?_
    refine pb_Vi1 g qX7_115 dX7_lead_2 (k + 5) (by omega) dr_o (x_isPlaceF (k + 5) (by assumption) hn) (fun r2 h2 e2 => ?_)
    obtain ⟨rfl, rfl⟩ := e2
    first | refine pb_if_eqN g 16 dX7_lead_5 (by decide) (by omega) (fun c5 => ?_) (fun c5 => ?_) | refine pb_if_eq g 16 dX7_lead_5 (by decide) (fun c5 => ?_) (fun c5 => ?_)
    · refine pb_bipush (v := -2) g dX7_lead_16 (by decide) ?_
      refine pb_iret g z dX7_lead_18 ?_
      exact ⟨_, rfl, by rw [e], ⟨_, _, _, _, _, _, _, _, _, _, _, rfl, d1, d2, d3, d4⟩⟩
    · exact absurd c5 (by decide)
  | some i0 =>
    obtain ⟨hi0, rfl⟩ := ix_some (by omega) hi
    cases hj : ix j n with
    | none =>
      have e : sLead ((n, P, S, sd), (σ, μ, K, Hh), (ts, zz, it), (ra, tr)) (nI i0) j x = -2 := by simp only [sLead, hi, hj]
      have hjn := ix_none (by omega) hj
      refine pb_aload_n0 g dX7_lead_0 ?_
      refine pb_iload_n1 g dX7_lead_1 ?_
      refine pb_Vi1 g qX7_115 dX7_lead_2 (k + 5) (by omega) dr_o (x_isPlaceT (k + 5) (by assumption) hn) (fun r2 h2 e2 => ?_)
      obtain ⟨rfl, rfl⟩ := e2
      first | refine pb_if_eqN g 16 dX7_lead_5 (by decide) (by omega) (fun c5 => ?_) (fun c5 => ?_) | refine pb_if_eq g 16 dX7_lead_5 (by decide) (fun c5 => ?_) (fun c5 => ?_)
      · exact absurd c5 (by decide)
      · refine pb_aload_n0 g dX7_lead_8 ?_
        refine pb_iload_n2 g dX7_lead_9 ?_
        refine pb_Vi1 g qX7_115 dX7_lead_10 (k + 5) (by omega) dr_o (x_isPlaceF (k + 5) (by assumption) hn) (fun r10 h10 e10 => ?_)
        obtain ⟨rfl, rfl⟩ := e10
        first | refine pb_if_neN g 19 dX7_lead_13 (by decide) (by omega) (fun c13 => ?_) (fun c13 => ?_) | refine pb_if_ne g 19 dX7_lead_13 (by decide) (fun c13 => ?_) (fun c13 => ?_)
        · exact absurd c13 (by decide)
        · refine pb_bipush (v := -2) g dX7_lead_16 (by decide) ?_
          refine pb_iret g z dX7_lead_18 ?_
          exact ⟨_, rfl, by rw [e], ⟨_, _, _, _, _, _, _, _, _, _, _, rfl, d1, d2, d3, d4⟩⟩
    | some j0 =>
      obtain ⟨hj0, rfl⟩ := ix_some (by omega) hj
      by_cases hodd : n % 2 = 1
      · have e : sLead ((n, P, S, sd), (σ, μ, K, Hh), (ts, zz, it), (ra, tr)) (nI i0) (nI j0) x = -3 := by simp only [sLead, hi, hj, if_pos hodd]
        refine pb_aload_n0 g dX7_lead_0 ?_
        refine pb_iload_n1 g dX7_lead_1 ?_
        refine pb_Vi1 g qX7_115 dX7_lead_2 (k + 5) (by omega) dr_o (x_isPlaceT (k + 5) (by assumption) hn) (fun r2 h2 e2 => ?_)
        obtain ⟨rfl, rfl⟩ := e2
        first | refine pb_if_eqN g 16 dX7_lead_5 (by decide) (by omega) (fun c5 => ?_) (fun c5 => ?_) | refine pb_if_eq g 16 dX7_lead_5 (by decide) (fun c5 => ?_) (fun c5 => ?_)
        · exact absurd c5 (by decide)
        · refine pb_aload_n0 g dX7_lead_8 ?_
          refine pb_iload_n2 g dX7_lead_9 ?_
          refine pb_Vi1 g qX7_115 dX7_lead_10 (k + 5) (by omega) dr_o (x_isPlaceT (k + 5) (by assumption) hn) (fun r10 h10 e10 => ?_)
          obtain ⟨rfl, rfl⟩ := e10
          first | refine pb_if_neN g 19 dX7_lead_13 (by decide) (by omega) (fun c13 => ?_) (fun c13 => ?_) | refine pb_if_ne g 19 dX7_lead_13 (by decide) (fun c13 => ?_) (fun c13 => ?_)
          · refine pb_aload_n0 g dX7_lead_19 ?_
            refine pb_Vi0 g qX7_136 dX7_lead_20 (k + 5) (by omega) dr_o (x_isOdd (k + 5) hn) (fun r20 h20 e20 => ?_)
            obtain ⟨rfl, rfl⟩ := e20
            rw [show n % 2 = 1 by omega]
            first | refine pb_if_eqN g 29 dX7_lead_23 (by decide) (by omega) (fun c23 => ?_) (fun c23 => ?_) | refine pb_if_eq g 29 dX7_lead_23 (by decide) (fun c23 => ?_) (fun c23 => ?_)
            · exact absurd c23 (by decide)
            · refine pb_bipush (v := -3) g dX7_lead_26 (by decide) ?_
              refine pb_iret g z dX7_lead_28 ?_
              exact ⟨_, rfl, by rw [e], ⟨_, _, _, _, _, _, _, _, _, _, _, rfl, d1, d2, d3, d4⟩⟩
          · exact absurd c13 (by decide)
      · obtain ⟨hw1, hw2⟩ := shL_bd n i0 j0 31 1 (by decide) (by decide)
        have h5 := log2_5 (shF n i0 j0) hw2
        have hw2 : shF n i0 j0 < 32 := hw2
        cases hx : ix x (shF n i0 j0).log2 with
        | none =>
          have e : sLead ((n, P, S, sd), (σ, μ, K, Hh), (ts, zz, it), (ra, tr)) (nI i0) (nI j0) x = -1 := by simp only [sLead, hi, hj, if_neg hodd, hx]
          have hxn := inN_not (by omega) (ix_none (by omega) hx)
          refine pb_aload_n0 g dX7_lead_0 ?_
          refine pb_iload_n1 g dX7_lead_1 ?_
          refine pb_Vi1 g qX7_115 dX7_lead_2 (k + 5) (by omega) dr_o (x_isPlaceT (k + 5) (by assumption) hn) (fun r2 h2 e2 => ?_)
          obtain ⟨rfl, rfl⟩ := e2
          first | refine pb_if_eqN g 16 dX7_lead_5 (by decide) (by omega) (fun c5 => ?_) (fun c5 => ?_) | refine pb_if_eq g 16 dX7_lead_5 (by decide) (fun c5 => ?_) (fun c5 => ?_)
          · exact absurd c5 (by decide)
          · refine pb_aload_n0 g dX7_lead_8 ?_
            refine pb_iload_n2 g dX7_lead_9 ?_
            refine pb_Vi1 g qX7_115 dX7_lead_10 (k + 5) (by omega) dr_o (x_isPlaceT (k + 5) (by assumption) hn) (fun r10 h10 e10 => ?_)
            obtain ⟨rfl, rfl⟩ := e10
            first | refine pb_if_neN g 19 dX7_lead_13 (by decide) (by omega) (fun c13 => ?_) (fun c13 => ?_) | refine pb_if_ne g 19 dX7_lead_13 (by decide) (fun c13 => ?_) (fun c13 => ?_)
            · refine pb_aload_n0 g dX7_lead_19 ?_
              refine pb_Vi0 g qX7_136 dX7_lead_20 (k + 5) (by omega) dr_o (x_isOdd (k + 5) hn) (fun r20 h20 e20 => ?_)
              obtain ⟨rfl, rfl⟩ := e20
              rw [show n % 2 = 0 by omega]
              first | refine pb_if_eqN g 29 dX7_lead_23 (by decide) (by omega) (fun c23 => ?_) (fun c23 => ?_) | refine pb_if_eq g 29 dX7_lead_23 (by decide) (fun c23 => ?_) (fun c23 => ?_)
              · refine pb_iload_n1 g dX7_lead_29 ?_
                refine pb_iload_n2 g dX7_lead_30 ?_
                refine pb_aload_n0 g dX7_lead_31 ?_
                refine pb_getf g fX7_33 dX7_lead_32 dr_o rfl ?_
                refine pb_Si3 g qX7_248 dX7_lead_35 (k + 5) (by omega) (c_shortest (k + 2) i0 j0 n hi0 hj0 hn (by omega) _) (fun r35 h35 e35 => ?_)
                obtain ⟨rfl, rfl⟩ := e35
                refine pb_istore4 g dX7_lead_38 (by decide) ?_
                refine pb_iload4 g dX7_lead_40 ?_
                refine pb_Si1 g qX7_251 dX7_lead_42 (k + 5) (by omega) (c_lengthOf (k + 4) (shF n i0 j0) hw2 hw1 _) (fun r42 h42 e42 => ?_)
                obtain ⟨rfl, rfl⟩ := e42
                refine pb_istore5 g dX7_lead_45 (by decide) ?_
                refine pb_iload_n3 g dX7_lead_47 ?_
                refine pb_if_lt g 57 dX7_lead_48 (by decide) (fun c48 => ?_) (fun c48 => ?_)
                · refine pb_iconst (v := -1) g dX7_lead_57 (by decide) ?_
                  refine pb_goto g 72 dX7_lead_58 (by decide) ?_
                  refine pb_iret g z dX7_lead_72 ?_
                  exact ⟨_, rfl, by rw [e], ⟨_, _, _, _, _, _, _, _, _, _, _, rfl, d1, d2, d3, d4⟩⟩
                · refine pb_iload_n3 g dX7_lead_51 ?_
                  refine pb_iload5 g dX7_lead_52 ?_
                  first | refine pb_icmp_ltN g 61 dX7_lead_54 (by decide) (by omega) (by omega) (fun c54 => ?_) (fun c54 => ?_) | refine pb_icmp_lt g 61 dX7_lead_54 (by decide) (fun c54 => ?_) (fun c54 => ?_)
                  · exact absurd hxn (fun q => q.elim c48 (fun w => absurd c54 (Int32.not_lt.mpr w)))
                  · refine pb_iconst (v := -1) g dX7_lead_57 (by decide) ?_
                    refine pb_goto g 72 dX7_lead_58 (by decide) ?_
                    refine pb_iret g z dX7_lead_72 ?_
                    exact ⟨_, rfl, by rw [e], ⟨_, _, _, _, _, _, _, _, _, _, _, rfl, d1, d2, d3, d4⟩⟩
              · exact absurd c23 (by decide)
            · exact absurd c13 (by decide)
        | some c0 =>
          obtain ⟨hc0, rfl⟩ := ix_some (by omega) hx
          have e : sLead ((n, P, S, sd), (σ, μ, K, Hh), (ts, zz, it), (ra, tr)) (nI i0) (nI j0) (nI c0) = nI (shF n i0 j0 / 2 ^ ((shF n i0 j0).log2 - 1 - c0) % 2) := by simp only [sLead, hi, hj, if_neg hodd, hx]
          have hdv : shF n i0 j0 / 2 ^ ((shF n i0 j0).log2 - 1 - c0) < 2 ^ 31 := Nat.lt_of_le_of_lt (Nat.div_le_self _ _) (by omega)
          refine pb_aload_n0 g dX7_lead_0 ?_
          refine pb_iload_n1 g dX7_lead_1 ?_
          refine pb_Vi1 g qX7_115 dX7_lead_2 (k + 5) (by omega) dr_o (x_isPlaceT (k + 5) (by assumption) hn) (fun r2 h2 e2 => ?_)
          obtain ⟨rfl, rfl⟩ := e2
          first | refine pb_if_eqN g 16 dX7_lead_5 (by decide) (by omega) (fun c5 => ?_) (fun c5 => ?_) | refine pb_if_eq g 16 dX7_lead_5 (by decide) (fun c5 => ?_) (fun c5 => ?_)
          · exact absurd c5 (by decide)
          · refine pb_aload_n0 g dX7_lead_8 ?_
            refine pb_iload_n2 g dX7_lead_9 ?_
            refine pb_Vi1 g qX7_115 dX7_lead_10 (k + 5) (by omega) dr_o (x_isPlaceT (k + 5) (by assumption) hn) (fun r10 h10 e10 => ?_)
            obtain ⟨rfl, rfl⟩ := e10
            first | refine pb_if_neN g 19 dX7_lead_13 (by decide) (by omega) (fun c13 => ?_) (fun c13 => ?_) | refine pb_if_ne g 19 dX7_lead_13 (by decide) (fun c13 => ?_) (fun c13 => ?_)
            · refine pb_aload_n0 g dX7_lead_19 ?_
              refine pb_Vi0 g qX7_136 dX7_lead_20 (k + 5) (by omega) dr_o (x_isOdd (k + 5) hn) (fun r20 h20 e20 => ?_)
              obtain ⟨rfl, rfl⟩ := e20
              rw [show n % 2 = 0 by omega]
              first | refine pb_if_eqN g 29 dX7_lead_23 (by decide) (by omega) (fun c23 => ?_) (fun c23 => ?_) | refine pb_if_eq g 29 dX7_lead_23 (by decide) (fun c23 => ?_) (fun c23 => ?_)
              · refine pb_iload_n1 g dX7_lead_29 ?_
                refine pb_iload_n2 g dX7_lead_30 ?_
                refine pb_aload_n0 g dX7_lead_31 ?_
                refine pb_getf g fX7_33 dX7_lead_32 dr_o rfl ?_
                refine pb_Si3 g qX7_248 dX7_lead_35 (k + 5) (by omega) (c_shortest (k + 2) i0 j0 n hi0 hj0 hn (by omega) _) (fun r35 h35 e35 => ?_)
                obtain ⟨rfl, rfl⟩ := e35
                refine pb_istore4 g dX7_lead_38 (by decide) ?_
                refine pb_iload4 g dX7_lead_40 ?_
                refine pb_Si1 g qX7_251 dX7_lead_42 (k + 5) (by omega) (c_lengthOf (k + 4) (shF n i0 j0) hw2 hw1 _) (fun r42 h42 e42 => ?_)
                obtain ⟨rfl, rfl⟩ := e42
                refine pb_istore5 g dX7_lead_45 (by decide) ?_
                refine pb_iload_n3 g dX7_lead_47 ?_
                refine pb_if_ltN g 57 dX7_lead_48 (by decide) (by omega) ?_
                refine pb_iload_n3 g dX7_lead_51 ?_
                refine pb_iload5 g dX7_lead_52 ?_
                first | refine pb_icmp_ltN g 61 dX7_lead_54 (by decide) (by omega) (by omega) (fun c54 => ?_) (fun c54 => ?_) | refine pb_icmp_lt g 61 dX7_lead_54 (by decide) (fun c54 => ?_) (fun c54 => ?_)
                · refine pb_iload4 g dX7_lead_61 ?_
                  refine pb_iload5 g dX7_lead_63 ?_
                  refine pb_iconst (v := nI 1) g dX7_lead_65 (by decide) ?_
                  first | refine pb_isubN g dX7_lead_66 (by omega) ?_ | refine pb_isub g dX7_lead_66 ?_
                  refine pb_iload_n3 g dX7_lead_67 ?_
                  first | refine pb_isubN g dX7_lead_68 (by omega) ?_ | refine pb_isub g dX7_lead_68 ?_
                  first | refine pb_ishrN g dX7_lead_69 (by omega) (by omega) ?_ | refine pb_ishr g dX7_lead_69 ?_
                  refine pb_iconst (v := nI 1) g dX7_lead_70 (by decide) ?_
                  first | refine pb_iandN g dX7_lead_71 (by omega) ?_ | refine pb_iand g dX7_lead_71 ?_
                  refine pb_iret g z dX7_lead_72 ?_
                  exact ⟨_, rfl, by rw [e], ⟨_, _, _, _, _, _, _, _, _, _, _, rfl, d1, d2, d3, d4⟩⟩
                · exact absurd c54 (by omega)
              · exact absurd c23 (by decide)
            · exact absurd c13 (by decide)
set_option maxHeartbeats 4000000 in
set_option maxRecDepth 100000 in
theorem x_group (k : Nat) (q : SP)  (h : PH) (hD : IsD q h) (hI : SI q) : Runs yX7_group cX7_group 1 (some .int) (k + 6) [.ref 0] h (fun o h' => ∃ r : Int32, o = some (.int r) ∧ r = sGroup q ∧ IsD (q) h') := by
  obtain ⟨⟨n, P, S, sd⟩, ⟨σ, μ, K, Hh⟩, ⟨ts, zz, it⟩, ⟨ra, tr⟩⟩ := q
  obtain ⟨⟨hn1, hn, hP, hS⟩, hσ, hK, hz, hra⟩ := hI
  obtain ⟨pk, fr, itd, jk, kd, hp, kt, ak, an, ah, jl, rfl, d1, d2, d3, d4⟩ := hD
  refine Runs.of (by decide) (Nat.le_of_ble_eq_true rfl) [some (.ref 0)] 0 rfl (fun Γ g z => ?_)
  by_cases hodd : n % 2 = 1
  · have e : sGroup ((n, P, S, sd), (σ, μ, K, Hh), (ts, zz, it), (ra, tr)) = -3 := if_pos hodd
    refine pb_aload_n0 g dX7_group_0 ?_
    refine pb_Vi0 g qX7_136 dX7_group_1 (k + 5) (by omega) dr_o (x_isOdd (k + 5) hn) (fun r1 h1 e1 => ?_)
    obtain ⟨rfl, rfl⟩ := e1
    rw [show n % 2 = 1 by omega]
    first | refine pb_if_eqN g 12 dX7_group_4 (by decide) (by omega) (fun c4 => ?_) (fun c4 => ?_) | refine pb_if_eq g 12 dX7_group_4 (by decide) (fun c4 => ?_) (fun c4 => ?_)
    · exact absurd c4 (by decide)
    · refine pb_bipush (v := -3) g dX7_group_7 (by decide) ?_
      refine pb_goto g 22 dX7_group_9 (by decide) ?_
      refine pb_iret g z dX7_group_22 ?_
      exact ⟨_, rfl, by rw [e], ⟨_, _, _, _, _, _, _, _, _, _, _, rfl, d1, d2, d3, d4⟩⟩
  · have e : sGroup ((n, P, S, sd), (σ, μ, K, Hh), (ts, zz, it), (ra, tr)) = nI (gpF n) := if_neg hodd
    refine pb_aload_n0 g dX7_group_0 ?_
    refine pb_Vi0 g qX7_136 dX7_group_1 (k + 5) (by omega) dr_o (x_isOdd (k + 5) hn) (fun r1 h1 e1 => ?_)
    obtain ⟨rfl, rfl⟩ := e1
    rw [show n % 2 = 0 by omega]
    first | refine pb_if_eqN g 12 dX7_group_4 (by decide) (by omega) (fun c4 => ?_) (fun c4 => ?_) | refine pb_if_eq g 12 dX7_group_4 (by decide) (fun c4 => ?_) (fun c4 => ?_)
    · refine pb_gets g sX7_254 dX7_group_12 ?_
      refine pb_aload_n0 g dX7_group_15 ?_
      refine pb_getf g fX7_33 dX7_group_16 dr_o rfl ?_
      refine pb_iconst (v := nI 2) g dX7_group_19 (by decide) ?_
      first | refine pb_idivN g dX7_group_20 (by omega) (by omega) (by omega) ?_ | refine pb_idiv g dX7_group_20 (by assumption) ?_
      first | refine pb_ialdN g dX7_group_21 (by first | exact dr_pk (by omega) | exact dr_fr (by omega) | exact dr_it (by omega) | exact dr_kt | exact dr_bf | exact dr_pl | exact dr_lr | exact dr_nh | exact dr_lc | exact dr_bl | assumption) (by omega) (by omega) ?_ | refine pb_ald0 g dX7_group_21 (by omega) ?_ | refine pb_ald1 g dX7_group_21 (by omega) ?_ | refine pb_ald2 g dX7_group_21 (by omega) ?_ | refine pb_ald3 g dX7_group_21 (by omega) ?_ | refine pb_iald g dX7_group_21 (by first | exact dr_pk (by omega) | exact dr_fr (by omega) | exact dr_it (by omega) | exact dr_kt | exact dr_bf | exact dr_pl | exact dr_lr | exact dr_nh | exact dr_lc | exact dr_bl | assumption) (by assumption) ?_
      rw [gp_at n (by omega)]
      refine pb_iret g z dX7_group_22 ?_
      exact ⟨_, rfl, by rw [e], ⟨_, _, _, _, _, _, _, _, _, _, _, rfl, d1, d2, d3, d4⟩⟩
    · exact absurd c4 (by decide)
