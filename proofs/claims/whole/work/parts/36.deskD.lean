/-! ===== the desk: trays ===== -/
/-- m numbers from i on lie within z -/
def hdN (z : Nat) (x y : Int32) : Prop := ¬ x < 0 ∧ ¬ y < 0 ∧ x.toNatClampNeg + y.toNatClampNeg ≤ z
theorem hdN_nI {z a b : Nat} (ha : a < 2 ^ 31) (hb : b < 2 ^ 31) : hdN z (nI a) (nI b) ↔ a + b ≤ z := by
  unfold hdN
  rw [nI_clamp ha, nI_clamp hb]
  exact ⟨fun h => h.2.2, fun h => ⟨nI_pos ha, nI_pos hb, h⟩⟩
noncomputable def hdD (z : Nat) (x y : Int32) : Decidable (hdN z x y) := Classical.propDecidable _
def nar (so v : Int32) : Int32 := if so = nI 0 then v.toInt8.toInt32 else if so = nI 1 then v.toInt16.toInt32 else v
def sTray : SP → Int32 → Int32 → Int32 → Int32 × SP
  | (a, b, (ts, zz, it), d), t, so, x => match ix t 4 with
    | none => (-2, (a, b, (ts, zz, it), d))
    | some t => if so = -1 then (1, (a, b, (upd ts t (-1), va_up zz t 0, va_up it t (fun _ => 0)), d)) else match ix so 3 with
      | none => (-2, (a, b, (ts, zz, it), d))
      | some o => if nI 40 < x then (-2, (a, b, (ts, zz, it), d)) else if x < 0 then (-14, (a, b, (ts, zz, it), d)) else (1, (a, b, (upd ts t (nI o), va_up zz t x.toNatClampNeg, va_up it t (fun _ => 0)), d))
def sCell : SP → Int32 → Int32 → Int32 → Int32 × SP
  | (a, b, (ts, zz, it), d), t, i, v => match ix t 4 with
    | none => (-2, (a, b, (ts, zz, it), d))
    | some t => if ts t = -1 then (-11, (a, b, (ts, zz, it), d)) else match ix i (zz t) with
      | none => (-12, (a, b, (ts, zz, it), d))
      | some i => (1, (a, b, (ts, zz, va_up it t (upd (it t) i (nar (ts t) v))), d))
noncomputable def sCopy : SP → Int32 → Int32 → Int32 → Int32 → Int32 → Int32 × SP
  | (a, b, (ts, zz, it), d), t, i, o, j, m => match ix t 4, ix o 4 with
    | some t, some o => if ts t = -1 ∨ ts o = -1 then (-11, (a, b, (ts, zz, it), d)) else if ts t ≠ ts o then (-13, (a, b, (ts, zz, it), d)) else
      @ite _ (hdN (zz t) i m ∧ hdN (zz o) j m) (Classical.propDecidable _) (m, (a, b, (ts, zz, va_up it o (va_cpy (it t) (it o) i.toNatClampNeg j.toNatClampNeg m.toNatClampNeg)), d)) (-12, (a, b, (ts, zz, it), d))
    | _, _ => (-2, (a, b, (ts, zz, it), d))
def zF (f : Nat → Int32) : Nat → (Nat → Int32)
  | 0 => f
  | i + 1 => upd (zF f i) i (nI 0)
theorem zF_at (f : Nat → Int32) : ∀ n i, i < n → zF f n i = 0
  | 0, i, h => absurd h (by omega)
  | n + 1, i, h => by
    show upd (zF f n) n (nI 0) i = 0
    by_cases e : i = n
    · rw [upd, if_pos e]; rfl
    · rw [upd, if_neg e]
      exact zF_at f n i (by omega)
theorem upd_nI {zz : Nat → Nat} {t m : Nat} : upd (fun t => nI (zz t)) t (nI m) = fun a => nI (va_up zz t m a) := by
  funext a
  by_cases e : a = t
  · rw [upd, if_pos e, e, va_upS]
  · rw [upd, if_neg e, va_upN e]
theorem isS_congr {v w : Nat → Int32} {n : Nat} : ∀ i, (∀ j, j < i → v j = w j) → isS v n i = isS w n i
  | 0, _ => rfl
  | i + 1, h => by
    rw [isS, isS, isS_congr i (fun j hj => h j (by omega)), h i (by omega)]
theorem isS_bit (v : Nat → Int32) (n : Nat) (hn : n < 2 ^ 31) : ∀ i s, isS v n i = some s → (∀ j, j < i → v j = nI (v j).toNatClampNeg ∧ (v j).toNatClampNeg < n ∧ s.testBit (v j).toNatClampNeg = true) ∧ (∀ a b, a < i → b < i → (v a).toNatClampNeg = (v b).toNatClampNeg → a = b) := by
  intro i
  induction i with
  | zero => exact fun s _ => ⟨fun j hj => absurd hj (by omega), fun a b ha _ _ => absurd ha (by omega)⟩
  | succ i ih =>
    intro s hs
    rw [isS] at hs
    cases e : isS v n i with
    | none => rw [e] at hs; cases hs
    | some s0 =>
      rw [e] at hs
      dsimp only at hs
      obtain ⟨ih1, ih2⟩ := ih s0 e
      split at hs
      · cases hs
      · next hc =>
        cases hs
        obtain ⟨j0, hj0, he⟩ := nI_of (x := v i) (fun q => hc (Or.inl q))
        have hcl : (v i).toNatClampNeg = j0 := by rw [he]; exact nI_clamp hj0
        have hlt : j0 < n := Nat.not_le.mp fun q => hc (Or.inr (Or.inl (by rw [he]; exact nI_le q hj0)))
        have hfree : s0.testBit j0 = false := by
          rw [Nat.testBit_eq_decide_div_mod_eq]
          apply decide_eq_false
          intro q
          exact hc (Or.inr (Or.inr (by rw [hcl]; exact q)))
        rw [hcl]
        refine ⟨fun j hj => ?_, fun a b ha hb hab => ?_⟩
        · by_cases q : j = i
          · subst q
            rw [hcl]
            exact ⟨he, hlt, by rw [Nat.testBit_or, Nat.testBit_two_pow_self, Bool.or_true]⟩
          · obtain ⟨r1, r2, r3⟩ := ih1 j (by omega)
            exact ⟨r1, r2, by rw [Nat.testBit_or, r3, Bool.true_or]⟩
        · by_cases qa : a = i <;> by_cases qb : b = i
          · omega
          · exfalso
            have r3 := (ih1 b (by omega)).2.2
            rw [← hab, qa, hcl, hfree] at r3
            cases r3
          · exfalso
            have r3 := (ih1 a (by omega)).2.2
            rw [hab, qb, hcl, hfree] at r3
            cases r3
          · exact ih2 a b (by omega) (by omega) hab
theorem isS_pm {v : Nat → Int32} {n s : Nat} (hn : n < 2 ^ 31) (h : isS v n n = some s) : IsPm n (fun j => (v j).toNatClampNeg) ∧ ∀ j, j < n → v j = nI (v j).toNatClampNeg := by
  obtain ⟨h1, h2⟩ := isS_bit v n hn n s h
  exact ⟨⟨fun j hj => (h1 j hj).2.1, fun a b ha hb hab => h2 a b ha hb hab⟩, fun j hj => (h1 j hj).1⟩
theorem sub_neg {a b : Nat} (ha : a ≤ 40) (hb : b < 2 ^ 31) (h : a < b) : nI a - nI b < 0 := by
  rw [Int32.lt_iff_toInt_lt, Int32.toInt_sub, nI_toInt (by omega), nI_toInt (by omega), show (0 : Int32).toInt = 0 from by decide, Int.bmod_eq_of_le (by omega) (by omega)]
  omega
set_option maxHeartbeats 4000000 in
set_option maxRecDepth 100000 in
theorem x_isMissing (k : Nat) {cd pc sc sd ar ak an ah : Int32} {pk fr it jk : Nat → Nat → Int32} {kd hp ts tz kt : Nat → Int32} {jl : Nat → Nat → Int64} {t : Nat} (ht : t < 4) : Runs yX5_isMissing cX5_isMissing 1 (some .boolean) (k) [.ref (36 + t)] (mkH 52 (dkF cd pc sc sd pk fr it kd hp ts tz ar ak an ah kt jk jl)) (fun o h' => ∃ r : Int32, o = some (.int r) ∧ r = (if ts t = -1 then nI 1 else nI 0) ∧ mkH 52 (dkF cd pc sc sd pk fr it kd hp ts tz ar ak an ah kt jk jl) = h') := by
  refine Runs.of (by decide) (Nat.le_of_ble_eq_true rfl) [some (.ref (36 + t))] 0 rfl (fun Γ g z => ?_)
  refine pb_aload_n0 g dX5_isMissing_0 ?_
  refine pb_getf g fX5_15 dX5_isMissing_1 (dr_tr (by omega)) rfl ?_
  refine pb_iconst (v := -1) g dX5_isMissing_4 (by decide) ?_
  first | refine pb_icmp_neN g 12 dX5_isMissing_5 (by decide) (by omega) (by omega) (fun c5 => ?_) (fun c5 => ?_) | refine pb_icmp_ne g 12 dX5_isMissing_5 (by decide) (fun c5 => ?_) (fun c5 => ?_)
  · refine pb_iconst (v := nI 0) g dX5_isMissing_12 (by decide) ?_
    refine pb_zret g z dX5_isMissing_13 (by first | rfl | decide) ?_
    exact ⟨_, rfl, by first | rw [if_pos (by assumption)] | rw [if_neg (by assumption)], rfl⟩
  · refine pb_iconst (v := nI 1) g dX5_isMissing_8 (by decide) ?_
    refine pb_goto g 13 dX5_isMissing_9 (by decide) ?_
    refine pb_zret g z dX5_isMissing_13 (by first | rfl | decide) ?_
    exact ⟨_, rfl, by first | rw [if_pos (by assumption)] | rw [if_neg (by assumption)], rfl⟩
set_option maxHeartbeats 4000000 in
set_option maxRecDepth 100000 in
theorem x_holds (k : Nat) {cd pc sc sd ar ak an ah : Int32} {pk fr it jk : Nat → Nat → Int32} {kd hp ts tz kt : Nat → Int32} {jl : Nat → Nat → Int64} {t zq : Nat} {x y : Int32} (ht : t < 4) (hz : tz t = nI zq) (hz40 : zq ≤ 40) : Runs yX5_holds cX5_holds 3 (some .boolean) (k) [.ref (36 + t), .int x, .int y] (mkH 52 (dkF cd pc sc sd pk fr it kd hp ts tz ar ak an ah kt jk jl)) (fun o h' => ∃ r : Int32, o = some (.int r) ∧ r = (@ite _ (hdN zq x y) (Classical.propDecidable _) (nI 1) (nI 0)) ∧ mkH 52 (dkF cd pc sc sd pk fr it kd hp ts tz ar ak an ah kt jk jl) = h') := by
  refine Runs.of (by decide) (Nat.le_of_ble_eq_true rfl) [some (.ref (36 + t)), some (.int x), some (.int y)] 0 rfl (fun Γ g z => ?_)
  by_cases hx : x < 0
  · have hno : ¬ hdN zq x y := fun q => q.1 hx
    refine pb_iload_n1 g dX5_holds_0 ?_
    refine pb_if_lt g 22 dX5_holds_1 (by decide) (fun c1 => ?_) (fun c1 => ?_)
    · refine pb_iconst (v := nI 0) g dX5_holds_22 (by decide) ?_
      refine pb_zret g z dX5_holds_23 (by first | rfl | decide) ?_
      exact ⟨_, rfl, by rw [if_neg hno], rfl⟩
    · exact absurd hx c1
  · by_cases hy : y < 0
    · have hno : ¬ hdN zq x y := fun q => q.2.1 hy
      refine pb_iload_n1 g dX5_holds_0 ?_
      refine pb_if_lt g 22 dX5_holds_1 (by decide) (fun c1 => ?_) (fun c1 => ?_)
      · exact absurd c1 hx
      · refine pb_iload_n2 g dX5_holds_4 ?_
        refine pb_if_lt g 22 dX5_holds_5 (by decide) (fun c5 => ?_) (fun c5 => ?_)
        · refine pb_iconst (v := nI 0) g dX5_holds_22 (by decide) ?_
          refine pb_zret g z dX5_holds_23 (by first | rfl | decide) ?_
          exact ⟨_, rfl, by rw [if_neg hno], rfl⟩
        · exact absurd hy c5
    · obtain ⟨a, ha, rfl⟩ := nI_of hx
      obtain ⟨b, hb, rfl⟩ := nI_of hy
      by_cases hbz : b ≤ zq
      · by_cases hab : a + b ≤ zq
        · have hyes : hdN zq (nI a) (nI b) := (hdN_nI ha hb).mpr hab
          refine pb_iload_n1 g dX5_holds_0 ?_
          refine pb_if_ltN g 22 dX5_holds_1 (by decide) (by omega) ?_
          refine pb_iload_n2 g dX5_holds_4 ?_
          refine pb_if_ltN g 22 dX5_holds_5 (by decide) (by omega) ?_
          refine pb_iload_n1 g dX5_holds_8 ?_
          refine pb_aload_n0 g dX5_holds_9 ?_
          refine pb_getf g fX5_19 dX5_holds_10 (dr_tr (by omega)) rfl ?_
          rw [hz]
          refine pb_iload_n2 g dX5_holds_13 ?_
          first | refine pb_isubN g dX5_holds_14 (by omega) ?_ | refine pb_isub g dX5_holds_14 ?_
          first | refine pb_icmp_gtN g 22 dX5_holds_15 (by decide) (by omega) (by omega) (fun c15 => ?_) (fun c15 => ?_) | refine pb_icmp_gt g 22 dX5_holds_15 (by decide) (fun c15 => ?_) (fun c15 => ?_)
          · exact absurd c15 (by omega)
          · refine pb_iconst (v := nI 1) g dX5_holds_18 (by decide) ?_
            refine pb_goto g 23 dX5_holds_19 (by decide) ?_
            refine pb_zret g z dX5_holds_23 (by first | rfl | decide) ?_
            exact ⟨_, rfl, by rw [if_pos hyes], rfl⟩
        · have hno : ¬ hdN zq (nI a) (nI b) := fun q => hab ((hdN_nI ha hb).mp q)
          refine pb_iload_n1 g dX5_holds_0 ?_
          refine pb_if_ltN g 22 dX5_holds_1 (by decide) (by omega) ?_
          refine pb_iload_n2 g dX5_holds_4 ?_
          refine pb_if_ltN g 22 dX5_holds_5 (by decide) (by omega) ?_
          refine pb_iload_n1 g dX5_holds_8 ?_
          refine pb_aload_n0 g dX5_holds_9 ?_
          refine pb_getf g fX5_19 dX5_holds_10 (dr_tr (by omega)) rfl ?_
          rw [hz]
          refine pb_iload_n2 g dX5_holds_13 ?_
          first | refine pb_isubN g dX5_holds_14 (by omega) ?_ | refine pb_isub g dX5_holds_14 ?_
          first | refine pb_icmp_gtN g 22 dX5_holds_15 (by decide) (by omega) (by omega) (fun c15 => ?_) (fun c15 => ?_) | refine pb_icmp_gt g 22 dX5_holds_15 (by decide) (fun c15 => ?_) (fun c15 => ?_)
          · refine pb_iconst (v := nI 0) g dX5_holds_22 (by decide) ?_
            refine pb_zret g z dX5_holds_23 (by first | rfl | decide) ?_
            exact ⟨_, rfl, by rw [if_neg hno], rfl⟩
          · exact absurd c15 (by omega)
      · have hno : ¬ hdN zq (nI a) (nI b) := fun q => by have := (hdN_nI ha hb).mp q; omega
        have hlt : nI zq - nI b < nI a := Int32.lt_of_lt_of_le (sub_neg hz40 hb (by omega)) (nI_pos' ha)
        refine pb_iload_n1 g dX5_holds_0 ?_
        refine pb_if_ltN g 22 dX5_holds_1 (by decide) (by omega) ?_
        refine pb_iload_n2 g dX5_holds_4 ?_
        refine pb_if_ltN g 22 dX5_holds_5 (by decide) (by omega) ?_
        refine pb_iload_n1 g dX5_holds_8 ?_
        refine pb_aload_n0 g dX5_holds_9 ?_
        refine pb_getf g fX5_19 dX5_holds_10 (dr_tr (by omega)) rfl ?_
        rw [hz]
        refine pb_iload_n2 g dX5_holds_13 ?_
        refine pb_isub g dX5_holds_14 ?_
        first | refine pb_icmp_gtN g 22 dX5_holds_15 (by decide) (by omega) (by omega) (fun c15 => ?_) (fun c15 => ?_) | refine pb_icmp_gt g 22 dX5_holds_15 (by decide) (fun c15 => ?_) (fun c15 => ?_)
        · refine pb_iconst (v := nI 0) g dX5_holds_22 (by decide) ?_
          refine pb_zret g z dX5_holds_23 (by first | rfl | decide) ?_
          exact ⟨_, rfl, by rw [if_neg hno], rfl⟩
        · exact absurd hlt c15
set_option maxHeartbeats 4000000 in
set_option maxRecDepth 100000 in
theorem x_narrowed (k : Nat) {cd pc sc sd ar ak an ah : Int32} {pk fr it jk : Nat → Nat → Int32} {kd hp ts tz kt : Nat → Int32} {jl : Nat → Nat → Int64} {t : Nat} {v : Int32} (ht : t < 4) : Runs yX5_narrowed cX5_narrowed 2 (some .int) (k) [.ref (36 + t), .int v] (mkH 52 (dkF cd pc sc sd pk fr it kd hp ts tz ar ak an ah kt jk jl)) (fun o h' => ∃ r : Int32, o = some (.int r) ∧ r = nar (ts t) v ∧ mkH 52 (dkF cd pc sc sd pk fr it kd hp ts tz ar ak an ah kt jk jl) = h') := by
  refine Runs.of (by decide) (Nat.le_of_ble_eq_true rfl) [some (.ref (36 + t)), some (.int v)] 0 rfl (fun Γ g z => ?_)
  refine pb_aload_n0 g dX5_narrowed_0 ?_
  refine pb_getf g fX5_15 dX5_narrowed_1 (dr_tr (by omega)) rfl ?_
  first | refine pb_if_neN g 10 dX5_narrowed_4 (by decide) (by omega) (fun c4 => ?_) (fun c4 => ?_) | refine pb_if_ne g 10 dX5_narrowed_4 (by decide) (fun c4 => ?_) (fun c4 => ?_)
  · refine pb_aload_n0 g dX5_narrowed_10 ?_
    refine pb_getf g fX5_15 dX5_narrowed_11 (dr_tr (by omega)) rfl ?_
    refine pb_iconst (v := nI 1) g dX5_narrowed_14 (by decide) ?_
    first | refine pb_icmp_neN g 23 dX5_narrowed_15 (by decide) (by omega) (by omega) (fun c15 => ?_) (fun c15 => ?_) | refine pb_icmp_ne g 23 dX5_narrowed_15 (by decide) (fun c15 => ?_) (fun c15 => ?_)
    · refine pb_iload_n1 g dX5_narrowed_23 ?_
      refine pb_iret g z dX5_narrowed_24 ?_
      exact ⟨_, rfl, by first | rw [nar, if_neg (by assumption), if_pos (by assumption)] | rw [nar, if_neg (by assumption), if_neg (by assumption)], rfl⟩
    · refine pb_iload_n1 g dX5_narrowed_18 ?_
      refine pb_i2s g dX5_narrowed_19 ?_
      refine pb_goto g 24 dX5_narrowed_20 (by decide) ?_
      refine pb_iret g z dX5_narrowed_24 ?_
      exact ⟨_, rfl, by first | rw [nar, if_neg (by assumption), if_pos (by assumption)] | rw [nar, if_neg (by assumption), if_neg (by assumption)], rfl⟩
  · refine pb_iload_n1 g dX5_narrowed_7 ?_
    refine pb_i2b g dX5_narrowed_8 ?_
    refine pb_iret g z dX5_narrowed_9 ?_
    exact ⟨_, rfl, by rw [nar, if_pos (by assumption)], rfl⟩
set_option maxHeartbeats 4000000 in
set_option maxRecDepth 100000 in
theorem x_clear (k : Nat) {cd pc sc sd ar ak an ah : Int32} {pk fr it jk : Nat → Nat → Int32} {kd hp ts tz kt : Nat → Int32} {jl : Nat → Nat → Int64} {t : Nat} {x y : Int32} (ht : t < 4) : Runs yX5_clear cX5_clear 4 none (k) [.ref (36 + t), .int x, .int y] (mkH 52 (dkF cd pc sc sd pk fr it kd hp ts tz ar ak an ah kt jk jl)) (fun oo h' => oo = none ∧ mkH 52 (dkF cd pc sc sd pk fr (va_up it t (zF (it t) 40)) kd hp (upd ts t x) (upd tz t y) ar ak an ah kt jk jl) = h') := by
  refine Runs.of (by decide) (Nat.le_of_ble_eq_true rfl) [some (.ref (36 + t)), some (.int x), some (.int y), none] 1 rfl (fun Γ g z => ?_)
  have loop : ∀ i, i ≤ 40 → PB Γ 12 [some (.ref (36 + t)), some (.int x), some (.int y), some (.int (nI i))] [] (mkH 52 (dkF cd pc sc sd pk fr (va_up it t (zF (it t) i)) kd hp (upd ts t x) (upd tz t y) ar ak an ah kt jk jl)) := by
    refine pb_loop 40 (fun i hi ih => ?_)
    refine pb_iload_n3 g dX5_clear_12 ?_
    refine pb_bipush (v := nI 40) g dX5_clear_13 (by decide) ?_
    first | refine pb_icmp_geN g 31 dX5_clear_15 (by decide) (by omega) (by omega) (fun c15 => ?_) (fun c15 => ?_) | refine pb_icmp_ge g 31 dX5_clear_15 (by decide) (fun c15 => ?_) (fun c15 => ?_)
    · refine pb_vret g z dX5_clear_31 ?_
      exact ⟨rfl, by rw [show i = 40 by omega]⟩
    · refine pb_aload_n0 g dX5_clear_18 ?_
      refine pb_getf g fX5_9 dX5_clear_19 (dr_tr (by omega)) rfl ?_
      refine pb_iload_n3 g dX5_clear_22 ?_
      refine pb_iconst (v := nI 0) g dX5_clear_23 (by decide) ?_
      first | refine pb_iastN g dX5_clear_24 (by first | exact dr_it (by omega) | exact dr_pk (by omega) | exact dr_fr (by omega) | exact dr_kt | exact dr_bf | exact dr_pl | exact dr_lr | exact dr_nh | exact dr_lc | exact dr_bl | assumption) (by omega) (by omega) ?_ | refine pb_iast g dX5_clear_24 (by first | exact dr_it (by omega) | exact dr_pk (by omega) | exact dr_fr (by omega) | exact dr_kt | exact dr_bf | exact dr_pl | exact dr_lr | exact dr_nh | exact dr_lc | exact dr_bl | assumption) (by assumption) ?_
      rw [ds_it (by omega), bx_uu, va_upS]
      first | refine pb_iinc3N g dX5_clear_25 (by decide) ?_ | refine pb_iinc3 g dX5_clear_25 (by decide) rfl ?_
      refine pb_goto g 12 dX5_clear_28 (by decide) ?_
      exact ih (by omega)
  refine pb_aload_n0 g dX5_clear_0 ?_
  refine pb_iload_n1 g dX5_clear_1 ?_
  refine pb_puti g wX5_15 dX5_clear_2 (dr_tr (by omega)) (Nat.le_of_ble_eq_true rfl) ?_
  rw [ds_ts (by omega)]
  refine pb_aload_n0 g dX5_clear_5 ?_
  refine pb_iload_n2 g dX5_clear_6 ?_
  refine pb_puti g wX5_19 dX5_clear_7 (dr_tr (by omega)) (Nat.le_of_ble_eq_true rfl) ?_
  rw [ds_tz (by omega)]
  refine pb_iconst (v := nI 0) g dX5_clear_10 (by decide) ?_
  refine pb_istore_n3 g dX5_clear_11 (by decide) ?_
  have hl := loop 0 (Nat.zero_le _)
  rw [zF, vu_self] at hl
  exact hl
set_option maxHeartbeats 4000000 in
set_option maxRecDepth 100000 in
theorem x_told (k : Nat) (q : SP) (t so i : Int32) (h : PH) (hD : IsD q h) (hI : SI q) : Runs yX7_told cX7_told 5 (some .int) (k + 6) [.ref 0, .int t, .int so, .int i] h (fun o h' => ∃ r : Int32, o = some (.int r) ∧ r = (sTold q t so i).1 ∧ IsD ((sTold q t so i).2) h') := by
  obtain ⟨⟨n, P, S, sd⟩, ⟨σ, μ, K, Hh⟩, ⟨ts, zz, it⟩, ⟨ra, tr⟩⟩ := q
  obtain ⟨⟨hn1, hn, hP, hS⟩, hσ, hK, hz, hra⟩ := hI
  obtain ⟨pk, fr, itd, jk, kd, hp, kt, ak, an, ah, jl, rfl, d1, d2, d3, d4⟩ := hD
  refine Runs.of (by decide) (Nat.le_of_ble_eq_true rfl) [some (.ref 0), some (.int t), some (.int so), some (.int i), none] 1 rfl (fun Γ g z => ?_)
  cases htx : ix t 4 with
  | none =>
    have e : sTold ((n, P, S, sd), (σ, μ, K, Hh), (ts, zz, it), (ra, tr)) t so i = (-2, ((n, P, S, sd), (σ, μ, K, Hh), (ts, zz, it), (ra, tr))) := by simp only [sTold, htx]
    have htn := ix_none (by decide) htx
    refine pb_iload_n1 g dX7_told_0 ?_
    refine pb_Si1 g qX7_81 dX7_told_1 (k + 5) (by omega) (x_isTrayF (k + 5) _ (by assumption) _) (fun r1 h1 e1 => ?_)
    obtain ⟨rfl, rfl⟩ := e1
    first | refine pb_if_eqN g 14 dX7_told_4 (by decide) (by omega) (fun c4 => ?_) (fun c4 => ?_) | refine pb_if_eq g 14 dX7_told_4 (by decide) (fun c4 => ?_) (fun c4 => ?_)
    · refine pb_bipush (v := -2) g dX7_told_14 (by decide) ?_
      refine pb_iret g z dX7_told_16 ?_
      exact ⟨_, rfl, by rw [e], by rw [e]; exact ⟨_, _, _, _, _, _, _, _, _, _, _, rfl, d1, d2, d3, d4⟩⟩
    · exact absurd c4 (by decide)
  | some t0 =>
    obtain ⟨ht0, rfl⟩ := ix_some (by decide) htx
    cases hsx : ix so 3 with
    | none =>
      have e : sTold ((n, P, S, sd), (σ, μ, K, Hh), (ts, zz, it), (ra, tr)) (nI t0) so i = (-2, ((n, P, S, sd), (σ, μ, K, Hh), (ts, zz, it), (ra, tr))) := by simp only [sTold, htx, hsx]
      have hsn := ix_none (by decide) hsx
      refine pb_iload_n1 g dX7_told_0 ?_
      refine pb_Si1 g qX7_81 dX7_told_1 (k + 5) (by omega) (x_isTrayT (k + 5) _ (by assumption) _) (fun r1 h1 e1 => ?_)
      obtain ⟨rfl, rfl⟩ := e1
      first | refine pb_if_eqN g 14 dX7_told_4 (by decide) (by omega) (fun c4 => ?_) (fun c4 => ?_) | refine pb_if_eq g 14 dX7_told_4 (by decide) (fun c4 => ?_) (fun c4 => ?_)
      · exact absurd c4 (by decide)
      · refine pb_iload_n2 g dX7_told_7 ?_
        refine pb_Si1 g qX7_85 dX7_told_8 (k + 5) (by omega) (x_isSortF (k + 5) _ (by assumption) _) (fun r8 h8 e8 => ?_)
        obtain ⟨rfl, rfl⟩ := e8
        first | refine pb_if_neN g 17 dX7_told_11 (by decide) (by omega) (fun c11 => ?_) (fun c11 => ?_) | refine pb_if_ne g 17 dX7_told_11 (by decide) (fun c11 => ?_) (fun c11 => ?_)
        · exact absurd c11 (by decide)
        · refine pb_bipush (v := -2) g dX7_told_14 (by decide) ?_
          refine pb_iret g z dX7_told_16 ?_
          exact ⟨_, rfl, by rw [e], by rw [e]; exact ⟨_, _, _, _, _, _, _, _, _, _, _, rfl, d1, d2, d3, d4⟩⟩
    | some o0 =>
      obtain ⟨ho0, rfl⟩ := ix_some (by decide) hsx
      have hz40 := (hz t0 ht0).1
      by_cases hmi : ts t0 = -1
      · have e : sTold ((n, P, S, sd), (σ, μ, K, Hh), (ts, zz, it), (ra, tr)) (nI t0) (nI o0) i = (-11, ((n, P, S, sd), (σ, μ, K, Hh), (ts, zz, it), (ra, tr))) := by
          simp only [sTold, htx, hsx]
          rw [if_neg (fun z => z.1 hmi), if_pos hmi]
        refine pb_iload_n1 g dX7_told_0 ?_
        refine pb_Si1 g qX7_81 dX7_told_1 (k + 5) (by omega) (x_isTrayT (k + 5) _ (by assumption) _) (fun r1 h1 e1 => ?_)
        obtain ⟨rfl, rfl⟩ := e1
        first | refine pb_if_eqN g 14 dX7_told_4 (by decide) (by omega) (fun c4 => ?_) (fun c4 => ?_) | refine pb_if_eq g 14 dX7_told_4 (by decide) (fun c4 => ?_) (fun c4 => ?_)
        · exact absurd c4 (by decide)
        · refine pb_iload_n2 g dX7_told_7 ?_
          refine pb_Si1 g qX7_85 dX7_told_8 (k + 5) (by omega) (x_isSortT (k + 5) _ (by assumption) _) (fun r8 h8 e8 => ?_)
          obtain ⟨rfl, rfl⟩ := e8
          first | refine pb_if_neN g 17 dX7_told_11 (by decide) (by omega) (fun c11 => ?_) (fun c11 => ?_) | refine pb_if_ne g 17 dX7_told_11 (by decide) (fun c11 => ?_) (fun c11 => ?_)
          · refine pb_aload_n0 g dX7_told_17 ?_
            refine pb_getf g fX7_22 dX7_told_18 dr_o rfl ?_
            refine pb_iload_n1 g dX7_told_21 ?_
            refine pb_aaldN g dX7_told_22 dr_trs (by decide) (by omega) (by omega) (by rfl) ?_
            refine pb_astore4 g dX7_told_23 (by decide) ?_
            refine pb_aload4 g dX7_told_25 ?_
            refine pb_Vi0 g qX7_88 dX7_told_27 (k + 5) (by omega) (dr_tr (by omega)) (x_isMissing (k + 5) (t := t0) (by omega)) (fun r27 h27 e27 => ?_)
            obtain ⟨rfl, rfl⟩ := e27
            rw [if_pos (by assumption)]
            first | refine pb_if_neN g 45 dX7_told_30 (by decide) (by omega) (fun c30 => ?_) (fun c30 => ?_) | refine pb_if_ne g 45 dX7_told_30 (by decide) (fun c30 => ?_) (fun c30 => ?_)
            · refine pb_aload4 g dX7_told_45 ?_
              refine pb_Vi0 g qX7_88 dX7_told_47 (k + 5) (by omega) (dr_tr (by omega)) (x_isMissing (k + 5) (t := t0) (by omega)) (fun r47 h47 e47 => ?_)
              obtain ⟨rfl, rfl⟩ := e47
              rw [if_pos (by assumption)]
              first | refine pb_if_eqN g 56 dX7_told_50 (by decide) (by omega) (fun c50 => ?_) (fun c50 => ?_) | refine pb_if_eq g 56 dX7_told_50 (by decide) (fun c50 => ?_) (fun c50 => ?_)
              · exact absurd c50 (by decide)
              · refine pb_bipush (v := -11) g dX7_told_53 (by decide) ?_
                refine pb_iret g z dX7_told_55 ?_
                exact ⟨_, rfl, by rw [e], by rw [e]; exact ⟨_, _, _, _, _, _, _, _, _, _, _, rfl, d1, d2, d3, d4⟩⟩
            · exact absurd c30 (by decide)
          · exact absurd c11 (by decide)
      · by_cases hso : ts t0 = nI o0
        · by_cases hh : i < 0 ∨ zz t0 < i.toNatClampNeg + n
          · have e : sTold ((n, P, S, sd), (σ, μ, K, Hh), (ts, zz, it), (ra, tr)) (nI t0) (nI o0) i = (-12, ((n, P, S, sd), (σ, μ, K, Hh), (ts, zz, it), (ra, tr))) := by
              simp only [sTold, htx, hsx]
              rw [if_neg (fun z => z.2 hso), if_neg hmi, if_pos hh]
            have hno : ¬ hdN (zz t0) i (nI n) := fun q => by
              rcases hh with w | w
              · exact q.1 w
              · have := q.2.2
                rw [nI_clamp (by omega)] at this
                omega
            refine pb_iload_n1 g dX7_told_0 ?_
            refine pb_Si1 g qX7_81 dX7_told_1 (k + 5) (by omega) (x_isTrayT (k + 5) _ (by assumption) _) (fun r1 h1 e1 => ?_)
            obtain ⟨rfl, rfl⟩ := e1
            first | refine pb_if_eqN g 14 dX7_told_4 (by decide) (by omega) (fun c4 => ?_) (fun c4 => ?_) | refine pb_if_eq g 14 dX7_told_4 (by decide) (fun c4 => ?_) (fun c4 => ?_)
            · exact absurd c4 (by decide)
            · refine pb_iload_n2 g dX7_told_7 ?_
              refine pb_Si1 g qX7_85 dX7_told_8 (k + 5) (by omega) (x_isSortT (k + 5) _ (by assumption) _) (fun r8 h8 e8 => ?_)
              obtain ⟨rfl, rfl⟩ := e8
              first | refine pb_if_neN g 17 dX7_told_11 (by decide) (by omega) (fun c11 => ?_) (fun c11 => ?_) | refine pb_if_ne g 17 dX7_told_11 (by decide) (fun c11 => ?_) (fun c11 => ?_)
              · refine pb_aload_n0 g dX7_told_17 ?_
                refine pb_getf g fX7_22 dX7_told_18 dr_o rfl ?_
                refine pb_iload_n1 g dX7_told_21 ?_
                refine pb_aaldN g dX7_told_22 dr_trs (by decide) (by omega) (by omega) (by rfl) ?_
                refine pb_astore4 g dX7_told_23 (by decide) ?_
                refine pb_aload4 g dX7_told_25 ?_
                refine pb_Vi0 g qX7_88 dX7_told_27 (k + 5) (by omega) (dr_tr (by omega)) (x_isMissing (k + 5) (t := t0) (by omega)) (fun r27 h27 e27 => ?_)
                obtain ⟨rfl, rfl⟩ := e27
                rw [if_neg (by assumption)]
                first | refine pb_if_neN g 45 dX7_told_30 (by decide) (by omega) (fun c30 => ?_) (fun c30 => ?_) | refine pb_if_ne g 45 dX7_told_30 (by decide) (fun c30 => ?_) (fun c30 => ?_)
                · exact absurd c30 (by decide)
                · refine pb_aload4 g dX7_told_33 ?_
                  refine pb_getf g fX7_92 dX7_told_35 (dr_tr (by omega)) rfl ?_
                  refine pb_iload_n2 g dX7_told_38 ?_
                  first | refine pb_icmp_eqN g 45 dX7_told_39 (by decide) (by omega) (by omega) (fun c39 => ?_) (fun c39 => ?_) | refine pb_icmp_eq g 45 dX7_told_39 (by decide) (fun c39 => ?_) (fun c39 => ?_)
                  · refine pb_aload4 g dX7_told_45 ?_
                    refine pb_Vi0 g qX7_88 dX7_told_47 (k + 5) (by omega) (dr_tr (by omega)) (x_isMissing (k + 5) (t := t0) (by omega)) (fun r47 h47 e47 => ?_)
                    obtain ⟨rfl, rfl⟩ := e47
                    rw [if_neg (by assumption)]
                    first | refine pb_if_eqN g 56 dX7_told_50 (by decide) (by omega) (fun c50 => ?_) (fun c50 => ?_) | refine pb_if_eq g 56 dX7_told_50 (by decide) (fun c50 => ?_) (fun c50 => ?_)
                    · refine pb_aload4 g dX7_told_56 ?_
                      refine pb_iload_n3 g dX7_told_58 ?_
                      refine pb_aload_n0 g dX7_told_59 ?_
                      refine pb_getf g fX7_33 dX7_told_60 dr_o rfl ?_
                      refine pb_Vi2 g qX7_95 dX7_told_63 (k + 5) (by omega) (dr_tr (by omega)) (x_holds (k + 5) (t := t0) (zq := zz t0) (x := i) (y := nI n) (by omega) rfl (by omega)) (fun r63 h63 e63 => ?_)
                      obtain ⟨rfl, rfl⟩ := e63
                      rw [if_neg (by assumption)]
                      first | refine pb_if_neN g 72 dX7_told_66 (by decide) (by omega) (fun c66 => ?_) (fun c66 => ?_) | refine pb_if_ne g 72 dX7_told_66 (by decide) (fun c66 => ?_) (fun c66 => ?_)
                      · exact absurd c66 (by decide)
                      · refine pb_bipush (v := -12) g dX7_told_69 (by decide) ?_
                        refine pb_iret g z dX7_told_71 ?_
                        exact ⟨_, rfl, by rw [e], by rw [e]; exact ⟨_, _, _, _, _, _, _, _, _, _, _, rfl, d1, d2, d3, d4⟩⟩
                    · exact absurd c50 (by decide)
                  · exact absurd hso c39
              · exact absurd c11 (by decide)
          · obtain ⟨i0, hi0, rfl⟩ := nI_of (fun q => hh (Or.inl q))
            have hi1 : i0 + n ≤ zz t0 := Nat.not_lt.mp fun q => hh (Or.inr (by rw [nI_clamp hi0]; exact q))
            have hyes : hdN (zz t0) (nI i0) (nI n) := (hdN_nI hi0 (by omega)).mpr hi1
            have hcong : isS (fun j => itd t0 (i0 + j)) n n = isS (fun j => it t0 ((nI i0).toNatClampNeg + j)) n n := by
              rw [nI_clamp hi0]
              exact isS_congr n (fun j hj => d3 t0 ht0 (i0 + j) (by omega))
            cases his : isS (fun j => itd t0 (i0 + j)) n n with
            | none =>
              have e : sTold ((n, P, S, sd), (σ, μ, K, Hh), (ts, zz, it), (ra, tr)) (nI t0) (nI o0) (nI i0) = (-3, ((n, P, S, sd), (σ, μ, K, Hh), (ts, zz, it), (ra, tr))) := by
                simp only [sTold, htx, hsx]
                rw [if_neg (fun z => z.2 hso), if_neg hmi, if_neg hh, ← hcong, his]
                rfl
              refine pb_iload_n1 g dX7_told_0 ?_
              refine pb_Si1 g qX7_81 dX7_told_1 (k + 5) (by omega) (x_isTrayT (k + 5) _ (by assumption) _) (fun r1 h1 e1 => ?_)
              obtain ⟨rfl, rfl⟩ := e1
              first | refine pb_if_eqN g 14 dX7_told_4 (by decide) (by omega) (fun c4 => ?_) (fun c4 => ?_) | refine pb_if_eq g 14 dX7_told_4 (by decide) (fun c4 => ?_) (fun c4 => ?_)
              · exact absurd c4 (by decide)
              · refine pb_iload_n2 g dX7_told_7 ?_
                refine pb_Si1 g qX7_85 dX7_told_8 (k + 5) (by omega) (x_isSortT (k + 5) _ (by assumption) _) (fun r8 h8 e8 => ?_)
                obtain ⟨rfl, rfl⟩ := e8
                first | refine pb_if_neN g 17 dX7_told_11 (by decide) (by omega) (fun c11 => ?_) (fun c11 => ?_) | refine pb_if_ne g 17 dX7_told_11 (by decide) (fun c11 => ?_) (fun c11 => ?_)
                · refine pb_aload_n0 g dX7_told_17 ?_
                  refine pb_getf g fX7_22 dX7_told_18 dr_o rfl ?_
                  refine pb_iload_n1 g dX7_told_21 ?_
                  refine pb_aaldN g dX7_told_22 dr_trs (by decide) (by omega) (by omega) (by rfl) ?_
                  refine pb_astore4 g dX7_told_23 (by decide) ?_
                  refine pb_aload4 g dX7_told_25 ?_
                  refine pb_Vi0 g qX7_88 dX7_told_27 (k + 5) (by omega) (dr_tr (by omega)) (x_isMissing (k + 5) (t := t0) (by omega)) (fun r27 h27 e27 => ?_)
                  obtain ⟨rfl, rfl⟩ := e27
                  rw [if_neg (by assumption)]
                  first | refine pb_if_neN g 45 dX7_told_30 (by decide) (by omega) (fun c30 => ?_) (fun c30 => ?_) | refine pb_if_ne g 45 dX7_told_30 (by decide) (fun c30 => ?_) (fun c30 => ?_)
                  · exact absurd c30 (by decide)
                  · refine pb_aload4 g dX7_told_33 ?_
                    refine pb_getf g fX7_92 dX7_told_35 (dr_tr (by omega)) rfl ?_
                    refine pb_iload_n2 g dX7_told_38 ?_
                    first | refine pb_icmp_eqN g 45 dX7_told_39 (by decide) (by omega) (by omega) (fun c39 => ?_) (fun c39 => ?_) | refine pb_icmp_eq g 45 dX7_told_39 (by decide) (fun c39 => ?_) (fun c39 => ?_)
                    · refine pb_aload4 g dX7_told_45 ?_
                      refine pb_Vi0 g qX7_88 dX7_told_47 (k + 5) (by omega) (dr_tr (by omega)) (x_isMissing (k + 5) (t := t0) (by omega)) (fun r47 h47 e47 => ?_)
                      obtain ⟨rfl, rfl⟩ := e47
                      rw [if_neg (by assumption)]
                      first | refine pb_if_eqN g 56 dX7_told_50 (by decide) (by omega) (fun c50 => ?_) (fun c50 => ?_) | refine pb_if_eq g 56 dX7_told_50 (by decide) (fun c50 => ?_) (fun c50 => ?_)
                      · refine pb_aload4 g dX7_told_56 ?_
                        refine pb_iload_n3 g dX7_told_58 ?_
                        refine pb_aload_n0 g dX7_told_59 ?_
                        refine pb_getf g fX7_33 dX7_told_60 dr_o rfl ?_
                        refine pb_Vi2 g qX7_95 dX7_told_63 (k + 5) (by omega) (dr_tr (by omega)) (x_holds (k + 5) (t := t0) (zq := zz t0) (x := nI i0) (y := nI n) (by omega) rfl (by omega)) (fun r63 h63 e63 => ?_)
                        obtain ⟨rfl, rfl⟩ := e63
                        rw [if_pos (by assumption)]
                        first | refine pb_if_neN g 72 dX7_told_66 (by decide) (by omega) (fun c66 => ?_) (fun c66 => ?_) | refine pb_if_ne g 72 dX7_told_66 (by decide) (fun c66 => ?_) (fun c66 => ?_)
                        · refine pb_aload4 g dX7_told_72 ?_
                          refine pb_getf g fX7_99 dX7_told_74 (dr_tr (by omega)) rfl ?_
                          refine pb_iload_n3 g dX7_told_77 ?_
                          refine pb_aload_n0 g dX7_told_78 ?_
                          refine pb_getf g fX7_33 dX7_told_79 dr_o rfl ?_
                          refine pb_Si3 g qX7_102 dX7_told_82 (k + 5) (by omega) (c_isOrder (k + 5) n i0 (40 + t0) 40 hn (by omega) (by omega) (itd t0) _ (dr_it (by omega))) (fun r82 h82 e82 => ?_)
                          obtain ⟨rfl, rfl⟩ := e82
                          rw [his]
                          change PB Γ _ _ [.int (nI 0)] _
                          first | refine pb_if_neN g 91 dX7_told_85 (by decide) (by omega) (fun c85 => ?_) (fun c85 => ?_) | refine pb_if_ne g 91 dX7_told_85 (by decide) (fun c85 => ?_) (fun c85 => ?_)
                          · exact absurd c85 (by decide)
                          · refine pb_bipush (v := -3) g dX7_told_88 (by decide) ?_
                            refine pb_iret g z dX7_told_90 ?_
                            exact ⟨_, rfl, by rw [e], by rw [e]; exact ⟨_, _, _, _, _, _, _, _, _, _, _, rfl, d1, d2, d3, d4⟩⟩
                        · exact absurd c66 (by decide)
                      · exact absurd c50 (by decide)
                    · exact absurd hso c39
                · exact absurd c11 (by decide)
            | some s9 =>
              by_cases hP12 : P = 12
              · have e : sTold ((n, P, S, sd), (σ, μ, K, Hh), (ts, zz, it), (ra, tr)) (nI t0) (nI o0) (nI i0) = (-4, ((n, P, S, sd), (σ, μ, K, Hh), (ts, zz, it), (ra, tr))) := by
                  simp only [sTold, htx, hsx]
                  rw [if_neg (fun z => z.2 hso), if_neg hmi, if_neg hh, ← hcong, his, if_neg (by simp), if_pos hP12]
                refine pb_iload_n1 g dX7_told_0 ?_
                refine pb_Si1 g qX7_81 dX7_told_1 (k + 5) (by omega) (x_isTrayT (k + 5) _ (by assumption) _) (fun r1 h1 e1 => ?_)
                obtain ⟨rfl, rfl⟩ := e1
                first | refine pb_if_eqN g 14 dX7_told_4 (by decide) (by omega) (fun c4 => ?_) (fun c4 => ?_) | refine pb_if_eq g 14 dX7_told_4 (by decide) (fun c4 => ?_) (fun c4 => ?_)
                · exact absurd c4 (by decide)
                · refine pb_iload_n2 g dX7_told_7 ?_
                  refine pb_Si1 g qX7_85 dX7_told_8 (k + 5) (by omega) (x_isSortT (k + 5) _ (by assumption) _) (fun r8 h8 e8 => ?_)
                  obtain ⟨rfl, rfl⟩ := e8
                  first | refine pb_if_neN g 17 dX7_told_11 (by decide) (by omega) (fun c11 => ?_) (fun c11 => ?_) | refine pb_if_ne g 17 dX7_told_11 (by decide) (fun c11 => ?_) (fun c11 => ?_)
                  · refine pb_aload_n0 g dX7_told_17 ?_
                    refine pb_getf g fX7_22 dX7_told_18 dr_o rfl ?_
                    refine pb_iload_n1 g dX7_told_21 ?_
                    refine pb_aaldN g dX7_told_22 dr_trs (by decide) (by omega) (by omega) (by rfl) ?_
                    refine pb_astore4 g dX7_told_23 (by decide) ?_
                    refine pb_aload4 g dX7_told_25 ?_
                    refine pb_Vi0 g qX7_88 dX7_told_27 (k + 5) (by omega) (dr_tr (by omega)) (x_isMissing (k + 5) (t := t0) (by omega)) (fun r27 h27 e27 => ?_)
                    obtain ⟨rfl, rfl⟩ := e27
                    rw [if_neg (by assumption)]
                    first | refine pb_if_neN g 45 dX7_told_30 (by decide) (by omega) (fun c30 => ?_) (fun c30 => ?_) | refine pb_if_ne g 45 dX7_told_30 (by decide) (fun c30 => ?_) (fun c30 => ?_)
                    · exact absurd c30 (by decide)
                    · refine pb_aload4 g dX7_told_33 ?_
                      refine pb_getf g fX7_92 dX7_told_35 (dr_tr (by omega)) rfl ?_
                      refine pb_iload_n2 g dX7_told_38 ?_
                      first | refine pb_icmp_eqN g 45 dX7_told_39 (by decide) (by omega) (by omega) (fun c39 => ?_) (fun c39 => ?_) | refine pb_icmp_eq g 45 dX7_told_39 (by decide) (fun c39 => ?_) (fun c39 => ?_)
                      · refine pb_aload4 g dX7_told_45 ?_
                        refine pb_Vi0 g qX7_88 dX7_told_47 (k + 5) (by omega) (dr_tr (by omega)) (x_isMissing (k + 5) (t := t0) (by omega)) (fun r47 h47 e47 => ?_)
                        obtain ⟨rfl, rfl⟩ := e47
                        rw [if_neg (by assumption)]
                        first | refine pb_if_eqN g 56 dX7_told_50 (by decide) (by omega) (fun c50 => ?_) (fun c50 => ?_) | refine pb_if_eq g 56 dX7_told_50 (by decide) (fun c50 => ?_) (fun c50 => ?_)
                        · refine pb_aload4 g dX7_told_56 ?_
                          refine pb_iload_n3 g dX7_told_58 ?_
                          refine pb_aload_n0 g dX7_told_59 ?_
                          refine pb_getf g fX7_33 dX7_told_60 dr_o rfl ?_
                          refine pb_Vi2 g qX7_95 dX7_told_63 (k + 5) (by omega) (dr_tr (by omega)) (x_holds (k + 5) (t := t0) (zq := zz t0) (x := nI i0) (y := nI n) (by omega) rfl (by omega)) (fun r63 h63 e63 => ?_)
                          obtain ⟨rfl, rfl⟩ := e63
                          rw [if_pos (by assumption)]
                          first | refine pb_if_neN g 72 dX7_told_66 (by decide) (by omega) (fun c66 => ?_) (fun c66 => ?_) | refine pb_if_ne g 72 dX7_told_66 (by decide) (fun c66 => ?_) (fun c66 => ?_)
                          · refine pb_aload4 g dX7_told_72 ?_
                            refine pb_getf g fX7_99 dX7_told_74 (dr_tr (by omega)) rfl ?_
                            refine pb_iload_n3 g dX7_told_77 ?_
                            refine pb_aload_n0 g dX7_told_78 ?_
                            refine pb_getf g fX7_33 dX7_told_79 dr_o rfl ?_
                            refine pb_Si3 g qX7_102 dX7_told_82 (k + 5) (by omega) (c_isOrder (k + 5) n i0 (40 + t0) 40 hn (by omega) (by omega) (itd t0) _ (dr_it (by omega))) (fun r82 h82 e82 => ?_)
                            obtain ⟨rfl, rfl⟩ := e82
                            rw [his]
                            change PB Γ _ _ [.int (nI 1)] _
                            first | refine pb_if_neN g 91 dX7_told_85 (by decide) (by omega) (fun c85 => ?_) (fun c85 => ?_) | refine pb_if_ne g 91 dX7_told_85 (by decide) (fun c85 => ?_) (fun c85 => ?_)
                            · refine pb_aload_n0 g dX7_told_91 ?_
                              refine pb_getf g fX7_37 dX7_told_92 dr_o rfl ?_
                              refine pb_bipush (v := nI 12) g dX7_told_95 (by decide) ?_
                              first | refine pb_icmp_ltN g 103 dX7_told_97 (by decide) (by omega) (by omega) (fun c97 => ?_) (fun c97 => ?_) | refine pb_icmp_lt g 103 dX7_told_97 (by decide) (fun c97 => ?_) (fun c97 => ?_)
                              · exact absurd c97 (by omega)
                              · refine pb_bipush (v := -4) g dX7_told_100 (by decide) ?_
                                refine pb_iret g z dX7_told_102 ?_
                                exact ⟨_, rfl, by rw [e], by rw [e]; exact ⟨_, _, _, _, _, _, _, _, _, _, _, rfl, d1, d2, d3, d4⟩⟩
                            · exact absurd c85 (by decide)
                          · exact absurd c66 (by decide)
                        · exact absurd c50 (by decide)
                      · exact absurd hso c39
                  · exact absurd c11 (by decide)
              · have e : sTold ((n, P, S, sd), (σ, μ, K, Hh), (ts, zz, it), (ra, tr)) (nI t0) (nI o0) (nI i0) = (nI P, ((n, P + 1, S, sd), (va_up σ P (fun j => (it t0 (i0 + j)).toNatClampNeg), μ, K, Hh), (ts, zz, it), (ra, tr))) := by
                  simp only [sTold, htx, hsx]
                  rw [if_neg (fun z => z.2 hso), if_neg hmi, if_neg hh, ← hcong, his, if_neg (by simp), if_neg hP12, nI_clamp hi0]
                have hval := (isS_pm (by omega) his).2
                refine pb_iload_n1 g dX7_told_0 ?_
                refine pb_Si1 g qX7_81 dX7_told_1 (k + 5) (by omega) (x_isTrayT (k + 5) _ (by assumption) _) (fun r1 h1 e1 => ?_)
                obtain ⟨rfl, rfl⟩ := e1
                first | refine pb_if_eqN g 14 dX7_told_4 (by decide) (by omega) (fun c4 => ?_) (fun c4 => ?_) | refine pb_if_eq g 14 dX7_told_4 (by decide) (fun c4 => ?_) (fun c4 => ?_)
                · exact absurd c4 (by decide)
                · refine pb_iload_n2 g dX7_told_7 ?_
                  refine pb_Si1 g qX7_85 dX7_told_8 (k + 5) (by omega) (x_isSortT (k + 5) _ (by assumption) _) (fun r8 h8 e8 => ?_)
                  obtain ⟨rfl, rfl⟩ := e8
                  first | refine pb_if_neN g 17 dX7_told_11 (by decide) (by omega) (fun c11 => ?_) (fun c11 => ?_) | refine pb_if_ne g 17 dX7_told_11 (by decide) (fun c11 => ?_) (fun c11 => ?_)
                  · refine pb_aload_n0 g dX7_told_17 ?_
                    refine pb_getf g fX7_22 dX7_told_18 dr_o rfl ?_
                    refine pb_iload_n1 g dX7_told_21 ?_
                    refine pb_aaldN g dX7_told_22 dr_trs (by decide) (by omega) (by omega) (by rfl) ?_
                    refine pb_astore4 g dX7_told_23 (by decide) ?_
                    refine pb_aload4 g dX7_told_25 ?_
                    refine pb_Vi0 g qX7_88 dX7_told_27 (k + 5) (by omega) (dr_tr (by omega)) (x_isMissing (k + 5) (t := t0) (by omega)) (fun r27 h27 e27 => ?_)
                    obtain ⟨rfl, rfl⟩ := e27
                    rw [if_neg (by assumption)]
                    first | refine pb_if_neN g 45 dX7_told_30 (by decide) (by omega) (fun c30 => ?_) (fun c30 => ?_) | refine pb_if_ne g 45 dX7_told_30 (by decide) (fun c30 => ?_) (fun c30 => ?_)
                    · exact absurd c30 (by decide)
                    · refine pb_aload4 g dX7_told_33 ?_
                      refine pb_getf g fX7_92 dX7_told_35 (dr_tr (by omega)) rfl ?_
                      refine pb_iload_n2 g dX7_told_38 ?_
                      first | refine pb_icmp_eqN g 45 dX7_told_39 (by decide) (by omega) (by omega) (fun c39 => ?_) (fun c39 => ?_) | refine pb_icmp_eq g 45 dX7_told_39 (by decide) (fun c39 => ?_) (fun c39 => ?_)
                      · refine pb_aload4 g dX7_told_45 ?_
                        refine pb_Vi0 g qX7_88 dX7_told_47 (k + 5) (by omega) (dr_tr (by omega)) (x_isMissing (k + 5) (t := t0) (by omega)) (fun r47 h47 e47 => ?_)
                        obtain ⟨rfl, rfl⟩ := e47
                        rw [if_neg (by assumption)]
                        first | refine pb_if_eqN g 56 dX7_told_50 (by decide) (by omega) (fun c50 => ?_) (fun c50 => ?_) | refine pb_if_eq g 56 dX7_told_50 (by decide) (fun c50 => ?_) (fun c50 => ?_)
                        · refine pb_aload4 g dX7_told_56 ?_
                          refine pb_iload_n3 g dX7_told_58 ?_
                          refine pb_aload_n0 g dX7_told_59 ?_
                          refine pb_getf g fX7_33 dX7_told_60 dr_o rfl ?_
                          refine pb_Vi2 g qX7_95 dX7_told_63 (k + 5) (by omega) (dr_tr (by omega)) (x_holds (k + 5) (t := t0) (zq := zz t0) (x := nI i0) (y := nI n) (by omega) rfl (by omega)) (fun r63 h63 e63 => ?_)
                          obtain ⟨rfl, rfl⟩ := e63
                          rw [if_pos (by assumption)]
                          first | refine pb_if_neN g 72 dX7_told_66 (by decide) (by omega) (fun c66 => ?_) (fun c66 => ?_) | refine pb_if_ne g 72 dX7_told_66 (by decide) (fun c66 => ?_) (fun c66 => ?_)
                          · refine pb_aload4 g dX7_told_72 ?_
                            refine pb_getf g fX7_99 dX7_told_74 (dr_tr (by omega)) rfl ?_
                            refine pb_iload_n3 g dX7_told_77 ?_
                            refine pb_aload_n0 g dX7_told_78 ?_
                            refine pb_getf g fX7_33 dX7_told_79 dr_o rfl ?_
                            refine pb_Si3 g qX7_102 dX7_told_82 (k + 5) (by omega) (c_isOrder (k + 5) n i0 (40 + t0) 40 hn (by omega) (by omega) (itd t0) _ (dr_it (by omega))) (fun r82 h82 e82 => ?_)
                            obtain ⟨rfl, rfl⟩ := e82
                            rw [his]
                            change PB Γ _ _ [.int (nI 1)] _
                            first | refine pb_if_neN g 91 dX7_told_85 (by decide) (by omega) (fun c85 => ?_) (fun c85 => ?_) | refine pb_if_ne g 91 dX7_told_85 (by decide) (fun c85 => ?_) (fun c85 => ?_)
                            · refine pb_aload_n0 g dX7_told_91 ?_
                              refine pb_getf g fX7_37 dX7_told_92 dr_o rfl ?_
                              refine pb_bipush (v := nI 12) g dX7_told_95 (by decide) ?_
                              first | refine pb_icmp_ltN g 103 dX7_told_97 (by decide) (by omega) (by omega) (fun c97 => ?_) (fun c97 => ?_) | refine pb_icmp_lt g 103 dX7_told_97 (by decide) (fun c97 => ?_) (fun c97 => ?_)
                              · refine pb_aload4 g dX7_told_103 ?_
                                refine pb_getf g fX7_99 dX7_told_105 (dr_tr (by omega)) rfl ?_
                                refine pb_iload_n3 g dX7_told_108 ?_
                                refine pb_aload_n0 g dX7_told_109 ?_
                                refine pb_getf g fX7_11 dX7_told_110 dr_o rfl ?_
                                refine pb_aload_n0 g dX7_told_113 ?_
                                refine pb_getf g fX7_37 dX7_told_114 dr_o rfl ?_
                                refine pb_aaldN g dX7_told_117 dr_packs (by decide) (by omega) (by omega) (by rfl) ?_
                                refine pb_iconst (v := nI 0) g dX7_told_118 (by decide) ?_
                                refine pb_aload_n0 g dX7_told_119 ?_
                                refine pb_getf g fX7_33 dX7_told_120 dr_o rfl ?_
                                refine pb_copy g aX7_106.1 aX7_106.2.1 aX7_106.2.2.1 aX7_106.2.2.2 dX7_told_123 (by first | exact dr_pk (by omega) | exact dr_fr (by omega) | exact dr_it (by omega) | exact dr_kt | exact dr_bf | exact dr_pl | exact dr_lr | exact dr_nh | exact dr_lc | exact dr_bl | assumption) (by first | exact dr_pk (by omega) | exact dr_fr (by omega) | exact dr_it (by omega) | exact dr_kt | exact dr_bf | exact dr_pl | exact dr_lr | exact dr_nh | exact dr_lc | exact dr_bl | assumption) (by omega) (by omega) (by omega) (by omega) (by omega) (Nat.le_of_ble_eq_true rfl) ?_
                                rw [ds_pk (by omega)]
                                refine pb_aload_n0 g dX7_told_126 ?_
                                refine pb_dup g dX7_told_127 rfl ?_
                                refine pb_getf g fX7_37 dX7_told_128 dr_o rfl ?_
                                refine pb_dup_x1 g dX7_told_131 rfl rfl ?_
                                refine pb_iconst (v := nI 1) g dX7_told_132 (by decide) ?_
                                first | refine pb_iaddN g dX7_told_133 ?_ | refine pb_iadd g dX7_told_133 ?_
                                refine pb_puti g wX7_37 dX7_told_134 dr_o (Nat.le_of_ble_eq_true rfl) ?_
                                rw [ds_pc]
                                refine pb_iret g z dX7_told_137 ?_
                                exact ⟨_, rfl, by rw [e], by rw [e]; exact ⟨_, _, _, _, _, _, _, _, _, _, _, rfl, d1_up d1 (fun j hj => by
                                  rw [pk_cpy_in (Nat.zero_le _) (by omega), Nat.sub_zero, hval j hj, d3 t0 ht0 (i0 + j) (by omega)]) (fun p h1 h2 => by omega), d2, d3, d4⟩⟩
                              · exact absurd c97 (by omega)
                            · exact absurd c85 (by decide)
                          · exact absurd c66 (by decide)
                        · exact absurd c50 (by decide)
                      · exact absurd hso c39
                  · exact absurd c11 (by decide)
        · have e : sTold ((n, P, S, sd), (σ, μ, K, Hh), (ts, zz, it), (ra, tr)) (nI t0) (nI o0) i = (-13, ((n, P, S, sd), (σ, μ, K, Hh), (ts, zz, it), (ra, tr))) := by
            simp only [sTold, htx, hsx]
            rw [if_pos ⟨hmi, hso⟩]
          refine pb_iload_n1 g dX7_told_0 ?_
          refine pb_Si1 g qX7_81 dX7_told_1 (k + 5) (by omega) (x_isTrayT (k + 5) _ (by assumption) _) (fun r1 h1 e1 => ?_)
          obtain ⟨rfl, rfl⟩ := e1
          first | refine pb_if_eqN g 14 dX7_told_4 (by decide) (by omega) (fun c4 => ?_) (fun c4 => ?_) | refine pb_if_eq g 14 dX7_told_4 (by decide) (fun c4 => ?_) (fun c4 => ?_)
          · exact absurd c4 (by decide)
          · refine pb_iload_n2 g dX7_told_7 ?_
            refine pb_Si1 g qX7_85 dX7_told_8 (k + 5) (by omega) (x_isSortT (k + 5) _ (by assumption) _) (fun r8 h8 e8 => ?_)
            obtain ⟨rfl, rfl⟩ := e8
            first | refine pb_if_neN g 17 dX7_told_11 (by decide) (by omega) (fun c11 => ?_) (fun c11 => ?_) | refine pb_if_ne g 17 dX7_told_11 (by decide) (fun c11 => ?_) (fun c11 => ?_)
            · refine pb_aload_n0 g dX7_told_17 ?_
              refine pb_getf g fX7_22 dX7_told_18 dr_o rfl ?_
              refine pb_iload_n1 g dX7_told_21 ?_
              refine pb_aaldN g dX7_told_22 dr_trs (by decide) (by omega) (by omega) (by rfl) ?_
              refine pb_astore4 g dX7_told_23 (by decide) ?_
              refine pb_aload4 g dX7_told_25 ?_
              refine pb_Vi0 g qX7_88 dX7_told_27 (k + 5) (by omega) (dr_tr (by omega)) (x_isMissing (k + 5) (t := t0) (by omega)) (fun r27 h27 e27 => ?_)
              obtain ⟨rfl, rfl⟩ := e27
              rw [if_neg (by assumption)]
              first | refine pb_if_neN g 45 dX7_told_30 (by decide) (by omega) (fun c30 => ?_) (fun c30 => ?_) | refine pb_if_ne g 45 dX7_told_30 (by decide) (fun c30 => ?_) (fun c30 => ?_)
              · exact absurd c30 (by decide)
              · refine pb_aload4 g dX7_told_33 ?_
                refine pb_getf g fX7_92 dX7_told_35 (dr_tr (by omega)) rfl ?_
                refine pb_iload_n2 g dX7_told_38 ?_
                first | refine pb_icmp_eqN g 45 dX7_told_39 (by decide) (by omega) (by omega) (fun c39 => ?_) (fun c39 => ?_) | refine pb_icmp_eq g 45 dX7_told_39 (by decide) (fun c39 => ?_) (fun c39 => ?_)
                · exact absurd c39 hso
                · refine pb_bipush (v := -13) g dX7_told_42 (by decide) ?_
                  refine pb_iret g z dX7_told_44 ?_
                  exact ⟨_, rfl, by rw [e], by rw [e]; exact ⟨_, _, _, _, _, _, _, _, _, _, _, rfl, d1, d2, d3, d4⟩⟩
            · exact absurd c11 (by decide)
set_option maxHeartbeats 4000000 in
set_option maxRecDepth 100000 in
theorem x_tray (k : Nat) (q : SP) (t so x : Int32) (h : PH) (hD : IsD q h) (hI : SI q) : Runs yX7_tray cX7_tray 4 (some .int) (k + 6) [.ref 0, .int t, .int so, .int x] h (fun o h' => ∃ r : Int32, o = some (.int r) ∧ r = (sTray q t so x).1 ∧ IsD ((sTray q t so x).2) h') := by
  obtain ⟨⟨n, P, S, sd⟩, ⟨σ, μ, K, Hh⟩, ⟨ts, zz, it⟩, ⟨ra, tr⟩⟩ := q
  obtain ⟨⟨hn1, hn, hP, hS⟩, hσ, hK, hz, hra⟩ := hI
  obtain ⟨pk, fr, itd, jk, kd, hp, kt, ak, an, ah, jl, rfl, d1, d2, d3, d4⟩ := hD
  refine Runs.of (by decide) (Nat.le_of_ble_eq_true rfl) [some (.ref 0), some (.int t), some (.int so), some (.int x)] 0 rfl (fun Γ g z => ?_)
  cases htx : ix t 4 with
  | none =>
    have e : sTray ((n, P, S, sd), (σ, μ, K, Hh), (ts, zz, it), (ra, tr)) t so x = (-2, ((n, P, S, sd), (σ, μ, K, Hh), (ts, zz, it), (ra, tr))) := by simp only [sTray, htx]
    have htn := ix_none (by decide) htx
    refine pb_iload_n1 g dX7_tray_0 ?_
    refine pb_Si1 g qX7_81 dX7_tray_1 (k + 5) (by omega) (x_isTrayF (k + 5) _ (by assumption) _) (fun r1 h1 e1 => ?_)
    obtain ⟨rfl, rfl⟩ := e1
    first | refine pb_if_eqN g 19 dX7_tray_4 (by decide) (by omega) (fun c4 => ?_) (fun c4 => ?_) | refine pb_if_eq g 19 dX7_tray_4 (by decide) (fun c4 => ?_) (fun c4 => ?_)
    · refine pb_bipush (v := -2) g dX7_tray_19 (by decide) ?_
      refine pb_iret g z dX7_tray_21 ?_
      exact ⟨_, rfl, by rw [e], by rw [e]; exact ⟨_, _, _, _, _, _, _, _, _, _, _, rfl, d1, d2, d3, d4⟩⟩
    · exact absurd c4 (by decide)
  | some t0 =>
    obtain ⟨ht0, rfl⟩ := ix_some (by decide) htx
    by_cases hm1 : so = -1
    · have e : sTray ((n, P, S, sd), (σ, μ, K, Hh), (ts, zz, it), (ra, tr)) (nI t0) so x = (1, ((n, P, S, sd), (σ, μ, K, Hh), (upd ts t0 (-1), va_up zz t0 0, va_up it t0 (fun _ => 0)), (ra, tr))) := by simp only [sTray, htx, if_pos hm1]
      refine pb_iload_n1 g dX7_tray_0 ?_
      refine pb_Si1 g qX7_81 dX7_tray_1 (k + 5) (by omega) (x_isTrayT (k + 5) _ (by assumption) _) (fun r1 h1 e1 => ?_)
      obtain ⟨rfl, rfl⟩ := e1
      first | refine pb_if_eqN g 19 dX7_tray_4 (by decide) (by omega) (fun c4 => ?_) (fun c4 => ?_) | refine pb_if_eq g 19 dX7_tray_4 (by decide) (fun c4 => ?_) (fun c4 => ?_)
      · exact absurd c4 (by decide)
      · refine pb_iload_n2 g dX7_tray_7 ?_
        refine pb_iconst (v := -1) g dX7_tray_8 (by decide) ?_
        first | refine pb_icmp_eqN g 22 dX7_tray_9 (by decide) (by omega) (by omega) (fun c9 => ?_) (fun c9 => ?_) | refine pb_icmp_eq g 22 dX7_tray_9 (by decide) (fun c9 => ?_) (fun c9 => ?_)
        · refine pb_iload_n2 g dX7_tray_22 ?_
          refine pb_iconst (v := -1) g dX7_tray_23 (by decide) ?_
          first | refine pb_icmp_neN g 40 dX7_tray_24 (by decide) (by omega) (by omega) (fun c24 => ?_) (fun c24 => ?_) | refine pb_icmp_ne g 40 dX7_tray_24 (by decide) (fun c24 => ?_) (fun c24 => ?_)
          · exact absurd hm1 c24
          · refine pb_aload_n0 g dX7_tray_27 ?_
            refine pb_getf g fX7_22 dX7_tray_28 dr_o rfl ?_
            refine pb_iload_n1 g dX7_tray_31 ?_
            refine pb_aaldN g dX7_tray_32 dr_trs (by decide) (by omega) (by omega) (by rfl) ?_
            refine pb_iconst (v := -1) g dX7_tray_33 (by decide) ?_
            refine pb_iconst (v := nI 0) g dX7_tray_34 (by decide) ?_
            refine pb_Vv2 g qX7_270 dX7_tray_35 (k + 5) (by omega) (dr_tr (by omega)) (x_clear (k + 5) (t := t0) (x := -1) (y := nI 0) (by omega)) (fun h35 e35 => ?_)
            subst e35
            rw [upd_nI]
            refine pb_iconst (v := nI 1) g dX7_tray_38 (by decide) ?_
            refine pb_iret g z dX7_tray_39 ?_
            exact ⟨_, rfl, by rw [e]; rfl, by rw [e]; exact ⟨_, _, _, _, _, _, _, _, _, _, _, rfl, d1, d2, fun t ht j hj => by
              by_cases q : t = t0
              · rw [q, va_upS, va_upS, zF_at _ 40 j hj]
              · rw [va_upN q, va_upN q]
                exact d3 t ht j hj, d4⟩⟩
        · exact absurd hm1 c9
    · cases hsx : ix so 3 with
      | none =>
        have e : sTray ((n, P, S, sd), (σ, μ, K, Hh), (ts, zz, it), (ra, tr)) (nI t0) so x = (-2, ((n, P, S, sd), (σ, μ, K, Hh), (ts, zz, it), (ra, tr))) := by simp only [sTray, htx, if_neg hm1, hsx]
        have hsn := ix_none (by decide) hsx
        refine pb_iload_n1 g dX7_tray_0 ?_
        refine pb_Si1 g qX7_81 dX7_tray_1 (k + 5) (by omega) (x_isTrayT (k + 5) _ (by assumption) _) (fun r1 h1 e1 => ?_)
        obtain ⟨rfl, rfl⟩ := e1
        first | refine pb_if_eqN g 19 dX7_tray_4 (by decide) (by omega) (fun c4 => ?_) (fun c4 => ?_) | refine pb_if_eq g 19 dX7_tray_4 (by decide) (fun c4 => ?_) (fun c4 => ?_)
        · exact absurd c4 (by decide)
        · refine pb_iload_n2 g dX7_tray_7 ?_
          refine pb_iconst (v := -1) g dX7_tray_8 (by decide) ?_
          first | refine pb_icmp_eqN g 22 dX7_tray_9 (by decide) (by omega) (by omega) (fun c9 => ?_) (fun c9 => ?_) | refine pb_icmp_eq g 22 dX7_tray_9 (by decide) (fun c9 => ?_) (fun c9 => ?_)
          · exact absurd c9 hm1
          · refine pb_iload_n2 g dX7_tray_12 ?_
            refine pb_Si1 g qX7_85 dX7_tray_13 (k + 5) (by omega) (x_isSortF (k + 5) _ (by assumption) _) (fun r13 h13 e13 => ?_)
            obtain ⟨rfl, rfl⟩ := e13
            first | refine pb_if_neN g 22 dX7_tray_16 (by decide) (by omega) (fun c16 => ?_) (fun c16 => ?_) | refine pb_if_ne g 22 dX7_tray_16 (by decide) (fun c16 => ?_) (fun c16 => ?_)
            · exact absurd c16 (by decide)
            · refine pb_bipush (v := -2) g dX7_tray_19 (by decide) ?_
              refine pb_iret g z dX7_tray_21 ?_
              exact ⟨_, rfl, by rw [e], by rw [e]; exact ⟨_, _, _, _, _, _, _, _, _, _, _, rfl, d1, d2, d3, d4⟩⟩
      | some o0 =>
        obtain ⟨ho0, rfl⟩ := ix_some (by decide) hsx
        by_cases h40 : nI 40 < x
        · have e : sTray ((n, P, S, sd), (σ, μ, K, Hh), (ts, zz, it), (ra, tr)) (nI t0) (nI o0) x = (-2, ((n, P, S, sd), (σ, μ, K, Hh), (ts, zz, it), (ra, tr))) := by simp only [sTray, htx, if_neg hm1, hsx, if_pos h40]
          refine pb_iload_n1 g dX7_tray_0 ?_
          refine pb_Si1 g qX7_81 dX7_tray_1 (k + 5) (by omega) (x_isTrayT (k + 5) _ (by assumption) _) (fun r1 h1 e1 => ?_)
          obtain ⟨rfl, rfl⟩ := e1
          first | refine pb_if_eqN g 19 dX7_tray_4 (by decide) (by omega) (fun c4 => ?_) (fun c4 => ?_) | refine pb_if_eq g 19 dX7_tray_4 (by decide) (fun c4 => ?_) (fun c4 => ?_)
          · exact absurd c4 (by decide)
          · refine pb_iload_n2 g dX7_tray_7 ?_
            refine pb_iconst (v := -1) g dX7_tray_8 (by decide) ?_
            first | refine pb_icmp_eqN g 22 dX7_tray_9 (by decide) (by omega) (by omega) (fun c9 => ?_) (fun c9 => ?_) | refine pb_icmp_eq g 22 dX7_tray_9 (by decide) (fun c9 => ?_) (fun c9 => ?_)
            · exact absurd c9 hm1
            · refine pb_iload_n2 g dX7_tray_12 ?_
              refine pb_Si1 g qX7_85 dX7_tray_13 (k + 5) (by omega) (x_isSortT (k + 5) _ (by assumption) _) (fun r13 h13 e13 => ?_)
              obtain ⟨rfl, rfl⟩ := e13
              first | refine pb_if_neN g 22 dX7_tray_16 (by decide) (by omega) (fun c16 => ?_) (fun c16 => ?_) | refine pb_if_ne g 22 dX7_tray_16 (by decide) (fun c16 => ?_) (fun c16 => ?_)
              · refine pb_iload_n2 g dX7_tray_22 ?_
                refine pb_iconst (v := -1) g dX7_tray_23 (by decide) ?_
                first | refine pb_icmp_neN g 40 dX7_tray_24 (by decide) (by omega) (by omega) (fun c24 => ?_) (fun c24 => ?_) | refine pb_icmp_ne g 40 dX7_tray_24 (by decide) (fun c24 => ?_) (fun c24 => ?_)
                · refine pb_iload_n3 g dX7_tray_40 ?_
                  refine pb_bipush (v := nI 40) g dX7_tray_41 (by decide) ?_
                  first | refine pb_icmp_leN g 49 dX7_tray_43 (by decide) (by omega) (by omega) (fun c43 => ?_) (fun c43 => ?_) | refine pb_icmp_le g 49 dX7_tray_43 (by decide) (fun c43 => ?_) (fun c43 => ?_)
                  · exact absurd h40 (Int32.not_lt.mpr c43)
                  · refine pb_bipush (v := -2) g dX7_tray_46 (by decide) ?_
                    refine pb_iret g z dX7_tray_48 ?_
                    exact ⟨_, rfl, by rw [e], by rw [e]; exact ⟨_, _, _, _, _, _, _, _, _, _, _, rfl, d1, d2, d3, d4⟩⟩
                · exact absurd c24 hm1
              · exact absurd c16 (by decide)
        · by_cases hneg : x < 0
          · have e : sTray ((n, P, S, sd), (σ, μ, K, Hh), (ts, zz, it), (ra, tr)) (nI t0) (nI o0) x = (-14, ((n, P, S, sd), (σ, μ, K, Hh), (ts, zz, it), (ra, tr))) := by simp only [sTray, htx, if_neg hm1, hsx, if_neg h40, if_pos hneg]
            refine pb_iload_n1 g dX7_tray_0 ?_
            refine pb_Si1 g qX7_81 dX7_tray_1 (k + 5) (by omega) (x_isTrayT (k + 5) _ (by assumption) _) (fun r1 h1 e1 => ?_)
            obtain ⟨rfl, rfl⟩ := e1
            first | refine pb_if_eqN g 19 dX7_tray_4 (by decide) (by omega) (fun c4 => ?_) (fun c4 => ?_) | refine pb_if_eq g 19 dX7_tray_4 (by decide) (fun c4 => ?_) (fun c4 => ?_)
            · exact absurd c4 (by decide)
            · refine pb_iload_n2 g dX7_tray_7 ?_
              refine pb_iconst (v := -1) g dX7_tray_8 (by decide) ?_
              first | refine pb_icmp_eqN g 22 dX7_tray_9 (by decide) (by omega) (by omega) (fun c9 => ?_) (fun c9 => ?_) | refine pb_icmp_eq g 22 dX7_tray_9 (by decide) (fun c9 => ?_) (fun c9 => ?_)
              · exact absurd c9 hm1
              · refine pb_iload_n2 g dX7_tray_12 ?_
                refine pb_Si1 g qX7_85 dX7_tray_13 (k + 5) (by omega) (x_isSortT (k + 5) _ (by assumption) _) (fun r13 h13 e13 => ?_)
                obtain ⟨rfl, rfl⟩ := e13
                first | refine pb_if_neN g 22 dX7_tray_16 (by decide) (by omega) (fun c16 => ?_) (fun c16 => ?_) | refine pb_if_ne g 22 dX7_tray_16 (by decide) (fun c16 => ?_) (fun c16 => ?_)
                · refine pb_iload_n2 g dX7_tray_22 ?_
                  refine pb_iconst (v := -1) g dX7_tray_23 (by decide) ?_
                  first | refine pb_icmp_neN g 40 dX7_tray_24 (by decide) (by omega) (by omega) (fun c24 => ?_) (fun c24 => ?_) | refine pb_icmp_ne g 40 dX7_tray_24 (by decide) (fun c24 => ?_) (fun c24 => ?_)
                  · refine pb_iload_n3 g dX7_tray_40 ?_
                    refine pb_bipush (v := nI 40) g dX7_tray_41 (by decide) ?_
                    first | refine pb_icmp_leN g 49 dX7_tray_43 (by decide) (by omega) (by omega) (fun c43 => ?_) (fun c43 => ?_) | refine pb_icmp_le g 49 dX7_tray_43 (by decide) (fun c43 => ?_) (fun c43 => ?_)
                    · refine pb_iload_n3 g dX7_tray_49 ?_
                      refine pb_if_ge g 56 dX7_tray_50 (by decide) (fun c50 => ?_) (fun c50 => ?_)
                      · exact absurd hneg (Int32.not_lt.mpr c50)
                      · refine pb_bipush (v := -14) g dX7_tray_53 (by decide) ?_
                        refine pb_iret g z dX7_tray_55 ?_
                        exact ⟨_, rfl, by rw [e], by rw [e]; exact ⟨_, _, _, _, _, _, _, _, _, _, _, rfl, d1, d2, d3, d4⟩⟩
                    · exact absurd (Int32.not_lt.mp h40) c43
                  · exact absurd c24 hm1
                · exact absurd c16 (by decide)
          · obtain ⟨m, hm, rfl⟩ := nI_of hneg
            have hm40 : m ≤ 40 := Nat.not_lt.mp fun q => h40 ((nI_ltI (by decide) hm).mpr q)
            have e : sTray ((n, P, S, sd), (σ, μ, K, Hh), (ts, zz, it), (ra, tr)) (nI t0) (nI o0) (nI m) = (1, ((n, P, S, sd), (σ, μ, K, Hh), (upd ts t0 (nI o0), va_up zz t0 m, va_up it t0 (fun _ => 0)), (ra, tr))) := by simp only [sTray, htx, if_neg hm1, hsx, if_neg h40, if_neg hneg, nI_clamp hm]
            refine pb_iload_n1 g dX7_tray_0 ?_
            refine pb_Si1 g qX7_81 dX7_tray_1 (k + 5) (by omega) (x_isTrayT (k + 5) _ (by assumption) _) (fun r1 h1 e1 => ?_)
            obtain ⟨rfl, rfl⟩ := e1
            first | refine pb_if_eqN g 19 dX7_tray_4 (by decide) (by omega) (fun c4 => ?_) (fun c4 => ?_) | refine pb_if_eq g 19 dX7_tray_4 (by decide) (fun c4 => ?_) (fun c4 => ?_)
            · exact absurd c4 (by decide)
            · refine pb_iload_n2 g dX7_tray_7 ?_
              refine pb_iconst (v := -1) g dX7_tray_8 (by decide) ?_
              first | refine pb_icmp_eqN g 22 dX7_tray_9 (by decide) (by omega) (by omega) (fun c9 => ?_) (fun c9 => ?_) | refine pb_icmp_eq g 22 dX7_tray_9 (by decide) (fun c9 => ?_) (fun c9 => ?_)
              · exact absurd c9 hm1
              · refine pb_iload_n2 g dX7_tray_12 ?_
                refine pb_Si1 g qX7_85 dX7_tray_13 (k + 5) (by omega) (x_isSortT (k + 5) _ (by assumption) _) (fun r13 h13 e13 => ?_)
                obtain ⟨rfl, rfl⟩ := e13
                first | refine pb_if_neN g 22 dX7_tray_16 (by decide) (by omega) (fun c16 => ?_) (fun c16 => ?_) | refine pb_if_ne g 22 dX7_tray_16 (by decide) (fun c16 => ?_) (fun c16 => ?_)
                · refine pb_iload_n2 g dX7_tray_22 ?_
                  refine pb_iconst (v := -1) g dX7_tray_23 (by decide) ?_
                  first | refine pb_icmp_neN g 40 dX7_tray_24 (by decide) (by omega) (by omega) (fun c24 => ?_) (fun c24 => ?_) | refine pb_icmp_ne g 40 dX7_tray_24 (by decide) (fun c24 => ?_) (fun c24 => ?_)
                  · refine pb_iload_n3 g dX7_tray_40 ?_
                    refine pb_bipush (v := nI 40) g dX7_tray_41 (by decide) ?_
                    first | refine pb_icmp_leN g 49 dX7_tray_43 (by decide) (by omega) (by omega) (fun c43 => ?_) (fun c43 => ?_) | refine pb_icmp_le g 49 dX7_tray_43 (by decide) (fun c43 => ?_) (fun c43 => ?_)
                    · refine pb_iload_n3 g dX7_tray_49 ?_
                      refine pb_if_geN g 56 dX7_tray_50 (by decide) (by omega) ?_
                      refine pb_aload_n0 g dX7_tray_56 ?_
                      refine pb_getf g fX7_22 dX7_tray_57 dr_o rfl ?_
                      refine pb_iload_n1 g dX7_tray_60 ?_
                      refine pb_aaldN g dX7_tray_61 dr_trs (by decide) (by omega) (by omega) (by rfl) ?_
                      refine pb_iload_n2 g dX7_tray_62 ?_
                      refine pb_iload_n3 g dX7_tray_63 ?_
                      refine pb_Vv2 g qX7_270 dX7_tray_64 (k + 5) (by omega) (dr_tr (by omega)) (x_clear (k + 5) (t := t0) (x := nI o0) (y := nI m) (by omega)) (fun h64 e64 => ?_)
                      subst e64
                      rw [upd_nI]
                      refine pb_iconst (v := nI 1) g dX7_tray_67 (by decide) ?_
                      refine pb_iret g z dX7_tray_68 ?_
                      exact ⟨_, rfl, by rw [e]; rfl, by rw [e]; exact ⟨_, _, _, _, _, _, _, _, _, _, _, rfl, d1, d2, fun t ht j hj => by
                        by_cases q : t = t0
                        · rw [q, va_upS, va_upS, zF_at _ 40 j hj]
                        · rw [va_upN q, va_upN q]
                          exact d3 t ht j hj, d4⟩⟩
                    · exact absurd c43 (by omega)
                  · exact absurd c24 hm1
                · exact absurd c16 (by decide)
set_option maxHeartbeats 4000000 in
set_option maxRecDepth 100000 in
theorem x_cell (k : Nat) (q : SP) (t i v : Int32) (h : PH) (hD : IsD q h) (hI : SI q) : Runs yX7_cell cX7_cell 4 (some .int) (k + 6) [.ref 0, .int t, .int i, .int v] h (fun o h' => ∃ r : Int32, o = some (.int r) ∧ r = (sCell q t i v).1 ∧ IsD ((sCell q t i v).2) h') := by
  obtain ⟨⟨n, P, S, sd⟩, ⟨σ, μ, K, Hh⟩, ⟨ts, zz, it⟩, ⟨ra, tr⟩⟩ := q
  obtain ⟨⟨hn1, hn, hP, hS⟩, hσ, hK, hz, hra⟩ := hI
  obtain ⟨pk, fr, itd, jk, kd, hp, kt, ak, an, ah, jl, rfl, d1, d2, d3, d4⟩ := hD
  refine Runs.of (by decide) (Nat.le_of_ble_eq_true rfl) [some (.ref 0), some (.int t), some (.int i), some (.int v)] 0 rfl (fun Γ g z => ?_)
  cases htx : ix t 4 with
  | none =>
    have e : sCell ((n, P, S, sd), (σ, μ, K, Hh), (ts, zz, it), (ra, tr)) t i v = (-2, ((n, P, S, sd), (σ, μ, K, Hh), (ts, zz, it), (ra, tr))) := by simp only [sCell, htx]
    have htn := ix_none (by decide) htx
    refine pb_iload_n1 g dX7_cell_0 ?_
    refine pb_Si1 g qX7_81 dX7_cell_1 (k + 5) (by omega) (x_isTrayF (k + 5) _ (by assumption) _) (fun r1 h1 e1 => ?_)
    obtain ⟨rfl, rfl⟩ := e1
    first | refine pb_if_neN g 10 dX7_cell_4 (by decide) (by omega) (fun c4 => ?_) (fun c4 => ?_) | refine pb_if_ne g 10 dX7_cell_4 (by decide) (fun c4 => ?_) (fun c4 => ?_)
    · exact absurd c4 (by decide)
    · refine pb_bipush (v := -2) g dX7_cell_7 (by decide) ?_
      refine pb_iret g z dX7_cell_9 ?_
      exact ⟨_, rfl, by rw [e], by rw [e]; exact ⟨_, _, _, _, _, _, _, _, _, _, _, rfl, d1, d2, d3, d4⟩⟩
  | some t0 =>
    obtain ⟨ht0, rfl⟩ := ix_some (by decide) htx
    have hz40 := (hz t0 ht0).1
    by_cases hmi : ts t0 = -1
    · have e : sCell ((n, P, S, sd), (σ, μ, K, Hh), (ts, zz, it), (ra, tr)) (nI t0) i v = (-11, ((n, P, S, sd), (σ, μ, K, Hh), (ts, zz, it), (ra, tr))) := by simp only [sCell, htx, if_pos hmi]
      refine pb_iload_n1 g dX7_cell_0 ?_
      refine pb_Si1 g qX7_81 dX7_cell_1 (k + 5) (by omega) (x_isTrayT (k + 5) _ (by assumption) _) (fun r1 h1 e1 => ?_)
      obtain ⟨rfl, rfl⟩ := e1
      first | refine pb_if_neN g 10 dX7_cell_4 (by decide) (by omega) (fun c4 => ?_) (fun c4 => ?_) | refine pb_if_ne g 10 dX7_cell_4 (by decide) (fun c4 => ?_) (fun c4 => ?_)
      · refine pb_aload_n0 g dX7_cell_10 ?_
        refine pb_getf g fX7_22 dX7_cell_11 dr_o rfl ?_
        refine pb_iload_n1 g dX7_cell_14 ?_
        refine pb_aaldN g dX7_cell_15 dr_trs (by decide) (by omega) (by omega) (by rfl) ?_
        refine pb_Vi0 g qX7_88 dX7_cell_16 (k + 5) (by omega) (dr_tr (by omega)) (x_isMissing (k + 5) (t := t0) (by omega)) (fun r16 h16 e16 => ?_)
        obtain ⟨rfl, rfl⟩ := e16
        rw [if_pos (by assumption)]
        first | refine pb_if_eqN g 25 dX7_cell_19 (by decide) (by omega) (fun c19 => ?_) (fun c19 => ?_) | refine pb_if_eq g 25 dX7_cell_19 (by decide) (fun c19 => ?_) (fun c19 => ?_)
        · exact absurd c19 (by decide)
        · refine pb_bipush (v := -11) g dX7_cell_22 (by decide) ?_
          refine pb_iret g z dX7_cell_24 ?_
          exact ⟨_, rfl, by rw [e], by rw [e]; exact ⟨_, _, _, _, _, _, _, _, _, _, _, rfl, d1, d2, d3, d4⟩⟩
      · exact absurd c4 (by decide)
    · cases hix : ix i (zz t0) with
      | none =>
        have e : sCell ((n, P, S, sd), (σ, μ, K, Hh), (ts, zz, it), (ra, tr)) (nI t0) i v = (-12, ((n, P, S, sd), (σ, μ, K, Hh), (ts, zz, it), (ra, tr))) := by simp only [sCell, htx, if_neg hmi, hix]
        have hin := ix_none (by omega) hix
        have hno : ¬ hdN (zz t0) i (nI 1) := fun q => by
          obtain ⟨i0, hi0, rfl⟩ := nI_of q.1
          have := (hdN_nI hi0 (by decide)).mp q
          exact hin ⟨i0, by omega, rfl⟩
        refine pb_iload_n1 g dX7_cell_0 ?_
        refine pb_Si1 g qX7_81 dX7_cell_1 (k + 5) (by omega) (x_isTrayT (k + 5) _ (by assumption) _) (fun r1 h1 e1 => ?_)
        obtain ⟨rfl, rfl⟩ := e1
        first | refine pb_if_neN g 10 dX7_cell_4 (by decide) (by omega) (fun c4 => ?_) (fun c4 => ?_) | refine pb_if_ne g 10 dX7_cell_4 (by decide) (fun c4 => ?_) (fun c4 => ?_)
        · refine pb_aload_n0 g dX7_cell_10 ?_
          refine pb_getf g fX7_22 dX7_cell_11 dr_o rfl ?_
          refine pb_iload_n1 g dX7_cell_14 ?_
          refine pb_aaldN g dX7_cell_15 dr_trs (by decide) (by omega) (by omega) (by rfl) ?_
          refine pb_Vi0 g qX7_88 dX7_cell_16 (k + 5) (by omega) (dr_tr (by omega)) (x_isMissing (k + 5) (t := t0) (by omega)) (fun r16 h16 e16 => ?_)
          obtain ⟨rfl, rfl⟩ := e16
          rw [if_neg (by assumption)]
          first | refine pb_if_eqN g 25 dX7_cell_19 (by decide) (by omega) (fun c19 => ?_) (fun c19 => ?_) | refine pb_if_eq g 25 dX7_cell_19 (by decide) (fun c19 => ?_) (fun c19 => ?_)
          · refine pb_aload_n0 g dX7_cell_25 ?_
            refine pb_getf g fX7_22 dX7_cell_26 dr_o rfl ?_
            refine pb_iload_n1 g dX7_cell_29 ?_
            refine pb_aaldN g dX7_cell_30 dr_trs (by decide) (by omega) (by omega) (by rfl) ?_
            refine pb_iload_n2 g dX7_cell_31 ?_
            refine pb_iconst (v := nI 1) g dX7_cell_32 (by decide) ?_
            refine pb_Vi2 g qX7_95 dX7_cell_33 (k + 5) (by omega) (dr_tr (by omega)) (x_holds (k + 5) (t := t0) (zq := zz t0) (x := i) (y := nI 1) (by omega) rfl (by omega)) (fun r33 h33 e33 => ?_)
            obtain ⟨rfl, rfl⟩ := e33
            rw [if_neg (by assumption)]
            first | refine pb_if_neN g 42 dX7_cell_36 (by decide) (by omega) (fun c36 => ?_) (fun c36 => ?_) | refine pb_if_ne g 42 dX7_cell_36 (by decide) (fun c36 => ?_) (fun c36 => ?_)
            · exact absurd c36 (by decide)
            · refine pb_bipush (v := -12) g dX7_cell_39 (by decide) ?_
              refine pb_iret g z dX7_cell_41 ?_
              exact ⟨_, rfl, by rw [e], by rw [e]; exact ⟨_, _, _, _, _, _, _, _, _, _, _, rfl, d1, d2, d3, d4⟩⟩
          · exact absurd c19 (by decide)
        · exact absurd c4 (by decide)
      | some i0 =>
        obtain ⟨hi0, rfl⟩ := ix_some (by omega) hix
        have e : sCell ((n, P, S, sd), (σ, μ, K, Hh), (ts, zz, it), (ra, tr)) (nI t0) (nI i0) v = (1, ((n, P, S, sd), (σ, μ, K, Hh), (ts, zz, va_up it t0 (upd (it t0) i0 (nar (ts t0) v))), (ra, tr))) := by simp only [sCell, htx, if_neg hmi, hix]
        have hyes : hdN (zz t0) (nI i0) (nI 1) := (hdN_nI (by omega) (by decide)).mpr (by omega)
        refine pb_iload_n1 g dX7_cell_0 ?_
        refine pb_Si1 g qX7_81 dX7_cell_1 (k + 5) (by omega) (x_isTrayT (k + 5) _ (by assumption) _) (fun r1 h1 e1 => ?_)
        obtain ⟨rfl, rfl⟩ := e1
        first | refine pb_if_neN g 10 dX7_cell_4 (by decide) (by omega) (fun c4 => ?_) (fun c4 => ?_) | refine pb_if_ne g 10 dX7_cell_4 (by decide) (fun c4 => ?_) (fun c4 => ?_)
        · refine pb_aload_n0 g dX7_cell_10 ?_
          refine pb_getf g fX7_22 dX7_cell_11 dr_o rfl ?_
          refine pb_iload_n1 g dX7_cell_14 ?_
          refine pb_aaldN g dX7_cell_15 dr_trs (by decide) (by omega) (by omega) (by rfl) ?_
          refine pb_Vi0 g qX7_88 dX7_cell_16 (k + 5) (by omega) (dr_tr (by omega)) (x_isMissing (k + 5) (t := t0) (by omega)) (fun r16 h16 e16 => ?_)
          obtain ⟨rfl, rfl⟩ := e16
          rw [if_neg (by assumption)]
          first | refine pb_if_eqN g 25 dX7_cell_19 (by decide) (by omega) (fun c19 => ?_) (fun c19 => ?_) | refine pb_if_eq g 25 dX7_cell_19 (by decide) (fun c19 => ?_) (fun c19 => ?_)
          · refine pb_aload_n0 g dX7_cell_25 ?_
            refine pb_getf g fX7_22 dX7_cell_26 dr_o rfl ?_
            refine pb_iload_n1 g dX7_cell_29 ?_
            refine pb_aaldN g dX7_cell_30 dr_trs (by decide) (by omega) (by omega) (by rfl) ?_
            refine pb_iload_n2 g dX7_cell_31 ?_
            refine pb_iconst (v := nI 1) g dX7_cell_32 (by decide) ?_
            refine pb_Vi2 g qX7_95 dX7_cell_33 (k + 5) (by omega) (dr_tr (by omega)) (x_holds (k + 5) (t := t0) (zq := zz t0) (x := nI i0) (y := nI 1) (by omega) rfl (by omega)) (fun r33 h33 e33 => ?_)
            obtain ⟨rfl, rfl⟩ := e33
            rw [if_pos (by assumption)]
            first | refine pb_if_neN g 42 dX7_cell_36 (by decide) (by omega) (fun c36 => ?_) (fun c36 => ?_) | refine pb_if_ne g 42 dX7_cell_36 (by decide) (fun c36 => ?_) (fun c36 => ?_)
            · refine pb_aload_n0 g dX7_cell_42 ?_
              refine pb_getf g fX7_22 dX7_cell_43 dr_o rfl ?_
              refine pb_iload_n1 g dX7_cell_46 ?_
              refine pb_aaldN g dX7_cell_47 dr_trs (by decide) (by omega) (by omega) (by rfl) ?_
              refine pb_getf g fX7_99 dX7_cell_48 (dr_tr (by omega)) rfl ?_
              refine pb_iload_n2 g dX7_cell_51 ?_
              refine pb_aload_n0 g dX7_cell_52 ?_
              refine pb_getf g fX7_22 dX7_cell_53 dr_o rfl ?_
              refine pb_iload_n1 g dX7_cell_56 ?_
              refine pb_aaldN g dX7_cell_57 dr_trs (by decide) (by omega) (by omega) (by rfl) ?_
              refine pb_iload_n3 g dX7_cell_58 ?_
              refine pb_Vi1 g qX7_274 dX7_cell_59 (k + 5) (by omega) (dr_tr (by omega)) (x_narrowed (k + 5) (t := t0) (v := v) (by omega)) (fun r59 h59 e59 => ?_)
              obtain ⟨rfl, rfl⟩ := e59
              first | refine pb_iastN g dX7_cell_62 (by first | exact dr_it (by omega) | exact dr_pk (by omega) | exact dr_fr (by omega) | exact dr_kt | exact dr_bf | exact dr_pl | exact dr_lr | exact dr_nh | exact dr_lc | exact dr_bl | assumption) (by omega) (by omega) ?_ | refine pb_iast g dX7_cell_62 (by first | exact dr_it (by omega) | exact dr_pk (by omega) | exact dr_fr (by omega) | exact dr_kt | exact dr_bf | exact dr_pl | exact dr_lr | exact dr_nh | exact dr_lc | exact dr_bl | assumption) (by assumption) ?_
              rw [ds_it (by omega)]
              refine pb_iconst (v := nI 1) g dX7_cell_63 (by decide) ?_
              refine pb_iret g z dX7_cell_64 ?_
              exact ⟨_, rfl, by rw [e]; rfl, by rw [e]; exact ⟨_, _, _, _, _, _, _, _, _, _, _, rfl, d1, d2, fun t ht j hj => by
                by_cases q : t = t0
                · rw [q, va_upS, va_upS]
                  by_cases w : j = i0
                  · rw [upd, upd, if_pos w, if_pos w]
                  · rw [upd, upd, if_neg w, if_neg w]
                    exact d3 t0 ht0 j hj
                · rw [va_upN q, va_upN q]
                  exact d3 t ht j hj, d4⟩⟩
            · exact absurd c36 (by decide)
          · exact absurd c19 (by decide)
        · exact absurd c4 (by decide)
set_option maxHeartbeats 4000000 in
set_option maxRecDepth 100000 in
theorem x_copy (k : Nat) (q : SP) (t i u j m : Int32) (h : PH) (hD : IsD q h) (hI : SI q) : Runs yX7_copy cX7_copy 8 (some .int) (k + 6) [.ref 0, .int t, .int i, .int u, .int j, .int m] h (fun o h' => ∃ r : Int32, o = some (.int r) ∧ r = (sCopy q t i u j m).1 ∧ IsD ((sCopy q t i u j m).2) h') := by
  obtain ⟨⟨n, P, S, sd⟩, ⟨σ, μ, K, Hh⟩, ⟨ts, zz, it⟩, ⟨ra, tr⟩⟩ := q
  obtain ⟨⟨hn1, hn, hP, hS⟩, hσ, hK, hz, hra⟩ := hI
  obtain ⟨pk, fr, itd, jk, kd, hp, kt, ak, an, ah, jl, rfl, d1, d2, d3, d4⟩ := hD
  refine Runs.of (by decide) (Nat.le_of_ble_eq_true rfl) [some (.ref 0), some (.int t), some (.int i), some (.int u), some (.int j), some (.int m), none, none] 2 rfl (fun Γ g z => ?_)
  cases htx : ix t 4 with
  | none =>
    have e : sCopy ((n, P, S, sd), (σ, μ, K, Hh), (ts, zz, it), (ra, tr)) t i u j m = (-2, ((n, P, S, sd), (σ, μ, K, Hh), (ts, zz, it), (ra, tr))) := by simp only [sCopy, htx]
    have htn := ix_none (by decide) htx
    refine pb_iload_n1 g dX7_copy_0 ?_
    refine pb_Si1 g qX7_81 dX7_copy_1 (k + 5) (by omega) (x_isTrayF (k + 5) _ (by assumption) _) (fun r1 h1 e1 => ?_)
    obtain ⟨rfl, rfl⟩ := e1
    first | refine pb_if_eqN g 14 dX7_copy_4 (by decide) (by omega) (fun c4 => ?_) (fun c4 => ?_) | refine pb_if_eq g 14 dX7_copy_4 (by decide) (fun c4 => ?_) (fun c4 => ?_)
    · refine pb_bipush (v := -2) g dX7_copy_14 (by decide) ?_
      refine pb_iret g z dX7_copy_16 ?_
      exact ⟨_, rfl, by rw [e], by rw [e]; exact ⟨_, _, _, _, _, _, _, _, _, _, _, rfl, d1, d2, d3, d4⟩⟩
    · exact absurd c4 (by decide)
  | some t0 =>
    obtain ⟨ht0, rfl⟩ := ix_some (by decide) htx
    cases hox : ix u 4 with
    | none =>
      have e : sCopy ((n, P, S, sd), (σ, μ, K, Hh), (ts, zz, it), (ra, tr)) (nI t0) i u j m = (-2, ((n, P, S, sd), (σ, μ, K, Hh), (ts, zz, it), (ra, tr))) := by simp only [sCopy, htx, hox]
      have hon := ix_none (by decide) hox
      refine pb_iload_n1 g dX7_copy_0 ?_
      refine pb_Si1 g qX7_81 dX7_copy_1 (k + 5) (by omega) (x_isTrayT (k + 5) _ (by assumption) _) (fun r1 h1 e1 => ?_)
      obtain ⟨rfl, rfl⟩ := e1
      first | refine pb_if_eqN g 14 dX7_copy_4 (by decide) (by omega) (fun c4 => ?_) (fun c4 => ?_) | refine pb_if_eq g 14 dX7_copy_4 (by decide) (fun c4 => ?_) (fun c4 => ?_)
      · exact absurd c4 (by decide)
      · refine pb_iload_n3 g dX7_copy_7 ?_
        refine pb_Si1 g qX7_81 dX7_copy_8 (k + 5) (by omega) (x_isTrayF (k + 5) _ (by assumption) _) (fun r8 h8 e8 => ?_)
        obtain ⟨rfl, rfl⟩ := e8
        first | refine pb_if_neN g 17 dX7_copy_11 (by decide) (by omega) (fun c11 => ?_) (fun c11 => ?_) | refine pb_if_ne g 17 dX7_copy_11 (by decide) (fun c11 => ?_) (fun c11 => ?_)
        · exact absurd c11 (by decide)
        · refine pb_bipush (v := -2) g dX7_copy_14 (by decide) ?_
          refine pb_iret g z dX7_copy_16 ?_
          exact ⟨_, rfl, by rw [e], by rw [e]; exact ⟨_, _, _, _, _, _, _, _, _, _, _, rfl, d1, d2, d3, d4⟩⟩
    | some o0 =>
      obtain ⟨ho0, rfl⟩ := ix_some (by decide) hox
      have hz1 := (hz t0 ht0).1
      have hz2 := (hz o0 ho0).1
      by_cases hmi : ts t0 = -1
      · have e : sCopy ((n, P, S, sd), (σ, μ, K, Hh), (ts, zz, it), (ra, tr)) (nI t0) i (nI o0) j m = (-11, ((n, P, S, sd), (σ, μ, K, Hh), (ts, zz, it), (ra, tr))) := by
          simp only [sCopy, htx, hox]
          rw [if_pos (Or.inl hmi)]
        refine pb_iload_n1 g dX7_copy_0 ?_
        refine pb_Si1 g qX7_81 dX7_copy_1 (k + 5) (by omega) (x_isTrayT (k + 5) _ (by assumption) _) (fun r1 h1 e1 => ?_)
        obtain ⟨rfl, rfl⟩ := e1
        first | refine pb_if_eqN g 14 dX7_copy_4 (by decide) (by omega) (fun c4 => ?_) (fun c4 => ?_) | refine pb_if_eq g 14 dX7_copy_4 (by decide) (fun c4 => ?_) (fun c4 => ?_)
        · exact absurd c4 (by decide)
        · refine pb_iload_n3 g dX7_copy_7 ?_
          refine pb_Si1 g qX7_81 dX7_copy_8 (k + 5) (by omega) (x_isTrayT (k + 5) _ (by assumption) _) (fun r8 h8 e8 => ?_)
          obtain ⟨rfl, rfl⟩ := e8
          first | refine pb_if_neN g 17 dX7_copy_11 (by decide) (by omega) (fun c11 => ?_) (fun c11 => ?_) | refine pb_if_ne g 17 dX7_copy_11 (by decide) (fun c11 => ?_) (fun c11 => ?_)
          · refine pb_aload_n0 g dX7_copy_17 ?_
            refine pb_getf g fX7_22 dX7_copy_18 dr_o rfl ?_
            refine pb_iload_n1 g dX7_copy_21 ?_
            refine pb_aaldN g dX7_copy_22 dr_trs (by decide) (by omega) (by omega) (by rfl) ?_
            refine pb_astore6 g dX7_copy_23 (by decide) ?_
            refine pb_aload_n0 g dX7_copy_25 ?_
            refine pb_getf g fX7_22 dX7_copy_26 dr_o rfl ?_
            refine pb_iload_n3 g dX7_copy_29 ?_
            refine pb_aaldN g dX7_copy_30 dr_trs (by decide) (by omega) (by omega) (by rfl) ?_
            refine pb_astore7 g dX7_copy_31 (by decide) ?_
            refine pb_aload6 g dX7_copy_33 ?_
            refine pb_Vi0 g qX7_88 dX7_copy_35 (k + 5) (by omega) (dr_tr (by omega)) (x_isMissing (k + 5) (t := t0) (by omega)) (fun r35 h35 e35 => ?_)
            obtain ⟨rfl, rfl⟩ := e35
            rw [if_pos (by assumption)]
            first | refine pb_if_neN g 49 dX7_copy_38 (by decide) (by omega) (fun c38 => ?_) (fun c38 => ?_) | refine pb_if_ne g 49 dX7_copy_38 (by decide) (fun c38 => ?_) (fun c38 => ?_)
            · refine pb_bipush (v := -11) g dX7_copy_49 (by decide) ?_
              refine pb_iret g z dX7_copy_51 ?_
              exact ⟨_, rfl, by rw [e], by rw [e]; exact ⟨_, _, _, _, _, _, _, _, _, _, _, rfl, d1, d2, d3, d4⟩⟩
            · exact absurd c38 (by decide)
          · exact absurd c11 (by decide)
      · by_cases hmo : ts o0 = -1
        · have e : sCopy ((n, P, S, sd), (σ, μ, K, Hh), (ts, zz, it), (ra, tr)) (nI t0) i (nI o0) j m = (-11, ((n, P, S, sd), (σ, μ, K, Hh), (ts, zz, it), (ra, tr))) := by
            simp only [sCopy, htx, hox]
            rw [if_pos (Or.inr hmo)]
          refine pb_iload_n1 g dX7_copy_0 ?_
          refine pb_Si1 g qX7_81 dX7_copy_1 (k + 5) (by omega) (x_isTrayT (k + 5) _ (by assumption) _) (fun r1 h1 e1 => ?_)
          obtain ⟨rfl, rfl⟩ := e1
          first | refine pb_if_eqN g 14 dX7_copy_4 (by decide) (by omega) (fun c4 => ?_) (fun c4 => ?_) | refine pb_if_eq g 14 dX7_copy_4 (by decide) (fun c4 => ?_) (fun c4 => ?_)
          · exact absurd c4 (by decide)
          · refine pb_iload_n3 g dX7_copy_7 ?_
            refine pb_Si1 g qX7_81 dX7_copy_8 (k + 5) (by omega) (x_isTrayT (k + 5) _ (by assumption) _) (fun r8 h8 e8 => ?_)
            obtain ⟨rfl, rfl⟩ := e8
            first | refine pb_if_neN g 17 dX7_copy_11 (by decide) (by omega) (fun c11 => ?_) (fun c11 => ?_) | refine pb_if_ne g 17 dX7_copy_11 (by decide) (fun c11 => ?_) (fun c11 => ?_)
            · refine pb_aload_n0 g dX7_copy_17 ?_
              refine pb_getf g fX7_22 dX7_copy_18 dr_o rfl ?_
              refine pb_iload_n1 g dX7_copy_21 ?_
              refine pb_aaldN g dX7_copy_22 dr_trs (by decide) (by omega) (by omega) (by rfl) ?_
              refine pb_astore6 g dX7_copy_23 (by decide) ?_
              refine pb_aload_n0 g dX7_copy_25 ?_
              refine pb_getf g fX7_22 dX7_copy_26 dr_o rfl ?_
              refine pb_iload_n3 g dX7_copy_29 ?_
              refine pb_aaldN g dX7_copy_30 dr_trs (by decide) (by omega) (by omega) (by rfl) ?_
              refine pb_astore7 g dX7_copy_31 (by decide) ?_
              refine pb_aload6 g dX7_copy_33 ?_
              refine pb_Vi0 g qX7_88 dX7_copy_35 (k + 5) (by omega) (dr_tr (by omega)) (x_isMissing (k + 5) (t := t0) (by omega)) (fun r35 h35 e35 => ?_)
              obtain ⟨rfl, rfl⟩ := e35
              rw [if_neg (by assumption)]
              first | refine pb_if_neN g 49 dX7_copy_38 (by decide) (by omega) (fun c38 => ?_) (fun c38 => ?_) | refine pb_if_ne g 49 dX7_copy_38 (by decide) (fun c38 => ?_) (fun c38 => ?_)
              · exact absurd c38 (by decide)
              · refine pb_aload7 g dX7_copy_41 ?_
                refine pb_Vi0 g qX7_88 dX7_copy_43 (k + 5) (by omega) (dr_tr (by omega)) (x_isMissing (k + 5) (t := o0) (by omega)) (fun r43 h43 e43 => ?_)
                obtain ⟨rfl, rfl⟩ := e43
                rw [if_pos (by assumption)]
                first | refine pb_if_eqN g 52 dX7_copy_46 (by decide) (by omega) (fun c46 => ?_) (fun c46 => ?_) | refine pb_if_eq g 52 dX7_copy_46 (by decide) (fun c46 => ?_) (fun c46 => ?_)
                · exact absurd c46 (by decide)
                · refine pb_bipush (v := -11) g dX7_copy_49 (by decide) ?_
                  refine pb_iret g z dX7_copy_51 ?_
                  exact ⟨_, rfl, by rw [e], by rw [e]; exact ⟨_, _, _, _, _, _, _, _, _, _, _, rfl, d1, d2, d3, d4⟩⟩
            · exact absurd c11 (by decide)
        · have hno0 : ¬ (ts t0 = -1 ∨ ts o0 = -1) := fun z => z.elim hmi hmo
          by_cases hne : ts t0 = ts o0
          · by_cases hh1 : hdN (zz t0) i m
            · by_cases hh2 : hdN (zz o0) j m
              · have e : sCopy ((n, P, S, sd), (σ, μ, K, Hh), (ts, zz, it), (ra, tr)) (nI t0) i (nI o0) j m = (m, ((n, P, S, sd), (σ, μ, K, Hh), (ts, zz, va_up it o0 (va_cpy (it t0) (it o0) i.toNatClampNeg j.toNatClampNeg m.toNatClampNeg)), (ra, tr))) := by
                  simp only [sCopy, htx, hox]
                  rw [if_neg hno0, if_neg (fun z => z hne), if_pos ⟨hh1, hh2⟩]
                obtain ⟨i0, hi0, rfl⟩ := nI_of hh1.1
                obtain ⟨m0, hm0, rfl⟩ := nI_of hh1.2.1
                obtain ⟨j0, hj0, rfl⟩ := nI_of hh2.1
                have hb1 := (hdN_nI hi0 hm0).mp hh1
                have hb2 := (hdN_nI hj0 hm0).mp hh2
                rw [nI_clamp hi0, nI_clamp hj0, nI_clamp hm0] at e
                refine pb_iload_n1 g dX7_copy_0 ?_
                refine pb_Si1 g qX7_81 dX7_copy_1 (k + 5) (by omega) (x_isTrayT (k + 5) _ (by assumption) _) (fun r1 h1 e1 => ?_)
                obtain ⟨rfl, rfl⟩ := e1
                first | refine pb_if_eqN g 14 dX7_copy_4 (by decide) (by omega) (fun c4 => ?_) (fun c4 => ?_) | refine pb_if_eq g 14 dX7_copy_4 (by decide) (fun c4 => ?_) (fun c4 => ?_)
                · exact absurd c4 (by decide)
                · refine pb_iload_n3 g dX7_copy_7 ?_
                  refine pb_Si1 g qX7_81 dX7_copy_8 (k + 5) (by omega) (x_isTrayT (k + 5) _ (by assumption) _) (fun r8 h8 e8 => ?_)
                  obtain ⟨rfl, rfl⟩ := e8
                  first | refine pb_if_neN g 17 dX7_copy_11 (by decide) (by omega) (fun c11 => ?_) (fun c11 => ?_) | refine pb_if_ne g 17 dX7_copy_11 (by decide) (fun c11 => ?_) (fun c11 => ?_)
                  · refine pb_aload_n0 g dX7_copy_17 ?_
                    refine pb_getf g fX7_22 dX7_copy_18 dr_o rfl ?_
                    refine pb_iload_n1 g dX7_copy_21 ?_
                    refine pb_aaldN g dX7_copy_22 dr_trs (by decide) (by omega) (by omega) (by rfl) ?_
                    refine pb_astore6 g dX7_copy_23 (by decide) ?_
                    refine pb_aload_n0 g dX7_copy_25 ?_
                    refine pb_getf g fX7_22 dX7_copy_26 dr_o rfl ?_
                    refine pb_iload_n3 g dX7_copy_29 ?_
                    refine pb_aaldN g dX7_copy_30 dr_trs (by decide) (by omega) (by omega) (by rfl) ?_
                    refine pb_astore7 g dX7_copy_31 (by decide) ?_
                    refine pb_aload6 g dX7_copy_33 ?_
                    refine pb_Vi0 g qX7_88 dX7_copy_35 (k + 5) (by omega) (dr_tr (by omega)) (x_isMissing (k + 5) (t := t0) (by omega)) (fun r35 h35 e35 => ?_)
                    obtain ⟨rfl, rfl⟩ := e35
                    rw [if_neg (by assumption)]
                    first | refine pb_if_neN g 49 dX7_copy_38 (by decide) (by omega) (fun c38 => ?_) (fun c38 => ?_) | refine pb_if_ne g 49 dX7_copy_38 (by decide) (fun c38 => ?_) (fun c38 => ?_)
                    · exact absurd c38 (by decide)
                    · refine pb_aload7 g dX7_copy_41 ?_
                      refine pb_Vi0 g qX7_88 dX7_copy_43 (k + 5) (by omega) (dr_tr (by omega)) (x_isMissing (k + 5) (t := o0) (by omega)) (fun r43 h43 e43 => ?_)
                      obtain ⟨rfl, rfl⟩ := e43
                      rw [if_neg (by assumption)]
                      first | refine pb_if_eqN g 52 dX7_copy_46 (by decide) (by omega) (fun c46 => ?_) (fun c46 => ?_) | refine pb_if_eq g 52 dX7_copy_46 (by decide) (fun c46 => ?_) (fun c46 => ?_)
                      · refine pb_aload6 g dX7_copy_52 ?_
                        refine pb_getf g fX7_92 dX7_copy_54 (dr_tr (by omega)) rfl ?_
                        refine pb_aload7 g dX7_copy_57 ?_
                        refine pb_getf g fX7_92 dX7_copy_59 (dr_tr (by omega)) rfl ?_
                        first | refine pb_icmp_eqN g 68 dX7_copy_62 (by decide) (by omega) (by omega) (fun c62 => ?_) (fun c62 => ?_) | refine pb_icmp_eq g 68 dX7_copy_62 (by decide) (fun c62 => ?_) (fun c62 => ?_)
                        · refine pb_aload6 g dX7_copy_68 ?_
                          refine pb_iload_n2 g dX7_copy_70 ?_
                          refine pb_iload5 g dX7_copy_71 ?_
                          refine pb_Vi2 g qX7_95 dX7_copy_73 (k + 5) (by omega) (dr_tr (by omega)) (x_holds (k + 5) (t := t0) (zq := zz t0) (x := nI i0) (y := nI m0) (by omega) rfl (by omega)) (fun r73 h73 e73 => ?_)
                          obtain ⟨rfl, rfl⟩ := e73
                          rw [if_pos (by assumption)]
                          first | refine pb_if_eqN g 91 dX7_copy_76 (by decide) (by omega) (fun c76 => ?_) (fun c76 => ?_) | refine pb_if_eq g 91 dX7_copy_76 (by decide) (fun c76 => ?_) (fun c76 => ?_)
                          · exact absurd c76 (by decide)
                          · refine pb_aload7 g dX7_copy_79 ?_
                            refine pb_iload4 g dX7_copy_81 ?_
                            refine pb_iload5 g dX7_copy_83 ?_
                            refine pb_Vi2 g qX7_95 dX7_copy_85 (k + 5) (by omega) (dr_tr (by omega)) (x_holds (k + 5) (t := o0) (zq := zz o0) (x := nI j0) (y := nI m0) (by omega) rfl (by omega)) (fun r85 h85 e85 => ?_)
                            obtain ⟨rfl, rfl⟩ := e85
                            rw [if_pos (by assumption)]
                            first | refine pb_if_neN g 94 dX7_copy_88 (by decide) (by omega) (fun c88 => ?_) (fun c88 => ?_) | refine pb_if_ne g 94 dX7_copy_88 (by decide) (fun c88 => ?_) (fun c88 => ?_)
                            · refine pb_aload6 g dX7_copy_94 ?_
                              refine pb_getf g fX7_99 dX7_copy_96 (dr_tr (by omega)) rfl ?_
                              refine pb_iload_n2 g dX7_copy_99 ?_
                              refine pb_aload7 g dX7_copy_100 ?_
                              refine pb_getf g fX7_99 dX7_copy_102 (dr_tr (by omega)) rfl ?_
                              refine pb_iload4 g dX7_copy_105 ?_
                              refine pb_iload5 g dX7_copy_107 ?_
                              refine pb_copy g aX7_106.1 aX7_106.2.1 aX7_106.2.2.1 aX7_106.2.2.2 dX7_copy_109 (by first | exact dr_pk (by omega) | exact dr_fr (by omega) | exact dr_it (by omega) | exact dr_kt | exact dr_bf | exact dr_pl | exact dr_lr | exact dr_nh | exact dr_lc | exact dr_bl | assumption) (by first | exact dr_pk (by omega) | exact dr_fr (by omega) | exact dr_it (by omega) | exact dr_kt | exact dr_bf | exact dr_pl | exact dr_lr | exact dr_nh | exact dr_lc | exact dr_bl | assumption) (by omega) (by omega) (by omega) (by omega) (by omega) (Nat.le_of_ble_eq_true rfl) ?_
                              rw [ds_it (by omega)]
                              refine pb_iload5 g dX7_copy_112 ?_
                              refine pb_iret g z dX7_copy_114 ?_
                              exact ⟨_, rfl, by rw [e], by rw [e]; exact ⟨_, _, _, _, _, _, _, _, _, _, _, rfl, d1, d2, fun t ht a ha => by
                                by_cases q : t = o0
                                · rw [q, va_upS, va_upS]
                                  unfold va_cpy
                                  by_cases w : j0 ≤ a ∧ a < j0 + m0
                                  · rw [if_pos w, if_pos w]
                                    exact d3 t0 ht0 _ (by omega)
                                  · rw [if_neg w, if_neg w]
                                    exact d3 o0 ho0 a ha
                                · rw [va_upN q, va_upN q]
                                  exact d3 t ht a ha, d4⟩⟩
                            · exact absurd c88 (by decide)
                        · exact absurd hne c62
                      · exact absurd c46 (by decide)
                  · exact absurd c11 (by decide)
              · have e : sCopy ((n, P, S, sd), (σ, μ, K, Hh), (ts, zz, it), (ra, tr)) (nI t0) i (nI o0) j m = (-12, ((n, P, S, sd), (σ, μ, K, Hh), (ts, zz, it), (ra, tr))) := by
                  simp only [sCopy, htx, hox]
                  rw [if_neg hno0, if_neg (fun z => z hne), if_neg (fun z : hdN (zz t0) i m ∧ hdN (zz o0) j m => hh2 z.2)]
                refine pb_iload_n1 g dX7_copy_0 ?_
                refine pb_Si1 g qX7_81 dX7_copy_1 (k + 5) (by omega) (x_isTrayT (k + 5) _ (by assumption) _) (fun r1 h1 e1 => ?_)
                obtain ⟨rfl, rfl⟩ := e1
                first | refine pb_if_eqN g 14 dX7_copy_4 (by decide) (by omega) (fun c4 => ?_) (fun c4 => ?_) | refine pb_if_eq g 14 dX7_copy_4 (by decide) (fun c4 => ?_) (fun c4 => ?_)
                · exact absurd c4 (by decide)
                · refine pb_iload_n3 g dX7_copy_7 ?_
                  refine pb_Si1 g qX7_81 dX7_copy_8 (k + 5) (by omega) (x_isTrayT (k + 5) _ (by assumption) _) (fun r8 h8 e8 => ?_)
                  obtain ⟨rfl, rfl⟩ := e8
                  first | refine pb_if_neN g 17 dX7_copy_11 (by decide) (by omega) (fun c11 => ?_) (fun c11 => ?_) | refine pb_if_ne g 17 dX7_copy_11 (by decide) (fun c11 => ?_) (fun c11 => ?_)
                  · refine pb_aload_n0 g dX7_copy_17 ?_
                    refine pb_getf g fX7_22 dX7_copy_18 dr_o rfl ?_
                    refine pb_iload_n1 g dX7_copy_21 ?_
                    refine pb_aaldN g dX7_copy_22 dr_trs (by decide) (by omega) (by omega) (by rfl) ?_
                    refine pb_astore6 g dX7_copy_23 (by decide) ?_
                    refine pb_aload_n0 g dX7_copy_25 ?_
                    refine pb_getf g fX7_22 dX7_copy_26 dr_o rfl ?_
                    refine pb_iload_n3 g dX7_copy_29 ?_
                    refine pb_aaldN g dX7_copy_30 dr_trs (by decide) (by omega) (by omega) (by rfl) ?_
                    refine pb_astore7 g dX7_copy_31 (by decide) ?_
                    refine pb_aload6 g dX7_copy_33 ?_
                    refine pb_Vi0 g qX7_88 dX7_copy_35 (k + 5) (by omega) (dr_tr (by omega)) (x_isMissing (k + 5) (t := t0) (by omega)) (fun r35 h35 e35 => ?_)
                    obtain ⟨rfl, rfl⟩ := e35
                    rw [if_neg (by assumption)]
                    first | refine pb_if_neN g 49 dX7_copy_38 (by decide) (by omega) (fun c38 => ?_) (fun c38 => ?_) | refine pb_if_ne g 49 dX7_copy_38 (by decide) (fun c38 => ?_) (fun c38 => ?_)
                    · exact absurd c38 (by decide)
                    · refine pb_aload7 g dX7_copy_41 ?_
                      refine pb_Vi0 g qX7_88 dX7_copy_43 (k + 5) (by omega) (dr_tr (by omega)) (x_isMissing (k + 5) (t := o0) (by omega)) (fun r43 h43 e43 => ?_)
                      obtain ⟨rfl, rfl⟩ := e43
                      rw [if_neg (by assumption)]
                      first | refine pb_if_eqN g 52 dX7_copy_46 (by decide) (by omega) (fun c46 => ?_) (fun c46 => ?_) | refine pb_if_eq g 52 dX7_copy_46 (by decide) (fun c46 => ?_) (fun c46 => ?_)
                      · refine pb_aload6 g dX7_copy_52 ?_
                        refine pb_getf g fX7_92 dX7_copy_54 (dr_tr (by omega)) rfl ?_
                        refine pb_aload7 g dX7_copy_57 ?_
                        refine pb_getf g fX7_92 dX7_copy_59 (dr_tr (by omega)) rfl ?_
                        first | refine pb_icmp_eqN g 68 dX7_copy_62 (by decide) (by omega) (by omega) (fun c62 => ?_) (fun c62 => ?_) | refine pb_icmp_eq g 68 dX7_copy_62 (by decide) (fun c62 => ?_) (fun c62 => ?_)
                        · refine pb_aload6 g dX7_copy_68 ?_
                          refine pb_iload_n2 g dX7_copy_70 ?_
                          refine pb_iload5 g dX7_copy_71 ?_
                          refine pb_Vi2 g qX7_95 dX7_copy_73 (k + 5) (by omega) (dr_tr (by omega)) (x_holds (k + 5) (t := t0) (zq := zz t0) (x := i) (y := m) (by omega) rfl (by omega)) (fun r73 h73 e73 => ?_)
                          obtain ⟨rfl, rfl⟩ := e73
                          rw [if_pos (by assumption)]
                          first | refine pb_if_eqN g 91 dX7_copy_76 (by decide) (by omega) (fun c76 => ?_) (fun c76 => ?_) | refine pb_if_eq g 91 dX7_copy_76 (by decide) (fun c76 => ?_) (fun c76 => ?_)
                          · exact absurd c76 (by decide)
                          · refine pb_aload7 g dX7_copy_79 ?_
                            refine pb_iload4 g dX7_copy_81 ?_
                            refine pb_iload5 g dX7_copy_83 ?_
                            refine pb_Vi2 g qX7_95 dX7_copy_85 (k + 5) (by omega) (dr_tr (by omega)) (x_holds (k + 5) (t := o0) (zq := zz o0) (x := j) (y := m) (by omega) rfl (by omega)) (fun r85 h85 e85 => ?_)
                            obtain ⟨rfl, rfl⟩ := e85
                            rw [if_neg (by assumption)]
                            first | refine pb_if_neN g 94 dX7_copy_88 (by decide) (by omega) (fun c88 => ?_) (fun c88 => ?_) | refine pb_if_ne g 94 dX7_copy_88 (by decide) (fun c88 => ?_) (fun c88 => ?_)
                            · exact absurd c88 (by decide)
                            · refine pb_bipush (v := -12) g dX7_copy_91 (by decide) ?_
                              refine pb_iret g z dX7_copy_93 ?_
                              exact ⟨_, rfl, by rw [e], by rw [e]; exact ⟨_, _, _, _, _, _, _, _, _, _, _, rfl, d1, d2, d3, d4⟩⟩
                        · exact absurd hne c62
                      · exact absurd c46 (by decide)
                  · exact absurd c11 (by decide)
            · have e : sCopy ((n, P, S, sd), (σ, μ, K, Hh), (ts, zz, it), (ra, tr)) (nI t0) i (nI o0) j m = (-12, ((n, P, S, sd), (σ, μ, K, Hh), (ts, zz, it), (ra, tr))) := by
                simp only [sCopy, htx, hox]
                rw [if_neg hno0, if_neg (fun z => z hne), if_neg (fun z : hdN (zz t0) i m ∧ hdN (zz o0) j m => hh1 z.1)]
              refine pb_iload_n1 g dX7_copy_0 ?_
              refine pb_Si1 g qX7_81 dX7_copy_1 (k + 5) (by omega) (x_isTrayT (k + 5) _ (by assumption) _) (fun r1 h1 e1 => ?_)
              obtain ⟨rfl, rfl⟩ := e1
              first | refine pb_if_eqN g 14 dX7_copy_4 (by decide) (by omega) (fun c4 => ?_) (fun c4 => ?_) | refine pb_if_eq g 14 dX7_copy_4 (by decide) (fun c4 => ?_) (fun c4 => ?_)
              · exact absurd c4 (by decide)
              · refine pb_iload_n3 g dX7_copy_7 ?_
                refine pb_Si1 g qX7_81 dX7_copy_8 (k + 5) (by omega) (x_isTrayT (k + 5) _ (by assumption) _) (fun r8 h8 e8 => ?_)
                obtain ⟨rfl, rfl⟩ := e8
                first | refine pb_if_neN g 17 dX7_copy_11 (by decide) (by omega) (fun c11 => ?_) (fun c11 => ?_) | refine pb_if_ne g 17 dX7_copy_11 (by decide) (fun c11 => ?_) (fun c11 => ?_)
                · refine pb_aload_n0 g dX7_copy_17 ?_
                  refine pb_getf g fX7_22 dX7_copy_18 dr_o rfl ?_
                  refine pb_iload_n1 g dX7_copy_21 ?_
                  refine pb_aaldN g dX7_copy_22 dr_trs (by decide) (by omega) (by omega) (by rfl) ?_
                  refine pb_astore6 g dX7_copy_23 (by decide) ?_
                  refine pb_aload_n0 g dX7_copy_25 ?_
                  refine pb_getf g fX7_22 dX7_copy_26 dr_o rfl ?_
                  refine pb_iload_n3 g dX7_copy_29 ?_
                  refine pb_aaldN g dX7_copy_30 dr_trs (by decide) (by omega) (by omega) (by rfl) ?_
                  refine pb_astore7 g dX7_copy_31 (by decide) ?_
                  refine pb_aload6 g dX7_copy_33 ?_
                  refine pb_Vi0 g qX7_88 dX7_copy_35 (k + 5) (by omega) (dr_tr (by omega)) (x_isMissing (k + 5) (t := t0) (by omega)) (fun r35 h35 e35 => ?_)
                  obtain ⟨rfl, rfl⟩ := e35
                  rw [if_neg (by assumption)]
                  first | refine pb_if_neN g 49 dX7_copy_38 (by decide) (by omega) (fun c38 => ?_) (fun c38 => ?_) | refine pb_if_ne g 49 dX7_copy_38 (by decide) (fun c38 => ?_) (fun c38 => ?_)
                  · exact absurd c38 (by decide)
                  · refine pb_aload7 g dX7_copy_41 ?_
                    refine pb_Vi0 g qX7_88 dX7_copy_43 (k + 5) (by omega) (dr_tr (by omega)) (x_isMissing (k + 5) (t := o0) (by omega)) (fun r43 h43 e43 => ?_)
                    obtain ⟨rfl, rfl⟩ := e43
                    rw [if_neg (by assumption)]
                    first | refine pb_if_eqN g 52 dX7_copy_46 (by decide) (by omega) (fun c46 => ?_) (fun c46 => ?_) | refine pb_if_eq g 52 dX7_copy_46 (by decide) (fun c46 => ?_) (fun c46 => ?_)
                    · refine pb_aload6 g dX7_copy_52 ?_
                      refine pb_getf g fX7_92 dX7_copy_54 (dr_tr (by omega)) rfl ?_
                      refine pb_aload7 g dX7_copy_57 ?_
                      refine pb_getf g fX7_92 dX7_copy_59 (dr_tr (by omega)) rfl ?_
                      first | refine pb_icmp_eqN g 68 dX7_copy_62 (by decide) (by omega) (by omega) (fun c62 => ?_) (fun c62 => ?_) | refine pb_icmp_eq g 68 dX7_copy_62 (by decide) (fun c62 => ?_) (fun c62 => ?_)
                      · refine pb_aload6 g dX7_copy_68 ?_
                        refine pb_iload_n2 g dX7_copy_70 ?_
                        refine pb_iload5 g dX7_copy_71 ?_
                        refine pb_Vi2 g qX7_95 dX7_copy_73 (k + 5) (by omega) (dr_tr (by omega)) (x_holds (k + 5) (t := t0) (zq := zz t0) (x := i) (y := m) (by omega) rfl (by omega)) (fun r73 h73 e73 => ?_)
                        obtain ⟨rfl, rfl⟩ := e73
                        rw [if_neg (by assumption)]
                        first | refine pb_if_eqN g 91 dX7_copy_76 (by decide) (by omega) (fun c76 => ?_) (fun c76 => ?_) | refine pb_if_eq g 91 dX7_copy_76 (by decide) (fun c76 => ?_) (fun c76 => ?_)
                        · refine pb_bipush (v := -12) g dX7_copy_91 (by decide) ?_
                          refine pb_iret g z dX7_copy_93 ?_
                          exact ⟨_, rfl, by rw [e], by rw [e]; exact ⟨_, _, _, _, _, _, _, _, _, _, _, rfl, d1, d2, d3, d4⟩⟩
                        · exact absurd c76 (by decide)
                      · exact absurd hne c62
                    · exact absurd c46 (by decide)
                · exact absurd c11 (by decide)
          · have e : sCopy ((n, P, S, sd), (σ, μ, K, Hh), (ts, zz, it), (ra, tr)) (nI t0) i (nI o0) j m = (-13, ((n, P, S, sd), (σ, μ, K, Hh), (ts, zz, it), (ra, tr))) := by
              simp only [sCopy, htx, hox]
              rw [if_neg hno0, if_pos hne]
            refine pb_iload_n1 g dX7_copy_0 ?_
            refine pb_Si1 g qX7_81 dX7_copy_1 (k + 5) (by omega) (x_isTrayT (k + 5) _ (by assumption) _) (fun r1 h1 e1 => ?_)
            obtain ⟨rfl, rfl⟩ := e1
            first | refine pb_if_eqN g 14 dX7_copy_4 (by decide) (by omega) (fun c4 => ?_) (fun c4 => ?_) | refine pb_if_eq g 14 dX7_copy_4 (by decide) (fun c4 => ?_) (fun c4 => ?_)
            · exact absurd c4 (by decide)
            · refine pb_iload_n3 g dX7_copy_7 ?_
              refine pb_Si1 g qX7_81 dX7_copy_8 (k + 5) (by omega) (x_isTrayT (k + 5) _ (by assumption) _) (fun r8 h8 e8 => ?_)
              obtain ⟨rfl, rfl⟩ := e8
              first | refine pb_if_neN g 17 dX7_copy_11 (by decide) (by omega) (fun c11 => ?_) (fun c11 => ?_) | refine pb_if_ne g 17 dX7_copy_11 (by decide) (fun c11 => ?_) (fun c11 => ?_)
              · refine pb_aload_n0 g dX7_copy_17 ?_
                refine pb_getf g fX7_22 dX7_copy_18 dr_o rfl ?_
                refine pb_iload_n1 g dX7_copy_21 ?_
                refine pb_aaldN g dX7_copy_22 dr_trs (by decide) (by omega) (by omega) (by rfl) ?_
                refine pb_astore6 g dX7_copy_23 (by decide) ?_
                refine pb_aload_n0 g dX7_copy_25 ?_
                refine pb_getf g fX7_22 dX7_copy_26 dr_o rfl ?_
                refine pb_iload_n3 g dX7_copy_29 ?_
                refine pb_aaldN g dX7_copy_30 dr_trs (by decide) (by omega) (by omega) (by rfl) ?_
                refine pb_astore7 g dX7_copy_31 (by decide) ?_
                refine pb_aload6 g dX7_copy_33 ?_
                refine pb_Vi0 g qX7_88 dX7_copy_35 (k + 5) (by omega) (dr_tr (by omega)) (x_isMissing (k + 5) (t := t0) (by omega)) (fun r35 h35 e35 => ?_)
                obtain ⟨rfl, rfl⟩ := e35
                rw [if_neg (by assumption)]
                first | refine pb_if_neN g 49 dX7_copy_38 (by decide) (by omega) (fun c38 => ?_) (fun c38 => ?_) | refine pb_if_ne g 49 dX7_copy_38 (by decide) (fun c38 => ?_) (fun c38 => ?_)
                · exact absurd c38 (by decide)
                · refine pb_aload7 g dX7_copy_41 ?_
                  refine pb_Vi0 g qX7_88 dX7_copy_43 (k + 5) (by omega) (dr_tr (by omega)) (x_isMissing (k + 5) (t := o0) (by omega)) (fun r43 h43 e43 => ?_)
                  obtain ⟨rfl, rfl⟩ := e43
                  rw [if_neg (by assumption)]
                  first | refine pb_if_eqN g 52 dX7_copy_46 (by decide) (by omega) (fun c46 => ?_) (fun c46 => ?_) | refine pb_if_eq g 52 dX7_copy_46 (by decide) (fun c46 => ?_) (fun c46 => ?_)
                  · refine pb_aload6 g dX7_copy_52 ?_
                    refine pb_getf g fX7_92 dX7_copy_54 (dr_tr (by omega)) rfl ?_
                    refine pb_aload7 g dX7_copy_57 ?_
                    refine pb_getf g fX7_92 dX7_copy_59 (dr_tr (by omega)) rfl ?_
                    first | refine pb_icmp_eqN g 68 dX7_copy_62 (by decide) (by omega) (by omega) (fun c62 => ?_) (fun c62 => ?_) | refine pb_icmp_eq g 68 dX7_copy_62 (by decide) (fun c62 => ?_) (fun c62 => ?_)
                    · exact absurd c62 hne
                    · refine pb_bipush (v := -13) g dX7_copy_65 (by decide) ?_
                      refine pb_iret g z dX7_copy_67 ?_
                      exact ⟨_, rfl, by rw [e], by rw [e]; exact ⟨_, _, _, _, _, _, _, _, _, _, _, rfl, d1, d2, d3, d4⟩⟩
                  · exact absurd c46 (by decide)
              · exact absurd c11 (by decide)
