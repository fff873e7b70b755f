/-! ===== the desk: chances ===== -/
set_option maxHeartbeats 4000000 in
set_option maxRecDepth 100000 in
theorem x_hasChances (k : Nat) {pc sc sd ar ak an ah : Int32} {pk fr it jk : Nat → Nat → Int32} {kd hp ts tz kt : Nat → Int32} {jl : Nat → Nat → Int64} {s n K a : Nat} (hs : s < 10) (hk : kd s = nI K) (hh : hp s = nI a) (hK : K < 5) (ha1 : 1 ≤ a) (ha : a ≤ 10) (hn : n ≤ 10) {x : Int32} : Runs yX7_hasChances cX7_hasChances 3 (some .boolean) (k + 1) [.ref 0, .ref (15 + s), .int x] (mkH 52 (dkF (nI n) pc sc sd pk fr it kd hp ts tz ar ak an ah kt jk jl)) (fun o h' => ∃ r : Int32, o = some (.int r) ∧ r = (if hcX n K a x = true then nI 1 else nI 0) ∧ mkH 52 (dkF (nI n) pc sc sd pk fr it kd hp ts tz ar ak an ah kt jk jl) = h') := by
  refine Runs.of (by decide) (Nat.le_of_ble_eq_true rfl) [some (.ref 0), some (.ref (15 + s)), some (.int x)] 0 rfl (fun Γ g z => ?_)
  by_cases hk3 : K < 3
  · have e : hcX n K a x = false := by
      unfold hcX
      cases ix x 7 with
      | none => rfl
      | some k0 => simp [hcB, show ¬ 3 ≤ K by omega]
    refine pb_aload_n1 g dX7_hasChances_0 ?_
    refine pb_Vi0 g qX7_151 dX7_hasChances_1 k (by omega) (dr_sh (by omega)) (x_hasMove k (s := s) (K := K) (by omega) hk hK) (fun r1 h1 e1 => ?_)
    obtain ⟨rfl, rfl⟩ := e1
    rw [if_pos hk3]
    first | refine pb_if_neN g 17 dX7_hasChances_4 (by decide) (by omega) (fun c4 => ?_) (fun c4 => ?_) | refine pb_if_ne g 17 dX7_hasChances_4 (by decide) (fun c4 => ?_) (fun c4 => ?_)
    · refine pb_iconst (v := nI 0) g dX7_hasChances_17 (by decide) ?_
      refine pb_zret g z dX7_hasChances_18 (by first | rfl | decide) ?_
      exact ⟨_, rfl, by rw [e]; rfl, rfl⟩
    · exact absurd c4 (by decide)
  · cases hx : ix x 7 with
    | none =>
      have e : hcX n K a x = false := by simp only [hcX, hx]
      have hxn := inN_not (by decide) (ix_none (by decide) hx)
      have hx6 : x < 0 ∨ ¬ x ≤ nI 6 := hxn.imp id (fun q w => absurd (Int32.le_trans q w) (by decide))
      refine pb_aload_n1 g dX7_hasChances_0 ?_
      refine pb_Vi0 g qX7_151 dX7_hasChances_1 k (by omega) (dr_sh (by omega)) (x_hasMove k (s := s) (K := K) (by omega) hk hK) (fun r1 h1 e1 => ?_)
      obtain ⟨rfl, rfl⟩ := e1
      rw [if_neg hk3]
      first | refine pb_if_neN g 17 dX7_hasChances_4 (by decide) (by omega) (fun c4 => ?_) (fun c4 => ?_) | refine pb_if_ne g 17 dX7_hasChances_4 (by decide) (fun c4 => ?_) (fun c4 => ?_)
      · exact absurd c4 (by decide)
      · refine pb_iload_n2 g dX7_hasChances_7 ?_
        refine pb_if_lt g 17 dX7_hasChances_8 (by decide) (fun c8 => ?_) (fun c8 => ?_)
        · refine pb_iconst (v := nI 0) g dX7_hasChances_17 (by decide) ?_
          refine pb_zret g z dX7_hasChances_18 (by first | rfl | decide) ?_
          exact ⟨_, rfl, by rw [e]; rfl, rfl⟩
        · refine pb_iload_n2 g dX7_hasChances_11 ?_
          refine pb_bipush (v := nI 6) g dX7_hasChances_12 (by decide) ?_
          first | refine pb_icmp_leN g 19 dX7_hasChances_14 (by decide) (by omega) (by omega) (fun c14 => ?_) (fun c14 => ?_) | refine pb_icmp_le g 19 dX7_hasChances_14 (by decide) (fun c14 => ?_) (fun c14 => ?_)
          · exact absurd hx6 (fun q => q.elim c8 (fun w => w c14))
          · refine pb_iconst (v := nI 0) g dX7_hasChances_17 (by decide) ?_
            refine pb_zret g z dX7_hasChances_18 (by first | rfl | decide) ?_
            exact ⟨_, rfl, by rw [e]; rfl, rfl⟩
    | some k0 =>
      obtain ⟨hk0, rfl⟩ := ix_some (by decide) hx
      have hpw := pow_10 (a := a) (k := k0) ha (by omega)
      by_cases h4 : K = 4
      · by_cases h6 : n ≤ 6
        · have e : hcX n K a (nI k0) = true := by simp only [hcX, hx]; simp [hcB, h4, h6]
          refine pb_aload_n1 g dX7_hasChances_0 ?_
          refine pb_Vi0 g qX7_151 dX7_hasChances_1 k (by omega) (dr_sh (by omega)) (x_hasMove k (s := s) (K := K) (by omega) hk hK) (fun r1 h1 e1 => ?_)
          obtain ⟨rfl, rfl⟩ := e1
          rw [if_neg hk3]
          first | refine pb_if_neN g 17 dX7_hasChances_4 (by decide) (by omega) (fun c4 => ?_) (fun c4 => ?_) | refine pb_if_ne g 17 dX7_hasChances_4 (by decide) (fun c4 => ?_) (fun c4 => ?_)
          · exact absurd c4 (by decide)
          · refine pb_iload_n2 g dX7_hasChances_7 ?_
            refine pb_if_ltN g 17 dX7_hasChances_8 (by decide) (by omega) ?_
            refine pb_iload_n2 g dX7_hasChances_11 ?_
            refine pb_bipush (v := nI 6) g dX7_hasChances_12 (by decide) ?_
            first | refine pb_icmp_leN g 19 dX7_hasChances_14 (by decide) (by omega) (by omega) (fun c14 => ?_) (fun c14 => ?_) | refine pb_icmp_le g 19 dX7_hasChances_14 (by decide) (fun c14 => ?_) (fun c14 => ?_)
            · refine pb_aload_n1 g dX7_hasChances_19 ?_
              refine pb_getf g fX7_158 dX7_hasChances_20 (dr_sh (by omega)) rfl ?_
              rw [hk]
              refine pb_iconst (v := nI 4) g dX7_hasChances_23 (by decide) ?_
              first | refine pb_icmp_neN g 44 dX7_hasChances_24 (by decide) (by omega) (by omega) (fun c24 => ?_) (fun c24 => ?_) | refine pb_icmp_ne g 44 dX7_hasChances_24 (by decide) (fun c24 => ?_) (fun c24 => ?_)
              · exact absurd h4 c24
              · refine pb_aload_n0 g dX7_hasChances_27 ?_
                refine pb_getf g fX7_33 dX7_hasChances_28 dr_o rfl ?_
                refine pb_bipush (v := nI 6) g dX7_hasChances_31 (by decide) ?_
                first | refine pb_icmp_gtN g 40 dX7_hasChances_33 (by decide) (by omega) (by omega) (fun c33 => ?_) (fun c33 => ?_) | refine pb_icmp_gt g 40 dX7_hasChances_33 (by decide) (fun c33 => ?_) (fun c33 => ?_)
                · exact absurd c33 (by omega)
                · refine pb_iconst (v := nI 1) g dX7_hasChances_36 (by decide) ?_
                  refine pb_goto g 65 dX7_hasChances_37 (by decide) ?_
                  refine pb_zret g z dX7_hasChances_65 (by first | rfl | decide) ?_
                  exact ⟨_, rfl, by rw [e]; rfl, rfl⟩
            · exact absurd c14 (by omega)
        · have e : hcX n K a (nI k0) = false := by simp only [hcX, hx]; simp [hcB, h4, h6]
          refine pb_aload_n1 g dX7_hasChances_0 ?_
          refine pb_Vi0 g qX7_151 dX7_hasChances_1 k (by omega) (dr_sh (by omega)) (x_hasMove k (s := s) (K := K) (by omega) hk hK) (fun r1 h1 e1 => ?_)
          obtain ⟨rfl, rfl⟩ := e1
          rw [if_neg hk3]
          first | refine pb_if_neN g 17 dX7_hasChances_4 (by decide) (by omega) (fun c4 => ?_) (fun c4 => ?_) | refine pb_if_ne g 17 dX7_hasChances_4 (by decide) (fun c4 => ?_) (fun c4 => ?_)
          · exact absurd c4 (by decide)
          · refine pb_iload_n2 g dX7_hasChances_7 ?_
            refine pb_if_ltN g 17 dX7_hasChances_8 (by decide) (by omega) ?_
            refine pb_iload_n2 g dX7_hasChances_11 ?_
            refine pb_bipush (v := nI 6) g dX7_hasChances_12 (by decide) ?_
            first | refine pb_icmp_leN g 19 dX7_hasChances_14 (by decide) (by omega) (by omega) (fun c14 => ?_) (fun c14 => ?_) | refine pb_icmp_le g 19 dX7_hasChances_14 (by decide) (fun c14 => ?_) (fun c14 => ?_)
            · refine pb_aload_n1 g dX7_hasChances_19 ?_
              refine pb_getf g fX7_158 dX7_hasChances_20 (dr_sh (by omega)) rfl ?_
              rw [hk]
              refine pb_iconst (v := nI 4) g dX7_hasChances_23 (by decide) ?_
              first | refine pb_icmp_neN g 44 dX7_hasChances_24 (by decide) (by omega) (by omega) (fun c24 => ?_) (fun c24 => ?_) | refine pb_icmp_ne g 44 dX7_hasChances_24 (by decide) (fun c24 => ?_) (fun c24 => ?_)
              · exact absurd h4 c24
              · refine pb_aload_n0 g dX7_hasChances_27 ?_
                refine pb_getf g fX7_33 dX7_hasChances_28 dr_o rfl ?_
                refine pb_bipush (v := nI 6) g dX7_hasChances_31 (by decide) ?_
                first | refine pb_icmp_gtN g 40 dX7_hasChances_33 (by decide) (by omega) (by omega) (fun c33 => ?_) (fun c33 => ?_) | refine pb_icmp_gt g 40 dX7_hasChances_33 (by decide) (fun c33 => ?_) (fun c33 => ?_)
                · refine pb_iconst (v := nI 0) g dX7_hasChances_40 (by decide) ?_
                  refine pb_goto g 65 dX7_hasChances_41 (by decide) ?_
                  refine pb_zret g z dX7_hasChances_65 (by first | rfl | decide) ?_
                  exact ⟨_, rfl, by rw [e]; rfl, rfl⟩
                · exact absurd c33 (by omega)
            · exact absurd c14 (by omega)
      · by_cases h10 : a ^ k0 ≤ 10
        · have e : hcX n K a (nI k0) = true := by simp only [hcX, hx]; simp [hcB, h4, h10, show 3 ≤ K by omega]
          refine pb_aload_n1 g dX7_hasChances_0 ?_
          refine pb_Vi0 g qX7_151 dX7_hasChances_1 k (by omega) (dr_sh (by omega)) (x_hasMove k (s := s) (K := K) (by omega) hk hK) (fun r1 h1 e1 => ?_)
          obtain ⟨rfl, rfl⟩ := e1
          rw [if_neg hk3]
          first | refine pb_if_neN g 17 dX7_hasChances_4 (by decide) (by omega) (fun c4 => ?_) (fun c4 => ?_) | refine pb_if_ne g 17 dX7_hasChances_4 (by decide) (fun c4 => ?_) (fun c4 => ?_)
          · exact absurd c4 (by decide)
          · refine pb_iload_n2 g dX7_hasChances_7 ?_
            refine pb_if_ltN g 17 dX7_hasChances_8 (by decide) (by omega) ?_
            refine pb_iload_n2 g dX7_hasChances_11 ?_
            refine pb_bipush (v := nI 6) g dX7_hasChances_12 (by decide) ?_
            first | refine pb_icmp_leN g 19 dX7_hasChances_14 (by decide) (by omega) (by omega) (fun c14 => ?_) (fun c14 => ?_) | refine pb_icmp_le g 19 dX7_hasChances_14 (by decide) (fun c14 => ?_) (fun c14 => ?_)
            · refine pb_aload_n1 g dX7_hasChances_19 ?_
              refine pb_getf g fX7_158 dX7_hasChances_20 (dr_sh (by omega)) rfl ?_
              rw [hk]
              refine pb_iconst (v := nI 4) g dX7_hasChances_23 (by decide) ?_
              first | refine pb_icmp_neN g 44 dX7_hasChances_24 (by decide) (by omega) (by omega) (fun c24 => ?_) (fun c24 => ?_) | refine pb_icmp_ne g 44 dX7_hasChances_24 (by decide) (fun c24 => ?_) (fun c24 => ?_)
              · refine pb_aload_n1 g dX7_hasChances_44 ?_
                refine pb_getf g fX7_161 dX7_hasChances_45 (dr_sh (by omega)) rfl ?_
                rw [hh]
                first | refine pb_i2lN g dX7_hasChances_48 (by omega) ?_ | refine pb_i2l g dX7_hasChances_48 ?_
                refine pb_iload_n2 g dX7_hasChances_49 ?_
                refine pb_Sl2 g qX7_183 dX7_hasChances_50 k (by omega) (c_raised k a k0 (by omega) _) (fun r50 h50 e50 => ?_)
                obtain ⟨rfl, rfl⟩ := e50
                refine pb_ldc2w (w := lN 10) g kX7_286 (by decide) dX7_hasChances_53 ?_
                first | refine pb_lc_gtN g 64 dX7_hasChances_56 dX7_hasChances_57 (by decide) (by omega) (by omega) (fun c56 => ?_) (fun c56 => ?_) | refine pb_lc_gt g 64 dX7_hasChances_56 dX7_hasChances_57 (by decide) (fun c56 => ?_) (fun c56 => ?_)
                · exact absurd c56 (by omega)
                · refine pb_iconst (v := nI 1) g dX7_hasChances_60 (by decide) ?_
                  refine pb_goto g 65 dX7_hasChances_61 (by decide) ?_
                  refine pb_zret g z dX7_hasChances_65 (by first | rfl | decide) ?_
                  exact ⟨_, rfl, by rw [e]; rfl, rfl⟩
              · exact absurd c24 h4
            · exact absurd c14 (by omega)
        · have e : hcX n K a (nI k0) = false := by simp only [hcX, hx]; simp [hcB, h4, h10]
          refine pb_aload_n1 g dX7_hasChances_0 ?_
          refine pb_Vi0 g qX7_151 dX7_hasChances_1 k (by omega) (dr_sh (by omega)) (x_hasMove k (s := s) (K := K) (by omega) hk hK) (fun r1 h1 e1 => ?_)
          obtain ⟨rfl, rfl⟩ := e1
          rw [if_neg hk3]
          first | refine pb_if_neN g 17 dX7_hasChances_4 (by decide) (by omega) (fun c4 => ?_) (fun c4 => ?_) | refine pb_if_ne g 17 dX7_hasChances_4 (by decide) (fun c4 => ?_) (fun c4 => ?_)
          · exact absurd c4 (by decide)
          · refine pb_iload_n2 g dX7_hasChances_7 ?_
            refine pb_if_ltN g 17 dX7_hasChances_8 (by decide) (by omega) ?_
            refine pb_iload_n2 g dX7_hasChances_11 ?_
            refine pb_bipush (v := nI 6) g dX7_hasChances_12 (by decide) ?_
            first | refine pb_icmp_leN g 19 dX7_hasChances_14 (by decide) (by omega) (by omega) (fun c14 => ?_) (fun c14 => ?_) | refine pb_icmp_le g 19 dX7_hasChances_14 (by decide) (fun c14 => ?_) (fun c14 => ?_)
            · refine pb_aload_n1 g dX7_hasChances_19 ?_
              refine pb_getf g fX7_158 dX7_hasChances_20 (dr_sh (by omega)) rfl ?_
              rw [hk]
              refine pb_iconst (v := nI 4) g dX7_hasChances_23 (by decide) ?_
              first | refine pb_icmp_neN g 44 dX7_hasChances_24 (by decide) (by omega) (by omega) (fun c24 => ?_) (fun c24 => ?_) | refine pb_icmp_ne g 44 dX7_hasChances_24 (by decide) (fun c24 => ?_) (fun c24 => ?_)
              · refine pb_aload_n1 g dX7_hasChances_44 ?_
                refine pb_getf g fX7_161 dX7_hasChances_45 (dr_sh (by omega)) rfl ?_
                rw [hh]
                first | refine pb_i2lN g dX7_hasChances_48 (by omega) ?_ | refine pb_i2l g dX7_hasChances_48 ?_
                refine pb_iload_n2 g dX7_hasChances_49 ?_
                refine pb_Sl2 g qX7_183 dX7_hasChances_50 k (by omega) (c_raised k a k0 (by omega) _) (fun r50 h50 e50 => ?_)
                obtain ⟨rfl, rfl⟩ := e50
                refine pb_ldc2w (w := lN 10) g kX7_286 (by decide) dX7_hasChances_53 ?_
                first | refine pb_lc_gtN g 64 dX7_hasChances_56 dX7_hasChances_57 (by decide) (by omega) (by omega) (fun c56 => ?_) (fun c56 => ?_) | refine pb_lc_gt g 64 dX7_hasChances_56 dX7_hasChances_57 (by decide) (fun c56 => ?_) (fun c56 => ?_)
                · refine pb_iconst (v := nI 0) g dX7_hasChances_64 (by decide) ?_
                  refine pb_zret g z dX7_hasChances_65 (by first | rfl | decide) ?_
                  exact ⟨_, rfl, by rw [e]; rfl, rfl⟩
                · exact absurd c56 (by omega)
              · exact absurd c24 h4
            · exact absurd c14 (by omega)
set_option maxHeartbeats 4000000 in
set_option maxRecDepth 100000 in
theorem x_allRows (k : Nat) {pc sc sd ar ak an ah : Int32} {pk fr it jk : Nat → Nat → Int32} {kd hp ts tz kt : Nat → Int32} {jl : Nat → Nat → Int64} {s n K a : Nat} (hs : s < 10) (hk : kd s = nI K) (hh : hp s = nI a) (hK : K < 5) (ha1 : 1 ≤ a) (ha : a ≤ 10) (hn : n ≤ 10) {k0 : Nat} (hk0 : k0 < 7) : Runs yX7_allRows cX7_allRows 3 (some .long) (k + 1) [.ref 0, .ref (15 + s), .int (nI k0)] (mkH 52 (dkF (nI n) pc sc sd pk fr it kd hp ts tz ar ak an ah kt jk jl)) (fun o h' => ∃ r : Int64, o = some (.long r) ∧ r = lN (allF n K a k0) ∧ mkH 52 (dkF (nI n) pc sc sd pk fr it kd hp ts tz ar ak an ah kt jk jl) = h') := by
  refine Runs.of (by decide) (Nat.le_of_ble_eq_true rfl) [some (.ref 0), some (.ref (15 + s)), some (.int (nI k0))] 0 rfl (fun Γ g z => ?_)
  have hl : (if K = 4 then 1 else n) ≤ 10 := by split <;> omega
  have hm : k0 * (if K = 4 then 1 else n) ≤ 6 * 10 := Nat.mul_le_mul (by omega) hl
  refine pb_aload_n1 g dX7_allRows_0 ?_
  refine pb_getf g fX7_161 dX7_allRows_1 (dr_sh (by omega)) rfl ?_
  rw [hh]
  first | refine pb_i2lN g dX7_allRows_4 (by omega) ?_ | refine pb_i2l g dX7_allRows_4 ?_
  refine pb_iload_n2 g dX7_allRows_5 ?_
  refine pb_aload_n0 g dX7_allRows_6 ?_
  refine pb_aload_n1 g dX7_allRows_7 ?_
  refine pb_Vi1 g qX7_179 dX7_allRows_8 k (by omega) dr_o (x_lotsOf k (s := s) (K := K) (n := n) (by omega) hk hK) (fun r8 h8 e8 => ?_)
  obtain ⟨rfl, rfl⟩ := e8
  first | refine pb_imulN g dX7_allRows_11 ?_ | refine pb_imul g dX7_allRows_11 ?_
  refine pb_Sl2 g qX7_183 dX7_allRows_12 k (by omega) (c_raised k a (k0 * (if K = 4 then 1 else n)) (by omega) _) (fun r12 h12 e12 => ?_)
  obtain ⟨rfl, rfl⟩ := e12
  refine pb_lret g z dX7_allRows_15 ?_
  exact ⟨_, rfl, rfl, rfl⟩
set_option maxHeartbeats 4000000 in
set_option maxRecDepth 100000 in
theorem x_levelOf (k : Nat) {pc sc sd ar ak an ah : Int32} {pk fr it jk : Nat → Nat → Int32} {kd hp ts tz kt : Nat → Int32} {jl : Nat → Nat → Int64} {s n K a : Nat} (hs : s < 10) (hk : kd s = nI K) (hh : hp s = nI a) (hK : K < 5) (ha1 : 1 ≤ a) (ha : a ≤ 10) (hn : n ≤ 10) (hn1 : 1 ≤ n) {p : Nat} {o : Nat → Nat} (hp12 : p < 12) (hpm : IsPm n o) (hf : ∀ j, j < n → pk p j = nI (o j)) : Runs yX7_levelOf cX7_levelOf 3 (some .int) (k + 1) [.ref 0, .ref (15 + s), .ref (2 + p)] (mkH 52 (dkF (nI n) pc sc sd pk fr it kd hp ts tz ar ak an ah kt jk jl)) (fun oo h' => ∃ r : Int32, oo = some (.int r) ∧ r = nI (lvF n K o) ∧ ∃ f' : Nat → Int32, mkH 52 (dkF (nI n) pc sc sd pk fr it kd hp ts tz ar ak an ah kt (va_up jk 1 f') jl) = h') := by
  refine Runs.of (by decide) (Nat.le_of_ble_eq_true rfl) [some (.ref 0), some (.ref (15 + s)), some (.ref (2 + p))] 0 rfl (fun Γ g z => ?_)
  have hb10 : ∀ j, j < n → o j < 10 := fun j hj => by have := hpm.1 j hj; omega
  have hpl : ∀ j, j < n → va_up jk 1 (bkF o (jk 1) n) 1 j = nI (bkN o n j) := fun j hj => by rw [va_upS]; exact (bk_pm hpm _ j hj).1
  have hpb : ∀ j, j < n → bkN o n j < 10 := fun j hj => by have := (bkN_pm hpm).1 j hj; omega
  have hrb := rnL_bd (bkN o n) (n - 1)
  refine pb_aload_n2 g dX7_levelOf_0 ?_
  refine pb_aload_n0 g dX7_levelOf_1 ?_
  refine pb_getf g fX7_50 dX7_levelOf_2 dr_o rfl ?_
  refine pb_aload_n0 g dX7_levelOf_5 ?_
  refine pb_getf g fX7_33 dX7_levelOf_6 dr_o rfl ?_
  refine pb_Sv3 g qX7_118 dX7_levelOf_9 k (by omega) (c_setBack k n (2 + p) 47 hn (by omega) (pk p) (jk 1) o hf hb10 _ (dr_pk (by omega)) dr_pl) (fun h9 e9 => ?_)
  subst e9
  rw [ds_pl]
  refine pb_aload_n1 g dX7_levelOf_12 ?_
  refine pb_getf g fX7_158 dX7_levelOf_13 (dr_sh (by omega)) rfl ?_
  rw [hk]
  refine pb_iconst (v := nI 4) g dX7_levelOf_16 (by decide) ?_
  first | refine pb_icmp_neN g 34 dX7_levelOf_17 (by decide) (by omega) (by omega) (fun c17 => ?_) (fun c17 => ?_) | refine pb_icmp_ne g 34 dX7_levelOf_17 (by decide) (fun c17 => ?_) (fun c17 => ?_)
  · refine pb_aload_n0 g dX7_levelOf_34 ?_
    refine pb_getf g fX7_50 dX7_levelOf_35 dr_o rfl ?_
    refine pb_aload_n0 g dX7_levelOf_38 ?_
    refine pb_getf g fX7_33 dX7_levelOf_39 dr_o rfl ?_
    refine pb_Si2 g qX7_126 dX7_levelOf_42 k (by omega) (c_runsOf k n 47 hn hn1 _ (bkN o n) hpl hpb _ dr_pl) (fun r42 h42 e42 => ?_)
    obtain ⟨rfl, rfl⟩ := e42
    refine pb_iconst (v := nI 1) g dX7_levelOf_45 (by decide) ?_
    first | refine pb_isubN g dX7_levelOf_46 (by omega) ?_ | refine pb_isub g dX7_levelOf_46 ?_
    refine pb_iret g z dX7_levelOf_47 ?_
    exact ⟨_, rfl, by first | rw [lvF, if_pos (by omega)] | rw [lvF, if_neg (by omega)], _, rfl⟩
  · refine pb_aload_n0 g dX7_levelOf_20 ?_
    refine pb_getf g fX7_50 dX7_levelOf_21 dr_o rfl ?_
    refine pb_aload_n0 g dX7_levelOf_24 ?_
    refine pb_getf g fX7_33 dX7_levelOf_25 dr_o rfl ?_
    refine pb_Si2 g qX7_288 dX7_levelOf_28 k (by omega) (c_looseOf k n 47 hn hn1 _ (bkN o n) hpl hpb _ dr_pl) (fun r28 h28 e28 => ?_)
    obtain ⟨rfl, rfl⟩ := e28
    refine pb_goto g 47 dX7_levelOf_31 (by decide) ?_
    refine pb_iret g z dX7_levelOf_47 ?_
    exact ⟨_, rfl, by first | rw [lvF, if_pos (by omega)] | rw [lvF, if_neg (by omega)], _, rfl⟩
set_option maxHeartbeats 4000000 in
set_option maxRecDepth 100000 in
theorem x_countLevels (k : Nat) {pc sc sd ar ak an ah : Int32} {pk fr it jk : Nat → Nat → Int32} {kd hp ts tz kt : Nat → Int32} {jl : Nat → Nat → Int64} {s n K a : Nat} (hs : s < 10) (hk : kd s = nI K) (hh : hp s = nI a) (hK : K < 5) (ha1 : 1 ≤ a) (ha : a ≤ 10) (hn : n ≤ 10) (hn1 : 1 ≤ n) : Runs yX7_countLevels cX7_countLevels 2 none (k + 1) [.ref 0, .ref (15 + s)] (mkH 52 (dkF (nI n) pc sc sd pk fr it kd hp ts tz ar ak an ah kt jk jl)) (fun oo h' => oo = none ∧ ∃ f' : Nat → Int64, mkH 52 (dkF (nI n) pc sc sd pk fr it kd hp ts tz ar ak an ah kt jk (va_up jl 0 f')) = h' ∧ ∀ l, l < n → f' l = lN (ctF n K l)) := by
  refine Runs.of (by decide) (Nat.le_of_ble_eq_true rfl) [some (.ref 0), some (.ref (15 + s))] 0 rfl (fun Γ g z => ?_)
  refine pb_aload_n1 g dX7_countLevels_0 ?_
  refine pb_getf g fX7_158 dX7_countLevels_1 (dr_sh (by omega)) rfl ?_
  rw [hk]
  refine pb_iconst (v := nI 4) g dX7_countLevels_4 (by decide) ?_
  first | refine pb_icmp_neN g 22 dX7_countLevels_5 (by decide) (by omega) (by omega) (fun c5 => ?_) (fun c5 => ?_) | refine pb_icmp_ne g 22 dX7_countLevels_5 (by decide) (fun c5 => ?_) (fun c5 => ?_)
  · refine pb_aload_n0 g dX7_countLevels_22 ?_
    refine pb_getf g fX7_59 dX7_countLevels_23 dr_o rfl ?_
    refine pb_aload_n0 g dX7_countLevels_26 ?_
    refine pb_getf g fX7_33 dX7_countLevels_27 dr_o rfl ?_
    refine pb_Sv2 g qX7_244 dX7_countLevels_30 k (by omega) (c_setRunCounts k n 50 hn hn1 (jl 0) _ dr_lc) (fun h30 e30 => ?_)
    obtain ⟨f9, rfl, hf9⟩ := e30
    rw [ds_lc]
    refine pb_vret g z dX7_countLevels_33 ?_
    exact ⟨rfl, f9, rfl, fun l hl => by rw [hf9 l hl]; first | rw [ctF, if_pos (by omega)] | rw [ctF, if_neg (by omega)]⟩
  · refine pb_aload_n0 g dX7_countLevels_8 ?_
    refine pb_getf g fX7_59 dX7_countLevels_9 dr_o rfl ?_
    refine pb_aload_n0 g dX7_countLevels_12 ?_
    refine pb_getf g fX7_33 dX7_countLevels_13 dr_o rfl ?_
    refine pb_Sv2 g qX7_291 dX7_countLevels_16 k (by omega) (c_setLooseCounts k n 50 hn (jl 0) _ dr_lc) (fun h16 e16 => ?_)
    obtain ⟨f9, rfl, hf9⟩ := e16
    rw [ds_lc]
    refine pb_goto g 33 dX7_countLevels_19 (by decide) ?_
    refine pb_vret g z dX7_countLevels_33 ?_
    exact ⟨rfl, f9, rfl, fun l hl => by rw [hf9 l hl]; first | rw [ctF, if_pos (by omega)] | rw [ctF, if_neg (by omega)]⟩
set_option maxHeartbeats 4000000 in
set_option maxRecDepth 100000 in
theorem x_rowsToLevel (k : Nat) {pc sc sd ar ak an ah : Int32} {pk fr it jk : Nat → Nat → Int32} {kd hp ts tz kt : Nat → Int32} {jl : Nat → Nat → Int64} {s n K a : Nat} (hs : s < 10) (hk : kd s = nI K) (hh : hp s = nI a) (hK : K < 5) (ha1 : 1 ≤ a) (ha : a ≤ 10) (hn : n ≤ 10) (hn1 : 1 ≤ n) {k0 lv : Nat} (hk0 : k0 < 7) (hlv : lv < n) (hc : ¬ K = 4 → a ^ k0 ≤ 10) : Runs yX7_rowsToLevel cX7_rowsToLevel 7 (some .long) (k + 1) [.ref 0, .ref (15 + s), .int (nI k0), .int (nI lv)] (mkH 52 (dkF (nI n) pc sc sd pk fr it kd hp ts tz ar ak an ah kt jk jl)) (fun oo h' => ∃ r : Int64, oo = some (.long r) ∧ r = lN (rwF n K a k0 lv) ∧ ∃ jl' : Nat → Nat → Int64, mkH 52 (dkF (nI n) pc sc sd pk fr it kd hp ts tz ar ak an ah kt jk (jl')) = h' ∧ jl' 0 = jl 0) := by
  refine Runs.of (by decide) (Nat.le_of_ble_eq_true rfl) [some (.ref 0), some (.ref (15 + s)), some (.int (nI k0)), some (.int (nI lv)), none, none, none] 3 rfl (fun Γ g z => ?_)
  by_cases h4 : K = 4
  · have e : rwF n K a k0 lv = stS k0 lv (n + 1 - lv) := by rw [rwF, if_pos h4]
    have loop : ∀ f9 : Nat → Int64, (∀ j, j ≤ n → f9 j = lN (stir k0 j)) → ∀ d, d ≤ n + 1 - lv → PB Γ 53 [some (.ref 0), some (.ref (15 + s)), some (.int (nI k0)), some (.int (nI lv)), some (.long (lN (stS k0 lv d))), none, some (.int (nI (lv + d)))] [] (mkH 52 (dkF (nI n) pc sc sd pk fr it kd hp ts tz ar ak an ah kt jk (va_up jl 1 f9))) := by
      intro f9 hf9
      refine pb_loop (n + 1 - lv) (fun d hd ih => ?_)
      refine pb_iload6 g dX7_rowsToLevel_53 ?_
      refine pb_aload_n0 g dX7_rowsToLevel_55 ?_
      refine pb_getf g fX7_33 dX7_rowsToLevel_56 dr_o rfl ?_
      first | refine pb_icmp_gtN g 80 dX7_rowsToLevel_59 (by decide) (by omega) (by omega) (fun c59 => ?_) (fun c59 => ?_) | refine pb_icmp_gt g 80 dX7_rowsToLevel_59 (by decide) (fun c59 => ?_) (fun c59 => ?_)
      · refine pb_lload4 g dX7_rowsToLevel_80 ?_
        refine pb_lret g z dX7_rowsToLevel_82 ?_
        exact ⟨_, rfl, by rw [e, show d = n + 1 - lv by omega], _, rfl, va_upN (by decide)⟩
      · refine pb_lload4 g dX7_rowsToLevel_62 ?_
        refine pb_aload_n0 g dX7_rowsToLevel_64 ?_
        refine pb_getf g fX7_63 dX7_rowsToLevel_65 dr_o rfl ?_
        refine pb_iload6 g dX7_rowsToLevel_68 ?_
        first | refine pb_laldN g dX7_rowsToLevel_70 (by first | exact dr_bl | exact dr_pk (by omega) | exact dr_fr (by omega) | exact dr_it (by omega) | exact dr_kt | exact dr_bf | exact dr_pl | exact dr_lr | exact dr_nh | exact dr_lc | assumption) (by omega) (by omega) ?_ | refine pb_lald g dX7_rowsToLevel_70 (by first | exact dr_bl | exact dr_pk (by omega) | exact dr_fr (by omega) | exact dr_it (by omega) | exact dr_kt | exact dr_bf | exact dr_pl | exact dr_lr | exact dr_nh | exact dr_lc | assumption) (by assumption) ?_
        rw [va_upS, hf9 (lv + d) (by omega)]
        first | refine pb_laddN g dX7_rowsToLevel_71 ?_ | refine pb_ladd g dX7_rowsToLevel_71 ?_
        refine pb_lstore4 g dX7_rowsToLevel_72 (by decide) ?_
        first | refine pb_iinc6N g dX7_rowsToLevel_74 (by decide) ?_ | refine pb_iinc6 g dX7_rowsToLevel_74 (by decide) rfl ?_
        refine pb_goto g 53 dX7_rowsToLevel_77 (by decide) ?_
        exact ih (by omega)
    refine pb_aload_n1 g dX7_rowsToLevel_0 ?_
    refine pb_getf g fX7_158 dX7_rowsToLevel_1 (dr_sh (by omega)) rfl ?_
    rw [hk]
    refine pb_iconst (v := nI 4) g dX7_rowsToLevel_4 (by decide) ?_
    first | refine pb_icmp_eqN g 35 dX7_rowsToLevel_5 (by decide) (by omega) (by omega) (fun c5 => ?_) (fun c5 => ?_) | refine pb_icmp_eq g 35 dX7_rowsToLevel_5 (by decide) (fun c5 => ?_) (fun c5 => ?_)
    · refine pb_aload_n0 g dX7_rowsToLevel_35 ?_
      refine pb_getf g fX7_63 dX7_rowsToLevel_36 dr_o rfl ?_
      refine pb_aload_n0 g dX7_rowsToLevel_39 ?_
      refine pb_getf g fX7_33 dX7_rowsToLevel_40 dr_o rfl ?_
      refine pb_iload_n2 g dX7_rowsToLevel_43 ?_
      refine pb_Sv3 g qX7_298 dX7_rowsToLevel_44 k (by omega) (c_setBlocks k n 51 k0 hn (by omega) (jl 1) _ dr_bl) (fun h44 e44 => ?_)
      obtain ⟨f9, rfl, hf9⟩ := e44
      rw [ds_bl]
      refine pb_lconst (v := lN 0) g dX7_rowsToLevel_47 rfl ?_
      refine pb_lstore4 g dX7_rowsToLevel_48 (by decide) ?_
      refine pb_iload_n3 g dX7_rowsToLevel_50 ?_
      refine pb_istore6 g dX7_rowsToLevel_51 (by decide) ?_
      exact loop f9 hf9 0 (Nat.zero_le _)
    · exact absurd h4 c5
  · have e : rwF n K a k0 lv = choF (a ^ k0 + n - 1 - lv) n := by rw [rwF, if_neg h4]
    have hc := hc h4
    refine pb_aload_n1 g dX7_rowsToLevel_0 ?_
    refine pb_getf g fX7_158 dX7_rowsToLevel_1 (dr_sh (by omega)) rfl ?_
    rw [hk]
    refine pb_iconst (v := nI 4) g dX7_rowsToLevel_4 (by decide) ?_
    first | refine pb_icmp_eqN g 35 dX7_rowsToLevel_5 (by decide) (by omega) (by omega) (fun c5 => ?_) (fun c5 => ?_) | refine pb_icmp_eq g 35 dX7_rowsToLevel_5 (by decide) (fun c5 => ?_) (fun c5 => ?_)
    · exact absurd c5 h4
    · refine pb_aload_n1 g dX7_rowsToLevel_8 ?_
      refine pb_getf g fX7_161 dX7_rowsToLevel_9 (dr_sh (by omega)) rfl ?_
      rw [hh]
      first | refine pb_i2lN g dX7_rowsToLevel_12 (by omega) ?_ | refine pb_i2l g dX7_rowsToLevel_12 ?_
      refine pb_iload_n2 g dX7_rowsToLevel_13 ?_
      refine pb_Sl2 g qX7_183 dX7_rowsToLevel_14 k (by omega) (c_raised k a k0 (by omega) _) (fun r14 h14 e14 => ?_)
      obtain ⟨rfl, rfl⟩ := e14
      first | refine pb_l2iN g dX7_rowsToLevel_17 ?_ | refine pb_l2i g dX7_rowsToLevel_17 ?_
      refine pb_aload_n0 g dX7_rowsToLevel_18 ?_
      refine pb_getf g fX7_33 dX7_rowsToLevel_19 dr_o rfl ?_
      first | refine pb_iaddN g dX7_rowsToLevel_22 ?_ | refine pb_iadd g dX7_rowsToLevel_22 ?_
      refine pb_iconst (v := nI 1) g dX7_rowsToLevel_23 (by decide) ?_
      first | refine pb_isubN g dX7_rowsToLevel_24 (by omega) ?_ | refine pb_isub g dX7_rowsToLevel_24 ?_
      refine pb_iload_n3 g dX7_rowsToLevel_25 ?_
      first | refine pb_isubN g dX7_rowsToLevel_26 (by omega) ?_ | refine pb_isub g dX7_rowsToLevel_26 ?_
      refine pb_aload_n0 g dX7_rowsToLevel_27 ?_
      refine pb_getf g fX7_33 dX7_rowsToLevel_28 dr_o rfl ?_
      refine pb_Sl2 g qX7_294 dX7_rowsToLevel_31 k (by omega) (c_choices k (a ^ k0 + n - 1 - lv) n (by omega) (by omega) _) (fun r31 h31 e31 => ?_)
      obtain ⟨rfl, rfl⟩ := e31
      refine pb_lret g z dX7_rowsToLevel_34 ?_
      exact ⟨_, rfl, by rw [e], _, rfl, rfl⟩
set_option maxHeartbeats 4000000 in
set_option maxRecDepth 100000 in
theorem x_chance (k : Nat) (q : SP) (s x p w : Int32) (h : PH) (hD : IsD q h) (hI : SI q) : Runs yX7_chance cX7_chance 6 (some .long) (k + 6) [.ref 0, .int s, .int x, .int p, .int w] h (fun o h' => ∃ r : Int64, o = some (.long r) ∧ r = sChance q s x p w ∧ IsD (q) h') := by
  obtain ⟨⟨n, P, S, sd⟩, ⟨σ, μ, K, Hh⟩, ⟨ts, zz, it⟩, ⟨ra, tr⟩⟩ := q
  obtain ⟨⟨hn1, hn, hP, hS⟩, hσ, hK, hz, hra⟩ := hI
  obtain ⟨pk, fr, itd, jk, kd, hp, kt, ak, an, ah, jl, rfl, d1, d2, d3, d4⟩ := hD
  refine Runs.of (by decide) (Nat.le_of_ble_eq_true rfl) [some (.ref 0), some (.int s), some (.int x), some (.int p), some (.int w), none] 1 rfl (fun Γ g z => ?_)
  cases hs : ix s S with
  | none =>
    have e : sChance ((n, P, S, sd), (σ, μ, K, Hh), (ts, zz, it), (ra, tr)) s x p w = NOL := by simp only [sChance, hs]
    have hsn := ix_none (by omega) hs
    refine pb_aload_n0 g dX7_chance_0 ?_
    refine pb_iload_n1 g dX7_chance_1 ?_
    refine pb_Vi1 g qX7_148 dX7_chance_2 (k + 5) (by omega) dr_o (x_isShuffleF (k + 5) (by assumption) hS) (fun r2 h2 e2 => ?_)
    obtain ⟨rfl, rfl⟩ := e2
    first | refine pb_if_eqN g 38 dX7_chance_5 (by decide) (by omega) (fun c5 => ?_) (fun c5 => ?_) | refine pb_if_eq g 38 dX7_chance_5 (by decide) (fun c5 => ?_) (fun c5 => ?_)
    · refine pb_ldc2w (w := (-4611686018427387904)) g kX7_193 (by decide) dX7_chance_38 ?_
      refine pb_lret g z dX7_chance_41 ?_
      exact ⟨_, rfl, by rw [e]; rfl, ⟨_, _, _, _, _, _, _, _, _, _, _, rfl, d1, d2, d3, d4⟩⟩
    · exact absurd c5 (by decide)
  | some s0 =>
    obtain ⟨hs0, rfl⟩ := ix_some (by omega) hs
    cases hpx : ix p P with
    | none =>
      have e : sChance ((n, P, S, sd), (σ, μ, K, Hh), (ts, zz, it), (ra, tr)) (nI s0) x p w = NOL := by simp only [sChance, hs, hpx]
      have hpn := ix_none (by omega) hpx
      refine pb_aload_n0 g dX7_chance_0 ?_
      refine pb_iload_n1 g dX7_chance_1 ?_
      refine pb_Vi1 g qX7_148 dX7_chance_2 (k + 5) (by omega) dr_o (x_isShuffleT (k + 5) (by assumption) hS) (fun r2 h2 e2 => ?_)
      obtain ⟨rfl, rfl⟩ := e2
      first | refine pb_if_eqN g 38 dX7_chance_5 (by decide) (by omega) (fun c5 => ?_) (fun c5 => ?_) | refine pb_if_eq g 38 dX7_chance_5 (by decide) (fun c5 => ?_) (fun c5 => ?_)
      · exact absurd c5 (by decide)
      · refine pb_aload_n0 g dX7_chance_8 ?_
        refine pb_iload_n3 g dX7_chance_9 ?_
        refine pb_Vi1 g qX7_112 dX7_chance_10 (k + 5) (by omega) dr_o (x_isPackF (k + 5) (by assumption) hP) (fun r10 h10 e10 => ?_)
        obtain ⟨rfl, rfl⟩ := e10
        first | refine pb_if_eqN g 38 dX7_chance_13 (by decide) (by omega) (fun c13 => ?_) (fun c13 => ?_) | refine pb_if_eq g 38 dX7_chance_13 (by decide) (fun c13 => ?_) (fun c13 => ?_)
        · refine pb_ldc2w (w := (-4611686018427387904)) g kX7_193 (by decide) dX7_chance_38 ?_
          refine pb_lret g z dX7_chance_41 ?_
          exact ⟨_, rfl, by rw [e]; rfl, ⟨_, _, _, _, _, _, _, _, _, _, _, rfl, d1, d2, d3, d4⟩⟩
        · exact absurd c13 (by decide)
    | some p0 =>
      obtain ⟨hp0, rfl⟩ := ix_some (by omega) hpx
      cases hw : ix w 2 with
      | none =>
        have e : sChance ((n, P, S, sd), (σ, μ, K, Hh), (ts, zz, it), (ra, tr)) (nI s0) x (nI p0) w = NOL := by simp only [sChance, hs, hpx, hw]
        have hwn := ix_none (by decide) hw
        refine pb_aload_n0 g dX7_chance_0 ?_
        refine pb_iload_n1 g dX7_chance_1 ?_
        refine pb_Vi1 g qX7_148 dX7_chance_2 (k + 5) (by omega) dr_o (x_isShuffleT (k + 5) (by assumption) hS) (fun r2 h2 e2 => ?_)
        obtain ⟨rfl, rfl⟩ := e2
        first | refine pb_if_eqN g 38 dX7_chance_5 (by decide) (by omega) (fun c5 => ?_) (fun c5 => ?_) | refine pb_if_eq g 38 dX7_chance_5 (by decide) (fun c5 => ?_) (fun c5 => ?_)
        · exact absurd c5 (by decide)
        · refine pb_aload_n0 g dX7_chance_8 ?_
          refine pb_iload_n3 g dX7_chance_9 ?_
          refine pb_Vi1 g qX7_112 dX7_chance_10 (k + 5) (by omega) dr_o (x_isPackT (k + 5) (by assumption) hP) (fun r10 h10 e10 => ?_)
          obtain ⟨rfl, rfl⟩ := e10
          first | refine pb_if_eqN g 38 dX7_chance_13 (by decide) (by omega) (fun c13 => ?_) (fun c13 => ?_) | refine pb_if_eq g 38 dX7_chance_13 (by decide) (fun c13 => ?_) (fun c13 => ?_)
          · exact absurd c13 (by decide)
          · refine pb_iload4 g dX7_chance_16 ?_
            refine pb_Si1 g qX7_198 dX7_chance_18 (k + 5) (by omega) (x_isPartF (k + 5) _ (by assumption) _) (fun r18 h18 e18 => ?_)
            obtain ⟨rfl, rfl⟩ := e18
            first | refine pb_if_eqN g 38 dX7_chance_21 (by decide) (by omega) (fun c21 => ?_) (fun c21 => ?_) | refine pb_if_eq g 38 dX7_chance_21 (by decide) (fun c21 => ?_) (fun c21 => ?_)
            · refine pb_ldc2w (w := (-4611686018427387904)) g kX7_193 (by decide) dX7_chance_38 ?_
              refine pb_lret g z dX7_chance_41 ?_
              exact ⟨_, rfl, by rw [e]; rfl, ⟨_, _, _, _, _, _, _, _, _, _, _, rfl, d1, d2, d3, d4⟩⟩
            · exact absurd c21 (by decide)
      | some w0 =>
        obtain ⟨hw0, rfl⟩ := ix_some (by decide) hw
        have hKs := hK s0 hs0
        by_cases hcx : hcX n (K s0) (Hh s0) x = true
        · cases hx : ix x 7 with
          | none => simp [hcX, hx] at hcx
          | some k0 =>
            obtain ⟨hk0, rfl⟩ := ix_some (by decide) hx
            have hcb : hcB n (K s0) (Hh s0) k0 = true := by simpa [hcX, hx] using hcx
            have e : sChance ((n, P, S, sd), (σ, μ, K, Hh), (ts, zz, it), (ra, tr)) (nI s0) (nI k0) (nI p0) (nI w0) = frL (rwF n (K s0) (Hh s0) k0 (lvF n (K s0) (σ p0))) (allF n (K s0) (Hh s0) k0) w0 := by simp only [sChance, hs, hpx, hw, hx, if_pos hcb]
            obtain ⟨⟨f1, f2⟩, f3, f4⟩ := hc_facts hn1 hn hKs.1 hKs.2.1 hKs.2.2.1 hKs.2.2.2.1 hk0 hcb
            have hlv : lvF n (K s0) (σ p0) < n := lvF_lt hn1
            have f3 := f3 _ hlv
            refine pb_aload_n0 g dX7_chance_0 ?_
            refine pb_iload_n1 g dX7_chance_1 ?_
            refine pb_Vi1 g qX7_148 dX7_chance_2 (k + 5) (by omega) dr_o (x_isShuffleT (k + 5) (by assumption) hS) (fun r2 h2 e2 => ?_)
            obtain ⟨rfl, rfl⟩ := e2
            first | refine pb_if_eqN g 38 dX7_chance_5 (by decide) (by omega) (fun c5 => ?_) (fun c5 => ?_) | refine pb_if_eq g 38 dX7_chance_5 (by decide) (fun c5 => ?_) (fun c5 => ?_)
            · exact absurd c5 (by decide)
            · refine pb_aload_n0 g dX7_chance_8 ?_
              refine pb_iload_n3 g dX7_chance_9 ?_
              refine pb_Vi1 g qX7_112 dX7_chance_10 (k + 5) (by omega) dr_o (x_isPackT (k + 5) (by assumption) hP) (fun r10 h10 e10 => ?_)
              obtain ⟨rfl, rfl⟩ := e10
              first | refine pb_if_eqN g 38 dX7_chance_13 (by decide) (by omega) (fun c13 => ?_) (fun c13 => ?_) | refine pb_if_eq g 38 dX7_chance_13 (by decide) (fun c13 => ?_) (fun c13 => ?_)
              · exact absurd c13 (by decide)
              · refine pb_iload4 g dX7_chance_16 ?_
                refine pb_Si1 g qX7_198 dX7_chance_18 (k + 5) (by omega) (x_isPartT (k + 5) _ (by assumption) _) (fun r18 h18 e18 => ?_)
                obtain ⟨rfl, rfl⟩ := e18
                first | refine pb_if_eqN g 38 dX7_chance_21 (by decide) (by omega) (fun c21 => ?_) (fun c21 => ?_) | refine pb_if_eq g 38 dX7_chance_21 (by decide) (fun c21 => ?_) (fun c21 => ?_)
                · exact absurd c21 (by decide)
                · refine pb_aload_n0 g dX7_chance_24 ?_
                  refine pb_aload_n0 g dX7_chance_25 ?_
                  refine pb_getf g fX7_16 dX7_chance_26 dr_o rfl ?_
                  refine pb_iload_n1 g dX7_chance_29 ?_
                  refine pb_aaldN g dX7_chance_30 dr_shs (by decide) (by omega) (by omega) (by rfl) ?_
                  refine pb_iload_n2 g dX7_chance_31 ?_
                  refine pb_Vi2 g qX7_201 dX7_chance_32 (k + 5) (by omega) dr_o (x_hasChances (k + 4) (s := s0) (n := n) (K := K s0) (a := Hh s0) (by omega) (d2 s0 hs0).1 (d2 s0 hs0).2.1 hKs.1 hKs.2.1 hKs.2.2.1 hn) (fun r32 h32 e32 => ?_)
                  obtain ⟨rfl, rfl⟩ := e32
                  rw [if_pos hcx]
                  first | refine pb_if_neN g 42 dX7_chance_35 (by decide) (by omega) (fun c35 => ?_) (fun c35 => ?_) | refine pb_if_ne g 42 dX7_chance_35 (by decide) (fun c35 => ?_) (fun c35 => ?_)
                  · refine pb_aload_n0 g dX7_chance_42 ?_
                    refine pb_getf g fX7_16 dX7_chance_43 dr_o rfl ?_
                    refine pb_iload_n1 g dX7_chance_46 ?_
                    refine pb_aaldN g dX7_chance_47 dr_shs (by decide) (by omega) (by omega) (by rfl) ?_
                    refine pb_astore5 g dX7_chance_48 (by decide) ?_
                    refine pb_aload_n0 g dX7_chance_50 ?_
                    refine pb_aload5 g dX7_chance_51 ?_
                    refine pb_iload_n2 g dX7_chance_53 ?_
                    refine pb_aload_n0 g dX7_chance_54 ?_
                    refine pb_aload5 g dX7_chance_55 ?_
                    refine pb_aload_n0 g dX7_chance_57 ?_
                    refine pb_getf g fX7_11 dX7_chance_58 dr_o rfl ?_
                    refine pb_iload_n3 g dX7_chance_61 ?_
                    refine pb_aaldN g dX7_chance_62 dr_packs (by decide) (by omega) (by omega) (by rfl) ?_
                    refine pb_Vi2 g qX7_205 dX7_chance_63 (k + 5) (by omega) dr_o (x_levelOf (k + 4) (s := s0) (n := n) (K := K s0) (a := Hh s0) (by omega) (d2 s0 hs0).1 (d2 s0 hs0).2.1 hKs.1 hKs.2.1 hKs.2.2.1 hn hn1 (p := p0) (o := σ p0) (by omega) (hσ p0 hp0) (d1 p0 hp0)) (fun r63 h63 e63 => ?_)
                    obtain ⟨rfl, f9, rfl⟩ := e63
                    refine pb_Vl3 g qX7_209 dX7_chance_66 (k + 5) (by omega) dr_o (x_rowsToLevel (k + 4) (s := s0) (n := n) (K := K s0) (a := Hh s0) (by omega) (d2 s0 hs0).1 (d2 s0 hs0).2.1 hKs.1 hKs.2.1 hKs.2.2.1 hn hn1 hk0 hlv (fun q => (hcB_3 hKs.1 q hcb).2)) (fun r66 h66 e66 => ?_)
                    obtain ⟨rfl, j9, rfl, hj9⟩ := e66
                    refine pb_aload_n0 g dX7_chance_69 ?_
                    refine pb_aload5 g dX7_chance_70 ?_
                    refine pb_iload_n2 g dX7_chance_72 ?_
                    refine pb_Vl2 g qX7_213 dX7_chance_73 (k + 5) (by omega) dr_o (x_allRows (k + 4) (s := s0) (n := n) (K := K s0) (a := Hh s0) (by omega) (d2 s0 hs0).1 (d2 s0 hs0).2.1 hKs.1 hKs.2.1 hKs.2.2.1 hn hk0) (fun r73 h73 e73 => ?_)
                    obtain ⟨rfl, rfl⟩ := e73
                    refine pb_iload4 g dX7_chance_76 ?_
                    refine pb_Sl3 g qX7_217 dX7_chance_78 (k + 5) (by omega) (c_part (k + 3) _ _ w0 (by omega) (by omega) f1 hw0 _) (fun r78 h78 e78 => ?_)
                    obtain ⟨rfl, rfl⟩ := e78
                    refine pb_lret g z dX7_chance_81 ?_
                    exact ⟨_, rfl, by rw [e]; rfl, ⟨_, _, _, _, _, _, _, _, _, _, _, rfl, d1, d2, d3, d4⟩⟩
                  · exact absurd c35 (by decide)
        · have e : sChance ((n, P, S, sd), (σ, μ, K, Hh), (ts, zz, it), (ra, tr)) (nI s0) x (nI p0) (nI w0) = NOL := by
            simp only [sChance, hs, hpx, hw]
            cases hx : ix x 7 with
            | none => rfl
            | some k0 => simp only [hcX, hx] at hcx; exact if_neg hcx
          refine pb_aload_n0 g dX7_chance_0 ?_
          refine pb_iload_n1 g dX7_chance_1 ?_
          refine pb_Vi1 g qX7_148 dX7_chance_2 (k + 5) (by omega) dr_o (x_isShuffleT (k + 5) (by assumption) hS) (fun r2 h2 e2 => ?_)
          obtain ⟨rfl, rfl⟩ := e2
          first | refine pb_if_eqN g 38 dX7_chance_5 (by decide) (by omega) (fun c5 => ?_) (fun c5 => ?_) | refine pb_if_eq g 38 dX7_chance_5 (by decide) (fun c5 => ?_) (fun c5 => ?_)
          · exact absurd c5 (by decide)
          · refine pb_aload_n0 g dX7_chance_8 ?_
            refine pb_iload_n3 g dX7_chance_9 ?_
            refine pb_Vi1 g qX7_112 dX7_chance_10 (k + 5) (by omega) dr_o (x_isPackT (k + 5) (by assumption) hP) (fun r10 h10 e10 => ?_)
            obtain ⟨rfl, rfl⟩ := e10
            first | refine pb_if_eqN g 38 dX7_chance_13 (by decide) (by omega) (fun c13 => ?_) (fun c13 => ?_) | refine pb_if_eq g 38 dX7_chance_13 (by decide) (fun c13 => ?_) (fun c13 => ?_)
            · exact absurd c13 (by decide)
            · refine pb_iload4 g dX7_chance_16 ?_
              refine pb_Si1 g qX7_198 dX7_chance_18 (k + 5) (by omega) (x_isPartT (k + 5) _ (by assumption) _) (fun r18 h18 e18 => ?_)
              obtain ⟨rfl, rfl⟩ := e18
              first | refine pb_if_eqN g 38 dX7_chance_21 (by decide) (by omega) (fun c21 => ?_) (fun c21 => ?_) | refine pb_if_eq g 38 dX7_chance_21 (by decide) (fun c21 => ?_) (fun c21 => ?_)
              · exact absurd c21 (by decide)
              · refine pb_aload_n0 g dX7_chance_24 ?_
                refine pb_aload_n0 g dX7_chance_25 ?_
                refine pb_getf g fX7_16 dX7_chance_26 dr_o rfl ?_
                refine pb_iload_n1 g dX7_chance_29 ?_
                refine pb_aaldN g dX7_chance_30 dr_shs (by decide) (by omega) (by omega) (by rfl) ?_
                refine pb_iload_n2 g dX7_chance_31 ?_
                refine pb_Vi2 g qX7_201 dX7_chance_32 (k + 5) (by omega) dr_o (x_hasChances (k + 4) (s := s0) (n := n) (K := K s0) (a := Hh s0) (by omega) (d2 s0 hs0).1 (d2 s0 hs0).2.1 hKs.1 hKs.2.1 hKs.2.2.1 hn) (fun r32 h32 e32 => ?_)
                obtain ⟨rfl, rfl⟩ := e32
                rw [if_neg hcx]
                first | refine pb_if_neN g 42 dX7_chance_35 (by decide) (by omega) (fun c35 => ?_) (fun c35 => ?_) | refine pb_if_ne g 42 dX7_chance_35 (by decide) (fun c35 => ?_) (fun c35 => ?_)
                · exact absurd c35 (by decide)
                · refine pb_ldc2w (w := (-4611686018427387904)) g kX7_193 (by decide) dX7_chance_38 ?_
                  refine pb_lret g z dX7_chance_41 ?_
                  exact ⟨_, rfl, by rw [e]; rfl, ⟨_, _, _, _, _, _, _, _, _, _, _, rfl, d1, d2, d3, d4⟩⟩
set_option maxHeartbeats 4000000 in
set_option maxRecDepth 100000 in
theorem x_unlike (k : Nat) (q : SP) (s x w : Int32) (h : PH) (hD : IsD q h) (hI : SI q) : Runs yX7_unlike cX7_unlike 9 (some .long) (k + 6) [.ref 0, .int s, .int x, .int w] h (fun o h' => ∃ r : Int64, o = some (.long r) ∧ r = sUnlike q s x w ∧ IsD (q) h') := by
  obtain ⟨⟨n, P, S, sd⟩, ⟨σ, μ, K, Hh⟩, ⟨ts, zz, it⟩, ⟨ra, tr⟩⟩ := q
  obtain ⟨⟨hn1, hn, hP, hS⟩, hσ, hK, hz, hra⟩ := hI
  obtain ⟨pk, fr, itd, jk, kd, hp, kt, ak, an, ah, jl, rfl, d1, d2, d3, d4⟩ := hD
  refine Runs.of (by decide) (Nat.le_of_ble_eq_true rfl) [some (.ref 0), some (.int s), some (.int x), some (.int w), none, none, none, none, none] 5 rfl (fun Γ g z => ?_)
  cases hs : ix s S with
  | none =>
    have e : sUnlike ((n, P, S, sd), (σ, μ, K, Hh), (ts, zz, it), (ra, tr)) s x w = NOL := by simp only [sUnlike, hs]
    have hsn := ix_none (by omega) hs
    refine pb_aload_n0 g dX7_unlike_0 ?_
    refine pb_iload_n1 g dX7_unlike_1 ?_
    refine pb_Vi1 g qX7_148 dX7_unlike_2 (k + 5) (by omega) dr_o (x_isShuffleF (k + 5) (by assumption) hS) (fun r2 h2 e2 => ?_)
    obtain ⟨rfl, rfl⟩ := e2
    first | refine pb_if_eqN g 29 dX7_unlike_5 (by decide) (by omega) (fun c5 => ?_) (fun c5 => ?_) | refine pb_if_eq g 29 dX7_unlike_5 (by decide) (fun c5 => ?_) (fun c5 => ?_)
    · refine pb_ldc2w (w := (-4611686018427387904)) g kX7_193 (by decide) dX7_unlike_29 ?_
      refine pb_lret g z dX7_unlike_32 ?_
      exact ⟨_, rfl, by rw [e]; rfl, ⟨_, _, _, _, _, _, _, _, _, _, _, rfl, d1, d2, d3, d4⟩⟩
    · exact absurd c5 (by decide)
  | some s0 =>
    obtain ⟨hs0, rfl⟩ := ix_some (by omega) hs
    cases hw : ix w 2 with
    | none =>
      have e : sUnlike ((n, P, S, sd), (σ, μ, K, Hh), (ts, zz, it), (ra, tr)) (nI s0) x w = NOL := by simp only [sUnlike, hs, hw]
      have hwn := ix_none (by decide) hw
      refine pb_aload_n0 g dX7_unlike_0 ?_
      refine pb_iload_n1 g dX7_unlike_1 ?_
      refine pb_Vi1 g qX7_148 dX7_unlike_2 (k + 5) (by omega) dr_o (x_isShuffleT (k + 5) (by assumption) hS) (fun r2 h2 e2 => ?_)
      obtain ⟨rfl, rfl⟩ := e2
      first | refine pb_if_eqN g 29 dX7_unlike_5 (by decide) (by omega) (fun c5 => ?_) (fun c5 => ?_) | refine pb_if_eq g 29 dX7_unlike_5 (by decide) (fun c5 => ?_) (fun c5 => ?_)
      · exact absurd c5 (by decide)
      · refine pb_iload_n3 g dX7_unlike_8 ?_
        refine pb_Si1 g qX7_198 dX7_unlike_9 (k + 5) (by omega) (x_isPartF (k + 5) _ (by assumption) _) (fun r9 h9 e9 => ?_)
        obtain ⟨rfl, rfl⟩ := e9
        first | refine pb_if_eqN g 29 dX7_unlike_12 (by decide) (by omega) (fun c12 => ?_) (fun c12 => ?_) | refine pb_if_eq g 29 dX7_unlike_12 (by decide) (fun c12 => ?_) (fun c12 => ?_)
        · refine pb_ldc2w (w := (-4611686018427387904)) g kX7_193 (by decide) dX7_unlike_29 ?_
          refine pb_lret g z dX7_unlike_32 ?_
          exact ⟨_, rfl, by rw [e]; rfl, ⟨_, _, _, _, _, _, _, _, _, _, _, rfl, d1, d2, d3, d4⟩⟩
        · exact absurd c12 (by decide)
    | some w0 =>
      obtain ⟨hw0, rfl⟩ := ix_some (by decide) hw
      have hKs := hK s0 hs0
      by_cases hcx : hcX n (K s0) (Hh s0) x = true
      · cases hx : ix x 7 with
        | none => simp [hcX, hx] at hcx
        | some k0 =>
          obtain ⟨hk0, rfl⟩ := ix_some (by decide) hx
          have hcb : hcB n (K s0) (Hh s0) k0 = true := by simpa [hcX, hx] using hcx
          by_cases h3 : K s0 = 3
          · have e : sUnlike ((n, P, S, sd), (σ, μ, K, Hh), (ts, zz, it), (ra, tr)) (nI s0) (nI k0) (nI w0) = frL (ulL (Hh s0 ^ k0) n) ((Hh s0 ^ k0) ^ n) w0 := by simp only [sUnlike, hs, hw, hx, if_pos (And.intro hcb h3)]
            obtain ⟨-, hr⟩ := hcB_3 hKs.1 (by omega) hcb
            have hr0 : 0 < Hh s0 ^ k0 := Nat.pow_pos (by omega)
            have hpn : (Hh s0 ^ k0) ^ n ≤ 10 ^ 10 := Nat.le_trans (Nat.pow_le_pow_left hr n) (Nat.pow_le_pow_right (by decide) hn)
            have hpn0 : 0 < (Hh s0 ^ k0) ^ n := Nat.pow_pos hr0
            have hul := ul_lt (Hh s0 ^ k0) (by omega) n (by omega)
            have hmx : ∀ i, i < n → (if lN (Hh s0 ^ k0) - lN i < lN 0 then lN 0 else lN (Hh s0 ^ k0) - lN i) = lN (Hh s0 ^ k0 - i) := fun i hi => by
              by_cases q : i ≤ Hh s0 ^ k0
              · rw [lN_sub q, if_neg (fun z => by have := (pk_lLT (by omega) (by decide)).mp z; omega)]
              · rw [if_pos, show Hh s0 ^ k0 - i = 0 by omega]
                show lN (Hh s0 ^ k0) - lN i < 0
                rw [Int64.lt_iff_toInt_lt, Int64.toInt_sub, pk_lT (by omega), pk_lT (by omega), Int.bmod_eq_of_le (by omega) (by omega)]
                show _ < (0 : Int)
                omega
            have loop : ∀ i, i ≤ n → PB Γ 72 [some (.ref 0), some (.int (nI s0)), some (.int (nI k0)), some (.int (nI w0)), some (.long (lN (Hh s0 ^ k0))), none, some (.long (lN (ulL (Hh s0 ^ k0) i))), none, some (.int (nI i))] [] (mkH 52 (dkF (nI n) (nI P) (nI S) sd pk fr (itd) kd hp ts (fun t => nI (zz t)) (nI ra) ak an ah kt jk jl)) := by
              refine pb_loop n (fun i hi ih => ?_)
              by_cases hin : i < n
              · have ih := ih hin
                refine pb_iload8 g dX7_unlike_72 ?_
                refine pb_aload_n0 g dX7_unlike_74 ?_
                refine pb_getf g fX7_33 dX7_unlike_75 dr_o rfl ?_
                first | refine pb_icmp_geN g 102 dX7_unlike_78 (by decide) (by omega) (by omega) (fun c78 => ?_) (fun c78 => ?_) | refine pb_icmp_ge g 102 dX7_unlike_78 (by decide) (fun c78 => ?_) (fun c78 => ?_)
                · exact absurd c78 (by omega)
                · refine pb_lload6 g dX7_unlike_81 ?_
                  refine pb_lconst (v := lN 0) g dX7_unlike_83 rfl ?_
                  refine pb_lload4 g dX7_unlike_84 ?_
                  refine pb_iload8 g dX7_unlike_86 ?_
                  first | refine pb_i2lN g dX7_unlike_88 (by omega) ?_ | refine pb_i2l g dX7_unlike_88 ?_
                  refine pb_lsub g dX7_unlike_89 ?_
                  refine pb_mmaxl g qX7_240 (by omega) dX7_unlike_90 ?_
                  rw [hmx i hin]
                  first | refine pb_lmulN g dX7_unlike_93 ?_ | refine pb_lmul g dX7_unlike_93 ?_
                  refine pb_lstore6 g dX7_unlike_94 (by decide) ?_
                  first | refine pb_iinc8N g dX7_unlike_96 (by decide) ?_ | refine pb_iinc8 g dX7_unlike_96 (by decide) rfl ?_
                  refine pb_goto g 72 dX7_unlike_99 (by decide) ?_
                  exact ih
              · obtain rfl : i = n := by omega
                refine pb_iload8 g dX7_unlike_72 ?_
                refine pb_aload_n0 g dX7_unlike_74 ?_
                refine pb_getf g fX7_33 dX7_unlike_75 dr_o rfl ?_
                first | refine pb_icmp_geN g 102 dX7_unlike_78 (by decide) (by omega) (by omega) (fun c78 => ?_) (fun c78 => ?_) | refine pb_icmp_ge g 102 dX7_unlike_78 (by decide) (fun c78 => ?_) (fun c78 => ?_)
                · refine pb_lload6 g dX7_unlike_102 ?_
                  refine pb_lload4 g dX7_unlike_104 ?_
                  refine pb_aload_n0 g dX7_unlike_106 ?_
                  refine pb_getf g fX7_33 dX7_unlike_107 dr_o rfl ?_
                  refine pb_Sl2 g qX7_183 dX7_unlike_110 (k + 5) (by omega) (c_raised (k + 5) (Hh s0 ^ k0) i (by omega) _) (fun r110 h110 e110 => ?_)
                  obtain ⟨rfl, rfl⟩ := e110
                  refine pb_iload_n3 g dX7_unlike_113 ?_
                  refine pb_Sl3 g qX7_217 dX7_unlike_114 (k + 5) (by omega) (c_part (k + 3) _ _ w0 (by omega) (by omega) hpn0 hw0 _) (fun r114 h114 e114 => ?_)
                  obtain ⟨rfl, rfl⟩ := e114
                  refine pb_lret g z dX7_unlike_117 ?_
                  exact ⟨_, rfl, by rw [e]; rfl, ⟨_, _, _, _, _, _, _, _, _, _, _, rfl, d1, d2, d3, d4⟩⟩
                · exact absurd c78 (by omega)
            refine pb_aload_n0 g dX7_unlike_0 ?_
            refine pb_iload_n1 g dX7_unlike_1 ?_
            refine pb_Vi1 g qX7_148 dX7_unlike_2 (k + 5) (by omega) dr_o (x_isShuffleT (k + 5) (by assumption) hS) (fun r2 h2 e2 => ?_)
            obtain ⟨rfl, rfl⟩ := e2
            first | refine pb_if_eqN g 29 dX7_unlike_5 (by decide) (by omega) (fun c5 => ?_) (fun c5 => ?_) | refine pb_if_eq g 29 dX7_unlike_5 (by decide) (fun c5 => ?_) (fun c5 => ?_)
            · exact absurd c5 (by decide)
            · refine pb_iload_n3 g dX7_unlike_8 ?_
              refine pb_Si1 g qX7_198 dX7_unlike_9 (k + 5) (by omega) (x_isPartT (k + 5) _ (by assumption) _) (fun r9 h9 e9 => ?_)
              obtain ⟨rfl, rfl⟩ := e9
              first | refine pb_if_eqN g 29 dX7_unlike_12 (by decide) (by omega) (fun c12 => ?_) (fun c12 => ?_) | refine pb_if_eq g 29 dX7_unlike_12 (by decide) (fun c12 => ?_) (fun c12 => ?_)
              · exact absurd c12 (by decide)
              · refine pb_aload_n0 g dX7_unlike_15 ?_
                refine pb_aload_n0 g dX7_unlike_16 ?_
                refine pb_getf g fX7_16 dX7_unlike_17 dr_o rfl ?_
                refine pb_iload_n1 g dX7_unlike_20 ?_
                refine pb_aaldN g dX7_unlike_21 dr_shs (by decide) (by omega) (by omega) (by rfl) ?_
                refine pb_iload_n2 g dX7_unlike_22 ?_
                refine pb_Vi2 g qX7_201 dX7_unlike_23 (k + 5) (by omega) dr_o (x_hasChances (k + 4) (s := s0) (n := n) (K := K s0) (a := Hh s0) (by omega) (d2 s0 hs0).1 (d2 s0 hs0).2.1 hKs.1 hKs.2.1 hKs.2.2.1 hn) (fun r23 h23 e23 => ?_)
                obtain ⟨rfl, rfl⟩ := e23
                rw [if_pos hcx]
                first | refine pb_if_neN g 33 dX7_unlike_26 (by decide) (by omega) (fun c26 => ?_) (fun c26 => ?_) | refine pb_if_ne g 33 dX7_unlike_26 (by decide) (fun c26 => ?_) (fun c26 => ?_)
                · refine pb_aload_n0 g dX7_unlike_33 ?_
                  refine pb_getf g fX7_16 dX7_unlike_34 dr_o rfl ?_
                  refine pb_iload_n1 g dX7_unlike_37 ?_
                  refine pb_aaldN g dX7_unlike_38 dr_shs (by decide) (by omega) (by omega) (by rfl) ?_
                  refine pb_getf g fX7_158 dX7_unlike_39 (dr_sh (by omega)) rfl ?_
                  rw [(d2 s0 hs0).1]
                  refine pb_iconst (v := nI 3) g dX7_unlike_42 (by decide) ?_
                  first | refine pb_icmp_eqN g 50 dX7_unlike_43 (by decide) (by omega) (by omega) (fun c43 => ?_) (fun c43 => ?_) | refine pb_icmp_eq g 50 dX7_unlike_43 (by decide) (fun c43 => ?_) (fun c43 => ?_)
                  · refine pb_aload_n0 g dX7_unlike_50 ?_
                    refine pb_getf g fX7_16 dX7_unlike_51 dr_o rfl ?_
                    refine pb_iload_n1 g dX7_unlike_54 ?_
                    refine pb_aaldN g dX7_unlike_55 dr_shs (by decide) (by omega) (by omega) (by rfl) ?_
                    refine pb_getf g fX7_161 dX7_unlike_56 (dr_sh (by omega)) rfl ?_
                    rw [(d2 s0 hs0).2.1]
                    first | refine pb_i2lN g dX7_unlike_59 (by omega) ?_ | refine pb_i2l g dX7_unlike_59 ?_
                    refine pb_iload_n2 g dX7_unlike_60 ?_
                    refine pb_Sl2 g qX7_183 dX7_unlike_61 (k + 5) (by omega) (c_raised (k + 5) (Hh s0) k0 (by omega) _) (fun r61 h61 e61 => ?_)
                    obtain ⟨rfl, rfl⟩ := e61
                    refine pb_lstore4 g dX7_unlike_64 (by decide) ?_
                    refine pb_lconst (v := lN 1) g dX7_unlike_66 rfl ?_
                    refine pb_lstore6 g dX7_unlike_67 (by decide) ?_
                    refine pb_iconst (v := nI 0) g dX7_unlike_69 (by decide) ?_
                    refine pb_istore8 g dX7_unlike_70 (by decide) ?_
                    exact loop 0 (Nat.zero_le _)
                  · exact absurd h3 c43
                · exact absurd c26 (by decide)
          · have e : sUnlike ((n, P, S, sd), (σ, μ, K, Hh), (ts, zz, it), (ra, tr)) (nI s0) (nI k0) (nI w0) = NOL := by simp only [sUnlike, hs, hw, hx, if_neg (fun z : hcB n (K s0) (Hh s0) k0 = true ∧ K s0 = 3 => h3 z.2)]
            refine pb_aload_n0 g dX7_unlike_0 ?_
            refine pb_iload_n1 g dX7_unlike_1 ?_
            refine pb_Vi1 g qX7_148 dX7_unlike_2 (k + 5) (by omega) dr_o (x_isShuffleT (k + 5) (by assumption) hS) (fun r2 h2 e2 => ?_)
            obtain ⟨rfl, rfl⟩ := e2
            first | refine pb_if_eqN g 29 dX7_unlike_5 (by decide) (by omega) (fun c5 => ?_) (fun c5 => ?_) | refine pb_if_eq g 29 dX7_unlike_5 (by decide) (fun c5 => ?_) (fun c5 => ?_)
            · exact absurd c5 (by decide)
            · refine pb_iload_n3 g dX7_unlike_8 ?_
              refine pb_Si1 g qX7_198 dX7_unlike_9 (k + 5) (by omega) (x_isPartT (k + 5) _ (by assumption) _) (fun r9 h9 e9 => ?_)
              obtain ⟨rfl, rfl⟩ := e9
              first | refine pb_if_eqN g 29 dX7_unlike_12 (by decide) (by omega) (fun c12 => ?_) (fun c12 => ?_) | refine pb_if_eq g 29 dX7_unlike_12 (by decide) (fun c12 => ?_) (fun c12 => ?_)
              · exact absurd c12 (by decide)
              · refine pb_aload_n0 g dX7_unlike_15 ?_
                refine pb_aload_n0 g dX7_unlike_16 ?_
                refine pb_getf g fX7_16 dX7_unlike_17 dr_o rfl ?_
                refine pb_iload_n1 g dX7_unlike_20 ?_
                refine pb_aaldN g dX7_unlike_21 dr_shs (by decide) (by omega) (by omega) (by rfl) ?_
                refine pb_iload_n2 g dX7_unlike_22 ?_
                refine pb_Vi2 g qX7_201 dX7_unlike_23 (k + 5) (by omega) dr_o (x_hasChances (k + 4) (s := s0) (n := n) (K := K s0) (a := Hh s0) (by omega) (d2 s0 hs0).1 (d2 s0 hs0).2.1 hKs.1 hKs.2.1 hKs.2.2.1 hn) (fun r23 h23 e23 => ?_)
                obtain ⟨rfl, rfl⟩ := e23
                rw [if_pos hcx]
                first | refine pb_if_neN g 33 dX7_unlike_26 (by decide) (by omega) (fun c26 => ?_) (fun c26 => ?_) | refine pb_if_ne g 33 dX7_unlike_26 (by decide) (fun c26 => ?_) (fun c26 => ?_)
                · refine pb_aload_n0 g dX7_unlike_33 ?_
                  refine pb_getf g fX7_16 dX7_unlike_34 dr_o rfl ?_
                  refine pb_iload_n1 g dX7_unlike_37 ?_
                  refine pb_aaldN g dX7_unlike_38 dr_shs (by decide) (by omega) (by omega) (by rfl) ?_
                  refine pb_getf g fX7_158 dX7_unlike_39 (dr_sh (by omega)) rfl ?_
                  rw [(d2 s0 hs0).1]
                  refine pb_iconst (v := nI 3) g dX7_unlike_42 (by decide) ?_
                  first | refine pb_icmp_eqN g 50 dX7_unlike_43 (by decide) (by omega) (by omega) (fun c43 => ?_) (fun c43 => ?_) | refine pb_icmp_eq g 50 dX7_unlike_43 (by decide) (fun c43 => ?_) (fun c43 => ?_)
                  · exact absurd c43 h3
                  · refine pb_ldc2w (w := (-4611686018427387904)) g kX7_193 (by decide) dX7_unlike_46 ?_
                    refine pb_lret g z dX7_unlike_49 ?_
                    exact ⟨_, rfl, by rw [e]; rfl, ⟨_, _, _, _, _, _, _, _, _, _, _, rfl, d1, d2, d3, d4⟩⟩
                · exact absurd c26 (by decide)
      · have e : sUnlike ((n, P, S, sd), (σ, μ, K, Hh), (ts, zz, it), (ra, tr)) (nI s0) x (nI w0) = NOL := by
          simp only [sUnlike, hs, hw]
          cases hx : ix x 7 with
          | none => rfl
          | some k0 => simp only [hcX, hx] at hcx; exact if_neg (fun z => hcx z.1)
        refine pb_aload_n0 g dX7_unlike_0 ?_
        refine pb_iload_n1 g dX7_unlike_1 ?_
        refine pb_Vi1 g qX7_148 dX7_unlike_2 (k + 5) (by omega) dr_o (x_isShuffleT (k + 5) (by assumption) hS) (fun r2 h2 e2 => ?_)
        obtain ⟨rfl, rfl⟩ := e2
        first | refine pb_if_eqN g 29 dX7_unlike_5 (by decide) (by omega) (fun c5 => ?_) (fun c5 => ?_) | refine pb_if_eq g 29 dX7_unlike_5 (by decide) (fun c5 => ?_) (fun c5 => ?_)
        · exact absurd c5 (by decide)
        · refine pb_iload_n3 g dX7_unlike_8 ?_
          refine pb_Si1 g qX7_198 dX7_unlike_9 (k + 5) (by omega) (x_isPartT (k + 5) _ (by assumption) _) (fun r9 h9 e9 => ?_)
          obtain ⟨rfl, rfl⟩ := e9
          first | refine pb_if_eqN g 29 dX7_unlike_12 (by decide) (by omega) (fun c12 => ?_) (fun c12 => ?_) | refine pb_if_eq g 29 dX7_unlike_12 (by decide) (fun c12 => ?_) (fun c12 => ?_)
          · exact absurd c12 (by decide)
          · refine pb_aload_n0 g dX7_unlike_15 ?_
            refine pb_aload_n0 g dX7_unlike_16 ?_
            refine pb_getf g fX7_16 dX7_unlike_17 dr_o rfl ?_
            refine pb_iload_n1 g dX7_unlike_20 ?_
            refine pb_aaldN g dX7_unlike_21 dr_shs (by decide) (by omega) (by omega) (by rfl) ?_
            refine pb_iload_n2 g dX7_unlike_22 ?_
            refine pb_Vi2 g qX7_201 dX7_unlike_23 (k + 5) (by omega) dr_o (x_hasChances (k + 4) (s := s0) (n := n) (K := K s0) (a := Hh s0) (by omega) (d2 s0 hs0).1 (d2 s0 hs0).2.1 hKs.1 hKs.2.1 hKs.2.2.1 hn) (fun r23 h23 e23 => ?_)
            obtain ⟨rfl, rfl⟩ := e23
            rw [if_neg hcx]
            first | refine pb_if_neN g 33 dX7_unlike_26 (by decide) (by omega) (fun c26 => ?_) (fun c26 => ?_) | refine pb_if_ne g 33 dX7_unlike_26 (by decide) (fun c26 => ?_) (fun c26 => ?_)
            · exact absurd c26 (by decide)
            · refine pb_ldc2w (w := (-4611686018427387904)) g kX7_193 (by decide) dX7_unlike_29 ?_
              refine pb_lret g z dX7_unlike_32 ?_
              exact ⟨_, rfl, by rw [e]; rfl, ⟨_, _, _, _, _, _, _, _, _, _, _, rfl, d1, d2, d3, d4⟩⟩
set_option maxHeartbeats 4000000 in
set_option maxRecDepth 100000 in
theorem x_far (k : Nat) (q : SP) (s x w : Int32) (h : PH) (hD : IsD q h) (hI : SI q) : Runs yX7_far cX7_far 12 (some .long) (k + 6) [.ref 0, .int s, .int x, .int w] h (fun o h' => ∃ r : Int64, o = some (.long r) ∧ r = sFar q s x w ∧ IsD (q) h') := by
  obtain ⟨⟨n, P, S, sd⟩, ⟨σ, μ, K, Hh⟩, ⟨ts, zz, it⟩, ⟨ra, tr⟩⟩ := q
  obtain ⟨⟨hn1, hn, hP, hS⟩, hσ, hK, hz, hra⟩ := hI
  obtain ⟨pk, fr, itd, jk, kd, hp, kt, ak, an, ah, jl, rfl, d1, d2, d3, d4⟩ := hD
  refine Runs.of (by decide) (Nat.le_of_ble_eq_true rfl) [some (.ref 0), some (.int s), some (.int x), some (.int w), none, none, none, none, none, none, none, none] 8 rfl (fun Γ g z => ?_)
  cases hs : ix s S with
  | none =>
    have e : sFar ((n, P, S, sd), (σ, μ, K, Hh), (ts, zz, it), (ra, tr)) s x w = NOL := by simp only [sFar, hs]
    have hsn := ix_none (by omega) hs
    refine pb_aload_n0 g dX7_far_0 ?_
    refine pb_iload_n1 g dX7_far_1 ?_
    refine pb_Vi1 g qX7_148 dX7_far_2 (k + 5) (by omega) dr_o (x_isShuffleF (k + 5) (by assumption) hS) (fun r2 h2 e2 => ?_)
    obtain ⟨rfl, rfl⟩ := e2
    first | refine pb_if_eqN g 29 dX7_far_5 (by decide) (by omega) (fun c5 => ?_) (fun c5 => ?_) | refine pb_if_eq g 29 dX7_far_5 (by decide) (fun c5 => ?_) (fun c5 => ?_)
    · refine pb_ldc2w (w := (-4611686018427387904)) g kX7_193 (by decide) dX7_far_29 ?_
      refine pb_lret g z dX7_far_32 ?_
      exact ⟨_, rfl, by rw [e]; rfl, ⟨_, _, _, _, _, _, _, _, _, _, _, rfl, d1, d2, d3, d4⟩⟩
    · exact absurd c5 (by decide)
  | some s0 =>
    obtain ⟨hs0, rfl⟩ := ix_some (by omega) hs
    cases hw : ix w 2 with
    | none =>
      have e : sFar ((n, P, S, sd), (σ, μ, K, Hh), (ts, zz, it), (ra, tr)) (nI s0) x w = NOL := by simp only [sFar, hs, hw]
      have hwn := ix_none (by decide) hw
      refine pb_aload_n0 g dX7_far_0 ?_
      refine pb_iload_n1 g dX7_far_1 ?_
      refine pb_Vi1 g qX7_148 dX7_far_2 (k + 5) (by omega) dr_o (x_isShuffleT (k + 5) (by assumption) hS) (fun r2 h2 e2 => ?_)
      obtain ⟨rfl, rfl⟩ := e2
      first | refine pb_if_eqN g 29 dX7_far_5 (by decide) (by omega) (fun c5 => ?_) (fun c5 => ?_) | refine pb_if_eq g 29 dX7_far_5 (by decide) (fun c5 => ?_) (fun c5 => ?_)
      · exact absurd c5 (by decide)
      · refine pb_iload_n3 g dX7_far_8 ?_
        refine pb_Si1 g qX7_198 dX7_far_9 (k + 5) (by omega) (x_isPartF (k + 5) _ (by assumption) _) (fun r9 h9 e9 => ?_)
        obtain ⟨rfl, rfl⟩ := e9
        first | refine pb_if_eqN g 29 dX7_far_12 (by decide) (by omega) (fun c12 => ?_) (fun c12 => ?_) | refine pb_if_eq g 29 dX7_far_12 (by decide) (fun c12 => ?_) (fun c12 => ?_)
        · refine pb_ldc2w (w := (-4611686018427387904)) g kX7_193 (by decide) dX7_far_29 ?_
          refine pb_lret g z dX7_far_32 ?_
          exact ⟨_, rfl, by rw [e]; rfl, ⟨_, _, _, _, _, _, _, _, _, _, _, rfl, d1, d2, d3, d4⟩⟩
        · exact absurd c12 (by decide)
    | some w0 =>
      obtain ⟨hw0, rfl⟩ := ix_some (by decide) hw
      have hKs := hK s0 hs0
      by_cases hcx : hcX n (K s0) (Hh s0) x = true
      · cases hx : ix x 7 with
        | none => simp [hcX, hx] at hcx
        | some k0 =>
          obtain ⟨hk0, rfl⟩ := ix_some (by decide) hx
          have hcb : hcB n (K s0) (Hh s0) k0 = true := by simpa [hcX, hx] using hcx
          have e : sFar ((n, P, S, sd), (σ, μ, K, Hh), (ts, zz, it), (ra, tr)) (nI s0) (nI k0) (nI w0) = frL (farF n (K s0) (Hh s0) k0) (2 * allF n (K s0) (Hh s0) k0 * fac n) w0 := by simp only [sFar, hs, hw, hx, if_pos hcb]
          obtain ⟨⟨f1, f2⟩, f3, f4⟩ := hc_facts hn1 hn hKs.1 hKs.2.1 hKs.2.2.1 hKs.2.2.2.1 hk0 hcb
          obtain ⟨g1, g2⟩ := fac_lt n (by omega)
          have g3 : fac n ≤ 3628800 := by
            have : ∀ m, m < 11 → fac m ≤ 3628800 := by decide
            exact this n (by omega)
          have g4 : 2 * allF n (K s0) (Hh s0) k0 * fac n ≤ 2 * 10 ^ 10 * 3628800 := Nat.mul_le_mul (Nat.mul_le_mul_left 2 f2) g3
          have g5 : 0 < 2 * allF n (K s0) (Hh s0) k0 * fac n := Nat.mul_pos (by omega) g1
          have loop : ∀ l, l ≤ n → ∀ jl' : Nat → Nat → Int64, (∀ l, l < n → jl' 0 l = lN (ctF n (K s0) l)) → PB Γ 73 [some (.ref 0), some (.int (nI s0)), some (.int (nI k0)), some (.int (nI w0)), some (.ref (15 + s0)), some (.long (lN (allF n (K s0) (Hh s0) k0))), none, some (.long (lN (fac n))), none, some (.long (lN (fL (ctF n (K s0)) (rwF n (K s0) (Hh s0) k0) (allF n (K s0) (Hh s0) k0) (fac n) l))), none, some (.int (nI l))] [] (mkH 52 (dkF (nI n) (nI P) (nI S) sd pk fr (itd) kd hp ts (fun t => nI (zz t)) (nI ra) ak an ah kt jk (jl'))) := by
            refine pb_loop n (fun l hl ih jl' hjl => ?_)
            by_cases hln : l < n
            · have ih := ih hln
              have f3 := f3 l hln
              have f5 : rwF n (K s0) (Hh s0) k0 l * fac n ≤ 2 ^ 20 * 3628800 := Nat.mul_le_mul (Nat.le_of_lt f3) g3
              refine pb_iload11 g dX7_far_73 ?_
              refine pb_aload_n0 g dX7_far_75 ?_
              refine pb_getf g fX7_33 dX7_far_76 dr_o rfl ?_
              first | refine pb_icmp_geN g 119 dX7_far_79 (by decide) (by omega) (by omega) (fun c79 => ?_) (fun c79 => ?_) | refine pb_icmp_ge g 119 dX7_far_79 (by decide) (fun c79 => ?_) (fun c79 => ?_)
              · exact absurd c79 (by omega)
              · refine pb_lload9 g dX7_far_82 ?_
                refine pb_aload_n0 g dX7_far_84 ?_
                refine pb_getf g fX7_59 dX7_far_85 dr_o rfl ?_
                refine pb_iload11 g dX7_far_88 ?_
                first | refine pb_laldN g dX7_far_90 (by first | exact dr_lc | exact dr_pk (by omega) | exact dr_fr (by omega) | exact dr_it (by omega) | exact dr_kt | exact dr_bf | exact dr_pl | exact dr_lr | exact dr_nh | exact dr_bl | assumption) (by omega) (by omega) ?_ | refine pb_lald g dX7_far_90 (by first | exact dr_lc | exact dr_pk (by omega) | exact dr_fr (by omega) | exact dr_it (by omega) | exact dr_kt | exact dr_bf | exact dr_pl | exact dr_lr | exact dr_nh | exact dr_bl | assumption) (by assumption) ?_
                rw [hjl l hln]
                refine pb_aload_n0 g dX7_far_91 ?_
                refine pb_aload4 g dX7_far_92 ?_
                refine pb_iload_n2 g dX7_far_94 ?_
                refine pb_iload11 g dX7_far_95 ?_
                refine pb_Vl3 g qX7_209 dX7_far_97 (k + 5) (by omega) dr_o (x_rowsToLevel (k + 4) (s := s0) (n := n) (K := K s0) (a := Hh s0) (by omega) (d2 s0 hs0).1 (d2 s0 hs0).2.1 hKs.1 hKs.2.1 hKs.2.2.1 hn hn1 hk0 hln (fun q => (hcB_3 hKs.1 q hcb).2)) (fun r97 h97 e97 => ?_)
                obtain ⟨rfl, j9, rfl, hj9⟩ := e97
                refine pb_lload7 g dX7_far_100 ?_
                first | refine pb_lmulN g dX7_far_102 ?_ | refine pb_lmul g dX7_far_102 ?_
                refine pb_lload5 g dX7_far_103 ?_
                refine pb_lsub g dX7_far_105 ?_
                refine pb_mabsl g qX7_232 (by omega) dX7_far_106 ?_
                rw [abs_lN (by omega) (by omega)]
                first | refine pb_lmulN g dX7_far_109 ?_ | refine pb_lmul g dX7_far_109 ?_
                first | refine pb_laddN g dX7_far_110 ?_ | refine pb_ladd g dX7_far_110 ?_
                refine pb_lstore9 g dX7_far_111 (by decide) ?_
                first | refine pb_iinc11N g dX7_far_113 (by decide) ?_ | refine pb_iinc11 g dX7_far_113 (by decide) rfl ?_
                refine pb_goto g 73 dX7_far_116 (by decide) ?_
                exact ih _ (fun l hl => by rw [hj9]; exact hjl l hl)
            · obtain rfl : l = n := by omega
              refine pb_iload11 g dX7_far_73 ?_
              refine pb_aload_n0 g dX7_far_75 ?_
              refine pb_getf g fX7_33 dX7_far_76 dr_o rfl ?_
              first | refine pb_icmp_geN g 119 dX7_far_79 (by decide) (by omega) (by omega) (fun c79 => ?_) (fun c79 => ?_) | refine pb_icmp_ge g 119 dX7_far_79 (by decide) (fun c79 => ?_) (fun c79 => ?_)
              · refine pb_lload9 g dX7_far_119 ?_
                refine pb_ldc2w (w := lN 2) g kX7_238 (by decide) dX7_far_121 ?_
                refine pb_lload5 g dX7_far_124 ?_
                first | refine pb_lmulN g dX7_far_126 ?_ | refine pb_lmul g dX7_far_126 ?_
                refine pb_lload7 g dX7_far_127 ?_
                first | refine pb_lmulN g dX7_far_129 ?_ | refine pb_lmul g dX7_far_129 ?_
                refine pb_iload_n3 g dX7_far_130 ?_
                refine pb_Sl3 g qX7_217 dX7_far_131 (k + 5) (by omega) (c_part (k + 3) _ _ w0 f4 (by omega) g5 hw0 _) (fun r131 h131 e131 => ?_)
                obtain ⟨rfl, rfl⟩ := e131
                refine pb_lret g z dX7_far_134 ?_
                exact ⟨_, rfl, by rw [e]; rfl, ⟨_, _, _, _, _, _, _, _, _, _, _, rfl, d1, d2, d3, d4⟩⟩
              · exact absurd c79 (by omega)
          refine pb_aload_n0 g dX7_far_0 ?_
          refine pb_iload_n1 g dX7_far_1 ?_
          refine pb_Vi1 g qX7_148 dX7_far_2 (k + 5) (by omega) dr_o (x_isShuffleT (k + 5) (by assumption) hS) (fun r2 h2 e2 => ?_)
          obtain ⟨rfl, rfl⟩ := e2
          first | refine pb_if_eqN g 29 dX7_far_5 (by decide) (by omega) (fun c5 => ?_) (fun c5 => ?_) | refine pb_if_eq g 29 dX7_far_5 (by decide) (fun c5 => ?_) (fun c5 => ?_)
          · exact absurd c5 (by decide)
          · refine pb_iload_n3 g dX7_far_8 ?_
            refine pb_Si1 g qX7_198 dX7_far_9 (k + 5) (by omega) (x_isPartT (k + 5) _ (by assumption) _) (fun r9 h9 e9 => ?_)
            obtain ⟨rfl, rfl⟩ := e9
            first | refine pb_if_eqN g 29 dX7_far_12 (by decide) (by omega) (fun c12 => ?_) (fun c12 => ?_) | refine pb_if_eq g 29 dX7_far_12 (by decide) (fun c12 => ?_) (fun c12 => ?_)
            · exact absurd c12 (by decide)
            · refine pb_aload_n0 g dX7_far_15 ?_
              refine pb_aload_n0 g dX7_far_16 ?_
              refine pb_getf g fX7_16 dX7_far_17 dr_o rfl ?_
              refine pb_iload_n1 g dX7_far_20 ?_
              refine pb_aaldN g dX7_far_21 dr_shs (by decide) (by omega) (by omega) (by rfl) ?_
              refine pb_iload_n2 g dX7_far_22 ?_
              refine pb_Vi2 g qX7_201 dX7_far_23 (k + 5) (by omega) dr_o (x_hasChances (k + 4) (s := s0) (n := n) (K := K s0) (a := Hh s0) (by omega) (d2 s0 hs0).1 (d2 s0 hs0).2.1 hKs.1 hKs.2.1 hKs.2.2.1 hn) (fun r23 h23 e23 => ?_)
              obtain ⟨rfl, rfl⟩ := e23
              rw [if_pos hcx]
              first | refine pb_if_neN g 33 dX7_far_26 (by decide) (by omega) (fun c26 => ?_) (fun c26 => ?_) | refine pb_if_ne g 33 dX7_far_26 (by decide) (fun c26 => ?_) (fun c26 => ?_)
              · refine pb_aload_n0 g dX7_far_33 ?_
                refine pb_getf g fX7_16 dX7_far_34 dr_o rfl ?_
                refine pb_iload_n1 g dX7_far_37 ?_
                refine pb_aaldN g dX7_far_38 dr_shs (by decide) (by omega) (by omega) (by rfl) ?_
                refine pb_astore4 g dX7_far_39 (by decide) ?_
                refine pb_aload_n0 g dX7_far_41 ?_
                refine pb_aload4 g dX7_far_42 ?_
                refine pb_iload_n2 g dX7_far_44 ?_
                refine pb_Vl2 g qX7_213 dX7_far_45 (k + 5) (by omega) dr_o (x_allRows (k + 4) (s := s0) (n := n) (K := K s0) (a := Hh s0) (by omega) (d2 s0 hs0).1 (d2 s0 hs0).2.1 hKs.1 hKs.2.1 hKs.2.2.1 hn hk0) (fun r45 h45 e45 => ?_)
                obtain ⟨rfl, rfl⟩ := e45
                refine pb_lstore5 g dX7_far_48 (by decide) ?_
                refine pb_gets g sX7_72 dX7_far_50 ?_
                refine pb_aload_n0 g dX7_far_53 ?_
                refine pb_getf g fX7_33 dX7_far_54 dr_o rfl ?_
                first | refine pb_ialdN g dX7_far_57 (by first | exact dr_pk (by omega) | exact dr_fr (by omega) | exact dr_it (by omega) | exact dr_kt | exact dr_bf | exact dr_pl | exact dr_lr | exact dr_nh | exact dr_lc | exact dr_bl | assumption) (by omega) (by omega) ?_ | refine pb_ald0 g dX7_far_57 (by omega) ?_ | refine pb_ald1 g dX7_far_57 (by omega) ?_ | refine pb_ald2 g dX7_far_57 (by omega) ?_ | refine pb_ald3 g dX7_far_57 (by omega) ?_ | refine pb_iald g dX7_far_57 (by first | exact dr_pk (by omega) | exact dr_fr (by omega) | exact dr_it (by omega) | exact dr_kt | exact dr_bf | exact dr_pl | exact dr_lr | exact dr_nh | exact dr_lc | exact dr_bl | assumption) (by assumption) ?_
                rw [fac_at n (by omega)]
                first | refine pb_i2lN g dX7_far_58 (by omega) ?_ | refine pb_i2l g dX7_far_58 ?_
                refine pb_lstore7 g dX7_far_59 (by decide) ?_
                refine pb_lconst (v := lN 0) g dX7_far_61 rfl ?_
                refine pb_lstore9 g dX7_far_62 (by decide) ?_
                refine pb_aload_n0 g dX7_far_64 ?_
                refine pb_aload4 g dX7_far_65 ?_
                refine pb_Vv1 g qX7_228 dX7_far_67 (k + 5) (by omega) dr_o (x_countLevels (k + 4) (s := s0) (n := n) (K := K s0) (a := Hh s0) (by omega) (d2 s0 hs0).1 (d2 s0 hs0).2.1 hKs.1 hKs.2.1 hKs.2.2.1 hn hn1) (fun h67 e67 => ?_)
                obtain ⟨f9, rfl, hf9⟩ := e67
                refine pb_iconst (v := nI 0) g dX7_far_70 (by decide) ?_
                refine pb_istore11 g dX7_far_71 (by decide) ?_
                exact loop 0 (Nat.zero_le _) _ (fun l hl => by rw [va_upS]; exact hf9 l hl)
              · exact absurd c26 (by decide)
      · have e : sFar ((n, P, S, sd), (σ, μ, K, Hh), (ts, zz, it), (ra, tr)) (nI s0) x (nI w0) = NOL := by
          simp only [sFar, hs, hw]
          cases hx : ix x 7 with
          | none => rfl
          | some k0 => simp only [hcX, hx] at hcx; exact if_neg hcx
        refine pb_aload_n0 g dX7_far_0 ?_
        refine pb_iload_n1 g dX7_far_1 ?_
        refine pb_Vi1 g qX7_148 dX7_far_2 (k + 5) (by omega) dr_o (x_isShuffleT (k + 5) (by assumption) hS) (fun r2 h2 e2 => ?_)
        obtain ⟨rfl, rfl⟩ := e2
        first | refine pb_if_eqN g 29 dX7_far_5 (by decide) (by omega) (fun c5 => ?_) (fun c5 => ?_) | refine pb_if_eq g 29 dX7_far_5 (by decide) (fun c5 => ?_) (fun c5 => ?_)
        · exact absurd c5 (by decide)
        · refine pb_iload_n3 g dX7_far_8 ?_
          refine pb_Si1 g qX7_198 dX7_far_9 (k + 5) (by omega) (x_isPartT (k + 5) _ (by assumption) _) (fun r9 h9 e9 => ?_)
          obtain ⟨rfl, rfl⟩ := e9
          first | refine pb_if_eqN g 29 dX7_far_12 (by decide) (by omega) (fun c12 => ?_) (fun c12 => ?_) | refine pb_if_eq g 29 dX7_far_12 (by decide) (fun c12 => ?_) (fun c12 => ?_)
          · exact absurd c12 (by decide)
          · refine pb_aload_n0 g dX7_far_15 ?_
            refine pb_aload_n0 g dX7_far_16 ?_
            refine pb_getf g fX7_16 dX7_far_17 dr_o rfl ?_
            refine pb_iload_n1 g dX7_far_20 ?_
            refine pb_aaldN g dX7_far_21 dr_shs (by decide) (by omega) (by omega) (by rfl) ?_
            refine pb_iload_n2 g dX7_far_22 ?_
            refine pb_Vi2 g qX7_201 dX7_far_23 (k + 5) (by omega) dr_o (x_hasChances (k + 4) (s := s0) (n := n) (K := K s0) (a := Hh s0) (by omega) (d2 s0 hs0).1 (d2 s0 hs0).2.1 hKs.1 hKs.2.1 hKs.2.2.1 hn) (fun r23 h23 e23 => ?_)
            obtain ⟨rfl, rfl⟩ := e23
            rw [if_neg hcx]
            first | refine pb_if_neN g 33 dX7_far_26 (by decide) (by omega) (fun c26 => ?_) (fun c26 => ?_) | refine pb_if_ne g 33 dX7_far_26 (by decide) (fun c26 => ?_) (fun c26 => ?_)
            · exact absurd c26 (by decide)
            · refine pb_ldc2w (w := (-4611686018427387904)) g kX7_193 (by decide) dX7_far_29 ?_
              refine pb_lret g z dX7_far_32 ?_
              exact ⟨_, rfl, by rw [e]; rfl, ⟨_, _, _, _, _, _, _, _, _, _, _, rfl, d1, d2, d3, d4⟩⟩
