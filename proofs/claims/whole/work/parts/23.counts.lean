/-! ===== rows of counts; deals ===== -/
def eu : Nat → Nat → Nat
  | 0, _ => 0
  | s + 1, a => if a = 0 then 1 else (a + 1) * (if a < s then eu s a else 0) + (s + 1 - a) * eu s (a - 1)
def stir : Nat → Nat → Nat
  | 0, j => if j = 0 then 1 else 0
  | t + 1, j => if j = 0 then 0 else j * stir t j + stir t (j - 1)
def upF (n l : Nat) : Nat := fac n / fac (n - l)
def loF (n l : Nat) : Nat := if l = 0 then 0 else upF n (l - 1)
theorem up_lo : ∀ n, n < 11 → ∀ l, l < n → loF n l ≤ upF n l ∧ upF n l < 2 ^ 31 := by decide +kernel
theorem updL_eq {f : Nat → Int64} {k : Nat} {x : Int64} : vp_updL f k x k = x := if_pos rfl
theorem updL_ne {f : Nat → Int64} {k j : Nat} {x : Int64} (h : j ≠ k) : vp_updL f k x j = f j := if_neg h
set_option maxHeartbeats 4000000 in
set_option maxRecDepth 100000 in
theorem c_setRunCounts (k n q : Nat) (hn : n ≤ 10) (hn1 : 1 ≤ n) (f : Nat → Int64) (h : PH) (h1 : h[q]? = some (pJ 10 f)) : Runs yX1_setRunCounts cX1_setRunCounts 4 none (k) [.ref q, .int (nI n)] h (fun oo h' => oo = none ∧ ∃ f' : Nat → Int64, h.set q (pJ 10 f') = h' ∧ ∀ j, j < n → f' j = lN (eu n j)) := by
  refine Runs.of (by decide) (Nat.le_of_ble_eq_true rfl) [some (.ref q), some (.int (nI n)), none, none] 2 rfl (fun Γ g z => ?_)
  have loop : ∀ s, s ≤ n → 1 ≤ s → ∀ (w : Option Value) (fs : Nat → Int64), (∀ j, j < s → fs j = lN (eu s j)) → PB Γ 6 [some (.ref q), some (.int (nI n)), some (.int (nI (s + 1))), w] [] (h.set q (pJ 10 fs)) := by
    refine pb_loop n (fun s hs ih h1s w fs hfs => ?_)
    by_cases hsn : s < n
    · have ih := ih hsn (by omega)
      have inner : ∀ a, a ≤ s → ∀ gs : Nat → Int64, (∀ j, j ≤ a → gs j = lN (if j < s then eu s j else 0)) → (∀ j, a < j → j ≤ s → gs j = lN (eu (s + 1) j)) → PB Γ 21 [some (.ref q), some (.int (nI n)), some (.int (nI (s + 1))), some (.int (nI a))] [] (h.set q (pJ 10 gs)) := by
        refine pb_down (fun a iha ha gs hg1 hg2 => ?_)
        cases a with
        | zero =>
            refine pb_iload_n3 g dX1_setRunCounts_21 ?_
            first | refine pb_if_leN g 53 dX1_setRunCounts_22 (by decide) (by omega) (fun c22 => ?_) (fun c22 => ?_) | refine pb_if_le g 53 dX1_setRunCounts_22 (by decide) (fun c22 => ?_) (fun c22 => ?_)
            · first | refine pb_iinc2N g dX1_setRunCounts_53 (by decide) ?_ | refine pb_iinc2 g dX1_setRunCounts_53 (by decide) rfl ?_
              refine pb_goto g 6 dX1_setRunCounts_56 (by decide) ?_
              exact ih _ gs (fun j hj => by
                by_cases h0 : j = 0
                · subst h0
                  rw [hg1 0 (Nat.le_refl 0), if_pos (by omega)]
                  obtain ⟨s1, rfl⟩ : ∃ z, s = z + 1 := ⟨s - 1, by omega⟩
                  rfl
                · exact hg2 j (by omega) (by omega))
            · exact absurd c22 (by omega)
        | succ a =>
          have iha := iha a rfl (by omega)
          refine pb_iload_n3 g dX1_setRunCounts_21 ?_
          first | refine pb_if_leN g 53 dX1_setRunCounts_22 (by decide) (by omega) (fun c22 => ?_) (fun c22 => ?_) | refine pb_if_le g 53 dX1_setRunCounts_22 (by decide) (fun c22 => ?_) (fun c22 => ?_)
          · exact absurd c22 (by omega)
          · refine pb_aload_n0 g dX1_setRunCounts_25 ?_
            refine pb_iload_n3 g dX1_setRunCounts_26 ?_
            refine pb_iload_n3 g dX1_setRunCounts_27 ?_
            refine pb_iconst (v := nI 1) g dX1_setRunCounts_28 (by decide) ?_
            first | refine pb_iaddN g dX1_setRunCounts_29 ?_ | refine pb_iadd g dX1_setRunCounts_29 ?_
            first | refine pb_i2lN g dX1_setRunCounts_30 (by omega) ?_ | refine pb_i2l g dX1_setRunCounts_30 ?_
            refine pb_aload_n0 g dX1_setRunCounts_31 ?_
            refine pb_iload_n3 g dX1_setRunCounts_32 ?_
            first | refine pb_laldN g dX1_setRunCounts_33 (by first | assumption | rfl | exact hs_eq (by assumption) | (rw [hs_ne (by omega)]; assumption)) (by omega) (by omega) ?_ | refine pb_lald g dX1_setRunCounts_33 (by first | assumption | rfl | exact hs_eq (by assumption) | (rw [hs_ne (by omega)]; assumption)) (by assumption) ?_
            rw [hg1 (a + 1) (Nat.le_refl _)]
            first | refine pb_lmulN g dX1_setRunCounts_34 ?_ | refine pb_lmul g dX1_setRunCounts_34 ?_
            refine pb_iload_n2 g dX1_setRunCounts_35 ?_
            refine pb_iload_n3 g dX1_setRunCounts_36 ?_
            first | refine pb_isubN g dX1_setRunCounts_37 (by omega) ?_ | refine pb_isub g dX1_setRunCounts_37 ?_
            first | refine pb_i2lN g dX1_setRunCounts_38 (by omega) ?_ | refine pb_i2l g dX1_setRunCounts_38 ?_
            refine pb_aload_n0 g dX1_setRunCounts_39 ?_
            refine pb_iload_n3 g dX1_setRunCounts_40 ?_
            refine pb_iconst (v := nI 1) g dX1_setRunCounts_41 (by decide) ?_
            first | refine pb_isubN g dX1_setRunCounts_42 (by omega) ?_ | refine pb_isub g dX1_setRunCounts_42 ?_
            first | refine pb_laldN g dX1_setRunCounts_43 (by first | assumption | rfl | exact hs_eq (by assumption) | (rw [hs_ne (by omega)]; assumption)) (by omega) (by omega) ?_ | refine pb_lald g dX1_setRunCounts_43 (by first | assumption | rfl | exact hs_eq (by assumption) | (rw [hs_ne (by omega)]; assumption)) (by assumption) ?_
            rw [show a + 1 - 1 = a by omega, hg1 a (by omega), if_pos (show a < s by omega)]
            first | refine pb_lmulN g dX1_setRunCounts_44 ?_ | refine pb_lmul g dX1_setRunCounts_44 ?_
            first | refine pb_laddN g dX1_setRunCounts_45 ?_ | refine pb_ladd g dX1_setRunCounts_45 ?_
            first | refine pb_lastN g dX1_setRunCounts_46 (by first | assumption | rfl | exact hs_eq (by assumption) | (rw [hs_ne (by omega)]; assumption)) (by omega) (by omega) ?_ | refine pb_last g dX1_setRunCounts_46 (by first | assumption | rfl | exact hs_eq (by assumption) | (rw [hs_ne (by omega)]; assumption)) (by assumption) ?_
            rw [List.set_set]
            refine pb_iinc3 (v := nI a) g dX1_setRunCounts_47 (by decide) (pk_m1 a) ?_
            refine pb_goto g 21 dX1_setRunCounts_50 (by decide) ?_
            exact iha _ (fun j hj => by rw [updL_ne (by omega)]; exact hg1 j (by omega)) (fun j hj1 hj2 => by
              by_cases hja : j = a + 1
              · subst hja
                rw [updL_eq, eu, if_neg (Nat.succ_ne_zero a), show a + 1 - 1 = a by omega]
              · rw [updL_ne hja]
                exact hg2 j (by omega) hj2)
      refine pb_iload_n2 g dX1_setRunCounts_6 ?_
      refine pb_iload_n1 g dX1_setRunCounts_7 ?_
      first | refine pb_icmp_gtN g 59 dX1_setRunCounts_8 (by decide) (by omega) (by omega) (fun c8 => ?_) (fun c8 => ?_) | refine pb_icmp_gt g 59 dX1_setRunCounts_8 (by decide) (fun c8 => ?_) (fun c8 => ?_)
      · exact absurd c8 (by omega)
      · refine pb_aload_n0 g dX1_setRunCounts_11 ?_
        refine pb_iload_n2 g dX1_setRunCounts_12 ?_
        refine pb_iconst (v := nI 1) g dX1_setRunCounts_13 (by decide) ?_
        first | refine pb_isubN g dX1_setRunCounts_14 (by omega) ?_ | refine pb_isub g dX1_setRunCounts_14 ?_
        refine pb_lconst (v := lN 0) g dX1_setRunCounts_15 rfl ?_
        first | refine pb_lastN g dX1_setRunCounts_16 (by first | assumption | rfl | exact hs_eq (by assumption) | (rw [hs_ne (by omega)]; assumption)) (by omega) (by omega) ?_ | refine pb_last g dX1_setRunCounts_16 (by first | assumption | rfl | exact hs_eq (by assumption) | (rw [hs_ne (by omega)]; assumption)) (by assumption) ?_
        rw [List.set_set, show s + 1 - 1 = s by omega]
        refine pb_iload_n2 g dX1_setRunCounts_17 ?_
        refine pb_iconst (v := nI 1) g dX1_setRunCounts_18 (by decide) ?_
        first | refine pb_isubN g dX1_setRunCounts_19 (by omega) ?_ | refine pb_isub g dX1_setRunCounts_19 ?_
        refine pb_istore_n3 g dX1_setRunCounts_20 (by decide) ?_
        rw [show s + 1 - 1 = s by omega]
        exact inner s (Nat.le_refl s) _ (fun j hj => by
          by_cases hjs : j = s
          · subst hjs
            rw [updL_eq, if_neg (by omega)]
          · rw [updL_ne hjs, if_pos (by omega)]
            exact hfs j (by omega)) (fun j hj1 hj2 => by omega)
    · obtain rfl : s = n := by omega
      refine pb_iload_n2 g dX1_setRunCounts_6 ?_
      refine pb_iload_n1 g dX1_setRunCounts_7 ?_
      first | refine pb_icmp_gtN g 59 dX1_setRunCounts_8 (by decide) (by omega) (by omega) (fun c8 => ?_) (fun c8 => ?_) | refine pb_icmp_gt g 59 dX1_setRunCounts_8 (by decide) (fun c8 => ?_) (fun c8 => ?_)
      · refine pb_vret g z dX1_setRunCounts_59 ?_
        exact ⟨rfl, fs, rfl, hfs⟩
      · exact absurd c8 (by omega)
  refine pb_aload_n0 g dX1_setRunCounts_0 ?_
  refine pb_iconst (v := nI 0) g dX1_setRunCounts_1 (by decide) ?_
  refine pb_lconst (v := lN 1) g dX1_setRunCounts_2 rfl ?_
  first | refine pb_lastN g dX1_setRunCounts_3 (by first | assumption | rfl | exact hs_eq (by assumption) | (rw [hs_ne (by omega)]; assumption)) (by omega) (by omega) ?_ | refine pb_last g dX1_setRunCounts_3 (by first | assumption | rfl | exact hs_eq (by assumption) | (rw [hs_ne (by omega)]; assumption)) (by assumption) ?_
  refine pb_iconst (v := nI 2) g dX1_setRunCounts_4 (by decide) ?_
  refine pb_istore_n2 g dX1_setRunCounts_5 (by decide) ?_
  exact loop 1 hn1 (Nat.le_refl 1) _ _ (fun j hj => by
    obtain rfl : j = 0 := by omega
    rw [updL_eq]
    rfl)
set_option maxHeartbeats 4000000 in
set_option maxRecDepth 100000 in
theorem c_setLooseCounts (k n q : Nat) (hn : n ≤ 10) (f : Nat → Int64) (h : PH) (h1 : h[q]? = some (pJ 10 f)) : Runs yX1_setLooseCounts cX1_setLooseCounts 7 none (k) [.ref q, .int (nI n)] h (fun oo h' => oo = none ∧ ∃ f' : Nat → Int64, h.set q (pJ 10 f') = h' ∧ ∀ j, j < n → f' j = lN (upF n j - loF n j)) := by
  refine Runs.of (by decide) (Nat.le_of_ble_eq_true rfl) [some (.ref q), some (.int (nI n)), none, none, none, none, none] 5 rfl (fun Γ g z => ?_)
  have loop : ∀ l, l ≤ n → ∀ (w1 w2 : Option Value) (fs : Nat → Int64), (∀ j, j < l → fs j = lN (upF n j - loF n j)) → PB Γ 5 [some (.ref q), some (.int (nI n)), some (.long (lN (loF n l))), none, some (.int (nI l)), w1, w2] [] (h.set q (pJ 10 fs)) := by
    refine pb_loop n (fun l hl ih w1 w2 fs hfs => ?_)
    by_cases hln : l < n
    · have ih := ih hln
      obtain ⟨u1, u2⟩ := up_lo n (by omega) l hln
      obtain ⟨f1, f2⟩ := fac_lt n (by omega)
      obtain ⟨f3, f4⟩ := fac_lt (n - l) (by omega)
      refine pb_iload4 g dX1_setLooseCounts_5 ?_
      refine pb_iload_n1 g dX1_setLooseCounts_7 ?_
      first | refine pb_icmp_geN g 45 dX1_setLooseCounts_8 (by decide) (by omega) (by omega) (fun c8 => ?_) (fun c8 => ?_) | refine pb_icmp_ge g 45 dX1_setLooseCounts_8 (by decide) (fun c8 => ?_) (fun c8 => ?_)
      · exact absurd c8 (by omega)
      · refine pb_gets g sX1_28 dX1_setLooseCounts_11 ?_
        refine pb_iload_n1 g dX1_setLooseCounts_14 ?_
        first | refine pb_ialdN g dX1_setLooseCounts_15 (by first | assumption | rfl | exact hs_eq (by assumption) | (rw [hs_ne (by omega)]; assumption)) (by omega) (by omega) ?_ | refine pb_ald0 g dX1_setLooseCounts_15 (by omega) ?_ | refine pb_ald1 g dX1_setLooseCounts_15 (by omega) ?_ | refine pb_ald2 g dX1_setLooseCounts_15 (by omega) ?_ | refine pb_ald3 g dX1_setLooseCounts_15 (by omega) ?_ | refine pb_iald g dX1_setLooseCounts_15 (by first | assumption | rfl | exact hs_eq (by assumption) | (rw [hs_ne (by omega)]; assumption)) (by assumption) ?_
        rw [fac_at n (by omega)]
        refine pb_gets g sX1_28 dX1_setLooseCounts_16 ?_
        refine pb_iload_n1 g dX1_setLooseCounts_19 ?_
        refine pb_iload4 g dX1_setLooseCounts_20 ?_
        first | refine pb_isubN g dX1_setLooseCounts_22 (by omega) ?_ | refine pb_isub g dX1_setLooseCounts_22 ?_
        first | refine pb_ialdN g dX1_setLooseCounts_23 (by first | assumption | rfl | exact hs_eq (by assumption) | (rw [hs_ne (by omega)]; assumption)) (by omega) (by omega) ?_ | refine pb_ald0 g dX1_setLooseCounts_23 (by omega) ?_ | refine pb_ald1 g dX1_setLooseCounts_23 (by omega) ?_ | refine pb_ald2 g dX1_setLooseCounts_23 (by omega) ?_ | refine pb_ald3 g dX1_setLooseCounts_23 (by omega) ?_ | refine pb_iald g dX1_setLooseCounts_23 (by first | assumption | rfl | exact hs_eq (by assumption) | (rw [hs_ne (by omega)]; assumption)) (by assumption) ?_
        rw [fac_at (n - l) (by omega)]
        first | refine pb_idivN g dX1_setLooseCounts_24 (by omega) (by omega) (by omega) ?_ | refine pb_idiv g dX1_setLooseCounts_24 (by assumption) ?_
        change PB Γ _ _ (.int (nI (upF n l)) :: _) _
        first | refine pb_i2lN g dX1_setLooseCounts_25 (by omega) ?_ | refine pb_i2l g dX1_setLooseCounts_25 ?_
        refine pb_lstore5 g dX1_setLooseCounts_26 (by decide) ?_
        refine pb_aload_n0 g dX1_setLooseCounts_28 ?_
        refine pb_iload4 g dX1_setLooseCounts_29 ?_
        refine pb_lload5 g dX1_setLooseCounts_31 ?_
        refine pb_lload_n2 g dX1_setLooseCounts_33 ?_
        first | refine pb_lsubN g dX1_setLooseCounts_34 (by omega) ?_ | refine pb_lsub g dX1_setLooseCounts_34 ?_
        first | refine pb_lastN g dX1_setLooseCounts_35 (by first | assumption | rfl | exact hs_eq (by assumption) | (rw [hs_ne (by omega)]; assumption)) (by omega) (by omega) ?_ | refine pb_last g dX1_setLooseCounts_35 (by first | assumption | rfl | exact hs_eq (by assumption) | (rw [hs_ne (by omega)]; assumption)) (by assumption) ?_
        rw [List.set_set]
        refine pb_lload5 g dX1_setLooseCounts_36 ?_
        refine pb_lstore_n2 g dX1_setLooseCounts_38 (by decide) ?_
        first | refine pb_iinc4N g dX1_setLooseCounts_39 (by decide) ?_ | refine pb_iinc4 g dX1_setLooseCounts_39 (by decide) rfl ?_
        refine pb_goto g 5 dX1_setLooseCounts_42 (by decide) ?_
        have e1 : loF n (l + 1) = upF n l := by rw [loF, if_neg (by omega), show l + 1 - 1 = l by omega]
        rw [e1] at ih
        exact ih _ _ _ (fun j hj => by
          by_cases hjl : j = l
          · subst hjl
            rw [updL_eq]
          · rw [updL_ne hjl]
            exact hfs j (by omega))
    · obtain rfl : l = n := by omega
      refine pb_iload4 g dX1_setLooseCounts_5 ?_
      refine pb_iload_n1 g dX1_setLooseCounts_7 ?_
      first | refine pb_icmp_geN g 45 dX1_setLooseCounts_8 (by decide) (by omega) (by omega) (fun c8 => ?_) (fun c8 => ?_) | refine pb_icmp_ge g 45 dX1_setLooseCounts_8 (by decide) (fun c8 => ?_) (fun c8 => ?_)
      · refine pb_vret g z dX1_setLooseCounts_45 ?_
        exact ⟨rfl, fs, rfl, hfs⟩
      · exact absurd c8 (by omega)
  refine pb_lconst (v := lN 0) g dX1_setLooseCounts_0 rfl ?_
  refine pb_lstore_n2 g dX1_setLooseCounts_1 (by decide) ?_
  refine pb_iconst (v := nI 0) g dX1_setLooseCounts_2 (by decide) ?_
  refine pb_istore4 g dX1_setLooseCounts_3 (by decide) ?_
  have hl := loop 0 (Nat.zero_le _) none none f (fun j hj => absurd hj (by omega))
  rw [hs_self h1] at hl
  exact hl
set_option maxHeartbeats 4000000 in
set_option maxRecDepth 100000 in
theorem c_setBlocks (k n q t : Nat) (hn : n ≤ 10) (ht : t ≤ 6) (f : Nat → Int64) (h : PH) (h1 : h[q]? = some (pJ 11 f)) : Runs yX1_setBlocks cX1_setBlocks 5 none (k) [.ref q, .int (nI n), .int (nI t)] h (fun oo h' => oo = none ∧ ∃ f' : Nat → Int64, h.set q (pJ 11 f') = h' ∧ ∀ j, j ≤ n → f' j = lN (stir t j)) := by
  refine Runs.of (by decide) (Nat.le_of_ble_eq_true rfl) [some (.ref q), some (.int (nI n)), some (.int (nI t)), none, none] 2 rfl (fun Γ g z => ?_)
  have loop2 : ∀ s, s ≤ t → ∀ (w : Option Value) (fs : Nat → Int64), (∀ j, j ≤ n → fs j = lN (stir s j)) → PB Γ 23 [some (.ref q), some (.int (nI n)), some (.int (nI t)), some (.int (nI (s + 1))), w] [] (h.set q (pJ 11 fs)) := by
    refine pb_loop t (fun s hs ih w fs hfs => ?_)
    by_cases hst : s < t
    · have ih := ih hst
      have inner : ∀ a, a ≤ n → ∀ gs : Nat → Int64, (∀ j, j ≤ a → gs j = lN (stir s j)) → (∀ j, a < j → j ≤ n → gs j = lN (stir (s + 1) j)) → PB Γ 31 [some (.ref q), some (.int (nI n)), some (.int (nI t)), some (.int (nI (s + 1))), some (.int (nI a))] [] (h.set q (pJ 11 gs)) := by
        refine pb_down (fun a iha ha gs hg1 hg2 => ?_)
        cases a with
        | zero =>
            refine pb_iload4 g dX1_setBlocks_31 ?_
            first | refine pb_if_leN g 61 dX1_setBlocks_33 (by decide) (by omega) (fun c33 => ?_) (fun c33 => ?_) | refine pb_if_le g 61 dX1_setBlocks_33 (by decide) (fun c33 => ?_) (fun c33 => ?_)
            · refine pb_aload_n0 g dX1_setBlocks_61 ?_
              refine pb_iconst (v := nI 0) g dX1_setBlocks_62 (by decide) ?_
              refine pb_lconst (v := lN 0) g dX1_setBlocks_63 rfl ?_
              first | refine pb_lastN g dX1_setBlocks_64 (by first | assumption | rfl | exact hs_eq (by assumption) | (rw [hs_ne (by omega)]; assumption)) (by omega) (by omega) ?_ | refine pb_last g dX1_setBlocks_64 (by first | assumption | rfl | exact hs_eq (by assumption) | (rw [hs_ne (by omega)]; assumption)) (by assumption) ?_
              rw [List.set_set]
              first | refine pb_iinc3N g dX1_setBlocks_65 (by decide) ?_ | refine pb_iinc3 g dX1_setBlocks_65 (by decide) rfl ?_
              refine pb_goto g 23 dX1_setBlocks_68 (by decide) ?_
              exact ih _ _ (fun j hj => by
                by_cases h0 : j = 0
                · subst h0
                  rw [updL_eq]
                  rfl
                · rw [updL_ne h0]
                  exact hg2 j (by omega) hj)
            · exact absurd c33 (by omega)
        | succ a =>
          have iha := iha a rfl (by omega)
          refine pb_iload4 g dX1_setBlocks_31 ?_
          first | refine pb_if_leN g 61 dX1_setBlocks_33 (by decide) (by omega) (fun c33 => ?_) (fun c33 => ?_) | refine pb_if_le g 61 dX1_setBlocks_33 (by decide) (fun c33 => ?_) (fun c33 => ?_)
          · exact absurd c33 (by omega)
          · refine pb_aload_n0 g dX1_setBlocks_36 ?_
            refine pb_iload4 g dX1_setBlocks_37 ?_
            refine pb_iload4 g dX1_setBlocks_39 ?_
            first | refine pb_i2lN g dX1_setBlocks_41 (by omega) ?_ | refine pb_i2l g dX1_setBlocks_41 ?_
            refine pb_aload_n0 g dX1_setBlocks_42 ?_
            refine pb_iload4 g dX1_setBlocks_43 ?_
            first | refine pb_laldN g dX1_setBlocks_45 (by first | assumption | rfl | exact hs_eq (by assumption) | (rw [hs_ne (by omega)]; assumption)) (by omega) (by omega) ?_ | refine pb_lald g dX1_setBlocks_45 (by first | assumption | rfl | exact hs_eq (by assumption) | (rw [hs_ne (by omega)]; assumption)) (by assumption) ?_
            rw [hg1 (a + 1) (Nat.le_refl _)]
            first | refine pb_lmulN g dX1_setBlocks_46 ?_ | refine pb_lmul g dX1_setBlocks_46 ?_
            refine pb_aload_n0 g dX1_setBlocks_47 ?_
            refine pb_iload4 g dX1_setBlocks_48 ?_
            refine pb_iconst (v := nI 1) g dX1_setBlocks_50 (by decide) ?_
            first | refine pb_isubN g dX1_setBlocks_51 (by omega) ?_ | refine pb_isub g dX1_setBlocks_51 ?_
            first | refine pb_laldN g dX1_setBlocks_52 (by first | assumption | rfl | exact hs_eq (by assumption) | (rw [hs_ne (by omega)]; assumption)) (by omega) (by omega) ?_ | refine pb_lald g dX1_setBlocks_52 (by first | assumption | rfl | exact hs_eq (by assumption) | (rw [hs_ne (by omega)]; assumption)) (by assumption) ?_
            rw [show a + 1 - 1 = a by omega, hg1 a (by omega)]
            first | refine pb_laddN g dX1_setBlocks_53 ?_ | refine pb_ladd g dX1_setBlocks_53 ?_
            first | refine pb_lastN g dX1_setBlocks_54 (by first | assumption | rfl | exact hs_eq (by assumption) | (rw [hs_ne (by omega)]; assumption)) (by omega) (by omega) ?_ | refine pb_last g dX1_setBlocks_54 (by first | assumption | rfl | exact hs_eq (by assumption) | (rw [hs_ne (by omega)]; assumption)) (by assumption) ?_
            rw [List.set_set]
            refine pb_iinc4 (v := nI a) g dX1_setBlocks_55 (by decide) (pk_m1 a) ?_
            refine pb_goto g 31 dX1_setBlocks_58 (by decide) ?_
            exact iha _ (fun j hj => by rw [updL_ne (by omega)]; exact hg1 j (by omega)) (fun j hj1 hj2 => by
              by_cases hja : j = a + 1
              · subst hja
                rw [updL_eq, stir, if_neg (by omega), show a + 1 - 1 = a by omega]
              · rw [updL_ne hja]
                exact hg2 j (by omega) hj2)
      refine pb_iload_n3 g dX1_setBlocks_23 ?_
      refine pb_iload_n2 g dX1_setBlocks_24 ?_
      first | refine pb_icmp_gtN g 71 dX1_setBlocks_25 (by decide) (by omega) (by omega) (fun c25 => ?_) (fun c25 => ?_) | refine pb_icmp_gt g 71 dX1_setBlocks_25 (by decide) (fun c25 => ?_) (fun c25 => ?_)
      · exact absurd c25 (by omega)
      · refine pb_iload_n1 g dX1_setBlocks_28 ?_
        refine pb_istore4 g dX1_setBlocks_29 (by decide) ?_
        exact inner n (Nat.le_refl n) fs hfs (fun j hj1 hj2 => by omega)
    · obtain rfl : s = t := by omega
      refine pb_iload_n3 g dX1_setBlocks_23 ?_
      refine pb_iload_n2 g dX1_setBlocks_24 ?_
      first | refine pb_icmp_gtN g 71 dX1_setBlocks_25 (by decide) (by omega) (by omega) (fun c25 => ?_) (fun c25 => ?_) | refine pb_icmp_gt g 71 dX1_setBlocks_25 (by decide) (fun c25 => ?_) (fun c25 => ?_)
      · refine pb_vret g z dX1_setBlocks_71 ?_
        exact ⟨rfl, fs, rfl, hfs⟩
      · exact absurd c25 (by omega)
  have loop1 : ∀ j, j ≤ n + 1 → ∀ fs : Nat → Int64, (∀ i, i < j → fs i = lN 0) → PB Γ 2 [some (.ref q), some (.int (nI n)), some (.int (nI t)), some (.int (nI j)), none] [] (h.set q (pJ 11 fs)) := by
    refine pb_loop (n + 1) (fun j hj ih fs hfs => ?_)
    refine pb_iload_n3 g dX1_setBlocks_2 ?_
    refine pb_iload_n1 g dX1_setBlocks_3 ?_
    first | refine pb_icmp_gtN g 17 dX1_setBlocks_4 (by decide) (by omega) (by omega) (fun c4 => ?_) (fun c4 => ?_) | refine pb_icmp_gt g 17 dX1_setBlocks_4 (by decide) (fun c4 => ?_) (fun c4 => ?_)
    · refine pb_aload_n0 g dX1_setBlocks_17 ?_
      refine pb_iconst (v := nI 0) g dX1_setBlocks_18 (by decide) ?_
      refine pb_lconst (v := lN 1) g dX1_setBlocks_19 rfl ?_
      first | refine pb_lastN g dX1_setBlocks_20 (by first | assumption | rfl | exact hs_eq (by assumption) | (rw [hs_ne (by omega)]; assumption)) (by omega) (by omega) ?_ | refine pb_last g dX1_setBlocks_20 (by first | assumption | rfl | exact hs_eq (by assumption) | (rw [hs_ne (by omega)]; assumption)) (by assumption) ?_
      rw [List.set_set]
      refine pb_iconst (v := nI 1) g dX1_setBlocks_21 (by decide) ?_
      refine pb_istore_n3 g dX1_setBlocks_22 (by decide) ?_
      exact loop2 0 (Nat.zero_le _) _ _ (fun i hi => by
        by_cases e : i = 0
        · subst e
          rw [updL_eq]
          rfl
        · rw [updL_ne e, hfs i (by omega), stir, if_neg e])
    · refine pb_aload_n0 g dX1_setBlocks_7 ?_
      refine pb_iload_n3 g dX1_setBlocks_8 ?_
      refine pb_lconst (v := lN 0) g dX1_setBlocks_9 rfl ?_
      first | refine pb_lastN g dX1_setBlocks_10 (by first | assumption | rfl | exact hs_eq (by assumption) | (rw [hs_ne (by omega)]; assumption)) (by omega) (by omega) ?_ | refine pb_last g dX1_setBlocks_10 (by first | assumption | rfl | exact hs_eq (by assumption) | (rw [hs_ne (by omega)]; assumption)) (by assumption) ?_
      rw [List.set_set]
      first | refine pb_iinc3N g dX1_setBlocks_11 (by decide) ?_ | refine pb_iinc3 g dX1_setBlocks_11 (by decide) rfl ?_
      refine pb_goto g 2 dX1_setBlocks_14 (by decide) ?_
      exact ih (by omega) _ (fun i hi => by
        by_cases e : i = j
        · subst e
          rw [updL_eq]
        · rw [updL_ne e]
          exact hfs i (by omega))
  refine pb_iconst (v := nI 0) g dX1_setBlocks_0 (by decide) ?_
  refine pb_istore_n3 g dX1_setBlocks_1 (by decide) ?_
  have hl := loop1 0 (Nat.zero_le _) f (fun i hi => absurd hi (by omega))
  rw [hs_self h1] at hl
  exact hl
/-- the places of a deal into hh heaps, heap by heap, from the last card of each -/
def dlI (g hh : Nat) : Nat → List Nat
  | 0 => [g]
  | d + 1 => (g + (d + 1) * hh) :: dlI g hh d
def dlF (n hh : Nat) : Nat → List Nat
  | 0 => []
  | g + 1 => dlF n hh g ++ dlI g hh ((n - 1 - g) / hh)
theorem dl_len : ∀ n, n < 11 → ∀ hh, hh < n + 1 → 0 < hh → (dlF n hh hh).length = n ∧ ∀ g, g < hh → (dlF n hh g).length + ((n - 1 - g) / hh + 1) ≤ n := by decide +kernel
theorem dlI_len (g hh : Nat) : ∀ d, (dlI g hh d).length = d + 1
  | 0 => rfl
  | d + 1 => by simp [dlI, dlI_len g hh d]
set_option maxHeartbeats 4000000 in
set_option maxRecDepth 100000 in
theorem c_setDealt (k n hh q : Nat) (hn : n ≤ 10) (hh1 : 1 ≤ hh) (hhn : hh ≤ n) (f : Nat → Int32) (h : PH) (h1 : h[q]? = some (pI 10 f)) : Runs yX2_setDealt cX2_setDealt 7 none (k) [.ref q, .int (nI n), .int (nI hh)] h (fun oo h' => oo = none ∧ ∃ f' : Nat → Int32, h.set q (pI 10 f') = h' ∧ ∀ j, j < n → f' j = nI ((dlF n hh hh).getD j 0)) := by
  refine Runs.of (by decide) (Nat.le_of_ble_eq_true rfl) [some (.ref q), some (.int (nI n)), some (.int (nI hh)), none, none, none, none] 4 rfl (fun Γ g z => ?_)
  obtain ⟨L1, L2⟩ := dl_len n (by omega) hh (by omega) (by omega)
  have loop : ∀ g0, g0 ≤ hh → ∀ (w1 w2 : Option Value) (fs : Nat → Int32), (∀ j, j < (dlF n hh g0).length → fs j = nI ((dlF n hh g0).getD j 0)) → PB Γ 5 [some (.ref q), some (.int (nI n)), some (.int (nI hh)), some (.int (nI (dlF n hh g0).length)), some (.int (nI g0)), w1, w2] [] (h.set q (pI 10 fs)) := by
    refine pb_loop hh (fun g0 hg0 ih w1 w2 fs hfs => ?_)
    by_cases hgh : g0 < hh
    · have ih := ih hgh
      have L2 := L2 g0 hgh
      have hrow : ∀ d pre, dlF n hh (g0 + 1) = pre ++ dlI g0 hh d → pre.length + (d + 1) ≤ n → ∀ (w1 : Int32) (fs : Nat → Int32), (∀ j, j < pre.length → fs j = nI (pre.getD j 0)) → PB Γ 30 [some (.ref q), some (.int (nI n)), some (.int (nI hh)), some (.int (nI pre.length)), some (.int (nI g0)), some (.int w1), some (.int (nI (g0 + d * hh)))] [] (h.set q (pI 10 fs)) := by
        intro d
        induction d with
        | zero =>
          intro pre hpre hlen w1 fs hfs
          have hlen2 : (pre ++ [g0]).length = pre.length + 1 := by simp
          have hnew : ∀ j, j < (pre ++ [g0]).length → upd fs pre.length (nI (g0)) j = nI ((pre ++ [g0]).getD j 0) := fun j hj => by
            by_cases e : j = pre.length
            · subst e
              rw [upd, if_pos rfl]
              simp
            · rw [upd, if_neg e, hfs j (by omega)]
              congr 1
              simp [List.getElem?_append_left (show j < pre.length by omega)]
          rw [show g0 + 0 * hh = g0 by omega]
          have hpre2 : dlF n hh (g0 + 1) = pre ++ [g0] := hpre
          have hx : nI g0 - nI hh < nI g0 := by
            rw [Int32.lt_iff_toInt_lt, pk_sub_toInt (by omega) (by omega), nI_toInt (by omega)]
            omega
          refine pb_iload6 g dX2_setDealt_30 ?_
          refine pb_iload4 g dX2_setDealt_32 ?_
          first | refine pb_icmp_ltN g 59 dX2_setDealt_34 (by decide) (by omega) (by omega) (fun c34 => ?_) (fun c34 => ?_) | refine pb_icmp_lt g 59 dX2_setDealt_34 (by decide) (fun c34 => ?_) (fun c34 => ?_)
          · exact absurd c34 (by omega)
          · refine pb_iload_n3 g dX2_setDealt_37 ?_
            refine pb_iload_n1 g dX2_setDealt_38 ?_
            first | refine pb_icmp_geN g 59 dX2_setDealt_39 (by decide) (by omega) (by omega) (fun c39 => ?_) (fun c39 => ?_) | refine pb_icmp_ge g 59 dX2_setDealt_39 (by decide) (fun c39 => ?_) (fun c39 => ?_)
            · exact absurd c39 (by omega)
            · refine pb_aload_n0 g dX2_setDealt_42 ?_
              refine pb_iload_n3 g dX2_setDealt_43 ?_
              refine pb_iload6 g dX2_setDealt_44 ?_
              first | refine pb_iastN g dX2_setDealt_46 (by first | assumption | rfl | exact hs_eq (by assumption) | (rw [hs_ne (by omega)]; assumption)) (by omega) (by omega) ?_ | refine pb_iast g dX2_setDealt_46 (by first | assumption | rfl | exact hs_eq (by assumption) | (rw [hs_ne (by omega)]; assumption)) (by assumption) ?_
              rw [List.set_set]
              first | refine pb_iinc3N g dX2_setDealt_47 (by decide) ?_ | refine pb_iinc3 g dX2_setDealt_47 (by decide) rfl ?_
              refine pb_iload6 g dX2_setDealt_50 ?_
              refine pb_iload_n2 g dX2_setDealt_52 ?_
              refine pb_isub g dX2_setDealt_53 ?_
              refine pb_istore6 g dX2_setDealt_54 (by decide) ?_
              refine pb_goto g 30 dX2_setDealt_56 (by decide) ?_
              refine pb_iload6 g dX2_setDealt_30 ?_
              refine pb_iload4 g dX2_setDealt_32 ?_
              refine pb_icmp_lt g 59 dX2_setDealt_34 (by decide) (fun _ => ?_) (fun c => absurd hx c)
              refine pb_iinc4N g dX2_setDealt_59 (by decide) ?_
              refine pb_goto g 5 dX2_setDealt_62 (by decide) ?_
              rw [hpre2, hlen2] at ih
              exact ih _ _ _ (by rw [← hlen2]; exact hnew)
        | succ d ihd =>
          intro pre hpre hlen w1 fs hfs
          have hpos : 0 < hh := by omega
          have e3 : (d + 1) * hh = d * hh + hh := Nat.succ_mul d hh
          have hlen2 : (pre ++ [g0 + (d + 1) * hh]).length = pre.length + 1 := by simp
          have hnew : ∀ j, j < (pre ++ [g0 + (d + 1) * hh]).length → upd fs pre.length (nI (g0 + (d + 1) * hh)) j = nI ((pre ++ [g0 + (d + 1) * hh]).getD j 0) := fun j hj => by
            by_cases e : j = pre.length
            · subst e
              rw [upd, if_pos rfl]
              simp
            · rw [upd, if_neg e, hfs j (by omega)]
              congr 1
              simp [List.getElem?_append_left (show j < pre.length by omega)]
          have hpre2 : dlF n hh (g0 + 1) = (pre ++ [g0 + (d + 1) * hh]) ++ dlI g0 hh d := by rw [hpre, dlI, List.append_assoc]; rfl
          have hbig : (d + 1) * hh < 2 ^ 30 := by
            have : (d + 1) * hh ≤ 10 * 10 := Nat.mul_le_mul (by omega) (by omega)
            omega
          have ihd := ihd _ hpre2 (by omega) w1 _ hnew
          rw [hlen2] at ihd
          refine pb_iload6 g dX2_setDealt_30 ?_
          refine pb_iload4 g dX2_setDealt_32 ?_
          first | refine pb_icmp_ltN g 59 dX2_setDealt_34 (by decide) (by omega) (by omega) (fun c34 => ?_) (fun c34 => ?_) | refine pb_icmp_lt g 59 dX2_setDealt_34 (by decide) (fun c34 => ?_) (fun c34 => ?_)
          · exact absurd c34 (by omega)
          · refine pb_iload_n3 g dX2_setDealt_37 ?_
            refine pb_iload_n1 g dX2_setDealt_38 ?_
            first | refine pb_icmp_geN g 59 dX2_setDealt_39 (by decide) (by omega) (by omega) (fun c39 => ?_) (fun c39 => ?_) | refine pb_icmp_ge g 59 dX2_setDealt_39 (by decide) (fun c39 => ?_) (fun c39 => ?_)
            · exact absurd c39 (by omega)
            · refine pb_aload_n0 g dX2_setDealt_42 ?_
              refine pb_iload_n3 g dX2_setDealt_43 ?_
              refine pb_iload6 g dX2_setDealt_44 ?_
              first | refine pb_iastN g dX2_setDealt_46 (by first | assumption | rfl | exact hs_eq (by assumption) | (rw [hs_ne (by omega)]; assumption)) (by omega) (by omega) ?_ | refine pb_iast g dX2_setDealt_46 (by first | assumption | rfl | exact hs_eq (by assumption) | (rw [hs_ne (by omega)]; assumption)) (by assumption) ?_
              rw [List.set_set]
              first | refine pb_iinc3N g dX2_setDealt_47 (by decide) ?_ | refine pb_iinc3 g dX2_setDealt_47 (by decide) rfl ?_
              refine pb_iload6 g dX2_setDealt_50 ?_
              refine pb_iload_n2 g dX2_setDealt_52 ?_
              first | refine pb_isubN g dX2_setDealt_53 (by omega) ?_ | refine pb_isub g dX2_setDealt_53 ?_
              rw [show g0 + (d + 1) * hh - hh = g0 + d * hh by omega]
              refine pb_istore6 g dX2_setDealt_54 (by decide) ?_
              refine pb_goto g 30 dX2_setDealt_56 (by decide) ?_
              exact ihd
      refine pb_iload4 g dX2_setDealt_5 ?_
      refine pb_iload_n2 g dX2_setDealt_7 ?_
      first | refine pb_icmp_geN g 65 dX2_setDealt_8 (by decide) (by omega) (by omega) (fun c8 => ?_) (fun c8 => ?_) | refine pb_icmp_ge g 65 dX2_setDealt_8 (by decide) (fun c8 => ?_) (fun c8 => ?_)
      · exact absurd c8 (by omega)
      · refine pb_iload4 g dX2_setDealt_11 ?_
        refine pb_iload_n1 g dX2_setDealt_13 ?_
        refine pb_iconst (v := nI 1) g dX2_setDealt_14 (by decide) ?_
        first | refine pb_isubN g dX2_setDealt_15 (by omega) ?_ | refine pb_isub g dX2_setDealt_15 ?_
        refine pb_iload4 g dX2_setDealt_16 ?_
        first | refine pb_isubN g dX2_setDealt_18 (by omega) ?_ | refine pb_isub g dX2_setDealt_18 ?_
        refine pb_iload_n2 g dX2_setDealt_19 ?_
        first | refine pb_idivN g dX2_setDealt_20 (by omega) (by omega) (by omega) ?_ | refine pb_idiv g dX2_setDealt_20 (by assumption) ?_
        refine pb_iload_n2 g dX2_setDealt_21 ?_
        first | refine pb_imulN g dX2_setDealt_22 ?_ | refine pb_imul g dX2_setDealt_22 ?_
        first | refine pb_iaddN g dX2_setDealt_23 ?_ | refine pb_iadd g dX2_setDealt_23 ?_
        refine pb_istore5 g dX2_setDealt_24 (by decide) ?_
        refine pb_iload5 g dX2_setDealt_26 ?_
        refine pb_istore6 g dX2_setDealt_28 (by decide) ?_
        exact hrow _ _ rfl L2 _ fs hfs
    · obtain rfl : g0 = hh := by omega
      refine pb_iload4 g dX2_setDealt_5 ?_
      refine pb_iload_n2 g dX2_setDealt_7 ?_
      first | refine pb_icmp_geN g 65 dX2_setDealt_8 (by decide) (by omega) (by omega) (fun c8 => ?_) (fun c8 => ?_) | refine pb_icmp_ge g 65 dX2_setDealt_8 (by decide) (fun c8 => ?_) (fun c8 => ?_)
      · refine pb_vret g z dX2_setDealt_65 ?_
        exact ⟨rfl, fs, rfl, fun j hj => hfs j (by rw [L1]; exact hj)⟩
      · exact absurd c8 (by omega)
  refine pb_iconst (v := nI 0) g dX2_setDealt_0 (by decide) ?_
  refine pb_istore_n3 g dX2_setDealt_1 (by decide) ?_
  refine pb_iconst (v := nI 0) g dX2_setDealt_2 (by decide) ?_
  refine pb_istore4 g dX2_setDealt_3 (by decide) ?_
  have hl := loop 0 (Nat.zero_le _) none none f (fun j hj => absurd hj (by simp [dlF]))
  rw [hs_self h1] at hl
  exact hl
