/-! ===== the reference: lots told and drawn ===== -/
set_option maxHeartbeats 4000000 in
set_option maxRecDepth 100000 in
theorem m_lot (k L a i : Nat) (hL : L < 2 ^ 63) (ha : 1 ≤ a) (ha2 : a ≤ 10) (hi : i ≤ 10) (h : PH) : Runs yX8_lot cX8_lot 7 (some .int) (k) [.long (lN L), .int (nI a), .int (nI i)] h (fun o h' => ∃ r : Int32, o = some (.int r) ∧ r = nI (L / a ^ i % a) ∧ h = h') := by
  refine Runs.of (by decide) (Nat.le_of_ble_eq_true rfl) [some (.long (lN L)), none, some (.int (nI a)), some (.int (nI i)), none, none, none] 3 rfl (fun Γ g z => ?_)
  have hd : ∀ j, L / a ^ j < 2 ^ 63 := fun j => Nat.lt_of_le_of_lt (Nat.div_le_self _ _) hL
  have loop : ∀ j, j ≤ i → PB Γ 6 [some (.long (lN L)), none, some (.int (nI a)), some (.int (nI i)), some (.long (lN (L / a ^ j))), none, some (.int (nI j))] [] h := by
    refine pb_loop i (fun j hj ih => ?_)
    have hdj := hd j
    refine pb_iload6 g dX8_lot_6 ?_
    refine pb_iload_n3 g dX8_lot_8 ?_
    first | refine pb_icmp_geN g 25 dX8_lot_9 (by decide) (by omega) (by omega) (fun c9 => ?_) (fun c9 => ?_) | refine pb_icmp_ge g 25 dX8_lot_9 (by decide) (fun c9 => ?_) (fun c9 => ?_)
    · refine pb_lload4 g dX8_lot_25 ?_
      refine pb_iload_n2 g dX8_lot_27 ?_
      first | refine pb_i2lN g dX8_lot_28 (by omega) ?_ | refine pb_i2l g dX8_lot_28 ?_
      first | refine pb_lremN g dX8_lot_29 (by omega) (by omega) (by omega) ?_ | refine pb_lrem g dX8_lot_29 (by assumption) ?_
      first | refine pb_l2iN g dX8_lot_30 ?_ | refine pb_l2i g dX8_lot_30 ?_
      refine pb_iret g z dX8_lot_31 ?_
      obtain rfl : j = i := by omega
      exact ⟨_, rfl, rfl, rfl⟩
    · refine pb_lload4 g dX8_lot_12 ?_
      refine pb_iload_n2 g dX8_lot_14 ?_
      first | refine pb_i2lN g dX8_lot_15 (by omega) ?_ | refine pb_i2l g dX8_lot_15 ?_
      first | refine pb_ldivN g dX8_lot_16 (by omega) (by omega) (by omega) ?_ | refine pb_ldiv g dX8_lot_16 (by assumption) ?_
      refine pb_lstore4 g dX8_lot_17 (by decide) ?_
      first | refine pb_iinc6N g dX8_lot_19 (by decide) ?_ | refine pb_iinc6 g dX8_lot_19 (by decide) rfl ?_
      refine pb_goto g 6 dX8_lot_22 (by decide) ?_
      rw [Nat.div_div_eq_div_mul, ← Nat.pow_succ]
      exact ih c9
  refine pb_lload_n0 g dX8_lot_0 ?_
  refine pb_lstore4 g dX8_lot_1 (by decide) ?_
  refine pb_iconst (v := nI 0) g dX8_lot_3 (by decide) ?_
  refine pb_istore6 g dX8_lot_4 (by decide) ?_
  have z9 := loop 0 (Nat.zero_le _)
  rw [Nat.pow_zero, Nat.div_one] at z9
  exact z9
set_option maxHeartbeats 4000000 in
set_option maxRecDepth 100000 in
theorem m_lays (k : Nat) {xP xS xsd xbo : Int32} {xod xkn xhs xmm xln xot xfa xgr xtsr xtsz xce xmv xtc : Nat → Int32} {xwy xnx xch xaf xfo xco : Nat → Int64} {n p s K a L : Nat} (hn : n ≤ 10) (hn1 : 1 ≤ n) (hp : p < 12) (hs : s < 10) (hk : xkn s = nI K) (hK : K < 5) (hh : xhs s = nI a) (ha1 : 1 ≤ a) (ha : a ≤ 10) (hL : L < 2 ^ 63) (h4 : K = 4 → L < n ∧ a = n) (o : Nat → Nat) (hf : ∀ j, j < n → xod (10 * p + j) = nI (o j)) : Runs yX8_lays cX8_lays 11 none (k + 1) [.ref 0, .int (nI s), .int (nI p), .long (lN L)] (mkH 20 (mdF (nI n) xP xS xsd xod xkn xhs xmm xln xot xwy xnx xch xaf xfa xgr xfo xco xtsr xtsz xce xmv xtc xbo)) (fun oo h' => oo = none ∧ ∃ f9 l9 : Nat → Int32, mkH 20 (mdF (nI n) xP xS xsd (cpF xod f9 (10 * p) n) xkn xhs xmm (l9) xot xwy xnx xch xaf xfa xgr xfo xco xtsr xtsz xce xmv xtc xbo) = h' ∧ ∀ j, j < n → f9 j = nI (layO n K (fun i => L / a ^ i % a) o j)) := by
  refine Runs.of (by decide) (Nat.le_of_ble_eq_true rfl) [some (.ref 0), some (.int (nI s)), some (.int (nI p)), some (.long (lN L)), none, none, none, none, none, none, none] 6 rfl (fun Γ g z => ?_)
  have hl : ∀ j, j < n → tkF xln xod (10 * p) n j = nI (o j) := fun j hj => by rw [tk_at _ _ _ n j hj]; exact hf j hj
  by_cases hk4 : K = 4
  · obtain ⟨hLn, han⟩ := h4 hk4
    subst hk4
    have loop : ∀ i, i ≤ L → PB Γ 30 [some (.ref 0), some (.int (nI s)), some (.int (nI p)), some (.long (lN L)), none, some (.int (nI L)), some (.int (tkF xln xod (10 * p) n 0)), some (.int (nI i)), none, none, none] [] (mkH 20 (mdF (nI n) xP xS xsd xod xkn xhs xmm (tmF (tkF xln xod (10 * p) n) i) xot xwy xnx xch xaf xfa xgr xfo xco xtsr xtsz xce xmv xtc xbo)) := by
      refine pb_loop L (fun i hi ih => ?_)
      refine pb_iload7 g dX8_lays_30 ?_
      refine pb_iload5 g dX8_lays_32 ?_
      first | refine pb_icmp_geN g 59 dX8_lays_34 (by decide) (by omega) (by omega) (fun c34 => ?_) (fun c34 => ?_) | refine pb_icmp_ge g 59 dX8_lays_34 (by decide) (fun c34 => ?_) (fun c34 => ?_)
      · refine pb_aload_n0 g dX8_lays_59 ?_
        refine pb_getf g fX8_26 dX8_lays_60 mr_o rfl ?_
        refine pb_iload5 g dX8_lays_63 ?_
        refine pb_iload6 g dX8_lays_65 ?_
        first | refine pb_iastN g dX8_lays_67 (by first | exact mr_line | exact mr_order | exact mr_kind | exact mr_heaps | exact mr_m | exact mr_other | exact mr_ways | exact mr_next | exact mr_chances | exact mr_after | exact mr_far | exact mr_groups | exact mr_found | exact mr_counts | exact mr_traySort | exact mr_traySize | exact mr_cells | exact mr_moved | exact mr_traced | assumption) (by omega) (by omega) ?_ | refine pb_iast g dX8_lays_67 (by first | exact mr_line | exact mr_order | exact mr_kind | exact mr_heaps | exact mr_m | exact mr_other | exact mr_ways | exact mr_next | exact mr_chances | exact mr_after | exact mr_far | exact mr_groups | exact mr_found | exact mr_counts | exact mr_traySort | exact mr_traySize | exact mr_cells | exact mr_moved | exact mr_traced | assumption) (by assumption) ?_
        first | rw [ms_line]
        refine pb_aload_n0 g dX8_lays_68 ?_
        refine pb_iload_n2 g dX8_lays_69 ?_
        refine pb_Vv1 g qX8_138 dX8_lays_70 k (by omega) mr_o (m_puts k (n := n) (p := p) hn hp) (fun h70 e70 => ?_)
        subst e70
        refine pb_vret g z dX8_lays_73 ?_
        obtain rfl : i = L := by omega
        refine ⟨rfl, _, _, rfl, fun j hj => ?_⟩
        show upd (tmF (tkF xln xod (10 * p) n) i) i (tkF xln xod (10 * p) n 0) j = nI (layO n 4 (fun i0 => i / a ^ i0 % a) o j)
        rw [layO, if_pos rfl, tpO]
        show _ = nI (if j < i / a ^ 0 % a then o (j + 1) else if j = i / a ^ 0 % a then o 0 else o j)
        rw [Nat.pow_zero, Nat.div_one, Nat.mod_eq_of_lt (by omega)]
        unfold upd
        rw [tm_at]
        by_cases q : j = i
        · rw [if_pos q, if_neg (by omega), if_pos q]
          exact hl 0 (by omega)
        · rw [if_neg q]
          by_cases w : j < i
          · rw [if_pos w, if_pos w]
            exact hl _ (by omega)
          · rw [if_neg w, if_neg w, if_neg q]
            exact hl j hj
      · refine pb_aload_n0 g dX8_lays_37 ?_
        refine pb_getf g fX8_26 dX8_lays_38 mr_o rfl ?_
        refine pb_iload7 g dX8_lays_41 ?_
        refine pb_aload_n0 g dX8_lays_43 ?_
        refine pb_getf g fX8_26 dX8_lays_44 mr_o rfl ?_
        refine pb_iload7 g dX8_lays_47 ?_
        refine pb_iconst (v := nI 1) g dX8_lays_49 (by decide) ?_
        first | refine pb_iaddN g dX8_lays_50 ?_ | refine pb_iadd g dX8_lays_50 ?_
        first | refine pb_ialdN g dX8_lays_51 (by first | exact mr_line | exact mr_order | exact mr_kind | exact mr_heaps | exact mr_m | exact mr_other | exact mr_ways | exact mr_next | exact mr_chances | exact mr_after | exact mr_far | exact mr_groups | exact mr_found | exact mr_counts | exact mr_traySort | exact mr_traySize | exact mr_cells | exact mr_moved | exact mr_traced | assumption) (by omega) (by omega) ?_ | refine pb_ald0 g dX8_lays_51 (by omega) ?_ | refine pb_ald1 g dX8_lays_51 (by omega) ?_ | refine pb_ald2 g dX8_lays_51 (by omega) ?_ | refine pb_ald3 g dX8_lays_51 (by omega) ?_ | refine pb_iald g dX8_lays_51 (by first | exact mr_line | exact mr_order | exact mr_kind | exact mr_heaps | exact mr_m | exact mr_other | exact mr_ways | exact mr_next | exact mr_chances | exact mr_after | exact mr_far | exact mr_groups | exact mr_found | exact mr_counts | exact mr_traySort | exact mr_traySize | exact mr_cells | exact mr_moved | exact mr_traced | assumption) (by assumption) ?_
        rw [tm_at _ i (i + 1), if_neg (by omega)]
        first | refine pb_iastN g dX8_lays_52 (by first | exact mr_line | exact mr_order | exact mr_kind | exact mr_heaps | exact mr_m | exact mr_other | exact mr_ways | exact mr_next | exact mr_chances | exact mr_after | exact mr_far | exact mr_groups | exact mr_found | exact mr_counts | exact mr_traySort | exact mr_traySize | exact mr_cells | exact mr_moved | exact mr_traced | assumption) (by omega) (by omega) ?_ | refine pb_iast g dX8_lays_52 (by first | exact mr_line | exact mr_order | exact mr_kind | exact mr_heaps | exact mr_m | exact mr_other | exact mr_ways | exact mr_next | exact mr_chances | exact mr_after | exact mr_far | exact mr_groups | exact mr_found | exact mr_counts | exact mr_traySort | exact mr_traySize | exact mr_cells | exact mr_moved | exact mr_traced | assumption) (by assumption) ?_
        first | rw [ms_line]
        first | refine pb_iinc7N g dX8_lays_53 (by decide) ?_ | refine pb_iinc7 g dX8_lays_53 (by decide) rfl ?_
        refine pb_goto g 30 dX8_lays_56 (by decide) ?_
        exact ih c34
    refine pb_aload_n0 g dX8_lays_0 ?_
    refine pb_iload_n2 g dX8_lays_1 ?_
    refine pb_Vv1 g qX8_107 dX8_lays_2 k (by omega) mr_o (m_takes k (n := n) (p := p) hn hp) (fun h2 e2 => ?_)
    subst e2
    refine pb_aload_n0 g dX8_lays_5 ?_
    refine pb_getf g fX8_17 dX8_lays_6 mr_o rfl ?_
    refine pb_iload_n1 g dX8_lays_9 ?_
    first | refine pb_ialdN g dX8_lays_10 (by first | exact mr_kind | exact mr_order | exact mr_heaps | exact mr_m | exact mr_line | exact mr_other | exact mr_ways | exact mr_next | exact mr_chances | exact mr_after | exact mr_far | exact mr_groups | exact mr_found | exact mr_counts | exact mr_traySort | exact mr_traySize | exact mr_cells | exact mr_moved | exact mr_traced | assumption) (by omega) (by omega) ?_ | refine pb_ald0 g dX8_lays_10 (by omega) ?_ | refine pb_ald1 g dX8_lays_10 (by omega) ?_ | refine pb_ald2 g dX8_lays_10 (by omega) ?_ | refine pb_ald3 g dX8_lays_10 (by omega) ?_ | refine pb_iald g dX8_lays_10 (by first | exact mr_kind | exact mr_order | exact mr_heaps | exact mr_m | exact mr_line | exact mr_other | exact mr_ways | exact mr_next | exact mr_chances | exact mr_after | exact mr_far | exact mr_groups | exact mr_found | exact mr_counts | exact mr_traySort | exact mr_traySize | exact mr_cells | exact mr_moved | exact mr_traced | assumption) (by assumption) ?_
    rw [hk]
    refine pb_iconst (v := nI 4) g dX8_lays_11 (by decide) ?_
    first | refine pb_icmp_neN g 74 dX8_lays_12 (by decide) (by omega) (by omega) (fun c12 => ?_) (fun c12 => ?_) | refine pb_icmp_ne g 74 dX8_lays_12 (by decide) (fun c12 => ?_) (fun c12 => ?_)
    · exact absurd rfl c12
    · refine pb_lload_n3 g dX8_lays_15 ?_
      first | refine pb_l2iN g dX8_lays_16 ?_ | refine pb_l2i g dX8_lays_16 ?_
      refine pb_istore5 g dX8_lays_17 (by decide) ?_
      refine pb_aload_n0 g dX8_lays_19 ?_
      refine pb_getf g fX8_26 dX8_lays_20 mr_o rfl ?_
      refine pb_iconst (v := nI 0) g dX8_lays_23 (by decide) ?_
      first | refine pb_ialdN g dX8_lays_24 (by first | exact mr_line | exact mr_kind | exact mr_order | exact mr_heaps | exact mr_m | exact mr_other | exact mr_ways | exact mr_next | exact mr_chances | exact mr_after | exact mr_far | exact mr_groups | exact mr_found | exact mr_counts | exact mr_traySort | exact mr_traySize | exact mr_cells | exact mr_moved | exact mr_traced | assumption) (by omega) (by omega) ?_ | refine pb_ald0 g dX8_lays_24 (by omega) ?_ | refine pb_ald1 g dX8_lays_24 (by omega) ?_ | refine pb_ald2 g dX8_lays_24 (by omega) ?_ | refine pb_ald3 g dX8_lays_24 (by omega) ?_ | refine pb_iald g dX8_lays_24 (by first | exact mr_line | exact mr_kind | exact mr_order | exact mr_heaps | exact mr_m | exact mr_other | exact mr_ways | exact mr_next | exact mr_chances | exact mr_after | exact mr_far | exact mr_groups | exact mr_found | exact mr_counts | exact mr_traySort | exact mr_traySize | exact mr_cells | exact mr_moved | exact mr_traced | assumption) (by assumption) ?_
      refine pb_istore6 g dX8_lays_25 (by decide) ?_
      refine pb_iconst (v := nI 0) g dX8_lays_27 (by decide) ?_
      refine pb_istore7 g dX8_lays_28 (by decide) ?_
      exact loop 0 (Nat.zero_le _)
  · have hdl : ∀ i, L / a ^ i % a < a := fun i => Nat.mod_lt _ (by omega)
    have loop : ∀ i, i ≤ n → ∀ w7 w8 w9 w10 : Option Value, PB Γ 85 [some (.ref 0), some (.int (nI s)), some (.int (nI p)), some (.long (lN L)), none, some (.int (nI a)), some (.int (nI i)), w7, w8, w9, w10] [] (mkH 20 (mdF (nI n) xP xS xsd (cpF xod (fun i => tkF xln xod (10 * p) n (psL (fun i => L / a ^ i % a) (L / a ^ i % a) i n)) (10 * p) i) xkn xhs xmm (tkF xln xod (10 * p) n) xot xwy xnx xch xaf xfa xgr xfo xco xtsr xtsz xce xmv xtc xbo)) := by
      refine pb_loop n (fun i hi ih w7 w8 w9 w10 => ?_)
      by_cases hin : i < n
      · have ih := ih hin
        have hli := hdl i
        have inner : ∀ j, j ≤ n → ∀ w10 : Option Value, PB Γ 110 [some (.ref 0), some (.int (nI s)), some (.int (nI p)), some (.long (lN L)), none, some (.int (nI a)), some (.int (nI i)), some (.int (nI (L / a ^ i % a))), some (.int (nI (psL (fun i => L / a ^ i % a) (L / a ^ i % a) i j))), some (.int (nI j)), w10] [] (mkH 20 (mdF (nI n) xP xS xsd (cpF xod (fun i => tkF xln xod (10 * p) n (psL (fun i => L / a ^ i % a) (L / a ^ i % a) i n)) (10 * p) i) xkn xhs xmm (tkF xln xod (10 * p) n) xot xwy xnx xch xaf xfa xgr xfo xco xtsr xtsz xce xmv xtc xbo)) := by
          refine pb_loop n (fun j hj ihj w10 => ?_)
          by_cases hjn : j < n
          · have ihj := ihj hjn
            have hlj := hdl j
            rw [psL] at ihj
            refine pb_iload9 g dX8_lays_110 ?_
            refine pb_aload_n0 g dX8_lays_112 ?_
            refine pb_getf g fX8_7 dX8_lays_113 mr_o rfl ?_
            first | refine pb_icmp_geN g 159 dX8_lays_116 (by decide) (by omega) (by omega) (fun c116 => ?_) (fun c116 => ?_) | refine pb_icmp_ge g 159 dX8_lays_116 (by decide) (fun c116 => ?_) (fun c116 => ?_)
            · exact absurd c116 (by omega)
            · refine pb_lload_n3 g dX8_lays_119 ?_
              refine pb_iload5 g dX8_lays_120 ?_
              refine pb_iload9 g dX8_lays_122 ?_
              refine pb_Si3 g qX8_141 dX8_lays_124 k (by omega) (m_lot k L a j hL ha1 ha (by omega) _) (fun r124 h124 e124 => ?_)
              obtain ⟨rfl, rfl⟩ := e124
              refine pb_istore10 g dX8_lays_127 (by decide) ?_
              refine pb_iload10 g dX8_lays_129 ?_
              refine pb_iload7 g dX8_lays_131 ?_
              first | refine pb_icmp_ltN g 150 dX8_lays_133 (by decide) (by omega) (by omega) (fun c133 => ?_) (fun c133 => ?_) | refine pb_icmp_lt g 150 dX8_lays_133 (by decide) (fun c133 => ?_) (fun c133 => ?_)
              · first | refine pb_iinc8N g dX8_lays_150 (by decide) ?_ | refine pb_iinc8 g dX8_lays_150 (by decide) rfl ?_
                first | refine pb_iinc9N g dX8_lays_153 (by decide) ?_ | refine pb_iinc9 g dX8_lays_153 (by decide) rfl ?_
                refine pb_goto g 110 dX8_lays_156 (by decide) ?_
                first | (rw [if_pos (by first | exact Or.inl c133 | exact Or.inr ⟨c140, c147⟩)] at ihj; exact ihj _) | (rw [if_neg (by omega)] at ihj; exact ihj _)
              · refine pb_iload10 g dX8_lays_136 ?_
                refine pb_iload7 g dX8_lays_138 ?_
                first | refine pb_icmp_neN g 153 dX8_lays_140 (by decide) (by omega) (by omega) (fun c140 => ?_) (fun c140 => ?_) | refine pb_icmp_ne g 153 dX8_lays_140 (by decide) (fun c140 => ?_) (fun c140 => ?_)
                · first | refine pb_iinc9N g dX8_lays_153 (by decide) ?_ | refine pb_iinc9 g dX8_lays_153 (by decide) rfl ?_
                  refine pb_goto g 110 dX8_lays_156 (by decide) ?_
                  first | (rw [if_pos (by first | exact Or.inl c133 | exact Or.inr ⟨c140, c147⟩)] at ihj; exact ihj _) | (rw [if_neg (by omega)] at ihj; exact ihj _)
                · refine pb_iload9 g dX8_lays_143 ?_
                  refine pb_iload6 g dX8_lays_145 ?_
                  first | refine pb_icmp_geN g 153 dX8_lays_147 (by decide) (by omega) (by omega) (fun c147 => ?_) (fun c147 => ?_) | refine pb_icmp_ge g 153 dX8_lays_147 (by decide) (fun c147 => ?_) (fun c147 => ?_)
                  · first | refine pb_iinc9N g dX8_lays_153 (by decide) ?_ | refine pb_iinc9 g dX8_lays_153 (by decide) rfl ?_
                    refine pb_goto g 110 dX8_lays_156 (by decide) ?_
                    first | (rw [if_pos (by first | exact Or.inl c133 | exact Or.inr ⟨c140, c147⟩)] at ihj; exact ihj _) | (rw [if_neg (by omega)] at ihj; exact ihj _)
                  · first | refine pb_iinc8N g dX8_lays_150 (by decide) ?_ | refine pb_iinc8 g dX8_lays_150 (by decide) rfl ?_
                    first | refine pb_iinc9N g dX8_lays_153 (by decide) ?_ | refine pb_iinc9 g dX8_lays_153 (by decide) rfl ?_
                    refine pb_goto g 110 dX8_lays_156 (by decide) ?_
                    first | (rw [if_pos (by first | exact Or.inl c133 | exact Or.inr ⟨c140, c147⟩)] at ihj; exact ihj _) | (rw [if_neg (by omega)] at ihj; exact ihj _)
          · obtain rfl : j = n := by omega
            have hpl := (psL_at (l := fun i => L / a ^ i % a) hin).2
            dsimp only at hpl
            refine pb_iload9 g dX8_lays_110 ?_
            refine pb_aload_n0 g dX8_lays_112 ?_
            refine pb_getf g fX8_7 dX8_lays_113 mr_o rfl ?_
            first | refine pb_icmp_geN g 159 dX8_lays_116 (by decide) (by omega) (by omega) (fun c116 => ?_) (fun c116 => ?_) | refine pb_icmp_ge g 159 dX8_lays_116 (by decide) (fun c116 => ?_) (fun c116 => ?_)
            · refine pb_aload_n0 g dX8_lays_159 ?_
              refine pb_getf g fX8_13 dX8_lays_160 mr_o rfl ?_
              refine pb_bipush (v := nI 10) g dX8_lays_163 (by decide) ?_
              refine pb_iload_n2 g dX8_lays_165 ?_
              first | refine pb_imulN g dX8_lays_166 ?_ | refine pb_imul g dX8_lays_166 ?_
              refine pb_iload6 g dX8_lays_167 ?_
              first | refine pb_iaddN g dX8_lays_169 ?_ | refine pb_iadd g dX8_lays_169 ?_
              refine pb_aload_n0 g dX8_lays_170 ?_
              refine pb_getf g fX8_26 dX8_lays_171 mr_o rfl ?_
              refine pb_iload8 g dX8_lays_174 ?_
              first | refine pb_ialdN g dX8_lays_176 (by first | exact mr_line | exact mr_order | exact mr_kind | exact mr_heaps | exact mr_m | exact mr_other | exact mr_ways | exact mr_next | exact mr_chances | exact mr_after | exact mr_far | exact mr_groups | exact mr_found | exact mr_counts | exact mr_traySort | exact mr_traySize | exact mr_cells | exact mr_moved | exact mr_traced | assumption) (by omega) (by omega) ?_ | refine pb_ald0 g dX8_lays_176 (by omega) ?_ | refine pb_ald1 g dX8_lays_176 (by omega) ?_ | refine pb_ald2 g dX8_lays_176 (by omega) ?_ | refine pb_ald3 g dX8_lays_176 (by omega) ?_ | refine pb_iald g dX8_lays_176 (by first | exact mr_line | exact mr_order | exact mr_kind | exact mr_heaps | exact mr_m | exact mr_other | exact mr_ways | exact mr_next | exact mr_chances | exact mr_after | exact mr_far | exact mr_groups | exact mr_found | exact mr_counts | exact mr_traySort | exact mr_traySize | exact mr_cells | exact mr_moved | exact mr_traced | assumption) (by assumption) ?_
              first | refine pb_iastN g dX8_lays_177 (by first | exact mr_line | exact mr_order | exact mr_kind | exact mr_heaps | exact mr_m | exact mr_other | exact mr_ways | exact mr_next | exact mr_chances | exact mr_after | exact mr_far | exact mr_groups | exact mr_found | exact mr_counts | exact mr_traySort | exact mr_traySize | exact mr_cells | exact mr_moved | exact mr_traced | assumption) (by omega) (by omega) ?_ | refine pb_iast g dX8_lays_177 (by first | exact mr_line | exact mr_order | exact mr_kind | exact mr_heaps | exact mr_m | exact mr_other | exact mr_ways | exact mr_next | exact mr_chances | exact mr_after | exact mr_far | exact mr_groups | exact mr_found | exact mr_counts | exact mr_traySort | exact mr_traySize | exact mr_cells | exact mr_moved | exact mr_traced | assumption) (by assumption) ?_
              first | rw [ms_line] | rw [ms_order]
              first | refine pb_iinc6N g dX8_lays_178 (by decide) ?_ | refine pb_iinc6 g dX8_lays_178 (by decide) rfl ?_
              refine pb_goto g 85 dX8_lays_181 (by decide) ?_
              exact ih _ _ _ _
            · exact absurd c116 (by omega)
        refine pb_iload6 g dX8_lays_85 ?_
        refine pb_aload_n0 g dX8_lays_87 ?_
        refine pb_getf g fX8_7 dX8_lays_88 mr_o rfl ?_
        first | refine pb_icmp_geN g 184 dX8_lays_91 (by decide) (by omega) (by omega) (fun c91 => ?_) (fun c91 => ?_) | refine pb_icmp_ge g 184 dX8_lays_91 (by decide) (fun c91 => ?_) (fun c91 => ?_)
        · exact absurd c91 (by omega)
        · refine pb_lload_n3 g dX8_lays_94 ?_
          refine pb_iload5 g dX8_lays_95 ?_
          refine pb_iload6 g dX8_lays_97 ?_
          refine pb_Si3 g qX8_141 dX8_lays_99 k (by omega) (m_lot k L a i hL ha1 ha (by omega) _) (fun r99 h99 e99 => ?_)
          obtain ⟨rfl, rfl⟩ := e99
          refine pb_istore7 g dX8_lays_102 (by decide) ?_
          refine pb_iconst (v := nI 0) g dX8_lays_104 (by decide) ?_
          refine pb_istore8 g dX8_lays_105 (by decide) ?_
          refine pb_iconst (v := nI 0) g dX8_lays_107 (by decide) ?_
          refine pb_istore9 g dX8_lays_108 (by decide) ?_
          exact inner 0 (Nat.zero_le _) _
      · obtain rfl : i = n := by omega
        refine pb_iload6 g dX8_lays_85 ?_
        refine pb_aload_n0 g dX8_lays_87 ?_
        refine pb_getf g fX8_7 dX8_lays_88 mr_o rfl ?_
        first | refine pb_icmp_geN g 184 dX8_lays_91 (by decide) (by omega) (by omega) (fun c91 => ?_) (fun c91 => ?_) | refine pb_icmp_ge g 184 dX8_lays_91 (by decide) (fun c91 => ?_) (fun c91 => ?_)
        · refine pb_vret g z dX8_lays_184 ?_
          refine ⟨rfl, _, _, rfl, fun j hj => ?_⟩
          rw [layO, if_neg hk4]
          exact hl _ (psL_at (l := fun i => L / a ^ i % a) hj).2
        · exact absurd c91 (by omega)
    refine pb_aload_n0 g dX8_lays_0 ?_
    refine pb_iload_n2 g dX8_lays_1 ?_
    refine pb_Vv1 g qX8_107 dX8_lays_2 k (by omega) mr_o (m_takes k (n := n) (p := p) hn hp) (fun h2 e2 => ?_)
    subst e2
    refine pb_aload_n0 g dX8_lays_5 ?_
    refine pb_getf g fX8_17 dX8_lays_6 mr_o rfl ?_
    refine pb_iload_n1 g dX8_lays_9 ?_
    first | refine pb_ialdN g dX8_lays_10 (by first | exact mr_kind | exact mr_order | exact mr_heaps | exact mr_m | exact mr_line | exact mr_other | exact mr_ways | exact mr_next | exact mr_chances | exact mr_after | exact mr_far | exact mr_groups | exact mr_found | exact mr_counts | exact mr_traySort | exact mr_traySize | exact mr_cells | exact mr_moved | exact mr_traced | assumption) (by omega) (by omega) ?_ | refine pb_ald0 g dX8_lays_10 (by omega) ?_ | refine pb_ald1 g dX8_lays_10 (by omega) ?_ | refine pb_ald2 g dX8_lays_10 (by omega) ?_ | refine pb_ald3 g dX8_lays_10 (by omega) ?_ | refine pb_iald g dX8_lays_10 (by first | exact mr_kind | exact mr_order | exact mr_heaps | exact mr_m | exact mr_line | exact mr_other | exact mr_ways | exact mr_next | exact mr_chances | exact mr_after | exact mr_far | exact mr_groups | exact mr_found | exact mr_counts | exact mr_traySort | exact mr_traySize | exact mr_cells | exact mr_moved | exact mr_traced | assumption) (by assumption) ?_
    rw [hk]
    refine pb_iconst (v := nI 4) g dX8_lays_11 (by decide) ?_
    first | refine pb_icmp_neN g 74 dX8_lays_12 (by decide) (by omega) (by omega) (fun c12 => ?_) (fun c12 => ?_) | refine pb_icmp_ne g 74 dX8_lays_12 (by decide) (fun c12 => ?_) (fun c12 => ?_)
    · refine pb_aload_n0 g dX8_lays_74 ?_
      refine pb_getf g fX8_20 dX8_lays_75 mr_o rfl ?_
      refine pb_iload_n1 g dX8_lays_78 ?_
      first | refine pb_ialdN g dX8_lays_79 (by first | exact mr_heaps | exact mr_kind | exact mr_order | exact mr_m | exact mr_line | exact mr_other | exact mr_ways | exact mr_next | exact mr_chances | exact mr_after | exact mr_far | exact mr_groups | exact mr_found | exact mr_counts | exact mr_traySort | exact mr_traySize | exact mr_cells | exact mr_moved | exact mr_traced | assumption) (by omega) (by omega) ?_ | refine pb_ald0 g dX8_lays_79 (by omega) ?_ | refine pb_ald1 g dX8_lays_79 (by omega) ?_ | refine pb_ald2 g dX8_lays_79 (by omega) ?_ | refine pb_ald3 g dX8_lays_79 (by omega) ?_ | refine pb_iald g dX8_lays_79 (by first | exact mr_heaps | exact mr_kind | exact mr_order | exact mr_m | exact mr_line | exact mr_other | exact mr_ways | exact mr_next | exact mr_chances | exact mr_after | exact mr_far | exact mr_groups | exact mr_found | exact mr_counts | exact mr_traySort | exact mr_traySize | exact mr_cells | exact mr_moved | exact mr_traced | assumption) (by assumption) ?_
      rw [hh]
      refine pb_istore5 g dX8_lays_80 (by decide) ?_
      refine pb_iconst (v := nI 0) g dX8_lays_82 (by decide) ?_
      refine pb_istore6 g dX8_lays_83 (by decide) ?_
      exact loop 0 (Nat.zero_le _) _ _ _ _
    · exact absurd c12 (by omega)
set_option maxHeartbeats 4000000 in
set_option maxRecDepth 100000 in
theorem m_drawn (k : Nat) {xn xP xS xsd xbo : Int32} {xod xkn xhs xmm xln xot xfa xgr xtsr xtsz xce xmv xtc : Nat → Int32} {xwy xnx xch xaf xfo xco : Nat → Int64} {b : Nat} (hb : b ≤ 10) (hb1 : 1 ≤ b) : Runs yX8_drawn cX8_drawn 3 (some .int) (k) [.ref 0, .int (nI b)] (mkH 20 (mdF xn xP xS xsd xod xkn xhs xmm xln xot xwy xnx xch xaf xfa xgr xfo xco xtsr xtsz xce xmv xtc xbo)) (fun oo h' => ∃ r : Int32, oo = some (.int r) ∧ r = nI (dwL b dwMx xsd).2 ∧ mkH 20 (mdF xn xP xS ((dwL b dwMx xsd).1) xod xkn xhs xmm xln xot xwy xnx xch xaf xfa xgr xfo xco xtsr xtsz xce xmv xtc xbo) = h') := by
  refine Runs.of (by decide) (Nat.le_of_ble_eq_true rfl) [some (.ref 0), some (.int (nI b)), none] 1 rfl (fun Γ g z => ?_)
  have loop : ∀ d (s : Int32) (v : Nat), v < 16 → b ≤ v → hitP b d s → dwL b d s = dwL b dwMx xsd → PB Γ 2 [some (.ref 0), some (.int (nI b)), some (.int (nI v))] [] (mkH 20 (mdF xn xP xS (s) xod xkn xhs xmm xln xot xwy xnx xch xaf xfa xgr xfo xco xtsr xtsz xce xmv xtc xbo)) := by
    intro d
    induction d with
    | zero => exact fun s v _ _ hh => hh.elim
    | succ d ih =>
      intro s v hv hbv hh he
      have hlv := lotV_lt (lcg s)
      rw [dwL] at he
      by_cases hlo : lotV (lcg s) < b
      · rw [if_pos hlo] at he
        refine pb_iload_n2 g dX8_drawn_2 ?_
        refine pb_iload_n1 g dX8_drawn_3 ?_
        first | refine pb_icmp_ltN g 36 dX8_drawn_4 (by decide) (by omega) (by omega) (fun c4 => ?_) (fun c4 => ?_) | refine pb_icmp_lt g 36 dX8_drawn_4 (by decide) (fun c4 => ?_) (fun c4 => ?_)
        · exact absurd c4 (by omega)
        · refine pb_aload_n0 g dX8_drawn_7 ?_
          refine pb_aload_n0 g dX8_drawn_8 ?_
          refine pb_getf g fX8_153 dX8_drawn_9 mr_o rfl ?_
          refine pb_ldc g kX8_156 dX8_drawn_12 ?_
          refine pb_imul g dX8_drawn_14 ?_
          refine pb_sipush (v := nI 12345) g dX8_drawn_15 (by decide) ?_
          refine pb_iadd g dX8_drawn_18 ?_
          change PB Γ _ _ (.int (lcg s) :: _) _
          refine pb_puti g wX8_153 dX8_drawn_19 mr_o (Nat.le_of_ble_eq_true rfl) ?_
          rw [ms_seed]
          refine pb_aload_n0 g dX8_drawn_22 ?_
          refine pb_getf g fX8_153 dX8_drawn_23 mr_o rfl ?_
          refine pb_bipush (v := nI 16) g dX8_drawn_26 (by decide) ?_
          refine pb_iushr g dX8_drawn_28 ?_
          refine pb_bipush (v := nI 15) g dX8_drawn_29 (by decide) ?_
          refine pb_iand g dX8_drawn_31 ?_
          rw [lotV_eq]
          refine pb_istore_n2 g dX8_drawn_32 (by decide) ?_
          refine pb_goto g 2 dX8_drawn_33 (by decide) ?_
          refine pb_iload_n2 g dX8_drawn_2 ?_
          refine pb_iload_n1 g dX8_drawn_3 ?_
          refine pb_icmp_ltN g 36 dX8_drawn_4 (by decide) (by omega) (by omega) (fun c4 => ?_) (fun c4 => absurd c4 (by omega))
          refine pb_iload_n2 g dX8_drawn_36 ?_
          refine pb_iret g z dX8_drawn_37 ?_
          exact ⟨_, rfl, by rw [← he], by rw [← he]⟩
      · rw [if_neg hlo] at he
        refine pb_iload_n2 g dX8_drawn_2 ?_
        refine pb_iload_n1 g dX8_drawn_3 ?_
        first | refine pb_icmp_ltN g 36 dX8_drawn_4 (by decide) (by omega) (by omega) (fun c4 => ?_) (fun c4 => ?_) | refine pb_icmp_lt g 36 dX8_drawn_4 (by decide) (fun c4 => ?_) (fun c4 => ?_)
        · exact absurd c4 (by omega)
        · refine pb_aload_n0 g dX8_drawn_7 ?_
          refine pb_aload_n0 g dX8_drawn_8 ?_
          refine pb_getf g fX8_153 dX8_drawn_9 mr_o rfl ?_
          refine pb_ldc g kX8_156 dX8_drawn_12 ?_
          refine pb_imul g dX8_drawn_14 ?_
          refine pb_sipush (v := nI 12345) g dX8_drawn_15 (by decide) ?_
          refine pb_iadd g dX8_drawn_18 ?_
          change PB Γ _ _ (.int (lcg s) :: _) _
          refine pb_puti g wX8_153 dX8_drawn_19 mr_o (Nat.le_of_ble_eq_true rfl) ?_
          rw [ms_seed]
          refine pb_aload_n0 g dX8_drawn_22 ?_
          refine pb_getf g fX8_153 dX8_drawn_23 mr_o rfl ?_
          refine pb_bipush (v := nI 16) g dX8_drawn_26 (by decide) ?_
          refine pb_iushr g dX8_drawn_28 ?_
          refine pb_bipush (v := nI 15) g dX8_drawn_29 (by decide) ?_
          refine pb_iand g dX8_drawn_31 ?_
          rw [lotV_eq]
          refine pb_istore_n2 g dX8_drawn_32 (by decide) ?_
          refine pb_goto g 2 dX8_drawn_33 (by decide) ?_
          exact ih _ _ hlv (by omega) (hh.elim (fun q => absurd q hlo) id) he
  refine pb_iload_n1 g dX8_drawn_0 ?_
  refine pb_istore_n2 g dX8_drawn_1 (by decide) ?_
  exact loop dwMx xsd b (by omega) (Nat.le_refl b) (hit_all b hb1 xsd) rfl
set_option maxHeartbeats 4000000 in
set_option maxRecDepth 100000 in
theorem m_lots (k : Nat) (q : SP) (s p : Int32) (L : Int64) (h : PH) (hD : IsM q h) (hI : SI q) : Runs yX8_lots cX8_lots 5 (some .int) (k + 6) [.ref 0, .int s, .int p, .long L] h (fun oo h' => ∃ r : Int32, oo = some (.int r) ∧ r = (sLots q s p L).1 ∧ IsM ((sLots q s p L).2) h') := by
  obtain ⟨⟨n, P, S, sd⟩, ⟨σ, μ, K, Hh⟩, ⟨ts, zz, it⟩, ⟨ra, tr⟩⟩ := q
  obtain ⟨⟨hn1, hn, hP, hS⟩, hσ, hK, hz, hra⟩ := hI
  obtain ⟨xod, xkn, xhs, xmm, xln, xot, xfa, xgr, xtsr, xtsz, xce, xmv, xtc, xwy, xnx, xch, xaf, xfo, xco, rfl, d1, d2, d3, d4, d5⟩ := hD
  refine Runs.of (by decide) (Nat.le_of_ble_eq_true rfl) [some (.ref 0), some (.int s), some (.int p), some (.long L), none] 0 rfl (fun Γ g z => ?_)
  cases hs : ix s S with
  | none =>
    have e : sLots ((n, P, S, sd), (σ, μ, K, Hh), (ts, zz, it), (ra, tr)) s p L = (-2, ((n, P, S, sd), (σ, μ, K, Hh), (ts, zz, it), (ra, tr))) := by simp only [sLots, hs]
    have hsn := ix_none (by omega) hs
    refine pb_aload_n0 g dX8_lots_0 ?_
    refine pb_iload_n1 g dX8_lots_1 ?_
    refine pb_Vi1 g qX8_123 dX8_lots_2 (k + 5) (by omega) mr_o (m_isShuffleF (k + 5) (by assumption) hS) (fun r2 h2 e2 => ?_)
    obtain ⟨rfl, rfl⟩ := e2
    first | refine pb_if_eqN g 16 dX8_lots_5 (by decide) (by omega) (fun c5 => ?_) (fun c5 => ?_) | refine pb_if_eq g 16 dX8_lots_5 (by decide) (fun c5 => ?_) (fun c5 => ?_)
    · refine pb_bipush (v := -2) g dX8_lots_16 (by decide) ?_
      refine pb_iret g z dX8_lots_18 ?_
      exact ⟨_, rfl, by rw [e], by rw [e]; exact ⟨_, _, _, _, _, _, _, _, _, _, _, _, _, _, _, _, _, _, _, rfl, d1, d2, d3, d4, d5⟩⟩
    · exact absurd c5 (by decide)
  | some s0 =>
    obtain ⟨hs0, rfl⟩ := ix_some (by omega) hs
    cases hpx : ix p P with
    | none =>
      have e : sLots ((n, P, S, sd), (σ, μ, K, Hh), (ts, zz, it), (ra, tr)) (nI s0) p L = (-2, ((n, P, S, sd), (σ, μ, K, Hh), (ts, zz, it), (ra, tr))) := by simp only [sLots, hs, hpx]
      have hpn := ix_none (by omega) hpx
      refine pb_aload_n0 g dX8_lots_0 ?_
      refine pb_iload_n1 g dX8_lots_1 ?_
      refine pb_Vi1 g qX8_123 dX8_lots_2 (k + 5) (by omega) mr_o (m_isShuffleT (k + 5) (by assumption) hS) (fun r2 h2 e2 => ?_)
      obtain ⟨rfl, rfl⟩ := e2
      first | refine pb_if_eqN g 16 dX8_lots_5 (by decide) (by omega) (fun c5 => ?_) (fun c5 => ?_) | refine pb_if_eq g 16 dX8_lots_5 (by decide) (fun c5 => ?_) (fun c5 => ?_)
      · exact absurd c5 (by decide)
      · refine pb_aload_n0 g dX8_lots_8 ?_
        refine pb_iload_n2 g dX8_lots_9 ?_
        refine pb_Vi1 g qX8_101 dX8_lots_10 (k + 5) (by omega) mr_o (m_isPackF (k + 5) (by assumption) hP) (fun r10 h10 e10 => ?_)
        obtain ⟨rfl, rfl⟩ := e10
        first | refine pb_if_neN g 19 dX8_lots_13 (by decide) (by omega) (fun c13 => ?_) (fun c13 => ?_) | refine pb_if_ne g 19 dX8_lots_13 (by decide) (fun c13 => ?_) (fun c13 => ?_)
        · exact absurd c13 (by decide)
        · refine pb_bipush (v := -2) g dX8_lots_16 (by decide) ?_
          refine pb_iret g z dX8_lots_18 ?_
          exact ⟨_, rfl, by rw [e], by rw [e]; exact ⟨_, _, _, _, _, _, _, _, _, _, _, _, _, _, _, _, _, _, _, rfl, d1, d2, d3, d4, d5⟩⟩
    | some p0 =>
      obtain ⟨hp0, rfl⟩ := ix_some (by omega) hpx
      have hKs := hK s0 hs0
      by_cases h3 : K s0 < 3
      · have e : sLots ((n, P, S, sd), (σ, μ, K, Hh), (ts, zz, it), (ra, tr)) (nI s0) (nI p0) L = (-3, ((n, P, S, sd), (σ, μ, K, Hh), (ts, zz, it), (ra, tr))) := by simp only [sLots, hs, hpx]; exact if_pos h3
        refine pb_aload_n0 g dX8_lots_0 ?_
        refine pb_iload_n1 g dX8_lots_1 ?_
        refine pb_Vi1 g qX8_123 dX8_lots_2 (k + 5) (by omega) mr_o (m_isShuffleT (k + 5) (by assumption) hS) (fun r2 h2 e2 => ?_)
        obtain ⟨rfl, rfl⟩ := e2
        first | refine pb_if_eqN g 16 dX8_lots_5 (by decide) (by omega) (fun c5 => ?_) (fun c5 => ?_) | refine pb_if_eq g 16 dX8_lots_5 (by decide) (fun c5 => ?_) (fun c5 => ?_)
        · exact absurd c5 (by decide)
        · refine pb_aload_n0 g dX8_lots_8 ?_
          refine pb_iload_n2 g dX8_lots_9 ?_
          refine pb_Vi1 g qX8_101 dX8_lots_10 (k + 5) (by omega) mr_o (m_isPackT (k + 5) (by assumption) hP) (fun r10 h10 e10 => ?_)
          obtain ⟨rfl, rfl⟩ := e10
          first | refine pb_if_neN g 19 dX8_lots_13 (by decide) (by omega) (fun c13 => ?_) (fun c13 => ?_) | refine pb_if_ne g 19 dX8_lots_13 (by decide) (fun c13 => ?_) (fun c13 => ?_)
          · refine pb_aload_n0 g dX8_lots_19 ?_
            refine pb_iload_n1 g dX8_lots_20 ?_
            refine pb_Vi1 g qX8_126 dX8_lots_21 (k + 5) (by omega) mr_o (m_hasMove (k + 5) (s := s0) (K := K s0) (by omega) (d2 s0 (by assumption)).1 (hK s0 (by assumption)).1) (fun r21 h21 e21 => ?_)
            obtain ⟨rfl, rfl⟩ := e21
            rw [if_pos (by assumption)]
            first | refine pb_if_eqN g 30 dX8_lots_24 (by decide) (by omega) (fun c24 => ?_) (fun c24 => ?_) | refine pb_if_eq g 30 dX8_lots_24 (by decide) (fun c24 => ?_) (fun c24 => ?_)
            · exact absurd c24 (by decide)
            · refine pb_bipush (v := -3) g dX8_lots_27 (by decide) ?_
              refine pb_iret g z dX8_lots_29 ?_
              exact ⟨_, rfl, by rw [e], by rw [e]; exact ⟨_, _, _, _, _, _, _, _, _, _, _, _, _, _, _, _, _, _, _, rfl, d1, d2, d3, d4, d5⟩⟩
          · exact absurd c13 (by decide)
      · by_cases hL0 : L < 0
        · have e : sLots ((n, P, S, sd), (σ, μ, K, Hh), (ts, zz, it), (ra, tr)) (nI s0) (nI p0) L = (-2, ((n, P, S, sd), (σ, μ, K, Hh), (ts, zz, it), (ra, tr))) := by simp only [sLots, hs, hpx]; rw [if_neg h3, if_pos (Or.inl hL0)]
          refine pb_aload_n0 g dX8_lots_0 ?_
          refine pb_iload_n1 g dX8_lots_1 ?_
          refine pb_Vi1 g qX8_123 dX8_lots_2 (k + 5) (by omega) mr_o (m_isShuffleT (k + 5) (by assumption) hS) (fun r2 h2 e2 => ?_)
          obtain ⟨rfl, rfl⟩ := e2
          first | refine pb_if_eqN g 16 dX8_lots_5 (by decide) (by omega) (fun c5 => ?_) (fun c5 => ?_) | refine pb_if_eq g 16 dX8_lots_5 (by decide) (fun c5 => ?_) (fun c5 => ?_)
          · exact absurd c5 (by decide)
          · refine pb_aload_n0 g dX8_lots_8 ?_
            refine pb_iload_n2 g dX8_lots_9 ?_
            refine pb_Vi1 g qX8_101 dX8_lots_10 (k + 5) (by omega) mr_o (m_isPackT (k + 5) (by assumption) hP) (fun r10 h10 e10 => ?_)
            obtain ⟨rfl, rfl⟩ := e10
            first | refine pb_if_neN g 19 dX8_lots_13 (by decide) (by omega) (fun c13 => ?_) (fun c13 => ?_) | refine pb_if_ne g 19 dX8_lots_13 (by decide) (fun c13 => ?_) (fun c13 => ?_)
            · refine pb_aload_n0 g dX8_lots_19 ?_
              refine pb_iload_n1 g dX8_lots_20 ?_
              refine pb_Vi1 g qX8_126 dX8_lots_21 (k + 5) (by omega) mr_o (m_hasMove (k + 5) (s := s0) (K := K s0) (by omega) (d2 s0 (by assumption)).1 (hK s0 (by assumption)).1) (fun r21 h21 e21 => ?_)
              obtain ⟨rfl, rfl⟩ := e21
              rw [if_neg (by assumption)]
              first | refine pb_if_eqN g 30 dX8_lots_24 (by decide) (by omega) (fun c24 => ?_) (fun c24 => ?_) | refine pb_if_eq g 30 dX8_lots_24 (by decide) (fun c24 => ?_) (fun c24 => ?_)
              · refine pb_lload_n3 g dX8_lots_30 ?_
                refine pb_lconst (v := lN 0) g dX8_lots_31 rfl ?_
                first | refine pb_lc_ltN g 73 dX8_lots_32 dX8_lots_33 (by decide) (by omega) (by omega) (fun c32 => ?_) (fun c32 => ?_) | refine pb_lc_lt g 73 dX8_lots_32 dX8_lots_33 (by decide) (fun c32 => ?_) (fun c32 => ?_)
                · refine pb_bipush (v := -2) g dX8_lots_73 (by decide) ?_
                  refine pb_iret g z dX8_lots_75 ?_
                  exact ⟨_, rfl, by rw [e], by rw [e]; exact ⟨_, _, _, _, _, _, _, _, _, _, _, _, _, _, _, _, _, _, _, rfl, d1, d2, d3, d4, d5⟩⟩
                · exact absurd hL0 c32
              · exact absurd c24 (by decide)
            · exact absurd c13 (by decide)
        · obtain ⟨L, hL, rfl⟩ := pk_lOf hL0
          have hlt := lot_lt (K := K s0) hKs.2.2.1 hn
          by_cases hk4 : K s0 = 4
          · have e1 : Hh s0 ^ lotN (K s0) n = n := by rw [lotN, if_pos hk4, Nat.pow_one, hKs.2.2.2.1 hk4]
            rw [e1] at hlt
            by_cases hLn : L < n
            · have e : sLots ((n, P, S, sd), (σ, μ, K, Hh), (ts, zz, it), (ra, tr)) (nI s0) (nI p0) (lN L) = (1, ((n, P, S, sd), (va_up σ p0 (layO n (K s0) (fun i => L / Hh s0 ^ i % Hh s0) (σ p0)), μ, K, Hh), (ts, zz, it), (ra, tr))) := by
                simp only [sLots, hs, hpx]
                rw [if_neg h3, if_neg (fun z => z.elim hL0 (fun w => by rw [e1] at w; exact absurd ((pk_lLE (by omega) hL).mp w) (by omega))), lN_clamp hL]
              refine pb_aload_n0 g dX8_lots_0 ?_
              refine pb_iload_n1 g dX8_lots_1 ?_
              refine pb_Vi1 g qX8_123 dX8_lots_2 (k + 5) (by omega) mr_o (m_isShuffleT (k + 5) (by assumption) hS) (fun r2 h2 e2 => ?_)
              obtain ⟨rfl, rfl⟩ := e2
              first | refine pb_if_eqN g 16 dX8_lots_5 (by decide) (by omega) (fun c5 => ?_) (fun c5 => ?_) | refine pb_if_eq g 16 dX8_lots_5 (by decide) (fun c5 => ?_) (fun c5 => ?_)
              · exact absurd c5 (by decide)
              · refine pb_aload_n0 g dX8_lots_8 ?_
                refine pb_iload_n2 g dX8_lots_9 ?_
                refine pb_Vi1 g qX8_101 dX8_lots_10 (k + 5) (by omega) mr_o (m_isPackT (k + 5) (by assumption) hP) (fun r10 h10 e10 => ?_)
                obtain ⟨rfl, rfl⟩ := e10
                first | refine pb_if_neN g 19 dX8_lots_13 (by decide) (by omega) (fun c13 => ?_) (fun c13 => ?_) | refine pb_if_ne g 19 dX8_lots_13 (by decide) (fun c13 => ?_) (fun c13 => ?_)
                · refine pb_aload_n0 g dX8_lots_19 ?_
                  refine pb_iload_n1 g dX8_lots_20 ?_
                  refine pb_Vi1 g qX8_126 dX8_lots_21 (k + 5) (by omega) mr_o (m_hasMove (k + 5) (s := s0) (K := K s0) (by omega) (d2 s0 (by assumption)).1 (hK s0 (by assumption)).1) (fun r21 h21 e21 => ?_)
                  obtain ⟨rfl, rfl⟩ := e21
                  rw [if_neg (by assumption)]
                  first | refine pb_if_eqN g 30 dX8_lots_24 (by decide) (by omega) (fun c24 => ?_) (fun c24 => ?_) | refine pb_if_eq g 30 dX8_lots_24 (by decide) (fun c24 => ?_) (fun c24 => ?_)
                  · refine pb_lload_n3 g dX8_lots_30 ?_
                    refine pb_lconst (v := lN 0) g dX8_lots_31 rfl ?_
                    first | refine pb_lc_ltN g 73 dX8_lots_32 dX8_lots_33 (by decide) (by omega) (by omega) (fun c32 => ?_) (fun c32 => ?_) | refine pb_lc_lt g 73 dX8_lots_32 dX8_lots_33 (by decide) (fun c32 => ?_) (fun c32 => ?_)
                    · exact absurd c32 (by omega)
                    · refine pb_lload_n3 g dX8_lots_36 ?_
                      refine pb_aload_n0 g dX8_lots_37 ?_
                      refine pb_getf g fX8_17 dX8_lots_38 mr_o rfl ?_
                      refine pb_iload_n1 g dX8_lots_41 ?_
                      first | refine pb_ialdN g dX8_lots_42 (by first | exact mr_kind | exact mr_order | exact mr_heaps | exact mr_m | exact mr_line | exact mr_other | exact mr_ways | exact mr_next | exact mr_chances | exact mr_after | exact mr_far | exact mr_groups | exact mr_found | exact mr_counts | exact mr_traySort | exact mr_traySize | exact mr_cells | exact mr_moved | exact mr_traced | assumption) (by omega) (by omega) ?_ | refine pb_ald0 g dX8_lots_42 (by omega) ?_ | refine pb_ald1 g dX8_lots_42 (by omega) ?_ | refine pb_ald2 g dX8_lots_42 (by omega) ?_ | refine pb_ald3 g dX8_lots_42 (by omega) ?_ | refine pb_iald g dX8_lots_42 (by first | exact mr_kind | exact mr_order | exact mr_heaps | exact mr_m | exact mr_line | exact mr_other | exact mr_ways | exact mr_next | exact mr_chances | exact mr_after | exact mr_far | exact mr_groups | exact mr_found | exact mr_counts | exact mr_traySort | exact mr_traySize | exact mr_cells | exact mr_moved | exact mr_traced | assumption) (by assumption) ?_
                      rw [(d2 s0 hs0).1]
                      refine pb_iconst (v := nI 4) g dX8_lots_43 (by decide) ?_
                      first | refine pb_icmp_neN g 55 dX8_lots_44 (by decide) (by omega) (by omega) (fun c44 => ?_) (fun c44 => ?_) | refine pb_icmp_ne g 55 dX8_lots_44 (by decide) (fun c44 => ?_) (fun c44 => ?_)
                      · exact absurd hk4 c44
                      · refine pb_aload_n0 g dX8_lots_47 ?_
                        refine pb_getf g fX8_7 dX8_lots_48 mr_o rfl ?_
                        first | refine pb_i2lN g dX8_lots_51 (by omega) ?_ | refine pb_i2l g dX8_lots_51 ?_
                        refine pb_goto g 69 dX8_lots_52 (by decide) ?_
                        first | refine pb_lc_ltN g 76 dX8_lots_69 dX8_lots_70 (by decide) (by omega) (by omega) (fun c69 => ?_) (fun c69 => ?_) | refine pb_lc_lt g 76 dX8_lots_69 dX8_lots_70 (by decide) (fun c69 => ?_) (fun c69 => ?_)
                        · refine pb_aload_n0 g dX8_lots_76 ?_
                          refine pb_iload_n1 g dX8_lots_77 ?_
                          refine pb_iload_n2 g dX8_lots_78 ?_
                          refine pb_lload_n3 g dX8_lots_79 ?_
                          refine pb_Vv3 g qX8_149 dX8_lots_80 (k + 5) (by omega) mr_o (m_lays (k + 4) (n := n) (p := p0) (s := s0) (K := K s0) (a := Hh s0) (L := L) hn hn1 (by omega) (by omega) (d2 s0 hs0).1 hKs.1 (d2 s0 hs0).2.1 hKs.2.1 hKs.2.2.1 hL (fun q => ⟨hLn, hKs.2.2.2.1 q⟩) (σ p0) (d1 p0 hp0)) (fun h80 e80 => ?_)
                          obtain ⟨f9, l9, rfl, hf9⟩ := e80
                          refine pb_iconst (v := nI 1) g dX8_lots_83 (by decide) ?_
                          refine pb_iret g z dX8_lots_84 ?_
                          exact ⟨_, rfl, by rw [e]; rfl, by rw [e]; exact ⟨_, _, _, _, _, _, _, _, _, _, _, _, _, _, _, _, _, _, _, rfl, m1_up hn d1 hf9 (fun p h1 _ => h1), d2, d3, d4, d5⟩⟩
                        · exact absurd c69 (by omega)
                  · exact absurd c24 (by decide)
                · exact absurd c13 (by decide)
            · have e : sLots ((n, P, S, sd), (σ, μ, K, Hh), (ts, zz, it), (ra, tr)) (nI s0) (nI p0) (lN L) = (-2, ((n, P, S, sd), (σ, μ, K, Hh), (ts, zz, it), (ra, tr))) := by
                simp only [sLots, hs, hpx]
                rw [if_neg h3, if_pos (Or.inr (by rw [e1]; exact (pk_lLE (by omega) hL).mpr (by omega)))]
              refine pb_aload_n0 g dX8_lots_0 ?_
              refine pb_iload_n1 g dX8_lots_1 ?_
              refine pb_Vi1 g qX8_123 dX8_lots_2 (k + 5) (by omega) mr_o (m_isShuffleT (k + 5) (by assumption) hS) (fun r2 h2 e2 => ?_)
              obtain ⟨rfl, rfl⟩ := e2
              first | refine pb_if_eqN g 16 dX8_lots_5 (by decide) (by omega) (fun c5 => ?_) (fun c5 => ?_) | refine pb_if_eq g 16 dX8_lots_5 (by decide) (fun c5 => ?_) (fun c5 => ?_)
              · exact absurd c5 (by decide)
              · refine pb_aload_n0 g dX8_lots_8 ?_
                refine pb_iload_n2 g dX8_lots_9 ?_
                refine pb_Vi1 g qX8_101 dX8_lots_10 (k + 5) (by omega) mr_o (m_isPackT (k + 5) (by assumption) hP) (fun r10 h10 e10 => ?_)
                obtain ⟨rfl, rfl⟩ := e10
                first | refine pb_if_neN g 19 dX8_lots_13 (by decide) (by omega) (fun c13 => ?_) (fun c13 => ?_) | refine pb_if_ne g 19 dX8_lots_13 (by decide) (fun c13 => ?_) (fun c13 => ?_)
                · refine pb_aload_n0 g dX8_lots_19 ?_
                  refine pb_iload_n1 g dX8_lots_20 ?_
                  refine pb_Vi1 g qX8_126 dX8_lots_21 (k + 5) (by omega) mr_o (m_hasMove (k + 5) (s := s0) (K := K s0) (by omega) (d2 s0 (by assumption)).1 (hK s0 (by assumption)).1) (fun r21 h21 e21 => ?_)
                  obtain ⟨rfl, rfl⟩ := e21
                  rw [if_neg (by assumption)]
                  first | refine pb_if_eqN g 30 dX8_lots_24 (by decide) (by omega) (fun c24 => ?_) (fun c24 => ?_) | refine pb_if_eq g 30 dX8_lots_24 (by decide) (fun c24 => ?_) (fun c24 => ?_)
                  · refine pb_lload_n3 g dX8_lots_30 ?_
                    refine pb_lconst (v := lN 0) g dX8_lots_31 rfl ?_
                    first | refine pb_lc_ltN g 73 dX8_lots_32 dX8_lots_33 (by decide) (by omega) (by omega) (fun c32 => ?_) (fun c32 => ?_) | refine pb_lc_lt g 73 dX8_lots_32 dX8_lots_33 (by decide) (fun c32 => ?_) (fun c32 => ?_)
                    · exact absurd c32 (by omega)
                    · refine pb_lload_n3 g dX8_lots_36 ?_
                      refine pb_aload_n0 g dX8_lots_37 ?_
                      refine pb_getf g fX8_17 dX8_lots_38 mr_o rfl ?_
                      refine pb_iload_n1 g dX8_lots_41 ?_
                      first | refine pb_ialdN g dX8_lots_42 (by first | exact mr_kind | exact mr_order | exact mr_heaps | exact mr_m | exact mr_line | exact mr_other | exact mr_ways | exact mr_next | exact mr_chances | exact mr_after | exact mr_far | exact mr_groups | exact mr_found | exact mr_counts | exact mr_traySort | exact mr_traySize | exact mr_cells | exact mr_moved | exact mr_traced | assumption) (by omega) (by omega) ?_ | refine pb_ald0 g dX8_lots_42 (by omega) ?_ | refine pb_ald1 g dX8_lots_42 (by omega) ?_ | refine pb_ald2 g dX8_lots_42 (by omega) ?_ | refine pb_ald3 g dX8_lots_42 (by omega) ?_ | refine pb_iald g dX8_lots_42 (by first | exact mr_kind | exact mr_order | exact mr_heaps | exact mr_m | exact mr_line | exact mr_other | exact mr_ways | exact mr_next | exact mr_chances | exact mr_after | exact mr_far | exact mr_groups | exact mr_found | exact mr_counts | exact mr_traySort | exact mr_traySize | exact mr_cells | exact mr_moved | exact mr_traced | assumption) (by assumption) ?_
                      rw [(d2 s0 hs0).1]
                      refine pb_iconst (v := nI 4) g dX8_lots_43 (by decide) ?_
                      first | refine pb_icmp_neN g 55 dX8_lots_44 (by decide) (by omega) (by omega) (fun c44 => ?_) (fun c44 => ?_) | refine pb_icmp_ne g 55 dX8_lots_44 (by decide) (fun c44 => ?_) (fun c44 => ?_)
                      · exact absurd hk4 c44
                      · refine pb_aload_n0 g dX8_lots_47 ?_
                        refine pb_getf g fX8_7 dX8_lots_48 mr_o rfl ?_
                        first | refine pb_i2lN g dX8_lots_51 (by omega) ?_ | refine pb_i2l g dX8_lots_51 ?_
                        refine pb_goto g 69 dX8_lots_52 (by decide) ?_
                        first | refine pb_lc_ltN g 76 dX8_lots_69 dX8_lots_70 (by decide) (by omega) (by omega) (fun c69 => ?_) (fun c69 => ?_) | refine pb_lc_lt g 76 dX8_lots_69 dX8_lots_70 (by decide) (fun c69 => ?_) (fun c69 => ?_)
                        · exact absurd c69 (by omega)
                        · refine pb_bipush (v := -2) g dX8_lots_73 (by decide) ?_
                          refine pb_iret g z dX8_lots_75 ?_
                          exact ⟨_, rfl, by rw [e], by rw [e]; exact ⟨_, _, _, _, _, _, _, _, _, _, _, _, _, _, _, _, _, _, _, rfl, d1, d2, d3, d4, d5⟩⟩
                  · exact absurd c24 (by decide)
                · exact absurd c13 (by decide)
          · have e1 : Hh s0 ^ lotN (K s0) n = Hh s0 ^ n := by rw [lotN, if_neg hk4]
            rw [e1] at hlt
            by_cases hLn : L < Hh s0 ^ n
            · have e : sLots ((n, P, S, sd), (σ, μ, K, Hh), (ts, zz, it), (ra, tr)) (nI s0) (nI p0) (lN L) = (1, ((n, P, S, sd), (va_up σ p0 (layO n (K s0) (fun i => L / Hh s0 ^ i % Hh s0) (σ p0)), μ, K, Hh), (ts, zz, it), (ra, tr))) := by
                simp only [sLots, hs, hpx]
                rw [if_neg h3, if_neg (fun z => z.elim hL0 (fun w => by rw [e1] at w; exact absurd ((pk_lLE (by omega) hL).mp w) (by omega))), lN_clamp hL]
              refine pb_aload_n0 g dX8_lots_0 ?_
              refine pb_iload_n1 g dX8_lots_1 ?_
              refine pb_Vi1 g qX8_123 dX8_lots_2 (k + 5) (by omega) mr_o (m_isShuffleT (k + 5) (by assumption) hS) (fun r2 h2 e2 => ?_)
              obtain ⟨rfl, rfl⟩ := e2
              first | refine pb_if_eqN g 16 dX8_lots_5 (by decide) (by omega) (fun c5 => ?_) (fun c5 => ?_) | refine pb_if_eq g 16 dX8_lots_5 (by decide) (fun c5 => ?_) (fun c5 => ?_)
              · exact absurd c5 (by decide)
              · refine pb_aload_n0 g dX8_lots_8 ?_
                refine pb_iload_n2 g dX8_lots_9 ?_
                refine pb_Vi1 g qX8_101 dX8_lots_10 (k + 5) (by omega) mr_o (m_isPackT (k + 5) (by assumption) hP) (fun r10 h10 e10 => ?_)
                obtain ⟨rfl, rfl⟩ := e10
                first | refine pb_if_neN g 19 dX8_lots_13 (by decide) (by omega) (fun c13 => ?_) (fun c13 => ?_) | refine pb_if_ne g 19 dX8_lots_13 (by decide) (fun c13 => ?_) (fun c13 => ?_)
                · refine pb_aload_n0 g dX8_lots_19 ?_
                  refine pb_iload_n1 g dX8_lots_20 ?_
                  refine pb_Vi1 g qX8_126 dX8_lots_21 (k + 5) (by omega) mr_o (m_hasMove (k + 5) (s := s0) (K := K s0) (by omega) (d2 s0 (by assumption)).1 (hK s0 (by assumption)).1) (fun r21 h21 e21 => ?_)
                  obtain ⟨rfl, rfl⟩ := e21
                  rw [if_neg (by assumption)]
                  first | refine pb_if_eqN g 30 dX8_lots_24 (by decide) (by omega) (fun c24 => ?_) (fun c24 => ?_) | refine pb_if_eq g 30 dX8_lots_24 (by decide) (fun c24 => ?_) (fun c24 => ?_)
                  · refine pb_lload_n3 g dX8_lots_30 ?_
                    refine pb_lconst (v := lN 0) g dX8_lots_31 rfl ?_
                    first | refine pb_lc_ltN g 73 dX8_lots_32 dX8_lots_33 (by decide) (by omega) (by omega) (fun c32 => ?_) (fun c32 => ?_) | refine pb_lc_lt g 73 dX8_lots_32 dX8_lots_33 (by decide) (fun c32 => ?_) (fun c32 => ?_)
                    · exact absurd c32 (by omega)
                    · refine pb_lload_n3 g dX8_lots_36 ?_
                      refine pb_aload_n0 g dX8_lots_37 ?_
                      refine pb_getf g fX8_17 dX8_lots_38 mr_o rfl ?_
                      refine pb_iload_n1 g dX8_lots_41 ?_
                      first | refine pb_ialdN g dX8_lots_42 (by first | exact mr_kind | exact mr_order | exact mr_heaps | exact mr_m | exact mr_line | exact mr_other | exact mr_ways | exact mr_next | exact mr_chances | exact mr_after | exact mr_far | exact mr_groups | exact mr_found | exact mr_counts | exact mr_traySort | exact mr_traySize | exact mr_cells | exact mr_moved | exact mr_traced | assumption) (by omega) (by omega) ?_ | refine pb_ald0 g dX8_lots_42 (by omega) ?_ | refine pb_ald1 g dX8_lots_42 (by omega) ?_ | refine pb_ald2 g dX8_lots_42 (by omega) ?_ | refine pb_ald3 g dX8_lots_42 (by omega) ?_ | refine pb_iald g dX8_lots_42 (by first | exact mr_kind | exact mr_order | exact mr_heaps | exact mr_m | exact mr_line | exact mr_other | exact mr_ways | exact mr_next | exact mr_chances | exact mr_after | exact mr_far | exact mr_groups | exact mr_found | exact mr_counts | exact mr_traySort | exact mr_traySize | exact mr_cells | exact mr_moved | exact mr_traced | assumption) (by assumption) ?_
                      rw [(d2 s0 hs0).1]
                      refine pb_iconst (v := nI 4) g dX8_lots_43 (by decide) ?_
                      first | refine pb_icmp_neN g 55 dX8_lots_44 (by decide) (by omega) (by omega) (fun c44 => ?_) (fun c44 => ?_) | refine pb_icmp_ne g 55 dX8_lots_44 (by decide) (fun c44 => ?_) (fun c44 => ?_)
                      · refine pb_aload_n0 g dX8_lots_55 ?_
                        refine pb_getf g fX8_20 dX8_lots_56 mr_o rfl ?_
                        refine pb_iload_n1 g dX8_lots_59 ?_
                        first | refine pb_ialdN g dX8_lots_60 (by first | exact mr_heaps | exact mr_kind | exact mr_order | exact mr_m | exact mr_line | exact mr_other | exact mr_ways | exact mr_next | exact mr_chances | exact mr_after | exact mr_far | exact mr_groups | exact mr_found | exact mr_counts | exact mr_traySort | exact mr_traySize | exact mr_cells | exact mr_moved | exact mr_traced | assumption) (by omega) (by omega) ?_ | refine pb_ald0 g dX8_lots_60 (by omega) ?_ | refine pb_ald1 g dX8_lots_60 (by omega) ?_ | refine pb_ald2 g dX8_lots_60 (by omega) ?_ | refine pb_ald3 g dX8_lots_60 (by omega) ?_ | refine pb_iald g dX8_lots_60 (by first | exact mr_heaps | exact mr_kind | exact mr_order | exact mr_m | exact mr_line | exact mr_other | exact mr_ways | exact mr_next | exact mr_chances | exact mr_after | exact mr_far | exact mr_groups | exact mr_found | exact mr_counts | exact mr_traySort | exact mr_traySize | exact mr_cells | exact mr_moved | exact mr_traced | assumption) (by assumption) ?_
                        rw [(d2 s0 hs0).2.1]
                        first | refine pb_i2lN g dX8_lots_61 (by omega) ?_ | refine pb_i2l g dX8_lots_61 ?_
                        refine pb_aload_n0 g dX8_lots_62 ?_
                        refine pb_getf g fX8_7 dX8_lots_63 mr_o rfl ?_
                        refine pb_Sl2 g qX8_145 dX8_lots_66 (k + 5) (by omega) (m_power (k + 5) (Hh s0) n (by omega) _) (fun r66 h66 e66 => ?_)
                        obtain ⟨rfl, rfl⟩ := e66
                        first | refine pb_lc_ltN g 76 dX8_lots_69 dX8_lots_70 (by decide) (by omega) (by omega) (fun c69 => ?_) (fun c69 => ?_) | refine pb_lc_lt g 76 dX8_lots_69 dX8_lots_70 (by decide) (fun c69 => ?_) (fun c69 => ?_)
                        · refine pb_aload_n0 g dX8_lots_76 ?_
                          refine pb_iload_n1 g dX8_lots_77 ?_
                          refine pb_iload_n2 g dX8_lots_78 ?_
                          refine pb_lload_n3 g dX8_lots_79 ?_
                          refine pb_Vv3 g qX8_149 dX8_lots_80 (k + 5) (by omega) mr_o (m_lays (k + 4) (n := n) (p := p0) (s := s0) (K := K s0) (a := Hh s0) (L := L) hn hn1 (by omega) (by omega) (d2 s0 hs0).1 hKs.1 (d2 s0 hs0).2.1 hKs.2.1 hKs.2.2.1 hL (fun q => absurd q hk4) (σ p0) (d1 p0 hp0)) (fun h80 e80 => ?_)
                          obtain ⟨f9, l9, rfl, hf9⟩ := e80
                          refine pb_iconst (v := nI 1) g dX8_lots_83 (by decide) ?_
                          refine pb_iret g z dX8_lots_84 ?_
                          exact ⟨_, rfl, by rw [e]; rfl, by rw [e]; exact ⟨_, _, _, _, _, _, _, _, _, _, _, _, _, _, _, _, _, _, _, rfl, m1_up hn d1 hf9 (fun p h1 _ => h1), d2, d3, d4, d5⟩⟩
                        · exact absurd c69 (by omega)
                      · exact absurd c44 hk4
                  · exact absurd c24 (by decide)
                · exact absurd c13 (by decide)
            · have e : sLots ((n, P, S, sd), (σ, μ, K, Hh), (ts, zz, it), (ra, tr)) (nI s0) (nI p0) (lN L) = (-2, ((n, P, S, sd), (σ, μ, K, Hh), (ts, zz, it), (ra, tr))) := by
                simp only [sLots, hs, hpx]
                rw [if_neg h3, if_pos (Or.inr (by rw [e1]; exact (pk_lLE (by omega) hL).mpr (by omega)))]
              refine pb_aload_n0 g dX8_lots_0 ?_
              refine pb_iload_n1 g dX8_lots_1 ?_
              refine pb_Vi1 g qX8_123 dX8_lots_2 (k + 5) (by omega) mr_o (m_isShuffleT (k + 5) (by assumption) hS) (fun r2 h2 e2 => ?_)
              obtain ⟨rfl, rfl⟩ := e2
              first | refine pb_if_eqN g 16 dX8_lots_5 (by decide) (by omega) (fun c5 => ?_) (fun c5 => ?_) | refine pb_if_eq g 16 dX8_lots_5 (by decide) (fun c5 => ?_) (fun c5 => ?_)
              · exact absurd c5 (by decide)
              · refine pb_aload_n0 g dX8_lots_8 ?_
                refine pb_iload_n2 g dX8_lots_9 ?_
                refine pb_Vi1 g qX8_101 dX8_lots_10 (k + 5) (by omega) mr_o (m_isPackT (k + 5) (by assumption) hP) (fun r10 h10 e10 => ?_)
                obtain ⟨rfl, rfl⟩ := e10
                first | refine pb_if_neN g 19 dX8_lots_13 (by decide) (by omega) (fun c13 => ?_) (fun c13 => ?_) | refine pb_if_ne g 19 dX8_lots_13 (by decide) (fun c13 => ?_) (fun c13 => ?_)
                · refine pb_aload_n0 g dX8_lots_19 ?_
                  refine pb_iload_n1 g dX8_lots_20 ?_
                  refine pb_Vi1 g qX8_126 dX8_lots_21 (k + 5) (by omega) mr_o (m_hasMove (k + 5) (s := s0) (K := K s0) (by omega) (d2 s0 (by assumption)).1 (hK s0 (by assumption)).1) (fun r21 h21 e21 => ?_)
                  obtain ⟨rfl, rfl⟩ := e21
                  rw [if_neg (by assumption)]
                  first | refine pb_if_eqN g 30 dX8_lots_24 (by decide) (by omega) (fun c24 => ?_) (fun c24 => ?_) | refine pb_if_eq g 30 dX8_lots_24 (by decide) (fun c24 => ?_) (fun c24 => ?_)
                  · refine pb_lload_n3 g dX8_lots_30 ?_
                    refine pb_lconst (v := lN 0) g dX8_lots_31 rfl ?_
                    first | refine pb_lc_ltN g 73 dX8_lots_32 dX8_lots_33 (by decide) (by omega) (by omega) (fun c32 => ?_) (fun c32 => ?_) | refine pb_lc_lt g 73 dX8_lots_32 dX8_lots_33 (by decide) (fun c32 => ?_) (fun c32 => ?_)
                    · exact absurd c32 (by omega)
                    · refine pb_lload_n3 g dX8_lots_36 ?_
                      refine pb_aload_n0 g dX8_lots_37 ?_
                      refine pb_getf g fX8_17 dX8_lots_38 mr_o rfl ?_
                      refine pb_iload_n1 g dX8_lots_41 ?_
                      first | refine pb_ialdN g dX8_lots_42 (by first | exact mr_kind | exact mr_order | exact mr_heaps | exact mr_m | exact mr_line | exact mr_other | exact mr_ways | exact mr_next | exact mr_chances | exact mr_after | exact mr_far | exact mr_groups | exact mr_found | exact mr_counts | exact mr_traySort | exact mr_traySize | exact mr_cells | exact mr_moved | exact mr_traced | assumption) (by omega) (by omega) ?_ | refine pb_ald0 g dX8_lots_42 (by omega) ?_ | refine pb_ald1 g dX8_lots_42 (by omega) ?_ | refine pb_ald2 g dX8_lots_42 (by omega) ?_ | refine pb_ald3 g dX8_lots_42 (by omega) ?_ | refine pb_iald g dX8_lots_42 (by first | exact mr_kind | exact mr_order | exact mr_heaps | exact mr_m | exact mr_line | exact mr_other | exact mr_ways | exact mr_next | exact mr_chances | exact mr_after | exact mr_far | exact mr_groups | exact mr_found | exact mr_counts | exact mr_traySort | exact mr_traySize | exact mr_cells | exact mr_moved | exact mr_traced | assumption) (by assumption) ?_
                      rw [(d2 s0 hs0).1]
                      refine pb_iconst (v := nI 4) g dX8_lots_43 (by decide) ?_
                      first | refine pb_icmp_neN g 55 dX8_lots_44 (by decide) (by omega) (by omega) (fun c44 => ?_) (fun c44 => ?_) | refine pb_icmp_ne g 55 dX8_lots_44 (by decide) (fun c44 => ?_) (fun c44 => ?_)
                      · refine pb_aload_n0 g dX8_lots_55 ?_
                        refine pb_getf g fX8_20 dX8_lots_56 mr_o rfl ?_
                        refine pb_iload_n1 g dX8_lots_59 ?_
                        first | refine pb_ialdN g dX8_lots_60 (by first | exact mr_heaps | exact mr_kind | exact mr_order | exact mr_m | exact mr_line | exact mr_other | exact mr_ways | exact mr_next | exact mr_chances | exact mr_after | exact mr_far | exact mr_groups | exact mr_found | exact mr_counts | exact mr_traySort | exact mr_traySize | exact mr_cells | exact mr_moved | exact mr_traced | assumption) (by omega) (by omega) ?_ | refine pb_ald0 g dX8_lots_60 (by omega) ?_ | refine pb_ald1 g dX8_lots_60 (by omega) ?_ | refine pb_ald2 g dX8_lots_60 (by omega) ?_ | refine pb_ald3 g dX8_lots_60 (by omega) ?_ | refine pb_iald g dX8_lots_60 (by first | exact mr_heaps | exact mr_kind | exact mr_order | exact mr_m | exact mr_line | exact mr_other | exact mr_ways | exact mr_next | exact mr_chances | exact mr_after | exact mr_far | exact mr_groups | exact mr_found | exact mr_counts | exact mr_traySort | exact mr_traySize | exact mr_cells | exact mr_moved | exact mr_traced | assumption) (by assumption) ?_
                        rw [(d2 s0 hs0).2.1]
                        first | refine pb_i2lN g dX8_lots_61 (by omega) ?_ | refine pb_i2l g dX8_lots_61 ?_
                        refine pb_aload_n0 g dX8_lots_62 ?_
                        refine pb_getf g fX8_7 dX8_lots_63 mr_o rfl ?_
                        refine pb_Sl2 g qX8_145 dX8_lots_66 (k + 5) (by omega) (m_power (k + 5) (Hh s0) n (by omega) _) (fun r66 h66 e66 => ?_)
                        obtain ⟨rfl, rfl⟩ := e66
                        first | refine pb_lc_ltN g 76 dX8_lots_69 dX8_lots_70 (by decide) (by omega) (by omega) (fun c69 => ?_) (fun c69 => ?_) | refine pb_lc_lt g 76 dX8_lots_69 dX8_lots_70 (by decide) (fun c69 => ?_) (fun c69 => ?_)
                        · exact absurd c69 (by omega)
                        · refine pb_bipush (v := -2) g dX8_lots_73 (by decide) ?_
                          refine pb_iret g z dX8_lots_75 ?_
                          exact ⟨_, rfl, by rw [e], by rw [e]; exact ⟨_, _, _, _, _, _, _, _, _, _, _, _, _, _, _, _, _, _, _, rfl, d1, d2, d3, d4, d5⟩⟩
                      · exact absurd c44 hk4
                  · exact absurd c24 (by decide)
                · exact absurd c13 (by decide)
set_option maxHeartbeats 4000000 in
set_option maxRecDepth 100000 in
theorem m_draw (k : Nat) (q : SP) (s p : Int32) (h : PH) (hD : IsM q h) (hI : SI q) : Runs yX8_draw cX8_draw 8 (some .long) (k + 6) [.ref 0, .int s, .int p] h (fun oo h' => ∃ r : Int64, oo = some (.long r) ∧ r = (sDraw q s p).1 ∧ IsM ((sDraw q s p).2) h') := by
  obtain ⟨⟨n, P, S, sd⟩, ⟨σ, μ, K, Hh⟩, ⟨ts, zz, it⟩, ⟨ra, tr⟩⟩ := q
  obtain ⟨⟨hn1, hn, hP, hS⟩, hσ, hK, hz, hra⟩ := hI
  obtain ⟨xod, xkn, xhs, xmm, xln, xot, xfa, xgr, xtsr, xtsz, xce, xmv, xtc, xwy, xnx, xch, xaf, xfo, xco, rfl, d1, d2, d3, d4, d5⟩ := hD
  refine Runs.of (by decide) (Nat.le_of_ble_eq_true rfl) [some (.ref 0), some (.int s), some (.int p), none, none, none, none, none] 5 rfl (fun Γ g z => ?_)
  cases hs : ix s S with
  | none =>
    have e : sDraw ((n, P, S, sd), (σ, μ, K, Hh), (ts, zz, it), (ra, tr)) s p = (NOL, ((n, P, S, sd), (σ, μ, K, Hh), (ts, zz, it), (ra, tr))) := by simp only [sDraw, hs]
    have hsn := ix_none (by omega) hs
    refine pb_aload_n0 g dX8_draw_0 ?_
    refine pb_iload_n1 g dX8_draw_1 ?_
    refine pb_Vi1 g qX8_123 dX8_draw_2 (k + 5) (by omega) mr_o (m_isShuffleF (k + 5) (by assumption) hS) (fun r2 h2 e2 => ?_)
    obtain ⟨rfl, rfl⟩ := e2
    first | refine pb_if_eqN g 24 dX8_draw_5 (by decide) (by omega) (fun c5 => ?_) (fun c5 => ?_) | refine pb_if_eq g 24 dX8_draw_5 (by decide) (fun c5 => ?_) (fun c5 => ?_)
    · refine pb_ldc2w (w := (-4611686018427387904)) g kX8_157 (by decide) dX8_draw_24 ?_
      refine pb_lret g z dX8_draw_27 ?_
      exact ⟨_, rfl, by rw [e], by rw [e]; exact ⟨_, _, _, _, _, _, _, _, _, _, _, _, _, _, _, _, _, _, _, rfl, d1, d2, d3, d4, d5⟩⟩
    · exact absurd c5 (by decide)
  | some s0 =>
    obtain ⟨hs0, rfl⟩ := ix_some (by omega) hs
    cases hpx : ix p P with
    | none =>
      have e : sDraw ((n, P, S, sd), (σ, μ, K, Hh), (ts, zz, it), (ra, tr)) (nI s0) p = (NOL, ((n, P, S, sd), (σ, μ, K, Hh), (ts, zz, it), (ra, tr))) := by simp only [sDraw, hs, hpx]
      have hpn := ix_none (by omega) hpx
      refine pb_aload_n0 g dX8_draw_0 ?_
      refine pb_iload_n1 g dX8_draw_1 ?_
      refine pb_Vi1 g qX8_123 dX8_draw_2 (k + 5) (by omega) mr_o (m_isShuffleT (k + 5) (by assumption) hS) (fun r2 h2 e2 => ?_)
      obtain ⟨rfl, rfl⟩ := e2
      first | refine pb_if_eqN g 24 dX8_draw_5 (by decide) (by omega) (fun c5 => ?_) (fun c5 => ?_) | refine pb_if_eq g 24 dX8_draw_5 (by decide) (fun c5 => ?_) (fun c5 => ?_)
      · exact absurd c5 (by decide)
      · refine pb_aload_n0 g dX8_draw_8 ?_
        refine pb_iload_n2 g dX8_draw_9 ?_
        refine pb_Vi1 g qX8_101 dX8_draw_10 (k + 5) (by omega) mr_o (m_isPackF (k + 5) (by assumption) hP) (fun r10 h10 e10 => ?_)
        obtain ⟨rfl, rfl⟩ := e10
        first | refine pb_if_eqN g 24 dX8_draw_13 (by decide) (by omega) (fun c13 => ?_) (fun c13 => ?_) | refine pb_if_eq g 24 dX8_draw_13 (by decide) (fun c13 => ?_) (fun c13 => ?_)
        · refine pb_ldc2w (w := (-4611686018427387904)) g kX8_157 (by decide) dX8_draw_24 ?_
          refine pb_lret g z dX8_draw_27 ?_
          exact ⟨_, rfl, by rw [e], by rw [e]; exact ⟨_, _, _, _, _, _, _, _, _, _, _, _, _, _, _, _, _, _, _, rfl, d1, d2, d3, d4, d5⟩⟩
        · exact absurd c13 (by decide)
    | some p0 =>
      obtain ⟨hp0, rfl⟩ := ix_some (by omega) hpx
      have hKs := hK s0 hs0
      by_cases h3 : K s0 < 3
      · have e : sDraw ((n, P, S, sd), (σ, μ, K, Hh), (ts, zz, it), (ra, tr)) (nI s0) (nI p0) = (NOL, ((n, P, S, sd), (σ, μ, K, Hh), (ts, zz, it), (ra, tr))) := by simp only [sDraw, hs, hpx]; exact if_pos h3
        refine pb_aload_n0 g dX8_draw_0 ?_
        refine pb_iload_n1 g dX8_draw_1 ?_
        refine pb_Vi1 g qX8_123 dX8_draw_2 (k + 5) (by omega) mr_o (m_isShuffleT (k + 5) (by assumption) hS) (fun r2 h2 e2 => ?_)
        obtain ⟨rfl, rfl⟩ := e2
        first | refine pb_if_eqN g 24 dX8_draw_5 (by decide) (by omega) (fun c5 => ?_) (fun c5 => ?_) | refine pb_if_eq g 24 dX8_draw_5 (by decide) (fun c5 => ?_) (fun c5 => ?_)
        · exact absurd c5 (by decide)
        · refine pb_aload_n0 g dX8_draw_8 ?_
          refine pb_iload_n2 g dX8_draw_9 ?_
          refine pb_Vi1 g qX8_101 dX8_draw_10 (k + 5) (by omega) mr_o (m_isPackT (k + 5) (by assumption) hP) (fun r10 h10 e10 => ?_)
          obtain ⟨rfl, rfl⟩ := e10
          first | refine pb_if_eqN g 24 dX8_draw_13 (by decide) (by omega) (fun c13 => ?_) (fun c13 => ?_) | refine pb_if_eq g 24 dX8_draw_13 (by decide) (fun c13 => ?_) (fun c13 => ?_)
          · exact absurd c13 (by decide)
          · refine pb_aload_n0 g dX8_draw_16 ?_
            refine pb_iload_n1 g dX8_draw_17 ?_
            refine pb_Vi1 g qX8_126 dX8_draw_18 (k + 5) (by omega) mr_o (m_hasMove (k + 5) (s := s0) (K := K s0) (by omega) (d2 s0 (by assumption)).1 (hK s0 (by assumption)).1) (fun r18 h18 e18 => ?_)
            obtain ⟨rfl, rfl⟩ := e18
            rw [if_pos (by assumption)]
            first | refine pb_if_eqN g 28 dX8_draw_21 (by decide) (by omega) (fun c21 => ?_) (fun c21 => ?_) | refine pb_if_eq g 28 dX8_draw_21 (by decide) (fun c21 => ?_) (fun c21 => ?_)
            · exact absurd c21 (by decide)
            · refine pb_ldc2w (w := (-4611686018427387904)) g kX8_157 (by decide) dX8_draw_24 ?_
              refine pb_lret g z dX8_draw_27 ?_
              exact ⟨_, rfl, by rw [e], by rw [e]; exact ⟨_, _, _, _, _, _, _, _, _, _, _, _, _, _, _, _, _, _, _, rfl, d1, d2, d3, d4, d5⟩⟩
      · have hdl : ∀ i, dwV (Hh s0) sd i < Hh s0 := fun i => dwL_lt (by omega) _ _
        have hlt := lot_lt (K := K s0) hKs.2.2.1 hn
        have e : sDraw ((n, P, S, sd), (σ, μ, K, Hh), (ts, zz, it), (ra, tr)) (nI s0) (nI p0) = (lN (asN (Hh s0) (dwV (Hh s0) sd) (lotN (K s0) n)), ((n, P, S, dwS (Hh s0) sd (lotN (K s0) n)), (va_up σ p0 (layO n (K s0) (dwV (Hh s0) sd) (σ p0)), μ, K, Hh), (ts, zz, it), (ra, tr))) := by
          simp only [sDraw, hs, hpx]
          exact if_neg h3
        have hal := as_lt hdl (lotN (K s0) n)
        have hlo := layO_congr (n := n) (K := K s0) (o := σ p0) (by omega) (fun i hi => as_dig hdl (lotN (K s0) n) i hi)
        by_cases hk4 : K s0 = 4
        · have hHn := hKs.2.2.2.1 hk4
          have e1 : lotN (K s0) n = 1 := by rw [lotN, if_pos hk4]
          have e2 : asN (Hh s0) (dwV (Hh s0) sd) 1 = (dwL (Hh s0) dwMx sd).2 := by
            show 0 + dwV (Hh s0) sd 0 * Hh s0 ^ 0 = _
            rw [Nat.pow_zero, Nat.mul_one, Nat.zero_add]
            rfl
          have hv0 : (dwL (Hh s0) dwMx sd).2 < Hh s0 := hdl 0
          rw [e1] at e hlo
          rw [e2] at e hlo
          refine pb_aload_n0 g dX8_draw_0 ?_
          refine pb_iload_n1 g dX8_draw_1 ?_
          refine pb_Vi1 g qX8_123 dX8_draw_2 (k + 5) (by omega) mr_o (m_isShuffleT (k + 5) (by assumption) hS) (fun r2 h2 e2 => ?_)
          obtain ⟨rfl, rfl⟩ := e2
          first | refine pb_if_eqN g 24 dX8_draw_5 (by decide) (by omega) (fun c5 => ?_) (fun c5 => ?_) | refine pb_if_eq g 24 dX8_draw_5 (by decide) (fun c5 => ?_) (fun c5 => ?_)
          · exact absurd c5 (by decide)
          · refine pb_aload_n0 g dX8_draw_8 ?_
            refine pb_iload_n2 g dX8_draw_9 ?_
            refine pb_Vi1 g qX8_101 dX8_draw_10 (k + 5) (by omega) mr_o (m_isPackT (k + 5) (by assumption) hP) (fun r10 h10 e10 => ?_)
            obtain ⟨rfl, rfl⟩ := e10
            first | refine pb_if_eqN g 24 dX8_draw_13 (by decide) (by omega) (fun c13 => ?_) (fun c13 => ?_) | refine pb_if_eq g 24 dX8_draw_13 (by decide) (fun c13 => ?_) (fun c13 => ?_)
            · exact absurd c13 (by decide)
            · refine pb_aload_n0 g dX8_draw_16 ?_
              refine pb_iload_n1 g dX8_draw_17 ?_
              refine pb_Vi1 g qX8_126 dX8_draw_18 (k + 5) (by omega) mr_o (m_hasMove (k + 5) (s := s0) (K := K s0) (by omega) (d2 s0 (by assumption)).1 (hK s0 (by assumption)).1) (fun r18 h18 e18 => ?_)
              obtain ⟨rfl, rfl⟩ := e18
              rw [if_neg (by assumption)]
              first | refine pb_if_eqN g 28 dX8_draw_21 (by decide) (by omega) (fun c21 => ?_) (fun c21 => ?_) | refine pb_if_eq g 28 dX8_draw_21 (by decide) (fun c21 => ?_) (fun c21 => ?_)
              · refine pb_lconst (v := lN 0) g dX8_draw_28 rfl ?_
                refine pb_lstore_n3 g dX8_draw_29 (by decide) ?_
                refine pb_aload_n0 g dX8_draw_30 ?_
                refine pb_getf g fX8_17 dX8_draw_31 mr_o rfl ?_
                refine pb_iload_n1 g dX8_draw_34 ?_
                first | refine pb_ialdN g dX8_draw_35 (by first | exact mr_kind | exact mr_order | exact mr_heaps | exact mr_m | exact mr_line | exact mr_other | exact mr_ways | exact mr_next | exact mr_chances | exact mr_after | exact mr_far | exact mr_groups | exact mr_found | exact mr_counts | exact mr_traySort | exact mr_traySize | exact mr_cells | exact mr_moved | exact mr_traced | assumption) (by omega) (by omega) ?_ | refine pb_ald0 g dX8_draw_35 (by omega) ?_ | refine pb_ald1 g dX8_draw_35 (by omega) ?_ | refine pb_ald2 g dX8_draw_35 (by omega) ?_ | refine pb_ald3 g dX8_draw_35 (by omega) ?_ | refine pb_iald g dX8_draw_35 (by first | exact mr_kind | exact mr_order | exact mr_heaps | exact mr_m | exact mr_line | exact mr_other | exact mr_ways | exact mr_next | exact mr_chances | exact mr_after | exact mr_far | exact mr_groups | exact mr_found | exact mr_counts | exact mr_traySort | exact mr_traySize | exact mr_cells | exact mr_moved | exact mr_traced | assumption) (by assumption) ?_
                rw [(d2 s0 hs0).1]
                refine pb_iconst (v := nI 4) g dX8_draw_36 (by decide) ?_
                first | refine pb_icmp_neN g 53 dX8_draw_37 (by decide) (by omega) (by omega) (fun c37 => ?_) (fun c37 => ?_) | refine pb_icmp_ne g 53 dX8_draw_37 (by decide) (fun c37 => ?_) (fun c37 => ?_)
                · exact absurd hk4 c37
                · refine pb_aload_n0 g dX8_draw_40 ?_
                  refine pb_aload_n0 g dX8_draw_41 ?_
                  refine pb_getf g fX8_7 dX8_draw_42 mr_o rfl ?_
                  refine pb_Vi1 g qX8_159 dX8_draw_45 (k + 5) (by omega) mr_o (m_drawn (k + 5) (b := n) hn hn1) (fun r45 h45 e45 => ?_)
                  obtain ⟨rfl, rfl⟩ := e45
                  rw [← hHn]
                  first | refine pb_i2lN g dX8_draw_48 (by omega) ?_ | refine pb_i2l g dX8_draw_48 ?_
                  refine pb_lstore_n3 g dX8_draw_49 (by decide) ?_
                  refine pb_goto g 103 dX8_draw_50 (by decide) ?_
                  refine pb_aload_n0 g dX8_draw_103 ?_
                  refine pb_iload_n1 g dX8_draw_104 ?_
                  refine pb_iload_n2 g dX8_draw_105 ?_
                  refine pb_lload_n3 g dX8_draw_106 ?_
                  refine pb_Vv3 g qX8_149 dX8_draw_107 (k + 5) (by omega) mr_o (m_lays (k + 4) (n := n) (p := p0) (s := s0) (K := K s0) (a := Hh s0) (L := (dwL (Hh s0) dwMx sd).2) hn hn1 (by omega) (by omega) (d2 s0 hs0).1 hKs.1 (d2 s0 hs0).2.1 hKs.2.1 hKs.2.2.1 (by omega) (fun q => ⟨by omega, hKs.2.2.2.1 q⟩) (σ p0) (d1 p0 hp0)) (fun h107 e107 => ?_)
                  obtain ⟨f9, l9, rfl, hf9⟩ := e107
                  refine pb_lload_n3 g dX8_draw_110 ?_
                  refine pb_lret g z dX8_draw_111 ?_
                  exact ⟨_, rfl, by rw [e], by rw [e]; exact ⟨_, _, _, _, _, _, _, _, _, _, _, _, _, _, _, _, _, _, _, rfl, m1_up hn d1 (fun j hj => (hf9 j hj).trans (by rw [hlo j hj])) (fun p h1 _ => h1), d2, d3, d4, d5⟩⟩
              · exact absurd c21 (by decide)
        · have e1 : lotN (K s0) n = n := by rw [lotN, if_neg hk4]
          rw [e1] at e hlo hal hlt
          have hpi : ∀ i, i ≤ n → Hh s0 ^ i ≤ 10 ^ 10 := fun i hi => Nat.le_trans (Nat.pow_le_pow_left hKs.2.2.1 i) (Nat.pow_le_pow_right (by decide) (by omega))
          have loop : ∀ i, i ≤ n → PB Γ 59 [some (.ref 0), some (.int (nI s0)), some (.int (nI p0)), some (.long (lN (asN (Hh s0) (dwV (Hh s0) sd) i))), none, some (.long (lN (Hh s0 ^ i))), none, some (.int (nI i))] [] (mkH 20 (mdF (nI n) (nI P) (nI S) (dwS (Hh s0) sd i) xod xkn xhs xmm xln xot xwy xnx xch xaf xfa xgr xfo xco xtsr xtsz xce xmv xtc (nI ra))) := by
            refine pb_loop n (fun i hi ih => ?_)
            by_cases hin : i < n
            · have ih := ih hin
              have hdi := hdl i
              have hpp := hpi i hi
              rw [asN, Nat.pow_succ] at ih
              refine pb_iload7 g dX8_draw_59 ?_
              refine pb_aload_n0 g dX8_draw_61 ?_
              refine pb_getf g fX8_7 dX8_draw_62 mr_o rfl ?_
              first | refine pb_icmp_geN g 103 dX8_draw_65 (by decide) (by omega) (by omega) (fun c65 => ?_) (fun c65 => ?_) | refine pb_icmp_ge g 103 dX8_draw_65 (by decide) (fun c65 => ?_) (fun c65 => ?_)
              · exact absurd c65 (by omega)
              · refine pb_lload_n3 g dX8_draw_68 ?_
                refine pb_aload_n0 g dX8_draw_69 ?_
                refine pb_aload_n0 g dX8_draw_70 ?_
                refine pb_getf g fX8_20 dX8_draw_71 mr_o rfl ?_
                refine pb_iload_n1 g dX8_draw_74 ?_
                first | refine pb_ialdN g dX8_draw_75 (by first | exact mr_heaps | exact mr_order | exact mr_kind | exact mr_m | exact mr_line | exact mr_other | exact mr_ways | exact mr_next | exact mr_chances | exact mr_after | exact mr_far | exact mr_groups | exact mr_found | exact mr_counts | exact mr_traySort | exact mr_traySize | exact mr_cells | exact mr_moved | exact mr_traced | assumption) (by omega) (by omega) ?_ | refine pb_ald0 g dX8_draw_75 (by omega) ?_ | refine pb_ald1 g dX8_draw_75 (by omega) ?_ | refine pb_ald2 g dX8_draw_75 (by omega) ?_ | refine pb_ald3 g dX8_draw_75 (by omega) ?_ | refine pb_iald g dX8_draw_75 (by first | exact mr_heaps | exact mr_order | exact mr_kind | exact mr_m | exact mr_line | exact mr_other | exact mr_ways | exact mr_next | exact mr_chances | exact mr_after | exact mr_far | exact mr_groups | exact mr_found | exact mr_counts | exact mr_traySort | exact mr_traySize | exact mr_cells | exact mr_moved | exact mr_traced | assumption) (by assumption) ?_
                rw [(d2 s0 hs0).2.1]
                refine pb_Vi1 g qX8_159 dX8_draw_76 (k + 5) (by omega) mr_o (m_drawn (k + 5) (b := Hh s0) hKs.2.2.1 hKs.2.1) (fun r76 h76 e76 => ?_)
                obtain ⟨rfl, rfl⟩ := e76
                change PB Γ _ _ (.int (nI (dwV (Hh s0) sd i)) :: _) _
                first | refine pb_i2lN g dX8_draw_79 (by omega) ?_ | refine pb_i2l g dX8_draw_79 ?_
                refine pb_lload5 g dX8_draw_80 ?_
                first | refine pb_lmulN g dX8_draw_82 ?_ | refine pb_lmul g dX8_draw_82 ?_
                first | refine pb_laddN g dX8_draw_83 ?_ | refine pb_ladd g dX8_draw_83 ?_
                refine pb_lstore_n3 g dX8_draw_84 (by decide) ?_
                refine pb_lload5 g dX8_draw_85 ?_
                refine pb_aload_n0 g dX8_draw_87 ?_
                refine pb_getf g fX8_20 dX8_draw_88 mr_o rfl ?_
                refine pb_iload_n1 g dX8_draw_91 ?_
                first | refine pb_ialdN g dX8_draw_92 (by first | exact mr_heaps | exact mr_order | exact mr_kind | exact mr_m | exact mr_line | exact mr_other | exact mr_ways | exact mr_next | exact mr_chances | exact mr_after | exact mr_far | exact mr_groups | exact mr_found | exact mr_counts | exact mr_traySort | exact mr_traySize | exact mr_cells | exact mr_moved | exact mr_traced | assumption) (by omega) (by omega) ?_ | refine pb_ald0 g dX8_draw_92 (by omega) ?_ | refine pb_ald1 g dX8_draw_92 (by omega) ?_ | refine pb_ald2 g dX8_draw_92 (by omega) ?_ | refine pb_ald3 g dX8_draw_92 (by omega) ?_ | refine pb_iald g dX8_draw_92 (by first | exact mr_heaps | exact mr_order | exact mr_kind | exact mr_m | exact mr_line | exact mr_other | exact mr_ways | exact mr_next | exact mr_chances | exact mr_after | exact mr_far | exact mr_groups | exact mr_found | exact mr_counts | exact mr_traySort | exact mr_traySize | exact mr_cells | exact mr_moved | exact mr_traced | assumption) (by assumption) ?_
                rw [(d2 s0 hs0).2.1]
                first | refine pb_i2lN g dX8_draw_93 (by omega) ?_ | refine pb_i2l g dX8_draw_93 ?_
                first | refine pb_lmulN g dX8_draw_94 ?_ | refine pb_lmul g dX8_draw_94 ?_
                refine pb_lstore5 g dX8_draw_95 (by decide) ?_
                first | refine pb_iinc7N g dX8_draw_97 (by decide) ?_ | refine pb_iinc7 g dX8_draw_97 (by decide) rfl ?_
                refine pb_goto g 59 dX8_draw_100 (by decide) ?_
                exact ih
            · obtain rfl : i = n := by omega
              refine pb_iload7 g dX8_draw_59 ?_
              refine pb_aload_n0 g dX8_draw_61 ?_
              refine pb_getf g fX8_7 dX8_draw_62 mr_o rfl ?_
              first | refine pb_icmp_geN g 103 dX8_draw_65 (by decide) (by omega) (by omega) (fun c65 => ?_) (fun c65 => ?_) | refine pb_icmp_ge g 103 dX8_draw_65 (by decide) (fun c65 => ?_) (fun c65 => ?_)
              · refine pb_aload_n0 g dX8_draw_103 ?_
                refine pb_iload_n1 g dX8_draw_104 ?_
                refine pb_iload_n2 g dX8_draw_105 ?_
                refine pb_lload_n3 g dX8_draw_106 ?_
                refine pb_Vv3 g qX8_149 dX8_draw_107 (k + 5) (by omega) mr_o (m_lays (k + 4) (n := i) (p := p0) (s := s0) (K := K s0) (a := Hh s0) (L := asN (Hh s0) (dwV (Hh s0) sd) i) hn hn1 (by omega) (by omega) (d2 s0 hs0).1 hKs.1 (d2 s0 hs0).2.1 hKs.2.1 hKs.2.2.1 (by omega) (fun q => absurd q hk4) (σ p0) (d1 p0 hp0)) (fun h107 e107 => ?_)
                obtain ⟨f9, l9, rfl, hf9⟩ := e107
                refine pb_lload_n3 g dX8_draw_110 ?_
                refine pb_lret g z dX8_draw_111 ?_
                exact ⟨_, rfl, by rw [e], by rw [e]; exact ⟨_, _, _, _, _, _, _, _, _, _, _, _, _, _, _, _, _, _, _, rfl, m1_up hn d1 (fun j hj => (hf9 j hj).trans (by rw [hlo j hj])) (fun p h1 _ => h1), d2, d3, d4, d5⟩⟩
              · exact absurd c65 (by omega)
          refine pb_aload_n0 g dX8_draw_0 ?_
          refine pb_iload_n1 g dX8_draw_1 ?_
          refine pb_Vi1 g qX8_123 dX8_draw_2 (k + 5) (by omega) mr_o (m_isShuffleT (k + 5) (by assumption) hS) (fun r2 h2 e2 => ?_)
          obtain ⟨rfl, rfl⟩ := e2
          first | refine pb_if_eqN g 24 dX8_draw_5 (by decide) (by omega) (fun c5 => ?_) (fun c5 => ?_) | refine pb_if_eq g 24 dX8_draw_5 (by decide) (fun c5 => ?_) (fun c5 => ?_)
          · exact absurd c5 (by decide)
          · refine pb_aload_n0 g dX8_draw_8 ?_
            refine pb_iload_n2 g dX8_draw_9 ?_
            refine pb_Vi1 g qX8_101 dX8_draw_10 (k + 5) (by omega) mr_o (m_isPackT (k + 5) (by assumption) hP) (fun r10 h10 e10 => ?_)
            obtain ⟨rfl, rfl⟩ := e10
            first | refine pb_if_eqN g 24 dX8_draw_13 (by decide) (by omega) (fun c13 => ?_) (fun c13 => ?_) | refine pb_if_eq g 24 dX8_draw_13 (by decide) (fun c13 => ?_) (fun c13 => ?_)
            · exact absurd c13 (by decide)
            · refine pb_aload_n0 g dX8_draw_16 ?_
              refine pb_iload_n1 g dX8_draw_17 ?_
              refine pb_Vi1 g qX8_126 dX8_draw_18 (k + 5) (by omega) mr_o (m_hasMove (k + 5) (s := s0) (K := K s0) (by omega) (d2 s0 (by assumption)).1 (hK s0 (by assumption)).1) (fun r18 h18 e18 => ?_)
              obtain ⟨rfl, rfl⟩ := e18
              rw [if_neg (by assumption)]
              first | refine pb_if_eqN g 28 dX8_draw_21 (by decide) (by omega) (fun c21 => ?_) (fun c21 => ?_) | refine pb_if_eq g 28 dX8_draw_21 (by decide) (fun c21 => ?_) (fun c21 => ?_)
              · refine pb_lconst (v := lN 0) g dX8_draw_28 rfl ?_
                refine pb_lstore_n3 g dX8_draw_29 (by decide) ?_
                refine pb_aload_n0 g dX8_draw_30 ?_
                refine pb_getf g fX8_17 dX8_draw_31 mr_o rfl ?_
                refine pb_iload_n1 g dX8_draw_34 ?_
                first | refine pb_ialdN g dX8_draw_35 (by first | exact mr_kind | exact mr_order | exact mr_heaps | exact mr_m | exact mr_line | exact mr_other | exact mr_ways | exact mr_next | exact mr_chances | exact mr_after | exact mr_far | exact mr_groups | exact mr_found | exact mr_counts | exact mr_traySort | exact mr_traySize | exact mr_cells | exact mr_moved | exact mr_traced | assumption) (by omega) (by omega) ?_ | refine pb_ald0 g dX8_draw_35 (by omega) ?_ | refine pb_ald1 g dX8_draw_35 (by omega) ?_ | refine pb_ald2 g dX8_draw_35 (by omega) ?_ | refine pb_ald3 g dX8_draw_35 (by omega) ?_ | refine pb_iald g dX8_draw_35 (by first | exact mr_kind | exact mr_order | exact mr_heaps | exact mr_m | exact mr_line | exact mr_other | exact mr_ways | exact mr_next | exact mr_chances | exact mr_after | exact mr_far | exact mr_groups | exact mr_found | exact mr_counts | exact mr_traySort | exact mr_traySize | exact mr_cells | exact mr_moved | exact mr_traced | assumption) (by assumption) ?_
                rw [(d2 s0 hs0).1]
                refine pb_iconst (v := nI 4) g dX8_draw_36 (by decide) ?_
                first | refine pb_icmp_neN g 53 dX8_draw_37 (by decide) (by omega) (by omega) (fun c37 => ?_) (fun c37 => ?_) | refine pb_icmp_ne g 53 dX8_draw_37 (by decide) (fun c37 => ?_) (fun c37 => ?_)
                · refine pb_lconst (v := lN 1) g dX8_draw_53 rfl ?_
                  refine pb_lstore5 g dX8_draw_54 (by decide) ?_
                  refine pb_iconst (v := nI 0) g dX8_draw_56 (by decide) ?_
                  refine pb_istore7 g dX8_draw_57 (by decide) ?_
                  have z9 := loop 0 (Nat.zero_le _)
                  rw [Nat.pow_zero] at z9
                  exact z9
                · exact absurd c37 hk4
              · exact absurd c21 (by decide)
