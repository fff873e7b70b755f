/-! ===== the reference: lots told and drawn ===== -/
set_option maxHeartbeats 4000000 in
set_option maxRecDepth 100000 in
theorem m_lays (k : Nat) {xP xS xsd xbo : Int32} {xod xkn xhs xmm xln xot xfa xgr xtsr xtsz xce xmv xtc : Nat → Int32} {xwy xnx xch xaf xfo xco : Nat → Int64} {n p s K a L : Nat} (hn : n ≤ 10) (hn1 : 1 ≤ n) (hp : p < 12) (hs : s < 10) (hk : xkn s = nI K) (hK : K < 5) (hh : xhs s = nI a) (ha1 : 1 ≤ a) (ha : a ≤ 10) (hL : L < 2 ^ 63) (h4 : K = 4 → L < n ∧ a = n) (o : Nat → Nat) (hf : ∀ j, j < n → xod (10 * p + j) = nI (o j)) : Runs yX8_lays cX8_lays 11 none (k + 1) [.ref 0, .int (nI s), .int (nI p), .long (lN L)] (mkH 20 (mdF (nI n) xP xS xsd xod xkn xhs xmm xln xot xwy xnx xch xaf xfa xgr xfo xco xtsr xtsz xce xmv xtc xbo)) (fun oo h' => oo = none ∧ ∃ f9 l9 : Nat → Int32, mkH 20 (mdF (nI n) xP xS xsd (cpF xod f9 (10 * p) n) xkn xhs xmm (l9) xot xwy xnx xch xaf xfa xgr xfo xco xtsr xtsz xce xmv xtc xbo) = h' ∧ ∀ j, j < n → f9 j = nI (layO n K (fun i => L / a ^ i % a) o j)) := by
  refine Runs.of (by decide) (Nat.le_of_ble_eq_true rfl) [some (.ref 0), some (.int (nI s)), some (.int (nI p)), some (.long (lN L)), none, none, none, none, none, none, none] 6 rfl (fun Γ g z => ?_)
  have hl : ∀ j, j < n → tkF xln xod (10 * p) n j = nI (o j) := fun j hj => by rw [tk_at _ _ _ n j hj]; exact hf j hj
  by_cases hk4 : K = 4
  · obtain ⟨hLn, han⟩ := h4 hk4
    subst hk4
    have loop : ∀ i, i ≤ L → PB Γ 30 [some (.ref 0), some (.int (nI s)), some (.int (nI p)), some (.long (lN L)), none, some (.int (nI L)), some (.int (tkF xln xod (10 * p) n 0)), some (.int (nI i)), none, none, none] [] (mkH 20 (mdF (nI n) xP xS xsd xod xkn xhs xmm (tmF (tkF xln xod (10 * p) n) i) xot xwy xnx xch xaf xfa xgr xfo xco xtsr xtsz xce xmv xtc xbo)) := by
      refine pb_loop L (fun i hi ih => ?_)
      refine pb_iload7 g dX8_lays_30 ?_
      refine pb_iload5 g dX8_lays_32 ?_
      first | refine pb_icmp_geN g 59 dX8_lays_34 (by decide) (by omega) (by omega) (fun c34 => ?_) (fun c34 => ?_) | refine pb_icmp_ge g 59 dX8_lays_34 (by decide) (fun c34 => ?_) (fun c34 => ?_)
      · refine pb_aload_n0 g dX8_lays_59 ?_
        refine pb_getf g fX8_26 dX8_lays_60 mr_o rfl ?_
        refine pb_iload5 g dX8_lays_63 ?_
        refine pb_iload6 g dX8_lays_65 ?_
        first | refine pb_iastN g dX8_lays_67 (by first | exact mr_line | exact mr_order | exact mr_kind | exact mr_heaps | exact mr_m | exact mr_other | exact mr_ways | exact mr_next | exact mr_chances | exact mr_after | exact mr_far | exact mr_groups | exact mr_found | exact mr_counts | exact mr_traySort | exact mr_traySize | exact mr_cells | exact mr_moved | exact mr_traced | assumption) (by omega) (by omega) ?_ | refine pb_iast g dX8_lays_67 (by first | exact mr_line | exact mr_order | exact mr_kind | exact mr_heaps | exact mr_m | exact mr_other | exact mr_ways | exact mr_next | exact mr_chances | exact mr_after | exact mr_far | exact mr_groups | exact mr_found | exact mr_counts | exact mr_traySort | exact mr_traySize | exact mr_cells | exact mr_moved | exact mr_traced | assumption) (by assumption) ?_
        first | rw [ms_line]
        refine pb_aload_n0 g dX8_lays_68 ?_
        refine pb_iload_n2 g dX8_lays_69 ?_
        refine pb_Vv1 g qX8_138 dX8_lays_70 k (by omega) mr_o (m_puts k (n := n) (p := p) hn hp) (fun h70 e70 => ?_)
        subst e70
        refine pb_vret g z dX8_lays_73 ?_
        obtain rfl : i = L := by omega
        refine ⟨rfl, _, _, rfl, fun j hj => ?_⟩
        show upd (tmF (tkF xln xod (10 * p) n) i) i (tkF xln xod (10 * p) n 0) j = nI (layO n 4 (fun i0 => i / a ^ i0 % a) o j)
        rw [layO, if_pos rfl, tpO]
        show _ = nI (if j < i / a ^ 0 % a then o (j + 1) else if j = i / a ^ 0 % a then o 0 else o j)
        rw [Nat.pow_zero, Nat.div_one, Nat.mod_eq_of_lt (by omega)]
        unfold upd
        rw [tm_at]
        by_cases q : j = i
        · rw [if_pos q, if_neg (by omega), if_pos q]
          exact hl 0 (by omega)
        · rw [if_neg q]
          by_cases w : j < i
          · rw [if_pos w, if_pos w]
            exact hl _ (by omega)
          · rw [if_neg w, if_neg w, if_neg q]
            exact hl j hj
      · refine pb_aload_n0 g dX8_lays_37 ?_
        refine pb_getf g fX8_26 dX8_lays_38 mr_o rfl ?_
        refine pb_iload7 g dX8_lays_41 ?_
        refine pb_aload_n0 g dX8_lays_43 ?_
        refine pb_getf g fX8_26 dX8_lays_44 mr_o rfl ?_
        refine pb_iload7 g dX8_lays_47 ?_
        refine pb_iconst (v := nI 1) g dX8_lays_49 (by decide) ?_
        first | refine pb_iaddN g dX8_lays_50 ?_ | refine pb_iadd g dX8_lays_50 ?_
        first | refine pb_ialdN g dX8_lays_51 (by first | exact mr_line | exact mr_order | exact mr_kind | exact mr_heaps | exact mr_m | exact mr_other | exact mr_ways | exact mr_next | exact mr_chances | exact mr_after | exact mr_far | exact mr_groups | exact mr_found | exact mr_counts | exact mr_traySort | exact mr_traySize | exact mr_cells | exact mr_moved | exact mr_traced | assumption) (by omega) (by omega) ?_ | refine pb_ald0 g dX8_lays_51 (by omega) ?_ | refine pb_ald1 g dX8_lays_51 (by omega) ?_ | refine pb_ald2 g dX8_lays_51 (by omega) ?_ | refine pb_ald3 g dX8_lays_51 (by omega) ?_ | refine pb_iald g dX8_lays_51 (by first | exact mr_line | exact mr_order | exact mr_kind | exact mr_heaps | exact mr_m | exact mr_other | exact mr_ways | exact mr_next | exact mr_chances | exact mr_after | exact mr_far | exact mr_groups | exact mr_found | exact mr_counts | exact mr_traySort | exact mr_traySize | exact mr_cells | exact mr_moved | exact mr_traced | assumption) (by assumption) ?_
        rw [tm_at _ i (i + 1), if_neg (by omega)]
        first | refine pb_iastN g dX8_lays_52 (by first | exact mr_line | exact mr_order | exact mr_kind | exact mr_heaps | exact mr_m | exact mr_other | exact mr_ways | exact mr_next | exact mr_chances | exact mr_after | exact mr_far | exact mr_groups | exact mr_found | exact mr_counts | exact mr_traySort | exact mr_traySize | exact mr_cells | exact mr_moved | exact mr_traced | assumption) (by omega) (by omega) ?_ | refine pb_iast g dX8_lays_52 (by first | exact mr_line | exact mr_order | exact mr_kind | exact mr_heaps | exact mr_m | exact mr_other | exact mr_ways | exact mr_next | exact mr_chances | exact mr_after | exact mr_far | exact mr_groups | exact mr_found | exact mr_counts | exact mr_traySort | exact mr_traySize | exact mr_cells | exact mr_moved | exact mr_traced | assumption) (by assumption) ?_
        first | rw [ms_line]
        first | refine pb_iinc7N g dX8_lays_53 (by decide) ?_ | refine pb_iinc7 g dX8_lays_53 (by decide) rfl ?_
        refine pb_goto g 30 dX8_lays_56 (by decide) ?_
        exact ih c34
    refine pb_aload_n0 g dX8_lays_0 ?_
    refine pb_iload_n2 g dX8_lays_1 ?_
    refine pb_Vv1 g qX8_107 dX8_lays_2 k (by omega) mr_o (m_takes k (n := n) (p := p) hn hp) (fun h2 e2 => ?_)
    subst e2
    refine pb_aload_n0 g dX8_lays_5 ?_
    refine pb_getf g fX8_17 dX8_lays_6 mr_o rfl ?_
    refine pb_iload_n1 g dX8_lays_9 ?_
    first | refine pb_ialdN g dX8_lays_10 (by first | exact mr_kind | exact mr_order | exact mr_heaps | exact mr_m | exact mr_line | exact mr_other | exact mr_ways | exact mr_next | exact mr_chances | exact mr_after | exact mr_far | exact mr_groups | exact mr_found | exact mr_counts | exact mr_traySort | exact mr_traySize | exact mr_cells | exact mr_moved | exact mr_traced | assumption) (by omega) (by omega) ?_ | refine pb_ald0 g dX8_lays_10 (by omega) ?_ | refine pb_ald1 g dX8_lays_10 (by omega) ?_ | refine pb_ald2 g dX8_lays_10 (by omega) ?_ | refine pb_ald3 g dX8_lays_10 (by omega) ?_ | refine pb_iald g dX8_lays_10 (by first | exact mr_kind | exact mr_order | exact mr_heaps | exact mr_m | exact mr_line | exact mr_other | exact mr_ways | exact mr_next | exact mr_chances | exact mr_after | exact mr_far | exact mr_groups | exact mr_found | exact mr_counts | exact mr_traySort | exact mr_traySize | exact mr_cells | exact mr_moved | exact mr_traced | assumption) (by assumption) ?_
    rw [hk]
    refine pb_iconst (v := nI 4) g dX8_lays_11 (by decide) ?_
    first | refine pb_icmp_neN g 74 dX8_lays_12 (by decide) (by omega) (by omega) (fun c12 => ?_) (fun c12 => ?_) | refine pb_icmp_ne g 74 dX8_lays_12 (by decide) (fun c12 => ?_) (fun c12 => ?_)
    · exact absurd rfl c12
    · refine pb_lload_n3 g dX8_lays_15 ?_
      first | refine pb_l2iN g dX8_lays_16 ?_ | refine pb_l2i g dX8_lays_16 ?_
      refine pb_istore5 g dX8_lays_17 (by decide) ?_
      refine pb_aload_n0 g dX8_lays_19 ?_
      refine pb_getf g fX8_26 dX8_lays_20 mr_o rfl ?_
      refine pb_iconst (v := nI 0) g dX8_lays_23 (by decide) ?_
      first | refine pb_ialdN g dX8_lays_24 (by first | exact mr_line | exact mr_kind | exact mr_order | exact mr_heaps | exact mr_m | exact mr_other | exact mr_ways | exact mr_next | exact mr_chances | exact mr_after | exact mr_far | exact mr_groups | exact mr_found | exact mr_counts | exact mr_traySort | exact mr_traySize | exact mr_cells | exact mr_moved | exact mr_traced | assumption) (by omega) (by omega) ?_ | refine pb_ald0 g dX8_lays_24 (by omega) ?_ | refine pb_ald1 g dX8_lays_24 (by omega) ?_ | refine pb_ald2 g dX8_lays_24 (by omega) ?_ | refine pb_ald3 g dX8_lays_24 (by omega) ?_ | refine pb_iald g dX8_lays_24 (by first | exact mr_line | exact mr_kind | exact mr_order | exact mr_heaps | exact mr_m | exact mr_other | exact mr_ways | exact mr_next | exact mr_chances | exact mr_after | exact mr_far | exact mr_groups | exact mr_found | exact mr_counts | exact mr_traySort | exact mr_traySize | exact mr_cells | exact mr_moved | exact mr_traced | assumption) (by assumption) ?_
      refine pb_istore6 g dX8_lays_25 (by decide) ?_
      refine pb_iconst (v := nI 0) g dX8_lays_27 (by decide) ?_
      refine pb_istore7 g dX8_lays_28 (by decide) ?_
      exact loop 0 (Nat.zero_le _)
  · have hdl : ∀ i, L / a ^ i % a < a := fun i => Nat.mod_lt _ (by omega)
    have loop : ∀ i, i ≤ n → ∀ w7 w8 w9 w10 : Option Value, PB Γ 85 [some (.ref 0), some (.int (nI s)), some (.int (nI p)), some (.long (lN L)), none, some (.int (nI a)), some (.int (nI i)), w7, w8, w9, w10] [] (mkH 20 (mdF (nI n) xP xS xsd (cpF xod (fun i => tkF xln xod (10 * p) n (psL (fun i => L / a ^ i % a) (L / a ^ i % a) i n)) (10 * p) i) xkn xhs xmm (tkF xln xod (10 * p) n) xot xwy xnx xch xaf xfa xgr xfo xco xtsr xtsz xce xmv xtc xbo)) := by
      refine pb_loop n (fun i hi ih w7 w8 w9 w10 => ?_)
      by_cases hin : i < n
      · have ih := ih hin
        have hli := hdl i
        have inner : ∀ j, j ≤ n → ∀ w10 : Option Value, PB Γ 110 [some (.ref 0), some (.int (nI s)), some (.int (nI p)), some (.long (lN L)), none, some (.int (nI a)), some (.int (nI i)), some (.int (nI (L / a ^ i % a))), some (.int (nI (psL (fun i => L / a ^ i % a) (L / a ^ i % a) i j))), some (.int (nI j)), w10] [] (mkH 20 (mdF (nI n) xP xS xsd (cpF xod (fun i => tkF xln xod (10 * p) n (psL (fun i => L / a ^ i % a) (L / a ^ i % a) i n)) (10 * p) i) xkn xhs xmm (tkF xln xod (10 * p) n) xot xwy xnx xch xaf xfa xgr xfo xco xtsr xtsz xce xmv xtc xbo)) := by
          refine pb_loop n (fun j hj ihj w10 => ?_)
          by_cases hjn : j < n
          · have ihj := ihj hjn
            have hlj := hdl j
            rw [psL] at ihj
            refine pb_iload9 g dX8_lays_110 ?_
            refine pb_aload_n0 g dX8_lays_112 ?_
            refine pb_getf g fX8_7 dX8_lays_113 mr_o rfl ?_
            first | refine pb_icmp_geN g 159 dX8_lays_116 (by decide) (by omega) (by omega) (fun c116 => ?_) (fun c116 => ?_) | refine pb_icmp_ge g 159 dX8_lays_116 (by decide) (fun c116 => ?_) (fun c116 => ?_)
            · exact absurd c116 (by omega)
            · refine pb_lload_n3 g dX8_lays_119 ?_
              refine pb_iload5 g dX8_lays_120 ?_
              refine pb_iload9 g dX8_lays_122 ?_
              refine pb_Si3 g qX8_141 dX8_lays_124 k (by omega) (m_lot k L a j hL ha1 ha (by omega) _) (fun r124 h124 e124 => ?_)
              obtain ⟨rfl, rfl⟩ := e124
              refine pb_istore10 g dX8_lays_127 (by decide) ?_
              refine pb_iload10 g dX8_lays_129 ?_
              refine pb_iload7 g dX8_lays_131 ?_
              first | refine pb_icmp_ltN g 150 dX8_lays_133 (by decide) (by omega) (by omega) (fun c133 => ?_) (fun c133 => ?_) | refine pb_icmp_lt g 150 dX8_lays_133 (by decide) (fun c133 => ?_) (fun c133 => ?_)
              · first | refine pb_iinc8N g dX8_lays_150 (by decide) ?_ | refine pb_iinc8 g dX8_lays_150 (by decide) rfl ?_
                first | refine pb_iinc9N g dX8_lays_153 (by decide) ?_ | refine pb_iinc9 g dX8_lays_153 (by decide) rfl ?_
                refine pb_goto g 110 dX8_lays_156 (by decide) ?_
                first | (rw [if_pos (by first | exact Or.inl c133 | exact Or.inr ⟨c140, c147⟩)] at ihj; exact ihj _) | (rw [if_neg (by omega)] at ihj; exact ihj _)
              · refine pb_iload10 g dX8_lays_136 ?_
                refine pb_iload7 g dX8_lays_138 ?_
                first | refine pb_icmp_neN g 153 dX8_lays_140 (by decide) (by omega) (by omega) (fun c140 => ?_) (fun c140 => ?_) | refine pb_icmp_ne g 153 dX8_lays_140 (by decide) (fun c140 => ?_) (fun c140 => ?_)
                · first | refine pb_iinc9N g dX8_lays_153 (by decide) ?_ | refine pb_iinc9 g dX8_lays_153 (by decide) rfl ?_
                  refine pb_goto g 110 dX8_lays_156 (by decide) ?_
                  first | (rw [if_pos (by first | exact Or.inl c133 | exact Or.inr ⟨c140, c147⟩)] at ihj; exact ihj _) | (rw [if_neg (by omega)] at ihj; exact ihj _)
                · refine pb_iload9 g dX8_lays_143 ?_
                  refine pb_iload6 g dX8_lays_145 ?_
                  first | refine pb_icmp_geN g 153 dX8_lays_147 (by decide) (by omega) (by omega) (fun c147 => ?_) (fun c147 => ?_) | refine pb_icmp_ge g 153 dX8_lays_147 (by decide) (fun c147 => ?_) (fun c147 => ?_)
                  · first | refine pb_iinc9N g dX8_lays_153 (by decide) ?_ | refine pb_iinc9 g dX8_lays_153 (by decide) rfl ?_
                    refine pb_goto g 110 dX8_lays_156 (by decide) ?_
                    first | (rw [if_pos (by first | exact Or.inl c133 | exact Or.inr ⟨c140, c147⟩)] at ihj; exact ihj _) | (rw [if_neg (by omega)] at ihj; exact ihj _)
                  · first | refine pb_iinc8N g dX8_lays_150 (by decide) ?_ | refine pb_iinc8 g dX8_lays_150 (by decide) rfl ?_
                    first | refine pb_iinc9N g dX8_lays_153 (by decide) ?_ | refine pb_iinc9 g dX8_lays_153 (by decide) rfl ?_
                    refine pb_goto g 110 dX8_lays_156 (by decide) ?_
                    first | (rw [if_pos (by first | exact Or.inl c133 | exact Or.inr ⟨c140, c147⟩)] at ihj; exact ihj _) | (rw [if_neg (by omega)] at ihj; exact ihj _)
          · obtain rfl : j = n := by omega
            have hpl := (psL_at (l := fun i => L / a ^ i % a) hin).2
            try dsimp only at hpl
            refine pb_iload9 g dX8_lays_110 ?_
            refine pb_aload_n0 g dX8_lays_112 ?_
            refine pb_getf g fX8_7 dX8_lays_113 mr_o rfl ?_
            first | refine pb_icmp_geN g 159 dX8_lays_116 (by decide) (by omega) (by omega) (fun c116 => ?_) (fun c116 => ?_) | refine pb_icmp_ge g 159 dX8_lays_116 (by decide) (fun c116 => ?_) (fun c116 => ?_)
            · refine pb_aload_n0 g dX8_lays_159 ?_
              refine pb_getf g fX8_13 dX8_lays_160 mr_o rfl ?_
              refine pb_bipush (v := nI 10) g dX8_lays_163 (by decide) ?_
              refine pb_iload_n2 g dX8_lays_165 ?_
              first | refine pb_imulN g dX8_lays_166 ?_ | refine pb_imul g dX8_lays_166 ?_
              refine pb_iload6 g dX8_lays_167 ?_
              first | refine pb_iaddN g dX8_lays_169 ?_ | refine pb_iadd g dX8_lays_169 ?_
              refine pb_aload_n0 g dX8_lays_170 ?_
              refine pb_getf g fX8_26 dX8_lays_171 mr_o rfl ?_
              refine pb_iload8 g dX8_lays_174 ?_
              first | refine pb_ialdN g dX8_lays_176 (by first | exact mr_line | exact mr_order | exact mr_kind | exact mr_heaps | exact mr_m | exact mr_other | exact mr_ways | exact mr_next | exact mr_chances | exact mr_after | exact mr_far | exact mr_groups | exact mr_found | exact mr_counts | exact mr_traySort | exact mr_traySize | exact mr_cells | exact mr_moved | exact mr_traced | assumption) (by omega) (by omega) ?_ | refine pb_ald0 g dX8_lays_176 (by omega) ?_ | refine pb_ald1 g dX8_lays_176 (by omega) ?_ | refine pb_ald2 g dX8_lays_176 (by omega) ?_ | refine pb_ald3 g dX8_lays_176 (by omega) ?_ | refine pb_iald g dX8_lays_176 (by first | exact mr_line | exact mr_order | exact mr_kind | exact mr_heaps | exact mr_m | exact mr_other | exact mr_ways | exact mr_next | exact mr_chances | exact mr_after | exact mr_far | exact mr_groups | exact mr_found | exact mr_counts | exact mr_traySort | exact mr_traySize | exact mr_cells | exact mr_moved | exact mr_traced | assumption) (by assumption) ?_
              first | refine pb_iastN g dX8_lays_177 (by first | exact mr_line | exact mr_order | exact mr_kind | exact mr_heaps | exact mr_m | exact mr_other | exact mr_ways | exact mr_next | exact mr_chances | exact mr_after | exact mr_far | exact mr_groups | exact mr_found | exact mr_counts | exact mr_traySort | exact mr_traySize | exact mr_cells | exact mr_moved | exact mr_traced | assumption) (by omega) (by omega) ?_ | refine pb_iast g dX8_lays_177 (by first | exact mr_line | exact mr_order | exact mr_kind | exact mr_heaps | exact mr_m | exact mr_other | exact mr_ways | exact mr_next | exact mr_chances | exact mr_after | exact mr_far | exact mr_groups | exact mr_found | exact mr_counts | exact mr_traySort | exact mr_traySize | exact mr_cells | exact mr_moved | exact mr_traced | assumption) (by assumption) ?_
              first | rw [ms_line] | rw [ms_order]
              first | refine pb_iinc6N g dX8_lays_178 (by decide) ?_ | refine pb_iinc6 g dX8_lays_178 (by decide) rfl ?_
              refine pb_goto g 85 dX8_lays_181 (by decide) ?_
              exact ih _ _ _ _
            · exact absurd c116 (by omega)
        refine pb_iload6 g dX8_lays_85 ?_
        refine pb_aload_n0 g dX8_lays_87 ?_
        refine pb_getf g fX8_7 dX8_lays_88 mr_o rfl ?_
        first | refine pb_icmp_geN g 184 dX8_lays_91 (by decide) (by omega) (by omega) (fun c91 => ?_) (fun c91 => ?_) | refine pb_icmp_ge g 184 dX8_lays_91 (by decide) (fun c91 => ?_) (fun c91 => ?_)
        · exact absurd c91 (by omega)
        · refine pb_lload_n3 g dX8_lays_94 ?_
          refine pb_iload5 g dX8_lays_95 ?_
          refine pb_iload6 g dX8_lays_97 ?_
          refine pb_Si3 g qX8_141 dX8_lays_99 k (by omega) (m_lot k L a i hL ha1 ha (by omega) _) (fun r99 h99 e99 => ?_)
          obtain ⟨rfl, rfl⟩ := e99
          refine pb_istore7 g dX8_lays_102 (by decide) ?_
          refine pb_iconst (v := nI 0) g dX8_lays_104 (by decide) ?_
          refine pb_istore8 g dX8_lays_105 (by decide) ?_
          refine pb_iconst (v := nI 0) g dX8_lays_107 (by decide) ?_
          refine pb_istore9 g dX8_lays_108 (by decide) ?_
          exact inner 0 (Nat.zero_le _) _
      · obtain rfl : i = n := by omega
        refine pb_iload6 g dX8_lays_85 ?_
        refine pb_aload_n0 g dX8_lays_87 ?_
        refine pb_getf g fX8_7 dX8_lays_88 mr_o rfl ?_
        first | refine pb_icmp_geN g 184 dX8_lays_91 (by decide) (by omega) (by omega) (fun c91 => ?_) (fun c91 => ?_) | refine pb_icmp_ge g 184 dX8_lays_91 (by decide) (fun c91 => ?_) (fun c91 => ?_)
        · refine pb_vret g z dX8_lays_184 ?_
          refine ⟨rfl, _, _, rfl, fun j hj => ?_⟩
          rw [layO, if_neg hk4]
          exact hl _ (psL_at (l := fun i => L / a ^ i % a) hj).2
        · exact absurd c91 (by omega)
    refine pb_aload_n0 g dX8_lays_0 ?_
    refine pb_iload_n2 g dX8_lays_1 ?_
    refine pb_Vv1 g qX8_107 dX8_lays_2 k (by omega) mr_o (m_takes k (n := n) (p := p) hn hp) (fun h2 e2 => ?_)
    subst e2
    refine pb_aload_n0 g dX8_lays_5 ?_
    refine pb_getf g fX8_17 dX8_lays_6 mr_o rfl ?_
    refine pb_iload_n1 g dX8_lays_9 ?_
    first | refine pb_ialdN g dX8_lays_10 (by first | exact mr_kind | exact mr_order | exact mr_heaps | exact mr_m | exact mr_line | exact mr_other | exact mr_ways | exact mr_next | exact mr_chances | exact mr_after | exact mr_far | exact mr_groups | exact mr_found | exact mr_counts | exact mr_traySort | exact mr_traySize | exact mr_cells | exact mr_moved | exact mr_traced | assumption) (by omega) (by omega) ?_ | refine pb_ald0 g dX8_lays_10 (by omega) ?_ | refine pb_ald1 g dX8_lays_10 (by omega) ?_ | refine pb_ald2 g dX8_lays_10 (by omega) ?_ | refine pb_ald3 g dX8_lays_10 (by omega) ?_ | refine pb_iald g dX8_lays_10 (by first | exact mr_kind | exact mr_order | exact mr_heaps | exact mr_m | exact mr_line | exact mr_other | exact mr_ways | exact mr_next | exact mr_chances | exact mr_after | exact mr_far | exact mr_groups | exact mr_found | exact mr_counts | exact mr_traySort | exact mr_traySize | exact mr_cells | exact mr_moved | exact mr_traced | assumption) (by assumption) ?_
    rw [hk]
    refine pb_iconst (v := nI 4) g dX8_lays_11 (by decide) ?_
    first | refine pb_icmp_neN g 74 dX8_lays_12 (by decide) (by omega) (by omega) (fun c12 => ?_) (fun c12 => ?_) | refine pb_icmp_ne g 74 dX8_lays_12 (by decide) (fun c12 => ?_) (fun c12 => ?_)
    · refine pb_aload_n0 g dX8_lays_74 ?_
      refine pb_getf g fX8_20 dX8_lays_75 mr_o rfl ?_
      refine pb_iload_n1 g dX8_lays_78 ?_
      first | refine pb_ialdN g dX8_lays_79 (by first | exact mr_heaps | exact mr_kind | exact mr_order | exact mr_m | exact mr_line | exact mr_other | exact mr_ways | exact mr_next | exact mr_chances | exact mr_after | exact mr_far | exact mr_groups | exact mr_found | exact mr_counts | exact mr_traySort | exact mr_traySize | exact mr_cells | exact mr_moved | exact mr_traced | assumption) (by omega) (by omega) ?_ | refine pb_ald0 g dX8_lays_79 (by omega) ?_ | refine pb_ald1 g dX8_lays_79 (by omega) ?_ | refine pb_ald2 g dX8_lays_79 (by omega) ?_ | refine pb_ald3 g dX8_lays_79 (by omega) ?_ | refine pb_iald g dX8_lays_79 (by first | exact mr_heaps | exact mr_kind | exact mr_order | exact mr_m | exact mr_line | exact mr_other | exact mr_ways | exact mr_next | exact mr_chances | exact mr_after | exact mr_far | exact mr_groups | exact mr_found | exact mr_counts | exact mr_traySort | exact mr_traySize | exact mr_cells | exact mr_moved | exact mr_traced | assumption) (by assumption) ?_
      rw [hh]
      refine pb_istore5 g dX8_lays_80 (by decide) ?_
      refine pb_iconst (v := nI 0) g dX8_lays_82 (by decide) ?_
      refine pb_istore6 g dX8_lays_83 (by decide) ?_
      exact loop 0 (Nat.zero_le _) _ _ _ _
    · exact absurd c12 (by omega)
