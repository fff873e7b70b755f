/-! ===== the reference: chances of TOPS, chance, far ===== -/
set_option maxHeartbeats 4000000 in
set_option maxRecDepth 100000 in
theorem m_tops (k : Nat) {xP xS xsd xbo : Int32} {xod xkn xhs xmm xln xot xfa xgr xtsr xtsz xce xmv xtc : Nat → Int32} {xwy xnx xch xaf xfo xco : Nat → Int64} {n k0 : Nat} (hn : n ≤ 6) (hn1 : 1 ≤ n) (hk0 : k0 ≤ 6) : Runs yX8_tops cX8_tops 7 none (k + 2) [.ref 0, .int (nI k0)] (mkH 20 (mdF (nI n) xP xS xsd xod xkn xhs xmm xln xot xwy xnx xch xaf xfa xgr xfo xco xtsr xtsz xce xmv xtc xbo)) (fun oo h' => oo = none ∧ ∃ fc fa : Nat → Int64, ∃ fl : Nat → Int32, mkH 20 (mdF (nI n) xP xS xsd xod xkn xhs xmm (fl) xot xwy xnx (fc) (fa) xfa xgr xfo xco xtsr xtsz xce xmv xtc xbo) = h' ∧ ∀ r, r < fac n → fc r = lN (gF n k0 r)) := by
  refine Runs.of (by decide) (Nat.le_of_ble_eq_true rfl) [some (.ref 0), some (.int (nI k0)), none, none, none, none, none] 5 rfl (fun Γ g z => ?_)
  have hf7 := fac6 n (by omega)
  have hg := fun t r => fun (ht : t < 7) => gF_lt (n := n) (k := t) (r := r) (by omega) hn1 ht
  have loop : ∀ t, t ≤ k0 → ∀ (fc fa : Nat → Int64) (fl : Nat → Int32) (w4 w5 w6 : Option Value), (∀ r, r < fac n → fc r = lN (gF n t r)) → PB Γ 38 [some (.ref 0), some (.int (nI k0)), some (.int (nI (fac n))), some (.int (nI t)), w4, w5, w6] [] (mkH 20 (mdF (nI n) xP xS xsd xod xkn xhs xmm (fl) xot xwy xnx (fc) (fa) xfa xgr xfo xco xtsr xtsz xce xmv xtc xbo)) := by
    refine pb_loop k0 (fun t ht ih fc fa fl w4 w5 w6 hfc => ?_)
    by_cases htk : t < k0
    · have ih := ih htk
      have copy : ∀ (fa : Nat → Int64) (fl : Nat → Int32) (w5 w6 : Option Value), (∀ r, r < fac n → fa r = lN (gF n (t + 1) r)) → ∀ i, i ≤ fac n → ∀ fc : Nat → Int64, (∀ a, a < i → fc a = lN (gF n (t + 1) a)) → PB Γ 183 [some (.ref 0), some (.int (nI k0)), some (.int (nI (fac n))), some (.int (nI t)), some (.int (nI i)), w5, w6] [] (mkH 20 (mdF (nI n) xP xS xsd xod xkn xhs xmm (fl) xot xwy xnx (fc) (fa) xfa xgr xfo xco xtsr xtsz xce xmv xtc xbo)) := by
        intro fa fl w5 w6 hfa
        refine pb_loop (fac n) (fun i hi ihc fc hfc2 => ?_)
        by_cases hia : i < fac n
        · have ihc := ihc hia
          refine pb_iload4 g dX8_tops_183 ?_
          refine pb_iload_n2 g dX8_tops_185 ?_
          first | refine pb_icmp_geN g 209 dX8_tops_186 (by decide) (by omega) (by omega) (fun c186 => ?_) (fun c186 => ?_) | refine pb_icmp_ge g 209 dX8_tops_186 (by decide) (fun c186 => ?_) (fun c186 => ?_)
          · exact absurd c186 (by omega)
          · refine pb_aload_n0 g dX8_tops_189 ?_
            refine pb_getf g fX8_39 dX8_tops_190 mr_o rfl ?_
            refine pb_iload4 g dX8_tops_193 ?_
            refine pb_aload_n0 g dX8_tops_195 ?_
            refine pb_getf g fX8_42 dX8_tops_196 mr_o rfl ?_
            refine pb_iload4 g dX8_tops_199 ?_
            first | refine pb_laldN g dX8_tops_201 (by first | exact mr_after | exact mr_chances | exact mr_order | exact mr_kind | exact mr_heaps | exact mr_m | exact mr_line | exact mr_other | exact mr_ways | exact mr_next | exact mr_far | exact mr_groups | exact mr_found | exact mr_counts | exact mr_traySort | exact mr_traySize | exact mr_cells | exact mr_moved | exact mr_traced | assumption) (by omega) (by omega) ?_ | refine pb_lald g dX8_tops_201 (by first | exact mr_after | exact mr_chances | exact mr_order | exact mr_kind | exact mr_heaps | exact mr_m | exact mr_line | exact mr_other | exact mr_ways | exact mr_next | exact mr_far | exact mr_groups | exact mr_found | exact mr_counts | exact mr_traySort | exact mr_traySize | exact mr_cells | exact mr_moved | exact mr_traced | assumption) (by assumption) ?_
            first | refine pb_lastN g dX8_tops_202 (by first | exact mr_after | exact mr_chances | exact mr_order | exact mr_kind | exact mr_heaps | exact mr_m | exact mr_line | exact mr_other | exact mr_ways | exact mr_next | exact mr_far | exact mr_groups | exact mr_found | exact mr_counts | exact mr_traySort | exact mr_traySize | exact mr_cells | exact mr_moved | exact mr_traced | assumption) (by omega) (by omega) ?_ | refine pb_last g dX8_tops_202 (by first | exact mr_after | exact mr_chances | exact mr_order | exact mr_kind | exact mr_heaps | exact mr_m | exact mr_line | exact mr_other | exact mr_ways | exact mr_next | exact mr_far | exact mr_groups | exact mr_found | exact mr_counts | exact mr_traySort | exact mr_traySize | exact mr_cells | exact mr_moved | exact mr_traced | assumption) (by assumption) ?_
            first | rw [ms_after] | rw [ms_chances]
            first | refine pb_iinc4N g dX8_tops_203 (by decide) ?_ | refine pb_iinc4 g dX8_tops_203 (by decide) rfl ?_
            refine pb_goto g 183 dX8_tops_206 (by decide) ?_
            exact ihc _ (upL_ext (v := fun a => lN (gF n (t + 1) a)) hfc2 (hfa i hia))
        · have hie : i = fac n := by omega
          rw [hie] at hfc2
          refine pb_iload4 g dX8_tops_183 ?_
          refine pb_iload_n2 g dX8_tops_185 ?_
          first | refine pb_icmp_geN g 209 dX8_tops_186 (by decide) (by omega) (by omega) (fun c186 => ?_) (fun c186 => ?_) | refine pb_icmp_ge g 209 dX8_tops_186 (by decide) (fun c186 => ?_) (fun c186 => ?_)
          · first | refine pb_iinc3N g dX8_tops_209 (by decide) ?_ | refine pb_iinc3 g dX8_tops_209 (by decide) rfl ?_
            refine pb_goto g 38 dX8_tops_212 (by decide) ?_
            exact ih _ _ _ _ _ _ hfc2
          · exact absurd c186 (by omega)
      have rows : ∀ i, i ≤ fac n → ∀ (fa : Nat → Int64) (fl : Nat → Int32) (w5 w6 : Option Value), (∀ r, r < fac n → fa r = lN (smF (fun a => gF n t a * hsN n a r n) i)) → PB Γ 69 [some (.ref 0), some (.int (nI k0)), some (.int (nI (fac n))), some (.int (nI t)), some (.int (nI i)), w5, w6] [] (mkH 20 (mdF (nI n) xP xS xsd xod xkn xhs xmm (fl) xot xwy xnx (fc) (fa) xfa xgr xfo xco xtsr xtsz xce xmv xtc xbo)) := by
        refine pb_loop (fac n) (fun i hi ihr fa fl w5 w6 hfa => ?_)
        by_cases hia : i < fac n
        · have ihr := ihr hia
          have hch := hfc i hia
          have hgi := hg t i (by omega)
          have hpm := sb_pm n i hia
          by_cases h0 : gF n t i = 0
          · have hfa2 : ∀ r, r < fac n → fa r = lN (smF (fun a => gF n t a * hsN n a r n) (i + 1)) := fun r hr => by
              rw [hfa r hr]
              show lN (smF (fun a => gF n t a * hsN n a r n) i) = lN (smF (fun a => gF n t a * hsN n a r n) i + gF n t i * hsN n i r n)
              rw [h0, Nat.zero_mul]
              rfl
            refine pb_iload4 g dX8_tops_69 ?_
            refine pb_iload_n2 g dX8_tops_71 ?_
            first | refine pb_icmp_geN g 180 dX8_tops_72 (by decide) (by omega) (by omega) (fun c72 => ?_) (fun c72 => ?_) | refine pb_icmp_ge g 180 dX8_tops_72 (by decide) (fun c72 => ?_) (fun c72 => ?_)
            · exact absurd c72 (by omega)
            · refine pb_aload_n0 g dX8_tops_75 ?_
              refine pb_getf g fX8_39 dX8_tops_76 mr_o rfl ?_
              refine pb_iload4 g dX8_tops_79 ?_
              first | refine pb_laldN g dX8_tops_81 (by first | exact mr_chances | exact mr_order | exact mr_kind | exact mr_heaps | exact mr_m | exact mr_line | exact mr_other | exact mr_ways | exact mr_next | exact mr_after | exact mr_far | exact mr_groups | exact mr_found | exact mr_counts | exact mr_traySort | exact mr_traySize | exact mr_cells | exact mr_moved | exact mr_traced | assumption) (by omega) (by omega) ?_ | refine pb_lald g dX8_tops_81 (by first | exact mr_chances | exact mr_order | exact mr_kind | exact mr_heaps | exact mr_m | exact mr_line | exact mr_other | exact mr_ways | exact mr_next | exact mr_after | exact mr_far | exact mr_groups | exact mr_found | exact mr_counts | exact mr_traySort | exact mr_traySize | exact mr_cells | exact mr_moved | exact mr_traced | assumption) (by assumption) ?_
              rw [hch]
              refine pb_lconst (v := lN 0) g dX8_tops_82 rfl ?_
              first | refine pb_lc_neN g 90 dX8_tops_83 dX8_tops_84 (by decide) (by omega) (by omega) (fun c83 => ?_) (fun c83 => ?_) | refine pb_lc_ne g 90 dX8_tops_83 dX8_tops_84 (by decide) (fun c83 => ?_) (fun c83 => ?_)
              · exact absurd h0 c83
              · refine pb_goto g 174 dX8_tops_87 (by decide) ?_
                first | refine pb_iinc4N g dX8_tops_174 (by decide) ?_ | refine pb_iinc4 g dX8_tops_174 (by decide) rfl ?_
                refine pb_goto g 69 dX8_tops_177 (by decide) ?_
                exact ihr _ _ _ _ hfa2
          · have cols : ∀ j, j ≤ n → ∀ (fa : Nat → Int64) (fl : Nat → Int32) (w6 : Option Value), (∀ r, r < fac n → fa r = lN (smF (fun a => gF n t a * hsN n a r n) i + gF n t i * hsN n i r j)) → (∀ a, a < n → fl a = nI (tpO (j - 1) (sbC n i) a)) → PB Γ 99 [some (.ref 0), some (.int (nI k0)), some (.int (nI (fac n))), some (.int (nI t)), some (.int (nI i)), some (.int (nI j)), w6] [] (mkH 20 (mdF (nI n) xP xS xsd xod xkn xhs xmm (fl) xot xwy xnx (fc) (fa) xfa xgr xfo xco xtsr xtsz xce xmv xtc xbo)) := by
              refine pb_loop n (fun j hj ihj fa fl w6 hfa hfl => ?_)
              by_cases hjn : j < n
              · have ihj := ihj hjn
                have hrk := rkT_lt n i j
                have htp := tp_pm hpm hjn
                have hnew : ∀ r, r < fac n → vp_updL fa (rkT n i j) (lN (smF (fun a => gF n t a * hsN n a (rkT n i j) n) i + gF n t i * hsN n i (rkT n i j) j + gF n t i)) r = lN (smF (fun a => gF n t a * hsN n a r n) i + gF n t i * hsN n i r (j + 1)) := fun r hr => by
                  by_cases q : r = rkT n i j
                  · subst q
                    rw [updL_eq, hsN, if_pos rfl, Nat.mul_add, Nat.mul_one, Nat.add_assoc]
                  · rw [updL_ne q, hfa r hr, hsN, if_neg (fun z => q z.symm), Nat.add_zero]
                by_cases hj0 : j = 0
                · subst hj0
                  have hfl2 : ∀ a, a < n → fl a = nI (tpO 0 (sbC n i) a) := hfl
                  refine pb_iload5 g dX8_tops_99 ?_
                  refine pb_aload_n0 g dX8_tops_101 ?_
                  refine pb_getf g fX8_7 dX8_tops_102 mr_o rfl ?_
                  first | refine pb_icmp_geN g 174 dX8_tops_105 (by decide) (by omega) (by omega) (fun c105 => ?_) (fun c105 => ?_) | refine pb_icmp_ge g 174 dX8_tops_105 (by decide) (fun c105 => ?_) (fun c105 => ?_)
                  · exact absurd c105 (by omega)
                  · refine pb_iload5 g dX8_tops_108 ?_
                    first | refine pb_if_leN g 149 dX8_tops_110 (by decide) (by omega) (fun c110 => ?_) (fun c110 => ?_) | refine pb_if_le g 149 dX8_tops_110 (by decide) (fun c110 => ?_) (fun c110 => ?_)
                    · refine pb_aload_n0 g dX8_tops_149 ?_
                      refine pb_getf g fX8_42 dX8_tops_150 mr_o rfl ?_
                      refine pb_aload_n0 g dX8_tops_153 ?_
                      refine pb_Vi0 g qX8_110 dX8_tops_154 (k + 1) (by omega) mr_o (m_rank k (n := n) (by omega) (tpO 0 (sbC n i)) hfl2 (fun a ha => Nat.lt_of_lt_of_le (htp.1 a ha) (by omega))) (fun r154 h154 e154 => ?_)
                      obtain ⟨rfl, rfl⟩ := e154
                      change PB Γ _ _ (.int (nI (rkT n i 0)) :: _) _
                      refine pb_dup2 g dX8_tops_157 rfl rfl ?_
                      first | refine pb_laldN g dX8_tops_158 (by first | exact mr_after | exact mr_order | exact mr_kind | exact mr_heaps | exact mr_m | exact mr_line | exact mr_other | exact mr_ways | exact mr_next | exact mr_chances | exact mr_far | exact mr_groups | exact mr_found | exact mr_counts | exact mr_traySort | exact mr_traySize | exact mr_cells | exact mr_moved | exact mr_traced | assumption) (by omega) (by omega) ?_ | refine pb_lald g dX8_tops_158 (by first | exact mr_after | exact mr_order | exact mr_kind | exact mr_heaps | exact mr_m | exact mr_line | exact mr_other | exact mr_ways | exact mr_next | exact mr_chances | exact mr_far | exact mr_groups | exact mr_found | exact mr_counts | exact mr_traySort | exact mr_traySize | exact mr_cells | exact mr_moved | exact mr_traced | assumption) (by assumption) ?_
                      refine pb_aload_n0 g dX8_tops_159 ?_
                      refine pb_getf g fX8_39 dX8_tops_160 mr_o rfl ?_
                      refine pb_iload4 g dX8_tops_163 ?_
                      first | refine pb_laldN g dX8_tops_165 (by first | exact mr_chances | exact mr_after | exact mr_order | exact mr_kind | exact mr_heaps | exact mr_m | exact mr_line | exact mr_other | exact mr_ways | exact mr_next | exact mr_far | exact mr_groups | exact mr_found | exact mr_counts | exact mr_traySort | exact mr_traySize | exact mr_cells | exact mr_moved | exact mr_traced | assumption) (by omega) (by omega) ?_ | refine pb_lald g dX8_tops_165 (by first | exact mr_chances | exact mr_after | exact mr_order | exact mr_kind | exact mr_heaps | exact mr_m | exact mr_line | exact mr_other | exact mr_ways | exact mr_next | exact mr_far | exact mr_groups | exact mr_found | exact mr_counts | exact mr_traySort | exact mr_traySize | exact mr_cells | exact mr_moved | exact mr_traced | assumption) (by assumption) ?_
                      rw [hfa _ hrk, hch]
                      first | refine pb_laddN g dX8_tops_166 ?_ | refine pb_ladd g dX8_tops_166 ?_
                      first | refine pb_lastN g dX8_tops_167 (by first | exact mr_chances | exact mr_after | exact mr_order | exact mr_kind | exact mr_heaps | exact mr_m | exact mr_line | exact mr_other | exact mr_ways | exact mr_next | exact mr_far | exact mr_groups | exact mr_found | exact mr_counts | exact mr_traySort | exact mr_traySize | exact mr_cells | exact mr_moved | exact mr_traced | assumption) (by omega) (by omega) ?_ | refine pb_last g dX8_tops_167 (by first | exact mr_chances | exact mr_after | exact mr_order | exact mr_kind | exact mr_heaps | exact mr_m | exact mr_line | exact mr_other | exact mr_ways | exact mr_next | exact mr_far | exact mr_groups | exact mr_found | exact mr_counts | exact mr_traySort | exact mr_traySize | exact mr_cells | exact mr_moved | exact mr_traced | assumption) (by assumption) ?_
                      first | rw [ms_chances] | rw [ms_after]
                      first | refine pb_iinc5N g dX8_tops_168 (by decide) ?_ | refine pb_iinc5 g dX8_tops_168 (by decide) rfl ?_
                      refine pb_goto g 99 dX8_tops_171 (by decide) ?_
                      exact ihj _ _ _ hnew (by rw [Nat.add_sub_cancel]; exact hfl2)
                    · exact absurd c110 (by omega)
                · have hfl2 : ∀ a, a < n → upd (upd fl j (fl (j - 1))) (j - 1) (fl j) a = nI (tpO j (sbC n i) a) := fun a ha => by
                    unfold upd
                    by_cases q1 : a = j - 1
                    · rw [if_pos q1, hfl j hjn]
                      congr 1
                      show (if j < j - 1 then _ else if j = j - 1 then _ else sbC n i j) = (if a < j then sbC n i (a + 1) else _)
                      rw [if_neg (by omega), if_neg (by omega), if_pos (by omega), q1, show j - 1 + 1 = j by omega]
                    · rw [if_neg q1]
                      by_cases q2 : a = j
                      · rw [if_pos q2, hfl (j - 1) (by omega)]
                        congr 1
                        show (if j - 1 < j - 1 then _ else if j - 1 = j - 1 then sbC n i 0 else _) = (if a < j then _ else if a = j then sbC n i 0 else _)
                        rw [if_neg (Nat.lt_irrefl _), if_pos rfl, if_neg (by omega), if_pos q2]
                      · rw [if_neg q2, hfl a ha]
                        congr 1
                        show (if a < j - 1 then sbC n i (a + 1) else if a = j - 1 then sbC n i 0 else sbC n i a) = (if a < j then sbC n i (a + 1) else if a = j then sbC n i 0 else sbC n i a)
                        by_cases q3 : a < j
                        · rw [if_pos (by omega), if_pos q3]
                        · rw [if_neg (by omega), if_neg q1, if_neg q3, if_neg q2]
                  refine pb_iload5 g dX8_tops_99 ?_
                  refine pb_aload_n0 g dX8_tops_101 ?_
                  refine pb_getf g fX8_7 dX8_tops_102 mr_o rfl ?_
                  first | refine pb_icmp_geN g 174 dX8_tops_105 (by decide) (by omega) (by omega) (fun c105 => ?_) (fun c105 => ?_) | refine pb_icmp_ge g 174 dX8_tops_105 (by decide) (fun c105 => ?_) (fun c105 => ?_)
                  · exact absurd c105 (by omega)
                  · refine pb_iload5 g dX8_tops_108 ?_
                    first | refine pb_if_leN g 149 dX8_tops_110 (by decide) (by omega) (fun c110 => ?_) (fun c110 => ?_) | refine pb_if_le g 149 dX8_tops_110 (by decide) (fun c110 => ?_) (fun c110 => ?_)
                    · exact absurd c110 hj0
                    · refine pb_aload_n0 g dX8_tops_113 ?_
                      refine pb_getf g fX8_26 dX8_tops_114 mr_o rfl ?_
                      refine pb_iload5 g dX8_tops_117 ?_
                      first | refine pb_ialdN g dX8_tops_119 (by first | exact mr_line | exact mr_order | exact mr_kind | exact mr_heaps | exact mr_m | exact mr_other | exact mr_ways | exact mr_next | exact mr_chances | exact mr_after | exact mr_far | exact mr_groups | exact mr_found | exact mr_counts | exact mr_traySort | exact mr_traySize | exact mr_cells | exact mr_moved | exact mr_traced | assumption) (by omega) (by omega) ?_ | refine pb_ald0 g dX8_tops_119 (by omega) ?_ | refine pb_ald1 g dX8_tops_119 (by omega) ?_ | refine pb_ald2 g dX8_tops_119 (by omega) ?_ | refine pb_ald3 g dX8_tops_119 (by omega) ?_ | refine pb_iald g dX8_tops_119 (by first | exact mr_line | exact mr_order | exact mr_kind | exact mr_heaps | exact mr_m | exact mr_other | exact mr_ways | exact mr_next | exact mr_chances | exact mr_after | exact mr_far | exact mr_groups | exact mr_found | exact mr_counts | exact mr_traySort | exact mr_traySize | exact mr_cells | exact mr_moved | exact mr_traced | assumption) (by assumption) ?_
                      refine pb_istore6 g dX8_tops_120 (by decide) ?_
                      refine pb_aload_n0 g dX8_tops_122 ?_
                      refine pb_getf g fX8_26 dX8_tops_123 mr_o rfl ?_
                      refine pb_iload5 g dX8_tops_126 ?_
                      refine pb_aload_n0 g dX8_tops_128 ?_
                      refine pb_getf g fX8_26 dX8_tops_129 mr_o rfl ?_
                      refine pb_iload5 g dX8_tops_132 ?_
                      refine pb_iconst (v := nI 1) g dX8_tops_134 (by decide) ?_
                      first | refine pb_isubN g dX8_tops_135 (by omega) ?_ | refine pb_isub g dX8_tops_135 ?_
                      first | refine pb_ialdN g dX8_tops_136 (by first | exact mr_line | exact mr_order | exact mr_kind | exact mr_heaps | exact mr_m | exact mr_other | exact mr_ways | exact mr_next | exact mr_chances | exact mr_after | exact mr_far | exact mr_groups | exact mr_found | exact mr_counts | exact mr_traySort | exact mr_traySize | exact mr_cells | exact mr_moved | exact mr_traced | assumption) (by omega) (by omega) ?_ | refine pb_ald0 g dX8_tops_136 (by omega) ?_ | refine pb_ald1 g dX8_tops_136 (by omega) ?_ | refine pb_ald2 g dX8_tops_136 (by omega) ?_ | refine pb_ald3 g dX8_tops_136 (by omega) ?_ | refine pb_iald g dX8_tops_136 (by first | exact mr_line | exact mr_order | exact mr_kind | exact mr_heaps | exact mr_m | exact mr_other | exact mr_ways | exact mr_next | exact mr_chances | exact mr_after | exact mr_far | exact mr_groups | exact mr_found | exact mr_counts | exact mr_traySort | exact mr_traySize | exact mr_cells | exact mr_moved | exact mr_traced | assumption) (by assumption) ?_
                      first | refine pb_iastN g dX8_tops_137 (by first | exact mr_line | exact mr_order | exact mr_kind | exact mr_heaps | exact mr_m | exact mr_other | exact mr_ways | exact mr_next | exact mr_chances | exact mr_after | exact mr_far | exact mr_groups | exact mr_found | exact mr_counts | exact mr_traySort | exact mr_traySize | exact mr_cells | exact mr_moved | exact mr_traced | assumption) (by omega) (by omega) ?_ | refine pb_iast g dX8_tops_137 (by first | exact mr_line | exact mr_order | exact mr_kind | exact mr_heaps | exact mr_m | exact mr_other | exact mr_ways | exact mr_next | exact mr_chances | exact mr_after | exact mr_far | exact mr_groups | exact mr_found | exact mr_counts | exact mr_traySort | exact mr_traySize | exact mr_cells | exact mr_moved | exact mr_traced | assumption) (by assumption) ?_
                      first | rw [ms_line]
                      refine pb_aload_n0 g dX8_tops_138 ?_
                      refine pb_getf g fX8_26 dX8_tops_139 mr_o rfl ?_
                      refine pb_iload5 g dX8_tops_142 ?_
                      refine pb_iconst (v := nI 1) g dX8_tops_144 (by decide) ?_
                      first | refine pb_isubN g dX8_tops_145 (by omega) ?_ | refine pb_isub g dX8_tops_145 ?_
                      refine pb_iload6 g dX8_tops_146 ?_
                      first | refine pb_iastN g dX8_tops_148 (by first | exact mr_line | exact mr_order | exact mr_kind | exact mr_heaps | exact mr_m | exact mr_other | exact mr_ways | exact mr_next | exact mr_chances | exact mr_after | exact mr_far | exact mr_groups | exact mr_found | exact mr_counts | exact mr_traySort | exact mr_traySize | exact mr_cells | exact mr_moved | exact mr_traced | assumption) (by omega) (by omega) ?_ | refine pb_iast g dX8_tops_148 (by first | exact mr_line | exact mr_order | exact mr_kind | exact mr_heaps | exact mr_m | exact mr_other | exact mr_ways | exact mr_next | exact mr_chances | exact mr_after | exact mr_far | exact mr_groups | exact mr_found | exact mr_counts | exact mr_traySort | exact mr_traySize | exact mr_cells | exact mr_moved | exact mr_traced | assumption) (by assumption) ?_
                      first | rw [ms_line]
                      refine pb_aload_n0 g dX8_tops_149 ?_
                      refine pb_getf g fX8_42 dX8_tops_150 mr_o rfl ?_
                      refine pb_aload_n0 g dX8_tops_153 ?_
                      refine pb_Vi0 g qX8_110 dX8_tops_154 (k + 1) (by omega) mr_o (m_rank k (n := n) (by omega) (tpO j (sbC n i)) hfl2 (fun a ha => Nat.lt_of_lt_of_le (htp.1 a ha) (by omega))) (fun r154 h154 e154 => ?_)
                      obtain ⟨rfl, rfl⟩ := e154
                      change PB Γ _ _ (.int (nI (rkT n i j)) :: _) _
                      refine pb_dup2 g dX8_tops_157 rfl rfl ?_
                      first | refine pb_laldN g dX8_tops_158 (by first | exact mr_after | exact mr_line | exact mr_order | exact mr_kind | exact mr_heaps | exact mr_m | exact mr_other | exact mr_ways | exact mr_next | exact mr_chances | exact mr_far | exact mr_groups | exact mr_found | exact mr_counts | exact mr_traySort | exact mr_traySize | exact mr_cells | exact mr_moved | exact mr_traced | assumption) (by omega) (by omega) ?_ | refine pb_lald g dX8_tops_158 (by first | exact mr_after | exact mr_line | exact mr_order | exact mr_kind | exact mr_heaps | exact mr_m | exact mr_other | exact mr_ways | exact mr_next | exact mr_chances | exact mr_far | exact mr_groups | exact mr_found | exact mr_counts | exact mr_traySort | exact mr_traySize | exact mr_cells | exact mr_moved | exact mr_traced | assumption) (by assumption) ?_
                      refine pb_aload_n0 g dX8_tops_159 ?_
                      refine pb_getf g fX8_39 dX8_tops_160 mr_o rfl ?_
                      refine pb_iload4 g dX8_tops_163 ?_
                      first | refine pb_laldN g dX8_tops_165 (by first | exact mr_chances | exact mr_after | exact mr_line | exact mr_order | exact mr_kind | exact mr_heaps | exact mr_m | exact mr_other | exact mr_ways | exact mr_next | exact mr_far | exact mr_groups | exact mr_found | exact mr_counts | exact mr_traySort | exact mr_traySize | exact mr_cells | exact mr_moved | exact mr_traced | assumption) (by omega) (by omega) ?_ | refine pb_lald g dX8_tops_165 (by first | exact mr_chances | exact mr_after | exact mr_line | exact mr_order | exact mr_kind | exact mr_heaps | exact mr_m | exact mr_other | exact mr_ways | exact mr_next | exact mr_far | exact mr_groups | exact mr_found | exact mr_counts | exact mr_traySort | exact mr_traySize | exact mr_cells | exact mr_moved | exact mr_traced | assumption) (by assumption) ?_
                      rw [hfa _ hrk, hch]
                      first | refine pb_laddN g dX8_tops_166 ?_ | refine pb_ladd g dX8_tops_166 ?_
                      first | refine pb_lastN g dX8_tops_167 (by first | exact mr_chances | exact mr_after | exact mr_line | exact mr_order | exact mr_kind | exact mr_heaps | exact mr_m | exact mr_other | exact mr_ways | exact mr_next | exact mr_far | exact mr_groups | exact mr_found | exact mr_counts | exact mr_traySort | exact mr_traySize | exact mr_cells | exact mr_moved | exact mr_traced | assumption) (by omega) (by omega) ?_ | refine pb_last g dX8_tops_167 (by first | exact mr_chances | exact mr_after | exact mr_line | exact mr_order | exact mr_kind | exact mr_heaps | exact mr_m | exact mr_other | exact mr_ways | exact mr_next | exact mr_far | exact mr_groups | exact mr_found | exact mr_counts | exact mr_traySort | exact mr_traySize | exact mr_cells | exact mr_moved | exact mr_traced | assumption) (by assumption) ?_
                      first | rw [ms_chances] | rw [ms_after] | rw [ms_line]
                      first | refine pb_iinc5N g dX8_tops_168 (by decide) ?_ | refine pb_iinc5 g dX8_tops_168 (by decide) rfl ?_
                      refine pb_goto g 99 dX8_tops_171 (by decide) ?_
                      exact ihj _ _ _ hnew (by rw [Nat.add_sub_cancel]; exact hfl2)
              · obtain rfl : j = n := by omega
                refine pb_iload5 g dX8_tops_99 ?_
                refine pb_aload_n0 g dX8_tops_101 ?_
                refine pb_getf g fX8_7 dX8_tops_102 mr_o rfl ?_
                first | refine pb_icmp_geN g 174 dX8_tops_105 (by decide) (by omega) (by omega) (fun c105 => ?_) (fun c105 => ?_) | refine pb_icmp_ge g 174 dX8_tops_105 (by decide) (fun c105 => ?_) (fun c105 => ?_)
                · first | refine pb_iinc4N g dX8_tops_174 (by decide) ?_ | refine pb_iinc4 g dX8_tops_174 (by decide) rfl ?_
                  refine pb_goto g 69 dX8_tops_177 (by decide) ?_
                  exact ihr _ _ _ _ hfa
                · exact absurd c105 (by omega)
            refine pb_iload4 g dX8_tops_69 ?_
            refine pb_iload_n2 g dX8_tops_71 ?_
            first | refine pb_icmp_geN g 180 dX8_tops_72 (by decide) (by omega) (by omega) (fun c72 => ?_) (fun c72 => ?_) | refine pb_icmp_ge g 180 dX8_tops_72 (by decide) (fun c72 => ?_) (fun c72 => ?_)
            · exact absurd c72 (by omega)
            · refine pb_aload_n0 g dX8_tops_75 ?_
              refine pb_getf g fX8_39 dX8_tops_76 mr_o rfl ?_
              refine pb_iload4 g dX8_tops_79 ?_
              first | refine pb_laldN g dX8_tops_81 (by first | exact mr_chances | exact mr_order | exact mr_kind | exact mr_heaps | exact mr_m | exact mr_line | exact mr_other | exact mr_ways | exact mr_next | exact mr_after | exact mr_far | exact mr_groups | exact mr_found | exact mr_counts | exact mr_traySort | exact mr_traySize | exact mr_cells | exact mr_moved | exact mr_traced | assumption) (by omega) (by omega) ?_ | refine pb_lald g dX8_tops_81 (by first | exact mr_chances | exact mr_order | exact mr_kind | exact mr_heaps | exact mr_m | exact mr_line | exact mr_other | exact mr_ways | exact mr_next | exact mr_after | exact mr_far | exact mr_groups | exact mr_found | exact mr_counts | exact mr_traySort | exact mr_traySize | exact mr_cells | exact mr_moved | exact mr_traced | assumption) (by assumption) ?_
              rw [hch]
              refine pb_lconst (v := lN 0) g dX8_tops_82 rfl ?_
              first | refine pb_lc_neN g 90 dX8_tops_83 dX8_tops_84 (by decide) (by omega) (by omega) (fun c83 => ?_) (fun c83 => ?_) | refine pb_lc_ne g 90 dX8_tops_83 dX8_tops_84 (by decide) (fun c83 => ?_) (fun c83 => ?_)
              · refine pb_aload_n0 g dX8_tops_90 ?_
                refine pb_iload4 g dX8_tops_91 ?_
                refine pb_Vv1 g qX8_90 dX8_tops_93 (k + 1) (by omega) mr_o (m_ofRank k (n := n) (r := i) (by omega) hn1 hia) (fun h93 e93 => ?_)
                subst e93
                refine pb_iconst (v := nI 0) g dX8_tops_96 (by decide) ?_
                refine pb_istore5 g dX8_tops_97 (by decide) ?_
                exact cols 0 (Nat.zero_le _) _ _ _ (fun r hr => by rw [hfa r hr]; rfl) (fun a ha => by
                  rw [sbF_at n i _ n a ha]
                  congr 1
                  show _ = (if a < 0 then _ else if a = 0 then sbC n i 0 else sbC n i a)
                  rw [if_neg (Nat.not_lt_zero a)]
                  by_cases q : a = 0
                  · rw [if_pos q, q]
                  · rw [if_neg q])
              · exact absurd c83 h0
        · have hie : i = fac n := by omega
          rw [hie] at hfa
          have hfa3 := fun r hr => (hfa r hr).trans (by rw [top_step (by omega) hn1 (by omega) hr])
          refine pb_iload4 g dX8_tops_69 ?_
          refine pb_iload_n2 g dX8_tops_71 ?_
          first | refine pb_icmp_geN g 180 dX8_tops_72 (by decide) (by omega) (by omega) (fun c72 => ?_) (fun c72 => ?_) | refine pb_icmp_ge g 180 dX8_tops_72 (by decide) (fun c72 => ?_) (fun c72 => ?_)
          · refine pb_iconst (v := nI 0) g dX8_tops_180 (by decide) ?_
            refine pb_istore4 g dX8_tops_181 (by decide) ?_
            exact copy _ _ _ _ hfa3 0 (Nat.zero_le _) _ (fun a ha => absurd ha (Nat.not_lt_zero a))
          · exact absurd c72 (by omega)
      have zero : ∀ i, i ≤ fac n → ∀ fa : Nat → Int64, (∀ a, a < i → fa a = lN 0) → PB Γ 46 [some (.ref 0), some (.int (nI k0)), some (.int (nI (fac n))), some (.int (nI t)), some (.int (nI i)), w5, w6] [] (mkH 20 (mdF (nI n) xP xS xsd xod xkn xhs xmm (fl) xot xwy xnx (fc) (fa) xfa xgr xfo xco xtsr xtsz xce xmv xtc xbo)) := by
        refine pb_loop (fac n) (fun i hi ihz fa hfa => ?_)
        by_cases hia : i < fac n
        · have ihz := ihz hia
          refine pb_iload4 g dX8_tops_46 ?_
          refine pb_iload_n2 g dX8_tops_48 ?_
          first | refine pb_icmp_geN g 66 dX8_tops_49 (by decide) (by omega) (by omega) (fun c49 => ?_) (fun c49 => ?_) | refine pb_icmp_ge g 66 dX8_tops_49 (by decide) (fun c49 => ?_) (fun c49 => ?_)
          · exact absurd c49 (by omega)
          · refine pb_aload_n0 g dX8_tops_52 ?_
            refine pb_getf g fX8_42 dX8_tops_53 mr_o rfl ?_
            refine pb_iload4 g dX8_tops_56 ?_
            refine pb_lconst (v := lN 0) g dX8_tops_58 rfl ?_
            first | refine pb_lastN g dX8_tops_59 (by first | exact mr_after | exact mr_order | exact mr_kind | exact mr_heaps | exact mr_m | exact mr_line | exact mr_other | exact mr_ways | exact mr_next | exact mr_chances | exact mr_far | exact mr_groups | exact mr_found | exact mr_counts | exact mr_traySort | exact mr_traySize | exact mr_cells | exact mr_moved | exact mr_traced | assumption) (by omega) (by omega) ?_ | refine pb_last g dX8_tops_59 (by first | exact mr_after | exact mr_order | exact mr_kind | exact mr_heaps | exact mr_m | exact mr_line | exact mr_other | exact mr_ways | exact mr_next | exact mr_chances | exact mr_far | exact mr_groups | exact mr_found | exact mr_counts | exact mr_traySort | exact mr_traySize | exact mr_cells | exact mr_moved | exact mr_traced | assumption) (by assumption) ?_
            first | rw [ms_after]
            first | refine pb_iinc4N g dX8_tops_60 (by decide) ?_ | refine pb_iinc4 g dX8_tops_60 (by decide) rfl ?_
            refine pb_goto g 46 dX8_tops_63 (by decide) ?_
            exact ihz _ (upL_ext (v := fun a => lN 0) hfa rfl)
        · have hie : i = fac n := by omega
          rw [hie] at hfa
          refine pb_iload4 g dX8_tops_46 ?_
          refine pb_iload_n2 g dX8_tops_48 ?_
          first | refine pb_icmp_geN g 66 dX8_tops_49 (by decide) (by omega) (by omega) (fun c49 => ?_) (fun c49 => ?_) | refine pb_icmp_ge g 66 dX8_tops_49 (by decide) (fun c49 => ?_) (fun c49 => ?_)
          · refine pb_iconst (v := nI 0) g dX8_tops_66 (by decide) ?_
            refine pb_istore4 g dX8_tops_67 (by decide) ?_
            exact rows 0 (Nat.zero_le _) _ _ _ _ (fun r hr => hfa r hr)
          · exact absurd c49 (by omega)
      refine pb_iload_n3 g dX8_tops_38 ?_
      refine pb_iload_n1 g dX8_tops_39 ?_
      first | refine pb_icmp_geN g 215 dX8_tops_40 (by decide) (by omega) (by omega) (fun c40 => ?_) (fun c40 => ?_) | refine pb_icmp_ge g 215 dX8_tops_40 (by decide) (fun c40 => ?_) (fun c40 => ?_)
      · exact absurd c40 (by omega)
      · refine pb_iconst (v := nI 0) g dX8_tops_43 (by decide) ?_
        refine pb_istore4 g dX8_tops_44 (by decide) ?_
        exact zero 0 (Nat.zero_le _) _ (fun a ha => absurd ha (Nat.not_lt_zero a))
    · obtain rfl : t = k0 := by omega
      refine pb_iload_n3 g dX8_tops_38 ?_
      refine pb_iload_n1 g dX8_tops_39 ?_
      first | refine pb_icmp_geN g 215 dX8_tops_40 (by decide) (by omega) (by omega) (fun c40 => ?_) (fun c40 => ?_) | refine pb_icmp_ge g 215 dX8_tops_40 (by decide) (fun c40 => ?_) (fun c40 => ?_)
      · refine pb_vret g z dX8_tops_215 ?_
        exact ⟨rfl, _, _, _, rfl, hfc⟩
      · exact absurd c40 (by omega)
  have loop0 : ∀ i, i ≤ fac n → ∀ fc : Nat → Int64, (∀ a, a < i → fc a = lN (gF n 0 a)) → PB Γ 10 [some (.ref 0), some (.int (nI k0)), some (.int (nI (fac n))), some (.int (nI i)), none, none, none] [] (mkH 20 (mdF (nI n) xP xS xsd xod xkn xhs xmm xln xot xwy xnx (fc) xaf xfa xgr xfo xco xtsr xtsz xce xmv xtc xbo)) := by
    refine pb_loop (fac n) (fun i hi ih fc hfc => ?_)
    by_cases hia : i < fac n
    · have ih := ih hia
      have h0 := g0_ok n (by omega) i hia
      refine pb_iload_n3 g dX8_tops_10 ?_
      refine pb_iload_n2 g dX8_tops_11 ?_
      first | refine pb_icmp_geN g 36 dX8_tops_12 (by decide) (by omega) (by omega) (fun c12 => ?_) (fun c12 => ?_) | refine pb_icmp_ge g 36 dX8_tops_12 (by decide) (fun c12 => ?_) (fun c12 => ?_)
      · exact absurd c12 (by omega)
      · refine pb_aload_n0 g dX8_tops_15 ?_
        refine pb_getf g fX8_39 dX8_tops_16 mr_o rfl ?_
        refine pb_iload_n3 g dX8_tops_19 ?_
        refine pb_iload_n3 g dX8_tops_20 ?_
        first | refine pb_if_neN g 28 dX8_tops_21 (by decide) (by omega) (fun c21 => ?_) (fun c21 => ?_) | refine pb_if_ne g 28 dX8_tops_21 (by decide) (fun c21 => ?_) (fun c21 => ?_)
        · refine pb_lconst (v := lN 0) g dX8_tops_28 rfl ?_
          first | refine pb_lastN g dX8_tops_29 (by first | exact mr_chances | exact mr_order | exact mr_kind | exact mr_heaps | exact mr_m | exact mr_line | exact mr_other | exact mr_ways | exact mr_next | exact mr_after | exact mr_far | exact mr_groups | exact mr_found | exact mr_counts | exact mr_traySort | exact mr_traySize | exact mr_cells | exact mr_moved | exact mr_traced | assumption) (by omega) (by omega) ?_ | refine pb_last g dX8_tops_29 (by first | exact mr_chances | exact mr_order | exact mr_kind | exact mr_heaps | exact mr_m | exact mr_line | exact mr_other | exact mr_ways | exact mr_next | exact mr_after | exact mr_far | exact mr_groups | exact mr_found | exact mr_counts | exact mr_traySort | exact mr_traySize | exact mr_cells | exact mr_moved | exact mr_traced | assumption) (by assumption) ?_
          first | rw [ms_chances]
          first | refine pb_iinc3N g dX8_tops_30 (by decide) ?_ | refine pb_iinc3 g dX8_tops_30 (by decide) rfl ?_
          refine pb_goto g 10 dX8_tops_33 (by decide) ?_
          exact ih _ (upL_ext (v := fun a => lN (gF n 0 a)) hfc (by rw [h0]; first | rw [if_pos (by omega)] | rw [if_neg (by omega)]))
        · refine pb_lconst (v := lN 1) g dX8_tops_24 rfl ?_
          refine pb_goto g 29 dX8_tops_25 (by decide) ?_
          first | refine pb_lastN g dX8_tops_29 (by first | exact mr_chances | exact mr_order | exact mr_kind | exact mr_heaps | exact mr_m | exact mr_line | exact mr_other | exact mr_ways | exact mr_next | exact mr_after | exact mr_far | exact mr_groups | exact mr_found | exact mr_counts | exact mr_traySort | exact mr_traySize | exact mr_cells | exact mr_moved | exact mr_traced | assumption) (by omega) (by omega) ?_ | refine pb_last g dX8_tops_29 (by first | exact mr_chances | exact mr_order | exact mr_kind | exact mr_heaps | exact mr_m | exact mr_line | exact mr_other | exact mr_ways | exact mr_next | exact mr_after | exact mr_far | exact mr_groups | exact mr_found | exact mr_counts | exact mr_traySort | exact mr_traySize | exact mr_cells | exact mr_moved | exact mr_traced | assumption) (by assumption) ?_
          first | rw [ms_chances]
          first | refine pb_iinc3N g dX8_tops_30 (by decide) ?_ | refine pb_iinc3 g dX8_tops_30 (by decide) rfl ?_
          refine pb_goto g 10 dX8_tops_33 (by decide) ?_
          exact ih _ (upL_ext (v := fun a => lN (gF n 0 a)) hfc (by rw [h0]; first | rw [if_pos (by omega)] | rw [if_neg (by omega)]))
    · have hie : i = fac n := by omega
      rw [hie] at hfc
      refine pb_iload_n3 g dX8_tops_10 ?_
      refine pb_iload_n2 g dX8_tops_11 ?_
      first | refine pb_icmp_geN g 36 dX8_tops_12 (by decide) (by omega) (by omega) (fun c12 => ?_) (fun c12 => ?_) | refine pb_icmp_ge g 36 dX8_tops_12 (by decide) (fun c12 => ?_) (fun c12 => ?_)
      · refine pb_iconst (v := nI 0) g dX8_tops_36 (by decide) ?_
        refine pb_istore_n3 g dX8_tops_37 (by decide) ?_
        exact loop 0 (Nat.zero_le _) _ _ _ _ _ _ hfc
      · exact absurd c12 (by omega)
  refine pb_aload_n0 g dX8_tops_0 ?_
  refine pb_getf g fX8_7 dX8_tops_1 mr_o rfl ?_
  refine pb_Si1 g qX8_82 dX8_tops_4 (k + 1) (by omega) (m_orders (k + 1) n (by omega) _) (fun r4 h4 e4 => ?_)
  obtain ⟨rfl, rfl⟩ := e4
  refine pb_istore_n2 g dX8_tops_7 (by decide) ?_
  refine pb_iconst (v := nI 0) g dX8_tops_8 (by decide) ?_
  refine pb_istore_n3 g dX8_tops_9 (by decide) ?_
  exact loop0 0 (Nat.zero_le _) _ (fun a ha => absurd ha (Nat.not_lt_zero a))
