/-! ===== the reference: sorts ===== -/
set_option maxHeartbeats 4000000 in
set_option maxRecDepth 100000 in
theorem m_sorts (k : Nat) {xn xP xS xsd xbo : Int32} {xod xkn xhs xmm xln xot xfa xgr xtsr xtsz xce xmv xtc : Nat → Int32} {xwy xnx xch xaf xfo xco : Nat → Int64} {A : Nat} (F : Nat → Nat) (hA1 : 1 ≤ A) (hA : A ≤ 4200) (hF : ∀ i, i < A → xfo i = lN (F i) ∧ F i < 2 ^ 63) : Runs yX8_sorts cX8_sorts 6 none (k) [.ref 0, .int (nI A)] (mkH 20 (mdF xn xP xS xsd xod xkn xhs xmm xln xot xwy xnx xch xaf xfa xgr xfo xco xtsr xtsz xce xmv xtc xbo)) (fun oo h' => oo = none ∧ ∃ (f9 : Nat → Int64) (π : Nat → Nat), mkH 20 (mdF xn xP xS xsd xod xkn xhs xmm xln xot xwy xnx xch xaf xfa xgr (f9) xco xtsr xtsz xce xmv xtc xbo) = h' ∧ IsPm A π ∧ (∀ i, i < A → f9 i = lN (F (π i))) ∧ ∀ i j, i ≤ j → j < A → F (π i) ≤ F (π j)) := by
  refine Runs.of (by decide) (Nat.le_of_ble_eq_true rfl) [some (.ref 0), some (.int (nI A)), none, none, none, none] 4 rfl (fun Γ g z => ?_)
  have loop : ∀ i, i ≤ A → 1 ≤ i → ∀ (f : Nat → Int64) (π : Nat → Nat) (w3 w4 w5 : Option Value), IsPm A π → (∀ j, j < A → f j = lN (F (π j))) → (∀ a b, a ≤ b → b < i → F (π a) ≤ F (π b)) → PB Γ 2 [some (.ref 0), some (.int (nI A)), some (.int (nI i)), w3, w4, w5] [] (mkH 20 (mdF xn xP xS xsd xod xkn xhs xmm xln xot xwy xnx xch xaf xfa xgr (f) xco xtsr xtsz xce xmv xtc xbo)) := by
    refine pb_loop A (fun i hi ih hi1 f π w3 w4 w5 hp hf hso => ?_)
    by_cases hiA : i < A
    · have ih := ih hiA (by omega)
      have hv := (hF _ (hp.1 i hiA)).2
      have inner : ∀ a, a ≤ i → ∀ f : Nat → Int64, (∀ j, j < A → (j < a ∨ i < j) → f j = lN (F (π j))) → (∀ j, a < j → j ≤ i → f j = lN (F (π (j - 1)))) → (∀ j, a ≤ j → j < i → F (π i) < F (π j)) → PB Γ 17 [some (.ref 0), some (.int (nI A)), some (.int (nI i)), some (.long (lN (F (π i)))), none, some (.int (nI a))] [] (mkH 20 (mdF xn xP xS xsd xod xkn xhs xmm xln xot xwy xnx xch xaf xfa xgr (f) xco xtsr xtsz xce xmv xtc xbo)) := by
        refine pb_down (fun a iha hai f h1 h2 h3 => ?_)
        have fin : (a = 0 ∨ F (π (a - 1)) ≤ F (π i)) → PB Γ 58 [some (.ref 0), some (.int (nI A)), some (.int (nI i)), some (.long (lN (F (π i)))), none, some (.int (nI a))] [] (mkH 20 (mdF xn xP xS xsd xod xkn xhs xmm xln xot xwy xnx xch xaf xfa xgr (f) xco xtsr xtsz xce xmv xtc xbo)) := by
          intro hstop
          have hrot := rot_pm (n := A) hai hiA
          have hnew : ∀ j, j < A → vp_updL f a (lN (F (π i))) j = lN (F (π (rotF a i j))) := fun j hj => by
            unfold rotF
            by_cases q1 : j < a
            · rw [if_pos q1, updL_ne (by omega)]
              exact h1 j hj (Or.inl q1)
            · rw [if_neg q1]
              by_cases q2 : j = a
              · rw [if_pos q2, q2, updL_eq]
              · rw [if_neg q2, updL_ne q2]
                by_cases q3 : j ≤ i
                · rw [if_pos q3]
                  exact h2 j (by omega) q3
                · rw [if_neg q3]
                  exact h1 j hj (Or.inr (by omega))
          have hsn : ∀ b c, b ≤ c → c < i + 1 → F (π (rotF a i b)) ≤ F (π (rotF a i c)) := fun b c hbc hc => by
            have hlow : ∀ b, b < a → F (π b) ≤ F (π i) := fun b hb => by
              rcases hstop with q | q
              · omega
              · exact Nat.le_trans (hso b (a - 1) (by omega) (by omega)) q
            unfold rotF
            by_cases q1 : b < a
            · rw [if_pos q1]
              by_cases q2 : c < a
              · rw [if_pos q2]
                exact hso b c hbc (by omega)
              · rw [if_neg q2]
                by_cases q3 : c = a
                · rw [if_pos q3]
                  exact hlow b q1
                · rw [if_neg q3, if_pos (by omega)]
                  exact hso b (c - 1) (by omega) (by omega)
            · rw [if_neg q1, if_neg (show ¬ c < a by omega)]
              by_cases q2 : b = a
              · rw [if_pos q2]
                by_cases q3 : c = a
                · rw [if_pos q3]
                  exact Nat.le_refl _
                · rw [if_neg q3, if_pos (by omega)]
                  exact Nat.le_of_lt (h3 (c - 1) (by omega) (by omega))
              · rw [if_neg q2, if_pos (show b ≤ i by omega), if_neg (show ¬ c = a by omega), if_pos (show c ≤ i by omega)]
                exact hso (b - 1) (c - 1) (by omega) (by omega)
          have ih := ih (vp_updL f a (lN (F (π i)))) (fun j => π (rotF a i j)) (some (.long (lN (F (π i))))) none (some (.int (nI a))) (pm_comp hp hrot) hnew hsn
          refine pb_aload_n0 g dX8_sorts_58 ?_
          refine pb_getf g fX8_51 dX8_sorts_59 mr_o rfl ?_
          refine pb_iload5 g dX8_sorts_62 ?_
          refine pb_lload_n3 g dX8_sorts_64 ?_
          first | refine pb_lastN g dX8_sorts_65 (by first | exact mr_found | exact mr_order | exact mr_kind | exact mr_heaps | exact mr_m | exact mr_line | exact mr_other | exact mr_ways | exact mr_next | exact mr_chances | exact mr_after | exact mr_far | exact mr_groups | exact mr_counts | exact mr_traySort | exact mr_traySize | exact mr_cells | exact mr_moved | exact mr_traced | assumption) (by omega) (by omega) ?_ | refine pb_last g dX8_sorts_65 (by first | exact mr_found | exact mr_order | exact mr_kind | exact mr_heaps | exact mr_m | exact mr_line | exact mr_other | exact mr_ways | exact mr_next | exact mr_chances | exact mr_after | exact mr_far | exact mr_groups | exact mr_counts | exact mr_traySort | exact mr_traySize | exact mr_cells | exact mr_moved | exact mr_traced | assumption) (by assumption) ?_
          first | rw [ms_found]
          first | refine pb_iinc2N g dX8_sorts_66 (by decide) ?_ | refine pb_iinc2 g dX8_sorts_66 (by decide) rfl ?_
          refine pb_goto g 2 dX8_sorts_69 (by decide) ?_
          exact ih
        by_cases ha0 : a = 0
        · have fin := fin (Or.inl ha0)
          refine pb_iload5 g dX8_sorts_17 ?_
          first | refine pb_if_leN g 58 dX8_sorts_19 (by decide) (by omega) (fun c19 => ?_) (fun c19 => ?_) | refine pb_if_le g 58 dX8_sorts_19 (by decide) (fun c19 => ?_) (fun c19 => ?_)
          · exact fin
          · exact absurd c19 (by omega)
        · obtain ⟨b, rfl⟩ : ∃ b, a = b + 1 := ⟨a - 1, by omega⟩
          have hfb := h1 b (by omega) (Or.inl (Nat.lt_succ_self b))
          have hbv := (hF _ (hp.1 b (by omega))).2
          rw [Nat.add_sub_cancel] at fin
          by_cases hle : F (π b) ≤ F (π i)
          · have fin := fin (Or.inr hle)
            refine pb_iload5 g dX8_sorts_17 ?_
            first | refine pb_if_leN g 58 dX8_sorts_19 (by decide) (by omega) (fun c19 => ?_) (fun c19 => ?_) | refine pb_if_le g 58 dX8_sorts_19 (by decide) (fun c19 => ?_) (fun c19 => ?_)
            · exact absurd c19 (by omega)
            · refine pb_aload_n0 g dX8_sorts_22 ?_
              refine pb_getf g fX8_51 dX8_sorts_23 mr_o rfl ?_
              refine pb_iload5 g dX8_sorts_26 ?_
              refine pb_iconst (v := nI 1) g dX8_sorts_28 (by decide) ?_
              first | refine pb_isubN g dX8_sorts_29 (by omega) ?_ | refine pb_isub g dX8_sorts_29 ?_
              rw [Nat.add_sub_cancel]
              first | refine pb_laldN g dX8_sorts_30 (by first | exact mr_found | exact mr_order | exact mr_kind | exact mr_heaps | exact mr_m | exact mr_line | exact mr_other | exact mr_ways | exact mr_next | exact mr_chances | exact mr_after | exact mr_far | exact mr_groups | exact mr_counts | exact mr_traySort | exact mr_traySize | exact mr_cells | exact mr_moved | exact mr_traced | assumption) (by omega) (by omega) ?_ | refine pb_lald g dX8_sorts_30 (by first | exact mr_found | exact mr_order | exact mr_kind | exact mr_heaps | exact mr_m | exact mr_line | exact mr_other | exact mr_ways | exact mr_next | exact mr_chances | exact mr_after | exact mr_far | exact mr_groups | exact mr_counts | exact mr_traySort | exact mr_traySize | exact mr_cells | exact mr_moved | exact mr_traced | assumption) (by assumption) ?_
              rw [hfb]
              refine pb_lload_n3 g dX8_sorts_31 ?_
              first | refine pb_lc_leN g 58 dX8_sorts_32 dX8_sorts_33 (by decide) (by omega) (by omega) (fun c32 => ?_) (fun c32 => ?_) | refine pb_lc_le g 58 dX8_sorts_32 dX8_sorts_33 (by decide) (fun c32 => ?_) (fun c32 => ?_)
              · exact fin
              · exact absurd c32 (by omega)
          · have iha := iha b rfl (by omega) (vp_updL f (b + 1) (lN (F (π b)))) (fun j hj hj2 => by
              rw [updL_ne (by omega)]
              exact h1 j hj (by omega)) (fun j hj hj2 => by
              by_cases q : j = b + 1
              · rw [q, updL_eq, Nat.add_sub_cancel]
              · rw [updL_ne q]
                exact h2 j (by omega) hj2) (fun j hj hj2 => by
              by_cases q : j = b
              · rw [q]
                omega
              · exact h3 j (by omega) hj2)
            refine pb_iload5 g dX8_sorts_17 ?_
            first | refine pb_if_leN g 58 dX8_sorts_19 (by decide) (by omega) (fun c19 => ?_) (fun c19 => ?_) | refine pb_if_le g 58 dX8_sorts_19 (by decide) (fun c19 => ?_) (fun c19 => ?_)
            · exact absurd c19 (by omega)
            · refine pb_aload_n0 g dX8_sorts_22 ?_
              refine pb_getf g fX8_51 dX8_sorts_23 mr_o rfl ?_
              refine pb_iload5 g dX8_sorts_26 ?_
              refine pb_iconst (v := nI 1) g dX8_sorts_28 (by decide) ?_
              first | refine pb_isubN g dX8_sorts_29 (by omega) ?_ | refine pb_isub g dX8_sorts_29 ?_
              rw [Nat.add_sub_cancel]
              first | refine pb_laldN g dX8_sorts_30 (by first | exact mr_found | exact mr_order | exact mr_kind | exact mr_heaps | exact mr_m | exact mr_line | exact mr_other | exact mr_ways | exact mr_next | exact mr_chances | exact mr_after | exact mr_far | exact mr_groups | exact mr_counts | exact mr_traySort | exact mr_traySize | exact mr_cells | exact mr_moved | exact mr_traced | assumption) (by omega) (by omega) ?_ | refine pb_lald g dX8_sorts_30 (by first | exact mr_found | exact mr_order | exact mr_kind | exact mr_heaps | exact mr_m | exact mr_line | exact mr_other | exact mr_ways | exact mr_next | exact mr_chances | exact mr_after | exact mr_far | exact mr_groups | exact mr_counts | exact mr_traySort | exact mr_traySize | exact mr_cells | exact mr_moved | exact mr_traced | assumption) (by assumption) ?_
              rw [hfb]
              refine pb_lload_n3 g dX8_sorts_31 ?_
              first | refine pb_lc_leN g 58 dX8_sorts_32 dX8_sorts_33 (by decide) (by omega) (by omega) (fun c32 => ?_) (fun c32 => ?_) | refine pb_lc_le g 58 dX8_sorts_32 dX8_sorts_33 (by decide) (fun c32 => ?_) (fun c32 => ?_)
              · exact absurd c32 (by omega)
              · refine pb_aload_n0 g dX8_sorts_36 ?_
                refine pb_getf g fX8_51 dX8_sorts_37 mr_o rfl ?_
                refine pb_iload5 g dX8_sorts_40 ?_
                refine pb_aload_n0 g dX8_sorts_42 ?_
                refine pb_getf g fX8_51 dX8_sorts_43 mr_o rfl ?_
                refine pb_iload5 g dX8_sorts_46 ?_
                refine pb_iconst (v := nI 1) g dX8_sorts_48 (by decide) ?_
                first | refine pb_isubN g dX8_sorts_49 (by omega) ?_ | refine pb_isub g dX8_sorts_49 ?_
                rw [Nat.add_sub_cancel]
                first | refine pb_laldN g dX8_sorts_50 (by first | exact mr_found | exact mr_order | exact mr_kind | exact mr_heaps | exact mr_m | exact mr_line | exact mr_other | exact mr_ways | exact mr_next | exact mr_chances | exact mr_after | exact mr_far | exact mr_groups | exact mr_counts | exact mr_traySort | exact mr_traySize | exact mr_cells | exact mr_moved | exact mr_traced | assumption) (by omega) (by omega) ?_ | refine pb_lald g dX8_sorts_50 (by first | exact mr_found | exact mr_order | exact mr_kind | exact mr_heaps | exact mr_m | exact mr_line | exact mr_other | exact mr_ways | exact mr_next | exact mr_chances | exact mr_after | exact mr_far | exact mr_groups | exact mr_counts | exact mr_traySort | exact mr_traySize | exact mr_cells | exact mr_moved | exact mr_traced | assumption) (by assumption) ?_
                rw [hfb]
                first | refine pb_lastN g dX8_sorts_51 (by first | exact mr_found | exact mr_order | exact mr_kind | exact mr_heaps | exact mr_m | exact mr_line | exact mr_other | exact mr_ways | exact mr_next | exact mr_chances | exact mr_after | exact mr_far | exact mr_groups | exact mr_counts | exact mr_traySort | exact mr_traySize | exact mr_cells | exact mr_moved | exact mr_traced | assumption) (by omega) (by omega) ?_ | refine pb_last g dX8_sorts_51 (by first | exact mr_found | exact mr_order | exact mr_kind | exact mr_heaps | exact mr_m | exact mr_line | exact mr_other | exact mr_ways | exact mr_next | exact mr_chances | exact mr_after | exact mr_far | exact mr_groups | exact mr_counts | exact mr_traySort | exact mr_traySize | exact mr_cells | exact mr_moved | exact mr_traced | assumption) (by assumption) ?_
                first | rw [ms_found]
                refine pb_iinc5 (v := nI b) g dX8_sorts_52 (by decide) (pk_m1 b) ?_
                refine pb_goto g 17 dX8_sorts_55 (by decide) ?_
                exact iha
      refine pb_iload_n2 g dX8_sorts_2 ?_
      refine pb_iload_n1 g dX8_sorts_3 ?_
      first | refine pb_icmp_geN g 72 dX8_sorts_4 (by decide) (by omega) (by omega) (fun c4 => ?_) (fun c4 => ?_) | refine pb_icmp_ge g 72 dX8_sorts_4 (by decide) (fun c4 => ?_) (fun c4 => ?_)
      · exact absurd c4 (by omega)
      · refine pb_aload_n0 g dX8_sorts_7 ?_
        refine pb_getf g fX8_51 dX8_sorts_8 mr_o rfl ?_
        refine pb_iload_n2 g dX8_sorts_11 ?_
        first | refine pb_laldN g dX8_sorts_12 (by first | exact mr_found | exact mr_order | exact mr_kind | exact mr_heaps | exact mr_m | exact mr_line | exact mr_other | exact mr_ways | exact mr_next | exact mr_chances | exact mr_after | exact mr_far | exact mr_groups | exact mr_counts | exact mr_traySort | exact mr_traySize | exact mr_cells | exact mr_moved | exact mr_traced | assumption) (by omega) (by omega) ?_ | refine pb_lald g dX8_sorts_12 (by first | exact mr_found | exact mr_order | exact mr_kind | exact mr_heaps | exact mr_m | exact mr_line | exact mr_other | exact mr_ways | exact mr_next | exact mr_chances | exact mr_after | exact mr_far | exact mr_groups | exact mr_counts | exact mr_traySort | exact mr_traySize | exact mr_cells | exact mr_moved | exact mr_traced | assumption) (by assumption) ?_
        rw [hf i hiA]
        refine pb_lstore_n3 g dX8_sorts_13 (by decide) ?_
        refine pb_iload_n2 g dX8_sorts_14 ?_
        refine pb_istore5 g dX8_sorts_15 (by decide) ?_
        exact inner i (Nat.le_refl i) f (fun j hj _ => hf j hj) (fun j h1 h2 => absurd h1 (by omega)) (fun j h1 h2 => absurd h1 (by omega))
    · obtain rfl : i = A := by omega
      refine pb_iload_n2 g dX8_sorts_2 ?_
      refine pb_iload_n1 g dX8_sorts_3 ?_
      first | refine pb_icmp_geN g 72 dX8_sorts_4 (by decide) (by omega) (by omega) (fun c4 => ?_) (fun c4 => ?_) | refine pb_icmp_ge g 72 dX8_sorts_4 (by decide) (fun c4 => ?_) (fun c4 => ?_)
      · refine pb_vret g z dX8_sorts_72 ?_
        exact ⟨rfl, f, π, rfl, hp, hf, hso⟩
      · exact absurd c4 (by omega)
  refine pb_iconst (v := nI 1) g dX8_sorts_0 (by decide) ?_
  refine pb_istore_n2 g dX8_sorts_1 (by decide) ?_
  exact loop 1 hA1 (Nat.le_refl 1) xfo (fun j => j) _ _ _ ⟨fun j hj => hj, fun i j _ _ h => h⟩ (fun j hj => (hF j hj).1) (fun a b hab hb => by rw [show a = b by omega]; exact Nat.le_refl _)
