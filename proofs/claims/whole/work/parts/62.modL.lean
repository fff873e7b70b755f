/-! ===== the reference: shortest ways ===== -/
def ddF (n j i : Nat) : Nat := (shF n i j).log2
def wyF (n j a : Nat) : Nat := if ddF n j (carF n a 0) = ddF n j a - 1 then 0 else 1
def ptF (n j i : Nat) : Nat → Nat
  | 0 => i
  | t + 1 => carF n (ptF n j i t) (wyF n j (ptF n j i t))
theorem dd_a : ∀ m, m < 6 → ∀ j, j < 2 * m → ∀ i, i < 2 * m → ddF (2 * m) j i ≤ 4 ∧ (ddF (2 * m) j i = 0 ↔ i = j) := by decide +kernel
theorem dd_b : ∀ m, m < 6 → ∀ j, j < 2 * m → ∀ i, i < 2 * m → ∀ t, t < 5 → ((t < ddF (2 * m) j i ∧ (ddF (2 * m) j (carF (2 * m) i 0) = t ∨ ddF (2 * m) j (carF (2 * m) i 1) = t)) ↔ ddF (2 * m) j i = t + 1) := by decide +kernel
theorem dd_c : ∀ m, m < 6 → ∀ j, j < 2 * m → ∀ t, t < 5 → (∃ a, a < 2 * m ∧ ddF (2 * m) j a = t + 1) ∨ ∀ a, a < 2 * m → ddF (2 * m) j a ≤ t := by decide +kernel
theorem ld_a : ∀ m, m < 6 → ∀ j, j < 2 * m → ∀ i, i < 2 * m → ∀ t, t < ddF (2 * m) j i + 1 → ptF (2 * m) j i t < 2 * m ∧ ddF (2 * m) j (ptF (2 * m) j i t) = ddF (2 * m) j i - t := by decide +kernel
theorem ld_b : ∀ m, m < 6 → ∀ j, j < 2 * m → ∀ i, i < 2 * m → ∀ t, t < ddF (2 * m) j i → wyF (2 * m) j (ptF (2 * m) j i t) = shF (2 * m) i j / 2 ^ (ddF (2 * m) j i - 1 - t) % 2 := by decide +kernel
theorem dd_ok (n : Nat) (hn : n < 11) (he : n % 2 = 0) (j : Nat) (hj : j < n) (i : Nat) (hi : i < n) : ddF n j i ≤ 4 ∧ (ddF n j i = 0 ↔ i = j) ∧ ∀ t, t < 5 → ((t < ddF n j i ∧ (ddF n j (carF n i 0) = t ∨ ddF n j (carF n i 1) = t)) ↔ ddF n j i = t + 1) := by
  obtain ⟨m, rfl⟩ : ∃ m, n = 2 * m := ⟨n / 2, by omega⟩
  obtain ⟨h1, h2⟩ := dd_a m (by omega) j hj i hi
  exact ⟨h1, h2, fun t ht => dd_b m (by omega) j hj i hi t ht⟩
theorem dd_gap (n : Nat) (hn : n < 11) (he : n % 2 = 0) (j : Nat) (hj : j < n) (t : Nat) (ht : t < 5) (h : ∀ a, a < n → ¬ ddF n j a = t + 1) : ∀ a, a < n → ddF n j a ≤ t := by
  obtain ⟨m, rfl⟩ : ∃ m, n = 2 * m := ⟨n / 2, by omega⟩
  rcases dd_c m (by omega) j hj t ht with ⟨a, h1, h2⟩ | h1
  · exact absurd h2 (h a h1)
  · exact h1
theorem ld_ok (n : Nat) (hn : n < 11) (he : n % 2 = 0) (j : Nat) (hj : j < n) (i : Nat) (hi : i < n) (t : Nat) (ht : t ≤ ddF n j i) : ptF n j i t < n ∧ ddF n j (ptF n j i t) = ddF n j i - t ∧ (t < ddF n j i → wyF n j (ptF n j i t) = shF n i j / 2 ^ (ddF n j i - 1 - t) % 2) := by
  obtain ⟨m, rfl⟩ : ∃ m, n = 2 * m := ⟨n / 2, by omega⟩
  obtain ⟨h1, h2⟩ := ld_a m (by omega) j hj i hi t (by omega)
  exact ⟨h1, h2, fun q => ld_b m (by omega) j hj i hi t q⟩
set_option maxHeartbeats 4000000 in
set_option maxRecDepth 100000 in
theorem m_fars (k : Nat) {xP xS xsd xbo : Int32} {xod xkn xhs xmm xln xot xfa xgr xtsr xtsz xce xmv xtc : Nat → Int32} {xwy xnx xch xaf xfo xco : Nat → Int64} {n j : Nat} (he : n % 2 = 0) (hn : n ≤ 10) (hj : j < n) : Runs yX8_fars cX8_fars 5 none (k + 1) [.ref 0, .int (nI j)] (mkH 20 (mdF (nI n) xP xS xsd xod xkn xhs xmm xln xot xwy xnx xch xaf xfa xgr xfo xco xtsr xtsz xce xmv xtc xbo)) (fun oo h' => oo = none ∧ ∃ f9 : Nat → Int32, mkH 20 (mdF (nI n) xP xS xsd xod xkn xhs xmm xln xot xwy xnx xch xaf (f9) xgr xfo xco xtsr xtsz xce xmv xtc xbo) = h' ∧ ∀ i, i < n → f9 i = nI (ddF n j i)) := by
  refine Runs.of (by decide) (Nat.le_of_ble_eq_true rfl) [some (.ref 0), some (.int (nI j)), none, none, none] 3 rfl (fun Γ g z => ?_)
  have dd := dd_ok n (by omega) he j hj
  have gap := dd_gap n (by omega) he j hj
  have loop : ∀ t, t ≤ 5 → ∀ (b : Nat) (f : Nat → Int32) (w4 : Option Value), b < 2 → (b = 0 → ∀ a, a < n → ddF n j a ≤ t) → (b = 1 → t ≤ 4) → (∀ a, a < n → f a = if ddF n j a ≤ t then nI (ddF n j a) else -1) → PB Γ 36 [some (.ref 0), some (.int (nI j)), some (.int (nI b)), some (.int (nI t)), w4] [] (mkH 20 (mdF (nI n) xP xS xsd xod xkn xhs xmm xln xot xwy xnx xch xaf (f) xgr xfo xco xtsr xtsz xce xmv xtc xbo)) := by
    refine pb_loop 5 (fun t ht ih b f w4 hb hb0 hb1 hf => ?_)
    by_cases hb2 : b = 0
    · have hb0 := hb0 hb2
      refine pb_iload_n2 g dX8_fars_36 ?_
      first | refine pb_if_eqN g 121 dX8_fars_37 (by decide) (by omega) (fun c37 => ?_) (fun c37 => ?_) | refine pb_if_eq g 121 dX8_fars_37 (by decide) (fun c37 => ?_) (fun c37 => ?_)
      · refine pb_vret g z dX8_fars_121 ?_
        exact ⟨rfl, f, rfl, fun i hi => by rw [hf i hi, if_pos (hb0 i hi)]⟩
      · exact absurd hb2 c37
    · have ht4 := hb1 (by omega)
      have ih := ih (by omega)
      have inner : ∀ i, i ≤ n → ∀ (b : Nat) (f : Nat → Int32), b < 2 → (b = 0 → ∀ a, a < i → ¬ ddF n j a = t + 1) → (b = 1 → t + 1 ≤ 4) → (∀ a, a < n → f a = if ddF n j a ≤ (if a < i then t + 1 else t) then nI (ddF n j a) else -1) → PB Γ 45 [some (.ref 0), some (.int (nI j)), some (.int (nI b)), some (.int (nI t)), some (.int (nI i))] [] (mkH 20 (mdF (nI n) xP xS xsd xod xkn xhs xmm xln xot xwy xnx xch xaf (f) xgr xfo xco xtsr xtsz xce xmv xtc xbo)) := by
        refine pb_loop n (fun i hi ihi b f hb hb0 hb1 hf => ?_)
        by_cases hin : i < n
        · have ihi := ihi hin
          obtain ⟨q1, q2, q3⟩ := dd i hin
          have q3 := q3 t (by omega)
          have hg0 := carF_lt he hin (show 0 < 2 by decide)
          have hg1 := carF_lt he hin (show 1 < 2 by decide)
          have hval : ∀ a, a < n → (f a = nI t ↔ ddF n j a = t) := fun a ha => by
            have q4 := (dd a ha).1
            rw [hf a ha]
            by_cases hc : ddF n j a ≤ (if a < i then t + 1 else t)
            · rw [if_pos hc]
              exact nI_eq (by omega) (by omega)
            · rw [if_neg hc]
              constructor
              · intro q
                exact absurd q (m1_ne t (by omega))
              · intro q
                rw [q] at hc
                exact absurd (by split <;> omega) hc
          have hkeep : ¬ ddF n j i = t + 1 → ∀ a, a < n → f a = if ddF n j a ≤ (if a < i + 1 then t + 1 else t) then nI (ddF n j a) else -1 := fun hne a ha => by
            rw [hf a ha]
            by_cases q : a = i
            · subst q
              rw [if_neg (Nat.lt_irrefl a), if_pos (Nat.lt_succ_self a)]
              by_cases w : ddF n j a ≤ t
              · rw [if_pos w, if_pos (by omega)]
              · rw [if_neg w, if_neg (by omega)]
            · by_cases w : a < i
              · rw [if_pos w, if_pos (show a < i + 1 by omega)]
              · rw [if_neg w, if_neg (show ¬ a < i + 1 by omega)]
          have hset : ddF n j i = t + 1 → ∀ a, a < n → upd f i (nI (t + 1)) a = if ddF n j a ≤ (if a < i + 1 then t + 1 else t) then nI (ddF n j a) else -1 := fun heq a ha => by
            by_cases q : a = i
            · subst q
              rw [upd, if_pos rfl, if_pos (Nat.lt_succ_self a), if_pos (by omega), heq]
            · rw [upd, if_neg q, hf a ha]
              by_cases w : a < i
              · rw [if_pos w, if_pos (show a < i + 1 by omega)]
              · rw [if_neg w, if_neg (show ¬ a < i + 1 by omega)]
          have hb0' : ¬ ddF n j i = t + 1 → b = 0 → ∀ a, a < i + 1 → ¬ ddF n j a = t + 1 := fun hne h0 a ha => by
            by_cases q : a = i
            · rw [q]; exact hne
            · exact hb0 h0 a (by omega)
          have hfi := hf i hin
          rw [if_neg (Nat.lt_irrefl i)] at hfi
          by_cases h1 : ddF n j i ≤ t
          · rw [if_pos h1] at hfi
            have hne : ¬ nI (ddF n j i) = -1 := fun q => m1_ne _ (by omega) q.symm
            have h9 : ¬ ddF n j i = t + 1 := by omega
            refine pb_iload4 g dX8_fars_45 ?_
            refine pb_aload_n0 g dX8_fars_47 ?_
            refine pb_getf g fX8_7 dX8_fars_48 mr_o rfl ?_
            first | refine pb_icmp_geN g 115 dX8_fars_51 (by decide) (by omega) (by omega) (fun c51 => ?_) (fun c51 => ?_) | refine pb_icmp_ge g 115 dX8_fars_51 (by decide) (fun c51 => ?_) (fun c51 => ?_)
            · exact absurd c51 (by omega)
            · refine pb_aload_n0 g dX8_fars_54 ?_
              refine pb_getf g fX8_45 dX8_fars_55 mr_o rfl ?_
              refine pb_iload4 g dX8_fars_58 ?_
              first | refine pb_ialdN g dX8_fars_60 (by first | exact mr_far | exact mr_order | exact mr_kind | exact mr_heaps | exact mr_m | exact mr_line | exact mr_other | exact mr_ways | exact mr_next | exact mr_chances | exact mr_after | exact mr_groups | exact mr_found | exact mr_counts | exact mr_traySort | exact mr_traySize | exact mr_cells | exact mr_moved | exact mr_traced | assumption) (by omega) (by omega) ?_ | refine pb_ald0 g dX8_fars_60 (by omega) ?_ | refine pb_ald1 g dX8_fars_60 (by omega) ?_ | refine pb_ald2 g dX8_fars_60 (by omega) ?_ | refine pb_ald3 g dX8_fars_60 (by omega) ?_ | refine pb_iald g dX8_fars_60 (by first | exact mr_far | exact mr_order | exact mr_kind | exact mr_heaps | exact mr_m | exact mr_line | exact mr_other | exact mr_ways | exact mr_next | exact mr_chances | exact mr_after | exact mr_groups | exact mr_found | exact mr_counts | exact mr_traySort | exact mr_traySize | exact mr_cells | exact mr_moved | exact mr_traced | assumption) (by assumption) ?_
              rw [hfi]
              refine pb_iconst (v := -1) g dX8_fars_61 (by decide) ?_
              first | refine pb_icmp_neN g 109 dX8_fars_62 (by decide) (by omega) (by omega) (fun c62 => ?_) (fun c62 => ?_) | refine pb_icmp_ne g 109 dX8_fars_62 (by decide) (fun c62 => ?_) (fun c62 => ?_)
              · first | refine pb_iinc4N g dX8_fars_109 (by decide) ?_ | refine pb_iinc4 g dX8_fars_109 (by decide) rfl ?_
                refine pb_goto g 45 dX8_fars_112 (by decide) ?_
                exact ihi b f hb (hb0' h9) hb1 (hkeep h9)
              · exact absurd c62 hne
          · rw [if_neg h1] at hfi
            by_cases h2 : ddF n j (carF n i 0) = t
            · have h9 : ddF n j i = t + 1 := q3.mp ⟨by omega, Or.inl h2⟩
              have hv0 := (hval _ hg0).mpr h2
              refine pb_iload4 g dX8_fars_45 ?_
              refine pb_aload_n0 g dX8_fars_47 ?_
              refine pb_getf g fX8_7 dX8_fars_48 mr_o rfl ?_
              first | refine pb_icmp_geN g 115 dX8_fars_51 (by decide) (by omega) (by omega) (fun c51 => ?_) (fun c51 => ?_) | refine pb_icmp_ge g 115 dX8_fars_51 (by decide) (fun c51 => ?_) (fun c51 => ?_)
              · exact absurd c51 (by omega)
              · refine pb_aload_n0 g dX8_fars_54 ?_
                refine pb_getf g fX8_45 dX8_fars_55 mr_o rfl ?_
                refine pb_iload4 g dX8_fars_58 ?_
                first | refine pb_ialdN g dX8_fars_60 (by first | exact mr_far | exact mr_order | exact mr_kind | exact mr_heaps | exact mr_m | exact mr_line | exact mr_other | exact mr_ways | exact mr_next | exact mr_chances | exact mr_after | exact mr_groups | exact mr_found | exact mr_counts | exact mr_traySort | exact mr_traySize | exact mr_cells | exact mr_moved | exact mr_traced | assumption) (by omega) (by omega) ?_ | refine pb_ald0 g dX8_fars_60 (by omega) ?_ | refine pb_ald1 g dX8_fars_60 (by omega) ?_ | refine pb_ald2 g dX8_fars_60 (by omega) ?_ | refine pb_ald3 g dX8_fars_60 (by omega) ?_ | refine pb_iald g dX8_fars_60 (by first | exact mr_far | exact mr_order | exact mr_kind | exact mr_heaps | exact mr_m | exact mr_line | exact mr_other | exact mr_ways | exact mr_next | exact mr_chances | exact mr_after | exact mr_groups | exact mr_found | exact mr_counts | exact mr_traySort | exact mr_traySize | exact mr_cells | exact mr_moved | exact mr_traced | assumption) (by assumption) ?_
                rw [hfi]
                refine pb_iconst (v := -1) g dX8_fars_61 (by decide) ?_
                first | refine pb_icmp_neN g 109 dX8_fars_62 (by decide) (by omega) (by omega) (fun c62 => ?_) (fun c62 => ?_) | refine pb_icmp_ne g 109 dX8_fars_62 (by decide) (fun c62 => ?_) (fun c62 => ?_)
                · exact absurd rfl c62
                · refine pb_aload_n0 g dX8_fars_65 ?_
                  refine pb_getf g fX8_45 dX8_fars_66 mr_o rfl ?_
                  refine pb_aload_n0 g dX8_fars_69 ?_
                  refine pb_iconst (v := nI 0) g dX8_fars_70 (by decide) ?_
                  refine pb_iload4 g dX8_fars_71 ?_
                  refine pb_Vi2 g qX8_120 dX8_fars_73 k (by omega) mr_o (m_goes k (n := n) (i := i) (w := 0) hin (by omega) hn) (fun r73 h73 e73 => ?_)
                  obtain ⟨rfl, rfl⟩ := e73
                  first | refine pb_ialdN g dX8_fars_76 (by first | exact mr_far | exact mr_order | exact mr_kind | exact mr_heaps | exact mr_m | exact mr_line | exact mr_other | exact mr_ways | exact mr_next | exact mr_chances | exact mr_after | exact mr_groups | exact mr_found | exact mr_counts | exact mr_traySort | exact mr_traySize | exact mr_cells | exact mr_moved | exact mr_traced | assumption) (by omega) (by omega) ?_ | refine pb_ald0 g dX8_fars_76 (by omega) ?_ | refine pb_ald1 g dX8_fars_76 (by omega) ?_ | refine pb_ald2 g dX8_fars_76 (by omega) ?_ | refine pb_ald3 g dX8_fars_76 (by omega) ?_ | refine pb_iald g dX8_fars_76 (by first | exact mr_far | exact mr_order | exact mr_kind | exact mr_heaps | exact mr_m | exact mr_line | exact mr_other | exact mr_ways | exact mr_next | exact mr_chances | exact mr_after | exact mr_groups | exact mr_found | exact mr_counts | exact mr_traySort | exact mr_traySize | exact mr_cells | exact mr_moved | exact mr_traced | assumption) (by assumption) ?_
                  rw [hv0]
                  refine pb_iload_n3 g dX8_fars_77 ?_
                  first | refine pb_icmp_eqN g 97 dX8_fars_78 (by decide) (by omega) (by omega) (fun c78 => ?_) (fun c78 => ?_) | refine pb_icmp_eq g 97 dX8_fars_78 (by decide) (fun c78 => ?_) (fun c78 => ?_)
                  · refine pb_aload_n0 g dX8_fars_97 ?_
                    refine pb_getf g fX8_45 dX8_fars_98 mr_o rfl ?_
                    refine pb_iload4 g dX8_fars_101 ?_
                    refine pb_iload_n3 g dX8_fars_103 ?_
                    refine pb_iconst (v := nI 1) g dX8_fars_104 (by decide) ?_
                    first | refine pb_iaddN g dX8_fars_105 ?_ | refine pb_iadd g dX8_fars_105 ?_
                    first | refine pb_iastN g dX8_fars_106 (by first | exact mr_far | exact mr_order | exact mr_kind | exact mr_heaps | exact mr_m | exact mr_line | exact mr_other | exact mr_ways | exact mr_next | exact mr_chances | exact mr_after | exact mr_groups | exact mr_found | exact mr_counts | exact mr_traySort | exact mr_traySize | exact mr_cells | exact mr_moved | exact mr_traced | assumption) (by omega) (by omega) ?_ | refine pb_iast g dX8_fars_106 (by first | exact mr_far | exact mr_order | exact mr_kind | exact mr_heaps | exact mr_m | exact mr_line | exact mr_other | exact mr_ways | exact mr_next | exact mr_chances | exact mr_after | exact mr_groups | exact mr_found | exact mr_counts | exact mr_traySort | exact mr_traySize | exact mr_cells | exact mr_moved | exact mr_traced | assumption) (by assumption) ?_
                    first | rw [ms_far]
                    refine pb_iconst (v := nI 1) g dX8_fars_107 (by decide) ?_
                    refine pb_istore_n2 g dX8_fars_108 (by decide) ?_
                    first | refine pb_iinc4N g dX8_fars_109 (by decide) ?_ | refine pb_iinc4 g dX8_fars_109 (by decide) rfl ?_
                    refine pb_goto g 45 dX8_fars_112 (by decide) ?_
                    exact ihi 1 _ (by omega) (fun q => absurd q (by omega)) (fun _ => by omega) (hset h9)
                  · exact absurd rfl c78
            · have hv0 : ¬ f (carF n i 0) = nI t := fun q => h2 ((hval _ hg0).mp q)
              by_cases h3 : ddF n j (carF n i 1) = t
              · have h9 : ddF n j i = t + 1 := q3.mp ⟨by omega, Or.inr h3⟩
                have hv1 := (hval _ hg1).mpr h3
                refine pb_iload4 g dX8_fars_45 ?_
                refine pb_aload_n0 g dX8_fars_47 ?_
                refine pb_getf g fX8_7 dX8_fars_48 mr_o rfl ?_
                first | refine pb_icmp_geN g 115 dX8_fars_51 (by decide) (by omega) (by omega) (fun c51 => ?_) (fun c51 => ?_) | refine pb_icmp_ge g 115 dX8_fars_51 (by decide) (fun c51 => ?_) (fun c51 => ?_)
                · exact absurd c51 (by omega)
                · refine pb_aload_n0 g dX8_fars_54 ?_
                  refine pb_getf g fX8_45 dX8_fars_55 mr_o rfl ?_
                  refine pb_iload4 g dX8_fars_58 ?_
                  first | refine pb_ialdN g dX8_fars_60 (by first | exact mr_far | exact mr_order | exact mr_kind | exact mr_heaps | exact mr_m | exact mr_line | exact mr_other | exact mr_ways | exact mr_next | exact mr_chances | exact mr_after | exact mr_groups | exact mr_found | exact mr_counts | exact mr_traySort | exact mr_traySize | exact mr_cells | exact mr_moved | exact mr_traced | assumption) (by omega) (by omega) ?_ | refine pb_ald0 g dX8_fars_60 (by omega) ?_ | refine pb_ald1 g dX8_fars_60 (by omega) ?_ | refine pb_ald2 g dX8_fars_60 (by omega) ?_ | refine pb_ald3 g dX8_fars_60 (by omega) ?_ | refine pb_iald g dX8_fars_60 (by first | exact mr_far | exact mr_order | exact mr_kind | exact mr_heaps | exact mr_m | exact mr_line | exact mr_other | exact mr_ways | exact mr_next | exact mr_chances | exact mr_after | exact mr_groups | exact mr_found | exact mr_counts | exact mr_traySort | exact mr_traySize | exact mr_cells | exact mr_moved | exact mr_traced | assumption) (by assumption) ?_
                  rw [hfi]
                  refine pb_iconst (v := -1) g dX8_fars_61 (by decide) ?_
                  first | refine pb_icmp_neN g 109 dX8_fars_62 (by decide) (by omega) (by omega) (fun c62 => ?_) (fun c62 => ?_) | refine pb_icmp_ne g 109 dX8_fars_62 (by decide) (fun c62 => ?_) (fun c62 => ?_)
                  · exact absurd rfl c62
                  · refine pb_aload_n0 g dX8_fars_65 ?_
                    refine pb_getf g fX8_45 dX8_fars_66 mr_o rfl ?_
                    refine pb_aload_n0 g dX8_fars_69 ?_
                    refine pb_iconst (v := nI 0) g dX8_fars_70 (by decide) ?_
                    refine pb_iload4 g dX8_fars_71 ?_
                    refine pb_Vi2 g qX8_120 dX8_fars_73 k (by omega) mr_o (m_goes k (n := n) (i := i) (w := 0) hin (by omega) hn) (fun r73 h73 e73 => ?_)
                    obtain ⟨rfl, rfl⟩ := e73
                    first | refine pb_ialdN g dX8_fars_76 (by first | exact mr_far | exact mr_order | exact mr_kind | exact mr_heaps | exact mr_m | exact mr_line | exact mr_other | exact mr_ways | exact mr_next | exact mr_chances | exact mr_after | exact mr_groups | exact mr_found | exact mr_counts | exact mr_traySort | exact mr_traySize | exact mr_cells | exact mr_moved | exact mr_traced | assumption) (by omega) (by omega) ?_ | refine pb_ald0 g dX8_fars_76 (by omega) ?_ | refine pb_ald1 g dX8_fars_76 (by omega) ?_ | refine pb_ald2 g dX8_fars_76 (by omega) ?_ | refine pb_ald3 g dX8_fars_76 (by omega) ?_ | refine pb_iald g dX8_fars_76 (by first | exact mr_far | exact mr_order | exact mr_kind | exact mr_heaps | exact mr_m | exact mr_line | exact mr_other | exact mr_ways | exact mr_next | exact mr_chances | exact mr_after | exact mr_groups | exact mr_found | exact mr_counts | exact mr_traySort | exact mr_traySize | exact mr_cells | exact mr_moved | exact mr_traced | assumption) (by assumption) ?_
                    refine pb_iload_n3 g dX8_fars_77 ?_
                    first | refine pb_icmp_eqN g 97 dX8_fars_78 (by decide) (by omega) (by omega) (fun c78 => ?_) (fun c78 => ?_) | refine pb_icmp_eq g 97 dX8_fars_78 (by decide) (fun c78 => ?_) (fun c78 => ?_)
                    · exact absurd c78 hv0
                    · refine pb_aload_n0 g dX8_fars_81 ?_
                      refine pb_getf g fX8_45 dX8_fars_82 mr_o rfl ?_
                      refine pb_aload_n0 g dX8_fars_85 ?_
                      refine pb_iconst (v := nI 1) g dX8_fars_86 (by decide) ?_
                      refine pb_iload4 g dX8_fars_87 ?_
                      refine pb_Vi2 g qX8_120 dX8_fars_89 k (by omega) mr_o (m_goes k (n := n) (i := i) (w := 1) hin (by omega) hn) (fun r89 h89 e89 => ?_)
                      obtain ⟨rfl, rfl⟩ := e89
                      first | refine pb_ialdN g dX8_fars_92 (by first | exact mr_far | exact mr_order | exact mr_kind | exact mr_heaps | exact mr_m | exact mr_line | exact mr_other | exact mr_ways | exact mr_next | exact mr_chances | exact mr_after | exact mr_groups | exact mr_found | exact mr_counts | exact mr_traySort | exact mr_traySize | exact mr_cells | exact mr_moved | exact mr_traced | assumption) (by omega) (by omega) ?_ | refine pb_ald0 g dX8_fars_92 (by omega) ?_ | refine pb_ald1 g dX8_fars_92 (by omega) ?_ | refine pb_ald2 g dX8_fars_92 (by omega) ?_ | refine pb_ald3 g dX8_fars_92 (by omega) ?_ | refine pb_iald g dX8_fars_92 (by first | exact mr_far | exact mr_order | exact mr_kind | exact mr_heaps | exact mr_m | exact mr_line | exact mr_other | exact mr_ways | exact mr_next | exact mr_chances | exact mr_after | exact mr_groups | exact mr_found | exact mr_counts | exact mr_traySort | exact mr_traySize | exact mr_cells | exact mr_moved | exact mr_traced | assumption) (by assumption) ?_
                      rw [hv1]
                      refine pb_iload_n3 g dX8_fars_93 ?_
                      first | refine pb_icmp_neN g 109 dX8_fars_94 (by decide) (by omega) (by omega) (fun c94 => ?_) (fun c94 => ?_) | refine pb_icmp_ne g 109 dX8_fars_94 (by decide) (fun c94 => ?_) (fun c94 => ?_)
                      · exact absurd rfl c94
                      · refine pb_aload_n0 g dX8_fars_97 ?_
                        refine pb_getf g fX8_45 dX8_fars_98 mr_o rfl ?_
                        refine pb_iload4 g dX8_fars_101 ?_
                        refine pb_iload_n3 g dX8_fars_103 ?_
                        refine pb_iconst (v := nI 1) g dX8_fars_104 (by decide) ?_
                        first | refine pb_iaddN g dX8_fars_105 ?_ | refine pb_iadd g dX8_fars_105 ?_
                        first | refine pb_iastN g dX8_fars_106 (by first | exact mr_far | exact mr_order | exact mr_kind | exact mr_heaps | exact mr_m | exact mr_line | exact mr_other | exact mr_ways | exact mr_next | exact mr_chances | exact mr_after | exact mr_groups | exact mr_found | exact mr_counts | exact mr_traySort | exact mr_traySize | exact mr_cells | exact mr_moved | exact mr_traced | assumption) (by omega) (by omega) ?_ | refine pb_iast g dX8_fars_106 (by first | exact mr_far | exact mr_order | exact mr_kind | exact mr_heaps | exact mr_m | exact mr_line | exact mr_other | exact mr_ways | exact mr_next | exact mr_chances | exact mr_after | exact mr_groups | exact mr_found | exact mr_counts | exact mr_traySort | exact mr_traySize | exact mr_cells | exact mr_moved | exact mr_traced | assumption) (by assumption) ?_
                        first | rw [ms_far]
                        refine pb_iconst (v := nI 1) g dX8_fars_107 (by decide) ?_
                        refine pb_istore_n2 g dX8_fars_108 (by decide) ?_
                        first | refine pb_iinc4N g dX8_fars_109 (by decide) ?_ | refine pb_iinc4 g dX8_fars_109 (by decide) rfl ?_
                        refine pb_goto g 45 dX8_fars_112 (by decide) ?_
                        exact ihi 1 _ (by omega) (fun q => absurd q (by omega)) (fun _ => by omega) (hset h9)
              · have h9 : ¬ ddF n j i = t + 1 := fun q => (q3.mpr q).2.elim h2 h3
                have hv1 : ¬ f (carF n i 1) = nI t := fun q => h3 ((hval _ hg1).mp q)
                refine pb_iload4 g dX8_fars_45 ?_
                refine pb_aload_n0 g dX8_fars_47 ?_
                refine pb_getf g fX8_7 dX8_fars_48 mr_o rfl ?_
                first | refine pb_icmp_geN g 115 dX8_fars_51 (by decide) (by omega) (by omega) (fun c51 => ?_) (fun c51 => ?_) | refine pb_icmp_ge g 115 dX8_fars_51 (by decide) (fun c51 => ?_) (fun c51 => ?_)
                · exact absurd c51 (by omega)
                · refine pb_aload_n0 g dX8_fars_54 ?_
                  refine pb_getf g fX8_45 dX8_fars_55 mr_o rfl ?_
                  refine pb_iload4 g dX8_fars_58 ?_
                  first | refine pb_ialdN g dX8_fars_60 (by first | exact mr_far | exact mr_order | exact mr_kind | exact mr_heaps | exact mr_m | exact mr_line | exact mr_other | exact mr_ways | exact mr_next | exact mr_chances | exact mr_after | exact mr_groups | exact mr_found | exact mr_counts | exact mr_traySort | exact mr_traySize | exact mr_cells | exact mr_moved | exact mr_traced | assumption) (by omega) (by omega) ?_ | refine pb_ald0 g dX8_fars_60 (by omega) ?_ | refine pb_ald1 g dX8_fars_60 (by omega) ?_ | refine pb_ald2 g dX8_fars_60 (by omega) ?_ | refine pb_ald3 g dX8_fars_60 (by omega) ?_ | refine pb_iald g dX8_fars_60 (by first | exact mr_far | exact mr_order | exact mr_kind | exact mr_heaps | exact mr_m | exact mr_line | exact mr_other | exact mr_ways | exact mr_next | exact mr_chances | exact mr_after | exact mr_groups | exact mr_found | exact mr_counts | exact mr_traySort | exact mr_traySize | exact mr_cells | exact mr_moved | exact mr_traced | assumption) (by assumption) ?_
                  rw [hfi]
                  refine pb_iconst (v := -1) g dX8_fars_61 (by decide) ?_
                  first | refine pb_icmp_neN g 109 dX8_fars_62 (by decide) (by omega) (by omega) (fun c62 => ?_) (fun c62 => ?_) | refine pb_icmp_ne g 109 dX8_fars_62 (by decide) (fun c62 => ?_) (fun c62 => ?_)
                  · exact absurd rfl c62
                  · refine pb_aload_n0 g dX8_fars_65 ?_
                    refine pb_getf g fX8_45 dX8_fars_66 mr_o rfl ?_
                    refine pb_aload_n0 g dX8_fars_69 ?_
                    refine pb_iconst (v := nI 0) g dX8_fars_70 (by decide) ?_
                    refine pb_iload4 g dX8_fars_71 ?_
                    refine pb_Vi2 g qX8_120 dX8_fars_73 k (by omega) mr_o (m_goes k (n := n) (i := i) (w := 0) hin (by omega) hn) (fun r73 h73 e73 => ?_)
                    obtain ⟨rfl, rfl⟩ := e73
                    first | refine pb_ialdN g dX8_fars_76 (by first | exact mr_far | exact mr_order | exact mr_kind | exact mr_heaps | exact mr_m | exact mr_line | exact mr_other | exact mr_ways | exact mr_next | exact mr_chances | exact mr_after | exact mr_groups | exact mr_found | exact mr_counts | exact mr_traySort | exact mr_traySize | exact mr_cells | exact mr_moved | exact mr_traced | assumption) (by omega) (by omega) ?_ | refine pb_ald0 g dX8_fars_76 (by omega) ?_ | refine pb_ald1 g dX8_fars_76 (by omega) ?_ | refine pb_ald2 g dX8_fars_76 (by omega) ?_ | refine pb_ald3 g dX8_fars_76 (by omega) ?_ | refine pb_iald g dX8_fars_76 (by first | exact mr_far | exact mr_order | exact mr_kind | exact mr_heaps | exact mr_m | exact mr_line | exact mr_other | exact mr_ways | exact mr_next | exact mr_chances | exact mr_after | exact mr_groups | exact mr_found | exact mr_counts | exact mr_traySort | exact mr_traySize | exact mr_cells | exact mr_moved | exact mr_traced | assumption) (by assumption) ?_
                    refine pb_iload_n3 g dX8_fars_77 ?_
                    first | refine pb_icmp_eqN g 97 dX8_fars_78 (by decide) (by omega) (by omega) (fun c78 => ?_) (fun c78 => ?_) | refine pb_icmp_eq g 97 dX8_fars_78 (by decide) (fun c78 => ?_) (fun c78 => ?_)
                    · exact absurd c78 hv0
                    · refine pb_aload_n0 g dX8_fars_81 ?_
                      refine pb_getf g fX8_45 dX8_fars_82 mr_o rfl ?_
                      refine pb_aload_n0 g dX8_fars_85 ?_
                      refine pb_iconst (v := nI 1) g dX8_fars_86 (by decide) ?_
                      refine pb_iload4 g dX8_fars_87 ?_
                      refine pb_Vi2 g qX8_120 dX8_fars_89 k (by omega) mr_o (m_goes k (n := n) (i := i) (w := 1) hin (by omega) hn) (fun r89 h89 e89 => ?_)
                      obtain ⟨rfl, rfl⟩ := e89
                      first | refine pb_ialdN g dX8_fars_92 (by first | exact mr_far | exact mr_order | exact mr_kind | exact mr_heaps | exact mr_m | exact mr_line | exact mr_other | exact mr_ways | exact mr_next | exact mr_chances | exact mr_after | exact mr_groups | exact mr_found | exact mr_counts | exact mr_traySort | exact mr_traySize | exact mr_cells | exact mr_moved | exact mr_traced | assumption) (by omega) (by omega) ?_ | refine pb_ald0 g dX8_fars_92 (by omega) ?_ | refine pb_ald1 g dX8_fars_92 (by omega) ?_ | refine pb_ald2 g dX8_fars_92 (by omega) ?_ | refine pb_ald3 g dX8_fars_92 (by omega) ?_ | refine pb_iald g dX8_fars_92 (by first | exact mr_far | exact mr_order | exact mr_kind | exact mr_heaps | exact mr_m | exact mr_line | exact mr_other | exact mr_ways | exact mr_next | exact mr_chances | exact mr_after | exact mr_groups | exact mr_found | exact mr_counts | exact mr_traySort | exact mr_traySize | exact mr_cells | exact mr_moved | exact mr_traced | assumption) (by assumption) ?_
                      refine pb_iload_n3 g dX8_fars_93 ?_
                      first | refine pb_icmp_neN g 109 dX8_fars_94 (by decide) (by omega) (by omega) (fun c94 => ?_) (fun c94 => ?_) | refine pb_icmp_ne g 109 dX8_fars_94 (by decide) (fun c94 => ?_) (fun c94 => ?_)
                      · first | refine pb_iinc4N g dX8_fars_109 (by decide) ?_ | refine pb_iinc4 g dX8_fars_109 (by decide) rfl ?_
                        refine pb_goto g 45 dX8_fars_112 (by decide) ?_
                        exact ihi b f hb (hb0' h9) hb1 (hkeep h9)
                      · exact absurd c94 hv1
        · obtain rfl : i = n := by omega
          refine pb_iload4 g dX8_fars_45 ?_
          refine pb_aload_n0 g dX8_fars_47 ?_
          refine pb_getf g fX8_7 dX8_fars_48 mr_o rfl ?_
          first | refine pb_icmp_geN g 115 dX8_fars_51 (by decide) (by omega) (by omega) (fun c51 => ?_) (fun c51 => ?_) | refine pb_icmp_ge g 115 dX8_fars_51 (by decide) (fun c51 => ?_) (fun c51 => ?_)
          · first | refine pb_iinc3N g dX8_fars_115 (by decide) ?_ | refine pb_iinc3 g dX8_fars_115 (by decide) rfl ?_
            refine pb_goto g 36 dX8_fars_118 (by decide) ?_
            exact ih b f _ hb (fun h0 a ha => Nat.le_succ_of_le (gap t (by omega) (hb0 h0) a ha)) hb1 (fun a ha => by rw [hf a ha, if_pos ha])
          · exact absurd c51 (by omega)
      refine pb_iload_n2 g dX8_fars_36 ?_
      first | refine pb_if_eqN g 121 dX8_fars_37 (by decide) (by omega) (fun c37 => ?_) (fun c37 => ?_) | refine pb_if_eq g 121 dX8_fars_37 (by decide) (fun c37 => ?_) (fun c37 => ?_)
      · exact absurd c37 hb2
      · refine pb_iconst (v := nI 0) g dX8_fars_40 (by decide) ?_
        refine pb_istore_n2 g dX8_fars_41 (by decide) ?_
        refine pb_iconst (v := nI 0) g dX8_fars_42 (by decide) ?_
        refine pb_istore4 g dX8_fars_43 (by decide) ?_
        exact inner 0 (Nat.zero_le _) 0 f (by omega) (fun _ a ha => absurd ha (by omega)) (fun q => absurd q (by omega)) (fun a ha => by rw [if_neg (Nat.not_lt_zero a)]; exact hf a ha)
  have loop0 : ∀ i, i ≤ n → ∀ f : Nat → Int32, (∀ a, a < i → f a = if ddF n j a ≤ 0 then nI (ddF n j a) else -1) → PB Γ 2 [some (.ref 0), some (.int (nI j)), some (.int (nI i)), none, none] [] (mkH 20 (mdF (nI n) xP xS xsd xod xkn xhs xmm xln xot xwy xnx xch xaf (f) xgr xfo xco xtsr xtsz xce xmv xtc xbo)) := by
    refine pb_loop n (fun i hi ih f hf => ?_)
    by_cases hin : i < n
    · have ih := ih hin
      obtain ⟨q1, q2, q3⟩ := dd i hin
      by_cases hij : i = j
      · have h0 := q2.mpr hij
        refine pb_iload_n2 g dX8_fars_2 ?_
        refine pb_aload_n0 g dX8_fars_3 ?_
        refine pb_getf g fX8_7 dX8_fars_4 mr_o rfl ?_
        first | refine pb_icmp_geN g 32 dX8_fars_7 (by decide) (by omega) (by omega) (fun c7 => ?_) (fun c7 => ?_) | refine pb_icmp_ge g 32 dX8_fars_7 (by decide) (fun c7 => ?_) (fun c7 => ?_)
        · exact absurd c7 (by omega)
        · refine pb_aload_n0 g dX8_fars_10 ?_
          refine pb_getf g fX8_45 dX8_fars_11 mr_o rfl ?_
          refine pb_iload_n2 g dX8_fars_14 ?_
          refine pb_iload_n2 g dX8_fars_15 ?_
          refine pb_iload_n1 g dX8_fars_16 ?_
          first | refine pb_icmp_neN g 24 dX8_fars_17 (by decide) (by omega) (by omega) (fun c17 => ?_) (fun c17 => ?_) | refine pb_icmp_ne g 24 dX8_fars_17 (by decide) (fun c17 => ?_) (fun c17 => ?_)
          · exact absurd hij c17
          · refine pb_iconst (v := nI 0) g dX8_fars_20 (by decide) ?_
            refine pb_goto g 25 dX8_fars_21 (by decide) ?_
            first | refine pb_iastN g dX8_fars_25 (by first | exact mr_far | exact mr_order | exact mr_kind | exact mr_heaps | exact mr_m | exact mr_line | exact mr_other | exact mr_ways | exact mr_next | exact mr_chances | exact mr_after | exact mr_groups | exact mr_found | exact mr_counts | exact mr_traySort | exact mr_traySize | exact mr_cells | exact mr_moved | exact mr_traced | assumption) (by omega) (by omega) ?_ | refine pb_iast g dX8_fars_25 (by first | exact mr_far | exact mr_order | exact mr_kind | exact mr_heaps | exact mr_m | exact mr_line | exact mr_other | exact mr_ways | exact mr_next | exact mr_chances | exact mr_after | exact mr_groups | exact mr_found | exact mr_counts | exact mr_traySort | exact mr_traySize | exact mr_cells | exact mr_moved | exact mr_traced | assumption) (by assumption) ?_
            first | rw [ms_far]
            first | refine pb_iinc2N g dX8_fars_26 (by decide) ?_ | refine pb_iinc2 g dX8_fars_26 (by decide) rfl ?_
            refine pb_goto g 2 dX8_fars_29 (by decide) ?_
            exact ih _ (fun a ha => by
              by_cases q : a = i
              · rw [q, upd, if_pos rfl, h0, if_pos (Nat.le_refl 0)]
              · rw [upd, if_neg q]
                exact hf a (by omega))
      · have h0 : ¬ ddF n j i ≤ 0 := fun q => hij (q2.mp (by omega))
        refine pb_iload_n2 g dX8_fars_2 ?_
        refine pb_aload_n0 g dX8_fars_3 ?_
        refine pb_getf g fX8_7 dX8_fars_4 mr_o rfl ?_
        first | refine pb_icmp_geN g 32 dX8_fars_7 (by decide) (by omega) (by omega) (fun c7 => ?_) (fun c7 => ?_) | refine pb_icmp_ge g 32 dX8_fars_7 (by decide) (fun c7 => ?_) (fun c7 => ?_)
        · exact absurd c7 (by omega)
        · refine pb_aload_n0 g dX8_fars_10 ?_
          refine pb_getf g fX8_45 dX8_fars_11 mr_o rfl ?_
          refine pb_iload_n2 g dX8_fars_14 ?_
          refine pb_iload_n2 g dX8_fars_15 ?_
          refine pb_iload_n1 g dX8_fars_16 ?_
          first | refine pb_icmp_neN g 24 dX8_fars_17 (by decide) (by omega) (by omega) (fun c17 => ?_) (fun c17 => ?_) | refine pb_icmp_ne g 24 dX8_fars_17 (by decide) (fun c17 => ?_) (fun c17 => ?_)
          · refine pb_iconst (v := -1) g dX8_fars_24 (by decide) ?_
            first | refine pb_iastN g dX8_fars_25 (by first | exact mr_far | exact mr_order | exact mr_kind | exact mr_heaps | exact mr_m | exact mr_line | exact mr_other | exact mr_ways | exact mr_next | exact mr_chances | exact mr_after | exact mr_groups | exact mr_found | exact mr_counts | exact mr_traySort | exact mr_traySize | exact mr_cells | exact mr_moved | exact mr_traced | assumption) (by omega) (by omega) ?_ | refine pb_iast g dX8_fars_25 (by first | exact mr_far | exact mr_order | exact mr_kind | exact mr_heaps | exact mr_m | exact mr_line | exact mr_other | exact mr_ways | exact mr_next | exact mr_chances | exact mr_after | exact mr_groups | exact mr_found | exact mr_counts | exact mr_traySort | exact mr_traySize | exact mr_cells | exact mr_moved | exact mr_traced | assumption) (by assumption) ?_
            first | rw [ms_far]
            first | refine pb_iinc2N g dX8_fars_26 (by decide) ?_ | refine pb_iinc2 g dX8_fars_26 (by decide) rfl ?_
            refine pb_goto g 2 dX8_fars_29 (by decide) ?_
            exact ih _ (fun a ha => by
              by_cases q : a = i
              · rw [q, upd, if_pos rfl, if_neg h0]
              · rw [upd, if_neg q]
                exact hf a (by omega))
          · exact absurd c17 hij
    · obtain rfl : i = n := by omega
      refine pb_iload_n2 g dX8_fars_2 ?_
      refine pb_aload_n0 g dX8_fars_3 ?_
      refine pb_getf g fX8_7 dX8_fars_4 mr_o rfl ?_
      first | refine pb_icmp_geN g 32 dX8_fars_7 (by decide) (by omega) (by omega) (fun c7 => ?_) (fun c7 => ?_) | refine pb_icmp_ge g 32 dX8_fars_7 (by decide) (fun c7 => ?_) (fun c7 => ?_)
      · refine pb_iconst (v := nI 1) g dX8_fars_32 (by decide) ?_
        refine pb_istore_n2 g dX8_fars_33 (by decide) ?_
        refine pb_iconst (v := nI 0) g dX8_fars_34 (by decide) ?_
        refine pb_istore_n3 g dX8_fars_35 (by decide) ?_
        exact loop 0 (by omega) 1 f _ (by omega) (fun q => absurd q (by omega)) (fun _ => by omega) hf
      · exact absurd c7 (by omega)
  refine pb_iconst (v := nI 0) g dX8_fars_0 (by decide) ?_
  refine pb_istore_n2 g dX8_fars_1 (by decide) ?_
  exact loop0 0 (Nat.zero_le _) _ (fun a ha => absurd ha (by omega))
set_option maxHeartbeats 4000000 in
set_option maxRecDepth 100000 in
theorem m_leads (k : Nat) (q : SP) (i j : Int32) (h : PH) (hD : IsM q h) (hI : SI q) : Runs yX8_leads cX8_leads 3 (some .int) (k + 6) [.ref 0, .int i, .int j] h (fun oo h' => ∃ r : Int32, oo = some (.int r) ∧ r = sLeads q i j ∧ IsM (q) h') := by
  obtain ⟨⟨n, P, S, sd⟩, ⟨σ, μ, K, Hh⟩, ⟨ts, zz, it⟩, ⟨ra, tr⟩⟩ := q
  obtain ⟨⟨hn1, hn, hP, hS⟩, hσ, hK, hz, hra⟩ := hI
  obtain ⟨xod, xkn, xhs, xmm, xln, xot, xfa, xgr, xtsr, xtsz, xce, xmv, xtc, xwy, xnx, xch, xaf, xfo, xco, rfl, d1, d2, d3, d4, d5⟩ := hD
  refine Runs.of (by decide) (Nat.le_of_ble_eq_true rfl) [some (.ref 0), some (.int i), some (.int j)] 0 rfl (fun Γ g z => ?_)
  cases hi : ix i n with
  | none =>
    have e : sLeads ((n, P, S, sd), (σ, μ, K, Hh), (ts, zz, it), (ra, tr)) i j = -2 := by simp only [sLeads, hi]
    have hin := ix_none (by omega) hi
    refine pb_aload_n0 g dX8_leads_0 ?_
    refine pb_iload_n1 g dX8_leads_1 ?_
    refine pb_Vi1 g qX8_98 dX8_leads_2 (k + 5) (by omega) mr_o (m_isPlaceF (k + 5) (by assumption) hn) (fun r2 h2 e2 => ?_)
    obtain ⟨rfl, rfl⟩ := e2
    first | refine pb_if_eqN g 16 dX8_leads_5 (by decide) (by omega) (fun c5 => ?_) (fun c5 => ?_) | refine pb_if_eq g 16 dX8_leads_5 (by decide) (fun c5 => ?_) (fun c5 => ?_)
    · refine pb_bipush (v := -2) g dX8_leads_16 (by decide) ?_
      refine pb_iret g z dX8_leads_18 ?_
      exact ⟨_, rfl, by rw [e], ⟨_, _, _, _, _, _, _, _, _, _, _, _, _, _, _, _, _, _, _, rfl, d1, d2, d3, d4, d5⟩⟩
    · exact absurd c5 (by decide)
  | some i0 =>
    obtain ⟨hi0, rfl⟩ := ix_some (by omega) hi
    cases hj : ix j n with
    | none =>
      have e : sLeads ((n, P, S, sd), (σ, μ, K, Hh), (ts, zz, it), (ra, tr)) (nI i0) j = -2 := by simp only [sLeads, hi, hj]
      have hjn := ix_none (by omega) hj
      refine pb_aload_n0 g dX8_leads_0 ?_
      refine pb_iload_n1 g dX8_leads_1 ?_
      refine pb_Vi1 g qX8_98 dX8_leads_2 (k + 5) (by omega) mr_o (m_isPlaceT (k + 5) (by assumption) hn) (fun r2 h2 e2 => ?_)
      obtain ⟨rfl, rfl⟩ := e2
      first | refine pb_if_eqN g 16 dX8_leads_5 (by decide) (by omega) (fun c5 => ?_) (fun c5 => ?_) | refine pb_if_eq g 16 dX8_leads_5 (by decide) (fun c5 => ?_) (fun c5 => ?_)
      · exact absurd c5 (by decide)
      · refine pb_aload_n0 g dX8_leads_8 ?_
        refine pb_iload_n2 g dX8_leads_9 ?_
        refine pb_Vi1 g qX8_98 dX8_leads_10 (k + 5) (by omega) mr_o (m_isPlaceF (k + 5) (by assumption) hn) (fun r10 h10 e10 => ?_)
        obtain ⟨rfl, rfl⟩ := e10
        first | refine pb_if_neN g 19 dX8_leads_13 (by decide) (by omega) (fun c13 => ?_) (fun c13 => ?_) | refine pb_if_ne g 19 dX8_leads_13 (by decide) (fun c13 => ?_) (fun c13 => ?_)
        · exact absurd c13 (by decide)
        · refine pb_bipush (v := -2) g dX8_leads_16 (by decide) ?_
          refine pb_iret g z dX8_leads_18 ?_
          exact ⟨_, rfl, by rw [e], ⟨_, _, _, _, _, _, _, _, _, _, _, _, _, _, _, _, _, _, _, rfl, d1, d2, d3, d4, d5⟩⟩
    | some j0 =>
      obtain ⟨hj0, rfl⟩ := ix_some (by omega) hj
      by_cases hodd : n % 2 = 1
      · have e : sLeads ((n, P, S, sd), (σ, μ, K, Hh), (ts, zz, it), (ra, tr)) (nI i0) (nI j0) = -3 := by
          simp only [sLeads, hi, hj]
          exact if_pos hodd
        refine pb_aload_n0 g dX8_leads_0 ?_
        refine pb_iload_n1 g dX8_leads_1 ?_
        refine pb_Vi1 g qX8_98 dX8_leads_2 (k + 5) (by omega) mr_o (m_isPlaceT (k + 5) (by assumption) hn) (fun r2 h2 e2 => ?_)
        obtain ⟨rfl, rfl⟩ := e2
        first | refine pb_if_eqN g 16 dX8_leads_5 (by decide) (by omega) (fun c5 => ?_) (fun c5 => ?_) | refine pb_if_eq g 16 dX8_leads_5 (by decide) (fun c5 => ?_) (fun c5 => ?_)
        · exact absurd c5 (by decide)
        · refine pb_aload_n0 g dX8_leads_8 ?_
          refine pb_iload_n2 g dX8_leads_9 ?_
          refine pb_Vi1 g qX8_98 dX8_leads_10 (k + 5) (by omega) mr_o (m_isPlaceT (k + 5) (by assumption) hn) (fun r10 h10 e10 => ?_)
          obtain ⟨rfl, rfl⟩ := e10
          first | refine pb_if_neN g 19 dX8_leads_13 (by decide) (by omega) (fun c13 => ?_) (fun c13 => ?_) | refine pb_if_ne g 19 dX8_leads_13 (by decide) (fun c13 => ?_) (fun c13 => ?_)
          · refine pb_aload_n0 g dX8_leads_19 ?_
            refine pb_getf g fX8_7 dX8_leads_20 mr_o rfl ?_
            refine pb_iconst (v := nI 2) g dX8_leads_23 (by decide) ?_
            first | refine pb_iremN g dX8_leads_24 (by omega) (by omega) (by omega) ?_ | refine pb_irem g dX8_leads_24 (by assumption) ?_
            refine pb_iconst (v := nI 1) g dX8_leads_25 (by decide) ?_
            first | refine pb_icmp_neN g 32 dX8_leads_26 (by decide) (by omega) (by omega) (fun c26 => ?_) (fun c26 => ?_) | refine pb_icmp_ne g 32 dX8_leads_26 (by decide) (fun c26 => ?_) (fun c26 => ?_)
            · exact absurd hodd c26
            · refine pb_bipush (v := -3) g dX8_leads_29 (by decide) ?_
              refine pb_iret g z dX8_leads_31 ?_
              exact ⟨_, rfl, by rw [e], ⟨_, _, _, _, _, _, _, _, _, _, _, _, _, _, _, _, _, _, _, rfl, d1, d2, d3, d4, d5⟩⟩
          · exact absurd c13 (by decide)
      · have heven : n % 2 = 0 := by omega
        have e : sLeads ((n, P, S, sd), (σ, μ, K, Hh), (ts, zz, it), (ra, tr)) (nI i0) (nI j0) = nI (ddF n j0 i0) := by
          simp only [sLeads, hi, hj]
          exact if_neg hodd
        refine pb_aload_n0 g dX8_leads_0 ?_
        refine pb_iload_n1 g dX8_leads_1 ?_
        refine pb_Vi1 g qX8_98 dX8_leads_2 (k + 5) (by omega) mr_o (m_isPlaceT (k + 5) (by assumption) hn) (fun r2 h2 e2 => ?_)
        obtain ⟨rfl, rfl⟩ := e2
        first | refine pb_if_eqN g 16 dX8_leads_5 (by decide) (by omega) (fun c5 => ?_) (fun c5 => ?_) | refine pb_if_eq g 16 dX8_leads_5 (by decide) (fun c5 => ?_) (fun c5 => ?_)
        · exact absurd c5 (by decide)
        · refine pb_aload_n0 g dX8_leads_8 ?_
          refine pb_iload_n2 g dX8_leads_9 ?_
          refine pb_Vi1 g qX8_98 dX8_leads_10 (k + 5) (by omega) mr_o (m_isPlaceT (k + 5) (by assumption) hn) (fun r10 h10 e10 => ?_)
          obtain ⟨rfl, rfl⟩ := e10
          first | refine pb_if_neN g 19 dX8_leads_13 (by decide) (by omega) (fun c13 => ?_) (fun c13 => ?_) | refine pb_if_ne g 19 dX8_leads_13 (by decide) (fun c13 => ?_) (fun c13 => ?_)
          · refine pb_aload_n0 g dX8_leads_19 ?_
            refine pb_getf g fX8_7 dX8_leads_20 mr_o rfl ?_
            refine pb_iconst (v := nI 2) g dX8_leads_23 (by decide) ?_
            first | refine pb_iremN g dX8_leads_24 (by omega) (by omega) (by omega) ?_ | refine pb_irem g dX8_leads_24 (by assumption) ?_
            refine pb_iconst (v := nI 1) g dX8_leads_25 (by decide) ?_
            first | refine pb_icmp_neN g 32 dX8_leads_26 (by decide) (by omega) (by omega) (fun c26 => ?_) (fun c26 => ?_) | refine pb_icmp_ne g 32 dX8_leads_26 (by decide) (fun c26 => ?_) (fun c26 => ?_)
            · refine pb_aload_n0 g dX8_leads_32 ?_
              refine pb_iload_n2 g dX8_leads_33 ?_
              refine pb_Vv1 g qX8_189 dX8_leads_34 (k + 5) (by omega) mr_o (m_fars (k + 4) (n := n) (j := j0) heven hn hj0) (fun h34 e34 => ?_)
              obtain ⟨f9, rfl, hf9⟩ := e34
              refine pb_aload_n0 g dX8_leads_37 ?_
              refine pb_getf g fX8_45 dX8_leads_38 mr_o rfl ?_
              refine pb_iload_n1 g dX8_leads_41 ?_
              first | refine pb_ialdN g dX8_leads_42 (by first | exact mr_far | exact mr_order | exact mr_kind | exact mr_heaps | exact mr_m | exact mr_line | exact mr_other | exact mr_ways | exact mr_next | exact mr_chances | exact mr_after | exact mr_groups | exact mr_found | exact mr_counts | exact mr_traySort | exact mr_traySize | exact mr_cells | exact mr_moved | exact mr_traced | assumption) (by omega) (by omega) ?_ | refine pb_ald0 g dX8_leads_42 (by omega) ?_ | refine pb_ald1 g dX8_leads_42 (by omega) ?_ | refine pb_ald2 g dX8_leads_42 (by omega) ?_ | refine pb_ald3 g dX8_leads_42 (by omega) ?_ | refine pb_iald g dX8_leads_42 (by first | exact mr_far | exact mr_order | exact mr_kind | exact mr_heaps | exact mr_m | exact mr_line | exact mr_other | exact mr_ways | exact mr_next | exact mr_chances | exact mr_after | exact mr_groups | exact mr_found | exact mr_counts | exact mr_traySort | exact mr_traySize | exact mr_cells | exact mr_moved | exact mr_traced | assumption) (by assumption) ?_
              rw [hf9 i0 hi0]
              refine pb_iret g z dX8_leads_43 ?_
              exact ⟨_, rfl, by rw [e], ⟨_, _, _, _, _, _, _, _, _, _, _, _, _, _, _, _, _, _, _, rfl, d1, d2, d3, d4, d5⟩⟩
            · exact absurd c26 hodd
          · exact absurd c13 (by decide)
set_option maxHeartbeats 4000000 in
set_option maxRecDepth 100000 in
theorem m_lead (k : Nat) (q : SP) (i j x : Int32) (h : PH) (hD : IsM q h) (hI : SI q) : Runs yX8_lead cX8_lead 7 (some .int) (k + 6) [.ref 0, .int i, .int j, .int x] h (fun oo h' => ∃ r : Int32, oo = some (.int r) ∧ r = sLead q i j x ∧ IsM (q) h') := by
  obtain ⟨⟨n, P, S, sd⟩, ⟨σ, μ, K, Hh⟩, ⟨ts, zz, it⟩, ⟨ra, tr⟩⟩ := q
  obtain ⟨⟨hn1, hn, hP, hS⟩, hσ, hK, hz, hra⟩ := hI
  obtain ⟨xod, xkn, xhs, xmm, xln, xot, xfa, xgr, xtsr, xtsz, xce, xmv, xtc, xwy, xnx, xch, xaf, xfo, xco, rfl, d1, d2, d3, d4, d5⟩ := hD
  refine Runs.of (by decide) (Nat.le_of_ble_eq_true rfl) [some (.ref 0), some (.int i), some (.int j), some (.int x), none, none, none] 3 rfl (fun Γ g z => ?_)
  cases hi : ix i n with
  | none =>
    have e : sLead ((n, P, S, sd), (σ, μ, K, Hh), (ts, zz, it), (ra, tr)) i j x = -2 := by simp only [sLead, hi]
    have hin := ix_none (by omega) hi
    refine pb_aload_n0 g dX8_lead_0 ?_
    refine pb_iload_n1 g dX8_lead_1 ?_
    refine pb_Vi1 g qX8_98 dX8_lead_2 (k + 5) (by omega) mr_o (m_isPlaceF (k + 5) (by assumption) hn) (fun r2 h2 e2 => ?_)
    obtain ⟨rfl, rfl⟩ := e2
    first | refine pb_if_eqN g 16 dX8_lead_5 (by decide) (by omega) (fun c5 => ?_) (fun c5 => ?_) | refine pb_if_eq g 16 dX8_lead_5 (by decide) (fun c5 => ?_) (fun c5 => ?_)
    · refine pb_bipush (v := -2) g dX8_lead_16 (by decide) ?_
      refine pb_iret g z dX8_lead_18 ?_
      exact ⟨_, rfl, by rw [e], ⟨_, _, _, _, _, _, _, _, _, _, _, _, _, _, _, _, _, _, _, rfl, d1, d2, d3, d4, d5⟩⟩
    · exact absurd c5 (by decide)
  | some i0 =>
    obtain ⟨hi0, rfl⟩ := ix_some (by omega) hi
    cases hj : ix j n with
    | none =>
      have e : sLead ((n, P, S, sd), (σ, μ, K, Hh), (ts, zz, it), (ra, tr)) (nI i0) j x = -2 := by simp only [sLead, hi, hj]
      have hjn := ix_none (by omega) hj
      refine pb_aload_n0 g dX8_lead_0 ?_
      refine pb_iload_n1 g dX8_lead_1 ?_
      refine pb_Vi1 g qX8_98 dX8_lead_2 (k + 5) (by omega) mr_o (m_isPlaceT (k + 5) (by assumption) hn) (fun r2 h2 e2 => ?_)
      obtain ⟨rfl, rfl⟩ := e2
      first | refine pb_if_eqN g 16 dX8_lead_5 (by decide) (by omega) (fun c5 => ?_) (fun c5 => ?_) | refine pb_if_eq g 16 dX8_lead_5 (by decide) (fun c5 => ?_) (fun c5 => ?_)
      · exact absurd c5 (by decide)
      · refine pb_aload_n0 g dX8_lead_8 ?_
        refine pb_iload_n2 g dX8_lead_9 ?_
        refine pb_Vi1 g qX8_98 dX8_lead_10 (k + 5) (by omega) mr_o (m_isPlaceF (k + 5) (by assumption) hn) (fun r10 h10 e10 => ?_)
        obtain ⟨rfl, rfl⟩ := e10
        first | refine pb_if_neN g 19 dX8_lead_13 (by decide) (by omega) (fun c13 => ?_) (fun c13 => ?_) | refine pb_if_ne g 19 dX8_lead_13 (by decide) (fun c13 => ?_) (fun c13 => ?_)
        · exact absurd c13 (by decide)
        · refine pb_bipush (v := -2) g dX8_lead_16 (by decide) ?_
          refine pb_iret g z dX8_lead_18 ?_
          exact ⟨_, rfl, by rw [e], ⟨_, _, _, _, _, _, _, _, _, _, _, _, _, _, _, _, _, _, _, rfl, d1, d2, d3, d4, d5⟩⟩
    | some j0 =>
      obtain ⟨hj0, rfl⟩ := ix_some (by omega) hj
      by_cases hodd : n % 2 = 1
      · have e : sLead ((n, P, S, sd), (σ, μ, K, Hh), (ts, zz, it), (ra, tr)) (nI i0) (nI j0) x = -3 := by
          simp only [sLead, hi, hj]
          exact if_pos hodd
        refine pb_aload_n0 g dX8_lead_0 ?_
        refine pb_iload_n1 g dX8_lead_1 ?_
        refine pb_Vi1 g qX8_98 dX8_lead_2 (k + 5) (by omega) mr_o (m_isPlaceT (k + 5) (by assumption) hn) (fun r2 h2 e2 => ?_)
        obtain ⟨rfl, rfl⟩ := e2
        first | refine pb_if_eqN g 16 dX8_lead_5 (by decide) (by omega) (fun c5 => ?_) (fun c5 => ?_) | refine pb_if_eq g 16 dX8_lead_5 (by decide) (fun c5 => ?_) (fun c5 => ?_)
        · exact absurd c5 (by decide)
        · refine pb_aload_n0 g dX8_lead_8 ?_
          refine pb_iload_n2 g dX8_lead_9 ?_
          refine pb_Vi1 g qX8_98 dX8_lead_10 (k + 5) (by omega) mr_o (m_isPlaceT (k + 5) (by assumption) hn) (fun r10 h10 e10 => ?_)
          obtain ⟨rfl, rfl⟩ := e10
          first | refine pb_if_neN g 19 dX8_lead_13 (by decide) (by omega) (fun c13 => ?_) (fun c13 => ?_) | refine pb_if_ne g 19 dX8_lead_13 (by decide) (fun c13 => ?_) (fun c13 => ?_)
          · refine pb_aload_n0 g dX8_lead_19 ?_
            refine pb_getf g fX8_7 dX8_lead_20 mr_o rfl ?_
            refine pb_iconst (v := nI 2) g dX8_lead_23 (by decide) ?_
            first | refine pb_iremN g dX8_lead_24 (by omega) (by omega) (by omega) ?_ | refine pb_irem g dX8_lead_24 (by assumption) ?_
            refine pb_iconst (v := nI 1) g dX8_lead_25 (by decide) ?_
            first | refine pb_icmp_neN g 32 dX8_lead_26 (by decide) (by omega) (by omega) (fun c26 => ?_) (fun c26 => ?_) | refine pb_icmp_ne g 32 dX8_lead_26 (by decide) (fun c26 => ?_) (fun c26 => ?_)
            · exact absurd hodd c26
            · refine pb_bipush (v := -3) g dX8_lead_29 (by decide) ?_
              refine pb_iret g z dX8_lead_31 ?_
              exact ⟨_, rfl, by rw [e], ⟨_, _, _, _, _, _, _, _, _, _, _, _, _, _, _, _, _, _, _, rfl, d1, d2, d3, d4, d5⟩⟩
          · exact absurd c13 (by decide)
      · have heven : n % 2 = 0 := by omega
        have ld := ld_ok n (by omega) heven j0 hj0 i0 hi0
        have hd4 := (dd_ok n (by omega) heven j0 hj0 i0 hi0).1
        cases hx : ix x (shF n i0 j0).log2 with
        | none =>
          have e : sLead ((n, P, S, sd), (σ, μ, K, Hh), (ts, zz, it), (ra, tr)) (nI i0) (nI j0) x = -1 := by
            simp only [sLead, hi, hj]
            rw [if_neg hodd]
            simp only [hx]
          have hxn : ¬ inN x (ddF n j0 i0) := ix_none (Nat.lt_of_le_of_lt hd4 (by decide)) hx
          have loop : ∀ f9 : Nat → Int32, (∀ i, i < n → f9 i = nI (ddF n j0 i)) → ∀ t, t ≤ ddF n j0 i0 → ∀ w6 : Option Value, PB Γ 43 [some (.ref 0), some (.int (nI i0)), some (.int (nI j0)), some (.int x), some (.int (nI (ptF n j0 i0 t))), some (.int (nI t)), w6] [] (mkH 20 (mdF (nI n) (nI P) (nI S) (sd) xod xkn xhs xmm xln xot xwy xnx xch xaf (f9) xgr xfo xco xtsr xtsz xce xmv xtc (nI ra))) := by
            intro f9 hf9
            refine pb_loop _ (fun t ht ih w6 => ?_)
            obtain ⟨l1, l2, l3⟩ := ld t ht
            have hfp := hf9 _ l1
            rw [l2] at hfp
            have hg0 := carF_lt heven l1 (show 0 < 2 by decide)
            have hfg := hf9 _ hg0
            have hgd := (dd_ok n (by omega) heven j0 hj0 _ hg0).1
            by_cases hlt : t < ddF n j0 i0
            · have ih := ih hlt
              rw [ptF] at ih
              by_cases hw0 : ddF n j0 (carF n (ptF n j0 i0 t) 0) = ddF n j0 i0 - t - 1
              · have hwy : wyF n j0 (ptF n j0 i0 t) = 0 := by rw [wyF, if_pos (by rw [l2]; exact hw0)]
                rw [hwy] at ih
                refine pb_aload_n0 g dX8_lead_43 ?_
                refine pb_getf g fX8_45 dX8_lead_44 mr_o rfl ?_
                refine pb_iload4 g dX8_lead_47 ?_
                first | refine pb_ialdN g dX8_lead_49 (by first | exact mr_far | exact mr_order | exact mr_kind | exact mr_heaps | exact mr_m | exact mr_line | exact mr_other | exact mr_ways | exact mr_next | exact mr_chances | exact mr_after | exact mr_groups | exact mr_found | exact mr_counts | exact mr_traySort | exact mr_traySize | exact mr_cells | exact mr_moved | exact mr_traced | assumption) (by omega) (by omega) ?_ | refine pb_ald0 g dX8_lead_49 (by omega) ?_ | refine pb_ald1 g dX8_lead_49 (by omega) ?_ | refine pb_ald2 g dX8_lead_49 (by omega) ?_ | refine pb_ald3 g dX8_lead_49 (by omega) ?_ | refine pb_iald g dX8_lead_49 (by first | exact mr_far | exact mr_order | exact mr_kind | exact mr_heaps | exact mr_m | exact mr_line | exact mr_other | exact mr_ways | exact mr_next | exact mr_chances | exact mr_after | exact mr_groups | exact mr_found | exact mr_counts | exact mr_traySort | exact mr_traySize | exact mr_cells | exact mr_moved | exact mr_traced | assumption) (by assumption) ?_
                rw [hfp]
                first | refine pb_if_leN g 109 dX8_lead_50 (by decide) (by omega) (fun c50 => ?_) (fun c50 => ?_) | refine pb_if_le g 109 dX8_lead_50 (by decide) (fun c50 => ?_) (fun c50 => ?_)
                · exact absurd c50 (by omega)
                · refine pb_aload_n0 g dX8_lead_53 ?_
                  refine pb_getf g fX8_45 dX8_lead_54 mr_o rfl ?_
                  refine pb_aload_n0 g dX8_lead_57 ?_
                  refine pb_iconst (v := nI 0) g dX8_lead_58 (by decide) ?_
                  refine pb_iload4 g dX8_lead_59 ?_
                  refine pb_Vi2 g qX8_120 dX8_lead_61 (k + 5) (by omega) mr_o (m_goes (k + 5) (n := n) (i := ptF n j0 i0 t) (w := 0) l1 (by omega) hn) (fun r61 h61 e61 => ?_)
                  obtain ⟨rfl, rfl⟩ := e61
                  first | refine pb_ialdN g dX8_lead_64 (by first | exact mr_far | exact mr_order | exact mr_kind | exact mr_heaps | exact mr_m | exact mr_line | exact mr_other | exact mr_ways | exact mr_next | exact mr_chances | exact mr_after | exact mr_groups | exact mr_found | exact mr_counts | exact mr_traySort | exact mr_traySize | exact mr_cells | exact mr_moved | exact mr_traced | assumption) (by omega) (by omega) ?_ | refine pb_ald0 g dX8_lead_64 (by omega) ?_ | refine pb_ald1 g dX8_lead_64 (by omega) ?_ | refine pb_ald2 g dX8_lead_64 (by omega) ?_ | refine pb_ald3 g dX8_lead_64 (by omega) ?_ | refine pb_iald g dX8_lead_64 (by first | exact mr_far | exact mr_order | exact mr_kind | exact mr_heaps | exact mr_m | exact mr_line | exact mr_other | exact mr_ways | exact mr_next | exact mr_chances | exact mr_after | exact mr_groups | exact mr_found | exact mr_counts | exact mr_traySort | exact mr_traySize | exact mr_cells | exact mr_moved | exact mr_traced | assumption) (by assumption) ?_
                  rw [hfg]
                  refine pb_aload_n0 g dX8_lead_65 ?_
                  refine pb_getf g fX8_45 dX8_lead_66 mr_o rfl ?_
                  refine pb_iload4 g dX8_lead_69 ?_
                  first | refine pb_ialdN g dX8_lead_71 (by first | exact mr_far | exact mr_order | exact mr_kind | exact mr_heaps | exact mr_m | exact mr_line | exact mr_other | exact mr_ways | exact mr_next | exact mr_chances | exact mr_after | exact mr_groups | exact mr_found | exact mr_counts | exact mr_traySort | exact mr_traySize | exact mr_cells | exact mr_moved | exact mr_traced | assumption) (by omega) (by omega) ?_ | refine pb_ald0 g dX8_lead_71 (by omega) ?_ | refine pb_ald1 g dX8_lead_71 (by omega) ?_ | refine pb_ald2 g dX8_lead_71 (by omega) ?_ | refine pb_ald3 g dX8_lead_71 (by omega) ?_ | refine pb_iald g dX8_lead_71 (by first | exact mr_far | exact mr_order | exact mr_kind | exact mr_heaps | exact mr_m | exact mr_line | exact mr_other | exact mr_ways | exact mr_next | exact mr_chances | exact mr_after | exact mr_groups | exact mr_found | exact mr_counts | exact mr_traySort | exact mr_traySize | exact mr_cells | exact mr_moved | exact mr_traced | assumption) (by assumption) ?_
                  rw [hfp]
                  refine pb_iconst (v := nI 1) g dX8_lead_72 (by decide) ?_
                  first | refine pb_isubN g dX8_lead_73 (by omega) ?_ | refine pb_isub g dX8_lead_73 ?_
                  first | refine pb_icmp_neN g 81 dX8_lead_74 (by decide) (by omega) (by omega) (fun c74 => ?_) (fun c74 => ?_) | refine pb_icmp_ne g 81 dX8_lead_74 (by decide) (fun c74 => ?_) (fun c74 => ?_)
                  · exact absurd hw0 c74
                  · refine pb_iconst (v := nI 0) g dX8_lead_77 (by decide) ?_
                    refine pb_goto g 82 dX8_lead_78 (by decide) ?_
                    refine pb_istore6 g dX8_lead_82 (by decide) ?_
                    refine pb_iload5 g dX8_lead_84 ?_
                    refine pb_iload_n3 g dX8_lead_86 ?_
                    first | refine pb_icmp_neN g 93 dX8_lead_87 (by decide) (by omega) (by omega) (fun c87 => ?_) (fun c87 => ?_) | refine pb_icmp_ne g 93 dX8_lead_87 (by decide) (fun c87 => ?_) (fun c87 => ?_)
                    · refine pb_aload_n0 g dX8_lead_93 ?_
                      refine pb_iload6 g dX8_lead_94 ?_
                      refine pb_iload4 g dX8_lead_96 ?_
                      refine pb_Vi2 g qX8_120 dX8_lead_98 (k + 5) (by omega) mr_o (m_goes (k + 5) (n := n) (i := ptF n j0 i0 t) (w := 0) l1 (by omega) hn) (fun r98 h98 e98 => ?_)
                      obtain ⟨rfl, rfl⟩ := e98
                      refine pb_istore4 g dX8_lead_101 (by decide) ?_
                      first | refine pb_iinc5N g dX8_lead_103 (by decide) ?_ | refine pb_iinc5 g dX8_lead_103 (by decide) rfl ?_
                      refine pb_goto g 43 dX8_lead_106 (by decide) ?_
                      exact ih _
                    · exact absurd ⟨t, hlt, c87.symm⟩ hxn
              · have hwy : wyF n j0 (ptF n j0 i0 t) = 1 := by rw [wyF, if_neg (by rw [l2]; exact hw0)]
                rw [hwy] at ih
                refine pb_aload_n0 g dX8_lead_43 ?_
                refine pb_getf g fX8_45 dX8_lead_44 mr_o rfl ?_
                refine pb_iload4 g dX8_lead_47 ?_
                first | refine pb_ialdN g dX8_lead_49 (by first | exact mr_far | exact mr_order | exact mr_kind | exact mr_heaps | exact mr_m | exact mr_line | exact mr_other | exact mr_ways | exact mr_next | exact mr_chances | exact mr_after | exact mr_groups | exact mr_found | exact mr_counts | exact mr_traySort | exact mr_traySize | exact mr_cells | exact mr_moved | exact mr_traced | assumption) (by omega) (by omega) ?_ | refine pb_ald0 g dX8_lead_49 (by omega) ?_ | refine pb_ald1 g dX8_lead_49 (by omega) ?_ | refine pb_ald2 g dX8_lead_49 (by omega) ?_ | refine pb_ald3 g dX8_lead_49 (by omega) ?_ | refine pb_iald g dX8_lead_49 (by first | exact mr_far | exact mr_order | exact mr_kind | exact mr_heaps | exact mr_m | exact mr_line | exact mr_other | exact mr_ways | exact mr_next | exact mr_chances | exact mr_after | exact mr_groups | exact mr_found | exact mr_counts | exact mr_traySort | exact mr_traySize | exact mr_cells | exact mr_moved | exact mr_traced | assumption) (by assumption) ?_
                rw [hfp]
                first | refine pb_if_leN g 109 dX8_lead_50 (by decide) (by omega) (fun c50 => ?_) (fun c50 => ?_) | refine pb_if_le g 109 dX8_lead_50 (by decide) (fun c50 => ?_) (fun c50 => ?_)
                · exact absurd c50 (by omega)
                · refine pb_aload_n0 g dX8_lead_53 ?_
                  refine pb_getf g fX8_45 dX8_lead_54 mr_o rfl ?_
                  refine pb_aload_n0 g dX8_lead_57 ?_
                  refine pb_iconst (v := nI 0) g dX8_lead_58 (by decide) ?_
                  refine pb_iload4 g dX8_lead_59 ?_
                  refine pb_Vi2 g qX8_120 dX8_lead_61 (k + 5) (by omega) mr_o (m_goes (k + 5) (n := n) (i := ptF n j0 i0 t) (w := 0) l1 (by omega) hn) (fun r61 h61 e61 => ?_)
                  obtain ⟨rfl, rfl⟩ := e61
                  first | refine pb_ialdN g dX8_lead_64 (by first | exact mr_far | exact mr_order | exact mr_kind | exact mr_heaps | exact mr_m | exact mr_line | exact mr_other | exact mr_ways | exact mr_next | exact mr_chances | exact mr_after | exact mr_groups | exact mr_found | exact mr_counts | exact mr_traySort | exact mr_traySize | exact mr_cells | exact mr_moved | exact mr_traced | assumption) (by omega) (by omega) ?_ | refine pb_ald0 g dX8_lead_64 (by omega) ?_ | refine pb_ald1 g dX8_lead_64 (by omega) ?_ | refine pb_ald2 g dX8_lead_64 (by omega) ?_ | refine pb_ald3 g dX8_lead_64 (by omega) ?_ | refine pb_iald g dX8_lead_64 (by first | exact mr_far | exact mr_order | exact mr_kind | exact mr_heaps | exact mr_m | exact mr_line | exact mr_other | exact mr_ways | exact mr_next | exact mr_chances | exact mr_after | exact mr_groups | exact mr_found | exact mr_counts | exact mr_traySort | exact mr_traySize | exact mr_cells | exact mr_moved | exact mr_traced | assumption) (by assumption) ?_
                  rw [hfg]
                  refine pb_aload_n0 g dX8_lead_65 ?_
                  refine pb_getf g fX8_45 dX8_lead_66 mr_o rfl ?_
                  refine pb_iload4 g dX8_lead_69 ?_
                  first | refine pb_ialdN g dX8_lead_71 (by first | exact mr_far | exact mr_order | exact mr_kind | exact mr_heaps | exact mr_m | exact mr_line | exact mr_other | exact mr_ways | exact mr_next | exact mr_chances | exact mr_after | exact mr_groups | exact mr_found | exact mr_counts | exact mr_traySort | exact mr_traySize | exact mr_cells | exact mr_moved | exact mr_traced | assumption) (by omega) (by omega) ?_ | refine pb_ald0 g dX8_lead_71 (by omega) ?_ | refine pb_ald1 g dX8_lead_71 (by omega) ?_ | refine pb_ald2 g dX8_lead_71 (by omega) ?_ | refine pb_ald3 g dX8_lead_71 (by omega) ?_ | refine pb_iald g dX8_lead_71 (by first | exact mr_far | exact mr_order | exact mr_kind | exact mr_heaps | exact mr_m | exact mr_line | exact mr_other | exact mr_ways | exact mr_next | exact mr_chances | exact mr_after | exact mr_groups | exact mr_found | exact mr_counts | exact mr_traySort | exact mr_traySize | exact mr_cells | exact mr_moved | exact mr_traced | assumption) (by assumption) ?_
                  rw [hfp]
                  refine pb_iconst (v := nI 1) g dX8_lead_72 (by decide) ?_
                  first | refine pb_isubN g dX8_lead_73 (by omega) ?_ | refine pb_isub g dX8_lead_73 ?_
                  first | refine pb_icmp_neN g 81 dX8_lead_74 (by decide) (by omega) (by omega) (fun c74 => ?_) (fun c74 => ?_) | refine pb_icmp_ne g 81 dX8_lead_74 (by decide) (fun c74 => ?_) (fun c74 => ?_)
                  · refine pb_iconst (v := nI 1) g dX8_lead_81 (by decide) ?_
                    refine pb_istore6 g dX8_lead_82 (by decide) ?_
                    refine pb_iload5 g dX8_lead_84 ?_
                    refine pb_iload_n3 g dX8_lead_86 ?_
                    first | refine pb_icmp_neN g 93 dX8_lead_87 (by decide) (by omega) (by omega) (fun c87 => ?_) (fun c87 => ?_) | refine pb_icmp_ne g 93 dX8_lead_87 (by decide) (fun c87 => ?_) (fun c87 => ?_)
                    · refine pb_aload_n0 g dX8_lead_93 ?_
                      refine pb_iload6 g dX8_lead_94 ?_
                      refine pb_iload4 g dX8_lead_96 ?_
                      refine pb_Vi2 g qX8_120 dX8_lead_98 (k + 5) (by omega) mr_o (m_goes (k + 5) (n := n) (i := ptF n j0 i0 t) (w := 1) l1 (by omega) hn) (fun r98 h98 e98 => ?_)
                      obtain ⟨rfl, rfl⟩ := e98
                      refine pb_istore4 g dX8_lead_101 (by decide) ?_
                      first | refine pb_iinc5N g dX8_lead_103 (by decide) ?_ | refine pb_iinc5 g dX8_lead_103 (by decide) rfl ?_
                      refine pb_goto g 43 dX8_lead_106 (by decide) ?_
                      exact ih _
                    · exact absurd ⟨t, hlt, c87.symm⟩ hxn
                  · exact absurd c74 hw0
            · have : True := trivial
              refine pb_aload_n0 g dX8_lead_43 ?_
              refine pb_getf g fX8_45 dX8_lead_44 mr_o rfl ?_
              refine pb_iload4 g dX8_lead_47 ?_
              first | refine pb_ialdN g dX8_lead_49 (by first | exact mr_far | exact mr_order | exact mr_kind | exact mr_heaps | exact mr_m | exact mr_line | exact mr_other | exact mr_ways | exact mr_next | exact mr_chances | exact mr_after | exact mr_groups | exact mr_found | exact mr_counts | exact mr_traySort | exact mr_traySize | exact mr_cells | exact mr_moved | exact mr_traced | assumption) (by omega) (by omega) ?_ | refine pb_ald0 g dX8_lead_49 (by omega) ?_ | refine pb_ald1 g dX8_lead_49 (by omega) ?_ | refine pb_ald2 g dX8_lead_49 (by omega) ?_ | refine pb_ald3 g dX8_lead_49 (by omega) ?_ | refine pb_iald g dX8_lead_49 (by first | exact mr_far | exact mr_order | exact mr_kind | exact mr_heaps | exact mr_m | exact mr_line | exact mr_other | exact mr_ways | exact mr_next | exact mr_chances | exact mr_after | exact mr_groups | exact mr_found | exact mr_counts | exact mr_traySort | exact mr_traySize | exact mr_cells | exact mr_moved | exact mr_traced | assumption) (by assumption) ?_
              rw [hfp]
              first | refine pb_if_leN g 109 dX8_lead_50 (by decide) (by omega) (fun c50 => ?_) (fun c50 => ?_) | refine pb_if_le g 109 dX8_lead_50 (by decide) (fun c50 => ?_) (fun c50 => ?_)
              · refine pb_iconst (v := -1) g dX8_lead_109 (by decide) ?_
                refine pb_iret g z dX8_lead_110 ?_
                exact ⟨_, rfl, by rw [e], ⟨_, _, _, _, _, _, _, _, _, _, _, _, _, _, _, _, _, _, _, rfl, d1, d2, d3, d4, d5⟩⟩
              · exact absurd c50 (by omega)
          refine pb_aload_n0 g dX8_lead_0 ?_
          refine pb_iload_n1 g dX8_lead_1 ?_
          refine pb_Vi1 g qX8_98 dX8_lead_2 (k + 5) (by omega) mr_o (m_isPlaceT (k + 5) (by assumption) hn) (fun r2 h2 e2 => ?_)
          obtain ⟨rfl, rfl⟩ := e2
          first | refine pb_if_eqN g 16 dX8_lead_5 (by decide) (by omega) (fun c5 => ?_) (fun c5 => ?_) | refine pb_if_eq g 16 dX8_lead_5 (by decide) (fun c5 => ?_) (fun c5 => ?_)
          · exact absurd c5 (by decide)
          · refine pb_aload_n0 g dX8_lead_8 ?_
            refine pb_iload_n2 g dX8_lead_9 ?_
            refine pb_Vi1 g qX8_98 dX8_lead_10 (k + 5) (by omega) mr_o (m_isPlaceT (k + 5) (by assumption) hn) (fun r10 h10 e10 => ?_)
            obtain ⟨rfl, rfl⟩ := e10
            first | refine pb_if_neN g 19 dX8_lead_13 (by decide) (by omega) (fun c13 => ?_) (fun c13 => ?_) | refine pb_if_ne g 19 dX8_lead_13 (by decide) (fun c13 => ?_) (fun c13 => ?_)
            · refine pb_aload_n0 g dX8_lead_19 ?_
              refine pb_getf g fX8_7 dX8_lead_20 mr_o rfl ?_
              refine pb_iconst (v := nI 2) g dX8_lead_23 (by decide) ?_
              first | refine pb_iremN g dX8_lead_24 (by omega) (by omega) (by omega) ?_ | refine pb_irem g dX8_lead_24 (by assumption) ?_
              refine pb_iconst (v := nI 1) g dX8_lead_25 (by decide) ?_
              first | refine pb_icmp_neN g 32 dX8_lead_26 (by decide) (by omega) (by omega) (fun c26 => ?_) (fun c26 => ?_) | refine pb_icmp_ne g 32 dX8_lead_26 (by decide) (fun c26 => ?_) (fun c26 => ?_)
              · refine pb_aload_n0 g dX8_lead_32 ?_
                refine pb_iload_n2 g dX8_lead_33 ?_
                refine pb_Vv1 g qX8_189 dX8_lead_34 (k + 5) (by omega) mr_o (m_fars (k + 4) (n := n) (j := j0) heven hn hj0) (fun h34 e34 => ?_)
                obtain ⟨f9, rfl, hf9⟩ := e34
                refine pb_iload_n1 g dX8_lead_37 ?_
                refine pb_istore4 g dX8_lead_38 (by decide) ?_
                refine pb_iconst (v := nI 0) g dX8_lead_40 (by decide) ?_
                refine pb_istore5 g dX8_lead_41 (by decide) ?_
                exact loop f9 hf9 0 (Nat.zero_le _) _
              · exact absurd c26 hodd
            · exact absurd c13 (by decide)
        | some c0 =>
          obtain ⟨hc0, rfl⟩ := ix_some (Nat.lt_of_le_of_lt hd4 (by decide)) hx
          have hc0 : c0 < ddF n j0 i0 := hc0
          have e : sLead ((n, P, S, sd), (σ, μ, K, Hh), (ts, zz, it), (ra, tr)) (nI i0) (nI j0) (nI c0) = nI (shF n i0 j0 / 2 ^ (ddF n j0 i0 - 1 - c0) % 2) := by
            simp only [sLead, hi, hj]
            rw [if_neg hodd]
            simp only [hx]
            rfl
          have loop : ∀ f9 : Nat → Int32, (∀ i, i < n → f9 i = nI (ddF n j0 i)) → ∀ t, t ≤ c0 → ∀ w6 : Option Value, PB Γ 43 [some (.ref 0), some (.int (nI i0)), some (.int (nI j0)), some (.int (nI c0)), some (.int (nI (ptF n j0 i0 t))), some (.int (nI t)), w6] [] (mkH 20 (mdF (nI n) (nI P) (nI S) (sd) xod xkn xhs xmm xln xot xwy xnx xch xaf (f9) xgr xfo xco xtsr xtsz xce xmv xtc (nI ra))) := by
            intro f9 hf9
            refine pb_loop _ (fun t ht ih w6 => ?_)
            have hlt : t < ddF n j0 i0 := by omega
            obtain ⟨l1, l2, l3⟩ := ld t (by omega)
            have l3 := l3 hlt
            have hfp := hf9 _ l1
            rw [l2] at hfp
            have hg0 := carF_lt heven l1 (show 0 < 2 by decide)
            have hfg := hf9 _ hg0
            have hgd := (dd_ok n (by omega) heven j0 hj0 _ hg0).1
            rw [ptF] at ih
            by_cases hw0 : ddF n j0 (carF n (ptF n j0 i0 t) 0) = ddF n j0 i0 - t - 1
            · have hwy : wyF n j0 (ptF n j0 i0 t) = 0 := by rw [wyF, if_pos (by rw [l2]; exact hw0)]
              rw [hwy] at ih l3
              refine pb_aload_n0 g dX8_lead_43 ?_
              refine pb_getf g fX8_45 dX8_lead_44 mr_o rfl ?_
              refine pb_iload4 g dX8_lead_47 ?_
              first | refine pb_ialdN g dX8_lead_49 (by first | exact mr_far | exact mr_order | exact mr_kind | exact mr_heaps | exact mr_m | exact mr_line | exact mr_other | exact mr_ways | exact mr_next | exact mr_chances | exact mr_after | exact mr_groups | exact mr_found | exact mr_counts | exact mr_traySort | exact mr_traySize | exact mr_cells | exact mr_moved | exact mr_traced | assumption) (by omega) (by omega) ?_ | refine pb_ald0 g dX8_lead_49 (by omega) ?_ | refine pb_ald1 g dX8_lead_49 (by omega) ?_ | refine pb_ald2 g dX8_lead_49 (by omega) ?_ | refine pb_ald3 g dX8_lead_49 (by omega) ?_ | refine pb_iald g dX8_lead_49 (by first | exact mr_far | exact mr_order | exact mr_kind | exact mr_heaps | exact mr_m | exact mr_line | exact mr_other | exact mr_ways | exact mr_next | exact mr_chances | exact mr_after | exact mr_groups | exact mr_found | exact mr_counts | exact mr_traySort | exact mr_traySize | exact mr_cells | exact mr_moved | exact mr_traced | assumption) (by assumption) ?_
              rw [hfp]
              first | refine pb_if_leN g 109 dX8_lead_50 (by decide) (by omega) (fun c50 => ?_) (fun c50 => ?_) | refine pb_if_le g 109 dX8_lead_50 (by decide) (fun c50 => ?_) (fun c50 => ?_)
              · exact absurd c50 (by omega)
              · refine pb_aload_n0 g dX8_lead_53 ?_
                refine pb_getf g fX8_45 dX8_lead_54 mr_o rfl ?_
                refine pb_aload_n0 g dX8_lead_57 ?_
                refine pb_iconst (v := nI 0) g dX8_lead_58 (by decide) ?_
                refine pb_iload4 g dX8_lead_59 ?_
                refine pb_Vi2 g qX8_120 dX8_lead_61 (k + 5) (by omega) mr_o (m_goes (k + 5) (n := n) (i := ptF n j0 i0 t) (w := 0) l1 (by omega) hn) (fun r61 h61 e61 => ?_)
                obtain ⟨rfl, rfl⟩ := e61
                first | refine pb_ialdN g dX8_lead_64 (by first | exact mr_far | exact mr_order | exact mr_kind | exact mr_heaps | exact mr_m | exact mr_line | exact mr_other | exact mr_ways | exact mr_next | exact mr_chances | exact mr_after | exact mr_groups | exact mr_found | exact mr_counts | exact mr_traySort | exact mr_traySize | exact mr_cells | exact mr_moved | exact mr_traced | assumption) (by omega) (by omega) ?_ | refine pb_ald0 g dX8_lead_64 (by omega) ?_ | refine pb_ald1 g dX8_lead_64 (by omega) ?_ | refine pb_ald2 g dX8_lead_64 (by omega) ?_ | refine pb_ald3 g dX8_lead_64 (by omega) ?_ | refine pb_iald g dX8_lead_64 (by first | exact mr_far | exact mr_order | exact mr_kind | exact mr_heaps | exact mr_m | exact mr_line | exact mr_other | exact mr_ways | exact mr_next | exact mr_chances | exact mr_after | exact mr_groups | exact mr_found | exact mr_counts | exact mr_traySort | exact mr_traySize | exact mr_cells | exact mr_moved | exact mr_traced | assumption) (by assumption) ?_
                rw [hfg]
                refine pb_aload_n0 g dX8_lead_65 ?_
                refine pb_getf g fX8_45 dX8_lead_66 mr_o rfl ?_
                refine pb_iload4 g dX8_lead_69 ?_
                first | refine pb_ialdN g dX8_lead_71 (by first | exact mr_far | exact mr_order | exact mr_kind | exact mr_heaps | exact mr_m | exact mr_line | exact mr_other | exact mr_ways | exact mr_next | exact mr_chances | exact mr_after | exact mr_groups | exact mr_found | exact mr_counts | exact mr_traySort | exact mr_traySize | exact mr_cells | exact mr_moved | exact mr_traced | assumption) (by omega) (by omega) ?_ | refine pb_ald0 g dX8_lead_71 (by omega) ?_ | refine pb_ald1 g dX8_lead_71 (by omega) ?_ | refine pb_ald2 g dX8_lead_71 (by omega) ?_ | refine pb_ald3 g dX8_lead_71 (by omega) ?_ | refine pb_iald g dX8_lead_71 (by first | exact mr_far | exact mr_order | exact mr_kind | exact mr_heaps | exact mr_m | exact mr_line | exact mr_other | exact mr_ways | exact mr_next | exact mr_chances | exact mr_after | exact mr_groups | exact mr_found | exact mr_counts | exact mr_traySort | exact mr_traySize | exact mr_cells | exact mr_moved | exact mr_traced | assumption) (by assumption) ?_
                rw [hfp]
                refine pb_iconst (v := nI 1) g dX8_lead_72 (by decide) ?_
                first | refine pb_isubN g dX8_lead_73 (by omega) ?_ | refine pb_isub g dX8_lead_73 ?_
                first | refine pb_icmp_neN g 81 dX8_lead_74 (by decide) (by omega) (by omega) (fun c74 => ?_) (fun c74 => ?_) | refine pb_icmp_ne g 81 dX8_lead_74 (by decide) (fun c74 => ?_) (fun c74 => ?_)
                · exact absurd hw0 c74
                · refine pb_iconst (v := nI 0) g dX8_lead_77 (by decide) ?_
                  refine pb_goto g 82 dX8_lead_78 (by decide) ?_
                  refine pb_istore6 g dX8_lead_82 (by decide) ?_
                  refine pb_iload5 g dX8_lead_84 ?_
                  refine pb_iload_n3 g dX8_lead_86 ?_
                  first | refine pb_icmp_neN g 93 dX8_lead_87 (by decide) (by omega) (by omega) (fun c87 => ?_) (fun c87 => ?_) | refine pb_icmp_ne g 93 dX8_lead_87 (by decide) (fun c87 => ?_) (fun c87 => ?_)
                  · refine pb_aload_n0 g dX8_lead_93 ?_
                    refine pb_iload6 g dX8_lead_94 ?_
                    refine pb_iload4 g dX8_lead_96 ?_
                    refine pb_Vi2 g qX8_120 dX8_lead_98 (k + 5) (by omega) mr_o (m_goes (k + 5) (n := n) (i := ptF n j0 i0 t) (w := 0) l1 (by omega) hn) (fun r98 h98 e98 => ?_)
                    obtain ⟨rfl, rfl⟩ := e98
                    refine pb_istore4 g dX8_lead_101 (by decide) ?_
                    first | refine pb_iinc5N g dX8_lead_103 (by decide) ?_ | refine pb_iinc5 g dX8_lead_103 (by decide) rfl ?_
                    refine pb_goto g 43 dX8_lead_106 (by decide) ?_
                    exact ih (by omega) _
                  · refine pb_iload6 g dX8_lead_90 ?_
                    refine pb_iret g z dX8_lead_92 ?_
                    obtain rfl : t = c0 := c87
                    exact ⟨_, rfl, by rw [e, ← l3], ⟨_, _, _, _, _, _, _, _, _, _, _, _, _, _, _, _, _, _, _, rfl, d1, d2, d3, d4, d5⟩⟩
            · have hwy : wyF n j0 (ptF n j0 i0 t) = 1 := by rw [wyF, if_neg (by rw [l2]; exact hw0)]
              rw [hwy] at ih l3
              refine pb_aload_n0 g dX8_lead_43 ?_
              refine pb_getf g fX8_45 dX8_lead_44 mr_o rfl ?_
              refine pb_iload4 g dX8_lead_47 ?_
              first | refine pb_ialdN g dX8_lead_49 (by first | exact mr_far | exact mr_order | exact mr_kind | exact mr_heaps | exact mr_m | exact mr_line | exact mr_other | exact mr_ways | exact mr_next | exact mr_chances | exact mr_after | exact mr_groups | exact mr_found | exact mr_counts | exact mr_traySort | exact mr_traySize | exact mr_cells | exact mr_moved | exact mr_traced | assumption) (by omega) (by omega) ?_ | refine pb_ald0 g dX8_lead_49 (by omega) ?_ | refine pb_ald1 g dX8_lead_49 (by omega) ?_ | refine pb_ald2 g dX8_lead_49 (by omega) ?_ | refine pb_ald3 g dX8_lead_49 (by omega) ?_ | refine pb_iald g dX8_lead_49 (by first | exact mr_far | exact mr_order | exact mr_kind | exact mr_heaps | exact mr_m | exact mr_line | exact mr_other | exact mr_ways | exact mr_next | exact mr_chances | exact mr_after | exact mr_groups | exact mr_found | exact mr_counts | exact mr_traySort | exact mr_traySize | exact mr_cells | exact mr_moved | exact mr_traced | assumption) (by assumption) ?_
              rw [hfp]
              first | refine pb_if_leN g 109 dX8_lead_50 (by decide) (by omega) (fun c50 => ?_) (fun c50 => ?_) | refine pb_if_le g 109 dX8_lead_50 (by decide) (fun c50 => ?_) (fun c50 => ?_)
              · exact absurd c50 (by omega)
              · refine pb_aload_n0 g dX8_lead_53 ?_
                refine pb_getf g fX8_45 dX8_lead_54 mr_o rfl ?_
                refine pb_aload_n0 g dX8_lead_57 ?_
                refine pb_iconst (v := nI 0) g dX8_lead_58 (by decide) ?_
                refine pb_iload4 g dX8_lead_59 ?_
                refine pb_Vi2 g qX8_120 dX8_lead_61 (k + 5) (by omega) mr_o (m_goes (k + 5) (n := n) (i := ptF n j0 i0 t) (w := 0) l1 (by omega) hn) (fun r61 h61 e61 => ?_)
                obtain ⟨rfl, rfl⟩ := e61
                first | refine pb_ialdN g dX8_lead_64 (by first | exact mr_far | exact mr_order | exact mr_kind | exact mr_heaps | exact mr_m | exact mr_line | exact mr_other | exact mr_ways | exact mr_next | exact mr_chances | exact mr_after | exact mr_groups | exact mr_found | exact mr_counts | exact mr_traySort | exact mr_traySize | exact mr_cells | exact mr_moved | exact mr_traced | assumption) (by omega) (by omega) ?_ | refine pb_ald0 g dX8_lead_64 (by omega) ?_ | refine pb_ald1 g dX8_lead_64 (by omega) ?_ | refine pb_ald2 g dX8_lead_64 (by omega) ?_ | refine pb_ald3 g dX8_lead_64 (by omega) ?_ | refine pb_iald g dX8_lead_64 (by first | exact mr_far | exact mr_order | exact mr_kind | exact mr_heaps | exact mr_m | exact mr_line | exact mr_other | exact mr_ways | exact mr_next | exact mr_chances | exact mr_after | exact mr_groups | exact mr_found | exact mr_counts | exact mr_traySort | exact mr_traySize | exact mr_cells | exact mr_moved | exact mr_traced | assumption) (by assumption) ?_
                rw [hfg]
                refine pb_aload_n0 g dX8_lead_65 ?_
                refine pb_getf g fX8_45 dX8_lead_66 mr_o rfl ?_
                refine pb_iload4 g dX8_lead_69 ?_
                first | refine pb_ialdN g dX8_lead_71 (by first | exact mr_far | exact mr_order | exact mr_kind | exact mr_heaps | exact mr_m | exact mr_line | exact mr_other | exact mr_ways | exact mr_next | exact mr_chances | exact mr_after | exact mr_groups | exact mr_found | exact mr_counts | exact mr_traySort | exact mr_traySize | exact mr_cells | exact mr_moved | exact mr_traced | assumption) (by omega) (by omega) ?_ | refine pb_ald0 g dX8_lead_71 (by omega) ?_ | refine pb_ald1 g dX8_lead_71 (by omega) ?_ | refine pb_ald2 g dX8_lead_71 (by omega) ?_ | refine pb_ald3 g dX8_lead_71 (by omega) ?_ | refine pb_iald g dX8_lead_71 (by first | exact mr_far | exact mr_order | exact mr_kind | exact mr_heaps | exact mr_m | exact mr_line | exact mr_other | exact mr_ways | exact mr_next | exact mr_chances | exact mr_after | exact mr_groups | exact mr_found | exact mr_counts | exact mr_traySort | exact mr_traySize | exact mr_cells | exact mr_moved | exact mr_traced | assumption) (by assumption) ?_
                rw [hfp]
                refine pb_iconst (v := nI 1) g dX8_lead_72 (by decide) ?_
                first | refine pb_isubN g dX8_lead_73 (by omega) ?_ | refine pb_isub g dX8_lead_73 ?_
                first | refine pb_icmp_neN g 81 dX8_lead_74 (by decide) (by omega) (by omega) (fun c74 => ?_) (fun c74 => ?_) | refine pb_icmp_ne g 81 dX8_lead_74 (by decide) (fun c74 => ?_) (fun c74 => ?_)
                · refine pb_iconst (v := nI 1) g dX8_lead_81 (by decide) ?_
                  refine pb_istore6 g dX8_lead_82 (by decide) ?_
                  refine pb_iload5 g dX8_lead_84 ?_
                  refine pb_iload_n3 g dX8_lead_86 ?_
                  first | refine pb_icmp_neN g 93 dX8_lead_87 (by decide) (by omega) (by omega) (fun c87 => ?_) (fun c87 => ?_) | refine pb_icmp_ne g 93 dX8_lead_87 (by decide) (fun c87 => ?_) (fun c87 => ?_)
                  · refine pb_aload_n0 g dX8_lead_93 ?_
                    refine pb_iload6 g dX8_lead_94 ?_
                    refine pb_iload4 g dX8_lead_96 ?_
                    refine pb_Vi2 g qX8_120 dX8_lead_98 (k + 5) (by omega) mr_o (m_goes (k + 5) (n := n) (i := ptF n j0 i0 t) (w := 1) l1 (by omega) hn) (fun r98 h98 e98 => ?_)
                    obtain ⟨rfl, rfl⟩ := e98
                    refine pb_istore4 g dX8_lead_101 (by decide) ?_
                    first | refine pb_iinc5N g dX8_lead_103 (by decide) ?_ | refine pb_iinc5 g dX8_lead_103 (by decide) rfl ?_
                    refine pb_goto g 43 dX8_lead_106 (by decide) ?_
                    exact ih (by omega) _
                  · refine pb_iload6 g dX8_lead_90 ?_
                    refine pb_iret g z dX8_lead_92 ?_
                    obtain rfl : t = c0 := c87
                    exact ⟨_, rfl, by rw [e, ← l3], ⟨_, _, _, _, _, _, _, _, _, _, _, _, _, _, _, _, _, _, _, rfl, d1, d2, d3, d4, d5⟩⟩
                · exact absurd c74 hw0
          refine pb_aload_n0 g dX8_lead_0 ?_
          refine pb_iload_n1 g dX8_lead_1 ?_
          refine pb_Vi1 g qX8_98 dX8_lead_2 (k + 5) (by omega) mr_o (m_isPlaceT (k + 5) (by assumption) hn) (fun r2 h2 e2 => ?_)
          obtain ⟨rfl, rfl⟩ := e2
          first | refine pb_if_eqN g 16 dX8_lead_5 (by decide) (by omega) (fun c5 => ?_) (fun c5 => ?_) | refine pb_if_eq g 16 dX8_lead_5 (by decide) (fun c5 => ?_) (fun c5 => ?_)
          · exact absurd c5 (by decide)
          · refine pb_aload_n0 g dX8_lead_8 ?_
            refine pb_iload_n2 g dX8_lead_9 ?_
            refine pb_Vi1 g qX8_98 dX8_lead_10 (k + 5) (by omega) mr_o (m_isPlaceT (k + 5) (by assumption) hn) (fun r10 h10 e10 => ?_)
            obtain ⟨rfl, rfl⟩ := e10
            first | refine pb_if_neN g 19 dX8_lead_13 (by decide) (by omega) (fun c13 => ?_) (fun c13 => ?_) | refine pb_if_ne g 19 dX8_lead_13 (by decide) (fun c13 => ?_) (fun c13 => ?_)
            · refine pb_aload_n0 g dX8_lead_19 ?_
              refine pb_getf g fX8_7 dX8_lead_20 mr_o rfl ?_
              refine pb_iconst (v := nI 2) g dX8_lead_23 (by decide) ?_
              first | refine pb_iremN g dX8_lead_24 (by omega) (by omega) (by omega) ?_ | refine pb_irem g dX8_lead_24 (by assumption) ?_
              refine pb_iconst (v := nI 1) g dX8_lead_25 (by decide) ?_
              first | refine pb_icmp_neN g 32 dX8_lead_26 (by decide) (by omega) (by omega) (fun c26 => ?_) (fun c26 => ?_) | refine pb_icmp_ne g 32 dX8_lead_26 (by decide) (fun c26 => ?_) (fun c26 => ?_)
              · refine pb_aload_n0 g dX8_lead_32 ?_
                refine pb_iload_n2 g dX8_lead_33 ?_
                refine pb_Vv1 g qX8_189 dX8_lead_34 (k + 5) (by omega) mr_o (m_fars (k + 4) (n := n) (j := j0) heven hn hj0) (fun h34 e34 => ?_)
                obtain ⟨f9, rfl, hf9⟩ := e34
                refine pb_iload_n1 g dX8_lead_37 ?_
                refine pb_istore4 g dX8_lead_38 (by decide) ?_
                refine pb_iconst (v := nI 0) g dX8_lead_40 (by decide) ?_
                refine pb_istore5 g dX8_lead_41 (by decide) ?_
                exact loop f9 hf9 0 (Nat.zero_le _) _
              · exact absurd c26 hodd
            · exact absurd c13 (by decide)
