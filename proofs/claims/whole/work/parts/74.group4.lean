/-! ===== the reference: orbit, group ===== -/
def OJ (L : List Nat) (ic A A' b : Nat) (F : Nat → Nat) (f : Nat → Int64) : Prop := (A ≤ A' ∧ b < 2 ∧ (b = 0 → A' = A) ∧ (b = 1 → A < A')) ∧ (∀ i, i < A' → f i = lN (F i)) ∧ (∀ i, i < A' → F i ∈ L) ∧ (∀ i j, i < A' → j < A' → F i = F j → i = j) ∧ (∀ i j, i ≤ j → j < A → F i ≤ F j) ∧ ∃ i, i < A ∧ F i = ic
theorem OJ_up {L : List Nat} {ic A A' b W : Nat} {F : Nat → Nat} {f : Nat → Int64} (h : OJ L ic A A' b F f) (hW : W ∈ L) (hno : ∀ i, i < A' → ¬ F i = W) : OJ L ic A (A' + 1) 1 (va_up F A' W) (vp_updL f A' (lN W)) := by
  obtain ⟨⟨h1, h2, h3, h4⟩, h5, h6, h7, h8, i0, h9, h10⟩ := h
  refine ⟨⟨by omega, by omega, fun q => absurd q (by omega), fun _ => by omega⟩, fun i hi => ?_, fun i hi => ?_, fun i j hi hj he => ?_, fun i j hij hj => ?_, i0, h9, ?_⟩
  · by_cases q : i = A'
    · rw [q, updL_eq, va_upS]
    · rw [updL_ne q, va_upN q]
      exact h5 i (by omega)
  · by_cases q : i = A'
    · rw [q, va_upS]
      exact hW
    · rw [va_upN q]
      exact h6 i (by omega)
  · by_cases q : i = A' <;> by_cases r : j = A'
    · omega
    · rw [q, va_upS, va_upN r] at he
      exact absurd he.symm (hno j (by omega))
    · rw [r, va_upS, va_upN q] at he
      exact absurd he (hno i (by omega))
    · rw [va_upN q, va_upN r] at he
      exact h7 i j (by omega) (by omega) he
  · rw [va_upN (by omega), va_upN (by omega)]
    exact h8 i j hij hj
  · rw [va_upN (by omega)]
    exact h10
theorem gp_le : ∀ n, n < 11 → gpF n ≤ 1920 := by decide
theorem gp_pos : ∀ m, m < 5 → 0 < gpF (2 * (m + 1)) := by decide
set_option maxHeartbeats 4000000 in
set_option maxRecDepth 100000 in
theorem m_orbit (k : Nat) {xP xS xsd xbo : Int32} {xod xkn xhs xmm xln xot xfa xgr xtsr xtsz xce xmv xtc : Nat → Int32} {xwy xnx xch xaf xfo xco : Nat → Int64} {n : Nat} (hn1 : 1 ≤ n) (hn : n ≤ 10) (he : n % 2 = 0) : Runs yX8_orbit cX8_orbit 10 (some .int) (k + 1) [.ref 0] (mkH 20 (mdF (nI n) xP xS xsd xod xkn xhs xmm xln xot xwy xnx xch xaf xfa xgr xfo xco xtsr xtsz xce xmv xtc xbo)) (fun oo h' => ∃ r : Int32, oo = some (.int r) ∧ r = nI (gpF n) ∧ ∃ (fl : Nat → Int32) (ff : Nat → Int64), mkH 20 (mdF (nI n) xP xS xsd xod xkn xhs xmm (fl) xot xwy xnx xch xaf xfa xgr (ff) xco xtsr xtsz xce xmv xtc xbo) = h') := by
  refine Runs.of (by decide) (Nat.le_of_ble_eq_true rfl) [some (.ref 0), none, none, none, none, none, none, none, none, none] 9 rfl (fun Γ g z => ?_)
  obtain ⟨L, ⟨o1, o2⟩, o3, o4, o5, o6⟩ := orb_ex hn1 hn he
  have hg := gp_le n (by omega)
  have hlen : ∀ {m : Nat} {F : Nat → Nat}, (∀ i, i < m → F i ∈ L) → (∀ i j, i < m → j < m → F i = F j → i = j) → m ≤ gpF n := fun h1 h2 => by
    have := few h1 h2
    omega
  have fin : ∀ (A : Nat) (F : Nat → Nat) (f : Nat → Int64) (fl : Nat → Int32) (w3 w4 w5 w6 w7 w8 w9 : Option Value), (∀ i, i < A → F i ∈ L) → (∀ i j, i < A → j < A → F i = F j → i = j) → (∃ i, i < A ∧ F i = pkN (fun i => i) n) → (∀ i, i < A → ∀ w, w < 2 → ∃ j, j < A ∧ F j = stp n w (F i)) → PB Γ 37 [some (.ref 0), some (.int (nI A)), some (.int (nI 0)), w3, w4, w5, w6, w7, w8, w9] [] (mkH 20 (mdF (nI n) xP xS xsd xod xkn xhs xmm (fl) xot xwy xnx xch xaf xfa xgr (f) xco xtsr xtsz xce xmv xtc xbo)) := by
    intro A F f fl w3 w4 w5 w6 w7 w8 w9 h1 h2 h3 h4
    have hA := hlen h1 h2
    have hB := many (L := L) (m := A) (F := F) (o5 (fun v => ∃ i, i < A ∧ F i = v) h3 (fun v hv w hw => by
      obtain ⟨i, hi, rfl⟩ := hv
      exact h4 i hi w hw)) o6
    refine pb_iload_n2 g dX8_orbit_37 ?_
    first | refine pb_if_eqN g 182 dX8_orbit_38 (by decide) (by omega) (fun c38 => ?_) (fun c38 => ?_) | refine pb_if_eq g 182 dX8_orbit_38 (by decide) (fun c38 => ?_) (fun c38 => ?_)
    · refine pb_iload_n1 g dX8_orbit_182 ?_
      refine pb_iret g z dX8_orbit_183 ?_
      exact ⟨_, rfl, by rw [show A = gpF n by omega], _, _, rfl⟩
    · exact absurd rfl c38
  have whl : ∀ (d A : Nat) (F : Nat → Nat) (f : Nat → Int64) (fl : Nat → Int32) (w3 w4 w5 w6 w7 w8 w9 : Option Value), gpF n < A + d → 1 ≤ A → OJ L (pkN (fun i => i) n) A A 0 F f → PB Γ 37 [some (.ref 0), some (.int (nI A)), some (.int (nI 1)), w3, w4, w5, w6, w7, w8, w9] [] (mkH 20 (mdF (nI n) xP xS xsd xod xkn xhs xmm (fl) xot xwy xnx xch xaf xfa xgr (f) xco xtsr xtsz xce xmv xtc xbo)) := by
    intro d
    induction d with
    | zero =>
      intro A F f fl w3 w4 w5 w6 w7 w8 w9 hd hA1 hJ
      have := hlen hJ.2.2.1 hJ.2.2.2.1
      omega
    | succ d ihd =>
      intro A F f fl w3 w4 w5 w6 w7 w8 w9 hd hA1 hJ
      have kloop : ∀ kk, kk ≤ A → ∀ (A' b : Nat) (F : Nat → Nat) (f : Nat → Int64) (fl : Nat → Int32) (w5 w6 w7 w8 w9 : Option Value), OJ L (pkN (fun i => i) n) A A' b F f → (∀ i, i < kk → ∀ w, w < 2 → ∃ j, j < A' ∧ F j = stp n w (F i)) → PB Γ 48 [some (.ref 0), some (.int (nI A')), some (.int (nI b)), some (.int (nI A)), some (.int (nI kk)), w5, w6, w7, w8, w9] [] (mkH 20 (mdF (nI n) xP xS xsd xod xkn xhs xmm (fl) xot xwy xnx xch xaf xfa xgr (f) xco xtsr xtsz xce xmv xtc xbo)) := by
        refine pb_loop A (fun kk hkk ihk A' b F f fl w5 w6 w7 w8 w9 hJ hcl => ?_)
        obtain ⟨⟨j1, j2, j3, j4⟩, j5, j6, j7, j8, j9⟩ := id hJ
        have hA' := hlen j6 j7
        have hsm : ∀ i, i < A' → f i = lN (F i) ∧ F i < 2 ^ 63 := fun i hi => ⟨j5 i hi, Nat.lt_trans (o3 _ (j6 i hi)) (by decide)⟩
        by_cases hkA : kk < A
        · have ihk := ihk hkA
          obtain ⟨V, hV⟩ : ∃ V, F kk = V := ⟨_, rfl⟩
          have hVL : V ∈ L := by rw [← hV]; exact j6 kk (by omega)
          have hV60 := o3 V hVL
          have hdv : ∀ m, V / 16 ^ m < 2 ^ 60 := fun m => Nat.lt_of_le_of_lt (Nat.div_le_self _ _) hV60
          have wloop : ∀ w, w ≤ 2 → ∀ (A' b : Nat) (F : Nat → Nat) (f : Nat → Int64) (fl : Nat → Int32) (w8 w9 : Option Value), OJ L (pkN (fun i => i) n) A A' b F f → F kk = V → (∀ i, i < kk → ∀ w, w < 2 → ∃ j, j < A' ∧ F j = stp n w (F i)) → (∀ w', w' < w → ∃ j, j < A' ∧ F j = stp n w' V) → PB Γ 66 [some (.ref 0), some (.int (nI A')), some (.int (nI b)), some (.int (nI A)), some (.int (nI kk)), some (.long (lN V)), none, some (.int (nI w)), w8, w9] [] (mkH 20 (mdF (nI n) xP xS xsd xod xkn xhs xmm (fl) xot xwy xnx xch xaf xfa xgr (f) xco xtsr xtsz xce xmv xtc xbo)) := by
            refine pb_loop 2 (fun w hw ihw A' b F f fl w8 w9 hJ hFk hcl hcw => ?_)
            obtain ⟨⟨j1, j2, j3, j4⟩, j5, j6, j7, j8, j9⟩ := id hJ
            have hA' := hlen j6 j7
            have hsm : ∀ i, i < A' → f i = lN (F i) ∧ F i < 2 ^ 63 := fun i hi => ⟨j5 i hi, Nat.lt_trans (o3 _ (j6 i hi)) (by decide)⟩
            by_cases hw2 : w < 2
            · have ihw := ihw hw2
              have hWL := o4 V hVL w hw2
              have hW60 := o3 _ hWL
              have hpm := carF_pm (n := n) he hw2
              have next : ∀ (A' b : Nat) (F : Nat → Nat) (f : Nat → Int64) (fl : Nat → Int32) (w8 w9 : Option Value), OJ L (pkN (fun i => i) n) A A' b F f → F kk = V → (∀ i, i < kk → ∀ w, w < 2 → ∃ j, j < A' ∧ F j = stp n w (F i)) → (∀ w', w' < w + 1 → ∃ j, j < A' ∧ F j = stp n w' V) → PB Γ 162 [some (.ref 0), some (.int (nI A')), some (.int (nI b)), some (.int (nI A)), some (.int (nI kk)), some (.long (lN V)), none, some (.int (nI w)), w8, w9] [] (mkH 20 (mdF (nI n) xP xS xsd xod xkn xhs xmm (fl) xot xwy xnx xch xaf xfa xgr (f) xco xtsr xtsz xce xmv xtc xbo)) := by
                intro A' b F f fl w8 w9 q1 q2 q3 q4
                have ihw := ihw A' b F f fl w8 w9 q1 q2 q3 q4
                first | refine pb_iinc7N g dX8_orbit_162 (by decide) ?_ | refine pb_iinc7 g dX8_orbit_162 (by decide) rfl ?_
                refine pb_goto g 66 dX8_orbit_165 (by decide) ?_
                exact ihw
              have tail : ∀ (fl : Nat → Int32) (w8 w9 : Option Value), (∀ i, i < n → fl (carF n i w) = nI (V / 16 ^ (n - 1 - i) % 16)) → PB Γ 122 [some (.ref 0), some (.int (nI A')), some (.int (nI b)), some (.int (nI A)), some (.int (nI kk)), some (.long (lN V)), none, some (.int (nI w)), w8, w9] [] (mkH 20 (mdF (nI n) xP xS xsd xod xkn xhs xmm (fl) xot xwy xnx xch xaf xfa xgr (f) xco xtsr xtsz xce xmv xtc xbo)) := by
                intro fl w8 w9 hfl
                have hl : ∀ c, c < n → fl c = nI (V / 16 ^ (n - 1 - bkN (fun i => carF n i w) n c) % 16) := fun c hc => by
                  obtain ⟨i, hi, hic⟩ := pm_onto n _ hpm c hc
                  have hic : carF n i w = c := hic
                  rw [bk_of hpm hi hic, ← hic]
                  exact hfl i hi
                have hpk : pkN (fun c => V / 16 ^ (n - 1 - bkN (fun i => carF n i w) n c) % 16) n = stp n w V := pk_stp he hw2 (fun i hi => by
                  show V / 16 ^ (n - 1 - bkN (fun i => carF n i w) n (carF n i w)) % 16 = _
                  rw [bk_of hpm hi rfl])
                by_cases hin0 : ∃ i, i < A ∧ F i = stp n w V
                · have hnx : ∀ w', w' < w + 1 → ∃ j, j < A' ∧ F j = stp n w' V := fun w' hw' => by
                    by_cases q : w' = w
                    · obtain ⟨i, hi, hi2⟩ := hin0
                      exact ⟨i, by omega, by rw [q]; exact hi2⟩
                    · exact hcw w' (by omega)
                  refine pb_aload_n0 g dX8_orbit_122 ?_
                  refine pb_Vl0 g qX8_195 dX8_orbit_123 k (by omega) mr_o (m_packed k (n := n) hn _ hl (fun c _ => Nat.mod_lt _ (by decide))) (fun r123 h123 e123 => ?_)
                  obtain ⟨rfl, rfl⟩ := e123
                  rw [hpk]
                  refine pb_lstore8 g dX8_orbit_126 (by decide) ?_
                  refine pb_aload_n0 g dX8_orbit_128 ?_
                  refine pb_lload8 g dX8_orbit_129 ?_
                  refine pb_iload_n3 g dX8_orbit_131 ?_
                  refine pb_Vi2 g qX8_201 dX8_orbit_132 k (by omega) mr_o (m_isFoundT k (W := stp n w V) (A := A) F (by omega) (by omega) (fun i hi => hsm i (by omega)) j8 hin0) (fun r132 h132 e132 => ?_)
                  obtain ⟨rfl, rfl⟩ := e132
                  first | refine pb_if_neN g 162 dX8_orbit_135 (by decide) (by omega) (fun c135 => ?_) (fun c135 => ?_) | refine pb_if_ne g 162 dX8_orbit_135 (by decide) (fun c135 => ?_) (fun c135 => ?_)
                  · exact next _ _ _ _ _ _ _ hJ hFk hcl hnx
                  · exact absurd c135 (by decide)
                · by_cases hin1 : ∃ i, A ≤ i ∧ i < A' ∧ F i = stp n w V
                  · have hnx : ∀ w', w' < w + 1 → ∃ j, j < A' ∧ F j = stp n w' V := fun w' hw' => by
                      by_cases q : w' = w
                      · obtain ⟨i, _, hi, hi2⟩ := hin1
                        exact ⟨i, hi, by rw [q]; exact hi2⟩
                      · exact hcw w' (by omega)
                    refine pb_aload_n0 g dX8_orbit_122 ?_
                    refine pb_Vl0 g qX8_195 dX8_orbit_123 k (by omega) mr_o (m_packed k (n := n) hn _ hl (fun c _ => Nat.mod_lt _ (by decide))) (fun r123 h123 e123 => ?_)
                    obtain ⟨rfl, rfl⟩ := e123
                    rw [hpk]
                    refine pb_lstore8 g dX8_orbit_126 (by decide) ?_
                    refine pb_aload_n0 g dX8_orbit_128 ?_
                    refine pb_lload8 g dX8_orbit_129 ?_
                    refine pb_iload_n3 g dX8_orbit_131 ?_
                    refine pb_Vi2 g qX8_201 dX8_orbit_132 k (by omega) mr_o (m_isFoundF k (W := stp n w V) (A := A) F (by omega) (by omega) (fun i hi => hsm i (by omega)) (fun i hi z => hin0 ⟨i, hi, z⟩)) (fun r132 h132 e132 => ?_)
                    obtain ⟨rfl, rfl⟩ := e132
                    first | refine pb_if_neN g 162 dX8_orbit_135 (by decide) (by omega) (fun c135 => ?_) (fun c135 => ?_) | refine pb_if_ne g 162 dX8_orbit_135 (by decide) (fun c135 => ?_) (fun c135 => ?_)
                    · exact absurd c135 (by decide)
                    · refine pb_aload_n0 g dX8_orbit_138 ?_
                      refine pb_lload8 g dX8_orbit_139 ?_
                      refine pb_iload_n3 g dX8_orbit_141 ?_
                      refine pb_iload_n1 g dX8_orbit_142 ?_
                      refine pb_Vi3 g qX8_205 dX8_orbit_143 k (by omega) mr_o (m_isListedT k (W := stp n w V) (a := A) (b := A') F (by omega) (by omega) j1 hsm hin1) (fun r143 h143 e143 => ?_)
                      obtain ⟨rfl, rfl⟩ := e143
                      first | refine pb_if_neN g 162 dX8_orbit_146 (by decide) (by omega) (fun c146 => ?_) (fun c146 => ?_) | refine pb_if_ne g 162 dX8_orbit_146 (by decide) (fun c146 => ?_) (fun c146 => ?_)
                      · exact next _ _ _ _ _ _ _ hJ hFk hcl hnx
                      · exact absurd c146 (by decide)
                  · have hno : ∀ i, i < A' → ¬ F i = stp n w V := fun i hi z => by
                      by_cases q : i < A
                      · exact hin0 ⟨i, q, z⟩
                      · exact hin1 ⟨i, by omega, hi, z⟩
                    have hJ2 := OJ_up hJ hWL hno
                    have hA2 := hlen hJ2.2.2.1 hJ2.2.2.2.1
                    have hk2 : va_up F A' (stp n w V) kk = V := by rw [va_upN (by omega)]; exact hFk
                    have hc2 : ∀ i, i < kk → ∀ u, u < 2 → ∃ j, j < A' + 1 ∧ va_up F A' (stp n w V) j = stp n u (va_up F A' (stp n w V) i) := fun i hi u hu => by
                      obtain ⟨j, q1, q2⟩ := hcl i hi u hu
                      exact ⟨j, by omega, by rw [va_upN (by omega), va_upN (by omega)]; exact q2⟩
                    have hw3 : ∀ w', w' < w + 1 → ∃ j, j < A' + 1 ∧ va_up F A' (stp n w V) j = stp n w' V := fun w' hw' => by
                      by_cases q : w' = w
                      · exact ⟨A', by omega, by rw [q, va_upS]⟩
                      · obtain ⟨j, q1, q2⟩ := hcw w' (by omega)
                        exact ⟨j, by omega, by rw [va_upN (by omega)]; exact q2⟩
                    refine pb_aload_n0 g dX8_orbit_122 ?_
                    refine pb_Vl0 g qX8_195 dX8_orbit_123 k (by omega) mr_o (m_packed k (n := n) hn _ hl (fun c _ => Nat.mod_lt _ (by decide))) (fun r123 h123 e123 => ?_)
                    obtain ⟨rfl, rfl⟩ := e123
                    rw [hpk]
                    refine pb_lstore8 g dX8_orbit_126 (by decide) ?_
                    refine pb_aload_n0 g dX8_orbit_128 ?_
                    refine pb_lload8 g dX8_orbit_129 ?_
                    refine pb_iload_n3 g dX8_orbit_131 ?_
                    refine pb_Vi2 g qX8_201 dX8_orbit_132 k (by omega) mr_o (m_isFoundF k (W := stp n w V) (A := A) F (by omega) (by omega) (fun i hi => hsm i (by omega)) (fun i hi z => hin0 ⟨i, hi, z⟩)) (fun r132 h132 e132 => ?_)
                    obtain ⟨rfl, rfl⟩ := e132
                    first | refine pb_if_neN g 162 dX8_orbit_135 (by decide) (by omega) (fun c135 => ?_) (fun c135 => ?_) | refine pb_if_ne g 162 dX8_orbit_135 (by decide) (fun c135 => ?_) (fun c135 => ?_)
                    · exact absurd c135 (by decide)
                    · refine pb_aload_n0 g dX8_orbit_138 ?_
                      refine pb_lload8 g dX8_orbit_139 ?_
                      refine pb_iload_n3 g dX8_orbit_141 ?_
                      refine pb_iload_n1 g dX8_orbit_142 ?_
                      refine pb_Vi3 g qX8_205 dX8_orbit_143 k (by omega) mr_o (m_isListedF k (W := stp n w V) (a := A) (b := A') F (by omega) (by omega) j1 hsm (fun i h1 h2 z => hin1 ⟨i, h1, h2, z⟩)) (fun r143 h143 e143 => ?_)
                      obtain ⟨rfl, rfl⟩ := e143
                      first | refine pb_if_neN g 162 dX8_orbit_146 (by decide) (by omega) (fun c146 => ?_) (fun c146 => ?_) | refine pb_if_ne g 162 dX8_orbit_146 (by decide) (fun c146 => ?_) (fun c146 => ?_)
                      · exact absurd c146 (by decide)
                      · refine pb_aload_n0 g dX8_orbit_149 ?_
                        refine pb_getf g fX8_51 dX8_orbit_150 mr_o rfl ?_
                        refine pb_iload_n1 g dX8_orbit_153 ?_
                        first | refine pb_iinc1N g dX8_orbit_154 (by decide) ?_ | refine pb_iinc1 g dX8_orbit_154 (by decide) rfl ?_
                        refine pb_lload8 g dX8_orbit_157 ?_
                        first | refine pb_lastN g dX8_orbit_159 (by first | exact mr_found | exact mr_order | exact mr_kind | exact mr_heaps | exact mr_m | exact mr_line | exact mr_other | exact mr_ways | exact mr_next | exact mr_chances | exact mr_after | exact mr_far | exact mr_groups | exact mr_counts | exact mr_traySort | exact mr_traySize | exact mr_cells | exact mr_moved | exact mr_traced | assumption) (by omega) (by omega) ?_ | refine pb_last g dX8_orbit_159 (by first | exact mr_found | exact mr_order | exact mr_kind | exact mr_heaps | exact mr_m | exact mr_line | exact mr_other | exact mr_ways | exact mr_next | exact mr_chances | exact mr_after | exact mr_far | exact mr_groups | exact mr_counts | exact mr_traySort | exact mr_traySize | exact mr_cells | exact mr_moved | exact mr_traced | assumption) (by assumption) ?_
                        first | rw [ms_found]
                        refine pb_iconst (v := nI 1) g dX8_orbit_160 (by decide) ?_
                        refine pb_istore_n2 g dX8_orbit_161 (by decide) ?_
                        exact next _ _ _ _ _ _ _ hJ2 hk2 hc2 hw3
              have iloop : ∀ i, i ≤ n → ∀ fl : Nat → Int32, (∀ a, a < i → fl (carF n a w) = nI (V / 16 ^ (n - 1 - a) % 16)) → PB Γ 75 [some (.ref 0), some (.int (nI A')), some (.int (nI b)), some (.int (nI A)), some (.int (nI kk)), some (.long (lN V)), none, some (.int (nI w)), some (.int (nI i)), w9] [] (mkH 20 (mdF (nI n) xP xS xsd xod xkn xhs xmm (fl) xot xwy xnx xch xaf xfa xgr (f) xco xtsr xtsz xce xmv xtc xbo)) := by
                refine pb_loop n (fun i hi ihi fl hfl => ?_)
                by_cases hin : i < n
                · have ihi := ihi hin
                  have hcl2 : carF n i w < n := hpm.1 i hin
                  have hp : 2 ^ (4 * (n - 1 - i)) = 16 ^ (n - 1 - i) := by rw [show (16 : Nat) = 2 ^ 4 by decide, Nat.pow_mul]
                  have hdi := hdv (n - 1 - i)
                  refine pb_iload8 g dX8_orbit_75 ?_
                  refine pb_aload_n0 g dX8_orbit_77 ?_
                  refine pb_getf g fX8_7 dX8_orbit_78 mr_o rfl ?_
                  first | refine pb_icmp_geN g 122 dX8_orbit_81 (by decide) (by omega) (by omega) (fun c81 => ?_) (fun c81 => ?_) | refine pb_icmp_ge g 122 dX8_orbit_81 (by decide) (fun c81 => ?_) (fun c81 => ?_)
                  · exact absurd c81 (by omega)
                  · refine pb_aload_n0 g dX8_orbit_84 ?_
                    refine pb_getf g fX8_26 dX8_orbit_85 mr_o rfl ?_
                    refine pb_aload_n0 g dX8_orbit_88 ?_
                    refine pb_iload7 g dX8_orbit_89 ?_
                    refine pb_iload8 g dX8_orbit_91 ?_
                    refine pb_Vi2 g qX8_120 dX8_orbit_93 k (by omega) mr_o (m_goes k (n := n) (i := i) (w := w) hin hw2 hn) (fun r93 h93 e93 => ?_)
                    obtain ⟨rfl, rfl⟩ := e93
                    refine pb_lload5 g dX8_orbit_96 ?_
                    refine pb_iconst (v := nI 4) g dX8_orbit_98 (by decide) ?_
                    refine pb_aload_n0 g dX8_orbit_99 ?_
                    refine pb_getf g fX8_7 dX8_orbit_100 mr_o rfl ?_
                    refine pb_iconst (v := nI 1) g dX8_orbit_103 (by decide) ?_
                    first | refine pb_isubN g dX8_orbit_104 (by omega) ?_ | refine pb_isub g dX8_orbit_104 ?_
                    refine pb_iload8 g dX8_orbit_105 ?_
                    first | refine pb_isubN g dX8_orbit_107 (by omega) ?_ | refine pb_isub g dX8_orbit_107 ?_
                    first | refine pb_imulN g dX8_orbit_108 ?_ | refine pb_imul g dX8_orbit_108 ?_
                    refine pb_lshr g dX8_orbit_109 ?_
                    rw [lsr_ok (by omega) (by omega), hp]
                    refine pb_ldc2w (w := lN 15) g kX8_199 (by decide) dX8_orbit_110 ?_
                    refine pb_land g dX8_orbit_113 ?_
                    rw [lan_ok (by omega)]
                    first | refine pb_l2iN g dX8_orbit_114 ?_ | refine pb_l2i g dX8_orbit_114 ?_
                    first | refine pb_iastN g dX8_orbit_115 (by first | exact mr_line | exact mr_order | exact mr_kind | exact mr_heaps | exact mr_m | exact mr_other | exact mr_ways | exact mr_next | exact mr_chances | exact mr_after | exact mr_far | exact mr_groups | exact mr_found | exact mr_counts | exact mr_traySort | exact mr_traySize | exact mr_cells | exact mr_moved | exact mr_traced | assumption) (by omega) (by omega) ?_ | refine pb_iast g dX8_orbit_115 (by first | exact mr_line | exact mr_order | exact mr_kind | exact mr_heaps | exact mr_m | exact mr_other | exact mr_ways | exact mr_next | exact mr_chances | exact mr_after | exact mr_far | exact mr_groups | exact mr_found | exact mr_counts | exact mr_traySort | exact mr_traySize | exact mr_cells | exact mr_moved | exact mr_traced | assumption) (by assumption) ?_
                    first | rw [ms_line]
                    first | refine pb_iinc8N g dX8_orbit_116 (by decide) ?_ | refine pb_iinc8 g dX8_orbit_116 (by decide) rfl ?_
                    refine pb_goto g 75 dX8_orbit_119 (by decide) ?_
                    exact ihi _ (fun a ha => by
                      by_cases q : a = i
                      · rw [q, upd, if_pos rfl]
                      · have q2 : ¬ carF n a w = carF n i w := fun z => q (hpm.2 a i (by omega) hin z)
                        rw [upd, if_neg q2]
                        exact hfl a (by omega))
                · obtain rfl : i = n := by omega
                  refine pb_iload8 g dX8_orbit_75 ?_
                  refine pb_aload_n0 g dX8_orbit_77 ?_
                  refine pb_getf g fX8_7 dX8_orbit_78 mr_o rfl ?_
                  first | refine pb_icmp_geN g 122 dX8_orbit_81 (by decide) (by omega) (by omega) (fun c81 => ?_) (fun c81 => ?_) | refine pb_icmp_ge g 122 dX8_orbit_81 (by decide) (fun c81 => ?_) (fun c81 => ?_)
                  · exact tail _ _ _ hfl
                  · exact absurd c81 (by omega)
              refine pb_iload7 g dX8_orbit_66 ?_
              refine pb_iconst (v := nI 2) g dX8_orbit_68 (by decide) ?_
              first | refine pb_icmp_geN g 168 dX8_orbit_69 (by decide) (by omega) (by omega) (fun c69 => ?_) (fun c69 => ?_) | refine pb_icmp_ge g 168 dX8_orbit_69 (by decide) (fun c69 => ?_) (fun c69 => ?_)
              · exact absurd c69 (by omega)
              · refine pb_iconst (v := nI 0) g dX8_orbit_72 (by decide) ?_
                refine pb_istore8 g dX8_orbit_73 (by decide) ?_
                exact iloop 0 (Nat.zero_le _) _ (fun a ha => absurd ha (Nat.not_lt_zero a))
            · obtain rfl : w = 2 := by omega
              have hcl2 : ∀ i, i < kk + 1 → ∀ u, u < 2 → ∃ j, j < A' ∧ F j = stp n u (F i) := fun i hi u hu => by
                by_cases q : i = kk
                · rw [q, hFk]
                  exact hcw u hu
                · exact hcl i (by omega) u hu
              refine pb_iload7 g dX8_orbit_66 ?_
              refine pb_iconst (v := nI 2) g dX8_orbit_68 (by decide) ?_
              first | refine pb_icmp_geN g 168 dX8_orbit_69 (by decide) (by omega) (by omega) (fun c69 => ?_) (fun c69 => ?_) | refine pb_icmp_ge g 168 dX8_orbit_69 (by decide) (fun c69 => ?_) (fun c69 => ?_)
              · first | refine pb_iinc4N g dX8_orbit_168 (by decide) ?_ | refine pb_iinc4 g dX8_orbit_168 (by decide) rfl ?_
                refine pb_goto g 48 dX8_orbit_171 (by decide) ?_
                exact ihk _ _ _ _ _ _ _ _ _ _ hJ hcl2
              · exact absurd c69 (by omega)
          refine pb_iload4 g dX8_orbit_48 ?_
          refine pb_iload_n3 g dX8_orbit_50 ?_
          first | refine pb_icmp_geN g 174 dX8_orbit_51 (by decide) (by omega) (by omega) (fun c51 => ?_) (fun c51 => ?_) | refine pb_icmp_ge g 174 dX8_orbit_51 (by decide) (fun c51 => ?_) (fun c51 => ?_)
          · exact absurd c51 (by omega)
          · refine pb_aload_n0 g dX8_orbit_54 ?_
            refine pb_getf g fX8_51 dX8_orbit_55 mr_o rfl ?_
            refine pb_iload4 g dX8_orbit_58 ?_
            first | refine pb_laldN g dX8_orbit_60 (by first | exact mr_found | exact mr_order | exact mr_kind | exact mr_heaps | exact mr_m | exact mr_line | exact mr_other | exact mr_ways | exact mr_next | exact mr_chances | exact mr_after | exact mr_far | exact mr_groups | exact mr_counts | exact mr_traySort | exact mr_traySize | exact mr_cells | exact mr_moved | exact mr_traced | assumption) (by omega) (by omega) ?_ | refine pb_lald g dX8_orbit_60 (by first | exact mr_found | exact mr_order | exact mr_kind | exact mr_heaps | exact mr_m | exact mr_line | exact mr_other | exact mr_ways | exact mr_next | exact mr_chances | exact mr_after | exact mr_far | exact mr_groups | exact mr_counts | exact mr_traySort | exact mr_traySize | exact mr_cells | exact mr_moved | exact mr_traced | assumption) (by assumption) ?_
            rw [j5 kk (by omega), hV]
            refine pb_lstore5 g dX8_orbit_61 (by decide) ?_
            refine pb_iconst (v := nI 0) g dX8_orbit_63 (by decide) ?_
            refine pb_istore7 g dX8_orbit_64 (by decide) ?_
            exact wloop 0 (by omega) _ _ _ _ _ _ _ hJ hV hcl (fun u hu => absurd hu (Nat.not_lt_zero u))
        · obtain rfl : kk = A := by omega
          by_cases hb : b = 0
          · have hAA := j3 hb
            subst hb
            refine pb_iload4 g dX8_orbit_48 ?_
            refine pb_iload_n3 g dX8_orbit_50 ?_
            first | refine pb_icmp_geN g 174 dX8_orbit_51 (by decide) (by omega) (by omega) (fun c51 => ?_) (fun c51 => ?_) | refine pb_icmp_ge g 174 dX8_orbit_51 (by decide) (fun c51 => ?_) (fun c51 => ?_)
            · refine pb_aload_n0 g dX8_orbit_174 ?_
              refine pb_iload_n1 g dX8_orbit_175 ?_
              refine pb_Vv1 g qX8_209 dX8_orbit_176 k (by omega) mr_o (m_sorts k (A := A') F (by omega) (by omega) hsm) (fun h176 e176 => ?_)
              obtain ⟨f9, π, rfl, p1, p2, p3⟩ := e176
              refine pb_goto g 37 dX8_orbit_179 (by decide) ?_
              have r1 : ∀ i, i < A' → F (π i) ∈ L := fun i hi => j6 _ (p1.1 i hi)
              have r2 : ∀ i j, i < A' → j < A' → F (π i) = F (π j) → i = j := fun i j hi hj h9 => p1.2 i j hi hj (j7 _ _ (p1.1 i hi) (p1.1 j hj) h9)
              have r4 : ∀ v, (∃ i, i < A' ∧ F i = v) → ∃ i, i < A' ∧ F (π i) = v := fun v hv => by
                obtain ⟨i, hi, hi2⟩ := hv
                obtain ⟨a, ha, ha2⟩ := pm_onto A' π p1 i hi
                exact ⟨a, ha, by rw [ha2]; exact hi2⟩
              have r3 : ∃ i, i < A' ∧ F (π i) = pkN (fun i => i) n := r4 _ (by
                obtain ⟨i, hi, hi2⟩ := j9
                exact ⟨i, by omega, hi2⟩)
              exact fin _ (fun i => F (π i)) _ _ _ _ _ _ _ _ _ r1 r2 r3 (fun i hi w hw => by
                have := p1.1 i hi
                exact r4 _ (hcl (π i) (by omega) w hw))
            · exact absurd c51 (by omega)
          · have hb1 : b = 1 := by omega
            have hAA := j4 hb1
            subst hb1
            refine pb_iload4 g dX8_orbit_48 ?_
            refine pb_iload_n3 g dX8_orbit_50 ?_
            first | refine pb_icmp_geN g 174 dX8_orbit_51 (by decide) (by omega) (by omega) (fun c51 => ?_) (fun c51 => ?_) | refine pb_icmp_ge g 174 dX8_orbit_51 (by decide) (fun c51 => ?_) (fun c51 => ?_)
            · refine pb_aload_n0 g dX8_orbit_174 ?_
              refine pb_iload_n1 g dX8_orbit_175 ?_
              refine pb_Vv1 g qX8_209 dX8_orbit_176 k (by omega) mr_o (m_sorts k (A := A') F (by omega) (by omega) hsm) (fun h176 e176 => ?_)
              obtain ⟨f9, π, rfl, p1, p2, p3⟩ := e176
              refine pb_goto g 37 dX8_orbit_179 (by decide) ?_
              have r1 : ∀ i, i < A' → F (π i) ∈ L := fun i hi => j6 _ (p1.1 i hi)
              have r2 : ∀ i j, i < A' → j < A' → F (π i) = F (π j) → i = j := fun i j hi hj h9 => p1.2 i j hi hj (j7 _ _ (p1.1 i hi) (p1.1 j hj) h9)
              have r4 : ∀ v, (∃ i, i < A' ∧ F i = v) → ∃ i, i < A' ∧ F (π i) = v := fun v hv => by
                obtain ⟨i, hi, hi2⟩ := hv
                obtain ⟨a, ha, ha2⟩ := pm_onto A' π p1 i hi
                exact ⟨a, ha, by rw [ha2]; exact hi2⟩
              have r3 : ∃ i, i < A' ∧ F (π i) = pkN (fun i => i) n := r4 _ (by
                obtain ⟨i, hi, hi2⟩ := j9
                exact ⟨i, by omega, hi2⟩)
              exact ihd _ (fun i => F (π i)) _ _ _ _ _ _ _ _ _ (by omega) (by omega) ⟨⟨Nat.le_refl _, by omega, fun _ => rfl, fun q => absurd q (by decide)⟩, p2, r1, r2, p3, r3⟩
            · exact absurd c51 (by omega)
      refine pb_iload_n2 g dX8_orbit_37 ?_
      first | refine pb_if_eqN g 182 dX8_orbit_38 (by decide) (by omega) (fun c38 => ?_) (fun c38 => ?_) | refine pb_if_eq g 182 dX8_orbit_38 (by decide) (fun c38 => ?_) (fun c38 => ?_)
      · exact absurd c38 (by decide)
      · refine pb_iconst (v := nI 0) g dX8_orbit_41 (by decide) ?_
        refine pb_istore_n2 g dX8_orbit_42 (by decide) ?_
        refine pb_iload_n1 g dX8_orbit_43 ?_
        refine pb_istore_n3 g dX8_orbit_44 (by decide) ?_
        refine pb_iconst (v := nI 0) g dX8_orbit_45 (by decide) ?_
        refine pb_istore4 g dX8_orbit_46 (by decide) ?_
        exact kloop 0 (Nat.zero_le _) A 0 F f _ _ _ _ _ _ hJ (fun i hi => absurd hi (Nat.not_lt_zero i))
  have hid16 : ∀ c, c < n → c < 16 := fun c hc => by omega
  have loop0 : ∀ i, i ≤ n → ∀ fl : Nat → Int32, (∀ a, a < i → fl a = nI a) → PB Γ 2 [some (.ref 0), some (.int (nI i)), none, none, none, none, none, none, none, none] [] (mkH 20 (mdF (nI n) xP xS xsd xod xkn xhs xmm (fl) xot xwy xnx xch xaf xfa xgr xfo xco xtsr xtsz xce xmv xtc xbo)) := by
    refine pb_loop n (fun i hi ih fl hfl => ?_)
    by_cases hin : i < n
    · have ih := ih hin
      refine pb_iload_n1 g dX8_orbit_2 ?_
      refine pb_aload_n0 g dX8_orbit_3 ?_
      refine pb_getf g fX8_7 dX8_orbit_4 mr_o rfl ?_
      first | refine pb_icmp_geN g 23 dX8_orbit_7 (by decide) (by omega) (by omega) (fun c7 => ?_) (fun c7 => ?_) | refine pb_icmp_ge g 23 dX8_orbit_7 (by decide) (fun c7 => ?_) (fun c7 => ?_)
      · exact absurd c7 (by omega)
      · refine pb_aload_n0 g dX8_orbit_10 ?_
        refine pb_getf g fX8_26 dX8_orbit_11 mr_o rfl ?_
        refine pb_iload_n1 g dX8_orbit_14 ?_
        refine pb_iload_n1 g dX8_orbit_15 ?_
        first | refine pb_iastN g dX8_orbit_16 (by first | exact mr_line | exact mr_order | exact mr_kind | exact mr_heaps | exact mr_m | exact mr_other | exact mr_ways | exact mr_next | exact mr_chances | exact mr_after | exact mr_far | exact mr_groups | exact mr_found | exact mr_counts | exact mr_traySort | exact mr_traySize | exact mr_cells | exact mr_moved | exact mr_traced | assumption) (by omega) (by omega) ?_ | refine pb_iast g dX8_orbit_16 (by first | exact mr_line | exact mr_order | exact mr_kind | exact mr_heaps | exact mr_m | exact mr_other | exact mr_ways | exact mr_next | exact mr_chances | exact mr_after | exact mr_far | exact mr_groups | exact mr_found | exact mr_counts | exact mr_traySort | exact mr_traySize | exact mr_cells | exact mr_moved | exact mr_traced | assumption) (by assumption) ?_
        first | rw [ms_line]
        first | refine pb_iinc1N g dX8_orbit_17 (by decide) ?_ | refine pb_iinc1 g dX8_orbit_17 (by decide) rfl ?_
        refine pb_goto g 2 dX8_orbit_20 (by decide) ?_
        exact ih _ (fun a ha => by
          by_cases q : a = i
          · rw [q, upd, if_pos rfl]
          · rw [upd, if_neg q]
            exact hfl a (by omega))
    · obtain rfl : i = n := by omega
      refine pb_iload_n1 g dX8_orbit_2 ?_
      refine pb_aload_n0 g dX8_orbit_3 ?_
      refine pb_getf g fX8_7 dX8_orbit_4 mr_o rfl ?_
      first | refine pb_icmp_geN g 23 dX8_orbit_7 (by decide) (by omega) (by omega) (fun c7 => ?_) (fun c7 => ?_) | refine pb_icmp_ge g 23 dX8_orbit_7 (by decide) (fun c7 => ?_) (fun c7 => ?_)
      · refine pb_iconst (v := nI 1) g dX8_orbit_23 (by decide) ?_
        refine pb_istore_n1 g dX8_orbit_24 (by decide) ?_
        refine pb_aload_n0 g dX8_orbit_25 ?_
        refine pb_getf g fX8_51 dX8_orbit_26 mr_o rfl ?_
        refine pb_iconst (v := nI 0) g dX8_orbit_29 (by decide) ?_
        refine pb_aload_n0 g dX8_orbit_30 ?_
        refine pb_Vl0 g qX8_195 dX8_orbit_31 k (by omega) mr_o (m_packed k (n := i) hn (fun c => c) hfl hid16) (fun r31 h31 e31 => ?_)
        obtain ⟨rfl, rfl⟩ := e31
        first | refine pb_lastN g dX8_orbit_34 (by first | exact mr_found | exact mr_order | exact mr_kind | exact mr_heaps | exact mr_m | exact mr_line | exact mr_other | exact mr_ways | exact mr_next | exact mr_chances | exact mr_after | exact mr_far | exact mr_groups | exact mr_counts | exact mr_traySort | exact mr_traySize | exact mr_cells | exact mr_moved | exact mr_traced | assumption) (by omega) (by omega) ?_ | refine pb_last g dX8_orbit_34 (by first | exact mr_found | exact mr_order | exact mr_kind | exact mr_heaps | exact mr_m | exact mr_line | exact mr_other | exact mr_ways | exact mr_next | exact mr_chances | exact mr_after | exact mr_far | exact mr_groups | exact mr_counts | exact mr_traySort | exact mr_traySize | exact mr_cells | exact mr_moved | exact mr_traced | assumption) (by assumption) ?_
        first | rw [ms_found]
        refine pb_iconst (v := nI 1) g dX8_orbit_35 (by decide) ?_
        refine pb_istore_n2 g dX8_orbit_36 (by decide) ?_
        exact whl (gpF i) 1 (fun _ => pkN (fun c => c) i) _ _ _ _ _ _ _ _ _ (by omega) (Nat.le_refl 1) ⟨⟨Nat.le_refl 1, by omega, fun _ => rfl, fun q => absurd q (by decide)⟩, fun a ha => by rw [show a = 0 by omega, updL_eq], fun a _ => o2, fun a c ha hc _ => by omega, fun a c _ _ => Nat.le_refl _, 0, by omega, rfl⟩
      · exact absurd c7 (by omega)
  refine pb_iconst (v := nI 0) g dX8_orbit_0 (by decide) ?_
  refine pb_istore_n1 g dX8_orbit_1 (by decide) ?_
  exact loop0 0 (Nat.zero_le _) _ (fun a ha => absurd ha (Nat.not_lt_zero a))
set_option maxHeartbeats 4000000 in
set_option maxRecDepth 100000 in
theorem m_group (k : Nat) (q : SP)  (h : PH) (hD : IsM q h) (hI : SI q) : Runs yX8_group cX8_group 1 (some .int) (k + 6) [.ref 0] h (fun oo h' => ∃ r : Int32, oo = some (.int r) ∧ r = sGroup q ∧ IsM (q) h') := by
  obtain ⟨⟨n, P, S, sd⟩, ⟨σ, μ, K, Hh⟩, ⟨ts, zz, it⟩, ⟨ra, tr⟩⟩ := q
  obtain ⟨⟨hn1, hn, hP, hS⟩, hσ, hK, hz, hra⟩ := hI
  obtain ⟨xod, xkn, xhs, xmm, xln, xot, xfa, xgr, xtsr, xtsz, xce, xmv, xtc, xwy, xnx, xch, xaf, xfo, xco, rfl, d1, d2, d3, d4, d5⟩ := hD
  refine Runs.of (by decide) (Nat.le_of_ble_eq_true rfl) [some (.ref 0)] 0 rfl (fun Γ g z => ?_)
  by_cases hodd : n % 2 = 1
  · have e : sGroup ((n, P, S, sd), (σ, μ, K, Hh), (ts, zz, it), (ra, tr)) = -3 := by
      simp only [sGroup]
      exact if_pos hodd
    refine pb_aload_n0 g dX8_group_0 ?_
    refine pb_getf g fX8_7 dX8_group_1 mr_o rfl ?_
    refine pb_iconst (v := nI 2) g dX8_group_4 (by decide) ?_
    first | refine pb_iremN g dX8_group_5 (by omega) (by omega) (by omega) ?_ | refine pb_irem g dX8_group_5 (by assumption) ?_
    refine pb_iconst (v := nI 1) g dX8_group_6 (by decide) ?_
    first | refine pb_icmp_neN g 13 dX8_group_7 (by decide) (by omega) (by omega) (fun c7 => ?_) (fun c7 => ?_) | refine pb_icmp_ne g 13 dX8_group_7 (by decide) (fun c7 => ?_) (fun c7 => ?_)
    · exact absurd hodd c7
    · refine pb_bipush (v := -3) g dX8_group_10 (by decide) ?_
      refine pb_iret g z dX8_group_12 ?_
      exact ⟨_, rfl, by rw [e], ⟨_, _, _, _, _, _, _, _, _, _, _, _, _, _, _, _, _, _, _, rfl, d1, d2, d3, d4, d5⟩⟩
  · have heven : n % 2 = 0 := by omega
    have e : sGroup ((n, P, S, sd), (σ, μ, K, Hh), (ts, zz, it), (ra, tr)) = nI (gpF n) := by
      simp only [sGroup]
      exact if_neg hodd
    have hgl := gp_le n (by omega)
    rcases d5 n (by omega) with h0 | ⟨-, h0⟩
    · have : True := trivial
      refine pb_aload_n0 g dX8_group_0 ?_
      refine pb_getf g fX8_7 dX8_group_1 mr_o rfl ?_
      refine pb_iconst (v := nI 2) g dX8_group_4 (by decide) ?_
      first | refine pb_iremN g dX8_group_5 (by omega) (by omega) (by omega) ?_ | refine pb_irem g dX8_group_5 (by assumption) ?_
      refine pb_iconst (v := nI 1) g dX8_group_6 (by decide) ?_
      first | refine pb_icmp_neN g 13 dX8_group_7 (by decide) (by omega) (by omega) (fun c7 => ?_) (fun c7 => ?_) | refine pb_icmp_ne g 13 dX8_group_7 (by decide) (fun c7 => ?_) (fun c7 => ?_)
      · refine pb_aload_n0 g dX8_group_13 ?_
        refine pb_getf g fX8_48 dX8_group_14 mr_o rfl ?_
        refine pb_aload_n0 g dX8_group_17 ?_
        refine pb_getf g fX8_7 dX8_group_18 mr_o rfl ?_
        first | refine pb_ialdN g dX8_group_21 (by first | exact mr_groups | exact mr_order | exact mr_kind | exact mr_heaps | exact mr_m | exact mr_line | exact mr_other | exact mr_ways | exact mr_next | exact mr_chances | exact mr_after | exact mr_far | exact mr_found | exact mr_counts | exact mr_traySort | exact mr_traySize | exact mr_cells | exact mr_moved | exact mr_traced | assumption) (by omega) (by omega) ?_ | refine pb_ald0 g dX8_group_21 (by omega) ?_ | refine pb_ald1 g dX8_group_21 (by omega) ?_ | refine pb_ald2 g dX8_group_21 (by omega) ?_ | refine pb_ald3 g dX8_group_21 (by omega) ?_ | refine pb_iald g dX8_group_21 (by first | exact mr_groups | exact mr_order | exact mr_kind | exact mr_heaps | exact mr_m | exact mr_line | exact mr_other | exact mr_ways | exact mr_next | exact mr_chances | exact mr_after | exact mr_far | exact mr_found | exact mr_counts | exact mr_traySort | exact mr_traySize | exact mr_cells | exact mr_moved | exact mr_traced | assumption) (by assumption) ?_
        rw [h0]
        first | refine pb_if_neN g 38 dX8_group_22 (by decide) (by omega) (fun c22 => ?_) (fun c22 => ?_) | refine pb_if_ne g 38 dX8_group_22 (by decide) (fun c22 => ?_) (fun c22 => ?_)
        · exact absurd rfl c22
        · refine pb_aload_n0 g dX8_group_25 ?_
          refine pb_getf g fX8_48 dX8_group_26 mr_o rfl ?_
          refine pb_aload_n0 g dX8_group_29 ?_
          refine pb_getf g fX8_7 dX8_group_30 mr_o rfl ?_
          refine pb_aload_n0 g dX8_group_33 ?_
          refine pb_Vi0 g qX8_192 dX8_group_34 (k + 5) (by omega) mr_o (m_orbit (k + 4) (n := n) hn1 hn heven) (fun r34 h34 e34 => ?_)
          obtain ⟨rfl, fl, ff, rfl⟩ := e34
          first | refine pb_iastN g dX8_group_37 (by first | exact mr_groups | exact mr_order | exact mr_kind | exact mr_heaps | exact mr_m | exact mr_line | exact mr_other | exact mr_ways | exact mr_next | exact mr_chances | exact mr_after | exact mr_far | exact mr_found | exact mr_counts | exact mr_traySort | exact mr_traySize | exact mr_cells | exact mr_moved | exact mr_traced | assumption) (by omega) (by omega) ?_ | refine pb_iast g dX8_group_37 (by first | exact mr_groups | exact mr_order | exact mr_kind | exact mr_heaps | exact mr_m | exact mr_line | exact mr_other | exact mr_ways | exact mr_next | exact mr_chances | exact mr_after | exact mr_far | exact mr_found | exact mr_counts | exact mr_traySort | exact mr_traySize | exact mr_cells | exact mr_moved | exact mr_traced | assumption) (by assumption) ?_
          first | rw [ms_groups]
          refine pb_aload_n0 g dX8_group_38 ?_
          refine pb_getf g fX8_48 dX8_group_39 mr_o rfl ?_
          refine pb_aload_n0 g dX8_group_42 ?_
          refine pb_getf g fX8_7 dX8_group_43 mr_o rfl ?_
          first | refine pb_ialdN g dX8_group_46 (by first | exact mr_groups | exact mr_order | exact mr_kind | exact mr_heaps | exact mr_m | exact mr_line | exact mr_other | exact mr_ways | exact mr_next | exact mr_chances | exact mr_after | exact mr_far | exact mr_found | exact mr_counts | exact mr_traySort | exact mr_traySize | exact mr_cells | exact mr_moved | exact mr_traced | assumption) (by omega) (by omega) ?_ | refine pb_ald0 g dX8_group_46 (by omega) ?_ | refine pb_ald1 g dX8_group_46 (by omega) ?_ | refine pb_ald2 g dX8_group_46 (by omega) ?_ | refine pb_ald3 g dX8_group_46 (by omega) ?_ | refine pb_iald g dX8_group_46 (by first | exact mr_groups | exact mr_order | exact mr_kind | exact mr_heaps | exact mr_m | exact mr_line | exact mr_other | exact mr_ways | exact mr_next | exact mr_chances | exact mr_after | exact mr_far | exact mr_found | exact mr_counts | exact mr_traySort | exact mr_traySize | exact mr_cells | exact mr_moved | exact mr_traced | assumption) (by assumption) ?_
          rw [upd, if_pos rfl]
          refine pb_iret g z dX8_group_47 ?_
          exact ⟨_, rfl, by rw [e], ⟨_, _, _, _, _, _, _, _, _, _, _, _, _, _, _, _, _, _, _, rfl, d1, d2, d3, d4, fun c hc => by
            by_cases q : c = n
            · exact Or.inr ⟨by omega, by rw [q, upd, if_pos rfl]⟩
            · rw [upd, if_neg q]
              exact d5 c hc⟩⟩
      · exact absurd c7 hodd
    · have hgp : 0 < gpF n := by
        have h9 := gp_pos (n / 2 - 1) (by omega)
        rw [show 2 * (n / 2 - 1 + 1) = n by omega] at h9
        exact h9
      refine pb_aload_n0 g dX8_group_0 ?_
      refine pb_getf g fX8_7 dX8_group_1 mr_o rfl ?_
      refine pb_iconst (v := nI 2) g dX8_group_4 (by decide) ?_
      first | refine pb_iremN g dX8_group_5 (by omega) (by omega) (by omega) ?_ | refine pb_irem g dX8_group_5 (by assumption) ?_
      refine pb_iconst (v := nI 1) g dX8_group_6 (by decide) ?_
      first | refine pb_icmp_neN g 13 dX8_group_7 (by decide) (by omega) (by omega) (fun c7 => ?_) (fun c7 => ?_) | refine pb_icmp_ne g 13 dX8_group_7 (by decide) (fun c7 => ?_) (fun c7 => ?_)
      · refine pb_aload_n0 g dX8_group_13 ?_
        refine pb_getf g fX8_48 dX8_group_14 mr_o rfl ?_
        refine pb_aload_n0 g dX8_group_17 ?_
        refine pb_getf g fX8_7 dX8_group_18 mr_o rfl ?_
        first | refine pb_ialdN g dX8_group_21 (by first | exact mr_groups | exact mr_order | exact mr_kind | exact mr_heaps | exact mr_m | exact mr_line | exact mr_other | exact mr_ways | exact mr_next | exact mr_chances | exact mr_after | exact mr_far | exact mr_found | exact mr_counts | exact mr_traySort | exact mr_traySize | exact mr_cells | exact mr_moved | exact mr_traced | assumption) (by omega) (by omega) ?_ | refine pb_ald0 g dX8_group_21 (by omega) ?_ | refine pb_ald1 g dX8_group_21 (by omega) ?_ | refine pb_ald2 g dX8_group_21 (by omega) ?_ | refine pb_ald3 g dX8_group_21 (by omega) ?_ | refine pb_iald g dX8_group_21 (by first | exact mr_groups | exact mr_order | exact mr_kind | exact mr_heaps | exact mr_m | exact mr_line | exact mr_other | exact mr_ways | exact mr_next | exact mr_chances | exact mr_after | exact mr_far | exact mr_found | exact mr_counts | exact mr_traySort | exact mr_traySize | exact mr_cells | exact mr_moved | exact mr_traced | assumption) (by assumption) ?_
        rw [h0]
        first | refine pb_if_neN g 38 dX8_group_22 (by decide) (by omega) (fun c22 => ?_) (fun c22 => ?_) | refine pb_if_ne g 38 dX8_group_22 (by decide) (fun c22 => ?_) (fun c22 => ?_)
        · refine pb_aload_n0 g dX8_group_38 ?_
          refine pb_getf g fX8_48 dX8_group_39 mr_o rfl ?_
          refine pb_aload_n0 g dX8_group_42 ?_
          refine pb_getf g fX8_7 dX8_group_43 mr_o rfl ?_
          first | refine pb_ialdN g dX8_group_46 (by first | exact mr_groups | exact mr_order | exact mr_kind | exact mr_heaps | exact mr_m | exact mr_line | exact mr_other | exact mr_ways | exact mr_next | exact mr_chances | exact mr_after | exact mr_far | exact mr_found | exact mr_counts | exact mr_traySort | exact mr_traySize | exact mr_cells | exact mr_moved | exact mr_traced | assumption) (by omega) (by omega) ?_ | refine pb_ald0 g dX8_group_46 (by omega) ?_ | refine pb_ald1 g dX8_group_46 (by omega) ?_ | refine pb_ald2 g dX8_group_46 (by omega) ?_ | refine pb_ald3 g dX8_group_46 (by omega) ?_ | refine pb_iald g dX8_group_46 (by first | exact mr_groups | exact mr_order | exact mr_kind | exact mr_heaps | exact mr_m | exact mr_line | exact mr_other | exact mr_ways | exact mr_next | exact mr_chances | exact mr_after | exact mr_far | exact mr_found | exact mr_counts | exact mr_traySort | exact mr_traySize | exact mr_cells | exact mr_moved | exact mr_traced | assumption) (by assumption) ?_
          rw [h0]
          refine pb_iret g z dX8_group_47 ?_
          exact ⟨_, rfl, by rw [e], ⟨_, _, _, _, _, _, _, _, _, _, _, _, _, _, _, _, _, _, _, rfl, d1, d2, d3, d4, d5⟩⟩
        · exact absurd c22 (by omega)
      · exact absurd c7 hodd
