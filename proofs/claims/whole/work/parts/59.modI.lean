/-! ===== the reference: acts ===== -/
def lwF (K : Nat) (m hh x : Int32) : Int32 := if K < 2 then x + m else if K < 4 then x + m - hh else x * nI 3 + m - hh
def lwT (K : Nat) : List Nat := if K < 2 then [10] else if K < 4 then [30, 10] else [50, 30, 10]
def cmF (K : Nat) (m hh x : Int32) : Int32 := lwF K m hh x * hh
def cmT (K : Nat) : List Nat := 11 :: lwT K
def cwF (K : Nat) (m hh x : Int32) : Int32 := if K = 1 then cmF K m hh x + nI 1 else if K < 3 then cmF K m hh x else cmF K m hh x + (x + m - hh)
def cwT (K : Nat) : List Nat := if K = 1 then 20 :: cmT K else if K < 3 then cmT K else 40 :: (cmT K ++ [30, 10])
def tmA (K : Nat) (m hh x : Int32) : Int32 := cwF K m hh x ^^^ lwF K m hh (x + nI 1)
def tmT (K : Nat) : List Nat := 12 :: (cwT K ++ lwT K)
def tdF (K : Nat) (m hh x : Int32) : Int32 := tmA K m hh x * nI 2
def tdT (K : Nat) : List Nat := 31 :: tmT K
def twF (K : Nat) (m hh x : Int32) : Int32 := if K < 2 then tmA K m hh x else if K < 4 then tdF K m hh x else cwF K m hh x - tdF K m hh x
def twT (K : Nat) : List Nat := if K < 2 then tmT K else if K < 4 then tdT K else 51 :: (cwT K ++ tdT K)
theorem ac_lays (m hh x : Int32) : ∀ K, K < 5 → acR K m hh 9 K 0 x = (lwF K m hh x, lwT K)
  | 0, _ => rfl
  | 1, _ => rfl
  | 2, _ => rfl
  | 3, _ => rfl
  | 4, _ => rfl
theorem ac_cuts (m hh x : Int32) : ∀ K, K < 5 → acR K m hh 9 K 1 x = (cwF K m hh x, cwT K)
  | 0, _ => rfl
  | 1, _ => rfl
  | 2, _ => rfl
  | 3, _ => rfl
  | 4, _ => rfl
theorem ac_turns (m hh x : Int32) : ∀ K, K < 5 → acR K m hh 9 K 2 x = (twF K m hh x, twT K)
  | 0, _ => rfl
  | 1, _ => rfl
  | 2, _ => rfl
  | 3, _ => rfl
  | 4, _ => rfl
theorem act_len : ∀ K, K < 5 → (lwT K).length ≤ 3 ∧ (cmT K).length ≤ 4 ∧ (cwT K).length ≤ 8 ∧ (tmT K).length ≤ 12 ∧ (tdT K).length ≤ 14 ∧ (twT K).length ≤ 30 := by decide
theorem nts_1 (f : Nat → Int32) (ra b : Nat) : nts f ra [b] = nt1 f ra b := rfl
theorem nts_c (f : Nat → Int32) (ra b : Nat) (l : List Nat) : nts f ra (b :: l) = nts (nt1 f ra b) (ra + 1) l := rfl
theorem len_c (ra b : Nat) (l : List Nat) : ra + (b :: l).length = ra + 1 + l.length := by rw [List.length_cons]; omega
set_option maxHeartbeats 4000000 in
set_option maxRecDepth 100000 in
theorem m_ran (k : Nat) {xn xP xS xsd : Int32} {xod xkn xhs xmm xln xot xfa xgr xtsr xtsz xce xmv xtc : Nat → Int32} {xwy xnx xch xaf xfo xco : Nat → Int64} {ra b : Nat} (hra : ra < 2 ^ 30) : Runs yX8_ran cX8_ran 2 none (k) [.ref 0, .int (nI b)] (mkH 20 (mdF xn xP xS xsd xod xkn xhs xmm xln xot xwy xnx xch xaf xfa xgr xfo xco xtsr xtsz xce xmv xtc (nI ra))) (fun o h' => o = none ∧ mkH 20 (mdF xn xP xS xsd xod xkn xhs xmm xln xot xwy xnx xch xaf xfa xgr xfo xco xtsr xtsz xce xmv (nt1 xtc ra b) (nI (ra + 1))) = h') := by
  refine Runs.of (by decide) (Nat.le_of_ble_eq_true rfl) [some (.ref 0), some (.int (nI b))] 0 rfl (fun Γ g z => ?_)
  by_cases h40 : ra < 40
  · rw [show nt1 xtc ra b = upd xtc ra (nI b) from if_pos h40] at z
    refine pb_aload_n0 g dX8_ran_0 ?_
    refine pb_getf g fX8_212 dX8_ran_1 mr_o rfl ?_
    refine pb_bipush (v := nI 40) g dX8_ran_4 (by decide) ?_
    first | refine pb_icmp_geN g 19 dX8_ran_6 (by decide) (by omega) (by omega) (fun c6 => ?_) (fun c6 => ?_) | refine pb_icmp_ge g 19 dX8_ran_6 (by decide) (fun c6 => ?_) (fun c6 => ?_)
    · exact absurd c6 (by omega)
    · refine pb_aload_n0 g dX8_ran_9 ?_
      refine pb_getf g fX8_69 dX8_ran_10 mr_o rfl ?_
      refine pb_aload_n0 g dX8_ran_13 ?_
      refine pb_getf g fX8_212 dX8_ran_14 mr_o rfl ?_
      refine pb_iload_n1 g dX8_ran_17 ?_
      first | refine pb_iastN g dX8_ran_18 (by first | exact mr_traced | exact mr_order | exact mr_kind | exact mr_heaps | exact mr_m | exact mr_line | exact mr_other | exact mr_ways | exact mr_next | exact mr_chances | exact mr_after | exact mr_far | exact mr_groups | exact mr_found | exact mr_counts | exact mr_traySort | exact mr_traySize | exact mr_cells | exact mr_moved | assumption) (by omega) (by omega) ?_ | refine pb_iast g dX8_ran_18 (by first | exact mr_traced | exact mr_order | exact mr_kind | exact mr_heaps | exact mr_m | exact mr_line | exact mr_other | exact mr_ways | exact mr_next | exact mr_chances | exact mr_after | exact mr_far | exact mr_groups | exact mr_found | exact mr_counts | exact mr_traySort | exact mr_traySize | exact mr_cells | exact mr_moved | assumption) (by assumption) ?_
      first | rw [ms_traced]
      refine pb_aload_n0 g dX8_ran_19 ?_
      refine pb_dup g dX8_ran_20 rfl ?_
      refine pb_getf g fX8_212 dX8_ran_21 mr_o rfl ?_
      refine pb_iconst (v := nI 1) g dX8_ran_24 (by decide) ?_
      first | refine pb_iaddN g dX8_ran_25 ?_ | refine pb_iadd g dX8_ran_25 ?_
      refine pb_puti g wX8_212 dX8_ran_26 mr_o (Nat.le_of_ble_eq_true rfl) ?_
      rw [ms_bodies]
      refine pb_vret g z dX8_ran_29 ?_
      exact ⟨rfl, rfl⟩
  · rw [show nt1 xtc ra b = xtc from if_neg h40] at z
    refine pb_aload_n0 g dX8_ran_0 ?_
    refine pb_getf g fX8_212 dX8_ran_1 mr_o rfl ?_
    refine pb_bipush (v := nI 40) g dX8_ran_4 (by decide) ?_
    first | refine pb_icmp_geN g 19 dX8_ran_6 (by decide) (by omega) (by omega) (fun c6 => ?_) (fun c6 => ?_) | refine pb_icmp_ge g 19 dX8_ran_6 (by decide) (fun c6 => ?_) (fun c6 => ?_)
    · refine pb_aload_n0 g dX8_ran_19 ?_
      refine pb_dup g dX8_ran_20 rfl ?_
      refine pb_getf g fX8_212 dX8_ran_21 mr_o rfl ?_
      refine pb_iconst (v := nI 1) g dX8_ran_24 (by decide) ?_
      first | refine pb_iaddN g dX8_ran_25 ?_ | refine pb_iadd g dX8_ran_25 ?_
      refine pb_puti g wX8_212 dX8_ran_26 mr_o (Nat.le_of_ble_eq_true rfl) ?_
      rw [ms_bodies]
      refine pb_vret g z dX8_ran_29 ?_
      exact ⟨rfl, rfl⟩
    · exact absurd c6 (by omega)
set_option maxHeartbeats 4000000 in
set_option maxRecDepth 100000 in
theorem m_laysMove (k : Nat) {xn xP xS xsd : Int32} {xod xkn xhs xmm xln xot xfa xgr xtsr xtsz xce xmv xtc : Nat → Int32} {xwy xnx xch xaf xfo xco : Nat → Int64} {s K a ra : Nat} {x : Int32} (hs : s < 10) (hk : xkn s = nI K) (hK : K < 5) (hh : xhs s = nI a) (hra : ra ≤ 1000) : Runs yX8_laysMove cX8_laysMove 3 (some .int) (k + 1) [.ref 0, .int (nI s), .int x] (mkH 20 (mdF xn xP xS xsd xod xkn xhs xmm xln xot xwy xnx xch xaf xfa xgr xfo xco xtsr xtsz xce xmv xtc (nI ra))) (fun o h' => ∃ r : Int32, o = some (.int r) ∧ r = x + nI s ∧ mkH 20 (mdF xn xP xS xsd xod xkn xhs xmm xln xot xwy xnx xch xaf xfa xgr xfo xco xtsr xtsz xce xmv (nts xtc ra ([10])) (nI (ra + ([10]).length))) = h') := by
  refine Runs.of (by decide) (Nat.le_of_ble_eq_true rfl) [some (.ref 0), some (.int (nI s)), some (.int x)] 0 rfl (fun Γ g z => ?_)
  refine pb_aload_n0 g dX8_laysMove_0 ?_
  refine pb_bipush (v := nI 10) g dX8_laysMove_1 (by decide) ?_
  refine pb_Vv1 g qX8_215 dX8_laysMove_3 k (by omega) mr_o (m_ran k (ra := ra) (b := 10) (by omega)) (fun h3 e3 => ?_)
  subst e3
  refine pb_iload_n2 g dX8_laysMove_6 ?_
  refine pb_iload_n1 g dX8_laysMove_7 ?_
  refine pb_iadd g dX8_laysMove_8 ?_
  refine pb_iret g z dX8_laysMove_9 ?_
  exact ⟨_, rfl, rfl, rfl⟩
set_option maxHeartbeats 4000000 in
set_option maxRecDepth 100000 in
theorem m_laysDeal (k : Nat) {xn xP xS xsd : Int32} {xod xkn xhs xmm xln xot xfa xgr xtsr xtsz xce xmv xtc : Nat → Int32} {xwy xnx xch xaf xfo xco : Nat → Int64} {s K a ra : Nat} {x : Int32} (hs : s < 10) (hk : xkn s = nI K) (hK : K < 5) (hh : xhs s = nI a) (hra : ra ≤ 900) : Runs yX8_laysDeal cX8_laysDeal 3 (some .int) (k + 2) [.ref 0, .int (nI s), .int x] (mkH 20 (mdF xn xP xS xsd xod xkn xhs xmm xln xot xwy xnx xch xaf xfa xgr xfo xco xtsr xtsz xce xmv xtc (nI ra))) (fun o h' => ∃ r : Int32, o = some (.int r) ∧ r = x + nI s - nI a ∧ mkH 20 (mdF xn xP xS xsd xod xkn xhs xmm xln xot xwy xnx xch xaf xfa xgr xfo xco xtsr xtsz xce xmv (nts xtc ra ([30, 10])) (nI (ra + ([30, 10]).length))) = h') := by
  refine Runs.of (by decide) (Nat.le_of_ble_eq_true rfl) [some (.ref 0), some (.int (nI s)), some (.int x)] 0 rfl (fun Γ g z => ?_)
  refine pb_aload_n0 g dX8_laysDeal_0 ?_
  refine pb_bipush (v := nI 30) g dX8_laysDeal_1 (by decide) ?_
  refine pb_Vv1 g qX8_215 dX8_laysDeal_3 (k + 1) (by omega) mr_o (m_ran (k + 1) (ra := ra) (b := 30) (by omega)) (fun h3 e3 => ?_)
  subst e3
  refine pb_aload_n0 g dX8_laysDeal_6 ?_
  refine pb_iload_n1 g dX8_laysDeal_7 ?_
  refine pb_iload_n2 g dX8_laysDeal_8 ?_
  refine pb_Vi2 g qX8_218 dX8_laysDeal_9 (k + 1) (by omega) mr_o (m_laysMove k (s := s) (ra := ra + 1) (x := x) (K := K) (a := a) hs hk hK hh (by omega)) (fun r9 h9 e9 => ?_)
  obtain ⟨rfl, rfl⟩ := e9
  refine pb_aload_n0 g dX8_laysDeal_12 ?_
  refine pb_getf g fX8_20 dX8_laysDeal_13 mr_o rfl ?_
  refine pb_iload_n1 g dX8_laysDeal_16 ?_
  first | refine pb_ialdN g dX8_laysDeal_17 (by first | exact mr_heaps | exact mr_order | exact mr_kind | exact mr_m | exact mr_line | exact mr_other | exact mr_ways | exact mr_next | exact mr_chances | exact mr_after | exact mr_far | exact mr_groups | exact mr_found | exact mr_counts | exact mr_traySort | exact mr_traySize | exact mr_cells | exact mr_moved | exact mr_traced | assumption) (by omega) (by omega) ?_ | refine pb_ald0 g dX8_laysDeal_17 (by omega) ?_ | refine pb_ald1 g dX8_laysDeal_17 (by omega) ?_ | refine pb_ald2 g dX8_laysDeal_17 (by omega) ?_ | refine pb_ald3 g dX8_laysDeal_17 (by omega) ?_ | refine pb_iald g dX8_laysDeal_17 (by first | exact mr_heaps | exact mr_order | exact mr_kind | exact mr_m | exact mr_line | exact mr_other | exact mr_ways | exact mr_next | exact mr_chances | exact mr_after | exact mr_far | exact mr_groups | exact mr_found | exact mr_counts | exact mr_traySort | exact mr_traySize | exact mr_cells | exact mr_moved | exact mr_traced | assumption) (by assumption) ?_
  rw [hh]
  refine pb_isub g dX8_laysDeal_18 ?_
  refine pb_iret g z dX8_laysDeal_19 ?_
  exact ⟨_, rfl, rfl, by rw [len_c]; rfl⟩
set_option maxHeartbeats 4000000 in
set_option maxRecDepth 100000 in
theorem m_laysNow (k : Nat) {xn xP xS xsd : Int32} {xod xkn xhs xmm xln xot xfa xgr xtsr xtsz xce xmv xtc : Nat → Int32} {xwy xnx xch xaf xfo xco : Nat → Int64} {s K a ra : Nat} {x : Int32} (hs : s < 10) (hk : xkn s = nI K) (hK : K < 5) (hh : xhs s = nI a) (hra : ra ≤ 800) : Runs yX8_laysNow cX8_laysNow 3 (some .int) (k + 3) [.ref 0, .int (nI s), .int x] (mkH 20 (mdF xn xP xS xsd xod xkn xhs xmm xln xot xwy xnx xch xaf xfa xgr xfo xco xtsr xtsz xce xmv xtc (nI ra))) (fun o h' => ∃ r : Int32, o = some (.int r) ∧ r = lwF K (nI s) (nI a) x ∧ mkH 20 (mdF xn xP xS xsd xod xkn xhs xmm xln xot xwy xnx xch xaf xfa xgr xfo xco xtsr xtsz xce xmv (nts xtc ra (lwT K)) (nI (ra + (lwT K).length))) = h') := by
  refine Runs.of (by decide) (Nat.le_of_ble_eq_true rfl) [some (.ref 0), some (.int (nI s)), some (.int x)] 0 rfl (fun Γ g z => ?_)
  by_cases h2 : K < 2
  · rw [lwF, lwT, if_pos h2, if_pos h2] at z
    refine pb_aload_n0 g dX8_laysNow_0 ?_
    refine pb_getf g fX8_17 dX8_laysNow_1 mr_o rfl ?_
    refine pb_iload_n1 g dX8_laysNow_4 ?_
    first | refine pb_ialdN g dX8_laysNow_5 (by first | exact mr_kind | exact mr_order | exact mr_heaps | exact mr_m | exact mr_line | exact mr_other | exact mr_ways | exact mr_next | exact mr_chances | exact mr_after | exact mr_far | exact mr_groups | exact mr_found | exact mr_counts | exact mr_traySort | exact mr_traySize | exact mr_cells | exact mr_moved | exact mr_traced | assumption) (by omega) (by omega) ?_ | refine pb_ald0 g dX8_laysNow_5 (by omega) ?_ | refine pb_ald1 g dX8_laysNow_5 (by omega) ?_ | refine pb_ald2 g dX8_laysNow_5 (by omega) ?_ | refine pb_ald3 g dX8_laysNow_5 (by omega) ?_ | refine pb_iald g dX8_laysNow_5 (by first | exact mr_kind | exact mr_order | exact mr_heaps | exact mr_m | exact mr_line | exact mr_other | exact mr_ways | exact mr_next | exact mr_chances | exact mr_after | exact mr_far | exact mr_groups | exact mr_found | exact mr_counts | exact mr_traySort | exact mr_traySize | exact mr_cells | exact mr_moved | exact mr_traced | assumption) (by assumption) ?_
    rw [hk]
    refine pb_iconst (v := nI 2) g dX8_laysNow_6 (by decide) ?_
    first | refine pb_icmp_geN g 17 dX8_laysNow_7 (by decide) (by omega) (by omega) (fun c7 => ?_) (fun c7 => ?_) | refine pb_icmp_ge g 17 dX8_laysNow_7 (by decide) (fun c7 => ?_) (fun c7 => ?_)
    · exact absurd c7 (by omega)
    · refine pb_aload_n0 g dX8_laysNow_10 ?_
      refine pb_iload_n1 g dX8_laysNow_11 ?_
      refine pb_iload_n2 g dX8_laysNow_12 ?_
      refine pb_Vi2 g qX8_218 dX8_laysNow_13 (k + 2) (by omega) mr_o (m_laysMove (k + 1) (s := s) (ra := ra) (x := x) (K := K) (a := a) hs hk hK hh (by omega)) (fun r13 h13 e13 => ?_)
      obtain ⟨rfl, rfl⟩ := e13
      refine pb_iret g z dX8_laysNow_16 ?_
      exact ⟨_, rfl, rfl, rfl⟩
  · by_cases h4 : K < 4
    · rw [lwF, lwT, if_neg h2, if_pos h4, if_neg h2, if_pos h4] at z
      refine pb_aload_n0 g dX8_laysNow_0 ?_
      refine pb_getf g fX8_17 dX8_laysNow_1 mr_o rfl ?_
      refine pb_iload_n1 g dX8_laysNow_4 ?_
      first | refine pb_ialdN g dX8_laysNow_5 (by first | exact mr_kind | exact mr_order | exact mr_heaps | exact mr_m | exact mr_line | exact mr_other | exact mr_ways | exact mr_next | exact mr_chances | exact mr_after | exact mr_far | exact mr_groups | exact mr_found | exact mr_counts | exact mr_traySort | exact mr_traySize | exact mr_cells | exact mr_moved | exact mr_traced | assumption) (by omega) (by omega) ?_ | refine pb_ald0 g dX8_laysNow_5 (by omega) ?_ | refine pb_ald1 g dX8_laysNow_5 (by omega) ?_ | refine pb_ald2 g dX8_laysNow_5 (by omega) ?_ | refine pb_ald3 g dX8_laysNow_5 (by omega) ?_ | refine pb_iald g dX8_laysNow_5 (by first | exact mr_kind | exact mr_order | exact mr_heaps | exact mr_m | exact mr_line | exact mr_other | exact mr_ways | exact mr_next | exact mr_chances | exact mr_after | exact mr_far | exact mr_groups | exact mr_found | exact mr_counts | exact mr_traySort | exact mr_traySize | exact mr_cells | exact mr_moved | exact mr_traced | assumption) (by assumption) ?_
      rw [hk]
      refine pb_iconst (v := nI 2) g dX8_laysNow_6 (by decide) ?_
      first | refine pb_icmp_geN g 17 dX8_laysNow_7 (by decide) (by omega) (by omega) (fun c7 => ?_) (fun c7 => ?_) | refine pb_icmp_ge g 17 dX8_laysNow_7 (by decide) (fun c7 => ?_) (fun c7 => ?_)
      · refine pb_aload_n0 g dX8_laysNow_17 ?_
        refine pb_getf g fX8_17 dX8_laysNow_18 mr_o rfl ?_
        refine pb_iload_n1 g dX8_laysNow_21 ?_
        first | refine pb_ialdN g dX8_laysNow_22 (by first | exact mr_kind | exact mr_order | exact mr_heaps | exact mr_m | exact mr_line | exact mr_other | exact mr_ways | exact mr_next | exact mr_chances | exact mr_after | exact mr_far | exact mr_groups | exact mr_found | exact mr_counts | exact mr_traySort | exact mr_traySize | exact mr_cells | exact mr_moved | exact mr_traced | assumption) (by omega) (by omega) ?_ | refine pb_ald0 g dX8_laysNow_22 (by omega) ?_ | refine pb_ald1 g dX8_laysNow_22 (by omega) ?_ | refine pb_ald2 g dX8_laysNow_22 (by omega) ?_ | refine pb_ald3 g dX8_laysNow_22 (by omega) ?_ | refine pb_iald g dX8_laysNow_22 (by first | exact mr_kind | exact mr_order | exact mr_heaps | exact mr_m | exact mr_line | exact mr_other | exact mr_ways | exact mr_next | exact mr_chances | exact mr_after | exact mr_far | exact mr_groups | exact mr_found | exact mr_counts | exact mr_traySort | exact mr_traySize | exact mr_cells | exact mr_moved | exact mr_traced | assumption) (by assumption) ?_
        rw [hk]
        refine pb_iconst (v := nI 4) g dX8_laysNow_23 (by decide) ?_
        first | refine pb_icmp_geN g 34 dX8_laysNow_24 (by decide) (by omega) (by omega) (fun c24 => ?_) (fun c24 => ?_) | refine pb_icmp_ge g 34 dX8_laysNow_24 (by decide) (fun c24 => ?_) (fun c24 => ?_)
        · exact absurd c24 (by omega)
        · refine pb_aload_n0 g dX8_laysNow_27 ?_
          refine pb_iload_n1 g dX8_laysNow_28 ?_
          refine pb_iload_n2 g dX8_laysNow_29 ?_
          refine pb_Vi2 g qX8_221 dX8_laysNow_30 (k + 2) (by omega) mr_o (m_laysDeal k (s := s) (ra := ra) (x := x) (K := K) (a := a) hs hk hK hh (by omega)) (fun r30 h30 e30 => ?_)
          obtain ⟨rfl, rfl⟩ := e30
          refine pb_iret g z dX8_laysNow_33 ?_
          exact ⟨_, rfl, rfl, rfl⟩
      · exact absurd c7 (by omega)
    · rw [lwF, lwT, if_neg h2, if_neg h4, if_neg h2, if_neg h4] at z
      refine pb_aload_n0 g dX8_laysNow_0 ?_
      refine pb_getf g fX8_17 dX8_laysNow_1 mr_o rfl ?_
      refine pb_iload_n1 g dX8_laysNow_4 ?_
      first | refine pb_ialdN g dX8_laysNow_5 (by first | exact mr_kind | exact mr_order | exact mr_heaps | exact mr_m | exact mr_line | exact mr_other | exact mr_ways | exact mr_next | exact mr_chances | exact mr_after | exact mr_far | exact mr_groups | exact mr_found | exact mr_counts | exact mr_traySort | exact mr_traySize | exact mr_cells | exact mr_moved | exact mr_traced | assumption) (by omega) (by omega) ?_ | refine pb_ald0 g dX8_laysNow_5 (by omega) ?_ | refine pb_ald1 g dX8_laysNow_5 (by omega) ?_ | refine pb_ald2 g dX8_laysNow_5 (by omega) ?_ | refine pb_ald3 g dX8_laysNow_5 (by omega) ?_ | refine pb_iald g dX8_laysNow_5 (by first | exact mr_kind | exact mr_order | exact mr_heaps | exact mr_m | exact mr_line | exact mr_other | exact mr_ways | exact mr_next | exact mr_chances | exact mr_after | exact mr_far | exact mr_groups | exact mr_found | exact mr_counts | exact mr_traySort | exact mr_traySize | exact mr_cells | exact mr_moved | exact mr_traced | assumption) (by assumption) ?_
      rw [hk]
      refine pb_iconst (v := nI 2) g dX8_laysNow_6 (by decide) ?_
      first | refine pb_icmp_geN g 17 dX8_laysNow_7 (by decide) (by omega) (by omega) (fun c7 => ?_) (fun c7 => ?_) | refine pb_icmp_ge g 17 dX8_laysNow_7 (by decide) (fun c7 => ?_) (fun c7 => ?_)
      · refine pb_aload_n0 g dX8_laysNow_17 ?_
        refine pb_getf g fX8_17 dX8_laysNow_18 mr_o rfl ?_
        refine pb_iload_n1 g dX8_laysNow_21 ?_
        first | refine pb_ialdN g dX8_laysNow_22 (by first | exact mr_kind | exact mr_order | exact mr_heaps | exact mr_m | exact mr_line | exact mr_other | exact mr_ways | exact mr_next | exact mr_chances | exact mr_after | exact mr_far | exact mr_groups | exact mr_found | exact mr_counts | exact mr_traySort | exact mr_traySize | exact mr_cells | exact mr_moved | exact mr_traced | assumption) (by omega) (by omega) ?_ | refine pb_ald0 g dX8_laysNow_22 (by omega) ?_ | refine pb_ald1 g dX8_laysNow_22 (by omega) ?_ | refine pb_ald2 g dX8_laysNow_22 (by omega) ?_ | refine pb_ald3 g dX8_laysNow_22 (by omega) ?_ | refine pb_iald g dX8_laysNow_22 (by first | exact mr_kind | exact mr_order | exact mr_heaps | exact mr_m | exact mr_line | exact mr_other | exact mr_ways | exact mr_next | exact mr_chances | exact mr_after | exact mr_far | exact mr_groups | exact mr_found | exact mr_counts | exact mr_traySort | exact mr_traySize | exact mr_cells | exact mr_moved | exact mr_traced | assumption) (by assumption) ?_
        rw [hk]
        refine pb_iconst (v := nI 4) g dX8_laysNow_23 (by decide) ?_
        first | refine pb_icmp_geN g 34 dX8_laysNow_24 (by decide) (by omega) (by omega) (fun c24 => ?_) (fun c24 => ?_) | refine pb_icmp_ge g 34 dX8_laysNow_24 (by decide) (fun c24 => ?_) (fun c24 => ?_)
        · refine pb_aload_n0 g dX8_laysNow_34 ?_
          refine pb_bipush (v := nI 50) g dX8_laysNow_35 (by decide) ?_
          refine pb_Vv1 g qX8_215 dX8_laysNow_37 (k + 2) (by omega) mr_o (m_ran (k + 2) (ra := ra) (b := 50) (by omega)) (fun h37 e37 => ?_)
          subst e37
          refine pb_aload_n0 g dX8_laysNow_40 ?_
          refine pb_iload_n1 g dX8_laysNow_41 ?_
          refine pb_iload_n2 g dX8_laysNow_42 ?_
          refine pb_iconst (v := nI 3) g dX8_laysNow_43 (by decide) ?_
          refine pb_imul g dX8_laysNow_44 ?_
          refine pb_Vi2 g qX8_221 dX8_laysNow_45 (k + 2) (by omega) mr_o (m_laysDeal k (s := s) (ra := ra + 1) (x := x * nI 3) (K := K) (a := a) hs hk hK hh (by omega)) (fun r45 h45 e45 => ?_)
          obtain ⟨rfl, rfl⟩ := e45
          refine pb_iret g z dX8_laysNow_48 ?_
          exact ⟨_, rfl, rfl, by rw [len_c]; rfl⟩
        · exact absurd c24 (by omega)
      · exact absurd c7 (by omega)
set_option maxHeartbeats 4000000 in
set_option maxRecDepth 100000 in
theorem m_cutsMove (k : Nat) {xn xP xS xsd : Int32} {xod xkn xhs xmm xln xot xfa xgr xtsr xtsz xce xmv xtc : Nat → Int32} {xwy xnx xch xaf xfo xco : Nat → Int64} {s K a ra : Nat} {x : Int32} (hs : s < 10) (hk : xkn s = nI K) (hK : K < 5) (hh : xhs s = nI a) (hra : ra ≤ 700) : Runs yX8_cutsMove cX8_cutsMove 3 (some .int) (k + 4) [.ref 0, .int (nI s), .int x] (mkH 20 (mdF xn xP xS xsd xod xkn xhs xmm xln xot xwy xnx xch xaf xfa xgr xfo xco xtsr xtsz xce xmv xtc (nI ra))) (fun o h' => ∃ r : Int32, o = some (.int r) ∧ r = cmF K (nI s) (nI a) x ∧ mkH 20 (mdF xn xP xS xsd xod xkn xhs xmm xln xot xwy xnx xch xaf xfa xgr xfo xco xtsr xtsz xce xmv (nts xtc ra (cmT K)) (nI (ra + (cmT K).length))) = h') := by
  refine Runs.of (by decide) (Nat.le_of_ble_eq_true rfl) [some (.ref 0), some (.int (nI s)), some (.int x)] 0 rfl (fun Γ g z => ?_)
  rw [cmT] at z
  refine pb_aload_n0 g dX8_cutsMove_0 ?_
  refine pb_bipush (v := nI 11) g dX8_cutsMove_1 (by decide) ?_
  refine pb_Vv1 g qX8_215 dX8_cutsMove_3 (k + 3) (by omega) mr_o (m_ran (k + 3) (ra := ra) (b := 11) (by omega)) (fun h3 e3 => ?_)
  subst e3
  refine pb_aload_n0 g dX8_cutsMove_6 ?_
  refine pb_iload_n1 g dX8_cutsMove_7 ?_
  refine pb_iload_n2 g dX8_cutsMove_8 ?_
  refine pb_Vi2 g qX8_224 dX8_cutsMove_9 (k + 3) (by omega) mr_o (m_laysNow k (s := s) (ra := ra + 1) (x := x) (K := K) (a := a) hs hk hK hh (by omega)) (fun r9 h9 e9 => ?_)
  obtain ⟨rfl, rfl⟩ := e9
  refine pb_aload_n0 g dX8_cutsMove_12 ?_
  refine pb_getf g fX8_20 dX8_cutsMove_13 mr_o rfl ?_
  refine pb_iload_n1 g dX8_cutsMove_16 ?_
  first | refine pb_ialdN g dX8_cutsMove_17 (by first | exact mr_heaps | exact mr_order | exact mr_kind | exact mr_m | exact mr_line | exact mr_other | exact mr_ways | exact mr_next | exact mr_chances | exact mr_after | exact mr_far | exact mr_groups | exact mr_found | exact mr_counts | exact mr_traySort | exact mr_traySize | exact mr_cells | exact mr_moved | exact mr_traced | assumption) (by omega) (by omega) ?_ | refine pb_ald0 g dX8_cutsMove_17 (by omega) ?_ | refine pb_ald1 g dX8_cutsMove_17 (by omega) ?_ | refine pb_ald2 g dX8_cutsMove_17 (by omega) ?_ | refine pb_ald3 g dX8_cutsMove_17 (by omega) ?_ | refine pb_iald g dX8_cutsMove_17 (by first | exact mr_heaps | exact mr_order | exact mr_kind | exact mr_m | exact mr_line | exact mr_other | exact mr_ways | exact mr_next | exact mr_chances | exact mr_after | exact mr_far | exact mr_groups | exact mr_found | exact mr_counts | exact mr_traySort | exact mr_traySize | exact mr_cells | exact mr_moved | exact mr_traced | assumption) (by assumption) ?_
  rw [hh]
  refine pb_imul g dX8_cutsMove_18 ?_
  refine pb_iret g z dX8_cutsMove_19 ?_
  exact ⟨_, rfl, rfl, by rw [len_c, nts_c]⟩
set_option maxHeartbeats 4000000 in
set_option maxRecDepth 100000 in
theorem m_cutsNow (k : Nat) {xn xP xS xsd : Int32} {xod xkn xhs xmm xln xot xfa xgr xtsr xtsz xce xmv xtc : Nat → Int32} {xwy xnx xch xaf xfo xco : Nat → Int64} {s K a ra : Nat} {x : Int32} (hs : s < 10) (hk : xkn s = nI K) (hK : K < 5) (hh : xhs s = nI a) (hra : ra ≤ 600) : Runs yX8_cutsNow cX8_cutsNow 4 (some .int) (k + 5) [.ref 0, .int (nI s), .int x] (mkH 20 (mdF xn xP xS xsd xod xkn xhs xmm xln xot xwy xnx xch xaf xfa xgr xfo xco xtsr xtsz xce xmv xtc (nI ra))) (fun o h' => ∃ r : Int32, o = some (.int r) ∧ r = cwF K (nI s) (nI a) x ∧ mkH 20 (mdF xn xP xS xsd xod xkn xhs xmm xln xot xwy xnx xch xaf xfa xgr xfo xco xtsr xtsz xce xmv (nts xtc ra (cwT K)) (nI (ra + (cwT K).length))) = h') := by
  refine Runs.of (by decide) (Nat.le_of_ble_eq_true rfl) [some (.ref 0), some (.int (nI s)), some (.int x), none] 1 rfl (fun Γ g z => ?_)
  obtain ⟨L1, L2, L3, L4, L5, L6⟩ := act_len K hK
  by_cases h1 : K = 1
  · rw [cwF, cwT, if_pos h1, if_pos h1] at z
    refine pb_aload_n0 g dX8_cutsNow_0 ?_
    refine pb_getf g fX8_17 dX8_cutsNow_1 mr_o rfl ?_
    refine pb_iload_n1 g dX8_cutsNow_4 ?_
    first | refine pb_ialdN g dX8_cutsNow_5 (by first | exact mr_kind | exact mr_order | exact mr_heaps | exact mr_m | exact mr_line | exact mr_other | exact mr_ways | exact mr_next | exact mr_chances | exact mr_after | exact mr_far | exact mr_groups | exact mr_found | exact mr_counts | exact mr_traySort | exact mr_traySize | exact mr_cells | exact mr_moved | exact mr_traced | assumption) (by omega) (by omega) ?_ | refine pb_ald0 g dX8_cutsNow_5 (by omega) ?_ | refine pb_ald1 g dX8_cutsNow_5 (by omega) ?_ | refine pb_ald2 g dX8_cutsNow_5 (by omega) ?_ | refine pb_ald3 g dX8_cutsNow_5 (by omega) ?_ | refine pb_iald g dX8_cutsNow_5 (by first | exact mr_kind | exact mr_order | exact mr_heaps | exact mr_m | exact mr_line | exact mr_other | exact mr_ways | exact mr_next | exact mr_chances | exact mr_after | exact mr_far | exact mr_groups | exact mr_found | exact mr_counts | exact mr_traySort | exact mr_traySize | exact mr_cells | exact mr_moved | exact mr_traced | assumption) (by assumption) ?_
    rw [hk]
    refine pb_iconst (v := nI 1) g dX8_cutsNow_6 (by decide) ?_
    first | refine pb_icmp_neN g 25 dX8_cutsNow_7 (by decide) (by omega) (by omega) (fun c7 => ?_) (fun c7 => ?_) | refine pb_icmp_ne g 25 dX8_cutsNow_7 (by decide) (fun c7 => ?_) (fun c7 => ?_)
    · exact absurd h1 c7
    · refine pb_aload_n0 g dX8_cutsNow_10 ?_
      refine pb_bipush (v := nI 20) g dX8_cutsNow_11 (by decide) ?_
      refine pb_Vv1 g qX8_215 dX8_cutsNow_13 (k + 4) (by omega) mr_o (m_ran (k + 4) (ra := ra) (b := 20) (by omega)) (fun h13 e13 => ?_)
      subst e13
      refine pb_aload_n0 g dX8_cutsNow_16 ?_
      refine pb_iload_n1 g dX8_cutsNow_17 ?_
      refine pb_iload_n2 g dX8_cutsNow_18 ?_
      refine pb_Vi2 g qX8_227 dX8_cutsNow_19 (k + 4) (by omega) mr_o (m_cutsMove k (s := s) (ra := ra + 1) (x := x) (K := K) (a := a) hs hk hK hh (by omega)) (fun r19 h19 e19 => ?_)
      obtain ⟨rfl, rfl⟩ := e19
      refine pb_iconst (v := nI 1) g dX8_cutsNow_22 (by decide) ?_
      refine pb_iadd g dX8_cutsNow_23 ?_
      refine pb_iret g z dX8_cutsNow_24 ?_
      exact ⟨_, rfl, rfl, by rw [len_c, nts_c]⟩
  · by_cases h3 : K < 3
    · rw [cwF, cwT, if_neg h1, if_pos h3, if_neg h1, if_pos h3] at z
      refine pb_aload_n0 g dX8_cutsNow_0 ?_
      refine pb_getf g fX8_17 dX8_cutsNow_1 mr_o rfl ?_
      refine pb_iload_n1 g dX8_cutsNow_4 ?_
      first | refine pb_ialdN g dX8_cutsNow_5 (by first | exact mr_kind | exact mr_order | exact mr_heaps | exact mr_m | exact mr_line | exact mr_other | exact mr_ways | exact mr_next | exact mr_chances | exact mr_after | exact mr_far | exact mr_groups | exact mr_found | exact mr_counts | exact mr_traySort | exact mr_traySize | exact mr_cells | exact mr_moved | exact mr_traced | assumption) (by omega) (by omega) ?_ | refine pb_ald0 g dX8_cutsNow_5 (by omega) ?_ | refine pb_ald1 g dX8_cutsNow_5 (by omega) ?_ | refine pb_ald2 g dX8_cutsNow_5 (by omega) ?_ | refine pb_ald3 g dX8_cutsNow_5 (by omega) ?_ | refine pb_iald g dX8_cutsNow_5 (by first | exact mr_kind | exact mr_order | exact mr_heaps | exact mr_m | exact mr_line | exact mr_other | exact mr_ways | exact mr_next | exact mr_chances | exact mr_after | exact mr_far | exact mr_groups | exact mr_found | exact mr_counts | exact mr_traySort | exact mr_traySize | exact mr_cells | exact mr_moved | exact mr_traced | assumption) (by assumption) ?_
      rw [hk]
      refine pb_iconst (v := nI 1) g dX8_cutsNow_6 (by decide) ?_
      first | refine pb_icmp_neN g 25 dX8_cutsNow_7 (by decide) (by omega) (by omega) (fun c7 => ?_) (fun c7 => ?_) | refine pb_icmp_ne g 25 dX8_cutsNow_7 (by decide) (fun c7 => ?_) (fun c7 => ?_)
      · refine pb_aload_n0 g dX8_cutsNow_25 ?_
        refine pb_getf g fX8_17 dX8_cutsNow_26 mr_o rfl ?_
        refine pb_iload_n1 g dX8_cutsNow_29 ?_
        first | refine pb_ialdN g dX8_cutsNow_30 (by first | exact mr_kind | exact mr_order | exact mr_heaps | exact mr_m | exact mr_line | exact mr_other | exact mr_ways | exact mr_next | exact mr_chances | exact mr_after | exact mr_far | exact mr_groups | exact mr_found | exact mr_counts | exact mr_traySort | exact mr_traySize | exact mr_cells | exact mr_moved | exact mr_traced | assumption) (by omega) (by omega) ?_ | refine pb_ald0 g dX8_cutsNow_30 (by omega) ?_ | refine pb_ald1 g dX8_cutsNow_30 (by omega) ?_ | refine pb_ald2 g dX8_cutsNow_30 (by omega) ?_ | refine pb_ald3 g dX8_cutsNow_30 (by omega) ?_ | refine pb_iald g dX8_cutsNow_30 (by first | exact mr_kind | exact mr_order | exact mr_heaps | exact mr_m | exact mr_line | exact mr_other | exact mr_ways | exact mr_next | exact mr_chances | exact mr_after | exact mr_far | exact mr_groups | exact mr_found | exact mr_counts | exact mr_traySort | exact mr_traySize | exact mr_cells | exact mr_moved | exact mr_traced | assumption) (by assumption) ?_
        rw [hk]
        refine pb_iconst (v := nI 3) g dX8_cutsNow_31 (by decide) ?_
        first | refine pb_icmp_geN g 42 dX8_cutsNow_32 (by decide) (by omega) (by omega) (fun c32 => ?_) (fun c32 => ?_) | refine pb_icmp_ge g 42 dX8_cutsNow_32 (by decide) (fun c32 => ?_) (fun c32 => ?_)
        · exact absurd c32 (by omega)
        · refine pb_aload_n0 g dX8_cutsNow_35 ?_
          refine pb_iload_n1 g dX8_cutsNow_36 ?_
          refine pb_iload_n2 g dX8_cutsNow_37 ?_
          refine pb_Vi2 g qX8_227 dX8_cutsNow_38 (k + 4) (by omega) mr_o (m_cutsMove k (s := s) (ra := ra) (x := x) (K := K) (a := a) hs hk hK hh (by omega)) (fun r38 h38 e38 => ?_)
          obtain ⟨rfl, rfl⟩ := e38
          refine pb_iret g z dX8_cutsNow_41 ?_
          exact ⟨_, rfl, rfl, rfl⟩
      · exact absurd c7 h1
    · rw [cwF, cwT, if_neg h1, if_neg h3, if_neg h1, if_neg h3] at z
      refine pb_aload_n0 g dX8_cutsNow_0 ?_
      refine pb_getf g fX8_17 dX8_cutsNow_1 mr_o rfl ?_
      refine pb_iload_n1 g dX8_cutsNow_4 ?_
      first | refine pb_ialdN g dX8_cutsNow_5 (by first | exact mr_kind | exact mr_order | exact mr_heaps | exact mr_m | exact mr_line | exact mr_other | exact mr_ways | exact mr_next | exact mr_chances | exact mr_after | exact mr_far | exact mr_groups | exact mr_found | exact mr_counts | exact mr_traySort | exact mr_traySize | exact mr_cells | exact mr_moved | exact mr_traced | assumption) (by omega) (by omega) ?_ | refine pb_ald0 g dX8_cutsNow_5 (by omega) ?_ | refine pb_ald1 g dX8_cutsNow_5 (by omega) ?_ | refine pb_ald2 g dX8_cutsNow_5 (by omega) ?_ | refine pb_ald3 g dX8_cutsNow_5 (by omega) ?_ | refine pb_iald g dX8_cutsNow_5 (by first | exact mr_kind | exact mr_order | exact mr_heaps | exact mr_m | exact mr_line | exact mr_other | exact mr_ways | exact mr_next | exact mr_chances | exact mr_after | exact mr_far | exact mr_groups | exact mr_found | exact mr_counts | exact mr_traySort | exact mr_traySize | exact mr_cells | exact mr_moved | exact mr_traced | assumption) (by assumption) ?_
      rw [hk]
      refine pb_iconst (v := nI 1) g dX8_cutsNow_6 (by decide) ?_
      first | refine pb_icmp_neN g 25 dX8_cutsNow_7 (by decide) (by omega) (by omega) (fun c7 => ?_) (fun c7 => ?_) | refine pb_icmp_ne g 25 dX8_cutsNow_7 (by decide) (fun c7 => ?_) (fun c7 => ?_)
      · refine pb_aload_n0 g dX8_cutsNow_25 ?_
        refine pb_getf g fX8_17 dX8_cutsNow_26 mr_o rfl ?_
        refine pb_iload_n1 g dX8_cutsNow_29 ?_
        first | refine pb_ialdN g dX8_cutsNow_30 (by first | exact mr_kind | exact mr_order | exact mr_heaps | exact mr_m | exact mr_line | exact mr_other | exact mr_ways | exact mr_next | exact mr_chances | exact mr_after | exact mr_far | exact mr_groups | exact mr_found | exact mr_counts | exact mr_traySort | exact mr_traySize | exact mr_cells | exact mr_moved | exact mr_traced | assumption) (by omega) (by omega) ?_ | refine pb_ald0 g dX8_cutsNow_30 (by omega) ?_ | refine pb_ald1 g dX8_cutsNow_30 (by omega) ?_ | refine pb_ald2 g dX8_cutsNow_30 (by omega) ?_ | refine pb_ald3 g dX8_cutsNow_30 (by omega) ?_ | refine pb_iald g dX8_cutsNow_30 (by first | exact mr_kind | exact mr_order | exact mr_heaps | exact mr_m | exact mr_line | exact mr_other | exact mr_ways | exact mr_next | exact mr_chances | exact mr_after | exact mr_far | exact mr_groups | exact mr_found | exact mr_counts | exact mr_traySort | exact mr_traySize | exact mr_cells | exact mr_moved | exact mr_traced | assumption) (by assumption) ?_
        rw [hk]
        refine pb_iconst (v := nI 3) g dX8_cutsNow_31 (by decide) ?_
        first | refine pb_icmp_geN g 42 dX8_cutsNow_32 (by decide) (by omega) (by omega) (fun c32 => ?_) (fun c32 => ?_) | refine pb_icmp_ge g 42 dX8_cutsNow_32 (by decide) (fun c32 => ?_) (fun c32 => ?_)
        · refine pb_aload_n0 g dX8_cutsNow_42 ?_
          refine pb_bipush (v := nI 40) g dX8_cutsNow_43 (by decide) ?_
          refine pb_Vv1 g qX8_215 dX8_cutsNow_45 (k + 4) (by omega) mr_o (m_ran (k + 4) (ra := ra) (b := 40) (by omega)) (fun h45 e45 => ?_)
          subst e45
          refine pb_aload_n0 g dX8_cutsNow_48 ?_
          refine pb_iload_n1 g dX8_cutsNow_49 ?_
          refine pb_iload_n2 g dX8_cutsNow_50 ?_
          refine pb_Vi2 g qX8_227 dX8_cutsNow_51 (k + 4) (by omega) mr_o (m_cutsMove k (s := s) (ra := ra + 1) (x := x) (K := K) (a := a) hs hk hK hh (by omega)) (fun r51 h51 e51 => ?_)
          obtain ⟨rfl, rfl⟩ := e51
          refine pb_istore_n3 g dX8_cutsNow_54 (by decide) ?_
          refine pb_iload_n3 g dX8_cutsNow_55 ?_
          refine pb_aload_n0 g dX8_cutsNow_56 ?_
          refine pb_iload_n1 g dX8_cutsNow_57 ?_
          refine pb_iload_n2 g dX8_cutsNow_58 ?_
          refine pb_Vi2 g qX8_221 dX8_cutsNow_59 (k + 4) (by omega) mr_o (m_laysDeal (k + 2) (s := s) (ra := ra + 1 + (cmT K).length) (x := x) (K := K) (a := a) hs hk hK hh (by omega)) (fun r59 h59 e59 => ?_)
          obtain ⟨rfl, rfl⟩ := e59
          refine pb_iadd g dX8_cutsNow_62 ?_
          refine pb_iret g z dX8_cutsNow_63 ?_
          exact ⟨_, rfl, rfl, by rw [len_c, nts_c, nts_app, List.length_append, ← Nat.add_assoc]⟩
        · exact absurd c32 (by omega)
      · exact absurd c7 h1
set_option maxHeartbeats 4000000 in
set_option maxRecDepth 100000 in
theorem m_turnsMove (k : Nat) {xn xP xS xsd : Int32} {xod xkn xhs xmm xln xot xfa xgr xtsr xtsz xce xmv xtc : Nat → Int32} {xwy xnx xch xaf xfo xco : Nat → Int64} {s K a ra : Nat} {x : Int32} (hs : s < 10) (hk : xkn s = nI K) (hK : K < 5) (hh : xhs s = nI a) (hra : ra ≤ 500) : Runs yX8_turnsMove cX8_turnsMove 4 (some .int) (k + 6) [.ref 0, .int (nI s), .int x] (mkH 20 (mdF xn xP xS xsd xod xkn xhs xmm xln xot xwy xnx xch xaf xfa xgr xfo xco xtsr xtsz xce xmv xtc (nI ra))) (fun o h' => ∃ r : Int32, o = some (.int r) ∧ r = tmA K (nI s) (nI a) x ∧ mkH 20 (mdF xn xP xS xsd xod xkn xhs xmm xln xot xwy xnx xch xaf xfa xgr xfo xco xtsr xtsz xce xmv (nts xtc ra (tmT K)) (nI (ra + (tmT K).length))) = h') := by
  refine Runs.of (by decide) (Nat.le_of_ble_eq_true rfl) [some (.ref 0), some (.int (nI s)), some (.int x), none] 1 rfl (fun Γ g z => ?_)
  obtain ⟨L1, L2, L3, L4, L5, L6⟩ := act_len K hK
  rw [tmT] at z
  refine pb_aload_n0 g dX8_turnsMove_0 ?_
  refine pb_bipush (v := nI 12) g dX8_turnsMove_1 (by decide) ?_
  refine pb_Vv1 g qX8_215 dX8_turnsMove_3 (k + 5) (by omega) mr_o (m_ran (k + 5) (ra := ra) (b := 12) (by omega)) (fun h3 e3 => ?_)
  subst e3
  refine pb_aload_n0 g dX8_turnsMove_6 ?_
  refine pb_iload_n1 g dX8_turnsMove_7 ?_
  refine pb_iload_n2 g dX8_turnsMove_8 ?_
  refine pb_Vi2 g qX8_230 dX8_turnsMove_9 (k + 5) (by omega) mr_o (m_cutsNow k (s := s) (ra := ra + 1) (x := x) (K := K) (a := a) hs hk hK hh (by omega)) (fun r9 h9 e9 => ?_)
  obtain ⟨rfl, rfl⟩ := e9
  refine pb_istore_n3 g dX8_turnsMove_12 (by decide) ?_
  refine pb_iload_n3 g dX8_turnsMove_13 ?_
  refine pb_aload_n0 g dX8_turnsMove_14 ?_
  refine pb_iload_n1 g dX8_turnsMove_15 ?_
  refine pb_iload_n2 g dX8_turnsMove_16 ?_
  refine pb_iconst (v := nI 1) g dX8_turnsMove_17 (by decide) ?_
  refine pb_iadd g dX8_turnsMove_18 ?_
  refine pb_Vi2 g qX8_224 dX8_turnsMove_19 (k + 5) (by omega) mr_o (m_laysNow (k + 2) (s := s) (ra := ra + 1 + (cwT K).length) (x := x + nI 1) (K := K) (a := a) hs hk hK hh (by omega)) (fun r19 h19 e19 => ?_)
  obtain ⟨rfl, rfl⟩ := e19
  refine pb_ixor g dX8_turnsMove_22 ?_
  refine pb_iret g z dX8_turnsMove_23 ?_
  exact ⟨_, rfl, rfl, by rw [len_c, nts_c, nts_app, List.length_append, ← Nat.add_assoc]⟩
set_option maxHeartbeats 4000000 in
set_option maxRecDepth 100000 in
theorem m_turnsDeal (k : Nat) {xn xP xS xsd : Int32} {xod xkn xhs xmm xln xot xfa xgr xtsr xtsz xce xmv xtc : Nat → Int32} {xwy xnx xch xaf xfo xco : Nat → Int64} {s K a ra : Nat} {x : Int32} (hs : s < 10) (hk : xkn s = nI K) (hK : K < 5) (hh : xhs s = nI a) (hra : ra ≤ 400) : Runs yX8_turnsDeal cX8_turnsDeal 3 (some .int) (k + 7) [.ref 0, .int (nI s), .int x] (mkH 20 (mdF xn xP xS xsd xod xkn xhs xmm xln xot xwy xnx xch xaf xfa xgr xfo xco xtsr xtsz xce xmv xtc (nI ra))) (fun o h' => ∃ r : Int32, o = some (.int r) ∧ r = tdF K (nI s) (nI a) x ∧ mkH 20 (mdF xn xP xS xsd xod xkn xhs xmm xln xot xwy xnx xch xaf xfa xgr xfo xco xtsr xtsz xce xmv (nts xtc ra (tdT K)) (nI (ra + (tdT K).length))) = h') := by
  refine Runs.of (by decide) (Nat.le_of_ble_eq_true rfl) [some (.ref 0), some (.int (nI s)), some (.int x)] 0 rfl (fun Γ g z => ?_)
  rw [tdT] at z
  refine pb_aload_n0 g dX8_turnsDeal_0 ?_
  refine pb_bipush (v := nI 31) g dX8_turnsDeal_1 (by decide) ?_
  refine pb_Vv1 g qX8_215 dX8_turnsDeal_3 (k + 6) (by omega) mr_o (m_ran (k + 6) (ra := ra) (b := 31) (by omega)) (fun h3 e3 => ?_)
  subst e3
  refine pb_aload_n0 g dX8_turnsDeal_6 ?_
  refine pb_iload_n1 g dX8_turnsDeal_7 ?_
  refine pb_iload_n2 g dX8_turnsDeal_8 ?_
  refine pb_Vi2 g qX8_233 dX8_turnsDeal_9 (k + 6) (by omega) mr_o (m_turnsMove k (s := s) (ra := ra + 1) (x := x) (K := K) (a := a) hs hk hK hh (by omega)) (fun r9 h9 e9 => ?_)
  obtain ⟨rfl, rfl⟩ := e9
  refine pb_iconst (v := nI 2) g dX8_turnsDeal_12 (by decide) ?_
  refine pb_imul g dX8_turnsDeal_13 ?_
  refine pb_iret g z dX8_turnsDeal_14 ?_
  exact ⟨_, rfl, rfl, by rw [len_c, nts_c]⟩
set_option maxHeartbeats 4000000 in
set_option maxRecDepth 100000 in
theorem m_turnsNow (k : Nat) {xn xP xS xsd : Int32} {xod xkn xhs xmm xln xot xfa xgr xtsr xtsz xce xmv xtc : Nat → Int32} {xwy xnx xch xaf xfo xco : Nat → Int64} {s K a ra : Nat} {x : Int32} (hs : s < 10) (hk : xkn s = nI K) (hK : K < 5) (hh : xhs s = nI a) (hra : ra ≤ 300) : Runs yX8_turnsNow cX8_turnsNow 4 (some .int) (k + 8) [.ref 0, .int (nI s), .int x] (mkH 20 (mdF xn xP xS xsd xod xkn xhs xmm xln xot xwy xnx xch xaf xfa xgr xfo xco xtsr xtsz xce xmv xtc (nI ra))) (fun o h' => ∃ r : Int32, o = some (.int r) ∧ r = twF K (nI s) (nI a) x ∧ mkH 20 (mdF xn xP xS xsd xod xkn xhs xmm xln xot xwy xnx xch xaf xfa xgr xfo xco xtsr xtsz xce xmv (nts xtc ra (twT K)) (nI (ra + (twT K).length))) = h') := by
  refine Runs.of (by decide) (Nat.le_of_ble_eq_true rfl) [some (.ref 0), some (.int (nI s)), some (.int x), none] 1 rfl (fun Γ g z => ?_)
  obtain ⟨L1, L2, L3, L4, L5, L6⟩ := act_len K hK
  by_cases h2 : K < 2
  · rw [twF, twT, if_pos h2, if_pos h2] at z
    refine pb_aload_n0 g dX8_turnsNow_0 ?_
    refine pb_getf g fX8_17 dX8_turnsNow_1 mr_o rfl ?_
    refine pb_iload_n1 g dX8_turnsNow_4 ?_
    first | refine pb_ialdN g dX8_turnsNow_5 (by first | exact mr_kind | exact mr_order | exact mr_heaps | exact mr_m | exact mr_line | exact mr_other | exact mr_ways | exact mr_next | exact mr_chances | exact mr_after | exact mr_far | exact mr_groups | exact mr_found | exact mr_counts | exact mr_traySort | exact mr_traySize | exact mr_cells | exact mr_moved | exact mr_traced | assumption) (by omega) (by omega) ?_ | refine pb_ald0 g dX8_turnsNow_5 (by omega) ?_ | refine pb_ald1 g dX8_turnsNow_5 (by omega) ?_ | refine pb_ald2 g dX8_turnsNow_5 (by omega) ?_ | refine pb_ald3 g dX8_turnsNow_5 (by omega) ?_ | refine pb_iald g dX8_turnsNow_5 (by first | exact mr_kind | exact mr_order | exact mr_heaps | exact mr_m | exact mr_line | exact mr_other | exact mr_ways | exact mr_next | exact mr_chances | exact mr_after | exact mr_far | exact mr_groups | exact mr_found | exact mr_counts | exact mr_traySort | exact mr_traySize | exact mr_cells | exact mr_moved | exact mr_traced | assumption) (by assumption) ?_
    rw [hk]
    refine pb_iconst (v := nI 2) g dX8_turnsNow_6 (by decide) ?_
    first | refine pb_icmp_geN g 17 dX8_turnsNow_7 (by decide) (by omega) (by omega) (fun c7 => ?_) (fun c7 => ?_) | refine pb_icmp_ge g 17 dX8_turnsNow_7 (by decide) (fun c7 => ?_) (fun c7 => ?_)
    · exact absurd c7 (by omega)
    · refine pb_aload_n0 g dX8_turnsNow_10 ?_
      refine pb_iload_n1 g dX8_turnsNow_11 ?_
      refine pb_iload_n2 g dX8_turnsNow_12 ?_
      refine pb_Vi2 g qX8_233 dX8_turnsNow_13 (k + 7) (by omega) mr_o (m_turnsMove (k + 1) (s := s) (ra := ra) (x := x) (K := K) (a := a) hs hk hK hh (by omega)) (fun r13 h13 e13 => ?_)
      obtain ⟨rfl, rfl⟩ := e13
      refine pb_iret g z dX8_turnsNow_16 ?_
      exact ⟨_, rfl, rfl, rfl⟩
  · by_cases h4 : K < 4
    · rw [twF, twT, if_neg h2, if_pos h4, if_neg h2, if_pos h4] at z
      refine pb_aload_n0 g dX8_turnsNow_0 ?_
      refine pb_getf g fX8_17 dX8_turnsNow_1 mr_o rfl ?_
      refine pb_iload_n1 g dX8_turnsNow_4 ?_
      first | refine pb_ialdN g dX8_turnsNow_5 (by first | exact mr_kind | exact mr_order | exact mr_heaps | exact mr_m | exact mr_line | exact mr_other | exact mr_ways | exact mr_next | exact mr_chances | exact mr_after | exact mr_far | exact mr_groups | exact mr_found | exact mr_counts | exact mr_traySort | exact mr_traySize | exact mr_cells | exact mr_moved | exact mr_traced | assumption) (by omega) (by omega) ?_ | refine pb_ald0 g dX8_turnsNow_5 (by omega) ?_ | refine pb_ald1 g dX8_turnsNow_5 (by omega) ?_ | refine pb_ald2 g dX8_turnsNow_5 (by omega) ?_ | refine pb_ald3 g dX8_turnsNow_5 (by omega) ?_ | refine pb_iald g dX8_turnsNow_5 (by first | exact mr_kind | exact mr_order | exact mr_heaps | exact mr_m | exact mr_line | exact mr_other | exact mr_ways | exact mr_next | exact mr_chances | exact mr_after | exact mr_far | exact mr_groups | exact mr_found | exact mr_counts | exact mr_traySort | exact mr_traySize | exact mr_cells | exact mr_moved | exact mr_traced | assumption) (by assumption) ?_
      rw [hk]
      refine pb_iconst (v := nI 2) g dX8_turnsNow_6 (by decide) ?_
      first | refine pb_icmp_geN g 17 dX8_turnsNow_7 (by decide) (by omega) (by omega) (fun c7 => ?_) (fun c7 => ?_) | refine pb_icmp_ge g 17 dX8_turnsNow_7 (by decide) (fun c7 => ?_) (fun c7 => ?_)
      · refine pb_aload_n0 g dX8_turnsNow_17 ?_
        refine pb_getf g fX8_17 dX8_turnsNow_18 mr_o rfl ?_
        refine pb_iload_n1 g dX8_turnsNow_21 ?_
        first | refine pb_ialdN g dX8_turnsNow_22 (by first | exact mr_kind | exact mr_order | exact mr_heaps | exact mr_m | exact mr_line | exact mr_other | exact mr_ways | exact mr_next | exact mr_chances | exact mr_after | exact mr_far | exact mr_groups | exact mr_found | exact mr_counts | exact mr_traySort | exact mr_traySize | exact mr_cells | exact mr_moved | exact mr_traced | assumption) (by omega) (by omega) ?_ | refine pb_ald0 g dX8_turnsNow_22 (by omega) ?_ | refine pb_ald1 g dX8_turnsNow_22 (by omega) ?_ | refine pb_ald2 g dX8_turnsNow_22 (by omega) ?_ | refine pb_ald3 g dX8_turnsNow_22 (by omega) ?_ | refine pb_iald g dX8_turnsNow_22 (by first | exact mr_kind | exact mr_order | exact mr_heaps | exact mr_m | exact mr_line | exact mr_other | exact mr_ways | exact mr_next | exact mr_chances | exact mr_after | exact mr_far | exact mr_groups | exact mr_found | exact mr_counts | exact mr_traySort | exact mr_traySize | exact mr_cells | exact mr_moved | exact mr_traced | assumption) (by assumption) ?_
        rw [hk]
        refine pb_iconst (v := nI 4) g dX8_turnsNow_23 (by decide) ?_
        first | refine pb_icmp_geN g 34 dX8_turnsNow_24 (by decide) (by omega) (by omega) (fun c24 => ?_) (fun c24 => ?_) | refine pb_icmp_ge g 34 dX8_turnsNow_24 (by decide) (fun c24 => ?_) (fun c24 => ?_)
        · exact absurd c24 (by omega)
        · refine pb_aload_n0 g dX8_turnsNow_27 ?_
          refine pb_iload_n1 g dX8_turnsNow_28 ?_
          refine pb_iload_n2 g dX8_turnsNow_29 ?_
          refine pb_Vi2 g qX8_236 dX8_turnsNow_30 (k + 7) (by omega) mr_o (m_turnsDeal k (s := s) (ra := ra) (x := x) (K := K) (a := a) hs hk hK hh (by omega)) (fun r30 h30 e30 => ?_)
          obtain ⟨rfl, rfl⟩ := e30
          refine pb_iret g z dX8_turnsNow_33 ?_
          exact ⟨_, rfl, rfl, rfl⟩
      · exact absurd c7 (by omega)
    · rw [twF, twT, if_neg h2, if_neg h4, if_neg h2, if_neg h4] at z
      refine pb_aload_n0 g dX8_turnsNow_0 ?_
      refine pb_getf g fX8_17 dX8_turnsNow_1 mr_o rfl ?_
      refine pb_iload_n1 g dX8_turnsNow_4 ?_
      first | refine pb_ialdN g dX8_turnsNow_5 (by first | exact mr_kind | exact mr_order | exact mr_heaps | exact mr_m | exact mr_line | exact mr_other | exact mr_ways | exact mr_next | exact mr_chances | exact mr_after | exact mr_far | exact mr_groups | exact mr_found | exact mr_counts | exact mr_traySort | exact mr_traySize | exact mr_cells | exact mr_moved | exact mr_traced | assumption) (by omega) (by omega) ?_ | refine pb_ald0 g dX8_turnsNow_5 (by omega) ?_ | refine pb_ald1 g dX8_turnsNow_5 (by omega) ?_ | refine pb_ald2 g dX8_turnsNow_5 (by omega) ?_ | refine pb_ald3 g dX8_turnsNow_5 (by omega) ?_ | refine pb_iald g dX8_turnsNow_5 (by first | exact mr_kind | exact mr_order | exact mr_heaps | exact mr_m | exact mr_line | exact mr_other | exact mr_ways | exact mr_next | exact mr_chances | exact mr_after | exact mr_far | exact mr_groups | exact mr_found | exact mr_counts | exact mr_traySort | exact mr_traySize | exact mr_cells | exact mr_moved | exact mr_traced | assumption) (by assumption) ?_
      rw [hk]
      refine pb_iconst (v := nI 2) g dX8_turnsNow_6 (by decide) ?_
      first | refine pb_icmp_geN g 17 dX8_turnsNow_7 (by decide) (by omega) (by omega) (fun c7 => ?_) (fun c7 => ?_) | refine pb_icmp_ge g 17 dX8_turnsNow_7 (by decide) (fun c7 => ?_) (fun c7 => ?_)
      · refine pb_aload_n0 g dX8_turnsNow_17 ?_
        refine pb_getf g fX8_17 dX8_turnsNow_18 mr_o rfl ?_
        refine pb_iload_n1 g dX8_turnsNow_21 ?_
        first | refine pb_ialdN g dX8_turnsNow_22 (by first | exact mr_kind | exact mr_order | exact mr_heaps | exact mr_m | exact mr_line | exact mr_other | exact mr_ways | exact mr_next | exact mr_chances | exact mr_after | exact mr_far | exact mr_groups | exact mr_found | exact mr_counts | exact mr_traySort | exact mr_traySize | exact mr_cells | exact mr_moved | exact mr_traced | assumption) (by omega) (by omega) ?_ | refine pb_ald0 g dX8_turnsNow_22 (by omega) ?_ | refine pb_ald1 g dX8_turnsNow_22 (by omega) ?_ | refine pb_ald2 g dX8_turnsNow_22 (by omega) ?_ | refine pb_ald3 g dX8_turnsNow_22 (by omega) ?_ | refine pb_iald g dX8_turnsNow_22 (by first | exact mr_kind | exact mr_order | exact mr_heaps | exact mr_m | exact mr_line | exact mr_other | exact mr_ways | exact mr_next | exact mr_chances | exact mr_after | exact mr_far | exact mr_groups | exact mr_found | exact mr_counts | exact mr_traySort | exact mr_traySize | exact mr_cells | exact mr_moved | exact mr_traced | assumption) (by assumption) ?_
        rw [hk]
        refine pb_iconst (v := nI 4) g dX8_turnsNow_23 (by decide) ?_
        first | refine pb_icmp_geN g 34 dX8_turnsNow_24 (by decide) (by omega) (by omega) (fun c24 => ?_) (fun c24 => ?_) | refine pb_icmp_ge g 34 dX8_turnsNow_24 (by decide) (fun c24 => ?_) (fun c24 => ?_)
        · refine pb_aload_n0 g dX8_turnsNow_34 ?_
          refine pb_bipush (v := nI 51) g dX8_turnsNow_35 (by decide) ?_
          refine pb_Vv1 g qX8_215 dX8_turnsNow_37 (k + 7) (by omega) mr_o (m_ran (k + 7) (ra := ra) (b := 51) (by omega)) (fun h37 e37 => ?_)
          subst e37
          refine pb_aload_n0 g dX8_turnsNow_40 ?_
          refine pb_iload_n1 g dX8_turnsNow_41 ?_
          refine pb_iload_n2 g dX8_turnsNow_42 ?_
          refine pb_Vi2 g qX8_230 dX8_turnsNow_43 (k + 7) (by omega) mr_o (m_cutsNow (k + 2) (s := s) (ra := ra + 1) (x := x) (K := K) (a := a) hs hk hK hh (by omega)) (fun r43 h43 e43 => ?_)
          obtain ⟨rfl, rfl⟩ := e43
          refine pb_istore_n3 g dX8_turnsNow_46 (by decide) ?_
          refine pb_iload_n3 g dX8_turnsNow_47 ?_
          refine pb_aload_n0 g dX8_turnsNow_48 ?_
          refine pb_iload_n1 g dX8_turnsNow_49 ?_
          refine pb_iload_n2 g dX8_turnsNow_50 ?_
          refine pb_Vi2 g qX8_236 dX8_turnsNow_51 (k + 7) (by omega) mr_o (m_turnsDeal k (s := s) (ra := ra + 1 + (cwT K).length) (x := x) (K := K) (a := a) hs hk hK hh (by omega)) (fun r51 h51 e51 => ?_)
          obtain ⟨rfl, rfl⟩ := e51
          refine pb_isub g dX8_turnsNow_54 ?_
          refine pb_iret g z dX8_turnsNow_55 ?_
          exact ⟨_, rfl, rfl, by rw [len_c, nts_c, nts_app, List.length_append, ← Nat.add_assoc]⟩
        · exact absurd c24 (by omega)
      · exact absurd c7 (by omega)
set_option maxHeartbeats 4000000 in
set_option maxRecDepth 100000 in
theorem m_act (k : Nat) (q : SP) (s t x : Int32) (h : PH) (hD : IsM q h) (hI : SI q) : Runs yX8_act cX8_act 4 (some .int) (k + 12) [.ref 0, .int s, .int t, .int x] h (fun oo h' => ∃ r : Int32, oo = some (.int r) ∧ r = (sAct q s t x).1 ∧ IsM ((sAct q s t x).2) h') := by
  obtain ⟨⟨n, P, S, sd⟩, ⟨σ, μ, K, Hh⟩, ⟨ts, zz, it⟩, ⟨ra, tr⟩⟩ := q
  obtain ⟨⟨hn1, hn, hP, hS⟩, hσ, hK, hz, hra⟩ := hI
  obtain ⟨xod, xkn, xhs, xmm, xln, xot, xfa, xgr, xtsr, xtsz, xce, xmv, xtc, xwy, xnx, xch, xaf, xfo, xco, rfl, d1, d2, d3, d4, d5⟩ := hD
  refine Runs.of (by decide) (Nat.le_of_ble_eq_true rfl) [some (.ref 0), some (.int s), some (.int t), some (.int x)] 0 rfl (fun Γ g z => ?_)
  cases hs : ix s S with
  | none =>
    have e : sAct ((n, P, S, sd), (σ, μ, K, Hh), (ts, zz, it), (ra, tr)) s t x = (0, ((n, P, S, sd), (σ, μ, K, Hh), (ts, zz, it), (0, tr))) := by simp only [sAct, hs]
    have hsn := ix_none (by omega) hs
    refine pb_aload_n0 g dX8_act_0 ?_
    refine pb_iconst (v := nI 0) g dX8_act_1 (by decide) ?_
    refine pb_puti g wX8_212 dX8_act_2 mr_o (Nat.le_of_ble_eq_true rfl) ?_
    rw [ms_bodies]
    refine pb_aload_n0 g dX8_act_5 ?_
    refine pb_iload_n1 g dX8_act_6 ?_
    refine pb_Vi1 g qX8_123 dX8_act_7 (k + 11) (by omega) mr_o (m_isShuffleF (k + 11) (by assumption) hS) (fun r7 h7 e7 => ?_)
    obtain ⟨rfl, rfl⟩ := e7
    first | refine pb_if_eqN g 22 dX8_act_10 (by decide) (by omega) (fun c10 => ?_) (fun c10 => ?_) | refine pb_if_eq g 22 dX8_act_10 (by decide) (fun c10 => ?_) (fun c10 => ?_)
    · refine pb_iconst (v := nI 0) g dX8_act_22 (by decide) ?_
      refine pb_iret g z dX8_act_23 ?_
      exact ⟨_, rfl, by rw [e]; rfl, by rw [e]; exact ⟨_, _, _, _, _, _, _, _, _, _, _, _, _, _, _, _, _, _, _, rfl, d1, d2, d3, fun i hi => absurd hi (by omega), d5⟩⟩
    · exact absurd c10 (by decide)
  | some s0 =>
    obtain ⟨hs0, rfl⟩ := ix_some (by omega) hs
    cases htx : ix t 3 with
    | none =>
      have e : sAct ((n, P, S, sd), (σ, μ, K, Hh), (ts, zz, it), (ra, tr)) (nI s0) t x = (0, ((n, P, S, sd), (σ, μ, K, Hh), (ts, zz, it), (0, tr))) := by simp only [sAct, hs, htx]
      have htn := inN_not (by decide) (ix_none (by decide) htx)
      refine pb_aload_n0 g dX8_act_0 ?_
      refine pb_iconst (v := nI 0) g dX8_act_1 (by decide) ?_
      refine pb_puti g wX8_212 dX8_act_2 mr_o (Nat.le_of_ble_eq_true rfl) ?_
      rw [ms_bodies]
      refine pb_aload_n0 g dX8_act_5 ?_
      refine pb_iload_n1 g dX8_act_6 ?_
      refine pb_Vi1 g qX8_123 dX8_act_7 (k + 11) (by omega) mr_o (m_isShuffleT (k + 11) (by assumption) hS) (fun r7 h7 e7 => ?_)
      obtain ⟨rfl, rfl⟩ := e7
      first | refine pb_if_eqN g 22 dX8_act_10 (by decide) (by omega) (fun c10 => ?_) (fun c10 => ?_) | refine pb_if_eq g 22 dX8_act_10 (by decide) (fun c10 => ?_) (fun c10 => ?_)
      · exact absurd c10 (by decide)
      · refine pb_iload_n2 g dX8_act_13 ?_
        refine pb_if_lt g 22 dX8_act_14 (by decide) (fun c14 => ?_) (fun c14 => ?_)
        · refine pb_iconst (v := nI 0) g dX8_act_22 (by decide) ?_
          refine pb_iret g z dX8_act_23 ?_
          exact ⟨_, rfl, by rw [e]; rfl, by rw [e]; exact ⟨_, _, _, _, _, _, _, _, _, _, _, _, _, _, _, _, _, _, _, rfl, d1, d2, d3, fun i hi => absurd hi (by omega), d5⟩⟩
        · refine pb_iload_n2 g dX8_act_17 ?_
          refine pb_iconst (v := nI 2) g dX8_act_18 (by decide) ?_
          first | refine pb_icmp_leN g 24 dX8_act_19 (by decide) (by omega) (by omega) (fun c19 => ?_) (fun c19 => ?_) | refine pb_icmp_le g 24 dX8_act_19 (by decide) (fun c19 => ?_) (fun c19 => ?_)
          · exact absurd htn (fun q => q.elim c14 (fun w => absurd (Int32.le_trans w c19) (by decide)))
          · refine pb_iconst (v := nI 0) g dX8_act_22 (by decide) ?_
            refine pb_iret g z dX8_act_23 ?_
            exact ⟨_, rfl, by rw [e]; rfl, by rw [e]; exact ⟨_, _, _, _, _, _, _, _, _, _, _, _, _, _, _, _, _, _, _, rfl, d1, d2, d3, fun i hi => absurd hi (by omega), d5⟩⟩
    | some t0 =>
      obtain ⟨ht0, rfl⟩ := ix_some (by decide) htx
      have hKs := hK s0 hs0
      have e0 : sAct ((n, P, S, sd), (σ, μ, K, Hh), (ts, zz, it), (ra, tr)) (nI s0) (nI t0) x = ((acR (K s0) (nI s0) (nI (Hh s0)) 9 (K s0) t0 x).1, ((n, P, S, sd), (σ, μ, K, Hh), (ts, zz, it), ((acR (K s0) (nI s0) (nI (Hh s0)) 9 (K s0) t0 x).2.length, fun i => nI ((acR (K s0) (nI s0) (nI (Hh s0)) 9 (K s0) t0 x).2.getD i 0)))) := by simp only [sAct, hs, htx, acR_T]
      match t0, ht0 with
      | 0, _ =>
        have e : sAct ((n, P, S, sd), (σ, μ, K, Hh), (ts, zz, it), (ra, tr)) (nI s0) (nI 0) x = (lwF (K s0) (nI s0) (nI (Hh s0)) x, ((n, P, S, sd), (σ, μ, K, Hh), (ts, zz, it), ((lwT (K s0)).length, fun i => nI ((lwT (K s0)).getD i 0)))) := by rw [e0, ac_lays _ _ _ _ hKs.1]
        refine pb_aload_n0 g dX8_act_0 ?_
        refine pb_iconst (v := nI 0) g dX8_act_1 (by decide) ?_
        refine pb_puti g wX8_212 dX8_act_2 mr_o (Nat.le_of_ble_eq_true rfl) ?_
        rw [ms_bodies]
        refine pb_aload_n0 g dX8_act_5 ?_
        refine pb_iload_n1 g dX8_act_6 ?_
        refine pb_Vi1 g qX8_123 dX8_act_7 (k + 11) (by omega) mr_o (m_isShuffleT (k + 11) (by assumption) hS) (fun r7 h7 e7 => ?_)
        obtain ⟨rfl, rfl⟩ := e7
        first | refine pb_if_eqN g 22 dX8_act_10 (by decide) (by omega) (fun c10 => ?_) (fun c10 => ?_) | refine pb_if_eq g 22 dX8_act_10 (by decide) (fun c10 => ?_) (fun c10 => ?_)
        · exact absurd c10 (by decide)
        · refine pb_iload_n2 g dX8_act_13 ?_
          refine pb_if_ltN g 22 dX8_act_14 (by decide) (by omega) ?_
          refine pb_iload_n2 g dX8_act_17 ?_
          refine pb_iconst (v := nI 2) g dX8_act_18 (by decide) ?_
          first | refine pb_icmp_leN g 24 dX8_act_19 (by decide) (by omega) (by omega) (fun c19 => ?_) (fun c19 => ?_) | refine pb_icmp_le g 24 dX8_act_19 (by decide) (fun c19 => ?_) (fun c19 => ?_)
          · refine pb_iload_n2 g dX8_act_24 ?_
            first | refine pb_if_neN g 37 dX8_act_25 (by decide) (by omega) (fun c25 => ?_) (fun c25 => ?_) | refine pb_if_ne g 37 dX8_act_25 (by decide) (fun c25 => ?_) (fun c25 => ?_)
            · exact absurd rfl c25
            · refine pb_aload_n0 g dX8_act_28 ?_
              refine pb_iload_n1 g dX8_act_29 ?_
              refine pb_iload_n3 g dX8_act_30 ?_
              refine pb_Vi2 g qX8_224 dX8_act_31 (k + 11) (by omega) mr_o (m_laysNow (k + 8) (s := s0) (ra := 0) (x := x) (K := K s0) (a := Hh s0) (by omega) (d2 s0 hs0).1 hKs.1 (d2 s0 hs0).2.1 (by omega)) (fun r31 h31 e31 => ?_)
              obtain ⟨rfl, rfl⟩ := e31
              rw [Nat.zero_add]
              refine pb_goto g 57 dX8_act_34 (by decide) ?_
              refine pb_iret g z dX8_act_57 ?_
              exact ⟨_, rfl, by rw [e], by rw [e]; exact ⟨_, _, _, _, _, _, _, _, _, _, _, _, _, _, _, _, _, _, _, rfl, d1, d2, d3, fun i hi h40 => by
                have h9 := nts_at (lwT (K s0)) xtc 0 i (Nat.zero_le _) (by omega) h40
                rw [h9, Nat.sub_zero], d5⟩⟩
          · exact absurd c19 (by decide)
      | 1, _ =>
        have e : sAct ((n, P, S, sd), (σ, μ, K, Hh), (ts, zz, it), (ra, tr)) (nI s0) (nI 1) x = (cwF (K s0) (nI s0) (nI (Hh s0)) x, ((n, P, S, sd), (σ, μ, K, Hh), (ts, zz, it), ((cwT (K s0)).length, fun i => nI ((cwT (K s0)).getD i 0)))) := by rw [e0, ac_cuts _ _ _ _ hKs.1]
        refine pb_aload_n0 g dX8_act_0 ?_
        refine pb_iconst (v := nI 0) g dX8_act_1 (by decide) ?_
        refine pb_puti g wX8_212 dX8_act_2 mr_o (Nat.le_of_ble_eq_true rfl) ?_
        rw [ms_bodies]
        refine pb_aload_n0 g dX8_act_5 ?_
        refine pb_iload_n1 g dX8_act_6 ?_
        refine pb_Vi1 g qX8_123 dX8_act_7 (k + 11) (by omega) mr_o (m_isShuffleT (k + 11) (by assumption) hS) (fun r7 h7 e7 => ?_)
        obtain ⟨rfl, rfl⟩ := e7
        first | refine pb_if_eqN g 22 dX8_act_10 (by decide) (by omega) (fun c10 => ?_) (fun c10 => ?_) | refine pb_if_eq g 22 dX8_act_10 (by decide) (fun c10 => ?_) (fun c10 => ?_)
        · exact absurd c10 (by decide)
        · refine pb_iload_n2 g dX8_act_13 ?_
          refine pb_if_ltN g 22 dX8_act_14 (by decide) (by omega) ?_
          refine pb_iload_n2 g dX8_act_17 ?_
          refine pb_iconst (v := nI 2) g dX8_act_18 (by decide) ?_
          first | refine pb_icmp_leN g 24 dX8_act_19 (by decide) (by omega) (by omega) (fun c19 => ?_) (fun c19 => ?_) | refine pb_icmp_le g 24 dX8_act_19 (by decide) (fun c19 => ?_) (fun c19 => ?_)
          · refine pb_iload_n2 g dX8_act_24 ?_
            first | refine pb_if_neN g 37 dX8_act_25 (by decide) (by omega) (fun c25 => ?_) (fun c25 => ?_) | refine pb_if_ne g 37 dX8_act_25 (by decide) (fun c25 => ?_) (fun c25 => ?_)
            · refine pb_iload_n2 g dX8_act_37 ?_
              refine pb_iconst (v := nI 1) g dX8_act_38 (by decide) ?_
              first | refine pb_icmp_neN g 51 dX8_act_39 (by decide) (by omega) (by omega) (fun c39 => ?_) (fun c39 => ?_) | refine pb_icmp_ne g 51 dX8_act_39 (by decide) (fun c39 => ?_) (fun c39 => ?_)
              · exact absurd rfl c39
              · refine pb_aload_n0 g dX8_act_42 ?_
                refine pb_iload_n1 g dX8_act_43 ?_
                refine pb_iload_n3 g dX8_act_44 ?_
                refine pb_Vi2 g qX8_230 dX8_act_45 (k + 11) (by omega) mr_o (m_cutsNow (k + 6) (s := s0) (ra := 0) (x := x) (K := K s0) (a := Hh s0) (by omega) (d2 s0 hs0).1 hKs.1 (d2 s0 hs0).2.1 (by omega)) (fun r45 h45 e45 => ?_)
                obtain ⟨rfl, rfl⟩ := e45
                rw [Nat.zero_add]
                refine pb_goto g 57 dX8_act_48 (by decide) ?_
                refine pb_iret g z dX8_act_57 ?_
                exact ⟨_, rfl, by rw [e], by rw [e]; exact ⟨_, _, _, _, _, _, _, _, _, _, _, _, _, _, _, _, _, _, _, rfl, d1, d2, d3, fun i hi h40 => by
                  have h9 := nts_at (cwT (K s0)) xtc 0 i (Nat.zero_le _) (by omega) h40
                  rw [h9, Nat.sub_zero], d5⟩⟩
            · exact absurd c25 (by decide)
          · exact absurd c19 (by decide)
      | 2, _ =>
        have e : sAct ((n, P, S, sd), (σ, μ, K, Hh), (ts, zz, it), (ra, tr)) (nI s0) (nI 2) x = (twF (K s0) (nI s0) (nI (Hh s0)) x, ((n, P, S, sd), (σ, μ, K, Hh), (ts, zz, it), ((twT (K s0)).length, fun i => nI ((twT (K s0)).getD i 0)))) := by rw [e0, ac_turns _ _ _ _ hKs.1]
        refine pb_aload_n0 g dX8_act_0 ?_
        refine pb_iconst (v := nI 0) g dX8_act_1 (by decide) ?_
        refine pb_puti g wX8_212 dX8_act_2 mr_o (Nat.le_of_ble_eq_true rfl) ?_
        rw [ms_bodies]
        refine pb_aload_n0 g dX8_act_5 ?_
        refine pb_iload_n1 g dX8_act_6 ?_
        refine pb_Vi1 g qX8_123 dX8_act_7 (k + 11) (by omega) mr_o (m_isShuffleT (k + 11) (by assumption) hS) (fun r7 h7 e7 => ?_)
        obtain ⟨rfl, rfl⟩ := e7
        first | refine pb_if_eqN g 22 dX8_act_10 (by decide) (by omega) (fun c10 => ?_) (fun c10 => ?_) | refine pb_if_eq g 22 dX8_act_10 (by decide) (fun c10 => ?_) (fun c10 => ?_)
        · exact absurd c10 (by decide)
        · refine pb_iload_n2 g dX8_act_13 ?_
          refine pb_if_ltN g 22 dX8_act_14 (by decide) (by omega) ?_
          refine pb_iload_n2 g dX8_act_17 ?_
          refine pb_iconst (v := nI 2) g dX8_act_18 (by decide) ?_
          first | refine pb_icmp_leN g 24 dX8_act_19 (by decide) (by omega) (by omega) (fun c19 => ?_) (fun c19 => ?_) | refine pb_icmp_le g 24 dX8_act_19 (by decide) (fun c19 => ?_) (fun c19 => ?_)
          · refine pb_iload_n2 g dX8_act_24 ?_
            first | refine pb_if_neN g 37 dX8_act_25 (by decide) (by omega) (fun c25 => ?_) (fun c25 => ?_) | refine pb_if_ne g 37 dX8_act_25 (by decide) (fun c25 => ?_) (fun c25 => ?_)
            · refine pb_iload_n2 g dX8_act_37 ?_
              refine pb_iconst (v := nI 1) g dX8_act_38 (by decide) ?_
              first | refine pb_icmp_neN g 51 dX8_act_39 (by decide) (by omega) (by omega) (fun c39 => ?_) (fun c39 => ?_) | refine pb_icmp_ne g 51 dX8_act_39 (by decide) (fun c39 => ?_) (fun c39 => ?_)
              · refine pb_aload_n0 g dX8_act_51 ?_
                refine pb_iload_n1 g dX8_act_52 ?_
                refine pb_iload_n3 g dX8_act_53 ?_
                refine pb_Vi2 g qX8_239 dX8_act_54 (k + 11) (by omega) mr_o (m_turnsNow (k + 3) (s := s0) (ra := 0) (x := x) (K := K s0) (a := Hh s0) (by omega) (d2 s0 hs0).1 hKs.1 (d2 s0 hs0).2.1 (by omega)) (fun r54 h54 e54 => ?_)
                obtain ⟨rfl, rfl⟩ := e54
                rw [Nat.zero_add]
                refine pb_iret g z dX8_act_57 ?_
                exact ⟨_, rfl, by rw [e], by rw [e]; exact ⟨_, _, _, _, _, _, _, _, _, _, _, _, _, _, _, _, _, _, _, rfl, d1, d2, d3, fun i hi h40 => by
                  have h9 := nts_at (twT (K s0)) xtc 0 i (Nat.zero_le _) (by omega) h40
                  rw [h9, Nat.sub_zero], d5⟩⟩
              · exact absurd c39 (by decide)
            · exact absurd c25 (by decide)
          · exact absurd c19 (by decide)
