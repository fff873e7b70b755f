/-! ===== the reference: lots told and drawn ===== -/
set_option maxHeartbeats 4000000 in
set_option maxRecDepth 100000 in
theorem m_drawn (k : Nat) {xn xP xS xsd xbo : Int32} {xod xkn xhs xmm xln xot xfa xgr xtsr xtsz xce xmv xtc : Nat → Int32} {xwy xnx xch xaf xfo xco : Nat → Int64} {b : Nat} (hb : b ≤ 10) (hb1 : 1 ≤ b) : Runs yX8_drawn cX8_drawn 3 (some .int) (k) [.ref 0, .int (nI b)] (mkH 20 (mdF xn xP xS xsd xod xkn xhs xmm xln xot xwy xnx xch xaf xfa xgr xfo xco xtsr xtsz xce xmv xtc xbo)) (fun oo h' => ∃ r : Int32, oo = some (.int r) ∧ r = nI (dwL b dwMx xsd).2 ∧ mkH 20 (mdF xn xP xS ((dwL b dwMx xsd).1) xod xkn xhs xmm xln xot xwy xnx xch xaf xfa xgr xfo xco xtsr xtsz xce xmv xtc xbo) = h') := by
  refine Runs.of (by decide) (Nat.le_of_ble_eq_true rfl) [some (.ref 0), some (.int (nI b)), none] 1 rfl (fun Γ g z => ?_)
  have loop : ∀ d (s : Int32) (v : Nat), v < 16 → b ≤ v → hitP b d s → dwL b d s = dwL b dwMx xsd → PB Γ 2 [some (.ref 0), some (.int (nI b)), some (.int (nI v))] [] (mkH 20 (mdF xn xP xS (s) xod xkn xhs xmm xln xot xwy xnx xch xaf xfa xgr xfo xco xtsr xtsz xce xmv xtc xbo)) := by
    intro d
    induction d with
    | zero => exact fun s v _ _ hh => hh.elim
    | succ d ih =>
      intro s v hv hbv hh he
      have hlv := lotV_lt (lcg s)
      rw [dwL] at he
      by_cases hlo : lotV (lcg s) < b
      · rw [if_pos hlo] at he
        refine pb_iload_n2 g dX8_drawn_2 ?_
        refine pb_iload_n1 g dX8_drawn_3 ?_
        first | refine pb_icmp_ltN g 36 dX8_drawn_4 (by decide) (by omega) (by omega) (fun c4 => ?_) (fun c4 => ?_) | refine pb_icmp_lt g 36 dX8_drawn_4 (by decide) (fun c4 => ?_) (fun c4 => ?_)
        · exact absurd c4 (by omega)
        · refine pb_aload_n0 g dX8_drawn_7 ?_
          refine pb_aload_n0 g dX8_drawn_8 ?_
          refine pb_getf g fX8_153 dX8_drawn_9 mr_o rfl ?_
          refine pb_ldc g kX8_156 dX8_drawn_12 ?_
          refine pb_imul g dX8_drawn_14 ?_
          refine pb_sipush (v := nI 12345) g dX8_drawn_15 (by decide) ?_
          refine pb_iadd g dX8_drawn_18 ?_
          change PB Γ _ _ (.int (lcg s) :: _) _
          refine pb_puti g wX8_153 dX8_drawn_19 mr_o (Nat.le_of_ble_eq_true rfl) ?_
          rw [ms_seed]
          refine pb_aload_n0 g dX8_drawn_22 ?_
          refine pb_getf g fX8_153 dX8_drawn_23 mr_o rfl ?_
          refine pb_bipush (v := nI 16) g dX8_drawn_26 (by decide) ?_
          refine pb_iushr g dX8_drawn_28 ?_
          refine pb_bipush (v := nI 15) g dX8_drawn_29 (by decide) ?_
          refine pb_iand g dX8_drawn_31 ?_
          rw [lotV_eq]
          refine pb_istore_n2 g dX8_drawn_32 (by decide) ?_
          refine pb_goto g 2 dX8_drawn_33 (by decide) ?_
          refine pb_iload_n2 g dX8_drawn_2 ?_
          refine pb_iload_n1 g dX8_drawn_3 ?_
          refine pb_icmp_ltN g 36 dX8_drawn_4 (by decide) (by omega) (by omega) (fun c4 => ?_) (fun c4 => absurd c4 (by omega))
          refine pb_iload_n2 g dX8_drawn_36 ?_
          refine pb_iret g z dX8_drawn_37 ?_
          exact ⟨_, rfl, by rw [← he], by rw [← he]⟩
      · rw [if_neg hlo] at he
        refine pb_iload_n2 g dX8_drawn_2 ?_
        refine pb_iload_n1 g dX8_drawn_3 ?_
        first | refine pb_icmp_ltN g 36 dX8_drawn_4 (by decide) (by omega) (by omega) (fun c4 => ?_) (fun c4 => ?_) | refine pb_icmp_lt g 36 dX8_drawn_4 (by decide) (fun c4 => ?_) (fun c4 => ?_)
        · exact absurd c4 (by omega)
        · refine pb_aload_n0 g dX8_drawn_7 ?_
          refine pb_aload_n0 g dX8_drawn_8 ?_
          refine pb_getf g fX8_153 dX8_drawn_9 mr_o rfl ?_
          refine pb_ldc g kX8_156 dX8_drawn_12 ?_
          refine pb_imul g dX8_drawn_14 ?_
          refine pb_sipush (v := nI 12345) g dX8_drawn_15 (by decide) ?_
          refine pb_iadd g dX8_drawn_18 ?_
          change PB Γ _ _ (.int (lcg s) :: _) _
          refine pb_puti g wX8_153 dX8_drawn_19 mr_o (Nat.le_of_ble_eq_true rfl) ?_
          rw [ms_seed]
          refine pb_aload_n0 g dX8_drawn_22 ?_
          refine pb_getf g fX8_153 dX8_drawn_23 mr_o rfl ?_
          refine pb_bipush (v := nI 16) g dX8_drawn_26 (by decide) ?_
          refine pb_iushr g dX8_drawn_28 ?_
          refine pb_bipush (v := nI 15) g dX8_drawn_29 (by decide) ?_
          refine pb_iand g dX8_drawn_31 ?_
          rw [lotV_eq]
          refine pb_istore_n2 g dX8_drawn_32 (by decide) ?_
          refine pb_goto g 2 dX8_drawn_33 (by decide) ?_
          exact ih _ _ hlv (by omega) (hh.elim (fun q => absurd q hlo) id) he
  refine pb_iload_n1 g dX8_drawn_0 ?_
  refine pb_istore_n2 g dX8_drawn_1 (by decide) ?_
  exact loop dwMx xsd b (by omega) (Nat.le_refl b) (hit_all b hb1 xsd) rfl
