/-! ===== the constructors of Shuffle, Tray, Acts ===== -/
theorem app_at {h : PH} {c x : PCell} {q : Nat} (hq : h[q]? = some c) : (h ++ [x])[q]? = some c := by
  rw [List.getElem?_append_left (List.getElem?_eq_some_iff.mp hq).1]
  exact hq
theorem set_at {h : PH} {c x : PCell} {q : Nat} (hq : h[q]? = some c) : (h.set q x)[q]? = some x := hs_eq hq
set_option maxHeartbeats 4000000 in
set_option maxRecDepth 100000 in
theorem n_X4 (k q : Nat) (h : PH) (hq : h[q]? = some (pO 1 [.null, .int 0, .int 0])) (hc : Cls h) : RunsN yX4_init cX4_init 1 (k + 1) [.ref q] h (fun h' => h' = (h ++ [pI 10 (fun _ => 0)]).set q (pO 1 [.ref h.length, .int (nI 0), .int (nI 2)])) 1 10 := by
  have hlt : q < h.length := (List.getElem?_eq_some_iff.mp hq).1
  refine RunsN.of (by decide) rfl (Nat.le_of_ble_eq_true rfl) [some (.ref q)] 0 rfl (fun Γ ad0 G0 z hG => ?_)
  have g := G0 ad0 0 0 (by omega) (by omega)
  refine pb_aload_n0 g dX4_init_0 ?_
  refine pb_obj g kOX4 kOI kOC dX4_init_1 (by omega) (Nat.zero_le _) ?_
  refine pb_aload_n0 g dX4_init_4 ?_
  refine pb_bipush (v := nI 10) g dX4_init_5 (by decide) ?_
  refine pb_newI g (G0 ad0 (0 + 1) (0 + 10) (by omega) (by omega)) kAI dX4_init_7 (by omega) hc (by simp [okL, okV, hlt]) (by simp [okV, hlt]) (fun ad hag => ?_)
  have g := G0 ad (0 + 1) (0 + 10) (by omega) (by omega)
  refine pb_putR g rX4_9 hG.2 dX4_init_9 (app_at hq) (Nat.le_of_ble_eq_true rfl) ?_
  have e0 := set_at (x := pO 1 ([.null, .int 0, .int 0].set 0 (.ref h.length))) (app_at (x := pI 10 (fun _ => 0)) hq)
  refine pb_aload_n0 g dX4_init_12 ?_
  refine pb_iconst (v := nI 0) g dX4_init_13 (by decide) ?_
  refine pb_puti g wX4_15 dX4_init_14 e0 (Nat.le_of_ble_eq_true rfl) ?_
  have e1 := set_at (x := pO 1 (([.null, .int 0, .int 0].set 0 (.ref h.length)).set 1 (.int (nI 0)))) e0
  refine pb_aload_n0 g dX4_init_17 ?_
  refine pb_iconst (v := nI 2) g dX4_init_18 (by decide) ?_
  refine pb_puti g wX4_19 dX4_init_19 e1 (Nat.le_of_ble_eq_true rfl) ?_
  have e2 := set_at (x := pO 1 ((([.null, .int 0, .int 0].set 0 (.ref h.length)).set 1 (.int (nI 0))).set 2 (.int (nI 2)))) e1
  exact pb_vretN g z hag dX4_init_22 (by simp [List.set_set])
set_option maxHeartbeats 4000000 in
set_option maxRecDepth 100000 in
theorem n_X5 (k q : Nat) (h : PH) (hq : h[q]? = some (pO 2 [.null, .int 0, .int 0])) (hc : Cls h) : RunsN yX5_init cX5_init 1 (k + 1) [.ref q] h (fun h' => h' = (h ++ [pI 40 (fun _ => 0)]).set q (pO 2 [.ref h.length, .int (-1), .int (nI 0)])) 1 40 := by
  have hlt : q < h.length := (List.getElem?_eq_some_iff.mp hq).1
  refine RunsN.of (by decide) rfl (Nat.le_of_ble_eq_true rfl) [some (.ref q)] 0 rfl (fun Γ ad0 G0 z hG => ?_)
  have g := G0 ad0 0 0 (by omega) (by omega)
  refine pb_aload_n0 g dX5_init_0 ?_
  refine pb_obj g kOX5 kOI kOC dX5_init_1 (by omega) (Nat.zero_le _) ?_
  refine pb_aload_n0 g dX5_init_4 ?_
  refine pb_bipush (v := nI 40) g dX5_init_5 (by decide) ?_
  refine pb_newI g (G0 ad0 (0 + 1) (0 + 40) (by omega) (by omega)) kAI dX5_init_7 (by omega) hc (by simp [okL, okV, hlt]) (by simp [okV, hlt]) (fun ad hag => ?_)
  have g := G0 ad (0 + 1) (0 + 40) (by omega) (by omega)
  refine pb_putR g rX5_9 hG.2 dX5_init_9 (app_at hq) (Nat.le_of_ble_eq_true rfl) ?_
  have e0 := set_at (x := pO 2 ([.null, .int 0, .int 0].set 0 (.ref h.length))) (app_at (x := pI 40 (fun _ => 0)) hq)
  refine pb_aload_n0 g dX5_init_12 ?_
  refine pb_iconst (v := -1) g dX5_init_13 (by decide) ?_
  refine pb_puti g wX5_15 dX5_init_14 e0 (Nat.le_of_ble_eq_true rfl) ?_
  have e1 := set_at (x := pO 2 (([.null, .int 0, .int 0].set 0 (.ref h.length)).set 1 (.int (-1)))) e0
  refine pb_aload_n0 g dX5_init_17 ?_
  refine pb_iconst (v := nI 0) g dX5_init_18 (by decide) ?_
  refine pb_puti g wX5_19 dX5_init_19 e1 (Nat.le_of_ble_eq_true rfl) ?_
  have e2 := set_at (x := pO 2 ((([.null, .int 0, .int 0].set 0 (.ref h.length)).set 1 (.int (-1))).set 2 (.int (nI 0)))) e1
  exact pb_vretN g z hag dX5_init_22 (by simp [List.set_set])
set_option maxHeartbeats 4000000 in
set_option maxRecDepth 100000 in
theorem n_X0 (k q : Nat) (h : PH) (hq : h[q]? = some (pO 0 [.null, .int 0, .int 0, .int 0, .int 0])) (hc : Cls h) : RunsN yX0_init cX0_init 1 (k + 1) [.ref q] h (fun h' => h' = (h ++ [pI 40 (fun _ => 0)]).set q (pO 0 [.ref h.length, .int (nI 0), .int (nI 0), .int (nI 0), .int (nI 2)])) 1 40 := by
  have hlt : q < h.length := (List.getElem?_eq_some_iff.mp hq).1
  refine RunsN.of (by decide) rfl (Nat.le_of_ble_eq_true rfl) [some (.ref q)] 0 rfl (fun Γ ad0 G0 z hG => ?_)
  have g := G0 ad0 0 0 (by omega) (by omega)
  refine pb_aload_n0 g dX0_init_0 ?_
  refine pb_obj g kOX0 kOI kOC dX0_init_1 (by omega) (Nat.zero_le _) ?_
  refine pb_aload_n0 g dX0_init_4 ?_
  refine pb_bipush (v := nI 40) g dX0_init_5 (by decide) ?_
  refine pb_newI g (G0 ad0 (0 + 1) (0 + 40) (by omega) (by omega)) kAI dX0_init_7 (by omega) hc (by simp [okL, okV, hlt]) (by simp [okV, hlt]) (fun ad hag => ?_)
  have g := G0 ad (0 + 1) (0 + 40) (by omega) (by omega)
  refine pb_putR g rX0_9 hG.2 dX0_init_9 (app_at hq) (Nat.le_of_ble_eq_true rfl) ?_
  have e0 := set_at (x := pO 0 ([.null, .int 0, .int 0, .int 0, .int 0].set 0 (.ref h.length))) (app_at (x := pI 40 (fun _ => 0)) hq)
  refine pb_aload_n0 g dX0_init_12 ?_
  refine pb_iconst (v := nI 0) g dX0_init_13 (by decide) ?_
  refine pb_puti g wX0_15 dX0_init_14 e0 (Nat.le_of_ble_eq_true rfl) ?_
  have e1 := set_at (x := pO 0 (([.null, .int 0, .int 0, .int 0, .int 0].set 0 (.ref h.length)).set 1 (.int (nI 0)))) e0
  refine pb_aload_n0 g dX0_init_17 ?_
  refine pb_iconst (v := nI 0) g dX0_init_18 (by decide) ?_
  refine pb_puti g wX0_19 dX0_init_19 e1 (Nat.le_of_ble_eq_true rfl) ?_
  have e2 := set_at (x := pO 0 ((([.null, .int 0, .int 0, .int 0, .int 0].set 0 (.ref h.length)).set 1 (.int (nI 0))).set 2 (.int (nI 0)))) e1
  refine pb_aload_n0 g dX0_init_22 ?_
  refine pb_iconst (v := nI 0) g dX0_init_23 (by decide) ?_
  refine pb_puti g wX0_22 dX0_init_24 e2 (Nat.le_of_ble_eq_true rfl) ?_
  have e3 := set_at (x := pO 0 (((([.null, .int 0, .int 0, .int 0, .int 0].set 0 (.ref h.length)).set 1 (.int (nI 0))).set 2 (.int (nI 0))).set 3 (.int (nI 0)))) e2
  refine pb_aload_n0 g dX0_init_27 ?_
  refine pb_iconst (v := nI 2) g dX0_init_28 (by decide) ?_
  refine pb_puti g wX0_25 dX0_init_29 e3 (Nat.le_of_ble_eq_true rfl) ?_
  have e4 := set_at (x := pO 0 ((((([.null, .int 0, .int 0, .int 0, .int 0].set 0 (.ref h.length)).set 1 (.int (nI 0))).set 2 (.int (nI 0))).set 3 (.int (nI 0))).set 4 (.int (nI 2)))) e3
  exact pb_vretN g z hag dX0_init_32 (by simp [List.set_set])
