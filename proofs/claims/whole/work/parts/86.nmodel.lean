/-! ===== the constructor of ShuffleDeskModel ===== -/
def mdNew : PH := [pO 4 [.int (nI 4), .int 0, .int 0, .int 0, .ref 1, .ref 2, .ref 3, .ref 4, .ref 5, .ref 6, .ref 7, .ref 8, .ref 9, .ref 10, .ref 11, .ref 12, .ref 13, .ref 14, .ref 15, .ref 16, .ref 17, .ref 18, .ref 19, .int 0], cI 120, cI 10, cI 10, cI 100, cI 10, cI 10, cJ 12, cJ 12, cJ 720, cJ 720, cI 10, cI 11, cJ 4200, cJ 11, pI 4 (upd (upd (upd (upd (fun _ => 0) 0 (-1)) 1 (-1)) 2 (-1)) 3 (-1)), cI 4, cI 160, cI 40, cI 40]
set_option maxHeartbeats 4000000 in
set_option maxRecDepth 100000 in
theorem n_X8 (k : Nat) : RunsN yX8_init cX8_init 2 (k + 3) [.ref 0] [pO 4 [.int 0, .int 0, .int 0, .int 0, .null, .null, .null, .null, .null, .null, .null, .null, .null, .null, .null, .null, .null, .null, .null, .null, .null, .null, .null, .int 0]] (fun h' => h' = mdNew) 19 6204 := by
  refine RunsN.of (by decide) rfl (Nat.le_of_ble_eq_true rfl) [some (.ref 0), none] 1 rfl (fun Γ ad0 G0 z hG => ?_)
  have hc : Cls [pO 4 [.int 0, .int 0, .int 0, .int 0, .null, .null, .null, .null, .null, .null, .null, .null, .null, .null, .null, .null, .null, .null, .null, .null, .null, .null, .null, .int 0]] := Cls_one rfl
  have hag : ∀ k, k < 1 → ad0 k = ad0 k := fun _ _ => rfl
  have g := G0 ad0 0 0 (by omega) (by omega)
  refine pb_aload_n0 g dX8_init_0 ?_
  refine pb_obj g kOX8 kOI kOC dX8_init_1 (by omega) (Nat.zero_le _) ?_
  refine pb_aload_n0 g dX8_init_4 ?_
  refine pb_iconst (v := nI 4) g dX8_init_5 (by decide) ?_
  refine pb_puti g wX8_7 dX8_init_6 (q := 0) rfl (Nat.le_of_ble_eq_true rfl) ?_
  have hc : Cls [pO 4 [.int (nI 4), .int 0, .int 0, .int 0, .null, .null, .null, .null, .null, .null, .null, .null, .null, .null, .null, .null, .null, .null, .null, .null, .null, .null, .null, .int 0]] := Cls_set (k := 0) (c := pO 4 [.int (nI 4), .int 0, .int 0, .int 0, .null, .null, .null, .null, .null, .null, .null, .null, .null, .null, .null, .null, .null, .null, .null, .null, .null, .null, .null, .int 0]) hc rfl
  obtain ⟨ad, rfl⟩ : ∃ a, a = ad0 := ⟨_, rfl⟩
  change PB (GU Γ ad 0 0) 9 [some (.ref 0), none] [] [pO 4 [.int (nI 4), .int 0, .int 0, .int 0, .null, .null, .null, .null, .null, .null, .null, .null, .null, .null, .null, .null, .null, .null, .null, .null, .null, .null, .null, .int 0]]
  refine pb_aload_n0 g dX8_init_9 ?_
  refine pb_bipush (v := nI 120) g dX8_init_10 (by decide) ?_
  refine pb_newI g (G0 ad (0 + 1) (0 + 120) (by omega) (by omega)) kAI dX8_init_12 (by omega) hc rfl rfl (fun ad1 hag1 => ?_)
  have hc : Cls ([pO 4 [.int (nI 4), .int 0, .int 0, .int 0, .null, .null, .null, .null, .null, .null, .null, .null, .null, .null, .null, .null, .null, .null, .null, .null, .null, .null, .null, .int 0]] ++ [cI 120]) := Cls_app hc trivial
  have hag := fun k hk => (hag1 k (Nat.lt_of_lt_of_le hk (Nat.le_of_ble_eq_true rfl))).trans (hag k hk)
  clear hag1
  have g := G0 ad1 1 120 (by omega) (by omega)
  change PB (GU Γ ad1 1 120) 14 [some (.ref 0), none] [.ref 1, .ref 0] [pO 4 [.int (nI 4), .int 0, .int 0, .int 0, .null, .null, .null, .null, .null, .null, .null, .null, .null, .null, .null, .null, .null, .null, .null, .null, .null, .null, .null, .int 0], cI 120]
  refine pb_putR g rX8_13 hG.2 dX8_init_14 (q := 0) rfl (Nat.le_of_ble_eq_true rfl) ?_
  have hc : Cls [pO 4 [.int (nI 4), .int 0, .int 0, .int 0, .ref 1, .null, .null, .null, .null, .null, .null, .null, .null, .null, .null, .null, .null, .null, .null, .null, .null, .null, .null, .int 0], cI 120] := Cls_set (k := 0) (c := pO 4 [.int (nI 4), .int 0, .int 0, .int 0, .ref 1, .null, .null, .null, .null, .null, .null, .null, .null, .null, .null, .null, .null, .null, .null, .null, .null, .null, .null, .int 0]) hc rfl
  change PB (GU Γ ad1 1 120) 17 [some (.ref 0), none] [] [pO 4 [.int (nI 4), .int 0, .int 0, .int 0, .ref 1, .null, .null, .null, .null, .null, .null, .null, .null, .null, .null, .null, .null, .null, .null, .null, .null, .null, .null, .int 0], cI 120]
  revert hag g
  generalize ad1 = ad
  intro hag g
  refine pb_aload_n0 g dX8_init_17 ?_
  refine pb_bipush (v := nI 10) g dX8_init_18 (by decide) ?_
  refine pb_newI g (G0 ad (1 + 1) (120 + 10) (by omega) (by omega)) kAI dX8_init_20 (by omega) hc rfl rfl (fun ad1 hag1 => ?_)
  have hc : Cls ([pO 4 [.int (nI 4), .int 0, .int 0, .int 0, .ref 1, .null, .null, .null, .null, .null, .null, .null, .null, .null, .null, .null, .null, .null, .null, .null, .null, .null, .null, .int 0], cI 120] ++ [cI 10]) := Cls_app hc trivial
  have hag := fun k hk => (hag1 k (Nat.lt_of_lt_of_le hk (Nat.le_of_ble_eq_true rfl))).trans (hag k hk)
  clear hag1
  have g := G0 ad1 2 130 (by omega) (by omega)
  change PB (GU Γ ad1 2 130) 22 [some (.ref 0), none] [.ref 2, .ref 0] [pO 4 [.int (nI 4), .int 0, .int 0, .int 0, .ref 1, .null, .null, .null, .null, .null, .null, .null, .null, .null, .null, .null, .null, .null, .null, .null, .null, .null, .null, .int 0], cI 120, cI 10]
  refine pb_putR g rX8_17 hG.2 dX8_init_22 (q := 0) rfl (Nat.le_of_ble_eq_true rfl) ?_
  have hc : Cls [pO 4 [.int (nI 4), .int 0, .int 0, .int 0, .ref 1, .ref 2, .null, .null, .null, .null, .null, .null, .null, .null, .null, .null, .null, .null, .null, .null, .null, .null, .null, .int 0], cI 120, cI 10] := Cls_set (k := 0) (c := pO 4 [.int (nI 4), .int 0, .int 0, .int 0, .ref 1, .ref 2, .null, .null, .null, .null, .null, .null, .null, .null, .null, .null, .null, .null, .null, .null, .null, .null, .null, .int 0]) hc rfl
  change PB (GU Γ ad1 2 130) 25 [some (.ref 0), none] [] [pO 4 [.int (nI 4), .int 0, .int 0, .int 0, .ref 1, .ref 2, .null, .null, .null, .null, .null, .null, .null, .null, .null, .null, .null, .null, .null, .null, .null, .null, .null, .int 0], cI 120, cI 10]
  revert hag g
  generalize ad1 = ad
  intro hag g
  refine pb_aload_n0 g dX8_init_25 ?_
  refine pb_bipush (v := nI 10) g dX8_init_26 (by decide) ?_
  refine pb_newI g (G0 ad (2 + 1) (130 + 10) (by omega) (by omega)) kAI dX8_init_28 (by omega) hc rfl rfl (fun ad1 hag1 => ?_)
  have hc : Cls ([pO 4 [.int (nI 4), .int 0, .int 0, .int 0, .ref 1, .ref 2, .null, .null, .null, .null, .null, .null, .null, .null, .null, .null, .null, .null, .null, .null, .null, .null, .null, .int 0], cI 120, cI 10] ++ [cI 10]) := Cls_app hc trivial
  have hag := fun k hk => (hag1 k (Nat.lt_of_lt_of_le hk (Nat.le_of_ble_eq_true rfl))).trans (hag k hk)
  clear hag1
  have g := G0 ad1 3 140 (by omega) (by omega)
  change PB (GU Γ ad1 3 140) 30 [some (.ref 0), none] [.ref 3, .ref 0] [pO 4 [.int (nI 4), .int 0, .int 0, .int 0, .ref 1, .ref 2, .null, .null, .null, .null, .null, .null, .null, .null, .null, .null, .null, .null, .null, .null, .null, .null, .null, .int 0], cI 120, cI 10, cI 10]
  refine pb_putR g rX8_20 hG.2 dX8_init_30 (q := 0) rfl (Nat.le_of_ble_eq_true rfl) ?_
  have hc : Cls [pO 4 [.int (nI 4), .int 0, .int 0, .int 0, .ref 1, .ref 2, .ref 3, .null, .null, .null, .null, .null, .null, .null, .null, .null, .null, .null, .null, .null, .null, .null, .null, .int 0], cI 120, cI 10, cI 10] := Cls_set (k := 0) (c := pO 4 [.int (nI 4), .int 0, .int 0, .int 0, .ref 1, .ref 2, .ref 3, .null, .null, .null, .null, .null, .null, .null, .null, .null, .null, .null, .null, .null, .null, .null, .null, .int 0]) hc rfl
  change PB (GU Γ ad1 3 140) 33 [some (.ref 0), none] [] [pO 4 [.int (nI 4), .int 0, .int 0, .int 0, .ref 1, .ref 2, .ref 3, .null, .null, .null, .null, .null, .null, .null, .null, .null, .null, .null, .null, .null, .null, .null, .null, .int 0], cI 120, cI 10, cI 10]
  revert hag g
  generalize ad1 = ad
  intro hag g
  refine pb_aload_n0 g dX8_init_33 ?_
  refine pb_bipush (v := nI 100) g dX8_init_34 (by decide) ?_
  refine pb_newI g (G0 ad (3 + 1) (140 + 100) (by omega) (by omega)) kAI dX8_init_36 (by omega) hc rfl rfl (fun ad1 hag1 => ?_)
  have hc : Cls ([pO 4 [.int (nI 4), .int 0, .int 0, .int 0, .ref 1, .ref 2, .ref 3, .null, .null, .null, .null, .null, .null, .null, .null, .null, .null, .null, .null, .null, .null, .null, .null, .int 0], cI 120, cI 10, cI 10] ++ [cI 100]) := Cls_app hc trivial
  have hag := fun k hk => (hag1 k (Nat.lt_of_lt_of_le hk (Nat.le_of_ble_eq_true rfl))).trans (hag k hk)
  clear hag1
  have g := G0 ad1 4 240 (by omega) (by omega)
  change PB (GU Γ ad1 4 240) 38 [some (.ref 0), none] [.ref 4, .ref 0] [pO 4 [.int (nI 4), .int 0, .int 0, .int 0, .ref 1, .ref 2, .ref 3, .null, .null, .null, .null, .null, .null, .null, .null, .null, .null, .null, .null, .null, .null, .null, .null, .int 0], cI 120, cI 10, cI 10, cI 100]
  refine pb_putR g rX8_23 hG.2 dX8_init_38 (q := 0) rfl (Nat.le_of_ble_eq_true rfl) ?_
  have hc : Cls [pO 4 [.int (nI 4), .int 0, .int 0, .int 0, .ref 1, .ref 2, .ref 3, .ref 4, .null, .null, .null, .null, .null, .null, .null, .null, .null, .null, .null, .null, .null, .null, .null, .int 0], cI 120, cI 10, cI 10, cI 100] := Cls_set (k := 0) (c := pO 4 [.int (nI 4), .int 0, .int 0, .int 0, .ref 1, .ref 2, .ref 3, .ref 4, .null, .null, .null, .null, .null, .null, .null, .null, .null, .null, .null, .null, .null, .null, .null, .int 0]) hc rfl
  change PB (GU Γ ad1 4 240) 41 [some (.ref 0), none] [] [pO 4 [.int (nI 4), .int 0, .int 0, .int 0, .ref 1, .ref 2, .ref 3, .ref 4, .null, .null, .null, .null, .null, .null, .null, .null, .null, .null, .null, .null, .null, .null, .null, .int 0], cI 120, cI 10, cI 10, cI 100]
  revert hag g
  generalize ad1 = ad
  intro hag g
  refine pb_aload_n0 g dX8_init_41 ?_
  refine pb_bipush (v := nI 10) g dX8_init_42 (by decide) ?_
  refine pb_newI g (G0 ad (4 + 1) (240 + 10) (by omega) (by omega)) kAI dX8_init_44 (by omega) hc rfl rfl (fun ad1 hag1 => ?_)
  have hc : Cls ([pO 4 [.int (nI 4), .int 0, .int 0, .int 0, .ref 1, .ref 2, .ref 3, .ref 4, .null, .null, .null, .null, .null, .null, .null, .null, .null, .null, .null, .null, .null, .null, .null, .int 0], cI 120, cI 10, cI 10, cI 100] ++ [cI 10]) := Cls_app hc trivial
  have hag := fun k hk => (hag1 k (Nat.lt_of_lt_of_le hk (Nat.le_of_ble_eq_true rfl))).trans (hag k hk)
  clear hag1
  have g := G0 ad1 5 250 (by omega) (by omega)
  change PB (GU Γ ad1 5 250) 46 [some (.ref 0), none] [.ref 5, .ref 0] [pO 4 [.int (nI 4), .int 0, .int 0, .int 0, .ref 1, .ref 2, .ref 3, .ref 4, .null, .null, .null, .null, .null, .null, .null, .null, .null, .null, .null, .null, .null, .null, .null, .int 0], cI 120, cI 10, cI 10, cI 100, cI 10]
  refine pb_putR g rX8_26 hG.2 dX8_init_46 (q := 0) rfl (Nat.le_of_ble_eq_true rfl) ?_
  have hc : Cls [pO 4 [.int (nI 4), .int 0, .int 0, .int 0, .ref 1, .ref 2, .ref 3, .ref 4, .ref 5, .null, .null, .null, .null, .null, .null, .null, .null, .null, .null, .null, .null, .null, .null, .int 0], cI 120, cI 10, cI 10, cI 100, cI 10] := Cls_set (k := 0) (c := pO 4 [.int (nI 4), .int 0, .int 0, .int 0, .ref 1, .ref 2, .ref 3, .ref 4, .ref 5, .null, .null, .null, .null, .null, .null, .null, .null, .null, .null, .null, .null, .null, .null, .int 0]) hc rfl
  change PB (GU Γ ad1 5 250) 49 [some (.ref 0), none] [] [pO 4 [.int (nI 4), .int 0, .int 0, .int 0, .ref 1, .ref 2, .ref 3, .ref 4, .ref 5, .null, .null, .null, .null, .null, .null, .null, .null, .null, .null, .null, .null, .null, .null, .int 0], cI 120, cI 10, cI 10, cI 100, cI 10]
  revert hag g
  generalize ad1 = ad
  intro hag g
  refine pb_aload_n0 g dX8_init_49 ?_
  refine pb_bipush (v := nI 10) g dX8_init_50 (by decide) ?_
  refine pb_newI g (G0 ad (5 + 1) (250 + 10) (by omega) (by omega)) kAI dX8_init_52 (by omega) hc rfl rfl (fun ad1 hag1 => ?_)
  have hc : Cls ([pO 4 [.int (nI 4), .int 0, .int 0, .int 0, .ref 1, .ref 2, .ref 3, .ref 4, .ref 5, .null, .null, .null, .null, .null, .null, .null, .null, .null, .null, .null, .null, .null, .null, .int 0], cI 120, cI 10, cI 10, cI 100, cI 10] ++ [cI 10]) := Cls_app hc trivial
  have hag := fun k hk => (hag1 k (Nat.lt_of_lt_of_le hk (Nat.le_of_ble_eq_true rfl))).trans (hag k hk)
  clear hag1
  have g := G0 ad1 6 260 (by omega) (by omega)
  change PB (GU Γ ad1 6 260) 54 [some (.ref 0), none] [.ref 6, .ref 0] [pO 4 [.int (nI 4), .int 0, .int 0, .int 0, .ref 1, .ref 2, .ref 3, .ref 4, .ref 5, .null, .null, .null, .null, .null, .null, .null, .null, .null, .null, .null, .null, .null, .null, .int 0], cI 120, cI 10, cI 10, cI 100, cI 10, cI 10]
  refine pb_putR g rX8_29 hG.2 dX8_init_54 (q := 0) rfl (Nat.le_of_ble_eq_true rfl) ?_
  have hc : Cls [pO 4 [.int (nI 4), .int 0, .int 0, .int 0, .ref 1, .ref 2, .ref 3, .ref 4, .ref 5, .ref 6, .null, .null, .null, .null, .null, .null, .null, .null, .null, .null, .null, .null, .null, .int 0], cI 120, cI 10, cI 10, cI 100, cI 10, cI 10] := Cls_set (k := 0) (c := pO 4 [.int (nI 4), .int 0, .int 0, .int 0, .ref 1, .ref 2, .ref 3, .ref 4, .ref 5, .ref 6, .null, .null, .null, .null, .null, .null, .null, .null, .null, .null, .null, .null, .null, .int 0]) hc rfl
  change PB (GU Γ ad1 6 260) 57 [some (.ref 0), none] [] [pO 4 [.int (nI 4), .int 0, .int 0, .int 0, .ref 1, .ref 2, .ref 3, .ref 4, .ref 5, .ref 6, .null, .null, .null, .null, .null, .null, .null, .null, .null, .null, .null, .null, .null, .int 0], cI 120, cI 10, cI 10, cI 100, cI 10, cI 10]
  revert hag g
  generalize ad1 = ad
  intro hag g
  refine pb_aload_n0 g dX8_init_57 ?_
  refine pb_bipush (v := nI 12) g dX8_init_58 (by decide) ?_
  refine pb_newJ g (G0 ad (6 + 1) (260 + 12) (by omega) (by omega)) kAJ dX8_init_60 (by omega) hc rfl rfl (fun ad1 hag1 => ?_)
  have hc : Cls ([pO 4 [.int (nI 4), .int 0, .int 0, .int 0, .ref 1, .ref 2, .ref 3, .ref 4, .ref 5, .ref 6, .null, .null, .null, .null, .null, .null, .null, .null, .null, .null, .null, .null, .null, .int 0], cI 120, cI 10, cI 10, cI 100, cI 10, cI 10] ++ [cJ 12]) := Cls_app hc trivial
  have hag := fun k hk => (hag1 k (Nat.lt_of_lt_of_le hk (Nat.le_of_ble_eq_true rfl))).trans (hag k hk)
  clear hag1
  have g := G0 ad1 7 272 (by omega) (by omega)
  change PB (GU Γ ad1 7 272) 62 [some (.ref 0), none] [.ref 7, .ref 0] [pO 4 [.int (nI 4), .int 0, .int 0, .int 0, .ref 1, .ref 2, .ref 3, .ref 4, .ref 5, .ref 6, .null, .null, .null, .null, .null, .null, .null, .null, .null, .null, .null, .null, .null, .int 0], cI 120, cI 10, cI 10, cI 100, cI 10, cI 10, cJ 12]
  refine pb_putR g rX8_32 hG.2 dX8_init_62 (q := 0) rfl (Nat.le_of_ble_eq_true rfl) ?_
  have hc : Cls [pO 4 [.int (nI 4), .int 0, .int 0, .int 0, .ref 1, .ref 2, .ref 3, .ref 4, .ref 5, .ref 6, .ref 7, .null, .null, .null, .null, .null, .null, .null, .null, .null, .null, .null, .null, .int 0], cI 120, cI 10, cI 10, cI 100, cI 10, cI 10, cJ 12] := Cls_set (k := 0) (c := pO 4 [.int (nI 4), .int 0, .int 0, .int 0, .ref 1, .ref 2, .ref 3, .ref 4, .ref 5, .ref 6, .ref 7, .null, .null, .null, .null, .null, .null, .null, .null, .null, .null, .null, .null, .int 0]) hc rfl
  change PB (GU Γ ad1 7 272) 65 [some (.ref 0), none] [] [pO 4 [.int (nI 4), .int 0, .int 0, .int 0, .ref 1, .ref 2, .ref 3, .ref 4, .ref 5, .ref 6, .ref 7, .null, .null, .null, .null, .null, .null, .null, .null, .null, .null, .null, .null, .int 0], cI 120, cI 10, cI 10, cI 100, cI 10, cI 10, cJ 12]
  revert hag g
  generalize ad1 = ad
  intro hag g
  refine pb_aload_n0 g dX8_init_65 ?_
  refine pb_bipush (v := nI 12) g dX8_init_66 (by decide) ?_
  refine pb_newJ g (G0 ad (7 + 1) (272 + 12) (by omega) (by omega)) kAJ dX8_init_68 (by omega) hc rfl rfl (fun ad1 hag1 => ?_)
  have hc : Cls ([pO 4 [.int (nI 4), .int 0, .int 0, .int 0, .ref 1, .ref 2, .ref 3, .ref 4, .ref 5, .ref 6, .ref 7, .null, .null, .null, .null, .null, .null, .null, .null, .null, .null, .null, .null, .int 0], cI 120, cI 10, cI 10, cI 100, cI 10, cI 10, cJ 12] ++ [cJ 12]) := Cls_app hc trivial
  have hag := fun k hk => (hag1 k (Nat.lt_of_lt_of_le hk (Nat.le_of_ble_eq_true rfl))).trans (hag k hk)
  clear hag1
  have g := G0 ad1 8 284 (by omega) (by omega)
  change PB (GU Γ ad1 8 284) 70 [some (.ref 0), none] [.ref 8, .ref 0] [pO 4 [.int (nI 4), .int 0, .int 0, .int 0, .ref 1, .ref 2, .ref 3, .ref 4, .ref 5, .ref 6, .ref 7, .null, .null, .null, .null, .null, .null, .null, .null, .null, .null, .null, .null, .int 0], cI 120, cI 10, cI 10, cI 100, cI 10, cI 10, cJ 12, cJ 12]
  refine pb_putR g rX8_36 hG.2 dX8_init_70 (q := 0) rfl (Nat.le_of_ble_eq_true rfl) ?_
  have hc : Cls [pO 4 [.int (nI 4), .int 0, .int 0, .int 0, .ref 1, .ref 2, .ref 3, .ref 4, .ref 5, .ref 6, .ref 7, .ref 8, .null, .null, .null, .null, .null, .null, .null, .null, .null, .null, .null, .int 0], cI 120, cI 10, cI 10, cI 100, cI 10, cI 10, cJ 12, cJ 12] := Cls_set (k := 0) (c := pO 4 [.int (nI 4), .int 0, .int 0, .int 0, .ref 1, .ref 2, .ref 3, .ref 4, .ref 5, .ref 6, .ref 7, .ref 8, .null, .null, .null, .null, .null, .null, .null, .null, .null, .null, .null, .int 0]) hc rfl
  change PB (GU Γ ad1 8 284) 73 [some (.ref 0), none] [] [pO 4 [.int (nI 4), .int 0, .int 0, .int 0, .ref 1, .ref 2, .ref 3, .ref 4, .ref 5, .ref 6, .ref 7, .ref 8, .null, .null, .null, .null, .null, .null, .null, .null, .null, .null, .null, .int 0], cI 120, cI 10, cI 10, cI 100, cI 10, cI 10, cJ 12, cJ 12]
  revert hag g
  generalize ad1 = ad
  intro hag g
  refine pb_aload_n0 g dX8_init_73 ?_
  refine pb_sipush (v := nI 720) g dX8_init_74 (by decide) ?_
  refine pb_newJ g (G0 ad (8 + 1) (284 + 720) (by omega) (by omega)) kAJ dX8_init_77 (by omega) hc rfl rfl (fun ad1 hag1 => ?_)
  have hc : Cls ([pO 4 [.int (nI 4), .int 0, .int 0, .int 0, .ref 1, .ref 2, .ref 3, .ref 4, .ref 5, .ref 6, .ref 7, .ref 8, .null, .null, .null, .null, .null, .null, .null, .null, .null, .null, .null, .int 0], cI 120, cI 10, cI 10, cI 100, cI 10, cI 10, cJ 12, cJ 12] ++ [cJ 720]) := Cls_app hc trivial
  have hag := fun k hk => (hag1 k (Nat.lt_of_lt_of_le hk (Nat.le_of_ble_eq_true rfl))).trans (hag k hk)
  clear hag1
  have g := G0 ad1 9 1004 (by omega) (by omega)
  change PB (GU Γ ad1 9 1004) 79 [some (.ref 0), none] [.ref 9, .ref 0] [pO 4 [.int (nI 4), .int 0, .int 0, .int 0, .ref 1, .ref 2, .ref 3, .ref 4, .ref 5, .ref 6, .ref 7, .ref 8, .null, .null, .null, .null, .null, .null, .null, .null, .null, .null, .null, .int 0], cI 120, cI 10, cI 10, cI 100, cI 10, cI 10, cJ 12, cJ 12, cJ 720]
  refine pb_putR g rX8_39 hG.2 dX8_init_79 (q := 0) rfl (Nat.le_of_ble_eq_true rfl) ?_
  have hc : Cls [pO 4 [.int (nI 4), .int 0, .int 0, .int 0, .ref 1, .ref 2, .ref 3, .ref 4, .ref 5, .ref 6, .ref 7, .ref 8, .ref 9, .null, .null, .null, .null, .null, .null, .null, .null, .null, .null, .int 0], cI 120, cI 10, cI 10, cI 100, cI 10, cI 10, cJ 12, cJ 12, cJ 720] := Cls_set (k := 0) (c := pO 4 [.int (nI 4), .int 0, .int 0, .int 0, .ref 1, .ref 2, .ref 3, .ref 4, .ref 5, .ref 6, .ref 7, .ref 8, .ref 9, .null, .null, .null, .null, .null, .null, .null, .null, .null, .null, .int 0]) hc rfl
  change PB (GU Γ ad1 9 1004) 82 [some (.ref 0), none] [] [pO 4 [.int (nI 4), .int 0, .int 0, .int 0, .ref 1, .ref 2, .ref 3, .ref 4, .ref 5, .ref 6, .ref 7, .ref 8, .ref 9, .null, .null, .null, .null, .null, .null, .null, .null, .null, .null, .int 0], cI 120, cI 10, cI 10, cI 100, cI 10, cI 10, cJ 12, cJ 12, cJ 720]
  revert hag g
  generalize ad1 = ad
  intro hag g
  refine pb_aload_n0 g dX8_init_82 ?_
  refine pb_sipush (v := nI 720) g dX8_init_83 (by decide) ?_
  refine pb_newJ g (G0 ad (9 + 1) (1004 + 720) (by omega) (by omega)) kAJ dX8_init_86 (by omega) hc rfl rfl (fun ad1 hag1 => ?_)
  have hc : Cls ([pO 4 [.int (nI 4), .int 0, .int 0, .int 0, .ref 1, .ref 2, .ref 3, .ref 4, .ref 5, .ref 6, .ref 7, .ref 8, .ref 9, .null, .null, .null, .null, .null, .null, .null, .null, .null, .null, .int 0], cI 120, cI 10, cI 10, cI 100, cI 10, cI 10, cJ 12, cJ 12, cJ 720] ++ [cJ 720]) := Cls_app hc trivial
  have hag := fun k hk => (hag1 k (Nat.lt_of_lt_of_le hk (Nat.le_of_ble_eq_true rfl))).trans (hag k hk)
  clear hag1
  have g := G0 ad1 10 1724 (by omega) (by omega)
  change PB (GU Γ ad1 10 1724) 88 [some (.ref 0), none] [.ref 10, .ref 0] [pO 4 [.int (nI 4), .int 0, .int 0, .int 0, .ref 1, .ref 2, .ref 3, .ref 4, .ref 5, .ref 6, .ref 7, .ref 8, .ref 9, .null, .null, .null, .null, .null, .null, .null, .null, .null, .null, .int 0], cI 120, cI 10, cI 10, cI 100, cI 10, cI 10, cJ 12, cJ 12, cJ 720, cJ 720]
  refine pb_putR g rX8_42 hG.2 dX8_init_88 (q := 0) rfl (Nat.le_of_ble_eq_true rfl) ?_
  have hc : Cls [pO 4 [.int (nI 4), .int 0, .int 0, .int 0, .ref 1, .ref 2, .ref 3, .ref 4, .ref 5, .ref 6, .ref 7, .ref 8, .ref 9, .ref 10, .null, .null, .null, .null, .null, .null, .null, .null, .null, .int 0], cI 120, cI 10, cI 10, cI 100, cI 10, cI 10, cJ 12, cJ 12, cJ 720, cJ 720] := Cls_set (k := 0) (c := pO 4 [.int (nI 4), .int 0, .int 0, .int 0, .ref 1, .ref 2, .ref 3, .ref 4, .ref 5, .ref 6, .ref 7, .ref 8, .ref 9, .ref 10, .null, .null, .null, .null, .null, .null, .null, .null, .null, .int 0]) hc rfl
  change PB (GU Γ ad1 10 1724) 91 [some (.ref 0), none] [] [pO 4 [.int (nI 4), .int 0, .int 0, .int 0, .ref 1, .ref 2, .ref 3, .ref 4, .ref 5, .ref 6, .ref 7, .ref 8, .ref 9, .ref 10, .null, .null, .null, .null, .null, .null, .null, .null, .null, .int 0], cI 120, cI 10, cI 10, cI 100, cI 10, cI 10, cJ 12, cJ 12, cJ 720, cJ 720]
  revert hag g
  generalize ad1 = ad
  intro hag g
  refine pb_aload_n0 g dX8_init_91 ?_
  refine pb_bipush (v := nI 10) g dX8_init_92 (by decide) ?_
  refine pb_newI g (G0 ad (10 + 1) (1724 + 10) (by omega) (by omega)) kAI dX8_init_94 (by omega) hc rfl rfl (fun ad1 hag1 => ?_)
  have hc : Cls ([pO 4 [.int (nI 4), .int 0, .int 0, .int 0, .ref 1, .ref 2, .ref 3, .ref 4, .ref 5, .ref 6, .ref 7, .ref 8, .ref 9, .ref 10, .null, .null, .null, .null, .null, .null, .null, .null, .null, .int 0], cI 120, cI 10, cI 10, cI 100, cI 10, cI 10, cJ 12, cJ 12, cJ 720, cJ 720] ++ [cI 10]) := Cls_app hc trivial
  have hag := fun k hk => (hag1 k (Nat.lt_of_lt_of_le hk (Nat.le_of_ble_eq_true rfl))).trans (hag k hk)
  clear hag1
  have g := G0 ad1 11 1734 (by omega) (by omega)
  change PB (GU Γ ad1 11 1734) 96 [some (.ref 0), none] [.ref 11, .ref 0] [pO 4 [.int (nI 4), .int 0, .int 0, .int 0, .ref 1, .ref 2, .ref 3, .ref 4, .ref 5, .ref 6, .ref 7, .ref 8, .ref 9, .ref 10, .null, .null, .null, .null, .null, .null, .null, .null, .null, .int 0], cI 120, cI 10, cI 10, cI 100, cI 10, cI 10, cJ 12, cJ 12, cJ 720, cJ 720, cI 10]
  refine pb_putR g rX8_45 hG.2 dX8_init_96 (q := 0) rfl (Nat.le_of_ble_eq_true rfl) ?_
  have hc : Cls [pO 4 [.int (nI 4), .int 0, .int 0, .int 0, .ref 1, .ref 2, .ref 3, .ref 4, .ref 5, .ref 6, .ref 7, .ref 8, .ref 9, .ref 10, .ref 11, .null, .null, .null, .null, .null, .null, .null, .null, .int 0], cI 120, cI 10, cI 10, cI 100, cI 10, cI 10, cJ 12, cJ 12, cJ 720, cJ 720, cI 10] := Cls_set (k := 0) (c := pO 4 [.int (nI 4), .int 0, .int 0, .int 0, .ref 1, .ref 2, .ref 3, .ref 4, .ref 5, .ref 6, .ref 7, .ref 8, .ref 9, .ref 10, .ref 11, .null, .null, .null, .null, .null, .null, .null, .null, .int 0]) hc rfl
  change PB (GU Γ ad1 11 1734) 99 [some (.ref 0), none] [] [pO 4 [.int (nI 4), .int 0, .int 0, .int 0, .ref 1, .ref 2, .ref 3, .ref 4, .ref 5, .ref 6, .ref 7, .ref 8, .ref 9, .ref 10, .ref 11, .null, .null, .null, .null, .null, .null, .null, .null, .int 0], cI 120, cI 10, cI 10, cI 100, cI 10, cI 10, cJ 12, cJ 12, cJ 720, cJ 720, cI 10]
  revert hag g
  generalize ad1 = ad
  intro hag g
  refine pb_aload_n0 g dX8_init_99 ?_
  refine pb_bipush (v := nI 11) g dX8_init_100 (by decide) ?_
  refine pb_newI g (G0 ad (11 + 1) (1734 + 11) (by omega) (by omega)) kAI dX8_init_102 (by omega) hc rfl rfl (fun ad1 hag1 => ?_)
  have hc : Cls ([pO 4 [.int (nI 4), .int 0, .int 0, .int 0, .ref 1, .ref 2, .ref 3, .ref 4, .ref 5, .ref 6, .ref 7, .ref 8, .ref 9, .ref 10, .ref 11, .null, .null, .null, .null, .null, .null, .null, .null, .int 0], cI 120, cI 10, cI 10, cI 100, cI 10, cI 10, cJ 12, cJ 12, cJ 720, cJ 720, cI 10] ++ [cI 11]) := Cls_app hc trivial
  have hag := fun k hk => (hag1 k (Nat.lt_of_lt_of_le hk (Nat.le_of_ble_eq_true rfl))).trans (hag k hk)
  clear hag1
  have g := G0 ad1 12 1745 (by omega) (by omega)
  change PB (GU Γ ad1 12 1745) 104 [some (.ref 0), none] [.ref 12, .ref 0] [pO 4 [.int (nI 4), .int 0, .int 0, .int 0, .ref 1, .ref 2, .ref 3, .ref 4, .ref 5, .ref 6, .ref 7, .ref 8, .ref 9, .ref 10, .ref 11, .null, .null, .null, .null, .null, .null, .null, .null, .int 0], cI 120, cI 10, cI 10, cI 100, cI 10, cI 10, cJ 12, cJ 12, cJ 720, cJ 720, cI 10, cI 11]
  refine pb_putR g rX8_48 hG.2 dX8_init_104 (q := 0) rfl (Nat.le_of_ble_eq_true rfl) ?_
  have hc : Cls [pO 4 [.int (nI 4), .int 0, .int 0, .int 0, .ref 1, .ref 2, .ref 3, .ref 4, .ref 5, .ref 6, .ref 7, .ref 8, .ref 9, .ref 10, .ref 11, .ref 12, .null, .null, .null, .null, .null, .null, .null, .int 0], cI 120, cI 10, cI 10, cI 100, cI 10, cI 10, cJ 12, cJ 12, cJ 720, cJ 720, cI 10, cI 11] := Cls_set (k := 0) (c := pO 4 [.int (nI 4), .int 0, .int 0, .int 0, .ref 1, .ref 2, .ref 3, .ref 4, .ref 5, .ref 6, .ref 7, .ref 8, .ref 9, .ref 10, .ref 11, .ref 12, .null, .null, .null, .null, .null, .null, .null, .int 0]) hc rfl
  change PB (GU Γ ad1 12 1745) 107 [some (.ref 0), none] [] [pO 4 [.int (nI 4), .int 0, .int 0, .int 0, .ref 1, .ref 2, .ref 3, .ref 4, .ref 5, .ref 6, .ref 7, .ref 8, .ref 9, .ref 10, .ref 11, .ref 12, .null, .null, .null, .null, .null, .null, .null, .int 0], cI 120, cI 10, cI 10, cI 100, cI 10, cI 10, cJ 12, cJ 12, cJ 720, cJ 720, cI 10, cI 11]
  revert hag g
  generalize ad1 = ad
  intro hag g
  refine pb_aload_n0 g dX8_init_107 ?_
  refine pb_sipush (v := nI 4200) g dX8_init_108 (by decide) ?_
  refine pb_newJ g (G0 ad (12 + 1) (1745 + 4200) (by omega) (by omega)) kAJ dX8_init_111 (by omega) hc rfl rfl (fun ad1 hag1 => ?_)
  have hc : Cls ([pO 4 [.int (nI 4), .int 0, .int 0, .int 0, .ref 1, .ref 2, .ref 3, .ref 4, .ref 5, .ref 6, .ref 7, .ref 8, .ref 9, .ref 10, .ref 11, .ref 12, .null, .null, .null, .null, .null, .null, .null, .int 0], cI 120, cI 10, cI 10, cI 100, cI 10, cI 10, cJ 12, cJ 12, cJ 720, cJ 720, cI 10, cI 11] ++ [cJ 4200]) := Cls_app hc trivial
  have hag := fun k hk => (hag1 k (Nat.lt_of_lt_of_le hk (Nat.le_of_ble_eq_true rfl))).trans (hag k hk)
  clear hag1
  have g := G0 ad1 13 5945 (by omega) (by omega)
  change PB (GU Γ ad1 13 5945) 113 [some (.ref 0), none] [.ref 13, .ref 0] [pO 4 [.int (nI 4), .int 0, .int 0, .int 0, .ref 1, .ref 2, .ref 3, .ref 4, .ref 5, .ref 6, .ref 7, .ref 8, .ref 9, .ref 10, .ref 11, .ref 12, .null, .null, .null, .null, .null, .null, .null, .int 0], cI 120, cI 10, cI 10, cI 100, cI 10, cI 10, cJ 12, cJ 12, cJ 720, cJ 720, cI 10, cI 11, cJ 4200]
  refine pb_putR g rX8_51 hG.2 dX8_init_113 (q := 0) rfl (Nat.le_of_ble_eq_true rfl) ?_
  have hc : Cls [pO 4 [.int (nI 4), .int 0, .int 0, .int 0, .ref 1, .ref 2, .ref 3, .ref 4, .ref 5, .ref 6, .ref 7, .ref 8, .ref 9, .ref 10, .ref 11, .ref 12, .ref 13, .null, .null, .null, .null, .null, .null, .int 0], cI 120, cI 10, cI 10, cI 100, cI 10, cI 10, cJ 12, cJ 12, cJ 720, cJ 720, cI 10, cI 11, cJ 4200] := Cls_set (k := 0) (c := pO 4 [.int (nI 4), .int 0, .int 0, .int 0, .ref 1, .ref 2, .ref 3, .ref 4, .ref 5, .ref 6, .ref 7, .ref 8, .ref 9, .ref 10, .ref 11, .ref 12, .ref 13, .null, .null, .null, .null, .null, .null, .int 0]) hc rfl
  change PB (GU Γ ad1 13 5945) 116 [some (.ref 0), none] [] [pO 4 [.int (nI 4), .int 0, .int 0, .int 0, .ref 1, .ref 2, .ref 3, .ref 4, .ref 5, .ref 6, .ref 7, .ref 8, .ref 9, .ref 10, .ref 11, .ref 12, .ref 13, .null, .null, .null, .null, .null, .null, .int 0], cI 120, cI 10, cI 10, cI 100, cI 10, cI 10, cJ 12, cJ 12, cJ 720, cJ 720, cI 10, cI 11, cJ 4200]
  revert hag g
  generalize ad1 = ad
  intro hag g
  refine pb_aload_n0 g dX8_init_116 ?_
  refine pb_bipush (v := nI 11) g dX8_init_117 (by decide) ?_
  refine pb_newJ g (G0 ad (13 + 1) (5945 + 11) (by omega) (by omega)) kAJ dX8_init_119 (by omega) hc rfl rfl (fun ad1 hag1 => ?_)
  have hc : Cls ([pO 4 [.int (nI 4), .int 0, .int 0, .int 0, .ref 1, .ref 2, .ref 3, .ref 4, .ref 5, .ref 6, .ref 7, .ref 8, .ref 9, .ref 10, .ref 11, .ref 12, .ref 13, .null, .null, .null, .null, .null, .null, .int 0], cI 120, cI 10, cI 10, cI 100, cI 10, cI 10, cJ 12, cJ 12, cJ 720, cJ 720, cI 10, cI 11, cJ 4200] ++ [cJ 11]) := Cls_app hc trivial
  have hag := fun k hk => (hag1 k (Nat.lt_of_lt_of_le hk (Nat.le_of_ble_eq_true rfl))).trans (hag k hk)
  clear hag1
  have g := G0 ad1 14 5956 (by omega) (by omega)
  change PB (GU Γ ad1 14 5956) 121 [some (.ref 0), none] [.ref 14, .ref 0] [pO 4 [.int (nI 4), .int 0, .int 0, .int 0, .ref 1, .ref 2, .ref 3, .ref 4, .ref 5, .ref 6, .ref 7, .ref 8, .ref 9, .ref 10, .ref 11, .ref 12, .ref 13, .null, .null, .null, .null, .null, .null, .int 0], cI 120, cI 10, cI 10, cI 100, cI 10, cI 10, cJ 12, cJ 12, cJ 720, cJ 720, cI 10, cI 11, cJ 4200, cJ 11]
  refine pb_putR g rX8_54 hG.2 dX8_init_121 (q := 0) rfl (Nat.le_of_ble_eq_true rfl) ?_
  have hc : Cls [pO 4 [.int (nI 4), .int 0, .int 0, .int 0, .ref 1, .ref 2, .ref 3, .ref 4, .ref 5, .ref 6, .ref 7, .ref 8, .ref 9, .ref 10, .ref 11, .ref 12, .ref 13, .ref 14, .null, .null, .null, .null, .null, .int 0], cI 120, cI 10, cI 10, cI 100, cI 10, cI 10, cJ 12, cJ 12, cJ 720, cJ 720, cI 10, cI 11, cJ 4200, cJ 11] := Cls_set (k := 0) (c := pO 4 [.int (nI 4), .int 0, .int 0, .int 0, .ref 1, .ref 2, .ref 3, .ref 4, .ref 5, .ref 6, .ref 7, .ref 8, .ref 9, .ref 10, .ref 11, .ref 12, .ref 13, .ref 14, .null, .null, .null, .null, .null, .int 0]) hc rfl
  change PB (GU Γ ad1 14 5956) 124 [some (.ref 0), none] [] [pO 4 [.int (nI 4), .int 0, .int 0, .int 0, .ref 1, .ref 2, .ref 3, .ref 4, .ref 5, .ref 6, .ref 7, .ref 8, .ref 9, .ref 10, .ref 11, .ref 12, .ref 13, .ref 14, .null, .null, .null, .null, .null, .int 0], cI 120, cI 10, cI 10, cI 100, cI 10, cI 10, cJ 12, cJ 12, cJ 720, cJ 720, cI 10, cI 11, cJ 4200, cJ 11]
  revert hag g
  generalize ad1 = ad
  intro hag g
  refine pb_aload_n0 g dX8_init_124 ?_
  refine pb_iconst (v := nI 4) g dX8_init_125 (by decide) ?_
  refine pb_newI g (G0 ad (14 + 1) (5956 + 4) (by omega) (by omega)) kAI dX8_init_126 (by omega) hc rfl rfl (fun ad1 hag1 => ?_)
  have hc : Cls ([pO 4 [.int (nI 4), .int 0, .int 0, .int 0, .ref 1, .ref 2, .ref 3, .ref 4, .ref 5, .ref 6, .ref 7, .ref 8, .ref 9, .ref 10, .ref 11, .ref 12, .ref 13, .ref 14, .null, .null, .null, .null, .null, .int 0], cI 120, cI 10, cI 10, cI 100, cI 10, cI 10, cJ 12, cJ 12, cJ 720, cJ 720, cI 10, cI 11, cJ 4200, cJ 11] ++ [cI 4]) := Cls_app hc trivial
  have hag := fun k hk => (hag1 k (Nat.lt_of_lt_of_le hk (Nat.le_of_ble_eq_true rfl))).trans (hag k hk)
  clear hag1
  have g := G0 ad1 15 5960 (by omega) (by omega)
  change PB (GU Γ ad1 15 5960) 128 [some (.ref 0), none] [.ref 15, .ref 0] [pO 4 [.int (nI 4), .int 0, .int 0, .int 0, .ref 1, .ref 2, .ref 3, .ref 4, .ref 5, .ref 6, .ref 7, .ref 8, .ref 9, .ref 10, .ref 11, .ref 12, .ref 13, .ref 14, .null, .null, .null, .null, .null, .int 0], cI 120, cI 10, cI 10, cI 100, cI 10, cI 10, cJ 12, cJ 12, cJ 720, cJ 720, cI 10, cI 11, cJ 4200, cJ 11, cI 4]
  refine pb_putR g rX8_57 hG.2 dX8_init_128 (q := 0) rfl (Nat.le_of_ble_eq_true rfl) ?_
  have hc : Cls [pO 4 [.int (nI 4), .int 0, .int 0, .int 0, .ref 1, .ref 2, .ref 3, .ref 4, .ref 5, .ref 6, .ref 7, .ref 8, .ref 9, .ref 10, .ref 11, .ref 12, .ref 13, .ref 14, .ref 15, .null, .null, .null, .null, .int 0], cI 120, cI 10, cI 10, cI 100, cI 10, cI 10, cJ 12, cJ 12, cJ 720, cJ 720, cI 10, cI 11, cJ 4200, cJ 11, cI 4] := Cls_set (k := 0) (c := pO 4 [.int (nI 4), .int 0, .int 0, .int 0, .ref 1, .ref 2, .ref 3, .ref 4, .ref 5, .ref 6, .ref 7, .ref 8, .ref 9, .ref 10, .ref 11, .ref 12, .ref 13, .ref 14, .ref 15, .null, .null, .null, .null, .int 0]) hc rfl
  change PB (GU Γ ad1 15 5960) 131 [some (.ref 0), none] [] [pO 4 [.int (nI 4), .int 0, .int 0, .int 0, .ref 1, .ref 2, .ref 3, .ref 4, .ref 5, .ref 6, .ref 7, .ref 8, .ref 9, .ref 10, .ref 11, .ref 12, .ref 13, .ref 14, .ref 15, .null, .null, .null, .null, .int 0], cI 120, cI 10, cI 10, cI 100, cI 10, cI 10, cJ 12, cJ 12, cJ 720, cJ 720, cI 10, cI 11, cJ 4200, cJ 11, cI 4]
  revert hag g
  generalize ad1 = ad
  intro hag g
  refine pb_aload_n0 g dX8_init_131 ?_
  refine pb_iconst (v := nI 4) g dX8_init_132 (by decide) ?_
  refine pb_newI g (G0 ad (15 + 1) (5960 + 4) (by omega) (by omega)) kAI dX8_init_133 (by omega) hc rfl rfl (fun ad1 hag1 => ?_)
  have hc : Cls ([pO 4 [.int (nI 4), .int 0, .int 0, .int 0, .ref 1, .ref 2, .ref 3, .ref 4, .ref 5, .ref 6, .ref 7, .ref 8, .ref 9, .ref 10, .ref 11, .ref 12, .ref 13, .ref 14, .ref 15, .null, .null, .null, .null, .int 0], cI 120, cI 10, cI 10, cI 100, cI 10, cI 10, cJ 12, cJ 12, cJ 720, cJ 720, cI 10, cI 11, cJ 4200, cJ 11, cI 4] ++ [cI 4]) := Cls_app hc trivial
  have hag := fun k hk => (hag1 k (Nat.lt_of_lt_of_le hk (Nat.le_of_ble_eq_true rfl))).trans (hag k hk)
  clear hag1
  have g := G0 ad1 16 5964 (by omega) (by omega)
  change PB (GU Γ ad1 16 5964) 135 [some (.ref 0), none] [.ref 16, .ref 0] [pO 4 [.int (nI 4), .int 0, .int 0, .int 0, .ref 1, .ref 2, .ref 3, .ref 4, .ref 5, .ref 6, .ref 7, .ref 8, .ref 9, .ref 10, .ref 11, .ref 12, .ref 13, .ref 14, .ref 15, .null, .null, .null, .null, .int 0], cI 120, cI 10, cI 10, cI 100, cI 10, cI 10, cJ 12, cJ 12, cJ 720, cJ 720, cI 10, cI 11, cJ 4200, cJ 11, cI 4, cI 4]
  refine pb_putR g rX8_60 hG.2 dX8_init_135 (q := 0) rfl (Nat.le_of_ble_eq_true rfl) ?_
  have hc : Cls [pO 4 [.int (nI 4), .int 0, .int 0, .int 0, .ref 1, .ref 2, .ref 3, .ref 4, .ref 5, .ref 6, .ref 7, .ref 8, .ref 9, .ref 10, .ref 11, .ref 12, .ref 13, .ref 14, .ref 15, .ref 16, .null, .null, .null, .int 0], cI 120, cI 10, cI 10, cI 100, cI 10, cI 10, cJ 12, cJ 12, cJ 720, cJ 720, cI 10, cI 11, cJ 4200, cJ 11, cI 4, cI 4] := Cls_set (k := 0) (c := pO 4 [.int (nI 4), .int 0, .int 0, .int 0, .ref 1, .ref 2, .ref 3, .ref 4, .ref 5, .ref 6, .ref 7, .ref 8, .ref 9, .ref 10, .ref 11, .ref 12, .ref 13, .ref 14, .ref 15, .ref 16, .null, .null, .null, .int 0]) hc rfl
  change PB (GU Γ ad1 16 5964) 138 [some (.ref 0), none] [] [pO 4 [.int (nI 4), .int 0, .int 0, .int 0, .ref 1, .ref 2, .ref 3, .ref 4, .ref 5, .ref 6, .ref 7, .ref 8, .ref 9, .ref 10, .ref 11, .ref 12, .ref 13, .ref 14, .ref 15, .ref 16, .null, .null, .null, .int 0], cI 120, cI 10, cI 10, cI 100, cI 10, cI 10, cJ 12, cJ 12, cJ 720, cJ 720, cI 10, cI 11, cJ 4200, cJ 11, cI 4, cI 4]
  revert hag g
  generalize ad1 = ad
  intro hag g
  refine pb_aload_n0 g dX8_init_138 ?_
  refine pb_sipush (v := nI 160) g dX8_init_139 (by decide) ?_
  refine pb_newI g (G0 ad (16 + 1) (5964 + 160) (by omega) (by omega)) kAI dX8_init_142 (by omega) hc rfl rfl (fun ad1 hag1 => ?_)
  have hc : Cls ([pO 4 [.int (nI 4), .int 0, .int 0, .int 0, .ref 1, .ref 2, .ref 3, .ref 4, .ref 5, .ref 6, .ref 7, .ref 8, .ref 9, .ref 10, .ref 11, .ref 12, .ref 13, .ref 14, .ref 15, .ref 16, .null, .null, .null, .int 0], cI 120, cI 10, cI 10, cI 100, cI 10, cI 10, cJ 12, cJ 12, cJ 720, cJ 720, cI 10, cI 11, cJ 4200, cJ 11, cI 4, cI 4] ++ [cI 160]) := Cls_app hc trivial
  have hag := fun k hk => (hag1 k (Nat.lt_of_lt_of_le hk (Nat.le_of_ble_eq_true rfl))).trans (hag k hk)
  clear hag1
  have g := G0 ad1 17 6124 (by omega) (by omega)
  change PB (GU Γ ad1 17 6124) 144 [some (.ref 0), none] [.ref 17, .ref 0] [pO 4 [.int (nI 4), .int 0, .int 0, .int 0, .ref 1, .ref 2, .ref 3, .ref 4, .ref 5, .ref 6, .ref 7, .ref 8, .ref 9, .ref 10, .ref 11, .ref 12, .ref 13, .ref 14, .ref 15, .ref 16, .null, .null, .null, .int 0], cI 120, cI 10, cI 10, cI 100, cI 10, cI 10, cJ 12, cJ 12, cJ 720, cJ 720, cI 10, cI 11, cJ 4200, cJ 11, cI 4, cI 4, cI 160]
  refine pb_putR g rX8_63 hG.2 dX8_init_144 (q := 0) rfl (Nat.le_of_ble_eq_true rfl) ?_
  have hc : Cls [pO 4 [.int (nI 4), .int 0, .int 0, .int 0, .ref 1, .ref 2, .ref 3, .ref 4, .ref 5, .ref 6, .ref 7, .ref 8, .ref 9, .ref 10, .ref 11, .ref 12, .ref 13, .ref 14, .ref 15, .ref 16, .ref 17, .null, .null, .int 0], cI 120, cI 10, cI 10, cI 100, cI 10, cI 10, cJ 12, cJ 12, cJ 720, cJ 720, cI 10, cI 11, cJ 4200, cJ 11, cI 4, cI 4, cI 160] := Cls_set (k := 0) (c := pO 4 [.int (nI 4), .int 0, .int 0, .int 0, .ref 1, .ref 2, .ref 3, .ref 4, .ref 5, .ref 6, .ref 7, .ref 8, .ref 9, .ref 10, .ref 11, .ref 12, .ref 13, .ref 14, .ref 15, .ref 16, .ref 17, .null, .null, .int 0]) hc rfl
  change PB (GU Γ ad1 17 6124) 147 [some (.ref 0), none] [] [pO 4 [.int (nI 4), .int 0, .int 0, .int 0, .ref 1, .ref 2, .ref 3, .ref 4, .ref 5, .ref 6, .ref 7, .ref 8, .ref 9, .ref 10, .ref 11, .ref 12, .ref 13, .ref 14, .ref 15, .ref 16, .ref 17, .null, .null, .int 0], cI 120, cI 10, cI 10, cI 100, cI 10, cI 10, cJ 12, cJ 12, cJ 720, cJ 720, cI 10, cI 11, cJ 4200, cJ 11, cI 4, cI 4, cI 160]
  revert hag g
  generalize ad1 = ad
  intro hag g
  refine pb_aload_n0 g dX8_init_147 ?_
  refine pb_bipush (v := nI 40) g dX8_init_148 (by decide) ?_
  refine pb_newI g (G0 ad (17 + 1) (6124 + 40) (by omega) (by omega)) kAI dX8_init_150 (by omega) hc rfl rfl (fun ad1 hag1 => ?_)
  have hc : Cls ([pO 4 [.int (nI 4), .int 0, .int 0, .int 0, .ref 1, .ref 2, .ref 3, .ref 4, .ref 5, .ref 6, .ref 7, .ref 8, .ref 9, .ref 10, .ref 11, .ref 12, .ref 13, .ref 14, .ref 15, .ref 16, .ref 17, .null, .null, .int 0], cI 120, cI 10, cI 10, cI 100, cI 10, cI 10, cJ 12, cJ 12, cJ 720, cJ 720, cI 10, cI 11, cJ 4200, cJ 11, cI 4, cI 4, cI 160] ++ [cI 40]) := Cls_app hc trivial
  have hag := fun k hk => (hag1 k (Nat.lt_of_lt_of_le hk (Nat.le_of_ble_eq_true rfl))).trans (hag k hk)
  clear hag1
  have g := G0 ad1 18 6164 (by omega) (by omega)
  change PB (GU Γ ad1 18 6164) 152 [some (.ref 0), none] [.ref 18, .ref 0] [pO 4 [.int (nI 4), .int 0, .int 0, .int 0, .ref 1, .ref 2, .ref 3, .ref 4, .ref 5, .ref 6, .ref 7, .ref 8, .ref 9, .ref 10, .ref 11, .ref 12, .ref 13, .ref 14, .ref 15, .ref 16, .ref 17, .null, .null, .int 0], cI 120, cI 10, cI 10, cI 100, cI 10, cI 10, cJ 12, cJ 12, cJ 720, cJ 720, cI 10, cI 11, cJ 4200, cJ 11, cI 4, cI 4, cI 160, cI 40]
  refine pb_putR g rX8_66 hG.2 dX8_init_152 (q := 0) rfl (Nat.le_of_ble_eq_true rfl) ?_
  have hc : Cls [pO 4 [.int (nI 4), .int 0, .int 0, .int 0, .ref 1, .ref 2, .ref 3, .ref 4, .ref 5, .ref 6, .ref 7, .ref 8, .ref 9, .ref 10, .ref 11, .ref 12, .ref 13, .ref 14, .ref 15, .ref 16, .ref 17, .ref 18, .null, .int 0], cI 120, cI 10, cI 10, cI 100, cI 10, cI 10, cJ 12, cJ 12, cJ 720, cJ 720, cI 10, cI 11, cJ 4200, cJ 11, cI 4, cI 4, cI 160, cI 40] := Cls_set (k := 0) (c := pO 4 [.int (nI 4), .int 0, .int 0, .int 0, .ref 1, .ref 2, .ref 3, .ref 4, .ref 5, .ref 6, .ref 7, .ref 8, .ref 9, .ref 10, .ref 11, .ref 12, .ref 13, .ref 14, .ref 15, .ref 16, .ref 17, .ref 18, .null, .int 0]) hc rfl
  change PB (GU Γ ad1 18 6164) 155 [some (.ref 0), none] [] [pO 4 [.int (nI 4), .int 0, .int 0, .int 0, .ref 1, .ref 2, .ref 3, .ref 4, .ref 5, .ref 6, .ref 7, .ref 8, .ref 9, .ref 10, .ref 11, .ref 12, .ref 13, .ref 14, .ref 15, .ref 16, .ref 17, .ref 18, .null, .int 0], cI 120, cI 10, cI 10, cI 100, cI 10, cI 10, cJ 12, cJ 12, cJ 720, cJ 720, cI 10, cI 11, cJ 4200, cJ 11, cI 4, cI 4, cI 160, cI 40]
  revert hag g
  generalize ad1 = ad
  intro hag g
  refine pb_aload_n0 g dX8_init_155 ?_
  refine pb_bipush (v := nI 40) g dX8_init_156 (by decide) ?_
  refine pb_newI g (G0 ad (18 + 1) (6164 + 40) (by omega) (by omega)) kAI dX8_init_158 (by omega) hc rfl rfl (fun ad1 hag1 => ?_)
  have hc : Cls ([pO 4 [.int (nI 4), .int 0, .int 0, .int 0, .ref 1, .ref 2, .ref 3, .ref 4, .ref 5, .ref 6, .ref 7, .ref 8, .ref 9, .ref 10, .ref 11, .ref 12, .ref 13, .ref 14, .ref 15, .ref 16, .ref 17, .ref 18, .null, .int 0], cI 120, cI 10, cI 10, cI 100, cI 10, cI 10, cJ 12, cJ 12, cJ 720, cJ 720, cI 10, cI 11, cJ 4200, cJ 11, cI 4, cI 4, cI 160, cI 40] ++ [cI 40]) := Cls_app hc trivial
  have hag := fun k hk => (hag1 k (Nat.lt_of_lt_of_le hk (Nat.le_of_ble_eq_true rfl))).trans (hag k hk)
  clear hag1
  have g := G0 ad1 19 6204 (by omega) (by omega)
  change PB (GU Γ ad1 19 6204) 160 [some (.ref 0), none] [.ref 19, .ref 0] [pO 4 [.int (nI 4), .int 0, .int 0, .int 0, .ref 1, .ref 2, .ref 3, .ref 4, .ref 5, .ref 6, .ref 7, .ref 8, .ref 9, .ref 10, .ref 11, .ref 12, .ref 13, .ref 14, .ref 15, .ref 16, .ref 17, .ref 18, .null, .int 0], cI 120, cI 10, cI 10, cI 100, cI 10, cI 10, cJ 12, cJ 12, cJ 720, cJ 720, cI 10, cI 11, cJ 4200, cJ 11, cI 4, cI 4, cI 160, cI 40, cI 40]
  refine pb_putR g rX8_69 hG.2 dX8_init_160 (q := 0) rfl (Nat.le_of_ble_eq_true rfl) ?_
  have hc : Cls [pO 4 [.int (nI 4), .int 0, .int 0, .int 0, .ref 1, .ref 2, .ref 3, .ref 4, .ref 5, .ref 6, .ref 7, .ref 8, .ref 9, .ref 10, .ref 11, .ref 12, .ref 13, .ref 14, .ref 15, .ref 16, .ref 17, .ref 18, .ref 19, .int 0], cI 120, cI 10, cI 10, cI 100, cI 10, cI 10, cJ 12, cJ 12, cJ 720, cJ 720, cI 10, cI 11, cJ 4200, cJ 11, cI 4, cI 4, cI 160, cI 40, cI 40] := Cls_set (k := 0) (c := pO 4 [.int (nI 4), .int 0, .int 0, .int 0, .ref 1, .ref 2, .ref 3, .ref 4, .ref 5, .ref 6, .ref 7, .ref 8, .ref 9, .ref 10, .ref 11, .ref 12, .ref 13, .ref 14, .ref 15, .ref 16, .ref 17, .ref 18, .ref 19, .int 0]) hc rfl
  change PB (GU Γ ad1 19 6204) 163 [some (.ref 0), none] [] [pO 4 [.int (nI 4), .int 0, .int 0, .int 0, .ref 1, .ref 2, .ref 3, .ref 4, .ref 5, .ref 6, .ref 7, .ref 8, .ref 9, .ref 10, .ref 11, .ref 12, .ref 13, .ref 14, .ref 15, .ref 16, .ref 17, .ref 18, .ref 19, .int 0], cI 120, cI 10, cI 10, cI 100, cI 10, cI 10, cJ 12, cJ 12, cJ 720, cJ 720, cI 10, cI 11, cJ 4200, cJ 11, cI 4, cI 4, cI 160, cI 40, cI 40]
  revert hag g
  generalize ad1 = ad
  intro hag g
  refine pb_iconst (v := nI 0) g dX8_init_163 (by decide) ?_
  refine pb_istore_n1 g dX8_init_164 (by decide) ?_
  change PB (GU Γ ad 19 6204) 165 [some (.ref 0), some (.int (nI 0))] [] [pO 4 [.int (nI 4), .int 0, .int 0, .int 0, .ref 1, .ref 2, .ref 3, .ref 4, .ref 5, .ref 6, .ref 7, .ref 8, .ref 9, .ref 10, .ref 11, .ref 12, .ref 13, .ref 14, .ref 15, .ref 16, .ref 17, .ref 18, .ref 19, .int 0], cI 120, cI 10, cI 10, cI 100, cI 10, cI 10, cJ 12, cJ 12, cJ 720, cJ 720, cI 10, cI 11, cJ 4200, cJ 11, cI 4, cI 4, cI 160, cI 40, cI 40]
  refine pb_iload_n1 g dX8_init_165 ?_
  refine pb_iconst (v := nI 4) g dX8_init_166 (by decide) ?_
  refine pb_icmp_geN g 183 dX8_init_167 (by decide) (by decide) (by decide) (fun c9 => absurd c9 (by decide)) (fun _ => ?_)
  refine pb_aload_n0 g dX8_init_170 ?_
  refine pb_getf g fX8_57 dX8_init_171 (q := 0) rfl rfl ?_
  refine pb_iload_n1 g dX8_init_174 ?_
  refine pb_iconst (v := -1) g dX8_init_175 (by decide) ?_
  refine pb_iastN g dX8_init_176 (q := 15) rfl (by decide) (by decide) ?_
  refine pb_iinc1N g dX8_init_177 (by decide) ?_
  refine pb_goto g 165 dX8_init_180 (by decide) ?_
  change PB (GU Γ ad 19 6204) 165 [some (.ref 0), some (.int (nI 1))] [] [pO 4 [.int (nI 4), .int 0, .int 0, .int 0, .ref 1, .ref 2, .ref 3, .ref 4, .ref 5, .ref 6, .ref 7, .ref 8, .ref 9, .ref 10, .ref 11, .ref 12, .ref 13, .ref 14, .ref 15, .ref 16, .ref 17, .ref 18, .ref 19, .int 0], cI 120, cI 10, cI 10, cI 100, cI 10, cI 10, cJ 12, cJ 12, cJ 720, cJ 720, cI 10, cI 11, cJ 4200, cJ 11, pI 4 (upd (fun _ => 0) 0 (-1)), cI 4, cI 160, cI 40, cI 40]
  refine pb_iload_n1 g dX8_init_165 ?_
  refine pb_iconst (v := nI 4) g dX8_init_166 (by decide) ?_
  refine pb_icmp_geN g 183 dX8_init_167 (by decide) (by decide) (by decide) (fun c9 => absurd c9 (by decide)) (fun _ => ?_)
  refine pb_aload_n0 g dX8_init_170 ?_
  refine pb_getf g fX8_57 dX8_init_171 (q := 0) rfl rfl ?_
  refine pb_iload_n1 g dX8_init_174 ?_
  refine pb_iconst (v := -1) g dX8_init_175 (by decide) ?_
  refine pb_iastN g dX8_init_176 (q := 15) rfl (by decide) (by decide) ?_
  refine pb_iinc1N g dX8_init_177 (by decide) ?_
  refine pb_goto g 165 dX8_init_180 (by decide) ?_
  change PB (GU Γ ad 19 6204) 165 [some (.ref 0), some (.int (nI 2))] [] [pO 4 [.int (nI 4), .int 0, .int 0, .int 0, .ref 1, .ref 2, .ref 3, .ref 4, .ref 5, .ref 6, .ref 7, .ref 8, .ref 9, .ref 10, .ref 11, .ref 12, .ref 13, .ref 14, .ref 15, .ref 16, .ref 17, .ref 18, .ref 19, .int 0], cI 120, cI 10, cI 10, cI 100, cI 10, cI 10, cJ 12, cJ 12, cJ 720, cJ 720, cI 10, cI 11, cJ 4200, cJ 11, pI 4 (upd (upd (fun _ => 0) 0 (-1)) 1 (-1)), cI 4, cI 160, cI 40, cI 40]
  refine pb_iload_n1 g dX8_init_165 ?_
  refine pb_iconst (v := nI 4) g dX8_init_166 (by decide) ?_
  refine pb_icmp_geN g 183 dX8_init_167 (by decide) (by decide) (by decide) (fun c9 => absurd c9 (by decide)) (fun _ => ?_)
  refine pb_aload_n0 g dX8_init_170 ?_
  refine pb_getf g fX8_57 dX8_init_171 (q := 0) rfl rfl ?_
  refine pb_iload_n1 g dX8_init_174 ?_
  refine pb_iconst (v := -1) g dX8_init_175 (by decide) ?_
  refine pb_iastN g dX8_init_176 (q := 15) rfl (by decide) (by decide) ?_
  refine pb_iinc1N g dX8_init_177 (by decide) ?_
  refine pb_goto g 165 dX8_init_180 (by decide) ?_
  change PB (GU Γ ad 19 6204) 165 [some (.ref 0), some (.int (nI 3))] [] [pO 4 [.int (nI 4), .int 0, .int 0, .int 0, .ref 1, .ref 2, .ref 3, .ref 4, .ref 5, .ref 6, .ref 7, .ref 8, .ref 9, .ref 10, .ref 11, .ref 12, .ref 13, .ref 14, .ref 15, .ref 16, .ref 17, .ref 18, .ref 19, .int 0], cI 120, cI 10, cI 10, cI 100, cI 10, cI 10, cJ 12, cJ 12, cJ 720, cJ 720, cI 10, cI 11, cJ 4200, cJ 11, pI 4 (upd (upd (upd (fun _ => 0) 0 (-1)) 1 (-1)) 2 (-1)), cI 4, cI 160, cI 40, cI 40]
  refine pb_iload_n1 g dX8_init_165 ?_
  refine pb_iconst (v := nI 4) g dX8_init_166 (by decide) ?_
  refine pb_icmp_geN g 183 dX8_init_167 (by decide) (by decide) (by decide) (fun c9 => absurd c9 (by decide)) (fun _ => ?_)
  refine pb_aload_n0 g dX8_init_170 ?_
  refine pb_getf g fX8_57 dX8_init_171 (q := 0) rfl rfl ?_
  refine pb_iload_n1 g dX8_init_174 ?_
  refine pb_iconst (v := -1) g dX8_init_175 (by decide) ?_
  refine pb_iastN g dX8_init_176 (q := 15) rfl (by decide) (by decide) ?_
  refine pb_iinc1N g dX8_init_177 (by decide) ?_
  refine pb_goto g 165 dX8_init_180 (by decide) ?_
  change PB (GU Γ ad 19 6204) 165 [some (.ref 0), some (.int (nI 4))] [] [pO 4 [.int (nI 4), .int 0, .int 0, .int 0, .ref 1, .ref 2, .ref 3, .ref 4, .ref 5, .ref 6, .ref 7, .ref 8, .ref 9, .ref 10, .ref 11, .ref 12, .ref 13, .ref 14, .ref 15, .ref 16, .ref 17, .ref 18, .ref 19, .int 0], cI 120, cI 10, cI 10, cI 100, cI 10, cI 10, cJ 12, cJ 12, cJ 720, cJ 720, cI 10, cI 11, cJ 4200, cJ 11, pI 4 (upd (upd (upd (upd (fun _ => 0) 0 (-1)) 1 (-1)) 2 (-1)) 3 (-1)), cI 4, cI 160, cI 40, cI 40]
  refine pb_iload_n1 g dX8_init_165 ?_
  refine pb_iconst (v := nI 4) g dX8_init_166 (by decide) ?_
  refine pb_icmp_geN g 183 dX8_init_167 (by decide) (by decide) (by decide) (fun _ => ?_) (fun c9 => absurd c9 (by decide))
  exact pb_vretN g z hag dX8_init_183 rfl
