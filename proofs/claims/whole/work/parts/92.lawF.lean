/-! ===== the law: its entry ===== -/
set_option maxRecDepth 100000 in
theorem dk_cls0 : ∀ i, i < 52 → ∃ c, dkNew[i]? = some c ∧ okC 52 c
  | 0, _ => ⟨_, rfl, rfl⟩
  | 1, _ => ⟨_, rfl, fun j k hk => by
      have hk : (if j < 12 then some (2 + j) else none) = some k := hk
      by_cases q : j < 12
      · rw [if_pos q] at hk
        cases hk
        omega
      · rw [if_neg q] at hk
        cases hk⟩
  | 2, _ => ⟨_, rfl, trivial⟩
  | 3, _ => ⟨_, rfl, trivial⟩
  | 4, _ => ⟨_, rfl, trivial⟩
  | 5, _ => ⟨_, rfl, trivial⟩
  | 6, _ => ⟨_, rfl, trivial⟩
  | 7, _ => ⟨_, rfl, trivial⟩
  | 8, _ => ⟨_, rfl, trivial⟩
  | 9, _ => ⟨_, rfl, trivial⟩
  | 10, _ => ⟨_, rfl, trivial⟩
  | 11, _ => ⟨_, rfl, trivial⟩
  | 12, _ => ⟨_, rfl, trivial⟩
  | 13, _ => ⟨_, rfl, trivial⟩
  | 14, _ => ⟨_, rfl, arr_ok (arr_ok (arr_ok (arr_ok (arr_ok (arr_ok (arr_ok (arr_ok (arr_ok (arr_ok (fun j k hk => by cases hk) (by decide)) (by decide)) (by decide)) (by decide)) (by decide)) (by decide)) (by decide)) (by decide)) (by decide)) (by decide)⟩
  | 15, _ => ⟨_, rfl, arr_ok (arr_ok (arr_ok (arr_ok (fun j k hk => by cases hk) (by decide)) (by decide)) (by decide)) (by decide)⟩
  | 16, _ => ⟨_, rfl, rfl⟩
  | 17, _ => ⟨_, rfl, trivial⟩
  | 18, _ => ⟨_, rfl, trivial⟩
  | 19, _ => ⟨_, rfl, trivial⟩
  | 20, _ => ⟨_, rfl, trivial⟩
  | 21, _ => ⟨_, rfl, trivial⟩
  | 22, _ => ⟨_, rfl, trivial⟩
  | 23, _ => ⟨_, rfl, trivial⟩
  | 24, _ => ⟨_, rfl, rfl⟩
  | 25, _ => ⟨_, rfl, trivial⟩
  | 26, _ => ⟨_, rfl, rfl⟩
  | 27, _ => ⟨_, rfl, trivial⟩
  | 28, _ => ⟨_, rfl, rfl⟩
  | 29, _ => ⟨_, rfl, trivial⟩
  | 30, _ => ⟨_, rfl, rfl⟩
  | 31, _ => ⟨_, rfl, trivial⟩
  | 32, _ => ⟨_, rfl, rfl⟩
  | 33, _ => ⟨_, rfl, trivial⟩
  | 34, _ => ⟨_, rfl, rfl⟩
  | 35, _ => ⟨_, rfl, trivial⟩
  | 36, _ => ⟨_, rfl, rfl⟩
  | 37, _ => ⟨_, rfl, trivial⟩
  | 38, _ => ⟨_, rfl, rfl⟩
  | 39, _ => ⟨_, rfl, trivial⟩
  | 40, _ => ⟨_, rfl, rfl⟩
  | 41, _ => ⟨_, rfl, trivial⟩
  | 42, _ => ⟨_, rfl, rfl⟩
  | 43, _ => ⟨_, rfl, trivial⟩
  | 44, _ => ⟨_, rfl, rfl⟩
  | 45, _ => ⟨_, rfl, trivial⟩
  | 46, _ => ⟨_, rfl, rfl⟩
  | 47, _ => ⟨_, rfl, trivial⟩
  | 48, _ => ⟨_, rfl, rfl⟩
  | 49, _ => ⟨_, rfl, trivial⟩
  | 50, _ => ⟨_, rfl, rfl⟩
  | 51, _ => ⟨_, rfl, trivial⟩
  | (i + 52), h => absurd h (by omega)
theorem dk_len : dkNew.length = 52 := rfl
theorem dk_cls : Cls dkNew := by
  intro i c hi
  have hl : i < 52 := (List.getElem?_eq_some_iff.mp hi).1
  obtain ⟨c1, h1, h2⟩ := dk_cls0 i hl
  rw [h1] at hi
  cases hi
  exact h2
section LST
variable {Γ : GT} {rt : Option FieldType} {k : Nat}
theorem l_initM {ad : Nat → Nat} {cl sl pc : Nat} {lv : List (Option Value)} {st : List Value} (g : GM (GU Γ ad cl sl) x cL_law 4 rt k) (g1 : GM (GU Γ ad (cl + 19) (sl + 6204)) x cL_law 4 rt k) (hk : 20 ≤ k) (hAO : AO3 (GS Γ)) (hdg : decode cL_law pc = .ok (.invokespecial 12, 3)) (hw : (st.map fun v => v.category).sum ≤ 8) (kk : LB (GU Γ ad (cl + 19) (sl + 6204)) (pc + 3) lv st (q0, q0)) : PB (GU Γ ad cl sl) pc lv (.ref 52 :: st) (dkNew ++ [pO 4 [.int 0, .int 0, .int 0, .int 0, .null, .null, .null, .null, .null, .null, .null, .null, .null, .null, .null, .null, .null, .null, .null, .null, .null, .null, .null, .int 0]]) := by
  obtain ⟨⟨p, l, e, R, s, m⟩, ⟨args, below, meth, c⟩, ⟨D, ta, ad0, sa, A⟩, cl0, sl0, Z⟩ := Γ
  obtain ⟨hx, hb, hml, hr, hlk, hown, hts, hR, hK, hA, hPS, hPN⟩ := g
  obtain ⟨-, -, -, -, -, -, -, hR1, -⟩ := g1
  intro H locs ls hP0 hD0 hS hl
  obtain ⟨c1, c3, c4, c5⟩ := kIX8
  have ew : pcw ta ad sa (dkNew ++ [pO 4 [.int 0, .int 0, .int 0, .int 0, .null, .null, .null, .null, .null, .null, .null, .null, .null, .null, .null, .null, .null, .null, .null, .null, .null, .null, .null, .int 0]]) = pcw ta ad sa dkNew ++ pcw ta (fun k => ad (52 + k)) sa [pO 4 [.int 0, .int 0, .int 0, .int 0, .null, .null, .null, .null, .null, .null, .null, .null, .null, .null, .null, .null, .null, .null, .null, .null, .null, .null, .null, .int 0]] := by
    rw [pcw_snoc]
    rfl
  rw [ew] at hP0 hD0
  have hP := va_P_sw hP0
  have hD := va_D_sw hD0
  have hp := pre_of (av := [.ref 0]) (va_P_l hP) (va_D_l hD) hS hK hA hPS hPN
  have hsub : ∀ z, va_A (pcw ta (fun k => ad (52 + k)) sa [pO 4 [.int 0, .int 0, .int 0, .int 0, .null, .null, .null, .null, .null, .null, .null, .null, .null, .null, .null, .null, .null, .null, .null, .null, .null, .null, .null, .int 0]]) H.size z → A z := fun z hz => by
    rcases hz with ⟨k0, e0, hk0⟩ | hz
    · exact (va_D_l hD).2 k0 _ hk0
    · exact hA z (Nat.le_trans hS.1 hz)
  have hr9 := va_runI (R := R) (e := e) (below := below) (meth := meth) (locs := locs) (cells := cl) (slots := sl) (As := []) (b := ad 52) (n := 0) (g := F0 m pc ls (.ref (ad 52) :: st.map (pcv ad sa))) (rest := st.map (pcv ad sa)) ⟨hx, hb, hml, hown, hts⟩ (n_X8 0 l D ta (fun k => ad (52 + k)) sa H.size) ⟨callB_of 0 hts (tbl_in c1) rfl rfl rfl (hts _ c3) (hts _ kLX8) c4 ⟨by show 0 + 3 + 1 ≤ _; omega, by show 8 + (2 + 11) + 60 * (0 + 3) ≤ _; omega⟩, rfl, hts _ kMX8⟩ ⟨fun a U g mk z => ⟨(hp.1 a U g mk ⟨z.1, z.2.1⟩).1, (hp.1 a U g mk ⟨z.1, z.2.1⟩).2, z.2.2.calls⟩, fun U hU hW => ⟨(hp.2 U hU hW).1, (hp.2 U hU hW).2, hAO.warm hW⟩⟩ rfl rfl (by rw [← hml]; exact hl.1) rfl (lv_room (by rw [pcv_sum]; exact hw)) hdg ⟨hR1.2.2.1, hR1.2.2.2⟩
  intro T hT X
  obtain ⟨v, st₀, t, T', L, h0, X', hL, e1, e2, ⟨⟨h', ad', hag, hv, hq, hP1, hK1, hD1⟩, hz, hk9⟩, stp⟩ := hr9 T hT X
  have hv' : v = none := by injection hv
  subst hv'
  subst hq
  rw [h0] at hz hk9
  obtain ⟨hP9, hD9⟩ := va_fr hP hD hsub hk9 hP1 hD1
  obtain ⟨t2, a1, b1⟩ := kk T'.heap (locs ++ L) ls (by rw [e1]; exact lq_new (va_P_sw hP9) (va_D_sw hD9) (hag 0 (by decide))) trivial
    ⟨Nat.le_trans hS.1 (by rw [e1]; exact hz), fun z h1 h2 => by rw [e1, hk9 z (Nat.lt_of_lt_of_le h1 hS.1) (fun w => h2 (hsub z w))]; exact hS.2.1 z h1 h2, fun z hz9 => by
      rcases List.mem_append.mp hz9 with w | w
      · exact hS.2.2 z w
      · exact hsub _ (hL z w)⟩ hl T' rfl X'
  exact ⟨t2, stp t2 a1, b1⟩
theorem l_start {ad0 : Nat → Nat} {L : Nat} {xs : Nat → Int32} (G0 : ∀ ad cl sl, cl ≤ 72 → sl ≤ 6796 → GM (GU Γ ad cl sl) x cL_law 4 rt k) (hk : 20 ≤ k) (hAO : AO3 (GS Γ)) (hL : L ≤ 3072) (gx : ∀ ad, GX (GU Γ ad 72 6796) L xs) (ge : ∀ ad, GE (GU Γ ad 72 6796)) : PB (GU Γ ad0 0 0) 0 [some (.float 4), none, none, none] [] [] := by
  have g := G0 ad0 0 0 (by omega) (by omega)
  refine pb_new g (G0 ad0 (0 + 1) (0 + 14) (by omega) (by omega)) kND dL_law_0 (fun i c hi => by cases hi) rfl rfl (fun ad _ => ?_)
  have g := G0 ad 1 14 (by omega) (by omega)
  change PB (GU Γ ad 1 14) 3 [some (.float 4), none, none, none] [.ref 0] [pO 3 [.null, .null, .null, .null, .int 0, .int 0, .int 0, .int 0, .null, .null, .null, .null, .null, .null]]
  refine pb_dup g dL_law_3 rfl ?_
  refine pb_init (k' := 0 + 3) (q := 0) g (G0 ad (1 + 51) (14 + 554) (by omega) (by omega)) ⟨kIX7.1, kLX7, kIX7.2.1, kIX7.2.2.1, kIX7.2.2.2⟩ rfl kMX7 hAO dL_law_4 (by omega) (Cls_one rfl) rfl rfl (Nat.le_of_ble_eq_true rfl) (n_X7 0) (fun ad h' _ hq => ?_)
  subst hq
  have g := G0 ad 52 568 (by omega) (by omega)
  change PB (GU Γ ad 52 568) 7 [some (.float 4), none, none, none] [.ref 0] dkNew
  refine pb_astore_n1 g dL_law_7 (by decide) ?_
  refine pb_new g (G0 ad (52 + 1) (568 + 24) (by omega) (by omega)) kNM dL_law_8 dk_cls rfl rfl (fun ad _ => ?_)
  have g := G0 ad 53 592 (by omega) (by omega)
  change PB (GU Γ ad 53 592) 11 [some (.float 4), some (.ref 0), none, none] [.ref 52] (dkNew ++ [pO 4 [.int 0, .int 0, .int 0, .int 0, .null, .null, .null, .null, .null, .null, .null, .null, .null, .null, .null, .null, .null, .null, .null, .null, .null, .null, .null, .int 0]])
  refine pb_dup g dL_law_11 rfl ?_
  refine l_initM g (G0 ad (53 + 19) (592 + 6204) (by omega) (by omega)) hk hAO dL_law_12 (Nat.le_of_ble_eq_true rfl) ?_
  have g := G0 ad 72 6796 (by omega) (by omega)
  change LB (GU Γ ad 72 6796) 15 [some (.float 4), some (.ref 0), none, none] [.ref 52] (q0, q0)
  refine lb_astore_n2 g dL_law_15 (by decide) ?_
  refine lb_iconst (v := nI 0) g dL_law_16 (by decide) ?_
  refine lb_istore_n3 g dL_law_17 (by decide) ?_
  exact l_loop g (gx ad) hL hk (ge ad) 600 0 (by omega) (by omega) q0 si_0
end LST
