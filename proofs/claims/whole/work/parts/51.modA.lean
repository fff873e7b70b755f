/-! ===== the reference: small methods ===== -/
/-- the first n of g to b on -/
def cpF (f g : Nat → Int32) (b : Nat) : Nat → (Nat → Int32)
  | 0 => f
  | i + 1 => upd (cpF f g b i) (b + i) (g i)
theorem cp_in (f g : Nat → Int32) (b : Nat) : ∀ n j, j < n → cpF f g b n (b + j) = g j
  | 0, j, h => absurd h (by omega)
  | n + 1, j, h => by
    show upd (cpF f g b n) (b + n) (g n) (b + j) = g j
    by_cases e : j = n
    · rw [upd, if_pos (by omega), e]
    · rw [upd, if_neg (by omega)]
      exact cp_in f g b n j (by omega)
theorem cp_out (f g : Nat → Int32) (b : Nat) : ∀ n x, (x < b ∨ b + n ≤ x) → cpF f g b n x = f x
  | 0, _, _ => rfl
  | n + 1, x, h => by
    show upd (cpF f g b n) (b + n) (g n) x = f x
    rw [upd, if_neg (by omega)]
    exact cp_out f g b n x (by omega)
def tkF (f g : Nat → Int32) (b : Nat) : Nat → (Nat → Int32)
  | 0 => f
  | i + 1 => upd (tkF f g b i) i (g (b + i))
theorem tk_at (f g : Nat → Int32) (b : Nat) : ∀ n j, j < n → tkF f g b n j = g (b + j)
  | 0, j, h => absurd h (by omega)
  | n + 1, j, h => by
    show upd (tkF f g b n) n (g (b + n)) j = _
    by_cases e : j = n
    · rw [upd, if_pos e, e]
    · rw [upd, if_neg e]
      exact tk_at f g b n j (by omega)
theorem m1_up {od ln : Nat → Int32} {σ : Nat → Nat → Nat} {Q P n P0 : Nat} {o : Nat → Nat} (hn : n ≤ 10) (d1 : ∀ p, p < P → ∀ j, j < n → od (10 * p + j) = nI (σ p j)) (hf : ∀ j, j < n → ln j = nI (o j)) (hQ : ∀ p, p < Q → p ≠ P0 → p < P) : ∀ p, p < Q → ∀ j, j < n → cpF od ln (10 * P0) n (10 * p + j) = nI (va_up σ P0 o p j) := by
  intro p hp j hj
  by_cases e : p = P0
  · subst e
    rw [va_upS, cp_in _ _ _ n j hj]
    exact hf j hj
  · rw [va_upN e, cp_out _ _ _ n _ (by omega)]
    exact d1 p (hQ p hp e) j hj
theorem m2_up {mm ln kn hs : Nat → Int32} {μ : Nat → Nat → Nat} {K Hh : Nat → Nat} {S n a b : Nat} {m : Nat → Nat} (hn : n ≤ 10) (d2 : ∀ s, s < S → kn s = nI (K s) ∧ hs s = nI (Hh s) ∧ (K s < 3 → ∀ j, j < n → mm (10 * s + j) = nI (μ s j))) (hf : a < 3 → ∀ j, j < n → ln j = nI (m j)) : ∀ s, s < S + 1 → upd kn S (nI a) s = nI (va_up K S a s) ∧ upd hs S (nI b) s = nI (va_up Hh S b s) ∧ (va_up K S a s < 3 → ∀ j, j < n → cpF mm ln (10 * S) n (10 * s + j) = nI (va_up μ S m s j)) := by
  intro s hs1
  by_cases e : s = S
  · subst e
    rw [va_upS, va_upS, va_upS]
    exact ⟨if_pos rfl, if_pos rfl, fun q j hj => by rw [cp_in _ _ _ n j hj]; exact hf q j hj⟩
  · rw [va_upN e, va_upN e, va_upN e]
    obtain ⟨h1, h2, h3⟩ := d2 s (by omega)
    exact ⟨(if_neg e).trans h1, (if_neg e).trans h2, fun q j hj => by rw [cp_out _ _ _ n _ (by omega)]; exact h3 q j hj⟩
set_option maxHeartbeats 4000000 in
set_option maxRecDepth 100000 in
theorem m_isPackT (k : Nat) {xn xS xsd xbo : Int32} {xod xkn xhs xmm xln xot xfa xgr xtsr xtsz xce xmv xtc : Nat → Int32} {xwy xnx xch xaf xfo xco : Nat → Int64} {P j : Nat} (hj : j < P) (hv : P ≤ 12) : Runs yX8_isPack cX8_isPack 2 (some .boolean) (k) [.ref 0, .int (nI j)] (mkH 20 (mdF xn (nI P) xS xsd xod xkn xhs xmm xln xot xwy xnx xch xaf xfa xgr xfo xco xtsr xtsz xce xmv xtc xbo)) (fun o h' => ∃ r : Int32, o = some (.int r) ∧ r = nI 1 ∧ mkH 20 (mdF xn (nI P) xS xsd xod xkn xhs xmm xln xot xwy xnx xch xaf xfa xgr xfo xco xtsr xtsz xce xmv xtc xbo) = h') := by
  refine Runs.of (by decide) (Nat.le_of_ble_eq_true rfl) [some (.ref 0), some (.int (nI j))] 0 rfl (fun Γ g z => ?_)
  refine pb_iload_n1 g dX8_isPack_0 ?_
  refine pb_if_ltN g 16 dX8_isPack_1 (by decide) (by omega) ?_
  refine pb_iload_n1 g dX8_isPack_4 ?_
  refine pb_aload_n0 g dX8_isPack_5 ?_
  refine pb_getf g fX8_72 dX8_isPack_6 mr_o rfl ?_
  first | refine pb_icmp_geN g 16 dX8_isPack_9 (by decide) (by omega) (by omega) (fun c9 => ?_) (fun c9 => ?_) | refine pb_icmp_ge g 16 dX8_isPack_9 (by decide) (fun c9 => ?_) (fun c9 => ?_)
  · exact absurd c9 (by omega)
  · refine pb_iconst (v := nI 1) g dX8_isPack_12 (by decide) ?_
    refine pb_goto g 17 dX8_isPack_13 (by decide) ?_
    refine pb_zret g z dX8_isPack_17 (by first | rfl | decide) ?_
    exact ⟨_, rfl, rfl, rfl⟩
set_option maxHeartbeats 4000000 in
set_option maxRecDepth 100000 in
theorem m_isPackF (k : Nat) {xn xS xsd xbo : Int32} {xod xkn xhs xmm xln xot xfa xgr xtsr xtsz xce xmv xtc : Nat → Int32} {xwy xnx xch xaf xfo xco : Nat → Int64} {P : Nat} {x : Int32} (hx : ¬ inN x P) (hv : P ≤ 12) : Runs yX8_isPack cX8_isPack 2 (some .boolean) (k) [.ref 0, .int x] (mkH 20 (mdF xn (nI P) xS xsd xod xkn xhs xmm xln xot xwy xnx xch xaf xfa xgr xfo xco xtsr xtsz xce xmv xtc xbo)) (fun o h' => ∃ r : Int32, o = some (.int r) ∧ r = nI 0 ∧ mkH 20 (mdF xn (nI P) xS xsd xod xkn xhs xmm xln xot xwy xnx xch xaf xfa xgr xfo xco xtsr xtsz xce xmv xtc xbo) = h') := by
  refine Runs.of (by decide) (Nat.le_of_ble_eq_true rfl) [some (.ref 0), some (.int x)] 0 rfl (fun Γ g z => ?_)
  have hx2 := inN_not (by omega) hx
  refine pb_iload_n1 g dX8_isPack_0 ?_
  refine pb_if_lt g 16 dX8_isPack_1 (by decide) (fun c1 => ?_) (fun c1 => ?_)
  · refine pb_iconst (v := nI 0) g dX8_isPack_16 (by decide) ?_
    refine pb_zret g z dX8_isPack_17 (by first | rfl | decide) ?_
    exact ⟨_, rfl, rfl, rfl⟩
  · refine pb_iload_n1 g dX8_isPack_4 ?_
    refine pb_aload_n0 g dX8_isPack_5 ?_
    refine pb_getf g fX8_72 dX8_isPack_6 mr_o rfl ?_
    first | refine pb_icmp_geN g 16 dX8_isPack_9 (by decide) (by omega) (by omega) (fun c9 => ?_) (fun c9 => ?_) | refine pb_icmp_ge g 16 dX8_isPack_9 (by decide) (fun c9 => ?_) (fun c9 => ?_)
    · refine pb_iconst (v := nI 0) g dX8_isPack_16 (by decide) ?_
      refine pb_zret g z dX8_isPack_17 (by first | rfl | decide) ?_
      exact ⟨_, rfl, rfl, rfl⟩
    · exact absurd hx2 (fun q => q.elim c1 c9)
set_option maxHeartbeats 4000000 in
set_option maxRecDepth 100000 in
theorem m_isShuffleT (k : Nat) {xn xP xsd xbo : Int32} {xod xkn xhs xmm xln xot xfa xgr xtsr xtsz xce xmv xtc : Nat → Int32} {xwy xnx xch xaf xfo xco : Nat → Int64} {S j : Nat} (hj : j < S) (hv : S ≤ 10) : Runs yX8_isShuffle cX8_isShuffle 2 (some .boolean) (k) [.ref 0, .int (nI j)] (mkH 20 (mdF xn xP (nI S) xsd xod xkn xhs xmm xln xot xwy xnx xch xaf xfa xgr xfo xco xtsr xtsz xce xmv xtc xbo)) (fun o h' => ∃ r : Int32, o = some (.int r) ∧ r = nI 1 ∧ mkH 20 (mdF xn xP (nI S) xsd xod xkn xhs xmm xln xot xwy xnx xch xaf xfa xgr xfo xco xtsr xtsz xce xmv xtc xbo) = h') := by
  refine Runs.of (by decide) (Nat.le_of_ble_eq_true rfl) [some (.ref 0), some (.int (nI j))] 0 rfl (fun Γ g z => ?_)
  refine pb_iload_n1 g dX8_isShuffle_0 ?_
  refine pb_if_ltN g 16 dX8_isShuffle_1 (by decide) (by omega) ?_
  refine pb_iload_n1 g dX8_isShuffle_4 ?_
  refine pb_aload_n0 g dX8_isShuffle_5 ?_
  refine pb_getf g fX8_75 dX8_isShuffle_6 mr_o rfl ?_
  first | refine pb_icmp_geN g 16 dX8_isShuffle_9 (by decide) (by omega) (by omega) (fun c9 => ?_) (fun c9 => ?_) | refine pb_icmp_ge g 16 dX8_isShuffle_9 (by decide) (fun c9 => ?_) (fun c9 => ?_)
  · exact absurd c9 (by omega)
  · refine pb_iconst (v := nI 1) g dX8_isShuffle_12 (by decide) ?_
    refine pb_goto g 17 dX8_isShuffle_13 (by decide) ?_
    refine pb_zret g z dX8_isShuffle_17 (by first | rfl | decide) ?_
    exact ⟨_, rfl, rfl, rfl⟩
set_option maxHeartbeats 4000000 in
set_option maxRecDepth 100000 in
theorem m_isShuffleF (k : Nat) {xn xP xsd xbo : Int32} {xod xkn xhs xmm xln xot xfa xgr xtsr xtsz xce xmv xtc : Nat → Int32} {xwy xnx xch xaf xfo xco : Nat → Int64} {S : Nat} {x : Int32} (hx : ¬ inN x S) (hv : S ≤ 10) : Runs yX8_isShuffle cX8_isShuffle 2 (some .boolean) (k) [.ref 0, .int x] (mkH 20 (mdF xn xP (nI S) xsd xod xkn xhs xmm xln xot xwy xnx xch xaf xfa xgr xfo xco xtsr xtsz xce xmv xtc xbo)) (fun o h' => ∃ r : Int32, o = some (.int r) ∧ r = nI 0 ∧ mkH 20 (mdF xn xP (nI S) xsd xod xkn xhs xmm xln xot xwy xnx xch xaf xfa xgr xfo xco xtsr xtsz xce xmv xtc xbo) = h') := by
  refine Runs.of (by decide) (Nat.le_of_ble_eq_true rfl) [some (.ref 0), some (.int x)] 0 rfl (fun Γ g z => ?_)
  have hx2 := inN_not (by omega) hx
  refine pb_iload_n1 g dX8_isShuffle_0 ?_
  refine pb_if_lt g 16 dX8_isShuffle_1 (by decide) (fun c1 => ?_) (fun c1 => ?_)
  · refine pb_iconst (v := nI 0) g dX8_isShuffle_16 (by decide) ?_
    refine pb_zret g z dX8_isShuffle_17 (by first | rfl | decide) ?_
    exact ⟨_, rfl, rfl, rfl⟩
  · refine pb_iload_n1 g dX8_isShuffle_4 ?_
    refine pb_aload_n0 g dX8_isShuffle_5 ?_
    refine pb_getf g fX8_75 dX8_isShuffle_6 mr_o rfl ?_
    first | refine pb_icmp_geN g 16 dX8_isShuffle_9 (by decide) (by omega) (by omega) (fun c9 => ?_) (fun c9 => ?_) | refine pb_icmp_ge g 16 dX8_isShuffle_9 (by decide) (fun c9 => ?_) (fun c9 => ?_)
    · refine pb_iconst (v := nI 0) g dX8_isShuffle_16 (by decide) ?_
      refine pb_zret g z dX8_isShuffle_17 (by first | rfl | decide) ?_
      exact ⟨_, rfl, rfl, rfl⟩
    · exact absurd hx2 (fun q => q.elim c1 c9)
set_option maxHeartbeats 4000000 in
set_option maxRecDepth 100000 in
theorem m_isPlaceT (k : Nat) {xP xS xsd xbo : Int32} {xod xkn xhs xmm xln xot xfa xgr xtsr xtsz xce xmv xtc : Nat → Int32} {xwy xnx xch xaf xfo xco : Nat → Int64} {n j : Nat} (hj : j < n) (hv : n ≤ 10) : Runs yX8_isPlace cX8_isPlace 2 (some .boolean) (k) [.ref 0, .int (nI j)] (mkH 20 (mdF (nI n) xP xS xsd xod xkn xhs xmm xln xot xwy xnx xch xaf xfa xgr xfo xco xtsr xtsz xce xmv xtc xbo)) (fun o h' => ∃ r : Int32, o = some (.int r) ∧ r = nI 1 ∧ mkH 20 (mdF (nI n) xP xS xsd xod xkn xhs xmm xln xot xwy xnx xch xaf xfa xgr xfo xco xtsr xtsz xce xmv xtc xbo) = h') := by
  refine Runs.of (by decide) (Nat.le_of_ble_eq_true rfl) [some (.ref 0), some (.int (nI j))] 0 rfl (fun Γ g z => ?_)
  refine pb_iload_n1 g dX8_isPlace_0 ?_
  refine pb_if_ltN g 16 dX8_isPlace_1 (by decide) (by omega) ?_
  refine pb_iload_n1 g dX8_isPlace_4 ?_
  refine pb_aload_n0 g dX8_isPlace_5 ?_
  refine pb_getf g fX8_7 dX8_isPlace_6 mr_o rfl ?_
  first | refine pb_icmp_geN g 16 dX8_isPlace_9 (by decide) (by omega) (by omega) (fun c9 => ?_) (fun c9 => ?_) | refine pb_icmp_ge g 16 dX8_isPlace_9 (by decide) (fun c9 => ?_) (fun c9 => ?_)
  · exact absurd c9 (by omega)
  · refine pb_iconst (v := nI 1) g dX8_isPlace_12 (by decide) ?_
    refine pb_goto g 17 dX8_isPlace_13 (by decide) ?_
    refine pb_zret g z dX8_isPlace_17 (by first | rfl | decide) ?_
    exact ⟨_, rfl, rfl, rfl⟩
set_option maxHeartbeats 4000000 in
set_option maxRecDepth 100000 in
theorem m_isPlaceF (k : Nat) {xP xS xsd xbo : Int32} {xod xkn xhs xmm xln xot xfa xgr xtsr xtsz xce xmv xtc : Nat → Int32} {xwy xnx xch xaf xfo xco : Nat → Int64} {n : Nat} {x : Int32} (hx : ¬ inN x n) (hv : n ≤ 10) : Runs yX8_isPlace cX8_isPlace 2 (some .boolean) (k) [.ref 0, .int x] (mkH 20 (mdF (nI n) xP xS xsd xod xkn xhs xmm xln xot xwy xnx xch xaf xfa xgr xfo xco xtsr xtsz xce xmv xtc xbo)) (fun o h' => ∃ r : Int32, o = some (.int r) ∧ r = nI 0 ∧ mkH 20 (mdF (nI n) xP xS xsd xod xkn xhs xmm xln xot xwy xnx xch xaf xfa xgr xfo xco xtsr xtsz xce xmv xtc xbo) = h') := by
  refine Runs.of (by decide) (Nat.le_of_ble_eq_true rfl) [some (.ref 0), some (.int x)] 0 rfl (fun Γ g z => ?_)
  have hx2 := inN_not (by omega) hx
  refine pb_iload_n1 g dX8_isPlace_0 ?_
  refine pb_if_lt g 16 dX8_isPlace_1 (by decide) (fun c1 => ?_) (fun c1 => ?_)
  · refine pb_iconst (v := nI 0) g dX8_isPlace_16 (by decide) ?_
    refine pb_zret g z dX8_isPlace_17 (by first | rfl | decide) ?_
    exact ⟨_, rfl, rfl, rfl⟩
  · refine pb_iload_n1 g dX8_isPlace_4 ?_
    refine pb_aload_n0 g dX8_isPlace_5 ?_
    refine pb_getf g fX8_7 dX8_isPlace_6 mr_o rfl ?_
    first | refine pb_icmp_geN g 16 dX8_isPlace_9 (by decide) (by omega) (by omega) (fun c9 => ?_) (fun c9 => ?_) | refine pb_icmp_ge g 16 dX8_isPlace_9 (by decide) (fun c9 => ?_) (fun c9 => ?_)
    · refine pb_iconst (v := nI 0) g dX8_isPlace_16 (by decide) ?_
      refine pb_zret g z dX8_isPlace_17 (by first | rfl | decide) ?_
      exact ⟨_, rfl, rfl, rfl⟩
    · exact absurd hx2 (fun q => q.elim c1 c9)
set_option maxHeartbeats 4000000 in
set_option maxRecDepth 100000 in
theorem m_hasMove (k : Nat) {xn xP xS xsd xbo : Int32} {xod xkn xhs xmm xln xot xfa xgr xtsr xtsz xce xmv xtc : Nat → Int32} {xwy xnx xch xaf xfo xco : Nat → Int64} {s K : Nat} (hs : s < 10) (hk : xkn s = nI K) (hK : K < 5) : Runs yX8_hasMove cX8_hasMove 2 (some .boolean) (k) [.ref 0, .int (nI s)] (mkH 20 (mdF xn xP xS xsd xod xkn xhs xmm xln xot xwy xnx xch xaf xfa xgr xfo xco xtsr xtsz xce xmv xtc xbo)) (fun o h' => ∃ r : Int32, o = some (.int r) ∧ r = (if K < 3 then nI 1 else nI 0) ∧ mkH 20 (mdF xn xP xS xsd xod xkn xhs xmm xln xot xwy xnx xch xaf xfa xgr xfo xco xtsr xtsz xce xmv xtc xbo) = h') := by
  refine Runs.of (by decide) (Nat.le_of_ble_eq_true rfl) [some (.ref 0), some (.int (nI s))] 0 rfl (fun Γ g z => ?_)
  refine pb_aload_n0 g dX8_hasMove_0 ?_
  refine pb_getf g fX8_17 dX8_hasMove_1 mr_o rfl ?_
  refine pb_iload_n1 g dX8_hasMove_4 ?_
  first | refine pb_ialdN g dX8_hasMove_5 (by first | exact mr_kind | exact mr_order | exact mr_heaps | exact mr_m | exact mr_line | exact mr_other | exact mr_ways | exact mr_next | exact mr_chances | exact mr_after | exact mr_far | exact mr_groups | exact mr_found | exact mr_counts | exact mr_traySort | exact mr_traySize | exact mr_cells | exact mr_moved | exact mr_traced | assumption) (by omega) (by omega) ?_ | refine pb_ald0 g dX8_hasMove_5 (by omega) ?_ | refine pb_ald1 g dX8_hasMove_5 (by omega) ?_ | refine pb_ald2 g dX8_hasMove_5 (by omega) ?_ | refine pb_ald3 g dX8_hasMove_5 (by omega) ?_ | refine pb_iald g dX8_hasMove_5 (by first | exact mr_kind | exact mr_order | exact mr_heaps | exact mr_m | exact mr_line | exact mr_other | exact mr_ways | exact mr_next | exact mr_chances | exact mr_after | exact mr_far | exact mr_groups | exact mr_found | exact mr_counts | exact mr_traySort | exact mr_traySize | exact mr_cells | exact mr_moved | exact mr_traced | assumption) (by assumption) ?_
  rw [hk]
  refine pb_iconst (v := nI 3) g dX8_hasMove_6 (by decide) ?_
  first | refine pb_icmp_geN g 14 dX8_hasMove_7 (by decide) (by omega) (by omega) (fun c7 => ?_) (fun c7 => ?_) | refine pb_icmp_ge g 14 dX8_hasMove_7 (by decide) (fun c7 => ?_) (fun c7 => ?_)
  · refine pb_iconst (v := nI 0) g dX8_hasMove_14 (by decide) ?_
    refine pb_zret g z dX8_hasMove_15 (by first | rfl | decide) ?_
    exact ⟨_, rfl, by first | rw [if_pos (by omega)] | rw [if_neg (by omega)], rfl⟩
  · refine pb_iconst (v := nI 1) g dX8_hasMove_10 (by decide) ?_
    refine pb_goto g 15 dX8_hasMove_11 (by decide) ?_
    refine pb_zret g z dX8_hasMove_15 (by first | rfl | decide) ?_
    exact ⟨_, rfl, by first | rw [if_pos (by omega)] | rw [if_neg (by omega)], rfl⟩
set_option maxHeartbeats 4000000 in
set_option maxRecDepth 100000 in
theorem m_orders (k c : Nat) (hc : c ≤ 10) (h : PH) : Runs yX8_orders cX8_orders 3 (some .int) (k) [.int (nI c)] h (fun o h' => ∃ r : Int32, o = some (.int r) ∧ r = nI (fac c) ∧ h = h') := by
  refine Runs.of (by decide) (Nat.le_of_ble_eq_true rfl) [some (.int (nI c)), none, none] 2 rfl (fun Γ g z => ?_)
  have loop : ∀ j, j ≤ max 1 c → 1 ≤ j → PB Γ 4 [some (.int (nI c)), some (.int (nI (fac j))), some (.int (nI (j + 1)))] [] h := by
    refine pb_loop (max 1 c) (fun j hj ih hj1 => ?_)
    refine pb_iload_n2 g dX8_orders_4 ?_
    refine pb_iload_n0 g dX8_orders_5 ?_
    first | refine pb_icmp_gtN g 19 dX8_orders_6 (by decide) (by omega) (by omega) (fun c6 => ?_) (fun c6 => ?_) | refine pb_icmp_gt g 19 dX8_orders_6 (by decide) (fun c6 => ?_) (fun c6 => ?_)
    · refine pb_iload_n1 g dX8_orders_19 ?_
      refine pb_iret g z dX8_orders_20 ?_
      exact ⟨_, rfl, by
        have e : j = max 1 c := by omega
        rw [e]
        rcases Nat.lt_or_ge 0 c with q | q
        · rw [show max 1 c = c by omega]
        · rw [show max 1 c = 1 by omega, show c = 0 by omega]
          rfl, rfl⟩
    · refine pb_iload_n1 g dX8_orders_9 ?_
      refine pb_iload_n2 g dX8_orders_10 ?_
      first | refine pb_imulN g dX8_orders_11 ?_ | refine pb_imul g dX8_orders_11 ?_
      rw [Nat.mul_comm]
      refine pb_istore_n1 g dX8_orders_12 (by decide) ?_
      first | refine pb_iinc2N g dX8_orders_13 (by decide) ?_ | refine pb_iinc2 g dX8_orders_13 (by decide) rfl ?_
      refine pb_goto g 4 dX8_orders_16 (by decide) ?_
      exact ih (by omega) (by omega)
  refine pb_iconst (v := nI 1) g dX8_orders_0 (by decide) ?_
  refine pb_istore_n1 g dX8_orders_1 (by decide) ?_
  refine pb_iconst (v := nI 2) g dX8_orders_2 (by decide) ?_
  refine pb_istore_n2 g dX8_orders_3 (by decide) ?_
  exact loop 1 (by omega) (Nat.le_refl 1)
set_option maxHeartbeats 4000000 in
set_option maxRecDepth 100000 in
theorem m_power (k b t : Nat) (ht : t < 2 ^ 31) (h : PH) : Runs yX8_power cX8_power 6 (some .long) (k) [.long (lN b), .int (nI t)] h (fun o h' => ∃ r : Int64, o = some (.long r) ∧ r = lN (b ^ t) ∧ h = h') := by
  refine Runs.of (by decide) (Nat.le_of_ble_eq_true rfl) [some (.long (lN b)), none, some (.int (nI t)), none, none, none] 3 rfl (fun Γ g z => ?_)
  have loop : ∀ i, i ≤ t → PB Γ 5 [some (.long (lN b)), none, some (.int (nI t)), some (.long (lN (b ^ i))), none, some (.int (nI i))] [] (h) := by
    refine pb_loop (t) (fun i hi ih => ?_)
    refine pb_iload5 g dX8_power_5 ?_
    refine pb_iload_n2 g dX8_power_7 ?_
    first | refine pb_icmp_geN g 21 dX8_power_8 (by decide) (by omega) (by omega) (fun c8 => ?_) (fun c8 => ?_) | refine pb_icmp_ge g 21 dX8_power_8 (by decide) (fun c8 => ?_) (fun c8 => ?_)
    · refine pb_lload_n3 g dX8_power_21 ?_
      refine pb_lret g z dX8_power_22 ?_
      exact ⟨_, rfl, by rw [show i = t by omega], rfl⟩
    · refine pb_lload_n3 g dX8_power_11 ?_
      refine pb_lload_n0 g dX8_power_12 ?_
      first | refine pb_lmulN g dX8_power_13 ?_ | refine pb_lmul g dX8_power_13 ?_
      refine pb_lstore_n3 g dX8_power_14 (by decide) ?_
      first | refine pb_iinc5N g dX8_power_15 (by decide) ?_ | refine pb_iinc5 g dX8_power_15 (by decide) rfl ?_
      refine pb_goto g 5 dX8_power_18 (by decide) ?_
      exact ih c8
  refine pb_lconst (v := lN 1) g dX8_power_0 rfl ?_
  refine pb_lstore_n3 g dX8_power_1 (by decide) ?_
  refine pb_iconst (v := nI 0) g dX8_power_2 (by decide) ?_
  refine pb_istore5 g dX8_power_3 (by decide) ?_
  exact loop 0 (Nat.zero_le _)
set_option maxHeartbeats 4000000 in
set_option maxRecDepth 100000 in
theorem m_goes (k : Nat) {xP xS xsd xbo : Int32} {xod xkn xhs xmm xln xot xfa xgr xtsr xtsz xce xmv xtc : Nat → Int32} {xwy xnx xch xaf xfo xco : Nat → Int64} {n i w : Nat} (hi : i < n) (hw : w < 2) (hn : n ≤ 10) : Runs yX8_goes cX8_goes 3 (some .int) (k) [.ref 0, .int (nI w), .int (nI i)] (mkH 20 (mdF (nI n) xP xS xsd xod xkn xhs xmm xln xot xwy xnx xch xaf xfa xgr xfo xco xtsr xtsz xce xmv xtc xbo)) (fun o h' => ∃ r : Int32, o = some (.int r) ∧ r = nI (carF n i w) ∧ mkH 20 (mdF (nI n) xP xS xsd xod xkn xhs xmm xln xot xwy xnx xch xaf xfa xgr xfo xco xtsr xtsz xce xmv xtc xbo) = h') := by
  refine Runs.of (by decide) (Nat.le_of_ble_eq_true rfl) [some (.ref 0), some (.int (nI w)), some (.int (nI i))] 0 rfl (fun Γ g z => ?_)
  refine pb_iload_n2 g dX8_goes_0 ?_
  refine pb_aload_n0 g dX8_goes_1 ?_
  refine pb_getf g fX8_7 dX8_goes_2 mr_o rfl ?_
  refine pb_iconst (v := nI 2) g dX8_goes_5 (by decide) ?_
  first | refine pb_idivN g dX8_goes_6 (by omega) (by omega) (by omega) ?_ | refine pb_idiv g dX8_goes_6 (by assumption) ?_
  first | refine pb_icmp_geN g 16 dX8_goes_7 (by decide) (by omega) (by omega) (fun c7 => ?_) (fun c7 => ?_) | refine pb_icmp_ge g 16 dX8_goes_7 (by decide) (fun c7 => ?_) (fun c7 => ?_)
  · refine pb_iconst (v := nI 2) g dX8_goes_16 (by decide) ?_
    refine pb_iload_n2 g dX8_goes_17 ?_
    refine pb_aload_n0 g dX8_goes_18 ?_
    refine pb_getf g fX8_7 dX8_goes_19 mr_o rfl ?_
    refine pb_iconst (v := nI 2) g dX8_goes_22 (by decide) ?_
    first | refine pb_idivN g dX8_goes_23 (by omega) (by omega) (by omega) ?_ | refine pb_idiv g dX8_goes_23 (by assumption) ?_
    first | refine pb_isubN g dX8_goes_24 (by omega) ?_ | refine pb_isub g dX8_goes_24 ?_
    first | refine pb_imulN g dX8_goes_25 ?_ | refine pb_imul g dX8_goes_25 ?_
    refine pb_iconst (v := nI 1) g dX8_goes_26 (by decide) ?_
    first | refine pb_iaddN g dX8_goes_27 ?_ | refine pb_iadd g dX8_goes_27 ?_
    refine pb_iload_n1 g dX8_goes_28 ?_
    first | refine pb_isubN g dX8_goes_29 (by omega) ?_ | refine pb_isub g dX8_goes_29 ?_
    refine pb_iret g z dX8_goes_30 ?_
    exact ⟨_, rfl, by congr 1; unfold carF; split <;> omega, rfl⟩
  · refine pb_iconst (v := nI 2) g dX8_goes_10 (by decide) ?_
    refine pb_iload_n2 g dX8_goes_11 ?_
    first | refine pb_imulN g dX8_goes_12 ?_ | refine pb_imul g dX8_goes_12 ?_
    refine pb_iload_n1 g dX8_goes_13 ?_
    first | refine pb_iaddN g dX8_goes_14 ?_ | refine pb_iadd g dX8_goes_14 ?_
    refine pb_iret g z dX8_goes_15 ?_
    exact ⟨_, rfl, by congr 1; unfold carF; split <;> omega, rfl⟩
set_option maxHeartbeats 4000000 in
set_option maxRecDepth 100000 in
theorem m_comes (k : Nat) {xS xsd xbo : Int32} {xod xkn xhs xmm xln xot xfa xgr xtsr xtsz xce xmv xtc : Nat → Int32} {xwy xnx xch xaf xfo xco : Nat → Int64} {n P : Nat} (hn : n ≤ 10) (hP : P < 12) : Runs yX8_comes cX8_comes 2 (some .int) (k) [.ref 0] (mkH 20 (mdF (nI n) (nI P) xS xsd xod xkn xhs xmm xln xot xwy xnx xch xaf xfa xgr xfo xco xtsr xtsz xce xmv xtc xbo)) (fun o h' => ∃ r : Int32, o = some (.int r) ∧ r = nI P ∧ mkH 20 (mdF (nI n) (nI (P + 1)) xS xsd (cpF xod xln (10 * P) n) xkn xhs xmm xln xot xwy xnx xch xaf xfa xgr xfo xco xtsr xtsz xce xmv xtc xbo) = h') := by
  refine Runs.of (by decide) (Nat.le_of_ble_eq_true rfl) [some (.ref 0), none] 1 rfl (fun Γ g z => ?_)
  have loop : ∀ i, i ≤ n → PB Γ 2 [some (.ref 0), some (.int (nI i))] [] (mkH 20 (mdF (nI n) (nI P) xS xsd (cpF xod xln (10 * P) i) xkn xhs xmm xln xot xwy xnx xch xaf xfa xgr xfo xco xtsr xtsz xce xmv xtc xbo)) := by
    refine pb_loop n (fun i hi ih => ?_)
    refine pb_iload_n1 g dX8_comes_2 ?_
    refine pb_aload_n0 g dX8_comes_3 ?_
    refine pb_getf g fX8_7 dX8_comes_4 mr_o rfl ?_
    first | refine pb_icmp_geN g 36 dX8_comes_7 (by decide) (by omega) (by omega) (fun c7 => ?_) (fun c7 => ?_) | refine pb_icmp_ge g 36 dX8_comes_7 (by decide) (fun c7 => ?_) (fun c7 => ?_)
    · refine pb_aload_n0 g dX8_comes_36 ?_
      refine pb_dup g dX8_comes_37 rfl ?_
      refine pb_getf g fX8_72 dX8_comes_38 mr_o rfl ?_
      refine pb_dup_x1 g dX8_comes_41 rfl rfl ?_
      refine pb_iconst (v := nI 1) g dX8_comes_42 (by decide) ?_
      first | refine pb_iaddN g dX8_comes_43 ?_ | refine pb_iadd g dX8_comes_43 ?_
      refine pb_puti g wX8_72 dX8_comes_44 mr_o (Nat.le_of_ble_eq_true rfl) ?_
      rw [ms_packs]
      refine pb_iret g z dX8_comes_47 ?_
      exact ⟨_, rfl, rfl, by rw [show i = n by omega]⟩
    · refine pb_aload_n0 g dX8_comes_10 ?_
      refine pb_getf g fX8_13 dX8_comes_11 mr_o rfl ?_
      refine pb_bipush (v := nI 10) g dX8_comes_14 (by decide) ?_
      refine pb_aload_n0 g dX8_comes_16 ?_
      refine pb_getf g fX8_72 dX8_comes_17 mr_o rfl ?_
      first | refine pb_imulN g dX8_comes_20 ?_ | refine pb_imul g dX8_comes_20 ?_
      refine pb_iload_n1 g dX8_comes_21 ?_
      first | refine pb_iaddN g dX8_comes_22 ?_ | refine pb_iadd g dX8_comes_22 ?_
      refine pb_aload_n0 g dX8_comes_23 ?_
      refine pb_getf g fX8_26 dX8_comes_24 mr_o rfl ?_
      refine pb_iload_n1 g dX8_comes_27 ?_
      first | refine pb_ialdN g dX8_comes_28 (by first | exact mr_line | exact mr_order | exact mr_kind | exact mr_heaps | exact mr_m | exact mr_other | exact mr_ways | exact mr_next | exact mr_chances | exact mr_after | exact mr_far | exact mr_groups | exact mr_found | exact mr_counts | exact mr_traySort | exact mr_traySize | exact mr_cells | exact mr_moved | exact mr_traced | assumption) (by omega) (by omega) ?_ | refine pb_ald0 g dX8_comes_28 (by omega) ?_ | refine pb_ald1 g dX8_comes_28 (by omega) ?_ | refine pb_ald2 g dX8_comes_28 (by omega) ?_ | refine pb_ald3 g dX8_comes_28 (by omega) ?_ | refine pb_iald g dX8_comes_28 (by first | exact mr_line | exact mr_order | exact mr_kind | exact mr_heaps | exact mr_m | exact mr_other | exact mr_ways | exact mr_next | exact mr_chances | exact mr_after | exact mr_far | exact mr_groups | exact mr_found | exact mr_counts | exact mr_traySort | exact mr_traySize | exact mr_cells | exact mr_moved | exact mr_traced | assumption) (by assumption) ?_
      first | refine pb_iastN g dX8_comes_29 (by first | exact mr_line | exact mr_order | exact mr_kind | exact mr_heaps | exact mr_m | exact mr_other | exact mr_ways | exact mr_next | exact mr_chances | exact mr_after | exact mr_far | exact mr_groups | exact mr_found | exact mr_counts | exact mr_traySort | exact mr_traySize | exact mr_cells | exact mr_moved | exact mr_traced | assumption) (by omega) (by omega) ?_ | refine pb_iast g dX8_comes_29 (by first | exact mr_line | exact mr_order | exact mr_kind | exact mr_heaps | exact mr_m | exact mr_other | exact mr_ways | exact mr_next | exact mr_chances | exact mr_after | exact mr_far | exact mr_groups | exact mr_found | exact mr_counts | exact mr_traySort | exact mr_traySize | exact mr_cells | exact mr_moved | exact mr_traced | assumption) (by assumption) ?_
      first | rw [ms_line] | rw [ms_order]
      first | refine pb_iinc1N g dX8_comes_30 (by decide) ?_ | refine pb_iinc1 g dX8_comes_30 (by decide) rfl ?_
      refine pb_goto g 2 dX8_comes_33 (by decide) ?_
      exact ih c7
  refine pb_iconst (v := nI 0) g dX8_comes_0 (by decide) ?_
  refine pb_istore_n1 g dX8_comes_1 (by decide) ?_
  exact loop 0 (Nat.zero_le _)
set_option maxHeartbeats 4000000 in
set_option maxRecDepth 100000 in
theorem m_takes (k : Nat) {xP xS xsd xbo : Int32} {xod xkn xhs xmm xln xot xfa xgr xtsr xtsz xce xmv xtc : Nat → Int32} {xwy xnx xch xaf xfo xco : Nat → Int64} {n p : Nat} (hn : n ≤ 10) (hp : p < 12) : Runs yX8_takes cX8_takes 3 none (k) [.ref 0, .int (nI p)] (mkH 20 (mdF (nI n) xP xS xsd xod xkn xhs xmm xln xot xwy xnx xch xaf xfa xgr xfo xco xtsr xtsz xce xmv xtc xbo)) (fun o h' => o = none ∧ mkH 20 (mdF (nI n) xP xS xsd xod xkn xhs xmm (tkF xln xod (10 * p) n) xot xwy xnx xch xaf xfa xgr xfo xco xtsr xtsz xce xmv xtc xbo) = h') := by
  refine Runs.of (by decide) (Nat.le_of_ble_eq_true rfl) [some (.ref 0), some (.int (nI p)), none] 1 rfl (fun Γ g z => ?_)
  have loop : ∀ i, i ≤ n → PB Γ 2 [some (.ref 0), some (.int (nI p)), some (.int (nI i))] [] (mkH 20 (mdF (nI n) xP xS xsd xod xkn xhs xmm (tkF xln xod (10 * p) i) xot xwy xnx xch xaf xfa xgr xfo xco xtsr xtsz xce xmv xtc xbo)) := by
    refine pb_loop n (fun i hi ih => ?_)
    refine pb_iload_n2 g dX8_takes_2 ?_
    refine pb_aload_n0 g dX8_takes_3 ?_
    refine pb_getf g fX8_7 dX8_takes_4 mr_o rfl ?_
    first | refine pb_icmp_geN g 33 dX8_takes_7 (by decide) (by omega) (by omega) (fun c7 => ?_) (fun c7 => ?_) | refine pb_icmp_ge g 33 dX8_takes_7 (by decide) (fun c7 => ?_) (fun c7 => ?_)
    · refine pb_vret g z dX8_takes_33 ?_
      exact ⟨rfl, by rw [show i = n by omega]⟩
    · refine pb_aload_n0 g dX8_takes_10 ?_
      refine pb_getf g fX8_26 dX8_takes_11 mr_o rfl ?_
      refine pb_iload_n2 g dX8_takes_14 ?_
      refine pb_aload_n0 g dX8_takes_15 ?_
      refine pb_getf g fX8_13 dX8_takes_16 mr_o rfl ?_
      refine pb_bipush (v := nI 10) g dX8_takes_19 (by decide) ?_
      refine pb_iload_n1 g dX8_takes_21 ?_
      first | refine pb_imulN g dX8_takes_22 ?_ | refine pb_imul g dX8_takes_22 ?_
      refine pb_iload_n2 g dX8_takes_23 ?_
      first | refine pb_iaddN g dX8_takes_24 ?_ | refine pb_iadd g dX8_takes_24 ?_
      first | refine pb_ialdN g dX8_takes_25 (by first | exact mr_order | exact mr_line | exact mr_kind | exact mr_heaps | exact mr_m | exact mr_other | exact mr_ways | exact mr_next | exact mr_chances | exact mr_after | exact mr_far | exact mr_groups | exact mr_found | exact mr_counts | exact mr_traySort | exact mr_traySize | exact mr_cells | exact mr_moved | exact mr_traced | assumption) (by omega) (by omega) ?_ | refine pb_ald0 g dX8_takes_25 (by omega) ?_ | refine pb_ald1 g dX8_takes_25 (by omega) ?_ | refine pb_ald2 g dX8_takes_25 (by omega) ?_ | refine pb_ald3 g dX8_takes_25 (by omega) ?_ | refine pb_iald g dX8_takes_25 (by first | exact mr_order | exact mr_line | exact mr_kind | exact mr_heaps | exact mr_m | exact mr_other | exact mr_ways | exact mr_next | exact mr_chances | exact mr_after | exact mr_far | exact mr_groups | exact mr_found | exact mr_counts | exact mr_traySort | exact mr_traySize | exact mr_cells | exact mr_moved | exact mr_traced | assumption) (by assumption) ?_
      first | refine pb_iastN g dX8_takes_26 (by first | exact mr_order | exact mr_line | exact mr_kind | exact mr_heaps | exact mr_m | exact mr_other | exact mr_ways | exact mr_next | exact mr_chances | exact mr_after | exact mr_far | exact mr_groups | exact mr_found | exact mr_counts | exact mr_traySort | exact mr_traySize | exact mr_cells | exact mr_moved | exact mr_traced | assumption) (by omega) (by omega) ?_ | refine pb_iast g dX8_takes_26 (by first | exact mr_order | exact mr_line | exact mr_kind | exact mr_heaps | exact mr_m | exact mr_other | exact mr_ways | exact mr_next | exact mr_chances | exact mr_after | exact mr_far | exact mr_groups | exact mr_found | exact mr_counts | exact mr_traySort | exact mr_traySize | exact mr_cells | exact mr_moved | exact mr_traced | assumption) (by assumption) ?_
      first | rw [ms_order] | rw [ms_line]
      first | refine pb_iinc2N g dX8_takes_27 (by decide) ?_ | refine pb_iinc2 g dX8_takes_27 (by decide) rfl ?_
      refine pb_goto g 2 dX8_takes_30 (by decide) ?_
      exact ih c7
  refine pb_iconst (v := nI 0) g dX8_takes_0 (by decide) ?_
  refine pb_istore_n2 g dX8_takes_1 (by decide) ?_
  exact loop 0 (Nat.zero_le _)
set_option maxHeartbeats 4000000 in
set_option maxRecDepth 100000 in
theorem m_puts (k : Nat) {xP xS xsd xbo : Int32} {xod xkn xhs xmm xln xot xfa xgr xtsr xtsz xce xmv xtc : Nat → Int32} {xwy xnx xch xaf xfo xco : Nat → Int64} {n p : Nat} (hn : n ≤ 10) (hp : p < 12) : Runs yX8_puts cX8_puts 3 none (k) [.ref 0, .int (nI p)] (mkH 20 (mdF (nI n) xP xS xsd xod xkn xhs xmm xln xot xwy xnx xch xaf xfa xgr xfo xco xtsr xtsz xce xmv xtc xbo)) (fun o h' => o = none ∧ mkH 20 (mdF (nI n) xP xS xsd (cpF xod xln (10 * p) n) xkn xhs xmm xln xot xwy xnx xch xaf xfa xgr xfo xco xtsr xtsz xce xmv xtc xbo) = h') := by
  refine Runs.of (by decide) (Nat.le_of_ble_eq_true rfl) [some (.ref 0), some (.int (nI p)), none] 1 rfl (fun Γ g z => ?_)
  have loop : ∀ i, i ≤ n → PB Γ 2 [some (.ref 0), some (.int (nI p)), some (.int (nI i))] [] (mkH 20 (mdF (nI n) xP xS xsd (cpF xod xln (10 * p) i) xkn xhs xmm xln xot xwy xnx xch xaf xfa xgr xfo xco xtsr xtsz xce xmv xtc xbo)) := by
    refine pb_loop n (fun i hi ih => ?_)
    refine pb_iload_n2 g dX8_puts_2 ?_
    refine pb_aload_n0 g dX8_puts_3 ?_
    refine pb_getf g fX8_7 dX8_puts_4 mr_o rfl ?_
    first | refine pb_icmp_geN g 33 dX8_puts_7 (by decide) (by omega) (by omega) (fun c7 => ?_) (fun c7 => ?_) | refine pb_icmp_ge g 33 dX8_puts_7 (by decide) (fun c7 => ?_) (fun c7 => ?_)
    · refine pb_vret g z dX8_puts_33 ?_
      exact ⟨rfl, by rw [show i = n by omega]⟩
    · refine pb_aload_n0 g dX8_puts_10 ?_
      refine pb_getf g fX8_13 dX8_puts_11 mr_o rfl ?_
      refine pb_bipush (v := nI 10) g dX8_puts_14 (by decide) ?_
      refine pb_iload_n1 g dX8_puts_16 ?_
      first | refine pb_imulN g dX8_puts_17 ?_ | refine pb_imul g dX8_puts_17 ?_
      refine pb_iload_n2 g dX8_puts_18 ?_
      first | refine pb_iaddN g dX8_puts_19 ?_ | refine pb_iadd g dX8_puts_19 ?_
      refine pb_aload_n0 g dX8_puts_20 ?_
      refine pb_getf g fX8_26 dX8_puts_21 mr_o rfl ?_
      refine pb_iload_n2 g dX8_puts_24 ?_
      first | refine pb_ialdN g dX8_puts_25 (by first | exact mr_line | exact mr_order | exact mr_kind | exact mr_heaps | exact mr_m | exact mr_other | exact mr_ways | exact mr_next | exact mr_chances | exact mr_after | exact mr_far | exact mr_groups | exact mr_found | exact mr_counts | exact mr_traySort | exact mr_traySize | exact mr_cells | exact mr_moved | exact mr_traced | assumption) (by omega) (by omega) ?_ | refine pb_ald0 g dX8_puts_25 (by omega) ?_ | refine pb_ald1 g dX8_puts_25 (by omega) ?_ | refine pb_ald2 g dX8_puts_25 (by omega) ?_ | refine pb_ald3 g dX8_puts_25 (by omega) ?_ | refine pb_iald g dX8_puts_25 (by first | exact mr_line | exact mr_order | exact mr_kind | exact mr_heaps | exact mr_m | exact mr_other | exact mr_ways | exact mr_next | exact mr_chances | exact mr_after | exact mr_far | exact mr_groups | exact mr_found | exact mr_counts | exact mr_traySort | exact mr_traySize | exact mr_cells | exact mr_moved | exact mr_traced | assumption) (by assumption) ?_
      first | refine pb_iastN g dX8_puts_26 (by first | exact mr_line | exact mr_order | exact mr_kind | exact mr_heaps | exact mr_m | exact mr_other | exact mr_ways | exact mr_next | exact mr_chances | exact mr_after | exact mr_far | exact mr_groups | exact mr_found | exact mr_counts | exact mr_traySort | exact mr_traySize | exact mr_cells | exact mr_moved | exact mr_traced | assumption) (by omega) (by omega) ?_ | refine pb_iast g dX8_puts_26 (by first | exact mr_line | exact mr_order | exact mr_kind | exact mr_heaps | exact mr_m | exact mr_other | exact mr_ways | exact mr_next | exact mr_chances | exact mr_after | exact mr_far | exact mr_groups | exact mr_found | exact mr_counts | exact mr_traySort | exact mr_traySize | exact mr_cells | exact mr_moved | exact mr_traced | assumption) (by assumption) ?_
      first | rw [ms_line] | rw [ms_order]
      first | refine pb_iinc2N g dX8_puts_27 (by decide) ?_ | refine pb_iinc2 g dX8_puts_27 (by decide) rfl ?_
      refine pb_goto g 2 dX8_puts_30 (by decide) ?_
      exact ih c7
  refine pb_iconst (v := nI 0) g dX8_puts_0 (by decide) ?_
  refine pb_istore_n2 g dX8_puts_1 (by decide) ?_
  exact loop 0 (Nat.zero_le _)
set_option maxHeartbeats 4000000 in
set_option maxRecDepth 100000 in
theorem m_makes (k : Nat) {xP xsd xbo : Int32} {xod xkn xhs xmm xln xot xfa xgr xtsr xtsz xce xmv xtc : Nat → Int32} {xwy xnx xch xaf xfo xco : Nat → Int64} {n S a b : Nat} (hn : n ≤ 10) (hS : S < 10) : Runs yX8_makes cX8_makes 4 (some .int) (k) [.ref 0, .int (nI a), .int (nI b)] (mkH 20 (mdF (nI n) xP (nI S) xsd xod xkn xhs xmm xln xot xwy xnx xch xaf xfa xgr xfo xco xtsr xtsz xce xmv xtc xbo)) (fun o h' => ∃ r : Int32, o = some (.int r) ∧ r = nI S ∧ mkH 20 (mdF (nI n) xP (nI (S + 1)) xsd xod (upd xkn S (nI a)) (upd xhs S (nI b)) (cpF xmm xln (10 * S) n) xln xot xwy xnx xch xaf xfa xgr xfo xco xtsr xtsz xce xmv xtc xbo) = h') := by
  refine Runs.of (by decide) (Nat.le_of_ble_eq_true rfl) [some (.ref 0), some (.int (nI a)), some (.int (nI b)), none] 1 rfl (fun Γ g z => ?_)
  have loop : ∀ i, i ≤ n → PB Γ 22 [some (.ref 0), some (.int (nI a)), some (.int (nI b)), some (.int (nI i))] [] (mkH 20 (mdF (nI n) xP (nI S) xsd xod (upd xkn S (nI a)) (upd xhs S (nI b)) (cpF xmm xln (10 * S) i) xln xot xwy xnx xch xaf xfa xgr xfo xco xtsr xtsz xce xmv xtc xbo)) := by
    refine pb_loop n (fun i hi ih => ?_)
    refine pb_iload_n3 g dX8_makes_22 ?_
    refine pb_aload_n0 g dX8_makes_23 ?_
    refine pb_getf g fX8_7 dX8_makes_24 mr_o rfl ?_
    first | refine pb_icmp_geN g 56 dX8_makes_27 (by decide) (by omega) (by omega) (fun c27 => ?_) (fun c27 => ?_) | refine pb_icmp_ge g 56 dX8_makes_27 (by decide) (fun c27 => ?_) (fun c27 => ?_)
    · refine pb_aload_n0 g dX8_makes_56 ?_
      refine pb_dup g dX8_makes_57 rfl ?_
      refine pb_getf g fX8_75 dX8_makes_58 mr_o rfl ?_
      refine pb_dup_x1 g dX8_makes_61 rfl rfl ?_
      refine pb_iconst (v := nI 1) g dX8_makes_62 (by decide) ?_
      first | refine pb_iaddN g dX8_makes_63 ?_ | refine pb_iadd g dX8_makes_63 ?_
      refine pb_puti g wX8_75 dX8_makes_64 mr_o (Nat.le_of_ble_eq_true rfl) ?_
      rw [ms_shuffles]
      refine pb_iret g z dX8_makes_67 ?_
      exact ⟨_, rfl, rfl, by rw [show i = n by omega]⟩
    · refine pb_aload_n0 g dX8_makes_30 ?_
      refine pb_getf g fX8_23 dX8_makes_31 mr_o rfl ?_
      refine pb_bipush (v := nI 10) g dX8_makes_34 (by decide) ?_
      refine pb_aload_n0 g dX8_makes_36 ?_
      refine pb_getf g fX8_75 dX8_makes_37 mr_o rfl ?_
      first | refine pb_imulN g dX8_makes_40 ?_ | refine pb_imul g dX8_makes_40 ?_
      refine pb_iload_n3 g dX8_makes_41 ?_
      first | refine pb_iaddN g dX8_makes_42 ?_ | refine pb_iadd g dX8_makes_42 ?_
      refine pb_aload_n0 g dX8_makes_43 ?_
      refine pb_getf g fX8_26 dX8_makes_44 mr_o rfl ?_
      refine pb_iload_n3 g dX8_makes_47 ?_
      first | refine pb_ialdN g dX8_makes_48 (by first | exact mr_line | exact mr_m | exact mr_order | exact mr_kind | exact mr_heaps | exact mr_other | exact mr_ways | exact mr_next | exact mr_chances | exact mr_after | exact mr_far | exact mr_groups | exact mr_found | exact mr_counts | exact mr_traySort | exact mr_traySize | exact mr_cells | exact mr_moved | exact mr_traced | assumption) (by omega) (by omega) ?_ | refine pb_ald0 g dX8_makes_48 (by omega) ?_ | refine pb_ald1 g dX8_makes_48 (by omega) ?_ | refine pb_ald2 g dX8_makes_48 (by omega) ?_ | refine pb_ald3 g dX8_makes_48 (by omega) ?_ | refine pb_iald g dX8_makes_48 (by first | exact mr_line | exact mr_m | exact mr_order | exact mr_kind | exact mr_heaps | exact mr_other | exact mr_ways | exact mr_next | exact mr_chances | exact mr_after | exact mr_far | exact mr_groups | exact mr_found | exact mr_counts | exact mr_traySort | exact mr_traySize | exact mr_cells | exact mr_moved | exact mr_traced | assumption) (by assumption) ?_
      first | refine pb_iastN g dX8_makes_49 (by first | exact mr_line | exact mr_m | exact mr_order | exact mr_kind | exact mr_heaps | exact mr_other | exact mr_ways | exact mr_next | exact mr_chances | exact mr_after | exact mr_far | exact mr_groups | exact mr_found | exact mr_counts | exact mr_traySort | exact mr_traySize | exact mr_cells | exact mr_moved | exact mr_traced | assumption) (by omega) (by omega) ?_ | refine pb_iast g dX8_makes_49 (by first | exact mr_line | exact mr_m | exact mr_order | exact mr_kind | exact mr_heaps | exact mr_other | exact mr_ways | exact mr_next | exact mr_chances | exact mr_after | exact mr_far | exact mr_groups | exact mr_found | exact mr_counts | exact mr_traySort | exact mr_traySize | exact mr_cells | exact mr_moved | exact mr_traced | assumption) (by assumption) ?_
      first | rw [ms_line] | rw [ms_m]
      first | refine pb_iinc3N g dX8_makes_50 (by decide) ?_ | refine pb_iinc3 g dX8_makes_50 (by decide) rfl ?_
      refine pb_goto g 22 dX8_makes_53 (by decide) ?_
      exact ih c27
  refine pb_aload_n0 g dX8_makes_0 ?_
  refine pb_getf g fX8_17 dX8_makes_1 mr_o rfl ?_
  refine pb_aload_n0 g dX8_makes_4 ?_
  refine pb_getf g fX8_75 dX8_makes_5 mr_o rfl ?_
  refine pb_iload_n1 g dX8_makes_8 ?_
  first | refine pb_iastN g dX8_makes_9 (by first | exact mr_kind | exact mr_order | exact mr_heaps | exact mr_m | exact mr_line | exact mr_other | exact mr_ways | exact mr_next | exact mr_chances | exact mr_after | exact mr_far | exact mr_groups | exact mr_found | exact mr_counts | exact mr_traySort | exact mr_traySize | exact mr_cells | exact mr_moved | exact mr_traced | assumption) (by omega) (by omega) ?_ | refine pb_iast g dX8_makes_9 (by first | exact mr_kind | exact mr_order | exact mr_heaps | exact mr_m | exact mr_line | exact mr_other | exact mr_ways | exact mr_next | exact mr_chances | exact mr_after | exact mr_far | exact mr_groups | exact mr_found | exact mr_counts | exact mr_traySort | exact mr_traySize | exact mr_cells | exact mr_moved | exact mr_traced | assumption) (by assumption) ?_
  first | rw [ms_kind]
  refine pb_aload_n0 g dX8_makes_10 ?_
  refine pb_getf g fX8_20 dX8_makes_11 mr_o rfl ?_
  refine pb_aload_n0 g dX8_makes_14 ?_
  refine pb_getf g fX8_75 dX8_makes_15 mr_o rfl ?_
  refine pb_iload_n2 g dX8_makes_18 ?_
  first | refine pb_iastN g dX8_makes_19 (by first | exact mr_heaps | exact mr_kind | exact mr_order | exact mr_m | exact mr_line | exact mr_other | exact mr_ways | exact mr_next | exact mr_chances | exact mr_after | exact mr_far | exact mr_groups | exact mr_found | exact mr_counts | exact mr_traySort | exact mr_traySize | exact mr_cells | exact mr_moved | exact mr_traced | assumption) (by omega) (by omega) ?_ | refine pb_iast g dX8_makes_19 (by first | exact mr_heaps | exact mr_kind | exact mr_order | exact mr_m | exact mr_line | exact mr_other | exact mr_ways | exact mr_next | exact mr_chances | exact mr_after | exact mr_far | exact mr_groups | exact mr_found | exact mr_counts | exact mr_traySort | exact mr_traySize | exact mr_cells | exact mr_moved | exact mr_traced | assumption) (by assumption) ?_
  first | rw [ms_heaps] | rw [ms_kind]
  refine pb_iconst (v := nI 0) g dX8_makes_20 (by decide) ?_
  refine pb_istore_n3 g dX8_makes_21 (by decide) ?_
  exact loop 0 (Nat.zero_le _)
set_option maxHeartbeats 4000000 in
set_option maxRecDepth 100000 in
theorem m_begin (k : Nat) (q : SP) (x : Int32) (h : PH) (hD : IsM q h) (hI : SI q) : Runs yX8_begin cX8_begin 2 (some .int) (k + 6) [.ref 0, .int x] h (fun oo h' => ∃ r : Int32, oo = some (.int r) ∧ r = (sBegin q x).1 ∧ IsM ((sBegin q x).2) h') := by
  obtain ⟨⟨n, P, S, sd⟩, ⟨σ, μ, K, Hh⟩, ⟨ts, zz, it⟩, ⟨ra, tr⟩⟩ := q
  obtain ⟨⟨hn1, hn, hP, hS⟩, hσ, hK, hz, hra⟩ := hI
  obtain ⟨xod, xkn, xhs, xmm, xln, xot, xfa, xgr, xtsr, xtsz, xce, xmv, xtc, xwy, xnx, xch, xaf, xfo, xco, rfl, d1, d2, d3, d4, d5⟩ := hD
  refine Runs.of (by decide) (Nat.le_of_ble_eq_true rfl) [some (.ref 0), some (.int x)] 0 rfl (fun Γ g z => ?_)
  by_cases hb : x < nI 1 ∨ nI 10 < x
  · have e : sBegin ((n, P, S, sd), (σ, μ, K, Hh), (ts, zz, it), (ra, tr)) x = (-2, ((n, P, S, sd), (σ, μ, K, Hh), (ts, zz, it), (ra, tr))) := if_pos hb
    refine pb_iload_n1 g dX8_begin_0 ?_
    refine pb_iconst (v := nI 1) g dX8_begin_1 (by decide) ?_
    first | refine pb_icmp_ltN g 11 dX8_begin_2 (by decide) (by omega) (by omega) (fun c2 => ?_) (fun c2 => ?_) | refine pb_icmp_lt g 11 dX8_begin_2 (by decide) (fun c2 => ?_) (fun c2 => ?_)
    · refine pb_bipush (v := -2) g dX8_begin_11 (by decide) ?_
      refine pb_iret g z dX8_begin_13 ?_
      exact ⟨_, rfl, by rw [e], by rw [e]; exact ⟨_, _, _, _, _, _, _, _, _, _, _, _, _, _, _, _, _, _, _, rfl, d1, d2, d3, d4, d5⟩⟩
    · refine pb_iload_n1 g dX8_begin_5 ?_
      refine pb_bipush (v := nI 10) g dX8_begin_6 (by decide) ?_
      first | refine pb_icmp_leN g 14 dX8_begin_8 (by decide) (by omega) (by omega) (fun c8 => ?_) (fun c8 => ?_) | refine pb_icmp_le g 14 dX8_begin_8 (by decide) (fun c8 => ?_) (fun c8 => ?_)
      · exact absurd hb (fun q => q.elim c2 (fun w => absurd c8 (Int32.not_le.mpr w)))
      · refine pb_bipush (v := -2) g dX8_begin_11 (by decide) ?_
        refine pb_iret g z dX8_begin_13 ?_
        exact ⟨_, rfl, by rw [e], by rw [e]; exact ⟨_, _, _, _, _, _, _, _, _, _, _, _, _, _, _, _, _, _, _, rfl, d1, d2, d3, d4, d5⟩⟩
  · have e : sBegin ((n, P, S, sd), (σ, μ, K, Hh), (ts, zz, it), (ra, tr)) x = (1, ((x.toNatClampNeg, 0, 0, sd), (σ, μ, K, Hh), (ts, zz, it), (ra, tr))) := if_neg hb
    obtain ⟨m, hm1, hm2, rfl⟩ := rng (by decide) (by decide) hb
    rw [nI_clamp (by omega)] at e
    refine pb_iload_n1 g dX8_begin_0 ?_
    refine pb_iconst (v := nI 1) g dX8_begin_1 (by decide) ?_
    first | refine pb_icmp_ltN g 11 dX8_begin_2 (by decide) (by omega) (by omega) (fun c2 => ?_) (fun c2 => ?_) | refine pb_icmp_lt g 11 dX8_begin_2 (by decide) (fun c2 => ?_) (fun c2 => ?_)
    · exact absurd c2 (by omega)
    · refine pb_iload_n1 g dX8_begin_5 ?_
      refine pb_bipush (v := nI 10) g dX8_begin_6 (by decide) ?_
      first | refine pb_icmp_leN g 14 dX8_begin_8 (by decide) (by omega) (by omega) (fun c8 => ?_) (fun c8 => ?_) | refine pb_icmp_le g 14 dX8_begin_8 (by decide) (fun c8 => ?_) (fun c8 => ?_)
      · refine pb_aload_n0 g dX8_begin_14 ?_
        refine pb_iload_n1 g dX8_begin_15 ?_
        refine pb_puti g wX8_7 dX8_begin_16 mr_o (Nat.le_of_ble_eq_true rfl) ?_
        rw [ms_n]
        refine pb_aload_n0 g dX8_begin_19 ?_
        refine pb_iconst (v := nI 0) g dX8_begin_20 (by decide) ?_
        refine pb_puti g wX8_72 dX8_begin_21 mr_o (Nat.le_of_ble_eq_true rfl) ?_
        rw [ms_packs]
        refine pb_aload_n0 g dX8_begin_24 ?_
        refine pb_iconst (v := nI 0) g dX8_begin_25 (by decide) ?_
        refine pb_puti g wX8_75 dX8_begin_26 mr_o (Nat.le_of_ble_eq_true rfl) ?_
        rw [ms_shuffles]
        refine pb_iconst (v := nI 1) g dX8_begin_29 (by decide) ?_
        refine pb_iret g z dX8_begin_30 ?_
        exact ⟨_, rfl, by rw [e]; rfl, by rw [e]; exact ⟨_, _, _, _, _, _, _, _, _, _, _, _, _, _, _, _, _, _, _, rfl, fun p hp0 => absurd hp0 (by omega), fun s hs => absurd hs (by omega), d3, d4, d5⟩⟩
      · exact absurd c8 (by omega)
set_option maxHeartbeats 4000000 in
set_option maxRecDepth 100000 in
theorem m_seed (k : Nat) (q : SP) (x : Int32) (h : PH) (hD : IsM q h) (hI : SI q) : Runs yX8_seed cX8_seed 3 (some .int) (k + 6) [.ref 0, .int x] h (fun oo h' => ∃ r : Int32, oo = some (.int r) ∧ r = (sSeed q x).1 ∧ IsM ((sSeed q x).2) h') := by
  obtain ⟨⟨n, P, S, sd⟩, ⟨σ, μ, K, Hh⟩, ⟨ts, zz, it⟩, ⟨ra, tr⟩⟩ := q
  obtain ⟨⟨hn1, hn, hP, hS⟩, hσ, hK, hz, hra⟩ := hI
  obtain ⟨xod, xkn, xhs, xmm, xln, xot, xfa, xgr, xtsr, xtsz, xce, xmv, xtc, xwy, xnx, xch, xaf, xfo, xco, rfl, d1, d2, d3, d4, d5⟩ := hD
  refine Runs.of (by decide) (Nat.le_of_ble_eq_true rfl) [some (.ref 0), some (.int x), none] 1 rfl (fun Γ g z => ?_)
  refine pb_aload_n0 g dX8_seed_0 ?_
  refine pb_getf g fX8_153 dX8_seed_1 mr_o rfl ?_
  refine pb_istore_n2 g dX8_seed_4 (by decide) ?_
  refine pb_aload_n0 g dX8_seed_5 ?_
  refine pb_iload_n1 g dX8_seed_6 ?_
  refine pb_puti g wX8_153 dX8_seed_7 mr_o (Nat.le_of_ble_eq_true rfl) ?_
  rw [ms_seed]
  refine pb_iload_n2 g dX8_seed_10 ?_
  refine pb_iret g z dX8_seed_11 ?_
  exact ⟨_, rfl, rfl, ⟨_, _, _, _, _, _, _, _, _, _, _, _, _, _, _, _, _, _, _, rfl, d1, d2, d3, d4, d5⟩⟩
set_option maxHeartbeats 4000000 in
set_option maxRecDepth 100000 in
theorem m_count (k : Nat) (q : SP) (w : Int32) (h : PH) (hD : IsM q h) (hI : SI q) : Runs yX8_count cX8_count 2 (some .int) (k + 6) [.ref 0, .int w] h (fun oo h' => ∃ r : Int32, oo = some (.int r) ∧ r = sCount q w ∧ IsM (q) h') := by
  obtain ⟨⟨n, P, S, sd⟩, ⟨σ, μ, K, Hh⟩, ⟨ts, zz, it⟩, ⟨ra, tr⟩⟩ := q
  obtain ⟨⟨hn1, hn, hP, hS⟩, hσ, hK, hz, hra⟩ := hI
  obtain ⟨xod, xkn, xhs, xmm, xln, xot, xfa, xgr, xtsr, xtsz, xce, xmv, xtc, xwy, xnx, xch, xaf, xfo, xco, rfl, d1, d2, d3, d4, d5⟩ := hD
  refine Runs.of (by decide) (Nat.le_of_ble_eq_true rfl) [some (.ref 0), some (.int w)] 0 rfl (fun Γ g z => ?_)
  refine pb_iload_n1 g dX8_count_0 ?_
  first | refine pb_if_neN g 11 dX8_count_1 (by decide) (by omega) (fun c1 => ?_) (fun c1 => ?_) | refine pb_if_ne g 11 dX8_count_1 (by decide) (fun c1 => ?_) (fun c1 => ?_)
  · refine pb_iload_n1 g dX8_count_11 ?_
    refine pb_iconst (v := nI 1) g dX8_count_12 (by decide) ?_
    first | refine pb_icmp_neN g 23 dX8_count_13 (by decide) (by omega) (by omega) (fun c13 => ?_) (fun c13 => ?_) | refine pb_icmp_ne g 23 dX8_count_13 (by decide) (fun c13 => ?_) (fun c13 => ?_)
    · refine pb_iload_n1 g dX8_count_23 ?_
      refine pb_iconst (v := nI 2) g dX8_count_24 (by decide) ?_
      first | refine pb_icmp_neN g 35 dX8_count_25 (by decide) (by omega) (by omega) (fun c25 => ?_) (fun c25 => ?_) | refine pb_icmp_ne g 35 dX8_count_25 (by decide) (fun c25 => ?_) (fun c25 => ?_)
      · refine pb_iload_n1 g dX8_count_35 ?_
        refine pb_iconst (v := nI 3) g dX8_count_36 (by decide) ?_
        first | refine pb_icmp_neN g 47 dX8_count_37 (by decide) (by omega) (by omega) (fun c37 => ?_) (fun c37 => ?_) | refine pb_icmp_ne g 47 dX8_count_37 (by decide) (fun c37 => ?_) (fun c37 => ?_)
        · refine pb_bipush (v := -2) g dX8_count_47 (by decide) ?_
          refine pb_iret g z dX8_count_49 ?_
          refine ⟨_, rfl, ?_, ⟨_, _, _, _, _, _, _, _, _, _, _, _, _, _, _, _, _, _, _, rfl, d1, d2, d3, d4, d5⟩⟩
          simp only [sCount]
          first | rw [if_pos (by assumption)] | rw [if_neg (by assumption), if_pos (by assumption)] | rw [if_neg (by assumption), if_neg (by assumption), if_pos (by assumption)] | rw [if_neg (by assumption), if_neg (by assumption), if_neg (by assumption), if_pos (by assumption)] | rw [if_neg (by assumption), if_neg (by assumption), if_neg (by assumption), if_neg (by assumption)]
        · refine pb_aload_n0 g dX8_count_40 ?_
          refine pb_getf g fX8_212 dX8_count_41 mr_o rfl ?_
          refine pb_goto g 49 dX8_count_44 (by decide) ?_
          refine pb_iret g z dX8_count_49 ?_
          refine ⟨_, rfl, ?_, ⟨_, _, _, _, _, _, _, _, _, _, _, _, _, _, _, _, _, _, _, rfl, d1, d2, d3, d4, d5⟩⟩
          simp only [sCount]
          first | rw [if_pos (by assumption)] | rw [if_neg (by assumption), if_pos (by assumption)] | rw [if_neg (by assumption), if_neg (by assumption), if_pos (by assumption)] | rw [if_neg (by assumption), if_neg (by assumption), if_neg (by assumption), if_pos (by assumption)] | rw [if_neg (by assumption), if_neg (by assumption), if_neg (by assumption), if_neg (by assumption)]
      · refine pb_aload_n0 g dX8_count_28 ?_
        refine pb_getf g fX8_75 dX8_count_29 mr_o rfl ?_
        refine pb_goto g 49 dX8_count_32 (by decide) ?_
        refine pb_iret g z dX8_count_49 ?_
        refine ⟨_, rfl, ?_, ⟨_, _, _, _, _, _, _, _, _, _, _, _, _, _, _, _, _, _, _, rfl, d1, d2, d3, d4, d5⟩⟩
        simp only [sCount]
        first | rw [if_pos (by assumption)] | rw [if_neg (by assumption), if_pos (by assumption)] | rw [if_neg (by assumption), if_neg (by assumption), if_pos (by assumption)] | rw [if_neg (by assumption), if_neg (by assumption), if_neg (by assumption), if_pos (by assumption)] | rw [if_neg (by assumption), if_neg (by assumption), if_neg (by assumption), if_neg (by assumption)]
    · refine pb_aload_n0 g dX8_count_16 ?_
      refine pb_getf g fX8_72 dX8_count_17 mr_o rfl ?_
      refine pb_goto g 49 dX8_count_20 (by decide) ?_
      refine pb_iret g z dX8_count_49 ?_
      refine ⟨_, rfl, ?_, ⟨_, _, _, _, _, _, _, _, _, _, _, _, _, _, _, _, _, _, _, rfl, d1, d2, d3, d4, d5⟩⟩
      simp only [sCount]
      first | rw [if_pos (by assumption)] | rw [if_neg (by assumption), if_pos (by assumption)] | rw [if_neg (by assumption), if_neg (by assumption), if_pos (by assumption)] | rw [if_neg (by assumption), if_neg (by assumption), if_neg (by assumption), if_pos (by assumption)] | rw [if_neg (by assumption), if_neg (by assumption), if_neg (by assumption), if_neg (by assumption)]
  · refine pb_aload_n0 g dX8_count_4 ?_
    refine pb_getf g fX8_7 dX8_count_5 mr_o rfl ?_
    refine pb_goto g 49 dX8_count_8 (by decide) ?_
    refine pb_iret g z dX8_count_49 ?_
    refine ⟨_, rfl, ?_, ⟨_, _, _, _, _, _, _, _, _, _, _, _, _, _, _, _, _, _, _, rfl, d1, d2, d3, d4, d5⟩⟩
    simp only [sCount]
    first | rw [if_pos (by assumption)] | rw [if_neg (by assumption), if_pos (by assumption)] | rw [if_neg (by assumption), if_neg (by assumption), if_pos (by assumption)] | rw [if_neg (by assumption), if_neg (by assumption), if_neg (by assumption), if_pos (by assumption)] | rw [if_neg (by assumption), if_neg (by assumption), if_neg (by assumption), if_neg (by assumption)]
set_option maxHeartbeats 4000000 in
set_option maxRecDepth 100000 in
theorem m_trace (k : Nat) (q : SP) (i : Int32) (h : PH) (hD : IsM q h) (hI : SI q) : Runs yX8_trace cX8_trace 2 (some .int) (k + 6) [.ref 0, .int i] h (fun oo h' => ∃ r : Int32, oo = some (.int r) ∧ r = sTrace q i ∧ IsM (q) h') := by
  obtain ⟨⟨n, P, S, sd⟩, ⟨σ, μ, K, Hh⟩, ⟨ts, zz, it⟩, ⟨ra, tr⟩⟩ := q
  obtain ⟨⟨hn1, hn, hP, hS⟩, hσ, hK, hz, hra⟩ := hI
  obtain ⟨xod, xkn, xhs, xmm, xln, xot, xfa, xgr, xtsr, xtsz, xce, xmv, xtc, xwy, xnx, xch, xaf, xfo, xco, rfl, d1, d2, d3, d4, d5⟩ := hD
  refine Runs.of (by decide) (Nat.le_of_ble_eq_true rfl) [some (.ref 0), some (.int i)] 0 rfl (fun Γ g z => ?_)
  cases hix : ix i ra with
  | none =>
    have e : sTrace ((n, P, S, sd), (σ, μ, K, Hh), (ts, zz, it), (ra, tr)) i = -1 := by simp only [sTrace, hix]
    have hn2 := inN_not (by omega) (ix_none (by omega) hix)
    refine pb_iload_n1 g dX8_trace_0 ?_
    refine pb_if_lt g 27 dX8_trace_1 (by decide) (fun c1 => ?_) (fun c1 => ?_)
    · refine pb_iconst (v := -1) g dX8_trace_27 (by decide) ?_
      refine pb_iret g z dX8_trace_28 ?_
      exact ⟨_, rfl, by rw [e], ⟨_, _, _, _, _, _, _, _, _, _, _, _, _, _, _, _, _, _, _, rfl, d1, d2, d3, d4, d5⟩⟩
    · refine pb_iload_n1 g dX8_trace_4 ?_
      refine pb_aload_n0 g dX8_trace_5 ?_
      refine pb_getf g fX8_212 dX8_trace_6 mr_o rfl ?_
      first | refine pb_icmp_geN g 27 dX8_trace_9 (by decide) (by omega) (by omega) (fun c9 => ?_) (fun c9 => ?_) | refine pb_icmp_ge g 27 dX8_trace_9 (by decide) (fun c9 => ?_) (fun c9 => ?_)
      · refine pb_iconst (v := -1) g dX8_trace_27 (by decide) ?_
        refine pb_iret g z dX8_trace_28 ?_
        exact ⟨_, rfl, by rw [e], ⟨_, _, _, _, _, _, _, _, _, _, _, _, _, _, _, _, _, _, _, rfl, d1, d2, d3, d4, d5⟩⟩
      · exact absurd hn2 (fun q => q.elim c1 c9)
  | some i0 =>
    obtain ⟨hi0, rfl⟩ := ix_some (by omega) hix
    have e : sTrace ((n, P, S, sd), (σ, μ, K, Hh), (ts, zz, it), (ra, tr)) (nI i0) = tr i0 := by simp only [sTrace, hix]; rw [if_pos (by omega)]
    refine pb_iload_n1 g dX8_trace_0 ?_
    refine pb_if_ltN g 27 dX8_trace_1 (by decide) (by omega) ?_
    refine pb_iload_n1 g dX8_trace_4 ?_
    refine pb_aload_n0 g dX8_trace_5 ?_
    refine pb_getf g fX8_212 dX8_trace_6 mr_o rfl ?_
    first | refine pb_icmp_geN g 27 dX8_trace_9 (by decide) (by omega) (by omega) (fun c9 => ?_) (fun c9 => ?_) | refine pb_icmp_ge g 27 dX8_trace_9 (by decide) (fun c9 => ?_) (fun c9 => ?_)
    · exact absurd c9 (by omega)
    · refine pb_iload_n1 g dX8_trace_12 ?_
      refine pb_bipush (v := nI 40) g dX8_trace_13 (by decide) ?_
      first | refine pb_icmp_geN g 27 dX8_trace_15 (by decide) (by omega) (by omega) (fun c15 => ?_) (fun c15 => ?_) | refine pb_icmp_ge g 27 dX8_trace_15 (by decide) (fun c15 => ?_) (fun c15 => ?_)
      · exact absurd c15 (by omega)
      · refine pb_aload_n0 g dX8_trace_18 ?_
        refine pb_getf g fX8_69 dX8_trace_19 mr_o rfl ?_
        refine pb_iload_n1 g dX8_trace_22 ?_
        first | refine pb_ialdN g dX8_trace_23 (by first | exact mr_traced | exact mr_order | exact mr_kind | exact mr_heaps | exact mr_m | exact mr_line | exact mr_other | exact mr_ways | exact mr_next | exact mr_chances | exact mr_after | exact mr_far | exact mr_groups | exact mr_found | exact mr_counts | exact mr_traySort | exact mr_traySize | exact mr_cells | exact mr_moved | assumption) (by omega) (by omega) ?_ | refine pb_ald0 g dX8_trace_23 (by omega) ?_ | refine pb_ald1 g dX8_trace_23 (by omega) ?_ | refine pb_ald2 g dX8_trace_23 (by omega) ?_ | refine pb_ald3 g dX8_trace_23 (by omega) ?_ | refine pb_iald g dX8_trace_23 (by first | exact mr_traced | exact mr_order | exact mr_kind | exact mr_heaps | exact mr_m | exact mr_line | exact mr_other | exact mr_ways | exact mr_next | exact mr_chances | exact mr_after | exact mr_far | exact mr_groups | exact mr_found | exact mr_counts | exact mr_traySort | exact mr_traySize | exact mr_cells | exact mr_moved | assumption) (by assumption) ?_
        rw [d4 i0 hi0 (by omega)]
        refine pb_goto g 28 dX8_trace_24 (by decide) ?_
        refine pb_iret g z dX8_trace_28 ?_
        exact ⟨_, rfl, by rw [e], ⟨_, _, _, _, _, _, _, _, _, _, _, _, _, _, _, _, _, _, _, rfl, d1, d2, d3, d4, d5⟩⟩
set_option maxHeartbeats 4000000 in
set_option maxRecDepth 100000 in
theorem m_card (k : Nat) (q : SP) (p j : Int32) (h : PH) (hD : IsM q h) (hI : SI q) : Runs yX8_card cX8_card 3 (some .int) (k + 6) [.ref 0, .int p, .int j] h (fun oo h' => ∃ r : Int32, oo = some (.int r) ∧ r = sCard q p j ∧ IsM (q) h') := by
  obtain ⟨⟨n, P, S, sd⟩, ⟨σ, μ, K, Hh⟩, ⟨ts, zz, it⟩, ⟨ra, tr⟩⟩ := q
  obtain ⟨⟨hn1, hn, hP, hS⟩, hσ, hK, hz, hra⟩ := hI
  obtain ⟨xod, xkn, xhs, xmm, xln, xot, xfa, xgr, xtsr, xtsz, xce, xmv, xtc, xwy, xnx, xch, xaf, xfo, xco, rfl, d1, d2, d3, d4, d5⟩ := hD
  refine Runs.of (by decide) (Nat.le_of_ble_eq_true rfl) [some (.ref 0), some (.int p), some (.int j)] 0 rfl (fun Γ g z => ?_)
  cases hpx : ix p P with
  | none =>
    have e : sCard ((n, P, S, sd), (σ, μ, K, Hh), (ts, zz, it), (ra, tr)) p j = -2 := by simp only [sCard, hpx]
    have hpn := ix_none (by omega) hpx
    refine pb_aload_n0 g dX8_card_0 ?_
    refine pb_iload_n1 g dX8_card_1 ?_
    refine pb_Vi1 g qX8_101 dX8_card_2 (k + 5) (by omega) mr_o (m_isPackF (k + 5) (by assumption) hP) (fun r2 h2 e2 => ?_)
    obtain ⟨rfl, rfl⟩ := e2
    first | refine pb_if_eqN g 30 dX8_card_5 (by decide) (by omega) (fun c5 => ?_) (fun c5 => ?_) | refine pb_if_eq g 30 dX8_card_5 (by decide) (fun c5 => ?_) (fun c5 => ?_)
    · refine pb_bipush (v := -2) g dX8_card_30 (by decide) ?_
      refine pb_iret g z dX8_card_32 ?_
      exact ⟨_, rfl, by rw [e], ⟨_, _, _, _, _, _, _, _, _, _, _, _, _, _, _, _, _, _, _, rfl, d1, d2, d3, d4, d5⟩⟩
    · exact absurd c5 (by decide)
  | some p0 =>
    obtain ⟨hp0, rfl⟩ := ix_some (by omega) hpx
    cases hjx : ix j n with
    | none =>
      have e : sCard ((n, P, S, sd), (σ, μ, K, Hh), (ts, zz, it), (ra, tr)) (nI p0) j = -2 := by simp only [sCard, hpx, hjx]
      have hjn := ix_none (by omega) hjx
      refine pb_aload_n0 g dX8_card_0 ?_
      refine pb_iload_n1 g dX8_card_1 ?_
      refine pb_Vi1 g qX8_101 dX8_card_2 (k + 5) (by omega) mr_o (m_isPackT (k + 5) (by assumption) hP) (fun r2 h2 e2 => ?_)
      obtain ⟨rfl, rfl⟩ := e2
      first | refine pb_if_eqN g 30 dX8_card_5 (by decide) (by omega) (fun c5 => ?_) (fun c5 => ?_) | refine pb_if_eq g 30 dX8_card_5 (by decide) (fun c5 => ?_) (fun c5 => ?_)
      · exact absurd c5 (by decide)
      · refine pb_aload_n0 g dX8_card_8 ?_
        refine pb_iload_n2 g dX8_card_9 ?_
        refine pb_Vi1 g qX8_98 dX8_card_10 (k + 5) (by omega) mr_o (m_isPlaceF (k + 5) (by assumption) hn) (fun r10 h10 e10 => ?_)
        obtain ⟨rfl, rfl⟩ := e10
        first | refine pb_if_eqN g 30 dX8_card_13 (by decide) (by omega) (fun c13 => ?_) (fun c13 => ?_) | refine pb_if_eq g 30 dX8_card_13 (by decide) (fun c13 => ?_) (fun c13 => ?_)
        · refine pb_bipush (v := -2) g dX8_card_30 (by decide) ?_
          refine pb_iret g z dX8_card_32 ?_
          exact ⟨_, rfl, by rw [e], ⟨_, _, _, _, _, _, _, _, _, _, _, _, _, _, _, _, _, _, _, rfl, d1, d2, d3, d4, d5⟩⟩
        · exact absurd c13 (by decide)
    | some j0 =>
      obtain ⟨hj0, rfl⟩ := ix_some (by omega) hjx
      have e : sCard ((n, P, S, sd), (σ, μ, K, Hh), (ts, zz, it), (ra, tr)) (nI p0) (nI j0) = nI (σ p0 j0) := by simp only [sCard, hpx, hjx]
      refine pb_aload_n0 g dX8_card_0 ?_
      refine pb_iload_n1 g dX8_card_1 ?_
      refine pb_Vi1 g qX8_101 dX8_card_2 (k + 5) (by omega) mr_o (m_isPackT (k + 5) (by assumption) hP) (fun r2 h2 e2 => ?_)
      obtain ⟨rfl, rfl⟩ := e2
      first | refine pb_if_eqN g 30 dX8_card_5 (by decide) (by omega) (fun c5 => ?_) (fun c5 => ?_) | refine pb_if_eq g 30 dX8_card_5 (by decide) (fun c5 => ?_) (fun c5 => ?_)
      · exact absurd c5 (by decide)
      · refine pb_aload_n0 g dX8_card_8 ?_
        refine pb_iload_n2 g dX8_card_9 ?_
        refine pb_Vi1 g qX8_98 dX8_card_10 (k + 5) (by omega) mr_o (m_isPlaceT (k + 5) (by assumption) hn) (fun r10 h10 e10 => ?_)
        obtain ⟨rfl, rfl⟩ := e10
        first | refine pb_if_eqN g 30 dX8_card_13 (by decide) (by omega) (fun c13 => ?_) (fun c13 => ?_) | refine pb_if_eq g 30 dX8_card_13 (by decide) (fun c13 => ?_) (fun c13 => ?_)
        · exact absurd c13 (by decide)
        · refine pb_aload_n0 g dX8_card_16 ?_
          refine pb_getf g fX8_13 dX8_card_17 mr_o rfl ?_
          refine pb_bipush (v := nI 10) g dX8_card_20 (by decide) ?_
          refine pb_iload_n1 g dX8_card_22 ?_
          first | refine pb_imulN g dX8_card_23 ?_ | refine pb_imul g dX8_card_23 ?_
          refine pb_iload_n2 g dX8_card_24 ?_
          first | refine pb_iaddN g dX8_card_25 ?_ | refine pb_iadd g dX8_card_25 ?_
          first | refine pb_ialdN g dX8_card_26 (by first | exact mr_order | exact mr_kind | exact mr_heaps | exact mr_m | exact mr_line | exact mr_other | exact mr_ways | exact mr_next | exact mr_chances | exact mr_after | exact mr_far | exact mr_groups | exact mr_found | exact mr_counts | exact mr_traySort | exact mr_traySize | exact mr_cells | exact mr_moved | exact mr_traced | assumption) (by omega) (by omega) ?_ | refine pb_ald0 g dX8_card_26 (by omega) ?_ | refine pb_ald1 g dX8_card_26 (by omega) ?_ | refine pb_ald2 g dX8_card_26 (by omega) ?_ | refine pb_ald3 g dX8_card_26 (by omega) ?_ | refine pb_iald g dX8_card_26 (by first | exact mr_order | exact mr_kind | exact mr_heaps | exact mr_m | exact mr_line | exact mr_other | exact mr_ways | exact mr_next | exact mr_chances | exact mr_after | exact mr_far | exact mr_groups | exact mr_found | exact mr_counts | exact mr_traySort | exact mr_traySize | exact mr_cells | exact mr_moved | exact mr_traced | assumption) (by assumption) ?_
          rw [d1 p0 hp0 j0 hj0]
          refine pb_goto g 32 dX8_card_27 (by decide) ?_
          refine pb_iret g z dX8_card_32 ?_
          exact ⟨_, rfl, by rw [e], ⟨_, _, _, _, _, _, _, _, _, _, _, _, _, _, _, _, _, _, _, rfl, d1, d2, d3, d4, d5⟩⟩
set_option maxHeartbeats 4000000 in
set_option maxRecDepth 100000 in
theorem m_move (k : Nat) (q : SP) (p : Int32) (h : PH) (hD : IsM q h) (hI : SI q) : Runs yX8_move cX8_move 2 (some .int) (k + 6) [.ref 0, .int p] h (fun oo h' => ∃ r : Int32, oo = some (.int r) ∧ r = (sMove q p).1 ∧ IsM ((sMove q p).2) h') := by
  obtain ⟨⟨n, P, S, sd⟩, ⟨σ, μ, K, Hh⟩, ⟨ts, zz, it⟩, ⟨ra, tr⟩⟩ := q
  obtain ⟨⟨hn1, hn, hP, hS⟩, hσ, hK, hz, hra⟩ := hI
  obtain ⟨xod, xkn, xhs, xmm, xln, xot, xfa, xgr, xtsr, xtsz, xce, xmv, xtc, xwy, xnx, xch, xaf, xfo, xco, rfl, d1, d2, d3, d4, d5⟩ := hD
  refine Runs.of (by decide) (Nat.le_of_ble_eq_true rfl) [some (.ref 0), some (.int p)] 0 rfl (fun Γ g z => ?_)
  cases hpx : ix p P with
  | none =>
    have e : sMove ((n, P, S, sd), (σ, μ, K, Hh), (ts, zz, it), (ra, tr)) p = (-2, ((n, P, S, sd), (σ, μ, K, Hh), (ts, zz, it), (ra, tr))) := by simp only [sMove, hpx]
    have hpn := ix_none (by omega) hpx
    refine pb_aload_n0 g dX8_move_0 ?_
    refine pb_iload_n1 g dX8_move_1 ?_
    refine pb_Vi1 g qX8_101 dX8_move_2 (k + 5) (by omega) mr_o (m_isPackF (k + 5) (by assumption) hP) (fun r2 h2 e2 => ?_)
    obtain ⟨rfl, rfl⟩ := e2
    first | refine pb_if_neN g 11 dX8_move_5 (by decide) (by omega) (fun c5 => ?_) (fun c5 => ?_) | refine pb_if_ne g 11 dX8_move_5 (by decide) (fun c5 => ?_) (fun c5 => ?_)
    · exact absurd c5 (by decide)
    · refine pb_bipush (v := -2) g dX8_move_8 (by decide) ?_
      refine pb_iret g z dX8_move_10 ?_
      exact ⟨_, rfl, by rw [e], by rw [e]; exact ⟨_, _, _, _, _, _, _, _, _, _, _, _, _, _, _, _, _, _, _, rfl, d1, d2, d3, d4, d5⟩⟩
  | some p0 =>
    obtain ⟨hp0, rfl⟩ := ix_some (by omega) hpx
    by_cases h10 : S = 10
    · have e : sMove ((n, P, S, sd), (σ, μ, K, Hh), (ts, zz, it), (ra, tr)) (nI p0) = (-4, ((n, P, S, sd), (σ, μ, K, Hh), (ts, zz, it), (ra, tr))) := by simp only [sMove, hpx, sMk, if_pos h10]
      refine pb_aload_n0 g dX8_move_0 ?_
      refine pb_iload_n1 g dX8_move_1 ?_
      refine pb_Vi1 g qX8_101 dX8_move_2 (k + 5) (by omega) mr_o (m_isPackT (k + 5) (by assumption) hP) (fun r2 h2 e2 => ?_)
      obtain ⟨rfl, rfl⟩ := e2
      first | refine pb_if_neN g 11 dX8_move_5 (by decide) (by omega) (fun c5 => ?_) (fun c5 => ?_) | refine pb_if_ne g 11 dX8_move_5 (by decide) (fun c5 => ?_) (fun c5 => ?_)
      · refine pb_aload_n0 g dX8_move_11 ?_
        refine pb_getf g fX8_75 dX8_move_12 mr_o rfl ?_
        refine pb_bipush (v := nI 10) g dX8_move_15 (by decide) ?_
        first | refine pb_icmp_neN g 23 dX8_move_17 (by decide) (by omega) (by omega) (fun c17 => ?_) (fun c17 => ?_) | refine pb_icmp_ne g 23 dX8_move_17 (by decide) (fun c17 => ?_) (fun c17 => ?_)
        · exact absurd h10 c17
        · refine pb_bipush (v := -4) g dX8_move_20 (by decide) ?_
          refine pb_iret g z dX8_move_22 ?_
          exact ⟨_, rfl, by rw [e], by rw [e]; exact ⟨_, _, _, _, _, _, _, _, _, _, _, _, _, _, _, _, _, _, _, rfl, d1, d2, d3, d4, d5⟩⟩
      · exact absurd c5 (by decide)
    · have e : sMove ((n, P, S, sd), (σ, μ, K, Hh), (ts, zz, it), (ra, tr)) (nI p0) = (nI S, ((n, P, S + 1, sd), (σ, va_up μ S (σ p0), va_up K S 0, va_up Hh S 2), (ts, zz, it), (ra, tr))) := by simp only [sMove, hpx, sMk, if_neg h10]
      refine pb_aload_n0 g dX8_move_0 ?_
      refine pb_iload_n1 g dX8_move_1 ?_
      refine pb_Vi1 g qX8_101 dX8_move_2 (k + 5) (by omega) mr_o (m_isPackT (k + 5) (by assumption) hP) (fun r2 h2 e2 => ?_)
      obtain ⟨rfl, rfl⟩ := e2
      first | refine pb_if_neN g 11 dX8_move_5 (by decide) (by omega) (fun c5 => ?_) (fun c5 => ?_) | refine pb_if_ne g 11 dX8_move_5 (by decide) (fun c5 => ?_) (fun c5 => ?_)
      · refine pb_aload_n0 g dX8_move_11 ?_
        refine pb_getf g fX8_75 dX8_move_12 mr_o rfl ?_
        refine pb_bipush (v := nI 10) g dX8_move_15 (by decide) ?_
        first | refine pb_icmp_neN g 23 dX8_move_17 (by decide) (by omega) (by omega) (fun c17 => ?_) (fun c17 => ?_) | refine pb_icmp_ne g 23 dX8_move_17 (by decide) (fun c17 => ?_) (fun c17 => ?_)
        · refine pb_aload_n0 g dX8_move_23 ?_
          refine pb_iload_n1 g dX8_move_24 ?_
          refine pb_Vv1 g qX8_107 dX8_move_25 (k + 5) (by omega) mr_o (m_takes (k + 5) (n := n) (p := p0) hn (by omega)) (fun h25 e25 => ?_)
          subst e25
          refine pb_aload_n0 g dX8_move_28 ?_
          refine pb_iconst (v := nI 0) g dX8_move_29 (by decide) ?_
          refine pb_iconst (v := nI 2) g dX8_move_30 (by decide) ?_
          refine pb_Vi2 g qX8_116 dX8_move_31 (k + 5) (by omega) mr_o (m_makes (k + 5) (n := n) (S := S) (a := 0) (b := 2) hn (by omega)) (fun r31 h31 e31 => ?_)
          obtain ⟨rfl, rfl⟩ := e31
          refine pb_iret g z dX8_move_34 ?_
          exact ⟨_, rfl, by rw [e], by rw [e]; exact ⟨_, _, _, _, _, _, _, _, _, _, _, _, _, _, _, _, _, _, _, rfl, d1, m2_up hn d2 (fun _ j hj => by rw [tk_at _ _ _ n j hj]; exact d1 p0 hp0 j hj), d3, d4, d5⟩⟩
        · exact absurd c17 h10
      · exact absurd c5 (by decide)
set_option maxHeartbeats 4000000 in
set_option maxRecDepth 100000 in
theorem m_riffle (k : Nat) (q : SP) (x : Int32) (h : PH) (hD : IsM q h) (hI : SI q) : Runs yX8_riffle cX8_riffle 2 (some .int) (k + 6) [.ref 0, .int x] h (fun oo h' => ∃ r : Int32, oo = some (.int r) ∧ r = (sRiffle q x).1 ∧ IsM ((sRiffle q x).2) h') := by
  obtain ⟨⟨n, P, S, sd⟩, ⟨σ, μ, K, Hh⟩, ⟨ts, zz, it⟩, ⟨ra, tr⟩⟩ := q
  obtain ⟨⟨hn1, hn, hP, hS⟩, hσ, hK, hz, hra⟩ := hI
  obtain ⟨xod, xkn, xhs, xmm, xln, xot, xfa, xgr, xtsr, xtsz, xce, xmv, xtc, xwy, xnx, xch, xaf, xfo, xco, rfl, d1, d2, d3, d4, d5⟩ := hD
  refine Runs.of (by decide) (Nat.le_of_ble_eq_true rfl) [some (.ref 0), some (.int x)] 0 rfl (fun Γ g z => ?_)
  by_cases hb : x < nI 1 ∨ nI 10 < x
  · have e : sRiffle ((n, P, S, sd), (σ, μ, K, Hh), (ts, zz, it), (ra, tr)) x = (-2, ((n, P, S, sd), (σ, μ, K, Hh), (ts, zz, it), (ra, tr))) := if_pos hb
    refine pb_iload_n1 g dX8_riffle_0 ?_
    refine pb_iconst (v := nI 1) g dX8_riffle_1 (by decide) ?_
    first | refine pb_icmp_ltN g 11 dX8_riffle_2 (by decide) (by omega) (by omega) (fun c2 => ?_) (fun c2 => ?_) | refine pb_icmp_lt g 11 dX8_riffle_2 (by decide) (fun c2 => ?_) (fun c2 => ?_)
    · refine pb_bipush (v := -2) g dX8_riffle_11 (by decide) ?_
      refine pb_iret g z dX8_riffle_13 ?_
      exact ⟨_, rfl, by rw [e], by rw [e]; exact ⟨_, _, _, _, _, _, _, _, _, _, _, _, _, _, _, _, _, _, _, rfl, d1, d2, d3, d4, d5⟩⟩
    · refine pb_iload_n1 g dX8_riffle_5 ?_
      refine pb_bipush (v := nI 10) g dX8_riffle_6 (by decide) ?_
      first | refine pb_icmp_leN g 14 dX8_riffle_8 (by decide) (by omega) (by omega) (fun c8 => ?_) (fun c8 => ?_) | refine pb_icmp_le g 14 dX8_riffle_8 (by decide) (fun c8 => ?_) (fun c8 => ?_)
      · exact absurd hb (fun q => q.elim c2 (fun w => absurd c8 (Int32.not_le.mpr w)))
      · refine pb_bipush (v := -2) g dX8_riffle_11 (by decide) ?_
        refine pb_iret g z dX8_riffle_13 ?_
        exact ⟨_, rfl, by rw [e], by rw [e]; exact ⟨_, _, _, _, _, _, _, _, _, _, _, _, _, _, _, _, _, _, _, rfl, d1, d2, d3, d4, d5⟩⟩
  · have e0 : sRiffle ((n, P, S, sd), (σ, μ, K, Hh), (ts, zz, it), (ra, tr)) x = sMk ((n, P, S, sd), (σ, μ, K, Hh), (ts, zz, it), (ra, tr)) 3 x.toNatClampNeg (fun j => j) := if_neg hb
    obtain ⟨m, hm1, hm2, rfl⟩ := rng (by decide) (by decide) hb
    rw [nI_clamp (by omega)] at e0
    by_cases h10 : S = 10
    · have e : sRiffle ((n, P, S, sd), (σ, μ, K, Hh), (ts, zz, it), (ra, tr)) (nI m) = (-4, ((n, P, S, sd), (σ, μ, K, Hh), (ts, zz, it), (ra, tr))) := by rw [e0]; exact if_pos h10
      refine pb_iload_n1 g dX8_riffle_0 ?_
      refine pb_iconst (v := nI 1) g dX8_riffle_1 (by decide) ?_
      first | refine pb_icmp_ltN g 11 dX8_riffle_2 (by decide) (by omega) (by omega) (fun c2 => ?_) (fun c2 => ?_) | refine pb_icmp_lt g 11 dX8_riffle_2 (by decide) (fun c2 => ?_) (fun c2 => ?_)
      · exact absurd c2 (by omega)
      · refine pb_iload_n1 g dX8_riffle_5 ?_
        refine pb_bipush (v := nI 10) g dX8_riffle_6 (by decide) ?_
        first | refine pb_icmp_leN g 14 dX8_riffle_8 (by decide) (by omega) (by omega) (fun c8 => ?_) (fun c8 => ?_) | refine pb_icmp_le g 14 dX8_riffle_8 (by decide) (fun c8 => ?_) (fun c8 => ?_)
        · refine pb_aload_n0 g dX8_riffle_14 ?_
          refine pb_getf g fX8_75 dX8_riffle_15 mr_o rfl ?_
          refine pb_bipush (v := nI 10) g dX8_riffle_18 (by decide) ?_
          first | refine pb_icmp_neN g 28 dX8_riffle_20 (by decide) (by omega) (by omega) (fun c20 => ?_) (fun c20 => ?_) | refine pb_icmp_ne g 28 dX8_riffle_20 (by decide) (fun c20 => ?_) (fun c20 => ?_)
          · exact absurd h10 c20
          · refine pb_bipush (v := -4) g dX8_riffle_23 (by decide) ?_
            refine pb_goto g 34 dX8_riffle_25 (by decide) ?_
            refine pb_iret g z dX8_riffle_34 ?_
            exact ⟨_, rfl, by rw [e], by rw [e]; exact ⟨_, _, _, _, _, _, _, _, _, _, _, _, _, _, _, _, _, _, _, rfl, d1, d2, d3, d4, d5⟩⟩
        · exact absurd c8 (by omega)
    · have e : sRiffle ((n, P, S, sd), (σ, μ, K, Hh), (ts, zz, it), (ra, tr)) (nI m) = (nI S, ((n, P, S + 1, sd), (σ, va_up μ S (fun j => j), va_up K S 3, va_up Hh S m), (ts, zz, it), (ra, tr))) := by rw [e0]; exact if_neg h10
      refine pb_iload_n1 g dX8_riffle_0 ?_
      refine pb_iconst (v := nI 1) g dX8_riffle_1 (by decide) ?_
      first | refine pb_icmp_ltN g 11 dX8_riffle_2 (by decide) (by omega) (by omega) (fun c2 => ?_) (fun c2 => ?_) | refine pb_icmp_lt g 11 dX8_riffle_2 (by decide) (fun c2 => ?_) (fun c2 => ?_)
      · exact absurd c2 (by omega)
      · refine pb_iload_n1 g dX8_riffle_5 ?_
        refine pb_bipush (v := nI 10) g dX8_riffle_6 (by decide) ?_
        first | refine pb_icmp_leN g 14 dX8_riffle_8 (by decide) (by omega) (by omega) (fun c8 => ?_) (fun c8 => ?_) | refine pb_icmp_le g 14 dX8_riffle_8 (by decide) (fun c8 => ?_) (fun c8 => ?_)
        · refine pb_aload_n0 g dX8_riffle_14 ?_
          refine pb_getf g fX8_75 dX8_riffle_15 mr_o rfl ?_
          refine pb_bipush (v := nI 10) g dX8_riffle_18 (by decide) ?_
          first | refine pb_icmp_neN g 28 dX8_riffle_20 (by decide) (by omega) (by omega) (fun c20 => ?_) (fun c20 => ?_) | refine pb_icmp_ne g 28 dX8_riffle_20 (by decide) (fun c20 => ?_) (fun c20 => ?_)
          · refine pb_aload_n0 g dX8_riffle_28 ?_
            refine pb_iconst (v := nI 3) g dX8_riffle_29 (by decide) ?_
            refine pb_iload_n1 g dX8_riffle_30 ?_
            refine pb_Vi2 g qX8_116 dX8_riffle_31 (k + 5) (by omega) mr_o (m_makes (k + 5) (n := n) (S := S) (a := 3) (b := m) hn (by omega)) (fun r31 h31 e31 => ?_)
            obtain ⟨rfl, rfl⟩ := e31
            refine pb_iret g z dX8_riffle_34 ?_
            exact ⟨_, rfl, by rw [e], by rw [e]; exact ⟨_, _, _, _, _, _, _, _, _, _, _, _, _, _, _, _, _, _, _, rfl, d1, m2_up hn d2 (fun q => absurd q (by decide)), d3, d4, d5⟩⟩
          · exact absurd c20 h10
        · exact absurd c8 (by omega)
set_option maxHeartbeats 4000000 in
set_option maxRecDepth 100000 in
theorem m_top (k : Nat) (q : SP)  (h : PH) (hD : IsM q h) (hI : SI q) : Runs yX8_top cX8_top 1 (some .int) (k + 6) [.ref 0] h (fun oo h' => ∃ r : Int32, oo = some (.int r) ∧ r = (sTop q).1 ∧ IsM ((sTop q).2) h') := by
  obtain ⟨⟨n, P, S, sd⟩, ⟨σ, μ, K, Hh⟩, ⟨ts, zz, it⟩, ⟨ra, tr⟩⟩ := q
  obtain ⟨⟨hn1, hn, hP, hS⟩, hσ, hK, hz, hra⟩ := hI
  obtain ⟨xod, xkn, xhs, xmm, xln, xot, xfa, xgr, xtsr, xtsz, xce, xmv, xtc, xwy, xnx, xch, xaf, xfo, xco, rfl, d1, d2, d3, d4, d5⟩ := hD
  refine Runs.of (by decide) (Nat.le_of_ble_eq_true rfl) [some (.ref 0)] 0 rfl (fun Γ g z => ?_)
  by_cases h10 : S = 10
  · have e : sTop ((n, P, S, sd), (σ, μ, K, Hh), (ts, zz, it), (ra, tr)) = (-4, ((n, P, S, sd), (σ, μ, K, Hh), (ts, zz, it), (ra, tr))) := if_pos h10
    refine pb_aload_n0 g dX8_top_0 ?_
    refine pb_getf g fX8_75 dX8_top_1 mr_o rfl ?_
    refine pb_bipush (v := nI 10) g dX8_top_4 (by decide) ?_
    first | refine pb_icmp_neN g 14 dX8_top_6 (by decide) (by omega) (by omega) (fun c6 => ?_) (fun c6 => ?_) | refine pb_icmp_ne g 14 dX8_top_6 (by decide) (fun c6 => ?_) (fun c6 => ?_)
    · exact absurd h10 c6
    · refine pb_bipush (v := -4) g dX8_top_9 (by decide) ?_
      refine pb_goto g 23 dX8_top_11 (by decide) ?_
      refine pb_iret g z dX8_top_23 ?_
      exact ⟨_, rfl, by rw [e], by rw [e]; exact ⟨_, _, _, _, _, _, _, _, _, _, _, _, _, _, _, _, _, _, _, rfl, d1, d2, d3, d4, d5⟩⟩
  · have e : sTop ((n, P, S, sd), (σ, μ, K, Hh), (ts, zz, it), (ra, tr)) = (nI S, ((n, P, S + 1, sd), (σ, va_up μ S (fun j => j), va_up K S 4, va_up Hh S n), (ts, zz, it), (ra, tr))) := if_neg h10
    refine pb_aload_n0 g dX8_top_0 ?_
    refine pb_getf g fX8_75 dX8_top_1 mr_o rfl ?_
    refine pb_bipush (v := nI 10) g dX8_top_4 (by decide) ?_
    first | refine pb_icmp_neN g 14 dX8_top_6 (by decide) (by omega) (by omega) (fun c6 => ?_) (fun c6 => ?_) | refine pb_icmp_ne g 14 dX8_top_6 (by decide) (fun c6 => ?_) (fun c6 => ?_)
    · refine pb_aload_n0 g dX8_top_14 ?_
      refine pb_iconst (v := nI 4) g dX8_top_15 (by decide) ?_
      refine pb_aload_n0 g dX8_top_16 ?_
      refine pb_getf g fX8_7 dX8_top_17 mr_o rfl ?_
      refine pb_Vi2 g qX8_116 dX8_top_20 (k + 5) (by omega) mr_o (m_makes (k + 5) (n := n) (S := S) (a := 4) (b := n) hn (by omega)) (fun r20 h20 e20 => ?_)
      obtain ⟨rfl, rfl⟩ := e20
      refine pb_iret g z dX8_top_23 ?_
      exact ⟨_, rfl, by rw [e], by rw [e]; exact ⟨_, _, _, _, _, _, _, _, _, _, _, _, _, _, _, _, _, _, _, rfl, d1, m2_up hn d2 (fun q => absurd q (by decide)), d3, d4, d5⟩⟩
    · exact absurd c6 h10
