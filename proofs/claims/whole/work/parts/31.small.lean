/-! ===== the desk: small methods ===== -/
/-- an argument is one of the first n numbers -/
def inN (x : Int32) (n : Nat) : Prop := ∃ j, j < n ∧ x = nI j
theorem inN_not {x : Int32} {n : Nat} (hn : n < 2 ^ 31) (h : ¬ inN x n) : x < 0 ∨ nI n ≤ x := by
  rcases pk_ix x hn with q | q | q
  · exact Or.inl q
  · exact Or.inr q
  · exact absurd q h
set_option maxHeartbeats 4000000 in
set_option maxRecDepth 100000 in
theorem x_isPackT (k : Nat) {cd sc sd ar ak an ah : Int32} {pk fr it jk : Nat → Nat → Int32} {kd hp ts tz kt : Nat → Int32} {jl : Nat → Nat → Int64} {P j : Nat} (hj : j < P) (hv : P ≤ 12) : Runs yX7_isPack cX7_isPack 2 (some .boolean) (k) [.ref 0, .int (nI j)] (mkH 52 (dkF cd (nI P) sc sd pk fr it kd hp ts tz ar ak an ah kt jk jl)) (fun o h' => ∃ r : Int32, o = some (.int r) ∧ r = nI 1 ∧ mkH 52 (dkF cd (nI P) sc sd pk fr it kd hp ts tz ar ak an ah kt jk jl) = h') := by
  refine Runs.of (by decide) (Nat.le_of_ble_eq_true rfl) [some (.ref 0), some (.int (nI j))] 0 rfl (fun Γ g z => ?_)
  refine pb_iload_n1 g dX7_isPack_0 ?_
  refine pb_if_ltN g 16 dX7_isPack_1 (by decide) (by omega) ?_
  refine pb_iload_n1 g dX7_isPack_4 ?_
  refine pb_aload_n0 g dX7_isPack_5 ?_
  refine pb_getf g fX7_37 dX7_isPack_6 dr_o rfl ?_
  first | refine pb_icmp_geN g 16 dX7_isPack_9 (by decide) (by omega) (by omega) (fun c9 => ?_) (fun c9 => ?_) | refine pb_icmp_ge g 16 dX7_isPack_9 (by decide) (fun c9 => ?_) (fun c9 => ?_)
  · exact absurd c9 (by omega)
  · refine pb_iconst (v := nI 1) g dX7_isPack_12 (by decide) ?_
    refine pb_goto g 17 dX7_isPack_13 (by decide) ?_
    refine pb_zret g z dX7_isPack_17 (by first | rfl | decide) ?_
    exact ⟨_, rfl, rfl, rfl⟩
set_option maxHeartbeats 4000000 in
set_option maxRecDepth 100000 in
theorem x_isPackF (k : Nat) {cd sc sd ar ak an ah : Int32} {pk fr it jk : Nat → Nat → Int32} {kd hp ts tz kt : Nat → Int32} {jl : Nat → Nat → Int64} {P : Nat} {x : Int32} (hx : ¬ inN x P) (hv : P ≤ 12) : Runs yX7_isPack cX7_isPack 2 (some .boolean) (k) [.ref 0, .int x] (mkH 52 (dkF cd (nI P) sc sd pk fr it kd hp ts tz ar ak an ah kt jk jl)) (fun o h' => ∃ r : Int32, o = some (.int r) ∧ r = nI 0 ∧ mkH 52 (dkF cd (nI P) sc sd pk fr it kd hp ts tz ar ak an ah kt jk jl) = h') := by
  refine Runs.of (by decide) (Nat.le_of_ble_eq_true rfl) [some (.ref 0), some (.int x)] 0 rfl (fun Γ g z => ?_)
  have hx2 := inN_not (by omega) hx
  refine pb_iload_n1 g dX7_isPack_0 ?_
  refine pb_if_lt g 16 dX7_isPack_1 (by decide) (fun c1 => ?_) (fun c1 => ?_)
  · refine pb_iconst (v := nI 0) g dX7_isPack_16 (by decide) ?_
    refine pb_zret g z dX7_isPack_17 (by first | rfl | decide) ?_
    exact ⟨_, rfl, rfl, rfl⟩
  · refine pb_iload_n1 g dX7_isPack_4 ?_
    refine pb_aload_n0 g dX7_isPack_5 ?_
    refine pb_getf g fX7_37 dX7_isPack_6 dr_o rfl ?_
    first | refine pb_icmp_geN g 16 dX7_isPack_9 (by decide) (by omega) (by omega) (fun c9 => ?_) (fun c9 => ?_) | refine pb_icmp_ge g 16 dX7_isPack_9 (by decide) (fun c9 => ?_) (fun c9 => ?_)
    · refine pb_iconst (v := nI 0) g dX7_isPack_16 (by decide) ?_
      refine pb_zret g z dX7_isPack_17 (by first | rfl | decide) ?_
      exact ⟨_, rfl, rfl, rfl⟩
    · exact absurd hx2 (fun q => q.elim c1 c9)
set_option maxHeartbeats 4000000 in
set_option maxRecDepth 100000 in
theorem x_isShuffleT (k : Nat) {cd pc sd ar ak an ah : Int32} {pk fr it jk : Nat → Nat → Int32} {kd hp ts tz kt : Nat → Int32} {jl : Nat → Nat → Int64} {S j : Nat} (hj : j < S) (hv : S ≤ 10) : Runs yX7_isShuffle cX7_isShuffle 2 (some .boolean) (k) [.ref 0, .int (nI j)] (mkH 52 (dkF cd pc (nI S) sd pk fr it kd hp ts tz ar ak an ah kt jk jl)) (fun o h' => ∃ r : Int32, o = some (.int r) ∧ r = nI 1 ∧ mkH 52 (dkF cd pc (nI S) sd pk fr it kd hp ts tz ar ak an ah kt jk jl) = h') := by
  refine Runs.of (by decide) (Nat.le_of_ble_eq_true rfl) [some (.ref 0), some (.int (nI j))] 0 rfl (fun Γ g z => ?_)
  refine pb_iload_n1 g dX7_isShuffle_0 ?_
  refine pb_if_ltN g 16 dX7_isShuffle_1 (by decide) (by omega) ?_
  refine pb_iload_n1 g dX7_isShuffle_4 ?_
  refine pb_aload_n0 g dX7_isShuffle_5 ?_
  refine pb_getf g fX7_40 dX7_isShuffle_6 dr_o rfl ?_
  first | refine pb_icmp_geN g 16 dX7_isShuffle_9 (by decide) (by omega) (by omega) (fun c9 => ?_) (fun c9 => ?_) | refine pb_icmp_ge g 16 dX7_isShuffle_9 (by decide) (fun c9 => ?_) (fun c9 => ?_)
  · exact absurd c9 (by omega)
  · refine pb_iconst (v := nI 1) g dX7_isShuffle_12 (by decide) ?_
    refine pb_goto g 17 dX7_isShuffle_13 (by decide) ?_
    refine pb_zret g z dX7_isShuffle_17 (by first | rfl | decide) ?_
    exact ⟨_, rfl, rfl, rfl⟩
set_option maxHeartbeats 4000000 in
set_option maxRecDepth 100000 in
theorem x_isShuffleF (k : Nat) {cd pc sd ar ak an ah : Int32} {pk fr it jk : Nat → Nat → Int32} {kd hp ts tz kt : Nat → Int32} {jl : Nat → Nat → Int64} {S : Nat} {x : Int32} (hx : ¬ inN x S) (hv : S ≤ 10) : Runs yX7_isShuffle cX7_isShuffle 2 (some .boolean) (k) [.ref 0, .int x] (mkH 52 (dkF cd pc (nI S) sd pk fr it kd hp ts tz ar ak an ah kt jk jl)) (fun o h' => ∃ r : Int32, o = some (.int r) ∧ r = nI 0 ∧ mkH 52 (dkF cd pc (nI S) sd pk fr it kd hp ts tz ar ak an ah kt jk jl) = h') := by
  refine Runs.of (by decide) (Nat.le_of_ble_eq_true rfl) [some (.ref 0), some (.int x)] 0 rfl (fun Γ g z => ?_)
  have hx2 := inN_not (by omega) hx
  refine pb_iload_n1 g dX7_isShuffle_0 ?_
  refine pb_if_lt g 16 dX7_isShuffle_1 (by decide) (fun c1 => ?_) (fun c1 => ?_)
  · refine pb_iconst (v := nI 0) g dX7_isShuffle_16 (by decide) ?_
    refine pb_zret g z dX7_isShuffle_17 (by first | rfl | decide) ?_
    exact ⟨_, rfl, rfl, rfl⟩
  · refine pb_iload_n1 g dX7_isShuffle_4 ?_
    refine pb_aload_n0 g dX7_isShuffle_5 ?_
    refine pb_getf g fX7_40 dX7_isShuffle_6 dr_o rfl ?_
    first | refine pb_icmp_geN g 16 dX7_isShuffle_9 (by decide) (by omega) (by omega) (fun c9 => ?_) (fun c9 => ?_) | refine pb_icmp_ge g 16 dX7_isShuffle_9 (by decide) (fun c9 => ?_) (fun c9 => ?_)
    · refine pb_iconst (v := nI 0) g dX7_isShuffle_16 (by decide) ?_
      refine pb_zret g z dX7_isShuffle_17 (by first | rfl | decide) ?_
      exact ⟨_, rfl, rfl, rfl⟩
    · exact absurd hx2 (fun q => q.elim c1 c9)
set_option maxHeartbeats 4000000 in
set_option maxRecDepth 100000 in
theorem x_isPlaceT (k : Nat) {pc sc sd ar ak an ah : Int32} {pk fr it jk : Nat → Nat → Int32} {kd hp ts tz kt : Nat → Int32} {jl : Nat → Nat → Int64} {n j : Nat} (hj : j < n) (hv : n ≤ 10) : Runs yX7_isPlace cX7_isPlace 2 (some .boolean) (k) [.ref 0, .int (nI j)] (mkH 52 (dkF (nI n) pc sc sd pk fr it kd hp ts tz ar ak an ah kt jk jl)) (fun o h' => ∃ r : Int32, o = some (.int r) ∧ r = nI 1 ∧ mkH 52 (dkF (nI n) pc sc sd pk fr it kd hp ts tz ar ak an ah kt jk jl) = h') := by
  refine Runs.of (by decide) (Nat.le_of_ble_eq_true rfl) [some (.ref 0), some (.int (nI j))] 0 rfl (fun Γ g z => ?_)
  refine pb_iload_n1 g dX7_isPlace_0 ?_
  refine pb_if_ltN g 16 dX7_isPlace_1 (by decide) (by omega) ?_
  refine pb_iload_n1 g dX7_isPlace_4 ?_
  refine pb_aload_n0 g dX7_isPlace_5 ?_
  refine pb_getf g fX7_33 dX7_isPlace_6 dr_o rfl ?_
  first | refine pb_icmp_geN g 16 dX7_isPlace_9 (by decide) (by omega) (by omega) (fun c9 => ?_) (fun c9 => ?_) | refine pb_icmp_ge g 16 dX7_isPlace_9 (by decide) (fun c9 => ?_) (fun c9 => ?_)
  · exact absurd c9 (by omega)
  · refine pb_iconst (v := nI 1) g dX7_isPlace_12 (by decide) ?_
    refine pb_goto g 17 dX7_isPlace_13 (by decide) ?_
    refine pb_zret g z dX7_isPlace_17 (by first | rfl | decide) ?_
    exact ⟨_, rfl, rfl, rfl⟩
set_option maxHeartbeats 4000000 in
set_option maxRecDepth 100000 in
theorem x_isPlaceF (k : Nat) {pc sc sd ar ak an ah : Int32} {pk fr it jk : Nat → Nat → Int32} {kd hp ts tz kt : Nat → Int32} {jl : Nat → Nat → Int64} {n : Nat} {x : Int32} (hx : ¬ inN x n) (hv : n ≤ 10) : Runs yX7_isPlace cX7_isPlace 2 (some .boolean) (k) [.ref 0, .int x] (mkH 52 (dkF (nI n) pc sc sd pk fr it kd hp ts tz ar ak an ah kt jk jl)) (fun o h' => ∃ r : Int32, o = some (.int r) ∧ r = nI 0 ∧ mkH 52 (dkF (nI n) pc sc sd pk fr it kd hp ts tz ar ak an ah kt jk jl) = h') := by
  refine Runs.of (by decide) (Nat.le_of_ble_eq_true rfl) [some (.ref 0), some (.int x)] 0 rfl (fun Γ g z => ?_)
  have hx2 := inN_not (by omega) hx
  refine pb_iload_n1 g dX7_isPlace_0 ?_
  refine pb_if_lt g 16 dX7_isPlace_1 (by decide) (fun c1 => ?_) (fun c1 => ?_)
  · refine pb_iconst (v := nI 0) g dX7_isPlace_16 (by decide) ?_
    refine pb_zret g z dX7_isPlace_17 (by first | rfl | decide) ?_
    exact ⟨_, rfl, rfl, rfl⟩
  · refine pb_iload_n1 g dX7_isPlace_4 ?_
    refine pb_aload_n0 g dX7_isPlace_5 ?_
    refine pb_getf g fX7_33 dX7_isPlace_6 dr_o rfl ?_
    first | refine pb_icmp_geN g 16 dX7_isPlace_9 (by decide) (by omega) (by omega) (fun c9 => ?_) (fun c9 => ?_) | refine pb_icmp_ge g 16 dX7_isPlace_9 (by decide) (fun c9 => ?_) (fun c9 => ?_)
    · refine pb_iconst (v := nI 0) g dX7_isPlace_16 (by decide) ?_
      refine pb_zret g z dX7_isPlace_17 (by first | rfl | decide) ?_
      exact ⟨_, rfl, rfl, rfl⟩
    · exact absurd hx2 (fun q => q.elim c1 c9)
set_option maxHeartbeats 4000000 in
set_option maxRecDepth 100000 in
theorem x_isOdd (k : Nat) {pc sc sd ar ak an ah : Int32} {pk fr it jk : Nat → Nat → Int32} {kd hp ts tz kt : Nat → Int32} {jl : Nat → Nat → Int64} {n : Nat} (hn : n ≤ 10) : Runs yX7_isOdd cX7_isOdd 1 (some .boolean) (k) [.ref 0] (mkH 52 (dkF (nI n) pc sc sd pk fr it kd hp ts tz ar ak an ah kt jk jl)) (fun o h' => ∃ r : Int32, o = some (.int r) ∧ r = nI (n % 2) ∧ mkH 52 (dkF (nI n) pc sc sd pk fr it kd hp ts tz ar ak an ah kt jk jl) = h') := by
  refine Runs.of (by decide) (Nat.le_of_ble_eq_true rfl) [some (.ref 0)] 0 rfl (fun Γ g z => ?_)
  refine pb_aload_n0 g dX7_isOdd_0 ?_
  refine pb_getf g fX7_33 dX7_isOdd_1 dr_o rfl ?_
  refine pb_iconst (v := nI 1) g dX7_isOdd_4 (by decide) ?_
  first | refine pb_iandN g dX7_isOdd_5 (by omega) ?_ | refine pb_iand g dX7_isOdd_5 ?_
  first | refine pb_if_eqN g 13 dX7_isOdd_6 (by decide) (by omega) (fun c6 => ?_) (fun c6 => ?_) | refine pb_if_eq g 13 dX7_isOdd_6 (by decide) (fun c6 => ?_) (fun c6 => ?_)
  · refine pb_iconst (v := nI 0) g dX7_isOdd_13 (by decide) ?_
    refine pb_zret g z dX7_isOdd_14 (by first | rfl | decide) ?_
    exact ⟨_, rfl, by congr 1; omega, rfl⟩
  · refine pb_iconst (v := nI 1) g dX7_isOdd_9 (by decide) ?_
    refine pb_goto g 14 dX7_isOdd_10 (by decide) ?_
    refine pb_zret g z dX7_isOdd_14 (by first | rfl | decide) ?_
    exact ⟨_, rfl, by congr 1; omega, rfl⟩
set_option maxHeartbeats 4000000 in
set_option maxRecDepth 100000 in
theorem x_isTrayT (k j : Nat) (hj : j < 4) (h : PH) : Runs yX7_isTray cX7_isTray 1 (some .boolean) (k) [.int (nI j)] h (fun o h' => ∃ r : Int32, o = some (.int r) ∧ r = nI 1 ∧ h = h') := by
  refine Runs.of (by decide) (Nat.le_of_ble_eq_true rfl) [some (.int (nI j))] 0 rfl (fun Γ g z => ?_)
  refine pb_iload_n0 g dX7_isTray_0 ?_
  refine pb_if_ltN g 13 dX7_isTray_1 (by decide) (by omega) ?_
  refine pb_iload_n0 g dX7_isTray_4 ?_
  refine pb_iconst (v := nI 4) g dX7_isTray_5 (by decide) ?_
  first | refine pb_icmp_geN g 13 dX7_isTray_6 (by decide) (by omega) (by omega) (fun c6 => ?_) (fun c6 => ?_) | refine pb_icmp_ge g 13 dX7_isTray_6 (by decide) (fun c6 => ?_) (fun c6 => ?_)
  · exact absurd c6 (by omega)
  · refine pb_iconst (v := nI 1) g dX7_isTray_9 (by decide) ?_
    refine pb_goto g 14 dX7_isTray_10 (by decide) ?_
    refine pb_zret g z dX7_isTray_14 (by first | rfl | decide) ?_
    exact ⟨_, rfl, rfl, rfl⟩
set_option maxHeartbeats 4000000 in
set_option maxRecDepth 100000 in
theorem x_isTrayF (k : Nat) (x : Int32) (hx : ¬ inN x 4) (h : PH) : Runs yX7_isTray cX7_isTray 1 (some .boolean) (k) [.int x] h (fun o h' => ∃ r : Int32, o = some (.int r) ∧ r = nI 0 ∧ h = h') := by
  refine Runs.of (by decide) (Nat.le_of_ble_eq_true rfl) [some (.int x)] 0 rfl (fun Γ g z => ?_)
  have hx2 := inN_not (by decide) hx
  refine pb_iload_n0 g dX7_isTray_0 ?_
  refine pb_if_lt g 13 dX7_isTray_1 (by decide) (fun c1 => ?_) (fun c1 => ?_)
  · refine pb_iconst (v := nI 0) g dX7_isTray_13 (by decide) ?_
    refine pb_zret g z dX7_isTray_14 (by first | rfl | decide) ?_
    exact ⟨_, rfl, rfl, rfl⟩
  · refine pb_iload_n0 g dX7_isTray_4 ?_
    refine pb_iconst (v := nI 4) g dX7_isTray_5 (by decide) ?_
    first | refine pb_icmp_geN g 13 dX7_isTray_6 (by decide) (by omega) (by omega) (fun c6 => ?_) (fun c6 => ?_) | refine pb_icmp_ge g 13 dX7_isTray_6 (by decide) (fun c6 => ?_) (fun c6 => ?_)
    · refine pb_iconst (v := nI 0) g dX7_isTray_13 (by decide) ?_
      refine pb_zret g z dX7_isTray_14 (by first | rfl | decide) ?_
      exact ⟨_, rfl, rfl, rfl⟩
    · exact absurd hx2 (fun q => q.elim c1 c6)
set_option maxHeartbeats 4000000 in
set_option maxRecDepth 100000 in
theorem x_isSortT (k j : Nat) (hj : j < 3) (h : PH) : Runs yX7_isSort cX7_isSort 1 (some .boolean) (k) [.int (nI j)] h (fun o h' => ∃ r : Int32, o = some (.int r) ∧ r = nI 1 ∧ h = h') := by
  refine Runs.of (by decide) (Nat.le_of_ble_eq_true rfl) [some (.int (nI j))] 0 rfl (fun Γ g z => ?_)
  refine pb_iload_n0 g dX7_isSort_0 ?_
  refine pb_if_ltN g 13 dX7_isSort_1 (by decide) (by omega) ?_
  refine pb_iload_n0 g dX7_isSort_4 ?_
  refine pb_iconst (v := nI 2) g dX7_isSort_5 (by decide) ?_
  first | refine pb_icmp_gtN g 13 dX7_isSort_6 (by decide) (by omega) (by omega) (fun c6 => ?_) (fun c6 => ?_) | refine pb_icmp_gt g 13 dX7_isSort_6 (by decide) (fun c6 => ?_) (fun c6 => ?_)
  · exact absurd c6 (by omega)
  · refine pb_iconst (v := nI 1) g dX7_isSort_9 (by decide) ?_
    refine pb_goto g 14 dX7_isSort_10 (by decide) ?_
    refine pb_zret g z dX7_isSort_14 (by first | rfl | decide) ?_
    exact ⟨_, rfl, rfl, rfl⟩
set_option maxHeartbeats 4000000 in
set_option maxRecDepth 100000 in
theorem x_isSortF (k : Nat) (x : Int32) (hx : ¬ inN x 3) (h : PH) : Runs yX7_isSort cX7_isSort 1 (some .boolean) (k) [.int x] h (fun o h' => ∃ r : Int32, o = some (.int r) ∧ r = nI 0 ∧ h = h') := by
  refine Runs.of (by decide) (Nat.le_of_ble_eq_true rfl) [some (.int x)] 0 rfl (fun Γ g z => ?_)
  have hx2 := inN_not (by decide) hx
  refine pb_iload_n0 g dX7_isSort_0 ?_
  refine pb_if_lt g 13 dX7_isSort_1 (by decide) (fun c1 => ?_) (fun c1 => ?_)
  · refine pb_iconst (v := nI 0) g dX7_isSort_13 (by decide) ?_
    refine pb_zret g z dX7_isSort_14 (by first | rfl | decide) ?_
    exact ⟨_, rfl, rfl, rfl⟩
  · refine pb_iload_n0 g dX7_isSort_4 ?_
    refine pb_iconst (v := nI 2) g dX7_isSort_5 (by decide) ?_
    first | refine pb_icmp_gtN g 13 dX7_isSort_6 (by decide) (by omega) (by omega) (fun c6 => ?_) (fun c6 => ?_) | refine pb_icmp_gt g 13 dX7_isSort_6 (by decide) (fun c6 => ?_) (fun c6 => ?_)
    · refine pb_iconst (v := nI 0) g dX7_isSort_13 (by decide) ?_
      refine pb_zret g z dX7_isSort_14 (by first | rfl | decide) ?_
      exact ⟨_, rfl, rfl, rfl⟩
    · rcases hx2 with q | q
      · exact absurd q c1
      · exact absurd (Int32.lt_of_lt_of_le (show nI 2 < nI 3 by decide) q) c6
set_option maxHeartbeats 4000000 in
set_option maxRecDepth 100000 in
theorem x_isPartT (k j : Nat) (hj : j < 2) (h : PH) : Runs yX7_isPart cX7_isPart 1 (some .boolean) (k) [.int (nI j)] h (fun o h' => ∃ r : Int32, o = some (.int r) ∧ r = nI 1 ∧ h = h') := by
  refine Runs.of (by decide) (Nat.le_of_ble_eq_true rfl) [some (.int (nI j))] 0 rfl (fun Γ g z => ?_)
  refine pb_iload_n0 g dX7_isPart_0 ?_
  first | refine pb_if_eqN g 9 dX7_isPart_1 (by decide) (by omega) (fun c1 => ?_) (fun c1 => ?_) | refine pb_if_eq g 9 dX7_isPart_1 (by decide) (fun c1 => ?_) (fun c1 => ?_)
  · refine pb_iconst (v := nI 1) g dX7_isPart_9 (by decide) ?_
    refine pb_goto g 14 dX7_isPart_10 (by decide) ?_
    refine pb_zret g z dX7_isPart_14 (by first | rfl | decide) ?_
    exact ⟨_, rfl, by first | rfl | (congr 1; omega), rfl⟩
  · refine pb_iload_n0 g dX7_isPart_4 ?_
    refine pb_iconst (v := nI 1) g dX7_isPart_5 (by decide) ?_
    first | refine pb_icmp_neN g 13 dX7_isPart_6 (by decide) (by omega) (by omega) (fun c6 => ?_) (fun c6 => ?_) | refine pb_icmp_ne g 13 dX7_isPart_6 (by decide) (fun c6 => ?_) (fun c6 => ?_)
    · exact absurd c6 (by omega)
    · refine pb_iconst (v := nI 1) g dX7_isPart_9 (by decide) ?_
      refine pb_goto g 14 dX7_isPart_10 (by decide) ?_
      refine pb_zret g z dX7_isPart_14 (by first | rfl | decide) ?_
      exact ⟨_, rfl, by first | rfl | (congr 1; omega), rfl⟩
set_option maxHeartbeats 4000000 in
set_option maxRecDepth 100000 in
theorem x_isPartF (k : Nat) (x : Int32) (hx : ¬ inN x 2) (h : PH) : Runs yX7_isPart cX7_isPart 1 (some .boolean) (k) [.int x] h (fun o h' => ∃ r : Int32, o = some (.int r) ∧ r = nI 0 ∧ h = h') := by
  refine Runs.of (by decide) (Nat.le_of_ble_eq_true rfl) [some (.int x)] 0 rfl (fun Γ g z => ?_)
  refine pb_iload_n0 g dX7_isPart_0 ?_
  first | refine pb_if_eqN g 9 dX7_isPart_1 (by decide) (by omega) (fun c1 => ?_) (fun c1 => ?_) | refine pb_if_eq g 9 dX7_isPart_1 (by decide) (fun c1 => ?_) (fun c1 => ?_)
  · exact absurd ⟨0, by decide, c1⟩ hx
  · refine pb_iload_n0 g dX7_isPart_4 ?_
    refine pb_iconst (v := nI 1) g dX7_isPart_5 (by decide) ?_
    first | refine pb_icmp_neN g 13 dX7_isPart_6 (by decide) (by omega) (by omega) (fun c6 => ?_) (fun c6 => ?_) | refine pb_icmp_ne g 13 dX7_isPart_6 (by decide) (fun c6 => ?_) (fun c6 => ?_)
    · refine pb_iconst (v := nI 0) g dX7_isPart_13 (by decide) ?_
      refine pb_zret g z dX7_isPart_14 (by first | rfl | decide) ?_
      exact ⟨_, rfl, rfl, rfl⟩
    · exact absurd ⟨1, by decide, c6⟩ hx
set_option maxHeartbeats 4000000 in
set_option maxRecDepth 100000 in
theorem x_addShuffle (k : Nat) {cd pc sd ar ak an ah : Int32} {pk fr it jk : Nat → Nat → Int32} {kd hp ts tz kt : Nat → Int32} {jl : Nat → Nat → Int64} {S a b : Nat} (hS : S < 10) : Runs yX7_addShuffle cX7_addShuffle 3 (some .int) (k) [.ref 0, .int (nI a), .int (nI b)] (mkH 52 (dkF cd pc (nI S) sd pk fr it kd hp ts tz ar ak an ah kt jk jl)) (fun o h' => ∃ r : Int32, o = some (.int r) ∧ r = nI S ∧ mkH 52 (dkF cd pc (nI (S + 1)) sd pk fr it (upd kd S (nI a)) (upd hp S (nI b)) ts tz ar ak an ah kt jk jl) = h') := by
  refine Runs.of (by decide) (Nat.le_of_ble_eq_true rfl) [some (.ref 0), some (.int (nI a)), some (.int (nI b))] 0 rfl (fun Γ g z => ?_)
  refine pb_aload_n0 g dX7_addShuffle_0 ?_
  refine pb_getf g fX7_16 dX7_addShuffle_1 dr_o rfl ?_
  refine pb_aload_n0 g dX7_addShuffle_4 ?_
  refine pb_getf g fX7_40 dX7_addShuffle_5 dr_o rfl ?_
  refine pb_aaldN g dX7_addShuffle_8 dr_shs (by decide) (by omega) (by omega) (by rfl) ?_
  refine pb_iload_n1 g dX7_addShuffle_9 ?_
  refine pb_puti g wX7_158 dX7_addShuffle_10 (dr_sh (by omega)) (Nat.le_of_ble_eq_true rfl) ?_
  rw [ds_kd (by omega)]
  refine pb_aload_n0 g dX7_addShuffle_13 ?_
  refine pb_getf g fX7_16 dX7_addShuffle_14 dr_o rfl ?_
  refine pb_aload_n0 g dX7_addShuffle_17 ?_
  refine pb_getf g fX7_40 dX7_addShuffle_18 dr_o rfl ?_
  refine pb_aaldN g dX7_addShuffle_21 dr_shs (by decide) (by omega) (by omega) (by rfl) ?_
  refine pb_iload_n2 g dX7_addShuffle_22 ?_
  refine pb_puti g wX7_161 dX7_addShuffle_23 (dr_sh (by omega)) (Nat.le_of_ble_eq_true rfl) ?_
  rw [ds_hp (by omega)]
  refine pb_aload_n0 g dX7_addShuffle_26 ?_
  refine pb_dup g dX7_addShuffle_27 rfl ?_
  refine pb_getf g fX7_40 dX7_addShuffle_28 dr_o rfl ?_
  refine pb_dup_x1 g dX7_addShuffle_31 rfl rfl ?_
  refine pb_iconst (v := nI 1) g dX7_addShuffle_32 (by decide) ?_
  first | refine pb_iaddN g dX7_addShuffle_33 ?_ | refine pb_iadd g dX7_addShuffle_33 ?_
  refine pb_puti g wX7_40 dX7_addShuffle_34 dr_o (Nat.le_of_ble_eq_true rfl) ?_
  rw [ds_sc]
  refine pb_iret g z dX7_addShuffle_37 ?_
  exact ⟨_, rfl, rfl, rfl⟩
set_option maxHeartbeats 4000000 in
set_option maxRecDepth 100000 in
theorem x_hasMove (k : Nat) {cd pc sc sd ar ak an ah : Int32} {pk fr it jk : Nat → Nat → Int32} {kd hp ts tz kt : Nat → Int32} {jl : Nat → Nat → Int64} {s K : Nat} (hs : s < 10) (hk : kd s = nI K) (hK : K < 5) : Runs yX4_hasMove cX4_hasMove 1 (some .boolean) (k) [.ref (15 + s)] (mkH 52 (dkF cd pc sc sd pk fr it kd hp ts tz ar ak an ah kt jk jl)) (fun o h' => ∃ r : Int32, o = some (.int r) ∧ r = (if K < 3 then nI 1 else nI 0) ∧ mkH 52 (dkF cd pc sc sd pk fr it kd hp ts tz ar ak an ah kt jk jl) = h') := by
  refine Runs.of (by decide) (Nat.le_of_ble_eq_true rfl) [some (.ref (15 + s))] 0 rfl (fun Γ g z => ?_)
  refine pb_aload_n0 g dX4_hasMove_0 ?_
  refine pb_getf g fX4_15 dX4_hasMove_1 (dr_sh (by omega)) rfl ?_
  rw [hk]
  refine pb_iconst (v := nI 3) g dX4_hasMove_4 (by decide) ?_
  first | refine pb_icmp_eqN g 20 dX4_hasMove_5 (by decide) (by omega) (by omega) (fun c5 => ?_) (fun c5 => ?_) | refine pb_icmp_eq g 20 dX4_hasMove_5 (by decide) (fun c5 => ?_) (fun c5 => ?_)
  · refine pb_iconst (v := nI 0) g dX4_hasMove_20 (by decide) ?_
    refine pb_zret g z dX4_hasMove_21 (by first | rfl | decide) ?_
    exact ⟨_, rfl, by first | rw [if_pos (by omega)] | rw [if_neg (by omega)], rfl⟩
  · refine pb_aload_n0 g dX4_hasMove_8 ?_
    refine pb_getf g fX4_15 dX4_hasMove_9 (dr_sh (by omega)) rfl ?_
    rw [hk]
    refine pb_iconst (v := nI 4) g dX4_hasMove_12 (by decide) ?_
    first | refine pb_icmp_eqN g 20 dX4_hasMove_13 (by decide) (by omega) (by omega) (fun c13 => ?_) (fun c13 => ?_) | refine pb_icmp_eq g 20 dX4_hasMove_13 (by decide) (fun c13 => ?_) (fun c13 => ?_)
    · refine pb_iconst (v := nI 0) g dX4_hasMove_20 (by decide) ?_
      refine pb_zret g z dX4_hasMove_21 (by first | rfl | decide) ?_
      exact ⟨_, rfl, by first | rw [if_pos (by omega)] | rw [if_neg (by omega)], rfl⟩
    · refine pb_iconst (v := nI 1) g dX4_hasMove_16 (by decide) ?_
      refine pb_goto g 21 dX4_hasMove_17 (by decide) ?_
      refine pb_zret g z dX4_hasMove_21 (by first | rfl | decide) ?_
      exact ⟨_, rfl, by first | rw [if_pos (by omega)] | rw [if_neg (by omega)], rfl⟩
set_option maxHeartbeats 4000000 in
set_option maxRecDepth 100000 in
theorem x_lotsOf (k : Nat) {pc sc sd ar ak an ah : Int32} {pk fr it jk : Nat → Nat → Int32} {kd hp ts tz kt : Nat → Int32} {jl : Nat → Nat → Int64} {s K n : Nat} (hs : s < 10) (hk : kd s = nI K) (hK : K < 5) : Runs yX7_lotsOf cX7_lotsOf 2 (some .int) (k) [.ref 0, .ref (15 + s)] (mkH 52 (dkF (nI n) pc sc sd pk fr it kd hp ts tz ar ak an ah kt jk jl)) (fun o h' => ∃ r : Int32, o = some (.int r) ∧ r = nI (if K = 4 then 1 else n) ∧ mkH 52 (dkF (nI n) pc sc sd pk fr it kd hp ts tz ar ak an ah kt jk jl) = h') := by
  refine Runs.of (by decide) (Nat.le_of_ble_eq_true rfl) [some (.ref 0), some (.ref (15 + s))] 0 rfl (fun Γ g z => ?_)
  refine pb_aload_n1 g dX7_lotsOf_0 ?_
  refine pb_getf g fX7_158 dX7_lotsOf_1 (dr_sh (by omega)) rfl ?_
  rw [hk]
  refine pb_iconst (v := nI 4) g dX7_lotsOf_4 (by decide) ?_
  first | refine pb_icmp_neN g 12 dX7_lotsOf_5 (by decide) (by omega) (by omega) (fun c5 => ?_) (fun c5 => ?_) | refine pb_icmp_ne g 12 dX7_lotsOf_5 (by decide) (fun c5 => ?_) (fun c5 => ?_)
  · refine pb_aload_n0 g dX7_lotsOf_12 ?_
    refine pb_getf g fX7_33 dX7_lotsOf_13 dr_o rfl ?_
    refine pb_iret g z dX7_lotsOf_16 ?_
    exact ⟨_, rfl, by first | rw [if_pos (by omega)] | rw [if_neg (by omega)], rfl⟩
  · refine pb_iconst (v := nI 1) g dX7_lotsOf_8 (by decide) ?_
    refine pb_goto g 16 dX7_lotsOf_9 (by decide) ?_
    refine pb_iret g z dX7_lotsOf_16 ?_
    exact ⟨_, rfl, by first | rw [if_pos (by omega)] | rw [if_neg (by omega)], rfl⟩
