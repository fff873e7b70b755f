/-! ===== the reference: packed, listed, found, sorted ===== -/
def posF (v : Nat) : List Nat → Nat
  | [] => 0
  | x :: l => if x = v then 0 else posF v l + 1
theorem pos_ok (v : Nat) : ∀ l : List Nat, v ∈ l → posF v l < l.length ∧ l.getD (posF v l) 0 = v
  | [], h => by cases h
  | x :: l, h => by
    rw [posF]
    by_cases e : x = v
    · rw [if_pos e]
      exact ⟨Nat.succ_pos _, e⟩
    · rw [if_neg e]
      rcases List.mem_cons.mp h with q | q
      · exact absurd q.symm e
      · obtain ⟨h1, h2⟩ := pos_ok v l q
        exact ⟨Nat.succ_lt_succ h1, h2⟩
def fiF (F : Nat → Nat) (v : Nat) : Nat → Nat
  | 0 => 0
  | d + 1 => if F d = v then d else fiF F v d
theorem fi_ok (F : Nat → Nat) (v : Nat) : ∀ m, (∃ i, i < m ∧ F i = v) → fiF F v m < m ∧ F (fiF F v m) = v
  | 0, ⟨i, hi, _⟩ => absurd hi (Nat.not_lt_zero i)
  | m + 1, ⟨i, hi, he⟩ => by
    rw [fiF]
    by_cases e : F m = v
    · rw [if_pos e]
      exact ⟨Nat.lt_succ_self m, e⟩
    · rw [if_neg e]
      have hne : i ≠ m := fun q => e (by rw [← q]; exact he)
      obtain ⟨h1, h2⟩ := fi_ok F v m ⟨i, by omega, he⟩
      exact ⟨by omega, h2⟩
/-- different ones out of a list are not more than the list has -/
theorem few {m : Nat} {F : Nat → Nat} {L : List Nat} (hF : ∀ i, i < m → F i ∈ L) (hinj : ∀ i j, i < m → j < m → F i = F j → i = j) : m ≤ L.length := by
  apply Nat.not_lt.mp
  intro hlt
  obtain ⟨i, j, hij, hj, he⟩ := hole (n := L.length) (fun i => posF (F i) L) (fun i hi => (pos_ok _ L (hF i (by omega))).1)
  have h1 := (pos_ok _ L (hF i (by omega))).2
  have h2 := (pos_ok _ L (hF j (by omega))).2
  have he : posF (F i) L = posF (F j) L := he
  rw [he] at h1
  have := hinj i j (by omega) (by omega) (h1.symm.trans h2)
  omega
theorem many {m : Nat} {F : Nat → Nat} {L : List Nat} (hL : ∀ v, v ∈ L → ∃ i, i < m ∧ F i = v) (hs : ∀ i j, i < j → j < L.length → L.getD i 0 < L.getD j 0) : L.length ≤ m := by
  apply Nat.not_lt.mp
  intro hlt
  have hm : ∀ a, a < L.length → L.getD a 0 ∈ L := fun a ha => by
    rw [List.getD_eq_getElem?_getD, List.getElem?_eq_getElem ha]
    exact List.getElem_mem ha
  obtain ⟨i, j, hij, hj, he⟩ := hole (n := m) (fun a => fiF F (L.getD a 0) m) (fun a ha => (fi_ok F _ m (hL _ (hm a (by omega)))).1)
  have h1 := (fi_ok F _ m (hL _ (hm i (by omega)))).2
  have h2 := (fi_ok F _ m (hL _ (hm j (by omega)))).2
  have he : fiF F (L.getD i 0) m = fiF F (L.getD j 0) m := he
  rw [he] at h1
  have := hs i j hij (by omega)
  have h3 := h1.symm.trans h2
  omega
def rotF (a i : Nat) : Nat → Nat := fun j => if j < a then j else if j = a then i else if j ≤ i then j - 1 else j
theorem rot_pm {n a i : Nat} (ha : a ≤ i) (hi : i < n) : IsPm n (rotF a i) := by
  refine ⟨fun j hj => ?_, fun j j2 hj hj2 he => ?_⟩
  · unfold rotF
    split
    · omega
    · split
      · omega
      · split <;> omega
  · have key : ∀ j, ∃ r, rotF a i j = r ∧ (j < a → r = j) ∧ (j = a → r = i) ∧ (a < j → j ≤ i → r + 1 = j) ∧ (i < j → r = j) := fun j => by
      unfold rotF
      by_cases q1 : j < a
      · exact ⟨j, if_pos q1, fun _ => rfl, fun q => absurd q (by omega), fun q => absurd q (by omega), fun _ => rfl⟩
      · rw [if_neg q1]
        by_cases q2 : j = a
        · exact ⟨i, if_pos q2, fun q => absurd q q1, fun _ => rfl, fun q => absurd q (by omega), fun q => absurd q (by omega)⟩
        · rw [if_neg q2]
          by_cases q3 : j ≤ i
          · exact ⟨j - 1, if_pos q3, fun q => absurd q q1, fun q => absurd q q2, fun _ _ => by omega, fun q => absurd q (by omega)⟩
          · exact ⟨j, if_neg q3, fun q => absurd q q1, fun q => absurd q q2, fun _ q => absurd q q3, fun _ => rfl⟩
    obtain ⟨r, e1, a1, a2, a3, a4⟩ := key j
    obtain ⟨r2, e2, b1, b2, b3, b4⟩ := key j2
    have hr : r = r2 := e1.symm.trans (he.trans e2)
    omega
theorem pm_comp {n : Nat} {a b : Nat → Nat} (ha : IsPm n a) (hb : IsPm n b) : IsPm n (fun j => a (b j)) := ⟨fun j hj => ha.1 _ (hb.1 j hj), fun i j hi hj he => hb.2 i j hi hj (ha.2 _ _ (hb.1 i hi) (hb.1 j hj) he)⟩
set_option maxHeartbeats 4000000 in
set_option maxRecDepth 100000 in
theorem m_packed (k : Nat) {xP xS xsd xbo : Int32} {xod xkn xhs xmm xln xot xfa xgr xtsr xtsz xce xmv xtc : Nat → Int32} {xwy xnx xch xaf xfo xco : Nat → Int64} {n : Nat} (hn : n ≤ 10) (l : Nat → Nat) (hl : ∀ c, c < n → xln c = nI (l c)) (hb : ∀ c, c < n → l c < 16) : Runs yX8_packed cX8_packed 4 (some .long) (k) [.ref 0] (mkH 20 (mdF (nI n) xP xS xsd xod xkn xhs xmm xln xot xwy xnx xch xaf xfa xgr xfo xco xtsr xtsz xce xmv xtc xbo)) (fun o h' => ∃ r : Int64, o = some (.long r) ∧ r = lN (pkN l n) ∧ mkH 20 (mdF (nI n) xP xS xsd xod xkn xhs xmm xln xot xwy xnx xch xaf xfa xgr xfo xco xtsr xtsz xce xmv xtc xbo) = h') := by
  refine Runs.of (by decide) (Nat.le_of_ble_eq_true rfl) [some (.ref 0), none, none, none] 3 rfl (fun Γ g z => ?_)
  have loop : ∀ i, i ≤ n → PB Γ 4 [some (.ref 0), some (.long (lN (pkN l i))), none, some (.int (nI i))] [] (mkH 20 (mdF (nI n) xP xS xsd xod xkn xhs xmm xln xot xwy xnx xch xaf xfa xgr xfo xco xtsr xtsz xce xmv xtc xbo)) := by
    refine pb_loop n (fun i hi ih => ?_)
    by_cases hin : i < n
    · have ih := ih hin
      have hbi := hb i hin
      rw [pkN] at ih
      refine pb_iload_n3 g dX8_packed_4 ?_
      refine pb_aload_n0 g dX8_packed_5 ?_
      refine pb_getf g fX8_7 dX8_packed_6 mr_o rfl ?_
      first | refine pb_icmp_geN g 30 dX8_packed_9 (by decide) (by omega) (by omega) (fun c9 => ?_) (fun c9 => ?_) | refine pb_icmp_ge g 30 dX8_packed_9 (by decide) (fun c9 => ?_) (fun c9 => ?_)
      · exact absurd c9 (by omega)
      · refine pb_lload_n1 g dX8_packed_12 ?_
        refine pb_iconst (v := nI 4) g dX8_packed_13 (by decide) ?_
        refine pb_lshl g dX8_packed_14 ?_
        rw [lsh_ok]
        refine pb_aload_n0 g dX8_packed_15 ?_
        refine pb_getf g fX8_26 dX8_packed_16 mr_o rfl ?_
        refine pb_iload_n3 g dX8_packed_19 ?_
        first | refine pb_ialdN g dX8_packed_20 (by first | exact mr_line | exact mr_order | exact mr_kind | exact mr_heaps | exact mr_m | exact mr_other | exact mr_ways | exact mr_next | exact mr_chances | exact mr_after | exact mr_far | exact mr_groups | exact mr_found | exact mr_counts | exact mr_traySort | exact mr_traySize | exact mr_cells | exact mr_moved | exact mr_traced | assumption) (by omega) (by omega) ?_ | refine pb_ald0 g dX8_packed_20 (by omega) ?_ | refine pb_ald1 g dX8_packed_20 (by omega) ?_ | refine pb_ald2 g dX8_packed_20 (by omega) ?_ | refine pb_ald3 g dX8_packed_20 (by omega) ?_ | refine pb_iald g dX8_packed_20 (by first | exact mr_line | exact mr_order | exact mr_kind | exact mr_heaps | exact mr_m | exact mr_other | exact mr_ways | exact mr_next | exact mr_chances | exact mr_after | exact mr_far | exact mr_groups | exact mr_found | exact mr_counts | exact mr_traySort | exact mr_traySize | exact mr_cells | exact mr_moved | exact mr_traced | assumption) (by assumption) ?_
        rw [hl i hin]
        first | refine pb_i2lN g dX8_packed_21 (by omega) ?_ | refine pb_i2l g dX8_packed_21 ?_
        refine pb_lor g dX8_packed_22 ?_
        rw [lor_ok, or_add hbi]
        refine pb_lstore_n1 g dX8_packed_23 (by decide) ?_
        first | refine pb_iinc3N g dX8_packed_24 (by decide) ?_ | refine pb_iinc3 g dX8_packed_24 (by decide) rfl ?_
        refine pb_goto g 4 dX8_packed_27 (by decide) ?_
        exact ih
    · obtain rfl : i = n := by omega
      refine pb_iload_n3 g dX8_packed_4 ?_
      refine pb_aload_n0 g dX8_packed_5 ?_
      refine pb_getf g fX8_7 dX8_packed_6 mr_o rfl ?_
      first | refine pb_icmp_geN g 30 dX8_packed_9 (by decide) (by omega) (by omega) (fun c9 => ?_) (fun c9 => ?_) | refine pb_icmp_ge g 30 dX8_packed_9 (by decide) (fun c9 => ?_) (fun c9 => ?_)
      · refine pb_lload_n1 g dX8_packed_30 ?_
        refine pb_lret g z dX8_packed_31 ?_
        exact ⟨_, rfl, rfl, rfl⟩
      · exact absurd c9 (by omega)
  refine pb_lconst (v := lN 0) g dX8_packed_0 rfl ?_
  refine pb_lstore_n1 g dX8_packed_1 (by decide) ?_
  refine pb_iconst (v := nI 0) g dX8_packed_2 (by decide) ?_
  refine pb_istore_n3 g dX8_packed_3 (by decide) ?_
  exact loop 0 (Nat.zero_le _)
set_option maxHeartbeats 4000000 in
set_option maxRecDepth 100000 in
theorem m_isListedF (k : Nat) {xn xP xS xsd xbo : Int32} {xod xkn xhs xmm xln xot xfa xgr xtsr xtsz xce xmv xtc : Nat → Int32} {xwy xnx xch xaf xfo xco : Nat → Int64} {W a b : Nat} (F : Nat → Nat) (hW : W < 2 ^ 63) (hb : b ≤ 4200) (hab : a ≤ b) (hF : ∀ i, i < b → xfo i = lN (F i) ∧ F i < 2 ^ 63) (hno : ∀ i, a ≤ i → i < b → ¬ F i = W) : Runs yX8_isListed cX8_isListed 6 (some .boolean) (k) [.ref 0, .long (lN W), .int (nI a), .int (nI b)] (mkH 20 (mdF xn xP xS xsd xod xkn xhs xmm xln xot xwy xnx xch xaf xfa xgr xfo xco xtsr xtsz xce xmv xtc xbo)) (fun o h' => ∃ r : Int32, o = some (.int r) ∧ r = nI 0 ∧ mkH 20 (mdF xn xP xS xsd xod xkn xhs xmm xln xot xwy xnx xch xaf xfa xgr xfo xco xtsr xtsz xce xmv xtc xbo) = h') := by
  refine Runs.of (by decide) (Nat.le_of_ble_eq_true rfl) [some (.ref 0), some (.long (lN W)), none, some (.int (nI a)), some (.int (nI b)), none] 1 rfl (fun Γ g z => ?_)
  have loop : ∀ d, d ≤ b - a → PB Γ 3 [some (.ref 0), some (.long (lN W)), none, some (.int (nI a)), some (.int (nI b)), some (.int (nI (a + d)))] [] (mkH 20 (mdF xn xP xS xsd xod xkn xhs xmm xln xot xwy xnx xch xaf xfa xgr xfo xco xtsr xtsz xce xmv xtc xbo)) := by
    refine pb_loop (b - a) (fun d hd ih => ?_)
    by_cases hdb : a + d < b
    · have ih := ih (by omega)
      have hne := hno (a + d) (by omega) hdb
      have hFd := (hF (a + d) hdb).2
      refine pb_iload5 g dX8_isListed_3 ?_
      refine pb_iload4 g dX8_isListed_5 ?_
      first | refine pb_icmp_geN g 30 dX8_isListed_7 (by decide) (by omega) (by omega) (fun c7 => ?_) (fun c7 => ?_) | refine pb_icmp_ge g 30 dX8_isListed_7 (by decide) (fun c7 => ?_) (fun c7 => ?_)
      · exact absurd c7 (by omega)
      · refine pb_aload_n0 g dX8_isListed_10 ?_
        refine pb_getf g fX8_51 dX8_isListed_11 mr_o rfl ?_
        refine pb_iload5 g dX8_isListed_14 ?_
        first | refine pb_laldN g dX8_isListed_16 (by first | exact mr_found | exact mr_order | exact mr_kind | exact mr_heaps | exact mr_m | exact mr_line | exact mr_other | exact mr_ways | exact mr_next | exact mr_chances | exact mr_after | exact mr_far | exact mr_groups | exact mr_counts | exact mr_traySort | exact mr_traySize | exact mr_cells | exact mr_moved | exact mr_traced | assumption) (by omega) (by omega) ?_ | refine pb_lald g dX8_isListed_16 (by first | exact mr_found | exact mr_order | exact mr_kind | exact mr_heaps | exact mr_m | exact mr_line | exact mr_other | exact mr_ways | exact mr_next | exact mr_chances | exact mr_after | exact mr_far | exact mr_groups | exact mr_counts | exact mr_traySort | exact mr_traySize | exact mr_cells | exact mr_moved | exact mr_traced | assumption) (by assumption) ?_
        rw [(hF (a + d) hdb).1]
        refine pb_lload_n1 g dX8_isListed_17 ?_
        first | refine pb_lc_neN g 24 dX8_isListed_18 dX8_isListed_19 (by decide) (by omega) (by omega) (fun c18 => ?_) (fun c18 => ?_) | refine pb_lc_ne g 24 dX8_isListed_18 dX8_isListed_19 (by decide) (fun c18 => ?_) (fun c18 => ?_)
        · first | refine pb_iinc5N g dX8_isListed_24 (by decide) ?_ | refine pb_iinc5 g dX8_isListed_24 (by decide) rfl ?_
          refine pb_goto g 3 dX8_isListed_27 (by decide) ?_
          exact ih
        · exact absurd c18 hne
    · have : True := trivial
      refine pb_iload5 g dX8_isListed_3 ?_
      refine pb_iload4 g dX8_isListed_5 ?_
      first | refine pb_icmp_geN g 30 dX8_isListed_7 (by decide) (by omega) (by omega) (fun c7 => ?_) (fun c7 => ?_) | refine pb_icmp_ge g 30 dX8_isListed_7 (by decide) (fun c7 => ?_) (fun c7 => ?_)
      · refine pb_iconst (v := nI 0) g dX8_isListed_30 (by decide) ?_
        refine pb_zret g z dX8_isListed_31 (by first | rfl | decide) ?_
        exact ⟨_, rfl, rfl, rfl⟩
      · exact absurd c7 (by omega)
  refine pb_iload_n3 g dX8_isListed_0 ?_
  refine pb_istore5 g dX8_isListed_1 (by decide) ?_
  exact loop 0 (Nat.zero_le _)
set_option maxHeartbeats 4000000 in
set_option maxRecDepth 100000 in
theorem m_isListedT (k : Nat) {xn xP xS xsd xbo : Int32} {xod xkn xhs xmm xln xot xfa xgr xtsr xtsz xce xmv xtc : Nat → Int32} {xwy xnx xch xaf xfo xco : Nat → Int64} {W a b : Nat} (F : Nat → Nat) (hW : W < 2 ^ 63) (hb : b ≤ 4200) (hab : a ≤ b) (hF : ∀ i, i < b → xfo i = lN (F i) ∧ F i < 2 ^ 63) (hex : ∃ i, a ≤ i ∧ i < b ∧ F i = W) : Runs yX8_isListed cX8_isListed 6 (some .boolean) (k) [.ref 0, .long (lN W), .int (nI a), .int (nI b)] (mkH 20 (mdF xn xP xS xsd xod xkn xhs xmm xln xot xwy xnx xch xaf xfa xgr xfo xco xtsr xtsz xce xmv xtc xbo)) (fun o h' => ∃ r : Int32, o = some (.int r) ∧ r = nI 1 ∧ mkH 20 (mdF xn xP xS xsd xod xkn xhs xmm xln xot xwy xnx xch xaf xfa xgr xfo xco xtsr xtsz xce xmv xtc xbo) = h') := by
  refine Runs.of (by decide) (Nat.le_of_ble_eq_true rfl) [some (.ref 0), some (.long (lN W)), none, some (.int (nI a)), some (.int (nI b)), none] 1 rfl (fun Γ g z => ?_)
  obtain ⟨i0, hi1, hi2, hi3⟩ := hex
  have loop : ∀ d, d ≤ i0 - a → PB Γ 3 [some (.ref 0), some (.long (lN W)), none, some (.int (nI a)), some (.int (nI b)), some (.int (nI (a + d)))] [] (mkH 20 (mdF xn xP xS xsd xod xkn xhs xmm xln xot xwy xnx xch xaf xfa xgr xfo xco xtsr xtsz xce xmv xtc xbo)) := by
    refine pb_loop (i0 - a) (fun d hd ih => ?_)
    have hdb : a + d < b := by omega
    have hFd := (hF (a + d) hdb).2
    refine pb_iload5 g dX8_isListed_3 ?_
    refine pb_iload4 g dX8_isListed_5 ?_
    first | refine pb_icmp_geN g 30 dX8_isListed_7 (by decide) (by omega) (by omega) (fun c7 => ?_) (fun c7 => ?_) | refine pb_icmp_ge g 30 dX8_isListed_7 (by decide) (fun c7 => ?_) (fun c7 => ?_)
    · exact absurd c7 (by omega)
    · refine pb_aload_n0 g dX8_isListed_10 ?_
      refine pb_getf g fX8_51 dX8_isListed_11 mr_o rfl ?_
      refine pb_iload5 g dX8_isListed_14 ?_
      first | refine pb_laldN g dX8_isListed_16 (by first | exact mr_found | exact mr_order | exact mr_kind | exact mr_heaps | exact mr_m | exact mr_line | exact mr_other | exact mr_ways | exact mr_next | exact mr_chances | exact mr_after | exact mr_far | exact mr_groups | exact mr_counts | exact mr_traySort | exact mr_traySize | exact mr_cells | exact mr_moved | exact mr_traced | assumption) (by omega) (by omega) ?_ | refine pb_lald g dX8_isListed_16 (by first | exact mr_found | exact mr_order | exact mr_kind | exact mr_heaps | exact mr_m | exact mr_line | exact mr_other | exact mr_ways | exact mr_next | exact mr_chances | exact mr_after | exact mr_far | exact mr_groups | exact mr_counts | exact mr_traySort | exact mr_traySize | exact mr_cells | exact mr_moved | exact mr_traced | assumption) (by assumption) ?_
      rw [(hF (a + d) hdb).1]
      refine pb_lload_n1 g dX8_isListed_17 ?_
      first | refine pb_lc_neN g 24 dX8_isListed_18 dX8_isListed_19 (by decide) (by omega) (by omega) (fun c18 => ?_) (fun c18 => ?_) | refine pb_lc_ne g 24 dX8_isListed_18 dX8_isListed_19 (by decide) (fun c18 => ?_) (fun c18 => ?_)
      · first | refine pb_iinc5N g dX8_isListed_24 (by decide) ?_ | refine pb_iinc5 g dX8_isListed_24 (by decide) rfl ?_
        refine pb_goto g 3 dX8_isListed_27 (by decide) ?_
        exact ih (Nat.lt_of_le_of_ne hd (fun q => c18 (by rw [show a + d = i0 by omega]; exact hi3)))
      · refine pb_iconst (v := nI 1) g dX8_isListed_22 (by decide) ?_
        refine pb_zret g z dX8_isListed_23 (by first | rfl | decide) ?_
        exact ⟨_, rfl, rfl, rfl⟩
  refine pb_iload_n3 g dX8_isListed_0 ?_
  refine pb_istore5 g dX8_isListed_1 (by decide) ?_
  exact loop 0 (Nat.zero_le _)
set_option maxHeartbeats 4000000 in
set_option maxRecDepth 100000 in
theorem m_isFoundF (k : Nat) {xn xP xS xsd xbo : Int32} {xod xkn xhs xmm xln xot xfa xgr xtsr xtsz xce xmv xtc : Nat → Int32} {xwy xnx xch xaf xfo xco : Nat → Int64} {W A : Nat} (F : Nat → Nat) (hW : W < 2 ^ 63) (hA : A ≤ 4200) (hF : ∀ i, i < A → xfo i = lN (F i) ∧ F i < 2 ^ 63) (hno : ∀ i, i < A → ¬ F i = W) : Runs yX8_isFound cX8_isFound 7 (some .boolean) (k) [.ref 0, .long (lN W), .int (nI A)] (mkH 20 (mdF xn xP xS xsd xod xkn xhs xmm xln xot xwy xnx xch xaf xfa xgr xfo xco xtsr xtsz xce xmv xtc xbo)) (fun o h' => ∃ r : Int32, o = some (.int r) ∧ r = nI 0 ∧ mkH 20 (mdF xn xP xS xsd xod xkn xhs xmm xln xot xwy xnx xch xaf xfa xgr xfo xco xtsr xtsz xce xmv xtc xbo) = h') := by
  refine Runs.of (by decide) (Nat.le_of_ble_eq_true rfl) [some (.ref 0), some (.long (lN W)), none, some (.int (nI A)), none, none, none] 3 rfl (fun Γ g z => ?_)
  have loop : ∀ d lo hi, hi ≤ lo + d → hi ≤ A → lo ≤ A → ∀ w6 : Option Value, PB Γ 8 [some (.ref 0), some (.long (lN W)), none, some (.int (nI A)), some (.int (nI lo)), some (.int (nI hi - nI 1)), w6] [] (mkH 20 (mdF xn xP xS xsd xod xkn xhs xmm xln xot xwy xnx xch xaf xfa xgr xfo xco xtsr xtsz xce xmv xtc xbo)) := by
    intro d
    induction d with
    | zero =>
      intro lo hi h1 h2 h3 w6
      have hgt : nI hi - nI 1 < nI lo := by
        cases hi with
        | zero => exact Int32.lt_of_lt_of_le (show nI 0 - nI 1 < 0 by decide) (nI_pos' (by omega))
        | succ h =>
          rw [show nI (h + 1) - nI 1 = nI h from nI_pred h]
          exact (nI_ltI (by omega) (by omega)).mpr (by omega)
      refine pb_iload4 g dX8_isFound_8 ?_
      refine pb_iload5 g dX8_isFound_10 ?_
      first | refine pb_icmp_gtN g 68 dX8_isFound_12 (by decide) (by omega) (by omega) (fun c12 => ?_) (fun c12 => ?_) | refine pb_icmp_gt g 68 dX8_isFound_12 (by decide) (fun c12 => ?_) (fun c12 => ?_)
      · refine pb_iconst (v := nI 0) g dX8_isFound_68 (by decide) ?_
        refine pb_zret g z dX8_isFound_69 (by first | rfl | decide) ?_
        exact ⟨_, rfl, rfl, rfl⟩
      · exact absurd hgt c12
    | succ d ih =>
      intro lo hi h1 h2 h3 w6
      by_cases hlh : lo < hi
      · obtain ⟨h, rfl⟩ : ∃ h, hi = h + 1 := ⟨hi - 1, by omega⟩
        rw [show nI (h + 1) - nI 1 = nI h from nI_pred h]
        have hmA : (lo + h) / 2 < A := by omega
        obtain ⟨hm1, hm2⟩ := hF _ hmA
        have ihR : F ((lo + h) / 2) < W → ∀ w6 : Option Value, PB Γ 8 [some (.ref 0), some (.long (lN W)), none, some (.int (nI A)), some (.int (nI ((lo + h) / 2 + 1))), some (.int (nI h)), w6] [] (mkH 20 (mdF xn xP xS xsd xod xkn xhs xmm xln xot xwy xnx xch xaf xfa xgr xfo xco xtsr xtsz xce xmv xtc xbo)) := fun hlt => by
          have z9 := ih ((lo + h) / 2 + 1) (h + 1) (by omega) (by omega) (by omega)
          rw [show nI (h + 1) - nI 1 = nI h from nI_pred h] at z9
          exact z9
        have ihL : W < F ((lo + h) / 2) → ∀ w6 : Option Value, PB Γ 8 [some (.ref 0), some (.long (lN W)), none, some (.int (nI A)), some (.int (nI lo)), some (.int (nI ((lo + h) / 2) - nI 1)), w6] [] (mkH 20 (mdF xn xP xS xsd xod xkn xhs xmm xln xot xwy xnx xch xaf xfa xgr xfo xco xtsr xtsz xce xmv xtc xbo)) := fun hlt => ih lo ((lo + h) / 2) (by omega) (by omega) (by omega)
        refine pb_iload4 g dX8_isFound_8 ?_
        refine pb_iload5 g dX8_isFound_10 ?_
        first | refine pb_icmp_gtN g 68 dX8_isFound_12 (by decide) (by omega) (by omega) (fun c12 => ?_) (fun c12 => ?_) | refine pb_icmp_gt g 68 dX8_isFound_12 (by decide) (fun c12 => ?_) (fun c12 => ?_)
        · exact absurd c12 (by omega)
        · refine pb_iload4 g dX8_isFound_15 ?_
          refine pb_iload5 g dX8_isFound_17 ?_
          first | refine pb_iaddN g dX8_isFound_19 ?_ | refine pb_iadd g dX8_isFound_19 ?_
          refine pb_iconst (v := nI 2) g dX8_isFound_20 (by decide) ?_
          first | refine pb_idivN g dX8_isFound_21 (by omega) (by omega) (by omega) ?_ | refine pb_idiv g dX8_isFound_21 (by assumption) ?_
          refine pb_istore6 g dX8_isFound_22 (by decide) ?_
          refine pb_aload_n0 g dX8_isFound_24 ?_
          refine pb_getf g fX8_51 dX8_isFound_25 mr_o rfl ?_
          refine pb_iload6 g dX8_isFound_28 ?_
          first | refine pb_laldN g dX8_isFound_30 (by first | exact mr_found | exact mr_order | exact mr_kind | exact mr_heaps | exact mr_m | exact mr_line | exact mr_other | exact mr_ways | exact mr_next | exact mr_chances | exact mr_after | exact mr_far | exact mr_groups | exact mr_counts | exact mr_traySort | exact mr_traySize | exact mr_cells | exact mr_moved | exact mr_traced | assumption) (by omega) (by omega) ?_ | refine pb_lald g dX8_isFound_30 (by first | exact mr_found | exact mr_order | exact mr_kind | exact mr_heaps | exact mr_m | exact mr_line | exact mr_other | exact mr_ways | exact mr_next | exact mr_chances | exact mr_after | exact mr_far | exact mr_groups | exact mr_counts | exact mr_traySort | exact mr_traySize | exact mr_cells | exact mr_moved | exact mr_traced | assumption) (by assumption) ?_
          rw [hm1]
          refine pb_lload_n1 g dX8_isFound_31 ?_
          first | refine pb_lc_neN g 38 dX8_isFound_32 dX8_isFound_33 (by decide) (by omega) (by omega) (fun c32 => ?_) (fun c32 => ?_) | refine pb_lc_ne g 38 dX8_isFound_32 dX8_isFound_33 (by decide) (fun c32 => ?_) (fun c32 => ?_)
          · refine pb_aload_n0 g dX8_isFound_38 ?_
            refine pb_getf g fX8_51 dX8_isFound_39 mr_o rfl ?_
            refine pb_iload6 g dX8_isFound_42 ?_
            first | refine pb_laldN g dX8_isFound_44 (by first | exact mr_found | exact mr_order | exact mr_kind | exact mr_heaps | exact mr_m | exact mr_line | exact mr_other | exact mr_ways | exact mr_next | exact mr_chances | exact mr_after | exact mr_far | exact mr_groups | exact mr_counts | exact mr_traySort | exact mr_traySize | exact mr_cells | exact mr_moved | exact mr_traced | assumption) (by omega) (by omega) ?_ | refine pb_lald g dX8_isFound_44 (by first | exact mr_found | exact mr_order | exact mr_kind | exact mr_heaps | exact mr_m | exact mr_line | exact mr_other | exact mr_ways | exact mr_next | exact mr_chances | exact mr_after | exact mr_far | exact mr_groups | exact mr_counts | exact mr_traySort | exact mr_traySize | exact mr_cells | exact mr_moved | exact mr_traced | assumption) (by assumption) ?_
            rw [hm1]
            refine pb_lload_n1 g dX8_isFound_45 ?_
            first | refine pb_lc_geN g 59 dX8_isFound_46 dX8_isFound_47 (by decide) (by omega) (by omega) (fun c46 => ?_) (fun c46 => ?_) | refine pb_lc_ge g 59 dX8_isFound_46 dX8_isFound_47 (by decide) (fun c46 => ?_) (fun c46 => ?_)
            · refine pb_iload6 g dX8_isFound_59 ?_
              refine pb_iconst (v := nI 1) g dX8_isFound_61 (by decide) ?_
              refine pb_isub g dX8_isFound_62 ?_
              refine pb_istore5 g dX8_isFound_63 (by decide) ?_
              refine pb_goto g 8 dX8_isFound_65 (by decide) ?_
              first | exact ihR (by omega) _ | exact ihL (by omega) _
            · refine pb_iload6 g dX8_isFound_50 ?_
              refine pb_iconst (v := nI 1) g dX8_isFound_52 (by decide) ?_
              first | refine pb_iaddN g dX8_isFound_53 ?_ | refine pb_iadd g dX8_isFound_53 ?_
              refine pb_istore4 g dX8_isFound_54 (by decide) ?_
              refine pb_goto g 65 dX8_isFound_56 (by decide) ?_
              refine pb_goto g 8 dX8_isFound_65 (by decide) ?_
              first | exact ihR (by omega) _ | exact ihL (by omega) _
          · exact absurd c32 (hno _ hmA)
      · have hgt : nI hi - nI 1 < nI lo := by
          cases hi with
          | zero => exact Int32.lt_of_lt_of_le (show nI 0 - nI 1 < 0 by decide) (nI_pos' (by omega))
          | succ h =>
            rw [show nI (h + 1) - nI 1 = nI h from nI_pred h]
            exact (nI_ltI (by omega) (by omega)).mpr (by omega)
        refine pb_iload4 g dX8_isFound_8 ?_
        refine pb_iload5 g dX8_isFound_10 ?_
        first | refine pb_icmp_gtN g 68 dX8_isFound_12 (by decide) (by omega) (by omega) (fun c12 => ?_) (fun c12 => ?_) | refine pb_icmp_gt g 68 dX8_isFound_12 (by decide) (fun c12 => ?_) (fun c12 => ?_)
        · refine pb_iconst (v := nI 0) g dX8_isFound_68 (by decide) ?_
          refine pb_zret g z dX8_isFound_69 (by first | rfl | decide) ?_
          exact ⟨_, rfl, rfl, rfl⟩
        · exact absurd hgt c12
  refine pb_iconst (v := nI 0) g dX8_isFound_0 (by decide) ?_
  refine pb_istore4 g dX8_isFound_1 (by decide) ?_
  refine pb_iload_n3 g dX8_isFound_3 ?_
  refine pb_iconst (v := nI 1) g dX8_isFound_4 (by decide) ?_
  refine pb_isub g dX8_isFound_5 ?_
  refine pb_istore5 g dX8_isFound_6 (by decide) ?_
  exact loop A 0 A (by omega) (Nat.le_refl A) (Nat.zero_le A) _
set_option maxHeartbeats 4000000 in
set_option maxRecDepth 100000 in
theorem m_isFoundT (k : Nat) {xn xP xS xsd xbo : Int32} {xod xkn xhs xmm xln xot xfa xgr xtsr xtsz xce xmv xtc : Nat → Int32} {xwy xnx xch xaf xfo xco : Nat → Int64} {W A : Nat} (F : Nat → Nat) (hW : W < 2 ^ 63) (hA : A ≤ 4200) (hF : ∀ i, i < A → xfo i = lN (F i) ∧ F i < 2 ^ 63) (hs : ∀ i j, i ≤ j → j < A → F i ≤ F j) (hex : ∃ i, i < A ∧ F i = W) : Runs yX8_isFound cX8_isFound 7 (some .boolean) (k) [.ref 0, .long (lN W), .int (nI A)] (mkH 20 (mdF xn xP xS xsd xod xkn xhs xmm xln xot xwy xnx xch xaf xfa xgr xfo xco xtsr xtsz xce xmv xtc xbo)) (fun o h' => ∃ r : Int32, o = some (.int r) ∧ r = nI 1 ∧ mkH 20 (mdF xn xP xS xsd xod xkn xhs xmm xln xot xwy xnx xch xaf xfa xgr xfo xco xtsr xtsz xce xmv xtc xbo) = h') := by
  refine Runs.of (by decide) (Nat.le_of_ble_eq_true rfl) [some (.ref 0), some (.long (lN W)), none, some (.int (nI A)), none, none, none] 3 rfl (fun Γ g z => ?_)
  obtain ⟨i0, hi0, hi1⟩ := hex
  have loop : ∀ d lo hi, hi ≤ lo + d → hi ≤ A → lo ≤ A → (lo ≤ i0 ∧ i0 < hi) → ∀ w6 : Option Value, PB Γ 8 [some (.ref 0), some (.long (lN W)), none, some (.int (nI A)), some (.int (nI lo)), some (.int (nI hi - nI 1)), w6] [] (mkH 20 (mdF xn xP xS xsd xod xkn xhs xmm xln xot xwy xnx xch xaf xfa xgr xfo xco xtsr xtsz xce xmv xtc xbo)) := by
    intro d
    induction d with
    | zero =>
      intro lo hi h1 h2 h3 h4 w6
      omega
    | succ d ih =>
      intro lo hi h1 h2 h3 h4 w6
      by_cases hlh : lo < hi
      · obtain ⟨h, rfl⟩ : ∃ h, hi = h + 1 := ⟨hi - 1, by omega⟩
        rw [show nI (h + 1) - nI 1 = nI h from nI_pred h]
        have hmA : (lo + h) / 2 < A := by omega
        obtain ⟨hm1, hm2⟩ := hF _ hmA
        have ihR : F ((lo + h) / 2) < W → ∀ w6 : Option Value, PB Γ 8 [some (.ref 0), some (.long (lN W)), none, some (.int (nI A)), some (.int (nI ((lo + h) / 2 + 1))), some (.int (nI h)), w6] [] (mkH 20 (mdF xn xP xS xsd xod xkn xhs xmm xln xot xwy xnx xch xaf xfa xgr xfo xco xtsr xtsz xce xmv xtc xbo)) := fun hlt => by
          have z9 := ih ((lo + h) / 2 + 1) (h + 1) (by omega) (by omega) (by omega) ⟨by
            apply Nat.not_lt.mp
            intro q
            have := hs i0 ((lo + h) / 2) (by omega) hmA
            omega, h4.2⟩
          rw [show nI (h + 1) - nI 1 = nI h from nI_pred h] at z9
          exact z9
        have ihL : W < F ((lo + h) / 2) → ∀ w6 : Option Value, PB Γ 8 [some (.ref 0), some (.long (lN W)), none, some (.int (nI A)), some (.int (nI lo)), some (.int (nI ((lo + h) / 2) - nI 1)), w6] [] (mkH 20 (mdF xn xP xS xsd xod xkn xhs xmm xln xot xwy xnx xch xaf xfa xgr xfo xco xtsr xtsz xce xmv xtc xbo)) := fun hlt => ih lo ((lo + h) / 2) (by omega) (by omega) (by omega) ⟨h4.1, by
          apply Nat.not_le.mp
          intro q
          have := hs ((lo + h) / 2) i0 q hi0
          omega⟩
        refine pb_iload4 g dX8_isFound_8 ?_
        refine pb_iload5 g dX8_isFound_10 ?_
        first | refine pb_icmp_gtN g 68 dX8_isFound_12 (by decide) (by omega) (by omega) (fun c12 => ?_) (fun c12 => ?_) | refine pb_icmp_gt g 68 dX8_isFound_12 (by decide) (fun c12 => ?_) (fun c12 => ?_)
        · exact absurd c12 (by omega)
        · refine pb_iload4 g dX8_isFound_15 ?_
          refine pb_iload5 g dX8_isFound_17 ?_
          first | refine pb_iaddN g dX8_isFound_19 ?_ | refine pb_iadd g dX8_isFound_19 ?_
          refine pb_iconst (v := nI 2) g dX8_isFound_20 (by decide) ?_
          first | refine pb_idivN g dX8_isFound_21 (by omega) (by omega) (by omega) ?_ | refine pb_idiv g dX8_isFound_21 (by assumption) ?_
          refine pb_istore6 g dX8_isFound_22 (by decide) ?_
          refine pb_aload_n0 g dX8_isFound_24 ?_
          refine pb_getf g fX8_51 dX8_isFound_25 mr_o rfl ?_
          refine pb_iload6 g dX8_isFound_28 ?_
          first | refine pb_laldN g dX8_isFound_30 (by first | exact mr_found | exact mr_order | exact mr_kind | exact mr_heaps | exact mr_m | exact mr_line | exact mr_other | exact mr_ways | exact mr_next | exact mr_chances | exact mr_after | exact mr_far | exact mr_groups | exact mr_counts | exact mr_traySort | exact mr_traySize | exact mr_cells | exact mr_moved | exact mr_traced | assumption) (by omega) (by omega) ?_ | refine pb_lald g dX8_isFound_30 (by first | exact mr_found | exact mr_order | exact mr_kind | exact mr_heaps | exact mr_m | exact mr_line | exact mr_other | exact mr_ways | exact mr_next | exact mr_chances | exact mr_after | exact mr_far | exact mr_groups | exact mr_counts | exact mr_traySort | exact mr_traySize | exact mr_cells | exact mr_moved | exact mr_traced | assumption) (by assumption) ?_
          rw [hm1]
          refine pb_lload_n1 g dX8_isFound_31 ?_
          first | refine pb_lc_neN g 38 dX8_isFound_32 dX8_isFound_33 (by decide) (by omega) (by omega) (fun c32 => ?_) (fun c32 => ?_) | refine pb_lc_ne g 38 dX8_isFound_32 dX8_isFound_33 (by decide) (fun c32 => ?_) (fun c32 => ?_)
          · refine pb_aload_n0 g dX8_isFound_38 ?_
            refine pb_getf g fX8_51 dX8_isFound_39 mr_o rfl ?_
            refine pb_iload6 g dX8_isFound_42 ?_
            first | refine pb_laldN g dX8_isFound_44 (by first | exact mr_found | exact mr_order | exact mr_kind | exact mr_heaps | exact mr_m | exact mr_line | exact mr_other | exact mr_ways | exact mr_next | exact mr_chances | exact mr_after | exact mr_far | exact mr_groups | exact mr_counts | exact mr_traySort | exact mr_traySize | exact mr_cells | exact mr_moved | exact mr_traced | assumption) (by omega) (by omega) ?_ | refine pb_lald g dX8_isFound_44 (by first | exact mr_found | exact mr_order | exact mr_kind | exact mr_heaps | exact mr_m | exact mr_line | exact mr_other | exact mr_ways | exact mr_next | exact mr_chances | exact mr_after | exact mr_far | exact mr_groups | exact mr_counts | exact mr_traySort | exact mr_traySize | exact mr_cells | exact mr_moved | exact mr_traced | assumption) (by assumption) ?_
            rw [hm1]
            refine pb_lload_n1 g dX8_isFound_45 ?_
            first | refine pb_lc_geN g 59 dX8_isFound_46 dX8_isFound_47 (by decide) (by omega) (by omega) (fun c46 => ?_) (fun c46 => ?_) | refine pb_lc_ge g 59 dX8_isFound_46 dX8_isFound_47 (by decide) (fun c46 => ?_) (fun c46 => ?_)
            · refine pb_iload6 g dX8_isFound_59 ?_
              refine pb_iconst (v := nI 1) g dX8_isFound_61 (by decide) ?_
              refine pb_isub g dX8_isFound_62 ?_
              refine pb_istore5 g dX8_isFound_63 (by decide) ?_
              refine pb_goto g 8 dX8_isFound_65 (by decide) ?_
              first | exact ihR (by omega) _ | exact ihL (by omega) _
            · refine pb_iload6 g dX8_isFound_50 ?_
              refine pb_iconst (v := nI 1) g dX8_isFound_52 (by decide) ?_
              first | refine pb_iaddN g dX8_isFound_53 ?_ | refine pb_iadd g dX8_isFound_53 ?_
              refine pb_istore4 g dX8_isFound_54 (by decide) ?_
              refine pb_goto g 65 dX8_isFound_56 (by decide) ?_
              refine pb_goto g 8 dX8_isFound_65 (by decide) ?_
              first | exact ihR (by omega) _ | exact ihL (by omega) _
          · refine pb_iconst (v := nI 1) g dX8_isFound_36 (by decide) ?_
            refine pb_zret g z dX8_isFound_37 (by first | rfl | decide) ?_
            exact ⟨_, rfl, rfl, rfl⟩
      · omega
  refine pb_iconst (v := nI 0) g dX8_isFound_0 (by decide) ?_
  refine pb_istore4 g dX8_isFound_1 (by decide) ?_
  refine pb_iload_n3 g dX8_isFound_3 ?_
  refine pb_iconst (v := nI 1) g dX8_isFound_4 (by decide) ?_
  refine pb_isub g dX8_isFound_5 ?_
  refine pb_istore5 g dX8_isFound_6 (by decide) ?_
  exact loop A 0 A (by omega) (Nat.le_refl A) (Nat.zero_le A) ⟨Nat.zero_le _, hi0⟩ _
