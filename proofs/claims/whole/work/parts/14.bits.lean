/-! ===== the pure machine: bits, and Math's functions ===== -/
theorem bs_l : ∀ n, n < 32 → ((nI n &&& 31).toBitVec.smod 32).toNat = n := by decide
theorem bs_u : ∀ n, n < 32 → (((nI n).toUInt32 &&& Int32.toUInt32 31).toBitVec % 32).toNat = n := by decide
theorem nI_or (a b : Nat) : nI a ||| nI b = nI (a ||| b) := by
  apply Int32.toBitVec.inj
  show BitVec.ofNat 32 a ||| BitVec.ofNat 32 b = BitVec.ofNat 32 (a ||| b)
  apply BitVec.eq_of_getLsbD_eq
  intro i hi
  simp [BitVec.getLsbD_ofNat, hi]
section PBB
variable {Γ : GT} {y : MethodName} {cc : ByteArray} {nL : Nat} {rt : Option FieldType} {k pc : Nat} {lv : List (Option Value)} {st : List Value} {h : PH} {Q : Option Value → PH → Prop}
theorem pb_iushrN (g : GM Γ y cc nL rt k) {a b : Nat} (hdg : decode cc pc = .ok (.iushr, 1)) (ha : a < 2 ^ 31) (hb : b < 32) (kk : PB Γ (pc + 1) lv (.int (nI (a / 2 ^ b)) :: st) h) : PB Γ pc lv (.int (nI b) :: .int (nI a) :: st) h := pb_iushr g hdg (by rw [pk_ushrN (by omega) (nI b) b (bs_u b hb)]; exact kk)
theorem pb_ishrN (g : GM Γ y cc nL rt k) {a b : Nat} (hdg : decode cc pc = .ok (.ishr, 1)) (ha : a < 2 ^ 31) (hb : b < 32) (kk : PB Γ (pc + 1) lv (.int (nI (a / 2 ^ b)) :: st) h) : PB Γ pc lv (.int (nI b) :: .int (nI a) :: st) h := pb_ishr g hdg (by rw [pk_shrN ha (nI b &&& 31) b (bs_l b hb)]; exact kk)
theorem pb_iandN (g : GM Γ y cc nL rt k) {a : Nat} (hdg : decode cc pc = .ok (.iand, 1)) (ha : a < 2 ^ 31) (kk : PB Γ (pc + 1) lv (.int (nI (a % 2)) :: st) h) : PB Γ pc lv (.int (nI 1) :: .int (nI a) :: st) h := pb_iand g hdg (by rw [pk_andN (n := a) (by omega) (m := nI 1) 1 (by decide)]; exact kk)
theorem pb_ishlN (g : GM Γ y cc nL rt k) {b : Nat} (hdg : decode cc pc = .ok (.ishl, 1)) (hb : b < 31) (kk : PB Γ (pc + 1) lv (.int (nI (2 ^ b)) :: st) h) : PB Γ pc lv (.int (nI b) :: .int (nI 1) :: st) h := pb_ishl g hdg (by rw [pk_shlN (nI b &&& 31) b (bs_l b (by omega)) (by rw [Nat.one_mul]; exact Nat.pow_lt_pow_right (by decide) (by omega)), Nat.one_mul]; exact kk)
theorem pb_iorN (g : GM Γ y cc nL rt k) {a b : Nat} (hdg : decode cc pc = .ok (.ior, 1)) (kk : PB Γ (pc + 1) lv (.int (nI (a ||| b)) :: st) h) : PB Γ pc lv (.int (nI b) :: .int (nI a) :: st) h := pb_ior g hdg (by rw [nI_or]; exact kk)
theorem pb_ldcw (g : GM Γ y cc nL rt k) {idx : Nat} {v w : Int32} (hc : Cond.constant y.cls idx v ∈ lw_g) (hv : v = w) (hdg : decode cc pc = .ok (.ldc_w idx, 3)) (kk : PB Γ (pc + 3) lv (.int w :: st) h) : PB Γ pc lv st h := by
  obtain ⟨⟨p, l, e, R, s, m⟩, ⟨args, below, meth, c⟩, ⟨D, ta, ad, sa, A⟩, cl, sl, Z⟩ := Γ
  obtain ⟨hx, hb, hml, hr, hlk, hown, hts, hR, hK, hA, hPS, hPN⟩ := g
  intro H locs ls hP hD hS hl
  subst hv
  exact lv_ldcw hx hb hown (hts _ hc) hdg (kk H locs ls hP hD hS hl)
theorem pb_mmax (g : GM Γ y cc nL rt k) {idx : Nat} (hC : PCS y.cls idx yJ9_max_7cf53 cJ9_max_7cf53 2 (some .int) 2) (hk : 1 ≤ k) (hdg : decode cc pc = .ok (.invokestatic idx, 3)) {a b : Nat} (na : a < 2 ^ 31) (nb : b < 2 ^ 31) (kk : PB Γ (pc + 3) lv (.int (nI (max a b)) :: st) h) (hw : (st.map fun v => v.category).sum ≤ 8 := by exact Nat.le_of_ble_eq_true rfl) : PB Γ pc lv (.int (nI b) :: .int (nI a) :: st) h := by
  obtain ⟨⟨p, l, e, R, s, m⟩, ⟨args, below, meth, c⟩, ⟨D, ta, ad, sa, A⟩, cl, sl, Z⟩ := Γ
  obtain ⟨hx, hb, hml, hr, hlk, hown, hts, hR, hK, hA, hPS, hPN⟩ := g
  intro H locs ls hP hD hS hl
  obtain ⟨⟨c1, c2, c3, c4, c5⟩, c6⟩ := hC
  refine va_mmax hx hb (hl.1.symm) hown (hts _ c2) (hts _ c6) (hts _ c3) (hts _ c1) (by omega) (by rw [pcv_sum]; omega) hR.2.2.1 hR.2.2.2 hdg ?_
  have e : (if nI a < nI b then nI b else nI a) = nI (max a b) := by
    by_cases q : a < b
    · rw [if_pos ((nI_ltI na nb).mpr q)]; congr 1; omega
    · rw [if_neg (fun z => q ((nI_ltI na nb).mp z))]; congr 1; omega
  rw [e]
  exact kk H locs ls hP hD hS hl
theorem pb_mmin (g : GM Γ y cc nL rt k) {idx : Nat} (hC : PCS y.cls idx yJ9_min_7cf53 cJ9_min_7cf53 2 (some .int) 2) (hk : 1 ≤ k) (hdg : decode cc pc = .ok (.invokestatic idx, 3)) {a b : Nat} (na : a < 2 ^ 31) (nb : b < 2 ^ 31) (kk : PB Γ (pc + 3) lv (.int (nI (min a b)) :: st) h) (hw : (st.map fun v => v.category).sum ≤ 8 := by exact Nat.le_of_ble_eq_true rfl) : PB Γ pc lv (.int (nI b) :: .int (nI a) :: st) h := by
  obtain ⟨⟨p, l, e, R, s, m⟩, ⟨args, below, meth, c⟩, ⟨D, ta, ad, sa, A⟩, cl, sl, Z⟩ := Γ
  obtain ⟨hx, hb, hml, hr, hlk, hown, hts, hR, hK, hA, hPS, hPN⟩ := g
  intro H locs ls hP hD hS hl
  obtain ⟨⟨c1, c2, c3, c4, c5⟩, c6⟩ := hC
  refine va_mmin hx hb (hl.1.symm) hown (hts _ c2) (hts _ c6) (hts _ c3) (hts _ c1) (by omega) (by rw [pcv_sum]; omega) hR.2.2.1 hR.2.2.2 hdg ?_
  refine Eq.mp (congrArg (fun z => W p l e R s m args below meth c H locs cl sl Z (F0 m (pc + 3) ls (.int z :: st.map (pcv ad sa)))) ?_) (kk H locs ls hP hD hS hl)
  by_cases q : a < b
  · simp [nI_ltI na nb, nI_ltI nb na, q, Nat.le_of_lt q, Nat.min_eq_left (Nat.le_of_lt q), Nat.not_lt.mpr (Nat.le_of_lt q)]
  · by_cases q2 : b < a
    · simp [nI_ltI na nb, nI_ltI nb na, q, q2, Nat.min_eq_right (Nat.le_of_lt q2)]
    · have e : a = b := by omega
      subst e
      simp
theorem pb_mmaxl (g : GM Γ y cc nL rt k) {idx : Nat} (hC : PCS y.cls idx yJ9_max_f86c9 cJ9_max_f86c9 4 (some .long) 2) (hk : 1 ≤ k) (hdg : decode cc pc = .ok (.invokestatic idx, 3)) {x z : Int64} (kk : PB Γ (pc + 3) lv (.long (if z < x then x else z) :: st) h) (hw : (st.map fun v => v.category).sum ≤ 8 := by exact Nat.le_of_ble_eq_true rfl) : PB Γ pc lv (.long z :: .long x :: st) h := by
  obtain ⟨⟨p, l, e, R, s, m⟩, ⟨args, below, meth, c⟩, ⟨D, ta, ad, sa, A⟩, cl, sl, Z⟩ := Γ
  obtain ⟨hx, hb, hml, hr, hlk, hown, hts, hR, hK, hA, hPS, hPN⟩ := g
  intro H locs ls hP hD hS hl
  obtain ⟨⟨c1, c2, c3, c4, c5⟩, c6⟩ := hC
  exact va_mmax_long hx hb (hl.1.symm) hown (hts _ c2) (hts _ c6) (hts _ c3) (hts _ c1) (by omega) (by rw [pcv_sum]; omega) hR.2.2.1 hR.2.2.2 hdg (kk H locs ls hP hD hS hl)
theorem pb_mmaxlN (g : GM Γ y cc nL rt k) {idx : Nat} (hC : PCS y.cls idx yJ9_max_f86c9 cJ9_max_f86c9 4 (some .long) 2) (hk : 1 ≤ k) (hdg : decode cc pc = .ok (.invokestatic idx, 3)) {a b : Nat} (ha : a < 2 ^ 63) (hb : b < 2 ^ 63) (kk : PB Γ (pc + 3) lv (.long (lN (max a b)) :: st) h) (hw : (st.map fun v => v.category).sum ≤ 8 := by exact Nat.le_of_ble_eq_true rfl) : PB Γ pc lv (.long (lN b) :: .long (lN a) :: st) h := by
  refine pb_mmaxl g hC hk hdg ?_ hw
  have e : (if lN b < lN a then lN a else lN b) = lN (max a b) := by
    by_cases q : b < a
    · rw [if_pos ((pk_lLT hb ha).mpr q)]; congr 1; omega
    · rw [if_neg (fun z => q ((pk_lLT hb ha).mp z))]; congr 1; omega
  rw [e]
  exact kk
theorem pb_mabsl (g : GM Γ y cc nL rt k) {idx : Nat} (hC : PCS y.cls idx yJ9_abs_067f4 cJ9_abs_067f4 2 (some .long) 1) (hk : 1 ≤ k) (hdg : decode cc pc = .ok (.invokestatic idx, 3)) {x : Int64} (kk : PB Γ (pc + 3) lv (.long (if 0 < x then x else -x) :: st) h) (hw : (st.map fun v => v.category).sum ≤ 8 := by exact Nat.le_of_ble_eq_true rfl) : PB Γ pc lv (.long x :: st) h := by
  obtain ⟨⟨p, l, e, R, s, m⟩, ⟨args, below, meth, c⟩, ⟨D, ta, ad, sa, A⟩, cl, sl, Z⟩ := Γ
  obtain ⟨hx, hb, hml, hr, hlk, hown, hts, hR, hK, hA, hPS, hPN⟩ := g
  intro H locs ls hP hD hS hl
  obtain ⟨⟨c1, c2, c3, c4, c5⟩, c6⟩ := hC
  exact va_mabs_long hx hb (hl.1.symm) hown (hts _ c2) (hts _ c6) (hts _ c3) (hts _ c1) (by omega) (by rw [pcv_sum]; omega) hR.2.2.1 hR.2.2.2 hdg (kk H locs ls hP hD hS hl)
end PBB
theorem pb_loop {S : Nat → Prop} (n : Nat) (hs : ∀ i, i ≤ n → (i < n → S (i + 1)) → S i) : ∀ i, i ≤ n → S i := by
  intro i hi
  obtain ⟨d, hd⟩ : ∃ d, i + d = n := ⟨n - i, by omega⟩
  induction d generalizing i with
  | zero => exact hs i hi (fun h => absurd h (by omega))
  | succ d ih => exact hs i hi (fun h => ih (i + 1) (by omega) (by omega))
/-- downwards -/
theorem pb_down {S : Nat → Prop} (hs : ∀ i, (∀ j, j + 1 = i → S j) → S i) : ∀ i, S i := by
  intro i
  induction i with
  | zero => exact hs 0 (fun j hj => by omega)
  | succ i ih => exact hs (i + 1) (fun j hj => (show j = i by omega) ▸ ih)
