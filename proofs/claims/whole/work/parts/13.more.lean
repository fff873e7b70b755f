/-! ===== the pure machine: longs as naturals, tables, switches ===== -/
section PBM
variable {Γ : GT} {y : MethodName} {cc : ByteArray} {nL : Nat} {rt : Option FieldType} {k pc : Nat} {lv : List (Option Value)} {st : List Value} {h : PH} {Q : Option Value → PH → Prop}
theorem pb_laddN (g : GM Γ y cc nL rt k) {a b : Nat} (hdg : decode cc pc = .ok (.ladd, 1)) (kk : PB Γ (pc + 1) lv (.long (lN (a + b)) :: st) h) : PB Γ pc lv (.long (lN b) :: .long (lN a) :: st) h := pb_ladd g hdg (by rw [lN_add]; exact kk)
theorem pb_lmulN (g : GM Γ y cc nL rt k) {a b : Nat} (hdg : decode cc pc = .ok (.lmul, 1)) (kk : PB Γ (pc + 1) lv (.long (lN (a * b)) :: st) h) : PB Γ pc lv (.long (lN b) :: .long (lN a) :: st) h := pb_lmul g hdg (by rw [lN_mul]; exact kk)
theorem pb_lsubN (g : GM Γ y cc nL rt k) {a b : Nat} (hdg : decode cc pc = .ok (.lsub, 1)) (hle : b ≤ a) (kk : PB Γ (pc + 1) lv (.long (lN (a - b)) :: st) h) : PB Γ pc lv (.long (lN b) :: .long (lN a) :: st) h := pb_lsub g hdg (by rw [lN_sub hle]; exact kk)
theorem lN_ne0 {b : Nat} (h0 : 0 < b) (hb : b < 2 ^ 63) : ¬ lN b = 0 := fun q => by
  have := (pk_lEQ hb (by decide)).mp (q.trans (show (0 : Int64) = lN 0 from rfl))
  omega
theorem pb_ldivN (g : GM Γ y cc nL rt k) {a b : Nat} (hdg : decode cc pc = .ok (.ldiv, 1)) (ha : a < 2 ^ 63) (h0 : 0 < b) (hb : b < 2 ^ 63) (kk : PB Γ (pc + 1) lv (.long (lN (a / b)) :: st) h) : PB Γ pc lv (.long (lN b) :: .long (lN a) :: st) h := pb_ldiv g hdg (lN_ne0 h0 hb) (by rw [pk_lDiv ha h0 hb]; exact kk)
theorem pb_lremN (g : GM Γ y cc nL rt k) {a b : Nat} (hdg : decode cc pc = .ok (.lrem, 1)) (ha : a < 2 ^ 63) (h0 : 0 < b) (hb : b < 2 ^ 63) (kk : PB Γ (pc + 1) lv (.long (lN (a % b)) :: st) h) : PB Γ pc lv (.long (lN b) :: .long (lN a) :: st) h := pb_lrem g hdg (lN_ne0 h0 hb) (by rw [pk_lRem ha h0 hb]; exact kk)
theorem pb_i2lN (g : GM Γ y cc nL rt k) {a : Nat} (hdg : decode cc pc = .ok (.i2l, 1)) (ha : a < 2 ^ 31) (kk : PB Γ (pc + 1) lv (.long (lN a) :: st) h) : PB Γ pc lv (.int (nI a) :: st) h := pb_i2l g hdg (by rw [nI_l ha]; exact kk)
theorem pb_l2iN (g : GM Γ y cc nL rt k) {a : Nat} (hdg : decode cc pc = .ok (.l2i, 1)) (kk : PB Γ (pc + 1) lv (.int (nI a) :: st) h) : PB Γ pc lv (.long (lN a) :: st) h := pb_l2i g hdg (by rw [lN_i]; exact kk)
theorem pb_ldc2w (g : GM Γ y cc nL rt k) {idx : Nat} {v w : Int64} (hc : Cond.constantLong y.cls idx v ∈ lw_g) (hv : v = w) (hdg : decode cc pc = .ok (.ldc2_w idx, 3)) (kk : PB Γ (pc + 3) lv (.long w :: st) h) : PB Γ pc lv st h := pb_ldc2 g hc hdg (by rw [hv]; exact kk)
theorem pb_lc_eq (g : GM Γ y cc nL rt k) {x z : Int64} {off : Int} (tgt : Nat) (d1 : decode cc pc = .ok (.lcmp, 1)) (d2 : decode cc (pc + 1) = .ok (.ifCond .eq off, 3)) (ht : ((pc + 1 : Nat) : Int) + off = (tgt : Int)) (kt : x = z → PB Γ tgt lv st h) (kf : ¬ x = z → PB Γ (pc + 4) lv st h) : PB Γ pc lv (.long z :: .long x :: st) h := pb_lcmp g d1 (pb_if_eq g tgt d2 ht (fun q => kt ((lg_cmp_eq x z).mp q)) (fun q => kf (fun w => q ((lg_cmp_eq x z).mpr w))))
theorem pb_lc_lt (g : GM Γ y cc nL rt k) {x z : Int64} {off : Int} (tgt : Nat) (d1 : decode cc pc = .ok (.lcmp, 1)) (d2 : decode cc (pc + 1) = .ok (.ifCond .lt off, 3)) (ht : ((pc + 1 : Nat) : Int) + off = (tgt : Int)) (kt : x < z → PB Γ tgt lv st h) (kf : ¬ x < z → PB Γ (pc + 4) lv st h) : PB Γ pc lv (.long z :: .long x :: st) h := pb_lcmp g d1 (pb_if_lt g tgt d2 ht (fun q => kt ((lg_cmp_lt x z).mp q)) (fun q => kf (fun w => q ((lg_cmp_lt x z).mpr w))))
theorem pb_lc_ge (g : GM Γ y cc nL rt k) {x z : Int64} {off : Int} (tgt : Nat) (d1 : decode cc pc = .ok (.lcmp, 1)) (d2 : decode cc (pc + 1) = .ok (.ifCond .ge off, 3)) (ht : ((pc + 1 : Nat) : Int) + off = (tgt : Int)) (kt : z ≤ x → PB Γ tgt lv st h) (kf : ¬ z ≤ x → PB Γ (pc + 4) lv st h) : PB Γ pc lv (.long z :: .long x :: st) h := pb_lcmp g d1 (pb_if_ge g tgt d2 ht (fun q => kt ((lg_cmp_ge x z).mp q)) (fun q => kf (fun w => q ((lg_cmp_ge x z).mpr w))))
theorem pb_lc_gt (g : GM Γ y cc nL rt k) {x z : Int64} {off : Int} (tgt : Nat) (d1 : decode cc pc = .ok (.lcmp, 1)) (d2 : decode cc (pc + 1) = .ok (.ifCond .gt off, 3)) (ht : ((pc + 1 : Nat) : Int) + off = (tgt : Int)) (kt : z < x → PB Γ tgt lv st h) (kf : ¬ z < x → PB Γ (pc + 4) lv st h) : PB Γ pc lv (.long z :: .long x :: st) h := pb_lcmp g d1 (pb_if_gt g tgt d2 ht (fun q => kt ((lg_cmp_gt x z).mp q)) (fun q => kf (fun w => q ((lg_cmp_gt x z).mpr w))))
theorem pb_lc_le (g : GM Γ y cc nL rt k) {x z : Int64} {off : Int} (tgt : Nat) (d1 : decode cc pc = .ok (.lcmp, 1)) (d2 : decode cc (pc + 1) = .ok (.ifCond .le off, 3)) (ht : ((pc + 1 : Nat) : Int) + off = (tgt : Int)) (kt : x ≤ z → PB Γ tgt lv st h) (kf : ¬ x ≤ z → PB Γ (pc + 4) lv st h) : PB Γ pc lv (.long z :: .long x :: st) h := pb_lcmp g d1 (pb_if_le g tgt d2 ht (fun q => kt ((lg_cmp_le x z).mp q)) (fun q => kf (fun w => q ((lg_cmp_le x z).mpr w))))
theorem pb_lc_ne (g : GM Γ y cc nL rt k) {x z : Int64} {off : Int} (tgt : Nat) (d1 : decode cc pc = .ok (.lcmp, 1)) (d2 : decode cc (pc + 1) = .ok (.ifCond .ne off, 3)) (ht : ((pc + 1 : Nat) : Int) + off = (tgt : Int)) (kt : ¬ x = z → PB Γ tgt lv st h) (kf : x = z → PB Γ (pc + 4) lv st h) : PB Γ pc lv (.long z :: .long x :: st) h := pb_lcmp g d1 (pb_if_ne g tgt d2 ht (fun q => kt (fun w => q ((lg_cmp_eq x z).mpr w))) (fun q => kf ((lg_cmp_eq x z).mp q)))
theorem pb_lc_eqN (g : GM Γ y cc nL rt k) {a b : Nat} {off : Int} (tgt : Nat) (d1 : decode cc pc = .ok (.lcmp, 1)) (d2 : decode cc (pc + 1) = .ok (.ifCond .eq off, 3)) (ht : ((pc + 1 : Nat) : Int) + off = (tgt : Int)) (ha : a < 2 ^ 63) (hb : b < 2 ^ 63) (kt : a = b → PB Γ tgt lv st h) (kf : ¬ a = b → PB Γ (pc + 4) lv st h) : PB Γ pc lv (.long (lN b) :: .long (lN a) :: st) h := pb_lc_eq g tgt d1 d2 ht (fun q => kt ((pk_lEQ ha hb).mp q)) (fun q => kf (fun w => q ((pk_lEQ ha hb).mpr w)))
theorem pb_lc_neN (g : GM Γ y cc nL rt k) {a b : Nat} {off : Int} (tgt : Nat) (d1 : decode cc pc = .ok (.lcmp, 1)) (d2 : decode cc (pc + 1) = .ok (.ifCond .ne off, 3)) (ht : ((pc + 1 : Nat) : Int) + off = (tgt : Int)) (ha : a < 2 ^ 63) (hb : b < 2 ^ 63) (kt : ¬ a = b → PB Γ tgt lv st h) (kf : a = b → PB Γ (pc + 4) lv st h) : PB Γ pc lv (.long (lN b) :: .long (lN a) :: st) h := pb_lc_ne g tgt d1 d2 ht (fun q => kt (fun w => q ((pk_lEQ ha hb).mpr w))) (fun q => kf ((pk_lEQ ha hb).mp q))
theorem pb_lc_ltN (g : GM Γ y cc nL rt k) {a b : Nat} {off : Int} (tgt : Nat) (d1 : decode cc pc = .ok (.lcmp, 1)) (d2 : decode cc (pc + 1) = .ok (.ifCond .lt off, 3)) (ht : ((pc + 1 : Nat) : Int) + off = (tgt : Int)) (ha : a < 2 ^ 63) (hb : b < 2 ^ 63) (kt : a < b → PB Γ tgt lv st h) (kf : b ≤ a → PB Γ (pc + 4) lv st h) : PB Γ pc lv (.long (lN b) :: .long (lN a) :: st) h := pb_lc_lt g tgt d1 d2 ht (fun q => kt ((pk_lLT ha hb).mp q)) (fun q => kf (Nat.not_lt.mp fun w => q ((pk_lLT ha hb).mpr w)))
theorem pb_lc_geN (g : GM Γ y cc nL rt k) {a b : Nat} {off : Int} (tgt : Nat) (d1 : decode cc pc = .ok (.lcmp, 1)) (d2 : decode cc (pc + 1) = .ok (.ifCond .ge off, 3)) (ht : ((pc + 1 : Nat) : Int) + off = (tgt : Int)) (ha : a < 2 ^ 63) (hb : b < 2 ^ 63) (kt : b ≤ a → PB Γ tgt lv st h) (kf : a < b → PB Γ (pc + 4) lv st h) : PB Γ pc lv (.long (lN b) :: .long (lN a) :: st) h := pb_lc_ge g tgt d1 d2 ht (fun q => kt ((pk_lLE hb ha).mp q)) (fun q => kf (Nat.not_le.mp fun w => q ((pk_lLE hb ha).mpr w)))
theorem pb_lc_gtN (g : GM Γ y cc nL rt k) {a b : Nat} {off : Int} (tgt : Nat) (d1 : decode cc pc = .ok (.lcmp, 1)) (d2 : decode cc (pc + 1) = .ok (.ifCond .gt off, 3)) (ht : ((pc + 1 : Nat) : Int) + off = (tgt : Int)) (ha : a < 2 ^ 63) (hb : b < 2 ^ 63) (kt : b < a → PB Γ tgt lv st h) (kf : a ≤ b → PB Γ (pc + 4) lv st h) : PB Γ pc lv (.long (lN b) :: .long (lN a) :: st) h := pb_lc_gt g tgt d1 d2 ht (fun q => kt ((pk_lLT hb ha).mp q)) (fun q => kf (Nat.not_lt.mp fun w => q ((pk_lLT hb ha).mpr w)))
theorem pb_lc_leN (g : GM Γ y cc nL rt k) {a b : Nat} {off : Int} (tgt : Nat) (d1 : decode cc pc = .ok (.lcmp, 1)) (d2 : decode cc (pc + 1) = .ok (.ifCond .le off, 3)) (ht : ((pc + 1 : Nat) : Int) + off = (tgt : Int)) (ha : a < 2 ^ 63) (hb : b < 2 ^ 63) (kt : a ≤ b → PB Γ tgt lv st h) (kf : b < a → PB Γ (pc + 4) lv st h) : PB Γ pc lv (.long (lN b) :: .long (lN a) :: st) h := pb_lc_le g tgt d1 d2 ht (fun q => kt ((pk_lLE ha hb).mp q)) (fun q => kf (Nat.not_le.mp fun w => q ((pk_lLE ha hb).mpr w)))
theorem pb_ald0 (g : GM Γ y cc nL rt k) (hdg : decode cc pc = .ok (.iaload, 1)) {i : Nat} (hi : i < 11) (kk : PB Γ (pc + 1) lv (.int ((psV 0).getD i 0) :: st) h) : PB Γ pc lv (.int (nI i) :: .float 0 :: st) h := pb_ialdSN g (by decide) hdg (by exact hi) (by decide) kk
theorem pb_ald1 (g : GM Γ y cc nL rt k) (hdg : decode cc pc = .ok (.iaload, 1)) {i : Nat} (hi : i < 6) (kk : PB Γ (pc + 1) lv (.int ((psV 1).getD i 0) :: st) h) : PB Γ pc lv (.int (nI i) :: .float 1 :: st) h := pb_ialdSN g (by decide) hdg (by exact hi) (by decide) kk
theorem pb_ald2 (g : GM Γ y cc nL rt k) (hdg : decode cc pc = .ok (.iaload, 1)) {i : Nat} (hi : i < 5) (kk : PB Γ (pc + 1) lv (.int ((psV 2).getD i 0) :: st) h) : PB Γ pc lv (.int (nI i) :: .float 2 :: st) h := pb_ialdSN g (by decide) hdg (by exact hi) (by decide) kk
theorem pb_ald3 (g : GM Γ y cc nL rt k) (hdg : decode cc pc = .ok (.iaload, 1)) {i : Nat} (hi : i < 15) (kk : PB Γ (pc + 1) lv (.int ((psV 3).getD i 0) :: st) h) : PB Γ pc lv (.int (nI i) :: .float 3 :: st) h := pb_ialdSN g (by decide) hdg (by exact hi) (by decide) kk
theorem pb_tab (g : GM Γ y cc nL rt k) {dflt hi : Int} {offs : Array Int} {len : Nat} {x : Int32} (hdg : decode cc pc = .ok (.tableswitch dflt 0 hi offs, len)) (n : Nat) (hn : hi + 1 = (n : Int)) (hn31 : n < 2 ^ 31) (tg : Nat → Nat) (dt : Nat) (htg : ∀ j, j < n → (offs[j]?).map (fun off => (pc : Int) + off) = some ((tg j : Nat) : Int)) (hdt : (pc : Int) + dflt = (dt : Int)) (kin : ∀ j, j < n → x = nI j → PB Γ (tg j) lv st h) (kout : (∀ j, j < n → ¬ x = nI j) → PB Γ dt lv st h) : PB Γ pc lv (.int x :: st) h := by
  by_cases hc : ∃ j, j < n ∧ x = nI j
  · obtain ⟨j, hj, rfl⟩ := hc
    have kj := kin j hj rfl
    have ht := htg j hj
    cases ho : offs[j]? with
    | none => rw [ho] at ht; cases ht
    | some off =>
      rw [ho] at ht
      have ht2 : (pc : Int) + off = ((tg j : Nat) : Int) := Option.some.inj ht
      have e1 : (nI j).toInt = (j : Int) := nI_toInt (by omega)
      obtain ⟨⟨p, l, e, R, s, m⟩, ⟨args, below, meth, c⟩, ⟨D, ta, ad, sa, A⟩, cl, sl, Z⟩ := Γ
      obtain ⟨hx, hb, hml, hr, hlk, hown, hts, hR, hK, hA, hPS, hPN⟩ := g
      intro H locs ls hP hD hS hl
      exact lv_tableIn hx hb hdg (by rw [e1]; omega) (by rw [e1]; omega) (by rw [e1]; simpa using ho) ht2 (kj H locs ls hP hD hS hl)
  · have ko := kout (fun j hj hx => hc ⟨j, hj, hx⟩)
    have hout : x.toInt < 0 ∨ hi < x.toInt := by
      by_cases h0 : x.toInt < 0
      · exact Or.inl h0
      · refine Or.inr (Int.not_le.mp fun hle => hc ?_)
        obtain ⟨j, hj, rfl⟩ := nI_of (x := x) (fun q => h0 (by have := Int32.lt_iff_toInt_lt.mp q; simpa using this))
        have e1 : (nI j).toInt = (j : Int) := nI_toInt hj
        exact ⟨j, by omega, rfl⟩
    obtain ⟨⟨p, l, e, R, s, m⟩, ⟨args, below, meth, c⟩, ⟨D, ta, ad, sa, A⟩, cl, sl, Z⟩ := Γ
    obtain ⟨hx, hb, hml, hr, hlk, hown, hts, hR, hK, hA, hPS, hPN⟩ := g
    intro H locs ls hP hD hS hl
    exact lv_tableOut hx hb hdg hout hdt (ko H locs ls hP hD hS hl)
end PBM
