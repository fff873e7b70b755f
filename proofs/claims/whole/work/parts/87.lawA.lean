/-! ===== the law's machine: the class's heap and the reference's, side by side ===== -/
theorem va_P_l {D : va_G} {cl : List vw_C} {w1 w2 : va_W} {H : Heap} (h : va_P D cl (w1 ++ w2) H) : va_P D cl w1 H := fun k q hk => h k q (by rw [List.getElem?_append_left (List.getElem?_eq_some_iff.mp hk).1]; exact hk)
theorem va_P_r {D : va_G} {cl : List vw_C} {w1 w2 : va_W} {H : Heap} (h : va_P D cl (w1 ++ w2) H) : va_P D cl w2 H := fun k q hk => h (w1.length + k) q (by rw [List.getElem?_append_right (Nat.le_add_right _ _), Nat.add_sub_cancel_left]; exact hk)
theorem va_D_l {A : Nat → Prop} {w1 w2 : va_W} (h : va_D A (w1 ++ w2)) : va_D A w1 := by
  have e : ∀ (k : Nat) (q : Nat × va_E), w1[k]? = some q → (w1 ++ w2)[k]? = some q := fun k q hk => by rw [List.getElem?_append_left (List.getElem?_eq_some_iff.mp hk).1]; exact hk
  exact ⟨fun i j p q hp hq hpq => h.1 i j p q (e i p hp) (e j q hq) hpq, fun k q hk => h.2 k q (e k q hk)⟩
theorem va_D_r {A : Nat → Prop} {w1 w2 : va_W} (h : va_D A (w1 ++ w2)) : va_D A w2 := by
  have e : ∀ (k : Nat) (q : Nat × va_E), w2[k]? = some q → (w1 ++ w2)[w1.length + k]? = some q := fun k q hk => by rw [List.getElem?_append_right (Nat.le_add_right _ _), Nat.add_sub_cancel_left]; exact hk
  exact ⟨fun i j p q hp hq hpq => by have := h.1 _ _ p q (e i p hp) (e j q hq) hpq; omega, fun k q hk => h.2 _ q (e k q hk)⟩
theorem va_D_x {A : Nat → Prop} {w1 w2 : va_W} (h : va_D A (w1 ++ w2)) : ∀ (i j : Nat) (p q : Nat × va_E), w1[i]? = some p → w2[j]? = some q → p.1 ≠ q.1 := by
  intro i j p q hp hq e
  have hi := (List.getElem?_eq_some_iff.mp hp).1
  have := h.1 i (w1.length + j) p q (by rw [List.getElem?_append_left hi]; exact hp) (by rw [List.getElem?_append_right (Nat.le_add_right _ _), Nat.add_sub_cancel_left]; exact hq) e
  omega
theorem va_P_sw {D : va_G} {cl : List vw_C} {w1 w2 : va_W} {H : Heap} (h : va_P D cl (w1 ++ w2) H) : va_P D cl (w2 ++ w1) H := (va_P_r h).app (va_P_l h)
theorem va_D_sw {A : Nat → Prop} {w1 w2 : va_W} (h : va_D A (w1 ++ w2)) : va_D A (w2 ++ w1) := (va_D_r h).app (va_D_l h) (fun i j p q hp hq e => va_D_x h j i q p hq hp e.symm)
/-- what a call left of the other heap -/
theorem va_fr {A : Nat → Prop} {D : va_G} {cl : List vw_C} {wc wr w1 : va_W} {H H1 : Heap} (hP : va_P D cl (wc ++ wr) H) (hD : va_D A (wc ++ wr)) (hF : ∀ q, va_A wc H.size q → A q) (hk : ∀ q : Nat, q < H.size → ¬ va_A wc H.size q → H1[q]? = H[q]?) (hP1 : va_P D cl w1 H1) (hD1 : va_D (va_A wc H.size) w1) : va_P D cl (w1 ++ wr) H1 ∧ va_D A (w1 ++ wr) := by
  have apart : ∀ (k : Nat) (q : Nat × va_E), wr[k]? = some q → q.1 < H.size ∧ ¬ va_A wc H.size q.1 := by
    intro k q hq
    have hl := (va_P_r hP k q hq).lt
    refine ⟨hl, fun h => ?_⟩
    rcases h with ⟨k2, e, h⟩ | h
    · exact va_D_x hD k2 k (q.1, e) q h hq rfl
    · omega
  refine ⟨hP1.app (fun k q hq => ?_), (hD1.weaken (fun k q _ h => hF q.1 h)).app (va_D_r hD) (fun i j x y hx hy hxy => ?_)⟩
  · obtain ⟨g1, g2⟩ := apart k q hq
    exact (va_P_r hP k q hq).kept (hk q.1 g1 g2)
  · exact (apart j y hy).2 (by rw [← hxy]; exact hD1.2 i x hx)
theorem isD_0 {q : SP} {h : PH} (hD : IsD q h) : ∃ fs, h[0]? = some (pO 3 fs) := by
  obtain ⟨⟨n, P, S, sd⟩, ⟨σ, μ, K, Hh⟩, ⟨ts, zz, it⟩, ⟨ra, tr⟩⟩ := q
  obtain ⟨pk, fr, itd, jk, kd, hp, kt, ak, an, ah, jl, rfl, -⟩ := hD
  exact ⟨_, mkH_get (by decide)⟩
theorem isM_0 {q : SP} {h : PH} (hD : IsM q h) : ∃ fs, h[0]? = some (pO 4 fs) := by
  obtain ⟨⟨n, P, S, sd⟩, ⟨σ, μ, K, Hh⟩, ⟨ts, zz, it⟩, ⟨ra, tr⟩⟩ := q
  obtain ⟨xod, xkn, xhs, xmm, xln, xot, xfa, xgr, xtsr, xtsz, xce, xmv, xtc, xwy, xnx, xch, xaf, xfo, xco, rfl, -⟩ := hD
  exact ⟨_, mkH_get (by decide)⟩
def LQ (D : va_G) (ta : Nat → ClassId) (ad : Nat → Nat) (sa : UInt32 → Nat) (A : Nat → Prop) (h : SP × SP) (H : Heap) : Prop := ∃ (hd hm : PH) (ad1 ad2 : Nat → Nat), IsD h.1 hd ∧ IsM h.2 hm ∧ ad1 0 = ad 0 ∧ ad2 0 = ad 52 ∧ va_P D vwCl (pcw ta ad1 sa hd ++ pcw ta ad2 sa hm) H ∧ va_D A (pcw ta ad1 sa hd ++ pcw ta ad2 sa hm)
def LB : GT → Nat → List (Option Value) → List Value → SP × SP → Prop
  | ((p, l, e, R, s, m), (args, below, meth, c), (D, ta, ad, sa, A), cl, sl, Z), pc, lv, st, h =>
    ∀ (H : Heap) (locs : List Loc) (ls : Array Slot), LQ D ta ad sa A h H → True → va_S A s.heap H locs → pl_has (pcv ad sa) ls c.maxLocals lv → W p l e R s m args below meth c H locs cl sl Z (F0 m pc ls (st.map (pcv ad sa)))
/-- the script: the cell at sa 4 -/
def GX : GT → Nat → (Nat → Int32) → Prop
  | ((p, l, e, R, s, m), (args, below, meth, c), (D, ta, ad, sa, A), cl, sl, Z), L, xs => va_X (sa 4) L xs s s.heap ∧ sa 4 < s.heap.size ∧ ¬ A (sa 4) ∧ L ≤ 3072
section LBM
variable {Γ : GT} {y : MethodName} {cc : ByteArray} {nL : Nat} {rt : Option FieldType} {k pc : Nat} {lv : List (Option Value)} {st : List Value} {h : SP × SP}
theorem lb_iconst (g : GM Γ y cc nL rt k) {n : Int} {v : Int32} (hdg : decode cc pc = .ok (.iconst n, 1)) (hv : Int32.ofInt n = v) (kk : LB Γ (pc + 1) lv (.int v :: st) h) : LB Γ pc lv (st) h := by
  obtain ⟨⟨p, l, e, R, s, m⟩, ⟨args, below, meth, c⟩, ⟨D, ta, ad, sa, A⟩, cl, sl, Z⟩ := Γ
  obtain ⟨hx, hb, hml, hr, hlk, hown, hts, hR, hK, hA, hPS, hPN⟩ := g
  intro H locs ls hP hD hS hl
  exact lv_iconst hx hb hdg hv (kk H locs ls hP hD hS hl)
theorem lb_bipush (g : GM Γ y cc nL rt k) {n : Int} {v : Int32} (hdg : decode cc pc = .ok (.bipush n, 2)) (hv : (Int8.ofInt n).toInt32 = v) (kk : LB Γ (pc + 2) lv (.int v :: st) h) : LB Γ pc lv (st) h := by
  obtain ⟨⟨p, l, e, R, s, m⟩, ⟨args, below, meth, c⟩, ⟨D, ta, ad, sa, A⟩, cl, sl, Z⟩ := Γ
  obtain ⟨hx, hb, hml, hr, hlk, hown, hts, hR, hK, hA, hPS, hPN⟩ := g
  intro H locs ls hP hD hS hl
  exact lv_bipush hx hb hdg hv (kk H locs ls hP hD hS hl)
theorem lb_iadd (g : GM Γ y cc nL rt k) {x z : Int32} (hdg : decode cc pc = .ok (.iadd, 1))  (kk : LB Γ (pc + 1) lv (.int (x + z) :: st) h) : LB Γ pc lv (.int z :: .int x :: st) h := by
  obtain ⟨⟨p, l, e, R, s, m⟩, ⟨args, below, meth, c⟩, ⟨D, ta, ad, sa, A⟩, cl, sl, Z⟩ := Γ
  obtain ⟨hx, hb, hml, hr, hlk, hown, hts, hR, hK, hA, hPS, hPN⟩ := g
  intro H locs ls hP hD hS hl
  exact lv_iadd hx hb hdg  (kk H locs ls hP hD hS hl)
theorem lb_isub (g : GM Γ y cc nL rt k) {x z : Int32} (hdg : decode cc pc = .ok (.isub, 1))  (kk : LB Γ (pc + 1) lv (.int (x - z) :: st) h) : LB Γ pc lv (.int z :: .int x :: st) h := by
  obtain ⟨⟨p, l, e, R, s, m⟩, ⟨args, below, meth, c⟩, ⟨D, ta, ad, sa, A⟩, cl, sl, Z⟩ := Γ
  obtain ⟨hx, hb, hml, hr, hlk, hown, hts, hR, hK, hA, hPS, hPN⟩ := g
  intro H locs ls hP hD hS hl
  exact lv_isub hx hb hdg  (kk H locs ls hP hD hS hl)
theorem lb_iand (g : GM Γ y cc nL rt k) {x z : Int32} (hdg : decode cc pc = .ok (.iand, 1))  (kk : LB Γ (pc + 1) lv (.int (x &&& z) :: st) h) : LB Γ pc lv (.int z :: .int x :: st) h := by
  obtain ⟨⟨p, l, e, R, s, m⟩, ⟨args, below, meth, c⟩, ⟨D, ta, ad, sa, A⟩, cl, sl, Z⟩ := Γ
  obtain ⟨hx, hb, hml, hr, hlk, hown, hts, hR, hK, hA, hPS, hPN⟩ := g
  intro H locs ls hP hD hS hl
  exact lv_iand hx hb hdg  (kk H locs ls hP hD hS hl)
theorem lb_land (g : GM Γ y cc nL rt k) {x z : Int64} (hdg : decode cc pc = .ok (.land, 1))  (kk : LB Γ (pc + 1) lv (.long (x &&& z) :: st) h) : LB Γ pc lv (.long z :: .long x :: st) h := by
  obtain ⟨⟨p, l, e, R, s, m⟩, ⟨args, below, meth, c⟩, ⟨D, ta, ad, sa, A⟩, cl, sl, Z⟩ := Γ
  obtain ⟨hx, hb, hml, hr, hlk, hown, hts, hR, hK, hA, hPS, hPN⟩ := g
  intro H locs ls hP hD hS hl
  exact lv_land hx hb hdg  (kk H locs ls hP hD hS hl)
theorem lb_lor (g : GM Γ y cc nL rt k) {x z : Int64} (hdg : decode cc pc = .ok (.lor, 1))  (kk : LB Γ (pc + 1) lv (.long (x ||| z) :: st) h) : LB Γ pc lv (.long z :: .long x :: st) h := by
  obtain ⟨⟨p, l, e, R, s, m⟩, ⟨args, below, meth, c⟩, ⟨D, ta, ad, sa, A⟩, cl, sl, Z⟩ := Γ
  obtain ⟨hx, hb, hml, hr, hlk, hown, hts, hR, hK, hA, hPS, hPN⟩ := g
  intro H locs ls hP hD hS hl
  exact lv_lor hx hb hdg  (kk H locs ls hP hD hS hl)
theorem lb_lshl (g : GM Γ y cc nL rt k) {x : Int64} {z : Int32} (hdg : decode cc pc = .ok (.lshl, 1))  (kk : LB Γ (pc + 1) lv (.long (x <<< (z.toInt64 &&& 63)) :: st) h) : LB Γ pc lv (.int z :: .long x :: st) h := by
  obtain ⟨⟨p, l, e, R, s, m⟩, ⟨args, below, meth, c⟩, ⟨D, ta, ad, sa, A⟩, cl, sl, Z⟩ := Γ
  obtain ⟨hx, hb, hml, hr, hlk, hown, hts, hR, hK, hA, hPS, hPN⟩ := g
  intro H locs ls hP hD hS hl
  exact lv_lshl hx hb hdg rfl (kk H locs ls hP hD hS hl)
theorem lb_i2l (g : GM Γ y cc nL rt k) {x : Int32} (hdg : decode cc pc = .ok (.i2l, 1))  (kk : LB Γ (pc + 1) lv (.long x.toInt64 :: st) h) : LB Γ pc lv (.int x :: st) h := by
  obtain ⟨⟨p, l, e, R, s, m⟩, ⟨args, below, meth, c⟩, ⟨D, ta, ad, sa, A⟩, cl, sl, Z⟩ := Γ
  obtain ⟨hx, hb, hml, hr, hlk, hown, hts, hR, hK, hA, hPS, hPN⟩ := g
  intro H locs ls hP hD hS hl
  exact lv_i2l hx hb hdg rfl (kk H locs ls hP hD hS hl)
theorem lb_lcmp (g : GM Γ y cc nL rt k) {x z : Int64} (hdg : decode cc pc = .ok (.lcmp, 1)) (kk : LB Γ (pc + 1) lv (.int (lg_cmp x z) :: st) h) : LB Γ pc lv (.long z :: .long x :: st) h := by
  obtain ⟨⟨p, l, e, R, s, m⟩, ⟨args, below, meth, c⟩, ⟨D, ta, ad, sa, A⟩, cl, sl, Z⟩ := Γ
  obtain ⟨hx, hb, hml, hr, hlk, hown, hts, hR, hK, hA, hPS, hPN⟩ := g
  intro H locs ls hP hD hS hl
  exact W.lcmp hx hb hdg (kk H locs ls hP hD hS hl)
theorem lb_if_eq (g : GM Γ y cc nL rt k) {x : Int32} {off : Int} (tgt : Nat) (hdg : decode cc pc = .ok (.ifCond .eq off, 3)) (ht : (pc : Int) + off = (tgt : Int)) (kt : x = 0 → LB Γ tgt lv st h) (kf : ¬ x = 0 → LB Γ (pc + 3) lv st h) : LB Γ pc lv (.int x :: st) h := by
  obtain ⟨⟨p, l, e, R, s, m⟩, ⟨args, below, meth, c⟩, ⟨D, ta, ad, sa, A⟩, cl, sl, Z⟩ := Γ
  obtain ⟨hx, hb, hml, hr, hlk, hown, hts, hR, hK, hA, hPS, hPN⟩ := g
  intro H locs ls hP hD hS hl
  exact lv_if_eq hx hb hdg ht (fun q => kt q H locs ls hP hD hS hl) (fun q => kf q H locs ls hP hD hS hl)
theorem lb_icmp_eq (g : GM Γ y cc nL rt k) {x z : Int32} {off : Int} (tgt : Nat) (hdg : decode cc pc = .ok (.if_icmp .eq off, 3)) (ht : (pc : Int) + off = (tgt : Int)) (kt : x = z → LB Γ tgt lv st h) (kf : ¬ x = z → LB Γ (pc + 3) lv st h) : LB Γ pc lv (.int z :: .int x :: st) h := by
  obtain ⟨⟨p, l, e, R, s, m⟩, ⟨args, below, meth, c⟩, ⟨D, ta, ad, sa, A⟩, cl, sl, Z⟩ := Γ
  obtain ⟨hx, hb, hml, hr, hlk, hown, hts, hR, hK, hA, hPS, hPN⟩ := g
  intro H locs ls hP hD hS hl
  exact lv_icmp_eq hx hb hdg ht (fun q => kt q H locs ls hP hD hS hl) (fun q => kf q H locs ls hP hD hS hl)
theorem lb_icmp_gt (g : GM Γ y cc nL rt k) {x z : Int32} {off : Int} (tgt : Nat) (hdg : decode cc pc = .ok (.if_icmp .gt off, 3)) (ht : (pc : Int) + off = (tgt : Int)) (kt : z < x → LB Γ tgt lv st h) (kf : ¬ z < x → LB Γ (pc + 3) lv st h) : LB Γ pc lv (.int z :: .int x :: st) h := by
  obtain ⟨⟨p, l, e, R, s, m⟩, ⟨args, below, meth, c⟩, ⟨D, ta, ad, sa, A⟩, cl, sl, Z⟩ := Γ
  obtain ⟨hx, hb, hml, hr, hlk, hown, hts, hR, hK, hA, hPS, hPN⟩ := g
  intro H locs ls hP hD hS hl
  exact lv_icmp_gt hx hb hdg ht (fun q => kt q H locs ls hP hD hS hl) (fun q => kf q H locs ls hP hD hS hl)
theorem lb_goto (g : GM Γ y cc nL rt k) {off : Int} (tgt : Nat) (hdg : decode cc pc = .ok (.goto off, 3)) (ht : (pc : Int) + off = (tgt : Int)) (kk : LB Γ tgt lv st h) : LB Γ pc lv st h := by
  obtain ⟨⟨p, l, e, R, s, m⟩, ⟨args, below, meth, c⟩, ⟨D, ta, ad, sa, A⟩, cl, sl, Z⟩ := Γ
  obtain ⟨hx, hb, hml, hr, hlk, hown, hts, hR, hK, hA, hPS, hPN⟩ := g
  intro H locs ls hP hD hS hl
  exact lv_goto hx hb hdg ht (kk H locs ls hP hD hS hl)
theorem lb_aload_n1 (g : GM Γ y cc nL rt k) {a0 : Option Value} {x : Nat} {tl : List (Option Value)} (hdg : decode cc pc = .ok (.aload_n 1, 1)) (kk : LB Γ (pc + 1) (a0 :: some (.ref x) :: tl) (.ref x :: st) h) : LB Γ pc (a0 :: some (.ref x) :: tl) st h := by
  obtain ⟨⟨p, l, e, R, s, m⟩, ⟨args, below, meth, c⟩, ⟨D, ta, ad, sa, A⟩, cl, sl, Z⟩ := Γ
  obtain ⟨hx, hb, hml, hr, hlk, hown, hts, hR, hK, hA, hPS, hPN⟩ := g
  intro H locs ls hP hD hS hl
  exact lv_aload_n hx hb hdg rfl (hl.2.2 1 _ rfl) (kk H locs ls hP hD hS hl)
theorem lb_aload_n2 (g : GM Γ y cc nL rt k) {a0 : Option Value} {a1 : Option Value} {x : Nat} {tl : List (Option Value)} (hdg : decode cc pc = .ok (.aload_n 2, 1)) (kk : LB Γ (pc + 1) (a0 :: a1 :: some (.ref x) :: tl) (.ref x :: st) h) : LB Γ pc (a0 :: a1 :: some (.ref x) :: tl) st h := by
  obtain ⟨⟨p, l, e, R, s, m⟩, ⟨args, below, meth, c⟩, ⟨D, ta, ad, sa, A⟩, cl, sl, Z⟩ := Γ
  obtain ⟨hx, hb, hml, hr, hlk, hown, hts, hR, hK, hA, hPS, hPN⟩ := g
  intro H locs ls hP hD hS hl
  exact lv_aload_n hx hb hdg rfl (hl.2.2 2 _ rfl) (kk H locs ls hP hD hS hl)
theorem lb_iload_n3 (g : GM Γ y cc nL rt k) {a0 : Option Value} {a1 : Option Value} {a2 : Option Value} {x : Int32} {tl : List (Option Value)} (hdg : decode cc pc = .ok (.iload_n 3, 1)) (kk : LB Γ (pc + 1) (a0 :: a1 :: a2 :: some (.int x) :: tl) (.int x :: st) h) : LB Γ pc (a0 :: a1 :: a2 :: some (.int x) :: tl) st h := by
  obtain ⟨⟨p, l, e, R, s, m⟩, ⟨args, below, meth, c⟩, ⟨D, ta, ad, sa, A⟩, cl, sl, Z⟩ := Γ
  obtain ⟨hx, hb, hml, hr, hlk, hown, hts, hR, hK, hA, hPS, hPN⟩ := g
  intro H locs ls hP hD hS hl
  exact lv_iload_n hx hb hdg rfl (hl.2.2 3 _ rfl) (kk H locs ls hP hD hS hl)
theorem lb_istore_n3 (g : GM Γ y cc nL rt k) {a0 : Option Value} {a1 : Option Value} {a2 : Option Value} {x : Int32} {b : Option Value} {tl : List (Option Value)} (hdg : decode cc pc = .ok (.istore_n 3, 1)) (hn : 3 < nL) (kk : LB Γ (pc + 1) (a0 :: a1 :: a2 :: some (.int x) :: tl) st h) (hnl : pnl a2 = true := by rfl) : LB Γ pc (a0 :: a1 :: a2 :: b :: tl) (.int x :: st) h := by
  obtain ⟨⟨p, l, e, R, s, m⟩, ⟨args, below, meth, c⟩, ⟨D, ta, ad, sa, A⟩, cl, sl, Z⟩ := Γ
  obtain ⟨hx, hb, hml, hr, hlk, hown, hts, hR, hK, hA, hPS, hPN⟩ := g
  intro H locs ls hP hD hS hl
  subst hml
  exact lv_istore_n hx hb hdg rfl hl.kit hn rfl (fun ls' hl' => kk H locs ls' hP hD hS (pl_put1 (i := 3) (lv := a0 :: a1 :: a2 :: b :: tl) (v := .int x) hl' (by simp) (pnl_at (i := 2) rfl hnl)))
theorem lb_astore_n2 (g : GM Γ y cc nL rt k) {a0 : Option Value} {a1 : Option Value} {x : Nat} {b : Option Value} {tl : List (Option Value)} (hdg : decode cc pc = .ok (.astore_n 2, 1)) (hn : 2 < nL) (kk : LB Γ (pc + 1) (a0 :: a1 :: some (.ref x) :: tl) st h) (hnl : pnl a1 = true := by rfl) : LB Γ pc (a0 :: a1 :: b :: tl) (.ref x :: st) h := by
  obtain ⟨⟨p, l, e, R, s, m⟩, ⟨args, below, meth, c⟩, ⟨D, ta, ad, sa, A⟩, cl, sl, Z⟩ := Γ
  obtain ⟨hx, hb, hml, hr, hlk, hown, hts, hR, hK, hA, hPS, hPN⟩ := g
  intro H locs ls hP hD hS hl
  subst hml
  exact lv_astore_n hx hb hdg rfl hl.kit hn rfl (fun ls' hl' => kk H locs ls' hP hD hS (pl_put1 (i := 2) (lv := a0 :: a1 :: b :: tl) (v := .ref x) hl' (by simp) (pnl_at (i := 1) rfl hnl)))
theorem lb_iinc3 (g : GM Γ y cc nL rt k) {a0 : Option Value} {a1 : Option Value} {a2 : Option Value} {x v : Int32} {n : Int} {tl : List (Option Value)} (hdg : decode cc pc = .ok (.iinc 3 n, 3)) (hn : 3 < nL) (hv : x + Int32.ofInt n = v) (kk : LB Γ (pc + 3) (a0 :: a1 :: a2 :: some (.int v) :: tl) st h) (hnl : pnl a2 = true := by rfl) : LB Γ pc (a0 :: a1 :: a2 :: some (.int x) :: tl) st h := by
  obtain ⟨⟨p, l, e, R, s, m⟩, ⟨args, below, meth, c⟩, ⟨D, ta, ad, sa, A⟩, cl, sl, Z⟩ := Γ
  obtain ⟨hx, hb, hml, hr, hlk, hown, hts, hR, hK, hA, hPS, hPN⟩ := g
  intro H locs ls hP hD hS hl
  subst hml
  obtain ⟨kq, hkq⟩ := List.getElem?_of_mem (by have := pl_prs_mem (cv := pcv ad sa) (a0 :: a1 :: a2 :: some (.int x) :: tl) 0 3 (.int x) rfl; rwa [Nat.zero_add] at this)
  exact lv_iinc hx hb hdg hl.kit hkq hv hn rfl (fun ls' hl' => kk H locs ls' hP hD hS (pl_put1 (i := 3) (lv := a0 :: a1 :: a2 :: some (.int x) :: tl) (v := .int v) hl' (by simp) (pnl_at (i := 2) rfl hnl)))
theorem lb_ldc2 (g : GM Γ y cc nL rt k) {idx : Nat} {v : Int64} (hc : Cond.constantLong y.cls idx v ∈ lw_g) (hdg : decode cc pc = .ok (.ldc2_w idx, 3)) (kk : LB Γ (pc + 3) lv (.long v :: st) h) : LB Γ pc lv st h := by
  obtain ⟨⟨p, l, e, R, s, m⟩, ⟨args, below, meth, c⟩, ⟨D, ta, ad, sa, A⟩, cl, sl, Z⟩ := Γ
  obtain ⟨hx, hb, hml, hr, hlk, hown, hts, hR, hK, hA, hPS, hPN⟩ := g
  intro H locs ls hP hD hS hl
  exact lv_ldc2 hx hb hown (hts _ hc) hdg (kk H locs ls hP hD hS hl)
theorem lb_ldc2w (g : GM Γ y cc nL rt k) {idx : Nat} {v w : Int64} (hc : Cond.constantLong y.cls idx v ∈ lw_g) (hv : v = w) (hdg : decode cc pc = .ok (.ldc2_w idx, 3)) (kk : LB Γ (pc + 3) lv (.long w :: st) h) : LB Γ pc lv st h := lb_ldc2 g hc hdg (by rw [hv]; exact kk)
theorem lb_lc_eq (g : GM Γ y cc nL rt k) {x z : Int64} {off : Int} (tgt : Nat) (d1 : decode cc pc = .ok (.lcmp, 1)) (d2 : decode cc (pc + 1) = .ok (.ifCond .eq off, 3)) (ht : ((pc + 1 : Nat) : Int) + off = (tgt : Int)) (kt : x = z → LB Γ tgt lv st h) (kf : ¬ x = z → LB Γ (pc + 4) lv st h) : LB Γ pc lv (.long z :: .long x :: st) h := lb_lcmp g d1 (lb_if_eq g tgt d2 ht (fun q => kt ((lg_cmp_eq x z).mp q)) (fun q => kf (fun w => q ((lg_cmp_eq x z).mpr w))))
theorem lb_tab (g : GM Γ y cc nL rt k) {dflt hi : Int} {offs : Array Int} {len : Nat} {x : Int32} (hdg : decode cc pc = .ok (.tableswitch dflt 0 hi offs, len)) (n : Nat) (hn : hi + 1 = (n : Int)) (hn31 : n < 2 ^ 31) (tg : Nat → Nat) (dt : Nat) (htg : ∀ j, j < n → (offs[j]?).map (fun off => (pc : Int) + off) = some ((tg j : Nat) : Int)) (hdt : (pc : Int) + dflt = (dt : Int)) (kin : ∀ j, j < n → x = nI j → LB Γ (tg j) lv st h) (kout : (∀ j, j < n → ¬ x = nI j) → LB Γ dt lv st h) : LB Γ pc lv (.int x :: st) h := by
  by_cases hc : ∃ j, j < n ∧ x = nI j
  · obtain ⟨j, hj, rfl⟩ := hc
    have kj := kin j hj rfl
    have ht := htg j hj
    cases ho : offs[j]? with
    | none => rw [ho] at ht; cases ht
    | some off =>
      rw [ho] at ht
      have ht2 : (pc : Int) + off = ((tg j : Nat) : Int) := Option.some.inj ht
      have e1 : (nI j).toInt = (j : Int) := nI_toInt (by omega)
      obtain ⟨⟨p, l, e, R, s, m⟩, ⟨args, below, meth, c⟩, ⟨D, ta, ad, sa, A⟩, cl, sl, Z⟩ := Γ
      obtain ⟨hx, hb, hml, hr, hlk, hown, hts, hR, hK, hA, hPS, hPN⟩ := g
      intro H locs ls hP hD hS hl
      exact lv_tableIn hx hb hdg (by rw [e1]; omega) (by rw [e1]; omega) (by rw [e1]; simpa using ho) ht2 (kj H locs ls hP hD hS hl)
  · have ko := kout (fun j hj hx => hc ⟨j, hj, hx⟩)
    have hout : x.toInt < 0 ∨ hi < x.toInt := by
      by_cases h0 : x.toInt < 0
      · exact Or.inl h0
      · refine Or.inr (Int.not_le.mp fun hle => hc ?_)
        obtain ⟨j, hj, rfl⟩ := nI_of (x := x) (fun q => h0 (by have := Int32.lt_iff_toInt_lt.mp q; simpa using this))
        have e1 : (nI j).toInt = (j : Int) := nI_toInt hj
        exact ⟨j, by omega, rfl⟩
    obtain ⟨⟨p, l, e, R, s, m⟩, ⟨args, below, meth, c⟩, ⟨D, ta, ad, sa, A⟩, cl, sl, Z⟩ := Γ
    obtain ⟨hx, hb, hml, hr, hlk, hown, hts, hR, hK, hA, hPS, hPN⟩ := g
    intro H locs ls hP hD hS hl
    exact lv_tableOut hx hb hdg hout hdt (ko H locs ls hP hD hS hl)
theorem lb_al0 (g : GM Γ y cc nL rt k) {x : UInt32} {tl : List (Option Value)} (hdg : decode cc pc = .ok (.aload_n 0, 1)) (kk : LB Γ (pc + 1) (some (.float x) :: tl) (.float x :: st) h) : LB Γ pc (some (.float x) :: tl) st h := by
  obtain ⟨⟨p, l, e, R, s, m⟩, ⟨args, below, meth, c⟩, ⟨D, ta, ad, sa, A⟩, cl, sl, Z⟩ := Γ
  obtain ⟨hx, hb, hml, hr, hlk, hown, hts, hR, hK, hA, hPS, hPN⟩ := g
  intro H locs ls hP hD hS hl
  exact lv_aload_n (x := sa x) hx hb hdg rfl (hl.2.2 0 (.float x) rfl) (kk H locs ls hP hD hS hl)
theorem lb_slen (g : GM Γ y cc nL rt k) {L : Nat} {xs : Nat → Int32} (gx : GX Γ L xs) (hdg : decode cc pc = .ok (.arraylength, 1)) (kk : LB Γ (pc + 1) lv (.int (nI L) :: st) h) : LB Γ pc lv (.float 4 :: st) h := by
  obtain ⟨⟨p, l, e, R, s, m⟩, ⟨args, below, meth, c⟩, ⟨D, ta, ad, sa, A⟩, cl, sl, Z⟩ := Γ
  obtain ⟨hx, hb, hml, hr, hlk, hown, hts, hR, hK, hA, hPS, hPN⟩ := g
  obtain ⟨x1, x2, x3, x4⟩ := gx
  intro H locs ls hP hD hS hl
  exact va_slen hx hb x1 x2 x3 hS hdg (kk H locs ls hP hD hS hl)
theorem lb_sld (g : GM Γ y cc nL rt k) {L : Nat} {xs : Nat → Int32} (gx : GX Γ L xs) (hdg : decode cc pc = .ok (.iaload, 1)) {i : Nat} (hi : i < L) (kk : LB Γ (pc + 1) lv (.int (xs i) :: st) h) : LB Γ pc lv (.int (nI i) :: .float 4 :: st) h := by
  obtain ⟨⟨p, l, e, R, s, m⟩, ⟨args, below, meth, c⟩, ⟨D, ta, ad, sa, A⟩, cl, sl, Z⟩ := Γ
  obtain ⟨hx, hb, hml, hr, hlk, hown, hts, hR, hK, hA, hPS, hPN⟩ := g
  obtain ⟨x1, x2, x3, x4⟩ := gx
  intro H locs ls hP hD hS hl
  have hl31 : L < 2 ^ 31 := Nat.lt_of_le_of_lt x4 (by decide)
  refine va_sld hx hb x1 x2 x3 hS (vp_in_nI hi hl31) hdg ?_
  rw [nI_clamp (Nat.lt_trans hi hl31)]
  exact kk H locs ls hP hD hS hl
/-- script[i + j] -/
theorem lb_arg (g : GM Γ y cc nL rt k) {L : Nat} {xs : Nat → Int32} (gx : GX Γ L xs) {i : Nat} (j : Nat) {n : Int} {a1 a2 : Option Value} {tl : List (Option Value)} (hi : i + j < L) (d0 : decode cc pc = .ok (.aload_n 0, 1)) (d1 : decode cc (pc + 1) = .ok (.iload_n 3, 1)) (d2 : decode cc (pc + 1 + 1) = .ok (.iconst n, 1)) (hn : Int32.ofInt n = nI j) (d3 : decode cc (pc + 1 + 1 + 1) = .ok (.iadd, 1)) (d4 : decode cc (pc + 1 + 1 + 1 + 1) = .ok (.iaload, 1)) (kk : LB Γ (pc + 1 + 1 + 1 + 1 + 1) (some (.float 4) :: a1 :: a2 :: some (.int (nI i)) :: tl) (.int (xs (i + j)) :: st) h) : LB Γ pc (some (.float 4) :: a1 :: a2 :: some (.int (nI i)) :: tl) st h :=
  lb_al0 g d0 (lb_iload_n3 g d1 (lb_iconst g d2 hn (lb_iadd g d3 (by rw [nI_add]; exact lb_sld g gx d4 hi kk))))
theorem lb_Di (g : GM Γ y cc nL rt k) {y' : MethodName} {cc' : ByteArray} {nL' n idx : Nat} {rt' : Option FieldType} {a b a1 : SP} {ans : Int32} (hC : PCV y.cls idx y' cc' nL' rt' n 3) (hdg : decode cc pc = .ok (.invokevirtual idx, 3)) (k' : Nat) (hk : k' + 1 ≤ k) (av : List Value) (hn : av.length = n) (hw : (st.map fun v => v.category).sum ≤ 8) (hav : ∀ ad sa, av.map (pcv ad sa) = av) (hrun : ∀ h0, IsD a h0 → Runs y' cc' nL' rt' k' (.ref 0 :: av) h0 (fun o h' => ∃ r : Int32, o = some (.int r) ∧ r = ans ∧ IsD a1 h')) (kk : LB Γ (pc + 3) lv (.int ans :: st) (a1, b)) : LB Γ pc lv (av.reverse ++ .ref 0 :: st) (a, b) := by
  obtain ⟨⟨p, l, e, R, s, m⟩, ⟨args, below, meth, c⟩, ⟨D, ta, ad, sa, A⟩, cl, sl, Z⟩ := Γ
  obtain ⟨hx, hb, hml, hr, hlk, hown, hts, hR, hK, hA, hPS, hPN⟩ := g
  intro H locs ls hP hDT hS hl
  obtain ⟨hd, hm, ad1, ad2, iD, iM, e1, e2, hP0, hD0⟩ := hP
  have hP := hP0
  have hD := hD0
  obtain ⟨⟨c1, c2, c3, c4, c5⟩, c6, c7, ⟨C, T, N⟩, c8, c9⟩ := hC
  obtain ⟨fs, hq0⟩ := isD_0 iD
  have hp := pre_of (av := .ref 0 :: av) (va_P_l hP) (va_D_l hD) hS hK hA hPS hPN
  have hrec := va_recv hK (va_P_l hP) c8 (pcw_get hq0)
  have e9 : C = y'.cls := c9
  subst e9
  have hav1 := hav ad1 sa
  have hsub : ∀ z, va_A (pcw ta ad1 sa hd) H.size z → A z := fun z hz => by
    rcases hz with ⟨k0, e0, hk0⟩ | hz
    · exact (va_D_l hD).2 k0 _ hk0
    · exact hA z (Nat.le_trans hS.1 hz)
  have hr9 := va_runV (R := R) (e := e) (below := below) (meth := meth) (locs := locs) (cells := cl) (slots := sl) (g := F0 m pc ls ((av.reverse ++ .ref 0 :: st).map (pcv ad sa))) (rest := st.map (pcv ad sa)) (C := y'.cls) (As := av.map (pcv ad1 sa)) (b := ad1 0) (n := n) ⟨hx, hb, hml, hown, hts⟩ (hrun hd iD l D ta ad1 sa H.size) ⟨callB_of n hts (tbl_in c1) rfl rfl rfl (hts _ c3) (hts _ c2) c4 ⟨by show k' + 1 ≤ _; omega, by show 8 + (nL' + 11) + 60 * k' ≤ _; omega⟩, hts _ c6, hts _ c7⟩ ⟨hp.1, hrec, hp.2⟩ rfl (by simpa using hn) (by rw [← hml]; exact hl.1) (by show (av.reverse ++ .ref 0 :: st).map (pcv ad sa) = _; rw [List.map_append, List.map_reverse, hav, hav, List.map_cons, e1]; rfl) (lv_room (by rw [pcv_sum]; exact hw)) hdg ⟨by omega, by omega⟩
  intro T hT X
  obtain ⟨v, st₀, t, T', L, h0, X', hL, f1, f2, ⟨⟨r, h', hv, hq, hP1, hK1, hD1⟩, hz, hk9⟩, stp⟩ := hr9 T hT X
  obtain ⟨r0, rfl, rfl, hq⟩ := hq
  have hv' : v = some (.int r0) := by injection hv
  subst hv'
  rw [h0] at hz hk9
  obtain ⟨hP9, hD9⟩ := va_fr hP hD hsub hk9 hP1 hD1
  obtain ⟨t2, a1, b1⟩ := kk T'.heap (locs ++ L) ls (by rw [f1]; exact ⟨h', hm, ad1, ad2, hq, iM, e1, e2, hP9, hD9⟩) trivial
    ⟨Nat.le_trans hS.1 (by rw [f1]; exact hz), fun z h1 h2 => by rw [f1, hk9 z (Nat.lt_of_lt_of_le h1 hS.1) (fun w => h2 (hsub z w))]; exact hS.2.1 z h1 h2, fun z hz9 => by
      rcases List.mem_append.mp hz9 with w | w
      · exact hS.2.2 z w
      · exact hsub _ (hL z w)⟩ hl T' rfl X'
  exact ⟨t2, stp t2 a1, b1⟩
theorem lb_Dl (g : GM Γ y cc nL rt k) {y' : MethodName} {cc' : ByteArray} {nL' n idx : Nat} {rt' : Option FieldType} {a b a1 : SP} {ans : Int64} (hC : PCV y.cls idx y' cc' nL' rt' n 3) (hdg : decode cc pc = .ok (.invokevirtual idx, 3)) (k' : Nat) (hk : k' + 1 ≤ k) (av : List Value) (hn : av.length = n) (hw : (st.map fun v => v.category).sum ≤ 8) (hav : ∀ ad sa, av.map (pcv ad sa) = av) (hrun : ∀ h0, IsD a h0 → Runs y' cc' nL' rt' k' (.ref 0 :: av) h0 (fun o h' => ∃ r : Int64, o = some (.long r) ∧ r = ans ∧ IsD a1 h')) (kk : LB Γ (pc + 3) lv (.long ans :: st) (a1, b)) : LB Γ pc lv (av.reverse ++ .ref 0 :: st) (a, b) := by
  obtain ⟨⟨p, l, e, R, s, m⟩, ⟨args, below, meth, c⟩, ⟨D, ta, ad, sa, A⟩, cl, sl, Z⟩ := Γ
  obtain ⟨hx, hb, hml, hr, hlk, hown, hts, hR, hK, hA, hPS, hPN⟩ := g
  intro H locs ls hP hDT hS hl
  obtain ⟨hd, hm, ad1, ad2, iD, iM, e1, e2, hP0, hD0⟩ := hP
  have hP := hP0
  have hD := hD0
  obtain ⟨⟨c1, c2, c3, c4, c5⟩, c6, c7, ⟨C, T, N⟩, c8, c9⟩ := hC
  obtain ⟨fs, hq0⟩ := isD_0 iD
  have hp := pre_of (av := .ref 0 :: av) (va_P_l hP) (va_D_l hD) hS hK hA hPS hPN
  have hrec := va_recv hK (va_P_l hP) c8 (pcw_get hq0)
  have e9 : C = y'.cls := c9
  subst e9
  have hav1 := hav ad1 sa
  have hsub : ∀ z, va_A (pcw ta ad1 sa hd) H.size z → A z := fun z hz => by
    rcases hz with ⟨k0, e0, hk0⟩ | hz
    · exact (va_D_l hD).2 k0 _ hk0
    · exact hA z (Nat.le_trans hS.1 hz)
  have hr9 := va_runV (R := R) (e := e) (below := below) (meth := meth) (locs := locs) (cells := cl) (slots := sl) (g := F0 m pc ls ((av.reverse ++ .ref 0 :: st).map (pcv ad sa))) (rest := st.map (pcv ad sa)) (C := y'.cls) (As := av.map (pcv ad1 sa)) (b := ad1 0) (n := n) ⟨hx, hb, hml, hown, hts⟩ (hrun hd iD l D ta ad1 sa H.size) ⟨callB_of n hts (tbl_in c1) rfl rfl rfl (hts _ c3) (hts _ c2) c4 ⟨by show k' + 1 ≤ _; omega, by show 8 + (nL' + 11) + 60 * k' ≤ _; omega⟩, hts _ c6, hts _ c7⟩ ⟨hp.1, hrec, hp.2⟩ rfl (by simpa using hn) (by rw [← hml]; exact hl.1) (by show (av.reverse ++ .ref 0 :: st).map (pcv ad sa) = _; rw [List.map_append, List.map_reverse, hav, hav, List.map_cons, e1]; rfl) (lv_room (by rw [pcv_sum]; exact hw)) hdg ⟨by omega, by omega⟩
  intro T hT X
  obtain ⟨v, st₀, t, T', L, h0, X', hL, f1, f2, ⟨⟨r, h', hv, hq, hP1, hK1, hD1⟩, hz, hk9⟩, stp⟩ := hr9 T hT X
  obtain ⟨r0, rfl, rfl, hq⟩ := hq
  have hv' : v = some (.long r0) := by injection hv
  subst hv'
  rw [h0] at hz hk9
  obtain ⟨hP9, hD9⟩ := va_fr hP hD hsub hk9 hP1 hD1
  obtain ⟨t2, a1, b1⟩ := kk T'.heap (locs ++ L) ls (by rw [f1]; exact ⟨h', hm, ad1, ad2, hq, iM, e1, e2, hP9, hD9⟩) trivial
    ⟨Nat.le_trans hS.1 (by rw [f1]; exact hz), fun z h1 h2 => by rw [f1, hk9 z (Nat.lt_of_lt_of_le h1 hS.1) (fun w => h2 (hsub z w))]; exact hS.2.1 z h1 h2, fun z hz9 => by
      rcases List.mem_append.mp hz9 with w | w
      · exact hS.2.2 z w
      · exact hsub _ (hL z w)⟩ hl T' rfl X'
  exact ⟨t2, stp t2 a1, b1⟩
theorem lb_Mi (g : GM Γ y cc nL rt k) {y' : MethodName} {cc' : ByteArray} {nL' n idx : Nat} {rt' : Option FieldType} {a b b1 : SP} {ans : Int32} (hC : PCV y.cls idx y' cc' nL' rt' n 4) (hdg : decode cc pc = .ok (.invokevirtual idx, 3)) (k' : Nat) (hk : k' + 1 ≤ k) (av : List Value) (hn : av.length = n) (hw : (st.map fun v => v.category).sum ≤ 8) (hav : ∀ ad sa, av.map (pcv ad sa) = av) (hrun : ∀ h0, IsM b h0 → Runs y' cc' nL' rt' k' (.ref 0 :: av) h0 (fun o h' => ∃ r : Int32, o = some (.int r) ∧ r = ans ∧ IsM b1 h')) (kk : LB Γ (pc + 3) lv (.int ans :: st) (a, b1)) : LB Γ pc lv (av.reverse ++ .ref 52 :: st) (a, b) := by
  obtain ⟨⟨p, l, e, R, s, m⟩, ⟨args, below, meth, c⟩, ⟨D, ta, ad, sa, A⟩, cl, sl, Z⟩ := Γ
  obtain ⟨hx, hb, hml, hr, hlk, hown, hts, hR, hK, hA, hPS, hPN⟩ := g
  intro H locs ls hP hDT hS hl
  obtain ⟨hd, hm, ad1, ad2, iD, iM, e1, e2, hP0, hD0⟩ := hP
  have hP := va_P_sw hP0
  have hD := va_D_sw hD0
  obtain ⟨⟨c1, c2, c3, c4, c5⟩, c6, c7, ⟨C, T, N⟩, c8, c9⟩ := hC
  obtain ⟨fs, hq0⟩ := isM_0 iM
  have hp := pre_of (av := .ref 0 :: av) (va_P_l hP) (va_D_l hD) hS hK hA hPS hPN
  have hrec := va_recv hK (va_P_l hP) c8 (pcw_get hq0)
  have e9 : C = y'.cls := c9
  subst e9
  have hav1 := hav ad2 sa
  have hsub : ∀ z, va_A (pcw ta ad2 sa hm) H.size z → A z := fun z hz => by
    rcases hz with ⟨k0, e0, hk0⟩ | hz
    · exact (va_D_l hD).2 k0 _ hk0
    · exact hA z (Nat.le_trans hS.1 hz)
  have hr9 := va_runV (R := R) (e := e) (below := below) (meth := meth) (locs := locs) (cells := cl) (slots := sl) (g := F0 m pc ls ((av.reverse ++ .ref 52 :: st).map (pcv ad sa))) (rest := st.map (pcv ad sa)) (C := y'.cls) (As := av.map (pcv ad2 sa)) (b := ad2 0) (n := n) ⟨hx, hb, hml, hown, hts⟩ (hrun hm iM l D ta ad2 sa H.size) ⟨callB_of n hts (tbl_in c1) rfl rfl rfl (hts _ c3) (hts _ c2) c4 ⟨by show k' + 1 ≤ _; omega, by show 8 + (nL' + 11) + 60 * k' ≤ _; omega⟩, hts _ c6, hts _ c7⟩ ⟨hp.1, hrec, hp.2⟩ rfl (by simpa using hn) (by rw [← hml]; exact hl.1) (by show (av.reverse ++ .ref 52 :: st).map (pcv ad sa) = _; rw [List.map_append, List.map_reverse, hav, hav, List.map_cons, e2]; rfl) (lv_room (by rw [pcv_sum]; exact hw)) hdg ⟨by omega, by omega⟩
  intro T hT X
  obtain ⟨v, st₀, t, T', L, h0, X', hL, f1, f2, ⟨⟨r, h', hv, hq, hP1, hK1, hD1⟩, hz, hk9⟩, stp⟩ := hr9 T hT X
  obtain ⟨r0, rfl, rfl, hq⟩ := hq
  have hv' : v = some (.int r0) := by injection hv
  subst hv'
  rw [h0] at hz hk9
  obtain ⟨hP9, hD9⟩ := va_fr hP hD hsub hk9 hP1 hD1
  obtain ⟨t2, a1, b1⟩ := kk T'.heap (locs ++ L) ls (by rw [f1]; exact ⟨hd, h', ad1, ad2, iD, hq, e1, e2, va_P_sw hP9, va_D_sw hD9⟩) trivial
    ⟨Nat.le_trans hS.1 (by rw [f1]; exact hz), fun z h1 h2 => by rw [f1, hk9 z (Nat.lt_of_lt_of_le h1 hS.1) (fun w => h2 (hsub z w))]; exact hS.2.1 z h1 h2, fun z hz9 => by
      rcases List.mem_append.mp hz9 with w | w
      · exact hS.2.2 z w
      · exact hsub _ (hL z w)⟩ hl T' rfl X'
  exact ⟨t2, stp t2 a1, b1⟩
theorem lb_Ml (g : GM Γ y cc nL rt k) {y' : MethodName} {cc' : ByteArray} {nL' n idx : Nat} {rt' : Option FieldType} {a b b1 : SP} {ans : Int64} (hC : PCV y.cls idx y' cc' nL' rt' n 4) (hdg : decode cc pc = .ok (.invokevirtual idx, 3)) (k' : Nat) (hk : k' + 1 ≤ k) (av : List Value) (hn : av.length = n) (hw : (st.map fun v => v.category).sum ≤ 8) (hav : ∀ ad sa, av.map (pcv ad sa) = av) (hrun : ∀ h0, IsM b h0 → Runs y' cc' nL' rt' k' (.ref 0 :: av) h0 (fun o h' => ∃ r : Int64, o = some (.long r) ∧ r = ans ∧ IsM b1 h')) (kk : LB Γ (pc + 3) lv (.long ans :: st) (a, b1)) : LB Γ pc lv (av.reverse ++ .ref 52 :: st) (a, b) := by
  obtain ⟨⟨p, l, e, R, s, m⟩, ⟨args, below, meth, c⟩, ⟨D, ta, ad, sa, A⟩, cl, sl, Z⟩ := Γ
  obtain ⟨hx, hb, hml, hr, hlk, hown, hts, hR, hK, hA, hPS, hPN⟩ := g
  intro H locs ls hP hDT hS hl
  obtain ⟨hd, hm, ad1, ad2, iD, iM, e1, e2, hP0, hD0⟩ := hP
  have hP := va_P_sw hP0
  have hD := va_D_sw hD0
  obtain ⟨⟨c1, c2, c3, c4, c5⟩, c6, c7, ⟨C, T, N⟩, c8, c9⟩ := hC
  obtain ⟨fs, hq0⟩ := isM_0 iM
  have hp := pre_of (av := .ref 0 :: av) (va_P_l hP) (va_D_l hD) hS hK hA hPS hPN
  have hrec := va_recv hK (va_P_l hP) c8 (pcw_get hq0)
  have e9 : C = y'.cls := c9
  subst e9
  have hav1 := hav ad2 sa
  have hsub : ∀ z, va_A (pcw ta ad2 sa hm) H.size z → A z := fun z hz => by
    rcases hz with ⟨k0, e0, hk0⟩ | hz
    · exact (va_D_l hD).2 k0 _ hk0
    · exact hA z (Nat.le_trans hS.1 hz)
  have hr9 := va_runV (R := R) (e := e) (below := below) (meth := meth) (locs := locs) (cells := cl) (slots := sl) (g := F0 m pc ls ((av.reverse ++ .ref 52 :: st).map (pcv ad sa))) (rest := st.map (pcv ad sa)) (C := y'.cls) (As := av.map (pcv ad2 sa)) (b := ad2 0) (n := n) ⟨hx, hb, hml, hown, hts⟩ (hrun hm iM l D ta ad2 sa H.size) ⟨callB_of n hts (tbl_in c1) rfl rfl rfl (hts _ c3) (hts _ c2) c4 ⟨by show k' + 1 ≤ _; omega, by show 8 + (nL' + 11) + 60 * k' ≤ _; omega⟩, hts _ c6, hts _ c7⟩ ⟨hp.1, hrec, hp.2⟩ rfl (by simpa using hn) (by rw [← hml]; exact hl.1) (by show (av.reverse ++ .ref 52 :: st).map (pcv ad sa) = _; rw [List.map_append, List.map_reverse, hav, hav, List.map_cons, e2]; rfl) (lv_room (by rw [pcv_sum]; exact hw)) hdg ⟨by omega, by omega⟩
  intro T hT X
  obtain ⟨v, st₀, t, T', L, h0, X', hL, f1, f2, ⟨⟨r, h', hv, hq, hP1, hK1, hD1⟩, hz, hk9⟩, stp⟩ := hr9 T hT X
  obtain ⟨r0, rfl, rfl, hq⟩ := hq
  have hv' : v = some (.long r0) := by injection hv
  subst hv'
  rw [h0] at hz hk9
  obtain ⟨hP9, hD9⟩ := va_fr hP hD hsub hk9 hP1 hD1
  obtain ⟨t2, a1, b1⟩ := kk T'.heap (locs ++ L) ls (by rw [f1]; exact ⟨hd, h', ad1, ad2, iD, hq, e1, e2, va_P_sw hP9, va_D_sw hD9⟩) trivial
    ⟨Nat.le_trans hS.1 (by rw [f1]; exact hz), fun z h1 h2 => by rw [f1, hk9 z (Nat.lt_of_lt_of_le h1 hS.1) (fun w => h2 (hsub z w))]; exact hS.2.1 z h1 h2, fun z hz9 => by
      rcases List.mem_append.mp hz9 with w | w
      · exact hS.2.2 z w
      · exact hsub _ (hL z w)⟩ hl T' rfl X'
  exact ⟨t2, stp t2 a1, b1⟩
end LBM
