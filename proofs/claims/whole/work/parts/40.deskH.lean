/-! ===== the desk: lots ===== -/
/-- where the card with lot h at place i is taken from: those of lower lots, and those of the same ahead of it -/
def psL (l : Nat → Nat) (h i : Nat) : Nat → Nat
  | 0 => 0
  | k + 1 => psL l h i k + (if l k < h ∨ (l k = h ∧ k < i) then 1 else 0)
def ltL (l : Nat → Nat) (h : Nat) : Nat → Nat
  | 0 => 0
  | k + 1 => ltL l h k + (if l k < h then 1 else 0)
def eqL (l : Nat → Nat) (h : Nat) : Nat → Nat
  | 0 => 0
  | k + 1 => eqL l h k + (if l k = h then 1 else 0)
theorem psL_split (l : Nat → Nat) (h i : Nat) : ∀ m, psL l h i m = ltL l h m + eqL l h (min m i)
  | 0 => by rw [Nat.zero_min]; rfl
  | m + 1 => by
    rw [psL, ltL, psL_split l h i m]
    by_cases hmi : m < i
    · rw [show min (m + 1) i = m + 1 by omega, show min m i = m by omega, eqL]
      by_cases q : l m < h
      · rw [if_pos (Or.inl q), if_pos q, if_neg (show ¬ l m = h by omega)]
        omega
      · by_cases r : l m = h
        · rw [if_pos (Or.inr ⟨r, hmi⟩), if_neg q, if_pos r]
          omega
        · rw [if_neg (fun z => z.elim q (fun z => r z.1)), if_neg q, if_neg r]
          omega
    · rw [show min (m + 1) i = i by omega, show min m i = i by omega]
      by_cases q : l m < h
      · rw [if_pos (Or.inl q), if_pos q]
        omega
      · rw [if_neg (fun z => z.elim q (fun z => hmi z.2)), if_neg q]
        omega
theorem psL_le (l : Nat → Nat) (h i : Nat) : ∀ m, psL l h i m ≤ m ∧ (i < m → l i = h → psL l h i m < m)
  | 0 => ⟨Nat.le_refl 0, fun q => absurd q (by omega)⟩
  | m + 1 => by
    obtain ⟨h1, h2⟩ := psL_le l h i m
    rw [psL]
    refine ⟨by split <;> omega, fun q e => ?_⟩
    by_cases r : i < m
    · have := h2 r e
      split <;> omega
    · have e2 : m = i := by omega
      rw [if_neg]
      · omega
      · rw [e2, e]
        intro z
        rcases z with z | z
        · omega
        · omega
theorem psL_at {l : Nat → Nat} {n i : Nat} (hi : i < n) : ltL l (l i) n + eqL l (l i) i = psL l (l i) i n ∧ psL l (l i) i n < n := by
  have h1 := psL_split l (l i) i n
  rw [show min n i = i by omega] at h1
  exact ⟨h1.symm, (psL_le l (l i) i n).2 hi rfl⟩
theorem ltL_le (l : Nat → Nat) (h : Nat) : ∀ m, ltL l h m ≤ m
  | 0 => Nat.le_refl 0
  | m + 1 => by
    have := ltL_le l h m
    rw [ltL]
    split <;> omega
theorem eqL_le (l : Nat → Nat) (h : Nat) : ∀ m, eqL l h m ≤ m
  | 0 => Nat.le_refl 0
  | m + 1 => by
    have := eqL_le l h m
    rw [eqL]
    split <;> omega
theorem lt_succ (l : Nat → Nat) (h : Nat) : ∀ m, ltL l (h + 1) m = ltL l h m + eqL l h m
  | 0 => rfl
  | m + 1 => by
    rw [ltL, ltL, eqL, lt_succ l h m]
    by_cases q : l m < h
    · rw [if_pos (show l m < h + 1 by omega), if_pos q, if_neg (show ¬ l m = h by omega)]
      omega
    · by_cases r : l m = h
      · rw [if_pos (show l m < h + 1 by omega), if_neg q, if_pos r]
        omega
      · rw [if_neg (show ¬ l m < h + 1 by omega), if_neg q, if_neg r]
        omega
theorem ltL_0 (l : Nat → Nat) : ∀ m, ltL l 0 m = 0
  | 0 => rfl
  | m + 1 => by rw [ltL, ltL_0 l m, if_neg (by omega)]
/-- the order behind a riffle by lots, behind a top by a lot -/
def rfO (n : Nat) (l o : Nat → Nat) : Nat → Nat := fun i => o (psL l (l i) i n)
def tpO (t : Nat) (o : Nat → Nat) : Nat → Nat := fun i => if i < t then o (i + 1) else if i = t then o 0 else o i
def layO (n K : Nat) (l o : Nat → Nat) : Nat → Nat := if K = 4 then tpO (l 0) o else rfO n l o
def tmF (f : Nat → Int32) : Nat → (Nat → Int32)
  | 0 => f
  | i + 1 => upd (tmF f i) i (f (i + 1))
theorem tm_at (f : Nat → Int32) : ∀ t i, tmF f t i = if i < t then f (i + 1) else f i
  | 0, i => by rw [if_neg (by omega)]; rfl
  | t + 1, i => by
    show upd (tmF f t) t (f (t + 1)) i = _
    by_cases e : i = t
    · rw [upd, if_pos e, if_pos (by omega), e]
    · rw [upd, if_neg e, tm_at f t i]
      by_cases q : i < t
      · rw [if_pos q, if_pos (by omega)]
      · rw [if_neg q, if_neg (by omega)]
set_option maxHeartbeats 4000000 in
set_option maxRecDepth 100000 in
theorem c_layTop (k t ko : Nat) (ht : t < 10) (f : Nat → Int32) (h : PH) (h1 : h[ko]? = some (pI 10 f)) : Runs yX7_layTop cX7_layTop 4 none (k) [.ref ko, .int (nI t)] h (fun oo h' => oo = none ∧ h.set ko (pI 10 (upd (tmF f t) t (f 0))) = h') := by
  refine Runs.of (by decide) (Nat.le_of_ble_eq_true rfl) [some (.ref ko), some (.int (nI t)), none, none] 2 rfl (fun Γ g z => ?_)
  have loop : ∀ i, i ≤ t → PB Γ 6 [some (.ref ko), some (.int (nI t)), some (.int (f 0)), some (.int (nI i))] [] (h.set ko (pI 10 (tmF f i))) := by
    refine pb_loop (t) (fun i hi ih => ?_)
    refine pb_iload_n3 g dX7_layTop_6 ?_
    refine pb_iload_n1 g dX7_layTop_7 ?_
    first | refine pb_icmp_geN g 25 dX7_layTop_8 (by decide) (by omega) (by omega) (fun c8 => ?_) (fun c8 => ?_) | refine pb_icmp_ge g 25 dX7_layTop_8 (by decide) (fun c8 => ?_) (fun c8 => ?_)
    · refine pb_aload_n0 g dX7_layTop_25 ?_
      refine pb_iload_n1 g dX7_layTop_26 ?_
      refine pb_iload_n2 g dX7_layTop_27 ?_
      first | refine pb_iastN g dX7_layTop_28 (by first | assumption | rfl | exact hs_eq (by assumption) | (rw [hs_ne (by omega)]; assumption)) (by omega) (by omega) ?_ | refine pb_iast g dX7_layTop_28 (by first | assumption | rfl | exact hs_eq (by assumption) | (rw [hs_ne (by omega)]; assumption)) (by assumption) ?_
      rw [List.set_set]
      refine pb_vret g z dX7_layTop_29 ?_
      exact ⟨rfl, by rw [show i = t by omega]⟩
    · refine pb_aload_n0 g dX7_layTop_11 ?_
      refine pb_iload_n3 g dX7_layTop_12 ?_
      refine pb_aload_n0 g dX7_layTop_13 ?_
      refine pb_iload_n3 g dX7_layTop_14 ?_
      refine pb_iconst (v := nI 1) g dX7_layTop_15 (by decide) ?_
      first | refine pb_iaddN g dX7_layTop_16 ?_ | refine pb_iadd g dX7_layTop_16 ?_
      first | refine pb_ialdN g dX7_layTop_17 (by first | assumption | rfl | exact hs_eq (by assumption) | (rw [hs_ne (by omega)]; assumption)) (by omega) (by omega) ?_ | refine pb_ald0 g dX7_layTop_17 (by omega) ?_ | refine pb_ald1 g dX7_layTop_17 (by omega) ?_ | refine pb_ald2 g dX7_layTop_17 (by omega) ?_ | refine pb_ald3 g dX7_layTop_17 (by omega) ?_ | refine pb_iald g dX7_layTop_17 (by first | assumption | rfl | exact hs_eq (by assumption) | (rw [hs_ne (by omega)]; assumption)) (by assumption) ?_
      rw [tm_at f i (i + 1), if_neg (by omega)]
      first | refine pb_iastN g dX7_layTop_18 (by first | assumption | rfl | exact hs_eq (by assumption) | (rw [hs_ne (by omega)]; assumption)) (by omega) (by omega) ?_ | refine pb_iast g dX7_layTop_18 (by first | assumption | rfl | exact hs_eq (by assumption) | (rw [hs_ne (by omega)]; assumption)) (by assumption) ?_
      rw [List.set_set]
      first | refine pb_iinc3N g dX7_layTop_19 (by decide) ?_ | refine pb_iinc3 g dX7_layTop_19 (by decide) rfl ?_
      refine pb_goto g 6 dX7_layTop_22 (by decide) ?_
      exact ih c8
  refine pb_aload_n0 g dX7_layTop_0 ?_
  refine pb_iconst (v := nI 0) g dX7_layTop_1 (by decide) ?_
  first | refine pb_ialdN g dX7_layTop_2 (by first | assumption | rfl) (by omega) (by omega) ?_ | refine pb_ald0 g dX7_layTop_2 (by omega) ?_ | refine pb_ald1 g dX7_layTop_2 (by omega) ?_ | refine pb_ald2 g dX7_layTop_2 (by omega) ?_ | refine pb_ald3 g dX7_layTop_2 (by omega) ?_ | refine pb_iald g dX7_layTop_2 (by first | assumption | rfl) (by assumption) ?_
  refine pb_istore_n2 g dX7_layTop_3 (by decide) ?_
  refine pb_iconst (v := nI 0) g dX7_layTop_4 (by decide) ?_
  refine pb_istore_n3 g dX7_layTop_5 (by decide) ?_
  have hl := loop 0 (Nat.zero_le _)
  rw [tmF, hs_self h1] at hl
  exact hl
set_option maxHeartbeats 4000000 in
set_option maxRecDepth 100000 in
theorem x_layRiffle (k : Nat) {pc sc sd ar ak an ah : Int32} {pk fr it jk : Nat → Nat → Int32} {kd hp ts tz kt : Nat → Int32} {jl : Nat → Nat → Int64} {n a p : Nat} (hn : n ≤ 10) (ha : a ≤ 10) (hp12 : p < 12) (l : Nat → Nat) (hl : ∀ i, i < n → jk 2 i = nI (l i)) (hla : ∀ i, i < n → l i < a) : Runs yX7_layRiffle cX7_layRiffle 6 none (k) [.ref 0, .ref (2 + p), .int (nI a)] (mkH 52 (dkF (nI n) pc sc sd pk fr it kd hp ts tz ar ak an ah kt jk jl)) (fun oo h' => oo = none ∧ ∃ (f' : Nat → Int32) (jk' : Nat → Nat → Int32), mkH 52 (dkF (nI n) pc sc sd (va_up pk p f') fr it kd hp ts tz ar ak an ah kt (jk') jl) = h' ∧ ∀ i, i < n → f' i = pk p (psL l (l i) i n)) := by
  refine Runs.of (by decide) (Nat.le_of_ble_eq_true rfl) [some (.ref 0), some (.ref (2 + p)), some (.int (nI a)), none, none, none] 3 rfl (fun Γ g z => ?_)
  have p4 : ∀ i, i ≤ n → ∀ (j4 : Nat → Nat → Int32) (f4 : Nat → Int32) (w3 : Int32) (w5 : Option Value), (∀ i, i < n → j4 2 i = nI (l i)) → (∀ i, i < n → j4 0 i = pk p i) → (∀ h, h < a → j4 3 h = nI (ltL l h n + eqL l h i)) → (∀ m, m < i → f4 m = pk p (psL l (l m) m n)) → PB Γ 102 [some (.ref 0), some (.ref (2 + p)), some (.int (nI a)), some (.int w3), some (.int (nI i)), w5] [] (mkH 52 (dkF (nI n) pc sc sd (va_up pk p f4) fr it kd hp ts tz ar ak an ah kt (j4) jl)) := by
    refine pb_loop n (fun i hi ih j4 f4 w3 w5 q2 q0 q3 qf => ?_)
    by_cases hin : i < n
    · have ih := ih hin
      obtain ⟨e1, e2⟩ := psL_at (l := l) hin
      have hlai := hla i hin
      have b1 := ltL_le l (l i) n
      have b2 := eqL_le l (l i) i
      refine pb_iload4 g dX7_layRiffle_102 ?_
      refine pb_aload_n0 g dX7_layRiffle_104 ?_
      refine pb_getf g fX7_33 dX7_layRiffle_105 dr_o rfl ?_
      first | refine pb_icmp_geN g 143 dX7_layRiffle_108 (by decide) (by omega) (by omega) (fun c108 => ?_) (fun c108 => ?_) | refine pb_icmp_ge g 143 dX7_layRiffle_108 (by decide) (fun c108 => ?_) (fun c108 => ?_)
      · exact absurd c108 (by omega)
      · refine pb_aload_n1 g dX7_layRiffle_111 ?_
        refine pb_iload4 g dX7_layRiffle_112 ?_
        refine pb_aload_n0 g dX7_layRiffle_114 ?_
        refine pb_getf g fX7_46 dX7_layRiffle_115 dr_o rfl ?_
        refine pb_aload_n0 g dX7_layRiffle_118 ?_
        refine pb_getf g fX7_56 dX7_layRiffle_119 dr_o rfl ?_
        refine pb_aload_n0 g dX7_layRiffle_122 ?_
        refine pb_getf g fX7_53 dX7_layRiffle_123 dr_o rfl ?_
        refine pb_iload4 g dX7_layRiffle_126 ?_
        first | refine pb_ialdN g dX7_layRiffle_128 (by first | exact dr_lr | exact dr_nh | exact dr_bf | exact dr_pk (by omega) | exact dr_fr (by omega) | exact dr_it (by omega) | exact dr_kt | exact dr_pl | exact dr_lc | exact dr_bl | assumption) (by omega) (by omega) ?_ | refine pb_ald0 g dX7_layRiffle_128 (by omega) ?_ | refine pb_ald1 g dX7_layRiffle_128 (by omega) ?_ | refine pb_ald2 g dX7_layRiffle_128 (by omega) ?_ | refine pb_ald3 g dX7_layRiffle_128 (by omega) ?_ | refine pb_iald g dX7_layRiffle_128 (by first | exact dr_lr | exact dr_nh | exact dr_bf | exact dr_pk (by omega) | exact dr_fr (by omega) | exact dr_it (by omega) | exact dr_kt | exact dr_pl | exact dr_lc | exact dr_bl | assumption) (by assumption) ?_
        rw [q2 i hin]
        refine pb_dup2 g dX7_layRiffle_129 rfl rfl ?_
        first | refine pb_ialdN g dX7_layRiffle_130 (by first | exact dr_lr | exact dr_nh | exact dr_bf | exact dr_pk (by omega) | exact dr_fr (by omega) | exact dr_it (by omega) | exact dr_kt | exact dr_pl | exact dr_lc | exact dr_bl | assumption) (by omega) (by omega) ?_ | refine pb_ald0 g dX7_layRiffle_130 (by omega) ?_ | refine pb_ald1 g dX7_layRiffle_130 (by omega) ?_ | refine pb_ald2 g dX7_layRiffle_130 (by omega) ?_ | refine pb_ald3 g dX7_layRiffle_130 (by omega) ?_ | refine pb_iald g dX7_layRiffle_130 (by first | exact dr_lr | exact dr_nh | exact dr_bf | exact dr_pk (by omega) | exact dr_fr (by omega) | exact dr_it (by omega) | exact dr_kt | exact dr_pl | exact dr_lc | exact dr_bl | assumption) (by assumption) ?_
        rw [q3 (l i) hlai]
        refine pb_dup_x2 g dX7_layRiffle_131 rfl rfl rfl ?_
        refine pb_iconst (v := nI 1) g dX7_layRiffle_132 (by decide) ?_
        first | refine pb_iaddN g dX7_layRiffle_133 ?_ | refine pb_iadd g dX7_layRiffle_133 ?_
        first | refine pb_iastN g dX7_layRiffle_134 (by first | exact dr_lr | exact dr_nh | exact dr_bf | exact dr_pk (by omega) | exact dr_fr (by omega) | exact dr_it (by omega) | exact dr_kt | exact dr_pl | exact dr_lc | exact dr_bl | assumption) (by omega) (by omega) ?_ | refine pb_iast g dX7_layRiffle_134 (by first | exact dr_lr | exact dr_nh | exact dr_bf | exact dr_pk (by omega) | exact dr_fr (by omega) | exact dr_it (by omega) | exact dr_kt | exact dr_pl | exact dr_lc | exact dr_bl | assumption) (by assumption) ?_
        rw [ds_nh, e1]
        first | refine pb_ialdN g dX7_layRiffle_135 (by first | exact dr_lr | exact dr_nh | exact dr_bf | exact dr_pk (by omega) | exact dr_fr (by omega) | exact dr_it (by omega) | exact dr_kt | exact dr_pl | exact dr_lc | exact dr_bl | assumption) (by omega) (by omega) ?_ | refine pb_ald0 g dX7_layRiffle_135 (by omega) ?_ | refine pb_ald1 g dX7_layRiffle_135 (by omega) ?_ | refine pb_ald2 g dX7_layRiffle_135 (by omega) ?_ | refine pb_ald3 g dX7_layRiffle_135 (by omega) ?_ | refine pb_iald g dX7_layRiffle_135 (by first | exact dr_lr | exact dr_nh | exact dr_bf | exact dr_pk (by omega) | exact dr_fr (by omega) | exact dr_it (by omega) | exact dr_kt | exact dr_pl | exact dr_lc | exact dr_bl | assumption) (by assumption) ?_
        rw [va_upN (by decide), q0 _ e2]
        first | refine pb_iastN g dX7_layRiffle_136 (by first | exact dr_lr | exact dr_nh | exact dr_bf | exact dr_pk (by omega) | exact dr_fr (by omega) | exact dr_it (by omega) | exact dr_kt | exact dr_pl | exact dr_lc | exact dr_bl | assumption) (by omega) (by omega) ?_ | refine pb_iast g dX7_layRiffle_136 (by first | exact dr_lr | exact dr_nh | exact dr_bf | exact dr_pk (by omega) | exact dr_fr (by omega) | exact dr_it (by omega) | exact dr_kt | exact dr_pl | exact dr_lc | exact dr_bl | assumption) (by assumption) ?_
        rw [ds_pk (by omega), bx_uu, va_upS]
        first | refine pb_iinc4N g dX7_layRiffle_137 (by decide) ?_ | refine pb_iinc4 g dX7_layRiffle_137 (by decide) rfl ?_
        refine pb_goto g 102 dX7_layRiffle_140 (by decide) ?_
        exact ih _ _ w3 w5 (fun m hm => by rw [va_upN (by decide)]; exact q2 m hm) (fun m hm => by rw [va_upN (by decide)]; exact q0 m hm) (fun u hu => by
          rw [va_upS, upd, eqL]
          by_cases q : u = l i
          · rw [if_pos q, q, if_pos rfl, ← Nat.add_assoc, e1]
          · rw [if_neg q, if_neg (fun z => q z.symm), Nat.add_zero]
            exact q3 u hu) (fun m hm => by
          rw [upd]
          by_cases q : m = i
          · rw [if_pos q, q]
          · rw [if_neg q]
            exact qf m (by omega))
    · obtain rfl : i = n := by omega
      refine pb_iload4 g dX7_layRiffle_102 ?_
      refine pb_aload_n0 g dX7_layRiffle_104 ?_
      refine pb_getf g fX7_33 dX7_layRiffle_105 dr_o rfl ?_
      first | refine pb_icmp_geN g 143 dX7_layRiffle_108 (by decide) (by omega) (by omega) (fun c108 => ?_) (fun c108 => ?_) | refine pb_icmp_ge g 143 dX7_layRiffle_108 (by decide) (fun c108 => ?_) (fun c108 => ?_)
      · refine pb_vret g z dX7_layRiffle_143 ?_
        exact ⟨rfl, f4, j4, rfl, qf⟩
      · exact absurd c108 (by omega)
  have p3 : ∀ u, u ≤ a → ∀ (j4 : Nat → Nat → Int32) (w5 : Option Value), (∀ i, i < n → j4 2 i = nI (l i)) → (∀ i, i < n → j4 0 i = pk p i) → (∀ h, h < a → j4 3 h = nI (if h < u then ltL l h n else eqL l h n)) → PB Γ 65 [some (.ref 0), some (.ref (2 + p)), some (.int (nI a)), some (.int (nI (ltL l u n))), some (.int (nI u)), w5] [] (mkH 52 (dkF (nI n) pc sc sd pk fr it kd hp ts tz ar ak an ah kt (j4) jl)) := by
    refine pb_loop a (fun u hu ih j4 w5 q2 q0 q3 => ?_)
    by_cases hua : u < a
    · have ih := ih hua
      refine pb_iload4 g dX7_layRiffle_65 ?_
      refine pb_iload_n2 g dX7_layRiffle_67 ?_
      first | refine pb_icmp_geN g 99 dX7_layRiffle_68 (by decide) (by omega) (by omega) (fun c68 => ?_) (fun c68 => ?_) | refine pb_icmp_ge g 99 dX7_layRiffle_68 (by decide) (fun c68 => ?_) (fun c68 => ?_)
      · exact absurd c68 (by omega)
      · refine pb_aload_n0 g dX7_layRiffle_71 ?_
        refine pb_getf g fX7_56 dX7_layRiffle_72 dr_o rfl ?_
        refine pb_iload4 g dX7_layRiffle_75 ?_
        first | refine pb_ialdN g dX7_layRiffle_77 (by first | exact dr_nh | exact dr_pk (by omega) | exact dr_fr (by omega) | exact dr_it (by omega) | exact dr_kt | exact dr_bf | exact dr_pl | exact dr_lr | exact dr_lc | exact dr_bl | assumption) (by omega) (by omega) ?_ | refine pb_ald0 g dX7_layRiffle_77 (by omega) ?_ | refine pb_ald1 g dX7_layRiffle_77 (by omega) ?_ | refine pb_ald2 g dX7_layRiffle_77 (by omega) ?_ | refine pb_ald3 g dX7_layRiffle_77 (by omega) ?_ | refine pb_iald g dX7_layRiffle_77 (by first | exact dr_nh | exact dr_pk (by omega) | exact dr_fr (by omega) | exact dr_it (by omega) | exact dr_kt | exact dr_bf | exact dr_pl | exact dr_lr | exact dr_lc | exact dr_bl | assumption) (by assumption) ?_
        rw [q3 u hua, if_neg (by omega)]
        refine pb_istore5 g dX7_layRiffle_78 (by decide) ?_
        refine pb_aload_n0 g dX7_layRiffle_80 ?_
        refine pb_getf g fX7_56 dX7_layRiffle_81 dr_o rfl ?_
        refine pb_iload4 g dX7_layRiffle_84 ?_
        refine pb_iload_n3 g dX7_layRiffle_86 ?_
        first | refine pb_iastN g dX7_layRiffle_87 (by first | exact dr_nh | exact dr_pk (by omega) | exact dr_fr (by omega) | exact dr_it (by omega) | exact dr_kt | exact dr_bf | exact dr_pl | exact dr_lr | exact dr_lc | exact dr_bl | assumption) (by omega) (by omega) ?_ | refine pb_iast g dX7_layRiffle_87 (by first | exact dr_nh | exact dr_pk (by omega) | exact dr_fr (by omega) | exact dr_it (by omega) | exact dr_kt | exact dr_bf | exact dr_pl | exact dr_lr | exact dr_lc | exact dr_bl | assumption) (by assumption) ?_
        rw [ds_nh]
        refine pb_iload_n3 g dX7_layRiffle_88 ?_
        refine pb_iload5 g dX7_layRiffle_89 ?_
        first | refine pb_iaddN g dX7_layRiffle_91 ?_ | refine pb_iadd g dX7_layRiffle_91 ?_
        refine pb_istore_n3 g dX7_layRiffle_92 (by decide) ?_
        first | refine pb_iinc4N g dX7_layRiffle_93 (by decide) ?_ | refine pb_iinc4 g dX7_layRiffle_93 (by decide) rfl ?_
        refine pb_goto g 65 dX7_layRiffle_96 (by decide) ?_
        rw [lt_succ] at ih
        exact ih _ _ (fun m hm => by rw [va_upN (by decide)]; exact q2 m hm) (fun m hm => by rw [va_upN (by decide)]; exact q0 m hm) (fun h hh => by
          rw [va_upS, upd]
          by_cases q : h = u
          · rw [if_pos q, q, if_pos (by omega)]
          · rw [if_neg q, q3 h hh]
            by_cases r : h < u
            · rw [if_pos r, if_pos (by omega)]
            · rw [if_neg r, if_neg (by omega)])
    · obtain rfl : u = a := by omega
      refine pb_iload4 g dX7_layRiffle_65 ?_
      refine pb_iload_n2 g dX7_layRiffle_67 ?_
      first | refine pb_icmp_geN g 99 dX7_layRiffle_68 (by decide) (by omega) (by omega) (fun c68 => ?_) (fun c68 => ?_) | refine pb_icmp_ge g 99 dX7_layRiffle_68 (by decide) (fun c68 => ?_) (fun c68 => ?_)
      · refine pb_iconst (v := nI 0) g dX7_layRiffle_99 (by decide) ?_
        refine pb_istore4 g dX7_layRiffle_100 (by decide) ?_
        have h4 := p4 0 (Nat.zero_le _) j4 (pk p) (nI (ltL l u n)) w5 q2 q0 (fun h hh => by rw [q3 h hh, if_pos hh, eqL, Nat.add_zero]) (fun m hm => absurd hm (by omega))
        rw [vu_self] at h4
        exact h4
      · exact absurd c68 (by omega)
  have p2 : ∀ i, i ≤ n → ∀ (j4 : Nat → Nat → Int32), (∀ i, i < n → j4 2 i = nI (l i)) → (∀ m, m < i → j4 0 m = pk p m) → (∀ h, h < a → j4 3 h = nI (eqL l h i)) → PB Γ 22 [some (.ref 0), some (.ref (2 + p)), some (.int (nI a)), some (.int (nI i)), none, none] [] (mkH 52 (dkF (nI n) pc sc sd pk fr it kd hp ts tz ar ak an ah kt (j4) jl)) := by
    refine pb_loop n (fun i hi ih j4 q2 q0 q3 => ?_)
    by_cases hin : i < n
    · have ih := ih hin
      have hlai := hla i hin
      have b2 := eqL_le l (l i) i
      refine pb_iload_n3 g dX7_layRiffle_22 ?_
      refine pb_aload_n0 g dX7_layRiffle_23 ?_
      refine pb_getf g fX7_33 dX7_layRiffle_24 dr_o rfl ?_
      first | refine pb_icmp_geN g 60 dX7_layRiffle_27 (by decide) (by omega) (by omega) (fun c27 => ?_) (fun c27 => ?_) | refine pb_icmp_ge g 60 dX7_layRiffle_27 (by decide) (fun c27 => ?_) (fun c27 => ?_)
      · exact absurd c27 (by omega)
      · refine pb_aload_n0 g dX7_layRiffle_30 ?_
        refine pb_getf g fX7_46 dX7_layRiffle_31 dr_o rfl ?_
        refine pb_iload_n3 g dX7_layRiffle_34 ?_
        refine pb_aload_n1 g dX7_layRiffle_35 ?_
        refine pb_iload_n3 g dX7_layRiffle_36 ?_
        first | refine pb_ialdN g dX7_layRiffle_37 (by first | exact dr_bf | exact dr_pk (by omega) | exact dr_fr (by omega) | exact dr_it (by omega) | exact dr_kt | exact dr_pl | exact dr_lr | exact dr_nh | exact dr_lc | exact dr_bl | assumption) (by omega) (by omega) ?_ | refine pb_ald0 g dX7_layRiffle_37 (by omega) ?_ | refine pb_ald1 g dX7_layRiffle_37 (by omega) ?_ | refine pb_ald2 g dX7_layRiffle_37 (by omega) ?_ | refine pb_ald3 g dX7_layRiffle_37 (by omega) ?_ | refine pb_iald g dX7_layRiffle_37 (by first | exact dr_bf | exact dr_pk (by omega) | exact dr_fr (by omega) | exact dr_it (by omega) | exact dr_kt | exact dr_pl | exact dr_lr | exact dr_nh | exact dr_lc | exact dr_bl | assumption) (by assumption) ?_
        first | refine pb_iastN g dX7_layRiffle_38 (by first | exact dr_bf | exact dr_pk (by omega) | exact dr_fr (by omega) | exact dr_it (by omega) | exact dr_kt | exact dr_pl | exact dr_lr | exact dr_nh | exact dr_lc | exact dr_bl | assumption) (by omega) (by omega) ?_ | refine pb_iast g dX7_layRiffle_38 (by first | exact dr_bf | exact dr_pk (by omega) | exact dr_fr (by omega) | exact dr_it (by omega) | exact dr_kt | exact dr_pl | exact dr_lr | exact dr_nh | exact dr_lc | exact dr_bl | assumption) (by assumption) ?_
        rw [ds_bf]
        refine pb_aload_n0 g dX7_layRiffle_39 ?_
        refine pb_getf g fX7_56 dX7_layRiffle_40 dr_o rfl ?_
        refine pb_aload_n0 g dX7_layRiffle_43 ?_
        refine pb_getf g fX7_53 dX7_layRiffle_44 dr_o rfl ?_
        refine pb_iload_n3 g dX7_layRiffle_47 ?_
        first | refine pb_ialdN g dX7_layRiffle_48 (by first | exact dr_lr | exact dr_nh | exact dr_bf | exact dr_pk (by omega) | exact dr_fr (by omega) | exact dr_it (by omega) | exact dr_kt | exact dr_pl | exact dr_lc | exact dr_bl | assumption) (by omega) (by omega) ?_ | refine pb_ald0 g dX7_layRiffle_48 (by omega) ?_ | refine pb_ald1 g dX7_layRiffle_48 (by omega) ?_ | refine pb_ald2 g dX7_layRiffle_48 (by omega) ?_ | refine pb_ald3 g dX7_layRiffle_48 (by omega) ?_ | refine pb_iald g dX7_layRiffle_48 (by first | exact dr_lr | exact dr_nh | exact dr_bf | exact dr_pk (by omega) | exact dr_fr (by omega) | exact dr_it (by omega) | exact dr_kt | exact dr_pl | exact dr_lc | exact dr_bl | assumption) (by assumption) ?_
        rw [va_upN (by decide), q2 i hin]
        refine pb_dup2 g dX7_layRiffle_49 rfl rfl ?_
        first | refine pb_ialdN g dX7_layRiffle_50 (by first | exact dr_lr | exact dr_nh | exact dr_bf | exact dr_pk (by omega) | exact dr_fr (by omega) | exact dr_it (by omega) | exact dr_kt | exact dr_pl | exact dr_lc | exact dr_bl | assumption) (by omega) (by omega) ?_ | refine pb_ald0 g dX7_layRiffle_50 (by omega) ?_ | refine pb_ald1 g dX7_layRiffle_50 (by omega) ?_ | refine pb_ald2 g dX7_layRiffle_50 (by omega) ?_ | refine pb_ald3 g dX7_layRiffle_50 (by omega) ?_ | refine pb_iald g dX7_layRiffle_50 (by first | exact dr_lr | exact dr_nh | exact dr_bf | exact dr_pk (by omega) | exact dr_fr (by omega) | exact dr_it (by omega) | exact dr_kt | exact dr_pl | exact dr_lc | exact dr_bl | assumption) (by assumption) ?_
        rw [va_upN (by decide), q3 (l i) hlai]
        refine pb_iconst (v := nI 1) g dX7_layRiffle_51 (by decide) ?_
        first | refine pb_iaddN g dX7_layRiffle_52 ?_ | refine pb_iadd g dX7_layRiffle_52 ?_
        first | refine pb_iastN g dX7_layRiffle_53 (by first | exact dr_lr | exact dr_nh | exact dr_bf | exact dr_pk (by omega) | exact dr_fr (by omega) | exact dr_it (by omega) | exact dr_kt | exact dr_pl | exact dr_lc | exact dr_bl | assumption) (by omega) (by omega) ?_ | refine pb_iast g dX7_layRiffle_53 (by first | exact dr_lr | exact dr_nh | exact dr_bf | exact dr_pk (by omega) | exact dr_fr (by omega) | exact dr_it (by omega) | exact dr_kt | exact dr_pl | exact dr_lc | exact dr_bl | assumption) (by assumption) ?_
        rw [ds_nh]
        first | refine pb_iinc3N g dX7_layRiffle_54 (by decide) ?_ | refine pb_iinc3 g dX7_layRiffle_54 (by decide) rfl ?_
        refine pb_goto g 22 dX7_layRiffle_57 (by decide) ?_
        exact ih _ (fun m hm => by rw [va_upN (by decide), va_upN (by decide)]; exact q2 m hm) (fun m hm => by
          rw [va_upN (by decide), va_upS, upd]
          by_cases q : m = i
          · rw [if_pos q, q]
          · rw [if_neg q]
            exact q0 m (by omega)) (fun h hh => by
          rw [va_upS, upd, eqL]
          by_cases q : h = l i
          · rw [if_pos q, q, if_pos rfl]
          · rw [if_neg q, if_neg (fun z => q z.symm), Nat.add_zero, va_upN (by decide)]
            exact q3 h hh)
    · obtain rfl : i = n := by omega
      refine pb_iload_n3 g dX7_layRiffle_22 ?_
      refine pb_aload_n0 g dX7_layRiffle_23 ?_
      refine pb_getf g fX7_33 dX7_layRiffle_24 dr_o rfl ?_
      first | refine pb_icmp_geN g 60 dX7_layRiffle_27 (by decide) (by omega) (by omega) (fun c27 => ?_) (fun c27 => ?_) | refine pb_icmp_ge g 60 dX7_layRiffle_27 (by decide) (fun c27 => ?_) (fun c27 => ?_)
      · refine pb_iconst (v := nI 0) g dX7_layRiffle_60 (by decide) ?_
        refine pb_istore_n3 g dX7_layRiffle_61 (by decide) ?_
        refine pb_iconst (v := nI 0) g dX7_layRiffle_62 (by decide) ?_
        refine pb_istore4 g dX7_layRiffle_63 (by decide) ?_
        have h3 := p3 0 (Nat.zero_le _) j4 none q2 q0 (fun h hh => by rw [q3 h hh, if_neg (by omega)])
        rw [ltL_0] at h3
        exact h3
      · exact absurd c27 (by omega)
  have p1 : ∀ u, u ≤ a → ∀ (j4 : Nat → Nat → Int32), (∀ i, i < n → j4 2 i = nI (l i)) → (∀ h, h < u → j4 3 h = nI 0) → PB Γ 2 [some (.ref 0), some (.ref (2 + p)), some (.int (nI a)), some (.int (nI u)), none, none] [] (mkH 52 (dkF (nI n) pc sc sd pk fr it kd hp ts tz ar ak an ah kt (j4) jl)) := by
    refine pb_loop a (fun u hu ih j4 q2 q3 => ?_)
    by_cases hua : u < a
    · have ih := ih hua
      refine pb_iload_n3 g dX7_layRiffle_2 ?_
      refine pb_iload_n2 g dX7_layRiffle_3 ?_
      first | refine pb_icmp_geN g 20 dX7_layRiffle_4 (by decide) (by omega) (by omega) (fun c4 => ?_) (fun c4 => ?_) | refine pb_icmp_ge g 20 dX7_layRiffle_4 (by decide) (fun c4 => ?_) (fun c4 => ?_)
      · exact absurd c4 (by omega)
      · refine pb_aload_n0 g dX7_layRiffle_7 ?_
        refine pb_getf g fX7_56 dX7_layRiffle_8 dr_o rfl ?_
        refine pb_iload_n3 g dX7_layRiffle_11 ?_
        refine pb_iconst (v := nI 0) g dX7_layRiffle_12 (by decide) ?_
        first | refine pb_iastN g dX7_layRiffle_13 (by first | exact dr_nh | exact dr_pk (by omega) | exact dr_fr (by omega) | exact dr_it (by omega) | exact dr_kt | exact dr_bf | exact dr_pl | exact dr_lr | exact dr_lc | exact dr_bl | assumption) (by omega) (by omega) ?_ | refine pb_iast g dX7_layRiffle_13 (by first | exact dr_nh | exact dr_pk (by omega) | exact dr_fr (by omega) | exact dr_it (by omega) | exact dr_kt | exact dr_bf | exact dr_pl | exact dr_lr | exact dr_lc | exact dr_bl | assumption) (by assumption) ?_
        rw [ds_nh]
        first | refine pb_iinc3N g dX7_layRiffle_14 (by decide) ?_ | refine pb_iinc3 g dX7_layRiffle_14 (by decide) rfl ?_
        refine pb_goto g 2 dX7_layRiffle_17 (by decide) ?_
        exact ih _ (fun m hm => by rw [va_upN (by decide)]; exact q2 m hm) (fun h hh => by
          rw [va_upS, upd]
          by_cases q : h = u
          · rw [if_pos q]
          · rw [if_neg q]
            exact q3 h (by omega))
    · obtain rfl : u = a := by omega
      refine pb_iload_n3 g dX7_layRiffle_2 ?_
      refine pb_iload_n2 g dX7_layRiffle_3 ?_
      first | refine pb_icmp_geN g 20 dX7_layRiffle_4 (by decide) (by omega) (by omega) (fun c4 => ?_) (fun c4 => ?_) | refine pb_icmp_ge g 20 dX7_layRiffle_4 (by decide) (fun c4 => ?_) (fun c4 => ?_)
      · refine pb_iconst (v := nI 0) g dX7_layRiffle_20 (by decide) ?_
        refine pb_istore_n3 g dX7_layRiffle_21 (by decide) ?_
        exact p2 0 (Nat.zero_le _) j4 q2 (fun m hm => absurd hm (by omega)) (fun h hh => q3 h hh)
      · exact absurd c4 (by omega)
  refine pb_iconst (v := nI 0) g dX7_layRiffle_0 (by decide) ?_
  refine pb_istore_n3 g dX7_layRiffle_1 (by decide) ?_
  exact p1 0 (Nat.zero_le _) jk hl (fun h hh => absurd hh (by omega))
set_option maxHeartbeats 4000000 in
set_option maxRecDepth 100000 in
theorem x_layByLots (k : Nat) {pc sc sd ar ak an ah : Int32} {pk fr it jk : Nat → Nat → Int32} {kd hp ts tz kt : Nat → Int32} {jl : Nat → Nat → Int64} {s K n a p : Nat} (hs : s < 10) (hk : kd s = nI K) (hh : hp s = nI a) (hK : K < 5) (hn : n ≤ 10) (hn1 : 1 ≤ n) (ha : a ≤ 10) (hp12 : p < 12) (l : Nat → Nat) (h4 : K = 4 → jk 2 0 = nI (l 0) ∧ l 0 < n) (h3 : ¬ K = 4 → ∀ i, i < n → jk 2 i = nI (l i) ∧ l i < a) : Runs yX7_layByLots cX7_layByLots 3 none (k + 1) [.ref 0, .ref (15 + s), .ref (2 + p)] (mkH 52 (dkF (nI n) pc sc sd pk fr it kd hp ts tz ar ak an ah kt jk jl)) (fun oo h' => oo = none ∧ ∃ (f' : Nat → Int32) (jk' : Nat → Nat → Int32), mkH 52 (dkF (nI n) pc sc sd (va_up pk p f') fr it kd hp ts tz ar ak an ah kt (jk') jl) = h' ∧ ∀ i, i < n → ∃ i', i' < n ∧ f' i = pk p i' ∧ ∀ o : Nat → Nat, layO n K l o i = o i') := by
  refine Runs.of (by decide) (Nat.le_of_ble_eq_true rfl) [some (.ref 0), some (.ref (15 + s)), some (.ref (2 + p))] 0 rfl (fun Γ g z => ?_)
  by_cases hk4 : K = 4
  · obtain ⟨q1, q2⟩ := h4 hk4
    refine pb_aload_n1 g dX7_layByLots_0 ?_
    refine pb_getf g fX7_158 dX7_layByLots_1 (dr_sh (by omega)) rfl ?_
    rw [hk]
    refine pb_iconst (v := nI 4) g dX7_layByLots_4 (by decide) ?_
    first | refine pb_icmp_neN g 21 dX7_layByLots_5 (by decide) (by omega) (by omega) (fun c5 => ?_) (fun c5 => ?_) | refine pb_icmp_ne g 21 dX7_layByLots_5 (by decide) (fun c5 => ?_) (fun c5 => ?_)
    · exact absurd hk4 c5
    · refine pb_aload_n2 g dX7_layByLots_8 ?_
      refine pb_aload_n0 g dX7_layByLots_9 ?_
      refine pb_getf g fX7_53 dX7_layByLots_10 dr_o rfl ?_
      refine pb_iconst (v := nI 0) g dX7_layByLots_13 (by decide) ?_
      first | refine pb_ialdN g dX7_layByLots_14 (by first | exact dr_lr | exact dr_pk (by omega) | exact dr_fr (by omega) | exact dr_it (by omega) | exact dr_kt | exact dr_bf | exact dr_pl | exact dr_nh | exact dr_lc | exact dr_bl | assumption) (by omega) (by omega) ?_ | refine pb_ald0 g dX7_layByLots_14 (by omega) ?_ | refine pb_ald1 g dX7_layByLots_14 (by omega) ?_ | refine pb_ald2 g dX7_layByLots_14 (by omega) ?_ | refine pb_ald3 g dX7_layByLots_14 (by omega) ?_ | refine pb_iald g dX7_layByLots_14 (by first | exact dr_lr | exact dr_pk (by omega) | exact dr_fr (by omega) | exact dr_it (by omega) | exact dr_kt | exact dr_bf | exact dr_pl | exact dr_nh | exact dr_lc | exact dr_bl | assumption) (by assumption) ?_
      rw [q1]
      refine pb_Sv2 g qX7_279 dX7_layByLots_15 k (by omega) (c_layTop k (l 0) (2 + p) (by omega) (pk p) _ (dr_pk (by omega))) (fun h15 e15 => ?_)
      subst e15
      rw [ds_pk (by omega)]
      refine pb_goto g 30 dX7_layByLots_18 (by decide) ?_
      refine pb_vret g z dX7_layByLots_30 ?_
      refine ⟨rfl, _, _, rfl, fun i hi => ?_⟩
      rw [upd, tm_at]
      by_cases e1 : i = l 0
      · rw [if_pos e1]
        exact ⟨0, by omega, rfl, fun o => by rw [layO, if_pos hk4, tpO, if_neg (by omega), if_pos e1]⟩
      · rw [if_neg e1]
        by_cases e2 : i < l 0
        · rw [if_pos e2]
          exact ⟨i + 1, by omega, rfl, fun o => by rw [layO, if_pos hk4, tpO, if_pos e2]⟩
        · rw [if_neg e2]
          exact ⟨i, hi, rfl, fun o => by rw [layO, if_pos hk4, tpO, if_neg e2, if_neg e1]⟩
  · have h3 := h3 hk4
    refine pb_aload_n1 g dX7_layByLots_0 ?_
    refine pb_getf g fX7_158 dX7_layByLots_1 (dr_sh (by omega)) rfl ?_
    rw [hk]
    refine pb_iconst (v := nI 4) g dX7_layByLots_4 (by decide) ?_
    first | refine pb_icmp_neN g 21 dX7_layByLots_5 (by decide) (by omega) (by omega) (fun c5 => ?_) (fun c5 => ?_) | refine pb_icmp_ne g 21 dX7_layByLots_5 (by decide) (fun c5 => ?_) (fun c5 => ?_)
    · refine pb_aload_n0 g dX7_layByLots_21 ?_
      refine pb_aload_n2 g dX7_layByLots_22 ?_
      refine pb_aload_n1 g dX7_layByLots_23 ?_
      refine pb_getf g fX7_161 dX7_layByLots_24 (dr_sh (by omega)) rfl ?_
      rw [hh]
      refine pb_Vv2 g qX7_283 dX7_layByLots_27 k (by omega) dr_o (x_layRiffle k (n := n) (a := a) (p := p) hn ha hp12 l (fun i hi => (h3 i hi).1) (fun i hi => (h3 i hi).2)) (fun h27 e27 => ?_)
      obtain ⟨f9, j9, rfl, hf9⟩ := e27
      refine pb_vret g z dX7_layByLots_30 ?_
      exact ⟨rfl, f9, j9, rfl, fun i hi => ⟨psL l (l i) i n, (psL_at (l := l) hi).2, hf9 i hi, fun o => by rw [layO, if_neg hk4, rfO]⟩⟩
    · exact absurd c5 hk4
