/-! ===== Orders ===== -/
theorem hs_self {h : PH} {k : Nat} {c : PCell} (hk : h[k]? = some c) : h.set k c = h := by
  apply List.ext_getElem?
  intro i
  rw [List.getElem?_set]
  by_cases e : k = i
  · subst e
    rw [if_pos rfl, if_pos (List.getElem?_eq_some_iff.mp hk).1, hk]
  · simp [e]
theorem hs_eq {h : PH} {k : Nat} {c c0 : PCell} (hk : h[k]? = some c0) : (h.set k c)[k]? = some c := List.getElem?_set_self (List.getElem?_eq_some_iff.mp hk).1
theorem hs_ne {h : PH} {k j : Nat} {c : PCell} (hne : k ≠ j) : (h.set k c)[j]? = h[j]? := List.getElem?_set_ne hne
def fac : Nat → Nat
  | 0 => 1
  | n + 1 => (n + 1) * fac n
theorem fac_at : ∀ j, j < 11 → (psV 0).getD j 0 = nI (fac j) := by decide
theorem fac_lt : ∀ j, j < 11 → 0 < fac j ∧ fac j < 2 ^ 31 := by decide
/-- back[o(i)] = i, for the first n -/
def bkF (o : Nat → Nat) (f : Nat → Int32) : Nat → (Nat → Int32)
  | 0 => f
  | i + 1 => upd (bkF o f i) (o i) (nI i)
/-- made[i] = f(m(i)), for the first n -/
def thF (f : Nat → Int32) (m : Nat → Nat) (g : Nat → Int32) : Nat → (Nat → Int32)
  | 0 => g
  | i + 1 => upd (thF f m g i) i (f (m i))
/-- how many of d values behind place i are below that one's -/
def lcL (o : Nat → Nat) (i : Nat) : Nat → Nat
  | 0 => 0
  | d + 1 => lcL o i d + (if o (i + 1 + d) < o i then 1 else 0)
def rkL (o : Nat → Nat) (n : Nat) : Nat → Nat
  | 0 => 0
  | i + 1 => rkL o n i + lcL o i (n - 1 - i) * fac (n - 1 - i)
def rnL (p : Nat → Nat) : Nat → Nat
  | 0 => 1
  | c + 1 => rnL p c + (if p (c + 1) < p c then 1 else 0)
def lsL (p : Nat → Nat) : Nat → Nat
  | 0 => 0
  | l + 1 => if p l < p (l + 1) then lsL p l else l + 1
/-- the card with so many free ones below it, among those from c on -/
def unG (u : Nat) : Nat → Nat → Nat → Nat
  | 0, _, _ => 0
  | d + 1, c, l => if u / 2 ^ c % 2 = 0 then (if l = 0 then c else unG u d (c + 1) (l - 1)) else unG u d (c + 1) l
theorem unG_lt (u n : Nat) (hn : 0 < n) : ∀ d c l, c + d = n → unG u d c l < n
  | 0, c, l, h => hn
  | d + 1, c, l, h => by
    unfold unG
    split
    · split
      · omega
      · exact unG_lt u n hn d (c + 1) (l - 1) (by omega)
    · exact unG_lt u n hn d (c + 1) l (by omega)
/-- used cards and rest behind i steps -/
def sbS (n r : Nat) : Nat → Nat × Nat
  | 0 => (0, r)
  | i + 1 => ((sbS n r i).1 ||| 2 ^ (unG (sbS n r i).1 n 0 ((sbS n r i).2 / fac (n - 1 - i))), (sbS n r i).2 % fac (n - 1 - i))
def sbC (n r i : Nat) : Nat := unG (sbS n r i).1 n 0 ((sbS n r i).2 / fac (n - 1 - i))
def sbF (n r : Nat) (f : Nat → Int32) : Nat → (Nat → Int32)
  | 0 => f
  | i + 1 => upd (sbF n r f i) i (nI (sbC n r i))
theorem or_pow_lt {u c n : Nat} (hu : u < 2 ^ n) (hc : c < n) : u ||| 2 ^ c < 2 ^ n := Nat.or_lt_two_pow hu (Nat.pow_lt_pow_right (by decide) hc)
theorem sbS_lt (n r : Nat) (hn : 0 < n) (hr : r < 2 ^ 31) : ∀ i, i ≤ n → (sbS n r i).1 < 2 ^ n ∧ (sbS n r i).2 < 2 ^ 31
  | 0, _ => ⟨Nat.pow_pos (by decide), hr⟩
  | i + 1, h => by
    obtain ⟨h1, h2⟩ := sbS_lt n r hn hr i (by omega)
    exact ⟨or_pow_lt h1 (unG_lt _ n hn n 0 _ (by omega)), Nat.lt_of_le_of_lt (Nat.mod_le _ _) h2⟩
set_option maxHeartbeats 4000000 in
set_option maxRecDepth 100000 in
theorem c_setBack (k n ko kb : Nat) (hn : n ≤ 10) (hne : kb ≠ ko) (f fb : Nat → Int32) (o : Nat → Nat) (hf : ∀ j, j < n → f j = nI (o j)) (ho : ∀ j, j < n → o j < 10) (h : PH) (h1 : h[ko]? = some (pI 10 f)) (h2 : h[kb]? = some (pI 10 fb)) : Runs yX2_setBack cX2_setBack 4 none (k) [.ref ko, .ref kb, .int (nI n)] h (fun oo h' => oo = none ∧ h.set kb (pI 10 (bkF o fb n)) = h') := by
  refine Runs.of (by decide) (Nat.le_of_ble_eq_true rfl) [some (.ref ko), some (.ref kb), some (.int (nI n)), none] 1 rfl (fun Γ g z => ?_)
  have loop : ∀ i, i ≤ n → PB Γ 2 [some (.ref ko), some (.ref kb), some (.int (nI n)), some (.int (nI i))] [] (h.set kb (pI 10 (bkF o fb i))) := by
    refine pb_loop (n) (fun i hi ih => ?_)
    refine pb_iload_n3 g dX2_setBack_2 ?_
    refine pb_iload_n2 g dX2_setBack_3 ?_
    first | refine pb_icmp_geN g 19 dX2_setBack_4 (by decide) (by omega) (by omega) (fun c4 => ?_) (fun c4 => ?_) | refine pb_icmp_ge g 19 dX2_setBack_4 (by decide) (fun c4 => ?_) (fun c4 => ?_)
    · refine pb_vret g z dX2_setBack_19 ?_
      exact ⟨rfl, by rw [show i = n by omega]⟩
    · refine pb_aload_n1 g dX2_setBack_7 ?_
      refine pb_aload_n0 g dX2_setBack_8 ?_
      refine pb_iload_n3 g dX2_setBack_9 ?_
      first | refine pb_ialdN g dX2_setBack_10 (by first | assumption | rfl | exact hs_eq (by assumption) | (rw [hs_ne (by omega)]; assumption)) (by omega) (by omega) ?_ | refine pb_ald0 g dX2_setBack_10 (by omega) ?_ | refine pb_ald1 g dX2_setBack_10 (by omega) ?_ | refine pb_ald2 g dX2_setBack_10 (by omega) ?_ | refine pb_ald3 g dX2_setBack_10 (by omega) ?_ | refine pb_iald g dX2_setBack_10 (by first | assumption | rfl | exact hs_eq (by assumption) | (rw [hs_ne (by omega)]; assumption)) (by assumption) ?_
      rw [hf i (by omega)]
      have hoi := ho i (by omega)
      refine pb_iload_n3 g dX2_setBack_11 ?_
      first | refine pb_iastN g dX2_setBack_12 (by first | assumption | rfl | exact hs_eq (by assumption) | (rw [hs_ne (by omega)]; assumption)) (by omega) (by omega) ?_ | refine pb_iast g dX2_setBack_12 (by first | assumption | rfl | exact hs_eq (by assumption) | (rw [hs_ne (by omega)]; assumption)) (by assumption) ?_
      rw [List.set_set]
      first | refine pb_iinc3N g dX2_setBack_13 (by decide) ?_ | refine pb_iinc3 g dX2_setBack_13 (by decide) rfl ?_
      refine pb_goto g 2 dX2_setBack_16 (by decide) ?_
      exact ih c4
  refine pb_iconst (v := nI 0) g dX2_setBack_0 (by decide) ?_
  refine pb_istore_n3 g dX2_setBack_1 (by decide) ?_
  have hl := loop 0 (Nat.zero_le _)
  rw [bkF, hs_self h2] at hl
  exact hl
set_option maxHeartbeats 4000000 in
set_option maxRecDepth 100000 in
theorem c_setThrough (k n ko kf km : Nat) (hn : n ≤ 10) (hne : km ≠ ko) (hne2 : km ≠ kf) (f fm fg : Nat → Int32) (m : Nat → Nat) (hm : ∀ j, j < n → fm j = nI (m j)) (hmb : ∀ j, j < n → m j < 10) (h : PH) (h1 : h[ko]? = some (pI 10 f)) (h2 : h[kf]? = some (pI 10 fm)) (h3 : h[km]? = some (pI 10 fg)) : Runs yX2_setThrough cX2_setThrough 5 none (k) [.ref ko, .ref kf, .ref km, .int (nI n)] h (fun oo h' => oo = none ∧ h.set km (pI 10 (thF f m fg n)) = h') := by
  refine Runs.of (by decide) (Nat.le_of_ble_eq_true rfl) [some (.ref ko), some (.ref kf), some (.ref km), some (.int (nI n)), none] 1 rfl (fun Γ g z => ?_)
  have loop : ∀ i, i ≤ n → PB Γ 3 [some (.ref ko), some (.ref kf), some (.ref km), some (.int (nI n)), some (.int (nI i))] [] (h.set km (pI 10 (thF f m fg i))) := by
    refine pb_loop (n) (fun i hi ih => ?_)
    refine pb_iload4 g dX2_setThrough_3 ?_
    refine pb_iload_n3 g dX2_setThrough_5 ?_
    first | refine pb_icmp_geN g 25 dX2_setThrough_6 (by decide) (by omega) (by omega) (fun c6 => ?_) (fun c6 => ?_) | refine pb_icmp_ge g 25 dX2_setThrough_6 (by decide) (fun c6 => ?_) (fun c6 => ?_)
    · refine pb_vret g z dX2_setThrough_25 ?_
      exact ⟨rfl, by rw [show i = n by omega]⟩
    · refine pb_aload_n2 g dX2_setThrough_9 ?_
      refine pb_iload4 g dX2_setThrough_10 ?_
      refine pb_aload_n0 g dX2_setThrough_12 ?_
      refine pb_aload_n1 g dX2_setThrough_13 ?_
      refine pb_iload4 g dX2_setThrough_14 ?_
      first | refine pb_ialdN g dX2_setThrough_16 (by first | assumption | rfl | exact hs_eq (by assumption) | (rw [hs_ne (by omega)]; assumption)) (by omega) (by omega) ?_ | refine pb_ald0 g dX2_setThrough_16 (by omega) ?_ | refine pb_ald1 g dX2_setThrough_16 (by omega) ?_ | refine pb_ald2 g dX2_setThrough_16 (by omega) ?_ | refine pb_ald3 g dX2_setThrough_16 (by omega) ?_ | refine pb_iald g dX2_setThrough_16 (by first | assumption | rfl | exact hs_eq (by assumption) | (rw [hs_ne (by omega)]; assumption)) (by assumption) ?_
      rw [hm i (by omega)]
      have hmi := hmb i (by omega)
      first | refine pb_ialdN g dX2_setThrough_17 (by first | assumption | rfl | exact hs_eq (by assumption) | (rw [hs_ne (by omega)]; assumption)) (by omega) (by omega) ?_ | refine pb_ald0 g dX2_setThrough_17 (by omega) ?_ | refine pb_ald1 g dX2_setThrough_17 (by omega) ?_ | refine pb_ald2 g dX2_setThrough_17 (by omega) ?_ | refine pb_ald3 g dX2_setThrough_17 (by omega) ?_ | refine pb_iald g dX2_setThrough_17 (by first | assumption | rfl | exact hs_eq (by assumption) | (rw [hs_ne (by omega)]; assumption)) (by assumption) ?_
      first | refine pb_iastN g dX2_setThrough_18 (by first | assumption | rfl | exact hs_eq (by assumption) | (rw [hs_ne (by omega)]; assumption)) (by omega) (by omega) ?_ | refine pb_iast g dX2_setThrough_18 (by first | assumption | rfl | exact hs_eq (by assumption) | (rw [hs_ne (by omega)]; assumption)) (by assumption) ?_
      rw [List.set_set]
      first | refine pb_iinc4N g dX2_setThrough_19 (by decide) ?_ | refine pb_iinc4 g dX2_setThrough_19 (by decide) rfl ?_
      refine pb_goto g 3 dX2_setThrough_22 (by decide) ?_
      exact ih c6
  refine pb_iconst (v := nI 0) g dX2_setThrough_0 (by decide) ?_
  refine pb_istore4 g dX2_setThrough_1 (by decide) ?_
  have hl := loop 0 (Nat.zero_le _)
  rw [thF, hs_self h3] at hl
  exact hl
set_option maxHeartbeats 4000000 in
set_option maxRecDepth 100000 in
theorem c_rankOf (k n ko : Nat) (hn : n ≤ 10) (f : Nat → Int32) (o : Nat → Nat) (hf : ∀ j, j < n → f j = nI (o j)) (ho : ∀ j, j < n → o j < 10) (h : PH) (h1 : h[ko]? = some (pI 10 f)) : Runs yX2_rankOf cX2_rankOf 6 (some .int) (k) [.ref ko, .int (nI n)] h (fun oo h' => ∃ r : Int32, oo = some (.int r) ∧ r = nI (rkL o n n) ∧ h = h') := by
  refine Runs.of (by decide) (Nat.le_of_ble_eq_true rfl) [some (.ref ko), some (.int (nI n)), none, none, none, none] 4 rfl (fun Γ g z => ?_)
  have loop : ∀ i, i ≤ n → ∀ w1 w2 : Option Value, PB Γ 4 [some (.ref ko), some (.int (nI n)), some (.int (nI (rkL o n i))), some (.int (nI i)), w1, w2] [] h := by
    refine pb_loop n (fun i hi ih w1 w2 => ?_)
    by_cases hin : i < n
    · have hoi := ho i hin
      have inner : ∀ d, d ≤ n - 1 - i → PB Γ 17 [some (.ref ko), some (.int (nI n)), some (.int (nI (rkL o n i))), some (.int (nI i)), some (.int (nI (lcL o i d))), some (.int (nI (i + 1 + d)))] [] h := by
        refine pb_loop (n - 1 - i) (fun d hd ihd => ?_)
        by_cases hdn : i + 1 + d < n
        · have hod := ho (i + 1 + d) hdn
          have ihd := ihd (by omega)
          refine pb_iload5 g dX2_rankOf_17 ?_
          refine pb_iload_n1 g dX2_rankOf_19 ?_
          first | refine pb_icmp_geN g 42 dX2_rankOf_20 (by decide) (by omega) (by omega) (fun c20 => ?_) (fun c20 => ?_) | refine pb_icmp_ge g 42 dX2_rankOf_20 (by decide) (fun c20 => ?_) (fun c20 => ?_)
          · exact absurd c20 (by omega)
          · refine pb_aload_n0 g dX2_rankOf_23 ?_
            refine pb_iload5 g dX2_rankOf_24 ?_
            first | refine pb_ialdN g dX2_rankOf_26 (by first | assumption | rfl) (by omega) (by omega) ?_ | refine pb_ald0 g dX2_rankOf_26 (by omega) ?_ | refine pb_ald1 g dX2_rankOf_26 (by omega) ?_ | refine pb_ald2 g dX2_rankOf_26 (by omega) ?_ | refine pb_ald3 g dX2_rankOf_26 (by omega) ?_ | refine pb_iald g dX2_rankOf_26 (by first | assumption | rfl) (by assumption) ?_
            rw [hf (i + 1 + d) hdn]
            refine pb_aload_n0 g dX2_rankOf_27 ?_
            refine pb_iload_n3 g dX2_rankOf_28 ?_
            first | refine pb_ialdN g dX2_rankOf_29 (by first | assumption | rfl) (by omega) (by omega) ?_ | refine pb_ald0 g dX2_rankOf_29 (by omega) ?_ | refine pb_ald1 g dX2_rankOf_29 (by omega) ?_ | refine pb_ald2 g dX2_rankOf_29 (by omega) ?_ | refine pb_ald3 g dX2_rankOf_29 (by omega) ?_ | refine pb_iald g dX2_rankOf_29 (by first | assumption | rfl) (by assumption) ?_
            rw [hf i hin]
            first | refine pb_icmp_geN g 36 dX2_rankOf_30 (by decide) (by omega) (by omega) (fun c30 => ?_) (fun c30 => ?_) | refine pb_icmp_ge g 36 dX2_rankOf_30 (by decide) (fun c30 => ?_) (fun c30 => ?_)
            · first | refine pb_iinc5N g dX2_rankOf_36 (by decide) ?_ | refine pb_iinc5 g dX2_rankOf_36 (by decide) rfl ?_
              refine pb_goto g 17 dX2_rankOf_39 (by decide) ?_
              first | (rw [lcL, if_neg (by omega)] at ihd; exact ihd) | (rw [lcL, if_pos (by omega)] at ihd; exact ihd)
            · first | refine pb_iinc4N g dX2_rankOf_33 (by decide) ?_ | refine pb_iinc4 g dX2_rankOf_33 (by decide) rfl ?_
              first | refine pb_iinc5N g dX2_rankOf_36 (by decide) ?_ | refine pb_iinc5 g dX2_rankOf_36 (by decide) rfl ?_
              refine pb_goto g 17 dX2_rankOf_39 (by decide) ?_
              first | (rw [lcL, if_neg (by omega)] at ihd; exact ihd) | (rw [lcL, if_pos (by omega)] at ihd; exact ihd)
        · obtain rfl : d = n - 1 - i := by omega
          have ih := ih hin
          refine pb_iload5 g dX2_rankOf_17 ?_
          refine pb_iload_n1 g dX2_rankOf_19 ?_
          first | refine pb_icmp_geN g 42 dX2_rankOf_20 (by decide) (by omega) (by omega) (fun c20 => ?_) (fun c20 => ?_) | refine pb_icmp_ge g 42 dX2_rankOf_20 (by decide) (fun c20 => ?_) (fun c20 => ?_)
          · refine pb_iload_n2 g dX2_rankOf_42 ?_
            refine pb_iload4 g dX2_rankOf_43 ?_
            refine pb_gets g sX2_7 dX2_rankOf_45 ?_
            refine pb_iload_n1 g dX2_rankOf_48 ?_
            refine pb_iconst (v := nI 1) g dX2_rankOf_49 (by decide) ?_
            first | refine pb_isubN g dX2_rankOf_50 (by omega) ?_ | refine pb_isub g dX2_rankOf_50 ?_
            refine pb_iload_n3 g dX2_rankOf_51 ?_
            first | refine pb_isubN g dX2_rankOf_52 (by omega) ?_ | refine pb_isub g dX2_rankOf_52 ?_
            first | refine pb_ialdN g dX2_rankOf_53 (by first | assumption | rfl) (by omega) (by omega) ?_ | refine pb_ald0 g dX2_rankOf_53 (by omega) ?_ | refine pb_ald1 g dX2_rankOf_53 (by omega) ?_ | refine pb_ald2 g dX2_rankOf_53 (by omega) ?_ | refine pb_ald3 g dX2_rankOf_53 (by omega) ?_ | refine pb_iald g dX2_rankOf_53 (by first | assumption | rfl) (by assumption) ?_
            rw [fac_at (n - 1 - i) (by omega)]
            first | refine pb_imulN g dX2_rankOf_54 ?_ | refine pb_imul g dX2_rankOf_54 ?_
            first | refine pb_iaddN g dX2_rankOf_55 ?_ | refine pb_iadd g dX2_rankOf_55 ?_
            refine pb_istore_n2 g dX2_rankOf_56 (by decide) ?_
            first | refine pb_iinc3N g dX2_rankOf_57 (by decide) ?_ | refine pb_iinc3 g dX2_rankOf_57 (by decide) rfl ?_
            refine pb_goto g 4 dX2_rankOf_60 (by decide) ?_
            exact ih _ _
          · exact absurd c20 (by omega)

      refine pb_iload_n3 g dX2_rankOf_4 ?_
      refine pb_iload_n1 g dX2_rankOf_5 ?_
      first | refine pb_icmp_geN g 63 dX2_rankOf_6 (by decide) (by omega) (by omega) (fun c6 => ?_) (fun c6 => ?_) | refine pb_icmp_ge g 63 dX2_rankOf_6 (by decide) (fun c6 => ?_) (fun c6 => ?_)
      · exact absurd c6 (by omega)
      · refine pb_iconst (v := nI 0) g dX2_rankOf_9 (by decide) ?_
        refine pb_istore4 g dX2_rankOf_10 (by decide) ?_
        refine pb_iload_n3 g dX2_rankOf_12 ?_
        refine pb_iconst (v := nI 1) g dX2_rankOf_13 (by decide) ?_
        first | refine pb_iaddN g dX2_rankOf_14 ?_ | refine pb_iadd g dX2_rankOf_14 ?_
        refine pb_istore5 g dX2_rankOf_15 (by decide) ?_
        exact inner 0 (Nat.zero_le _)
    · obtain rfl : i = n := by omega
      refine pb_iload_n3 g dX2_rankOf_4 ?_
      refine pb_iload_n1 g dX2_rankOf_5 ?_
      first | refine pb_icmp_geN g 63 dX2_rankOf_6 (by decide) (by omega) (by omega) (fun c6 => ?_) (fun c6 => ?_) | refine pb_icmp_ge g 63 dX2_rankOf_6 (by decide) (fun c6 => ?_) (fun c6 => ?_)
      · refine pb_iload_n2 g dX2_rankOf_63 ?_
        refine pb_iret g z dX2_rankOf_64 ?_
        exact ⟨_, rfl, rfl, rfl⟩
      · exact absurd c6 (by omega)
  refine pb_iconst (v := nI 0) g dX2_rankOf_0 (by decide) ?_
  refine pb_istore_n2 g dX2_rankOf_1 (by decide) ?_
  refine pb_iconst (v := nI 0) g dX2_rankOf_2 (by decide) ?_
  refine pb_istore_n3 g dX2_rankOf_3 (by decide) ?_
  exact loop 0 (Nat.zero_le _) _ _
set_option maxHeartbeats 4000000 in
set_option maxRecDepth 100000 in
theorem c_runsOf (k n ko : Nat) (hn : n ≤ 10) (hn1 : 1 ≤ n) (f : Nat → Int32) (p : Nat → Nat) (hf : ∀ j, j < n → f j = nI (p j)) (hp : ∀ j, j < n → p j < 10) (h : PH) (h1 : h[ko]? = some (pI 10 f)) : Runs yX2_runsOf cX2_runsOf 4 (some .int) (k) [.ref ko, .int (nI n)] h (fun o h' => ∃ r : Int32, o = some (.int r) ∧ r = nI (rnL p (n - 1)) ∧ h = h') := by
  refine Runs.of (by decide) (Nat.le_of_ble_eq_true rfl) [some (.ref ko), some (.int (nI n)), none, none] 2 rfl (fun Γ g z => ?_)
  have loop : ∀ i, i ≤ n - 1 → PB Γ 4 [some (.ref ko), some (.int (nI n)), some (.int (nI (rnL p i))), some (.int (nI (i + 1)))] [] h := by
    refine pb_loop (n - 1) (fun i hi ih => ?_)
    by_cases hin : i + 1 < n
    · have q1 := hp (i + 1) hin
      have q2 := hp i (by omega)
      have ih := ih (by omega)
      refine pb_iload_n3 g dX2_runsOf_4 ?_
      refine pb_iload_n1 g dX2_runsOf_5 ?_
      first | refine pb_icmp_geN g 29 dX2_runsOf_6 (by decide) (by omega) (by omega) (fun c6 => ?_) (fun c6 => ?_) | refine pb_icmp_ge g 29 dX2_runsOf_6 (by decide) (fun c6 => ?_) (fun c6 => ?_)
      · exact absurd c6 (by omega)
      · refine pb_aload_n0 g dX2_runsOf_9 ?_
        refine pb_iload_n3 g dX2_runsOf_10 ?_
        first | refine pb_ialdN g dX2_runsOf_11 (by first | assumption | rfl) (by omega) (by omega) ?_ | refine pb_ald0 g dX2_runsOf_11 (by omega) ?_ | refine pb_ald1 g dX2_runsOf_11 (by omega) ?_ | refine pb_ald2 g dX2_runsOf_11 (by omega) ?_ | refine pb_ald3 g dX2_runsOf_11 (by omega) ?_ | refine pb_iald g dX2_runsOf_11 (by first | assumption | rfl) (by assumption) ?_
        rw [hf (i + 1) hin]
        refine pb_aload_n0 g dX2_runsOf_12 ?_
        refine pb_iload_n3 g dX2_runsOf_13 ?_
        refine pb_iconst (v := nI 1) g dX2_runsOf_14 (by decide) ?_
        first | refine pb_isubN g dX2_runsOf_15 (by omega) ?_ | refine pb_isub g dX2_runsOf_15 ?_
        first | refine pb_ialdN g dX2_runsOf_16 (by first | assumption | rfl) (by omega) (by omega) ?_ | refine pb_ald0 g dX2_runsOf_16 (by omega) ?_ | refine pb_ald1 g dX2_runsOf_16 (by omega) ?_ | refine pb_ald2 g dX2_runsOf_16 (by omega) ?_ | refine pb_ald3 g dX2_runsOf_16 (by omega) ?_ | refine pb_iald g dX2_runsOf_16 (by first | assumption | rfl) (by assumption) ?_
        rw [show i + 1 - 1 = i by omega, hf i (by omega)]
        first | refine pb_icmp_geN g 23 dX2_runsOf_17 (by decide) (by omega) (by omega) (fun c17 => ?_) (fun c17 => ?_) | refine pb_icmp_ge g 23 dX2_runsOf_17 (by decide) (fun c17 => ?_) (fun c17 => ?_)
        · first | refine pb_iinc3N g dX2_runsOf_23 (by decide) ?_ | refine pb_iinc3 g dX2_runsOf_23 (by decide) rfl ?_
          refine pb_goto g 4 dX2_runsOf_26 (by decide) ?_
          first | (rw [rnL, if_neg (by omega)] at ih; exact ih) | (rw [rnL, if_pos (by omega)] at ih; exact ih)
        · first | refine pb_iinc2N g dX2_runsOf_20 (by decide) ?_ | refine pb_iinc2 g dX2_runsOf_20 (by decide) rfl ?_
          first | refine pb_iinc3N g dX2_runsOf_23 (by decide) ?_ | refine pb_iinc3 g dX2_runsOf_23 (by decide) rfl ?_
          refine pb_goto g 4 dX2_runsOf_26 (by decide) ?_
          first | (rw [rnL, if_neg (by omega)] at ih; exact ih) | (rw [rnL, if_pos (by omega)] at ih; exact ih)
    · obtain rfl : i = n - 1 := by omega
      refine pb_iload_n3 g dX2_runsOf_4 ?_
      refine pb_iload_n1 g dX2_runsOf_5 ?_
      first | refine pb_icmp_geN g 29 dX2_runsOf_6 (by decide) (by omega) (by omega) (fun c6 => ?_) (fun c6 => ?_) | refine pb_icmp_ge g 29 dX2_runsOf_6 (by decide) (fun c6 => ?_) (fun c6 => ?_)
      · refine pb_iload_n2 g dX2_runsOf_29 ?_
        refine pb_iret g z dX2_runsOf_30 ?_
        exact ⟨_, rfl, rfl, rfl⟩
      · exact absurd c6 (by omega)
  refine pb_iconst (v := nI 1) g dX2_runsOf_0 (by decide) ?_
  refine pb_istore_n2 g dX2_runsOf_1 (by decide) ?_
  refine pb_iconst (v := nI 1) g dX2_runsOf_2 (by decide) ?_
  refine pb_istore_n3 g dX2_runsOf_3 (by decide) ?_
  exact loop 0 (Nat.zero_le _)
set_option maxHeartbeats 4000000 in
set_option maxRecDepth 100000 in
theorem c_looseOf (k n ko : Nat) (hn : n ≤ 10) (hn1 : 1 ≤ n) (f : Nat → Int32) (p : Nat → Nat) (hf : ∀ j, j < n → f j = nI (p j)) (hp : ∀ j, j < n → p j < 10) (h : PH) (h1 : h[ko]? = some (pI 10 f)) : Runs yX2_looseOf cX2_looseOf 3 (some .int) (k) [.ref ko, .int (nI n)] h (fun o h' => ∃ r : Int32, o = some (.int r) ∧ r = nI (lsL p (n - 1)) ∧ h = h') := by
  refine Runs.of (by decide) (Nat.le_of_ble_eq_true rfl) [some (.ref ko), some (.int (nI n)), none] 1 rfl (fun Γ g z => ?_)
  have loop : ∀ i, i < n → lsL p i = lsL p (n - 1) → PB Γ 4 [some (.ref ko), some (.int (nI n)), some (.int (nI i))] [] h := by
    refine pb_down (fun i ih hin he => ?_)
    have q1 := hp i hin
    cases i with
    | zero =>
        refine pb_iload_n2 g dX2_looseOf_4 ?_
        first | refine pb_if_leN g 25 dX2_looseOf_5 (by decide) (by omega) (fun c5 => ?_) (fun c5 => ?_) | refine pb_if_le g 25 dX2_looseOf_5 (by decide) (fun c5 => ?_) (fun c5 => ?_)
        · refine pb_iload_n2 g dX2_looseOf_25 ?_
          refine pb_iret g z dX2_looseOf_26 ?_
          exact ⟨_, rfl, by rw [← he]; rfl, rfl⟩
        · exact absurd c5 (by omega)
    | succ j =>
      have q2 := hp j (by omega)
      have ih := ih j rfl (by omega)
      refine pb_iload_n2 g dX2_looseOf_4 ?_
      first | refine pb_if_leN g 25 dX2_looseOf_5 (by decide) (by omega) (fun c5 => ?_) (fun c5 => ?_) | refine pb_if_le g 25 dX2_looseOf_5 (by decide) (fun c5 => ?_) (fun c5 => ?_)
      · exact absurd c5 (by omega)
      · refine pb_aload_n0 g dX2_looseOf_8 ?_
        refine pb_iload_n2 g dX2_looseOf_9 ?_
        refine pb_iconst (v := nI 1) g dX2_looseOf_10 (by decide) ?_
        first | refine pb_isubN g dX2_looseOf_11 (by omega) ?_ | refine pb_isub g dX2_looseOf_11 ?_
        first | refine pb_ialdN g dX2_looseOf_12 (by first | assumption | rfl) (by omega) (by omega) ?_ | refine pb_ald0 g dX2_looseOf_12 (by omega) ?_ | refine pb_ald1 g dX2_looseOf_12 (by omega) ?_ | refine pb_ald2 g dX2_looseOf_12 (by omega) ?_ | refine pb_ald3 g dX2_looseOf_12 (by omega) ?_ | refine pb_iald g dX2_looseOf_12 (by first | assumption | rfl) (by assumption) ?_
        rw [show j + 1 - 1 = j by omega, hf j (by omega)]
        refine pb_aload_n0 g dX2_looseOf_13 ?_
        refine pb_iload_n2 g dX2_looseOf_14 ?_
        first | refine pb_ialdN g dX2_looseOf_15 (by first | assumption | rfl) (by omega) (by omega) ?_ | refine pb_ald0 g dX2_looseOf_15 (by omega) ?_ | refine pb_ald1 g dX2_looseOf_15 (by omega) ?_ | refine pb_ald2 g dX2_looseOf_15 (by omega) ?_ | refine pb_ald3 g dX2_looseOf_15 (by omega) ?_ | refine pb_iald g dX2_looseOf_15 (by first | assumption | rfl) (by assumption) ?_
        rw [hf (j + 1) hin]
        first | refine pb_icmp_geN g 25 dX2_looseOf_16 (by decide) (by omega) (by omega) (fun c16 => ?_) (fun c16 => ?_) | refine pb_icmp_ge g 25 dX2_looseOf_16 (by decide) (fun c16 => ?_) (fun c16 => ?_)
        · refine pb_iload_n2 g dX2_looseOf_25 ?_
          refine pb_iret g z dX2_looseOf_26 ?_
          exact ⟨_, rfl, by rw [← he, lsL, if_neg (by omega)], rfl⟩
        · refine pb_iinc2 (v := nI j) g dX2_looseOf_19 (by decide) (pk_m1 j) ?_
          refine pb_goto g 4 dX2_looseOf_22 (by decide) ?_
          exact ih (by rw [← he, lsL, if_pos (by omega)])
  refine pb_iload_n1 g dX2_looseOf_0 ?_
  refine pb_iconst (v := nI 1) g dX2_looseOf_1 (by decide) ?_
  first | refine pb_isubN g dX2_looseOf_2 (by omega) ?_ | refine pb_isub g dX2_looseOf_2 ?_
  refine pb_istore_n2 g dX2_looseOf_3 (by decide) ?_
  exact loop (n - 1) (by omega) rfl
set_option maxHeartbeats 4000000 in
set_option maxRecDepth 100000 in
theorem c_unused (k u n l : Nat) (hn : n ≤ 10) (hu : u < 2 ^ 31) (hl : l < 2 ^ 31) (h : PH) : Runs yX2_unused cX2_unused 5 (some .int) (k) [.int (nI u), .int (nI n), .int (nI l)] h (fun o h' => ∃ r : Int32, o = some (.int r) ∧ r = nI (unG u n 0 l) ∧ h = h') := by
  refine Runs.of (by decide) (Nat.le_of_ble_eq_true rfl) [some (.int (nI u)), some (.int (nI n)), some (.int (nI l)), none, none] 2 rfl (fun Γ g z => ?_)
  have loop : ∀ c, c ≤ n → ∀ q, q < 2 ^ 31 → unG u (n - c) c q = unG u n 0 l → PB Γ 5 [some (.int (nI u)), some (.int (nI n)), some (.int (nI l)), some (.int (nI q)), some (.int (nI c))] [] h := by
    refine pb_loop n (fun c hc ih q hq he => ?_)
    by_cases hcn : c < n
    · have ih := ih hcn
      have hb : u / 2 ^ c < 2 ^ 31 := Nat.lt_of_le_of_lt (Nat.div_le_self _ _) hu
      rw [show n - c = n - (c + 1) + 1 by omega, unG] at he
      refine pb_iload4 g dX2_unused_5 ?_
      refine pb_iload_n1 g dX2_unused_7 ?_
      first | refine pb_icmp_geN g 36 dX2_unused_8 (by decide) (by omega) (by omega) (fun c8 => ?_) (fun c8 => ?_) | refine pb_icmp_ge g 36 dX2_unused_8 (by decide) (fun c8 => ?_) (fun c8 => ?_)
      · exact absurd c8 (by omega)
      · refine pb_iload_n0 g dX2_unused_11 ?_
        refine pb_iload4 g dX2_unused_12 ?_
        first | refine pb_ishrN g dX2_unused_14 (by omega) (by omega) ?_ | refine pb_ishr g dX2_unused_14 ?_
        refine pb_iconst (v := nI 1) g dX2_unused_15 (by decide) ?_
        first | refine pb_iandN g dX2_unused_16 (by omega) ?_ | refine pb_iand g dX2_unused_16 ?_
        first | refine pb_if_neN g 30 dX2_unused_17 (by decide) (by omega) (fun c17 => ?_) (fun c17 => ?_) | refine pb_if_ne g 30 dX2_unused_17 (by decide) (fun c17 => ?_) (fun c17 => ?_)
        · first | refine pb_iinc4N g dX2_unused_30 (by decide) ?_ | refine pb_iinc4 g dX2_unused_30 (by decide) rfl ?_
          refine pb_goto g 5 dX2_unused_33 (by decide) ?_
          first | (rw [if_neg (by omega)] at he; exact ih _ (by omega) he) | (rw [if_pos (by omega), if_neg (by omega)] at he; exact ih _ (by omega) he)
        · refine pb_iload_n3 g dX2_unused_20 ?_
          first | refine pb_if_neN g 27 dX2_unused_21 (by decide) (by omega) (fun c21 => ?_) (fun c21 => ?_) | refine pb_if_ne g 27 dX2_unused_21 (by decide) (fun c21 => ?_) (fun c21 => ?_)
          · obtain ⟨q1, rfl⟩ : ∃ z, q = z + 1 := ⟨q - 1, by omega⟩
            refine pb_iinc3 (v := nI q1) g dX2_unused_27 (by decide) (pk_m1 q1) ?_
            first | refine pb_iinc4N g dX2_unused_30 (by decide) ?_ | refine pb_iinc4 g dX2_unused_30 (by decide) rfl ?_
            refine pb_goto g 5 dX2_unused_33 (by decide) ?_
            first | (rw [if_neg (by omega)] at he; exact ih _ (by omega) he) | (rw [if_pos (by omega), if_neg (by omega)] at he; exact ih _ (by omega) he)
          · refine pb_iload4 g dX2_unused_24 ?_
            refine pb_iret g z dX2_unused_26 ?_
            exact ⟨_, rfl, by rw [← he, if_pos (by omega), if_pos (by omega)], rfl⟩
    · obtain rfl : c = n := by omega
      rw [Nat.sub_self, unG] at he
      refine pb_iload4 g dX2_unused_5 ?_
      refine pb_iload_n1 g dX2_unused_7 ?_
      first | refine pb_icmp_geN g 36 dX2_unused_8 (by decide) (by omega) (by omega) (fun c8 => ?_) (fun c8 => ?_) | refine pb_icmp_ge g 36 dX2_unused_8 (by decide) (fun c8 => ?_) (fun c8 => ?_)
      · refine pb_iconst (v := nI 0) g dX2_unused_36 (by decide) ?_
        refine pb_iret g z dX2_unused_37 ?_
        exact ⟨_, rfl, by rw [← he], rfl⟩
      · exact absurd c8 (by omega)
  refine pb_iload_n2 g dX2_unused_0 ?_
  refine pb_istore_n3 g dX2_unused_1 (by decide) ?_
  refine pb_iconst (v := nI 0) g dX2_unused_2 (by decide) ?_
  refine pb_istore4 g dX2_unused_3 (by decide) ?_
  exact loop 0 (Nat.zero_le _) l hl rfl
set_option maxHeartbeats 4000000 in
set_option maxRecDepth 100000 in
theorem c_setByRank (k n r ko : Nat) (hn : n ≤ 10) (hn1 : 1 ≤ n) (hr : r < 2 ^ 31) (f : Nat → Int32) (h : PH) (h1 : h[ko]? = some (pI 10 f)) : Runs yX2_setByRank cX2_setByRank 8 none (k + 1) [.ref ko, .int (nI n), .int (nI r)] h (fun oo h' => oo = none ∧ h.set ko (pI 10 (sbF n r f n)) = h') := by
  refine Runs.of (by decide) (Nat.le_of_ble_eq_true rfl) [some (.ref ko), some (.int (nI n)), some (.int (nI r)), none, none, none, none, none] 5 rfl (fun Γ g z => ?_)
  have loop : ∀ i, i ≤ n → ∀ w1 w2 : Option Value, PB Γ 8 [some (.ref ko), some (.int (nI n)), some (.int (nI r)), some (.int (nI (sbS n r i).1)), some (.int (nI (sbS n r i).2)), some (.int (nI i)), w1, w2] [] (h.set ko (pI 10 (sbF n r f i))) := by
    refine pb_loop n (fun i hi ih w1 w2 => ?_)
    by_cases hin : i < n
    · obtain ⟨b1, b2⟩ := sbS_lt n r hn1 hr i hi
      obtain ⟨f1, f2⟩ := fac_lt (n - 1 - i) (by omega)
      have b3 : 2 ^ n ≤ 2 ^ 10 := Nat.pow_le_pow_right (by decide) hn
      have hc : sbC n r i < n := unG_lt _ n hn1 n 0 _ (by omega)
      have b4 : (sbS n r i).2 / fac (n - 1 - i) < 2 ^ 31 := Nat.lt_of_le_of_lt (Nat.div_le_self _ _) b2
      have ih := ih hin
      refine pb_iload5 g dX2_setByRank_8 ?_
      refine pb_iload_n1 g dX2_setByRank_10 ?_
      first | refine pb_icmp_geN g 64 dX2_setByRank_11 (by decide) (by omega) (by omega) (fun c11 => ?_) (fun c11 => ?_) | refine pb_icmp_ge g 64 dX2_setByRank_11 (by decide) (fun c11 => ?_) (fun c11 => ?_)
      · exact absurd c11 (by omega)
      · refine pb_gets g sX2_7 dX2_setByRank_14 ?_
        refine pb_iload_n1 g dX2_setByRank_17 ?_
        refine pb_iconst (v := nI 1) g dX2_setByRank_18 (by decide) ?_
        first | refine pb_isubN g dX2_setByRank_19 (by omega) ?_ | refine pb_isub g dX2_setByRank_19 ?_
        refine pb_iload5 g dX2_setByRank_20 ?_
        first | refine pb_isubN g dX2_setByRank_22 (by omega) ?_ | refine pb_isub g dX2_setByRank_22 ?_
        first | refine pb_ialdN g dX2_setByRank_23 (by first | assumption | rfl | exact hs_eq (by assumption) | (rw [hs_ne (by omega)]; assumption)) (by omega) (by omega) ?_ | refine pb_ald0 g dX2_setByRank_23 (by omega) ?_ | refine pb_ald1 g dX2_setByRank_23 (by omega) ?_ | refine pb_ald2 g dX2_setByRank_23 (by omega) ?_ | refine pb_ald3 g dX2_setByRank_23 (by omega) ?_ | refine pb_iald g dX2_setByRank_23 (by first | assumption | rfl | exact hs_eq (by assumption) | (rw [hs_ne (by omega)]; assumption)) (by assumption) ?_
        rw [fac_at (n - 1 - i) (by omega)]
        refine pb_istore6 g dX2_setByRank_24 (by decide) ?_
        refine pb_iload_n3 g dX2_setByRank_26 ?_
        refine pb_iload_n1 g dX2_setByRank_27 ?_
        refine pb_iload4 g dX2_setByRank_28 ?_
        refine pb_iload6 g dX2_setByRank_30 ?_
        first | refine pb_idivN g dX2_setByRank_32 (by omega) (by omega) (by omega) ?_ | refine pb_idiv g dX2_setByRank_32 (by assumption) ?_
        refine pb_Si3 g qX2_13 dX2_setByRank_33 k (by omega) (c_unused k (sbS n r i).1 n ((sbS n r i).2 / fac (n - 1 - i)) hn (by omega) b4 _) (fun r33 h33 e33 => ?_)
        obtain ⟨rfl, rfl⟩ := e33
        change PB Γ _ _ [.int (nI (sbC n r i))] _
        refine pb_istore7 g dX2_setByRank_36 (by decide) ?_
        refine pb_iload_n3 g dX2_setByRank_38 ?_
        refine pb_iconst (v := nI 1) g dX2_setByRank_39 (by decide) ?_
        refine pb_iload7 g dX2_setByRank_40 ?_
        first | refine pb_ishlN g dX2_setByRank_42 (by omega) ?_ | refine pb_ishl g dX2_setByRank_42 ?_
        first | refine pb_iorN g dX2_setByRank_43 ?_ | refine pb_ior g dX2_setByRank_43 ?_
        refine pb_istore_n3 g dX2_setByRank_44 (by decide) ?_
        refine pb_aload_n0 g dX2_setByRank_45 ?_
        refine pb_iload5 g dX2_setByRank_46 ?_
        refine pb_iload7 g dX2_setByRank_48 ?_
        first | refine pb_iastN g dX2_setByRank_50 (by first | assumption | rfl | exact hs_eq (by assumption) | (rw [hs_ne (by omega)]; assumption)) (by omega) (by omega) ?_ | refine pb_iast g dX2_setByRank_50 (by first | assumption | rfl | exact hs_eq (by assumption) | (rw [hs_ne (by omega)]; assumption)) (by assumption) ?_
        rw [List.set_set]
        refine pb_iload4 g dX2_setByRank_51 ?_
        refine pb_iload6 g dX2_setByRank_53 ?_
        first | refine pb_iremN g dX2_setByRank_55 (by omega) (by omega) (by omega) ?_ | refine pb_irem g dX2_setByRank_55 (by assumption) ?_
        refine pb_istore4 g dX2_setByRank_56 (by decide) ?_
        first | refine pb_iinc5N g dX2_setByRank_58 (by decide) ?_ | refine pb_iinc5 g dX2_setByRank_58 (by decide) rfl ?_
        refine pb_goto g 8 dX2_setByRank_61 (by decide) ?_
        exact ih _ _
    · obtain rfl : i = n := by omega
      refine pb_iload5 g dX2_setByRank_8 ?_
      refine pb_iload_n1 g dX2_setByRank_10 ?_
      first | refine pb_icmp_geN g 64 dX2_setByRank_11 (by decide) (by omega) (by omega) (fun c11 => ?_) (fun c11 => ?_) | refine pb_icmp_ge g 64 dX2_setByRank_11 (by decide) (fun c11 => ?_) (fun c11 => ?_)
      · refine pb_vret g z dX2_setByRank_64 ?_
        exact ⟨rfl, rfl⟩
      · exact absurd c11 (by omega)
  refine pb_iconst (v := nI 0) g dX2_setByRank_0 (by decide) ?_
  refine pb_istore_n3 g dX2_setByRank_1 (by decide) ?_
  refine pb_iload_n2 g dX2_setByRank_2 ?_
  refine pb_istore4 g dX2_setByRank_3 (by decide) ?_
  refine pb_iconst (v := nI 0) g dX2_setByRank_5 (by decide) ?_
  refine pb_istore5 g dX2_setByRank_6 (by decide) ?_
  have hl := loop 0 (Nat.zero_le _) none none
  rw [sbF, hs_self h1] at hl
  exact hl
/-- the cards seen behind i numbers, or none: a number is no card, or told twice -/
def isS (v : Nat → Int32) (n : Nat) : Nat → Option Nat
  | 0 => some 0
  | i + 1 => match isS v n i with
    | none => none
    | some s => if v i < 0 ∨ nI n ≤ v i ∨ s / 2 ^ (v i).toNatClampNeg % 2 = 1 then none else some (s ||| 2 ^ (v i).toNatClampNeg)
theorem isS_lt (v : Nat → Int32) (n : Nat) (hn : n < 2 ^ 31) : ∀ i s, isS v n i = some s → s < 2 ^ n
  | 0, s, h => by cases h; exact Nat.pow_pos (by decide)
  | i + 1, s, h => by
    rw [isS] at h
    cases e : isS v n i with
    | none => rw [e] at h; cases h
    | some s0 =>
      rw [e] at h
      dsimp only at h
      split at h
      · cases h
      · next hc =>
        cases h
        refine or_pow_lt (isS_lt v n hn i s0 e) ?_
        obtain ⟨j, hj, he⟩ := nI_of (x := v i) (fun q => hc (Or.inl q))
        rw [he, nI_clamp hj]
        exact Nat.not_le.mp fun q => hc (Or.inr (Or.inl (by rw [he]; exact nI_le q hj)))
theorem isS_none (v : Nat → Int32) (n : Nat) {i : Nat} (h : isS v n i = none) : ∀ d, isS v n (i + d) = none
  | 0 => h
  | d + 1 => by
    show isS v n (i + d + 1) = none
    rw [isS, isS_none v n h d]
set_option maxHeartbeats 4000000 in
set_option maxRecDepth 100000 in
theorem c_isOrder (k n st0 ko L : Nat) (hn : n ≤ 10) (hL : st0 + n ≤ L) (hL2 : L ≤ 40) (f : Nat → Int32) (h : PH) (h1 : h[ko]? = some (pI L f)) : Runs yX2_isOrder cX2_isOrder 5 (some .boolean) (k) [.ref ko, .int (nI st0), .int (nI n)] h (fun o h' => ∃ r : Int32, o = some (.int r) ∧ r = (if (isS (fun j => f (st0 + j)) n n).isSome then 1 else 0) ∧ h = h') := by
  refine Runs.of (by decide) (Nat.le_of_ble_eq_true rfl) [some (.ref ko), some (.int (nI st0)), some (.int (nI n)), none, none] 2 rfl (fun Γ g z => ?_)
  have loop : ∀ i, i ≤ n → ∀ s, isS (fun j => f (st0 + j)) n i = some s → PB Γ 5 [some (.ref ko), some (.int (nI st0)), some (.int (nI n)), some (.int (nI s)), some (.int (nI (st0 + i)))] [] h := by
    refine pb_loop n (fun i hi ih s hs => ?_)
    have hsl := isS_lt _ n (by omega) i s hs
    have hp : 2 ^ n ≤ 2 ^ 10 := Nat.pow_le_pow_right (by decide) hn
    by_cases hin : i < n
    · have ih := ih hin
      have hbad : (f (st0 + i) < 0 ∨ nI n ≤ f (st0 + i) ∨ s / 2 ^ (f (st0 + i)).toNatClampNeg % 2 = 1) → (0 : Int32) = if (isS (fun j => f (st0 + j)) n n).isSome then 1 else 0 := fun q => by
        have e1 : isS (fun j => f (st0 + j)) n (i + 1) = none := by
          rw [isS, hs]
          dsimp only
          rw [if_pos q]
        have e2 := isS_none _ n e1 (n - (i + 1))
        rw [show i + 1 + (n - (i + 1)) = n by omega] at e2
        rw [e2]
        rfl
      by_cases h0 : f (st0 + i) < 0
      · have hb0 := hbad (Or.inl h0)
        refine pb_iload4 g dX2_isOrder_5 ?_
        refine pb_iload_n1 g dX2_isOrder_7 ?_
        refine pb_iload_n2 g dX2_isOrder_8 ?_
        first | refine pb_iaddN g dX2_isOrder_9 ?_ | refine pb_iadd g dX2_isOrder_9 ?_
        first | refine pb_icmp_geN g 56 dX2_isOrder_10 (by decide) (by omega) (by omega) (fun c10 => ?_) (fun c10 => ?_) | refine pb_icmp_ge g 56 dX2_isOrder_10 (by decide) (fun c10 => ?_) (fun c10 => ?_)
        · exact absurd c10 (by omega)
        · refine pb_aload_n0 g dX2_isOrder_13 ?_
          refine pb_iload4 g dX2_isOrder_14 ?_
          first | refine pb_ialdN g dX2_isOrder_16 (by first | assumption | rfl) (by omega) (by omega) ?_ | refine pb_ald0 g dX2_isOrder_16 (by omega) ?_ | refine pb_ald1 g dX2_isOrder_16 (by omega) ?_ | refine pb_ald2 g dX2_isOrder_16 (by omega) ?_ | refine pb_ald3 g dX2_isOrder_16 (by omega) ?_ | refine pb_iald g dX2_isOrder_16 (by first | assumption | rfl) (by assumption) ?_
          refine pb_if_lt g 39 dX2_isOrder_17 (by decide) (fun c17 => ?_) (fun c17 => ?_)
          · refine pb_iconst (v := nI 0) g dX2_isOrder_39 (by decide) ?_
            refine pb_zret g z dX2_isOrder_40 (by first | rfl | decide) ?_
            exact ⟨_, rfl, (show nI 0 = (0 : Int32) from rfl).trans hb0, rfl⟩
          · exact absurd h0 c17
      · obtain ⟨c, hc, he⟩ := nI_of h0
        by_cases hcn : n ≤ c
        · have hb0 := hbad (Or.inr (Or.inl (by rw [he]; exact nI_le hcn hc)))
          refine pb_iload4 g dX2_isOrder_5 ?_
          refine pb_iload_n1 g dX2_isOrder_7 ?_
          refine pb_iload_n2 g dX2_isOrder_8 ?_
          first | refine pb_iaddN g dX2_isOrder_9 ?_ | refine pb_iadd g dX2_isOrder_9 ?_
          first | refine pb_icmp_geN g 56 dX2_isOrder_10 (by decide) (by omega) (by omega) (fun c10 => ?_) (fun c10 => ?_) | refine pb_icmp_ge g 56 dX2_isOrder_10 (by decide) (fun c10 => ?_) (fun c10 => ?_)
          · exact absurd c10 (by omega)
          · refine pb_aload_n0 g dX2_isOrder_13 ?_
            refine pb_iload4 g dX2_isOrder_14 ?_
            first | refine pb_ialdN g dX2_isOrder_16 (by first | assumption | rfl) (by omega) (by omega) ?_ | refine pb_ald0 g dX2_isOrder_16 (by omega) ?_ | refine pb_ald1 g dX2_isOrder_16 (by omega) ?_ | refine pb_ald2 g dX2_isOrder_16 (by omega) ?_ | refine pb_ald3 g dX2_isOrder_16 (by omega) ?_ | refine pb_iald g dX2_isOrder_16 (by first | assumption | rfl) (by assumption) ?_
            refine pb_if_lt g 39 dX2_isOrder_17 (by decide) (fun c17 => ?_) (fun c17 => ?_)
            · exact absurd c17 h0
            · refine pb_aload_n0 g dX2_isOrder_20 ?_
              refine pb_iload4 g dX2_isOrder_21 ?_
              first | refine pb_ialdN g dX2_isOrder_23 (by first | assumption | rfl) (by omega) (by omega) ?_ | refine pb_ald0 g dX2_isOrder_23 (by omega) ?_ | refine pb_ald1 g dX2_isOrder_23 (by omega) ?_ | refine pb_ald2 g dX2_isOrder_23 (by omega) ?_ | refine pb_ald3 g dX2_isOrder_23 (by omega) ?_ | refine pb_iald g dX2_isOrder_23 (by first | assumption | rfl) (by assumption) ?_
              rw [he]
              refine pb_iload_n2 g dX2_isOrder_24 ?_
              first | refine pb_icmp_geN g 39 dX2_isOrder_25 (by decide) (by omega) (by omega) (fun c25 => ?_) (fun c25 => ?_) | refine pb_icmp_ge g 39 dX2_isOrder_25 (by decide) (fun c25 => ?_) (fun c25 => ?_)
              · refine pb_iconst (v := nI 0) g dX2_isOrder_39 (by decide) ?_
                refine pb_zret g z dX2_isOrder_40 (by first | rfl | decide) ?_
                exact ⟨_, rfl, (show nI 0 = (0 : Int32) from rfl).trans hb0, rfl⟩
              · exact absurd c25 (by omega)
        · have hdiv : s / 2 ^ c < 2 ^ 31 := Nat.lt_of_le_of_lt (Nat.div_le_self _ _) (by omega)
          have ecl : (f (st0 + i)).toNatClampNeg = c := by rw [he]; exact nI_clamp hc
          by_cases hbit : s / 2 ^ c % 2 = 1
          · have hb0 := hbad (Or.inr (Or.inr (by rw [ecl]; exact hbit)))
            refine pb_iload4 g dX2_isOrder_5 ?_
            refine pb_iload_n1 g dX2_isOrder_7 ?_
            refine pb_iload_n2 g dX2_isOrder_8 ?_
            first | refine pb_iaddN g dX2_isOrder_9 ?_ | refine pb_iadd g dX2_isOrder_9 ?_
            first | refine pb_icmp_geN g 56 dX2_isOrder_10 (by decide) (by omega) (by omega) (fun c10 => ?_) (fun c10 => ?_) | refine pb_icmp_ge g 56 dX2_isOrder_10 (by decide) (fun c10 => ?_) (fun c10 => ?_)
            · exact absurd c10 (by omega)
            · refine pb_aload_n0 g dX2_isOrder_13 ?_
              refine pb_iload4 g dX2_isOrder_14 ?_
              first | refine pb_ialdN g dX2_isOrder_16 (by first | assumption | rfl) (by omega) (by omega) ?_ | refine pb_ald0 g dX2_isOrder_16 (by omega) ?_ | refine pb_ald1 g dX2_isOrder_16 (by omega) ?_ | refine pb_ald2 g dX2_isOrder_16 (by omega) ?_ | refine pb_ald3 g dX2_isOrder_16 (by omega) ?_ | refine pb_iald g dX2_isOrder_16 (by first | assumption | rfl) (by assumption) ?_
              refine pb_if_lt g 39 dX2_isOrder_17 (by decide) (fun c17 => ?_) (fun c17 => ?_)
              · exact absurd c17 h0
              · refine pb_aload_n0 g dX2_isOrder_20 ?_
                refine pb_iload4 g dX2_isOrder_21 ?_
                first | refine pb_ialdN g dX2_isOrder_23 (by first | assumption | rfl) (by omega) (by omega) ?_ | refine pb_ald0 g dX2_isOrder_23 (by omega) ?_ | refine pb_ald1 g dX2_isOrder_23 (by omega) ?_ | refine pb_ald2 g dX2_isOrder_23 (by omega) ?_ | refine pb_ald3 g dX2_isOrder_23 (by omega) ?_ | refine pb_iald g dX2_isOrder_23 (by first | assumption | rfl) (by assumption) ?_
                rw [he]
                refine pb_iload_n2 g dX2_isOrder_24 ?_
                first | refine pb_icmp_geN g 39 dX2_isOrder_25 (by decide) (by omega) (by omega) (fun c25 => ?_) (fun c25 => ?_) | refine pb_icmp_ge g 39 dX2_isOrder_25 (by decide) (fun c25 => ?_) (fun c25 => ?_)
                · exact absurd c25 (by omega)
                · refine pb_iload_n3 g dX2_isOrder_28 ?_
                  refine pb_aload_n0 g dX2_isOrder_29 ?_
                  refine pb_iload4 g dX2_isOrder_30 ?_
                  first | refine pb_ialdN g dX2_isOrder_32 (by first | assumption | rfl) (by omega) (by omega) ?_ | refine pb_ald0 g dX2_isOrder_32 (by omega) ?_ | refine pb_ald1 g dX2_isOrder_32 (by omega) ?_ | refine pb_ald2 g dX2_isOrder_32 (by omega) ?_ | refine pb_ald3 g dX2_isOrder_32 (by omega) ?_ | refine pb_iald g dX2_isOrder_32 (by first | assumption | rfl) (by assumption) ?_
                  rw [he]
                  first | refine pb_ishrN g dX2_isOrder_33 (by omega) (by omega) ?_ | refine pb_ishr g dX2_isOrder_33 ?_
                  refine pb_iconst (v := nI 1) g dX2_isOrder_34 (by decide) ?_
                  first | refine pb_iandN g dX2_isOrder_35 (by omega) ?_ | refine pb_iand g dX2_isOrder_35 ?_
                  first | refine pb_if_eqN g 41 dX2_isOrder_36 (by decide) (by omega) (fun c36 => ?_) (fun c36 => ?_) | refine pb_if_eq g 41 dX2_isOrder_36 (by decide) (fun c36 => ?_) (fun c36 => ?_)
                  · exact absurd c36 (by omega)
                  · refine pb_iconst (v := nI 0) g dX2_isOrder_39 (by decide) ?_
                    refine pb_zret g z dX2_isOrder_40 (by first | rfl | decide) ?_
                    exact ⟨_, rfl, (show nI 0 = (0 : Int32) from rfl).trans hb0, rfl⟩
          · have ih := ih (s ||| 2 ^ c) (by
              rw [isS, hs]
              dsimp only
              rw [if_neg, ecl]
              intro q
              rcases q with q | q | q
              · exact h0 q
              · rw [he] at q
                exact hcn ((nI_leI (by omega) hc).mp q)
              · rw [ecl] at q
                exact hbit q)
            refine pb_iload4 g dX2_isOrder_5 ?_
            refine pb_iload_n1 g dX2_isOrder_7 ?_
            refine pb_iload_n2 g dX2_isOrder_8 ?_
            first | refine pb_iaddN g dX2_isOrder_9 ?_ | refine pb_iadd g dX2_isOrder_9 ?_
            first | refine pb_icmp_geN g 56 dX2_isOrder_10 (by decide) (by omega) (by omega) (fun c10 => ?_) (fun c10 => ?_) | refine pb_icmp_ge g 56 dX2_isOrder_10 (by decide) (fun c10 => ?_) (fun c10 => ?_)
            · exact absurd c10 (by omega)
            · refine pb_aload_n0 g dX2_isOrder_13 ?_
              refine pb_iload4 g dX2_isOrder_14 ?_
              first | refine pb_ialdN g dX2_isOrder_16 (by first | assumption | rfl) (by omega) (by omega) ?_ | refine pb_ald0 g dX2_isOrder_16 (by omega) ?_ | refine pb_ald1 g dX2_isOrder_16 (by omega) ?_ | refine pb_ald2 g dX2_isOrder_16 (by omega) ?_ | refine pb_ald3 g dX2_isOrder_16 (by omega) ?_ | refine pb_iald g dX2_isOrder_16 (by first | assumption | rfl) (by assumption) ?_
              refine pb_if_lt g 39 dX2_isOrder_17 (by decide) (fun c17 => ?_) (fun c17 => ?_)
              · exact absurd c17 h0
              · refine pb_aload_n0 g dX2_isOrder_20 ?_
                refine pb_iload4 g dX2_isOrder_21 ?_
                first | refine pb_ialdN g dX2_isOrder_23 (by first | assumption | rfl) (by omega) (by omega) ?_ | refine pb_ald0 g dX2_isOrder_23 (by omega) ?_ | refine pb_ald1 g dX2_isOrder_23 (by omega) ?_ | refine pb_ald2 g dX2_isOrder_23 (by omega) ?_ | refine pb_ald3 g dX2_isOrder_23 (by omega) ?_ | refine pb_iald g dX2_isOrder_23 (by first | assumption | rfl) (by assumption) ?_
                rw [he]
                refine pb_iload_n2 g dX2_isOrder_24 ?_
                first | refine pb_icmp_geN g 39 dX2_isOrder_25 (by decide) (by omega) (by omega) (fun c25 => ?_) (fun c25 => ?_) | refine pb_icmp_ge g 39 dX2_isOrder_25 (by decide) (fun c25 => ?_) (fun c25 => ?_)
                · exact absurd c25 (by omega)
                · refine pb_iload_n3 g dX2_isOrder_28 ?_
                  refine pb_aload_n0 g dX2_isOrder_29 ?_
                  refine pb_iload4 g dX2_isOrder_30 ?_
                  first | refine pb_ialdN g dX2_isOrder_32 (by first | assumption | rfl) (by omega) (by omega) ?_ | refine pb_ald0 g dX2_isOrder_32 (by omega) ?_ | refine pb_ald1 g dX2_isOrder_32 (by omega) ?_ | refine pb_ald2 g dX2_isOrder_32 (by omega) ?_ | refine pb_ald3 g dX2_isOrder_32 (by omega) ?_ | refine pb_iald g dX2_isOrder_32 (by first | assumption | rfl) (by assumption) ?_
                  rw [he]
                  first | refine pb_ishrN g dX2_isOrder_33 (by omega) (by omega) ?_ | refine pb_ishr g dX2_isOrder_33 ?_
                  refine pb_iconst (v := nI 1) g dX2_isOrder_34 (by decide) ?_
                  first | refine pb_iandN g dX2_isOrder_35 (by omega) ?_ | refine pb_iand g dX2_isOrder_35 ?_
                  first | refine pb_if_eqN g 41 dX2_isOrder_36 (by decide) (by omega) (fun c36 => ?_) (fun c36 => ?_) | refine pb_if_eq g 41 dX2_isOrder_36 (by decide) (fun c36 => ?_) (fun c36 => ?_)
                  · refine pb_iload_n3 g dX2_isOrder_41 ?_
                    refine pb_iconst (v := nI 1) g dX2_isOrder_42 (by decide) ?_
                    refine pb_aload_n0 g dX2_isOrder_43 ?_
                    refine pb_iload4 g dX2_isOrder_44 ?_
                    first | refine pb_ialdN g dX2_isOrder_46 (by first | assumption | rfl) (by omega) (by omega) ?_ | refine pb_ald0 g dX2_isOrder_46 (by omega) ?_ | refine pb_ald1 g dX2_isOrder_46 (by omega) ?_ | refine pb_ald2 g dX2_isOrder_46 (by omega) ?_ | refine pb_ald3 g dX2_isOrder_46 (by omega) ?_ | refine pb_iald g dX2_isOrder_46 (by first | assumption | rfl) (by assumption) ?_
                    rw [he]
                    first | refine pb_ishlN g dX2_isOrder_47 (by omega) ?_ | refine pb_ishl g dX2_isOrder_47 ?_
                    first | refine pb_iorN g dX2_isOrder_48 ?_ | refine pb_ior g dX2_isOrder_48 ?_
                    refine pb_istore_n3 g dX2_isOrder_49 (by decide) ?_
                    first | refine pb_iinc4N g dX2_isOrder_50 (by decide) ?_ | refine pb_iinc4 g dX2_isOrder_50 (by decide) rfl ?_
                    refine pb_goto g 5 dX2_isOrder_53 (by decide) ?_
                    exact ih
                  · exact absurd c36 (by omega)
    · obtain rfl : i = n := by omega
      refine pb_iload4 g dX2_isOrder_5 ?_
      refine pb_iload_n1 g dX2_isOrder_7 ?_
      refine pb_iload_n2 g dX2_isOrder_8 ?_
      first | refine pb_iaddN g dX2_isOrder_9 ?_ | refine pb_iadd g dX2_isOrder_9 ?_
      first | refine pb_icmp_geN g 56 dX2_isOrder_10 (by decide) (by omega) (by omega) (fun c10 => ?_) (fun c10 => ?_) | refine pb_icmp_ge g 56 dX2_isOrder_10 (by decide) (fun c10 => ?_) (fun c10 => ?_)
      · refine pb_iconst (v := nI 1) g dX2_isOrder_56 (by decide) ?_
        refine pb_zret g z dX2_isOrder_57 (by first | rfl | decide) ?_
        exact ⟨_, rfl, by rw [hs]; rfl, rfl⟩
      · exact absurd c10 (by omega)
  refine pb_iconst (v := nI 0) g dX2_isOrder_0 (by decide) ?_
  refine pb_istore_n3 g dX2_isOrder_1 (by decide) ?_
  refine pb_iload_n1 g dX2_isOrder_2 ?_
  refine pb_istore4 g dX2_isOrder_3 (by decide) ?_
  exact loop 0 (Nat.zero_le _) 0 rfl
