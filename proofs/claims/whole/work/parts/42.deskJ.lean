/-! ===== the desk: acts ===== -/
theorem pb_lsw {Γ : GT} {y : MethodName} {cc : ByteArray} {nL : Nat} {rt : Option FieldType} {k pc : Nat} {lv : List (Option Value)} {st : List Value} {h : PH} (g : GM Γ y cc nL rt k) {dflt off : Int} {ps : Array (Int × Int)} {len : Nat} {x : Int32} (tgt : Nat) (hdg : decode cc pc = .ok (.lookupswitch dflt ps, len)) (hp : (ps.toList.zip (ps.toList.drop 1)).all (fun (a, next) => a.1 < next.1) = true) (ho : Op.lookupswitch.offset ps.toList dflt x.toInt = off) (ht : (pc : Int) + off = (tgt : Int)) (kk : PB Γ tgt lv st h) : PB Γ pc lv (.int x :: st) h := by
  obtain ⟨⟨p, l, e, R, s, m⟩, ⟨args, below, meth, c⟩, ⟨D, ta, ad, sa, A⟩, cl, sl, Z⟩ := Γ
  obtain ⟨hx, hb, hml, hr, hlk, hown, hts, hR, hK, hA, hPS, hPN⟩ := g
  intro H locs ls hP hD hS hl
  exact lv_lookup hx hb hdg hp ho ht (kk H locs ls hP hD hS hl)
def bdT (i : Nat) : Nat := [10, 11, 12, 0, 20, 0, 30, 0, 31, 0, 40, 0, 50, 0, 51].getD i 0
def bdy (a t : Nat) : Nat := [10, 11, 12, 10, 20, 12, 30, 11, 31, 30, 40, 31, 50, 40, 51].getD (a * 3 + t) 0
theorem bdT_at : ∀ i, i < 15 → (psV 3).getD i 0 = nI (bdT i) := by decide
theorem bdT_lt : ∀ i, i < 15 → bdT i ≤ 51 := by decide
theorem bd_ok : ∀ a, a < 5 → ∀ t, t < 3 → (bdT (a * 3 + t) = 0 → ¬ a = 0 ∧ bdy a t = bdy (abv a) t ∧ abv a < a) ∧ (¬ bdT (a * 3 + t) = 0 → bdT (a * 3 + t) = bdy a t) := by decide
theorem bdy_in : ∀ a, a < 5 → ∀ t, t < 3 → bdy a t = 10 ∨ bdy a t = 11 ∨ bdy a t = 12 ∨ bdy a t = 20 ∨ bdy a t = 30 ∨ bdy a t = 31 ∨ bdy a t = 40 ∨ bdy a t = 50 ∨ bdy a t = 51 := by decide
/-- an act's answer and the bodies that ran -/
def acR (K : Nat) (m hh : Int32) : Nat → Nat → Nat → Int32 → Int32 × List Nat
  | 0, _, _, _ => (0, [])
  | d + 1, a, t, x =>
    if bdy a t = 10 then (x + m, [10]) else
    if bdy a t = 11 then ((acR K m hh d K 0 x).1 * hh, 11 :: (acR K m hh d K 0 x).2) else
    if bdy a t = 12 then ((acR K m hh d K 1 x).1 ^^^ (acR K m hh d K 0 (x + nI 1)).1, 12 :: ((acR K m hh d K 1 x).2 ++ (acR K m hh d K 0 (x + nI 1)).2)) else
    if bdy a t = 20 then ((acR K m hh d 0 1 x).1 + nI 1, 20 :: (acR K m hh d 0 1 x).2) else
    if bdy a t = 30 then ((acR K m hh d 0 0 x).1 - hh, 30 :: (acR K m hh d 0 0 x).2) else
    if bdy a t = 31 then ((acR K m hh d 0 2 x).1 * nI 2, 31 :: (acR K m hh d 0 2 x).2) else
    if bdy a t = 40 then ((acR K m hh d 2 1 x).1 + (acR K m hh d 2 0 x).1, 40 :: ((acR K m hh d 2 1 x).2 ++ (acR K m hh d 2 0 x).2)) else
    if bdy a t = 50 then ((acR K m hh d 3 0 (x * nI 3)).1, 50 :: (acR K m hh d 3 0 (x * nI 3)).2) else
    ((acR K m hh d K 1 x).1 - (acR K m hh d 3 2 x).1, 51 :: ((acR K m hh d K 1 x).2 ++ (acR K m hh d 3 2 x).2))
/-- the depth is enough -/
def okA (K : Nat) : Nat → Nat → Nat → Bool
  | 0, _, _ => false
  | d + 1, a, t =>
    if bdy a t = 10 then true else
    if bdy a t = 11 then okA K d K 0 else
    if bdy a t = 12 then okA K d K 1 && okA K d K 0 else
    if bdy a t = 20 then okA K d 0 1 else
    if bdy a t = 30 then okA K d 0 0 else
    if bdy a t = 31 then okA K d 0 2 else
    if bdy a t = 40 then okA K d 2 1 && okA K d 2 0 else
    if bdy a t = 50 then okA K d 3 0 else
    okA K d K 1 && okA K d 3 2
def acT (K : Nat) : Nat → Nat → Nat → List Nat
  | 0, _, _ => []
  | d + 1, a, t =>
    if bdy a t = 10 then [10] else
    if bdy a t = 11 then 11 :: acT K d K 0 else
    if bdy a t = 12 then 12 :: (acT K d K 1 ++ acT K d K 0) else
    if bdy a t = 20 then 20 :: acT K d 0 1 else
    if bdy a t = 30 then 30 :: acT K d 0 0 else
    if bdy a t = 31 then 31 :: acT K d 0 2 else
    if bdy a t = 40 then 40 :: (acT K d 2 1 ++ acT K d 2 0) else
    if bdy a t = 50 then 50 :: acT K d 3 0 else
    51 :: (acT K d K 1 ++ acT K d 3 2)
theorem acR_T (K : Nat) (m hh : Int32) : ∀ d a t x, (acR K m hh d a t x).2 = acT K d a t := by
  intro d
  induction d with
  | zero => intros; rfl
  | succ d ih =>
    intro a t x
    rw [acR, acT]
    by_cases q1 : bdy a t = 10
    · rw [if_pos q1, if_pos q1]
    rw [if_neg q1, if_neg q1]
    by_cases q2 : bdy a t = 11
    · rw [if_pos q2, if_pos q2, ih]
    rw [if_neg q2, if_neg q2]
    by_cases q3 : bdy a t = 12
    · rw [if_pos q3, if_pos q3, ih, ih]
    rw [if_neg q3, if_neg q3]
    by_cases q4 : bdy a t = 20
    · rw [if_pos q4, if_pos q4, ih]
    rw [if_neg q4, if_neg q4]
    by_cases q5 : bdy a t = 30
    · rw [if_pos q5, if_pos q5, ih]
    rw [if_neg q5, if_neg q5]
    by_cases q6 : bdy a t = 31
    · rw [if_pos q6, if_pos q6, ih]
    rw [if_neg q6, if_neg q6]
    by_cases q7 : bdy a t = 40
    · rw [if_pos q7, if_pos q7, ih, ih]
    rw [if_neg q7, if_neg q7]
    by_cases q8 : bdy a t = 50
    · rw [if_pos q8, if_pos q8, ih]
    rw [if_neg q8, if_neg q8, ih, ih]
theorem ac_top : ∀ K, K < 5 → ∀ t, t < 3 → okA K 9 K t = true ∧ (acT K 9 K t).length ≤ 40 := by decide +kernel
def nt1 (kt : Nat → Int32) (ra b : Nat) : Nat → Int32 := if ra < 40 then upd kt ra (nI b) else kt
def nts : (Nat → Int32) → Nat → List Nat → (Nat → Int32)
  | kt, _, [] => kt
  | kt, ra, b :: l => nts (nt1 kt ra b) (ra + 1) l
theorem nts_app : ∀ (l1 : List Nat) (kt : Nat → Int32) (ra : Nat) (l2 : List Nat), nts kt ra (l1 ++ l2) = nts (nts kt ra l1) (ra + l1.length) l2
  | [], kt, ra, l2 => rfl
  | b :: l, kt, ra, l2 => by
    show nts (nt1 kt ra b) (ra + 1) (l ++ l2) = nts (nts (nt1 kt ra b) (ra + 1) l) (ra + (l.length + 1)) l2
    rw [nts_app l, show ra + 1 + l.length = ra + (l.length + 1) by omega]
theorem nts_keep : ∀ (l : List Nat) (kt : Nat → Int32) (ra i : Nat), i < ra → nts kt ra l i = kt i
  | [], _, _, _, _ => rfl
  | b :: l, kt, ra, i, h => by
    show nts (nt1 kt ra b) (ra + 1) l i = kt i
    rw [nts_keep l _ _ i (by omega), nt1]
    split
    · rw [upd, if_neg (by omega)]
    · rfl
theorem nts_at : ∀ (l : List Nat) (kt : Nat → Int32) (ra i : Nat), ra ≤ i → i < ra + l.length → i < 40 → nts kt ra l i = nI (l.getD (i - ra) 0)
  | [], _, ra, i, h1, h2, _ => by simp at h2; omega
  | b :: l, kt, ra, i, h1, h2, h3 => by
    show nts (nt1 kt ra b) (ra + 1) l i = _
    have h2 : i < ra + (l.length + 1) := h2
    by_cases e : i = ra
    · rw [nts_keep l _ _ i (by omega), nt1, if_pos (by omega), upd, if_pos e, e, Nat.sub_self]
      rfl
    · rw [nts_at l _ (ra + 1) i (by omega) (by omega) h3, show i - ra = i - (ra + 1) + 1 by omega]
      rfl
def sAct : SP → Int32 → Int32 → Int32 → Int32 × SP
  | ((n, P, S, sd), (σ, μ, K, Hh), c, (ra, tr)), s, t, x => match ix s S, ix t 3 with
    | some s, some t => ((acR (K s) (nI s) (nI (Hh s)) 9 (K s) t x).1, ((n, P, S, sd), (σ, μ, K, Hh), c, ((acT (K s) 9 (K s) t).length, fun i => nI ((acT (K s) 9 (K s) t).getD i 0))))
    | _, _ => (0, ((n, P, S, sd), (σ, μ, K, Hh), c, (0, tr)))
set_option maxHeartbeats 4000000 in
set_option maxRecDepth 100000 in
theorem c_bodyOf (k a0 t : Nat) (ha0 : a0 < 5) (ht : t < 3) (h : PH) : Runs yX0_bodyOf cX0_bodyOf 5 (some .int) (k) [.int (nI a0), .int (nI t)] h (fun o h' => ∃ r : Int32, o = some (.int r) ∧ r = nI (bdy a0 t) ∧ h = h') := by
  refine Runs.of (by decide) (Nat.le_of_ble_eq_true rfl) [some (.int (nI a0)), some (.int (nI t)), none, none, none] 3 rfl (fun Γ g z => ?_)
  have loop : ∀ N a, a < N → a < 5 → ∀ (i : Nat) (w : Option Value), i + a ≤ 4 → bdy a t = bdy a0 t → PB Γ 4 [some (.int (nI a0)), some (.int (nI t)), some (.int (nI a)), some (.int (nI i)), w] [] h := by
    intro N
    induction N with
    | zero => intro a ha; omega
    | succ N ihN =>
      intro a haN ha i w hia he
      have hb := bd_ok a ha t ht
      have hbl := bdT_lt (a * 3 + t) (by omega)
      by_cases h0 : bdT (a * 3 + t) = 0
      · obtain ⟨q1, q2, q3⟩ := hb.1 h0
        refine pb_iload_n3 g dX0_bodyOf_4 ?_
        refine pb_iconst (v := nI 5) g dX0_bodyOf_5 (by decide) ?_
        first | refine pb_icmp_geN g 44 dX0_bodyOf_6 (by decide) (by omega) (by omega) (fun c6 => ?_) (fun c6 => ?_) | refine pb_icmp_ge g 44 dX0_bodyOf_6 (by decide) (fun c6 => ?_) (fun c6 => ?_)
        · exact absurd c6 (by omega)
        · refine pb_iload_n2 g dX0_bodyOf_9 ?_
          refine pb_if_ltN g 44 dX0_bodyOf_10 (by decide) (by omega) ?_
          refine pb_gets g sX0_47 dX0_bodyOf_13 ?_
          refine pb_iload_n2 g dX0_bodyOf_16 ?_
          refine pb_iconst (v := nI 3) g dX0_bodyOf_17 (by decide) ?_
          first | refine pb_imulN g dX0_bodyOf_18 ?_ | refine pb_imul g dX0_bodyOf_18 ?_
          refine pb_iload_n1 g dX0_bodyOf_19 ?_
          first | refine pb_iaddN g dX0_bodyOf_20 ?_ | refine pb_iadd g dX0_bodyOf_20 ?_
          first | refine pb_ialdN g dX0_bodyOf_21 (by first | assumption | rfl) (by omega) (by omega) ?_ | refine pb_ald0 g dX0_bodyOf_21 (by omega) ?_ | refine pb_ald1 g dX0_bodyOf_21 (by omega) ?_ | refine pb_ald2 g dX0_bodyOf_21 (by omega) ?_ | refine pb_ald3 g dX0_bodyOf_21 (by omega) ?_ | refine pb_iald g dX0_bodyOf_21 (by first | assumption | rfl) (by assumption) ?_
          rw [bdT_at (a * 3 + t) (by omega)]
          refine pb_istore4 g dX0_bodyOf_22 (by decide) ?_
          refine pb_iload4 g dX0_bodyOf_24 ?_
          first | refine pb_if_eqN g 32 dX0_bodyOf_26 (by decide) (by omega) (fun c26 => ?_) (fun c26 => ?_) | refine pb_if_eq g 32 dX0_bodyOf_26 (by decide) (fun c26 => ?_) (fun c26 => ?_)
          · refine pb_gets g sX0_44 dX0_bodyOf_32 ?_
            refine pb_iload_n2 g dX0_bodyOf_35 ?_
            first | refine pb_ialdN g dX0_bodyOf_36 (by first | assumption | rfl) (by omega) (by omega) ?_ | refine pb_ald0 g dX0_bodyOf_36 (by omega) ?_ | refine pb_ald1 g dX0_bodyOf_36 (by omega) ?_ | refine pb_ald2 g dX0_bodyOf_36 (by omega) ?_ | refine pb_ald3 g dX0_bodyOf_36 (by omega) ?_ | refine pb_iald g dX0_bodyOf_36 (by first | assumption | rfl) (by assumption) ?_
            rw [abv_at a ha, if_neg q1]
            refine pb_istore_n2 g dX0_bodyOf_37 (by decide) ?_
            first | refine pb_iinc3N g dX0_bodyOf_38 (by decide) ?_ | refine pb_iinc3 g dX0_bodyOf_38 (by decide) rfl ?_
            refine pb_goto g 4 dX0_bodyOf_41 (by decide) ?_
            exact ihN (abv a) (by omega) (abv_lt a) (i + 1) _ (by omega) (q2.symm.trans he)
          · exact absurd h0 c26
      · have q2 := hb.2 h0
        refine pb_iload_n3 g dX0_bodyOf_4 ?_
        refine pb_iconst (v := nI 5) g dX0_bodyOf_5 (by decide) ?_
        first | refine pb_icmp_geN g 44 dX0_bodyOf_6 (by decide) (by omega) (by omega) (fun c6 => ?_) (fun c6 => ?_) | refine pb_icmp_ge g 44 dX0_bodyOf_6 (by decide) (fun c6 => ?_) (fun c6 => ?_)
        · exact absurd c6 (by omega)
        · refine pb_iload_n2 g dX0_bodyOf_9 ?_
          refine pb_if_ltN g 44 dX0_bodyOf_10 (by decide) (by omega) ?_
          refine pb_gets g sX0_47 dX0_bodyOf_13 ?_
          refine pb_iload_n2 g dX0_bodyOf_16 ?_
          refine pb_iconst (v := nI 3) g dX0_bodyOf_17 (by decide) ?_
          first | refine pb_imulN g dX0_bodyOf_18 ?_ | refine pb_imul g dX0_bodyOf_18 ?_
          refine pb_iload_n1 g dX0_bodyOf_19 ?_
          first | refine pb_iaddN g dX0_bodyOf_20 ?_ | refine pb_iadd g dX0_bodyOf_20 ?_
          first | refine pb_ialdN g dX0_bodyOf_21 (by first | assumption | rfl) (by omega) (by omega) ?_ | refine pb_ald0 g dX0_bodyOf_21 (by omega) ?_ | refine pb_ald1 g dX0_bodyOf_21 (by omega) ?_ | refine pb_ald2 g dX0_bodyOf_21 (by omega) ?_ | refine pb_ald3 g dX0_bodyOf_21 (by omega) ?_ | refine pb_iald g dX0_bodyOf_21 (by first | assumption | rfl) (by assumption) ?_
          rw [bdT_at (a * 3 + t) (by omega)]
          refine pb_istore4 g dX0_bodyOf_22 (by decide) ?_
          refine pb_iload4 g dX0_bodyOf_24 ?_
          first | refine pb_if_eqN g 32 dX0_bodyOf_26 (by decide) (by omega) (fun c26 => ?_) (fun c26 => ?_) | refine pb_if_eq g 32 dX0_bodyOf_26 (by decide) (fun c26 => ?_) (fun c26 => ?_)
          · exact absurd c26 h0
          · refine pb_iload4 g dX0_bodyOf_29 ?_
            refine pb_iret g z dX0_bodyOf_31 ?_
            exact ⟨_, rfl, by rw [q2, he], rfl⟩
  refine pb_iload_n0 g dX0_bodyOf_0 ?_
  refine pb_istore_n2 g dX0_bodyOf_1 (by decide) ?_
  refine pb_iconst (v := nI 0) g dX0_bodyOf_2 (by decide) ?_
  refine pb_istore_n3 g dX0_bodyOf_3 (by decide) ?_
  exact loop 5 a0 ha0 ha0 0 _ (by omega) rfl
set_option maxHeartbeats 4000000 in
set_option maxRecDepth 100000 in
theorem x_note (k : Nat) {cd pc sc sd ak an ah : Int32} {pk fr it jk : Nat → Nat → Int32} {kd hp ts tz kt : Nat → Int32} {jl : Nat → Nat → Int64} {ra b : Nat} (hra : ra < 2 ^ 30) : Runs yX0_note cX0_note 2 none (k) [.ref 44, .int (nI b)] (mkH 52 (dkF cd pc sc sd pk fr it kd hp ts tz (nI ra) ak an ah kt jk jl)) (fun oo h' => oo = none ∧ mkH 52 (dkF cd pc sc sd pk fr it kd hp ts tz (nI (ra + 1)) ak an ah (nt1 kt ra b) jk jl) = h') := by
  refine Runs.of (by decide) (Nat.le_of_ble_eq_true rfl) [some (.ref 44), some (.int (nI b))] 0 rfl (fun Γ g z => ?_)
  by_cases h40 : ra < 40
  · rw [show nt1 kt ra b = upd kt ra (nI b) from if_pos h40] at z
    refine pb_aload_n0 g dX0_note_0 ?_
    refine pb_getf g fX0_15 dX0_note_1 dr_ac rfl ?_
    refine pb_bipush (v := nI 40) g dX0_note_4 (by decide) ?_
    first | refine pb_icmp_geN g 19 dX0_note_6 (by decide) (by omega) (by omega) (fun c6 => ?_) (fun c6 => ?_) | refine pb_icmp_ge g 19 dX0_note_6 (by decide) (fun c6 => ?_) (fun c6 => ?_)
    · exact absurd c6 (by omega)
    · refine pb_aload_n0 g dX0_note_9 ?_
      refine pb_getf g fX0_9 dX0_note_10 dr_ac rfl ?_
      refine pb_aload_n0 g dX0_note_13 ?_
      refine pb_getf g fX0_15 dX0_note_14 dr_ac rfl ?_
      refine pb_iload_n1 g dX0_note_17 ?_
      first | refine pb_iastN g dX0_note_18 (by first | exact dr_kt | exact dr_pk (by omega) | exact dr_fr (by omega) | exact dr_it (by omega) | exact dr_bf | exact dr_pl | exact dr_lr | exact dr_nh | exact dr_lc | exact dr_bl | assumption) (by omega) (by omega) ?_ | refine pb_iast g dX0_note_18 (by first | exact dr_kt | exact dr_pk (by omega) | exact dr_fr (by omega) | exact dr_it (by omega) | exact dr_bf | exact dr_pl | exact dr_lr | exact dr_nh | exact dr_lc | exact dr_bl | assumption) (by assumption) ?_
      rw [ds_kt]
      refine pb_aload_n0 g dX0_note_19 ?_
      refine pb_dup g dX0_note_20 rfl ?_
      refine pb_getf g fX0_15 dX0_note_21 dr_ac rfl ?_
      refine pb_iconst (v := nI 1) g dX0_note_24 (by decide) ?_
      first | refine pb_iaddN g dX0_note_25 ?_ | refine pb_iadd g dX0_note_25 ?_
      refine pb_puti g wX0_15 dX0_note_26 dr_ac (Nat.le_of_ble_eq_true rfl) ?_
      rw [ds_ar]
      refine pb_vret g z dX0_note_29 ?_
      exact ⟨rfl, rfl⟩
  · rw [show nt1 kt ra b = kt from if_neg h40] at z
    refine pb_aload_n0 g dX0_note_0 ?_
    refine pb_getf g fX0_15 dX0_note_1 dr_ac rfl ?_
    refine pb_bipush (v := nI 40) g dX0_note_4 (by decide) ?_
    first | refine pb_icmp_geN g 19 dX0_note_6 (by decide) (by omega) (by omega) (fun c6 => ?_) (fun c6 => ?_) | refine pb_icmp_ge g 19 dX0_note_6 (by decide) (fun c6 => ?_) (fun c6 => ?_)
    · refine pb_aload_n0 g dX0_note_19 ?_
      refine pb_dup g dX0_note_20 rfl ?_
      refine pb_getf g fX0_15 dX0_note_21 dr_ac rfl ?_
      refine pb_iconst (v := nI 1) g dX0_note_24 (by decide) ?_
      first | refine pb_iaddN g dX0_note_25 ?_ | refine pb_iadd g dX0_note_25 ?_
      refine pb_puti g wX0_15 dX0_note_26 dr_ac (Nat.le_of_ble_eq_true rfl) ?_
      rw [ds_ar]
      refine pb_vret g z dX0_note_29 ?_
      exact ⟨rfl, rfl⟩
    · exact absurd c6 (by omega)
set_option maxHeartbeats 4000000 in
set_option maxRecDepth 100000 in
theorem x_run (k K : Nat) (hK : K < 5) {cd pc sc sd : Int32} {pk fr it jk : Nat → Nat → Int32} {kd hp ts tz : Nat → Int32} {jl : Nat → Nat → Int64} (m hh : Int32) : ∀ (d a t dep ra : Nat) (x : Int32) (kt : Nat → Int32), a < 5 → t < 3 → okA K d a t = true → dep + d ≤ 21 → ra + (acR K m hh d a t x).2.length ≤ 1000 → Runs yX0_run cX0_run 7 (some .int) (k + d) [.ref 44, .int (nI a), .int (nI t), .int x, .int (nI dep)] (mkH 52 (dkF cd pc sc sd pk fr it kd hp ts tz (nI ra) (nI K) (m) (hh) (kt) jk jl)) (fun o h' => ∃ r : Int32, o = some (.int r) ∧ r = (acR K m hh d a t x).1 ∧ mkH 52 (dkF cd pc sc sd pk fr it kd hp ts tz (nI (ra + (acR K m hh d a t x).2.length)) (nI K) (m) (hh) (nts kt ra (acR K m hh d a t x).2) jk jl) = h') := by
  intro d
  induction d with
  | zero =>
    intro a t dep ra x kt _ _ hok
    cases hok
  | succ d ih =>
    intro a t dep ra x kt ha ht hok hdep hlen
    rw [acR] at hlen ⊢
    rw [okA] at hok
    refine Runs.of (by decide) (Nat.le_of_ble_eq_true rfl) [some (.ref 44), some (.int (nI a)), some (.int (nI t)), some (.int x), some (.int (nI dep)), none, none] 2 rfl (fun Γ g z => ?_)
    have hbd := bdy_in a ha t ht
    rcases hbd with e | e | e | e | e | e | e | e | e
    · rw [if_pos e] at hlen z
      refine pb_iload_n1 g dX0_run_0 ?_
      refine pb_iload_n2 g dX0_run_1 ?_
      refine pb_Si2 g qX0_36 dX0_run_2 (k + d) (by omega) (c_bodyOf (k + d) a t ha ht _) (fun r2 h2 e2 => ?_)
      obtain ⟨rfl, rfl⟩ := e2
      rw [e]
      refine pb_istore5 g dX0_run_5 (by decide) ?_
      refine pb_iload5 g dX0_run_7 ?_
      first | refine pb_if_eqN g 19 dX0_run_9 (by decide) (by omega) (fun c9 => ?_) (fun c9 => ?_) | refine pb_if_eq g 19 dX0_run_9 (by decide) (fun c9 => ?_) (fun c9 => ?_)
      · exact absurd c9 (by decide)
      · refine pb_iload4 g dX0_run_12 ?_
        refine pb_bipush (v := nI 20) g dX0_run_14 (by decide) ?_
        first | refine pb_icmp_leN g 21 dX0_run_16 (by decide) (by omega) (by omega) (fun c16 => ?_) (fun c16 => ?_) | refine pb_icmp_le g 21 dX0_run_16 (by decide) (fun c16 => ?_) (fun c16 => ?_)
        · refine pb_aload_n0 g dX0_run_21 ?_
          refine pb_iload5 g dX0_run_22 ?_
          refine pb_Vv1 g qX0_40 dX0_run_24 (k + d) (by omega) dr_ac (x_note (k + d) (ra := ra) (b := 10) (by omega)) (fun h24 e24 => ?_)
          subst e24
          refine pb_iload4 g dX0_run_27 ?_
          refine pb_iconst (v := nI 1) g dX0_run_29 (by decide) ?_
          first | refine pb_iaddN g dX0_run_30 ?_ | refine pb_iadd g dX0_run_30 ?_
          refine pb_istore6 g dX0_run_31 (by decide) ?_
          refine pb_iload5 g dX0_run_33 ?_
          refine pb_lsw g 116 dX0_run_35 (by decide) rfl (by decide) ?_
          refine pb_iload_n3 g dX0_run_116 ?_
          refine pb_aload_n0 g dX0_run_117 ?_
          refine pb_getf g fX0_22 dX0_run_118 dr_ac rfl ?_
          refine pb_iadd g dX0_run_121 ?_
          refine pb_iret g z dX0_run_122 ?_
          exact ⟨_, rfl, rfl, rfl⟩
        · exact absurd c16 (by omega)
    · rw [if_neg (show ¬ bdy a t = 10 by omega), if_pos e] at hok hlen z
      have hlen : ra + (acR K m hh d K 0 x).2.length + 1 ≤ 1000 := by simpa [Nat.add_assoc] using hlen
      refine pb_iload_n1 g dX0_run_0 ?_
      refine pb_iload_n2 g dX0_run_1 ?_
      refine pb_Si2 g qX0_36 dX0_run_2 (k + d) (by omega) (c_bodyOf (k + d) a t ha ht _) (fun r2 h2 e2 => ?_)
      obtain ⟨rfl, rfl⟩ := e2
      rw [e]
      refine pb_istore5 g dX0_run_5 (by decide) ?_
      refine pb_iload5 g dX0_run_7 ?_
      first | refine pb_if_eqN g 19 dX0_run_9 (by decide) (by omega) (fun c9 => ?_) (fun c9 => ?_) | refine pb_if_eq g 19 dX0_run_9 (by decide) (fun c9 => ?_) (fun c9 => ?_)
      · exact absurd c9 (by decide)
      · refine pb_iload4 g dX0_run_12 ?_
        refine pb_bipush (v := nI 20) g dX0_run_14 (by decide) ?_
        first | refine pb_icmp_leN g 21 dX0_run_16 (by decide) (by omega) (by omega) (fun c16 => ?_) (fun c16 => ?_) | refine pb_icmp_le g 21 dX0_run_16 (by decide) (fun c16 => ?_) (fun c16 => ?_)
        · refine pb_aload_n0 g dX0_run_21 ?_
          refine pb_iload5 g dX0_run_22 ?_
          refine pb_Vv1 g qX0_40 dX0_run_24 (k + d) (by omega) dr_ac (x_note (k + d) (ra := ra) (b := 11) (by omega)) (fun h24 e24 => ?_)
          subst e24
          refine pb_iload4 g dX0_run_27 ?_
          refine pb_iconst (v := nI 1) g dX0_run_29 (by decide) ?_
          first | refine pb_iaddN g dX0_run_30 ?_ | refine pb_iadd g dX0_run_30 ?_
          refine pb_istore6 g dX0_run_31 (by decide) ?_
          refine pb_iload5 g dX0_run_33 ?_
          refine pb_lsw g 123 dX0_run_35 (by decide) rfl (by decide) ?_
          refine pb_aload_n0 g dX0_run_123 ?_
          refine pb_aload_n0 g dX0_run_124 ?_
          refine pb_getf g fX0_19 dX0_run_125 dr_ac rfl ?_
          refine pb_iconst (v := nI 0) g dX0_run_128 (by decide) ?_
          refine pb_iload_n3 g dX0_run_129 ?_
          refine pb_iload6 g dX0_run_130 ?_
          refine pb_Vi4 g qX0_32 dX0_run_132 (k + d) (by omega) dr_ac (ih K 0 (dep + 1) (ra + 1) x _ (by omega) (by omega) hok (by omega) (by omega)) (fun r132 h132 e132 => ?_)
          obtain ⟨rfl, rfl⟩ := e132
          refine pb_aload_n0 g dX0_run_135 ?_
          refine pb_getf g fX0_25 dX0_run_136 dr_ac rfl ?_
          refine pb_imul g dX0_run_139 ?_
          refine pb_iret g z dX0_run_140 ?_
          refine ⟨_, rfl, rfl, ?_⟩
          dsimp only [List.length_cons]
          rw [nts, show ra + ((acR K m hh d K 0 x).2.length + 1) = ra + 1 + (acR K m hh d K 0 x).2.length by omega]
        · exact absurd c16 (by omega)
    · rw [if_neg (show ¬ bdy a t = 10 by omega), if_neg (show ¬ bdy a t = 11 by omega), if_pos e] at hok hlen z
      obtain ⟨ok1, ok2⟩ := (Bool.and_eq_true _ _).mp hok
      have hlen : ra + ((acR K m hh d K 1 x).2.length + (acR K m hh d K 0 (x + nI 1)).2.length + 1) ≤ 1000 := by simpa using hlen
      refine pb_iload_n1 g dX0_run_0 ?_
      refine pb_iload_n2 g dX0_run_1 ?_
      refine pb_Si2 g qX0_36 dX0_run_2 (k + d) (by omega) (c_bodyOf (k + d) a t ha ht _) (fun r2 h2 e2 => ?_)
      obtain ⟨rfl, rfl⟩ := e2
      rw [e]
      refine pb_istore5 g dX0_run_5 (by decide) ?_
      refine pb_iload5 g dX0_run_7 ?_
      first | refine pb_if_eqN g 19 dX0_run_9 (by decide) (by omega) (fun c9 => ?_) (fun c9 => ?_) | refine pb_if_eq g 19 dX0_run_9 (by decide) (fun c9 => ?_) (fun c9 => ?_)
      · exact absurd c9 (by decide)
      · refine pb_iload4 g dX0_run_12 ?_
        refine pb_bipush (v := nI 20) g dX0_run_14 (by decide) ?_
        first | refine pb_icmp_leN g 21 dX0_run_16 (by decide) (by omega) (by omega) (fun c16 => ?_) (fun c16 => ?_) | refine pb_icmp_le g 21 dX0_run_16 (by decide) (fun c16 => ?_) (fun c16 => ?_)
        · refine pb_aload_n0 g dX0_run_21 ?_
          refine pb_iload5 g dX0_run_22 ?_
          refine pb_Vv1 g qX0_40 dX0_run_24 (k + d) (by omega) dr_ac (x_note (k + d) (ra := ra) (b := 12) (by omega)) (fun h24 e24 => ?_)
          subst e24
          refine pb_iload4 g dX0_run_27 ?_
          refine pb_iconst (v := nI 1) g dX0_run_29 (by decide) ?_
          first | refine pb_iaddN g dX0_run_30 ?_ | refine pb_iadd g dX0_run_30 ?_
          refine pb_istore6 g dX0_run_31 (by decide) ?_
          refine pb_iload5 g dX0_run_33 ?_
          refine pb_lsw g 141 dX0_run_35 (by decide) rfl (by decide) ?_
          refine pb_aload_n0 g dX0_run_141 ?_
          refine pb_aload_n0 g dX0_run_142 ?_
          refine pb_getf g fX0_19 dX0_run_143 dr_ac rfl ?_
          refine pb_iconst (v := nI 1) g dX0_run_146 (by decide) ?_
          refine pb_iload_n3 g dX0_run_147 ?_
          refine pb_iload6 g dX0_run_148 ?_
          refine pb_Vi4 g qX0_32 dX0_run_150 (k + d) (by omega) dr_ac (ih K 1 (dep + 1) (ra + 1) x _ (by omega) (by omega) ok1 (by omega) (by omega)) (fun r150 h150 e150 => ?_)
          obtain ⟨rfl, rfl⟩ := e150
          refine pb_aload_n0 g dX0_run_153 ?_
          refine pb_aload_n0 g dX0_run_154 ?_
          refine pb_getf g fX0_19 dX0_run_155 dr_ac rfl ?_
          refine pb_iconst (v := nI 0) g dX0_run_158 (by decide) ?_
          refine pb_iload_n3 g dX0_run_159 ?_
          refine pb_iconst (v := nI 1) g dX0_run_160 (by decide) ?_
          refine pb_iadd g dX0_run_161 ?_
          refine pb_iload6 g dX0_run_162 ?_
          refine pb_Vi4 g qX0_32 dX0_run_164 (k + d) (by omega) dr_ac (ih K 0 (dep + 1) (ra + 1 + (acR K m hh d K 1 x).2.length) (x + nI 1) _ (by omega) (by omega) ok2 (by omega) (by omega)) (fun r164 h164 e164 => ?_)
          obtain ⟨rfl, rfl⟩ := e164
          refine pb_ixor g dX0_run_167 ?_
          refine pb_iret g z dX0_run_168 ?_
          refine ⟨_, rfl, rfl, ?_⟩
          dsimp only [List.length_cons]
          rw [nts, nts_app, List.length_append, show ra + ((acR K m hh d K 1 x).2.length + (acR K m hh d K 0 (x + nI 1)).2.length + 1) = ra + 1 + (acR K m hh d K 1 x).2.length + (acR K m hh d K 0 (x + nI 1)).2.length by omega]
        · exact absurd c16 (by omega)
    · rw [if_neg (show ¬ bdy a t = 10 by omega), if_neg (show ¬ bdy a t = 11 by omega), if_neg (show ¬ bdy a t = 12 by omega), if_pos e] at hok hlen z
      have hlen : ra + (acR K m hh d 0 1 x).2.length + 1 ≤ 1000 := by simpa [Nat.add_assoc] using hlen
      refine pb_iload_n1 g dX0_run_0 ?_
      refine pb_iload_n2 g dX0_run_1 ?_
      refine pb_Si2 g qX0_36 dX0_run_2 (k + d) (by omega) (c_bodyOf (k + d) a t ha ht _) (fun r2 h2 e2 => ?_)
      obtain ⟨rfl, rfl⟩ := e2
      rw [e]
      refine pb_istore5 g dX0_run_5 (by decide) ?_
      refine pb_iload5 g dX0_run_7 ?_
      first | refine pb_if_eqN g 19 dX0_run_9 (by decide) (by omega) (fun c9 => ?_) (fun c9 => ?_) | refine pb_if_eq g 19 dX0_run_9 (by decide) (fun c9 => ?_) (fun c9 => ?_)
      · exact absurd c9 (by decide)
      · refine pb_iload4 g dX0_run_12 ?_
        refine pb_bipush (v := nI 20) g dX0_run_14 (by decide) ?_
        first | refine pb_icmp_leN g 21 dX0_run_16 (by decide) (by omega) (by omega) (fun c16 => ?_) (fun c16 => ?_) | refine pb_icmp_le g 21 dX0_run_16 (by decide) (fun c16 => ?_) (fun c16 => ?_)
        · refine pb_aload_n0 g dX0_run_21 ?_
          refine pb_iload5 g dX0_run_22 ?_
          refine pb_Vv1 g qX0_40 dX0_run_24 (k + d) (by omega) dr_ac (x_note (k + d) (ra := ra) (b := 20) (by omega)) (fun h24 e24 => ?_)
          subst e24
          refine pb_iload4 g dX0_run_27 ?_
          refine pb_iconst (v := nI 1) g dX0_run_29 (by decide) ?_
          first | refine pb_iaddN g dX0_run_30 ?_ | refine pb_iadd g dX0_run_30 ?_
          refine pb_istore6 g dX0_run_31 (by decide) ?_
          refine pb_iload5 g dX0_run_33 ?_
          refine pb_lsw g 169 dX0_run_35 (by decide) rfl (by decide) ?_
          refine pb_aload_n0 g dX0_run_169 ?_
          refine pb_gets g sX0_44 dX0_run_170 ?_
          refine pb_iconst (v := nI 1) g dX0_run_173 (by decide) ?_
          first | refine pb_ialdN g dX0_run_174 (by first | exact dr_pk (by omega) | exact dr_fr (by omega) | exact dr_it (by omega) | exact dr_kt | exact dr_bf | exact dr_pl | exact dr_lr | exact dr_nh | exact dr_lc | exact dr_bl | assumption) (by omega) (by omega) ?_ | refine pb_ald0 g dX0_run_174 (by omega) ?_ | refine pb_ald1 g dX0_run_174 (by omega) ?_ | refine pb_ald2 g dX0_run_174 (by omega) ?_ | refine pb_ald3 g dX0_run_174 (by omega) ?_ | refine pb_iald g dX0_run_174 (by first | exact dr_pk (by omega) | exact dr_fr (by omega) | exact dr_it (by omega) | exact dr_kt | exact dr_bf | exact dr_pl | exact dr_lr | exact dr_nh | exact dr_lc | exact dr_bl | assumption) (by assumption) ?_
          rw [show (psV 2).getD 1 0 = nI 0 by decide]
          refine pb_iconst (v := nI 1) g dX0_run_175 (by decide) ?_
          refine pb_iload_n3 g dX0_run_176 ?_
          refine pb_iload6 g dX0_run_177 ?_
          refine pb_Vi4 g qX0_32 dX0_run_179 (k + d) (by omega) dr_ac (ih 0 1 (dep + 1) (ra + 1) x _ (by omega) (by omega) hok (by omega) (by omega)) (fun r179 h179 e179 => ?_)
          obtain ⟨rfl, rfl⟩ := e179
          refine pb_iconst (v := nI 1) g dX0_run_182 (by decide) ?_
          refine pb_iadd g dX0_run_183 ?_
          refine pb_iret g z dX0_run_184 ?_
          refine ⟨_, rfl, rfl, ?_⟩
          dsimp only [List.length_cons]
          rw [nts, show ra + ((acR K m hh d 0 1 x).2.length + 1) = ra + 1 + (acR K m hh d 0 1 x).2.length by omega]
        · exact absurd c16 (by omega)
    · rw [if_neg (show ¬ bdy a t = 10 by omega), if_neg (show ¬ bdy a t = 11 by omega), if_neg (show ¬ bdy a t = 12 by omega), if_neg (show ¬ bdy a t = 20 by omega), if_pos e] at hok hlen z
      have hlen : ra + (acR K m hh d 0 0 x).2.length + 1 ≤ 1000 := by simpa [Nat.add_assoc] using hlen
      refine pb_iload_n1 g dX0_run_0 ?_
      refine pb_iload_n2 g dX0_run_1 ?_
      refine pb_Si2 g qX0_36 dX0_run_2 (k + d) (by omega) (c_bodyOf (k + d) a t ha ht _) (fun r2 h2 e2 => ?_)
      obtain ⟨rfl, rfl⟩ := e2
      rw [e]
      refine pb_istore5 g dX0_run_5 (by decide) ?_
      refine pb_iload5 g dX0_run_7 ?_
      first | refine pb_if_eqN g 19 dX0_run_9 (by decide) (by omega) (fun c9 => ?_) (fun c9 => ?_) | refine pb_if_eq g 19 dX0_run_9 (by decide) (fun c9 => ?_) (fun c9 => ?_)
      · exact absurd c9 (by decide)
      · refine pb_iload4 g dX0_run_12 ?_
        refine pb_bipush (v := nI 20) g dX0_run_14 (by decide) ?_
        first | refine pb_icmp_leN g 21 dX0_run_16 (by decide) (by omega) (by omega) (fun c16 => ?_) (fun c16 => ?_) | refine pb_icmp_le g 21 dX0_run_16 (by decide) (fun c16 => ?_) (fun c16 => ?_)
        · refine pb_aload_n0 g dX0_run_21 ?_
          refine pb_iload5 g dX0_run_22 ?_
          refine pb_Vv1 g qX0_40 dX0_run_24 (k + d) (by omega) dr_ac (x_note (k + d) (ra := ra) (b := 30) (by omega)) (fun h24 e24 => ?_)
          subst e24
          refine pb_iload4 g dX0_run_27 ?_
          refine pb_iconst (v := nI 1) g dX0_run_29 (by decide) ?_
          first | refine pb_iaddN g dX0_run_30 ?_ | refine pb_iadd g dX0_run_30 ?_
          refine pb_istore6 g dX0_run_31 (by decide) ?_
          refine pb_iload5 g dX0_run_33 ?_
          refine pb_lsw g 185 dX0_run_35 (by decide) rfl (by decide) ?_
          refine pb_aload_n0 g dX0_run_185 ?_
          refine pb_gets g sX0_44 dX0_run_186 ?_
          refine pb_iconst (v := nI 2) g dX0_run_189 (by decide) ?_
          first | refine pb_ialdN g dX0_run_190 (by first | exact dr_pk (by omega) | exact dr_fr (by omega) | exact dr_it (by omega) | exact dr_kt | exact dr_bf | exact dr_pl | exact dr_lr | exact dr_nh | exact dr_lc | exact dr_bl | assumption) (by omega) (by omega) ?_ | refine pb_ald0 g dX0_run_190 (by omega) ?_ | refine pb_ald1 g dX0_run_190 (by omega) ?_ | refine pb_ald2 g dX0_run_190 (by omega) ?_ | refine pb_ald3 g dX0_run_190 (by omega) ?_ | refine pb_iald g dX0_run_190 (by first | exact dr_pk (by omega) | exact dr_fr (by omega) | exact dr_it (by omega) | exact dr_kt | exact dr_bf | exact dr_pl | exact dr_lr | exact dr_nh | exact dr_lc | exact dr_bl | assumption) (by assumption) ?_
          rw [show (psV 2).getD 2 0 = nI 0 by decide]
          refine pb_iconst (v := nI 0) g dX0_run_191 (by decide) ?_
          refine pb_iload_n3 g dX0_run_192 ?_
          refine pb_iload6 g dX0_run_193 ?_
          refine pb_Vi4 g qX0_32 dX0_run_195 (k + d) (by omega) dr_ac (ih 0 0 (dep + 1) (ra + 1) x _ (by omega) (by omega) hok (by omega) (by omega)) (fun r195 h195 e195 => ?_)
          obtain ⟨rfl, rfl⟩ := e195
          refine pb_aload_n0 g dX0_run_198 ?_
          refine pb_getf g fX0_25 dX0_run_199 dr_ac rfl ?_
          refine pb_isub g dX0_run_202 ?_
          refine pb_iret g z dX0_run_203 ?_
          refine ⟨_, rfl, rfl, ?_⟩
          dsimp only [List.length_cons]
          rw [nts, show ra + ((acR K m hh d 0 0 x).2.length + 1) = ra + 1 + (acR K m hh d 0 0 x).2.length by omega]
        · exact absurd c16 (by omega)
    · rw [if_neg (show ¬ bdy a t = 10 by omega), if_neg (show ¬ bdy a t = 11 by omega), if_neg (show ¬ bdy a t = 12 by omega), if_neg (show ¬ bdy a t = 20 by omega), if_neg (show ¬ bdy a t = 30 by omega), if_pos e] at hok hlen z
      have hlen : ra + (acR K m hh d 0 2 x).2.length + 1 ≤ 1000 := by simpa [Nat.add_assoc] using hlen
      refine pb_iload_n1 g dX0_run_0 ?_
      refine pb_iload_n2 g dX0_run_1 ?_
      refine pb_Si2 g qX0_36 dX0_run_2 (k + d) (by omega) (c_bodyOf (k + d) a t ha ht _) (fun r2 h2 e2 => ?_)
      obtain ⟨rfl, rfl⟩ := e2
      rw [e]
      refine pb_istore5 g dX0_run_5 (by decide) ?_
      refine pb_iload5 g dX0_run_7 ?_
      first | refine pb_if_eqN g 19 dX0_run_9 (by decide) (by omega) (fun c9 => ?_) (fun c9 => ?_) | refine pb_if_eq g 19 dX0_run_9 (by decide) (fun c9 => ?_) (fun c9 => ?_)
      · exact absurd c9 (by decide)
      · refine pb_iload4 g dX0_run_12 ?_
        refine pb_bipush (v := nI 20) g dX0_run_14 (by decide) ?_
        first | refine pb_icmp_leN g 21 dX0_run_16 (by decide) (by omega) (by omega) (fun c16 => ?_) (fun c16 => ?_) | refine pb_icmp_le g 21 dX0_run_16 (by decide) (fun c16 => ?_) (fun c16 => ?_)
        · refine pb_aload_n0 g dX0_run_21 ?_
          refine pb_iload5 g dX0_run_22 ?_
          refine pb_Vv1 g qX0_40 dX0_run_24 (k + d) (by omega) dr_ac (x_note (k + d) (ra := ra) (b := 31) (by omega)) (fun h24 e24 => ?_)
          subst e24
          refine pb_iload4 g dX0_run_27 ?_
          refine pb_iconst (v := nI 1) g dX0_run_29 (by decide) ?_
          first | refine pb_iaddN g dX0_run_30 ?_ | refine pb_iadd g dX0_run_30 ?_
          refine pb_istore6 g dX0_run_31 (by decide) ?_
          refine pb_iload5 g dX0_run_33 ?_
          refine pb_lsw g 204 dX0_run_35 (by decide) rfl (by decide) ?_
          refine pb_aload_n0 g dX0_run_204 ?_
          refine pb_gets g sX0_44 dX0_run_205 ?_
          refine pb_iconst (v := nI 2) g dX0_run_208 (by decide) ?_
          first | refine pb_ialdN g dX0_run_209 (by first | exact dr_pk (by omega) | exact dr_fr (by omega) | exact dr_it (by omega) | exact dr_kt | exact dr_bf | exact dr_pl | exact dr_lr | exact dr_nh | exact dr_lc | exact dr_bl | assumption) (by omega) (by omega) ?_ | refine pb_ald0 g dX0_run_209 (by omega) ?_ | refine pb_ald1 g dX0_run_209 (by omega) ?_ | refine pb_ald2 g dX0_run_209 (by omega) ?_ | refine pb_ald3 g dX0_run_209 (by omega) ?_ | refine pb_iald g dX0_run_209 (by first | exact dr_pk (by omega) | exact dr_fr (by omega) | exact dr_it (by omega) | exact dr_kt | exact dr_bf | exact dr_pl | exact dr_lr | exact dr_nh | exact dr_lc | exact dr_bl | assumption) (by assumption) ?_
          rw [show (psV 2).getD 2 0 = nI 0 by decide]
          refine pb_iconst (v := nI 2) g dX0_run_210 (by decide) ?_
          refine pb_iload_n3 g dX0_run_211 ?_
          refine pb_iload6 g dX0_run_212 ?_
          refine pb_Vi4 g qX0_32 dX0_run_214 (k + d) (by omega) dr_ac (ih 0 2 (dep + 1) (ra + 1) x _ (by omega) (by omega) hok (by omega) (by omega)) (fun r214 h214 e214 => ?_)
          obtain ⟨rfl, rfl⟩ := e214
          refine pb_iconst (v := nI 2) g dX0_run_217 (by decide) ?_
          refine pb_imul g dX0_run_218 ?_
          refine pb_iret g z dX0_run_219 ?_
          refine ⟨_, rfl, rfl, ?_⟩
          dsimp only [List.length_cons]
          rw [nts, show ra + ((acR K m hh d 0 2 x).2.length + 1) = ra + 1 + (acR K m hh d 0 2 x).2.length by omega]
        · exact absurd c16 (by omega)
    · rw [if_neg (show ¬ bdy a t = 10 by omega), if_neg (show ¬ bdy a t = 11 by omega), if_neg (show ¬ bdy a t = 12 by omega), if_neg (show ¬ bdy a t = 20 by omega), if_neg (show ¬ bdy a t = 30 by omega), if_neg (show ¬ bdy a t = 31 by omega), if_pos e] at hok hlen z
      obtain ⟨ok1, ok2⟩ := (Bool.and_eq_true _ _).mp hok
      have hlen : ra + ((acR K m hh d 2 1 x).2.length + (acR K m hh d 2 0 x).2.length + 1) ≤ 1000 := by simpa using hlen
      refine pb_iload_n1 g dX0_run_0 ?_
      refine pb_iload_n2 g dX0_run_1 ?_
      refine pb_Si2 g qX0_36 dX0_run_2 (k + d) (by omega) (c_bodyOf (k + d) a t ha ht _) (fun r2 h2 e2 => ?_)
      obtain ⟨rfl, rfl⟩ := e2
      rw [e]
      refine pb_istore5 g dX0_run_5 (by decide) ?_
      refine pb_iload5 g dX0_run_7 ?_
      first | refine pb_if_eqN g 19 dX0_run_9 (by decide) (by omega) (fun c9 => ?_) (fun c9 => ?_) | refine pb_if_eq g 19 dX0_run_9 (by decide) (fun c9 => ?_) (fun c9 => ?_)
      · exact absurd c9 (by decide)
      · refine pb_iload4 g dX0_run_12 ?_
        refine pb_bipush (v := nI 20) g dX0_run_14 (by decide) ?_
        first | refine pb_icmp_leN g 21 dX0_run_16 (by decide) (by omega) (by omega) (fun c16 => ?_) (fun c16 => ?_) | refine pb_icmp_le g 21 dX0_run_16 (by decide) (fun c16 => ?_) (fun c16 => ?_)
        · refine pb_aload_n0 g dX0_run_21 ?_
          refine pb_iload5 g dX0_run_22 ?_
          refine pb_Vv1 g qX0_40 dX0_run_24 (k + d) (by omega) dr_ac (x_note (k + d) (ra := ra) (b := 40) (by omega)) (fun h24 e24 => ?_)
          subst e24
          refine pb_iload4 g dX0_run_27 ?_
          refine pb_iconst (v := nI 1) g dX0_run_29 (by decide) ?_
          first | refine pb_iaddN g dX0_run_30 ?_ | refine pb_iadd g dX0_run_30 ?_
          refine pb_istore6 g dX0_run_31 (by decide) ?_
          refine pb_iload5 g dX0_run_33 ?_
          refine pb_lsw g 220 dX0_run_35 (by decide) rfl (by decide) ?_
          refine pb_aload_n0 g dX0_run_220 ?_
          refine pb_gets g sX0_44 dX0_run_221 ?_
          refine pb_iconst (v := nI 3) g dX0_run_224 (by decide) ?_
          first | refine pb_ialdN g dX0_run_225 (by first | exact dr_pk (by omega) | exact dr_fr (by omega) | exact dr_it (by omega) | exact dr_kt | exact dr_bf | exact dr_pl | exact dr_lr | exact dr_nh | exact dr_lc | exact dr_bl | assumption) (by omega) (by omega) ?_ | refine pb_ald0 g dX0_run_225 (by omega) ?_ | refine pb_ald1 g dX0_run_225 (by omega) ?_ | refine pb_ald2 g dX0_run_225 (by omega) ?_ | refine pb_ald3 g dX0_run_225 (by omega) ?_ | refine pb_iald g dX0_run_225 (by first | exact dr_pk (by omega) | exact dr_fr (by omega) | exact dr_it (by omega) | exact dr_kt | exact dr_bf | exact dr_pl | exact dr_lr | exact dr_nh | exact dr_lc | exact dr_bl | assumption) (by assumption) ?_
          rw [show (psV 2).getD 3 0 = nI 2 by decide]
          refine pb_iconst (v := nI 1) g dX0_run_226 (by decide) ?_
          refine pb_iload_n3 g dX0_run_227 ?_
          refine pb_iload6 g dX0_run_228 ?_
          refine pb_Vi4 g qX0_32 dX0_run_230 (k + d) (by omega) dr_ac (ih 2 1 (dep + 1) (ra + 1) x _ (by omega) (by omega) ok1 (by omega) (by omega)) (fun r230 h230 e230 => ?_)
          obtain ⟨rfl, rfl⟩ := e230
          refine pb_aload_n0 g dX0_run_233 ?_
          refine pb_gets g sX0_44 dX0_run_234 ?_
          refine pb_iconst (v := nI 3) g dX0_run_237 (by decide) ?_
          first | refine pb_ialdN g dX0_run_238 (by first | exact dr_pk (by omega) | exact dr_fr (by omega) | exact dr_it (by omega) | exact dr_kt | exact dr_bf | exact dr_pl | exact dr_lr | exact dr_nh | exact dr_lc | exact dr_bl | assumption) (by omega) (by omega) ?_ | refine pb_ald0 g dX0_run_238 (by omega) ?_ | refine pb_ald1 g dX0_run_238 (by omega) ?_ | refine pb_ald2 g dX0_run_238 (by omega) ?_ | refine pb_ald3 g dX0_run_238 (by omega) ?_ | refine pb_iald g dX0_run_238 (by first | exact dr_pk (by omega) | exact dr_fr (by omega) | exact dr_it (by omega) | exact dr_kt | exact dr_bf | exact dr_pl | exact dr_lr | exact dr_nh | exact dr_lc | exact dr_bl | assumption) (by assumption) ?_
          rw [show (psV 2).getD 3 0 = nI 2 by decide]
          refine pb_iconst (v := nI 0) g dX0_run_239 (by decide) ?_
          refine pb_iload_n3 g dX0_run_240 ?_
          refine pb_iload6 g dX0_run_241 ?_
          refine pb_Vi4 g qX0_32 dX0_run_243 (k + d) (by omega) dr_ac (ih 2 0 (dep + 1) (ra + 1 + (acR K m hh d 2 1 x).2.length) x _ (by omega) (by omega) ok2 (by omega) (by omega)) (fun r243 h243 e243 => ?_)
          obtain ⟨rfl, rfl⟩ := e243
          refine pb_iadd g dX0_run_246 ?_
          refine pb_iret g z dX0_run_247 ?_
          refine ⟨_, rfl, rfl, ?_⟩
          dsimp only [List.length_cons]
          rw [nts, nts_app, List.length_append, show ra + ((acR K m hh d 2 1 x).2.length + (acR K m hh d 2 0 x).2.length + 1) = ra + 1 + (acR K m hh d 2 1 x).2.length + (acR K m hh d 2 0 x).2.length by omega]
        · exact absurd c16 (by omega)
    · rw [if_neg (show ¬ bdy a t = 10 by omega), if_neg (show ¬ bdy a t = 11 by omega), if_neg (show ¬ bdy a t = 12 by omega), if_neg (show ¬ bdy a t = 20 by omega), if_neg (show ¬ bdy a t = 30 by omega), if_neg (show ¬ bdy a t = 31 by omega), if_neg (show ¬ bdy a t = 40 by omega), if_pos e] at hok hlen z
      have hlen : ra + (acR K m hh d 3 0 (x * nI 3)).2.length + 1 ≤ 1000 := by simpa [Nat.add_assoc] using hlen
      refine pb_iload_n1 g dX0_run_0 ?_
      refine pb_iload_n2 g dX0_run_1 ?_
      refine pb_Si2 g qX0_36 dX0_run_2 (k + d) (by omega) (c_bodyOf (k + d) a t ha ht _) (fun r2 h2 e2 => ?_)
      obtain ⟨rfl, rfl⟩ := e2
      rw [e]
      refine pb_istore5 g dX0_run_5 (by decide) ?_
      refine pb_iload5 g dX0_run_7 ?_
      first | refine pb_if_eqN g 19 dX0_run_9 (by decide) (by omega) (fun c9 => ?_) (fun c9 => ?_) | refine pb_if_eq g 19 dX0_run_9 (by decide) (fun c9 => ?_) (fun c9 => ?_)
      · exact absurd c9 (by decide)
      · refine pb_iload4 g dX0_run_12 ?_
        refine pb_bipush (v := nI 20) g dX0_run_14 (by decide) ?_
        first | refine pb_icmp_leN g 21 dX0_run_16 (by decide) (by omega) (by omega) (fun c16 => ?_) (fun c16 => ?_) | refine pb_icmp_le g 21 dX0_run_16 (by decide) (fun c16 => ?_) (fun c16 => ?_)
        · refine pb_aload_n0 g dX0_run_21 ?_
          refine pb_iload5 g dX0_run_22 ?_
          refine pb_Vv1 g qX0_40 dX0_run_24 (k + d) (by omega) dr_ac (x_note (k + d) (ra := ra) (b := 50) (by omega)) (fun h24 e24 => ?_)
          subst e24
          refine pb_iload4 g dX0_run_27 ?_
          refine pb_iconst (v := nI 1) g dX0_run_29 (by decide) ?_
          first | refine pb_iaddN g dX0_run_30 ?_ | refine pb_iadd g dX0_run_30 ?_
          refine pb_istore6 g dX0_run_31 (by decide) ?_
          refine pb_iload5 g dX0_run_33 ?_
          refine pb_lsw g 248 dX0_run_35 (by decide) rfl (by decide) ?_
          refine pb_aload_n0 g dX0_run_248 ?_
          refine pb_gets g sX0_44 dX0_run_249 ?_
          refine pb_iconst (v := nI 4) g dX0_run_252 (by decide) ?_
          first | refine pb_ialdN g dX0_run_253 (by first | exact dr_pk (by omega) | exact dr_fr (by omega) | exact dr_it (by omega) | exact dr_kt | exact dr_bf | exact dr_pl | exact dr_lr | exact dr_nh | exact dr_lc | exact dr_bl | assumption) (by omega) (by omega) ?_ | refine pb_ald0 g dX0_run_253 (by omega) ?_ | refine pb_ald1 g dX0_run_253 (by omega) ?_ | refine pb_ald2 g dX0_run_253 (by omega) ?_ | refine pb_ald3 g dX0_run_253 (by omega) ?_ | refine pb_iald g dX0_run_253 (by first | exact dr_pk (by omega) | exact dr_fr (by omega) | exact dr_it (by omega) | exact dr_kt | exact dr_bf | exact dr_pl | exact dr_lr | exact dr_nh | exact dr_lc | exact dr_bl | assumption) (by assumption) ?_
          rw [show (psV 2).getD 4 0 = nI 3 by decide]
          refine pb_iconst (v := nI 0) g dX0_run_254 (by decide) ?_
          refine pb_iload_n3 g dX0_run_255 ?_
          refine pb_iconst (v := nI 3) g dX0_run_256 (by decide) ?_
          refine pb_imul g dX0_run_257 ?_
          refine pb_iload6 g dX0_run_258 ?_
          refine pb_Vi4 g qX0_32 dX0_run_260 (k + d) (by omega) dr_ac (ih 3 0 (dep + 1) (ra + 1) (x * nI 3) _ (by omega) (by omega) hok (by omega) (by omega)) (fun r260 h260 e260 => ?_)
          obtain ⟨rfl, rfl⟩ := e260
          refine pb_iret g z dX0_run_263 ?_
          refine ⟨_, rfl, rfl, ?_⟩
          dsimp only [List.length_cons]
          rw [nts, show ra + ((acR K m hh d 3 0 (x * nI 3)).2.length + 1) = ra + 1 + (acR K m hh d 3 0 (x * nI 3)).2.length by omega]
        · exact absurd c16 (by omega)
    · rw [if_neg (show ¬ bdy a t = 10 by omega), if_neg (show ¬ bdy a t = 11 by omega), if_neg (show ¬ bdy a t = 12 by omega), if_neg (show ¬ bdy a t = 20 by omega), if_neg (show ¬ bdy a t = 30 by omega), if_neg (show ¬ bdy a t = 31 by omega), if_neg (show ¬ bdy a t = 40 by omega), if_neg (show ¬ bdy a t = 50 by omega)] at hok hlen z
      obtain ⟨ok1, ok2⟩ := (Bool.and_eq_true _ _).mp hok
      have hlen : ra + ((acR K m hh d K 1 x).2.length + (acR K m hh d 3 2 x).2.length + 1) ≤ 1000 := by simpa using hlen
      refine pb_iload_n1 g dX0_run_0 ?_
      refine pb_iload_n2 g dX0_run_1 ?_
      refine pb_Si2 g qX0_36 dX0_run_2 (k + d) (by omega) (c_bodyOf (k + d) a t ha ht _) (fun r2 h2 e2 => ?_)
      obtain ⟨rfl, rfl⟩ := e2
      rw [e]
      refine pb_istore5 g dX0_run_5 (by decide) ?_
      refine pb_iload5 g dX0_run_7 ?_
      first | refine pb_if_eqN g 19 dX0_run_9 (by decide) (by omega) (fun c9 => ?_) (fun c9 => ?_) | refine pb_if_eq g 19 dX0_run_9 (by decide) (fun c9 => ?_) (fun c9 => ?_)
      · exact absurd c9 (by decide)
      · refine pb_iload4 g dX0_run_12 ?_
        refine pb_bipush (v := nI 20) g dX0_run_14 (by decide) ?_
        first | refine pb_icmp_leN g 21 dX0_run_16 (by decide) (by omega) (by omega) (fun c16 => ?_) (fun c16 => ?_) | refine pb_icmp_le g 21 dX0_run_16 (by decide) (fun c16 => ?_) (fun c16 => ?_)
        · refine pb_aload_n0 g dX0_run_21 ?_
          refine pb_iload5 g dX0_run_22 ?_
          refine pb_Vv1 g qX0_40 dX0_run_24 (k + d) (by omega) dr_ac (x_note (k + d) (ra := ra) (b := 51) (by omega)) (fun h24 e24 => ?_)
          subst e24
          refine pb_iload4 g dX0_run_27 ?_
          refine pb_iconst (v := nI 1) g dX0_run_29 (by decide) ?_
          first | refine pb_iaddN g dX0_run_30 ?_ | refine pb_iadd g dX0_run_30 ?_
          refine pb_istore6 g dX0_run_31 (by decide) ?_
          refine pb_iload5 g dX0_run_33 ?_
          refine pb_lsw g 264 dX0_run_35 (by decide) rfl (by decide) ?_
          refine pb_aload_n0 g dX0_run_264 ?_
          refine pb_aload_n0 g dX0_run_265 ?_
          refine pb_getf g fX0_19 dX0_run_266 dr_ac rfl ?_
          refine pb_iconst (v := nI 1) g dX0_run_269 (by decide) ?_
          refine pb_iload_n3 g dX0_run_270 ?_
          refine pb_iload6 g dX0_run_271 ?_
          refine pb_Vi4 g qX0_32 dX0_run_273 (k + d) (by omega) dr_ac (ih K 1 (dep + 1) (ra + 1) x _ (by omega) (by omega) ok1 (by omega) (by omega)) (fun r273 h273 e273 => ?_)
          obtain ⟨rfl, rfl⟩ := e273
          refine pb_aload_n0 g dX0_run_276 ?_
          refine pb_gets g sX0_44 dX0_run_277 ?_
          refine pb_iconst (v := nI 4) g dX0_run_280 (by decide) ?_
          first | refine pb_ialdN g dX0_run_281 (by first | exact dr_pk (by omega) | exact dr_fr (by omega) | exact dr_it (by omega) | exact dr_kt | exact dr_bf | exact dr_pl | exact dr_lr | exact dr_nh | exact dr_lc | exact dr_bl | assumption) (by omega) (by omega) ?_ | refine pb_ald0 g dX0_run_281 (by omega) ?_ | refine pb_ald1 g dX0_run_281 (by omega) ?_ | refine pb_ald2 g dX0_run_281 (by omega) ?_ | refine pb_ald3 g dX0_run_281 (by omega) ?_ | refine pb_iald g dX0_run_281 (by first | exact dr_pk (by omega) | exact dr_fr (by omega) | exact dr_it (by omega) | exact dr_kt | exact dr_bf | exact dr_pl | exact dr_lr | exact dr_nh | exact dr_lc | exact dr_bl | assumption) (by assumption) ?_
          rw [show (psV 2).getD 4 0 = nI 3 by decide]
          refine pb_iconst (v := nI 2) g dX0_run_282 (by decide) ?_
          refine pb_iload_n3 g dX0_run_283 ?_
          refine pb_iload6 g dX0_run_284 ?_
          refine pb_Vi4 g qX0_32 dX0_run_286 (k + d) (by omega) dr_ac (ih 3 2 (dep + 1) (ra + 1 + (acR K m hh d K 1 x).2.length) x _ (by omega) (by omega) ok2 (by omega) (by omega)) (fun r286 h286 e286 => ?_)
          obtain ⟨rfl, rfl⟩ := e286
          refine pb_isub g dX0_run_289 ?_
          refine pb_iret g z dX0_run_290 ?_
          refine ⟨_, rfl, rfl, ?_⟩
          dsimp only [List.length_cons]
          rw [nts, nts_app, List.length_append, show ra + ((acR K m hh d K 1 x).2.length + (acR K m hh d 3 2 x).2.length + 1) = ra + 1 + (acR K m hh d K 1 x).2.length + (acR K m hh d 3 2 x).2.length by omega]
        · exact absurd c16 (by omega)
set_option maxHeartbeats 4000000 in
set_option maxRecDepth 100000 in
theorem x_forget (k : Nat) {cd pc sc sd ar ak an ah : Int32} {pk fr it jk : Nat → Nat → Int32} {kd hp ts tz kt : Nat → Int32} {jl : Nat → Nat → Int64} : Runs yX0_forget cX0_forget 1 none (k) [.ref 44] (mkH 52 (dkF cd pc sc sd pk fr it kd hp ts tz ar ak an ah kt jk jl)) (fun oo h' => oo = none ∧ mkH 52 (dkF cd pc sc sd pk fr it kd hp ts tz (nI 0) ak an ah kt jk jl) = h') := by
  refine Runs.of (by decide) (Nat.le_of_ble_eq_true rfl) [some (.ref 44)] 0 rfl (fun Γ g z => ?_)
  refine pb_aload_n0 g dX0_forget_0 ?_
  refine pb_iconst (v := nI 0) g dX0_forget_1 (by decide) ?_
  refine pb_puti g wX0_15 dX0_forget_2 dr_ac (Nat.le_of_ble_eq_true rfl) ?_
  rw [ds_ar]
  refine pb_vret g z dX0_forget_5 ?_
  exact ⟨rfl, rfl⟩
set_option maxHeartbeats 4000000 in
set_option maxRecDepth 100000 in
theorem x_answer (k : Nat) {cd pc sc sd ak an ah : Int32} {pk fr it jk : Nat → Nat → Int32} {kd hp ts tz kt : Nat → Int32} {jl : Nat → Nat → Int64} {s K a t : Nat} {x : Int32} (hs : s < 10) (hk : kd s = nI K) (hh : hp s = nI a) (hK : K < 5) (ht : t < 3) : Runs yX0_answer cX0_answer 5 (some .int) (k + 10) [.ref 44, .ref (15 + s), .int (nI s), .int (nI t), .int x] (mkH 52 (dkF cd pc sc sd pk fr it kd hp ts tz (nI 0) ak an ah kt jk jl)) (fun o h' => ∃ r : Int32, o = some (.int r) ∧ r = (acR K (nI s) (nI a) 9 K t x).1 ∧ mkH 52 (dkF cd pc sc sd pk fr it kd hp ts tz (nI (acT K 9 K t).length) (nI K) (nI s) (nI a) (nts kt 0 (acT K 9 K t)) jk jl) = h') := by
  refine Runs.of (by decide) (Nat.le_of_ble_eq_true rfl) [some (.ref 44), some (.ref (15 + s)), some (.int (nI s)), some (.int (nI t)), some (.int x)] 0 rfl (fun Γ g z => ?_)
  obtain ⟨o1, o2⟩ := ac_top K hK t ht
  have eT := acR_T K (nI s) (nI a) 9 K t x
  have hr := fun pc sc sd cd pk fr it jk kd hp ts tz kt jl => x_run k K hK (cd := cd) (pc := pc) (sc := sc) (sd := sd) (pk := pk) (fr := fr) (it := it) (jk := jk) (kd := kd) (hp := hp) (ts := ts) (tz := tz) (jl := jl) (nI s) (nI a) 9 K t 0 0 x kt hK ht o1 (by omega) (by rw [eT]; omega)
  rw [eT, Nat.zero_add] at hr
  refine pb_aload_n0 g dX0_answer_0 ?_
  refine pb_aload_n1 g dX0_answer_1 ?_
  refine pb_getf g fX0_28 dX0_answer_2 (dr_sh (by omega)) rfl ?_
  rw [hk]
  refine pb_puti g wX0_19 dX0_answer_5 dr_ac (Nat.le_of_ble_eq_true rfl) ?_
  rw [ds_ak]
  refine pb_aload_n0 g dX0_answer_8 ?_
  refine pb_iload_n2 g dX0_answer_9 ?_
  refine pb_puti g wX0_22 dX0_answer_10 dr_ac (Nat.le_of_ble_eq_true rfl) ?_
  rw [ds_an]
  refine pb_aload_n0 g dX0_answer_13 ?_
  refine pb_aload_n1 g dX0_answer_14 ?_
  refine pb_getf g fX0_31 dX0_answer_15 (dr_sh (by omega)) rfl ?_
  rw [hh]
  refine pb_puti g wX0_25 dX0_answer_18 dr_ac (Nat.le_of_ble_eq_true rfl) ?_
  rw [ds_ah]
  refine pb_aload_n0 g dX0_answer_21 ?_
  refine pb_aload_n0 g dX0_answer_22 ?_
  refine pb_getf g fX0_19 dX0_answer_23 dr_ac rfl ?_
  refine pb_iload_n3 g dX0_answer_26 ?_
  refine pb_iload4 g dX0_answer_27 ?_
  refine pb_iconst (v := nI 0) g dX0_answer_29 (by decide) ?_
  refine pb_Vi4 g qX0_32 dX0_answer_30 (k + 9) (by omega) dr_ac (hr _ _ _ _ _ _ _ _ _ _ _ _ _ _) (fun r30 h30 e30 => ?_)
  obtain ⟨rfl, rfl⟩ := e30
  refine pb_iret g z dX0_answer_33 ?_
  exact ⟨_, rfl, rfl, rfl⟩
set_option maxHeartbeats 4000000 in
set_option maxRecDepth 100000 in
theorem x_act (k : Nat) (q : SP) (s t x : Int32) (h : PH) (hD : IsD q h) (hI : SI q) : Runs yX7_act cX7_act 4 (some .int) (k + 12) [.ref 0, .int s, .int t, .int x] h (fun o h' => ∃ r : Int32, o = some (.int r) ∧ r = (sAct q s t x).1 ∧ IsD ((sAct q s t x).2) h') := by
  obtain ⟨⟨n, P, S, sd⟩, ⟨σ, μ, K, Hh⟩, ⟨ts, zz, it⟩, ⟨ra, tr⟩⟩ := q
  obtain ⟨⟨hn1, hn, hP, hS⟩, hσ, hK, hz, hra⟩ := hI
  obtain ⟨pk, fr, itd, jk, kd, hp, kt, ak, an, ah, jl, rfl, d1, d2, d3, d4⟩ := hD
  refine Runs.of (by decide) (Nat.le_of_ble_eq_true rfl) [some (.ref 0), some (.int s), some (.int t), some (.int x)] 0 rfl (fun Γ g z => ?_)
  cases hs : ix s S with
  | none =>
    have e : sAct ((n, P, S, sd), (σ, μ, K, Hh), (ts, zz, it), (ra, tr)) s t x = (0, ((n, P, S, sd), (σ, μ, K, Hh), (ts, zz, it), (0, tr))) := by simp only [sAct, hs]
    have hsn := ix_none (by omega) hs
    refine pb_aload_n0 g dX7_act_0 ?_
    refine pb_getf g fX7_29 dX7_act_1 dr_o rfl ?_
    refine pb_Vv0 g qX7_257 dX7_act_4 (k + 11) (by omega) dr_ac (x_forget (k + 11)) (fun h4 e4 => ?_)
    subst e4
    refine pb_aload_n0 g dX7_act_7 ?_
    refine pb_iload_n1 g dX7_act_8 ?_
    refine pb_Vi1 g qX7_148 dX7_act_9 (k + 11) (by omega) dr_o (x_isShuffleF (k + 11) (by assumption) hS) (fun r9 h9 e9 => ?_)
    obtain ⟨rfl, rfl⟩ := e9
    first | refine pb_if_eqN g 24 dX7_act_12 (by decide) (by omega) (fun c12 => ?_) (fun c12 => ?_) | refine pb_if_eq g 24 dX7_act_12 (by decide) (fun c12 => ?_) (fun c12 => ?_)
    · refine pb_iconst (v := nI 0) g dX7_act_24 (by decide) ?_
      refine pb_iret g z dX7_act_25 ?_
      exact ⟨_, rfl, by rw [e]; rfl, by rw [e]; exact ⟨_, _, _, _, _, _, _, _, _, _, _, rfl, d1, d2, d3, fun i hi => absurd hi (by omega)⟩⟩
    · exact absurd c12 (by decide)
  | some s0 =>
    obtain ⟨hs0, rfl⟩ := ix_some (by omega) hs
    cases htx : ix t 3 with
    | none =>
      have e : sAct ((n, P, S, sd), (σ, μ, K, Hh), (ts, zz, it), (ra, tr)) (nI s0) t x = (0, ((n, P, S, sd), (σ, μ, K, Hh), (ts, zz, it), (0, tr))) := by simp only [sAct, hs, htx]
      have htn := inN_not (by decide) (ix_none (by decide) htx)
      refine pb_aload_n0 g dX7_act_0 ?_
      refine pb_getf g fX7_29 dX7_act_1 dr_o rfl ?_
      refine pb_Vv0 g qX7_257 dX7_act_4 (k + 11) (by omega) dr_ac (x_forget (k + 11)) (fun h4 e4 => ?_)
      subst e4
      refine pb_aload_n0 g dX7_act_7 ?_
      refine pb_iload_n1 g dX7_act_8 ?_
      refine pb_Vi1 g qX7_148 dX7_act_9 (k + 11) (by omega) dr_o (x_isShuffleT (k + 11) (by assumption) hS) (fun r9 h9 e9 => ?_)
      obtain ⟨rfl, rfl⟩ := e9
      first | refine pb_if_eqN g 24 dX7_act_12 (by decide) (by omega) (fun c12 => ?_) (fun c12 => ?_) | refine pb_if_eq g 24 dX7_act_12 (by decide) (fun c12 => ?_) (fun c12 => ?_)
      · exact absurd c12 (by decide)
      · refine pb_iload_n2 g dX7_act_15 ?_
        refine pb_if_lt g 24 dX7_act_16 (by decide) (fun c16 => ?_) (fun c16 => ?_)
        · refine pb_iconst (v := nI 0) g dX7_act_24 (by decide) ?_
          refine pb_iret g z dX7_act_25 ?_
          exact ⟨_, rfl, by rw [e]; rfl, by rw [e]; exact ⟨_, _, _, _, _, _, _, _, _, _, _, rfl, d1, d2, d3, fun i hi => absurd hi (by omega)⟩⟩
        · refine pb_iload_n2 g dX7_act_19 ?_
          refine pb_iconst (v := nI 3) g dX7_act_20 (by decide) ?_
          first | refine pb_icmp_ltN g 26 dX7_act_21 (by decide) (by omega) (by omega) (fun c21 => ?_) (fun c21 => ?_) | refine pb_icmp_lt g 26 dX7_act_21 (by decide) (fun c21 => ?_) (fun c21 => ?_)
          · exact absurd htn (fun q => q.elim c16 (fun w => absurd c21 (Int32.not_lt.mpr w)))
          · refine pb_iconst (v := nI 0) g dX7_act_24 (by decide) ?_
            refine pb_iret g z dX7_act_25 ?_
            exact ⟨_, rfl, by rw [e]; rfl, by rw [e]; exact ⟨_, _, _, _, _, _, _, _, _, _, _, rfl, d1, d2, d3, fun i hi => absurd hi (by omega)⟩⟩
    | some t0 =>
      obtain ⟨ht0, rfl⟩ := ix_some (by decide) htx
      have hKs := hK s0 hs0
      have e : sAct ((n, P, S, sd), (σ, μ, K, Hh), (ts, zz, it), (ra, tr)) (nI s0) (nI t0) x = ((acR (K s0) (nI s0) (nI (Hh s0)) 9 (K s0) t0 x).1, ((n, P, S, sd), (σ, μ, K, Hh), (ts, zz, it), ((acT (K s0) 9 (K s0) t0).length, fun i => nI ((acT (K s0) 9 (K s0) t0).getD i 0)))) := by simp only [sAct, hs, htx]
      refine pb_aload_n0 g dX7_act_0 ?_
      refine pb_getf g fX7_29 dX7_act_1 dr_o rfl ?_
      refine pb_Vv0 g qX7_257 dX7_act_4 (k + 11) (by omega) dr_ac (x_forget (k + 11)) (fun h4 e4 => ?_)
      subst e4
      refine pb_aload_n0 g dX7_act_7 ?_
      refine pb_iload_n1 g dX7_act_8 ?_
      refine pb_Vi1 g qX7_148 dX7_act_9 (k + 11) (by omega) dr_o (x_isShuffleT (k + 11) (by assumption) hS) (fun r9 h9 e9 => ?_)
      obtain ⟨rfl, rfl⟩ := e9
      first | refine pb_if_eqN g 24 dX7_act_12 (by decide) (by omega) (fun c12 => ?_) (fun c12 => ?_) | refine pb_if_eq g 24 dX7_act_12 (by decide) (fun c12 => ?_) (fun c12 => ?_)
      · exact absurd c12 (by decide)
      · refine pb_iload_n2 g dX7_act_15 ?_
        refine pb_if_ltN g 24 dX7_act_16 (by decide) (by omega) ?_
        refine pb_iload_n2 g dX7_act_19 ?_
        refine pb_iconst (v := nI 3) g dX7_act_20 (by decide) ?_
        first | refine pb_icmp_ltN g 26 dX7_act_21 (by decide) (by omega) (by omega) (fun c21 => ?_) (fun c21 => ?_) | refine pb_icmp_lt g 26 dX7_act_21 (by decide) (fun c21 => ?_) (fun c21 => ?_)
        · refine pb_aload_n0 g dX7_act_26 ?_
          refine pb_getf g fX7_29 dX7_act_27 dr_o rfl ?_
          refine pb_aload_n0 g dX7_act_30 ?_
          refine pb_getf g fX7_16 dX7_act_31 dr_o rfl ?_
          refine pb_iload_n1 g dX7_act_34 ?_
          refine pb_aaldN g dX7_act_35 dr_shs (by decide) (by omega) (by omega) (by rfl) ?_
          refine pb_iload_n1 g dX7_act_36 ?_
          refine pb_iload_n2 g dX7_act_37 ?_
          refine pb_iload_n3 g dX7_act_38 ?_
          refine pb_Vi4 g qX7_260 dX7_act_39 (k + 11) (by omega) dr_ac (x_answer (k + 1) (s := s0) (K := K s0) (a := Hh s0) (t := t0) (x := x) (by omega) (d2 s0 hs0).1 (d2 s0 hs0).2.1 hKs.1 ht0) (fun r39 h39 e39 => ?_)
          obtain ⟨rfl, rfl⟩ := e39
          refine pb_iret g z dX7_act_42 ?_
          exact ⟨_, rfl, by rw [e], by rw [e]; exact ⟨_, _, _, _, _, _, _, _, _, _, _, rfl, d1, d2, d3, fun i hi h40 => by
            have h9 := nts_at (acT (K s0) 9 (K s0) t0) kt 0 i (Nat.zero_le _) (by omega) h40
            rw [h9, Nat.sub_zero]⟩⟩
        · exact absurd c21 (by omega)
