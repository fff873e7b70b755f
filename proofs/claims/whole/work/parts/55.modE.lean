/-! ===== the reference: orders by rank, told orders, what a pack tells ===== -/
theorem bit_or (u c b : Nat) : (u ||| 2 ^ c) / 2 ^ b % 2 = if b = c then 1 else u / 2 ^ b % 2 := by
  have h1 : (u ||| 2 ^ c).testBit b = (u.testBit b || (2 ^ c).testBit b) := Nat.testBit_or ..
  rw [Nat.testBit_eq_decide_div_mod_eq, Nat.testBit_eq_decide_div_mod_eq] at h1
  by_cases e : b = c
  · subst e
    rw [if_pos rfl]
    rw [Nat.testBit_two_pow_self, Bool.or_true] at h1
    exact of_decide_eq_true h1
  · rw [if_neg e]
    rw [Nat.testBit_two_pow_of_ne (fun q => e q.symm), Bool.or_false] at h1
    have h2 := decide_eq_decide.mp h1
    omega
/-- the free numbers of d, from c on -/
def zc (u : Nat) : Nat → Nat → Nat
  | 0, _ => 0
  | d + 1, c => (if u / 2 ^ c % 2 = 0 then 1 else 0) + zc u d (c + 1)
theorem un_ok (u : Nat) : ∀ d c l, l < zc u d c → c ≤ unG u d c l ∧ unG u d c l < c + d ∧ u / 2 ^ (unG u d c l) % 2 = 0
  | 0, c, l, h => absurd h (Nat.not_lt_zero _)
  | d + 1, c, l, h => by
    rw [zc] at h
    rw [unG]
    by_cases hb : u / 2 ^ c % 2 = 0
    · rw [if_pos hb] at h ⊢
      by_cases hl : l = 0
      · rw [if_pos hl]
        exact ⟨Nat.le_refl _, by omega, hb⟩
      · rw [if_neg hl]
        obtain ⟨h1, h2, h3⟩ := un_ok u d (c + 1) (l - 1) (by omega)
        exact ⟨by omega, by omega, h3⟩
    · rw [if_neg hb] at h ⊢
      obtain ⟨h1, h2, h3⟩ := un_ok u d (c + 1) l (by omega)
      exact ⟨by omega, by omega, h3⟩
theorem zc_out (u b : Nat) : ∀ d c, b < c → zc (u ||| 2 ^ b) d c = zc u d c
  | 0, _, _ => rfl
  | d + 1, c, h => by rw [zc, zc, zc_out u b d (c + 1) (by omega), bit_or, if_neg (show ¬ c = b by omega)]
theorem zc_or (u b : Nat) (hb : u / 2 ^ b % 2 = 0) : ∀ d c, c ≤ b → b < c + d → zc (u ||| 2 ^ b) d c + 1 = zc u d c
  | 0, c, h1, h2 => absurd h2 (by omega)
  | d + 1, c, h1, h2 => by
    rw [zc, zc, bit_or]
    by_cases e : c = b
    · subst e
      rw [if_pos rfl, zc_out u c d (c + 1) (by omega), if_neg (by decide), if_pos hb]
      omega
    · rw [if_neg e]
      have := zc_or u b hb d (c + 1) (by omega) (by omega)
      omega
theorem zc_zero : ∀ d c, zc 0 d c = d
  | 0, _ => rfl
  | d + 1, c => by rw [zc, zc_zero d (c + 1), Nat.zero_div, if_pos rfl]; omega
theorem fac_pos : ∀ n, 0 < fac n
  | 0 => by decide
  | n + 1 => Nat.mul_pos (by omega) (fac_pos n)
theorem sb_zc (n r : Nat) (hr : r < fac n) : ∀ i, i ≤ n → zc (sbS n r i).1 n 0 = n - i ∧ (sbS n r i).2 < fac (n - i)
  | 0, _ => ⟨zc_zero n 0, hr⟩
  | i + 1, h => by
    obtain ⟨h1, h2⟩ := sb_zc n r hr i (by omega)
    have hk : (sbS n r i).2 / fac (n - 1 - i) < n - i := by
      rw [Nat.div_lt_iff_lt_mul (fac_pos _)]
      rw [show n - i = (n - 1 - i) + 1 by omega] at h2 ⊢
      exact h2
    obtain ⟨g1, g2, g3⟩ := un_ok (sbS n r i).1 n 0 _ (by rw [h1]; exact hk)
    refine ⟨?_, ?_⟩
    · have := zc_or (sbS n r i).1 _ g3 n 0 g1 g2
      show zc ((sbS n r i).1 ||| 2 ^ (unG (sbS n r i).1 n 0 ((sbS n r i).2 / fac (n - 1 - i)))) n 0 = _
      omega
    · show (sbS n r i).2 % fac (n - 1 - i) < fac (n - (i + 1))
      rw [show n - (i + 1) = n - 1 - i by omega]
      exact Nat.mod_lt _ (fac_pos _)
theorem sb_k (n r : Nat) (hr : r < fac n) (i : Nat) (hi : i < n) : (sbS n r i).2 / fac (n - 1 - i) < zc (sbS n r i).1 n 0 := by
  obtain ⟨h1, h2⟩ := sb_zc n r hr i (by omega)
  rw [h1, Nat.div_lt_iff_lt_mul (fac_pos _)]
  rw [show n - i = (n - 1 - i) + 1 by omega] at h2 ⊢
  exact h2
theorem sb_free (n r : Nat) (hr : r < fac n) (i : Nat) (hi : i < n) : sbC n r i < n ∧ (sbS n r i).1 / 2 ^ (sbC n r i) % 2 = 0 := by
  obtain ⟨g1, g2, g3⟩ := un_ok (sbS n r i).1 n 0 _ (sb_k n r hr i hi)
  rw [Nat.zero_add] at g2
  exact ⟨g2, g3⟩
theorem sb_used (n r i : Nat) : ∀ d, (sbS n r (i + 1 + d)).1 / 2 ^ (sbC n r i) % 2 = 1
  | 0 => by
    show ((sbS n r i).1 ||| 2 ^ (sbC n r i)) / 2 ^ (sbC n r i) % 2 = 1
    rw [bit_or, if_pos rfl]
  | d + 1 => by
    show ((sbS n r (i + 1 + d)).1 ||| 2 ^ (sbC n r (i + 1 + d))) / 2 ^ (sbC n r i) % 2 = 1
    rw [bit_or]
    by_cases e : sbC n r i = sbC n r (i + 1 + d)
    · rw [if_pos e]
    · rw [if_neg e]
      exact sb_used n r i d
theorem sb_pm (n r : Nat) (hr : r < fac n) : IsPm n (sbC n r) := by
  have key : ∀ i j, i < j → j < n → sbC n r i ≠ sbC n r j := fun i j hij hj he => by
    have h1 := sb_used n r i (j - (i + 1))
    rw [show i + 1 + (j - (i + 1)) = j by omega, he, (sb_free n r hr j hj).2] at h1
    cases h1
  refine ⟨fun j hj => (sb_free n r hr j hj).1, fun i j hi hj he => ?_⟩
  rcases Nat.lt_trichotomy i j with q | q | q
  · exact absurd he (key i j q hj)
  · exact q
  · exact absurd he.symm (key j i q hi)
set_option maxHeartbeats 4000000 in
set_option maxRecDepth 100000 in
theorem m_ofRank (k : Nat) {xP xS xsd xbo : Int32} {xod xkn xhs xmm xln xot xfa xgr xtsr xtsz xce xmv xtc : Nat → Int32} {xwy xnx xch xaf xfo xco : Nat → Int64} {n r : Nat} (hn : n ≤ 10) (hn1 : 1 ≤ n) (hr : r < fac n) : Runs yX8_ofRank cX8_ofRank 9 none (k + 1) [.ref 0, .int (nI r)] (mkH 20 (mdF (nI n) xP xS xsd xod xkn xhs xmm xln xot xwy xnx xch xaf xfa xgr xfo xco xtsr xtsz xce xmv xtc xbo)) (fun o h' => o = none ∧ mkH 20 (mdF (nI n) xP xS xsd xod xkn xhs xmm (sbF n r xln n) xot xwy xnx xch xaf xfa xgr xfo xco xtsr xtsz xce xmv xtc xbo) = h') := by
  refine Runs.of (by decide) (Nat.le_of_ble_eq_true rfl) [some (.ref 0), some (.int (nI r)), none, none, none, none, none, none, none] 7 rfl (fun Γ g z => ?_)
  have hfn := (fac_lt n (by omega)).2
  have loop : ∀ i, i ≤ n → ∀ w5 w6 w7 w8 : Option Value, PB Γ 7 [some (.ref 0), some (.int (nI r)), some (.int (nI (sbS n r i).2)), some (.int (nI (sbS n r i).1)), some (.int (nI i)), w5, w6, w7, w8] [] (mkH 20 (mdF (nI n) xP xS xsd xod xkn xhs xmm (sbF n r xln i) xot xwy xnx xch xaf xfa xgr xfo xco xtsr xtsz xce xmv xtc xbo)) := by
    refine pb_loop n (fun i hi ih w5 w6 w7 w8 => ?_)
    by_cases hin : i < n
    · have hk := sb_k n r hr i hin
      obtain ⟨hs1, hs2⟩ := sbS_lt n r hn1 (by omega) i hi
      have hp : 2 ^ n ≤ 2 ^ 10 := Nat.pow_le_pow_right (by decide) hn
      have hf0 := fac_pos (n - 1 - i)
      have hf1 := (fac_lt (n - 1 - i) (by omega)).2
      have hdv : ∀ c, (sbS n r i).1 / 2 ^ c < 2 ^ 31 := fun c => Nat.lt_of_le_of_lt (Nat.div_le_self _ _) (by omega)
      have ih := ih hin
      have hTn := (sb_free n r hr i hin).1
      have hk9 : (sbS n r i).2 / fac (n - 1 - i) < 11 := Nat.lt_of_lt_of_le hk (by rw [(sb_zc n r hr i hi).1]; omega)
      have fin : ∀ w8 : Option Value, PB Γ 95 [some (.ref 0), some (.int (nI r)), some (.int (nI ((sbS n r i).2 % fac (n - 1 - i)))), some (.int (nI (sbS n r i).1)), some (.int (nI i)), some (.int (nI (fac (n - 1 - i)))), some (.int (nI ((sbS n r i).2 / fac (n - 1 - i)))), some (.int (nI (sbC n r i))), w8] [] (mkH 20 (mdF (nI n) xP xS xsd xod xkn xhs xmm (sbF n r xln i) xot xwy xnx xch xaf xfa xgr xfo xco xtsr xtsz xce xmv xtc xbo)) := by
        intro w8
        refine pb_aload_n0 g dX8_ofRank_95 ?_
        refine pb_getf g fX8_26 dX8_ofRank_96 mr_o rfl ?_
        refine pb_iload4 g dX8_ofRank_99 ?_
        refine pb_iload7 g dX8_ofRank_101 ?_
        first | refine pb_iastN g dX8_ofRank_103 (by first | exact mr_line | exact mr_order | exact mr_kind | exact mr_heaps | exact mr_m | exact mr_other | exact mr_ways | exact mr_next | exact mr_chances | exact mr_after | exact mr_far | exact mr_groups | exact mr_found | exact mr_counts | exact mr_traySort | exact mr_traySize | exact mr_cells | exact mr_moved | exact mr_traced | assumption) (by omega) (by omega) ?_ | refine pb_iast g dX8_ofRank_103 (by first | exact mr_line | exact mr_order | exact mr_kind | exact mr_heaps | exact mr_m | exact mr_other | exact mr_ways | exact mr_next | exact mr_chances | exact mr_after | exact mr_far | exact mr_groups | exact mr_found | exact mr_counts | exact mr_traySort | exact mr_traySize | exact mr_cells | exact mr_moved | exact mr_traced | assumption) (by assumption) ?_
        first | rw [ms_line]
        refine pb_iload_n3 g dX8_ofRank_104 ?_
        refine pb_iconst (v := nI 1) g dX8_ofRank_105 (by decide) ?_
        refine pb_iload7 g dX8_ofRank_106 ?_
        first | refine pb_ishlN g dX8_ofRank_108 (by omega) ?_ | refine pb_ishl g dX8_ofRank_108 ?_
        first | refine pb_iorN g dX8_ofRank_109 ?_ | refine pb_ior g dX8_ofRank_109 ?_
        refine pb_istore_n3 g dX8_ofRank_110 (by decide) ?_
        first | refine pb_iinc4N g dX8_ofRank_111 (by decide) ?_ | refine pb_iinc4 g dX8_ofRank_111 (by decide) rfl ?_
        refine pb_goto g 7 dX8_ofRank_114 (by decide) ?_
        exact ih _ _ _ _
      have w73 : ∀ d c t, c + d = n → t < (sbS n r i).2 / fac (n - 1 - i) → (sbS n r i).2 / fac (n - 1 - i) - 1 - t < zc (sbS n r i).1 d c → unG (sbS n r i).1 d c ((sbS n r i).2 / fac (n - 1 - i) - 1 - t) = sbC n r i → PB Γ 73 [some (.ref 0), some (.int (nI r)), some (.int (nI ((sbS n r i).2 % fac (n - 1 - i)))), some (.int (nI (sbS n r i).1)), some (.int (nI i)), some (.int (nI (fac (n - 1 - i)))), some (.int (nI ((sbS n r i).2 / fac (n - 1 - i)))), some (.int (nI c)), some (.int (nI t))] [] (mkH 20 (mdF (nI n) xP xS xsd xod xkn xhs xmm (sbF n r xln i) xot xwy xnx xch xaf xfa xgr xfo xco xtsr xtsz xce xmv xtc xbo)) := by
        intro d
        induction d with
        | zero => exact fun c t h1 h2 h3 => absurd h3 (Nat.not_lt_zero _)
        | succ d ihd =>
          intro c t hc ht hz hu
          have hb2 := Nat.mod_two_eq_zero_or_one ((sbS n r i).1 / 2 ^ c)
          have hdc := hdv c
          rw [zc] at hz
          rw [unG] at hu
          by_cases hb : (sbS n r i).1 / 2 ^ c % 2 = 0
          · rw [if_pos hb] at hz hu
            by_cases hl : (sbS n r i).2 / fac (n - 1 - i) - 1 - t = 0
            · rw [if_pos hl] at hu
              subst hu
              refine pb_iload_n3 g dX8_ofRank_73 ?_
              refine pb_iload7 g dX8_ofRank_74 ?_
              first | refine pb_ishrN g dX8_ofRank_76 (by omega) (by omega) ?_ | refine pb_ishr g dX8_ofRank_76 ?_
              refine pb_iconst (v := nI 1) g dX8_ofRank_77 (by decide) ?_
              first | refine pb_iandN g dX8_ofRank_78 (by omega) ?_ | refine pb_iand g dX8_ofRank_78 ?_
              refine pb_iconst (v := nI 1) g dX8_ofRank_79 (by decide) ?_
              first | refine pb_icmp_neN g 89 dX8_ofRank_80 (by decide) (by omega) (by omega) (fun c80 => ?_) (fun c80 => ?_) | refine pb_icmp_ne g 89 dX8_ofRank_80 (by decide) (fun c80 => ?_) (fun c80 => ?_)
              · first | refine pb_iinc8N g dX8_ofRank_89 (by decide) ?_ | refine pb_iinc8 g dX8_ofRank_89 (by decide) rfl ?_
                refine pb_goto g 63 dX8_ofRank_92 (by decide) ?_
                refine pb_iload8 g dX8_ofRank_63 ?_
                refine pb_iload6 g dX8_ofRank_65 ?_
                first | refine pb_icmp_geN g 95 dX8_ofRank_67 (by decide) (by omega) (by omega) (fun c67 => ?_) (fun c67 => ?_) | refine pb_icmp_ge g 95 dX8_ofRank_67 (by decide) (fun c67 => ?_) (fun c67 => ?_)
                · exact fin _
                · exact absurd c67 (by omega)
              · exact absurd c80 (by omega)
            · rw [if_neg hl, show (sbS n r i).2 / fac (n - 1 - i) - 1 - t - 1 = (sbS n r i).2 / fac (n - 1 - i) - 1 - (t + 1) by omega] at hu
              refine pb_iload_n3 g dX8_ofRank_73 ?_
              refine pb_iload7 g dX8_ofRank_74 ?_
              first | refine pb_ishrN g dX8_ofRank_76 (by omega) (by omega) ?_ | refine pb_ishr g dX8_ofRank_76 ?_
              refine pb_iconst (v := nI 1) g dX8_ofRank_77 (by decide) ?_
              first | refine pb_iandN g dX8_ofRank_78 (by omega) ?_ | refine pb_iand g dX8_ofRank_78 ?_
              refine pb_iconst (v := nI 1) g dX8_ofRank_79 (by decide) ?_
              first | refine pb_icmp_neN g 89 dX8_ofRank_80 (by decide) (by omega) (by omega) (fun c80 => ?_) (fun c80 => ?_) | refine pb_icmp_ne g 89 dX8_ofRank_80 (by decide) (fun c80 => ?_) (fun c80 => ?_)
              · first | refine pb_iinc8N g dX8_ofRank_89 (by decide) ?_ | refine pb_iinc8 g dX8_ofRank_89 (by decide) rfl ?_
                refine pb_goto g 63 dX8_ofRank_92 (by decide) ?_
                refine pb_iload8 g dX8_ofRank_63 ?_
                refine pb_iload6 g dX8_ofRank_65 ?_
                first | refine pb_icmp_geN g 95 dX8_ofRank_67 (by decide) (by omega) (by omega) (fun c67 => ?_) (fun c67 => ?_) | refine pb_icmp_ge g 95 dX8_ofRank_67 (by decide) (fun c67 => ?_) (fun c67 => ?_)
                · exact absurd c67 (by omega)
                · first | refine pb_iinc7N g dX8_ofRank_70 (by decide) ?_ | refine pb_iinc7 g dX8_ofRank_70 (by decide) rfl ?_
                  exact ihd (c + 1) (t + 1) (by omega) (by omega) (by omega) hu
              · exact absurd c80 (by omega)
          · rw [if_neg hb] at hz hu
            refine pb_iload_n3 g dX8_ofRank_73 ?_
            refine pb_iload7 g dX8_ofRank_74 ?_
            first | refine pb_ishrN g dX8_ofRank_76 (by omega) (by omega) ?_ | refine pb_ishr g dX8_ofRank_76 ?_
            refine pb_iconst (v := nI 1) g dX8_ofRank_77 (by decide) ?_
            first | refine pb_iandN g dX8_ofRank_78 (by omega) ?_ | refine pb_iand g dX8_ofRank_78 ?_
            refine pb_iconst (v := nI 1) g dX8_ofRank_79 (by decide) ?_
            first | refine pb_icmp_neN g 89 dX8_ofRank_80 (by decide) (by omega) (by omega) (fun c80 => ?_) (fun c80 => ?_) | refine pb_icmp_ne g 89 dX8_ofRank_80 (by decide) (fun c80 => ?_) (fun c80 => ?_)
            · exact absurd c80 (by omega)
            · first | refine pb_iinc7N g dX8_ofRank_83 (by decide) ?_ | refine pb_iinc7 g dX8_ofRank_83 (by decide) rfl ?_
              refine pb_goto g 73 dX8_ofRank_86 (by decide) ?_
              exact ihd (c + 1) t (by omega) ht (by omega) hu
      have w44 : ∀ d c (w8 : Option Value), c + d = n → (sbS n r i).2 / fac (n - 1 - i) < zc (sbS n r i).1 d c → unG (sbS n r i).1 d c ((sbS n r i).2 / fac (n - 1 - i)) = sbC n r i → PB Γ 44 [some (.ref 0), some (.int (nI r)), some (.int (nI ((sbS n r i).2 % fac (n - 1 - i)))), some (.int (nI (sbS n r i).1)), some (.int (nI i)), some (.int (nI (fac (n - 1 - i)))), some (.int (nI ((sbS n r i).2 / fac (n - 1 - i)))), some (.int (nI c)), w8] [] (mkH 20 (mdF (nI n) xP xS xsd xod xkn xhs xmm (sbF n r xln i) xot xwy xnx xch xaf xfa xgr xfo xco xtsr xtsz xce xmv xtc xbo)) := by
        intro d
        induction d with
        | zero => exact fun c w8 h1 h2 => absurd h2 (Nat.not_lt_zero _)
        | succ d ihd =>
          intro c w8 hc hz hu
          have hb2 := Nat.mod_two_eq_zero_or_one ((sbS n r i).1 / 2 ^ c)
          have hdc := hdv c
          rw [zc] at hz
          rw [unG] at hu
          by_cases hb : (sbS n r i).1 / 2 ^ c % 2 = 0
          · rw [if_pos hb] at hz hu
            by_cases hl : (sbS n r i).2 / fac (n - 1 - i) = 0
            · rw [if_pos hl] at hu
              subst hu
              refine pb_iload_n3 g dX8_ofRank_44 ?_
              refine pb_iload7 g dX8_ofRank_45 ?_
              first | refine pb_ishrN g dX8_ofRank_47 (by omega) (by omega) ?_ | refine pb_ishr g dX8_ofRank_47 ?_
              refine pb_iconst (v := nI 1) g dX8_ofRank_48 (by decide) ?_
              first | refine pb_iandN g dX8_ofRank_49 (by omega) ?_ | refine pb_iand g dX8_ofRank_49 ?_
              refine pb_iconst (v := nI 1) g dX8_ofRank_50 (by decide) ?_
              first | refine pb_icmp_neN g 60 dX8_ofRank_51 (by decide) (by omega) (by omega) (fun c51 => ?_) (fun c51 => ?_) | refine pb_icmp_ne g 60 dX8_ofRank_51 (by decide) (fun c51 => ?_) (fun c51 => ?_)
              · refine pb_iconst (v := nI 0) g dX8_ofRank_60 (by decide) ?_
                refine pb_istore8 g dX8_ofRank_61 (by decide) ?_
                refine pb_iload8 g dX8_ofRank_63 ?_
                refine pb_iload6 g dX8_ofRank_65 ?_
                first | refine pb_icmp_geN g 95 dX8_ofRank_67 (by decide) (by omega) (by omega) (fun c67 => ?_) (fun c67 => ?_) | refine pb_icmp_ge g 95 dX8_ofRank_67 (by decide) (fun c67 => ?_) (fun c67 => ?_)
                · exact fin _
                · exact absurd c67 (by omega)
              · exact absurd c51 (by omega)
            · rw [if_neg hl] at hu
              refine pb_iload_n3 g dX8_ofRank_44 ?_
              refine pb_iload7 g dX8_ofRank_45 ?_
              first | refine pb_ishrN g dX8_ofRank_47 (by omega) (by omega) ?_ | refine pb_ishr g dX8_ofRank_47 ?_
              refine pb_iconst (v := nI 1) g dX8_ofRank_48 (by decide) ?_
              first | refine pb_iandN g dX8_ofRank_49 (by omega) ?_ | refine pb_iand g dX8_ofRank_49 ?_
              refine pb_iconst (v := nI 1) g dX8_ofRank_50 (by decide) ?_
              first | refine pb_icmp_neN g 60 dX8_ofRank_51 (by decide) (by omega) (by omega) (fun c51 => ?_) (fun c51 => ?_) | refine pb_icmp_ne g 60 dX8_ofRank_51 (by decide) (fun c51 => ?_) (fun c51 => ?_)
              · refine pb_iconst (v := nI 0) g dX8_ofRank_60 (by decide) ?_
                refine pb_istore8 g dX8_ofRank_61 (by decide) ?_
                refine pb_iload8 g dX8_ofRank_63 ?_
                refine pb_iload6 g dX8_ofRank_65 ?_
                first | refine pb_icmp_geN g 95 dX8_ofRank_67 (by decide) (by omega) (by omega) (fun c67 => ?_) (fun c67 => ?_) | refine pb_icmp_ge g 95 dX8_ofRank_67 (by decide) (fun c67 => ?_) (fun c67 => ?_)
                · exact absurd (Nat.le_zero.mp c67) hl
                · first | refine pb_iinc7N g dX8_ofRank_70 (by decide) ?_ | refine pb_iinc7 g dX8_ofRank_70 (by decide) rfl ?_
                  exact w73 d (c + 1) 0 (by omega) (by omega) (by omega) hu
              · exact absurd c51 (by omega)
          · rw [if_neg hb] at hz hu
            refine pb_iload_n3 g dX8_ofRank_44 ?_
            refine pb_iload7 g dX8_ofRank_45 ?_
            first | refine pb_ishrN g dX8_ofRank_47 (by omega) (by omega) ?_ | refine pb_ishr g dX8_ofRank_47 ?_
            refine pb_iconst (v := nI 1) g dX8_ofRank_48 (by decide) ?_
            first | refine pb_iandN g dX8_ofRank_49 (by omega) ?_ | refine pb_iand g dX8_ofRank_49 ?_
            refine pb_iconst (v := nI 1) g dX8_ofRank_50 (by decide) ?_
            first | refine pb_icmp_neN g 60 dX8_ofRank_51 (by decide) (by omega) (by omega) (fun c51 => ?_) (fun c51 => ?_) | refine pb_icmp_ne g 60 dX8_ofRank_51 (by decide) (fun c51 => ?_) (fun c51 => ?_)
            · exact absurd c51 (by omega)
            · first | refine pb_iinc7N g dX8_ofRank_54 (by decide) ?_ | refine pb_iinc7 g dX8_ofRank_54 (by decide) rfl ?_
              refine pb_goto g 44 dX8_ofRank_57 (by decide) ?_
              exact ihd (c + 1) _ (by omega) (by omega) hu
      refine pb_iload4 g dX8_ofRank_7 ?_
      refine pb_aload_n0 g dX8_ofRank_9 ?_
      refine pb_getf g fX8_7 dX8_ofRank_10 mr_o rfl ?_
      first | refine pb_icmp_geN g 117 dX8_ofRank_13 (by decide) (by omega) (by omega) (fun c13 => ?_) (fun c13 => ?_) | refine pb_icmp_ge g 117 dX8_ofRank_13 (by decide) (fun c13 => ?_) (fun c13 => ?_)
      · exact absurd c13 (by omega)
      · refine pb_aload_n0 g dX8_ofRank_16 ?_
        refine pb_getf g fX8_7 dX8_ofRank_17 mr_o rfl ?_
        refine pb_iconst (v := nI 1) g dX8_ofRank_20 (by decide) ?_
        first | refine pb_isubN g dX8_ofRank_21 (by omega) ?_ | refine pb_isub g dX8_ofRank_21 ?_
        refine pb_iload4 g dX8_ofRank_22 ?_
        first | refine pb_isubN g dX8_ofRank_24 (by omega) ?_ | refine pb_isub g dX8_ofRank_24 ?_
        refine pb_Si1 g qX8_82 dX8_ofRank_25 k (by omega) (m_orders k (n - 1 - i) (by omega) _) (fun r25 h25 e25 => ?_)
        obtain ⟨rfl, rfl⟩ := e25
        refine pb_istore5 g dX8_ofRank_28 (by decide) ?_
        refine pb_iload_n2 g dX8_ofRank_30 ?_
        refine pb_iload5 g dX8_ofRank_31 ?_
        first | refine pb_idivN g dX8_ofRank_33 (by omega) (by omega) (by omega) ?_ | refine pb_idiv g dX8_ofRank_33 (by assumption) ?_
        refine pb_istore6 g dX8_ofRank_34 (by decide) ?_
        refine pb_iload_n2 g dX8_ofRank_36 ?_
        refine pb_iload5 g dX8_ofRank_37 ?_
        first | refine pb_iremN g dX8_ofRank_39 (by omega) (by omega) (by omega) ?_ | refine pb_irem g dX8_ofRank_39 (by assumption) ?_
        refine pb_istore_n2 g dX8_ofRank_40 (by decide) ?_
        refine pb_iconst (v := nI 0) g dX8_ofRank_41 (by decide) ?_
        refine pb_istore7 g dX8_ofRank_42 (by decide) ?_
        exact w44 n 0 _ (by omega) hk rfl
    · obtain rfl : i = n := by omega
      refine pb_iload4 g dX8_ofRank_7 ?_
      refine pb_aload_n0 g dX8_ofRank_9 ?_
      refine pb_getf g fX8_7 dX8_ofRank_10 mr_o rfl ?_
      first | refine pb_icmp_geN g 117 dX8_ofRank_13 (by decide) (by omega) (by omega) (fun c13 => ?_) (fun c13 => ?_) | refine pb_icmp_ge g 117 dX8_ofRank_13 (by decide) (fun c13 => ?_) (fun c13 => ?_)
      · refine pb_vret g z dX8_ofRank_117 ?_
        exact ⟨rfl, rfl⟩
      · exact absurd c13 (by omega)
  refine pb_iload_n1 g dX8_ofRank_0 ?_
  refine pb_istore_n2 g dX8_ofRank_1 (by decide) ?_
  refine pb_iconst (v := nI 0) g dX8_ofRank_2 (by decide) ?_
  refine pb_istore_n3 g dX8_ofRank_3 (by decide) ?_
  refine pb_iconst (v := nI 0) g dX8_ofRank_4 (by decide) ?_
  refine pb_istore4 g dX8_ofRank_5 (by decide) ?_
  exact loop 0 (Nat.zero_le _) _ _ _ _
set_option maxHeartbeats 4000000 in
set_option maxRecDepth 100000 in
theorem m_ranked (k : Nat) (q : SP) (x : Int32) (h : PH) (hD : IsM q h) (hI : SI q) : Runs yX8_ranked cX8_ranked 2 (some .int) (k + 6) [.ref 0, .int x] h (fun oo h' => ∃ r : Int32, oo = some (.int r) ∧ r = (sRanked q x).1 ∧ IsM ((sRanked q x).2) h') := by
  obtain ⟨⟨n, P, S, sd⟩, ⟨σ, μ, K, Hh⟩, ⟨ts, zz, it⟩, ⟨ra, tr⟩⟩ := q
  obtain ⟨⟨hn1, hn, hP, hS⟩, hσ, hK, hz, hra⟩ := hI
  obtain ⟨xod, xkn, xhs, xmm, xln, xot, xfa, xgr, xtsr, xtsz, xce, xmv, xtc, xwy, xnx, xch, xaf, xfo, xco, rfl, d1, d2, d3, d4, d5⟩ := hD
  refine Runs.of (by decide) (Nat.le_of_ble_eq_true rfl) [some (.ref 0), some (.int x)] 0 rfl (fun Γ g z => ?_)
  have hfn := (fac_lt n (by omega)).2
  cases hx : ix x (fac n) with
  | none =>
    have e : sRanked ((n, P, S, sd), (σ, μ, K, Hh), (ts, zz, it), (ra, tr)) x = (-2, ((n, P, S, sd), (σ, μ, K, Hh), (ts, zz, it), (ra, tr))) := by simp only [sRanked, hx]
    have hxn := inN_not (by omega) (ix_none (by omega) hx)
    refine pb_iload_n1 g dX8_ranked_0 ?_
    refine pb_if_lt g 15 dX8_ranked_1 (by decide) (fun c1 => ?_) (fun c1 => ?_)
    · refine pb_bipush (v := -2) g dX8_ranked_15 (by decide) ?_
      refine pb_iret g z dX8_ranked_17 ?_
      exact ⟨_, rfl, by rw [e], by rw [e]; exact ⟨_, _, _, _, _, _, _, _, _, _, _, _, _, _, _, _, _, _, _, rfl, d1, d2, d3, d4, d5⟩⟩
    · refine pb_iload_n1 g dX8_ranked_4 ?_
      refine pb_aload_n0 g dX8_ranked_5 ?_
      refine pb_getf g fX8_7 dX8_ranked_6 mr_o rfl ?_
      refine pb_Si1 g qX8_82 dX8_ranked_9 (k + 5) (by omega) (m_orders (k + 5) n (by omega) _) (fun r9 h9 e9 => ?_)
      obtain ⟨rfl, rfl⟩ := e9
      first | refine pb_icmp_ltN g 18 dX8_ranked_12 (by decide) (by omega) (by omega) (fun c12 => ?_) (fun c12 => ?_) | refine pb_icmp_lt g 18 dX8_ranked_12 (by decide) (fun c12 => ?_) (fun c12 => ?_)
      · exact absurd hxn (fun q => q.elim c1 (fun w => absurd c12 (Int32.not_lt.mpr w)))
      · refine pb_bipush (v := -2) g dX8_ranked_15 (by decide) ?_
        refine pb_iret g z dX8_ranked_17 ?_
        exact ⟨_, rfl, by rw [e], by rw [e]; exact ⟨_, _, _, _, _, _, _, _, _, _, _, _, _, _, _, _, _, _, _, rfl, d1, d2, d3, d4, d5⟩⟩
  | some r =>
    obtain ⟨hr, rfl⟩ := ix_some (by omega) hx
    by_cases hP12 : P = 12
    · have e : sRanked ((n, P, S, sd), (σ, μ, K, Hh), (ts, zz, it), (ra, tr)) (nI r) = (-4, ((n, P, S, sd), (σ, μ, K, Hh), (ts, zz, it), (ra, tr))) := by simp only [sRanked, hx, if_pos hP12]
      refine pb_iload_n1 g dX8_ranked_0 ?_
      refine pb_if_ltN g 15 dX8_ranked_1 (by decide) (by omega) ?_
      refine pb_iload_n1 g dX8_ranked_4 ?_
      refine pb_aload_n0 g dX8_ranked_5 ?_
      refine pb_getf g fX8_7 dX8_ranked_6 mr_o rfl ?_
      refine pb_Si1 g qX8_82 dX8_ranked_9 (k + 5) (by omega) (m_orders (k + 5) n (by omega) _) (fun r9 h9 e9 => ?_)
      obtain ⟨rfl, rfl⟩ := e9
      first | refine pb_icmp_ltN g 18 dX8_ranked_12 (by decide) (by omega) (by omega) (fun c12 => ?_) (fun c12 => ?_) | refine pb_icmp_lt g 18 dX8_ranked_12 (by decide) (fun c12 => ?_) (fun c12 => ?_)
      · refine pb_aload_n0 g dX8_ranked_18 ?_
        refine pb_getf g fX8_72 dX8_ranked_19 mr_o rfl ?_
        refine pb_bipush (v := nI 12) g dX8_ranked_22 (by decide) ?_
        first | refine pb_icmp_neN g 30 dX8_ranked_24 (by decide) (by omega) (by omega) (fun c24 => ?_) (fun c24 => ?_) | refine pb_icmp_ne g 30 dX8_ranked_24 (by decide) (fun c24 => ?_) (fun c24 => ?_)
        · exact absurd hP12 c24
        · refine pb_bipush (v := -4) g dX8_ranked_27 (by decide) ?_
          refine pb_iret g z dX8_ranked_29 ?_
          exact ⟨_, rfl, by rw [e], by rw [e]; exact ⟨_, _, _, _, _, _, _, _, _, _, _, _, _, _, _, _, _, _, _, rfl, d1, d2, d3, d4, d5⟩⟩
      · exact absurd c12 (by omega)
    · have e : sRanked ((n, P, S, sd), (σ, μ, K, Hh), (ts, zz, it), (ra, tr)) (nI r) = (nI P, ((n, P + 1, S, sd), (va_up σ P (sbC n r), μ, K, Hh), (ts, zz, it), (ra, tr))) := by simp only [sRanked, hx, if_neg hP12]
      refine pb_iload_n1 g dX8_ranked_0 ?_
      refine pb_if_ltN g 15 dX8_ranked_1 (by decide) (by omega) ?_
      refine pb_iload_n1 g dX8_ranked_4 ?_
      refine pb_aload_n0 g dX8_ranked_5 ?_
      refine pb_getf g fX8_7 dX8_ranked_6 mr_o rfl ?_
      refine pb_Si1 g qX8_82 dX8_ranked_9 (k + 5) (by omega) (m_orders (k + 5) n (by omega) _) (fun r9 h9 e9 => ?_)
      obtain ⟨rfl, rfl⟩ := e9
      first | refine pb_icmp_ltN g 18 dX8_ranked_12 (by decide) (by omega) (by omega) (fun c12 => ?_) (fun c12 => ?_) | refine pb_icmp_lt g 18 dX8_ranked_12 (by decide) (fun c12 => ?_) (fun c12 => ?_)
      · refine pb_aload_n0 g dX8_ranked_18 ?_
        refine pb_getf g fX8_72 dX8_ranked_19 mr_o rfl ?_
        refine pb_bipush (v := nI 12) g dX8_ranked_22 (by decide) ?_
        first | refine pb_icmp_neN g 30 dX8_ranked_24 (by decide) (by omega) (by omega) (fun c24 => ?_) (fun c24 => ?_) | refine pb_icmp_ne g 30 dX8_ranked_24 (by decide) (fun c24 => ?_) (fun c24 => ?_)
        · refine pb_aload_n0 g dX8_ranked_30 ?_
          refine pb_iload_n1 g dX8_ranked_31 ?_
          refine pb_Vv1 g qX8_90 dX8_ranked_32 (k + 5) (by omega) mr_o (m_ofRank (k + 4) (n := n) (r := r) hn hn1 hr) (fun h32 e32 => ?_)
          subst e32
          refine pb_aload_n0 g dX8_ranked_35 ?_
          refine pb_Vi0 g qX8_86 dX8_ranked_36 (k + 5) (by omega) mr_o (m_comes (k + 5) (n := n) (P := P) hn (by omega)) (fun r36 h36 e36 => ?_)
          obtain ⟨rfl, rfl⟩ := e36
          refine pb_iret g z dX8_ranked_39 ?_
          exact ⟨_, rfl, by rw [e], by rw [e]; exact ⟨_, _, _, _, _, _, _, _, _, _, _, _, _, _, _, _, _, _, _, rfl, m1_up hn d1 (fun j hj => sbF_at n r _ n j hj) (fun p h1 h2 => by omega), d2, d3, d4, d5⟩⟩
        · exact absurd c24 hP12
      · exact absurd c12 (by omega)
set_option maxHeartbeats 4000000 in
set_option maxRecDepth 100000 in
theorem m_told (k : Nat) (q : SP) (t so i : Int32) (h : PH) (hD : IsM q h) (hI : SI q) : Runs yX8_told cX8_told 7 (some .int) (k + 6) [.ref 0, .int t, .int so, .int i] h (fun oo h' => ∃ r : Int32, oo = some (.int r) ∧ r = (sTold q t so i).1 ∧ IsM ((sTold q t so i).2) h') := by
  obtain ⟨⟨n, P, S, sd⟩, ⟨σ, μ, K, Hh⟩, ⟨ts, zz, it⟩, ⟨ra, tr⟩⟩ := q
  obtain ⟨⟨hn1, hn, hP, hS⟩, hσ, hK, hz, hra⟩ := hI
  obtain ⟨xod, xkn, xhs, xmm, xln, xot, xfa, xgr, xtsr, xtsz, xce, xmv, xtc, xwy, xnx, xch, xaf, xfo, xco, rfl, d1, d2, d3, d4, d5⟩ := hD
  refine Runs.of (by decide) (Nat.le_of_ble_eq_true rfl) [some (.ref 0), some (.int t), some (.int so), some (.int i), none, none, none] 3 rfl (fun Γ g z => ?_)
  cases htx : ix t 4 with
  | none =>
    have e : sTold ((n, P, S, sd), (σ, μ, K, Hh), (ts, zz, it), (ra, tr)) t so i = (-2, ((n, P, S, sd), (σ, μ, K, Hh), (ts, zz, it), (ra, tr))) := by simp only [sTold, htx]
    have htn := ix_none (by decide) htx
    refine pb_iload_n1 g dX8_told_0 ?_
    refine pb_Si1 g qX8_94 dX8_told_1 (k + 5) (by omega) (m_isTrayF (k + 5) _ (by assumption) _) (fun r1 h1 e1 => ?_)
    obtain ⟨rfl, rfl⟩ := e1
    first | refine pb_if_eqN g 16 dX8_told_4 (by decide) (by omega) (fun c4 => ?_) (fun c4 => ?_) | refine pb_if_eq g 16 dX8_told_4 (by decide) (fun c4 => ?_) (fun c4 => ?_)
    · refine pb_bipush (v := -2) g dX8_told_16 (by decide) ?_
      refine pb_iret g z dX8_told_18 ?_
      exact ⟨_, rfl, by rw [e], by rw [e]; exact ⟨_, _, _, _, _, _, _, _, _, _, _, _, _, _, _, _, _, _, _, rfl, d1, d2, d3, d4, d5⟩⟩
    · exact absurd c4 (by decide)
  | some t0 =>
    obtain ⟨ht0, rfl⟩ := ix_some (by decide) htx
    cases hsx : ix so 3 with
    | none =>
      have e : sTold ((n, P, S, sd), (σ, μ, K, Hh), (ts, zz, it), (ra, tr)) (nI t0) so i = (-2, ((n, P, S, sd), (σ, μ, K, Hh), (ts, zz, it), (ra, tr))) := by simp only [sTold, htx, hsx]
      have hsn := inN_not (by decide) (ix_none (by decide) hsx)
      have hsn2 : so < 0 ∨ nI 2 < so := hsn.elim Or.inl (fun q => Or.inr (Int32.lt_of_lt_of_le (by decide) q))
      refine pb_iload_n1 g dX8_told_0 ?_
      refine pb_Si1 g qX8_94 dX8_told_1 (k + 5) (by omega) (m_isTrayT (k + 5) _ (by assumption) _) (fun r1 h1 e1 => ?_)
      obtain ⟨rfl, rfl⟩ := e1
      first | refine pb_if_eqN g 16 dX8_told_4 (by decide) (by omega) (fun c4 => ?_) (fun c4 => ?_) | refine pb_if_eq g 16 dX8_told_4 (by decide) (fun c4 => ?_) (fun c4 => ?_)
      · exact absurd c4 (by decide)
      · refine pb_iload_n2 g dX8_told_7 ?_
        refine pb_if_lt g 16 dX8_told_8 (by decide) (fun c8 => ?_) (fun c8 => ?_)
        · refine pb_bipush (v := -2) g dX8_told_16 (by decide) ?_
          refine pb_iret g z dX8_told_18 ?_
          exact ⟨_, rfl, by rw [e], by rw [e]; exact ⟨_, _, _, _, _, _, _, _, _, _, _, _, _, _, _, _, _, _, _, rfl, d1, d2, d3, d4, d5⟩⟩
        · refine pb_iload_n2 g dX8_told_11 ?_
          refine pb_iconst (v := nI 2) g dX8_told_12 (by decide) ?_
          first | refine pb_icmp_leN g 19 dX8_told_13 (by decide) (by omega) (by omega) (fun c13 => ?_) (fun c13 => ?_) | refine pb_icmp_le g 19 dX8_told_13 (by decide) (fun c13 => ?_) (fun c13 => ?_)
          · exact absurd hsn2 (fun q => q.elim c8 (fun w => absurd c13 (Int32.not_le.mpr w)))
          · refine pb_bipush (v := -2) g dX8_told_16 (by decide) ?_
            refine pb_iret g z dX8_told_18 ?_
            exact ⟨_, rfl, by rw [e], by rw [e]; exact ⟨_, _, _, _, _, _, _, _, _, _, _, _, _, _, _, _, _, _, _, rfl, d1, d2, d3, d4, d5⟩⟩
    | some o0 =>
      obtain ⟨ho0, rfl⟩ := ix_some (by decide) hsx
      have hz40 := (hz t0 ht0).1
      by_cases hmi : ts t0 = -1
      · have e : sTold ((n, P, S, sd), (σ, μ, K, Hh), (ts, zz, it), (ra, tr)) (nI t0) (nI o0) i = (-11, ((n, P, S, sd), (σ, μ, K, Hh), (ts, zz, it), (ra, tr))) := by
          simp only [sTold, htx, hsx]
          rw [if_neg (fun z => z.1 hmi), if_pos hmi]
        refine pb_iload_n1 g dX8_told_0 ?_
        refine pb_Si1 g qX8_94 dX8_told_1 (k + 5) (by omega) (m_isTrayT (k + 5) _ (by assumption) _) (fun r1 h1 e1 => ?_)
        obtain ⟨rfl, rfl⟩ := e1
        first | refine pb_if_eqN g 16 dX8_told_4 (by decide) (by omega) (fun c4 => ?_) (fun c4 => ?_) | refine pb_if_eq g 16 dX8_told_4 (by decide) (fun c4 => ?_) (fun c4 => ?_)
        · exact absurd c4 (by decide)
        · refine pb_iload_n2 g dX8_told_7 ?_
          refine pb_if_ltN g 16 dX8_told_8 (by decide) (by omega) ?_
          refine pb_iload_n2 g dX8_told_11 ?_
          refine pb_iconst (v := nI 2) g dX8_told_12 (by decide) ?_
          first | refine pb_icmp_leN g 19 dX8_told_13 (by decide) (by omega) (by omega) (fun c13 => ?_) (fun c13 => ?_) | refine pb_icmp_le g 19 dX8_told_13 (by decide) (fun c13 => ?_) (fun c13 => ?_)
          · refine pb_aload_n0 g dX8_told_19 ?_
            refine pb_getf g fX8_57 dX8_told_20 mr_o rfl ?_
            refine pb_iload_n1 g dX8_told_23 ?_
            first | refine pb_ialdN g dX8_told_24 (by first | exact mr_traySort | exact mr_order | exact mr_kind | exact mr_heaps | exact mr_m | exact mr_line | exact mr_other | exact mr_ways | exact mr_next | exact mr_chances | exact mr_after | exact mr_far | exact mr_groups | exact mr_found | exact mr_counts | exact mr_traySize | exact mr_cells | exact mr_moved | exact mr_traced | assumption) (by omega) (by omega) ?_ | refine pb_ald0 g dX8_told_24 (by omega) ?_ | refine pb_ald1 g dX8_told_24 (by omega) ?_ | refine pb_ald2 g dX8_told_24 (by omega) ?_ | refine pb_ald3 g dX8_told_24 (by omega) ?_ | refine pb_iald g dX8_told_24 (by first | exact mr_traySort | exact mr_order | exact mr_kind | exact mr_heaps | exact mr_m | exact mr_line | exact mr_other | exact mr_ways | exact mr_next | exact mr_chances | exact mr_after | exact mr_far | exact mr_groups | exact mr_found | exact mr_counts | exact mr_traySize | exact mr_cells | exact mr_moved | exact mr_traced | assumption) (by assumption) ?_
            rw [(d3 t0 ht0).1, hmi]
            refine pb_if_lt g 41 dX8_told_25 (by decide) (fun c25 => ?_) (fun c25 => ?_)
            · refine pb_aload_n0 g dX8_told_41 ?_
              refine pb_getf g fX8_57 dX8_told_42 mr_o rfl ?_
              refine pb_iload_n1 g dX8_told_45 ?_
              first | refine pb_ialdN g dX8_told_46 (by first | exact mr_traySort | exact mr_order | exact mr_kind | exact mr_heaps | exact mr_m | exact mr_line | exact mr_other | exact mr_ways | exact mr_next | exact mr_chances | exact mr_after | exact mr_far | exact mr_groups | exact mr_found | exact mr_counts | exact mr_traySize | exact mr_cells | exact mr_moved | exact mr_traced | assumption) (by omega) (by omega) ?_ | refine pb_ald0 g dX8_told_46 (by omega) ?_ | refine pb_ald1 g dX8_told_46 (by omega) ?_ | refine pb_ald2 g dX8_told_46 (by omega) ?_ | refine pb_ald3 g dX8_told_46 (by omega) ?_ | refine pb_iald g dX8_told_46 (by first | exact mr_traySort | exact mr_order | exact mr_kind | exact mr_heaps | exact mr_m | exact mr_line | exact mr_other | exact mr_ways | exact mr_next | exact mr_chances | exact mr_after | exact mr_far | exact mr_groups | exact mr_found | exact mr_counts | exact mr_traySize | exact mr_cells | exact mr_moved | exact mr_traced | assumption) (by assumption) ?_
              rw [(d3 t0 ht0).1, hmi]
              refine pb_if_ge g 53 dX8_told_47 (by decide) (fun c47 => ?_) (fun c47 => ?_)
              · exact absurd c47 (by decide)
              · refine pb_bipush (v := -11) g dX8_told_50 (by decide) ?_
                refine pb_iret g z dX8_told_52 ?_
                exact ⟨_, rfl, by rw [e], by rw [e]; exact ⟨_, _, _, _, _, _, _, _, _, _, _, _, _, _, _, _, _, _, _, rfl, d1, d2, d3, d4, d5⟩⟩
            · exact absurd (by decide) c25
          · exact absurd c13 (by omega)
      · obtain ⟨a0, ha0, hts1⟩ := ts_some (hz t0 ht0) hmi
        by_cases hso : a0 = o0
        · subst hso
          have hB : ¬ (ts t0 ≠ -1 ∧ ts t0 ≠ nI a0) := fun z => z.2 hts1
          by_cases hi0 : i < 0
          · have e : sTold ((n, P, S, sd), (σ, μ, K, Hh), (ts, zz, it), (ra, tr)) (nI t0) (nI a0) i = (-12, ((n, P, S, sd), (σ, μ, K, Hh), (ts, zz, it), (ra, tr))) := by
              simp only [sTold, htx, hsx]
              rw [if_neg hB, if_neg hmi, if_pos (Or.inl hi0)]
            refine pb_iload_n1 g dX8_told_0 ?_
            refine pb_Si1 g qX8_94 dX8_told_1 (k + 5) (by omega) (m_isTrayT (k + 5) _ (by assumption) _) (fun r1 h1 e1 => ?_)
            obtain ⟨rfl, rfl⟩ := e1
            first | refine pb_if_eqN g 16 dX8_told_4 (by decide) (by omega) (fun c4 => ?_) (fun c4 => ?_) | refine pb_if_eq g 16 dX8_told_4 (by decide) (fun c4 => ?_) (fun c4 => ?_)
            · exact absurd c4 (by decide)
            · refine pb_iload_n2 g dX8_told_7 ?_
              refine pb_if_ltN g 16 dX8_told_8 (by decide) (by omega) ?_
              refine pb_iload_n2 g dX8_told_11 ?_
              refine pb_iconst (v := nI 2) g dX8_told_12 (by decide) ?_
              first | refine pb_icmp_leN g 19 dX8_told_13 (by decide) (by omega) (by omega) (fun c13 => ?_) (fun c13 => ?_) | refine pb_icmp_le g 19 dX8_told_13 (by decide) (fun c13 => ?_) (fun c13 => ?_)
              · refine pb_aload_n0 g dX8_told_19 ?_
                refine pb_getf g fX8_57 dX8_told_20 mr_o rfl ?_
                refine pb_iload_n1 g dX8_told_23 ?_
                first | refine pb_ialdN g dX8_told_24 (by first | exact mr_traySort | exact mr_order | exact mr_kind | exact mr_heaps | exact mr_m | exact mr_line | exact mr_other | exact mr_ways | exact mr_next | exact mr_chances | exact mr_after | exact mr_far | exact mr_groups | exact mr_found | exact mr_counts | exact mr_traySize | exact mr_cells | exact mr_moved | exact mr_traced | assumption) (by omega) (by omega) ?_ | refine pb_ald0 g dX8_told_24 (by omega) ?_ | refine pb_ald1 g dX8_told_24 (by omega) ?_ | refine pb_ald2 g dX8_told_24 (by omega) ?_ | refine pb_ald3 g dX8_told_24 (by omega) ?_ | refine pb_iald g dX8_told_24 (by first | exact mr_traySort | exact mr_order | exact mr_kind | exact mr_heaps | exact mr_m | exact mr_line | exact mr_other | exact mr_ways | exact mr_next | exact mr_chances | exact mr_after | exact mr_far | exact mr_groups | exact mr_found | exact mr_counts | exact mr_traySize | exact mr_cells | exact mr_moved | exact mr_traced | assumption) (by assumption) ?_
                rw [(d3 t0 ht0).1, hts1]
                refine pb_if_ltN g 41 dX8_told_25 (by decide) (by omega) ?_
                refine pb_aload_n0 g dX8_told_28 ?_
                refine pb_getf g fX8_57 dX8_told_29 mr_o rfl ?_
                refine pb_iload_n1 g dX8_told_32 ?_
                first | refine pb_ialdN g dX8_told_33 (by first | exact mr_traySort | exact mr_order | exact mr_kind | exact mr_heaps | exact mr_m | exact mr_line | exact mr_other | exact mr_ways | exact mr_next | exact mr_chances | exact mr_after | exact mr_far | exact mr_groups | exact mr_found | exact mr_counts | exact mr_traySize | exact mr_cells | exact mr_moved | exact mr_traced | assumption) (by omega) (by omega) ?_ | refine pb_ald0 g dX8_told_33 (by omega) ?_ | refine pb_ald1 g dX8_told_33 (by omega) ?_ | refine pb_ald2 g dX8_told_33 (by omega) ?_ | refine pb_ald3 g dX8_told_33 (by omega) ?_ | refine pb_iald g dX8_told_33 (by first | exact mr_traySort | exact mr_order | exact mr_kind | exact mr_heaps | exact mr_m | exact mr_line | exact mr_other | exact mr_ways | exact mr_next | exact mr_chances | exact mr_after | exact mr_far | exact mr_groups | exact mr_found | exact mr_counts | exact mr_traySize | exact mr_cells | exact mr_moved | exact mr_traced | assumption) (by assumption) ?_
                rw [(d3 t0 ht0).1, hts1]
                refine pb_iload_n2 g dX8_told_34 ?_
                first | refine pb_icmp_eqN g 41 dX8_told_35 (by decide) (by omega) (by omega) (fun c35 => ?_) (fun c35 => ?_) | refine pb_icmp_eq g 41 dX8_told_35 (by decide) (fun c35 => ?_) (fun c35 => ?_)
                · refine pb_aload_n0 g dX8_told_41 ?_
                  refine pb_getf g fX8_57 dX8_told_42 mr_o rfl ?_
                  refine pb_iload_n1 g dX8_told_45 ?_
                  first | refine pb_ialdN g dX8_told_46 (by first | exact mr_traySort | exact mr_order | exact mr_kind | exact mr_heaps | exact mr_m | exact mr_line | exact mr_other | exact mr_ways | exact mr_next | exact mr_chances | exact mr_after | exact mr_far | exact mr_groups | exact mr_found | exact mr_counts | exact mr_traySize | exact mr_cells | exact mr_moved | exact mr_traced | assumption) (by omega) (by omega) ?_ | refine pb_ald0 g dX8_told_46 (by omega) ?_ | refine pb_ald1 g dX8_told_46 (by omega) ?_ | refine pb_ald2 g dX8_told_46 (by omega) ?_ | refine pb_ald3 g dX8_told_46 (by omega) ?_ | refine pb_iald g dX8_told_46 (by first | exact mr_traySort | exact mr_order | exact mr_kind | exact mr_heaps | exact mr_m | exact mr_line | exact mr_other | exact mr_ways | exact mr_next | exact mr_chances | exact mr_after | exact mr_far | exact mr_groups | exact mr_found | exact mr_counts | exact mr_traySize | exact mr_cells | exact mr_moved | exact mr_traced | assumption) (by assumption) ?_
                  rw [(d3 t0 ht0).1, hts1]
                  refine pb_if_geN g 53 dX8_told_47 (by decide) (by omega) ?_
                  refine pb_iload_n3 g dX8_told_53 ?_
                  refine pb_if_lt g 72 dX8_told_54 (by decide) (fun c54 => ?_) (fun c54 => ?_)
                  · refine pb_bipush (v := -12) g dX8_told_72 (by decide) ?_
                    refine pb_iret g z dX8_told_74 ?_
                    exact ⟨_, rfl, by rw [e], by rw [e]; exact ⟨_, _, _, _, _, _, _, _, _, _, _, _, _, _, _, _, _, _, _, rfl, d1, d2, d3, d4, d5⟩⟩
                  · exact absurd hi0 c54
                · exact absurd rfl c35
              · exact absurd c13 (by omega)
          · obtain ⟨i0, hi1, rfl⟩ := nI_of hi0
            by_cases hh : zz t0 < i0 + n
            · have e : sTold ((n, P, S, sd), (σ, μ, K, Hh), (ts, zz, it), (ra, tr)) (nI t0) (nI a0) (nI i0) = (-12, ((n, P, S, sd), (σ, μ, K, Hh), (ts, zz, it), (ra, tr))) := by
                simp only [sTold, htx, hsx]
                rw [if_neg hB, if_neg hmi, if_pos (Or.inr (by rw [nI_clamp hi1]; exact hh))]
              by_cases hzn : n ≤ zz t0
              · have : True := trivial
                refine pb_iload_n1 g dX8_told_0 ?_
                refine pb_Si1 g qX8_94 dX8_told_1 (k + 5) (by omega) (m_isTrayT (k + 5) _ (by assumption) _) (fun r1 h1 e1 => ?_)
                obtain ⟨rfl, rfl⟩ := e1
                first | refine pb_if_eqN g 16 dX8_told_4 (by decide) (by omega) (fun c4 => ?_) (fun c4 => ?_) | refine pb_if_eq g 16 dX8_told_4 (by decide) (fun c4 => ?_) (fun c4 => ?_)
                · exact absurd c4 (by decide)
                · refine pb_iload_n2 g dX8_told_7 ?_
                  refine pb_if_ltN g 16 dX8_told_8 (by decide) (by omega) ?_
                  refine pb_iload_n2 g dX8_told_11 ?_
                  refine pb_iconst (v := nI 2) g dX8_told_12 (by decide) ?_
                  first | refine pb_icmp_leN g 19 dX8_told_13 (by decide) (by omega) (by omega) (fun c13 => ?_) (fun c13 => ?_) | refine pb_icmp_le g 19 dX8_told_13 (by decide) (fun c13 => ?_) (fun c13 => ?_)
                  · refine pb_aload_n0 g dX8_told_19 ?_
                    refine pb_getf g fX8_57 dX8_told_20 mr_o rfl ?_
                    refine pb_iload_n1 g dX8_told_23 ?_
                    first | refine pb_ialdN g dX8_told_24 (by first | exact mr_traySort | exact mr_order | exact mr_kind | exact mr_heaps | exact mr_m | exact mr_line | exact mr_other | exact mr_ways | exact mr_next | exact mr_chances | exact mr_after | exact mr_far | exact mr_groups | exact mr_found | exact mr_counts | exact mr_traySize | exact mr_cells | exact mr_moved | exact mr_traced | assumption) (by omega) (by omega) ?_ | refine pb_ald0 g dX8_told_24 (by omega) ?_ | refine pb_ald1 g dX8_told_24 (by omega) ?_ | refine pb_ald2 g dX8_told_24 (by omega) ?_ | refine pb_ald3 g dX8_told_24 (by omega) ?_ | refine pb_iald g dX8_told_24 (by first | exact mr_traySort | exact mr_order | exact mr_kind | exact mr_heaps | exact mr_m | exact mr_line | exact mr_other | exact mr_ways | exact mr_next | exact mr_chances | exact mr_after | exact mr_far | exact mr_groups | exact mr_found | exact mr_counts | exact mr_traySize | exact mr_cells | exact mr_moved | exact mr_traced | assumption) (by assumption) ?_
                    rw [(d3 t0 ht0).1, hts1]
                    refine pb_if_ltN g 41 dX8_told_25 (by decide) (by omega) ?_
                    refine pb_aload_n0 g dX8_told_28 ?_
                    refine pb_getf g fX8_57 dX8_told_29 mr_o rfl ?_
                    refine pb_iload_n1 g dX8_told_32 ?_
                    first | refine pb_ialdN g dX8_told_33 (by first | exact mr_traySort | exact mr_order | exact mr_kind | exact mr_heaps | exact mr_m | exact mr_line | exact mr_other | exact mr_ways | exact mr_next | exact mr_chances | exact mr_after | exact mr_far | exact mr_groups | exact mr_found | exact mr_counts | exact mr_traySize | exact mr_cells | exact mr_moved | exact mr_traced | assumption) (by omega) (by omega) ?_ | refine pb_ald0 g dX8_told_33 (by omega) ?_ | refine pb_ald1 g dX8_told_33 (by omega) ?_ | refine pb_ald2 g dX8_told_33 (by omega) ?_ | refine pb_ald3 g dX8_told_33 (by omega) ?_ | refine pb_iald g dX8_told_33 (by first | exact mr_traySort | exact mr_order | exact mr_kind | exact mr_heaps | exact mr_m | exact mr_line | exact mr_other | exact mr_ways | exact mr_next | exact mr_chances | exact mr_after | exact mr_far | exact mr_groups | exact mr_found | exact mr_counts | exact mr_traySize | exact mr_cells | exact mr_moved | exact mr_traced | assumption) (by assumption) ?_
                    rw [(d3 t0 ht0).1, hts1]
                    refine pb_iload_n2 g dX8_told_34 ?_
                    first | refine pb_icmp_eqN g 41 dX8_told_35 (by decide) (by omega) (by omega) (fun c35 => ?_) (fun c35 => ?_) | refine pb_icmp_eq g 41 dX8_told_35 (by decide) (fun c35 => ?_) (fun c35 => ?_)
                    · refine pb_aload_n0 g dX8_told_41 ?_
                      refine pb_getf g fX8_57 dX8_told_42 mr_o rfl ?_
                      refine pb_iload_n1 g dX8_told_45 ?_
                      first | refine pb_ialdN g dX8_told_46 (by first | exact mr_traySort | exact mr_order | exact mr_kind | exact mr_heaps | exact mr_m | exact mr_line | exact mr_other | exact mr_ways | exact mr_next | exact mr_chances | exact mr_after | exact mr_far | exact mr_groups | exact mr_found | exact mr_counts | exact mr_traySize | exact mr_cells | exact mr_moved | exact mr_traced | assumption) (by omega) (by omega) ?_ | refine pb_ald0 g dX8_told_46 (by omega) ?_ | refine pb_ald1 g dX8_told_46 (by omega) ?_ | refine pb_ald2 g dX8_told_46 (by omega) ?_ | refine pb_ald3 g dX8_told_46 (by omega) ?_ | refine pb_iald g dX8_told_46 (by first | exact mr_traySort | exact mr_order | exact mr_kind | exact mr_heaps | exact mr_m | exact mr_line | exact mr_other | exact mr_ways | exact mr_next | exact mr_chances | exact mr_after | exact mr_far | exact mr_groups | exact mr_found | exact mr_counts | exact mr_traySize | exact mr_cells | exact mr_moved | exact mr_traced | assumption) (by assumption) ?_
                      rw [(d3 t0 ht0).1, hts1]
                      refine pb_if_geN g 53 dX8_told_47 (by decide) (by omega) ?_
                      refine pb_iload_n3 g dX8_told_53 ?_
                      refine pb_if_ltN g 72 dX8_told_54 (by decide) (by omega) ?_
                      refine pb_iload_n3 g dX8_told_57 ?_
                      refine pb_aload_n0 g dX8_told_58 ?_
                      refine pb_getf g fX8_60 dX8_told_59 mr_o rfl ?_
                      refine pb_iload_n1 g dX8_told_62 ?_
                      first | refine pb_ialdN g dX8_told_63 (by first | exact mr_traySize | exact mr_traySort | exact mr_order | exact mr_kind | exact mr_heaps | exact mr_m | exact mr_line | exact mr_other | exact mr_ways | exact mr_next | exact mr_chances | exact mr_after | exact mr_far | exact mr_groups | exact mr_found | exact mr_counts | exact mr_cells | exact mr_moved | exact mr_traced | assumption) (by omega) (by omega) ?_ | refine pb_ald0 g dX8_told_63 (by omega) ?_ | refine pb_ald1 g dX8_told_63 (by omega) ?_ | refine pb_ald2 g dX8_told_63 (by omega) ?_ | refine pb_ald3 g dX8_told_63 (by omega) ?_ | refine pb_iald g dX8_told_63 (by first | exact mr_traySize | exact mr_traySort | exact mr_order | exact mr_kind | exact mr_heaps | exact mr_m | exact mr_line | exact mr_other | exact mr_ways | exact mr_next | exact mr_chances | exact mr_after | exact mr_far | exact mr_groups | exact mr_found | exact mr_counts | exact mr_cells | exact mr_moved | exact mr_traced | assumption) (by assumption) ?_
                      rw [(d3 t0 ht0).2.1]
                      refine pb_aload_n0 g dX8_told_64 ?_
                      refine pb_getf g fX8_7 dX8_told_65 mr_o rfl ?_
                      first | refine pb_isubN g dX8_told_68 (by omega) ?_ | refine pb_isub g dX8_told_68 ?_
                      first | refine pb_icmp_leN g 75 dX8_told_69 (by decide) (by omega) (by omega) (fun c69 => ?_) (fun c69 => ?_) | refine pb_icmp_le g 75 dX8_told_69 (by decide) (fun c69 => ?_) (fun c69 => ?_)
                      · exact absurd c69 (by omega)
                      · refine pb_bipush (v := -12) g dX8_told_72 (by decide) ?_
                        refine pb_iret g z dX8_told_74 ?_
                        exact ⟨_, rfl, by rw [e], by rw [e]; exact ⟨_, _, _, _, _, _, _, _, _, _, _, _, _, _, _, _, _, _, _, rfl, d1, d2, d3, d4, d5⟩⟩
                    · exact absurd rfl c35
                  · exact absurd c13 (by omega)
              · have hlt : nI (zz t0) - nI n < nI i0 := Int32.lt_of_lt_of_le (sub_neg hz40 (by omega) (by omega)) (nI_pos' hi1)
                refine pb_iload_n1 g dX8_told_0 ?_
                refine pb_Si1 g qX8_94 dX8_told_1 (k + 5) (by omega) (m_isTrayT (k + 5) _ (by assumption) _) (fun r1 h1 e1 => ?_)
                obtain ⟨rfl, rfl⟩ := e1
                first | refine pb_if_eqN g 16 dX8_told_4 (by decide) (by omega) (fun c4 => ?_) (fun c4 => ?_) | refine pb_if_eq g 16 dX8_told_4 (by decide) (fun c4 => ?_) (fun c4 => ?_)
                · exact absurd c4 (by decide)
                · refine pb_iload_n2 g dX8_told_7 ?_
                  refine pb_if_ltN g 16 dX8_told_8 (by decide) (by omega) ?_
                  refine pb_iload_n2 g dX8_told_11 ?_
                  refine pb_iconst (v := nI 2) g dX8_told_12 (by decide) ?_
                  first | refine pb_icmp_leN g 19 dX8_told_13 (by decide) (by omega) (by omega) (fun c13 => ?_) (fun c13 => ?_) | refine pb_icmp_le g 19 dX8_told_13 (by decide) (fun c13 => ?_) (fun c13 => ?_)
                  · refine pb_aload_n0 g dX8_told_19 ?_
                    refine pb_getf g fX8_57 dX8_told_20 mr_o rfl ?_
                    refine pb_iload_n1 g dX8_told_23 ?_
                    first | refine pb_ialdN g dX8_told_24 (by first | exact mr_traySort | exact mr_order | exact mr_kind | exact mr_heaps | exact mr_m | exact mr_line | exact mr_other | exact mr_ways | exact mr_next | exact mr_chances | exact mr_after | exact mr_far | exact mr_groups | exact mr_found | exact mr_counts | exact mr_traySize | exact mr_cells | exact mr_moved | exact mr_traced | assumption) (by omega) (by omega) ?_ | refine pb_ald0 g dX8_told_24 (by omega) ?_ | refine pb_ald1 g dX8_told_24 (by omega) ?_ | refine pb_ald2 g dX8_told_24 (by omega) ?_ | refine pb_ald3 g dX8_told_24 (by omega) ?_ | refine pb_iald g dX8_told_24 (by first | exact mr_traySort | exact mr_order | exact mr_kind | exact mr_heaps | exact mr_m | exact mr_line | exact mr_other | exact mr_ways | exact mr_next | exact mr_chances | exact mr_after | exact mr_far | exact mr_groups | exact mr_found | exact mr_counts | exact mr_traySize | exact mr_cells | exact mr_moved | exact mr_traced | assumption) (by assumption) ?_
                    rw [(d3 t0 ht0).1, hts1]
                    refine pb_if_ltN g 41 dX8_told_25 (by decide) (by omega) ?_
                    refine pb_aload_n0 g dX8_told_28 ?_
                    refine pb_getf g fX8_57 dX8_told_29 mr_o rfl ?_
                    refine pb_iload_n1 g dX8_told_32 ?_
                    first | refine pb_ialdN g dX8_told_33 (by first | exact mr_traySort | exact mr_order | exact mr_kind | exact mr_heaps | exact mr_m | exact mr_line | exact mr_other | exact mr_ways | exact mr_next | exact mr_chances | exact mr_after | exact mr_far | exact mr_groups | exact mr_found | exact mr_counts | exact mr_traySize | exact mr_cells | exact mr_moved | exact mr_traced | assumption) (by omega) (by omega) ?_ | refine pb_ald0 g dX8_told_33 (by omega) ?_ | refine pb_ald1 g dX8_told_33 (by omega) ?_ | refine pb_ald2 g dX8_told_33 (by omega) ?_ | refine pb_ald3 g dX8_told_33 (by omega) ?_ | refine pb_iald g dX8_told_33 (by first | exact mr_traySort | exact mr_order | exact mr_kind | exact mr_heaps | exact mr_m | exact mr_line | exact mr_other | exact mr_ways | exact mr_next | exact mr_chances | exact mr_after | exact mr_far | exact mr_groups | exact mr_found | exact mr_counts | exact mr_traySize | exact mr_cells | exact mr_moved | exact mr_traced | assumption) (by assumption) ?_
                    rw [(d3 t0 ht0).1, hts1]
                    refine pb_iload_n2 g dX8_told_34 ?_
                    first | refine pb_icmp_eqN g 41 dX8_told_35 (by decide) (by omega) (by omega) (fun c35 => ?_) (fun c35 => ?_) | refine pb_icmp_eq g 41 dX8_told_35 (by decide) (fun c35 => ?_) (fun c35 => ?_)
                    · refine pb_aload_n0 g dX8_told_41 ?_
                      refine pb_getf g fX8_57 dX8_told_42 mr_o rfl ?_
                      refine pb_iload_n1 g dX8_told_45 ?_
                      first | refine pb_ialdN g dX8_told_46 (by first | exact mr_traySort | exact mr_order | exact mr_kind | exact mr_heaps | exact mr_m | exact mr_line | exact mr_other | exact mr_ways | exact mr_next | exact mr_chances | exact mr_after | exact mr_far | exact mr_groups | exact mr_found | exact mr_counts | exact mr_traySize | exact mr_cells | exact mr_moved | exact mr_traced | assumption) (by omega) (by omega) ?_ | refine pb_ald0 g dX8_told_46 (by omega) ?_ | refine pb_ald1 g dX8_told_46 (by omega) ?_ | refine pb_ald2 g dX8_told_46 (by omega) ?_ | refine pb_ald3 g dX8_told_46 (by omega) ?_ | refine pb_iald g dX8_told_46 (by first | exact mr_traySort | exact mr_order | exact mr_kind | exact mr_heaps | exact mr_m | exact mr_line | exact mr_other | exact mr_ways | exact mr_next | exact mr_chances | exact mr_after | exact mr_far | exact mr_groups | exact mr_found | exact mr_counts | exact mr_traySize | exact mr_cells | exact mr_moved | exact mr_traced | assumption) (by assumption) ?_
                      rw [(d3 t0 ht0).1, hts1]
                      refine pb_if_geN g 53 dX8_told_47 (by decide) (by omega) ?_
                      refine pb_iload_n3 g dX8_told_53 ?_
                      refine pb_if_ltN g 72 dX8_told_54 (by decide) (by omega) ?_
                      refine pb_iload_n3 g dX8_told_57 ?_
                      refine pb_aload_n0 g dX8_told_58 ?_
                      refine pb_getf g fX8_60 dX8_told_59 mr_o rfl ?_
                      refine pb_iload_n1 g dX8_told_62 ?_
                      first | refine pb_ialdN g dX8_told_63 (by first | exact mr_traySize | exact mr_traySort | exact mr_order | exact mr_kind | exact mr_heaps | exact mr_m | exact mr_line | exact mr_other | exact mr_ways | exact mr_next | exact mr_chances | exact mr_after | exact mr_far | exact mr_groups | exact mr_found | exact mr_counts | exact mr_cells | exact mr_moved | exact mr_traced | assumption) (by omega) (by omega) ?_ | refine pb_ald0 g dX8_told_63 (by omega) ?_ | refine pb_ald1 g dX8_told_63 (by omega) ?_ | refine pb_ald2 g dX8_told_63 (by omega) ?_ | refine pb_ald3 g dX8_told_63 (by omega) ?_ | refine pb_iald g dX8_told_63 (by first | exact mr_traySize | exact mr_traySort | exact mr_order | exact mr_kind | exact mr_heaps | exact mr_m | exact mr_line | exact mr_other | exact mr_ways | exact mr_next | exact mr_chances | exact mr_after | exact mr_far | exact mr_groups | exact mr_found | exact mr_counts | exact mr_cells | exact mr_moved | exact mr_traced | assumption) (by assumption) ?_
                      rw [(d3 t0 ht0).2.1]
                      refine pb_aload_n0 g dX8_told_64 ?_
                      refine pb_getf g fX8_7 dX8_told_65 mr_o rfl ?_
                      refine pb_isub g dX8_told_68 ?_
                      first | refine pb_icmp_leN g 75 dX8_told_69 (by decide) (by omega) (by omega) (fun c69 => ?_) (fun c69 => ?_) | refine pb_icmp_le g 75 dX8_told_69 (by decide) (fun c69 => ?_) (fun c69 => ?_)
                      · exact absurd hlt (Int32.not_lt.mpr c69)
                      · refine pb_bipush (v := -12) g dX8_told_72 (by decide) ?_
                        refine pb_iret g z dX8_told_74 ?_
                        exact ⟨_, rfl, by rw [e], by rw [e]; exact ⟨_, _, _, _, _, _, _, _, _, _, _, _, _, _, _, _, _, _, _, rfl, d1, d2, d3, d4, d5⟩⟩
                    · exact absurd rfl c35
                  · exact absurd c13 (by omega)
            · have hD3 : ∀ j, j < n → xce (40 * t0 + i0 + j) = it t0 (i0 + j) := fun j hj => by rw [Nat.add_assoc]; exact (d3 t0 ht0).2.2 _ (by omega)
              have hcong : isS (fun j => xce (40 * t0 + i0 + j)) n n = isS (fun j => it t0 ((nI i0).toNatClampNeg + j)) n n := by
                rw [nI_clamp hi1]
                exact isS_congr n hD3
              have e0 : sTold ((n, P, S, sd), (σ, μ, K, Hh), (ts, zz, it), (ra, tr)) (nI t0) (nI a0) (nI i0) = if (isS (fun j => xce (40 * t0 + i0 + j)) n n).isNone then (-3, ((n, P, S, sd), (σ, μ, K, Hh), (ts, zz, it), (ra, tr))) else if P = 12 then (-4, ((n, P, S, sd), (σ, μ, K, Hh), (ts, zz, it), (ra, tr))) else (nI P, ((n, P + 1, S, sd), (va_up σ P (fun j => (it t0 (i0 + j)).toNatClampNeg), μ, K, Hh), (ts, zz, it), (ra, tr))) := by
                rw [hcong]
                simp only [sTold, htx, hsx]
                rw [if_neg hB, if_neg hmi, if_neg (fun z => z.elim hi0 (fun w => hh (by rw [nI_clamp hi1] at w; exact w))), nI_clamp hi1]
              have loop : ∀ j, j ≤ n → ∀ s (w6 : Option Value), isS (fun j => xce (40 * t0 + i0 + j)) n j = some s → PB Γ 81 [some (.ref 0), some (.int (nI t0)), some (.int (nI a0)), some (.int (nI i0)), some (.int (nI s)), some (.int (nI j)), w6] [] (mkH 20 (mdF (nI n) (nI P) (nI S) (sd) xod xkn xhs xmm xln xot xwy xnx xch xaf xfa xgr xfo xco xtsr xtsz xce xmv xtc (nI ra))) := by
                refine pb_loop n (fun j hj ih s w6 hs => ?_)
                have hsl := isS_lt _ n (by omega) j s hs
                have hp : 2 ^ n ≤ 2 ^ 10 := Nat.pow_le_pow_right (by decide) hn
                by_cases hjn : j < n
                · have ih := ih hjn
                  have hbad : (xce (40 * t0 + i0 + j) < 0 ∨ nI n ≤ xce (40 * t0 + i0 + j) ∨ s / 2 ^ (xce (40 * t0 + i0 + j)).toNatClampNeg % 2 = 1) → sTold ((n, P, S, sd), (σ, μ, K, Hh), (ts, zz, it), (ra, tr)) (nI t0) (nI a0) (nI i0) = (-3, ((n, P, S, sd), (σ, μ, K, Hh), (ts, zz, it), (ra, tr))) := fun q => by
                    have e1 : isS (fun j => xce (40 * t0 + i0 + j)) n (j + 1) = none := by
                      rw [isS, hs]
                      dsimp only
                      rw [if_pos q]
                    have e2 := isS_none _ n e1 (n - (j + 1))
                    rw [show j + 1 + (n - (j + 1)) = n by omega] at e2
                    rw [e0, e2]
                    rfl
                  by_cases hin : inN (xce (40 * t0 + i0 + j)) n
                  · obtain ⟨c, hc, he⟩ := hin
                    have hdiv : s / 2 ^ c < 2 ^ 31 := Nat.lt_of_le_of_lt (Nat.div_le_self _ _) (by omega)
                    have ecl : (xce (40 * t0 + i0 + j)).toNatClampNeg = c := by rw [he]; exact nI_clamp (by omega)
                    by_cases hbit : s / 2 ^ c % 2 = 1
                    · have e := hbad (Or.inr (Or.inr (by rw [ecl]; exact hbit)))
                      refine pb_iload5 g dX8_told_81 ?_
                      refine pb_aload_n0 g dX8_told_83 ?_
                      refine pb_getf g fX8_7 dX8_told_84 mr_o rfl ?_
                      first | refine pb_icmp_geN g 144 dX8_told_87 (by decide) (by omega) (by omega) (fun c87 => ?_) (fun c87 => ?_) | refine pb_icmp_ge g 144 dX8_told_87 (by decide) (fun c87 => ?_) (fun c87 => ?_)
                      · exact absurd c87 (by omega)
                      · refine pb_aload_n0 g dX8_told_90 ?_
                        refine pb_getf g fX8_63 dX8_told_91 mr_o rfl ?_
                        refine pb_bipush (v := nI 40) g dX8_told_94 (by decide) ?_
                        refine pb_iload_n1 g dX8_told_96 ?_
                        first | refine pb_imulN g dX8_told_97 ?_ | refine pb_imul g dX8_told_97 ?_
                        refine pb_iload_n3 g dX8_told_98 ?_
                        first | refine pb_iaddN g dX8_told_99 ?_ | refine pb_iadd g dX8_told_99 ?_
                        refine pb_iload5 g dX8_told_100 ?_
                        first | refine pb_iaddN g dX8_told_102 ?_ | refine pb_iadd g dX8_told_102 ?_
                        first | refine pb_ialdN g dX8_told_103 (by first | exact mr_cells | exact mr_order | exact mr_kind | exact mr_heaps | exact mr_m | exact mr_line | exact mr_other | exact mr_ways | exact mr_next | exact mr_chances | exact mr_after | exact mr_far | exact mr_groups | exact mr_found | exact mr_counts | exact mr_traySort | exact mr_traySize | exact mr_moved | exact mr_traced | assumption) (by omega) (by omega) ?_ | refine pb_ald0 g dX8_told_103 (by omega) ?_ | refine pb_ald1 g dX8_told_103 (by omega) ?_ | refine pb_ald2 g dX8_told_103 (by omega) ?_ | refine pb_ald3 g dX8_told_103 (by omega) ?_ | refine pb_iald g dX8_told_103 (by first | exact mr_cells | exact mr_order | exact mr_kind | exact mr_heaps | exact mr_m | exact mr_line | exact mr_other | exact mr_ways | exact mr_next | exact mr_chances | exact mr_after | exact mr_far | exact mr_groups | exact mr_found | exact mr_counts | exact mr_traySort | exact mr_traySize | exact mr_moved | exact mr_traced | assumption) (by assumption) ?_
                        rw [he]
                        refine pb_istore6 g dX8_told_104 (by decide) ?_
                        refine pb_aload_n0 g dX8_told_106 ?_
                        refine pb_iload6 g dX8_told_107 ?_
                        refine pb_Vi1 g qX8_98 dX8_told_109 (k + 5) (by omega) mr_o (m_isPlaceT (k + 5) (by assumption) hn) (fun r109 h109 e109 => ?_)
                        obtain ⟨rfl, rfl⟩ := e109
                        first | refine pb_if_eqN g 126 dX8_told_112 (by decide) (by omega) (fun c112 => ?_) (fun c112 => ?_) | refine pb_if_eq g 126 dX8_told_112 (by decide) (fun c112 => ?_) (fun c112 => ?_)
                        · exact absurd c112 (by decide)
                        · refine pb_iload4 g dX8_told_115 ?_
                          refine pb_iload6 g dX8_told_117 ?_
                          first | refine pb_ishrN g dX8_told_119 (by omega) (by omega) ?_ | refine pb_ishr g dX8_told_119 ?_
                          refine pb_iconst (v := nI 1) g dX8_told_120 (by decide) ?_
                          first | refine pb_iandN g dX8_told_121 (by omega) ?_ | refine pb_iand g dX8_told_121 ?_
                          refine pb_iconst (v := nI 1) g dX8_told_122 (by decide) ?_
                          first | refine pb_icmp_neN g 129 dX8_told_123 (by decide) (by omega) (by omega) (fun c123 => ?_) (fun c123 => ?_) | refine pb_icmp_ne g 129 dX8_told_123 (by decide) (fun c123 => ?_) (fun c123 => ?_)
                          · exact absurd c123 (by omega)
                          · refine pb_bipush (v := -3) g dX8_told_126 (by decide) ?_
                            refine pb_iret g z dX8_told_128 ?_
                            exact ⟨_, rfl, by rw [e], by rw [e]; exact ⟨_, _, _, _, _, _, _, _, _, _, _, _, _, _, _, _, _, _, _, rfl, d1, d2, d3, d4, d5⟩⟩
                    · have ih := ih (s ||| 2 ^ c)
                      refine pb_iload5 g dX8_told_81 ?_
                      refine pb_aload_n0 g dX8_told_83 ?_
                      refine pb_getf g fX8_7 dX8_told_84 mr_o rfl ?_
                      first | refine pb_icmp_geN g 144 dX8_told_87 (by decide) (by omega) (by omega) (fun c87 => ?_) (fun c87 => ?_) | refine pb_icmp_ge g 144 dX8_told_87 (by decide) (fun c87 => ?_) (fun c87 => ?_)
                      · exact absurd c87 (by omega)
                      · refine pb_aload_n0 g dX8_told_90 ?_
                        refine pb_getf g fX8_63 dX8_told_91 mr_o rfl ?_
                        refine pb_bipush (v := nI 40) g dX8_told_94 (by decide) ?_
                        refine pb_iload_n1 g dX8_told_96 ?_
                        first | refine pb_imulN g dX8_told_97 ?_ | refine pb_imul g dX8_told_97 ?_
                        refine pb_iload_n3 g dX8_told_98 ?_
                        first | refine pb_iaddN g dX8_told_99 ?_ | refine pb_iadd g dX8_told_99 ?_
                        refine pb_iload5 g dX8_told_100 ?_
                        first | refine pb_iaddN g dX8_told_102 ?_ | refine pb_iadd g dX8_told_102 ?_
                        first | refine pb_ialdN g dX8_told_103 (by first | exact mr_cells | exact mr_order | exact mr_kind | exact mr_heaps | exact mr_m | exact mr_line | exact mr_other | exact mr_ways | exact mr_next | exact mr_chances | exact mr_after | exact mr_far | exact mr_groups | exact mr_found | exact mr_counts | exact mr_traySort | exact mr_traySize | exact mr_moved | exact mr_traced | assumption) (by omega) (by omega) ?_ | refine pb_ald0 g dX8_told_103 (by omega) ?_ | refine pb_ald1 g dX8_told_103 (by omega) ?_ | refine pb_ald2 g dX8_told_103 (by omega) ?_ | refine pb_ald3 g dX8_told_103 (by omega) ?_ | refine pb_iald g dX8_told_103 (by first | exact mr_cells | exact mr_order | exact mr_kind | exact mr_heaps | exact mr_m | exact mr_line | exact mr_other | exact mr_ways | exact mr_next | exact mr_chances | exact mr_after | exact mr_far | exact mr_groups | exact mr_found | exact mr_counts | exact mr_traySort | exact mr_traySize | exact mr_moved | exact mr_traced | assumption) (by assumption) ?_
                        rw [he]
                        refine pb_istore6 g dX8_told_104 (by decide) ?_
                        refine pb_aload_n0 g dX8_told_106 ?_
                        refine pb_iload6 g dX8_told_107 ?_
                        refine pb_Vi1 g qX8_98 dX8_told_109 (k + 5) (by omega) mr_o (m_isPlaceT (k + 5) (by assumption) hn) (fun r109 h109 e109 => ?_)
                        obtain ⟨rfl, rfl⟩ := e109
                        first | refine pb_if_eqN g 126 dX8_told_112 (by decide) (by omega) (fun c112 => ?_) (fun c112 => ?_) | refine pb_if_eq g 126 dX8_told_112 (by decide) (fun c112 => ?_) (fun c112 => ?_)
                        · exact absurd c112 (by decide)
                        · refine pb_iload4 g dX8_told_115 ?_
                          refine pb_iload6 g dX8_told_117 ?_
                          first | refine pb_ishrN g dX8_told_119 (by omega) (by omega) ?_ | refine pb_ishr g dX8_told_119 ?_
                          refine pb_iconst (v := nI 1) g dX8_told_120 (by decide) ?_
                          first | refine pb_iandN g dX8_told_121 (by omega) ?_ | refine pb_iand g dX8_told_121 ?_
                          refine pb_iconst (v := nI 1) g dX8_told_122 (by decide) ?_
                          first | refine pb_icmp_neN g 129 dX8_told_123 (by decide) (by omega) (by omega) (fun c123 => ?_) (fun c123 => ?_) | refine pb_icmp_ne g 129 dX8_told_123 (by decide) (fun c123 => ?_) (fun c123 => ?_)
                          · refine pb_iload4 g dX8_told_129 ?_
                            refine pb_iconst (v := nI 1) g dX8_told_131 (by decide) ?_
                            refine pb_iload6 g dX8_told_132 ?_
                            first | refine pb_ishlN g dX8_told_134 (by omega) ?_ | refine pb_ishl g dX8_told_134 ?_
                            first | refine pb_iorN g dX8_told_135 ?_ | refine pb_ior g dX8_told_135 ?_
                            refine pb_istore4 g dX8_told_136 (by decide) ?_
                            first | refine pb_iinc5N g dX8_told_138 (by decide) ?_ | refine pb_iinc5 g dX8_told_138 (by decide) rfl ?_
                            refine pb_goto g 81 dX8_told_141 (by decide) ?_
                            refine ih _ (by
                              rw [isS, hs]
                              dsimp only
                              rw [if_neg, ecl]
                              intro q
                              rcases q with q | q | q
                              · rw [he] at q
                                exact nI_pos (by omega) q
                              · rw [he] at q
                                exact absurd ((nI_leI (by omega) (by omega)).mp q) (by omega)
                              · rw [ecl] at q
                                exact hbit q)
                          · exact absurd c123 (by omega)
                  · have hin2 := inN_not (by omega) hin
                    have e := hbad (hin2.elim Or.inl (fun q => Or.inr (Or.inl q)))
                    refine pb_iload5 g dX8_told_81 ?_
                    refine pb_aload_n0 g dX8_told_83 ?_
                    refine pb_getf g fX8_7 dX8_told_84 mr_o rfl ?_
                    first | refine pb_icmp_geN g 144 dX8_told_87 (by decide) (by omega) (by omega) (fun c87 => ?_) (fun c87 => ?_) | refine pb_icmp_ge g 144 dX8_told_87 (by decide) (fun c87 => ?_) (fun c87 => ?_)
                    · exact absurd c87 (by omega)
                    · refine pb_aload_n0 g dX8_told_90 ?_
                      refine pb_getf g fX8_63 dX8_told_91 mr_o rfl ?_
                      refine pb_bipush (v := nI 40) g dX8_told_94 (by decide) ?_
                      refine pb_iload_n1 g dX8_told_96 ?_
                      first | refine pb_imulN g dX8_told_97 ?_ | refine pb_imul g dX8_told_97 ?_
                      refine pb_iload_n3 g dX8_told_98 ?_
                      first | refine pb_iaddN g dX8_told_99 ?_ | refine pb_iadd g dX8_told_99 ?_
                      refine pb_iload5 g dX8_told_100 ?_
                      first | refine pb_iaddN g dX8_told_102 ?_ | refine pb_iadd g dX8_told_102 ?_
                      first | refine pb_ialdN g dX8_told_103 (by first | exact mr_cells | exact mr_order | exact mr_kind | exact mr_heaps | exact mr_m | exact mr_line | exact mr_other | exact mr_ways | exact mr_next | exact mr_chances | exact mr_after | exact mr_far | exact mr_groups | exact mr_found | exact mr_counts | exact mr_traySort | exact mr_traySize | exact mr_moved | exact mr_traced | assumption) (by omega) (by omega) ?_ | refine pb_ald0 g dX8_told_103 (by omega) ?_ | refine pb_ald1 g dX8_told_103 (by omega) ?_ | refine pb_ald2 g dX8_told_103 (by omega) ?_ | refine pb_ald3 g dX8_told_103 (by omega) ?_ | refine pb_iald g dX8_told_103 (by first | exact mr_cells | exact mr_order | exact mr_kind | exact mr_heaps | exact mr_m | exact mr_line | exact mr_other | exact mr_ways | exact mr_next | exact mr_chances | exact mr_after | exact mr_far | exact mr_groups | exact mr_found | exact mr_counts | exact mr_traySort | exact mr_traySize | exact mr_moved | exact mr_traced | assumption) (by assumption) ?_
                      refine pb_istore6 g dX8_told_104 (by decide) ?_
                      refine pb_aload_n0 g dX8_told_106 ?_
                      refine pb_iload6 g dX8_told_107 ?_
                      refine pb_Vi1 g qX8_98 dX8_told_109 (k + 5) (by omega) mr_o (m_isPlaceF (k + 5) (by assumption) hn) (fun r109 h109 e109 => ?_)
                      obtain ⟨rfl, rfl⟩ := e109
                      first | refine pb_if_eqN g 126 dX8_told_112 (by decide) (by omega) (fun c112 => ?_) (fun c112 => ?_) | refine pb_if_eq g 126 dX8_told_112 (by decide) (fun c112 => ?_) (fun c112 => ?_)
                      · refine pb_bipush (v := -3) g dX8_told_126 (by decide) ?_
                        refine pb_iret g z dX8_told_128 ?_
                        exact ⟨_, rfl, by rw [e], by rw [e]; exact ⟨_, _, _, _, _, _, _, _, _, _, _, _, _, _, _, _, _, _, _, rfl, d1, d2, d3, d4, d5⟩⟩
                      · exact absurd c112 (by decide)
                · obtain rfl : j = n := by omega
                  obtain ⟨p1, p2⟩ := isS_pm (by omega) hs
                  by_cases hP12 : P = 12
                  · have e : sTold ((j, P, S, sd), (σ, μ, K, Hh), (ts, zz, it), (ra, tr)) (nI t0) (nI a0) (nI i0) = (-4, ((j, P, S, sd), (σ, μ, K, Hh), (ts, zz, it), (ra, tr))) := by
                      rw [e0, hs, if_neg (by simp), if_pos hP12]
                    refine pb_iload5 g dX8_told_81 ?_
                    refine pb_aload_n0 g dX8_told_83 ?_
                    refine pb_getf g fX8_7 dX8_told_84 mr_o rfl ?_
                    first | refine pb_icmp_geN g 144 dX8_told_87 (by decide) (by omega) (by omega) (fun c87 => ?_) (fun c87 => ?_) | refine pb_icmp_ge g 144 dX8_told_87 (by decide) (fun c87 => ?_) (fun c87 => ?_)
                    · refine pb_aload_n0 g dX8_told_144 ?_
                      refine pb_getf g fX8_72 dX8_told_145 mr_o rfl ?_
                      refine pb_bipush (v := nI 12) g dX8_told_148 (by decide) ?_
                      first | refine pb_icmp_neN g 156 dX8_told_150 (by decide) (by omega) (by omega) (fun c150 => ?_) (fun c150 => ?_) | refine pb_icmp_ne g 156 dX8_told_150 (by decide) (fun c150 => ?_) (fun c150 => ?_)
                      · exact absurd hP12 c150
                      · refine pb_bipush (v := -4) g dX8_told_153 (by decide) ?_
                        refine pb_iret g z dX8_told_155 ?_
                        exact ⟨_, rfl, by rw [e], by rw [e]; exact ⟨_, _, _, _, _, _, _, _, _, _, _, _, _, _, _, _, _, _, _, rfl, d1, d2, d3, d4, d5⟩⟩
                    · exact absurd c87 (by omega)
                  · have e : sTold ((j, P, S, sd), (σ, μ, K, Hh), (ts, zz, it), (ra, tr)) (nI t0) (nI a0) (nI i0) = (nI P, ((j, P + 1, S, sd), (va_up σ P (fun a => (it t0 (i0 + a)).toNatClampNeg), μ, K, Hh), (ts, zz, it), (ra, tr))) := by
                      rw [e0, hs, if_neg (by simp), if_neg hP12]
                    have loop2 : ∀ b, b ≤ j → PB Γ 159 [some (.ref 0), some (.int (nI t0)), some (.int (nI a0)), some (.int (nI i0)), some (.int (nI s)), some (.int (nI b)), w6] [] (mkH 20 (mdF (nI j) (nI P) (nI S) (sd) xod xkn xhs xmm (wrF xln (fun a => xce (40 * t0 + i0 + a)) b) xot xwy xnx xch xaf xfa xgr xfo xco xtsr xtsz xce xmv xtc (nI ra))) := by
                      refine pb_loop j (fun b hb ih2 => ?_)
                      refine pb_iload5 g dX8_told_159 ?_
                      refine pb_aload_n0 g dX8_told_161 ?_
                      refine pb_getf g fX8_7 dX8_told_162 mr_o rfl ?_
                      first | refine pb_icmp_geN g 195 dX8_told_165 (by decide) (by omega) (by omega) (fun c165 => ?_) (fun c165 => ?_) | refine pb_icmp_ge g 195 dX8_told_165 (by decide) (fun c165 => ?_) (fun c165 => ?_)
                      · refine pb_aload_n0 g dX8_told_195 ?_
                        refine pb_Vi0 g qX8_86 dX8_told_196 (k + 5) (by omega) mr_o (m_comes (k + 5) (n := j) (P := P) hn (by omega)) (fun r196 h196 e196 => ?_)
                        obtain ⟨rfl, rfl⟩ := e196
                        refine pb_iret g z dX8_told_199 ?_
                        obtain rfl : b = j := by omega
                        exact ⟨_, rfl, by rw [e], by rw [e]; exact ⟨_, _, _, _, _, _, _, _, _, _, _, _, _, _, _, _, _, _, _, rfl, m1_up hn d1 (fun a ha => by
                          rw [wr_at _ _ b a ha, p2 a ha]
                          congr 1
                          rw [hD3 a ha]) (fun p h1 h2 => by omega), d2, d3, d4, d5⟩⟩
                      · refine pb_aload_n0 g dX8_told_168 ?_
                        refine pb_getf g fX8_26 dX8_told_169 mr_o rfl ?_
                        refine pb_iload5 g dX8_told_172 ?_
                        refine pb_aload_n0 g dX8_told_174 ?_
                        refine pb_getf g fX8_63 dX8_told_175 mr_o rfl ?_
                        refine pb_bipush (v := nI 40) g dX8_told_178 (by decide) ?_
                        refine pb_iload_n1 g dX8_told_180 ?_
                        first | refine pb_imulN g dX8_told_181 ?_ | refine pb_imul g dX8_told_181 ?_
                        refine pb_iload_n3 g dX8_told_182 ?_
                        first | refine pb_iaddN g dX8_told_183 ?_ | refine pb_iadd g dX8_told_183 ?_
                        refine pb_iload5 g dX8_told_184 ?_
                        first | refine pb_iaddN g dX8_told_186 ?_ | refine pb_iadd g dX8_told_186 ?_
                        first | refine pb_ialdN g dX8_told_187 (by first | exact mr_cells | exact mr_line | exact mr_order | exact mr_kind | exact mr_heaps | exact mr_m | exact mr_other | exact mr_ways | exact mr_next | exact mr_chances | exact mr_after | exact mr_far | exact mr_groups | exact mr_found | exact mr_counts | exact mr_traySort | exact mr_traySize | exact mr_moved | exact mr_traced | assumption) (by omega) (by omega) ?_ | refine pb_ald0 g dX8_told_187 (by omega) ?_ | refine pb_ald1 g dX8_told_187 (by omega) ?_ | refine pb_ald2 g dX8_told_187 (by omega) ?_ | refine pb_ald3 g dX8_told_187 (by omega) ?_ | refine pb_iald g dX8_told_187 (by first | exact mr_cells | exact mr_line | exact mr_order | exact mr_kind | exact mr_heaps | exact mr_m | exact mr_other | exact mr_ways | exact mr_next | exact mr_chances | exact mr_after | exact mr_far | exact mr_groups | exact mr_found | exact mr_counts | exact mr_traySort | exact mr_traySize | exact mr_moved | exact mr_traced | assumption) (by assumption) ?_
                        first | refine pb_iastN g dX8_told_188 (by first | exact mr_cells | exact mr_line | exact mr_order | exact mr_kind | exact mr_heaps | exact mr_m | exact mr_other | exact mr_ways | exact mr_next | exact mr_chances | exact mr_after | exact mr_far | exact mr_groups | exact mr_found | exact mr_counts | exact mr_traySort | exact mr_traySize | exact mr_moved | exact mr_traced | assumption) (by omega) (by omega) ?_ | refine pb_iast g dX8_told_188 (by first | exact mr_cells | exact mr_line | exact mr_order | exact mr_kind | exact mr_heaps | exact mr_m | exact mr_other | exact mr_ways | exact mr_next | exact mr_chances | exact mr_after | exact mr_far | exact mr_groups | exact mr_found | exact mr_counts | exact mr_traySort | exact mr_traySize | exact mr_moved | exact mr_traced | assumption) (by assumption) ?_
                        first | rw [ms_cells] | rw [ms_line]
                        first | refine pb_iinc5N g dX8_told_189 (by decide) ?_ | refine pb_iinc5 g dX8_told_189 (by decide) rfl ?_
                        refine pb_goto g 159 dX8_told_192 (by decide) ?_
                        exact ih2 c165
                    refine pb_iload5 g dX8_told_81 ?_
                    refine pb_aload_n0 g dX8_told_83 ?_
                    refine pb_getf g fX8_7 dX8_told_84 mr_o rfl ?_
                    first | refine pb_icmp_geN g 144 dX8_told_87 (by decide) (by omega) (by omega) (fun c87 => ?_) (fun c87 => ?_) | refine pb_icmp_ge g 144 dX8_told_87 (by decide) (fun c87 => ?_) (fun c87 => ?_)
                    · refine pb_aload_n0 g dX8_told_144 ?_
                      refine pb_getf g fX8_72 dX8_told_145 mr_o rfl ?_
                      refine pb_bipush (v := nI 12) g dX8_told_148 (by decide) ?_
                      first | refine pb_icmp_neN g 156 dX8_told_150 (by decide) (by omega) (by omega) (fun c150 => ?_) (fun c150 => ?_) | refine pb_icmp_ne g 156 dX8_told_150 (by decide) (fun c150 => ?_) (fun c150 => ?_)
                      · refine pb_iconst (v := nI 0) g dX8_told_156 (by decide) ?_
                        refine pb_istore5 g dX8_told_157 (by decide) ?_
                        exact loop2 0 (Nat.zero_le _)
                      · exact absurd c150 hP12
                    · exact absurd c87 (by omega)
              refine pb_iload_n1 g dX8_told_0 ?_
              refine pb_Si1 g qX8_94 dX8_told_1 (k + 5) (by omega) (m_isTrayT (k + 5) _ (by assumption) _) (fun r1 h1 e1 => ?_)
              obtain ⟨rfl, rfl⟩ := e1
              first | refine pb_if_eqN g 16 dX8_told_4 (by decide) (by omega) (fun c4 => ?_) (fun c4 => ?_) | refine pb_if_eq g 16 dX8_told_4 (by decide) (fun c4 => ?_) (fun c4 => ?_)
              · exact absurd c4 (by decide)
              · refine pb_iload_n2 g dX8_told_7 ?_
                refine pb_if_ltN g 16 dX8_told_8 (by decide) (by omega) ?_
                refine pb_iload_n2 g dX8_told_11 ?_
                refine pb_iconst (v := nI 2) g dX8_told_12 (by decide) ?_
                first | refine pb_icmp_leN g 19 dX8_told_13 (by decide) (by omega) (by omega) (fun c13 => ?_) (fun c13 => ?_) | refine pb_icmp_le g 19 dX8_told_13 (by decide) (fun c13 => ?_) (fun c13 => ?_)
                · refine pb_aload_n0 g dX8_told_19 ?_
                  refine pb_getf g fX8_57 dX8_told_20 mr_o rfl ?_
                  refine pb_iload_n1 g dX8_told_23 ?_
                  first | refine pb_ialdN g dX8_told_24 (by first | exact mr_traySort | exact mr_order | exact mr_kind | exact mr_heaps | exact mr_m | exact mr_line | exact mr_other | exact mr_ways | exact mr_next | exact mr_chances | exact mr_after | exact mr_far | exact mr_groups | exact mr_found | exact mr_counts | exact mr_traySize | exact mr_cells | exact mr_moved | exact mr_traced | assumption) (by omega) (by omega) ?_ | refine pb_ald0 g dX8_told_24 (by omega) ?_ | refine pb_ald1 g dX8_told_24 (by omega) ?_ | refine pb_ald2 g dX8_told_24 (by omega) ?_ | refine pb_ald3 g dX8_told_24 (by omega) ?_ | refine pb_iald g dX8_told_24 (by first | exact mr_traySort | exact mr_order | exact mr_kind | exact mr_heaps | exact mr_m | exact mr_line | exact mr_other | exact mr_ways | exact mr_next | exact mr_chances | exact mr_after | exact mr_far | exact mr_groups | exact mr_found | exact mr_counts | exact mr_traySize | exact mr_cells | exact mr_moved | exact mr_traced | assumption) (by assumption) ?_
                  rw [(d3 t0 ht0).1, hts1]
                  refine pb_if_ltN g 41 dX8_told_25 (by decide) (by omega) ?_
                  refine pb_aload_n0 g dX8_told_28 ?_
                  refine pb_getf g fX8_57 dX8_told_29 mr_o rfl ?_
                  refine pb_iload_n1 g dX8_told_32 ?_
                  first | refine pb_ialdN g dX8_told_33 (by first | exact mr_traySort | exact mr_order | exact mr_kind | exact mr_heaps | exact mr_m | exact mr_line | exact mr_other | exact mr_ways | exact mr_next | exact mr_chances | exact mr_after | exact mr_far | exact mr_groups | exact mr_found | exact mr_counts | exact mr_traySize | exact mr_cells | exact mr_moved | exact mr_traced | assumption) (by omega) (by omega) ?_ | refine pb_ald0 g dX8_told_33 (by omega) ?_ | refine pb_ald1 g dX8_told_33 (by omega) ?_ | refine pb_ald2 g dX8_told_33 (by omega) ?_ | refine pb_ald3 g dX8_told_33 (by omega) ?_ | refine pb_iald g dX8_told_33 (by first | exact mr_traySort | exact mr_order | exact mr_kind | exact mr_heaps | exact mr_m | exact mr_line | exact mr_other | exact mr_ways | exact mr_next | exact mr_chances | exact mr_after | exact mr_far | exact mr_groups | exact mr_found | exact mr_counts | exact mr_traySize | exact mr_cells | exact mr_moved | exact mr_traced | assumption) (by assumption) ?_
                  rw [(d3 t0 ht0).1, hts1]
                  refine pb_iload_n2 g dX8_told_34 ?_
                  first | refine pb_icmp_eqN g 41 dX8_told_35 (by decide) (by omega) (by omega) (fun c35 => ?_) (fun c35 => ?_) | refine pb_icmp_eq g 41 dX8_told_35 (by decide) (fun c35 => ?_) (fun c35 => ?_)
                  · refine pb_aload_n0 g dX8_told_41 ?_
                    refine pb_getf g fX8_57 dX8_told_42 mr_o rfl ?_
                    refine pb_iload_n1 g dX8_told_45 ?_
                    first | refine pb_ialdN g dX8_told_46 (by first | exact mr_traySort | exact mr_order | exact mr_kind | exact mr_heaps | exact mr_m | exact mr_line | exact mr_other | exact mr_ways | exact mr_next | exact mr_chances | exact mr_after | exact mr_far | exact mr_groups | exact mr_found | exact mr_counts | exact mr_traySize | exact mr_cells | exact mr_moved | exact mr_traced | assumption) (by omega) (by omega) ?_ | refine pb_ald0 g dX8_told_46 (by omega) ?_ | refine pb_ald1 g dX8_told_46 (by omega) ?_ | refine pb_ald2 g dX8_told_46 (by omega) ?_ | refine pb_ald3 g dX8_told_46 (by omega) ?_ | refine pb_iald g dX8_told_46 (by first | exact mr_traySort | exact mr_order | exact mr_kind | exact mr_heaps | exact mr_m | exact mr_line | exact mr_other | exact mr_ways | exact mr_next | exact mr_chances | exact mr_after | exact mr_far | exact mr_groups | exact mr_found | exact mr_counts | exact mr_traySize | exact mr_cells | exact mr_moved | exact mr_traced | assumption) (by assumption) ?_
                    rw [(d3 t0 ht0).1, hts1]
                    refine pb_if_geN g 53 dX8_told_47 (by decide) (by omega) ?_
                    refine pb_iload_n3 g dX8_told_53 ?_
                    refine pb_if_ltN g 72 dX8_told_54 (by decide) (by omega) ?_
                    refine pb_iload_n3 g dX8_told_57 ?_
                    refine pb_aload_n0 g dX8_told_58 ?_
                    refine pb_getf g fX8_60 dX8_told_59 mr_o rfl ?_
                    refine pb_iload_n1 g dX8_told_62 ?_
                    first | refine pb_ialdN g dX8_told_63 (by first | exact mr_traySize | exact mr_traySort | exact mr_order | exact mr_kind | exact mr_heaps | exact mr_m | exact mr_line | exact mr_other | exact mr_ways | exact mr_next | exact mr_chances | exact mr_after | exact mr_far | exact mr_groups | exact mr_found | exact mr_counts | exact mr_cells | exact mr_moved | exact mr_traced | assumption) (by omega) (by omega) ?_ | refine pb_ald0 g dX8_told_63 (by omega) ?_ | refine pb_ald1 g dX8_told_63 (by omega) ?_ | refine pb_ald2 g dX8_told_63 (by omega) ?_ | refine pb_ald3 g dX8_told_63 (by omega) ?_ | refine pb_iald g dX8_told_63 (by first | exact mr_traySize | exact mr_traySort | exact mr_order | exact mr_kind | exact mr_heaps | exact mr_m | exact mr_line | exact mr_other | exact mr_ways | exact mr_next | exact mr_chances | exact mr_after | exact mr_far | exact mr_groups | exact mr_found | exact mr_counts | exact mr_cells | exact mr_moved | exact mr_traced | assumption) (by assumption) ?_
                    rw [(d3 t0 ht0).2.1]
                    refine pb_aload_n0 g dX8_told_64 ?_
                    refine pb_getf g fX8_7 dX8_told_65 mr_o rfl ?_
                    first | refine pb_isubN g dX8_told_68 (by omega) ?_ | refine pb_isub g dX8_told_68 ?_
                    first | refine pb_icmp_leN g 75 dX8_told_69 (by decide) (by omega) (by omega) (fun c69 => ?_) (fun c69 => ?_) | refine pb_icmp_le g 75 dX8_told_69 (by decide) (fun c69 => ?_) (fun c69 => ?_)
                    · refine pb_iconst (v := nI 0) g dX8_told_75 (by decide) ?_
                      refine pb_istore4 g dX8_told_76 (by decide) ?_
                      refine pb_iconst (v := nI 0) g dX8_told_78 (by decide) ?_
                      refine pb_istore5 g dX8_told_79 (by decide) ?_
                      exact loop 0 (Nat.zero_le _) 0 _ rfl
                    · exact absurd c69 (by omega)
                  · exact absurd rfl c35
                · exact absurd c13 (by omega)
        · have e : sTold ((n, P, S, sd), (σ, μ, K, Hh), (ts, zz, it), (ra, tr)) (nI t0) (nI o0) i = (-13, ((n, P, S, sd), (σ, μ, K, Hh), (ts, zz, it), (ra, tr))) := by
            simp only [sTold, htx, hsx]
            rw [if_pos ⟨hmi, fun z => hso ((nI_eq (by omega) (by omega)).mp (hts1.symm.trans z))⟩]
          refine pb_iload_n1 g dX8_told_0 ?_
          refine pb_Si1 g qX8_94 dX8_told_1 (k + 5) (by omega) (m_isTrayT (k + 5) _ (by assumption) _) (fun r1 h1 e1 => ?_)
          obtain ⟨rfl, rfl⟩ := e1
          first | refine pb_if_eqN g 16 dX8_told_4 (by decide) (by omega) (fun c4 => ?_) (fun c4 => ?_) | refine pb_if_eq g 16 dX8_told_4 (by decide) (fun c4 => ?_) (fun c4 => ?_)
          · exact absurd c4 (by decide)
          · refine pb_iload_n2 g dX8_told_7 ?_
            refine pb_if_ltN g 16 dX8_told_8 (by decide) (by omega) ?_
            refine pb_iload_n2 g dX8_told_11 ?_
            refine pb_iconst (v := nI 2) g dX8_told_12 (by decide) ?_
            first | refine pb_icmp_leN g 19 dX8_told_13 (by decide) (by omega) (by omega) (fun c13 => ?_) (fun c13 => ?_) | refine pb_icmp_le g 19 dX8_told_13 (by decide) (fun c13 => ?_) (fun c13 => ?_)
            · refine pb_aload_n0 g dX8_told_19 ?_
              refine pb_getf g fX8_57 dX8_told_20 mr_o rfl ?_
              refine pb_iload_n1 g dX8_told_23 ?_
              first | refine pb_ialdN g dX8_told_24 (by first | exact mr_traySort | exact mr_order | exact mr_kind | exact mr_heaps | exact mr_m | exact mr_line | exact mr_other | exact mr_ways | exact mr_next | exact mr_chances | exact mr_after | exact mr_far | exact mr_groups | exact mr_found | exact mr_counts | exact mr_traySize | exact mr_cells | exact mr_moved | exact mr_traced | assumption) (by omega) (by omega) ?_ | refine pb_ald0 g dX8_told_24 (by omega) ?_ | refine pb_ald1 g dX8_told_24 (by omega) ?_ | refine pb_ald2 g dX8_told_24 (by omega) ?_ | refine pb_ald3 g dX8_told_24 (by omega) ?_ | refine pb_iald g dX8_told_24 (by first | exact mr_traySort | exact mr_order | exact mr_kind | exact mr_heaps | exact mr_m | exact mr_line | exact mr_other | exact mr_ways | exact mr_next | exact mr_chances | exact mr_after | exact mr_far | exact mr_groups | exact mr_found | exact mr_counts | exact mr_traySize | exact mr_cells | exact mr_moved | exact mr_traced | assumption) (by assumption) ?_
              rw [(d3 t0 ht0).1, hts1]
              refine pb_if_ltN g 41 dX8_told_25 (by decide) (by omega) ?_
              refine pb_aload_n0 g dX8_told_28 ?_
              refine pb_getf g fX8_57 dX8_told_29 mr_o rfl ?_
              refine pb_iload_n1 g dX8_told_32 ?_
              first | refine pb_ialdN g dX8_told_33 (by first | exact mr_traySort | exact mr_order | exact mr_kind | exact mr_heaps | exact mr_m | exact mr_line | exact mr_other | exact mr_ways | exact mr_next | exact mr_chances | exact mr_after | exact mr_far | exact mr_groups | exact mr_found | exact mr_counts | exact mr_traySize | exact mr_cells | exact mr_moved | exact mr_traced | assumption) (by omega) (by omega) ?_ | refine pb_ald0 g dX8_told_33 (by omega) ?_ | refine pb_ald1 g dX8_told_33 (by omega) ?_ | refine pb_ald2 g dX8_told_33 (by omega) ?_ | refine pb_ald3 g dX8_told_33 (by omega) ?_ | refine pb_iald g dX8_told_33 (by first | exact mr_traySort | exact mr_order | exact mr_kind | exact mr_heaps | exact mr_m | exact mr_line | exact mr_other | exact mr_ways | exact mr_next | exact mr_chances | exact mr_after | exact mr_far | exact mr_groups | exact mr_found | exact mr_counts | exact mr_traySize | exact mr_cells | exact mr_moved | exact mr_traced | assumption) (by assumption) ?_
              rw [(d3 t0 ht0).1, hts1]
              refine pb_iload_n2 g dX8_told_34 ?_
              first | refine pb_icmp_eqN g 41 dX8_told_35 (by decide) (by omega) (by omega) (fun c35 => ?_) (fun c35 => ?_) | refine pb_icmp_eq g 41 dX8_told_35 (by decide) (fun c35 => ?_) (fun c35 => ?_)
              · exact absurd c35 hso
              · refine pb_bipush (v := -13) g dX8_told_38 (by decide) ?_
                refine pb_iret g z dX8_told_40 ?_
                exact ⟨_, rfl, by rw [e], by rw [e]; exact ⟨_, _, _, _, _, _, _, _, _, _, _, _, _, _, _, _, _, _, _, rfl, d1, d2, d3, d4, d5⟩⟩
            · exact absurd c13 (by omega)
set_option maxHeartbeats 4000000 in
set_option maxRecDepth 100000 in
theorem m_placeOf (k : Nat) {xn xP xS xsd xbo : Int32} {xod xkn xhs xmm xln xot xfa xgr xtsr xtsz xce xmv xtc : Nat → Int32} {xwy xnx xch xaf xfo xco : Nat → Int64} {n c : Nat} (hn : n ≤ 10) (o : Nat → Nat) (hf : ∀ j, j < n → xln j = nI (o j)) (ho : IsPm n o) (hc : c < n) : Runs yX8_placeOf cX8_placeOf 3 (some .int) (k) [.ref 0, .int (nI c)] (mkH 20 (mdF xn xP xS xsd xod xkn xhs xmm xln xot xwy xnx xch xaf xfa xgr xfo xco xtsr xtsz xce xmv xtc xbo)) (fun oo h' => ∃ r : Int32, oo = some (.int r) ∧ r = nI (bkN o n c) ∧ mkH 20 (mdF xn xP xS xsd xod xkn xhs xmm xln xot xwy xnx xch xaf xfa xgr xfo xco xtsr xtsz xce xmv xtc xbo) = h') := by
  refine Runs.of (by decide) (Nat.le_of_ble_eq_true rfl) [some (.ref 0), some (.int (nI c)), none] 1 rfl (fun Γ g z => ?_)
  obtain ⟨_, hb, hbo⟩ := bk_pm ho (fun _ => 0) c hc
  have loop : ∀ i, i ≤ bkN o n c → PB Γ 2 [some (.ref 0), some (.int (nI c)), some (.int (nI i))] [] (mkH 20 (mdF xn xP xS xsd xod xkn xhs xmm xln xot xwy xnx xch xaf xfa xgr xfo xco xtsr xtsz xce xmv xtc xbo)) := by
    refine pb_loop (bkN o n c) (fun i hi ih => ?_)
    have hoi := ho.1 i (by omega)
    refine pb_aload_n0 g dX8_placeOf_2 ?_
    refine pb_getf g fX8_26 dX8_placeOf_3 mr_o rfl ?_
    refine pb_iload_n2 g dX8_placeOf_6 ?_
    first | refine pb_ialdN g dX8_placeOf_7 (by first | exact mr_line | exact mr_order | exact mr_kind | exact mr_heaps | exact mr_m | exact mr_other | exact mr_ways | exact mr_next | exact mr_chances | exact mr_after | exact mr_far | exact mr_groups | exact mr_found | exact mr_counts | exact mr_traySort | exact mr_traySize | exact mr_cells | exact mr_moved | exact mr_traced | assumption) (by omega) (by omega) ?_ | refine pb_ald0 g dX8_placeOf_7 (by omega) ?_ | refine pb_ald1 g dX8_placeOf_7 (by omega) ?_ | refine pb_ald2 g dX8_placeOf_7 (by omega) ?_ | refine pb_ald3 g dX8_placeOf_7 (by omega) ?_ | refine pb_iald g dX8_placeOf_7 (by first | exact mr_line | exact mr_order | exact mr_kind | exact mr_heaps | exact mr_m | exact mr_other | exact mr_ways | exact mr_next | exact mr_chances | exact mr_after | exact mr_far | exact mr_groups | exact mr_found | exact mr_counts | exact mr_traySort | exact mr_traySize | exact mr_cells | exact mr_moved | exact mr_traced | assumption) (by assumption) ?_
    rw [hf i (by omega)]
    refine pb_iload_n1 g dX8_placeOf_8 ?_
    first | refine pb_icmp_eqN g 18 dX8_placeOf_9 (by decide) (by omega) (by omega) (fun c9 => ?_) (fun c9 => ?_) | refine pb_icmp_eq g 18 dX8_placeOf_9 (by decide) (fun c9 => ?_) (fun c9 => ?_)
    · refine pb_iload_n2 g dX8_placeOf_18 ?_
      refine pb_iret g z dX8_placeOf_19 ?_
      exact ⟨_, rfl, by rw [ho.2 i (bkN o n c) (by omega) hb (c9.trans hbo.symm)], rfl⟩
    · first | refine pb_iinc2N g dX8_placeOf_12 (by decide) ?_ | refine pb_iinc2 g dX8_placeOf_12 (by decide) rfl ?_
      refine pb_goto g 2 dX8_placeOf_15 (by decide) ?_
      exact ih (Nat.lt_of_le_of_ne hi (fun q => c9 (by rw [q]; exact hbo)))
  refine pb_iconst (v := nI 0) g dX8_placeOf_0 (by decide) ?_
  refine pb_istore_n2 g dX8_placeOf_1 (by decide) ?_
  exact loop 0 (Nat.zero_le _)
set_option maxHeartbeats 4000000 in
set_option maxRecDepth 100000 in
theorem m_runsOf (k : Nat) {xP xS xsd xbo : Int32} {xod xkn xhs xmm xln xot xfa xgr xtsr xtsz xce xmv xtc : Nat → Int32} {xwy xnx xch xaf xfo xco : Nat → Int64} {n : Nat} (hn : n ≤ 10) (hn1 : 1 ≤ n) (o : Nat → Nat) (hf : ∀ j, j < n → xln j = nI (o j)) (ho : IsPm n o) : Runs yX8_runsOf cX8_runsOf 3 (some .int) (k + 1) [.ref 0] (mkH 20 (mdF (nI n) xP xS xsd xod xkn xhs xmm xln xot xwy xnx xch xaf xfa xgr xfo xco xtsr xtsz xce xmv xtc xbo)) (fun oo h' => ∃ r : Int32, oo = some (.int r) ∧ r = nI (rnL (bkN o n) (n - 1)) ∧ mkH 20 (mdF (nI n) xP xS xsd xod xkn xhs xmm xln xot xwy xnx xch xaf xfa xgr xfo xco xtsr xtsz xce xmv xtc xbo) = h') := by
  refine Runs.of (by decide) (Nat.le_of_ble_eq_true rfl) [some (.ref 0), none, none] 2 rfl (fun Γ g z => ?_)
  have loop : ∀ i, i ≤ n - 1 → PB Γ 4 [some (.ref 0), some (.int (nI (rnL (bkN o n) i))), some (.int (nI (i + 1)))] [] (mkH 20 (mdF (nI n) xP xS xsd xod xkn xhs xmm xln xot xwy xnx xch xaf xfa xgr xfo xco xtsr xtsz xce xmv xtc xbo)) := by
    refine pb_loop (n - 1) (fun i hi ih => ?_)
    by_cases hin : i < n - 1
    · have ih := ih hin
      have hb := (bkN_pm ho).1
      have hb1 := hb i (by omega)
      have hb2 := hb (i + 1) (by omega)
      refine pb_iload_n2 g dX8_runsOf_4 ?_
      refine pb_aload_n0 g dX8_runsOf_5 ?_
      refine pb_getf g fX8_7 dX8_runsOf_6 mr_o rfl ?_
      first | refine pb_icmp_geN g 36 dX8_runsOf_9 (by decide) (by omega) (by omega) (fun c9 => ?_) (fun c9 => ?_) | refine pb_icmp_ge g 36 dX8_runsOf_9 (by decide) (fun c9 => ?_) (fun c9 => ?_)
      · exact absurd c9 (by omega)
      · refine pb_aload_n0 g dX8_runsOf_12 ?_
        refine pb_iload_n2 g dX8_runsOf_13 ?_
        refine pb_Vi1 g qX8_104 dX8_runsOf_14 k (by omega) mr_o (m_placeOf k (n := n) (c := i + 1) hn o hf ho (by omega)) (fun r14 h14 e14 => ?_)
        obtain ⟨rfl, rfl⟩ := e14
        refine pb_aload_n0 g dX8_runsOf_17 ?_
        refine pb_iload_n2 g dX8_runsOf_18 ?_
        refine pb_iconst (v := nI 1) g dX8_runsOf_19 (by decide) ?_
        first | refine pb_isubN g dX8_runsOf_20 (by omega) ?_ | refine pb_isub g dX8_runsOf_20 ?_
        rw [Nat.add_sub_cancel]
        refine pb_Vi1 g qX8_104 dX8_runsOf_21 k (by omega) mr_o (m_placeOf k (n := n) (c := i) hn o hf ho (by omega)) (fun r21 h21 e21 => ?_)
        obtain ⟨rfl, rfl⟩ := e21
        first | refine pb_icmp_geN g 30 dX8_runsOf_24 (by decide) (by omega) (by omega) (fun c24 => ?_) (fun c24 => ?_) | refine pb_icmp_ge g 30 dX8_runsOf_24 (by decide) (fun c24 => ?_) (fun c24 => ?_)
        · first | refine pb_iinc2N g dX8_runsOf_30 (by decide) ?_ | refine pb_iinc2 g dX8_runsOf_30 (by decide) rfl ?_
          refine pb_goto g 4 dX8_runsOf_33 (by decide) ?_
          first | (rw [rnL, if_neg (by omega)] at ih; exact ih) | (rw [rnL, if_pos (by omega)] at ih; exact ih)
        · first | refine pb_iinc1N g dX8_runsOf_27 (by decide) ?_ | refine pb_iinc1 g dX8_runsOf_27 (by decide) rfl ?_
          first | refine pb_iinc2N g dX8_runsOf_30 (by decide) ?_ | refine pb_iinc2 g dX8_runsOf_30 (by decide) rfl ?_
          refine pb_goto g 4 dX8_runsOf_33 (by decide) ?_
          first | (rw [rnL, if_neg (by omega)] at ih; exact ih) | (rw [rnL, if_pos (by omega)] at ih; exact ih)
    · obtain rfl : i = n - 1 := by omega
      refine pb_iload_n2 g dX8_runsOf_4 ?_
      refine pb_aload_n0 g dX8_runsOf_5 ?_
      refine pb_getf g fX8_7 dX8_runsOf_6 mr_o rfl ?_
      first | refine pb_icmp_geN g 36 dX8_runsOf_9 (by decide) (by omega) (by omega) (fun c9 => ?_) (fun c9 => ?_) | refine pb_icmp_ge g 36 dX8_runsOf_9 (by decide) (fun c9 => ?_) (fun c9 => ?_)
      · refine pb_iload_n1 g dX8_runsOf_36 ?_
        refine pb_iret g z dX8_runsOf_37 ?_
        exact ⟨_, rfl, rfl, rfl⟩
      · exact absurd c9 (by omega)
  refine pb_iconst (v := nI 1) g dX8_runsOf_0 (by decide) ?_
  refine pb_istore_n1 g dX8_runsOf_1 (by decide) ?_
  refine pb_iconst (v := nI 1) g dX8_runsOf_2 (by decide) ?_
  refine pb_istore_n2 g dX8_runsOf_3 (by decide) ?_
  exact loop 0 (Nat.zero_le _)
set_option maxHeartbeats 4000000 in
set_option maxRecDepth 100000 in
theorem m_packTold (k : Nat) (q : SP) (p w : Int32) (h : PH) (hD : IsM q h) (hI : SI q) : Runs yX8_packTold cX8_packTold 3 (some .int) (k + 6) [.ref 0, .int p, .int w] h (fun oo h' => ∃ r : Int32, oo = some (.int r) ∧ r = sPackTold q p w ∧ IsM (q) h') := by
  obtain ⟨⟨n, P, S, sd⟩, ⟨σ, μ, K, Hh⟩, ⟨ts, zz, it⟩, ⟨ra, tr⟩⟩ := q
  obtain ⟨⟨hn1, hn, hP, hS⟩, hσ, hK, hz, hra⟩ := hI
  obtain ⟨xod, xkn, xhs, xmm, xln, xot, xfa, xgr, xtsr, xtsz, xce, xmv, xtc, xwy, xnx, xch, xaf, xfo, xco, rfl, d1, d2, d3, d4, d5⟩ := hD
  refine Runs.of (by decide) (Nat.le_of_ble_eq_true rfl) [some (.ref 0), some (.int p), some (.int w)] 0 rfl (fun Γ g z => ?_)
  cases hpx : ix p P with
  | none =>
    have e : sPackTold ((n, P, S, sd), (σ, μ, K, Hh), (ts, zz, it), (ra, tr)) p w = -2 := by simp only [sPackTold, hpx]
    have hpn := ix_none (by omega) hpx
    refine pb_aload_n0 g dX8_packTold_0 ?_
    refine pb_iload_n1 g dX8_packTold_1 ?_
    refine pb_Vi1 g qX8_101 dX8_packTold_2 (k + 5) (by omega) mr_o (m_isPackF (k + 5) (by assumption) hP) (fun r2 h2 e2 => ?_)
    obtain ⟨rfl, rfl⟩ := e2
    first | refine pb_if_neN g 11 dX8_packTold_5 (by decide) (by omega) (fun c5 => ?_) (fun c5 => ?_) | refine pb_if_ne g 11 dX8_packTold_5 (by decide) (fun c5 => ?_) (fun c5 => ?_)
    · exact absurd c5 (by decide)
    · refine pb_bipush (v := -2) g dX8_packTold_8 (by decide) ?_
      refine pb_iret g z dX8_packTold_10 ?_
      exact ⟨_, rfl, by rw [e], ⟨_, _, _, _, _, _, _, _, _, _, _, _, _, _, _, _, _, _, _, rfl, d1, d2, d3, d4, d5⟩⟩
  | some p0 =>
    obtain ⟨hp0, rfl⟩ := ix_some (by omega) hpx
    have e0 : sPackTold ((n, P, S, sd), (σ, μ, K, Hh), (ts, zz, it), (ra, tr)) (nI p0) w = if w = nI 0 then nI (rkL (σ p0) n n) else if w = nI 1 then nI (rnL (bkN (σ p0) n) (n - 1)) else if w = nI 2 then nI (bkN (σ p0) n 0) else -2 := by simp only [sPackTold, hpx]
    have hl : ∀ j, j < n → tkF xln xod (10 * p0) n j = nI (σ p0 j) := fun j hj => by rw [tk_at _ _ _ n j hj]; exact d1 p0 hp0 j hj
    have hpm := hσ p0 hp0
    by_cases h0 : w = nI 0
    · have e : sPackTold ((n, P, S, sd), (σ, μ, K, Hh), (ts, zz, it), (ra, tr)) (nI p0) w = nI (rkL (σ p0) n n) := by rw [e0, if_pos h0]
      refine pb_aload_n0 g dX8_packTold_0 ?_
      refine pb_iload_n1 g dX8_packTold_1 ?_
      refine pb_Vi1 g qX8_101 dX8_packTold_2 (k + 5) (by omega) mr_o (m_isPackT (k + 5) (by assumption) hP) (fun r2 h2 e2 => ?_)
      obtain ⟨rfl, rfl⟩ := e2
      first | refine pb_if_neN g 11 dX8_packTold_5 (by decide) (by omega) (fun c5 => ?_) (fun c5 => ?_) | refine pb_if_ne g 11 dX8_packTold_5 (by decide) (fun c5 => ?_) (fun c5 => ?_)
      · refine pb_aload_n0 g dX8_packTold_11 ?_
        refine pb_iload_n1 g dX8_packTold_12 ?_
        refine pb_Vv1 g qX8_107 dX8_packTold_13 (k + 5) (by omega) mr_o (m_takes (k + 5) (n := n) (p := p0) hn (by omega)) (fun h13 e13 => ?_)
        subst e13
        refine pb_iload_n2 g dX8_packTold_16 ?_
        first | refine pb_if_neN g 27 dX8_packTold_17 (by decide) (by omega) (fun c17 => ?_) (fun c17 => ?_) | refine pb_if_ne g 27 dX8_packTold_17 (by decide) (fun c17 => ?_) (fun c17 => ?_)
        · exact absurd h0 c17
        · refine pb_aload_n0 g dX8_packTold_20 ?_
          refine pb_Vi0 g qX8_110 dX8_packTold_21 (k + 5) (by omega) mr_o (m_rank (k + 4) (n := n) hn (σ p0) hl (fun j hj => Nat.lt_of_lt_of_le (hpm.1 j hj) hn)) (fun r21 h21 e21 => ?_)
          obtain ⟨rfl, rfl⟩ := e21
          refine pb_goto g 54 dX8_packTold_24 (by decide) ?_
          refine pb_iret g z dX8_packTold_54 ?_
          exact ⟨_, rfl, by rw [e], ⟨_, _, _, _, _, _, _, _, _, _, _, _, _, _, _, _, _, _, _, rfl, d1, d2, d3, d4, d5⟩⟩
      · exact absurd c5 (by decide)
    · by_cases h1 : w = nI 1
      · have e : sPackTold ((n, P, S, sd), (σ, μ, K, Hh), (ts, zz, it), (ra, tr)) (nI p0) w = nI (rnL (bkN (σ p0) n) (n - 1)) := by rw [e0, if_neg h0, if_pos h1]
        refine pb_aload_n0 g dX8_packTold_0 ?_
        refine pb_iload_n1 g dX8_packTold_1 ?_
        refine pb_Vi1 g qX8_101 dX8_packTold_2 (k + 5) (by omega) mr_o (m_isPackT (k + 5) (by assumption) hP) (fun r2 h2 e2 => ?_)
        obtain ⟨rfl, rfl⟩ := e2
        first | refine pb_if_neN g 11 dX8_packTold_5 (by decide) (by omega) (fun c5 => ?_) (fun c5 => ?_) | refine pb_if_ne g 11 dX8_packTold_5 (by decide) (fun c5 => ?_) (fun c5 => ?_)
        · refine pb_aload_n0 g dX8_packTold_11 ?_
          refine pb_iload_n1 g dX8_packTold_12 ?_
          refine pb_Vv1 g qX8_107 dX8_packTold_13 (k + 5) (by omega) mr_o (m_takes (k + 5) (n := n) (p := p0) hn (by omega)) (fun h13 e13 => ?_)
          subst e13
          refine pb_iload_n2 g dX8_packTold_16 ?_
          first | refine pb_if_neN g 27 dX8_packTold_17 (by decide) (by omega) (fun c17 => ?_) (fun c17 => ?_) | refine pb_if_ne g 27 dX8_packTold_17 (by decide) (fun c17 => ?_) (fun c17 => ?_)
          · refine pb_iload_n2 g dX8_packTold_27 ?_
            refine pb_iconst (v := nI 1) g dX8_packTold_28 (by decide) ?_
            first | refine pb_icmp_neN g 39 dX8_packTold_29 (by decide) (by omega) (by omega) (fun c29 => ?_) (fun c29 => ?_) | refine pb_icmp_ne g 39 dX8_packTold_29 (by decide) (fun c29 => ?_) (fun c29 => ?_)
            · exact absurd h1 c29
            · refine pb_aload_n0 g dX8_packTold_32 ?_
              refine pb_Vi0 g qX8_113 dX8_packTold_33 (k + 5) (by omega) mr_o (m_runsOf (k + 4) (n := n) hn hn1 (σ p0) hl hpm) (fun r33 h33 e33 => ?_)
              obtain ⟨rfl, rfl⟩ := e33
              refine pb_goto g 54 dX8_packTold_36 (by decide) ?_
              refine pb_iret g z dX8_packTold_54 ?_
              exact ⟨_, rfl, by rw [e], ⟨_, _, _, _, _, _, _, _, _, _, _, _, _, _, _, _, _, _, _, rfl, d1, d2, d3, d4, d5⟩⟩
          · exact absurd c17 h0
        · exact absurd c5 (by decide)
      · by_cases h2 : w = nI 2
        · have e : sPackTold ((n, P, S, sd), (σ, μ, K, Hh), (ts, zz, it), (ra, tr)) (nI p0) w = nI (bkN (σ p0) n 0) := by rw [e0, if_neg h0, if_neg h1, if_pos h2]
          refine pb_aload_n0 g dX8_packTold_0 ?_
          refine pb_iload_n1 g dX8_packTold_1 ?_
          refine pb_Vi1 g qX8_101 dX8_packTold_2 (k + 5) (by omega) mr_o (m_isPackT (k + 5) (by assumption) hP) (fun r2 h2 e2 => ?_)
          obtain ⟨rfl, rfl⟩ := e2
          first | refine pb_if_neN g 11 dX8_packTold_5 (by decide) (by omega) (fun c5 => ?_) (fun c5 => ?_) | refine pb_if_ne g 11 dX8_packTold_5 (by decide) (fun c5 => ?_) (fun c5 => ?_)
          · refine pb_aload_n0 g dX8_packTold_11 ?_
            refine pb_iload_n1 g dX8_packTold_12 ?_
            refine pb_Vv1 g qX8_107 dX8_packTold_13 (k + 5) (by omega) mr_o (m_takes (k + 5) (n := n) (p := p0) hn (by omega)) (fun h13 e13 => ?_)
            subst e13
            refine pb_iload_n2 g dX8_packTold_16 ?_
            first | refine pb_if_neN g 27 dX8_packTold_17 (by decide) (by omega) (fun c17 => ?_) (fun c17 => ?_) | refine pb_if_ne g 27 dX8_packTold_17 (by decide) (fun c17 => ?_) (fun c17 => ?_)
            · refine pb_iload_n2 g dX8_packTold_27 ?_
              refine pb_iconst (v := nI 1) g dX8_packTold_28 (by decide) ?_
              first | refine pb_icmp_neN g 39 dX8_packTold_29 (by decide) (by omega) (by omega) (fun c29 => ?_) (fun c29 => ?_) | refine pb_icmp_ne g 39 dX8_packTold_29 (by decide) (fun c29 => ?_) (fun c29 => ?_)
              · refine pb_iload_n2 g dX8_packTold_39 ?_
                refine pb_iconst (v := nI 2) g dX8_packTold_40 (by decide) ?_
                first | refine pb_icmp_neN g 52 dX8_packTold_41 (by decide) (by omega) (by omega) (fun c41 => ?_) (fun c41 => ?_) | refine pb_icmp_ne g 52 dX8_packTold_41 (by decide) (fun c41 => ?_) (fun c41 => ?_)
                · exact absurd h2 c41
                · refine pb_aload_n0 g dX8_packTold_44 ?_
                  refine pb_iconst (v := nI 0) g dX8_packTold_45 (by decide) ?_
                  refine pb_Vi1 g qX8_104 dX8_packTold_46 (k + 5) (by omega) mr_o (m_placeOf (k + 5) (n := n) (c := 0) hn (σ p0) hl hpm (by omega)) (fun r46 h46 e46 => ?_)
                  obtain ⟨rfl, rfl⟩ := e46
                  refine pb_goto g 54 dX8_packTold_49 (by decide) ?_
                  refine pb_iret g z dX8_packTold_54 ?_
                  exact ⟨_, rfl, by rw [e], ⟨_, _, _, _, _, _, _, _, _, _, _, _, _, _, _, _, _, _, _, rfl, d1, d2, d3, d4, d5⟩⟩
              · exact absurd c29 h1
            · exact absurd c17 h0
          · exact absurd c5 (by decide)
        · have e : sPackTold ((n, P, S, sd), (σ, μ, K, Hh), (ts, zz, it), (ra, tr)) (nI p0) w = -2 := by rw [e0, if_neg h0, if_neg h1, if_neg h2]
          refine pb_aload_n0 g dX8_packTold_0 ?_
          refine pb_iload_n1 g dX8_packTold_1 ?_
          refine pb_Vi1 g qX8_101 dX8_packTold_2 (k + 5) (by omega) mr_o (m_isPackT (k + 5) (by assumption) hP) (fun r2 h2 e2 => ?_)
          obtain ⟨rfl, rfl⟩ := e2
          first | refine pb_if_neN g 11 dX8_packTold_5 (by decide) (by omega) (fun c5 => ?_) (fun c5 => ?_) | refine pb_if_ne g 11 dX8_packTold_5 (by decide) (fun c5 => ?_) (fun c5 => ?_)
          · refine pb_aload_n0 g dX8_packTold_11 ?_
            refine pb_iload_n1 g dX8_packTold_12 ?_
            refine pb_Vv1 g qX8_107 dX8_packTold_13 (k + 5) (by omega) mr_o (m_takes (k + 5) (n := n) (p := p0) hn (by omega)) (fun h13 e13 => ?_)
            subst e13
            refine pb_iload_n2 g dX8_packTold_16 ?_
            first | refine pb_if_neN g 27 dX8_packTold_17 (by decide) (by omega) (fun c17 => ?_) (fun c17 => ?_) | refine pb_if_ne g 27 dX8_packTold_17 (by decide) (fun c17 => ?_) (fun c17 => ?_)
            · refine pb_iload_n2 g dX8_packTold_27 ?_
              refine pb_iconst (v := nI 1) g dX8_packTold_28 (by decide) ?_
              first | refine pb_icmp_neN g 39 dX8_packTold_29 (by decide) (by omega) (by omega) (fun c29 => ?_) (fun c29 => ?_) | refine pb_icmp_ne g 39 dX8_packTold_29 (by decide) (fun c29 => ?_) (fun c29 => ?_)
              · refine pb_iload_n2 g dX8_packTold_39 ?_
                refine pb_iconst (v := nI 2) g dX8_packTold_40 (by decide) ?_
                first | refine pb_icmp_neN g 52 dX8_packTold_41 (by decide) (by omega) (by omega) (fun c41 => ?_) (fun c41 => ?_) | refine pb_icmp_ne g 52 dX8_packTold_41 (by decide) (fun c41 => ?_) (fun c41 => ?_)
                · refine pb_bipush (v := -2) g dX8_packTold_52 (by decide) ?_
                  refine pb_iret g z dX8_packTold_54 ?_
                  exact ⟨_, rfl, by rw [e], ⟨_, _, _, _, _, _, _, _, _, _, _, _, _, _, _, _, _, _, _, rfl, d1, d2, d3, d4, d5⟩⟩
                · exact absurd c41 h2
              · exact absurd c29 h1
            · exact absurd c17 h0
          · exact absurd c5 (by decide)
