/-! ===== the law: its loop ===== -/
def GE : GT → Prop
  | ((p, l, e, R, s, m), (args, below, meth, c), (D, ta, ad, sa, A), cl, sl, Z) => (∀ (H : Heap) (ls : Array Slot), W p l e R s m args below meth c H [] 600000 7302250 Z (F0 m 1406 ls [.int 1])) ∧ (∀ q, A q → s.heap.size ≤ q) ∧ cl ≤ 600000 ∧ sl ≤ 7302250
section LLP
variable {Γ : GT} {rt : Option FieldType} {k : Nat}
theorem l_end (g : GM Γ x cL_law 4 rt k) (ge : GE Γ) {lv : List (Option Value)} {h : SP × SP} : LB Γ 1405 lv [] h := by
  obtain ⟨⟨p, l, e, R, s, m⟩, ⟨args, below, meth, c⟩, ⟨D, ta, ad, sa, A⟩, cl, sl, Z⟩ := Γ
  obtain ⟨hx, hb, hml, hr, hlk, hown, hts, hR, hK, hA, hPS, hPN⟩ := g
  obtain ⟨g1, g2, g3, g4⟩ := ge
  intro H locs ls hP hD hS hl
  exact lv_iconst hx hb dL_law_1405 (v := 1) (by decide) (W.widen g3 g4 (va_forget (fun q hq => g2 _ (hS.2.2 q hq)) (g1 H ls)))
theorem l_test {L i : Nat} (hL : L ≤ 3072) (hi : i ≤ 4000) (h : ¬ nI L - nI 6 < nI i) : i + 6 ≤ L := by
  rw [Int32.lt_iff_toInt_lt, pk_sub_toInt (by omega) (by decide), nI_toInt (by omega)] at h
  omega
theorem l_loop (g : GM Γ x cL_law 4 rt k) {L : Nat} {xs : Nat → Int32} (gx : GX Γ L xs) (hL : L ≤ 3072) (hk : 20 ≤ k) (ge : GE Γ) : ∀ (n i : Nat), L ≤ i + 6 * n → i ≤ L + 6 → ∀ q : SP, SI q → LB Γ 18 [some (.float 4), some (.ref 0), some (.ref 52), some (.int (nI (i)))] [] (q, q) := by
  intro n
  induction n with
  | zero =>
    intro i h1 h2 q hI
    refine lb_iload_n3 g dL_law_18 ?_
    refine lb_al0 g dL_law_19 ?_
    refine lb_slen g gx dL_law_20 ?_
    refine lb_bipush (v := nI 6) g dL_law_21 (by decide) ?_
    refine lb_isub g dL_law_23 ?_
    refine lb_icmp_gt g 1405 dL_law_24 (by decide) (fun _ => l_end g ge) (fun hc => ?_)
    have := l_test hL (by omega) hc
    omega
  | succ n ih =>
    intro i h1 h2 q hI
    refine lb_iload_n3 g dL_law_18 ?_
    refine lb_al0 g dL_law_19 ?_
    refine lb_slen g gx dL_law_20 ?_
    refine lb_bipush (v := nI 6) g dL_law_21 (by decide) ?_
    refine lb_isub g dL_law_23 ?_
    refine lb_icmp_gt g 1405 dL_law_24 (by decide) (fun _ => l_end g ge) (fun hc => ?_)
    have hi := l_test hL (by omega) hc
    have kk : ∀ q1, SI q1 → LB Γ 1399 [some (.float 4), some (.ref 0), some (.ref 52), some (.int (nI (i)))] [] (q1, q1) := by
      intro q1 hI1
      refine lb_iinc3 (v := nI (i + 6)) g dL_law_1399 (by decide) (nI_add i 6) ?_
      exact lb_goto g 18 dL_law_1402 (by decide) (ih (i + 6) (by omega) (by omega) q1 hI1)
    refine lb_al0 g dL_law_27 ?_
    refine lb_iload_n3 g dL_law_28 ?_
    refine lb_sld g gx dL_law_29 (by omega) ?_
    refine lb_bipush (v := 63) g dL_law_30 (by decide) ?_
    refine lb_iand g dL_law_32 ?_
    exact lb_tab g dL_law_33 35 rfl (by decide) (fun j => lawT.getD j 0) 1399 (by decide) rfl (fun j hj _ => lc_all g gx hk hi hI kk j hj) (fun _ => kk q hI)
end LLP
