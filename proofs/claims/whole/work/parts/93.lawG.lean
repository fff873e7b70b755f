/-! ===== the law: what holds at its entry ===== -/
theorem mt0 {w : Cond} (h : w ∈ tables_1) : w ∈ lw_tbl := List.mem_append_right _ h
theorem mt1 {w : Cond} {i : Nat} (h : tables_1_1[i]? = some w) : w ∈ lw_tbl := mt0 (List.mem_append_left _ (List.mem_of_getElem? h))
theorem mt2 {w : Cond} {i : Nat} (h : tables_1_2[i]? = some w) : w ∈ lw_tbl := mt0 (List.mem_append_right _ (List.mem_append_left _ (List.mem_of_getElem? h)))
theorem mt3 {w : Cond} {i : Nat} (h : tables_1_3[i]? = some w) : w ∈ lw_tbl := mt0 (List.mem_append_right _ (List.mem_append_right _ (List.mem_append_left _ (List.mem_of_getElem? h))))
theorem g_tbl {w : Cond} (h : w ∈ lw_g) : w ∈ lw_tbl := (List.mem_filter.mp h).1
def f5 {α : Type} (a b c d e : α) : Nat → α
  | 0 => a
  | 1 => b
  | 2 => c
  | 3 => d
  | _ => e
section LSU
variable {s : State} {args : Array Value}
set_option maxRecDepth 100000 in
theorem l_K (hts : ∀ w ∈ lw_tbl, w.before args s = true) : ∃ (D : va_G) (ta : Nat → ClassId), va_K D vwCl (ptys ta) s := by
  have hg : ∀ w ∈ lw_g, w.before args s = true := fun w hw => hts w (g_tbl hw)
  obtain ⟨c0, i0, k0⟩ := u_known (C := RX0) (T := TX0) (N := 5) (n := 5) hg uwX0 (hts _ (mt1 (i := 28) (by decide +kernel)))
  obtain ⟨c1, i1, k1⟩ := u_known (C := RX4) (T := TX4) (N := 3) (n := 3) hg uwX4 (hts _ (mt1 (i := 52) (by decide +kernel)))
  obtain ⟨c2, i2, k2⟩ := u_known (C := RX5) (T := TX5) (N := 3) (n := 3) hg uwX5 (hts _ (mt1 (i := 73) (by decide +kernel)))
  obtain ⟨c3, i3, k3⟩ := u_known (C := RX7) (T := TX7) (N := 14) (n := 14) hg uwX7 (hts _ (mt1 (i := 14) (by decide +kernel)))
  obtain ⟨c4, i4, k4⟩ := u_known (C := RX8) (T := TX8) (N := 24) (n := 24) hg uwX8 (hts _ (mt3 (i := 30) (by decide +kernel)))
  obtain ⟨a0, y0, z0, p0, q0, r0⟩ := Cond.arrayClass_spec (hts _ (g_tbl kAI))
  obtain ⟨a1, y1, z1, p1, q1, r1⟩ := Cond.arrayClass_spec (hts _ (g_tbl kAJ))
  obtain ⟨z2, a2, y2, n2, -, p2, q2, r2⟩ := arrayOverA_spec (t := .int) (hts _ (mt1 (i := 22) (by decide +kernel)))
  obtain ⟨z3, a3, y3, n3, -, p3, q3, r3⟩ := Cond.arrayOver_spec (n := "ShuffleDesk$Shuffle") (hts _ (mt1 (i := 24) (by decide +kernel)))
  obtain ⟨z4, a4, y4, n4, -, p4, q4, r4⟩ := Cond.arrayOver_spec (n := "ShuffleDesk$Tray") (hts _ (mt1 (i := 26) (by decide +kernel)))
  refine ⟨(f5 c0 c1 c2 c3 c4, f5 i0 i1 i2 i3 i4), f5 a0 a1 a2 a3 a4, fun c q hq => ?_, fun k q hq => ?_⟩
  · match c, hq with
    | 0, hq => cases hq; exact k0
    | 1, hq => cases hq; exact k1
    | 2, hq => cases hq; exact k2
    | 3, hq => cases hq; exact k3
    | 4, hq => cases hq; exact k4
    | (c + 5), hq => cases hq
  · match k, hq with
    | 0, hq => cases hq; exact ⟨fun N z => ⟨(fun k h => by cases h), y0, q0, z0, r0⟩, p0⟩
    | 1, hq => cases hq; exact ⟨fun N z => ⟨(fun k h => by cases h), y1, q1, z1, r1⟩, p1⟩
    | 2, hq => cases hq; exact ⟨fun N z => ⟨(fun k h => by cases h), y2, p2, z2, q2⟩, r2⟩
    | 3, hq => cases hq; exact ⟨fun N z => ⟨(fun k h => by cases h), y3, p3, z3, q3⟩, ⟨y3, z3, p3, q3, n3, r3⟩⟩
    | 4, hq => cases hq; exact ⟨fun N z => ⟨(fun k h => by cases h), y4, p4, z4, q4⟩, ⟨y4, z4, p4, q4, n4, r4⟩⟩
    | (k + 5), hq => cases hq
set_option maxRecDepth 100000 in
theorem l_AO (hts : ∀ w ∈ lw_tbl, w.before args s = true) : AO3 s := by
  have h1 : (Cond.arrayOver (.array .int)).before args s = true := hts _ (mt1 (i := 22) (by decide +kernel))
  refine ⟨h1, va_AO.of (hts _ (mt1 (i := 24) (by decide +kernel))), va_AO.of (hts _ (mt1 (i := 26) (by decide +kernel))), fun q hq => ?_⟩
  rcases List.mem_cons.mp hq with rfl | hq
  · exact va_Nw.of rfl (hts _ (mt1 (i := 29) (by decide +kernel)))
  rcases List.mem_cons.mp hq with rfl | hq
  · exact va_Nw.of rfl (hts _ (mt1 (i := 53) (by decide +kernel)))
  rcases List.mem_cons.mp hq with rfl | hq
  · exact va_Nw.of rfl (hts _ (mt1 (i := 74) (by decide +kernel)))
  exact absurd hq List.not_mem_nil
set_option maxRecDepth 100000 in
theorem l_PN (hts : ∀ w ∈ lw_tbl, w.before args s = true) : PN s := by
  intro q hq
  rcases List.mem_cons.mp hq with rfl | hq
  · exact va_Nw.of rfl (hts _ (mt1 (i := 150) (by decide +kernel)))
  rcases List.mem_cons.mp hq with rfl | hq
  · exact va_Nw.of rfl (hts _ (mt2 (i := 55) (by decide +kernel)))
  rcases List.mem_cons.mp hq with rfl | hq
  · exact va_Nw.of rfl (hts _ (mt2 (i := 169) (by decide +kernel)))
  rcases List.mem_cons.mp hq with rfl | hq
  · exact va_Nw.of rfl (hts _ (mt2 (i := 234) (by decide +kernel)))
  rcases List.mem_cons.mp hq with rfl | hq
  · exact va_Nw.of rfl (hts _ (mt2 (i := 236) (by decide +kernel)))
  exact absurd hq List.not_mem_nil
theorem l_tab {nm : String} {vals : List Int32} (hN : vals.length < 2 ^ 31) (hl : (Cond.laysStatic "ShuffleDesk" nm "[I").before args s = true) (hini : (Cond.initialized "ShuffleDesk").before args s = true) (harr : (Cond.arrayOf (.static "ShuffleDesk" nm "[I") .int).before args s = true) (hlen : (Cond.eq (.length (.static "ShuffleDesk" nm "[I")) (.int (Int32.ofNat vals.length))).before args s = true) (hel : ∀ j, j < vals.length → (Cond.eq (.elem (.static "ShuffleDesk" nm "[I") (.int (Int32.ofNat j))) (.int (vals.getD j 0))).before args s = true) : ∃ t : Nat, va_Z "ShuffleDesk" nm "[I" (.ref t) (fun q => s.heap.size ≤ q) s s.heap ∧ va_T .int t vals.length (fun j => .int (vals.getD j 0)) (fun q => s.heap.size ≤ q) s s.heap := by
  have hA : ∀ a : Nat, a < s.heap.size → ¬ (fun q => s.heap.size ≤ q) a := fun a h1 h2 => absurd h1 (Nat.not_lt.mpr h2)
  obtain ⟨t, h1, h2⟩ := va_Tof (f := fun j => .int (vals.getD j 0)) hN harr (va_eqt hlen) (fun j hj => va_eqt (hel j hj)) hA
  exact ⟨t, va_Zof hl hini h1 hA, h2⟩
def sa5 (a b c d e : Nat) (u : UInt32) : Nat := if u = 0 then a else if u = 1 then b else if u = 2 then c else if u = 3 then d else e
set_option maxRecDepth 100000 in
theorem l_PS (hts : ∀ w ∈ lw_tbl, w.before args s = true) (hgv : (Jvm.Cond.and given_1 narrow_1).before args s = true) (e : Nat) : ∃ a b c d : Nat, PS (sa5 a b c d e) (fun q => s.heap.size ≤ q) s s.heap := by
  have hs := flat_of_before _ hgv
  obtain ⟨t0, z0, w0⟩ := l_tab (nm := "FACTORIALS") (vals := psV 0) (by decide) (hts _ (mt1 (i := 146) (by decide +kernel))) (hts _ (mt1 (i := 1) (by decide +kernel))) (hs _ (by decide +kernel)) (hs _ (by decide +kernel)) (fun j hj => by
    match j, hj with
    | 0, _ => exact hs _ (by decide +kernel)
    | 1, _ => exact hs _ (by decide +kernel)
    | 2, _ => exact hs _ (by decide +kernel)
    | 3, _ => exact hs _ (by decide +kernel)
    | 4, _ => exact hs _ (by decide +kernel)
    | 5, _ => exact hs _ (by decide +kernel)
    | 6, _ => exact hs _ (by decide +kernel)
    | 7, _ => exact hs _ (by decide +kernel)
    | 8, _ => exact hs _ (by decide +kernel)
    | 9, _ => exact hs _ (by decide +kernel)
    | 10, _ => exact hs _ (by decide +kernel)
    | (j + 11), h => exact absurd h (by show ¬ j + 11 < 11; omega))
  obtain ⟨t1, z1, w1⟩ := l_tab (nm := "GROUPS") (vals := psV 1) (by decide) (hts _ (mt2 (i := 214) (by decide +kernel))) (hts _ (mt1 (i := 1) (by decide +kernel))) (hs _ (by decide +kernel)) (hs _ (by decide +kernel)) (fun j hj => by
    match j, hj with
    | 0, _ => exact hs _ (by decide +kernel)
    | 1, _ => exact hs _ (by decide +kernel)
    | 2, _ => exact hs _ (by decide +kernel)
    | 3, _ => exact hs _ (by decide +kernel)
    | 4, _ => exact hs _ (by decide +kernel)
    | 5, _ => exact hs _ (by decide +kernel)
    | (j + 6), h => exact absurd h (by show ¬ j + 6 < 6; omega))
  obtain ⟨t2, z2, w2⟩ := l_tab (nm := "ABOVE") (vals := psV 2) (by decide) (hts _ (mt2 (i := 56) (by decide +kernel))) (hts _ (mt1 (i := 1) (by decide +kernel))) (hs _ (by decide +kernel)) (hs _ (by decide +kernel)) (fun j hj => by
    match j, hj with
    | 0, _ => exact hs _ (by decide +kernel)
    | 1, _ => exact hs _ (by decide +kernel)
    | 2, _ => exact hs _ (by decide +kernel)
    | 3, _ => exact hs _ (by decide +kernel)
    | 4, _ => exact hs _ (by decide +kernel)
    | (j + 5), h => exact absurd h (by show ¬ j + 5 < 5; omega))
  obtain ⟨t3, z3, w3⟩ := l_tab (nm := "BODIES") (vals := psV 3) (by decide) (hts _ (mt2 (i := 235) (by decide +kernel))) (hts _ (mt1 (i := 1) (by decide +kernel))) (hs _ (by decide +kernel)) (hs _ (by decide +kernel)) (fun j hj => by
    match j, hj with
    | 0, _ => exact hs _ (by decide +kernel)
    | 1, _ => exact hs _ (by decide +kernel)
    | 2, _ => exact hs _ (by decide +kernel)
    | 3, _ => exact hs _ (by decide +kernel)
    | 4, _ => exact hs _ (by decide +kernel)
    | 5, _ => exact hs _ (by decide +kernel)
    | 6, _ => exact hs _ (by decide +kernel)
    | 7, _ => exact hs _ (by decide +kernel)
    | 8, _ => exact hs _ (by decide +kernel)
    | 9, _ => exact hs _ (by decide +kernel)
    | 10, _ => exact hs _ (by decide +kernel)
    | 11, _ => exact hs _ (by decide +kernel)
    | 12, _ => exact hs _ (by decide +kernel)
    | 13, _ => exact hs _ (by decide +kernel)
    | 14, _ => exact hs _ (by decide +kernel)
    | (j + 15), h => exact absurd h (by show ¬ j + 15 < 15; omega))
  refine ⟨t0, t1, t2, t3, fun u hu => ?_⟩
  rcases List.mem_cons.mp hu with rfl | hu
  · exact ⟨z0, w0⟩
  rcases List.mem_cons.mp hu with rfl | hu
  · exact ⟨z1, w1⟩
  rcases List.mem_cons.mp hu with rfl | hu
  · exact ⟨z2, w2⟩
  rcases List.mem_cons.mp hu with rfl | hu
  · exact ⟨z3, w3⟩
  exact absurd hu List.not_mem_nil
end LSU
