/-! ===== an array of rows of ints, made at once ===== -/
/-- the outer array when i of its rows are there -/
def mgO (cA : ClassId) (N h0 i : Nat) : Cell := arrV cA N (fun j => if j < i then .ref (h0 + 1 + j) else .null)
theorem mgO_put (cA : ClassId) (N h0 i : Nat) : (mgO cA N h0 i).setSlot i (.ref (h0 + 1 + i)) = mgO cA N h0 (i + 1) := by
  unfold mgO
  rw [arrV_store]
  congr 1
  funext j
  show (if j = i then Value.ref (h0 + 1 + i) else if j < i then Value.ref (h0 + 1 + j) else Value.null) = if j < i + 1 then Value.ref (h0 + 1 + j) else Value.null
  by_cases h1 : j = i
  · rw [if_pos h1, if_pos (by omega), h1]
  · rw [if_neg h1]
    by_cases h2 : j < i
    · rw [if_pos h2, if_pos (by omega)]
    · rw [if_neg h2, if_neg (by omega)]
def mgR (comp : ClassId) (M : Nat) : Cell := arrV comp M (fun _ => .int 0)
def mgS (U : State) (cA comp : ClassId) (N M : Nat) : Nat → State
  | 0 => U.pushCell (mgO cA N U.heap.size 0)
  | i + 1 => ((mgS U cA comp N M i).pushCell (mgR comp M)).setCell U.heap.size (mgO cA N U.heap.size (i + 1))
theorem mgS_at (U : State) (cA comp : ClassId) (N M : Nat) : ∀ i, (mgS U cA comp N M i).heap.size = U.heap.size + 1 + i ∧ (mgS U cA comp N M i).heap[U.heap.size]? = some (mgO cA N U.heap.size i) ∧ (mgS U cA comp N M i).vm = U.vm ∧ (mgS U cA comp N M i).slotsUsed = U.slotsUsed + N + i * M ∧ (∀ q, q < U.heap.size → (mgS U cA comp N M i).heap[q]? = U.heap[q]?) ∧ ∀ j, j < i → (mgS U cA comp N M i).heap[U.heap.size + 1 + j]? = some (mgR comp M)
  | 0 => by
    refine ⟨?_, ?_, rfl, ?_, fun q hq => State.heap_pushCell_of_lt _ _ hq, fun j hj => absurd hj (Nat.not_lt_zero j)⟩
    · show (U.pushCell _).heap.size = _
      rw [size_pushCell]
    · exact State.heap_pushCell_size _ _
    · simp [mgS, mgO, arrV_size]
  | i + 1 => by
    obtain ⟨h1, h2, h3, h4, h5, h6⟩ := mgS_at U cA comp N M i
    have hlt : U.heap.size < ((mgS U cA comp N M i).pushCell (mgR comp M)).heap.size := by rw [size_pushCell, h1]; omega
    have hlt0 : ∀ q, q < U.heap.size + 1 + i → q < (mgS U cA comp N M i).heap.size := fun q hq => by rw [h1]; exact hq
    refine ⟨?_, heapAt_setCell_self _ hlt, by simp [mgS, h3], ?_, fun q hq => ?_, fun j hj => ?_⟩
    · show (((mgS U cA comp N M i).pushCell (mgR comp M)).setCell _ _).heap.size = _
      rw [size_setCell, size_pushCell, h1]
      omega
    · have e1 : (mgR comp M).slots.size = M := arrV_size _ _ _
      simp [mgS, h4, e1, Nat.succ_mul]
      omega
    · show (((mgS U cA comp N M i).pushCell (mgR comp M)).setCell U.heap.size _).heap[q]? = _
      rw [heapAt_setCell_ne _ (show U.heap.size ≠ q by omega), State.heap_pushCell_of_lt (h := hlt0 q (by omega))]
      exact h5 q hq
    · show (((mgS U cA comp N M i).pushCell (mgR comp M)).setCell U.heap.size _).heap[U.heap.size + 1 + j]? = _
      rw [heapAt_setCell_ne _ (show U.heap.size ≠ U.heap.size + 1 + j by omega)]
      by_cases e : j = i
      · rw [e, ← h1]
        exact State.heap_pushCell_size _ _
      · rw [State.heap_pushCell_of_lt (h := hlt0 _ (by omega))]
        exact h6 j (by omega)
theorem mgS_top (U : State) (f : JFrame) (cA comp : ClassId) (N M : Nat) : ∀ i, mgS (U.setTop f) cA comp N M i = (mgS U cA comp N M i).setTop f
  | 0 => rfl
  | i + 1 => by simp only [mgS, mgS_top U f cA comp N M i, State.heap_setTop, State.pushCell_setTop, State.setCell_setTop]
section MG
variable {p : Program} {l : Launch} {e : Env} {R : Room} {s : State} {m : MethodId} {args : Array Value} {below : List Frame} {meth : Method} {c : Code} {T : State} {H : Heap} {locs : List Loc} {cells slots : Nat} {Q : State → Prop}
theorem mgS_stand (X : Stand p l e R s m args below meth c T locs cells slots) (cA comp : ClassId) (N M : Nat) : ∀ i, Stand p l e R s m args below meth c (mgS T cA comp N M i) (locs ++ (List.range i).map fun j => ⟨T.heap.size, j⟩) (cells + 1 + i) (slots + N + i * M)
  | 0 => by
    have h := X.pushed (mgO cA N T.heap.size 0)
    rw [show (mgO cA N T.heap.size 0).slots.size = N from arrV_size _ _ _] at h
    simpa [mgS] using h
  | i + 1 => by
    have Xi := mgS_stand X cA comp N M i
    obtain ⟨h1, h2, -⟩ := mgS_at T cA comp N M i
    have hlt0 : T.heap.size < (mgS T cA comp N M i).heap.size := by rw [h1]; omega
    have hc : ((mgS T cA comp N M i).pushCell (mgR comp M)).heap[T.heap.size]? = some (mgO cA N T.heap.size i) := by
      rw [State.heap_pushCell_of_lt (h := hlt0)]
      exact h2
    have h := (Xi.pushed (mgR comp M)).stored hc i (.ref (T.heap.size + 1 + i))
    rw [mgO_put, show (mgR comp M).slots.size = M from arrV_size _ _ _] at h
    have e2 : (locs ++ (List.range (i + 1)).map fun j => (⟨T.heap.size, j⟩ : Loc)) = (locs ++ (List.range i).map fun j => (⟨T.heap.size, j⟩ : Loc)) ++ [⟨T.heap.size, i⟩] := by simp [List.range_succ, List.append_assoc]
    rw [e2, show slots + N + (i + 1) * M = slots + N + i * M + M by rw [Nat.succ_mul]; omega]
    exact h
theorem mg_row {E : CtlPost} {d : Bool} {acts : List Action} {comp cc : ClassId} {kc : Class} {M : Int32} (hkc : s.vm.classes[comp]? = some kc) (hkind : kc.kind = .array cc .int) (hM : ¬ M < 0) (hl : ¬ M.toNatClampNeg > e.platform.arrayLengthLimit) (hh : ¬ M.toNatClampNeg * componentBytes .int > e.platform.maxHeapBytes) (h1 : s.heap.size < e.platform.maxCells) (h2 : s.slotsUsed + M.toNatClampNeg ≤ e.platform.maxSlots) {Qp : Addr → Pre} (hq : ∀ acts', Qp s.heap.size d acts' (s.pushCell (mgR comp M.toNatClampNeg))) : wp (multianewarray.make comp [M]) Qp E e d acts s := by
  rw [multianewarray.make]
  simp only [wp_bind', Jvm.W.ite, hM, if_false, wp_pure', Jvm.W.theClass, hkc, hkind, Option.some.injEq, exists_eq_left']
  refine Jvm.W.newArray_of hkc hkind hl hh h1 h2 rfl (fun acts' => ?_)
  have e1 : ({ cls := comp, slots := Array.replicate M.toNatClampNeg (defaultValue .int) } : Cell) = mgR comp M.toNatClampNeg := arrV_new comp M.toNatClampNeg (.int 0)
  rw [e1]
  exact hq acts'
theorem mg_all {E : CtlPost} {d : Bool} {acts : List Action} {cA comp cc : ClassId} {k kc : Class} {N M : Int32} (hk : s.vm.classes[cA]? = some k) (hkA : k.kind = .array comp (.array .int)) (hkc : s.vm.classes[comp]? = some kc) (hkind : kc.kind = .array cc .int) (hN : ¬ N < 0) (hM : ¬ M < 0) (hl1 : ¬ N.toNatClampNeg > e.platform.arrayLengthLimit) (hh1 : ¬ N.toNatClampNeg * componentBytes (.array .int) > e.platform.maxHeapBytes) (hl : ¬ M.toNatClampNeg > e.platform.arrayLengthLimit) (hh : ¬ M.toNatClampNeg * componentBytes .int > e.platform.maxHeapBytes) (h1 : s.heap.size + 1 + N.toNatClampNeg ≤ e.platform.maxCells) (h2 : s.slotsUsed + N.toNatClampNeg + N.toNatClampNeg * M.toNatClampNeg ≤ e.platform.maxSlots) {Qp : Addr → Pre} (hq : ∀ d' acts', Qp s.heap.size d' acts' (mgS s cA comp N.toNatClampNeg M.toNatClampNeg N.toNatClampNeg)) : wp (multianewarray.make cA [N, M]) Qp E e d acts s := by
  generalize hn : N.toNatClampNeg = n at hl1 hh1 h1 h2 hq ⊢
  have hnone : ([M].find? (· < 0)) = none := by simp [hM]
  rw [multianewarray.make]
  simp only [wp_bind', Jvm.W.ite, hN, if_false, wp_pure', Jvm.W.theClass, hk, hkA, Option.some.injEq, exists_eq_left']
  rw [hn]
  refine Jvm.W.newArray_of hk hkA hl1 hh1 (by omega) (by have := Nat.zero_le (n * M.toNatClampNeg); omega) rfl (fun acts1 => ?_)
  have e1 : ({ cls := cA, slots := Array.replicate n .null } : Cell) = mgO cA n s.heap.size 0 := (arrV_new cA n .null).trans (by unfold mgO; congr 1)
  rw [e1]
  simp only [hnone]
  rw [ite_self, wp_bind', Std.Legacy.Range.forIn_eq_forIn_range']
  have hsz : ([:n] : Std.Legacy.Range).size = n := by simp [Std.Legacy.Range.size]
  rw [hsz]
  refine wp_forIn_inv (fun todo u => ∃ i, i ≤ n ∧ todo = List.range' i (n - i) ∧ u = mgS s cA comp n M.toNatClampNeg i) _ _ ⟨0, Nat.zero_le _, rfl, rfl⟩ ?_ ?_
  · rintro x todo u d' acts' Qn ⟨i, hi, hlst, rfl⟩ hnext
    have hin : i < n := by
      apply Nat.not_le.mp
      intro q
      rw [show n - i = 0 by omega] at hlst
      cases hlst
    rw [show n - i = (n - (i + 1)) + 1 by omega, List.range'_succ] at hlst
    obtain ⟨rfl, hrest⟩ := List.cons.inj hlst
    obtain ⟨g1, g2, g3, g4, -, -⟩ := mgS_at s cA comp n M.toNatClampNeg x
    have hmul : x * M.toNatClampNeg + M.toNatClampNeg ≤ n * M.toNatClampNeg := by
      have := Nat.mul_le_mul_right M.toNatClampNeg (show x + 1 ≤ n from hin)
      rw [Nat.succ_mul] at this
      exact this
    simp only [wp_bind']
    refine mg_row (by rw [g3]; exact hkc) hkind hM hl hh (by rw [g1]; omega) (by rw [g4]; omega) (fun acts2 => ?_)
    simp only [wp_bind', Jvm.W.writeLoc, wp_pure']
    have hlt0 : s.heap.size < (mgS s cA comp n M.toNatClampNeg x).heap.size := by rw [g1]; omega
    refine ⟨mgO cA n s.heap.size x, by rw [State.heap_pushCell_of_lt (h := hlt0)]; exact g2, by simp [mgO, arrV], by rw [show (mgO cA n s.heap.size x).slots.size = n from arrV_size _ _ _]; exact hin, ?_, hnext _ _ _ ⟨x + 1, hin, hrest, ?_⟩⟩
    · simp [State.fitsSlot, State.slotType?, mgO, arrV, g3, hk, hkA, fits]
    · rw [g1, mgO_put]
      rfl
  · rintro u d' acts' ⟨i, hi, hlst, rfl⟩
    have hin : i = n := by
      apply Nat.le_antisymm hi
      apply Nat.not_lt.mp
      intro q
      rw [show n - i = (n - (i + 1)) + 1 by omega, List.range'_succ] at hlst
      cases hlst
    subst hin
    simp only [wp_pure']
    exact hq _ _
/-- the row: N rows of M ints -/
theorem W.mul {cc : ByteArray} (hexec : p.tables.exec = Jvm.exec) (hb : c.code = cc) {own : String} {index : Nat} (hown : s.vm.findClass own = some m.cls) (hclink : (Cond.classLink own index "[[I").before args s = true) (hover : (Cond.arrayOver (.array .int)).before args s = true) (harr : (Cond.arrayClass .int).before args s = true)
    {g : JFrame} (hg : g.method = m) (hdg : decode cc g.pc = .ok (.multianewarray index 2, 4)) {N M : Int32} {rest : List Value} (hstack : g.stack = .int M :: .int N :: rest) (hN : ¬ N < 0) (hM : ¬ M < 0) (hb1 : N.toNatClampNeg * 4 ≤ 536870912) (hb2 : M.toNatClampNeg * 4 ≤ 536870912) (hcells : cells + (1 + N.toNatClampNeg) ≤ R.cells) (hslots : slots + (N.toNatClampNeg + N.toNatClampNeg * M.toNatClampNeg) ≤ R.slots)
    (kk : ∀ (H1 : Heap) (locs1 : List Loc) (cA comp : ClassId), s.vm.findClass "[[I" = some cA → s.vm.findClass "[I" = some comp → H1.size = H.size + 1 + N.toNatClampNeg → (∀ q, q < H.size → H1[q]? = H[q]?) → H1[H.size]? = some (arrV cA N.toNatClampNeg (fun j => .ref (H.size + 1 + j))) → (∀ j, j < N.toNatClampNeg → H1[H.size + 1 + j]? = some (arrV comp M.toNatClampNeg (fun _ => .int 0))) → (∀ x ∈ locs1, x ∈ locs ∨ x.base = H.size) →
      W p l e R s m args below meth c H1 locs1 (cells + (1 + N.toNatClampNeg)) (slots + (N.toNatClampNeg + N.toNatClampNeg * M.toNatClampNeg)) Q { g with pc := g.pc + 4, stack := .ref H.size :: rest }) : W p l e R s m args below meth c H locs cells slots Q g := by
  intro T hT X
  subst hT; subst hb; subst hg
  have hpl : e.platform.magicAccessors = ({} : Platform).magicAccessors := by rw [X.admits.platform]
  obtain ⟨comp, cA, kA, hcomp, -, hkA, hkindA, hnameA⟩ := arrayOverA_spec hover
  obtain ⟨comp2, kC, cc2, hcomp2, hkC, hkindC⟩ := Cond.arrayClass_spec harr
  have ec : comp2 = comp := Option.some.inj (hcomp2.symm.trans hcomp)
  subst ec
  obtain ⟨c0, hfc0, hcl⟩ := Cond.classLink_spec hown hclink e.platform hpl
  have ec2 : c0 = cA := Option.some.inj (hfc0.symm.trans hnameA)
  subst ec2
  obtain ⟨hg1, hwarm, -⟩ := State.classEntry (e := e) X.warmed hcl
  generalize T.vm.noted g.method.cls index (.cls c0) = vm1 at hg1 hwarm
  have hal : s.vm.Alike vm1 := hwarm.alike
  obtain ⟨kA1, hkA1, heA⟩ := hal.2.2 _ _ hkA
  obtain ⟨kC1, hkC1, heC⟩ := hal.2.2 _ _ hkC
  have hkindA1 : kA1.kind = .array comp2 (.array .int) := by rw [heA]; exact hkindA
  have hkindC1 : kC1.kind = .array cc2 .int := by rw [heC]; exact hkindC
  have X1 := X.noted hwarm
  have XF := mgS_stand X1 c0 comp2 N.toNatClampNeg M.toNatClampNeg N.toNatClampNeg
  obtain ⟨hr1, hr2⟩ := X.roomAbove hcells hslots
  obtain ⟨f1, f2, f3, f4, f5, f6⟩ := mgS_at (T.setVm vm1) c0 comp2 N.toNatClampNeg M.toNatClampNeg N.toNatClampNeg
  have hlimN : ¬ N.toNatClampNeg > e.platform.arrayLengthLimit := by rw [Launch.admits_arrayLengthLimit X.admits]; omega
  have hheapN : ¬ N.toNatClampNeg * componentBytes (.array .int) > e.platform.maxHeapBytes := by
    rw [Launch.admits_maxHeapBytes X.admits]
    show ¬ N.toNatClampNeg * 4 > 536870912
    omega
  have hlimM : ¬ M.toNatClampNeg > e.platform.arrayLengthLimit := by rw [Launch.admits_arrayLengthLimit X.admits]; omega
  have hheapM : ¬ M.toNatClampNeg * componentBytes .int > e.platform.maxHeapBytes := by
    rw [Launch.admits_maxHeapBytes X.admits]
    show ¬ M.toNatClampNeg * 4 > 536870912
    omega
  have hfull : mgO c0 N.toNatClampNeg T.heap.size N.toNatClampNeg = arrV c0 N.toNatClampNeg (fun j => .ref (T.heap.size + 1 + j)) := by
    unfold mgO arrV
    congr 1
    apply Array.ext_getElem?
    intro i
    by_cases hi : i < N.toNatClampNeg
    · simp [hi]
    · simp [hi]
  obtain ⟨t, a1, b1⟩ := kk (mgS (T.setVm vm1) c0 comp2 N.toNatClampNeg M.toNatClampNeg N.toNatClampNeg).heap (locs ++ (List.range N.toNatClampNeg).map fun j => (⟨T.heap.size, j⟩ : Loc)) c0 comp2 hfc0 hcomp f1 f5 (by rw [← hfull]; exact f2) f6 (fun x hx => by
    rcases List.mem_append.mp hx with q | q
    · exact Or.inl q
    · obtain ⟨j, -, rfl⟩ := List.mem_map.mp q
      exact Or.inr rfl) (mgS (T.setVm vm1) c0 comp2 N.toNatClampNeg M.toNatClampNeg N.toNatClampNeg) rfl (by
    have e3 : cells + (1 + N.toNatClampNeg) = cells + 1 + N.toNatClampNeg := by omega
    have e4 : slots + (N.toNatClampNeg + N.toNatClampNeg * M.toNatClampNeg) = slots + N.toNatClampNeg + N.toNatClampNeg * M.toNatClampNeg := by omega
    rw [e3, e4]
    exact XF)
  refine ⟨t, ?_, b1⟩
  jvm_step X.here [hexec, hdg]
  simp only [multianewarray.sem, wp_bind', Jvm.W.resolveClassAt_links (State.method?_setTop g X.here.top) hg1]
  rw [Jvm.W.popN, if_neg (by decide)]
  refine ⟨g, State.topJava?_setTop' (s := T.setVm vm1) g X.here.top, [.int N, .int M], rest, rfl, hstack, ?_⟩
  simp only [List.mapM_cons, List.mapM_nil, wp_bind', wp_pure']
  refine mg_all (cc := cc2) hkA1 hkindA1 hkC1 hkindC1 hN hM hlimN hheapN hlimM hheapM (by show T.heap.size + 1 + _ ≤ _; omega) (by show T.slotsUsed + _ + _ ≤ _; omega) (fun d' acts' => ?_)
  have e5 : ((T.setTop g).setVm vm1).setTop { g with stack := rest } = (T.setVm vm1).setTop { g with stack := rest } := by
    show ((T.setVm vm1).setTop g).setTop _ = _
    rw [State.setTop_setTop]
  rw [e5, mgS_top]
  simp only [wp_bind', Jvm.W.mark, Jvm.W.pushRef, State.topJava?_setTop' _ XF.here.top, Option.some.injEq, exists_eq_left', State.setTop_setTop, State.heap_setTop]
  intro acts
  simp [jvm, XF.here.top]
  exact a1
end MG
