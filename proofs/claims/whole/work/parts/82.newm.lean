/-! ===== the pure machine: cells that are made ===== -/
def okV (n : Nat) : Value → Bool
  | .ref k => decide (k < n)
  | _ => true
def okL (n : Nat) (lv : List (Option Value)) : Bool := lv.all (fun o => match o with
  | some v => okV n v
  | none => true)
def okC (n : Nat) : PCell → Prop
  | .inl (_, .inl _) => True
  | .inl (_, .inr (.inl _)) => True
  | .inl (_, .inr (.inr (_, f))) => ∀ j k, f j = some k → k < n
  | .inr (_, fs) => fs.all (okV n) = true
/-- no cell points beyond the heap -/
def Cls (h : PH) : Prop := ∀ (i : Nat) (c : PCell), h[i]? = some c → okC h.length c
theorem pcv_ag {n : Nat} {ad ad' : Nat → Nat} {sa : UInt32 → Nat} {v : Value} (hag : ∀ k, k < n → ad' k = ad k) (h : okV n v = true) : pcv ad' sa v = pcv ad sa v := by
  cases v with
  | ref k =>
    show Value.ref (ad' k) = Value.ref (ad k)
    rw [hag k (of_decide_eq_true h)]
  | _ => rfl
theorem okV_le {n n' : Nat} (hle : n ≤ n') {v : Value} (h : okV n v = true) : okV n' v = true := by
  cases v with
  | ref k => exact decide_eq_true (Nat.lt_of_lt_of_le (of_decide_eq_true h) hle)
  | _ => rfl
theorem okC_le {n n' : Nat} (hle : n ≤ n') : ∀ {c : PCell}, okC n c → okC n' c
  | .inl (_, .inl _), _ => trivial
  | .inl (_, .inr (.inl _)), _ => trivial
  | .inl (_, .inr (.inr (_, f))), h => fun j k hk => Nat.lt_of_lt_of_le (h j k hk) hle
  | .inr (_, fs), h => List.all_eq_true.mpr (fun v hv => okV_le hle (List.all_eq_true.mp h v hv))
theorem pce_ag {ta : Nat → ClassId} {n : Nat} {ad ad' : Nat → Nat} {sa : UInt32 → Nat} (hag : ∀ k, k < n → ad' k = ad k) : ∀ {c : PCell}, okC n c → pce ta ad' sa c = pce ta ad sa c
  | .inl (_, .inl _), _ => rfl
  | .inl (_, .inr (.inl _)), _ => rfl
  | .inl (m, .inr (.inr (t, f))), h => by
    have e : (fun j => (f j).map ad') = fun j => (f j).map ad := by
      funext j
      cases hj : f j with
      | none => rfl
      | some k =>
        show some (ad' k) = some (ad k)
        rw [hag k (h j k hj)]
    show (Sum.inl (ta t, m, .inr (.inr (.inr (.inr (fun j => (f j).map ad'))))) : va_E) = _
    rw [e]
    rfl
  | .inr (ci, fs), h => by
    have e : fs.map (pcv ad' sa) = fs.map (pcv ad sa) := List.map_congr_left (fun v hv => pcv_ag hag (List.all_eq_true.mp h v hv))
    show (Sum.inr (ci, fs.map (pcv ad' sa)) : va_E) = _
    rw [e]
    rfl
theorem pcw_ag {ta : Nat → ClassId} {h : PH} {ad ad' : Nat → Nat} {sa : UInt32 → Nat} (hc : Cls h) (hag : ∀ k, k < h.length → ad' k = ad k) : pcw ta ad' sa h = pcw ta ad sa h := by
  apply List.ext_getElem?
  intro i
  simp only [pcw, List.getElem?_mapIdx]
  cases hi : h[i]? with
  | none => rfl
  | some c =>
    show some (ad' i, pce ta ad' sa c) = some (ad i, pce ta ad sa c)
    rw [hag i (List.getElem?_eq_some_iff.mp hi).1, pce_ag hag (hc i c hi)]
theorem pcw_snoc {ta : Nat → ClassId} {ad : Nat → Nat} {sa : UInt32 → Nat} (h : PH) (c : PCell) : pcw ta ad sa (h ++ [c]) = pcw ta ad sa h ++ [(ad h.length, pce ta ad sa c)] := by
  simp [pcw, List.mapIdx_append]
theorem map_ag {n : Nat} {ad ad' : Nat → Nat} {sa : UInt32 → Nat} {st : List Value} (hag : ∀ k, k < n → ad' k = ad k) (h : st.all (okV n) = true) : st.map (pcv ad' sa) = st.map (pcv ad sa) := List.map_congr_left (fun v hv => pcv_ag hag (List.all_eq_true.mp h v hv))
theorem pl_ag {n nL : Nat} {ad ad' : Nat → Nat} {sa : UInt32 → Nat} {ls : Array Slot} {lv : List (Option Value)} (hag : ∀ k, k < n → ad' k = ad k) (h : okL n lv = true) (hl : pl_has (pcv ad sa) ls nL lv) : pl_has (pcv ad' sa) ls nL lv := ⟨hl.1, hl.2.1, fun i v hi => by
  have h1 : okV n v = true := List.all_eq_true.mp h (some v) (List.mem_of_getElem? hi)
  rw [pcv_ag hag h1]
  exact hl.2.2 i v hi⟩
theorem Cls_app {h : PH} {c : PCell} (hc : Cls h) (h1 : okC (h.length + 1) c) : Cls (h ++ [c]) := by
  intro i x hi
  rw [List.length_append]
  by_cases q : i < h.length
  · rw [List.getElem?_append_left q] at hi
    exact okC_le (Nat.le_succ _) (hc i x hi)
  · rw [List.getElem?_append_right (by omega)] at hi
    have hz : i - h.length < 1 := (List.getElem?_eq_some_iff.mp hi).1
    rw [show i - h.length = 0 by omega] at hi
    cases hi
    exact h1
theorem Cls_set {h : PH} {c : PCell} {k : Nat} (hc : Cls h) (h1 : okC h.length c) : Cls (h.set k c) := by
  intro i x hi
  rw [List.length_set]
  by_cases q : k = i
  · subst q
    rw [List.getElem?_set] at hi
    by_cases w : k < h.length
    · rw [if_pos rfl, if_pos w] at hi
      cases hi
      exact h1
    · rw [if_pos rfl, if_neg w] at hi
      cases hi
  · rw [List.getElem?_set_ne q] at hi
    exact hc i x hi
/-- the context with another way to name cells, and with so many cells made -/
def GU (Γ : GT) (ad : Nat → Nat) (cl sl : Nat) : GT := (Γ.1, Γ.2.1, (Γ.2.2.1.1, Γ.2.2.1.2.1, ad, Γ.2.2.1.2.2.2.1, Γ.2.2.1.2.2.2.2), cl, sl, Γ.2.2.2.2.2)
def GS (Γ : GT) : State := Γ.1.2.2.2.2.1
def AOA (U : State) : Prop := (Cond.arrayOver (.array .int)).before #[] U = true
/-- a field of a reference, final, written by its constructor -/
def PFR (own : String) (idx ci j : Nat) (ty : FieldType) : Prop := ∃ q : vw_C, vwCl[ci]? = some q ∧ (∀ w ∈ u_ws q.1 q.2.1 q.2.2, w ∈ lw_g) ∧ j < q.2.2 ∧ Cond.fieldLink own idx (q.2.1 j).1 (q.2.1 j).2.1 (q.2.1 j).2.2.1 ∈ lw_g ∧ ((q.2.1 j).2.2.2 = true ∧ (q.2.1 j).1 = own) ∧ parseFieldDescriptor (q.2.1 j).2.2.1 = some ty ∧ (∃ ty0 : Nat → FieldType, ∀ k, k < q.2.2 → parseFieldDescriptor (q.2.1 k).2.2.1 = some (ty0 k)) ∧ (∀ a, a < q.2.2 → ∀ b, b < q.2.2 → a ≠ b → (q.2.1 a).2.1 ≠ (q.2.1 b).2.1) ∧ ∀ a, narrow ty (.ref a) = .ref a ∧ fits ty (.ref a) = true
/-- a class whose objects are made -/
def PNW (own : String) (idx ci N : Nat) (fs : List Value) : Prop := ∃ (C : String) (T : u_T) (ty : Nat → FieldType), vwCl[ci]? = some (C, T, N) ∧ (∀ w ∈ u_ws C T N, w ∈ lw_g) ∧ (∀ k, k < N → parseFieldDescriptor (T k).2.2.1 = some (ty k)) ∧ Cond.classLink own idx C ∈ lw_g ∧ Cond.instantiable C N ∈ lw_g ∧ Cond.initialized C ∈ lw_g ∧ (∀ j, j < N → defaultValue (ty j) = vp_V fs j) ∧ ∀ ad sa, fs.map (pcv ad sa) = fs
def prmN (k mc ms : Nat) : Room := { frames := k, cells := mc, slots := ms, locals := 60 * k }
def PQN (D : va_G) (ta : Nat → ClassId) (ad : Nat → Nat) (sa : UInt32 → Nat) (A : Nat → Prop) (n0 : Nat) (Q : PH → Prop) : Array Value → State → Outcome → State → Prop := fun _ st oc t => (∃ (h' : PH) (ad' : Nat → Nat), (∀ k, k < n0 → ad' k = ad k) ∧ oc = .returned none ∧ Q h' ∧ va_P D vwCl (pcw ta ad' sa h') t.heap ∧ va_K D vwCl (ptys ta) t ∧ va_D A (pcw ta ad' sa h')) ∧ va_F A st t
def pmNest : List (Nat × MethodName) := [(28, yX0_init), (66, yX4_init), (67, yX5_init)]
/-- what a constructor needs of the tables beyond the words -/
def AO3 (U : State) : Prop := AOA U ∧ va_AO "ShuffleDesk$Shuffle" U ∧ va_AO "ShuffleDesk$Tray" U ∧ ∀ q ∈ pmNest, va_Nw (.methodLinkNest "ShuffleDesk" q.1 q.2 "ShuffleDesk") U
def pstN (D : va_G) (ta : Nat → ClassId) (ad : Nat → Nat) (sa : UInt32 → Nat) (h : PH) (sz : Nat) (U : State) : Prop := pst D ta ad sa h sz U ∧ AO3 U
def GA (Γ : GT) : Prop := AO3 (GS Γ) ∧ Γ.2.1.2.2.1.name = "<init>"
def GZN (Γ : GT) (ad0 : Nat → Nat) (n0 mc ms : Nat) (Q : PH → Prop) : Prop := Γ.2.2.2.2.2 = MQ Γ.2.1.2.1 (PQN Γ.2.2.1.1 Γ.2.2.1.2.1 ad0 Γ.2.2.1.2.2.2.1 Γ.2.2.1.2.2.2.2 n0 Q) Γ.2.1.1 (GS Γ) mc ms Γ.2.2.1.2.2.2.2
/-- the contract of a constructor that makes mc cells of ms slots -/
def RunsN (y : MethodName) (cc : ByteArray) (nL k : Nat) (av : List Value) (h : PH) (Q : PH → Prop) (mc ms : Nat) : Prop := ∀ (l : Launch) (D : va_G) (ta : Nat → ClassId) (ad : Nat → Nat) (sa : UInt32 → Nat) (sz : Nat), Met l y (pws y cc nL none) (prmN k mc ms) (va_Pc (av.map (pcv ad sa)) (pstN D ta ad sa h sz)) (PQN D ta ad sa (va_A (pcw ta ad sa h) sz) h.length Q) mc ms (va_A (pcw ta ad sa h) sz)
theorem RunsN.of {y : MethodName} {cc : ByteArray} {nL k mc ms : Nat} {av : List Value} {h : PH} {Q : PH → Prop} (hy : plainName y.cls = true) (hni : y.name = "<init>") (hlen : (av.map fun v => v.category).sum ≤ nL) (lv : List (Option Value)) (mm : Nat) (hlv : pl_ent av ++ List.replicate mm none = lv)
    (body : ∀ (Γ : GT) (ad0 : Nat → Nat), (∀ ad cl sl, cl ≤ mc → sl ≤ ms → GM (GU Γ ad cl sl) y cc nL none k) → GZN Γ ad0 h.length mc ms Q → GA Γ → PB (GU Γ ad0 0 0) 0 lv [] h) : RunsN y cc nL k av h Q mc ms := by
  intro l D ta ad sa sz
  refine Met.ofW (cc := cc) (maxL := nL) (ret := none) hy rfl ?_
  intro p e s m args below meth c s₁ B hml hv
  obtain ⟨rfl, ⟨hsz, hP, hK, hD0, hPS, hPN⟩, hA1⟩ := hv
  subst hsz
  have hts0 := atoms_spec (ws := pws y cc nL none) B.pre
  have hts : ∀ w ∈ lw_g, w.before (av.map (pcv ad sa)).toArray s = true := fun w hw => hts0 w (List.mem_cons_of_mem _ hw)
  have hown : s.vm.findClass y.cls = some m.cls := findClass_of_methodNamed B.named
  have hnm : meth.name = "<init>" := (name_of_methodNamed B.named B.method).1.trans hni
  have hb := body ((p, l, e, (headSpec (pws y cc nL none) (prmN k mc ms)).room, s, m), ((av.map (pcv ad sa)).toArray, below, meth, c), (D, ta, ad, sa, va_A (pcw ta ad sa h) s.heap.size), 0, 0, MQ below (PQN D ta ad sa (va_A (pcw ta ad sa h) s.heap.size) h.length Q) (av.map (pcv ad sa)).toArray s mc ms (va_A (pcw ta ad sa h) s.heap.size)) ad (fun ad1 cl sl h1 h2 => ⟨B.exec, B.bytes, hml, B.returns, B.notSynchronized, hown, hts, ⟨Nat.le_refl _, Nat.le_refl _, h1, h2⟩, hK, fun q hq => Or.inr hq, hPS, hPN⟩) rfl ⟨hA1, hnm⟩
  rw [lg_entry_eq]
  have hl0 := lv_entry (av.map (pcv ad sa)) (n := nL) (by rw [lg_sl_len pcv_catE]; exact hlen)
  refine hb s.heap [] _ hP hD0.self va_S.rf ⟨by rw [hml]; exact hl0.1, hl0.2.1, fun i v hi => ?_⟩
  have hi2 : (pl_ent av)[i]? = some (some v) := by
    subst hlv
    by_cases hlt : i < (pl_ent av).length
    · rwa [List.getElem?_append_left hlt] at hi
    · exfalso
      rw [List.getElem?_append_right (by omega)] at hi
      have := List.eq_of_mem_replicate (List.mem_of_getElem? hi)
      cases this
  have h2 := pl_ent_at (cv := pcv ad sa) pcv_catE av 0 i v hi2
  rw [Nat.zero_add] at h2
  exact hl0.2.2 (i, pcv ad sa v) h2
theorem AOA.moved {u U : State} (hvm : u.vm.Alike U.vm) (h : AOA u) : AOA U := by
  obtain ⟨comp, c, k, h1, h2, h3, h4, h5⟩ := arrayOverA_spec h
  obtain ⟨k', hk', he⟩ := hvm.2.2 _ _ h3
  have hkind : k'.kind = .array comp (.array .int) := by rw [he]; exact h4
  have hi : (U.vm.classes.findIdx? fun (x : Class) => match x.kind with | .array component _ => component == comp | _ => false) = some c := by
    rw [hvm.findIdx?_eq _ (fun _ => rfl)]
    exact h2
  have f1 : U.vm.findClass (FieldType.array .int).toString = some comp := by rw [hvm.findClass]; exact h1
  have f2 : U.vm.findClass ("[" ++ (FieldType.array .int).toString) = some c := by rw [hvm.findClass]; exact h5
  unfold AOA Cond.before
  simp only [Cond.holds, Cond.value, f1, Option.bind_some, beq_iff_eq]
  rw [Option.bind_eq_some_iff]
  refine ⟨c, hi, ?_⟩
  simp [hk', hkind, f2]
theorem AO3.warm {s U : State} (h : AO3 s) (hW : s.WarmedH U.vm) : AO3 U := ⟨AOA.moved hW.alike h.1, va_AO.moved hW.alike h.2.1, va_AO.moved hW.alike h.2.2.1, fun q hq => va_Nw.warmM hW (h.2.2.2 q hq)⟩
theorem AO3.calls {U : State} {g : JFrame} {mk : MethodId} {a : Array Value} (h : AO3 U) : AO3 (U.calling g mk a) := ⟨AOA.moved (u := U) (U := U.calling g mk a) (Vm.Alike.refl U.vm) h.1, va_AO.moved (u := U) (U := U.calling g mk a) (Vm.Alike.refl U.vm) h.2.1, va_AO.moved (u := U) (U := U.calling g mk a) (Vm.Alike.refl U.vm) h.2.2.1, fun q hq => va_Nw.same rfl rfl (h.2.2.2 q hq)⟩
theorem arrV_ext {c : ClassId} {N : Nat} {f f2 : Nat → Value} (h : ∀ j, j < N → f j = f2 j) : arrV c N f = arrV c N f2 := by
  unfold arrV
  congr 2
  funext j
  exact h j.1 j.2
theorem va_AO.at {C : String} {args : Array Value} {U : State} (h : va_AO C U) : (Cond.arrayOver (.object C)).before args U = true := h
section PBN
variable {Γ : GT} {ad : Nat → Nat} {cl sl : Nat} {y : MethodName} {cc : ByteArray} {nL : Nat} {rt : Option FieldType} {k pc : Nat} {lv : List (Option Value)} {st : List Value} {h : PH}
theorem pb_newI (g : GM (GU Γ ad cl sl) y cc nL rt k) {N : Nat} (g1 : GM (GU Γ ad (cl + 1) (sl + N)) y cc nL rt k) (hAC : Cond.arrayClass .int ∈ lw_g) (hdg : decode cc pc = .ok (.newarray .int, 2)) (hN : N ≤ 100000) (hc : Cls h) (hlv : okL h.length lv = true) (hst : st.all (okV h.length) = true) (kk : ∀ ad', (∀ k, k < h.length → ad' k = ad k) → PB (GU Γ ad' (cl + 1) (sl + N)) (pc + 2) lv (.ref h.length :: st) (h ++ [pI N (fun _ => 0)])) : PB (GU Γ ad cl sl) pc lv (.int (nI N) :: st) h := by
  obtain ⟨⟨p, l, e, R, s, m⟩, ⟨args, below, meth, c⟩, ⟨D, ta, ad0, sa, A⟩, cl0, sl0, Z⟩ := Γ
  obtain ⟨hx, hb, hml, hr, hlk, hown, hts, hR, hK, hA, hPS, hPN⟩ := g
  obtain ⟨-, -, -, -, -, -, -, hR1, -⟩ := g1
  intro H locs ls hP hD hS hl
  refine va_newa (atype := .int) (ty := .int) (a0 := (N, .inl (fun _ => 0))) (N' := N) hx hb (hts _ hAC) rfl hK hP hD hS hA (fun _ => rfl) (nI_pos (by omega)) (nI_clamp (by omega)) (by show N * 4 ≤ 536870912; omega) hR1.2.2.1 hR1.2.2.2 hdg (fun q cA H2 hK2 hP2 hD2 hS2 => ?_)
  have ecA : cA = ta 0 := Option.some.inj ((hK2.2 5 (cA, .int) rfl).2.symm.trans (hK.2 0 _ rfl).2)
  subst ecA
  have hag : ∀ k, k < h.length → va_up ad h.length q k = ad k := fun k hk => va_upN (by omega)
  have ew : pcw ta (va_up ad h.length q) sa (h ++ [pI N (fun _ => 0)]) = pcw ta ad sa h ++ [(q, .inl (ta 0, (N, .inl (fun _ => 0))))] := by
    rw [pcw_snoc, pcw_ag hc hag, va_upS]
    rfl
  have es : (Value.ref h.length :: st).map (pcv (va_up ad h.length q) sa) = .ref q :: st.map (pcv ad sa) := by
    rw [List.map_cons, map_ag hag hst]
    show Value.ref (va_up ad h.length q h.length) :: _ = _
    rw [va_upS]
  rw [← es]
  exact kk (va_up ad h.length q) hag H2 locs ls (by rw [ew]; exact hP2) (by rw [ew]; exact hD2) hS2 (pl_ag hag hlv hl)
theorem pb_newJ (g : GM (GU Γ ad cl sl) y cc nL rt k) {N : Nat} (g1 : GM (GU Γ ad (cl + 1) (sl + N)) y cc nL rt k) (hAC : Cond.arrayClass .long ∈ lw_g) (hdg : decode cc pc = .ok (.newarray .long, 2)) (hN : N ≤ 100000) (hc : Cls h) (hlv : okL h.length lv = true) (hst : st.all (okV h.length) = true) (kk : ∀ ad', (∀ k, k < h.length → ad' k = ad k) → PB (GU Γ ad' (cl + 1) (sl + N)) (pc + 2) lv (.ref h.length :: st) (h ++ [pJ N (fun _ => 0)])) : PB (GU Γ ad cl sl) pc lv (.int (nI N) :: st) h := by
  obtain ⟨⟨p, l, e, R, s, m⟩, ⟨args, below, meth, c⟩, ⟨D, ta, ad0, sa, A⟩, cl0, sl0, Z⟩ := Γ
  obtain ⟨hx, hb, hml, hr, hlk, hown, hts, hR, hK, hA, hPS, hPN⟩ := g
  obtain ⟨-, -, -, -, -, -, -, hR1, -⟩ := g1
  intro H locs ls hP hD hS hl
  refine va_newa (atype := .long) (ty := .long) (a0 := (N, .inr (.inl (fun _ => 0)))) (N' := N) hx hb (hts _ hAC) rfl hK hP hD hS hA (fun _ => rfl) (nI_pos (by omega)) (nI_clamp (by omega)) (by show N * 8 ≤ 536870912; omega) hR1.2.2.1 hR1.2.2.2 hdg (fun q cA H2 hK2 hP2 hD2 hS2 => ?_)
  have ecA : cA = ta 1 := Option.some.inj ((hK2.2 5 (cA, .long) rfl).2.symm.trans (hK.2 1 _ rfl).2)
  subst ecA
  have hag : ∀ k, k < h.length → va_up ad h.length q k = ad k := fun k hk => va_upN (by omega)
  have ew : pcw ta (va_up ad h.length q) sa (h ++ [pJ N (fun _ => 0)]) = pcw ta ad sa h ++ [(q, .inl (ta 1, (N, .inr (.inl (fun _ => 0)))))] := by
    rw [pcw_snoc, pcw_ag hc hag, va_upS]
    rfl
  have es : (Value.ref h.length :: st).map (pcv (va_up ad h.length q) sa) = .ref q :: st.map (pcv ad sa) := by
    rw [List.map_cons, map_ag hag hst]
    show Value.ref (va_up ad h.length q h.length) :: _ = _
    rw [va_upS]
  rw [← es]
  exact kk (va_up ad h.length q) hag H2 locs ls (by rw [ew]; exact hP2) (by rw [ew]; exact hD2) hS2 (pl_ag hag hlv hl)
theorem pb_new (g : GM (GU Γ ad cl sl) y cc nL rt k) {N idx ci : Nat} {fs : List Value} (g1 : GM (GU Γ ad (cl + 1) (sl + N)) y cc nL rt k) (hC : PNW y.cls idx ci N fs) (hdg : decode cc pc = .ok (.new idx, 3)) (hc : Cls h) (hlv : okL h.length lv = true) (hst : st.all (okV h.length) = true) (kk : ∀ ad', (∀ k, k < h.length → ad' k = ad k) → PB (GU Γ ad' (cl + 1) (sl + N)) (pc + 3) lv (.ref h.length :: st) (h ++ [pO ci fs])) : PB (GU Γ ad cl sl) pc lv st h := by
  obtain ⟨⟨p, l, e, R, s, m⟩, ⟨args, below, meth, c⟩, ⟨D, ta, ad0, sa, A⟩, cl0, sl0, Z⟩ := Γ
  obtain ⟨hx, hb, hml, hr, hlk, hown, hts, hR, hK, hA, hPS, hPN⟩ := g
  obtain ⟨-, -, -, -, -, -, -, hR1, -⟩ := g1
  intro H locs ls hP hD hS hl
  obtain ⟨C, T, ty, c1, c2, c3, c4, c5, c6, c7, c8⟩ := hC
  refine va_new (ci := ci) (fs := fs) hx hb hts c2 ty c3 hown (hts _ c4) (hts _ c5) (hts _ c6) hK hP hD hS hA c1 c7 hR1.2.2.1 hR1.2.2.2 hdg (fun q H2 hP2 hD2 hS2 => ?_)
  have hag : ∀ k, k < h.length → va_up ad h.length q k = ad k := fun k hk => va_upN (by omega)
  have ew : pcw ta (va_up ad h.length q) sa (h ++ [pO ci fs]) = pcw ta ad sa h ++ [(q, .inr (ci, fs))] := by
    rw [pcw_snoc, pcw_ag hc hag, va_upS]
    show _ ++ [(q, (Sum.inr (ci, fs.map (pcv _ sa)) : va_E))] = _
    rw [c8]
  have es : (Value.ref h.length :: st).map (pcv (va_up ad h.length q) sa) = .ref q :: st.map (pcv ad sa) := by
    rw [List.map_cons, map_ag hag hst]
    show Value.ref (va_up ad h.length q h.length) :: _ = _
    rw [va_upS]
  rw [← es]
  exact kk (va_up ad h.length q) hag H2 locs ls (by rw [ew]; exact hP2) (by rw [ew]; exact hD2) hS2 (pl_ag hag hlv hl)
theorem pb_anew (g : GM (GU Γ ad cl sl) y cc nL rt k) {N idx t : Nat} {C : String} (g1 : GM (GU Γ ad (cl + 1) (sl + N)) y cc nL rt k) (hCL : Cond.classLink y.cls idx C ∈ lw_g) (hAO : va_AO C (GS Γ)) (ht : ∀ ta : Nat → ClassId, (ptys ta)[t]? = some (ta t, .object C)) (hdg : decode cc pc = .ok (.anewarray idx, 3)) (hN : N ≤ 100000) (hc : Cls h) (hlv : okL h.length lv = true) (hst : st.all (okV h.length) = true) (kk : ∀ ad', (∀ k, k < h.length → ad' k = ad k) → PB (GU Γ ad' (cl + 1) (sl + N)) (pc + 3) lv (.ref h.length :: st) (h ++ [pR N t (fun _ => none)])) : PB (GU Γ ad cl sl) pc lv (.int (nI N) :: st) h := by
  obtain ⟨⟨p, l, e, R, s, m⟩, ⟨args, below, meth, c⟩, ⟨D, ta, ad0, sa, A⟩, cl0, sl0, Z⟩ := Γ
  obtain ⟨hx, hb, hml, hr, hlk, hown, hts, hR, hK, hA, hPS, hPN⟩ := g
  obtain ⟨-, -, -, -, -, -, -, hR1, -⟩ := g1
  intro H locs ls hP hD hS hl
  refine va_newq (N' := N) hx hb hown (hts _ hCL) hAO hK hP hD hS hA (nI_pos (by omega)) (nI_clamp (by omega)) (by omega) hR1.2.2.1 hR1.2.2.2 hdg (fun q cA H2 hK2 hP2 hD2 hS2 => ?_)
  have ecA : cA = ta t := by
    obtain ⟨k1, k2, -, -, -, q1⟩ := (hK2.2 5 (cA, .object C) rfl).2
    obtain ⟨k3, k4, -, -, -, q2⟩ := (hK.2 t _ (ht ta)).2
    exact Option.some.inj (q1.symm.trans q2)
  subst ecA
  have hag : ∀ k, k < h.length → va_up ad h.length q k = ad k := fun k hk => va_upN (by omega)
  have ew : pcw ta (va_up ad h.length q) sa (h ++ [pR N t (fun _ => none)]) = pcw ta ad sa h ++ [(q, .inl (ta t, N, .inr (.inr (.inr (.inr (fun _ => none))))))] := by
    rw [pcw_snoc, pcw_ag hc hag, va_upS]
    rfl
  have es : (Value.ref h.length :: st).map (pcv (va_up ad h.length q) sa) = .ref q :: st.map (pcv ad sa) := by
    rw [List.map_cons, map_ag hag hst]
    show Value.ref (va_up ad h.length q h.length) :: _ = _
    rw [va_upS]
  rw [← es]
  exact kk (va_up ad h.length q) hag H2 locs ls (by rw [ew]; exact hP2) (by rw [ew]; exact hD2) hS2 (pl_ag hag hlv hl)
theorem pb_aast (g : GM (GU Γ ad cl sl) y cc nL rt k) (hdg : decode cc pc = .ok (.aastore, 1)) {i q v n t ci : Nat} {f : Nat → Option Nat} {vs : List Value} {r : vw_C} (hq : h[q]? = some (pR n t f)) (hv : h[v]? = some (pO ci vs)) (hci : vwCl[ci]? = some r) (ht : ∀ ta : Nat → ClassId, (ptys ta)[t]? = some (ta t, .object r.1)) (hi : i < n) (hn : n < 2 ^ 31) (kk : PB (GU Γ ad cl sl) (pc + 1) lv st (h.set q (pR n t (va_up f i (some v))))) : PB (GU Γ ad cl sl) pc lv (.ref v :: .int (nI i) :: .ref q :: st) h := by
  obtain ⟨⟨p, l, e, R, s, m⟩, ⟨args, below, meth, c⟩, ⟨D, ta, ad0, sa, A⟩, cl0, sl0, Z⟩ := Γ
  obtain ⟨hx, hb, hml, hr, hlk, hown, hts, hR, hK, hA, hPS, hPN⟩ := g
  intro H locs ls hP hD hS hl
  have hin : vp_in (nI i) n := vp_in_nI hi hn
  refine va_astq hx hb hK hP hD hS q t v ci (pcw_get hq) (ht ta) (pcw_get hv) hci hin hdg (fun H2 locs2 hP2 hD2 hS2 => ?_)
  rw [nI_clamp (by omega)] at hP2 hD2
  have ew : pcw ta ad sa (h.set q (pR n t (va_up f i (some v)))) = (pcw ta ad sa h).set q (ad q, .inl (ta t, n, .inr (.inr (.inr (.inr (va_up (fun j => (f j).map ad) i (some (ad v)))))))) := by
    rw [pcw_set]
    show (pcw ta ad sa h).set q (ad q, (Sum.inl (ta t, n, .inr (.inr (.inr (.inr (fun j => (va_up f i (some v) j).map ad))))) : va_E)) = _
    have e1 : (fun j => (va_up f i (some v) j).map ad) = va_up (fun j => (f j).map ad) i (some (ad v)) := by
      funext j
      by_cases e : j = i
      · rw [e, va_upS, va_upS]
        rfl
      · rw [va_upN e, va_upN e]
    rw [e1]
  exact kk H2 locs2 ls (by rw [ew]; exact hP2) (by rw [ew]; exact hD2) hS2 hl
theorem pb_putR (g : GM (GU Γ ad cl sl) y cc nL rt k) {idx ci j q v : Nat} {ty : FieldType} (hf : PFR y.cls idx ci j ty) (hnm : Γ.2.1.2.2.1.name = "<init>") (hdg : decode cc pc = .ok (.putfield idx, 3)) {fs : List Value} (hq : h[q]? = some (pO ci fs)) (hjl : j < fs.length) (kk : PB (GU Γ ad cl sl) (pc + 3) lv st (h.set q (pO ci (fs.set j (.ref v))))) : PB (GU Γ ad cl sl) pc lv (.ref v :: .ref q :: st) h := by
  obtain ⟨⟨p, l, e, R, s, m⟩, ⟨args, below, meth, c⟩, ⟨D, ta, ad0, sa, A⟩, cl0, sl0, Z⟩ := Γ
  obtain ⟨hx, hb, hml, hr, hlk, hown, hts, hR, hK, hA, hPS, hPN⟩ := g
  intro H locs ls hP hD hS hl
  obtain ⟨⟨C, T, N⟩, c1, c2, c3, c4, ⟨c5, c6⟩, c7, ⟨ty0, c8⟩, c9, c10⟩ := hf
  refine va_putF hx hb hts c2 ty0 c8 c9 hown hK hP hD hS q (pcw_get hq) c1 j c3 (hts _ c4) (fun _ z => z) c5 hnm c6 c7 (c10 _).1 (c10 _).2 (by simpa using hjl) hdg (fun H2 locs2 hP2 hD2 hS2 => ?_)
  have ew : pcw ta ad sa (h.set q (pO ci (fs.set j (.ref v)))) = (pcw ta ad sa h).set q (ad q, .inr (ci, (fs.map (pcv ad sa)).set j (.ref (ad v)))) := by
    rw [pcw_set]
    show (pcw ta ad sa h).set q (ad q, .inr (ci, (fs.set j (.ref v)).map (pcv ad sa))) = _
    rw [List.map_set]
    rfl
  exact kk H2 locs2 ls (by rw [ew]; exact hP2) (by rw [ew]; exact hD2) hS2 hl
theorem pb_obj (g : GM (GU Γ ad cl sl) y cc nL rt k) {idx q : Nat} (h1 : Cond.methodLink y.cls idx Lib.objectInit ∈ lw_g) (h2 : Cond.instanceMethod Lib.objectInit ∈ lw_g) (h3 : Cond.code Lib.objectInit ⟨#[0xb1]⟩ 1 none ∈ lw_g) (hdg : decode cc pc = .ok (.invokespecial idx, 3)) (hk : 1 ≤ k) (hw : (st.map fun v => v.category).sum ≤ 8) (kk : PB (GU Γ ad cl sl) (pc + 3) lv st h) : PB (GU Γ ad cl sl) pc lv (.ref q :: st) h := by
  obtain ⟨⟨p, l, e, R, s, m⟩, ⟨args, below, meth, c⟩, ⟨D, ta, ad0, sa, A⟩, cl0, sl0, Z⟩ := Γ
  obtain ⟨hx, hb, hml, hr, hlk, hown, hts, hR, hK, hA, hPS, hPN⟩ := g
  intro H locs ls hP hD hS hl
  refine W.objInit hx hb hown (hts _ h1) (hts _ h2) (hts _ h3) rfl hl.1 rfl hdg (by omega) ?_ (kk H locs ls hP hD hS hl)
  have h9 : 2 * (F0 m pc ls (Value.ref (ad q) :: st.map (pcv ad sa))).monitorRoom = 0 := rfl
  rw [h9, pcv_sum]
  omega
theorem pb_mul (g : GM (GU Γ ad cl sl) y cc nL rt k) {idx : Nat} (g1 : GM (GU Γ ad (cl + 13) (sl + 132)) y cc nL rt k) (hCL : Cond.classLink y.cls idx "[[I" ∈ lw_g) (hAC : Cond.arrayClass .int ∈ lw_g) (hAO : AOA (GS Γ)) (hdg : decode cc pc = .ok (.multianewarray idx 2, 4)) (hc : Cls h) (hlv : okL h.length lv = true) (hst : st.all (okV h.length) = true) (kk : ∀ ad', (∀ k, k < h.length → ad' k = ad k) → PB (GU Γ ad' (cl + 13) (sl + 132)) (pc + 4) lv (.ref h.length :: st) (h ++ ([pR 12 2 (fun j => if j < 12 then some (h.length + 1 + j) else none)] ++ List.replicate 12 (pI 10 (fun _ => 0))))) : PB (GU Γ ad cl sl) pc lv (.int (nI 10) :: .int (nI 12) :: st) h := by
  obtain ⟨⟨p, l, e, R, s, m⟩, ⟨args, below, meth, c⟩, ⟨D, ta, ad0, sa, A⟩, cl0, sl0, Z⟩ := Γ
  obtain ⟨hx, hb, hml, hr, hlk, hown, hts, hR, hK, hA, hPS, hPN⟩ := g
  obtain ⟨-, -, -, -, -, -, -, hR1, -⟩ := g1
  intro H locs ls hP hD hS hl
  refine W.mul (N := nI 12) (M := nI 10) hx hb hown (hts _ hCL) hAO (hts _ hAC) rfl hdg rfl (by decide) (by decide) (by decide) (by decide) hR1.2.2.1 hR1.2.2.2 (fun H2 locs2 cA comp f1 f2 f3 f4 f5 f6 f7 => ?_)
  have f3 : H2.size = H.size + 1 + 12 := f3
  have f5 : H2[H.size]? = some (arrV cA 12 (fun j => .ref (H.size + 1 + j))) := f5
  have f6 : ∀ j, j < 12 → H2[H.size + 1 + j]? = some (arrV comp 10 (fun _ => .int 0)) := f6
  have e0 : comp = ta 0 := Option.some.inj (f2.symm.trans (hK.2 0 _ rfl).2)
  have e2 : cA = ta 2 := Option.some.inj (f1.symm.trans (hK.2 2 _ rfl).2)
  subst e0
  subst e2
  obtain ⟨ad', hadE⟩ : ∃ ad' : Nat → Nat, ad' = fun k => if k < h.length then ad k else H.size + (k - h.length) := ⟨_, rfl⟩
  have hag : ∀ k, k < h.length → ad' k = ad k := fun k hk => by rw [hadE]; exact if_pos hk
  have hnw : ∀ i, ad' (h.length + i) = H.size + i := fun i => by
    rw [hadE]
    show (if h.length + i < h.length then _ else H.size + (h.length + i - h.length)) = _
    rw [if_neg (by omega), show h.length + i - h.length = i by omega]
  have ew : pcw ta ad' sa (h ++ ([pR 12 2 (fun j => if j < 12 then some (h.length + 1 + j) else none)] ++ List.replicate 12 (pI 10 (fun _ => 0)))) = pcw ta ad sa h ++ ((H.size, .inl (ta 2, 12, .inr (.inr (.inr (.inr (fun j => if j < 12 then some (H.size + 1 + j) else none)))))) :: (List.range 12).map (fun j => (H.size + 1 + j, (Sum.inl (ta 0, 10, .inl (fun _ => 0)) : va_E)))) := by
    have e3 : (fun j => (if j < 12 then some (h.length + 1 + j) else none).map ad') = fun j => if j < 12 then some (H.size + 1 + j) else none := by
      funext j
      by_cases q : j < 12
      · rw [if_pos q, if_pos q]
        show some (ad' (h.length + 1 + j)) = _
        rw [Nat.add_assoc, hnw, Nat.add_assoc]
      · rw [if_neg q, if_neg q]
        rfl
    have e4 : pcw ta ad' sa (h ++ ([pR 12 2 (fun j => if j < 12 then some (h.length + 1 + j) else none)] ++ List.replicate 12 (pI 10 (fun _ => 0)))) = pcw ta ad' sa h ++ ((ad' (h.length + 0), (Sum.inl (ta 2, 12, .inr (.inr (.inr (.inr (fun j => (if j < 12 then some (h.length + 1 + j) else none).map ad'))))) : va_E)) :: (List.range 12).map (fun j => (ad' (h.length + (1 + j)), (Sum.inl (ta 0, 10, .inl (fun _ => 0)) : va_E)))) := by
      simp only [pcw, List.mapIdx_append]
      congr 1
      simp [pce, Nat.add_comm]
      rfl
    rw [e4, pcw_ag hc hag, hnw, e3]
    congr 2
    apply List.map_congr_left
    intro j _
    rw [hnw, Nat.add_assoc]
  have hkeep : ∀ (k : Nat) (x : Nat × va_E), (pcw ta ad sa h)[k]? = some x → H2[x.1]? = H[x.1]? := fun k x hx9 => f4 x.1 ((hP k x hx9).lt)
  have hnew : ∀ (k : Nat) (x : Nat × va_E), ((H.size, (Sum.inl (ta 2, 12, .inr (.inr (.inr (.inr (fun j => if j < 12 then some (H.size + 1 + j) else none))))) : va_E)) :: (List.range 12).map (fun j => (H.size + 1 + j, (Sum.inl (ta 0, 10, .inl (fun _ => 0)) : va_E))))[k]? = some x → x.1 = H.size + k ∧ k < 13 ∧ va_at D vwCl x H2 := fun k x hx9 => by
    cases k with
    | zero =>
      cases hx9
      refine ⟨rfl, by omega, ?_⟩
      show H2[H.size]? = some (vp_cell _ _)
      rw [vp_cell_q, f5]
      exact congrArg some (arrV_ext (fun j hj => by rw [if_pos hj]; rfl))
    | succ k =>
      rw [List.getElem?_cons_succ, List.getElem?_map] at hx9
      have hk12 : k < 12 := by
        apply Nat.not_le.mp
        intro q
        rw [List.getElem?_eq_none (by simpa using q)] at hx9
        cases hx9
      rw [List.getElem?_range hk12] at hx9
      cases hx9
      refine ⟨by show H.size + 1 + k = H.size + (k + 1); omega, by omega, ?_⟩
      show H2[H.size + 1 + k]? = some (vp_cell _ _)
      exact f6 k hk12
  have es : (Value.ref h.length :: st).map (pcv ad' sa) = .ref H.size :: st.map (pcv ad sa) := by
    rw [List.map_cons, map_ag hag hst]
    show Value.ref (ad' h.length) :: _ = _
    have h9 := hnw 0
    rw [Nat.add_zero, Nat.add_zero] at h9
    rw [h9]
  have hw9 := kk ad' hag H2 locs2 ls (by
    rw [ew]
    exact (hP.kept hkeep).app (fun k x hx9 => (hnew k x hx9).2.2)) (by
    rw [ew]
    refine va_D.app hD ⟨fun i j x x2 hi hj he => ?_, fun k x hx9 => ?_⟩ (fun i j x x2 hi hj he => ?_)
    · have h1 := (hnew i x hi).1
      have h2 := (hnew j x2 hj).1
      omega
    · rw [(hnew k x hx9).1]
      exact hA _ (Nat.le_trans hS.1 (Nat.le_add_right _ _))
    · have h1 := (hP i x hi).lt
      have h2 := (hnew j x2 hj).1
      omega) ⟨Nat.le_trans hS.1 (by omega), fun q q1 q2 => (f4 q (Nat.lt_of_lt_of_le q1 hS.1)).trans (hS.2.1 q q1 q2), fun x hx9 => by
      rcases f7 x hx9 with q | q
      · exact hS.2.2 x q
      · rw [q]
        exact hA _ hS.1⟩ (pl_ag hag hlv hl)
  rw [es] at hw9
  exact hw9
/-- the call of a constructor -/
theorem pb_init (g : GM (GU Γ ad cl sl) y cc nL rt k) {y' : MethodName} {cc' : ByteArray} {nL' idx q k' mc ms : Nat} {Q' : PH → Prop} (g1 : GM (GU Γ ad (cl + mc) (sl + ms)) y cc nL rt k) (hC : PCL y.cls idx y' cc' nL' none 0) (hni : y'.name = "<init>") (hin : Cond.instanceMethod y' ∈ lw_g) (hAO : AO3 (GS Γ)) (hdg : decode cc pc = .ok (.invokespecial idx, 3)) (hk : k' + 1 ≤ k) (hc : Cls h) (hlv : okL h.length lv = true) (hst : st.all (okV h.length) = true) (hw : (st.map fun v => v.category).sum ≤ 8) (hrun : RunsN y' cc' nL' k' [.ref q] h Q' mc ms) (kk : ∀ ad' h', (∀ k, k < h.length → ad' k = ad k) → Q' h' → PB (GU Γ ad' (cl + mc) (sl + ms)) (pc + 3) lv st h') : PB (GU Γ ad cl sl) pc lv (.ref q :: st) h := by
  obtain ⟨⟨p, l, e, R, s, m⟩, ⟨args, below, meth, c⟩, ⟨D, ta, ad0, sa, A⟩, cl0, sl0, Z⟩ := Γ
  obtain ⟨hx, hb, hml, hr, hlk, hown, hts, hR, hK, hA, hPS, hPN⟩ := g
  obtain ⟨-, -, -, -, -, -, -, hR1, -⟩ := g1
  intro H locs ls hP hD hS hl
  obtain ⟨c1, c2, c3, c4, c5⟩ := hC
  have hp := pre_of (av := [.ref q]) hP hD hS hK hA hPS hPN
  have hsub : ∀ z, va_A (pcw ta ad sa h) H.size z → A z := fun z hz => by
    rcases hz with ⟨k0, e0, hk0⟩ | hz
    · exact hD.2 k0 _ hk0
    · exact hA z (Nat.le_trans hS.1 hz)
  have hr9 := va_runI (e := e) (below := below) (meth := meth) (locs := locs) (cells := cl) (slots := sl) (As := []) (b := ad q) (n := 0) (g := F0 m pc ls (.ref (ad q) :: st.map (pcv ad sa))) (rest := st.map (pcv ad sa)) ⟨hx, hb, hml, hown, hts⟩ (hrun l D ta ad sa H.size) ⟨callB_of 0 hts (tbl_in c1) rfl rfl rfl (hts _ c3) (hts _ c2) c4 ⟨by show k' + 1 ≤ _; omega, by show 8 + (nL' + 11) + 60 * k' ≤ _; omega⟩, hni, hts _ hin⟩ ⟨fun a U g mk z => ⟨(hp.1 a U g mk ⟨z.1, z.2.1⟩).1, (hp.1 a U g mk ⟨z.1, z.2.1⟩).2, z.2.2.calls⟩, fun U hU hW => ⟨(hp.2 U hU hW).1, (hp.2 U hU hW).2, hAO.warm hW⟩⟩ rfl rfl (by rw [← hml]; exact hl.1) rfl (lv_room (by rw [pcv_sum]; exact hw)) hdg ⟨hR1.2.2.1, hR1.2.2.2⟩
  intro T hT X
  obtain ⟨v, st₀, t, T', L, h0, X', hL, e1, e2, ⟨⟨h', ad', hag, hv, hq, hP1, hK1, hD1⟩, hz, hk9⟩, stp⟩ := hr9 T hT X
  have hv' : v = none := by injection hv
  subst hv'
  rw [h0] at hz hk9
  obtain ⟨t2, a1, b1⟩ := kk ad' h' hag hq T'.heap (locs ++ L) ls (by rw [e1]; exact hP1) (hD1.weaken (fun _ z _ w => hsub z.1 w))
    ⟨Nat.le_trans hS.1 (by rw [e1]; exact hz), fun z h1 h2 => by rw [e1, hk9 z (Nat.lt_of_lt_of_le h1 hS.1) (fun w => h2 (hsub z w))]; exact hS.2.1 z h1 h2, fun z hz9 => by
      rcases List.mem_append.mp hz9 with w | w
      · exact hS.2.2 z w
      · exact hsub _ (hL z w)⟩ (pl_ag hag hlv hl) T' rfl X'
  refine ⟨t2, stp t2 ?_, b1⟩
  rw [map_ag hag hst] at a1
  exact a1
/-- the call of a nest mate's constructor -/
theorem pb_initN (g : GM (GU Γ ad cl sl) y cc nL rt k) {y' : MethodName} {cc' : ByteArray} {nL' idx q k' mc ms : Nat} {host : String} {Q' : PH → Prop} (g1 : GM (GU Γ ad (cl + mc) (sl + ms)) y cc nL rt k) (hN : va_Nw (.methodLinkNest y.cls idx y' host) (GS Γ)) (hC : Cond.code y' cc' nL' none ∈ lw_g ∧ Cond.initialized y'.cls ∈ lw_g ∧ (y'.cls ≠ "java/lang/invoke/MethodHandle" ∧ y'.cls ≠ "java/lang/invoke/VarHandle" ∧ (parseMethodDescriptor y'.desc).map (fun d => d.parameters.length) = some 0) ∧ nL' ≤ 41) (hni : y'.name = "<init>") (hin : Cond.instanceMethod y' ∈ lw_g) (hAO : AO3 (GS Γ)) (hdg : decode cc pc = .ok (.invokespecial idx, 3)) (hk : k' + 1 ≤ k) (hc : Cls h) (hlv : okL h.length lv = true) (hst : st.all (okV h.length) = true) (hw : (st.map fun v => v.category).sum ≤ 8) (hrun : RunsN y' cc' nL' k' [.ref q] h Q' mc ms) (kk : ∀ ad' h', (∀ k, k < h.length → ad' k = ad k) → Q' h' → PB (GU Γ ad' (cl + mc) (sl + ms)) (pc + 3) lv st h') : PB (GU Γ ad cl sl) pc lv (.ref q :: st) h := by
  obtain ⟨⟨p, l, e, R, s, m⟩, ⟨args, below, meth, c⟩, ⟨D, ta, ad0, sa, A⟩, cl0, sl0, Z⟩ := Γ
  obtain ⟨hx, hb, hml, hr, hlk, hown, hts, hR, hK, hA, hPS, hPN⟩ := g
  obtain ⟨-, -, -, -, -, -, -, hR1, -⟩ := g1
  intro H locs ls hP hD hS hl
  obtain ⟨c1, c3, c4, c5⟩ := hC
  have hp := pre_of (av := [.ref q]) hP hD hS hK hA hPS hPN
  have hsub : ∀ z, va_A (pcw ta ad sa h) H.size z → A z := fun z hz => by
    rcases hz with ⟨k0, e0, hk0⟩ | hz
    · exact hD.2 k0 _ hk0
    · exact hA z (Nat.le_trans hS.1 hz)
  have hr9 := va_runIN (e := e) (below := below) (meth := meth) (locs := locs) (cells := cl) (slots := sl) (As := []) (b := ad q) (n := 0) (g := F0 m pc ls (.ref (ad q) :: st.map (pcv ad sa))) (rest := st.map (pcv ad sa)) ⟨hx, hb, hml, hown, hts⟩ (hrun l D ta ad sa H.size) ⟨va_cnB 0 hts (tbl_in c1) rfl rfl rfl hN (hts _ c3) c4 ⟨by show k' + 1 ≤ _; omega, by show 8 + (nL' + 11) + 60 * k' ≤ _; omega⟩, hni, hts _ hin⟩ ⟨fun a U g mk z => ⟨(hp.1 a U g mk ⟨z.1, z.2.1⟩).1, (hp.1 a U g mk ⟨z.1, z.2.1⟩).2, z.2.2.calls⟩, fun U hU hW => ⟨(hp.2 U hU hW).1, (hp.2 U hU hW).2, hAO.warm hW⟩⟩ rfl rfl (by rw [← hml]; exact hl.1) rfl (lv_room (by rw [pcv_sum]; exact hw)) hdg ⟨hR1.2.2.1, hR1.2.2.2⟩
  intro T hT X
  obtain ⟨v, st₀, t, T', L, h0, X', hL, e1, e2, ⟨⟨h', ad', hag, hv, hq, hP1, hK1, hD1⟩, hz, hk9⟩, stp⟩ := hr9 T hT X
  have hv' : v = none := by injection hv
  subst hv'
  rw [h0] at hz hk9
  obtain ⟨t2, a1, b1⟩ := kk ad' h' hag hq T'.heap (locs ++ L) ls (by rw [e1]; exact hP1) (hD1.weaken (fun _ z _ w => hsub z.1 w))
    ⟨Nat.le_trans hS.1 (by rw [e1]; exact hz), fun z h1 h2 => by rw [e1, hk9 z (Nat.lt_of_lt_of_le h1 hS.1) (fun w => h2 (hsub z w))]; exact hS.2.1 z h1 h2, fun z hz9 => by
      rcases List.mem_append.mp hz9 with w | w
      · exact hS.2.2 z w
      · exact hsub _ (hL z w)⟩ (pl_ag hag hlv hl) T' rfl X'
  refine ⟨t2, stp t2 ?_, b1⟩
  rw [map_ag hag hst] at a1
  exact a1
theorem pb_vretN {mc ms : Nat} (g : GM (GU Γ ad mc ms) y cc nL none k) {adS : Nat → Nat} {n0 : Nat} {Q : PH → Prop} (z : GZN Γ adS n0 mc ms Q) (hag : ∀ k, k < n0 → ad k = adS k) (hdg : decode cc pc = .ok (.return_, 1)) (hq : Q h) : PB (GU Γ ad mc ms) pc lv [] h := by
  obtain ⟨⟨p, l, e, R, s, m⟩, ⟨args, below, meth, c⟩, ⟨D, ta, ad0, sa, A⟩, cl0, sl0, Z⟩ := Γ
  obtain ⟨hx, hb, hml, hr, hlk, hown, hts, hR, hK, hA, hPS, hPN⟩ := g
  intro H locs ls hP hD hS hl
  have z' : Z = MQ below (PQN D ta adS sa A n0 Q) args s mc ms A := z
  subst z'
  exact W.vret hx hb hr (fun t ht hW => ⟨⟨h, ad, hag, rfl, hq, by rw [ht]; exact hP, va_K.moved hW.alike hK, hD⟩, hS.F ht⟩) hS.2.2 hdg hlk
end PBN
