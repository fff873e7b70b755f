/-! ===== the pure machine: a heap is a list of cells, a reference is a place in it; .float u stands for the u-th static table ===== -/
/-- the words that hold at every later state too -/
def lw_g : List Cond := lw_tbl.filter goodWord
abbrev PA : Type := (Nat → Int32) ⊕ ((Nat → Int64) ⊕ (Nat × (Nat → Option Nat)))
abbrev PCell : Type := (Nat × PA) ⊕ (Nat × List Value)
abbrev PH : Type := List PCell
abbrev pI (n : Nat) (f : Nat → Int32) : PCell := .inl (n, .inl f)
abbrev pJ (n : Nat) (f : Nat → Int64) : PCell := .inl (n, .inr (.inl f))
abbrev pR (n t : Nat) (f : Nat → Option Nat) : PCell := .inl (n, .inr (.inr (t, f)))
abbrev pO (ci : Nat) (fs : List Value) : PCell := .inr (ci, fs)
def pcv (ad : Nat → Nat) (sa : UInt32 → Nat) : Value → Value
  | .ref k => .ref (ad k)
  | .float u => .ref (sa u)
  | v => v
def pce (ta : Nat → ClassId) (ad : Nat → Nat) (sa : UInt32 → Nat) : PCell → va_E
  | .inl (n, .inl f) => .inl (ta 0, n, .inl f)
  | .inl (n, .inr (.inl g)) => .inl (ta 1, n, .inr (.inl g))
  | .inl (n, .inr (.inr (t, r))) => .inl (ta t, n, .inr (.inr (.inr (.inr (fun j => (r j).map ad)))))
  | .inr (ci, fs) => .inr (ci, fs.map (pcv ad sa))
def pcw (ta : Nat → ClassId) (ad : Nat → Nat) (sa : UInt32 → Nat) (h : PH) : va_W := h.mapIdx (fun k c => (ad k, pce ta ad sa c))
theorem pcw_get {ta : Nat → ClassId} {ad : Nat → Nat} {sa : UInt32 → Nat} {h : PH} {k : Nat} {c : PCell} (hk : h[k]? = some c) : (pcw ta ad sa h)[k]? = some (ad k, pce ta ad sa c) := by
  simp [pcw, List.getElem?_mapIdx, hk]
theorem pcw_set {ta : Nat → ClassId} {ad : Nat → Nat} {sa : UInt32 → Nat} {h : PH} {k : Nat} {c : PCell} : pcw ta ad sa (h.set k c) = (pcw ta ad sa h).set k (ad k, pce ta ad sa c) := by
  apply List.ext_getElem?
  intro i
  simp only [pcw, List.getElem?_mapIdx, List.getElem?_set, List.length_mapIdx]
  by_cases hi : k = i
  · subst hi
    by_cases hl : k < h.length <;> simp [hl]
  · simp [hi]
theorem pcv_cat {ad : Nat → Nat} {sa : UInt32 → Nat} {v : Value} (h : v.category = 1) : (pcv ad sa v).category = 1 := by
  cases v <;> first | exact h | rfl
theorem pcv_cat2 {ad : Nat → Nat} {sa : UInt32 → Nat} {v : Value} (h : (pcv ad sa v).category = 2) : v.category = 2 := by
  cases v <;> first | exact h | cases h
theorem pcv_catE {ad : Nat → Nat} {sa : UInt32 → Nat} (v : Value) : (pcv ad sa v).category = v.category := by
  cases v <;> rfl
def ptys (ta : Nat → ClassId) : List (ClassId × FieldType) := [(ta 0, .int), (ta 1, .long), (ta 2, .array .int), (ta 3, .object RX4), (ta 4, .object RX5)]
def psN (u : UInt32) : String := if u = 0 then "FACTORIALS" else if u = 1 then "GROUPS" else if u = 2 then "ABOVE" else "BODIES"
def psV (u : UInt32) : List Int32 := if u = 0 then [1, 1, 2, 6, 24, 120, 720, 5040, 40320, 362880, 3628800] else if u = 1 then [0, 2, 8, 24, 24, 1920] else if u = 2 then [-1, 0, 0, 2, 3] else [10, 11, 12, 0, 20, 0, 30, 0, 31, 0, 40, 0, 50, 0, 51]
def PS (sa : UInt32 → Nat) (A : Nat → Prop) (U : State) (H : Heap) : Prop := ∀ u ∈ ([0, 1, 2, 3] : List UInt32), va_Z "ShuffleDesk" (psN u) "[I" (.ref (sa u)) A U H ∧ va_T .int (sa u) (psV u).length (fun j => .int ((psV u).getD j 0)) A U H
def psNest : List (String × Nat × UInt32) := [(RX2, 7, 0), (RX4, 22, 2), (RX1, 28, 0), (RX0, 47, 3), (RX0, 44, 2)]
def PN (U : State) : Prop := ∀ q ∈ psNest, va_Nw (.fieldLinkNest q.1 q.2.1 "ShuffleDesk" (psN q.2.2) "[I" "ShuffleDesk") U
theorem PS.narrow {sa : UInt32 → Nat} {A B : Nat → Prop} {U : State} {H : Heap} (h : PS sa A U H) (hAB : ∀ q, B q → A q) : PS sa B U H := fun u hu => ⟨(h u hu).1.narrow hAB, (h u hu).2.narrow hAB⟩
theorem PS.moved {sa : UInt32 → Nat} {A : Nat → Prop} {u U : State} {H : Heap} (hvm : u.vm.Alike U.vm) (h : PS sa A u H) : PS sa A U H := fun i hi => ⟨(h i hi).1.moved hvm, (h i hi).2.moved hvm⟩
theorem PS.kept {sa : UInt32 → Nat} {A : Nat → Prop} {U : State} {H H1 : Heap} (h : PS sa A U H) (hq : ∀ a : Nat, a < H.size → ¬ A a → H1[a]? = H[a]?) : PS sa A U H1 := fun i hi => ⟨(h i hi).1.kept hq, (h i hi).2.kept hq⟩
/-- locals, by their places -/
def pl_has (cv : Value → Value) (ls : Array Slot) (nL : Nat) (lv : List (Option Value)) : Prop := ls.size = nL ∧ lv_wf ls ∧ ∀ (i : Nat) (v : Value), lv[i]? = some (some v) → ls[i]? = some (.val (cv v))
def pl_prs (cv : Value → Value) : Nat → List (Option Value) → List (Nat × Value)
  | _, [] => []
  | i, none :: l => pl_prs cv (i + 1) l
  | i, some v :: l => (i, cv v) :: pl_prs cv (i + 1) l
theorem pl_prs_mem {cv : Value → Value} : ∀ (l : List (Option Value)) (i j : Nat) (v : Value), l[j]? = some (some v) → (i + j, cv v) ∈ pl_prs cv i l
  | [], i, j, v, h => by simp at h
  | x :: l, i, 0, v, h => by
    have hx : x = some v := by simpa using h
    subst hx
    simp [pl_prs]
  | x :: l, i, j + 1, v, h => by
    have h1 : l[j]? = some (some v) := by simpa using h
    have h2 := pl_prs_mem (cv := cv) l (i + 1) j v h1
    have e : i + 1 + j = i + (j + 1) := by omega
    rw [e] at h2
    cases x with
    | none => exact h2
    | some w => exact List.mem_cons_of_mem _ h2
theorem pl_prs_of {cv : Value → Value} {ls : Array Slot} : ∀ (l : List (Option Value)) (i : Nat), (∀ (j : Nat) (v : Value), l[j]? = some (some v) → ls[i + j]? = some (.val (cv v))) → ∀ q ∈ pl_prs cv i l, ls[q.1]? = some (.val q.2)
  | [], i, _, q, hq => by cases hq
  | none :: l, i, h, q, hq => pl_prs_of l (i + 1) (fun j v hj => by have := h (j + 1) v (by simpa using hj); rw [show i + 1 + j = i + (j + 1) by omega]; exact this) q hq
  | some w :: l, i, h, q, hq => by
    rcases List.mem_cons.mp hq with rfl | hq
    · exact h 0 w (by simp)
    · exact pl_prs_of l (i + 1) (fun j v hj => by have := h (j + 1) v (by simpa using hj); rw [show i + 1 + j = i + (j + 1) by omega]; exact this) q hq
theorem pl_has.kit {cv : Value → Value} {ls : Array Slot} {nL : Nat} {lv : List (Option Value)} (h : pl_has cv ls nL lv) : lv_has ls nL (pl_prs cv 0 lv) := ⟨h.1, h.2.1, pl_prs_of lv 0 (fun j v hj => by rw [Nat.zero_add]; exact h.2.2 j v hj)⟩
theorem pl_put1 {cv : Value → Value} {ls' : Array Slot} {nL i : Nat} {lv : List (Option Value)} {v : Value} (hl : lv_has ls' nL ((i, cv v) :: (pl_prs cv 0 lv).filter (fun q => !(q.1 == i) && !(q.1 + 1 == i && q.2.category == 2)))) (hi : i < lv.length) (hnl : ∀ (j : Nat) (w : Value), j + 1 = i → lv[j]? = some (some w) → ¬ (cv w).category = 2) : pl_has cv ls' nL (lv.set i (some v)) := by
  refine ⟨hl.1, hl.2.1, fun j w hj => ?_⟩
  by_cases e : i = j
  · subst e
    rw [List.getElem?_set_self hi] at hj
    cases hj
    exact hl.2.2 (i, cv v) (List.mem_cons_self)
  · rw [List.getElem?_set_ne e] at hj
    refine hl.2.2 (j, cv w) (List.mem_cons_of_mem _ (List.mem_filter.mpr ⟨?_, ?_⟩))
    · have := pl_prs_mem (cv := cv) lv 0 j w hj
      rwa [Nat.zero_add] at this
    · have h1 : ¬ j = i := fun h => e h.symm
      by_cases h2 : j + 1 = i
      · have := hnl j w h2 hj
        simp [h1, this]
      · simp [h1, h2]
theorem pl_put2 {cv : Value → Value} {ls' : Array Slot} {nL i : Nat} {lv : List (Option Value)} {v : Value} (hl : lv_has ls' nL ((i, cv v) :: (pl_prs cv 0 lv).filter (fun q => !(q.1 == i) && (!(q.1 == i + 1) && !(q.1 + 1 == i && q.2.category == 2))))) (hi : i < lv.length) (hnl : ∀ (j : Nat) (w : Value), j + 1 = i → lv[j]? = some (some w) → ¬ (cv w).category = 2) : pl_has cv ls' nL ((lv.set i (some v)).set (i + 1) none) := by
  refine ⟨hl.1, hl.2.1, fun j w hj => ?_⟩
  by_cases e0 : i + 1 = j
  · exfalso
    subst e0
    rw [List.getElem?_set] at hj
    simp at hj
  · rw [List.getElem?_set_ne e0] at hj
    by_cases e : i = j
    · subst e
      rw [List.getElem?_set_self hi] at hj
      cases hj
      exact hl.2.2 (i, cv v) (List.mem_cons_self)
    · rw [List.getElem?_set_ne e] at hj
      refine hl.2.2 (j, cv w) (List.mem_cons_of_mem _ (List.mem_filter.mpr ⟨?_, ?_⟩))
      · have := pl_prs_mem (cv := cv) lv 0 j w hj
        rwa [Nat.zero_add] at this
      · have h1 : ¬ j = i := fun h => e h.symm
        have h3 : ¬ j = i + 1 := fun h => e0 h.symm
        by_cases h2 : j + 1 = i
        · have := hnl j w h2 hj
          simp [h1, h3, this]
        · simp [h1, h2, h3]
/-- a value that takes one word, or none at all -/
def pnl : Option Value → Bool
  | some v => !(v.category == 2)
  | none => true
theorem pnl_ok {ad : Nat → Nat} {sa : UInt32 → Nat} {lv : List (Option Value)} {i : Nat} (h : ∀ j, j + 1 = i → ∀ x, lv[j]? = some x → pnl x = true) : ∀ (j : Nat) (w : Value), j + 1 = i → lv[j]? = some (some w) → ¬ (pcv ad sa w).category = 2 := by
  intro j w h1 h2 h3
  have h4 := h j h1 (some w) h2
  rw [pcv_catE] at h3
  simp [pnl, h3] at h4
theorem pnl_at {ad : Nat → Nat} {sa : UInt32 → Nat} {lv : List (Option Value)} {i : Nat} {x : Option Value} (hx : lv[i]? = some x) (hn : pnl x = true) : ∀ (j : Nat) (w : Value), j + 1 = i + 1 → lv[j]? = some (some w) → ¬ (pcv ad sa w).category = 2 :=
  pnl_ok (fun j hj x2 hx2 => by
    have e : j = i := by omega
    subst e
    have e2 : x = x2 := Option.some.inj (hx.symm.trans hx2)
    subst e2
    exact hn)
theorem pl_le {cv : Value → Value} {ls : Array Slot} {nL : Nat} {lv lv' : List (Option Value)} (h : pl_has cv ls nL lv') (hle : ∀ (i : Nat) (v : Value), lv[i]? = some (some v) → lv'[i]? = some (some v)) : pl_has cv ls nL lv := ⟨h.1, h.2.1, fun i v hi => h.2.2 i v (hle i v hi)⟩
/-! ===== the context of a method's body ===== -/
abbrev GT : Type := (Program × Launch × Env × Room × State × MethodId) × (Array Value × List Frame × Method × Code) × (va_G × (Nat → ClassId) × (Nat → Nat) × (UInt32 → Nat) × (Nat → Prop)) × Nat × Nat × (State → Prop)
def PB : GT → Nat → List (Option Value) → List Value → PH → Prop
  | ((p, l, e, R, s, m), (args, below, meth, c), (D, ta, ad, sa, A), cl, sl, Z), pc, lv, st, h =>
    ∀ (H : Heap) (locs : List Loc) (ls : Array Slot), va_P D vwCl (pcw ta ad sa h) H → va_D A (pcw ta ad sa h) → va_S A s.heap H locs → pl_has (pcv ad sa) ls c.maxLocals lv → W p l e R s m args below meth c H locs cl sl Z (F0 m pc ls (st.map (pcv ad sa)))
def GM : GT → MethodName → ByteArray → Nat → Option FieldType → Nat → Prop
  | ((p, l, e, R, s, m), (args, below, meth, c), (D, ta, ad, sa, A), cl, sl, Z), y, cc, nL, rt, k =>
    p.tables.exec = Jvm.exec ∧ c.code = cc ∧ c.maxLocals = nL ∧ meth.sig.returnType = rt ∧ meth.locks = false ∧ s.vm.findClass y.cls = some m.cls ∧ (∀ w ∈ lw_g, w.before args s = true) ∧ (k ≤ R.frames ∧ 60 * k ≤ R.locals ∧ cl ≤ R.cells ∧ sl ≤ R.slots) ∧ va_K D vwCl (ptys ta) s ∧ (∀ q, s.heap.size ≤ q → A q) ∧ PS sa A s s.heap ∧ PN s
/-- how a method's end is told -/
def PQ (D : va_G) (ta : Nat → ClassId) (ad : Nat → Nat) (sa : UInt32 → Nat) (A : Nat → Prop) (Q : Option Value → PH → Prop) : Array Value → State → Outcome → State → Prop := fun _ st oc t => (∃ (r : Option Value) (h' : PH), oc = .returned (r.map (pcv ad sa)) ∧ Q r h' ∧ va_P D vwCl (pcw ta ad sa h') t.heap ∧ va_K D vwCl (ptys ta) t ∧ va_D A (pcw ta ad sa h')) ∧ va_F A st t
def GZ : GT → (Option Value → PH → Prop) → Prop
  | ((p, l, e, R, s, m), (args, below, meth, c), (D, ta, ad, sa, A), cl, sl, Z), Q => Z = MQ below (PQ D ta ad sa A Q) args s cl sl A
def pws (y : MethodName) (cc : ByteArray) (nL : Nat) (rt : Option FieldType) : List Cond := Cond.code y cc nL rt :: lw_g
def prm (k : Nat) : Room := { frames := k, cells := 0, slots := 0, locals := 60 * k }
def pst (D : va_G) (ta : Nat → ClassId) (ad : Nat → Nat) (sa : UInt32 → Nat) (h : PH) (sz : Nat) (U : State) : Prop := U.heap.size = sz ∧ va_P D vwCl (pcw ta ad sa h) U.heap ∧ va_K D vwCl (ptys ta) U ∧ va_D (fun _ => True) (pcw ta ad sa h) ∧ PS sa (va_A (pcw ta ad sa h) sz) U U.heap ∧ PN U
/-- the contract of a method that makes no cell: called with these arguments over this heap it returns, with Q -/
def Runs (y : MethodName) (cc : ByteArray) (nL : Nat) (rt : Option FieldType) (k : Nat) (av : List Value) (h : PH) (Q : Option Value → PH → Prop) : Prop := ∀ (l : Launch) (D : va_G) (ta : Nat → ClassId) (ad : Nat → Nat) (sa : UInt32 → Nat) (sz : Nat), Met l y (pws y cc nL rt) (prm k) (va_Pc (av.map (pcv ad sa)) (pst D ta ad sa h sz)) (PQ D ta ad sa (va_A (pcw ta ad sa h) sz) Q) 0 0 (va_A (pcw ta ad sa h) sz)
def pl_ent : List Value → List (Option Value)
  | [] => []
  | v :: vs => if v.category = 2 then some v :: none :: pl_ent vs else some v :: pl_ent vs
theorem pl_ent_at {cv : Value → Value} (hcv : ∀ v, (cv v).category = v.category) : ∀ (vs : List Value) (i j : Nat) (v : Value), (pl_ent vs)[j]? = some (some v) → (i + j, cv v) ∈ lv_args i (vs.map cv)
  | [], i, j, v, h => by simp [pl_ent] at h
  | x :: vs, i, j, v, h => by
    simp only [List.map_cons, lv_args, hcv]
    by_cases hc : x.category = 2
    · simp only [pl_ent, hc, if_true] at h ⊢
      match j, h with
      | 0, h =>
        have hx : x = v := by simpa using h
        subst hx
        exact List.mem_cons_self
      | 1, h => simp at h
      | j + 2, h =>
        have h1 : (pl_ent vs)[j]? = some (some v) := by simpa using h
        have h2 := pl_ent_at hcv vs (i + 2) j v h1
        rw [show i + 2 + j = i + (j + 2) by omega] at h2
        exact List.mem_cons_of_mem _ h2
    · simp only [pl_ent, hc, if_false] at h ⊢
      match j, h with
      | 0, h =>
        have hx : x = v := by simpa using h
        subst hx
        exact List.mem_cons_self
      | j + 1, h =>
        have h1 : (pl_ent vs)[j]? = some (some v) := by simpa using h
        have h2 := pl_ent_at hcv vs (i + 1) j v h1
        rw [show i + 1 + j = i + (j + 1) by omega] at h2
        exact List.mem_cons_of_mem _ h2
theorem lg_sl_len {cv : Value → Value} (hcv : ∀ v, (cv v).category = v.category) : ∀ vs : List Value, (lg_sl (vs.map cv)).length = (vs.map fun v => v.category).sum
  | [] => rfl
  | v :: vs => by
    have ih := lg_sl_len hcv vs
    simp only [lg_sl, List.map_cons, List.flatMap_cons, List.length_append, List.sum_cons] at ih ⊢
    rw [ih, ← hcv v]
    congr 1
    cases cv v <;> rfl
theorem Runs.of {y : MethodName} {cc : ByteArray} {nL : Nat} {rt : Option FieldType} {k : Nat} {av : List Value} {h : PH} {Q : Option Value → PH → Prop} (hy : plainName y.cls = true) (hlen : (av.map fun v => v.category).sum ≤ nL) (lv : List (Option Value)) (mm : Nat) (hlv : pl_ent av ++ List.replicate mm none = lv)
    (body : ∀ Γ : GT, GM Γ y cc nL rt k → GZ Γ Q → PB Γ 0 lv [] h) : Runs y cc nL rt k av h Q := by
  intro l D ta ad sa sz
  refine Met.ofW (cc := cc) (maxL := nL) (ret := rt) hy rfl ?_
  intro p e s m args below meth c s₁ B hml hv
  obtain ⟨rfl, hsz, hP, hK, hD0, hPS, hPN⟩ := hv
  subst hsz
  have hts0 := atoms_spec (ws := pws y cc nL rt) B.pre
  have hts : ∀ w ∈ lw_g, w.before (av.map (pcv ad sa)).toArray s = true := fun w hw => hts0 w (List.mem_cons_of_mem _ hw)
  have hown : s.vm.findClass y.cls = some m.cls := findClass_of_methodNamed B.named
  have hb := body ((p, l, e, (headSpec (pws y cc nL rt) (prm k)).room, s, m), ((av.map (pcv ad sa)).toArray, below, meth, c), (D, ta, ad, sa, va_A (pcw ta ad sa h) s.heap.size), 0, 0, MQ below (PQ D ta ad sa (va_A (pcw ta ad sa h) s.heap.size) Q) (av.map (pcv ad sa)).toArray s 0 0 (va_A (pcw ta ad sa h) s.heap.size)) ⟨B.exec, B.bytes, hml, B.returns, B.notSynchronized, hown, hts, ⟨Nat.le_refl _, Nat.le_refl _, Nat.zero_le _, Nat.zero_le _⟩, hK, fun q hq => Or.inr hq, hPS, hPN⟩ rfl
  rw [lg_entry_eq]
  have hl0 := lv_entry (av.map (pcv ad sa)) (n := nL) (by rw [lg_sl_len pcv_catE]; exact hlen)
  refine hb s.heap [] _ hP hD0.self va_S.rf ⟨by rw [hml]; exact hl0.1, hl0.2.1, fun i v hi => ?_⟩
  have hi2 : (pl_ent av)[i]? = some (some v) := by
    subst hlv
    by_cases hlt : i < (pl_ent av).length
    · rwa [List.getElem?_append_left hlt] at hi
    · exfalso
      rw [List.getElem?_append_right (by omega)] at hi
      have := List.eq_of_mem_replicate (List.mem_of_getElem? hi)
      cases this
  have h2 := pl_ent_at (cv := pcv ad sa) pcv_catE av 0 i v hi2
  rw [Nat.zero_add] at h2
  exact hl0.2.2 (i, pcv ad sa v) h2

section PBS
variable {Γ : GT} {y : MethodName} {cc : ByteArray} {nL : Nat} {rt : Option FieldType} {k pc : Nat} {lv : List (Option Value)} {st : List Value} {h : PH} {Q : Option Value → PH → Prop}
theorem PB.forget (lv' : List (Option Value)) (hle : ∀ (i : Nat) (v : Value), lv'[i]? = some (some v) → lv[i]? = some (some v)) (kk : PB Γ pc lv' st h) : PB Γ pc lv st h := by
  obtain ⟨⟨p, l, e, R, s, m⟩, ⟨args, below, meth, c⟩, ⟨D, ta, ad, sa, A⟩, cl, sl, Z⟩ := Γ
  intro H locs ls hP hD hS hl
  exact kk H locs ls hP hD hS (pl_le hl hle)
theorem pb_iconst (g : GM Γ y cc nL rt k) {n : Int} {v : Int32} (hdg : decode cc pc = .ok (.iconst n, 1)) (hv : Int32.ofInt n = v) (kk : PB Γ (pc + 1) lv (.int v :: st) h) : PB Γ pc lv (st) h := by
  obtain ⟨⟨p, l, e, R, s, m⟩, ⟨args, below, meth, c⟩, ⟨D, ta, ad, sa, A⟩, cl, sl, Z⟩ := Γ
  obtain ⟨hx, hb, hml, hr, hlk, hown, hts, hR, hK, hA, hPS, hPN⟩ := g
  intro H locs ls hP hD hS hl
  exact lv_iconst hx hb hdg hv (kk H locs ls hP hD hS hl)
theorem pb_bipush (g : GM Γ y cc nL rt k) {n : Int} {v : Int32} (hdg : decode cc pc = .ok (.bipush n, 2)) (hv : (Int8.ofInt n).toInt32 = v) (kk : PB Γ (pc + 2) lv (.int v :: st) h) : PB Γ pc lv (st) h := by
  obtain ⟨⟨p, l, e, R, s, m⟩, ⟨args, below, meth, c⟩, ⟨D, ta, ad, sa, A⟩, cl, sl, Z⟩ := Γ
  obtain ⟨hx, hb, hml, hr, hlk, hown, hts, hR, hK, hA, hPS, hPN⟩ := g
  intro H locs ls hP hD hS hl
  exact lv_bipush hx hb hdg hv (kk H locs ls hP hD hS hl)
theorem pb_sipush (g : GM Γ y cc nL rt k) {n : Int} {v : Int32} (hdg : decode cc pc = .ok (.sipush n, 3)) (hv : (Int16.ofInt n).toInt32 = v) (kk : PB Γ (pc + 3) lv (.int v :: st) h) : PB Γ pc lv (st) h := by
  obtain ⟨⟨p, l, e, R, s, m⟩, ⟨args, below, meth, c⟩, ⟨D, ta, ad, sa, A⟩, cl, sl, Z⟩ := Γ
  obtain ⟨hx, hb, hml, hr, hlk, hown, hts, hR, hK, hA, hPS, hPN⟩ := g
  intro H locs ls hP hD hS hl
  exact lv_sipush hx hb hdg hv (kk H locs ls hP hD hS hl)
theorem pb_lconst (g : GM Γ y cc nL rt k) {n : Fin 2} {v : Int64} (hdg : decode cc pc = .ok (.lconst n, 1)) (hv : Int64.ofNat (n : Nat) = v) (kk : PB Γ (pc + 1) lv (.long v :: st) h) : PB Γ pc lv (st) h := by
  obtain ⟨⟨p, l, e, R, s, m⟩, ⟨args, below, meth, c⟩, ⟨D, ta, ad, sa, A⟩, cl, sl, Z⟩ := Γ
  obtain ⟨hx, hb, hml, hr, hlk, hown, hts, hR, hK, hA, hPS, hPN⟩ := g
  intro H locs ls hP hD hS hl
  exact lv_lconst hx hb hdg hv (kk H locs ls hP hD hS hl)
theorem pb_iadd (g : GM Γ y cc nL rt k) {x z : Int32} (hdg : decode cc pc = .ok (.iadd, 1))  (kk : PB Γ (pc + 1) lv (.int (x + z) :: st) h) : PB Γ pc lv (.int z :: .int x :: st) h := by
  obtain ⟨⟨p, l, e, R, s, m⟩, ⟨args, below, meth, c⟩, ⟨D, ta, ad, sa, A⟩, cl, sl, Z⟩ := Γ
  obtain ⟨hx, hb, hml, hr, hlk, hown, hts, hR, hK, hA, hPS, hPN⟩ := g
  intro H locs ls hP hD hS hl
  exact lv_iadd hx hb hdg  (kk H locs ls hP hD hS hl)
theorem pb_isub (g : GM Γ y cc nL rt k) {x z : Int32} (hdg : decode cc pc = .ok (.isub, 1))  (kk : PB Γ (pc + 1) lv (.int (x - z) :: st) h) : PB Γ pc lv (.int z :: .int x :: st) h := by
  obtain ⟨⟨p, l, e, R, s, m⟩, ⟨args, below, meth, c⟩, ⟨D, ta, ad, sa, A⟩, cl, sl, Z⟩ := Γ
  obtain ⟨hx, hb, hml, hr, hlk, hown, hts, hR, hK, hA, hPS, hPN⟩ := g
  intro H locs ls hP hD hS hl
  exact lv_isub hx hb hdg  (kk H locs ls hP hD hS hl)
theorem pb_imul (g : GM Γ y cc nL rt k) {x z : Int32} (hdg : decode cc pc = .ok (.imul, 1))  (kk : PB Γ (pc + 1) lv (.int (x * z) :: st) h) : PB Γ pc lv (.int z :: .int x :: st) h := by
  obtain ⟨⟨p, l, e, R, s, m⟩, ⟨args, below, meth, c⟩, ⟨D, ta, ad, sa, A⟩, cl, sl, Z⟩ := Γ
  obtain ⟨hx, hb, hml, hr, hlk, hown, hts, hR, hK, hA, hPS, hPN⟩ := g
  intro H locs ls hP hD hS hl
  exact lv_imul hx hb hdg  (kk H locs ls hP hD hS hl)
theorem pb_iand (g : GM Γ y cc nL rt k) {x z : Int32} (hdg : decode cc pc = .ok (.iand, 1))  (kk : PB Γ (pc + 1) lv (.int (x &&& z) :: st) h) : PB Γ pc lv (.int z :: .int x :: st) h := by
  obtain ⟨⟨p, l, e, R, s, m⟩, ⟨args, below, meth, c⟩, ⟨D, ta, ad, sa, A⟩, cl, sl, Z⟩ := Γ
  obtain ⟨hx, hb, hml, hr, hlk, hown, hts, hR, hK, hA, hPS, hPN⟩ := g
  intro H locs ls hP hD hS hl
  exact lv_iand hx hb hdg  (kk H locs ls hP hD hS hl)
theorem pb_ior (g : GM Γ y cc nL rt k) {x z : Int32} (hdg : decode cc pc = .ok (.ior, 1))  (kk : PB Γ (pc + 1) lv (.int (x ||| z) :: st) h) : PB Γ pc lv (.int z :: .int x :: st) h := by
  obtain ⟨⟨p, l, e, R, s, m⟩, ⟨args, below, meth, c⟩, ⟨D, ta, ad, sa, A⟩, cl, sl, Z⟩ := Γ
  obtain ⟨hx, hb, hml, hr, hlk, hown, hts, hR, hK, hA, hPS, hPN⟩ := g
  intro H locs ls hP hD hS hl
  exact lv_ior hx hb hdg  (kk H locs ls hP hD hS hl)
theorem pb_ixor (g : GM Γ y cc nL rt k) {x z : Int32} (hdg : decode cc pc = .ok (.ixor, 1))  (kk : PB Γ (pc + 1) lv (.int (x ^^^ z) :: st) h) : PB Γ pc lv (.int z :: .int x :: st) h := by
  obtain ⟨⟨p, l, e, R, s, m⟩, ⟨args, below, meth, c⟩, ⟨D, ta, ad, sa, A⟩, cl, sl, Z⟩ := Γ
  obtain ⟨hx, hb, hml, hr, hlk, hown, hts, hR, hK, hA, hPS, hPN⟩ := g
  intro H locs ls hP hD hS hl
  exact lv_ixor hx hb hdg  (kk H locs ls hP hD hS hl)
theorem pb_ladd (g : GM Γ y cc nL rt k) {x z : Int64} (hdg : decode cc pc = .ok (.ladd, 1))  (kk : PB Γ (pc + 1) lv (.long (x + z) :: st) h) : PB Γ pc lv (.long z :: .long x :: st) h := by
  obtain ⟨⟨p, l, e, R, s, m⟩, ⟨args, below, meth, c⟩, ⟨D, ta, ad, sa, A⟩, cl, sl, Z⟩ := Γ
  obtain ⟨hx, hb, hml, hr, hlk, hown, hts, hR, hK, hA, hPS, hPN⟩ := g
  intro H locs ls hP hD hS hl
  exact lv_ladd hx hb hdg  (kk H locs ls hP hD hS hl)
theorem pb_lsub (g : GM Γ y cc nL rt k) {x z : Int64} (hdg : decode cc pc = .ok (.lsub, 1))  (kk : PB Γ (pc + 1) lv (.long (x - z) :: st) h) : PB Γ pc lv (.long z :: .long x :: st) h := by
  obtain ⟨⟨p, l, e, R, s, m⟩, ⟨args, below, meth, c⟩, ⟨D, ta, ad, sa, A⟩, cl, sl, Z⟩ := Γ
  obtain ⟨hx, hb, hml, hr, hlk, hown, hts, hR, hK, hA, hPS, hPN⟩ := g
  intro H locs ls hP hD hS hl
  exact lv_lsub hx hb hdg  (kk H locs ls hP hD hS hl)
theorem pb_lmul (g : GM Γ y cc nL rt k) {x z : Int64} (hdg : decode cc pc = .ok (.lmul, 1))  (kk : PB Γ (pc + 1) lv (.long (x * z) :: st) h) : PB Γ pc lv (.long z :: .long x :: st) h := by
  obtain ⟨⟨p, l, e, R, s, m⟩, ⟨args, below, meth, c⟩, ⟨D, ta, ad, sa, A⟩, cl, sl, Z⟩ := Γ
  obtain ⟨hx, hb, hml, hr, hlk, hown, hts, hR, hK, hA, hPS, hPN⟩ := g
  intro H locs ls hP hD hS hl
  exact lv_lmul hx hb hdg  (kk H locs ls hP hD hS hl)
theorem pb_land (g : GM Γ y cc nL rt k) {x z : Int64} (hdg : decode cc pc = .ok (.land, 1))  (kk : PB Γ (pc + 1) lv (.long (x &&& z) :: st) h) : PB Γ pc lv (.long z :: .long x :: st) h := by
  obtain ⟨⟨p, l, e, R, s, m⟩, ⟨args, below, meth, c⟩, ⟨D, ta, ad, sa, A⟩, cl, sl, Z⟩ := Γ
  obtain ⟨hx, hb, hml, hr, hlk, hown, hts, hR, hK, hA, hPS, hPN⟩ := g
  intro H locs ls hP hD hS hl
  exact lv_land hx hb hdg  (kk H locs ls hP hD hS hl)
theorem pb_lor (g : GM Γ y cc nL rt k) {x z : Int64} (hdg : decode cc pc = .ok (.lor, 1))  (kk : PB Γ (pc + 1) lv (.long (x ||| z) :: st) h) : PB Γ pc lv (.long z :: .long x :: st) h := by
  obtain ⟨⟨p, l, e, R, s, m⟩, ⟨args, below, meth, c⟩, ⟨D, ta, ad, sa, A⟩, cl, sl, Z⟩ := Γ
  obtain ⟨hx, hb, hml, hr, hlk, hown, hts, hR, hK, hA, hPS, hPN⟩ := g
  intro H locs ls hP hD hS hl
  exact lv_lor hx hb hdg  (kk H locs ls hP hD hS hl)
theorem pb_idiv (g : GM Γ y cc nL rt k) {x z : Int32} (hdg : decode cc pc = .ok (.idiv, 1)) (hne : ¬ z = 0) (kk : PB Γ (pc + 1) lv (.int (x / z) :: st) h) : PB Γ pc lv (.int z :: .int x :: st) h := by
  obtain ⟨⟨p, l, e, R, s, m⟩, ⟨args, below, meth, c⟩, ⟨D, ta, ad, sa, A⟩, cl, sl, Z⟩ := Γ
  obtain ⟨hx, hb, hml, hr, hlk, hown, hts, hR, hK, hA, hPS, hPN⟩ := g
  intro H locs ls hP hD hS hl
  exact lv_idiv hx hb hdg hne (kk H locs ls hP hD hS hl)
theorem pb_irem (g : GM Γ y cc nL rt k) {x z : Int32} (hdg : decode cc pc = .ok (.irem, 1)) (hne : ¬ z = 0) (kk : PB Γ (pc + 1) lv (.int (x - x / z * z) :: st) h) : PB Γ pc lv (.int z :: .int x :: st) h := by
  obtain ⟨⟨p, l, e, R, s, m⟩, ⟨args, below, meth, c⟩, ⟨D, ta, ad, sa, A⟩, cl, sl, Z⟩ := Γ
  obtain ⟨hx, hb, hml, hr, hlk, hown, hts, hR, hK, hA, hPS, hPN⟩ := g
  intro H locs ls hP hD hS hl
  exact lv_irem hx hb hdg hne (kk H locs ls hP hD hS hl)
theorem pb_ldiv (g : GM Γ y cc nL rt k) {x z : Int64} (hdg : decode cc pc = .ok (.ldiv, 1)) (hne : ¬ z = 0) (kk : PB Γ (pc + 1) lv (.long (x / z) :: st) h) : PB Γ pc lv (.long z :: .long x :: st) h := by
  obtain ⟨⟨p, l, e, R, s, m⟩, ⟨args, below, meth, c⟩, ⟨D, ta, ad, sa, A⟩, cl, sl, Z⟩ := Γ
  obtain ⟨hx, hb, hml, hr, hlk, hown, hts, hR, hK, hA, hPS, hPN⟩ := g
  intro H locs ls hP hD hS hl
  exact lv_ldiv hx hb hdg hne (kk H locs ls hP hD hS hl)
theorem pb_lrem (g : GM Γ y cc nL rt k) {x z : Int64} (hdg : decode cc pc = .ok (.lrem, 1)) (hne : ¬ z = 0) (kk : PB Γ (pc + 1) lv (.long (x - x / z * z) :: st) h) : PB Γ pc lv (.long z :: .long x :: st) h := by
  obtain ⟨⟨p, l, e, R, s, m⟩, ⟨args, below, meth, c⟩, ⟨D, ta, ad, sa, A⟩, cl, sl, Z⟩ := Γ
  obtain ⟨hx, hb, hml, hr, hlk, hown, hts, hR, hK, hA, hPS, hPN⟩ := g
  intro H locs ls hP hD hS hl
  exact lv_lrem hx hb hdg hne (kk H locs ls hP hD hS hl)
theorem pb_lneg (g : GM Γ y cc nL rt k) {x : Int64} (hdg : decode cc pc = .ok (.lneg, 1))  (kk : PB Γ (pc + 1) lv (.long (-x) :: st) h) : PB Γ pc lv (.long x :: st) h := by
  obtain ⟨⟨p, l, e, R, s, m⟩, ⟨args, below, meth, c⟩, ⟨D, ta, ad, sa, A⟩, cl, sl, Z⟩ := Γ
  obtain ⟨hx, hb, hml, hr, hlk, hown, hts, hR, hK, hA, hPS, hPN⟩ := g
  intro H locs ls hP hD hS hl
  exact lv_lneg hx hb hdg  (kk H locs ls hP hD hS hl)
theorem pb_ishl (g : GM Γ y cc nL rt k) {x z : Int32} (hdg : decode cc pc = .ok (.ishl, 1))  (kk : PB Γ (pc + 1) lv (.int (x <<< (z &&& 31)) :: st) h) : PB Γ pc lv (.int z :: .int x :: st) h := by
  obtain ⟨⟨p, l, e, R, s, m⟩, ⟨args, below, meth, c⟩, ⟨D, ta, ad, sa, A⟩, cl, sl, Z⟩ := Γ
  obtain ⟨hx, hb, hml, hr, hlk, hown, hts, hR, hK, hA, hPS, hPN⟩ := g
  intro H locs ls hP hD hS hl
  exact lv_ishl hx hb hdg  (kk H locs ls hP hD hS hl)
theorem pb_ishr (g : GM Γ y cc nL rt k) {x z : Int32} (hdg : decode cc pc = .ok (.ishr, 1))  (kk : PB Γ (pc + 1) lv (.int (x >>> (z &&& 31)) :: st) h) : PB Γ pc lv (.int z :: .int x :: st) h := by
  obtain ⟨⟨p, l, e, R, s, m⟩, ⟨args, below, meth, c⟩, ⟨D, ta, ad, sa, A⟩, cl, sl, Z⟩ := Γ
  obtain ⟨hx, hb, hml, hr, hlk, hown, hts, hR, hK, hA, hPS, hPN⟩ := g
  intro H locs ls hP hD hS hl
  exact lv_ishr hx hb hdg  (kk H locs ls hP hD hS hl)
theorem pb_iushr (g : GM Γ y cc nL rt k) {x z : Int32} (hdg : decode cc pc = .ok (.iushr, 1))  (kk : PB Γ (pc + 1) lv (.int ((x.toUInt32 >>> (z.toUInt32 &&& Int32.toUInt32 31)).toInt32) :: st) h) : PB Γ pc lv (.int z :: .int x :: st) h := by
  obtain ⟨⟨p, l, e, R, s, m⟩, ⟨args, below, meth, c⟩, ⟨D, ta, ad, sa, A⟩, cl, sl, Z⟩ := Γ
  obtain ⟨hx, hb, hml, hr, hlk, hown, hts, hR, hK, hA, hPS, hPN⟩ := g
  intro H locs ls hP hD hS hl
  exact lv_iushr hx hb hdg rfl (kk H locs ls hP hD hS hl)
theorem pb_lshl (g : GM Γ y cc nL rt k) {x : Int64} {z : Int32} (hdg : decode cc pc = .ok (.lshl, 1))  (kk : PB Γ (pc + 1) lv (.long (x <<< (z.toInt64 &&& 63)) :: st) h) : PB Γ pc lv (.int z :: .long x :: st) h := by
  obtain ⟨⟨p, l, e, R, s, m⟩, ⟨args, below, meth, c⟩, ⟨D, ta, ad, sa, A⟩, cl, sl, Z⟩ := Γ
  obtain ⟨hx, hb, hml, hr, hlk, hown, hts, hR, hK, hA, hPS, hPN⟩ := g
  intro H locs ls hP hD hS hl
  exact lv_lshl hx hb hdg rfl (kk H locs ls hP hD hS hl)
theorem pb_lshr (g : GM Γ y cc nL rt k) {x : Int64} {z : Int32} (hdg : decode cc pc = .ok (.lshr, 1))  (kk : PB Γ (pc + 1) lv (.long (x >>> (z.toInt64 &&& 63)) :: st) h) : PB Γ pc lv (.int z :: .long x :: st) h := by
  obtain ⟨⟨p, l, e, R, s, m⟩, ⟨args, below, meth, c⟩, ⟨D, ta, ad, sa, A⟩, cl, sl, Z⟩ := Γ
  obtain ⟨hx, hb, hml, hr, hlk, hown, hts, hR, hK, hA, hPS, hPN⟩ := g
  intro H locs ls hP hD hS hl
  exact lv_lshr hx hb hdg rfl (kk H locs ls hP hD hS hl)
theorem pb_i2l (g : GM Γ y cc nL rt k) {x : Int32} (hdg : decode cc pc = .ok (.i2l, 1))  (kk : PB Γ (pc + 1) lv (.long x.toInt64 :: st) h) : PB Γ pc lv (.int x :: st) h := by
  obtain ⟨⟨p, l, e, R, s, m⟩, ⟨args, below, meth, c⟩, ⟨D, ta, ad, sa, A⟩, cl, sl, Z⟩ := Γ
  obtain ⟨hx, hb, hml, hr, hlk, hown, hts, hR, hK, hA, hPS, hPN⟩ := g
  intro H locs ls hP hD hS hl
  exact lv_i2l hx hb hdg rfl (kk H locs ls hP hD hS hl)
theorem pb_l2i (g : GM Γ y cc nL rt k) {x : Int64} (hdg : decode cc pc = .ok (.l2i, 1))  (kk : PB Γ (pc + 1) lv (.int x.toInt32 :: st) h) : PB Γ pc lv (.long x :: st) h := by
  obtain ⟨⟨p, l, e, R, s, m⟩, ⟨args, below, meth, c⟩, ⟨D, ta, ad, sa, A⟩, cl, sl, Z⟩ := Γ
  obtain ⟨hx, hb, hml, hr, hlk, hown, hts, hR, hK, hA, hPS, hPN⟩ := g
  intro H locs ls hP hD hS hl
  exact lv_l2i hx hb hdg rfl (kk H locs ls hP hD hS hl)
theorem pb_i2b (g : GM Γ y cc nL rt k) {x : Int32} (hdg : decode cc pc = .ok (.i2b, 1))  (kk : PB Γ (pc + 1) lv (.int x.toInt8.toInt32 :: st) h) : PB Γ pc lv (.int x :: st) h := by
  obtain ⟨⟨p, l, e, R, s, m⟩, ⟨args, below, meth, c⟩, ⟨D, ta, ad, sa, A⟩, cl, sl, Z⟩ := Γ
  obtain ⟨hx, hb, hml, hr, hlk, hown, hts, hR, hK, hA, hPS, hPN⟩ := g
  intro H locs ls hP hD hS hl
  exact lv_i2b hx hb hdg rfl (kk H locs ls hP hD hS hl)
theorem pb_i2s (g : GM Γ y cc nL rt k) {x : Int32} (hdg : decode cc pc = .ok (.i2s, 1))  (kk : PB Γ (pc + 1) lv (.int x.toInt16.toInt32 :: st) h) : PB Γ pc lv (.int x :: st) h := by
  obtain ⟨⟨p, l, e, R, s, m⟩, ⟨args, below, meth, c⟩, ⟨D, ta, ad, sa, A⟩, cl, sl, Z⟩ := Γ
  obtain ⟨hx, hb, hml, hr, hlk, hown, hts, hR, hK, hA, hPS, hPN⟩ := g
  intro H locs ls hP hD hS hl
  exact lv_i2s hx hb hdg rfl (kk H locs ls hP hD hS hl)
theorem pb_dup (g : GM Γ y cc nL rt k) {v : Value} (hdg : decode cc pc = .ok (.dup, 1)) (hv : v.category = 1) (kk : PB Γ (pc + 1) lv (v :: v :: st) h) : PB Γ pc lv (v :: st) h := by
  obtain ⟨⟨p, l, e, R, s, m⟩, ⟨args, below, meth, c⟩, ⟨D, ta, ad, sa, A⟩, cl, sl, Z⟩ := Γ
  obtain ⟨hx, hb, hml, hr, hlk, hown, hts, hR, hK, hA, hPS, hPN⟩ := g
  intro H locs ls hP hD hS hl
  exact lv_dup hx hb hdg (pcv_cat hv) (kk H locs ls hP hD hS hl)
theorem pb_dup_x1 (g : GM Γ y cc nL rt k) {v w : Value} (hdg : decode cc pc = .ok (.dup_x1, 1)) (hv : v.category = 1) (hw : w.category = 1) (kk : PB Γ (pc + 1) lv (v :: w :: v :: st) h) : PB Γ pc lv (v :: w :: st) h := by
  obtain ⟨⟨p, l, e, R, s, m⟩, ⟨args, below, meth, c⟩, ⟨D, ta, ad, sa, A⟩, cl, sl, Z⟩ := Γ
  obtain ⟨hx, hb, hml, hr, hlk, hown, hts, hR, hK, hA, hPS, hPN⟩ := g
  intro H locs ls hP hD hS hl
  exact lv_dup_x1 hx hb hdg (pcv_cat hv) (pcv_cat hw) (kk H locs ls hP hD hS hl)
theorem pb_dup_x2 (g : GM Γ y cc nL rt k) {v w z : Value} (hdg : decode cc pc = .ok (.dup_x2, 1)) (hv : v.category = 1) (hw : w.category = 1) (hz : z.category = 1) (kk : PB Γ (pc + 1) lv (v :: w :: z :: v :: st) h) : PB Γ pc lv (v :: w :: z :: st) h := by
  obtain ⟨⟨p, l, e, R, s, m⟩, ⟨args, below, meth, c⟩, ⟨D, ta, ad, sa, A⟩, cl, sl, Z⟩ := Γ
  obtain ⟨hx, hb, hml, hr, hlk, hown, hts, hR, hK, hA, hPS, hPN⟩ := g
  intro H locs ls hP hD hS hl
  exact lv_dup_x2 hx hb hdg (pcv_cat hv) (pcv_cat hw) (pcv_cat hz) (kk H locs ls hP hD hS hl)
theorem pb_dup2 (g : GM Γ y cc nL rt k) {v w : Value} (hdg : decode cc pc = .ok (.dup2, 1)) (hv : v.category = 1) (hw : w.category = 1) (kk : PB Γ (pc + 1) lv (v :: w :: v :: w :: st) h) : PB Γ pc lv (v :: w :: st) h := by
  obtain ⟨⟨p, l, e, R, s, m⟩, ⟨args, below, meth, c⟩, ⟨D, ta, ad, sa, A⟩, cl, sl, Z⟩ := Γ
  obtain ⟨hx, hb, hml, hr, hlk, hown, hts, hR, hK, hA, hPS, hPN⟩ := g
  intro H locs ls hP hD hS hl
  exact lv_dup2_11 hx hb hdg (pcv_cat hv) (pcv_cat hw) (kk H locs ls hP hD hS hl)
theorem pb_pop (g : GM Γ y cc nL rt k) {v : Value} (hdg : decode cc pc = .ok (.pop, 1)) (hv : v.category = 1) (kk : PB Γ (pc + 1) lv (st) h) : PB Γ pc lv (v :: st) h := by
  obtain ⟨⟨p, l, e, R, s, m⟩, ⟨args, below, meth, c⟩, ⟨D, ta, ad, sa, A⟩, cl, sl, Z⟩ := Γ
  obtain ⟨hx, hb, hml, hr, hlk, hown, hts, hR, hK, hA, hPS, hPN⟩ := g
  intro H locs ls hP hD hS hl
  exact lv_pop hx hb hdg (pcv_cat hv) (kk H locs ls hP hD hS hl)
theorem pb_lcmp (g : GM Γ y cc nL rt k) {x z : Int64} (hdg : decode cc pc = .ok (.lcmp, 1)) (kk : PB Γ (pc + 1) lv (.int (lg_cmp x z) :: st) h) : PB Γ pc lv (.long z :: .long x :: st) h := by
  obtain ⟨⟨p, l, e, R, s, m⟩, ⟨args, below, meth, c⟩, ⟨D, ta, ad, sa, A⟩, cl, sl, Z⟩ := Γ
  obtain ⟨hx, hb, hml, hr, hlk, hown, hts, hR, hK, hA, hPS, hPN⟩ := g
  intro H locs ls hP hD hS hl
  exact W.lcmp hx hb hdg (kk H locs ls hP hD hS hl)
theorem pb_if_eq (g : GM Γ y cc nL rt k) {x : Int32} {off : Int} (tgt : Nat) (hdg : decode cc pc = .ok (.ifCond .eq off, 3)) (ht : (pc : Int) + off = (tgt : Int)) (kt : x = 0 → PB Γ tgt lv st h) (kf : ¬ x = 0 → PB Γ (pc + 3) lv st h) : PB Γ pc lv (.int x :: st) h := by
  obtain ⟨⟨p, l, e, R, s, m⟩, ⟨args, below, meth, c⟩, ⟨D, ta, ad, sa, A⟩, cl, sl, Z⟩ := Γ
  obtain ⟨hx, hb, hml, hr, hlk, hown, hts, hR, hK, hA, hPS, hPN⟩ := g
  intro H locs ls hP hD hS hl
  exact lv_if_eq hx hb hdg ht (fun q => kt q H locs ls hP hD hS hl) (fun q => kf q H locs ls hP hD hS hl)
theorem pb_if_ne (g : GM Γ y cc nL rt k) {x : Int32} {off : Int} (tgt : Nat) (hdg : decode cc pc = .ok (.ifCond .ne off, 3)) (ht : (pc : Int) + off = (tgt : Int)) (kt : ¬ x = 0 → PB Γ tgt lv st h) (kf : x = 0 → PB Γ (pc + 3) lv st h) : PB Γ pc lv (.int x :: st) h := by
  obtain ⟨⟨p, l, e, R, s, m⟩, ⟨args, below, meth, c⟩, ⟨D, ta, ad, sa, A⟩, cl, sl, Z⟩ := Γ
  obtain ⟨hx, hb, hml, hr, hlk, hown, hts, hR, hK, hA, hPS, hPN⟩ := g
  intro H locs ls hP hD hS hl
  exact lv_if_ne hx hb hdg ht (fun q => kt q H locs ls hP hD hS hl) (fun q => kf q H locs ls hP hD hS hl)
theorem pb_if_lt (g : GM Γ y cc nL rt k) {x : Int32} {off : Int} (tgt : Nat) (hdg : decode cc pc = .ok (.ifCond .lt off, 3)) (ht : (pc : Int) + off = (tgt : Int)) (kt : x < 0 → PB Γ tgt lv st h) (kf : ¬ x < 0 → PB Γ (pc + 3) lv st h) : PB Γ pc lv (.int x :: st) h := by
  obtain ⟨⟨p, l, e, R, s, m⟩, ⟨args, below, meth, c⟩, ⟨D, ta, ad, sa, A⟩, cl, sl, Z⟩ := Γ
  obtain ⟨hx, hb, hml, hr, hlk, hown, hts, hR, hK, hA, hPS, hPN⟩ := g
  intro H locs ls hP hD hS hl
  exact lv_if_lt hx hb hdg ht (fun q => kt q H locs ls hP hD hS hl) (fun q => kf q H locs ls hP hD hS hl)
theorem pb_if_ge (g : GM Γ y cc nL rt k) {x : Int32} {off : Int} (tgt : Nat) (hdg : decode cc pc = .ok (.ifCond .ge off, 3)) (ht : (pc : Int) + off = (tgt : Int)) (kt : 0 ≤ x → PB Γ tgt lv st h) (kf : ¬ 0 ≤ x → PB Γ (pc + 3) lv st h) : PB Γ pc lv (.int x :: st) h := by
  obtain ⟨⟨p, l, e, R, s, m⟩, ⟨args, below, meth, c⟩, ⟨D, ta, ad, sa, A⟩, cl, sl, Z⟩ := Γ
  obtain ⟨hx, hb, hml, hr, hlk, hown, hts, hR, hK, hA, hPS, hPN⟩ := g
  intro H locs ls hP hD hS hl
  exact lv_if_ge hx hb hdg ht (fun q => kt q H locs ls hP hD hS hl) (fun q => kf q H locs ls hP hD hS hl)
theorem pb_if_gt (g : GM Γ y cc nL rt k) {x : Int32} {off : Int} (tgt : Nat) (hdg : decode cc pc = .ok (.ifCond .gt off, 3)) (ht : (pc : Int) + off = (tgt : Int)) (kt : 0 < x → PB Γ tgt lv st h) (kf : ¬ 0 < x → PB Γ (pc + 3) lv st h) : PB Γ pc lv (.int x :: st) h := by
  obtain ⟨⟨p, l, e, R, s, m⟩, ⟨args, below, meth, c⟩, ⟨D, ta, ad, sa, A⟩, cl, sl, Z⟩ := Γ
  obtain ⟨hx, hb, hml, hr, hlk, hown, hts, hR, hK, hA, hPS, hPN⟩ := g
  intro H locs ls hP hD hS hl
  exact lv_if_gt hx hb hdg ht (fun q => kt q H locs ls hP hD hS hl) (fun q => kf q H locs ls hP hD hS hl)
theorem pb_if_le (g : GM Γ y cc nL rt k) {x : Int32} {off : Int} (tgt : Nat) (hdg : decode cc pc = .ok (.ifCond .le off, 3)) (ht : (pc : Int) + off = (tgt : Int)) (kt : x ≤ 0 → PB Γ tgt lv st h) (kf : ¬ x ≤ 0 → PB Γ (pc + 3) lv st h) : PB Γ pc lv (.int x :: st) h := by
  obtain ⟨⟨p, l, e, R, s, m⟩, ⟨args, below, meth, c⟩, ⟨D, ta, ad, sa, A⟩, cl, sl, Z⟩ := Γ
  obtain ⟨hx, hb, hml, hr, hlk, hown, hts, hR, hK, hA, hPS, hPN⟩ := g
  intro H locs ls hP hD hS hl
  exact lv_if_le hx hb hdg ht (fun q => kt q H locs ls hP hD hS hl) (fun q => kf q H locs ls hP hD hS hl)
theorem pb_icmp_eq (g : GM Γ y cc nL rt k) {x z : Int32} {off : Int} (tgt : Nat) (hdg : decode cc pc = .ok (.if_icmp .eq off, 3)) (ht : (pc : Int) + off = (tgt : Int)) (kt : x = z → PB Γ tgt lv st h) (kf : ¬ x = z → PB Γ (pc + 3) lv st h) : PB Γ pc lv (.int z :: .int x :: st) h := by
  obtain ⟨⟨p, l, e, R, s, m⟩, ⟨args, below, meth, c⟩, ⟨D, ta, ad, sa, A⟩, cl, sl, Z⟩ := Γ
  obtain ⟨hx, hb, hml, hr, hlk, hown, hts, hR, hK, hA, hPS, hPN⟩ := g
  intro H locs ls hP hD hS hl
  exact lv_icmp_eq hx hb hdg ht (fun q => kt q H locs ls hP hD hS hl) (fun q => kf q H locs ls hP hD hS hl)
theorem pb_icmp_ne (g : GM Γ y cc nL rt k) {x z : Int32} {off : Int} (tgt : Nat) (hdg : decode cc pc = .ok (.if_icmp .ne off, 3)) (ht : (pc : Int) + off = (tgt : Int)) (kt : ¬ x = z → PB Γ tgt lv st h) (kf : x = z → PB Γ (pc + 3) lv st h) : PB Γ pc lv (.int z :: .int x :: st) h := by
  obtain ⟨⟨p, l, e, R, s, m⟩, ⟨args, below, meth, c⟩, ⟨D, ta, ad, sa, A⟩, cl, sl, Z⟩ := Γ
  obtain ⟨hx, hb, hml, hr, hlk, hown, hts, hR, hK, hA, hPS, hPN⟩ := g
  intro H locs ls hP hD hS hl
  exact lv_icmp_ne hx hb hdg ht (fun q => kt q H locs ls hP hD hS hl) (fun q => kf q H locs ls hP hD hS hl)
theorem pb_icmp_lt (g : GM Γ y cc nL rt k) {x z : Int32} {off : Int} (tgt : Nat) (hdg : decode cc pc = .ok (.if_icmp .lt off, 3)) (ht : (pc : Int) + off = (tgt : Int)) (kt : x < z → PB Γ tgt lv st h) (kf : ¬ x < z → PB Γ (pc + 3) lv st h) : PB Γ pc lv (.int z :: .int x :: st) h := by
  obtain ⟨⟨p, l, e, R, s, m⟩, ⟨args, below, meth, c⟩, ⟨D, ta, ad, sa, A⟩, cl, sl, Z⟩ := Γ
  obtain ⟨hx, hb, hml, hr, hlk, hown, hts, hR, hK, hA, hPS, hPN⟩ := g
  intro H locs ls hP hD hS hl
  exact lv_icmp_lt hx hb hdg ht (fun q => kt q H locs ls hP hD hS hl) (fun q => kf q H locs ls hP hD hS hl)
theorem pb_icmp_ge (g : GM Γ y cc nL rt k) {x z : Int32} {off : Int} (tgt : Nat) (hdg : decode cc pc = .ok (.if_icmp .ge off, 3)) (ht : (pc : Int) + off = (tgt : Int)) (kt : z ≤ x → PB Γ tgt lv st h) (kf : ¬ z ≤ x → PB Γ (pc + 3) lv st h) : PB Γ pc lv (.int z :: .int x :: st) h := by
  obtain ⟨⟨p, l, e, R, s, m⟩, ⟨args, below, meth, c⟩, ⟨D, ta, ad, sa, A⟩, cl, sl, Z⟩ := Γ
  obtain ⟨hx, hb, hml, hr, hlk, hown, hts, hR, hK, hA, hPS, hPN⟩ := g
  intro H locs ls hP hD hS hl
  exact lv_icmp_ge hx hb hdg ht (fun q => kt q H locs ls hP hD hS hl) (fun q => kf q H locs ls hP hD hS hl)
theorem pb_icmp_gt (g : GM Γ y cc nL rt k) {x z : Int32} {off : Int} (tgt : Nat) (hdg : decode cc pc = .ok (.if_icmp .gt off, 3)) (ht : (pc : Int) + off = (tgt : Int)) (kt : z < x → PB Γ tgt lv st h) (kf : ¬ z < x → PB Γ (pc + 3) lv st h) : PB Γ pc lv (.int z :: .int x :: st) h := by
  obtain ⟨⟨p, l, e, R, s, m⟩, ⟨args, below, meth, c⟩, ⟨D, ta, ad, sa, A⟩, cl, sl, Z⟩ := Γ
  obtain ⟨hx, hb, hml, hr, hlk, hown, hts, hR, hK, hA, hPS, hPN⟩ := g
  intro H locs ls hP hD hS hl
  exact lv_icmp_gt hx hb hdg ht (fun q => kt q H locs ls hP hD hS hl) (fun q => kf q H locs ls hP hD hS hl)
theorem pb_icmp_le (g : GM Γ y cc nL rt k) {x z : Int32} {off : Int} (tgt : Nat) (hdg : decode cc pc = .ok (.if_icmp .le off, 3)) (ht : (pc : Int) + off = (tgt : Int)) (kt : x ≤ z → PB Γ tgt lv st h) (kf : ¬ x ≤ z → PB Γ (pc + 3) lv st h) : PB Γ pc lv (.int z :: .int x :: st) h := by
  obtain ⟨⟨p, l, e, R, s, m⟩, ⟨args, below, meth, c⟩, ⟨D, ta, ad, sa, A⟩, cl, sl, Z⟩ := Γ
  obtain ⟨hx, hb, hml, hr, hlk, hown, hts, hR, hK, hA, hPS, hPN⟩ := g
  intro H locs ls hP hD hS hl
  exact lv_icmp_le hx hb hdg ht (fun q => kt q H locs ls hP hD hS hl) (fun q => kf q H locs ls hP hD hS hl)
theorem pb_goto (g : GM Γ y cc nL rt k) {off : Int} (tgt : Nat) (hdg : decode cc pc = .ok (.goto off, 3)) (ht : (pc : Int) + off = (tgt : Int)) (kk : PB Γ tgt lv st h) : PB Γ pc lv st h := by
  obtain ⟨⟨p, l, e, R, s, m⟩, ⟨args, below, meth, c⟩, ⟨D, ta, ad, sa, A⟩, cl, sl, Z⟩ := Γ
  obtain ⟨hx, hb, hml, hr, hlk, hown, hts, hR, hK, hA, hPS, hPN⟩ := g
  intro H locs ls hP hD hS hl
  exact lv_goto hx hb hdg ht (kk H locs ls hP hD hS hl)
theorem pb_iaddN (g : GM Γ y cc nL rt k) {a b : Nat} (hdg : decode cc pc = .ok (.iadd, 1))  (kk : PB Γ (pc + 1) lv (.int (nI (a + b)) :: st) h) : PB Γ pc lv (.int (nI b) :: .int (nI a) :: st) h := pb_iadd g hdg (by rw [nI_add]; exact kk)
theorem pb_imulN (g : GM Γ y cc nL rt k) {a b : Nat} (hdg : decode cc pc = .ok (.imul, 1))  (kk : PB Γ (pc + 1) lv (.int (nI (a * b)) :: st) h) : PB Γ pc lv (.int (nI b) :: .int (nI a) :: st) h := pb_imul g hdg (by rw [pk_mul]; exact kk)
theorem pb_isubN (g : GM Γ y cc nL rt k) {a b : Nat} (hdg : decode cc pc = .ok (.isub, 1)) (hle : b ≤ a) (kk : PB Γ (pc + 1) lv (.int (nI (a - b)) :: st) h) : PB Γ pc lv (.int (nI b) :: .int (nI a) :: st) h := pb_isub g hdg (by rw [pk_sub hle]; exact kk)
theorem pb_idivN (g : GM Γ y cc nL rt k) {a b : Nat} (hdg : decode cc pc = .ok (.idiv, 1)) (ha : a < 2 ^ 31) (h0 : 0 < b) (hb : b < 2 ^ 31) (kk : PB Γ (pc + 1) lv (.int (nI (a / b)) :: st) h) : PB Γ pc lv (.int (nI b) :: .int (nI a) :: st) h := pb_idiv g hdg (nI_ne0 h0 hb) (by rw [pk_div ha h0 hb]; exact kk)
theorem pb_iremN (g : GM Γ y cc nL rt k) {a b : Nat} (hdg : decode cc pc = .ok (.irem, 1)) (ha : a < 2 ^ 31) (h0 : 0 < b) (hb : b < 2 ^ 31) (kk : PB Γ (pc + 1) lv (.int (nI (a % b)) :: st) h) : PB Γ pc lv (.int (nI b) :: .int (nI a) :: st) h := pb_irem g hdg (nI_ne0 h0 hb) (by rw [pk_rem ha h0 hb]; exact kk)
theorem pb_icmp_eqN (g : GM Γ y cc nL rt k) {a b : Nat} {off : Int} (tgt : Nat) (hdg : decode cc pc = .ok (.if_icmp .eq off, 3)) (ht : (pc : Int) + off = (tgt : Int)) (ha : a < 2 ^ 31) (hb : b < 2 ^ 31) (kt : a = b → PB Γ tgt lv st h) (kf : ¬ a = b → PB Γ (pc + 3) lv st h) : PB Γ pc lv (.int (nI b) :: .int (nI a) :: st) h := pb_icmp_eq g tgt hdg ht (fun q => kt ((nI_eq ha hb).mp q)) (fun q => kf (fun z => q ((nI_eq ha hb).mpr z)))
theorem pb_icmp_neN (g : GM Γ y cc nL rt k) {a b : Nat} {off : Int} (tgt : Nat) (hdg : decode cc pc = .ok (.if_icmp .ne off, 3)) (ht : (pc : Int) + off = (tgt : Int)) (ha : a < 2 ^ 31) (hb : b < 2 ^ 31) (kt : ¬ a = b → PB Γ tgt lv st h) (kf : a = b → PB Γ (pc + 3) lv st h) : PB Γ pc lv (.int (nI b) :: .int (nI a) :: st) h := pb_icmp_ne g tgt hdg ht (fun q => kt (fun z => q ((nI_eq ha hb).mpr z))) (fun q => kf ((nI_eq ha hb).mp q))
theorem pb_icmp_ltN (g : GM Γ y cc nL rt k) {a b : Nat} {off : Int} (tgt : Nat) (hdg : decode cc pc = .ok (.if_icmp .lt off, 3)) (ht : (pc : Int) + off = (tgt : Int)) (ha : a < 2 ^ 31) (hb : b < 2 ^ 31) (kt : a < b → PB Γ tgt lv st h) (kf : b ≤ a → PB Γ (pc + 3) lv st h) : PB Γ pc lv (.int (nI b) :: .int (nI a) :: st) h := pb_icmp_lt g tgt hdg ht (fun q => kt ((nI_ltI ha hb).mp q)) (fun q => kf (Nat.not_lt.mp fun z => q ((nI_ltI ha hb).mpr z)))
theorem pb_icmp_geN (g : GM Γ y cc nL rt k) {a b : Nat} {off : Int} (tgt : Nat) (hdg : decode cc pc = .ok (.if_icmp .ge off, 3)) (ht : (pc : Int) + off = (tgt : Int)) (ha : a < 2 ^ 31) (hb : b < 2 ^ 31) (kt : b ≤ a → PB Γ tgt lv st h) (kf : a < b → PB Γ (pc + 3) lv st h) : PB Γ pc lv (.int (nI b) :: .int (nI a) :: st) h := pb_icmp_ge g tgt hdg ht (fun q => kt ((nI_leI hb ha).mp q)) (fun q => kf (Nat.not_le.mp fun z => q ((nI_leI hb ha).mpr z)))
theorem pb_icmp_gtN (g : GM Γ y cc nL rt k) {a b : Nat} {off : Int} (tgt : Nat) (hdg : decode cc pc = .ok (.if_icmp .gt off, 3)) (ht : (pc : Int) + off = (tgt : Int)) (ha : a < 2 ^ 31) (hb : b < 2 ^ 31) (kt : b < a → PB Γ tgt lv st h) (kf : a ≤ b → PB Γ (pc + 3) lv st h) : PB Γ pc lv (.int (nI b) :: .int (nI a) :: st) h := pb_icmp_gt g tgt hdg ht (fun q => kt ((nI_ltI hb ha).mp q)) (fun q => kf (Nat.not_lt.mp fun z => q ((nI_ltI hb ha).mpr z)))
theorem pb_icmp_leN (g : GM Γ y cc nL rt k) {a b : Nat} {off : Int} (tgt : Nat) (hdg : decode cc pc = .ok (.if_icmp .le off, 3)) (ht : (pc : Int) + off = (tgt : Int)) (ha : a < 2 ^ 31) (hb : b < 2 ^ 31) (kt : a ≤ b → PB Γ tgt lv st h) (kf : b < a → PB Γ (pc + 3) lv st h) : PB Γ pc lv (.int (nI b) :: .int (nI a) :: st) h := pb_icmp_le g tgt hdg ht (fun q => kt ((nI_leI ha hb).mp q)) (fun q => kf (Nat.not_le.mp fun z => q ((nI_leI ha hb).mpr z)))
theorem pb_if_eqN (g : GM Γ y cc nL rt k) {a : Nat} {off : Int} (tgt : Nat) (hdg : decode cc pc = .ok (.ifCond .eq off, 3)) (ht : (pc : Int) + off = (tgt : Int)) (ha : a < 2 ^ 31) (kt : a = 0 → PB Γ tgt lv st h) (kf : ¬ a = 0 → PB Γ (pc + 3) lv st h) : PB Γ pc lv (.int (nI a) :: st) h := pb_if_eq g tgt hdg ht (fun q => kt ((nI_eq ha (by decide)).mp q)) (fun q => kf (fun z => q ((nI_eq ha (by decide)).mpr z)))
theorem pb_if_neN (g : GM Γ y cc nL rt k) {a : Nat} {off : Int} (tgt : Nat) (hdg : decode cc pc = .ok (.ifCond .ne off, 3)) (ht : (pc : Int) + off = (tgt : Int)) (ha : a < 2 ^ 31) (kt : ¬ a = 0 → PB Γ tgt lv st h) (kf : a = 0 → PB Γ (pc + 3) lv st h) : PB Γ pc lv (.int (nI a) :: st) h := pb_if_ne g tgt hdg ht (fun q => kt (fun z => q ((nI_eq ha (by decide)).mpr z))) (fun q => kf ((nI_eq ha (by decide)).mp q))
theorem pb_if_ltN (g : GM Γ y cc nL rt k) {a : Nat} {off : Int} (tgt : Nat) (hdg : decode cc pc = .ok (.ifCond .lt off, 3)) (ht : (pc : Int) + off = (tgt : Int)) (ha : a < 2 ^ 31) (kf : PB Γ (pc + 3) lv st h) : PB Γ pc lv (.int (nI a) :: st) h := pb_if_lt g tgt hdg ht (fun q => absurd q (nI_pos ha)) (fun _ => kf)
theorem pb_if_geN (g : GM Γ y cc nL rt k) {a : Nat} {off : Int} (tgt : Nat) (hdg : decode cc pc = .ok (.ifCond .ge off, 3)) (ht : (pc : Int) + off = (tgt : Int)) (ha : a < 2 ^ 31) (kt : PB Γ tgt lv st h) : PB Γ pc lv (.int (nI a) :: st) h := pb_if_ge g tgt hdg ht (fun _ => kt) (fun q => absurd (nI_pos' ha) q)
theorem pb_if_leN (g : GM Γ y cc nL rt k) {a : Nat} {off : Int} (tgt : Nat) (hdg : decode cc pc = .ok (.ifCond .le off, 3)) (ht : (pc : Int) + off = (tgt : Int)) (ha : a < 2 ^ 31) (kt : a = 0 → PB Γ tgt lv st h) (kf : 0 < a → PB Γ (pc + 3) lv st h) : PB Γ pc lv (.int (nI a) :: st) h := pb_if_le g tgt hdg ht (fun q => kt (Nat.le_zero.mp ((nI_leI ha (by decide)).mp q))) (fun q => kf (Nat.pos_of_ne_zero fun z => q (by rw [z]; exact Int32.le_refl 0)))
theorem pb_if_gtN (g : GM Γ y cc nL rt k) {a : Nat} {off : Int} (tgt : Nat) (hdg : decode cc pc = .ok (.ifCond .gt off, 3)) (ht : (pc : Int) + off = (tgt : Int)) (ha : a < 2 ^ 31) (kt : 0 < a → PB Γ tgt lv st h) (kf : a = 0 → PB Γ (pc + 3) lv st h) : PB Γ pc lv (.int (nI a) :: st) h := pb_if_gt g tgt hdg ht (fun q => kt ((nI_ltI (by decide) ha).mp q)) (fun q => kf (Nat.eq_zero_of_not_pos fun z => q ((nI_ltI (by decide) ha).mpr z)))
theorem pb_iload0 (g : GM Γ y cc nL rt k)  {x : Int32} {tl : List (Option Value)} (hdg : decode cc pc = .ok (.iload 0, 2)) (kk : PB Γ (pc + 2) (some (.int x) :: tl) (.int x :: st) h) : PB Γ pc (some (.int x) :: tl) st h := by
  obtain ⟨⟨p, l, e, R, s, m⟩, ⟨args, below, meth, c⟩, ⟨D, ta, ad, sa, A⟩, cl, sl, Z⟩ := Γ
  obtain ⟨hx, hb, hml, hr, hlk, hown, hts, hR, hK, hA, hPS, hPN⟩ := g
  intro H locs ls hP hD hS hl
  exact lv_iload hx hb hdg (hl.2.2 0 _ rfl) (kk H locs ls hP hD hS hl)
theorem pb_lload0 (g : GM Γ y cc nL rt k)  {x : Int64} {tl : List (Option Value)} (hdg : decode cc pc = .ok (.lload 0, 2)) (kk : PB Γ (pc + 2) (some (.long x) :: tl) (.long x :: st) h) : PB Γ pc (some (.long x) :: tl) st h := by
  obtain ⟨⟨p, l, e, R, s, m⟩, ⟨args, below, meth, c⟩, ⟨D, ta, ad, sa, A⟩, cl, sl, Z⟩ := Γ
  obtain ⟨hx, hb, hml, hr, hlk, hown, hts, hR, hK, hA, hPS, hPN⟩ := g
  intro H locs ls hP hD hS hl
  exact lv_lload hx hb hdg (hl.2.2 0 _ rfl) (kk H locs ls hP hD hS hl)
theorem pb_aload0 (g : GM Γ y cc nL rt k)  {x : Nat} {tl : List (Option Value)} (hdg : decode cc pc = .ok (.aload 0, 2)) (kk : PB Γ (pc + 2) (some (.ref x) :: tl) (.ref x :: st) h) : PB Γ pc (some (.ref x) :: tl) st h := by
  obtain ⟨⟨p, l, e, R, s, m⟩, ⟨args, below, meth, c⟩, ⟨D, ta, ad, sa, A⟩, cl, sl, Z⟩ := Γ
  obtain ⟨hx, hb, hml, hr, hlk, hown, hts, hR, hK, hA, hPS, hPN⟩ := g
  intro H locs ls hP hD hS hl
  exact lv_aload hx hb hdg (hl.2.2 0 _ rfl) (kk H locs ls hP hD hS hl)
theorem pb_istore0 (g : GM Γ y cc nL rt k)  {x : Int32} {b : Option Value} {tl : List (Option Value)} (hdg : decode cc pc = .ok (.istore 0, 2)) (hn : 0 < nL) (kk : PB Γ (pc + 2) (some (.int x) :: tl) st h)  : PB Γ pc (b :: tl) (.int x :: st) h := by
  obtain ⟨⟨p, l, e, R, s, m⟩, ⟨args, below, meth, c⟩, ⟨D, ta, ad, sa, A⟩, cl, sl, Z⟩ := Γ
  obtain ⟨hx, hb, hml, hr, hlk, hown, hts, hR, hK, hA, hPS, hPN⟩ := g
  intro H locs ls hP hD hS hl
  subst hml
  exact lv_istore hx hb hdg hl.kit hn rfl (fun ls' hl' => kk H locs ls' hP hD hS (pl_put1 (i := 0) (lv := b :: tl) (v := .int x) hl' (by simp) (fun j w hj _ => absurd hj (by omega))))
theorem pb_astore0 (g : GM Γ y cc nL rt k)  {x : Nat} {b : Option Value} {tl : List (Option Value)} (hdg : decode cc pc = .ok (.astore 0, 2)) (hn : 0 < nL) (kk : PB Γ (pc + 2) (some (.ref x) :: tl) st h)  : PB Γ pc (b :: tl) (.ref x :: st) h := by
  obtain ⟨⟨p, l, e, R, s, m⟩, ⟨args, below, meth, c⟩, ⟨D, ta, ad, sa, A⟩, cl, sl, Z⟩ := Γ
  obtain ⟨hx, hb, hml, hr, hlk, hown, hts, hR, hK, hA, hPS, hPN⟩ := g
  intro H locs ls hP hD hS hl
  subst hml
  exact lv_astore hx hb hdg hl.kit hn rfl (fun ls' hl' => kk H locs ls' hP hD hS (pl_put1 (i := 0) (lv := b :: tl) (v := .ref x) hl' (by simp) (fun j w hj _ => absurd hj (by omega))))
theorem pb_lstore0 (g : GM Γ y cc nL rt k)  {x : Int64} {b d : Option Value} {tl : List (Option Value)} (hdg : decode cc pc = .ok (.lstore 0, 2)) (hn : 0 + 1 < nL) (kk : PB Γ (pc + 2) (some (.long x) :: none :: tl) st h)  : PB Γ pc (b :: d :: tl) (.long x :: st) h := by
  obtain ⟨⟨p, l, e, R, s, m⟩, ⟨args, below, meth, c⟩, ⟨D, ta, ad, sa, A⟩, cl, sl, Z⟩ := Γ
  obtain ⟨hx, hb, hml, hr, hlk, hown, hts, hR, hK, hA, hPS, hPN⟩ := g
  intro H locs ls hP hD hS hl
  subst hml
  exact lv_lstore hx hb hdg hl.kit hn rfl (fun ls' hl' => kk H locs ls' hP hD hS (pl_put2 (i := 0) (lv := b :: d :: tl) (v := .long x) hl' (by simp) (fun j w hj _ => absurd hj (by omega))))
theorem pb_iload_n0 (g : GM Γ y cc nL rt k)  {x : Int32} {tl : List (Option Value)} (hdg : decode cc pc = .ok (.iload_n 0, 1)) (kk : PB Γ (pc + 1) (some (.int x) :: tl) (.int x :: st) h) : PB Γ pc (some (.int x) :: tl) st h := by
  obtain ⟨⟨p, l, e, R, s, m⟩, ⟨args, below, meth, c⟩, ⟨D, ta, ad, sa, A⟩, cl, sl, Z⟩ := Γ
  obtain ⟨hx, hb, hml, hr, hlk, hown, hts, hR, hK, hA, hPS, hPN⟩ := g
  intro H locs ls hP hD hS hl
  exact lv_iload_n hx hb hdg rfl (hl.2.2 0 _ rfl) (kk H locs ls hP hD hS hl)
theorem pb_lload_n0 (g : GM Γ y cc nL rt k)  {x : Int64} {tl : List (Option Value)} (hdg : decode cc pc = .ok (.lload_n 0, 1)) (kk : PB Γ (pc + 1) (some (.long x) :: tl) (.long x :: st) h) : PB Γ pc (some (.long x) :: tl) st h := by
  obtain ⟨⟨p, l, e, R, s, m⟩, ⟨args, below, meth, c⟩, ⟨D, ta, ad, sa, A⟩, cl, sl, Z⟩ := Γ
  obtain ⟨hx, hb, hml, hr, hlk, hown, hts, hR, hK, hA, hPS, hPN⟩ := g
  intro H locs ls hP hD hS hl
  exact lv_lload_n hx hb hdg rfl (hl.2.2 0 _ rfl) (kk H locs ls hP hD hS hl)
theorem pb_aload_n0 (g : GM Γ y cc nL rt k)  {x : Nat} {tl : List (Option Value)} (hdg : decode cc pc = .ok (.aload_n 0, 1)) (kk : PB Γ (pc + 1) (some (.ref x) :: tl) (.ref x :: st) h) : PB Γ pc (some (.ref x) :: tl) st h := by
  obtain ⟨⟨p, l, e, R, s, m⟩, ⟨args, below, meth, c⟩, ⟨D, ta, ad, sa, A⟩, cl, sl, Z⟩ := Γ
  obtain ⟨hx, hb, hml, hr, hlk, hown, hts, hR, hK, hA, hPS, hPN⟩ := g
  intro H locs ls hP hD hS hl
  exact lv_aload_n hx hb hdg rfl (hl.2.2 0 _ rfl) (kk H locs ls hP hD hS hl)
theorem pb_istore_n0 (g : GM Γ y cc nL rt k)  {x : Int32} {b : Option Value} {tl : List (Option Value)} (hdg : decode cc pc = .ok (.istore_n 0, 1)) (hn : 0 < nL) (kk : PB Γ (pc + 1) (some (.int x) :: tl) st h)  : PB Γ pc (b :: tl) (.int x :: st) h := by
  obtain ⟨⟨p, l, e, R, s, m⟩, ⟨args, below, meth, c⟩, ⟨D, ta, ad, sa, A⟩, cl, sl, Z⟩ := Γ
  obtain ⟨hx, hb, hml, hr, hlk, hown, hts, hR, hK, hA, hPS, hPN⟩ := g
  intro H locs ls hP hD hS hl
  subst hml
  exact lv_istore_n hx hb hdg rfl hl.kit hn rfl (fun ls' hl' => kk H locs ls' hP hD hS (pl_put1 (i := 0) (lv := b :: tl) (v := .int x) hl' (by simp) (fun j w hj _ => absurd hj (by omega))))
theorem pb_astore_n0 (g : GM Γ y cc nL rt k)  {x : Nat} {b : Option Value} {tl : List (Option Value)} (hdg : decode cc pc = .ok (.astore_n 0, 1)) (hn : 0 < nL) (kk : PB Γ (pc + 1) (some (.ref x) :: tl) st h)  : PB Γ pc (b :: tl) (.ref x :: st) h := by
  obtain ⟨⟨p, l, e, R, s, m⟩, ⟨args, below, meth, c⟩, ⟨D, ta, ad, sa, A⟩, cl, sl, Z⟩ := Γ
  obtain ⟨hx, hb, hml, hr, hlk, hown, hts, hR, hK, hA, hPS, hPN⟩ := g
  intro H locs ls hP hD hS hl
  subst hml
  exact lv_astore_n hx hb hdg rfl hl.kit hn rfl (fun ls' hl' => kk H locs ls' hP hD hS (pl_put1 (i := 0) (lv := b :: tl) (v := .ref x) hl' (by simp) (fun j w hj _ => absurd hj (by omega))))
theorem pb_lstore_n0 (g : GM Γ y cc nL rt k)  {x : Int64} {b d : Option Value} {tl : List (Option Value)} (hdg : decode cc pc = .ok (.lstore_n 0, 1)) (hn : 0 + 1 < nL) (kk : PB Γ (pc + 1) (some (.long x) :: none :: tl) st h)  : PB Γ pc (b :: d :: tl) (.long x :: st) h := by
  obtain ⟨⟨p, l, e, R, s, m⟩, ⟨args, below, meth, c⟩, ⟨D, ta, ad, sa, A⟩, cl, sl, Z⟩ := Γ
  obtain ⟨hx, hb, hml, hr, hlk, hown, hts, hR, hK, hA, hPS, hPN⟩ := g
  intro H locs ls hP hD hS hl
  subst hml
  exact lv_lstore_n hx hb hdg rfl hl.kit hn rfl (fun ls' hl' => kk H locs ls' hP hD hS (pl_put2 (i := 0) (lv := b :: d :: tl) (v := .long x) hl' (by simp) (fun j w hj _ => absurd hj (by omega))))
theorem pb_iload1 (g : GM Γ y cc nL rt k) {a0 : Option Value} {x : Int32} {tl : List (Option Value)} (hdg : decode cc pc = .ok (.iload 1, 2)) (kk : PB Γ (pc + 2) (a0 :: some (.int x) :: tl) (.int x :: st) h) : PB Γ pc (a0 :: some (.int x) :: tl) st h := by
  obtain ⟨⟨p, l, e, R, s, m⟩, ⟨args, below, meth, c⟩, ⟨D, ta, ad, sa, A⟩, cl, sl, Z⟩ := Γ
  obtain ⟨hx, hb, hml, hr, hlk, hown, hts, hR, hK, hA, hPS, hPN⟩ := g
  intro H locs ls hP hD hS hl
  exact lv_iload hx hb hdg (hl.2.2 1 _ rfl) (kk H locs ls hP hD hS hl)
theorem pb_lload1 (g : GM Γ y cc nL rt k) {a0 : Option Value} {x : Int64} {tl : List (Option Value)} (hdg : decode cc pc = .ok (.lload 1, 2)) (kk : PB Γ (pc + 2) (a0 :: some (.long x) :: tl) (.long x :: st) h) : PB Γ pc (a0 :: some (.long x) :: tl) st h := by
  obtain ⟨⟨p, l, e, R, s, m⟩, ⟨args, below, meth, c⟩, ⟨D, ta, ad, sa, A⟩, cl, sl, Z⟩ := Γ
  obtain ⟨hx, hb, hml, hr, hlk, hown, hts, hR, hK, hA, hPS, hPN⟩ := g
  intro H locs ls hP hD hS hl
  exact lv_lload hx hb hdg (hl.2.2 1 _ rfl) (kk H locs ls hP hD hS hl)
theorem pb_aload1 (g : GM Γ y cc nL rt k) {a0 : Option Value} {x : Nat} {tl : List (Option Value)} (hdg : decode cc pc = .ok (.aload 1, 2)) (kk : PB Γ (pc + 2) (a0 :: some (.ref x) :: tl) (.ref x :: st) h) : PB Γ pc (a0 :: some (.ref x) :: tl) st h := by
  obtain ⟨⟨p, l, e, R, s, m⟩, ⟨args, below, meth, c⟩, ⟨D, ta, ad, sa, A⟩, cl, sl, Z⟩ := Γ
  obtain ⟨hx, hb, hml, hr, hlk, hown, hts, hR, hK, hA, hPS, hPN⟩ := g
  intro H locs ls hP hD hS hl
  exact lv_aload hx hb hdg (hl.2.2 1 _ rfl) (kk H locs ls hP hD hS hl)
theorem pb_istore1 (g : GM Γ y cc nL rt k) {a0 : Option Value} {x : Int32} {b : Option Value} {tl : List (Option Value)} (hdg : decode cc pc = .ok (.istore 1, 2)) (hn : 1 < nL) (kk : PB Γ (pc + 2) (a0 :: some (.int x) :: tl) st h) (hnl : pnl a0 = true := by rfl) : PB Γ pc (a0 :: b :: tl) (.int x :: st) h := by
  obtain ⟨⟨p, l, e, R, s, m⟩, ⟨args, below, meth, c⟩, ⟨D, ta, ad, sa, A⟩, cl, sl, Z⟩ := Γ
  obtain ⟨hx, hb, hml, hr, hlk, hown, hts, hR, hK, hA, hPS, hPN⟩ := g
  intro H locs ls hP hD hS hl
  subst hml
  exact lv_istore hx hb hdg hl.kit hn rfl (fun ls' hl' => kk H locs ls' hP hD hS (pl_put1 (i := 1) (lv := a0 :: b :: tl) (v := .int x) hl' (by simp) (pnl_at (i := 0) rfl hnl)))
theorem pb_astore1 (g : GM Γ y cc nL rt k) {a0 : Option Value} {x : Nat} {b : Option Value} {tl : List (Option Value)} (hdg : decode cc pc = .ok (.astore 1, 2)) (hn : 1 < nL) (kk : PB Γ (pc + 2) (a0 :: some (.ref x) :: tl) st h) (hnl : pnl a0 = true := by rfl) : PB Γ pc (a0 :: b :: tl) (.ref x :: st) h := by
  obtain ⟨⟨p, l, e, R, s, m⟩, ⟨args, below, meth, c⟩, ⟨D, ta, ad, sa, A⟩, cl, sl, Z⟩ := Γ
  obtain ⟨hx, hb, hml, hr, hlk, hown, hts, hR, hK, hA, hPS, hPN⟩ := g
  intro H locs ls hP hD hS hl
  subst hml
  exact lv_astore hx hb hdg hl.kit hn rfl (fun ls' hl' => kk H locs ls' hP hD hS (pl_put1 (i := 1) (lv := a0 :: b :: tl) (v := .ref x) hl' (by simp) (pnl_at (i := 0) rfl hnl)))
theorem pb_lstore1 (g : GM Γ y cc nL rt k) {a0 : Option Value} {x : Int64} {b d : Option Value} {tl : List (Option Value)} (hdg : decode cc pc = .ok (.lstore 1, 2)) (hn : 1 + 1 < nL) (kk : PB Γ (pc + 2) (a0 :: some (.long x) :: none :: tl) st h) (hnl : pnl a0 = true := by rfl) : PB Γ pc (a0 :: b :: d :: tl) (.long x :: st) h := by
  obtain ⟨⟨p, l, e, R, s, m⟩, ⟨args, below, meth, c⟩, ⟨D, ta, ad, sa, A⟩, cl, sl, Z⟩ := Γ
  obtain ⟨hx, hb, hml, hr, hlk, hown, hts, hR, hK, hA, hPS, hPN⟩ := g
  intro H locs ls hP hD hS hl
  subst hml
  exact lv_lstore hx hb hdg hl.kit hn rfl (fun ls' hl' => kk H locs ls' hP hD hS (pl_put2 (i := 1) (lv := a0 :: b :: d :: tl) (v := .long x) hl' (by simp) (pnl_at (i := 0) rfl hnl)))
theorem pb_iload_n1 (g : GM Γ y cc nL rt k) {a0 : Option Value} {x : Int32} {tl : List (Option Value)} (hdg : decode cc pc = .ok (.iload_n 1, 1)) (kk : PB Γ (pc + 1) (a0 :: some (.int x) :: tl) (.int x :: st) h) : PB Γ pc (a0 :: some (.int x) :: tl) st h := by
  obtain ⟨⟨p, l, e, R, s, m⟩, ⟨args, below, meth, c⟩, ⟨D, ta, ad, sa, A⟩, cl, sl, Z⟩ := Γ
  obtain ⟨hx, hb, hml, hr, hlk, hown, hts, hR, hK, hA, hPS, hPN⟩ := g
  intro H locs ls hP hD hS hl
  exact lv_iload_n hx hb hdg rfl (hl.2.2 1 _ rfl) (kk H locs ls hP hD hS hl)
theorem pb_lload_n1 (g : GM Γ y cc nL rt k) {a0 : Option Value} {x : Int64} {tl : List (Option Value)} (hdg : decode cc pc = .ok (.lload_n 1, 1)) (kk : PB Γ (pc + 1) (a0 :: some (.long x) :: tl) (.long x :: st) h) : PB Γ pc (a0 :: some (.long x) :: tl) st h := by
  obtain ⟨⟨p, l, e, R, s, m⟩, ⟨args, below, meth, c⟩, ⟨D, ta, ad, sa, A⟩, cl, sl, Z⟩ := Γ
  obtain ⟨hx, hb, hml, hr, hlk, hown, hts, hR, hK, hA, hPS, hPN⟩ := g
  intro H locs ls hP hD hS hl
  exact lv_lload_n hx hb hdg rfl (hl.2.2 1 _ rfl) (kk H locs ls hP hD hS hl)
theorem pb_aload_n1 (g : GM Γ y cc nL rt k) {a0 : Option Value} {x : Nat} {tl : List (Option Value)} (hdg : decode cc pc = .ok (.aload_n 1, 1)) (kk : PB Γ (pc + 1) (a0 :: some (.ref x) :: tl) (.ref x :: st) h) : PB Γ pc (a0 :: some (.ref x) :: tl) st h := by
  obtain ⟨⟨p, l, e, R, s, m⟩, ⟨args, below, meth, c⟩, ⟨D, ta, ad, sa, A⟩, cl, sl, Z⟩ := Γ
  obtain ⟨hx, hb, hml, hr, hlk, hown, hts, hR, hK, hA, hPS, hPN⟩ := g
  intro H locs ls hP hD hS hl
  exact lv_aload_n hx hb hdg rfl (hl.2.2 1 _ rfl) (kk H locs ls hP hD hS hl)
theorem pb_istore_n1 (g : GM Γ y cc nL rt k) {a0 : Option Value} {x : Int32} {b : Option Value} {tl : List (Option Value)} (hdg : decode cc pc = .ok (.istore_n 1, 1)) (hn : 1 < nL) (kk : PB Γ (pc + 1) (a0 :: some (.int x) :: tl) st h) (hnl : pnl a0 = true := by rfl) : PB Γ pc (a0 :: b :: tl) (.int x :: st) h := by
  obtain ⟨⟨p, l, e, R, s, m⟩, ⟨args, below, meth, c⟩, ⟨D, ta, ad, sa, A⟩, cl, sl, Z⟩ := Γ
  obtain ⟨hx, hb, hml, hr, hlk, hown, hts, hR, hK, hA, hPS, hPN⟩ := g
  intro H locs ls hP hD hS hl
  subst hml
  exact lv_istore_n hx hb hdg rfl hl.kit hn rfl (fun ls' hl' => kk H locs ls' hP hD hS (pl_put1 (i := 1) (lv := a0 :: b :: tl) (v := .int x) hl' (by simp) (pnl_at (i := 0) rfl hnl)))
theorem pb_astore_n1 (g : GM Γ y cc nL rt k) {a0 : Option Value} {x : Nat} {b : Option Value} {tl : List (Option Value)} (hdg : decode cc pc = .ok (.astore_n 1, 1)) (hn : 1 < nL) (kk : PB Γ (pc + 1) (a0 :: some (.ref x) :: tl) st h) (hnl : pnl a0 = true := by rfl) : PB Γ pc (a0 :: b :: tl) (.ref x :: st) h := by
  obtain ⟨⟨p, l, e, R, s, m⟩, ⟨args, below, meth, c⟩, ⟨D, ta, ad, sa, A⟩, cl, sl, Z⟩ := Γ
  obtain ⟨hx, hb, hml, hr, hlk, hown, hts, hR, hK, hA, hPS, hPN⟩ := g
  intro H locs ls hP hD hS hl
  subst hml
  exact lv_astore_n hx hb hdg rfl hl.kit hn rfl (fun ls' hl' => kk H locs ls' hP hD hS (pl_put1 (i := 1) (lv := a0 :: b :: tl) (v := .ref x) hl' (by simp) (pnl_at (i := 0) rfl hnl)))
theorem pb_lstore_n1 (g : GM Γ y cc nL rt k) {a0 : Option Value} {x : Int64} {b d : Option Value} {tl : List (Option Value)} (hdg : decode cc pc = .ok (.lstore_n 1, 1)) (hn : 1 + 1 < nL) (kk : PB Γ (pc + 1) (a0 :: some (.long x) :: none :: tl) st h) (hnl : pnl a0 = true := by rfl) : PB Γ pc (a0 :: b :: d :: tl) (.long x :: st) h := by
  obtain ⟨⟨p, l, e, R, s, m⟩, ⟨args, below, meth, c⟩, ⟨D, ta, ad, sa, A⟩, cl, sl, Z⟩ := Γ
  obtain ⟨hx, hb, hml, hr, hlk, hown, hts, hR, hK, hA, hPS, hPN⟩ := g
  intro H locs ls hP hD hS hl
  subst hml
  exact lv_lstore_n hx hb hdg rfl hl.kit hn rfl (fun ls' hl' => kk H locs ls' hP hD hS (pl_put2 (i := 1) (lv := a0 :: b :: d :: tl) (v := .long x) hl' (by simp) (pnl_at (i := 0) rfl hnl)))
theorem pb_iload2 (g : GM Γ y cc nL rt k) {a0 : Option Value} {a1 : Option Value} {x : Int32} {tl : List (Option Value)} (hdg : decode cc pc = .ok (.iload 2, 2)) (kk : PB Γ (pc + 2) (a0 :: a1 :: some (.int x) :: tl) (.int x :: st) h) : PB Γ pc (a0 :: a1 :: some (.int x) :: tl) st h := by
  obtain ⟨⟨p, l, e, R, s, m⟩, ⟨args, below, meth, c⟩, ⟨D, ta, ad, sa, A⟩, cl, sl, Z⟩ := Γ
  obtain ⟨hx, hb, hml, hr, hlk, hown, hts, hR, hK, hA, hPS, hPN⟩ := g
  intro H locs ls hP hD hS hl
  exact lv_iload hx hb hdg (hl.2.2 2 _ rfl) (kk H locs ls hP hD hS hl)
theorem pb_lload2 (g : GM Γ y cc nL rt k) {a0 : Option Value} {a1 : Option Value} {x : Int64} {tl : List (Option Value)} (hdg : decode cc pc = .ok (.lload 2, 2)) (kk : PB Γ (pc + 2) (a0 :: a1 :: some (.long x) :: tl) (.long x :: st) h) : PB Γ pc (a0 :: a1 :: some (.long x) :: tl) st h := by
  obtain ⟨⟨p, l, e, R, s, m⟩, ⟨args, below, meth, c⟩, ⟨D, ta, ad, sa, A⟩, cl, sl, Z⟩ := Γ
  obtain ⟨hx, hb, hml, hr, hlk, hown, hts, hR, hK, hA, hPS, hPN⟩ := g
  intro H locs ls hP hD hS hl
  exact lv_lload hx hb hdg (hl.2.2 2 _ rfl) (kk H locs ls hP hD hS hl)
theorem pb_aload2 (g : GM Γ y cc nL rt k) {a0 : Option Value} {a1 : Option Value} {x : Nat} {tl : List (Option Value)} (hdg : decode cc pc = .ok (.aload 2, 2)) (kk : PB Γ (pc + 2) (a0 :: a1 :: some (.ref x) :: tl) (.ref x :: st) h) : PB Γ pc (a0 :: a1 :: some (.ref x) :: tl) st h := by
  obtain ⟨⟨p, l, e, R, s, m⟩, ⟨args, below, meth, c⟩, ⟨D, ta, ad, sa, A⟩, cl, sl, Z⟩ := Γ
  obtain ⟨hx, hb, hml, hr, hlk, hown, hts, hR, hK, hA, hPS, hPN⟩ := g
  intro H locs ls hP hD hS hl
  exact lv_aload hx hb hdg (hl.2.2 2 _ rfl) (kk H locs ls hP hD hS hl)
theorem pb_istore2 (g : GM Γ y cc nL rt k) {a0 : Option Value} {a1 : Option Value} {x : Int32} {b : Option Value} {tl : List (Option Value)} (hdg : decode cc pc = .ok (.istore 2, 2)) (hn : 2 < nL) (kk : PB Γ (pc + 2) (a0 :: a1 :: some (.int x) :: tl) st h) (hnl : pnl a1 = true := by rfl) : PB Γ pc (a0 :: a1 :: b :: tl) (.int x :: st) h := by
  obtain ⟨⟨p, l, e, R, s, m⟩, ⟨args, below, meth, c⟩, ⟨D, ta, ad, sa, A⟩, cl, sl, Z⟩ := Γ
  obtain ⟨hx, hb, hml, hr, hlk, hown, hts, hR, hK, hA, hPS, hPN⟩ := g
  intro H locs ls hP hD hS hl
  subst hml
  exact lv_istore hx hb hdg hl.kit hn rfl (fun ls' hl' => kk H locs ls' hP hD hS (pl_put1 (i := 2) (lv := a0 :: a1 :: b :: tl) (v := .int x) hl' (by simp) (pnl_at (i := 1) rfl hnl)))
theorem pb_astore2 (g : GM Γ y cc nL rt k) {a0 : Option Value} {a1 : Option Value} {x : Nat} {b : Option Value} {tl : List (Option Value)} (hdg : decode cc pc = .ok (.astore 2, 2)) (hn : 2 < nL) (kk : PB Γ (pc + 2) (a0 :: a1 :: some (.ref x) :: tl) st h) (hnl : pnl a1 = true := by rfl) : PB Γ pc (a0 :: a1 :: b :: tl) (.ref x :: st) h := by
  obtain ⟨⟨p, l, e, R, s, m⟩, ⟨args, below, meth, c⟩, ⟨D, ta, ad, sa, A⟩, cl, sl, Z⟩ := Γ
  obtain ⟨hx, hb, hml, hr, hlk, hown, hts, hR, hK, hA, hPS, hPN⟩ := g
  intro H locs ls hP hD hS hl
  subst hml
  exact lv_astore hx hb hdg hl.kit hn rfl (fun ls' hl' => kk H locs ls' hP hD hS (pl_put1 (i := 2) (lv := a0 :: a1 :: b :: tl) (v := .ref x) hl' (by simp) (pnl_at (i := 1) rfl hnl)))
theorem pb_lstore2 (g : GM Γ y cc nL rt k) {a0 : Option Value} {a1 : Option Value} {x : Int64} {b d : Option Value} {tl : List (Option Value)} (hdg : decode cc pc = .ok (.lstore 2, 2)) (hn : 2 + 1 < nL) (kk : PB Γ (pc + 2) (a0 :: a1 :: some (.long x) :: none :: tl) st h) (hnl : pnl a1 = true := by rfl) : PB Γ pc (a0 :: a1 :: b :: d :: tl) (.long x :: st) h := by
  obtain ⟨⟨p, l, e, R, s, m⟩, ⟨args, below, meth, c⟩, ⟨D, ta, ad, sa, A⟩, cl, sl, Z⟩ := Γ
  obtain ⟨hx, hb, hml, hr, hlk, hown, hts, hR, hK, hA, hPS, hPN⟩ := g
  intro H locs ls hP hD hS hl
  subst hml
  exact lv_lstore hx hb hdg hl.kit hn rfl (fun ls' hl' => kk H locs ls' hP hD hS (pl_put2 (i := 2) (lv := a0 :: a1 :: b :: d :: tl) (v := .long x) hl' (by simp) (pnl_at (i := 1) rfl hnl)))
theorem pb_iload_n2 (g : GM Γ y cc nL rt k) {a0 : Option Value} {a1 : Option Value} {x : Int32} {tl : List (Option Value)} (hdg : decode cc pc = .ok (.iload_n 2, 1)) (kk : PB Γ (pc + 1) (a0 :: a1 :: some (.int x) :: tl) (.int x :: st) h) : PB Γ pc (a0 :: a1 :: some (.int x) :: tl) st h := by
  obtain ⟨⟨p, l, e, R, s, m⟩, ⟨args, below, meth, c⟩, ⟨D, ta, ad, sa, A⟩, cl, sl, Z⟩ := Γ
  obtain ⟨hx, hb, hml, hr, hlk, hown, hts, hR, hK, hA, hPS, hPN⟩ := g
  intro H locs ls hP hD hS hl
  exact lv_iload_n hx hb hdg rfl (hl.2.2 2 _ rfl) (kk H locs ls hP hD hS hl)
theorem pb_lload_n2 (g : GM Γ y cc nL rt k) {a0 : Option Value} {a1 : Option Value} {x : Int64} {tl : List (Option Value)} (hdg : decode cc pc = .ok (.lload_n 2, 1)) (kk : PB Γ (pc + 1) (a0 :: a1 :: some (.long x) :: tl) (.long x :: st) h) : PB Γ pc (a0 :: a1 :: some (.long x) :: tl) st h := by
  obtain ⟨⟨p, l, e, R, s, m⟩, ⟨args, below, meth, c⟩, ⟨D, ta, ad, sa, A⟩, cl, sl, Z⟩ := Γ
  obtain ⟨hx, hb, hml, hr, hlk, hown, hts, hR, hK, hA, hPS, hPN⟩ := g
  intro H locs ls hP hD hS hl
  exact lv_lload_n hx hb hdg rfl (hl.2.2 2 _ rfl) (kk H locs ls hP hD hS hl)
theorem pb_aload_n2 (g : GM Γ y cc nL rt k) {a0 : Option Value} {a1 : Option Value} {x : Nat} {tl : List (Option Value)} (hdg : decode cc pc = .ok (.aload_n 2, 1)) (kk : PB Γ (pc + 1) (a0 :: a1 :: some (.ref x) :: tl) (.ref x :: st) h) : PB Γ pc (a0 :: a1 :: some (.ref x) :: tl) st h := by
  obtain ⟨⟨p, l, e, R, s, m⟩, ⟨args, below, meth, c⟩, ⟨D, ta, ad, sa, A⟩, cl, sl, Z⟩ := Γ
  obtain ⟨hx, hb, hml, hr, hlk, hown, hts, hR, hK, hA, hPS, hPN⟩ := g
  intro H locs ls hP hD hS hl
  exact lv_aload_n hx hb hdg rfl (hl.2.2 2 _ rfl) (kk H locs ls hP hD hS hl)
theorem pb_istore_n2 (g : GM Γ y cc nL rt k) {a0 : Option Value} {a1 : Option Value} {x : Int32} {b : Option Value} {tl : List (Option Value)} (hdg : decode cc pc = .ok (.istore_n 2, 1)) (hn : 2 < nL) (kk : PB Γ (pc + 1) (a0 :: a1 :: some (.int x) :: tl) st h) (hnl : pnl a1 = true := by rfl) : PB Γ pc (a0 :: a1 :: b :: tl) (.int x :: st) h := by
  obtain ⟨⟨p, l, e, R, s, m⟩, ⟨args, below, meth, c⟩, ⟨D, ta, ad, sa, A⟩, cl, sl, Z⟩ := Γ
  obtain ⟨hx, hb, hml, hr, hlk, hown, hts, hR, hK, hA, hPS, hPN⟩ := g
  intro H locs ls hP hD hS hl
  subst hml
  exact lv_istore_n hx hb hdg rfl hl.kit hn rfl (fun ls' hl' => kk H locs ls' hP hD hS (pl_put1 (i := 2) (lv := a0 :: a1 :: b :: tl) (v := .int x) hl' (by simp) (pnl_at (i := 1) rfl hnl)))
theorem pb_astore_n2 (g : GM Γ y cc nL rt k) {a0 : Option Value} {a1 : Option Value} {x : Nat} {b : Option Value} {tl : List (Option Value)} (hdg : decode cc pc = .ok (.astore_n 2, 1)) (hn : 2 < nL) (kk : PB Γ (pc + 1) (a0 :: a1 :: some (.ref x) :: tl) st h) (hnl : pnl a1 = true := by rfl) : PB Γ pc (a0 :: a1 :: b :: tl) (.ref x :: st) h := by
  obtain ⟨⟨p, l, e, R, s, m⟩, ⟨args, below, meth, c⟩, ⟨D, ta, ad, sa, A⟩, cl, sl, Z⟩ := Γ
  obtain ⟨hx, hb, hml, hr, hlk, hown, hts, hR, hK, hA, hPS, hPN⟩ := g
  intro H locs ls hP hD hS hl
  subst hml
  exact lv_astore_n hx hb hdg rfl hl.kit hn rfl (fun ls' hl' => kk H locs ls' hP hD hS (pl_put1 (i := 2) (lv := a0 :: a1 :: b :: tl) (v := .ref x) hl' (by simp) (pnl_at (i := 1) rfl hnl)))
theorem pb_lstore_n2 (g : GM Γ y cc nL rt k) {a0 : Option Value} {a1 : Option Value} {x : Int64} {b d : Option Value} {tl : List (Option Value)} (hdg : decode cc pc = .ok (.lstore_n 2, 1)) (hn : 2 + 1 < nL) (kk : PB Γ (pc + 1) (a0 :: a1 :: some (.long x) :: none :: tl) st h) (hnl : pnl a1 = true := by rfl) : PB Γ pc (a0 :: a1 :: b :: d :: tl) (.long x :: st) h := by
  obtain ⟨⟨p, l, e, R, s, m⟩, ⟨args, below, meth, c⟩, ⟨D, ta, ad, sa, A⟩, cl, sl, Z⟩ := Γ
  obtain ⟨hx, hb, hml, hr, hlk, hown, hts, hR, hK, hA, hPS, hPN⟩ := g
  intro H locs ls hP hD hS hl
  subst hml
  exact lv_lstore_n hx hb hdg rfl hl.kit hn rfl (fun ls' hl' => kk H locs ls' hP hD hS (pl_put2 (i := 2) (lv := a0 :: a1 :: b :: d :: tl) (v := .long x) hl' (by simp) (pnl_at (i := 1) rfl hnl)))
theorem pb_iload3 (g : GM Γ y cc nL rt k) {a0 : Option Value} {a1 : Option Value} {a2 : Option Value} {x : Int32} {tl : List (Option Value)} (hdg : decode cc pc = .ok (.iload 3, 2)) (kk : PB Γ (pc + 2) (a0 :: a1 :: a2 :: some (.int x) :: tl) (.int x :: st) h) : PB Γ pc (a0 :: a1 :: a2 :: some (.int x) :: tl) st h := by
  obtain ⟨⟨p, l, e, R, s, m⟩, ⟨args, below, meth, c⟩, ⟨D, ta, ad, sa, A⟩, cl, sl, Z⟩ := Γ
  obtain ⟨hx, hb, hml, hr, hlk, hown, hts, hR, hK, hA, hPS, hPN⟩ := g
  intro H locs ls hP hD hS hl
  exact lv_iload hx hb hdg (hl.2.2 3 _ rfl) (kk H locs ls hP hD hS hl)
theorem pb_lload3 (g : GM Γ y cc nL rt k) {a0 : Option Value} {a1 : Option Value} {a2 : Option Value} {x : Int64} {tl : List (Option Value)} (hdg : decode cc pc = .ok (.lload 3, 2)) (kk : PB Γ (pc + 2) (a0 :: a1 :: a2 :: some (.long x) :: tl) (.long x :: st) h) : PB Γ pc (a0 :: a1 :: a2 :: some (.long x) :: tl) st h := by
  obtain ⟨⟨p, l, e, R, s, m⟩, ⟨args, below, meth, c⟩, ⟨D, ta, ad, sa, A⟩, cl, sl, Z⟩ := Γ
  obtain ⟨hx, hb, hml, hr, hlk, hown, hts, hR, hK, hA, hPS, hPN⟩ := g
  intro H locs ls hP hD hS hl
  exact lv_lload hx hb hdg (hl.2.2 3 _ rfl) (kk H locs ls hP hD hS hl)
theorem pb_aload3 (g : GM Γ y cc nL rt k) {a0 : Option Value} {a1 : Option Value} {a2 : Option Value} {x : Nat} {tl : List (Option Value)} (hdg : decode cc pc = .ok (.aload 3, 2)) (kk : PB Γ (pc + 2) (a0 :: a1 :: a2 :: some (.ref x) :: tl) (.ref x :: st) h) : PB Γ pc (a0 :: a1 :: a2 :: some (.ref x) :: tl) st h := by
  obtain ⟨⟨p, l, e, R, s, m⟩, ⟨args, below, meth, c⟩, ⟨D, ta, ad, sa, A⟩, cl, sl, Z⟩ := Γ
  obtain ⟨hx, hb, hml, hr, hlk, hown, hts, hR, hK, hA, hPS, hPN⟩ := g
  intro H locs ls hP hD hS hl
  exact lv_aload hx hb hdg (hl.2.2 3 _ rfl) (kk H locs ls hP hD hS hl)
theorem pb_istore3 (g : GM Γ y cc nL rt k) {a0 : Option Value} {a1 : Option Value} {a2 : Option Value} {x : Int32} {b : Option Value} {tl : List (Option Value)} (hdg : decode cc pc = .ok (.istore 3, 2)) (hn : 3 < nL) (kk : PB Γ (pc + 2) (a0 :: a1 :: a2 :: some (.int x) :: tl) st h) (hnl : pnl a2 = true := by rfl) : PB Γ pc (a0 :: a1 :: a2 :: b :: tl) (.int x :: st) h := by
  obtain ⟨⟨p, l, e, R, s, m⟩, ⟨args, below, meth, c⟩, ⟨D, ta, ad, sa, A⟩, cl, sl, Z⟩ := Γ
  obtain ⟨hx, hb, hml, hr, hlk, hown, hts, hR, hK, hA, hPS, hPN⟩ := g
  intro H locs ls hP hD hS hl
  subst hml
  exact lv_istore hx hb hdg hl.kit hn rfl (fun ls' hl' => kk H locs ls' hP hD hS (pl_put1 (i := 3) (lv := a0 :: a1 :: a2 :: b :: tl) (v := .int x) hl' (by simp) (pnl_at (i := 2) rfl hnl)))
theorem pb_astore3 (g : GM Γ y cc nL rt k) {a0 : Option Value} {a1 : Option Value} {a2 : Option Value} {x : Nat} {b : Option Value} {tl : List (Option Value)} (hdg : decode cc pc = .ok (.astore 3, 2)) (hn : 3 < nL) (kk : PB Γ (pc + 2) (a0 :: a1 :: a2 :: some (.ref x) :: tl) st h) (hnl : pnl a2 = true := by rfl) : PB Γ pc (a0 :: a1 :: a2 :: b :: tl) (.ref x :: st) h := by
  obtain ⟨⟨p, l, e, R, s, m⟩, ⟨args, below, meth, c⟩, ⟨D, ta, ad, sa, A⟩, cl, sl, Z⟩ := Γ
  obtain ⟨hx, hb, hml, hr, hlk, hown, hts, hR, hK, hA, hPS, hPN⟩ := g
  intro H locs ls hP hD hS hl
  subst hml
  exact lv_astore hx hb hdg hl.kit hn rfl (fun ls' hl' => kk H locs ls' hP hD hS (pl_put1 (i := 3) (lv := a0 :: a1 :: a2 :: b :: tl) (v := .ref x) hl' (by simp) (pnl_at (i := 2) rfl hnl)))
theorem pb_lstore3 (g : GM Γ y cc nL rt k) {a0 : Option Value} {a1 : Option Value} {a2 : Option Value} {x : Int64} {b d : Option Value} {tl : List (Option Value)} (hdg : decode cc pc = .ok (.lstore 3, 2)) (hn : 3 + 1 < nL) (kk : PB Γ (pc + 2) (a0 :: a1 :: a2 :: some (.long x) :: none :: tl) st h) (hnl : pnl a2 = true := by rfl) : PB Γ pc (a0 :: a1 :: a2 :: b :: d :: tl) (.long x :: st) h := by
  obtain ⟨⟨p, l, e, R, s, m⟩, ⟨args, below, meth, c⟩, ⟨D, ta, ad, sa, A⟩, cl, sl, Z⟩ := Γ
  obtain ⟨hx, hb, hml, hr, hlk, hown, hts, hR, hK, hA, hPS, hPN⟩ := g
  intro H locs ls hP hD hS hl
  subst hml
  exact lv_lstore hx hb hdg hl.kit hn rfl (fun ls' hl' => kk H locs ls' hP hD hS (pl_put2 (i := 3) (lv := a0 :: a1 :: a2 :: b :: d :: tl) (v := .long x) hl' (by simp) (pnl_at (i := 2) rfl hnl)))
theorem pb_iload_n3 (g : GM Γ y cc nL rt k) {a0 : Option Value} {a1 : Option Value} {a2 : Option Value} {x : Int32} {tl : List (Option Value)} (hdg : decode cc pc = .ok (.iload_n 3, 1)) (kk : PB Γ (pc + 1) (a0 :: a1 :: a2 :: some (.int x) :: tl) (.int x :: st) h) : PB Γ pc (a0 :: a1 :: a2 :: some (.int x) :: tl) st h := by
  obtain ⟨⟨p, l, e, R, s, m⟩, ⟨args, below, meth, c⟩, ⟨D, ta, ad, sa, A⟩, cl, sl, Z⟩ := Γ
  obtain ⟨hx, hb, hml, hr, hlk, hown, hts, hR, hK, hA, hPS, hPN⟩ := g
  intro H locs ls hP hD hS hl
  exact lv_iload_n hx hb hdg rfl (hl.2.2 3 _ rfl) (kk H locs ls hP hD hS hl)
theorem pb_lload_n3 (g : GM Γ y cc nL rt k) {a0 : Option Value} {a1 : Option Value} {a2 : Option Value} {x : Int64} {tl : List (Option Value)} (hdg : decode cc pc = .ok (.lload_n 3, 1)) (kk : PB Γ (pc + 1) (a0 :: a1 :: a2 :: some (.long x) :: tl) (.long x :: st) h) : PB Γ pc (a0 :: a1 :: a2 :: some (.long x) :: tl) st h := by
  obtain ⟨⟨p, l, e, R, s, m⟩, ⟨args, below, meth, c⟩, ⟨D, ta, ad, sa, A⟩, cl, sl, Z⟩ := Γ
  obtain ⟨hx, hb, hml, hr, hlk, hown, hts, hR, hK, hA, hPS, hPN⟩ := g
  intro H locs ls hP hD hS hl
  exact lv_lload_n hx hb hdg rfl (hl.2.2 3 _ rfl) (kk H locs ls hP hD hS hl)
theorem pb_aload_n3 (g : GM Γ y cc nL rt k) {a0 : Option Value} {a1 : Option Value} {a2 : Option Value} {x : Nat} {tl : List (Option Value)} (hdg : decode cc pc = .ok (.aload_n 3, 1)) (kk : PB Γ (pc + 1) (a0 :: a1 :: a2 :: some (.ref x) :: tl) (.ref x :: st) h) : PB Γ pc (a0 :: a1 :: a2 :: some (.ref x) :: tl) st h := by
  obtain ⟨⟨p, l, e, R, s, m⟩, ⟨args, below, meth, c⟩, ⟨D, ta, ad, sa, A⟩, cl, sl, Z⟩ := Γ
  obtain ⟨hx, hb, hml, hr, hlk, hown, hts, hR, hK, hA, hPS, hPN⟩ := g
  intro H locs ls hP hD hS hl
  exact lv_aload_n hx hb hdg rfl (hl.2.2 3 _ rfl) (kk H locs ls hP hD hS hl)
theorem pb_istore_n3 (g : GM Γ y cc nL rt k) {a0 : Option Value} {a1 : Option Value} {a2 : Option Value} {x : Int32} {b : Option Value} {tl : List (Option Value)} (hdg : decode cc pc = .ok (.istore_n 3, 1)) (hn : 3 < nL) (kk : PB Γ (pc + 1) (a0 :: a1 :: a2 :: some (.int x) :: tl) st h) (hnl : pnl a2 = true := by rfl) : PB Γ pc (a0 :: a1 :: a2 :: b :: tl) (.int x :: st) h := by
  obtain ⟨⟨p, l, e, R, s, m⟩, ⟨args, below, meth, c⟩, ⟨D, ta, ad, sa, A⟩, cl, sl, Z⟩ := Γ
  obtain ⟨hx, hb, hml, hr, hlk, hown, hts, hR, hK, hA, hPS, hPN⟩ := g
  intro H locs ls hP hD hS hl
  subst hml
  exact lv_istore_n hx hb hdg rfl hl.kit hn rfl (fun ls' hl' => kk H locs ls' hP hD hS (pl_put1 (i := 3) (lv := a0 :: a1 :: a2 :: b :: tl) (v := .int x) hl' (by simp) (pnl_at (i := 2) rfl hnl)))
theorem pb_astore_n3 (g : GM Γ y cc nL rt k) {a0 : Option Value} {a1 : Option Value} {a2 : Option Value} {x : Nat} {b : Option Value} {tl : List (Option Value)} (hdg : decode cc pc = .ok (.astore_n 3, 1)) (hn : 3 < nL) (kk : PB Γ (pc + 1) (a0 :: a1 :: a2 :: some (.ref x) :: tl) st h) (hnl : pnl a2 = true := by rfl) : PB Γ pc (a0 :: a1 :: a2 :: b :: tl) (.ref x :: st) h := by
  obtain ⟨⟨p, l, e, R, s, m⟩, ⟨args, below, meth, c⟩, ⟨D, ta, ad, sa, A⟩, cl, sl, Z⟩ := Γ
  obtain ⟨hx, hb, hml, hr, hlk, hown, hts, hR, hK, hA, hPS, hPN⟩ := g
  intro H locs ls hP hD hS hl
  subst hml
  exact lv_astore_n hx hb hdg rfl hl.kit hn rfl (fun ls' hl' => kk H locs ls' hP hD hS (pl_put1 (i := 3) (lv := a0 :: a1 :: a2 :: b :: tl) (v := .ref x) hl' (by simp) (pnl_at (i := 2) rfl hnl)))
theorem pb_lstore_n3 (g : GM Γ y cc nL rt k) {a0 : Option Value} {a1 : Option Value} {a2 : Option Value} {x : Int64} {b d : Option Value} {tl : List (Option Value)} (hdg : decode cc pc = .ok (.lstore_n 3, 1)) (hn : 3 + 1 < nL) (kk : PB Γ (pc + 1) (a0 :: a1 :: a2 :: some (.long x) :: none :: tl) st h) (hnl : pnl a2 = true := by rfl) : PB Γ pc (a0 :: a1 :: a2 :: b :: d :: tl) (.long x :: st) h := by
  obtain ⟨⟨p, l, e, R, s, m⟩, ⟨args, below, meth, c⟩, ⟨D, ta, ad, sa, A⟩, cl, sl, Z⟩ := Γ
  obtain ⟨hx, hb, hml, hr, hlk, hown, hts, hR, hK, hA, hPS, hPN⟩ := g
  intro H locs ls hP hD hS hl
  subst hml
  exact lv_lstore_n hx hb hdg rfl hl.kit hn rfl (fun ls' hl' => kk H locs ls' hP hD hS (pl_put2 (i := 3) (lv := a0 :: a1 :: a2 :: b :: d :: tl) (v := .long x) hl' (by simp) (pnl_at (i := 2) rfl hnl)))
theorem pb_iload4 (g : GM Γ y cc nL rt k) {a0 : Option Value} {a1 : Option Value} {a2 : Option Value} {a3 : Option Value} {x : Int32} {tl : List (Option Value)} (hdg : decode cc pc = .ok (.iload 4, 2)) (kk : PB Γ (pc + 2) (a0 :: a1 :: a2 :: a3 :: some (.int x) :: tl) (.int x :: st) h) : PB Γ pc (a0 :: a1 :: a2 :: a3 :: some (.int x) :: tl) st h := by
  obtain ⟨⟨p, l, e, R, s, m⟩, ⟨args, below, meth, c⟩, ⟨D, ta, ad, sa, A⟩, cl, sl, Z⟩ := Γ
  obtain ⟨hx, hb, hml, hr, hlk, hown, hts, hR, hK, hA, hPS, hPN⟩ := g
  intro H locs ls hP hD hS hl
  exact lv_iload hx hb hdg (hl.2.2 4 _ rfl) (kk H locs ls hP hD hS hl)
theorem pb_lload4 (g : GM Γ y cc nL rt k) {a0 : Option Value} {a1 : Option Value} {a2 : Option Value} {a3 : Option Value} {x : Int64} {tl : List (Option Value)} (hdg : decode cc pc = .ok (.lload 4, 2)) (kk : PB Γ (pc + 2) (a0 :: a1 :: a2 :: a3 :: some (.long x) :: tl) (.long x :: st) h) : PB Γ pc (a0 :: a1 :: a2 :: a3 :: some (.long x) :: tl) st h := by
  obtain ⟨⟨p, l, e, R, s, m⟩, ⟨args, below, meth, c⟩, ⟨D, ta, ad, sa, A⟩, cl, sl, Z⟩ := Γ
  obtain ⟨hx, hb, hml, hr, hlk, hown, hts, hR, hK, hA, hPS, hPN⟩ := g
  intro H locs ls hP hD hS hl
  exact lv_lload hx hb hdg (hl.2.2 4 _ rfl) (kk H locs ls hP hD hS hl)
theorem pb_aload4 (g : GM Γ y cc nL rt k) {a0 : Option Value} {a1 : Option Value} {a2 : Option Value} {a3 : Option Value} {x : Nat} {tl : List (Option Value)} (hdg : decode cc pc = .ok (.aload 4, 2)) (kk : PB Γ (pc + 2) (a0 :: a1 :: a2 :: a3 :: some (.ref x) :: tl) (.ref x :: st) h) : PB Γ pc (a0 :: a1 :: a2 :: a3 :: some (.ref x) :: tl) st h := by
  obtain ⟨⟨p, l, e, R, s, m⟩, ⟨args, below, meth, c⟩, ⟨D, ta, ad, sa, A⟩, cl, sl, Z⟩ := Γ
  obtain ⟨hx, hb, hml, hr, hlk, hown, hts, hR, hK, hA, hPS, hPN⟩ := g
  intro H locs ls hP hD hS hl
  exact lv_aload hx hb hdg (hl.2.2 4 _ rfl) (kk H locs ls hP hD hS hl)
theorem pb_istore4 (g : GM Γ y cc nL rt k) {a0 : Option Value} {a1 : Option Value} {a2 : Option Value} {a3 : Option Value} {x : Int32} {b : Option Value} {tl : List (Option Value)} (hdg : decode cc pc = .ok (.istore 4, 2)) (hn : 4 < nL) (kk : PB Γ (pc + 2) (a0 :: a1 :: a2 :: a3 :: some (.int x) :: tl) st h) (hnl : pnl a3 = true := by rfl) : PB Γ pc (a0 :: a1 :: a2 :: a3 :: b :: tl) (.int x :: st) h := by
  obtain ⟨⟨p, l, e, R, s, m⟩, ⟨args, below, meth, c⟩, ⟨D, ta, ad, sa, A⟩, cl, sl, Z⟩ := Γ
  obtain ⟨hx, hb, hml, hr, hlk, hown, hts, hR, hK, hA, hPS, hPN⟩ := g
  intro H locs ls hP hD hS hl
  subst hml
  exact lv_istore hx hb hdg hl.kit hn rfl (fun ls' hl' => kk H locs ls' hP hD hS (pl_put1 (i := 4) (lv := a0 :: a1 :: a2 :: a3 :: b :: tl) (v := .int x) hl' (by simp) (pnl_at (i := 3) rfl hnl)))
theorem pb_astore4 (g : GM Γ y cc nL rt k) {a0 : Option Value} {a1 : Option Value} {a2 : Option Value} {a3 : Option Value} {x : Nat} {b : Option Value} {tl : List (Option Value)} (hdg : decode cc pc = .ok (.astore 4, 2)) (hn : 4 < nL) (kk : PB Γ (pc + 2) (a0 :: a1 :: a2 :: a3 :: some (.ref x) :: tl) st h) (hnl : pnl a3 = true := by rfl) : PB Γ pc (a0 :: a1 :: a2 :: a3 :: b :: tl) (.ref x :: st) h := by
  obtain ⟨⟨p, l, e, R, s, m⟩, ⟨args, below, meth, c⟩, ⟨D, ta, ad, sa, A⟩, cl, sl, Z⟩ := Γ
  obtain ⟨hx, hb, hml, hr, hlk, hown, hts, hR, hK, hA, hPS, hPN⟩ := g
  intro H locs ls hP hD hS hl
  subst hml
  exact lv_astore hx hb hdg hl.kit hn rfl (fun ls' hl' => kk H locs ls' hP hD hS (pl_put1 (i := 4) (lv := a0 :: a1 :: a2 :: a3 :: b :: tl) (v := .ref x) hl' (by simp) (pnl_at (i := 3) rfl hnl)))
theorem pb_lstore4 (g : GM Γ y cc nL rt k) {a0 : Option Value} {a1 : Option Value} {a2 : Option Value} {a3 : Option Value} {x : Int64} {b d : Option Value} {tl : List (Option Value)} (hdg : decode cc pc = .ok (.lstore 4, 2)) (hn : 4 + 1 < nL) (kk : PB Γ (pc + 2) (a0 :: a1 :: a2 :: a3 :: some (.long x) :: none :: tl) st h) (hnl : pnl a3 = true := by rfl) : PB Γ pc (a0 :: a1 :: a2 :: a3 :: b :: d :: tl) (.long x :: st) h := by
  obtain ⟨⟨p, l, e, R, s, m⟩, ⟨args, below, meth, c⟩, ⟨D, ta, ad, sa, A⟩, cl, sl, Z⟩ := Γ
  obtain ⟨hx, hb, hml, hr, hlk, hown, hts, hR, hK, hA, hPS, hPN⟩ := g
  intro H locs ls hP hD hS hl
  subst hml
  exact lv_lstore hx hb hdg hl.kit hn rfl (fun ls' hl' => kk H locs ls' hP hD hS (pl_put2 (i := 4) (lv := a0 :: a1 :: a2 :: a3 :: b :: d :: tl) (v := .long x) hl' (by simp) (pnl_at (i := 3) rfl hnl)))
theorem pb_iload5 (g : GM Γ y cc nL rt k) {a0 : Option Value} {a1 : Option Value} {a2 : Option Value} {a3 : Option Value} {a4 : Option Value} {x : Int32} {tl : List (Option Value)} (hdg : decode cc pc = .ok (.iload 5, 2)) (kk : PB Γ (pc + 2) (a0 :: a1 :: a2 :: a3 :: a4 :: some (.int x) :: tl) (.int x :: st) h) : PB Γ pc (a0 :: a1 :: a2 :: a3 :: a4 :: some (.int x) :: tl) st h := by
  obtain ⟨⟨p, l, e, R, s, m⟩, ⟨args, below, meth, c⟩, ⟨D, ta, ad, sa, A⟩, cl, sl, Z⟩ := Γ
  obtain ⟨hx, hb, hml, hr, hlk, hown, hts, hR, hK, hA, hPS, hPN⟩ := g
  intro H locs ls hP hD hS hl
  exact lv_iload hx hb hdg (hl.2.2 5 _ rfl) (kk H locs ls hP hD hS hl)
theorem pb_lload5 (g : GM Γ y cc nL rt k) {a0 : Option Value} {a1 : Option Value} {a2 : Option Value} {a3 : Option Value} {a4 : Option Value} {x : Int64} {tl : List (Option Value)} (hdg : decode cc pc = .ok (.lload 5, 2)) (kk : PB Γ (pc + 2) (a0 :: a1 :: a2 :: a3 :: a4 :: some (.long x) :: tl) (.long x :: st) h) : PB Γ pc (a0 :: a1 :: a2 :: a3 :: a4 :: some (.long x) :: tl) st h := by
  obtain ⟨⟨p, l, e, R, s, m⟩, ⟨args, below, meth, c⟩, ⟨D, ta, ad, sa, A⟩, cl, sl, Z⟩ := Γ
  obtain ⟨hx, hb, hml, hr, hlk, hown, hts, hR, hK, hA, hPS, hPN⟩ := g
  intro H locs ls hP hD hS hl
  exact lv_lload hx hb hdg (hl.2.2 5 _ rfl) (kk H locs ls hP hD hS hl)
theorem pb_aload5 (g : GM Γ y cc nL rt k) {a0 : Option Value} {a1 : Option Value} {a2 : Option Value} {a3 : Option Value} {a4 : Option Value} {x : Nat} {tl : List (Option Value)} (hdg : decode cc pc = .ok (.aload 5, 2)) (kk : PB Γ (pc + 2) (a0 :: a1 :: a2 :: a3 :: a4 :: some (.ref x) :: tl) (.ref x :: st) h) : PB Γ pc (a0 :: a1 :: a2 :: a3 :: a4 :: some (.ref x) :: tl) st h := by
  obtain ⟨⟨p, l, e, R, s, m⟩, ⟨args, below, meth, c⟩, ⟨D, ta, ad, sa, A⟩, cl, sl, Z⟩ := Γ
  obtain ⟨hx, hb, hml, hr, hlk, hown, hts, hR, hK, hA, hPS, hPN⟩ := g
  intro H locs ls hP hD hS hl
  exact lv_aload hx hb hdg (hl.2.2 5 _ rfl) (kk H locs ls hP hD hS hl)
theorem pb_istore5 (g : GM Γ y cc nL rt k) {a0 : Option Value} {a1 : Option Value} {a2 : Option Value} {a3 : Option Value} {a4 : Option Value} {x : Int32} {b : Option Value} {tl : List (Option Value)} (hdg : decode cc pc = .ok (.istore 5, 2)) (hn : 5 < nL) (kk : PB Γ (pc + 2) (a0 :: a1 :: a2 :: a3 :: a4 :: some (.int x) :: tl) st h) (hnl : pnl a4 = true := by rfl) : PB Γ pc (a0 :: a1 :: a2 :: a3 :: a4 :: b :: tl) (.int x :: st) h := by
  obtain ⟨⟨p, l, e, R, s, m⟩, ⟨args, below, meth, c⟩, ⟨D, ta, ad, sa, A⟩, cl, sl, Z⟩ := Γ
  obtain ⟨hx, hb, hml, hr, hlk, hown, hts, hR, hK, hA, hPS, hPN⟩ := g
  intro H locs ls hP hD hS hl
  subst hml
  exact lv_istore hx hb hdg hl.kit hn rfl (fun ls' hl' => kk H locs ls' hP hD hS (pl_put1 (i := 5) (lv := a0 :: a1 :: a2 :: a3 :: a4 :: b :: tl) (v := .int x) hl' (by simp) (pnl_at (i := 4) rfl hnl)))
theorem pb_astore5 (g : GM Γ y cc nL rt k) {a0 : Option Value} {a1 : Option Value} {a2 : Option Value} {a3 : Option Value} {a4 : Option Value} {x : Nat} {b : Option Value} {tl : List (Option Value)} (hdg : decode cc pc = .ok (.astore 5, 2)) (hn : 5 < nL) (kk : PB Γ (pc + 2) (a0 :: a1 :: a2 :: a3 :: a4 :: some (.ref x) :: tl) st h) (hnl : pnl a4 = true := by rfl) : PB Γ pc (a0 :: a1 :: a2 :: a3 :: a4 :: b :: tl) (.ref x :: st) h := by
  obtain ⟨⟨p, l, e, R, s, m⟩, ⟨args, below, meth, c⟩, ⟨D, ta, ad, sa, A⟩, cl, sl, Z⟩ := Γ
  obtain ⟨hx, hb, hml, hr, hlk, hown, hts, hR, hK, hA, hPS, hPN⟩ := g
  intro H locs ls hP hD hS hl
  subst hml
  exact lv_astore hx hb hdg hl.kit hn rfl (fun ls' hl' => kk H locs ls' hP hD hS (pl_put1 (i := 5) (lv := a0 :: a1 :: a2 :: a3 :: a4 :: b :: tl) (v := .ref x) hl' (by simp) (pnl_at (i := 4) rfl hnl)))
theorem pb_lstore5 (g : GM Γ y cc nL rt k) {a0 : Option Value} {a1 : Option Value} {a2 : Option Value} {a3 : Option Value} {a4 : Option Value} {x : Int64} {b d : Option Value} {tl : List (Option Value)} (hdg : decode cc pc = .ok (.lstore 5, 2)) (hn : 5 + 1 < nL) (kk : PB Γ (pc + 2) (a0 :: a1 :: a2 :: a3 :: a4 :: some (.long x) :: none :: tl) st h) (hnl : pnl a4 = true := by rfl) : PB Γ pc (a0 :: a1 :: a2 :: a3 :: a4 :: b :: d :: tl) (.long x :: st) h := by
  obtain ⟨⟨p, l, e, R, s, m⟩, ⟨args, below, meth, c⟩, ⟨D, ta, ad, sa, A⟩, cl, sl, Z⟩ := Γ
  obtain ⟨hx, hb, hml, hr, hlk, hown, hts, hR, hK, hA, hPS, hPN⟩ := g
  intro H locs ls hP hD hS hl
  subst hml
  exact lv_lstore hx hb hdg hl.kit hn rfl (fun ls' hl' => kk H locs ls' hP hD hS (pl_put2 (i := 5) (lv := a0 :: a1 :: a2 :: a3 :: a4 :: b :: d :: tl) (v := .long x) hl' (by simp) (pnl_at (i := 4) rfl hnl)))
theorem pb_iload6 (g : GM Γ y cc nL rt k) {a0 : Option Value} {a1 : Option Value} {a2 : Option Value} {a3 : Option Value} {a4 : Option Value} {a5 : Option Value} {x : Int32} {tl : List (Option Value)} (hdg : decode cc pc = .ok (.iload 6, 2)) (kk : PB Γ (pc + 2) (a0 :: a1 :: a2 :: a3 :: a4 :: a5 :: some (.int x) :: tl) (.int x :: st) h) : PB Γ pc (a0 :: a1 :: a2 :: a3 :: a4 :: a5 :: some (.int x) :: tl) st h := by
  obtain ⟨⟨p, l, e, R, s, m⟩, ⟨args, below, meth, c⟩, ⟨D, ta, ad, sa, A⟩, cl, sl, Z⟩ := Γ
  obtain ⟨hx, hb, hml, hr, hlk, hown, hts, hR, hK, hA, hPS, hPN⟩ := g
  intro H locs ls hP hD hS hl
  exact lv_iload hx hb hdg (hl.2.2 6 _ rfl) (kk H locs ls hP hD hS hl)
theorem pb_lload6 (g : GM Γ y cc nL rt k) {a0 : Option Value} {a1 : Option Value} {a2 : Option Value} {a3 : Option Value} {a4 : Option Value} {a5 : Option Value} {x : Int64} {tl : List (Option Value)} (hdg : decode cc pc = .ok (.lload 6, 2)) (kk : PB Γ (pc + 2) (a0 :: a1 :: a2 :: a3 :: a4 :: a5 :: some (.long x) :: tl) (.long x :: st) h) : PB Γ pc (a0 :: a1 :: a2 :: a3 :: a4 :: a5 :: some (.long x) :: tl) st h := by
  obtain ⟨⟨p, l, e, R, s, m⟩, ⟨args, below, meth, c⟩, ⟨D, ta, ad, sa, A⟩, cl, sl, Z⟩ := Γ
  obtain ⟨hx, hb, hml, hr, hlk, hown, hts, hR, hK, hA, hPS, hPN⟩ := g
  intro H locs ls hP hD hS hl
  exact lv_lload hx hb hdg (hl.2.2 6 _ rfl) (kk H locs ls hP hD hS hl)
theorem pb_aload6 (g : GM Γ y cc nL rt k) {a0 : Option Value} {a1 : Option Value} {a2 : Option Value} {a3 : Option Value} {a4 : Option Value} {a5 : Option Value} {x : Nat} {tl : List (Option Value)} (hdg : decode cc pc = .ok (.aload 6, 2)) (kk : PB Γ (pc + 2) (a0 :: a1 :: a2 :: a3 :: a4 :: a5 :: some (.ref x) :: tl) (.ref x :: st) h) : PB Γ pc (a0 :: a1 :: a2 :: a3 :: a4 :: a5 :: some (.ref x) :: tl) st h := by
  obtain ⟨⟨p, l, e, R, s, m⟩, ⟨args, below, meth, c⟩, ⟨D, ta, ad, sa, A⟩, cl, sl, Z⟩ := Γ
  obtain ⟨hx, hb, hml, hr, hlk, hown, hts, hR, hK, hA, hPS, hPN⟩ := g
  intro H locs ls hP hD hS hl
  exact lv_aload hx hb hdg (hl.2.2 6 _ rfl) (kk H locs ls hP hD hS hl)
theorem pb_istore6 (g : GM Γ y cc nL rt k) {a0 : Option Value} {a1 : Option Value} {a2 : Option Value} {a3 : Option Value} {a4 : Option Value} {a5 : Option Value} {x : Int32} {b : Option Value} {tl : List (Option Value)} (hdg : decode cc pc = .ok (.istore 6, 2)) (hn : 6 < nL) (kk : PB Γ (pc + 2) (a0 :: a1 :: a2 :: a3 :: a4 :: a5 :: some (.int x) :: tl) st h) (hnl : pnl a5 = true := by rfl) : PB Γ pc (a0 :: a1 :: a2 :: a3 :: a4 :: a5 :: b :: tl) (.int x :: st) h := by
  obtain ⟨⟨p, l, e, R, s, m⟩, ⟨args, below, meth, c⟩, ⟨D, ta, ad, sa, A⟩, cl, sl, Z⟩ := Γ
  obtain ⟨hx, hb, hml, hr, hlk, hown, hts, hR, hK, hA, hPS, hPN⟩ := g
  intro H locs ls hP hD hS hl
  subst hml
  exact lv_istore hx hb hdg hl.kit hn rfl (fun ls' hl' => kk H locs ls' hP hD hS (pl_put1 (i := 6) (lv := a0 :: a1 :: a2 :: a3 :: a4 :: a5 :: b :: tl) (v := .int x) hl' (by simp) (pnl_at (i := 5) rfl hnl)))
theorem pb_astore6 (g : GM Γ y cc nL rt k) {a0 : Option Value} {a1 : Option Value} {a2 : Option Value} {a3 : Option Value} {a4 : Option Value} {a5 : Option Value} {x : Nat} {b : Option Value} {tl : List (Option Value)} (hdg : decode cc pc = .ok (.astore 6, 2)) (hn : 6 < nL) (kk : PB Γ (pc + 2) (a0 :: a1 :: a2 :: a3 :: a4 :: a5 :: some (.ref x) :: tl) st h) (hnl : pnl a5 = true := by rfl) : PB Γ pc (a0 :: a1 :: a2 :: a3 :: a4 :: a5 :: b :: tl) (.ref x :: st) h := by
  obtain ⟨⟨p, l, e, R, s, m⟩, ⟨args, below, meth, c⟩, ⟨D, ta, ad, sa, A⟩, cl, sl, Z⟩ := Γ
  obtain ⟨hx, hb, hml, hr, hlk, hown, hts, hR, hK, hA, hPS, hPN⟩ := g
  intro H locs ls hP hD hS hl
  subst hml
  exact lv_astore hx hb hdg hl.kit hn rfl (fun ls' hl' => kk H locs ls' hP hD hS (pl_put1 (i := 6) (lv := a0 :: a1 :: a2 :: a3 :: a4 :: a5 :: b :: tl) (v := .ref x) hl' (by simp) (pnl_at (i := 5) rfl hnl)))
theorem pb_lstore6 (g : GM Γ y cc nL rt k) {a0 : Option Value} {a1 : Option Value} {a2 : Option Value} {a3 : Option Value} {a4 : Option Value} {a5 : Option Value} {x : Int64} {b d : Option Value} {tl : List (Option Value)} (hdg : decode cc pc = .ok (.lstore 6, 2)) (hn : 6 + 1 < nL) (kk : PB Γ (pc + 2) (a0 :: a1 :: a2 :: a3 :: a4 :: a5 :: some (.long x) :: none :: tl) st h) (hnl : pnl a5 = true := by rfl) : PB Γ pc (a0 :: a1 :: a2 :: a3 :: a4 :: a5 :: b :: d :: tl) (.long x :: st) h := by
  obtain ⟨⟨p, l, e, R, s, m⟩, ⟨args, below, meth, c⟩, ⟨D, ta, ad, sa, A⟩, cl, sl, Z⟩ := Γ
  obtain ⟨hx, hb, hml, hr, hlk, hown, hts, hR, hK, hA, hPS, hPN⟩ := g
  intro H locs ls hP hD hS hl
  subst hml
  exact lv_lstore hx hb hdg hl.kit hn rfl (fun ls' hl' => kk H locs ls' hP hD hS (pl_put2 (i := 6) (lv := a0 :: a1 :: a2 :: a3 :: a4 :: a5 :: b :: d :: tl) (v := .long x) hl' (by simp) (pnl_at (i := 5) rfl hnl)))
theorem pb_iload7 (g : GM Γ y cc nL rt k) {a0 : Option Value} {a1 : Option Value} {a2 : Option Value} {a3 : Option Value} {a4 : Option Value} {a5 : Option Value} {a6 : Option Value} {x : Int32} {tl : List (Option Value)} (hdg : decode cc pc = .ok (.iload 7, 2)) (kk : PB Γ (pc + 2) (a0 :: a1 :: a2 :: a3 :: a4 :: a5 :: a6 :: some (.int x) :: tl) (.int x :: st) h) : PB Γ pc (a0 :: a1 :: a2 :: a3 :: a4 :: a5 :: a6 :: some (.int x) :: tl) st h := by
  obtain ⟨⟨p, l, e, R, s, m⟩, ⟨args, below, meth, c⟩, ⟨D, ta, ad, sa, A⟩, cl, sl, Z⟩ := Γ
  obtain ⟨hx, hb, hml, hr, hlk, hown, hts, hR, hK, hA, hPS, hPN⟩ := g
  intro H locs ls hP hD hS hl
  exact lv_iload hx hb hdg (hl.2.2 7 _ rfl) (kk H locs ls hP hD hS hl)
theorem pb_lload7 (g : GM Γ y cc nL rt k) {a0 : Option Value} {a1 : Option Value} {a2 : Option Value} {a3 : Option Value} {a4 : Option Value} {a5 : Option Value} {a6 : Option Value} {x : Int64} {tl : List (Option Value)} (hdg : decode cc pc = .ok (.lload 7, 2)) (kk : PB Γ (pc + 2) (a0 :: a1 :: a2 :: a3 :: a4 :: a5 :: a6 :: some (.long x) :: tl) (.long x :: st) h) : PB Γ pc (a0 :: a1 :: a2 :: a3 :: a4 :: a5 :: a6 :: some (.long x) :: tl) st h := by
  obtain ⟨⟨p, l, e, R, s, m⟩, ⟨args, below, meth, c⟩, ⟨D, ta, ad, sa, A⟩, cl, sl, Z⟩ := Γ
  obtain ⟨hx, hb, hml, hr, hlk, hown, hts, hR, hK, hA, hPS, hPN⟩ := g
  intro H locs ls hP hD hS hl
  exact lv_lload hx hb hdg (hl.2.2 7 _ rfl) (kk H locs ls hP hD hS hl)
theorem pb_aload7 (g : GM Γ y cc nL rt k) {a0 : Option Value} {a1 : Option Value} {a2 : Option Value} {a3 : Option Value} {a4 : Option Value} {a5 : Option Value} {a6 : Option Value} {x : Nat} {tl : List (Option Value)} (hdg : decode cc pc = .ok (.aload 7, 2)) (kk : PB Γ (pc + 2) (a0 :: a1 :: a2 :: a3 :: a4 :: a5 :: a6 :: some (.ref x) :: tl) (.ref x :: st) h) : PB Γ pc (a0 :: a1 :: a2 :: a3 :: a4 :: a5 :: a6 :: some (.ref x) :: tl) st h := by
  obtain ⟨⟨p, l, e, R, s, m⟩, ⟨args, below, meth, c⟩, ⟨D, ta, ad, sa, A⟩, cl, sl, Z⟩ := Γ
  obtain ⟨hx, hb, hml, hr, hlk, hown, hts, hR, hK, hA, hPS, hPN⟩ := g
  intro H locs ls hP hD hS hl
  exact lv_aload hx hb hdg (hl.2.2 7 _ rfl) (kk H locs ls hP hD hS hl)
theorem pb_istore7 (g : GM Γ y cc nL rt k) {a0 : Option Value} {a1 : Option Value} {a2 : Option Value} {a3 : Option Value} {a4 : Option Value} {a5 : Option Value} {a6 : Option Value} {x : Int32} {b : Option Value} {tl : List (Option Value)} (hdg : decode cc pc = .ok (.istore 7, 2)) (hn : 7 < nL) (kk : PB Γ (pc + 2) (a0 :: a1 :: a2 :: a3 :: a4 :: a5 :: a6 :: some (.int x) :: tl) st h) (hnl : pnl a6 = true := by rfl) : PB Γ pc (a0 :: a1 :: a2 :: a3 :: a4 :: a5 :: a6 :: b :: tl) (.int x :: st) h := by
  obtain ⟨⟨p, l, e, R, s, m⟩, ⟨args, below, meth, c⟩, ⟨D, ta, ad, sa, A⟩, cl, sl, Z⟩ := Γ
  obtain ⟨hx, hb, hml, hr, hlk, hown, hts, hR, hK, hA, hPS, hPN⟩ := g
  intro H locs ls hP hD hS hl
  subst hml
  exact lv_istore hx hb hdg hl.kit hn rfl (fun ls' hl' => kk H locs ls' hP hD hS (pl_put1 (i := 7) (lv := a0 :: a1 :: a2 :: a3 :: a4 :: a5 :: a6 :: b :: tl) (v := .int x) hl' (by simp) (pnl_at (i := 6) rfl hnl)))
theorem pb_astore7 (g : GM Γ y cc nL rt k) {a0 : Option Value} {a1 : Option Value} {a2 : Option Value} {a3 : Option Value} {a4 : Option Value} {a5 : Option Value} {a6 : Option Value} {x : Nat} {b : Option Value} {tl : List (Option Value)} (hdg : decode cc pc = .ok (.astore 7, 2)) (hn : 7 < nL) (kk : PB Γ (pc + 2) (a0 :: a1 :: a2 :: a3 :: a4 :: a5 :: a6 :: some (.ref x) :: tl) st h) (hnl : pnl a6 = true := by rfl) : PB Γ pc (a0 :: a1 :: a2 :: a3 :: a4 :: a5 :: a6 :: b :: tl) (.ref x :: st) h := by
  obtain ⟨⟨p, l, e, R, s, m⟩, ⟨args, below, meth, c⟩, ⟨D, ta, ad, sa, A⟩, cl, sl, Z⟩ := Γ
  obtain ⟨hx, hb, hml, hr, hlk, hown, hts, hR, hK, hA, hPS, hPN⟩ := g
  intro H locs ls hP hD hS hl
  subst hml
  exact lv_astore hx hb hdg hl.kit hn rfl (fun ls' hl' => kk H locs ls' hP hD hS (pl_put1 (i := 7) (lv := a0 :: a1 :: a2 :: a3 :: a4 :: a5 :: a6 :: b :: tl) (v := .ref x) hl' (by simp) (pnl_at (i := 6) rfl hnl)))
theorem pb_lstore7 (g : GM Γ y cc nL rt k) {a0 : Option Value} {a1 : Option Value} {a2 : Option Value} {a3 : Option Value} {a4 : Option Value} {a5 : Option Value} {a6 : Option Value} {x : Int64} {b d : Option Value} {tl : List (Option Value)} (hdg : decode cc pc = .ok (.lstore 7, 2)) (hn : 7 + 1 < nL) (kk : PB Γ (pc + 2) (a0 :: a1 :: a2 :: a3 :: a4 :: a5 :: a6 :: some (.long x) :: none :: tl) st h) (hnl : pnl a6 = true := by rfl) : PB Γ pc (a0 :: a1 :: a2 :: a3 :: a4 :: a5 :: a6 :: b :: d :: tl) (.long x :: st) h := by
  obtain ⟨⟨p, l, e, R, s, m⟩, ⟨args, below, meth, c⟩, ⟨D, ta, ad, sa, A⟩, cl, sl, Z⟩ := Γ
  obtain ⟨hx, hb, hml, hr, hlk, hown, hts, hR, hK, hA, hPS, hPN⟩ := g
  intro H locs ls hP hD hS hl
  subst hml
  exact lv_lstore hx hb hdg hl.kit hn rfl (fun ls' hl' => kk H locs ls' hP hD hS (pl_put2 (i := 7) (lv := a0 :: a1 :: a2 :: a3 :: a4 :: a5 :: a6 :: b :: d :: tl) (v := .long x) hl' (by simp) (pnl_at (i := 6) rfl hnl)))
theorem pb_iload8 (g : GM Γ y cc nL rt k) {a0 : Option Value} {a1 : Option Value} {a2 : Option Value} {a3 : Option Value} {a4 : Option Value} {a5 : Option Value} {a6 : Option Value} {a7 : Option Value} {x : Int32} {tl : List (Option Value)} (hdg : decode cc pc = .ok (.iload 8, 2)) (kk : PB Γ (pc + 2) (a0 :: a1 :: a2 :: a3 :: a4 :: a5 :: a6 :: a7 :: some (.int x) :: tl) (.int x :: st) h) : PB Γ pc (a0 :: a1 :: a2 :: a3 :: a4 :: a5 :: a6 :: a7 :: some (.int x) :: tl) st h := by
  obtain ⟨⟨p, l, e, R, s, m⟩, ⟨args, below, meth, c⟩, ⟨D, ta, ad, sa, A⟩, cl, sl, Z⟩ := Γ
  obtain ⟨hx, hb, hml, hr, hlk, hown, hts, hR, hK, hA, hPS, hPN⟩ := g
  intro H locs ls hP hD hS hl
  exact lv_iload hx hb hdg (hl.2.2 8 _ rfl) (kk H locs ls hP hD hS hl)
theorem pb_lload8 (g : GM Γ y cc nL rt k) {a0 : Option Value} {a1 : Option Value} {a2 : Option Value} {a3 : Option Value} {a4 : Option Value} {a5 : Option Value} {a6 : Option Value} {a7 : Option Value} {x : Int64} {tl : List (Option Value)} (hdg : decode cc pc = .ok (.lload 8, 2)) (kk : PB Γ (pc + 2) (a0 :: a1 :: a2 :: a3 :: a4 :: a5 :: a6 :: a7 :: some (.long x) :: tl) (.long x :: st) h) : PB Γ pc (a0 :: a1 :: a2 :: a3 :: a4 :: a5 :: a6 :: a7 :: some (.long x) :: tl) st h := by
  obtain ⟨⟨p, l, e, R, s, m⟩, ⟨args, below, meth, c⟩, ⟨D, ta, ad, sa, A⟩, cl, sl, Z⟩ := Γ
  obtain ⟨hx, hb, hml, hr, hlk, hown, hts, hR, hK, hA, hPS, hPN⟩ := g
  intro H locs ls hP hD hS hl
  exact lv_lload hx hb hdg (hl.2.2 8 _ rfl) (kk H locs ls hP hD hS hl)
theorem pb_aload8 (g : GM Γ y cc nL rt k) {a0 : Option Value} {a1 : Option Value} {a2 : Option Value} {a3 : Option Value} {a4 : Option Value} {a5 : Option Value} {a6 : Option Value} {a7 : Option Value} {x : Nat} {tl : List (Option Value)} (hdg : decode cc pc = .ok (.aload 8, 2)) (kk : PB Γ (pc + 2) (a0 :: a1 :: a2 :: a3 :: a4 :: a5 :: a6 :: a7 :: some (.ref x) :: tl) (.ref x :: st) h) : PB Γ pc (a0 :: a1 :: a2 :: a3 :: a4 :: a5 :: a6 :: a7 :: some (.ref x) :: tl) st h := by
  obtain ⟨⟨p, l, e, R, s, m⟩, ⟨args, below, meth, c⟩, ⟨D, ta, ad, sa, A⟩, cl, sl, Z⟩ := Γ
  obtain ⟨hx, hb, hml, hr, hlk, hown, hts, hR, hK, hA, hPS, hPN⟩ := g
  intro H locs ls hP hD hS hl
  exact lv_aload hx hb hdg (hl.2.2 8 _ rfl) (kk H locs ls hP hD hS hl)
theorem pb_istore8 (g : GM Γ y cc nL rt k) {a0 : Option Value} {a1 : Option Value} {a2 : Option Value} {a3 : Option Value} {a4 : Option Value} {a5 : Option Value} {a6 : Option Value} {a7 : Option Value} {x : Int32} {b : Option Value} {tl : List (Option Value)} (hdg : decode cc pc = .ok (.istore 8, 2)) (hn : 8 < nL) (kk : PB Γ (pc + 2) (a0 :: a1 :: a2 :: a3 :: a4 :: a5 :: a6 :: a7 :: some (.int x) :: tl) st h) (hnl : pnl a7 = true := by rfl) : PB Γ pc (a0 :: a1 :: a2 :: a3 :: a4 :: a5 :: a6 :: a7 :: b :: tl) (.int x :: st) h := by
  obtain ⟨⟨p, l, e, R, s, m⟩, ⟨args, below, meth, c⟩, ⟨D, ta, ad, sa, A⟩, cl, sl, Z⟩ := Γ
  obtain ⟨hx, hb, hml, hr, hlk, hown, hts, hR, hK, hA, hPS, hPN⟩ := g
  intro H locs ls hP hD hS hl
  subst hml
  exact lv_istore hx hb hdg hl.kit hn rfl (fun ls' hl' => kk H locs ls' hP hD hS (pl_put1 (i := 8) (lv := a0 :: a1 :: a2 :: a3 :: a4 :: a5 :: a6 :: a7 :: b :: tl) (v := .int x) hl' (by simp) (pnl_at (i := 7) rfl hnl)))
theorem pb_astore8 (g : GM Γ y cc nL rt k) {a0 : Option Value} {a1 : Option Value} {a2 : Option Value} {a3 : Option Value} {a4 : Option Value} {a5 : Option Value} {a6 : Option Value} {a7 : Option Value} {x : Nat} {b : Option Value} {tl : List (Option Value)} (hdg : decode cc pc = .ok (.astore 8, 2)) (hn : 8 < nL) (kk : PB Γ (pc + 2) (a0 :: a1 :: a2 :: a3 :: a4 :: a5 :: a6 :: a7 :: some (.ref x) :: tl) st h) (hnl : pnl a7 = true := by rfl) : PB Γ pc (a0 :: a1 :: a2 :: a3 :: a4 :: a5 :: a6 :: a7 :: b :: tl) (.ref x :: st) h := by
  obtain ⟨⟨p, l, e, R, s, m⟩, ⟨args, below, meth, c⟩, ⟨D, ta, ad, sa, A⟩, cl, sl, Z⟩ := Γ
  obtain ⟨hx, hb, hml, hr, hlk, hown, hts, hR, hK, hA, hPS, hPN⟩ := g
  intro H locs ls hP hD hS hl
  subst hml
  exact lv_astore hx hb hdg hl.kit hn rfl (fun ls' hl' => kk H locs ls' hP hD hS (pl_put1 (i := 8) (lv := a0 :: a1 :: a2 :: a3 :: a4 :: a5 :: a6 :: a7 :: b :: tl) (v := .ref x) hl' (by simp) (pnl_at (i := 7) rfl hnl)))
theorem pb_lstore8 (g : GM Γ y cc nL rt k) {a0 : Option Value} {a1 : Option Value} {a2 : Option Value} {a3 : Option Value} {a4 : Option Value} {a5 : Option Value} {a6 : Option Value} {a7 : Option Value} {x : Int64} {b d : Option Value} {tl : List (Option Value)} (hdg : decode cc pc = .ok (.lstore 8, 2)) (hn : 8 + 1 < nL) (kk : PB Γ (pc + 2) (a0 :: a1 :: a2 :: a3 :: a4 :: a5 :: a6 :: a7 :: some (.long x) :: none :: tl) st h) (hnl : pnl a7 = true := by rfl) : PB Γ pc (a0 :: a1 :: a2 :: a3 :: a4 :: a5 :: a6 :: a7 :: b :: d :: tl) (.long x :: st) h := by
  obtain ⟨⟨p, l, e, R, s, m⟩, ⟨args, below, meth, c⟩, ⟨D, ta, ad, sa, A⟩, cl, sl, Z⟩ := Γ
  obtain ⟨hx, hb, hml, hr, hlk, hown, hts, hR, hK, hA, hPS, hPN⟩ := g
  intro H locs ls hP hD hS hl
  subst hml
  exact lv_lstore hx hb hdg hl.kit hn rfl (fun ls' hl' => kk H locs ls' hP hD hS (pl_put2 (i := 8) (lv := a0 :: a1 :: a2 :: a3 :: a4 :: a5 :: a6 :: a7 :: b :: d :: tl) (v := .long x) hl' (by simp) (pnl_at (i := 7) rfl hnl)))
theorem pb_iload9 (g : GM Γ y cc nL rt k) {a0 : Option Value} {a1 : Option Value} {a2 : Option Value} {a3 : Option Value} {a4 : Option Value} {a5 : Option Value} {a6 : Option Value} {a7 : Option Value} {a8 : Option Value} {x : Int32} {tl : List (Option Value)} (hdg : decode cc pc = .ok (.iload 9, 2)) (kk : PB Γ (pc + 2) (a0 :: a1 :: a2 :: a3 :: a4 :: a5 :: a6 :: a7 :: a8 :: some (.int x) :: tl) (.int x :: st) h) : PB Γ pc (a0 :: a1 :: a2 :: a3 :: a4 :: a5 :: a6 :: a7 :: a8 :: some (.int x) :: tl) st h := by
  obtain ⟨⟨p, l, e, R, s, m⟩, ⟨args, below, meth, c⟩, ⟨D, ta, ad, sa, A⟩, cl, sl, Z⟩ := Γ
  obtain ⟨hx, hb, hml, hr, hlk, hown, hts, hR, hK, hA, hPS, hPN⟩ := g
  intro H locs ls hP hD hS hl
  exact lv_iload hx hb hdg (hl.2.2 9 _ rfl) (kk H locs ls hP hD hS hl)
theorem pb_lload9 (g : GM Γ y cc nL rt k) {a0 : Option Value} {a1 : Option Value} {a2 : Option Value} {a3 : Option Value} {a4 : Option Value} {a5 : Option Value} {a6 : Option Value} {a7 : Option Value} {a8 : Option Value} {x : Int64} {tl : List (Option Value)} (hdg : decode cc pc = .ok (.lload 9, 2)) (kk : PB Γ (pc + 2) (a0 :: a1 :: a2 :: a3 :: a4 :: a5 :: a6 :: a7 :: a8 :: some (.long x) :: tl) (.long x :: st) h) : PB Γ pc (a0 :: a1 :: a2 :: a3 :: a4 :: a5 :: a6 :: a7 :: a8 :: some (.long x) :: tl) st h := by
  obtain ⟨⟨p, l, e, R, s, m⟩, ⟨args, below, meth, c⟩, ⟨D, ta, ad, sa, A⟩, cl, sl, Z⟩ := Γ
  obtain ⟨hx, hb, hml, hr, hlk, hown, hts, hR, hK, hA, hPS, hPN⟩ := g
  intro H locs ls hP hD hS hl
  exact lv_lload hx hb hdg (hl.2.2 9 _ rfl) (kk H locs ls hP hD hS hl)
theorem pb_aload9 (g : GM Γ y cc nL rt k) {a0 : Option Value} {a1 : Option Value} {a2 : Option Value} {a3 : Option Value} {a4 : Option Value} {a5 : Option Value} {a6 : Option Value} {a7 : Option Value} {a8 : Option Value} {x : Nat} {tl : List (Option Value)} (hdg : decode cc pc = .ok (.aload 9, 2)) (kk : PB Γ (pc + 2) (a0 :: a1 :: a2 :: a3 :: a4 :: a5 :: a6 :: a7 :: a8 :: some (.ref x) :: tl) (.ref x :: st) h) : PB Γ pc (a0 :: a1 :: a2 :: a3 :: a4 :: a5 :: a6 :: a7 :: a8 :: some (.ref x) :: tl) st h := by
  obtain ⟨⟨p, l, e, R, s, m⟩, ⟨args, below, meth, c⟩, ⟨D, ta, ad, sa, A⟩, cl, sl, Z⟩ := Γ
  obtain ⟨hx, hb, hml, hr, hlk, hown, hts, hR, hK, hA, hPS, hPN⟩ := g
  intro H locs ls hP hD hS hl
  exact lv_aload hx hb hdg (hl.2.2 9 _ rfl) (kk H locs ls hP hD hS hl)
theorem pb_istore9 (g : GM Γ y cc nL rt k) {a0 : Option Value} {a1 : Option Value} {a2 : Option Value} {a3 : Option Value} {a4 : Option Value} {a5 : Option Value} {a6 : Option Value} {a7 : Option Value} {a8 : Option Value} {x : Int32} {b : Option Value} {tl : List (Option Value)} (hdg : decode cc pc = .ok (.istore 9, 2)) (hn : 9 < nL) (kk : PB Γ (pc + 2) (a0 :: a1 :: a2 :: a3 :: a4 :: a5 :: a6 :: a7 :: a8 :: some (.int x) :: tl) st h) (hnl : pnl a8 = true := by rfl) : PB Γ pc (a0 :: a1 :: a2 :: a3 :: a4 :: a5 :: a6 :: a7 :: a8 :: b :: tl) (.int x :: st) h := by
  obtain ⟨⟨p, l, e, R, s, m⟩, ⟨args, below, meth, c⟩, ⟨D, ta, ad, sa, A⟩, cl, sl, Z⟩ := Γ
  obtain ⟨hx, hb, hml, hr, hlk, hown, hts, hR, hK, hA, hPS, hPN⟩ := g
  intro H locs ls hP hD hS hl
  subst hml
  exact lv_istore hx hb hdg hl.kit hn rfl (fun ls' hl' => kk H locs ls' hP hD hS (pl_put1 (i := 9) (lv := a0 :: a1 :: a2 :: a3 :: a4 :: a5 :: a6 :: a7 :: a8 :: b :: tl) (v := .int x) hl' (by simp) (pnl_at (i := 8) rfl hnl)))
theorem pb_astore9 (g : GM Γ y cc nL rt k) {a0 : Option Value} {a1 : Option Value} {a2 : Option Value} {a3 : Option Value} {a4 : Option Value} {a5 : Option Value} {a6 : Option Value} {a7 : Option Value} {a8 : Option Value} {x : Nat} {b : Option Value} {tl : List (Option Value)} (hdg : decode cc pc = .ok (.astore 9, 2)) (hn : 9 < nL) (kk : PB Γ (pc + 2) (a0 :: a1 :: a2 :: a3 :: a4 :: a5 :: a6 :: a7 :: a8 :: some (.ref x) :: tl) st h) (hnl : pnl a8 = true := by rfl) : PB Γ pc (a0 :: a1 :: a2 :: a3 :: a4 :: a5 :: a6 :: a7 :: a8 :: b :: tl) (.ref x :: st) h := by
  obtain ⟨⟨p, l, e, R, s, m⟩, ⟨args, below, meth, c⟩, ⟨D, ta, ad, sa, A⟩, cl, sl, Z⟩ := Γ
  obtain ⟨hx, hb, hml, hr, hlk, hown, hts, hR, hK, hA, hPS, hPN⟩ := g
  intro H locs ls hP hD hS hl
  subst hml
  exact lv_astore hx hb hdg hl.kit hn rfl (fun ls' hl' => kk H locs ls' hP hD hS (pl_put1 (i := 9) (lv := a0 :: a1 :: a2 :: a3 :: a4 :: a5 :: a6 :: a7 :: a8 :: b :: tl) (v := .ref x) hl' (by simp) (pnl_at (i := 8) rfl hnl)))
theorem pb_lstore9 (g : GM Γ y cc nL rt k) {a0 : Option Value} {a1 : Option Value} {a2 : Option Value} {a3 : Option Value} {a4 : Option Value} {a5 : Option Value} {a6 : Option Value} {a7 : Option Value} {a8 : Option Value} {x : Int64} {b d : Option Value} {tl : List (Option Value)} (hdg : decode cc pc = .ok (.lstore 9, 2)) (hn : 9 + 1 < nL) (kk : PB Γ (pc + 2) (a0 :: a1 :: a2 :: a3 :: a4 :: a5 :: a6 :: a7 :: a8 :: some (.long x) :: none :: tl) st h) (hnl : pnl a8 = true := by rfl) : PB Γ pc (a0 :: a1 :: a2 :: a3 :: a4 :: a5 :: a6 :: a7 :: a8 :: b :: d :: tl) (.long x :: st) h := by
  obtain ⟨⟨p, l, e, R, s, m⟩, ⟨args, below, meth, c⟩, ⟨D, ta, ad, sa, A⟩, cl, sl, Z⟩ := Γ
  obtain ⟨hx, hb, hml, hr, hlk, hown, hts, hR, hK, hA, hPS, hPN⟩ := g
  intro H locs ls hP hD hS hl
  subst hml
  exact lv_lstore hx hb hdg hl.kit hn rfl (fun ls' hl' => kk H locs ls' hP hD hS (pl_put2 (i := 9) (lv := a0 :: a1 :: a2 :: a3 :: a4 :: a5 :: a6 :: a7 :: a8 :: b :: d :: tl) (v := .long x) hl' (by simp) (pnl_at (i := 8) rfl hnl)))
theorem pb_iload10 (g : GM Γ y cc nL rt k) {a0 : Option Value} {a1 : Option Value} {a2 : Option Value} {a3 : Option Value} {a4 : Option Value} {a5 : Option Value} {a6 : Option Value} {a7 : Option Value} {a8 : Option Value} {a9 : Option Value} {x : Int32} {tl : List (Option Value)} (hdg : decode cc pc = .ok (.iload 10, 2)) (kk : PB Γ (pc + 2) (a0 :: a1 :: a2 :: a3 :: a4 :: a5 :: a6 :: a7 :: a8 :: a9 :: some (.int x) :: tl) (.int x :: st) h) : PB Γ pc (a0 :: a1 :: a2 :: a3 :: a4 :: a5 :: a6 :: a7 :: a8 :: a9 :: some (.int x) :: tl) st h := by
  obtain ⟨⟨p, l, e, R, s, m⟩, ⟨args, below, meth, c⟩, ⟨D, ta, ad, sa, A⟩, cl, sl, Z⟩ := Γ
  obtain ⟨hx, hb, hml, hr, hlk, hown, hts, hR, hK, hA, hPS, hPN⟩ := g
  intro H locs ls hP hD hS hl
  exact lv_iload hx hb hdg (hl.2.2 10 _ rfl) (kk H locs ls hP hD hS hl)
theorem pb_lload10 (g : GM Γ y cc nL rt k) {a0 : Option Value} {a1 : Option Value} {a2 : Option Value} {a3 : Option Value} {a4 : Option Value} {a5 : Option Value} {a6 : Option Value} {a7 : Option Value} {a8 : Option Value} {a9 : Option Value} {x : Int64} {tl : List (Option Value)} (hdg : decode cc pc = .ok (.lload 10, 2)) (kk : PB Γ (pc + 2) (a0 :: a1 :: a2 :: a3 :: a4 :: a5 :: a6 :: a7 :: a8 :: a9 :: some (.long x) :: tl) (.long x :: st) h) : PB Γ pc (a0 :: a1 :: a2 :: a3 :: a4 :: a5 :: a6 :: a7 :: a8 :: a9 :: some (.long x) :: tl) st h := by
  obtain ⟨⟨p, l, e, R, s, m⟩, ⟨args, below, meth, c⟩, ⟨D, ta, ad, sa, A⟩, cl, sl, Z⟩ := Γ
  obtain ⟨hx, hb, hml, hr, hlk, hown, hts, hR, hK, hA, hPS, hPN⟩ := g
  intro H locs ls hP hD hS hl
  exact lv_lload hx hb hdg (hl.2.2 10 _ rfl) (kk H locs ls hP hD hS hl)
theorem pb_aload10 (g : GM Γ y cc nL rt k) {a0 : Option Value} {a1 : Option Value} {a2 : Option Value} {a3 : Option Value} {a4 : Option Value} {a5 : Option Value} {a6 : Option Value} {a7 : Option Value} {a8 : Option Value} {a9 : Option Value} {x : Nat} {tl : List (Option Value)} (hdg : decode cc pc = .ok (.aload 10, 2)) (kk : PB Γ (pc + 2) (a0 :: a1 :: a2 :: a3 :: a4 :: a5 :: a6 :: a7 :: a8 :: a9 :: some (.ref x) :: tl) (.ref x :: st) h) : PB Γ pc (a0 :: a1 :: a2 :: a3 :: a4 :: a5 :: a6 :: a7 :: a8 :: a9 :: some (.ref x) :: tl) st h := by
  obtain ⟨⟨p, l, e, R, s, m⟩, ⟨args, below, meth, c⟩, ⟨D, ta, ad, sa, A⟩, cl, sl, Z⟩ := Γ
  obtain ⟨hx, hb, hml, hr, hlk, hown, hts, hR, hK, hA, hPS, hPN⟩ := g
  intro H locs ls hP hD hS hl
  exact lv_aload hx hb hdg (hl.2.2 10 _ rfl) (kk H locs ls hP hD hS hl)
theorem pb_istore10 (g : GM Γ y cc nL rt k) {a0 : Option Value} {a1 : Option Value} {a2 : Option Value} {a3 : Option Value} {a4 : Option Value} {a5 : Option Value} {a6 : Option Value} {a7 : Option Value} {a8 : Option Value} {a9 : Option Value} {x : Int32} {b : Option Value} {tl : List (Option Value)} (hdg : decode cc pc = .ok (.istore 10, 2)) (hn : 10 < nL) (kk : PB Γ (pc + 2) (a0 :: a1 :: a2 :: a3 :: a4 :: a5 :: a6 :: a7 :: a8 :: a9 :: some (.int x) :: tl) st h) (hnl : pnl a9 = true := by rfl) : PB Γ pc (a0 :: a1 :: a2 :: a3 :: a4 :: a5 :: a6 :: a7 :: a8 :: a9 :: b :: tl) (.int x :: st) h := by
  obtain ⟨⟨p, l, e, R, s, m⟩, ⟨args, below, meth, c⟩, ⟨D, ta, ad, sa, A⟩, cl, sl, Z⟩ := Γ
  obtain ⟨hx, hb, hml, hr, hlk, hown, hts, hR, hK, hA, hPS, hPN⟩ := g
  intro H locs ls hP hD hS hl
  subst hml
  exact lv_istore hx hb hdg hl.kit hn rfl (fun ls' hl' => kk H locs ls' hP hD hS (pl_put1 (i := 10) (lv := a0 :: a1 :: a2 :: a3 :: a4 :: a5 :: a6 :: a7 :: a8 :: a9 :: b :: tl) (v := .int x) hl' (by simp) (pnl_at (i := 9) rfl hnl)))
theorem pb_astore10 (g : GM Γ y cc nL rt k) {a0 : Option Value} {a1 : Option Value} {a2 : Option Value} {a3 : Option Value} {a4 : Option Value} {a5 : Option Value} {a6 : Option Value} {a7 : Option Value} {a8 : Option Value} {a9 : Option Value} {x : Nat} {b : Option Value} {tl : List (Option Value)} (hdg : decode cc pc = .ok (.astore 10, 2)) (hn : 10 < nL) (kk : PB Γ (pc + 2) (a0 :: a1 :: a2 :: a3 :: a4 :: a5 :: a6 :: a7 :: a8 :: a9 :: some (.ref x) :: tl) st h) (hnl : pnl a9 = true := by rfl) : PB Γ pc (a0 :: a1 :: a2 :: a3 :: a4 :: a5 :: a6 :: a7 :: a8 :: a9 :: b :: tl) (.ref x :: st) h := by
  obtain ⟨⟨p, l, e, R, s, m⟩, ⟨args, below, meth, c⟩, ⟨D, ta, ad, sa, A⟩, cl, sl, Z⟩ := Γ
  obtain ⟨hx, hb, hml, hr, hlk, hown, hts, hR, hK, hA, hPS, hPN⟩ := g
  intro H locs ls hP hD hS hl
  subst hml
  exact lv_astore hx hb hdg hl.kit hn rfl (fun ls' hl' => kk H locs ls' hP hD hS (pl_put1 (i := 10) (lv := a0 :: a1 :: a2 :: a3 :: a4 :: a5 :: a6 :: a7 :: a8 :: a9 :: b :: tl) (v := .ref x) hl' (by simp) (pnl_at (i := 9) rfl hnl)))
theorem pb_lstore10 (g : GM Γ y cc nL rt k) {a0 : Option Value} {a1 : Option Value} {a2 : Option Value} {a3 : Option Value} {a4 : Option Value} {a5 : Option Value} {a6 : Option Value} {a7 : Option Value} {a8 : Option Value} {a9 : Option Value} {x : Int64} {b d : Option Value} {tl : List (Option Value)} (hdg : decode cc pc = .ok (.lstore 10, 2)) (hn : 10 + 1 < nL) (kk : PB Γ (pc + 2) (a0 :: a1 :: a2 :: a3 :: a4 :: a5 :: a6 :: a7 :: a8 :: a9 :: some (.long x) :: none :: tl) st h) (hnl : pnl a9 = true := by rfl) : PB Γ pc (a0 :: a1 :: a2 :: a3 :: a4 :: a5 :: a6 :: a7 :: a8 :: a9 :: b :: d :: tl) (.long x :: st) h := by
  obtain ⟨⟨p, l, e, R, s, m⟩, ⟨args, below, meth, c⟩, ⟨D, ta, ad, sa, A⟩, cl, sl, Z⟩ := Γ
  obtain ⟨hx, hb, hml, hr, hlk, hown, hts, hR, hK, hA, hPS, hPN⟩ := g
  intro H locs ls hP hD hS hl
  subst hml
  exact lv_lstore hx hb hdg hl.kit hn rfl (fun ls' hl' => kk H locs ls' hP hD hS (pl_put2 (i := 10) (lv := a0 :: a1 :: a2 :: a3 :: a4 :: a5 :: a6 :: a7 :: a8 :: a9 :: b :: d :: tl) (v := .long x) hl' (by simp) (pnl_at (i := 9) rfl hnl)))
theorem pb_iload11 (g : GM Γ y cc nL rt k) {a0 : Option Value} {a1 : Option Value} {a2 : Option Value} {a3 : Option Value} {a4 : Option Value} {a5 : Option Value} {a6 : Option Value} {a7 : Option Value} {a8 : Option Value} {a9 : Option Value} {a10 : Option Value} {x : Int32} {tl : List (Option Value)} (hdg : decode cc pc = .ok (.iload 11, 2)) (kk : PB Γ (pc + 2) (a0 :: a1 :: a2 :: a3 :: a4 :: a5 :: a6 :: a7 :: a8 :: a9 :: a10 :: some (.int x) :: tl) (.int x :: st) h) : PB Γ pc (a0 :: a1 :: a2 :: a3 :: a4 :: a5 :: a6 :: a7 :: a8 :: a9 :: a10 :: some (.int x) :: tl) st h := by
  obtain ⟨⟨p, l, e, R, s, m⟩, ⟨args, below, meth, c⟩, ⟨D, ta, ad, sa, A⟩, cl, sl, Z⟩ := Γ
  obtain ⟨hx, hb, hml, hr, hlk, hown, hts, hR, hK, hA, hPS, hPN⟩ := g
  intro H locs ls hP hD hS hl
  exact lv_iload hx hb hdg (hl.2.2 11 _ rfl) (kk H locs ls hP hD hS hl)
theorem pb_lload11 (g : GM Γ y cc nL rt k) {a0 : Option Value} {a1 : Option Value} {a2 : Option Value} {a3 : Option Value} {a4 : Option Value} {a5 : Option Value} {a6 : Option Value} {a7 : Option Value} {a8 : Option Value} {a9 : Option Value} {a10 : Option Value} {x : Int64} {tl : List (Option Value)} (hdg : decode cc pc = .ok (.lload 11, 2)) (kk : PB Γ (pc + 2) (a0 :: a1 :: a2 :: a3 :: a4 :: a5 :: a6 :: a7 :: a8 :: a9 :: a10 :: some (.long x) :: tl) (.long x :: st) h) : PB Γ pc (a0 :: a1 :: a2 :: a3 :: a4 :: a5 :: a6 :: a7 :: a8 :: a9 :: a10 :: some (.long x) :: tl) st h := by
  obtain ⟨⟨p, l, e, R, s, m⟩, ⟨args, below, meth, c⟩, ⟨D, ta, ad, sa, A⟩, cl, sl, Z⟩ := Γ
  obtain ⟨hx, hb, hml, hr, hlk, hown, hts, hR, hK, hA, hPS, hPN⟩ := g
  intro H locs ls hP hD hS hl
  exact lv_lload hx hb hdg (hl.2.2 11 _ rfl) (kk H locs ls hP hD hS hl)
theorem pb_aload11 (g : GM Γ y cc nL rt k) {a0 : Option Value} {a1 : Option Value} {a2 : Option Value} {a3 : Option Value} {a4 : Option Value} {a5 : Option Value} {a6 : Option Value} {a7 : Option Value} {a8 : Option Value} {a9 : Option Value} {a10 : Option Value} {x : Nat} {tl : List (Option Value)} (hdg : decode cc pc = .ok (.aload 11, 2)) (kk : PB Γ (pc + 2) (a0 :: a1 :: a2 :: a3 :: a4 :: a5 :: a6 :: a7 :: a8 :: a9 :: a10 :: some (.ref x) :: tl) (.ref x :: st) h) : PB Γ pc (a0 :: a1 :: a2 :: a3 :: a4 :: a5 :: a6 :: a7 :: a8 :: a9 :: a10 :: some (.ref x) :: tl) st h := by
  obtain ⟨⟨p, l, e, R, s, m⟩, ⟨args, below, meth, c⟩, ⟨D, ta, ad, sa, A⟩, cl, sl, Z⟩ := Γ
  obtain ⟨hx, hb, hml, hr, hlk, hown, hts, hR, hK, hA, hPS, hPN⟩ := g
  intro H locs ls hP hD hS hl
  exact lv_aload hx hb hdg (hl.2.2 11 _ rfl) (kk H locs ls hP hD hS hl)
theorem pb_istore11 (g : GM Γ y cc nL rt k) {a0 : Option Value} {a1 : Option Value} {a2 : Option Value} {a3 : Option Value} {a4 : Option Value} {a5 : Option Value} {a6 : Option Value} {a7 : Option Value} {a8 : Option Value} {a9 : Option Value} {a10 : Option Value} {x : Int32} {b : Option Value} {tl : List (Option Value)} (hdg : decode cc pc = .ok (.istore 11, 2)) (hn : 11 < nL) (kk : PB Γ (pc + 2) (a0 :: a1 :: a2 :: a3 :: a4 :: a5 :: a6 :: a7 :: a8 :: a9 :: a10 :: some (.int x) :: tl) st h) (hnl : pnl a10 = true := by rfl) : PB Γ pc (a0 :: a1 :: a2 :: a3 :: a4 :: a5 :: a6 :: a7 :: a8 :: a9 :: a10 :: b :: tl) (.int x :: st) h := by
  obtain ⟨⟨p, l, e, R, s, m⟩, ⟨args, below, meth, c⟩, ⟨D, ta, ad, sa, A⟩, cl, sl, Z⟩ := Γ
  obtain ⟨hx, hb, hml, hr, hlk, hown, hts, hR, hK, hA, hPS, hPN⟩ := g
  intro H locs ls hP hD hS hl
  subst hml
  exact lv_istore hx hb hdg hl.kit hn rfl (fun ls' hl' => kk H locs ls' hP hD hS (pl_put1 (i := 11) (lv := a0 :: a1 :: a2 :: a3 :: a4 :: a5 :: a6 :: a7 :: a8 :: a9 :: a10 :: b :: tl) (v := .int x) hl' (by simp) (pnl_at (i := 10) rfl hnl)))
theorem pb_astore11 (g : GM Γ y cc nL rt k) {a0 : Option Value} {a1 : Option Value} {a2 : Option Value} {a3 : Option Value} {a4 : Option Value} {a5 : Option Value} {a6 : Option Value} {a7 : Option Value} {a8 : Option Value} {a9 : Option Value} {a10 : Option Value} {x : Nat} {b : Option Value} {tl : List (Option Value)} (hdg : decode cc pc = .ok (.astore 11, 2)) (hn : 11 < nL) (kk : PB Γ (pc + 2) (a0 :: a1 :: a2 :: a3 :: a4 :: a5 :: a6 :: a7 :: a8 :: a9 :: a10 :: some (.ref x) :: tl) st h) (hnl : pnl a10 = true := by rfl) : PB Γ pc (a0 :: a1 :: a2 :: a3 :: a4 :: a5 :: a6 :: a7 :: a8 :: a9 :: a10 :: b :: tl) (.ref x :: st) h := by
  obtain ⟨⟨p, l, e, R, s, m⟩, ⟨args, below, meth, c⟩, ⟨D, ta, ad, sa, A⟩, cl, sl, Z⟩ := Γ
  obtain ⟨hx, hb, hml, hr, hlk, hown, hts, hR, hK, hA, hPS, hPN⟩ := g
  intro H locs ls hP hD hS hl
  subst hml
  exact lv_astore hx hb hdg hl.kit hn rfl (fun ls' hl' => kk H locs ls' hP hD hS (pl_put1 (i := 11) (lv := a0 :: a1 :: a2 :: a3 :: a4 :: a5 :: a6 :: a7 :: a8 :: a9 :: a10 :: b :: tl) (v := .ref x) hl' (by simp) (pnl_at (i := 10) rfl hnl)))
theorem pb_lstore11 (g : GM Γ y cc nL rt k) {a0 : Option Value} {a1 : Option Value} {a2 : Option Value} {a3 : Option Value} {a4 : Option Value} {a5 : Option Value} {a6 : Option Value} {a7 : Option Value} {a8 : Option Value} {a9 : Option Value} {a10 : Option Value} {x : Int64} {b d : Option Value} {tl : List (Option Value)} (hdg : decode cc pc = .ok (.lstore 11, 2)) (hn : 11 + 1 < nL) (kk : PB Γ (pc + 2) (a0 :: a1 :: a2 :: a3 :: a4 :: a5 :: a6 :: a7 :: a8 :: a9 :: a10 :: some (.long x) :: none :: tl) st h) (hnl : pnl a10 = true := by rfl) : PB Γ pc (a0 :: a1 :: a2 :: a3 :: a4 :: a5 :: a6 :: a7 :: a8 :: a9 :: a10 :: b :: d :: tl) (.long x :: st) h := by
  obtain ⟨⟨p, l, e, R, s, m⟩, ⟨args, below, meth, c⟩, ⟨D, ta, ad, sa, A⟩, cl, sl, Z⟩ := Γ
  obtain ⟨hx, hb, hml, hr, hlk, hown, hts, hR, hK, hA, hPS, hPN⟩ := g
  intro H locs ls hP hD hS hl
  subst hml
  exact lv_lstore hx hb hdg hl.kit hn rfl (fun ls' hl' => kk H locs ls' hP hD hS (pl_put2 (i := 11) (lv := a0 :: a1 :: a2 :: a3 :: a4 :: a5 :: a6 :: a7 :: a8 :: a9 :: a10 :: b :: d :: tl) (v := .long x) hl' (by simp) (pnl_at (i := 10) rfl hnl)))
theorem pb_iload12 (g : GM Γ y cc nL rt k) {a0 : Option Value} {a1 : Option Value} {a2 : Option Value} {a3 : Option Value} {a4 : Option Value} {a5 : Option Value} {a6 : Option Value} {a7 : Option Value} {a8 : Option Value} {a9 : Option Value} {a10 : Option Value} {a11 : Option Value} {x : Int32} {tl : List (Option Value)} (hdg : decode cc pc = .ok (.iload 12, 2)) (kk : PB Γ (pc + 2) (a0 :: a1 :: a2 :: a3 :: a4 :: a5 :: a6 :: a7 :: a8 :: a9 :: a10 :: a11 :: some (.int x) :: tl) (.int x :: st) h) : PB Γ pc (a0 :: a1 :: a2 :: a3 :: a4 :: a5 :: a6 :: a7 :: a8 :: a9 :: a10 :: a11 :: some (.int x) :: tl) st h := by
  obtain ⟨⟨p, l, e, R, s, m⟩, ⟨args, below, meth, c⟩, ⟨D, ta, ad, sa, A⟩, cl, sl, Z⟩ := Γ
  obtain ⟨hx, hb, hml, hr, hlk, hown, hts, hR, hK, hA, hPS, hPN⟩ := g
  intro H locs ls hP hD hS hl
  exact lv_iload hx hb hdg (hl.2.2 12 _ rfl) (kk H locs ls hP hD hS hl)
theorem pb_lload12 (g : GM Γ y cc nL rt k) {a0 : Option Value} {a1 : Option Value} {a2 : Option Value} {a3 : Option Value} {a4 : Option Value} {a5 : Option Value} {a6 : Option Value} {a7 : Option Value} {a8 : Option Value} {a9 : Option Value} {a10 : Option Value} {a11 : Option Value} {x : Int64} {tl : List (Option Value)} (hdg : decode cc pc = .ok (.lload 12, 2)) (kk : PB Γ (pc + 2) (a0 :: a1 :: a2 :: a3 :: a4 :: a5 :: a6 :: a7 :: a8 :: a9 :: a10 :: a11 :: some (.long x) :: tl) (.long x :: st) h) : PB Γ pc (a0 :: a1 :: a2 :: a3 :: a4 :: a5 :: a6 :: a7 :: a8 :: a9 :: a10 :: a11 :: some (.long x) :: tl) st h := by
  obtain ⟨⟨p, l, e, R, s, m⟩, ⟨args, below, meth, c⟩, ⟨D, ta, ad, sa, A⟩, cl, sl, Z⟩ := Γ
  obtain ⟨hx, hb, hml, hr, hlk, hown, hts, hR, hK, hA, hPS, hPN⟩ := g
  intro H locs ls hP hD hS hl
  exact lv_lload hx hb hdg (hl.2.2 12 _ rfl) (kk H locs ls hP hD hS hl)
theorem pb_aload12 (g : GM Γ y cc nL rt k) {a0 : Option Value} {a1 : Option Value} {a2 : Option Value} {a3 : Option Value} {a4 : Option Value} {a5 : Option Value} {a6 : Option Value} {a7 : Option Value} {a8 : Option Value} {a9 : Option Value} {a10 : Option Value} {a11 : Option Value} {x : Nat} {tl : List (Option Value)} (hdg : decode cc pc = .ok (.aload 12, 2)) (kk : PB Γ (pc + 2) (a0 :: a1 :: a2 :: a3 :: a4 :: a5 :: a6 :: a7 :: a8 :: a9 :: a10 :: a11 :: some (.ref x) :: tl) (.ref x :: st) h) : PB Γ pc (a0 :: a1 :: a2 :: a3 :: a4 :: a5 :: a6 :: a7 :: a8 :: a9 :: a10 :: a11 :: some (.ref x) :: tl) st h := by
  obtain ⟨⟨p, l, e, R, s, m⟩, ⟨args, below, meth, c⟩, ⟨D, ta, ad, sa, A⟩, cl, sl, Z⟩ := Γ
  obtain ⟨hx, hb, hml, hr, hlk, hown, hts, hR, hK, hA, hPS, hPN⟩ := g
  intro H locs ls hP hD hS hl
  exact lv_aload hx hb hdg (hl.2.2 12 _ rfl) (kk H locs ls hP hD hS hl)
theorem pb_istore12 (g : GM Γ y cc nL rt k) {a0 : Option Value} {a1 : Option Value} {a2 : Option Value} {a3 : Option Value} {a4 : Option Value} {a5 : Option Value} {a6 : Option Value} {a7 : Option Value} {a8 : Option Value} {a9 : Option Value} {a10 : Option Value} {a11 : Option Value} {x : Int32} {b : Option Value} {tl : List (Option Value)} (hdg : decode cc pc = .ok (.istore 12, 2)) (hn : 12 < nL) (kk : PB Γ (pc + 2) (a0 :: a1 :: a2 :: a3 :: a4 :: a5 :: a6 :: a7 :: a8 :: a9 :: a10 :: a11 :: some (.int x) :: tl) st h) (hnl : pnl a11 = true := by rfl) : PB Γ pc (a0 :: a1 :: a2 :: a3 :: a4 :: a5 :: a6 :: a7 :: a8 :: a9 :: a10 :: a11 :: b :: tl) (.int x :: st) h := by
  obtain ⟨⟨p, l, e, R, s, m⟩, ⟨args, below, meth, c⟩, ⟨D, ta, ad, sa, A⟩, cl, sl, Z⟩ := Γ
  obtain ⟨hx, hb, hml, hr, hlk, hown, hts, hR, hK, hA, hPS, hPN⟩ := g
  intro H locs ls hP hD hS hl
  subst hml
  exact lv_istore hx hb hdg hl.kit hn rfl (fun ls' hl' => kk H locs ls' hP hD hS (pl_put1 (i := 12) (lv := a0 :: a1 :: a2 :: a3 :: a4 :: a5 :: a6 :: a7 :: a8 :: a9 :: a10 :: a11 :: b :: tl) (v := .int x) hl' (by simp) (pnl_at (i := 11) rfl hnl)))
theorem pb_astore12 (g : GM Γ y cc nL rt k) {a0 : Option Value} {a1 : Option Value} {a2 : Option Value} {a3 : Option Value} {a4 : Option Value} {a5 : Option Value} {a6 : Option Value} {a7 : Option Value} {a8 : Option Value} {a9 : Option Value} {a10 : Option Value} {a11 : Option Value} {x : Nat} {b : Option Value} {tl : List (Option Value)} (hdg : decode cc pc = .ok (.astore 12, 2)) (hn : 12 < nL) (kk : PB Γ (pc + 2) (a0 :: a1 :: a2 :: a3 :: a4 :: a5 :: a6 :: a7 :: a8 :: a9 :: a10 :: a11 :: some (.ref x) :: tl) st h) (hnl : pnl a11 = true := by rfl) : PB Γ pc (a0 :: a1 :: a2 :: a3 :: a4 :: a5 :: a6 :: a7 :: a8 :: a9 :: a10 :: a11 :: b :: tl) (.ref x :: st) h := by
  obtain ⟨⟨p, l, e, R, s, m⟩, ⟨args, below, meth, c⟩, ⟨D, ta, ad, sa, A⟩, cl, sl, Z⟩ := Γ
  obtain ⟨hx, hb, hml, hr, hlk, hown, hts, hR, hK, hA, hPS, hPN⟩ := g
  intro H locs ls hP hD hS hl
  subst hml
  exact lv_astore hx hb hdg hl.kit hn rfl (fun ls' hl' => kk H locs ls' hP hD hS (pl_put1 (i := 12) (lv := a0 :: a1 :: a2 :: a3 :: a4 :: a5 :: a6 :: a7 :: a8 :: a9 :: a10 :: a11 :: b :: tl) (v := .ref x) hl' (by simp) (pnl_at (i := 11) rfl hnl)))
theorem pb_lstore12 (g : GM Γ y cc nL rt k) {a0 : Option Value} {a1 : Option Value} {a2 : Option Value} {a3 : Option Value} {a4 : Option Value} {a5 : Option Value} {a6 : Option Value} {a7 : Option Value} {a8 : Option Value} {a9 : Option Value} {a10 : Option Value} {a11 : Option Value} {x : Int64} {b d : Option Value} {tl : List (Option Value)} (hdg : decode cc pc = .ok (.lstore 12, 2)) (hn : 12 + 1 < nL) (kk : PB Γ (pc + 2) (a0 :: a1 :: a2 :: a3 :: a4 :: a5 :: a6 :: a7 :: a8 :: a9 :: a10 :: a11 :: some (.long x) :: none :: tl) st h) (hnl : pnl a11 = true := by rfl) : PB Γ pc (a0 :: a1 :: a2 :: a3 :: a4 :: a5 :: a6 :: a7 :: a8 :: a9 :: a10 :: a11 :: b :: d :: tl) (.long x :: st) h := by
  obtain ⟨⟨p, l, e, R, s, m⟩, ⟨args, below, meth, c⟩, ⟨D, ta, ad, sa, A⟩, cl, sl, Z⟩ := Γ
  obtain ⟨hx, hb, hml, hr, hlk, hown, hts, hR, hK, hA, hPS, hPN⟩ := g
  intro H locs ls hP hD hS hl
  subst hml
  exact lv_lstore hx hb hdg hl.kit hn rfl (fun ls' hl' => kk H locs ls' hP hD hS (pl_put2 (i := 12) (lv := a0 :: a1 :: a2 :: a3 :: a4 :: a5 :: a6 :: a7 :: a8 :: a9 :: a10 :: a11 :: b :: d :: tl) (v := .long x) hl' (by simp) (pnl_at (i := 11) rfl hnl)))
theorem pb_iload13 (g : GM Γ y cc nL rt k) {a0 : Option Value} {a1 : Option Value} {a2 : Option Value} {a3 : Option Value} {a4 : Option Value} {a5 : Option Value} {a6 : Option Value} {a7 : Option Value} {a8 : Option Value} {a9 : Option Value} {a10 : Option Value} {a11 : Option Value} {a12 : Option Value} {x : Int32} {tl : List (Option Value)} (hdg : decode cc pc = .ok (.iload 13, 2)) (kk : PB Γ (pc + 2) (a0 :: a1 :: a2 :: a3 :: a4 :: a5 :: a6 :: a7 :: a8 :: a9 :: a10 :: a11 :: a12 :: some (.int x) :: tl) (.int x :: st) h) : PB Γ pc (a0 :: a1 :: a2 :: a3 :: a4 :: a5 :: a6 :: a7 :: a8 :: a9 :: a10 :: a11 :: a12 :: some (.int x) :: tl) st h := by
  obtain ⟨⟨p, l, e, R, s, m⟩, ⟨args, below, meth, c⟩, ⟨D, ta, ad, sa, A⟩, cl, sl, Z⟩ := Γ
  obtain ⟨hx, hb, hml, hr, hlk, hown, hts, hR, hK, hA, hPS, hPN⟩ := g
  intro H locs ls hP hD hS hl
  exact lv_iload hx hb hdg (hl.2.2 13 _ rfl) (kk H locs ls hP hD hS hl)
theorem pb_lload13 (g : GM Γ y cc nL rt k) {a0 : Option Value} {a1 : Option Value} {a2 : Option Value} {a3 : Option Value} {a4 : Option Value} {a5 : Option Value} {a6 : Option Value} {a7 : Option Value} {a8 : Option Value} {a9 : Option Value} {a10 : Option Value} {a11 : Option Value} {a12 : Option Value} {x : Int64} {tl : List (Option Value)} (hdg : decode cc pc = .ok (.lload 13, 2)) (kk : PB Γ (pc + 2) (a0 :: a1 :: a2 :: a3 :: a4 :: a5 :: a6 :: a7 :: a8 :: a9 :: a10 :: a11 :: a12 :: some (.long x) :: tl) (.long x :: st) h) : PB Γ pc (a0 :: a1 :: a2 :: a3 :: a4 :: a5 :: a6 :: a7 :: a8 :: a9 :: a10 :: a11 :: a12 :: some (.long x) :: tl) st h := by
  obtain ⟨⟨p, l, e, R, s, m⟩, ⟨args, below, meth, c⟩, ⟨D, ta, ad, sa, A⟩, cl, sl, Z⟩ := Γ
  obtain ⟨hx, hb, hml, hr, hlk, hown, hts, hR, hK, hA, hPS, hPN⟩ := g
  intro H locs ls hP hD hS hl
  exact lv_lload hx hb hdg (hl.2.2 13 _ rfl) (kk H locs ls hP hD hS hl)
theorem pb_aload13 (g : GM Γ y cc nL rt k) {a0 : Option Value} {a1 : Option Value} {a2 : Option Value} {a3 : Option Value} {a4 : Option Value} {a5 : Option Value} {a6 : Option Value} {a7 : Option Value} {a8 : Option Value} {a9 : Option Value} {a10 : Option Value} {a11 : Option Value} {a12 : Option Value} {x : Nat} {tl : List (Option Value)} (hdg : decode cc pc = .ok (.aload 13, 2)) (kk : PB Γ (pc + 2) (a0 :: a1 :: a2 :: a3 :: a4 :: a5 :: a6 :: a7 :: a8 :: a9 :: a10 :: a11 :: a12 :: some (.ref x) :: tl) (.ref x :: st) h) : PB Γ pc (a0 :: a1 :: a2 :: a3 :: a4 :: a5 :: a6 :: a7 :: a8 :: a9 :: a10 :: a11 :: a12 :: some (.ref x) :: tl) st h := by
  obtain ⟨⟨p, l, e, R, s, m⟩, ⟨args, below, meth, c⟩, ⟨D, ta, ad, sa, A⟩, cl, sl, Z⟩ := Γ
  obtain ⟨hx, hb, hml, hr, hlk, hown, hts, hR, hK, hA, hPS, hPN⟩ := g
  intro H locs ls hP hD hS hl
  exact lv_aload hx hb hdg (hl.2.2 13 _ rfl) (kk H locs ls hP hD hS hl)
theorem pb_istore13 (g : GM Γ y cc nL rt k) {a0 : Option Value} {a1 : Option Value} {a2 : Option Value} {a3 : Option Value} {a4 : Option Value} {a5 : Option Value} {a6 : Option Value} {a7 : Option Value} {a8 : Option Value} {a9 : Option Value} {a10 : Option Value} {a11 : Option Value} {a12 : Option Value} {x : Int32} {b : Option Value} {tl : List (Option Value)} (hdg : decode cc pc = .ok (.istore 13, 2)) (hn : 13 < nL) (kk : PB Γ (pc + 2) (a0 :: a1 :: a2 :: a3 :: a4 :: a5 :: a6 :: a7 :: a8 :: a9 :: a10 :: a11 :: a12 :: some (.int x) :: tl) st h) (hnl : pnl a12 = true := by rfl) : PB Γ pc (a0 :: a1 :: a2 :: a3 :: a4 :: a5 :: a6 :: a7 :: a8 :: a9 :: a10 :: a11 :: a12 :: b :: tl) (.int x :: st) h := by
  obtain ⟨⟨p, l, e, R, s, m⟩, ⟨args, below, meth, c⟩, ⟨D, ta, ad, sa, A⟩, cl, sl, Z⟩ := Γ
  obtain ⟨hx, hb, hml, hr, hlk, hown, hts, hR, hK, hA, hPS, hPN⟩ := g
  intro H locs ls hP hD hS hl
  subst hml
  exact lv_istore hx hb hdg hl.kit hn rfl (fun ls' hl' => kk H locs ls' hP hD hS (pl_put1 (i := 13) (lv := a0 :: a1 :: a2 :: a3 :: a4 :: a5 :: a6 :: a7 :: a8 :: a9 :: a10 :: a11 :: a12 :: b :: tl) (v := .int x) hl' (by simp) (pnl_at (i := 12) rfl hnl)))
theorem pb_astore13 (g : GM Γ y cc nL rt k) {a0 : Option Value} {a1 : Option Value} {a2 : Option Value} {a3 : Option Value} {a4 : Option Value} {a5 : Option Value} {a6 : Option Value} {a7 : Option Value} {a8 : Option Value} {a9 : Option Value} {a10 : Option Value} {a11 : Option Value} {a12 : Option Value} {x : Nat} {b : Option Value} {tl : List (Option Value)} (hdg : decode cc pc = .ok (.astore 13, 2)) (hn : 13 < nL) (kk : PB Γ (pc + 2) (a0 :: a1 :: a2 :: a3 :: a4 :: a5 :: a6 :: a7 :: a8 :: a9 :: a10 :: a11 :: a12 :: some (.ref x) :: tl) st h) (hnl : pnl a12 = true := by rfl) : PB Γ pc (a0 :: a1 :: a2 :: a3 :: a4 :: a5 :: a6 :: a7 :: a8 :: a9 :: a10 :: a11 :: a12 :: b :: tl) (.ref x :: st) h := by
  obtain ⟨⟨p, l, e, R, s, m⟩, ⟨args, below, meth, c⟩, ⟨D, ta, ad, sa, A⟩, cl, sl, Z⟩ := Γ
  obtain ⟨hx, hb, hml, hr, hlk, hown, hts, hR, hK, hA, hPS, hPN⟩ := g
  intro H locs ls hP hD hS hl
  subst hml
  exact lv_astore hx hb hdg hl.kit hn rfl (fun ls' hl' => kk H locs ls' hP hD hS (pl_put1 (i := 13) (lv := a0 :: a1 :: a2 :: a3 :: a4 :: a5 :: a6 :: a7 :: a8 :: a9 :: a10 :: a11 :: a12 :: b :: tl) (v := .ref x) hl' (by simp) (pnl_at (i := 12) rfl hnl)))
theorem pb_lstore13 (g : GM Γ y cc nL rt k) {a0 : Option Value} {a1 : Option Value} {a2 : Option Value} {a3 : Option Value} {a4 : Option Value} {a5 : Option Value} {a6 : Option Value} {a7 : Option Value} {a8 : Option Value} {a9 : Option Value} {a10 : Option Value} {a11 : Option Value} {a12 : Option Value} {x : Int64} {b d : Option Value} {tl : List (Option Value)} (hdg : decode cc pc = .ok (.lstore 13, 2)) (hn : 13 + 1 < nL) (kk : PB Γ (pc + 2) (a0 :: a1 :: a2 :: a3 :: a4 :: a5 :: a6 :: a7 :: a8 :: a9 :: a10 :: a11 :: a12 :: some (.long x) :: none :: tl) st h) (hnl : pnl a12 = true := by rfl) : PB Γ pc (a0 :: a1 :: a2 :: a3 :: a4 :: a5 :: a6 :: a7 :: a8 :: a9 :: a10 :: a11 :: a12 :: b :: d :: tl) (.long x :: st) h := by
  obtain ⟨⟨p, l, e, R, s, m⟩, ⟨args, below, meth, c⟩, ⟨D, ta, ad, sa, A⟩, cl, sl, Z⟩ := Γ
  obtain ⟨hx, hb, hml, hr, hlk, hown, hts, hR, hK, hA, hPS, hPN⟩ := g
  intro H locs ls hP hD hS hl
  subst hml
  exact lv_lstore hx hb hdg hl.kit hn rfl (fun ls' hl' => kk H locs ls' hP hD hS (pl_put2 (i := 13) (lv := a0 :: a1 :: a2 :: a3 :: a4 :: a5 :: a6 :: a7 :: a8 :: a9 :: a10 :: a11 :: a12 :: b :: d :: tl) (v := .long x) hl' (by simp) (pnl_at (i := 12) rfl hnl)))
theorem pb_iinc0 (g : GM Γ y cc nL rt k)  {x v : Int32} {n : Int} {tl : List (Option Value)} (hdg : decode cc pc = .ok (.iinc 0 n, 3)) (hn : 0 < nL) (hv : x + Int32.ofInt n = v) (kk : PB Γ (pc + 3) (some (.int v) :: tl) st h)  : PB Γ pc (some (.int x) :: tl) st h := by
  obtain ⟨⟨p, l, e, R, s, m⟩, ⟨args, below, meth, c⟩, ⟨D, ta, ad, sa, A⟩, cl, sl, Z⟩ := Γ
  obtain ⟨hx, hb, hml, hr, hlk, hown, hts, hR, hK, hA, hPS, hPN⟩ := g
  intro H locs ls hP hD hS hl
  subst hml
  obtain ⟨kq, hkq⟩ := List.getElem?_of_mem (by have := pl_prs_mem (cv := pcv ad sa) (some (.int x) :: tl) 0 0 (.int x) rfl; rwa [Nat.zero_add] at this)
  exact lv_iinc hx hb hdg hl.kit hkq hv hn rfl (fun ls' hl' => kk H locs ls' hP hD hS (pl_put1 (i := 0) (lv := some (.int x) :: tl) (v := .int v) hl' (by simp) (fun j w hj _ => absurd hj (by omega))))
theorem pb_iinc0N (g : GM Γ y cc nL rt k)  {x : Nat} {tl : List (Option Value)} (hdg : decode cc pc = .ok (.iinc 0 1, 3)) (hn : 0 < nL) (kk : PB Γ (pc + 3) (some (.int (nI (x + 1))) :: tl) st h)  : PB Γ pc (some (.int (nI x)) :: tl) st h := pb_iinc0 g hdg hn (nI_1 x) kk 
theorem pb_iinc1 (g : GM Γ y cc nL rt k) {a0 : Option Value} {x v : Int32} {n : Int} {tl : List (Option Value)} (hdg : decode cc pc = .ok (.iinc 1 n, 3)) (hn : 1 < nL) (hv : x + Int32.ofInt n = v) (kk : PB Γ (pc + 3) (a0 :: some (.int v) :: tl) st h) (hnl : pnl a0 = true := by rfl) : PB Γ pc (a0 :: some (.int x) :: tl) st h := by
  obtain ⟨⟨p, l, e, R, s, m⟩, ⟨args, below, meth, c⟩, ⟨D, ta, ad, sa, A⟩, cl, sl, Z⟩ := Γ
  obtain ⟨hx, hb, hml, hr, hlk, hown, hts, hR, hK, hA, hPS, hPN⟩ := g
  intro H locs ls hP hD hS hl
  subst hml
  obtain ⟨kq, hkq⟩ := List.getElem?_of_mem (by have := pl_prs_mem (cv := pcv ad sa) (a0 :: some (.int x) :: tl) 0 1 (.int x) rfl; rwa [Nat.zero_add] at this)
  exact lv_iinc hx hb hdg hl.kit hkq hv hn rfl (fun ls' hl' => kk H locs ls' hP hD hS (pl_put1 (i := 1) (lv := a0 :: some (.int x) :: tl) (v := .int v) hl' (by simp) (pnl_at (i := 0) rfl hnl)))
theorem pb_iinc1N (g : GM Γ y cc nL rt k) {a0 : Option Value} {x : Nat} {tl : List (Option Value)} (hdg : decode cc pc = .ok (.iinc 1 1, 3)) (hn : 1 < nL) (kk : PB Γ (pc + 3) (a0 :: some (.int (nI (x + 1))) :: tl) st h) (hnl : pnl a0 = true := by rfl) : PB Γ pc (a0 :: some (.int (nI x)) :: tl) st h := pb_iinc1 g hdg hn (nI_1 x) kk hnl
theorem pb_iinc2 (g : GM Γ y cc nL rt k) {a0 : Option Value} {a1 : Option Value} {x v : Int32} {n : Int} {tl : List (Option Value)} (hdg : decode cc pc = .ok (.iinc 2 n, 3)) (hn : 2 < nL) (hv : x + Int32.ofInt n = v) (kk : PB Γ (pc + 3) (a0 :: a1 :: some (.int v) :: tl) st h) (hnl : pnl a1 = true := by rfl) : PB Γ pc (a0 :: a1 :: some (.int x) :: tl) st h := by
  obtain ⟨⟨p, l, e, R, s, m⟩, ⟨args, below, meth, c⟩, ⟨D, ta, ad, sa, A⟩, cl, sl, Z⟩ := Γ
  obtain ⟨hx, hb, hml, hr, hlk, hown, hts, hR, hK, hA, hPS, hPN⟩ := g
  intro H locs ls hP hD hS hl
  subst hml
  obtain ⟨kq, hkq⟩ := List.getElem?_of_mem (by have := pl_prs_mem (cv := pcv ad sa) (a0 :: a1 :: some (.int x) :: tl) 0 2 (.int x) rfl; rwa [Nat.zero_add] at this)
  exact lv_iinc hx hb hdg hl.kit hkq hv hn rfl (fun ls' hl' => kk H locs ls' hP hD hS (pl_put1 (i := 2) (lv := a0 :: a1 :: some (.int x) :: tl) (v := .int v) hl' (by simp) (pnl_at (i := 1) rfl hnl)))
theorem pb_iinc2N (g : GM Γ y cc nL rt k) {a0 : Option Value} {a1 : Option Value} {x : Nat} {tl : List (Option Value)} (hdg : decode cc pc = .ok (.iinc 2 1, 3)) (hn : 2 < nL) (kk : PB Γ (pc + 3) (a0 :: a1 :: some (.int (nI (x + 1))) :: tl) st h) (hnl : pnl a1 = true := by rfl) : PB Γ pc (a0 :: a1 :: some (.int (nI x)) :: tl) st h := pb_iinc2 g hdg hn (nI_1 x) kk hnl
theorem pb_iinc3 (g : GM Γ y cc nL rt k) {a0 : Option Value} {a1 : Option Value} {a2 : Option Value} {x v : Int32} {n : Int} {tl : List (Option Value)} (hdg : decode cc pc = .ok (.iinc 3 n, 3)) (hn : 3 < nL) (hv : x + Int32.ofInt n = v) (kk : PB Γ (pc + 3) (a0 :: a1 :: a2 :: some (.int v) :: tl) st h) (hnl : pnl a2 = true := by rfl) : PB Γ pc (a0 :: a1 :: a2 :: some (.int x) :: tl) st h := by
  obtain ⟨⟨p, l, e, R, s, m⟩, ⟨args, below, meth, c⟩, ⟨D, ta, ad, sa, A⟩, cl, sl, Z⟩ := Γ
  obtain ⟨hx, hb, hml, hr, hlk, hown, hts, hR, hK, hA, hPS, hPN⟩ := g
  intro H locs ls hP hD hS hl
  subst hml
  obtain ⟨kq, hkq⟩ := List.getElem?_of_mem (by have := pl_prs_mem (cv := pcv ad sa) (a0 :: a1 :: a2 :: some (.int x) :: tl) 0 3 (.int x) rfl; rwa [Nat.zero_add] at this)
  exact lv_iinc hx hb hdg hl.kit hkq hv hn rfl (fun ls' hl' => kk H locs ls' hP hD hS (pl_put1 (i := 3) (lv := a0 :: a1 :: a2 :: some (.int x) :: tl) (v := .int v) hl' (by simp) (pnl_at (i := 2) rfl hnl)))
theorem pb_iinc3N (g : GM Γ y cc nL rt k) {a0 : Option Value} {a1 : Option Value} {a2 : Option Value} {x : Nat} {tl : List (Option Value)} (hdg : decode cc pc = .ok (.iinc 3 1, 3)) (hn : 3 < nL) (kk : PB Γ (pc + 3) (a0 :: a1 :: a2 :: some (.int (nI (x + 1))) :: tl) st h) (hnl : pnl a2 = true := by rfl) : PB Γ pc (a0 :: a1 :: a2 :: some (.int (nI x)) :: tl) st h := pb_iinc3 g hdg hn (nI_1 x) kk hnl
theorem pb_iinc4 (g : GM Γ y cc nL rt k) {a0 : Option Value} {a1 : Option Value} {a2 : Option Value} {a3 : Option Value} {x v : Int32} {n : Int} {tl : List (Option Value)} (hdg : decode cc pc = .ok (.iinc 4 n, 3)) (hn : 4 < nL) (hv : x + Int32.ofInt n = v) (kk : PB Γ (pc + 3) (a0 :: a1 :: a2 :: a3 :: some (.int v) :: tl) st h) (hnl : pnl a3 = true := by rfl) : PB Γ pc (a0 :: a1 :: a2 :: a3 :: some (.int x) :: tl) st h := by
  obtain ⟨⟨p, l, e, R, s, m⟩, ⟨args, below, meth, c⟩, ⟨D, ta, ad, sa, A⟩, cl, sl, Z⟩ := Γ
  obtain ⟨hx, hb, hml, hr, hlk, hown, hts, hR, hK, hA, hPS, hPN⟩ := g
  intro H locs ls hP hD hS hl
  subst hml
  obtain ⟨kq, hkq⟩ := List.getElem?_of_mem (by have := pl_prs_mem (cv := pcv ad sa) (a0 :: a1 :: a2 :: a3 :: some (.int x) :: tl) 0 4 (.int x) rfl; rwa [Nat.zero_add] at this)
  exact lv_iinc hx hb hdg hl.kit hkq hv hn rfl (fun ls' hl' => kk H locs ls' hP hD hS (pl_put1 (i := 4) (lv := a0 :: a1 :: a2 :: a3 :: some (.int x) :: tl) (v := .int v) hl' (by simp) (pnl_at (i := 3) rfl hnl)))
theorem pb_iinc4N (g : GM Γ y cc nL rt k) {a0 : Option Value} {a1 : Option Value} {a2 : Option Value} {a3 : Option Value} {x : Nat} {tl : List (Option Value)} (hdg : decode cc pc = .ok (.iinc 4 1, 3)) (hn : 4 < nL) (kk : PB Γ (pc + 3) (a0 :: a1 :: a2 :: a3 :: some (.int (nI (x + 1))) :: tl) st h) (hnl : pnl a3 = true := by rfl) : PB Γ pc (a0 :: a1 :: a2 :: a3 :: some (.int (nI x)) :: tl) st h := pb_iinc4 g hdg hn (nI_1 x) kk hnl
theorem pb_iinc5 (g : GM Γ y cc nL rt k) {a0 : Option Value} {a1 : Option Value} {a2 : Option Value} {a3 : Option Value} {a4 : Option Value} {x v : Int32} {n : Int} {tl : List (Option Value)} (hdg : decode cc pc = .ok (.iinc 5 n, 3)) (hn : 5 < nL) (hv : x + Int32.ofInt n = v) (kk : PB Γ (pc + 3) (a0 :: a1 :: a2 :: a3 :: a4 :: some (.int v) :: tl) st h) (hnl : pnl a4 = true := by rfl) : PB Γ pc (a0 :: a1 :: a2 :: a3 :: a4 :: some (.int x) :: tl) st h := by
  obtain ⟨⟨p, l, e, R, s, m⟩, ⟨args, below, meth, c⟩, ⟨D, ta, ad, sa, A⟩, cl, sl, Z⟩ := Γ
  obtain ⟨hx, hb, hml, hr, hlk, hown, hts, hR, hK, hA, hPS, hPN⟩ := g
  intro H locs ls hP hD hS hl
  subst hml
  obtain ⟨kq, hkq⟩ := List.getElem?_of_mem (by have := pl_prs_mem (cv := pcv ad sa) (a0 :: a1 :: a2 :: a3 :: a4 :: some (.int x) :: tl) 0 5 (.int x) rfl; rwa [Nat.zero_add] at this)
  exact lv_iinc hx hb hdg hl.kit hkq hv hn rfl (fun ls' hl' => kk H locs ls' hP hD hS (pl_put1 (i := 5) (lv := a0 :: a1 :: a2 :: a3 :: a4 :: some (.int x) :: tl) (v := .int v) hl' (by simp) (pnl_at (i := 4) rfl hnl)))
theorem pb_iinc5N (g : GM Γ y cc nL rt k) {a0 : Option Value} {a1 : Option Value} {a2 : Option Value} {a3 : Option Value} {a4 : Option Value} {x : Nat} {tl : List (Option Value)} (hdg : decode cc pc = .ok (.iinc 5 1, 3)) (hn : 5 < nL) (kk : PB Γ (pc + 3) (a0 :: a1 :: a2 :: a3 :: a4 :: some (.int (nI (x + 1))) :: tl) st h) (hnl : pnl a4 = true := by rfl) : PB Γ pc (a0 :: a1 :: a2 :: a3 :: a4 :: some (.int (nI x)) :: tl) st h := pb_iinc5 g hdg hn (nI_1 x) kk hnl
theorem pb_iinc6 (g : GM Γ y cc nL rt k) {a0 : Option Value} {a1 : Option Value} {a2 : Option Value} {a3 : Option Value} {a4 : Option Value} {a5 : Option Value} {x v : Int32} {n : Int} {tl : List (Option Value)} (hdg : decode cc pc = .ok (.iinc 6 n, 3)) (hn : 6 < nL) (hv : x + Int32.ofInt n = v) (kk : PB Γ (pc + 3) (a0 :: a1 :: a2 :: a3 :: a4 :: a5 :: some (.int v) :: tl) st h) (hnl : pnl a5 = true := by rfl) : PB Γ pc (a0 :: a1 :: a2 :: a3 :: a4 :: a5 :: some (.int x) :: tl) st h := by
  obtain ⟨⟨p, l, e, R, s, m⟩, ⟨args, below, meth, c⟩, ⟨D, ta, ad, sa, A⟩, cl, sl, Z⟩ := Γ
  obtain ⟨hx, hb, hml, hr, hlk, hown, hts, hR, hK, hA, hPS, hPN⟩ := g
  intro H locs ls hP hD hS hl
  subst hml
  obtain ⟨kq, hkq⟩ := List.getElem?_of_mem (by have := pl_prs_mem (cv := pcv ad sa) (a0 :: a1 :: a2 :: a3 :: a4 :: a5 :: some (.int x) :: tl) 0 6 (.int x) rfl; rwa [Nat.zero_add] at this)
  exact lv_iinc hx hb hdg hl.kit hkq hv hn rfl (fun ls' hl' => kk H locs ls' hP hD hS (pl_put1 (i := 6) (lv := a0 :: a1 :: a2 :: a3 :: a4 :: a5 :: some (.int x) :: tl) (v := .int v) hl' (by simp) (pnl_at (i := 5) rfl hnl)))
theorem pb_iinc6N (g : GM Γ y cc nL rt k) {a0 : Option Value} {a1 : Option Value} {a2 : Option Value} {a3 : Option Value} {a4 : Option Value} {a5 : Option Value} {x : Nat} {tl : List (Option Value)} (hdg : decode cc pc = .ok (.iinc 6 1, 3)) (hn : 6 < nL) (kk : PB Γ (pc + 3) (a0 :: a1 :: a2 :: a3 :: a4 :: a5 :: some (.int (nI (x + 1))) :: tl) st h) (hnl : pnl a5 = true := by rfl) : PB Γ pc (a0 :: a1 :: a2 :: a3 :: a4 :: a5 :: some (.int (nI x)) :: tl) st h := pb_iinc6 g hdg hn (nI_1 x) kk hnl
theorem pb_iinc7 (g : GM Γ y cc nL rt k) {a0 : Option Value} {a1 : Option Value} {a2 : Option Value} {a3 : Option Value} {a4 : Option Value} {a5 : Option Value} {a6 : Option Value} {x v : Int32} {n : Int} {tl : List (Option Value)} (hdg : decode cc pc = .ok (.iinc 7 n, 3)) (hn : 7 < nL) (hv : x + Int32.ofInt n = v) (kk : PB Γ (pc + 3) (a0 :: a1 :: a2 :: a3 :: a4 :: a5 :: a6 :: some (.int v) :: tl) st h) (hnl : pnl a6 = true := by rfl) : PB Γ pc (a0 :: a1 :: a2 :: a3 :: a4 :: a5 :: a6 :: some (.int x) :: tl) st h := by
  obtain ⟨⟨p, l, e, R, s, m⟩, ⟨args, below, meth, c⟩, ⟨D, ta, ad, sa, A⟩, cl, sl, Z⟩ := Γ
  obtain ⟨hx, hb, hml, hr, hlk, hown, hts, hR, hK, hA, hPS, hPN⟩ := g
  intro H locs ls hP hD hS hl
  subst hml
  obtain ⟨kq, hkq⟩ := List.getElem?_of_mem (by have := pl_prs_mem (cv := pcv ad sa) (a0 :: a1 :: a2 :: a3 :: a4 :: a5 :: a6 :: some (.int x) :: tl) 0 7 (.int x) rfl; rwa [Nat.zero_add] at this)
  exact lv_iinc hx hb hdg hl.kit hkq hv hn rfl (fun ls' hl' => kk H locs ls' hP hD hS (pl_put1 (i := 7) (lv := a0 :: a1 :: a2 :: a3 :: a4 :: a5 :: a6 :: some (.int x) :: tl) (v := .int v) hl' (by simp) (pnl_at (i := 6) rfl hnl)))
theorem pb_iinc7N (g : GM Γ y cc nL rt k) {a0 : Option Value} {a1 : Option Value} {a2 : Option Value} {a3 : Option Value} {a4 : Option Value} {a5 : Option Value} {a6 : Option Value} {x : Nat} {tl : List (Option Value)} (hdg : decode cc pc = .ok (.iinc 7 1, 3)) (hn : 7 < nL) (kk : PB Γ (pc + 3) (a0 :: a1 :: a2 :: a3 :: a4 :: a5 :: a6 :: some (.int (nI (x + 1))) :: tl) st h) (hnl : pnl a6 = true := by rfl) : PB Γ pc (a0 :: a1 :: a2 :: a3 :: a4 :: a5 :: a6 :: some (.int (nI x)) :: tl) st h := pb_iinc7 g hdg hn (nI_1 x) kk hnl
theorem pb_iinc8 (g : GM Γ y cc nL rt k) {a0 : Option Value} {a1 : Option Value} {a2 : Option Value} {a3 : Option Value} {a4 : Option Value} {a5 : Option Value} {a6 : Option Value} {a7 : Option Value} {x v : Int32} {n : Int} {tl : List (Option Value)} (hdg : decode cc pc = .ok (.iinc 8 n, 3)) (hn : 8 < nL) (hv : x + Int32.ofInt n = v) (kk : PB Γ (pc + 3) (a0 :: a1 :: a2 :: a3 :: a4 :: a5 :: a6 :: a7 :: some (.int v) :: tl) st h) (hnl : pnl a7 = true := by rfl) : PB Γ pc (a0 :: a1 :: a2 :: a3 :: a4 :: a5 :: a6 :: a7 :: some (.int x) :: tl) st h := by
  obtain ⟨⟨p, l, e, R, s, m⟩, ⟨args, below, meth, c⟩, ⟨D, ta, ad, sa, A⟩, cl, sl, Z⟩ := Γ
  obtain ⟨hx, hb, hml, hr, hlk, hown, hts, hR, hK, hA, hPS, hPN⟩ := g
  intro H locs ls hP hD hS hl
  subst hml
  obtain ⟨kq, hkq⟩ := List.getElem?_of_mem (by have := pl_prs_mem (cv := pcv ad sa) (a0 :: a1 :: a2 :: a3 :: a4 :: a5 :: a6 :: a7 :: some (.int x) :: tl) 0 8 (.int x) rfl; rwa [Nat.zero_add] at this)
  exact lv_iinc hx hb hdg hl.kit hkq hv hn rfl (fun ls' hl' => kk H locs ls' hP hD hS (pl_put1 (i := 8) (lv := a0 :: a1 :: a2 :: a3 :: a4 :: a5 :: a6 :: a7 :: some (.int x) :: tl) (v := .int v) hl' (by simp) (pnl_at (i := 7) rfl hnl)))
theorem pb_iinc8N (g : GM Γ y cc nL rt k) {a0 : Option Value} {a1 : Option Value} {a2 : Option Value} {a3 : Option Value} {a4 : Option Value} {a5 : Option Value} {a6 : Option Value} {a7 : Option Value} {x : Nat} {tl : List (Option Value)} (hdg : decode cc pc = .ok (.iinc 8 1, 3)) (hn : 8 < nL) (kk : PB Γ (pc + 3) (a0 :: a1 :: a2 :: a3 :: a4 :: a5 :: a6 :: a7 :: some (.int (nI (x + 1))) :: tl) st h) (hnl : pnl a7 = true := by rfl) : PB Γ pc (a0 :: a1 :: a2 :: a3 :: a4 :: a5 :: a6 :: a7 :: some (.int (nI x)) :: tl) st h := pb_iinc8 g hdg hn (nI_1 x) kk hnl
theorem pb_iinc9 (g : GM Γ y cc nL rt k) {a0 : Option Value} {a1 : Option Value} {a2 : Option Value} {a3 : Option Value} {a4 : Option Value} {a5 : Option Value} {a6 : Option Value} {a7 : Option Value} {a8 : Option Value} {x v : Int32} {n : Int} {tl : List (Option Value)} (hdg : decode cc pc = .ok (.iinc 9 n, 3)) (hn : 9 < nL) (hv : x + Int32.ofInt n = v) (kk : PB Γ (pc + 3) (a0 :: a1 :: a2 :: a3 :: a4 :: a5 :: a6 :: a7 :: a8 :: some (.int v) :: tl) st h) (hnl : pnl a8 = true := by rfl) : PB Γ pc (a0 :: a1 :: a2 :: a3 :: a4 :: a5 :: a6 :: a7 :: a8 :: some (.int x) :: tl) st h := by
  obtain ⟨⟨p, l, e, R, s, m⟩, ⟨args, below, meth, c⟩, ⟨D, ta, ad, sa, A⟩, cl, sl, Z⟩ := Γ
  obtain ⟨hx, hb, hml, hr, hlk, hown, hts, hR, hK, hA, hPS, hPN⟩ := g
  intro H locs ls hP hD hS hl
  subst hml
  obtain ⟨kq, hkq⟩ := List.getElem?_of_mem (by have := pl_prs_mem (cv := pcv ad sa) (a0 :: a1 :: a2 :: a3 :: a4 :: a5 :: a6 :: a7 :: a8 :: some (.int x) :: tl) 0 9 (.int x) rfl; rwa [Nat.zero_add] at this)
  exact lv_iinc hx hb hdg hl.kit hkq hv hn rfl (fun ls' hl' => kk H locs ls' hP hD hS (pl_put1 (i := 9) (lv := a0 :: a1 :: a2 :: a3 :: a4 :: a5 :: a6 :: a7 :: a8 :: some (.int x) :: tl) (v := .int v) hl' (by simp) (pnl_at (i := 8) rfl hnl)))
theorem pb_iinc9N (g : GM Γ y cc nL rt k) {a0 : Option Value} {a1 : Option Value} {a2 : Option Value} {a3 : Option Value} {a4 : Option Value} {a5 : Option Value} {a6 : Option Value} {a7 : Option Value} {a8 : Option Value} {x : Nat} {tl : List (Option Value)} (hdg : decode cc pc = .ok (.iinc 9 1, 3)) (hn : 9 < nL) (kk : PB Γ (pc + 3) (a0 :: a1 :: a2 :: a3 :: a4 :: a5 :: a6 :: a7 :: a8 :: some (.int (nI (x + 1))) :: tl) st h) (hnl : pnl a8 = true := by rfl) : PB Γ pc (a0 :: a1 :: a2 :: a3 :: a4 :: a5 :: a6 :: a7 :: a8 :: some (.int (nI x)) :: tl) st h := pb_iinc9 g hdg hn (nI_1 x) kk hnl
theorem pb_iinc10 (g : GM Γ y cc nL rt k) {a0 : Option Value} {a1 : Option Value} {a2 : Option Value} {a3 : Option Value} {a4 : Option Value} {a5 : Option Value} {a6 : Option Value} {a7 : Option Value} {a8 : Option Value} {a9 : Option Value} {x v : Int32} {n : Int} {tl : List (Option Value)} (hdg : decode cc pc = .ok (.iinc 10 n, 3)) (hn : 10 < nL) (hv : x + Int32.ofInt n = v) (kk : PB Γ (pc + 3) (a0 :: a1 :: a2 :: a3 :: a4 :: a5 :: a6 :: a7 :: a8 :: a9 :: some (.int v) :: tl) st h) (hnl : pnl a9 = true := by rfl) : PB Γ pc (a0 :: a1 :: a2 :: a3 :: a4 :: a5 :: a6 :: a7 :: a8 :: a9 :: some (.int x) :: tl) st h := by
  obtain ⟨⟨p, l, e, R, s, m⟩, ⟨args, below, meth, c⟩, ⟨D, ta, ad, sa, A⟩, cl, sl, Z⟩ := Γ
  obtain ⟨hx, hb, hml, hr, hlk, hown, hts, hR, hK, hA, hPS, hPN⟩ := g
  intro H locs ls hP hD hS hl
  subst hml
  obtain ⟨kq, hkq⟩ := List.getElem?_of_mem (by have := pl_prs_mem (cv := pcv ad sa) (a0 :: a1 :: a2 :: a3 :: a4 :: a5 :: a6 :: a7 :: a8 :: a9 :: some (.int x) :: tl) 0 10 (.int x) rfl; rwa [Nat.zero_add] at this)
  exact lv_iinc hx hb hdg hl.kit hkq hv hn rfl (fun ls' hl' => kk H locs ls' hP hD hS (pl_put1 (i := 10) (lv := a0 :: a1 :: a2 :: a3 :: a4 :: a5 :: a6 :: a7 :: a8 :: a9 :: some (.int x) :: tl) (v := .int v) hl' (by simp) (pnl_at (i := 9) rfl hnl)))
theorem pb_iinc10N (g : GM Γ y cc nL rt k) {a0 : Option Value} {a1 : Option Value} {a2 : Option Value} {a3 : Option Value} {a4 : Option Value} {a5 : Option Value} {a6 : Option Value} {a7 : Option Value} {a8 : Option Value} {a9 : Option Value} {x : Nat} {tl : List (Option Value)} (hdg : decode cc pc = .ok (.iinc 10 1, 3)) (hn : 10 < nL) (kk : PB Γ (pc + 3) (a0 :: a1 :: a2 :: a3 :: a4 :: a5 :: a6 :: a7 :: a8 :: a9 :: some (.int (nI (x + 1))) :: tl) st h) (hnl : pnl a9 = true := by rfl) : PB Γ pc (a0 :: a1 :: a2 :: a3 :: a4 :: a5 :: a6 :: a7 :: a8 :: a9 :: some (.int (nI x)) :: tl) st h := pb_iinc10 g hdg hn (nI_1 x) kk hnl
theorem pb_iinc11 (g : GM Γ y cc nL rt k) {a0 : Option Value} {a1 : Option Value} {a2 : Option Value} {a3 : Option Value} {a4 : Option Value} {a5 : Option Value} {a6 : Option Value} {a7 : Option Value} {a8 : Option Value} {a9 : Option Value} {a10 : Option Value} {x v : Int32} {n : Int} {tl : List (Option Value)} (hdg : decode cc pc = .ok (.iinc 11 n, 3)) (hn : 11 < nL) (hv : x + Int32.ofInt n = v) (kk : PB Γ (pc + 3) (a0 :: a1 :: a2 :: a3 :: a4 :: a5 :: a6 :: a7 :: a8 :: a9 :: a10 :: some (.int v) :: tl) st h) (hnl : pnl a10 = true := by rfl) : PB Γ pc (a0 :: a1 :: a2 :: a3 :: a4 :: a5 :: a6 :: a7 :: a8 :: a9 :: a10 :: some (.int x) :: tl) st h := by
  obtain ⟨⟨p, l, e, R, s, m⟩, ⟨args, below, meth, c⟩, ⟨D, ta, ad, sa, A⟩, cl, sl, Z⟩ := Γ
  obtain ⟨hx, hb, hml, hr, hlk, hown, hts, hR, hK, hA, hPS, hPN⟩ := g
  intro H locs ls hP hD hS hl
  subst hml
  obtain ⟨kq, hkq⟩ := List.getElem?_of_mem (by have := pl_prs_mem (cv := pcv ad sa) (a0 :: a1 :: a2 :: a3 :: a4 :: a5 :: a6 :: a7 :: a8 :: a9 :: a10 :: some (.int x) :: tl) 0 11 (.int x) rfl; rwa [Nat.zero_add] at this)
  exact lv_iinc hx hb hdg hl.kit hkq hv hn rfl (fun ls' hl' => kk H locs ls' hP hD hS (pl_put1 (i := 11) (lv := a0 :: a1 :: a2 :: a3 :: a4 :: a5 :: a6 :: a7 :: a8 :: a9 :: a10 :: some (.int x) :: tl) (v := .int v) hl' (by simp) (pnl_at (i := 10) rfl hnl)))
theorem pb_iinc11N (g : GM Γ y cc nL rt k) {a0 : Option Value} {a1 : Option Value} {a2 : Option Value} {a3 : Option Value} {a4 : Option Value} {a5 : Option Value} {a6 : Option Value} {a7 : Option Value} {a8 : Option Value} {a9 : Option Value} {a10 : Option Value} {x : Nat} {tl : List (Option Value)} (hdg : decode cc pc = .ok (.iinc 11 1, 3)) (hn : 11 < nL) (kk : PB Γ (pc + 3) (a0 :: a1 :: a2 :: a3 :: a4 :: a5 :: a6 :: a7 :: a8 :: a9 :: a10 :: some (.int (nI (x + 1))) :: tl) st h) (hnl : pnl a10 = true := by rfl) : PB Γ pc (a0 :: a1 :: a2 :: a3 :: a4 :: a5 :: a6 :: a7 :: a8 :: a9 :: a10 :: some (.int (nI x)) :: tl) st h := pb_iinc11 g hdg hn (nI_1 x) kk hnl
theorem pb_iinc12 (g : GM Γ y cc nL rt k) {a0 : Option Value} {a1 : Option Value} {a2 : Option Value} {a3 : Option Value} {a4 : Option Value} {a5 : Option Value} {a6 : Option Value} {a7 : Option Value} {a8 : Option Value} {a9 : Option Value} {a10 : Option Value} {a11 : Option Value} {x v : Int32} {n : Int} {tl : List (Option Value)} (hdg : decode cc pc = .ok (.iinc 12 n, 3)) (hn : 12 < nL) (hv : x + Int32.ofInt n = v) (kk : PB Γ (pc + 3) (a0 :: a1 :: a2 :: a3 :: a4 :: a5 :: a6 :: a7 :: a8 :: a9 :: a10 :: a11 :: some (.int v) :: tl) st h) (hnl : pnl a11 = true := by rfl) : PB Γ pc (a0 :: a1 :: a2 :: a3 :: a4 :: a5 :: a6 :: a7 :: a8 :: a9 :: a10 :: a11 :: some (.int x) :: tl) st h := by
  obtain ⟨⟨p, l, e, R, s, m⟩, ⟨args, below, meth, c⟩, ⟨D, ta, ad, sa, A⟩, cl, sl, Z⟩ := Γ
  obtain ⟨hx, hb, hml, hr, hlk, hown, hts, hR, hK, hA, hPS, hPN⟩ := g
  intro H locs ls hP hD hS hl
  subst hml
  obtain ⟨kq, hkq⟩ := List.getElem?_of_mem (by have := pl_prs_mem (cv := pcv ad sa) (a0 :: a1 :: a2 :: a3 :: a4 :: a5 :: a6 :: a7 :: a8 :: a9 :: a10 :: a11 :: some (.int x) :: tl) 0 12 (.int x) rfl; rwa [Nat.zero_add] at this)
  exact lv_iinc hx hb hdg hl.kit hkq hv hn rfl (fun ls' hl' => kk H locs ls' hP hD hS (pl_put1 (i := 12) (lv := a0 :: a1 :: a2 :: a3 :: a4 :: a5 :: a6 :: a7 :: a8 :: a9 :: a10 :: a11 :: some (.int x) :: tl) (v := .int v) hl' (by simp) (pnl_at (i := 11) rfl hnl)))
theorem pb_iinc12N (g : GM Γ y cc nL rt k) {a0 : Option Value} {a1 : Option Value} {a2 : Option Value} {a3 : Option Value} {a4 : Option Value} {a5 : Option Value} {a6 : Option Value} {a7 : Option Value} {a8 : Option Value} {a9 : Option Value} {a10 : Option Value} {a11 : Option Value} {x : Nat} {tl : List (Option Value)} (hdg : decode cc pc = .ok (.iinc 12 1, 3)) (hn : 12 < nL) (kk : PB Γ (pc + 3) (a0 :: a1 :: a2 :: a3 :: a4 :: a5 :: a6 :: a7 :: a8 :: a9 :: a10 :: a11 :: some (.int (nI (x + 1))) :: tl) st h) (hnl : pnl a11 = true := by rfl) : PB Γ pc (a0 :: a1 :: a2 :: a3 :: a4 :: a5 :: a6 :: a7 :: a8 :: a9 :: a10 :: a11 :: some (.int (nI x)) :: tl) st h := pb_iinc12 g hdg hn (nI_1 x) kk hnl
theorem pb_iinc13 (g : GM Γ y cc nL rt k) {a0 : Option Value} {a1 : Option Value} {a2 : Option Value} {a3 : Option Value} {a4 : Option Value} {a5 : Option Value} {a6 : Option Value} {a7 : Option Value} {a8 : Option Value} {a9 : Option Value} {a10 : Option Value} {a11 : Option Value} {a12 : Option Value} {x v : Int32} {n : Int} {tl : List (Option Value)} (hdg : decode cc pc = .ok (.iinc 13 n, 3)) (hn : 13 < nL) (hv : x + Int32.ofInt n = v) (kk : PB Γ (pc + 3) (a0 :: a1 :: a2 :: a3 :: a4 :: a5 :: a6 :: a7 :: a8 :: a9 :: a10 :: a11 :: a12 :: some (.int v) :: tl) st h) (hnl : pnl a12 = true := by rfl) : PB Γ pc (a0 :: a1 :: a2 :: a3 :: a4 :: a5 :: a6 :: a7 :: a8 :: a9 :: a10 :: a11 :: a12 :: some (.int x) :: tl) st h := by
  obtain ⟨⟨p, l, e, R, s, m⟩, ⟨args, below, meth, c⟩, ⟨D, ta, ad, sa, A⟩, cl, sl, Z⟩ := Γ
  obtain ⟨hx, hb, hml, hr, hlk, hown, hts, hR, hK, hA, hPS, hPN⟩ := g
  intro H locs ls hP hD hS hl
  subst hml
  obtain ⟨kq, hkq⟩ := List.getElem?_of_mem (by have := pl_prs_mem (cv := pcv ad sa) (a0 :: a1 :: a2 :: a3 :: a4 :: a5 :: a6 :: a7 :: a8 :: a9 :: a10 :: a11 :: a12 :: some (.int x) :: tl) 0 13 (.int x) rfl; rwa [Nat.zero_add] at this)
  exact lv_iinc hx hb hdg hl.kit hkq hv hn rfl (fun ls' hl' => kk H locs ls' hP hD hS (pl_put1 (i := 13) (lv := a0 :: a1 :: a2 :: a3 :: a4 :: a5 :: a6 :: a7 :: a8 :: a9 :: a10 :: a11 :: a12 :: some (.int x) :: tl) (v := .int v) hl' (by simp) (pnl_at (i := 12) rfl hnl)))
theorem pb_iinc13N (g : GM Γ y cc nL rt k) {a0 : Option Value} {a1 : Option Value} {a2 : Option Value} {a3 : Option Value} {a4 : Option Value} {a5 : Option Value} {a6 : Option Value} {a7 : Option Value} {a8 : Option Value} {a9 : Option Value} {a10 : Option Value} {a11 : Option Value} {a12 : Option Value} {x : Nat} {tl : List (Option Value)} (hdg : decode cc pc = .ok (.iinc 13 1, 3)) (hn : 13 < nL) (kk : PB Γ (pc + 3) (a0 :: a1 :: a2 :: a3 :: a4 :: a5 :: a6 :: a7 :: a8 :: a9 :: a10 :: a11 :: a12 :: some (.int (nI (x + 1))) :: tl) st h) (hnl : pnl a12 = true := by rfl) : PB Γ pc (a0 :: a1 :: a2 :: a3 :: a4 :: a5 :: a6 :: a7 :: a8 :: a9 :: a10 :: a11 :: a12 :: some (.int (nI x)) :: tl) st h := pb_iinc13 g hdg hn (nI_1 x) kk hnl
end PBS
