/-! ===== the orders that perfect shuffles make: pure facts ===== -/
theorem ls4_sm : (BitVec.ofNat 64 4).smod 64 = BitVec.ofNat 64 4 := by decide
theorem lsh_ok (v : Nat) : lN v <<< ((nI 4).toInt64 &&& 63) = lN (v * 16) := by
  rw [show ((nI 4).toInt64 &&& 63) = lN 4 by decide]
  apply Int64.toBitVec_inj.mp
  rw [Int64.toBitVec_shiftLeft]
  show BitVec.ofNat 64 v <<< ((BitVec.ofNat 64 4).smod 64) = BitVec.ofNat 64 (v * 16)
  rw [ls4_sm]
  apply BitVec.eq_of_toNat_eq
  rw [BitVec.shiftLeft_eq', BitVec.toNat_shiftLeft, BitVec.toNat_ofNat, BitVec.toNat_ofNat, BitVec.toNat_ofNat, Nat.mod_eq_of_lt (show 4 < 2 ^ 64 by omega), Nat.shiftLeft_eq, Nat.mul_mod, Nat.mod_mod, ← Nat.mul_mod]
theorem lor_ok (a b : Nat) : lN a ||| lN b = lN (a ||| b) := by
  apply Int64.toBitVec.inj
  show BitVec.ofNat 64 a ||| BitVec.ofNat 64 b = BitVec.ofNat 64 (a ||| b)
  apply BitVec.eq_of_getLsbD_eq
  intro i hi
  simp [BitVec.getLsbD_ofNat, hi]
theorem or_add {v d : Nat} (hd : d < 16) : v * 16 ||| d = v * 16 + d := by
  have h := Nat.two_pow_add_eq_or_of_lt (i := 4) (b := d) (by omega) v
  rw [Nat.mul_comm v 16]
  exact h.symm
theorem sh_amt : ∀ s, s < 64 → (((nI s).toInt64 &&& 63).toBitVec.smod 64).toNat = s := by decide +kernel
theorem lsr_ok {a s : Nat} (ha : a < 2 ^ 62) (hs : s < 64) : lN a >>> ((nI s).toInt64 &&& 63) = lN (a / 2 ^ s) := by
  have hd : a / 2 ^ s ≤ a := Nat.div_le_self _ _
  apply Int64.toInt_inj.mp
  have key : ∀ D : Int64, (D.toBitVec.smod 64).toNat = s → (lN a >>> D).toInt = (lN a).toInt >>> s := fun D hD => by
    rw [← hD]
    exact BitVec.toInt_sshiftRight ..
  have e := key _ (sh_amt s hs)
  rw [e, Int.shiftRight_eq_div_pow, pk_lT (by omega), pk_lT (by omega)]
  rfl
theorem lan_ok {a : Nat} (ha : a < 2 ^ 63) : lN a &&& lN 15 = lN (a % 16) := by
  apply Int64.toBitVec_inj.mp
  show BitVec.ofNat 64 a &&& BitVec.ofNat 64 15 = BitVec.ofNat 64 (a % 16)
  apply BitVec.eq_of_toNat_eq
  rw [BitVec.toNat_and, BitVec.toNat_ofNat, BitVec.toNat_ofNat, BitVec.toNat_ofNat, Nat.mod_eq_of_lt (show a < 2 ^ 64 by omega), Nat.mod_eq_of_lt (show 15 < 2 ^ 64 by omega), Nat.mod_eq_of_lt (show a % 16 < 2 ^ 64 by omega)]
  exact Nat.and_two_pow_sub_one_eq_mod a 4
/-- an order as one number -/
def pkN (l : Nat → Nat) : Nat → Nat
  | 0 => 0
  | i + 1 => pkN l i * 16 + l i
theorem pk_lt16 {l : Nat → Nat} {n : Nat} (hb : ∀ c, c < n → l c < 16) : ∀ i, i ≤ n → pkN l i < 16 ^ i
  | 0, _ => by
    show 0 < 1
    omega
  | i + 1, h => by
    have h1 := pk_lt16 hb i (by omega)
    have h2 := hb i (by omega)
    rw [pkN, Nat.pow_succ]
    omega
theorem pk_sm (l : Nat → Nat) : ∀ n, pkN l n = smF (fun c => l c * 16 ^ (n - 1 - c)) n
  | 0 => rfl
  | n + 1 => by
    rw [pkN, pk_sm l n, Nat.mul_comm, sm_mul]
    show smF (fun i => 16 * (l i * 16 ^ (n - 1 - i))) n + l n = smF (fun c => l c * 16 ^ (n + 1 - 1 - c)) n + l n * 16 ^ (n + 1 - 1 - n)
    rw [show n + 1 - 1 - n = 0 by omega, Nat.pow_zero, Nat.mul_one]
    congr 1
    refine sm_congr n (fun c hc => ?_)
    rw [show n + 1 - 1 - c = (n - 1 - c) + 1 by omega, Nat.pow_succ]
    ac_rfl
/-- a perfect shuffle of an order that is one number -/
def stp (n w v : Nat) : Nat := smF (fun i => v / 16 ^ (n - 1 - i) % 16 * 16 ^ (n - 1 - carF n i w)) n
theorem pk_stp {n w v : Nat} {l : Nat → Nat} (he : n % 2 = 0) (hw : w < 2) (hl : ∀ i, i < n → l (carF n i w) = v / 16 ^ (n - 1 - i) % 16) : pkN l n = stp n w v := by
  rw [pk_sm, ← sm_perm (carF_pm (n := n) he hw) (fun c => l c * 16 ^ (n - 1 - c)), stp]
  exact sm_congr n (fun i hi => by rw [hl i hi])
def inC : List (Nat × Nat) → Nat → Bool
  | [], _ => false
  | p :: l, x => Nat.beq p.1 x || inC l x
def inR : List (Nat × List (Nat × Nat)) → Nat → Bool
  | [], _ => false
  | q :: r, x => cond (Nat.ble x q.1) (inC q.2 x) (inR r x)
def flR (r : List (Nat × List (Nat × Nat))) : List (Nat × Nat) := r.flatMap (fun q => q.2)
def rlR (r : List (Nat × List (Nat × Nat))) : List Nat := (flR r).map (fun p => p.1)
def alR (P : Nat → Nat → Bool) (r : List (Nat × List (Nat × Nat))) : Bool := r.all (fun q => q.2.all (fun p => P p.1 p.2))
def wkF (st : Nat → Nat → Nat) (v0 : Nat) : Nat → Nat → Nat
  | 0, _ => v0
  | d + 1, m => cond (Nat.ble m 1) v0 (st (m % 2) (wkF st v0 d (m / 2)))
def icr : Nat → List (Nat × Nat) → Bool
  | _, [] => true
  | b, p :: l => Nat.ble b p.1 && icr (p.1 + 1) l
theorem inC_mem : ∀ (l : List (Nat × Nat)) (x : Nat), inC l x = true → x ∈ l.map (fun p => p.1)
  | [], x, h => by cases h
  | p :: l, x, h => by
    have h : (Nat.beq p.1 x || inC l x) = true := h
    rw [Bool.or_eq_true] at h
    rcases h with h | h
    · rw [List.map_cons, ← Nat.eq_of_beq_eq_true h]
      exact List.mem_cons_self
    · rw [List.map_cons]
      exact List.mem_cons_of_mem _ (inC_mem l x h)
theorem inR_mem : ∀ (r : List (Nat × List (Nat × Nat))) (x : Nat), inR r x = true → x ∈ rlR r
  | [], x, h => by cases h
  | q :: r, x, h => by
    have h : cond (Nat.ble x q.1) (inC q.2 x) (inR r x) = true := h
    have e : rlR (q :: r) = q.2.map (fun p => p.1) ++ rlR r := by
      show ((q :: r).flatMap (fun q => q.2)).map (fun p => p.1) = _
      rw [List.flatMap_cons, List.map_append]
      rfl
    rw [e]
    cases hb : Nat.ble x q.1 with
    | true =>
      rw [hb] at h
      exact List.mem_append_left _ (inC_mem q.2 x h)
    | false =>
      rw [hb] at h
      exact List.mem_append_right _ (inR_mem r x h)
theorem alR_of {P : Nat → Nat → Bool} {r : List (Nat × List (Nat × Nat))} (h : alR P r = true) : ∀ v ∈ rlR r, ∃ m, P v m = true := by
  intro v hv
  obtain ⟨p, hp, rfl⟩ := List.mem_map.mp hv
  obtain ⟨q, hq, hpq⟩ := List.mem_flatMap.mp hp
  exact ⟨p.2, List.all_eq_true.mp (List.all_eq_true.mp h q hq) p hpq⟩
theorem icr_of : ∀ (l : List (Nat × Nat)) (b : Nat), icr b l = true → (∀ i, i < l.length → b ≤ (l.map (fun p => p.1)).getD i 0) ∧ ∀ i j, i < j → j < l.length → (l.map (fun p => p.1)).getD i 0 < (l.map (fun p => p.1)).getD j 0
  | [], b, _ => ⟨fun i hi => absurd hi (Nat.not_lt_zero i), fun i j _ hj => absurd hj (Nat.not_lt_zero j)⟩
  | p :: l, b, h => by
    have h : (Nat.ble b p.1 && icr (p.1 + 1) l) = true := h
    rw [Bool.and_eq_true] at h
    obtain ⟨h1, h2⟩ := icr_of l (p.1 + 1) h.2
    have hb := Nat.le_of_ble_eq_true h.1
    refine ⟨fun i hi => ?_, fun i j hij hj => ?_⟩
    · cases i with
      | zero => exact hb
      | succ i =>
        have h3 : p.1 + 1 ≤ (l.map (fun p => p.1)).getD i 0 := h1 i (Nat.lt_of_succ_lt_succ hi)
        show b ≤ (l.map (fun p => p.1)).getD i 0
        omega
    · cases j with
      | zero => exact absurd hij (Nat.not_lt_zero i)
      | succ j =>
        have hj := Nat.lt_of_succ_lt_succ hj
        cases i with
        | zero =>
          have h3 : p.1 + 1 ≤ (l.map (fun p => p.1)).getD j 0 := h1 j hj
          show p.1 < (l.map (fun p => p.1)).getD j 0
          omega
        | succ i => exact h2 i j (Nat.lt_of_succ_lt_succ hij) hj
/-- L lists just the orders that perfect shuffles make -/
def OrbOK (n : Nat) (L : List Nat) : Prop := (L.length = gpF n ∧ pkN (fun i => i) n ∈ L) ∧ (∀ v, v ∈ L → v < 2 ^ 60) ∧ (∀ v, v ∈ L → ∀ w, w < 2 → stp n w v ∈ L) ∧ (∀ X : Nat → Prop, X (pkN (fun i => i) n) → (∀ v, X v → ∀ w, w < 2 → X (stp n w v)) → ∀ v, v ∈ L → X v) ∧ ∀ i j, i < j → j < L.length → L.getD i 0 < L.getD j 0
theorem wk_X {n v0 : Nat} {st : Nat → Nat → Nat} (hst : ∀ w v, w < 2 → stp n w v = st w v) {X : Nat → Prop} (h0 : X v0) (hc : ∀ v, X v → ∀ w, w < 2 → X (stp n w v)) : ∀ d m, X (wkF st v0 d m)
  | 0, _ => h0
  | d + 1, m => by
    show X (cond (Nat.ble m 1) v0 (st (m % 2) (wkF st v0 d (m / 2))))
    cases Nat.ble m 1 with
    | true => exact h0
    | false =>
      have h1 := hc _ (wk_X hst h0 hc d (m / 2)) (m % 2) (Nat.mod_lt _ (by decide))
      rw [hst _ _ (Nat.mod_lt _ (by decide))] at h1
      exact h1
theorem orb_of {n v0 : Nat} {st : Nat → Nat → Nat} {r : List (Nat × List (Nat × Nat))} (hst : ∀ w v, w < 2 → stp n w v = st w v) (h0 : pkN (fun i => i) n = v0) (hlen : (flR r).length = gpF n) (hid : inR r v0 = true) (hsm : alR (fun v _ => Nat.blt v (2 ^ 60)) r = true) (hcl : alR (fun v _ => inR r (st 0 v) && inR r (st 1 v)) r = true) (hwk : alR (fun v m => Nat.beq (wkF st v0 40 m) v) r = true) (hic : icr 0 (flR r) = true) : OrbOK n (rlR r) := by
  have hl : (rlR r).length = (flR r).length := List.length_map _
  refine ⟨⟨hl.trans hlen, by rw [h0]; exact inR_mem r _ hid⟩, fun v hv => ?_, fun v hv w hw => ?_, fun X hX hc v hv => ?_, fun i j hij hj => (icr_of (flR r) 0 hic).2 i j hij (by omega)⟩
  · obtain ⟨m, hm⟩ := alR_of hsm v hv
    exact Nat.le_of_ble_eq_true hm
  · obtain ⟨m, hm⟩ := alR_of hcl v hv
    have hm := (Bool.and_eq_true _ _).mp hm
    rw [hst w v hw]
    match w, hw with
    | 0, _ => exact inR_mem r _ hm.1
    | 1, _ => exact inR_mem r _ hm.2
  · obtain ⟨m, hm⟩ := alR_of hwk v hv
    rw [← Nat.eq_of_beq_eq_true hm]
    exact wk_X hst (by rw [← h0]; exact hX) hc 40 m
