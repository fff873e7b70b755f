/-! ===== the lots: a drawn lot comes within so many draws; digits ===== -/
theorem itF_add (m : Nat → Nat) (s : Nat) : ∀ a b, itF m (a + b) s = itF m a (itF m b s)
  | 0, b => by rw [Nat.zero_add]; rfl
  | a + 1, b => by
    rw [show a + 1 + b = (a + b) + 1 by omega]
    show m (itF m (a + b) s) = m (itF m a (itF m b s))
    rw [itF_add m s a b]
theorem itF_succ (m : Nat → Nat) (j s : Nat) : itF m (j + 1) s = m (itF m j s) := rfl
theorem it_mul (m : Nat → Nat) (p x : Nat) : ∀ j, itF (itF m p) j x = itF m (p * j) x
  | 0 => by rw [Nat.mul_zero]; rfl
  | j + 1 => by rw [itF_succ, it_mul m p x j, Nat.mul_succ, Nat.add_comm (p * j) p, itF_add]
def afN (M a c x : Nat) : Nat := (x * a + c) % M
def afA (M a c : Nat) : Nat → Nat × Nat
  | 0 => (a % M, c)
  | k + 1 => ((afA M a c k).1 * (afA M a c k).1 % M, ((afA M a c k).2 * (afA M a c k).1 + (afA M a c k).2) % M)
theorem af_ok (M a c : Nat) : ∀ k x, itF (afN M a c) (2 ^ k) x = (x * (afA M a c k).1 + (afA M a c k).2) % M
  | 0, x => by
    show (x * a + c) % M = (x * (a % M) + c) % M
    rw [Nat.add_mod, Nat.mul_mod, Nat.add_mod (x * (a % M)), Nat.mul_mod x (a % M), Nat.mod_mod]
  | k + 1, x => by
    rw [show 2 ^ (k + 1) = 2 ^ k + 2 ^ k by omega, itF_add, af_ok M a c k x, af_ok M a c k]
    show ((x * (afA M a c k).1 + (afA M a c k).2) % M * (afA M a c k).1 + (afA M a c k).2) % M = (x * ((afA M a c k).1 * (afA M a c k).1 % M) + ((afA M a c k).2 * (afA M a c k).1 + (afA M a c k).2) % M) % M
    generalize (afA M a c k).1 = A
    generalize (afA M a c k).2 = C
    have h1 : ((x * A + C) % M * A + C) % M = ((x * A + C) * A + C) % M := by
      rw [Nat.add_mod, Nat.mul_mod, Nat.mod_mod, ← Nat.mul_mod, ← Nat.add_mod]
    have h2 : (x * (A * A % M) + (C * A + C) % M) % M = (x * (A * A) + (C * A + C)) % M := by
      rw [Nat.add_mod, Nat.mul_mod, Nat.mod_mod, Nat.mod_mod, ← Nat.mul_mod, ← Nat.add_mod]
    rw [h1, h2, Nat.add_mul, Nat.mul_assoc, Nat.add_assoc]
theorem af_16 : afA 1048576 1103515245 12345 16 = (262145, 196608) := by decide +kernel
theorem af_step (r D : Nat) (hr : r < 65536) (hD : D = 4 * (1 * r) + 3) (y : Nat) : ((r + 65536 * (y % 16)) * 262145 + 196608) % 1048576 = r + 65536 * ((y + D) % 16) := by
  subst hD
  omega
theorem af_at (G : Nat → Nat) (hG : ∀ x, G x = (x * 262145 + 196608) % 1048576) (r D : Nat) (hr : r < 65536) (hD : D = 4 * (1 * r) + 3) (v : Nat) (hv : v < 16) : ∀ j, itF G j (r + 65536 * v) = r + 65536 * ((v + j * D) % 16) := by
  intro j
  induction j with
  | zero =>
    rw [Nat.zero_mul, Nat.add_zero, Nat.mod_eq_of_lt hv]
    rfl
  | succ j ih =>
    rw [itF_succ, ih, hG, af_step r D hr hD, show v + (j + 1) * D = v + j * D + D by rw [Nat.add_mul, Nat.one_mul, Nat.add_assoc]]
theorem nib : ∀ d, d < 8 → ∀ v, v < 16 → ∃ j, j < 16 ∧ (v + (j + 1) * (2 * d + 1)) % 16 = 0 := by decide
theorem af_hit (G : Nat → Nat) (hG : ∀ x, G x = (x * 262145 + 196608) % 1048576) (x : Nat) (hx : x < 1048576) : ∃ j, j < 16 ∧ itF G (j + 1) x / 65536 = 0 := by
  obtain ⟨r, hr0⟩ : ∃ r, r = x % 65536 := ⟨_, rfl⟩
  obtain ⟨v, hv0⟩ : ∃ v, v = x / 65536 := ⟨_, rfl⟩
  obtain ⟨D, hD⟩ : ∃ D, D = 4 * (1 * r) + 3 := ⟨_, rfl⟩
  have h1 : x = r + 65536 * v := by omega
  obtain ⟨j, hj, he⟩ := nib (D % 16 / 2) (by omega) v (by omega)
  refine ⟨j, hj, ?_⟩
  rw [h1, af_at G hG r D (by omega) hD v (by omega)]
  have hmod : (v + (j + 1) * D) % 16 = (v + (j + 1) * (D % 16)) % 16 := by
    rw [Nat.add_mod, Nat.mul_mod, Nat.add_mod v ((j + 1) * (D % 16)), Nat.mul_mod (j + 1) (D % 16), Nat.mod_mod]
  have hodd : D % 16 = 2 * (D % 16 / 2) + 1 := by omega
  rw [hmod, hodd, he]
  omega
def lcU (s : Int32) : Nat := s.toBitVec.toNat % 1048576
theorem lcU_lcg (s : Int32) : lcU (lcg s) = afN 1048576 1103515245 12345 (lcU s) := by
  unfold lcU lcg afN
  rw [Int32.toBitVec_add, Int32.toBitVec_mul, BitVec.toNat_add, BitVec.toNat_mul, show (nI 1103515245).toBitVec.toNat = 1103515245 by decide, show (nI 12345).toBitVec.toNat = 12345 by decide]
  omega
theorem lotV_U (s : Int32) : lotV s = lcU s / 65536 := by
  have h1 : ((s.toUInt32 >>> ((nI 16).toUInt32 &&& Int32.toUInt32 31)).toInt32).toBitVec.toNat = s.toBitVec.toNat / 65536 := by
    show (s.toUInt32 >>> ((nI 16).toUInt32 &&& Int32.toUInt32 31)).toNat = _
    rw [UInt32.toNat_shiftRight, show ((nI 16).toUInt32 &&& Int32.toUInt32 31).toNat % 32 = 16 by decide, Nat.shiftRight_eq_div_pow]
    rfl
  unfold lotV lcU
  rw [h1]
  omega
/-- a lot comes within so many draws -/
def hitP (b : Nat) : Nat → Int32 → Prop
  | 0, _ => False
  | d + 1, s => lotV (lcg s) < b ∨ hitP b d (lcg s)
theorem hit_of (b : Nat) (F : Nat → Nat) (U : Int32 → Nat) (hU : ∀ s, U (lcg s) = F (U s)) (Z : Nat → Prop) (hZ : ∀ s, Z (U s) → lotV s < b) : ∀ j d s, j < d → Z (itF F (j + 1) (U s)) → hitP b d s := by
  intro j
  induction j with
  | zero =>
    intro d s h he
    cases d with
    | zero => exact absurd h (Nat.not_lt_zero _)
    | succ d => exact Or.inl (hZ _ (by rw [hU]; exact he))
  | succ j ih =>
    intro d s h he
    cases d with
    | zero => exact absurd h (Nat.not_lt_zero _)
    | succ d =>
      refine Or.inr (ih d (lcg s) (Nat.lt_of_succ_lt_succ h) ?_)
      rw [hU]
      rw [itF_add F (U s) (j + 1) 1] at he
      exact he
theorem hit_all (b : Nat) (hb : 0 < b) (s : Int32) : hitP b dwMx s := by
  obtain ⟨p, hp⟩ : ∃ p, p = 2 ^ 16 := ⟨_, rfl⟩
  have hG : ∀ x, itF (afN 1048576 1103515245 12345) p x = (x * 262145 + 196608) % 1048576 := fun x => by rw [hp, af_ok, af_16]
  obtain ⟨j, hj, he⟩ := af_hit _ hG (lcU s) (Nat.mod_lt _ (by decide))
  rw [it_mul] at he
  obtain ⟨w, hw⟩ : ∃ w, p * (j + 1) = w + 1 := ⟨p * (j + 1) - 1, by rw [hp]; omega⟩
  rw [hw] at he
  refine hit_of b _ lcU lcU_lcg (fun y => y / 65536 = 0) (fun s q => by rw [lotV_U, show lcU s / 65536 = 0 from q]; exact hb) w dwMx s ?_ he
  rw [dwMx_eq]
  rw [hp] at hw
  omega
theorem as_lt {b : Nat} {l : Nat → Nat} (hl : ∀ i, l i < b) : ∀ m, asN b l m < b ^ m
  | 0 => by
    show 0 < b ^ 0
    rw [Nat.pow_zero]
    decide
  | m + 1 => by
    have h1 := as_lt hl m
    have h2 := Nat.mul_le_mul_right (b ^ m) (show l m + 1 ≤ b from hl m)
    rw [Nat.add_mul, Nat.one_mul] at h2
    show asN b l m + l m * b ^ m < b ^ (m + 1)
    rw [Nat.pow_succ, Nat.mul_comm (b ^ m) b]
    omega
theorem as_dig {b : Nat} {l : Nat → Nat} (hl : ∀ i, l i < b) : ∀ m i, i < m → asN b l m / b ^ i % b = l i
  | 0, i, h => absurd h (by omega)
  | m + 1, i, h => by
    have hb : 0 < b := Nat.lt_of_le_of_lt (Nat.zero_le _) (hl 0)
    have hp : 0 < b ^ i := Nat.pow_pos hb
    show (asN b l m + l m * b ^ m) / b ^ i % b = l i
    by_cases e : i = m
    · subst e
      rw [Nat.add_mul_div_right _ _ hp, Nat.div_eq_of_lt (as_lt hl i), Nat.zero_add, Nat.mod_eq_of_lt (hl i)]
    · have e2 : l m * b ^ m = (l m * b ^ (m - i - 1) * b) * b ^ i := by
        rw [Nat.mul_assoc, Nat.mul_assoc, ← Nat.pow_succ', ← Nat.pow_add]
        congr 2
        omega
      rw [e2, Nat.add_mul_div_right _ _ hp, Nat.add_mul_mod_self_right]
      exact as_dig hl m i (by omega)
theorem psL_congr {l l' : Nat → Nat} (h i : Nat) : ∀ m, (∀ k, k < m → l k = l' k) → psL l h i m = psL l' h i m
  | 0, _ => rfl
  | m + 1, q => by rw [psL, psL, psL_congr h i m (fun k hk => q k (by omega)), q m (by omega)]
theorem layO_congr {n K : Nat} {l l' o : Nat → Nat} (hn : 0 < n) (h : ∀ i, i < lotN K n → l i = l' i) : ∀ j, j < n → layO n K l o j = layO n K l' o j := by
  intro j hj
  unfold layO
  unfold lotN at h
  by_cases hk : K = 4
  · rw [if_pos hk] at h
    rw [if_pos hk, if_pos hk, h 0 (by decide)]
  · rw [if_neg hk] at h
    rw [if_neg hk, if_neg hk]
    show o (psL l (l j) j n) = o (psL l' (l' j) j n)
    rw [h j hj, psL_congr _ _ n h]
