/-! ===== what a desk is, and what its calls do ===== -/
def ix (x : Int32) (n : Nat) : Option Nat := if x < 0 ∨ nI n ≤ x then none else some x.toNatClampNeg
theorem ix_some {x : Int32} {n j : Nat} (hn : n < 2 ^ 31) (h : ix x n = some j) : j < n ∧ x = nI j := by
  unfold ix at h
  split at h
  · cases h
  · next hc =>
    obtain ⟨i, hi, rfl⟩ := nI_of (x := x) (fun q => hc (Or.inl q))
    rw [nI_clamp hi] at h
    cases h
    exact ⟨Nat.not_le.mp fun q => hc (Or.inr (nI_le q hi)), rfl⟩
theorem ix_none {x : Int32} {n : Nat} (hn : n < 2 ^ 31) (h : ix x n = none) : ¬ inN x n := by
  rintro ⟨j, hj, rfl⟩
  unfold ix at h
  rw [if_neg] at h
  · cases h
  · rintro (q | q)
    · exact nI_pos (by omega) q
    · exact nI_ge hj (by omega) q
theorem ix_nI {n j : Nat} (hj : j < n) (hn : n < 2 ^ 31) : ix (nI j) n = some j := by
  unfold ix
  rw [if_neg, nI_clamp (by omega)]
  rintro (q | q)
  · exact nI_pos (by omega) q
  · exact nI_ge hj (by omega) q
/-- the first n numbers in an order -/
def IsPm (n : Nat) (o : Nat → Nat) : Prop := (∀ j, j < n → o j < n) ∧ ∀ i j, i < n → j < n → o i = o j → i = j
/-- back[o(i)] = i -/
def bkN (o : Nat → Nat) : Nat → (Nat → Nat)
  | 0 => fun _ => 0
  | i + 1 => va_up (bkN o i) (o i) i
theorem bk_at (o : Nat → Nat) (f : Nat → Int32) (n : Nat) (hinj : ∀ i j, i < n → j < n → o i = o j → i = j) : ∀ m, m ≤ n → ∀ i, i < m → bkF o f m (o i) = nI i ∧ bkN o m (o i) = i
  | 0, _, i, hi => absurd hi (by omega)
  | m + 1, hm, i, hi => by
    by_cases e : i = m
    · subst e
      exact ⟨if_pos rfl, if_pos rfl⟩
    · have hne : o i ≠ o m := fun q => e (hinj i m (by omega) (by omega) q)
      obtain ⟨h1, h2⟩ := bk_at o f n hinj m (by omega) i (by omega)
      refine ⟨?_, ?_⟩
      · show upd (bkF o f m) (o m) (nI m) (o i) = nI i
        rw [upd, if_neg hne]
        exact h1
      · show va_up (bkN o m) (o m) m (o i) = i
        rw [va_up, if_neg hne]
        exact h2
/-- n different numbers below n are all of them -/
theorem pm_onto : ∀ (n : Nat) (o : Nat → Nat), IsPm n o → ∀ c, c < n → ∃ i, i < n ∧ o i = c
  | 0, _, _, c, hc => absurd hc (by omega)
  | n + 1, o, ⟨hb, hinj⟩, c, hc => by
    -- put the value n to the last place
    by_cases hlast : ∃ i, i < n + 1 ∧ o i = n
    · obtain ⟨i0, hi0, he0⟩ := hlast
      let o' : Nat → Nat := fun j => if j = i0 then o n else o j
      have ho' : IsPm n o' := by
        refine ⟨fun j hj => ?_, fun i j hi hj he => ?_⟩
        · show (if j = i0 then o n else o j) < n
          by_cases q : j = i0
          · rw [if_pos q]
            have h1 := hb n (by omega)
            have h2 : o n ≠ n := fun z => by
              have := hinj n i0 (by omega) hi0 (z.trans he0.symm)
              omega
            omega
          · rw [if_neg q]
            have h1 := hb j (by omega)
            have h2 : o j ≠ n := fun z => q (hinj j i0 (by omega) hi0 (z.trans he0.symm))
            omega
        · have he : (if i = i0 then o n else o i) = (if j = i0 then o n else o j) := he
          by_cases q : i = i0 <;> by_cases r : j = i0
          · omega
          · rw [if_pos q, if_neg r] at he
            have := hinj n j (by omega) (by omega) he
            omega
          · rw [if_neg q, if_pos r] at he
            have := hinj i n (by omega) (by omega) he
            omega
          · rw [if_neg q, if_neg r] at he
            exact hinj i j (by omega) (by omega) he
      by_cases hcn : c = n
      · exact ⟨i0, hi0, by rw [hcn]; exact he0⟩
      · obtain ⟨i, hi, he⟩ := pm_onto n o' ho' c (by omega)
        have he : (if i = i0 then o n else o i) = c := he
        by_cases q : i = i0
        · rw [if_pos q] at he
          exact ⟨n, by omega, he⟩
        · rw [if_neg q] at he
          exact ⟨i, by omega, he⟩
    · -- no value n: all n + 1 numbers are below n
      have ho' : IsPm n o := ⟨fun j hj => by
        have h1 := hb j (by omega)
        have h2 : o j ≠ n := fun z => hlast ⟨j, by omega, z⟩
        omega, fun i j hi hj he => hinj i j (by omega) (by omega) he⟩
      have hn1 := hb n (by omega)
      have hn2 : o n ≠ n := fun z => hlast ⟨n, by omega, z⟩
      obtain ⟨i, hi, he⟩ := pm_onto n o ho' (o n) (by omega)
      have := hinj i n (by omega) (by omega) he
      omega
theorem bk_pm {n : Nat} {o : Nat → Nat} (ho : IsPm n o) (f : Nat → Int32) (c : Nat) (hc : c < n) : bkF o f n c = nI (bkN o n c) ∧ bkN o n c < n ∧ o (bkN o n c) = c := by
  obtain ⟨i, hi, rfl⟩ := pm_onto n o ho c hc
  obtain ⟨h1, h2⟩ := bk_at o f n ho.2 n (Nat.le_refl n) i hi
  exact ⟨by rw [h1, h2], by rw [h2]; exact hi, by rw [h2]⟩
theorem bkN_pm {n : Nat} {o : Nat → Nat} (ho : IsPm n o) : IsPm n (bkN o n) := ⟨fun c hc => (bk_pm ho (fun _ => 0) c hc).2.1, fun a b ha hb he => by
  have h1 := (bk_pm ho (fun _ => 0) a ha).2.2
  have h2 := (bk_pm ho (fun _ => 0) b hb).2.2
  rw [← h1, he, h2]⟩
theorem th_at (f : Nat → Int32) (m : Nat → Nat) (fg : Nat → Int32) : ∀ n i, i < n → thF f m fg n i = f (m i)
  | 0, i, h => absurd h (by omega)
  | n + 1, i, h => by
    show upd (thF f m fg n) n (f (m n)) i = f (m i)
    by_cases e : i = n
    · rw [upd, if_pos e, e]
    · rw [upd, if_neg e]
      exact th_at f m fg n i (by omega)
theorem sbF_at (n r : Nat) (f : Nat → Int32) : ∀ m i, i < m → sbF n r f m i = nI (sbC n r i)
  | 0, i, h => absurd h (by omega)
  | m + 1, i, h => by
    show upd (sbF n r f m) m (nI (sbC n r m)) i = _
    by_cases e : i = m
    · rw [upd, if_pos e, e]
    · rw [upd, if_neg e]
      exact sbF_at n r f m i (by omega)
abbrev SP : Type := (Nat × Nat × Nat × Int32) × ((Nat → Nat → Nat) × (Nat → Nat → Nat) × (Nat → Nat) × (Nat → Nat)) × ((Nat → Int32) × (Nat → Nat) × (Nat → Nat → Int32)) × (Nat × (Nat → Int32))
/-- what holds of every desk that calls have made -/
def SI : SP → Prop
  | ((n, P, S, _), (σ, μ, K, Hh), (ts, zz, _), (ra, _)) => (1 ≤ n ∧ n ≤ 10 ∧ P ≤ 12 ∧ S ≤ 10) ∧ (∀ p, p < P → IsPm n (σ p)) ∧ (∀ s, s < S → K s < 5 ∧ 1 ≤ Hh s ∧ Hh s ≤ 10 ∧ (K s = 4 → Hh s = n) ∧ (K s < 3 → IsPm n (μ s))) ∧ (∀ t, t < 4 → zz t ≤ 40 ∧ (ts t = -1 ∨ ts t = nI 0 ∨ ts t = nI 1 ∨ ts t = nI 2)) ∧ ra ≤ 40
/-- the class's heap holds this desk -/
def IsD : SP → PH → Prop
  | ((n, P, S, sd), (σ, μ, K, Hh), (ts, zz, it), (ra, tr)), h => ∃ (pk fr itd jk : Nat → Nat → Int32) (kd hp kt : Nat → Int32) (ak an ah : Int32) (jl : Nat → Nat → Int64), h = mkH 52 (dkF (nI n) (nI P) (nI S) sd pk fr itd kd hp ts (fun t => nI (zz t)) (nI ra) ak an ah kt jk jl) ∧ (∀ p, p < P → ∀ j, j < n → pk p j = nI (σ p j)) ∧ (∀ s, s < S → kd s = nI (K s) ∧ hp s = nI (Hh s) ∧ (K s < 3 → ∀ j, j < n → fr s j = nI (μ s j))) ∧ (∀ t, t < 4 → ∀ j, j < 40 → itd t j = it t j) ∧ (∀ i, i < ra → i < 40 → kt i = tr i)
-- the calls
def sBegin : SP → Int32 → Int32 × SP
  | ((n, P, S, sd), b, c, d), x => if x < nI 1 ∨ nI 10 < x then (-2, ((n, P, S, sd), b, c, d)) else (1, ((x.toNatClampNeg, 0, 0, sd), b, c, d))
def sRanked : SP → Int32 → Int32 × SP
  | ((n, P, S, sd), (σ, μ, K, Hh), c, d), x => match ix x (fac n) with
    | none => (-2, ((n, P, S, sd), (σ, μ, K, Hh), c, d))
    | some r => if P = 12 then (-4, ((n, P, S, sd), (σ, μ, K, Hh), c, d)) else (nI P, ((n, P + 1, S, sd), (va_up σ P (sbC n r), μ, K, Hh), c, d))
def sPack : SP → Int32 × SP
  | ((n, P, S, sd), (σ, μ, K, Hh), c, d) => if P = 12 then (-4, ((n, P, S, sd), (σ, μ, K, Hh), c, d)) else (nI P, ((n, P + 1, S, sd), (va_up σ P (fun j => j), μ, K, Hh), c, d))
def sTold : SP → Int32 → Int32 → Int32 → Int32 × SP
  | ((n, P, S, sd), (σ, μ, K, Hh), (ts, zz, it), d), t, so, i => match ix t 4, ix so 3 with
    | some t, some o => if ts t ≠ -1 ∧ ts t ≠ nI o then (-13, ((n, P, S, sd), (σ, μ, K, Hh), (ts, zz, it), d)) else if ts t = -1 then (-11, ((n, P, S, sd), (σ, μ, K, Hh), (ts, zz, it), d)) else
        if i < 0 ∨ zz t < i.toNatClampNeg + n then (-12, ((n, P, S, sd), (σ, μ, K, Hh), (ts, zz, it), d)) else
        if (isS (fun j => it t (i.toNatClampNeg + j)) n n).isNone then (-3, ((n, P, S, sd), (σ, μ, K, Hh), (ts, zz, it), d)) else
        if P = 12 then (-4, ((n, P, S, sd), (σ, μ, K, Hh), (ts, zz, it), d)) else (nI P, ((n, P + 1, S, sd), (va_up σ P (fun j => (it t (i.toNatClampNeg + j)).toNatClampNeg), μ, K, Hh), (ts, zz, it), d))
    | _, _ => (-2, ((n, P, S, sd), (σ, μ, K, Hh), (ts, zz, it), d))
def sCard : SP → Int32 → Int32 → Int32
  | ((n, P, _, _), (σ, _, _, _), _, _), p, j => match ix p P, ix j n with
    | some p, some j => nI (σ p j)
    | _, _ => -2
def sPackTold : SP → Int32 → Int32 → Int32
  | ((n, P, _, _), (σ, _, _, _), _, _), p, w => match ix p P with
    | none => -2
    | some p => if w = nI 0 then nI (rkL (σ p) n n) else if w = nI 1 then nI (rnL (bkN (σ p) n) (n - 1)) else if w = nI 2 then nI (bkN (σ p) n 0) else -2
/-- a new shuffle: its kind, heaps, and move -/
def sMk : SP → Nat → Nat → (Nat → Nat) → Int32 × SP
  | ((n, P, S, sd), (σ, μ, K, Hh), c, d), a, b, m => if S = 10 then (-4, ((n, P, S, sd), (σ, μ, K, Hh), c, d)) else (nI S, ((n, P, S + 1, sd), (σ, va_up μ S m, va_up K S a, va_up Hh S b), c, d))
def sMove : SP → Int32 → Int32 × SP
  | ((n, P, S, sd), (σ, μ, K, Hh), c, d), p => match ix p P with
    | none => (-2, ((n, P, S, sd), (σ, μ, K, Hh), c, d))
    | some p => sMk ((n, P, S, sd), (σ, μ, K, Hh), c, d) 0 2 (σ p)
def sPerfect : SP → Int32 → Int32 × SP
  | ((n, P, S, sd), b, c, d), w => match ix w 2 with
    | none => (-2, ((n, P, S, sd), b, c, d))
    | some w => if n % 2 = 1 then (-3, ((n, P, S, sd), b, c, d)) else sMk ((n, P, S, sd), b, c, d) 1 2 (bkN (fun i => carF n i w) n)
def sDeal : SP → Int32 → Int32 × SP
  | ((n, P, S, sd), b, c, d), x => if x < nI 1 ∨ nI n < x then (-2, ((n, P, S, sd), b, c, d)) else sMk ((n, P, S, sd), b, c, d) 2 x.toNatClampNeg (fun j => (dlF n x.toNatClampNeg x.toNatClampNeg).getD j 0)
def sRiffle : SP → Int32 → Int32 × SP
  | ((n, P, S, sd), b, c, d), x => if x < nI 1 ∨ nI 10 < x then (-2, ((n, P, S, sd), b, c, d)) else sMk ((n, P, S, sd), b, c, d) 3 x.toNatClampNeg (fun j => j)
def sTop : SP → Int32 × SP
  | ((n, P, S, sd), b, c, d) => sMk ((n, P, S, sd), b, c, d) 4 n (fun j => j)
def sBehind : SP → Int32 → Int32 → Int32 × SP
  | ((n, P, S, sd), (σ, μ, K, Hh), c, d), x, y => match ix x S, ix y S with
    | some x, some y => if K x < 3 ∧ K y < 3 then sMk ((n, P, S, sd), (σ, μ, K, Hh), c, d) 0 2 (fun i => μ x (μ y i)) else (-3, ((n, P, S, sd), (σ, μ, K, Hh), c, d))
    | _, _ => (-2, ((n, P, S, sd), (σ, μ, K, Hh), c, d))
def sBack : SP → Int32 → Int32 × SP
  | ((n, P, S, sd), (σ, μ, K, Hh), c, d), x => match ix x S with
    | some x => if K x < 3 then sMk ((n, P, S, sd), (σ, μ, K, Hh), c, d) 0 2 (bkN (μ x) n) else (-3, ((n, P, S, sd), (σ, μ, K, Hh), c, d))
    | none => (-2, ((n, P, S, sd), (σ, μ, K, Hh), c, d))
def sMoves : SP → Int32 → Int32 → Int32
  | ((n, _, S, _), (_, μ, K, _), _, _), s, i => match ix s S, ix i n with
    | some s, some i => if K s < 3 then nI (μ s i) else -1
    | _, _ => -2
def sShTold : SP → Int32 → Int32 → Int32
  | ((n, _, S, _), (_, μ, K, Hh), _, _), s, w => match ix s S with
    | none => -2
    | some s => if w = nI 0 then nI (K s) else if w = nI 1 then nI (Hh s) else if w = nI 2 then (if K s < 3 then nI (hmL (μ s) n n) else -1) else if w = nI 3 then (if K s < 3 then nI (lpL (μ s) n n) else -1) else -2
def sPower : SP → Int32 → Int64 → Int32 → Int32
  | ((n, _, S, _), (_, μ, K, _), _, _), s, e, i => match ix s S, ix i n with
    | some s, some i => if e < 0 then -2 else if K s < 3 then nI (itF (μ s) (e.toNatClampNeg % lenF (μ s) n i) i) else -1
    | _, _ => -2
def sDoes : SP → Int32 → Int32 → Int32 × SP
  | ((n, P, S, sd), (σ, μ, K, Hh), c, d), s, p => match ix s S, ix p P with
    | some s, some p => if K s < 3 then (1, ((n, P, S, sd), (va_up σ p (fun i => σ p (μ s i)), μ, K, Hh), c, d)) else (-3, ((n, P, S, sd), (σ, μ, K, Hh), c, d))
    | _, _ => (-2, ((n, P, S, sd), (σ, μ, K, Hh), c, d))
def sSeed : SP → Int32 → Int32 × SP
  | ((n, P, S, sd), b, c, d), x => (sd, ((n, P, S, x), b, c, d))
def sTaken : SP → Int32 → Int32 → Int32
  | ((_, _, S, _), (_, _, K, Hh), _, _), s, x => match ix x 5 with
    | none => -2
    | some k => match ix s S with
      | none => -11
      | some s => if k = 0 ∨ K s = k ∨ (1 < k ∧ k < K s) then nI (Hh s) else -13
def sCount : SP → Int32 → Int32
  | ((n, P, S, _), _, _, (ra, _)), w => if w = nI 0 then nI n else if w = nI 1 then nI P else if w = nI 2 then nI S else if w = nI 3 then nI ra else -2
def sTrace : SP → Int32 → Int32
  | (_, _, _, (ra, tr)), i => match ix i ra with
    | none => -1
    | some i => if i < 40 then tr i else -1
