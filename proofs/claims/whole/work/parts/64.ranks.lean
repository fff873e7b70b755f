/-! ===== ranks of orders, and the level of an order: what holds of them ===== -/
def smF (f : Nat → Nat) : Nat → Nat
  | 0 => 0
  | m + 1 => smF f m + f m
theorem sm_congr {f g : Nat → Nat} : ∀ n, (∀ i, i < n → f i = g i) → smF f n = smF g n
  | 0, _ => rfl
  | n + 1, h => by
    show smF f n + f n = smF g n + g n
    rw [sm_congr n (fun i hi => h i (by omega)), h n (by omega)]
theorem sm_add (f g : Nat → Nat) : ∀ n, smF (fun i => f i + g i) n = smF f n + smF g n
  | 0 => rfl
  | n + 1 => by
    show smF (fun i => f i + g i) n + (f n + g n) = smF f n + f n + (smF g n + g n)
    rw [sm_add f g n]
    omega
theorem sm_zero : ∀ n, smF (fun _ => 0) n = 0
  | 0 => rfl
  | n + 1 => by
    show smF (fun _ => 0) n + 0 = 0
    rw [sm_zero n]
theorem sm_swap (f : Nat → Nat → Nat) (m : Nat) : ∀ n, smF (fun i => smF (fun j => f i j) m) n = smF (fun j => smF (fun i => f i j) n) m
  | 0 => (sm_zero m).symm
  | n + 1 => by
    show smF (fun i => smF (fun j => f i j) m) n + smF (fun j => f n j) m = smF (fun j => smF (fun i => f i j) n + f n j) m
    rw [sm_swap f m n, sm_add]
theorem sm_one (k : Nat) (v : Nat) : ∀ n, smF (fun i => if i = k then v else 0) n = if k < n then v else 0
  | 0 => by
    rw [if_neg (Nat.not_lt_zero k)]
    rfl
  | n + 1 => by
    show smF (fun i => if i = k then v else 0) n + (if n = k then v else 0) = _
    rw [sm_one k v n]
    by_cases h1 : n = k
    · rw [if_pos h1, if_neg (by omega), if_pos (by omega), Nat.zero_add]
    · rw [if_neg h1, Nat.add_zero]
      by_cases h2 : k < n
      · rw [if_pos h2, if_pos (by omega)]
      · rw [if_neg h2, if_neg (by omega)]
theorem sm_front (f : Nat → Nat) : ∀ n, smF f (n + 1) = f 0 + smF (fun e => f (e + 1)) n
  | 0 => by
    show 0 + f 0 = f 0 + 0
    omega
  | n + 1 => by
    show smF f (n + 1) + f (n + 1) = f 0 + (smF (fun e => f (e + 1)) n + f (n + 1))
    rw [sm_front f n]
    omega
theorem sm_mul (c : Nat) (f : Nat → Nat) : ∀ n, c * smF f n = smF (fun i => c * f i) n
  | 0 => rfl
  | n + 1 => by
    show c * (smF f n + f n) = smF (fun i => c * f i) n + c * f n
    rw [Nat.mul_add, sm_mul c f n]
/-- a sum does not change when its places are taken in another order -/
theorem sm_perm {n : Nat} {o : Nat → Nat} (ho : IsPm n o) (G : Nat → Nat) : smF (fun j => G (o j)) n = smF G n := by
  have h1 : smF (fun j => G (o j)) n = smF (fun j => smF (fun x => if o j = x then G x else 0) n) n := sm_congr n (fun j hj => by
    have h2 : smF (fun x => if o j = x then G x else 0) n = smF (fun x => if x = o j then G (o j) else 0) n := sm_congr n (fun x _ => by
      by_cases q : o j = x
      · rw [if_pos q, if_pos q.symm, q]
      · rw [if_neg q, if_neg (fun z => q z.symm)])
    rw [h2, sm_one, if_pos (ho.1 j hj)])
  rw [h1, sm_swap]
  refine sm_congr n (fun x hx => ?_)
  obtain ⟨j0, hj0, he⟩ := pm_onto n o ho x hx
  have h3 : smF (fun j => if o j = x then G x else 0) n = smF (fun j => if j = j0 then G x else 0) n := sm_congr n (fun j hj => by
    by_cases q : j = j0
    · rw [if_pos q, if_pos (by rw [q]; exact he)]
    · rw [if_neg q, if_neg (fun z => q (ho.2 j j0 hj hj0 (z.trans he.symm)))])
  rw [h3, sm_one, if_pos hj0]
/-- the free numbers, as a sum -/
theorem zc_sm (u : Nat) : ∀ d c, zc u d c = smF (fun e => if u / 2 ^ (c + e) % 2 = 0 then 1 else 0) d
  | 0, _ => rfl
  | d + 1, c => by
    rw [zc, zc_sm u d (c + 1), sm_front]
    congr 1
    refine sm_congr d (fun e _ => ?_)
    rw [show c + 1 + e = c + (e + 1) by omega]
theorem lc_sm (o : Nat → Nat) (i : Nat) : ∀ d, lcL o i d = smF (fun e => if o (i + 1 + e) < o i then 1 else 0) d
  | 0 => rfl
  | d + 1 => by
    rw [lcL, lc_sm o i d]
    rfl
/-- the free numbers below o(i) are those of the later places -/
theorem free_lc {n i u : Nat} {o : Nat → Nat} (ho : IsPm n o) (hi : i < n) (hu : ∀ c, c < n → (u / 2 ^ c % 2 = 0 ↔ ∀ a, a < i → o a ≠ c)) : zc u (o i) 0 = lcL o i (n - 1 - i) := by
  have hoi := ho.1 i hi
  rw [zc_sm, lc_sm]
  have h1 : smF (fun e => if u / 2 ^ (0 + e) % 2 = 0 then 1 else 0) (o i) = smF (fun c => smF (fun e => if o (i + e) = c then 1 else 0) (n - i)) (o i) := sm_congr _ (fun c hc => by
    rw [Nat.zero_add]
    obtain ⟨j0, hj0, he⟩ := pm_onto n o ho c (by omega)
    by_cases q : j0 < i
    · rw [if_neg (fun z => (hu c (by omega)).mp z j0 q he)]
      have h2 : smF (fun e => if o (i + e) = c then 1 else 0) (n - i) = smF (fun _ => 0) (n - i) := sm_congr _ (fun e he2 => if_neg (fun z => by
        have := ho.2 (i + e) j0 (by omega) hj0 (z.trans he.symm)
        omega))
      rw [h2, sm_zero]
    · rw [if_pos ((hu c (by omega)).mpr (fun a ha z => by
        have := ho.2 a j0 (by omega) hj0 (z.trans he.symm)
        omega))]
      have h2 : smF (fun e => if o (i + e) = c then 1 else 0) (n - i) = smF (fun e => if e = j0 - i then 1 else 0) (n - i) := sm_congr _ (fun e he2 => by
        by_cases w : e = j0 - i
        · rw [if_pos w, if_pos (by rw [w, show i + (j0 - i) = j0 by omega]; exact he)]
        · rw [if_neg w, if_neg (fun z => by
            have := ho.2 (i + e) j0 (by omega) hj0 (z.trans he.symm)
            omega)])
      rw [h2, sm_one, if_pos (by omega)])
  rw [h1, sm_swap]
  have h3 : ∀ e, smF (fun c => if o (i + e) = c then 1 else 0) (o i) = if o (i + e) < o i then 1 else 0 := fun e => by
    have h4 : smF (fun c => if o (i + e) = c then 1 else 0) (o i) = smF (fun c => if c = o (i + e) then 1 else 0) (o i) := sm_congr _ (fun c _ => by
      by_cases q : o (i + e) = c
      · rw [if_pos q, if_pos q.symm]
      · rw [if_neg q, if_neg (fun z => q z.symm)])
    rw [h4, sm_one]
  rw [sm_congr (g := fun e => if o (i + e) < o i then 1 else 0) (n - i) (fun e _ => h3 e), show n - i = (n - 1 - i) + 1 by omega, sm_front, Nat.add_zero, if_neg (Nat.lt_irrefl _), Nat.zero_add]
  refine sm_congr _ (fun e _ => ?_)
  rw [show i + (e + 1) = i + 1 + e by omega]
/-- the l-th free number -/
theorem un_pick (u : Nat) : ∀ d c c0 l, c ≤ c0 → c0 < c + d → u / 2 ^ c0 % 2 = 0 → zc u (c0 - c) c = l → unG u d c l = c0
  | 0, c, c0, l, h1, h2, _, _ => absurd h2 (by omega)
  | d + 1, c, c0, l, h1, h2, h3, h4 => by
    rw [unG]
    by_cases e : c0 = c
    · subst e
      rw [Nat.sub_self] at h4
      rw [if_pos h3, if_pos (show l = 0 from h4.symm)]
    · rw [show c0 - c = (c0 - (c + 1)) + 1 by omega, zc] at h4
      by_cases hb : u / 2 ^ c % 2 = 0
      · rw [if_pos hb] at h4
        rw [if_pos hb, if_neg (by omega)]
        exact un_pick u d (c + 1) c0 (l - 1) (by omega) (by omega) h3 (by omega)
      · rw [if_neg hb] at h4
        rw [if_neg hb]
        exact un_pick u d (c + 1) c0 l (by omega) (by omega) h3 (by omega)
theorem un_cnt (u : Nat) : ∀ d c l, l < zc u d c → zc u (unG u d c l - c) c = l
  | 0, c, l, h => absurd h (Nat.not_lt_zero _)
  | d + 1, c, l, h => by
    have hk := un_ok u (d + 1) c l h
    rw [zc] at h
    rw [unG] at hk ⊢
    by_cases hb : u / 2 ^ c % 2 = 0
    · rw [if_pos hb] at h hk ⊢
      by_cases hl : l = 0
      · rw [if_pos hl, Nat.sub_self, hl]
        rfl
      · rw [if_neg hl] at hk ⊢
        have h1 := un_ok u d (c + 1) (l - 1) (by omega)
        have h2 := un_cnt u d (c + 1) (l - 1) (by omega)
        rw [show unG u d (c + 1) (l - 1) - c = (unG u d (c + 1) (l - 1) - (c + 1)) + 1 by omega, zc, if_pos hb, h2]
        omega
    · rw [if_neg hb] at h hk ⊢
      have h1 := un_ok u d (c + 1) l (by omega)
      have h2 := un_cnt u d (c + 1) l (by omega)
      rw [show unG u d (c + 1) l - c = (unG u d (c + 1) l - (c + 1)) + 1 by omega, zc, if_neg hb, h2]
      omega
theorem lc_le (o : Nat → Nat) (i : Nat) : ∀ d, lcL o i d ≤ d
  | 0 => Nat.le_refl 0
  | d + 1 => by
    have := lc_le o i d
    rw [lcL]
    split <;> omega
/-- what the last d places give to the rank -/
def rtd (o : Nat → Nat) (n : Nat) : Nat → Nat
  | 0 => 0
  | d + 1 => lcL o (n - 1 - d) d * fac d + rtd o n d
theorem rtd_lt (o : Nat → Nat) (n : Nat) : ∀ d, rtd o n d < fac d
  | 0 => by
    show 0 < 1
    omega
  | d + 1 => by
    have h1 := rtd_lt o n d
    have h2 : lcL o (n - 1 - d) d * fac d ≤ d * fac d := Nat.mul_le_mul_right _ (lc_le o (n - 1 - d) d)
    show lcL o (n - 1 - d) d * fac d + rtd o n d < (d + 1) * fac d
    rw [Nat.succ_mul]
    omega
theorem rk_rtd (o : Nat → Nat) (n : Nat) : ∀ d, d ≤ n → rkL o n (n - d) + rtd o n d = rkL o n n
  | 0, _ => by
    rw [Nat.sub_zero]
    rfl
  | d + 1, h => by
    rw [← rk_rtd o n d (by omega), show n - d = (n - (d + 1)) + 1 by omega, rkL, rtd, show n - 1 - (n - (d + 1)) = d by omega, show n - 1 - d = n - (d + 1) by omega]
    omega
theorem rk_lt (o : Nat → Nat) (n : Nat) : rkL o n n < fac n := by
  have h1 := rk_rtd o n n (Nat.le_refl n)
  rw [Nat.sub_self] at h1
  have h2 := rtd_lt o n n
  have h3 : rkL o n 0 = 0 := rfl
  omega
theorem lc_congr {o o' : Nat → Nat} {n i : Nat} (h : ∀ j, j < n → o j = o' j) : ∀ d, i + 1 + d ≤ n → lcL o i d = lcL o' i d
  | 0, _ => rfl
  | d + 1, hd => by rw [lcL, lcL, lc_congr h d (by omega), h (i + 1 + d) (by omega), h i (by omega)]
theorem rk_congr {o o' : Nat → Nat} {n : Nat} (h : ∀ j, j < n → o j = o' j) : ∀ i, i ≤ n → rkL o n i = rkL o' n i
  | 0, _ => rfl
  | i + 1, hi => by rw [rkL, rkL, rk_congr h i (by omega), lc_congr h (n - 1 - i) (by omega)]
/-- the order of an order's rank is that order -/
theorem sb_rk {n : Nat} {o : Nat → Nat} (ho : IsPm n o) : ∀ i, i ≤ n → ((sbS n (rkL o n n) i).2 = rtd o n (n - i) ∧ (∀ c, c < n → ((sbS n (rkL o n n) i).1 / 2 ^ c % 2 = 0 ↔ ∀ a, a < i → o a ≠ c))) ∧ ∀ a, a < i → sbC n (rkL o n n) a = o a
  | 0, _ => by
    have h1 := rk_rtd o n n (Nat.le_refl n)
    rw [Nat.sub_self] at h1
    refine ⟨⟨?_, fun c _ => ⟨fun _ a ha => absurd ha (Nat.not_lt_zero a), fun _ => ?_⟩⟩, fun a ha => absurd ha (Nat.not_lt_zero a)⟩
    · show rkL o n n = rtd o n (n - 0)
      rw [Nat.sub_zero, ← h1]
      exact Nat.zero_add _
    · show 0 / 2 ^ c % 2 = 0
      rw [Nat.zero_div]
  | i + 1, hi => by
    obtain ⟨⟨h1, h2⟩, h3⟩ := sb_rk ho i (by omega)
    have h4 : rtd o n (n - i) = lcL o i (n - 1 - i) * fac (n - 1 - i) + rtd o n (n - 1 - i) := by
      rw [show n - i = (n - 1 - i) + 1 by omega, rtd, show n - 1 - (n - 1 - i) = i by omega]
    have h5 := rtd_lt o n (n - 1 - i)
    have h6 : (sbS n (rkL o n n) i).2 / fac (n - 1 - i) = lcL o i (n - 1 - i) := by
      rw [h1, h4, Nat.mul_comm, Nat.mul_add_div (fac_pos _), Nat.div_eq_of_lt h5, Nat.add_zero]
    have h7 : (sbS n (rkL o n n) i).2 % fac (n - 1 - i) = rtd o n (n - 1 - i) := by
      rw [h1, h4, Nat.mul_comm, Nat.mul_add_mod, Nat.mod_eq_of_lt h5]
    have h8 : sbC n (rkL o n n) i = o i := by
      rw [sbC, h6]
      exact un_pick _ n 0 (o i) _ (Nat.zero_le _) (by rw [Nat.zero_add]; exact ho.1 i (by omega)) ((h2 _ (ho.1 i (by omega))).mpr (fun a ha z => by
        have := ho.2 a i (by omega) (by omega) z
        omega)) (by rw [Nat.sub_zero]; exact free_lc ho (by omega) h2)
    refine ⟨⟨?_, fun c hc => ?_⟩, fun a ha => ?_⟩
    · show (sbS n (rkL o n n) i).2 % fac (n - 1 - i) = _
      rw [h7, show n - (i + 1) = n - 1 - i by omega]
    · show ((sbS n (rkL o n n) i).1 ||| 2 ^ sbC n (rkL o n n) i) / 2 ^ c % 2 = 0 ↔ _
      rw [bit_or, h8]
      by_cases q : c = o i
      · rw [if_pos q]
        exact ⟨fun z => absurd z (by decide), fun z => absurd q.symm (z i (by omega))⟩
      · rw [if_neg q, h2 c hc]
        refine ⟨fun z a ha => ?_, fun z a ha => z a (by omega)⟩
        by_cases w : a = i
        · rw [w]
          exact fun z => q z.symm
        · exact z a (by omega)
    · by_cases w : a = i
      · rw [w]
        exact h8
      · exact h3 a (by omega)
theorem un_rk {n : Nat} {o : Nat → Nat} (ho : IsPm n o) (i : Nat) (hi : i < n) : sbC n (rkL o n n) i = o i := (sb_rk ho n (Nat.le_refl n)).2 i hi
/-- the rank of the order of a rank is that rank -/
theorem sb_bits (n r : Nat) : ∀ i c, ((sbS n r i).1 / 2 ^ c % 2 = 0 ↔ ∀ a, a < i → sbC n r a ≠ c)
  | 0, c => ⟨fun _ a ha => absurd ha (Nat.not_lt_zero a), fun _ => by
    show 0 / 2 ^ c % 2 = 0
    rw [Nat.zero_div]⟩
  | i + 1, c => by
    show ((sbS n r i).1 ||| 2 ^ sbC n r i) / 2 ^ c % 2 = 0 ↔ _
    rw [bit_or]
    by_cases q : c = sbC n r i
    · rw [if_pos q]
      exact ⟨fun z => absurd z (by decide), fun z => absurd q.symm (z i (by omega))⟩
    · rw [if_neg q, sb_bits n r i c]
      refine ⟨fun z a ha => ?_, fun z a ha => z a (by omega)⟩
      by_cases w : a = i
      · rw [w]
        exact fun z => q z.symm
      · exact z a (by omega)
theorem rk_sb (n r : Nat) (hr : r < fac n) : ∀ i, i ≤ n → rkL (sbC n r) n i + (sbS n r i).2 = r
  | 0, _ => Nat.zero_add r
  | i + 1, hi => by
    have h1 := rk_sb n r hr i (by omega)
    have h2 := sb_k n r hr i (by omega)
    have h3 := un_cnt (sbS n r i).1 n 0 _ h2
    rw [Nat.sub_zero] at h3
    have h4 := free_lc (sb_pm n r hr) (show i < n by omega) (fun c _ => sb_bits n r i c)
    have h5 : lcL (sbC n r) i (n - 1 - i) = (sbS n r i).2 / fac (n - 1 - i) := h4.symm.trans h3
    rw [rkL, h5]
    show rkL (sbC n r) n i + (sbS n r i).2 / fac (n - 1 - i) * fac (n - 1 - i) + (sbS n r i).2 % fac (n - 1 - i) = r
    have h6 := Nat.div_add_mod (sbS n r i).2 (fac (n - 1 - i))
    rw [Nat.mul_comm] at h6
    omega
theorem rk_un (n r : Nat) (hr : r < fac n) : rkL (sbC n r) n n = r := by
  have h1 := rk_sb n r hr n (Nat.le_refl n)
  have h2 := (sb_zc n r hr n (Nat.le_refl n)).2
  rw [Nat.sub_self] at h2
  have h3 : fac 0 = 1 := rfl
  omega
theorem bkN_congr {o o' : Nat → Nat} : ∀ n, (∀ j, j < n → o j = o' j) → bkN o n = bkN o' n
  | 0, _ => rfl
  | n + 1, h => by
    show va_up (bkN o n) (o n) n = va_up (bkN o' n) (o' n) n
    rw [bkN_congr n (fun j hj => h j (by omega)), h n (by omega)]
theorem bk_of {n i c : Nat} {o : Nat → Nat} (ho : IsPm n o) (hi : i < n) (he : o i = c) : bkN o n c = i := by
  rw [← he]
  exact (bk_at o (fun _ => 0) n ho.2 n (Nat.le_refl n) i hi).2
/-- the level: the least card from which on all lie in their first order -/
theorem ls_of (p : Nat → Nat) : ∀ m L, L ≤ m → (∀ c, L ≤ c → c < m → p c < p (c + 1)) → (L = 0 ∨ ¬ p (L - 1) < p L) → lsL p m = L
  | 0, L, h1, _, _ => by
    rw [lsL]
    omega
  | m + 1, L, h1, h2, h3 => by
    rw [lsL]
    by_cases e : L = m + 1
    · rcases h3 with q | q
      · omega
      · rw [e, Nat.add_sub_cancel] at q
        rw [if_neg q, e]
    · rw [if_pos (h2 m (by omega) (by omega))]
      exact ls_of p m L (by omega) (fun c c1 c2 => h2 c c1 (by omega)) h3
theorem ls_is (p : Nat → Nat) : ∀ m, lsL p m ≤ m ∧ (∀ c, lsL p m ≤ c → c < m → p c < p (c + 1)) ∧ (lsL p m = 0 ∨ ¬ p (lsL p m - 1) < p (lsL p m))
  | 0 => ⟨Nat.le_refl 0, fun c _ h => absurd h (Nat.not_lt_zero c), Or.inl rfl⟩
  | m + 1 => by
    obtain ⟨h1, h2, h3⟩ := ls_is p m
    rw [lsL]
    by_cases q : p m < p (m + 1)
    · rw [if_pos q]
      refine ⟨by omega, fun c c1 c2 => ?_, h3⟩
      by_cases w : c = m
      · rw [w]
        exact q
      · exact h2 c c1 (by omega)
    · rw [if_neg q]
      exact ⟨Nat.le_refl _, fun c c1 c2 => absurd c2 (by omega), Or.inr (by rw [Nat.add_sub_cancel]; exact q)⟩
/-- the card at place j put on top -/
def upO (j : Nat) (o : Nat → Nat) : Nat → Nat := fun i => if i = 0 then o j else if i ≤ j then o (i - 1) else o i
theorem up_pm {n j : Nat} {o : Nat → Nat} (ho : IsPm n o) (hj : j < n) : IsPm n (upO j o) := by
  have key : ∀ i, i < n → ∃ a, a < n ∧ upO j o i = o a ∧ (i = 0 → a = j) ∧ (0 < i → i ≤ j → a + 1 = i) ∧ (j < i → a = i) := fun i hi => by
    unfold upO
    by_cases h0 : i = 0
    · exact ⟨j, hj, if_pos h0, fun _ => rfl, fun h => absurd h (by omega), fun h => absurd h (by omega)⟩
    · rw [if_neg h0]
      by_cases h1 : i ≤ j
      · exact ⟨i - 1, by omega, if_pos h1, fun h => absurd h h0, fun _ _ => by omega, fun h => absurd h (by omega)⟩
      · exact ⟨i, hi, if_neg h1, fun h => absurd h h0, fun _ h => absurd h h1, fun _ => rfl⟩
  refine ⟨fun i hi => ?_, fun i i2 hi hi2 he => ?_⟩
  · obtain ⟨a, ha, e, _⟩ := key i hi
    rw [e]
    exact ho.1 a ha
  · obtain ⟨a, ha, e, a1, a2, a3⟩ := key i hi
    obtain ⟨b, hb, e2, b1, b2, b3⟩ := key i2 hi2
    have hab := ho.2 a b ha hb (e.symm.trans (he.trans e2))
    omega
theorem tp_pm {n t : Nat} {o : Nat → Nat} (ho : IsPm n o) (ht : t < n) : IsPm n (tpO t o) := by
  have key : ∀ i, i < n → ∃ a, a < n ∧ tpO t o i = o a ∧ (i < t → a = i + 1) ∧ (i = t → a = 0) ∧ (t < i → a = i) := fun i hi => by
    unfold tpO
    by_cases h0 : i < t
    · exact ⟨i + 1, by omega, if_pos h0, fun _ => rfl, fun h => absurd h (by omega), fun h => absurd h (by omega)⟩
    · rw [if_neg h0]
      by_cases h1 : i = t
      · exact ⟨0, by omega, if_pos h1, fun h => absurd h h0, fun _ => rfl, fun h => absurd h (by omega)⟩
      · exact ⟨i, hi, if_neg h1, fun h => absurd h h0, fun h => absurd h h1, fun _ => rfl⟩
  refine ⟨fun i hi => ?_, fun i i2 hi hi2 he => ?_⟩
  · obtain ⟨a, ha, e, _⟩ := key i hi
    rw [e]
    exact ho.1 a ha
  · obtain ⟨a, ha, e, a1, a2, a3⟩ := key i hi
    obtain ⟨b, hb, e2, b1, b2, b3⟩ := key i2 hi2
    have hab := ho.2 a b ha hb (e.symm.trans (he.trans e2))
    omega
theorem tp_up (j : Nat) (o : Nat → Nat) (i : Nat) : tpO j (upO j o) i = o i := by
  unfold tpO upO
  by_cases h1 : i < j
  · rw [if_pos h1, if_neg (by omega), if_pos (by omega), Nat.add_sub_cancel]
  · rw [if_neg h1]
    by_cases h2 : i = j
    · rw [if_pos h2, if_pos rfl, h2]
    · rw [if_neg h2, if_neg (by omega), if_neg (by omega)]
theorem up_tp (j : Nat) (o : Nat → Nat) (i : Nat) : upO j (tpO j o) i = o i := by
  show (if i = 0 then tpO j o j else if i ≤ j then tpO j o (i - 1) else tpO j o i) = o i
  by_cases h1 : i = 0
  · rw [if_pos h1]
    show (if j < j then o (j + 1) else if j = j then o 0 else o j) = o i
    rw [if_neg (Nat.lt_irrefl j), if_pos rfl, h1]
  · rw [if_neg h1]
    by_cases h2 : i ≤ j
    · rw [if_pos h2]
      show (if i - 1 < j then o (i - 1 + 1) else if i - 1 = j then o 0 else o (i - 1)) = o i
      rw [if_pos (by omega), show i - 1 + 1 = i by omega]
    · rw [if_neg h2]
      show (if i < j then o (i + 1) else if i = j then o 0 else o i) = o i
      rw [if_neg (by omega), if_neg (by omega)]
def psi (L x : Nat) : Nat := if x + 1 = L then L - 1 else if x < L then L else x
theorem lv_up {n j : Nat} {o : Nat → Nat} (ho : IsPm n o) (hj : j < n) : lsL (bkN (upO j o) n) (n - 1) = psi (lsL (bkN o n) (n - 1)) (o j) := by
  have hu := up_pm ho hj
  have hxn := ho.1 j hj
  have hbo := fun c hc => bk_pm ho (fun _ => 0) c hc
  have p0 : bkN (upO j o) n (o j) = 0 := bk_of hu (by omega) (if_pos rfl)
  have p1 : ∀ c, c < n → c ≠ o j → bkN o n c ≠ j ∧ bkN (upO j o) n c = if bkN o n c < j then bkN o n c + 1 else bkN o n c := fun c hc hne => by
    obtain ⟨-, q1, q2⟩ := hbo c hc
    have q3 : bkN o n c ≠ j := fun z => hne (by rw [← q2, z])
    refine ⟨q3, ?_⟩
    by_cases w : bkN o n c < j
    · rw [if_pos w]
      exact bk_of hu (by omega) (by unfold upO; rw [if_neg (by omega), if_pos (by omega), Nat.add_sub_cancel]; exact q2)
    · rw [if_neg w]
      exact bk_of hu q1 (by unfold upO; rw [if_neg (by omega), if_neg (by omega)]; exact q2)
  have p2 : ∀ c d, c < n → d < n → c ≠ o j → d ≠ o j → (bkN (upO j o) n c < bkN (upO j o) n d ↔ bkN o n c < bkN o n d) := fun c d hc hd h1 h2 => by
    obtain ⟨a1, a2⟩ := p1 c hc h1
    obtain ⟨b1, b2⟩ := p1 d hd h2
    rw [a2, b2]
    split <;> split <;> omega
  have p3 : ∀ d, d < n → d ≠ o j → bkN (upO j o) n (o j) < bkN (upO j o) n d := fun d hd h2 => by
    obtain ⟨b1, b2⟩ := p1 d hd h2
    rw [p0, b2]
    split <;> omega
  obtain ⟨h1, h2, h3⟩ := ls_is (bkN o n) (n - 1)
  generalize lsL (bkN o n) (n - 1) = L at h1 h2 h3 ⊢
  unfold psi
  by_cases e1 : o j + 1 = L
  · rw [if_pos e1]
    refine ls_of _ (n - 1) (L - 1) (by omega) (fun c c1 c2 => ?_) (Or.inr ?_)
    · by_cases w : c = o j
      · rw [w]
        exact p3 _ (by omega) (by omega)
      · exact (p2 c (c + 1) (by omega) (by omega) w (by omega)).mpr (h2 c (by omega) c2)
    · rw [show L - 1 = o j by omega, p0]
      exact Nat.not_lt_zero _
  · rw [if_neg e1]
    by_cases e2 : o j < L
    · rw [if_pos e2]
      refine ls_of _ (n - 1) L h1 (fun c c1 c2 => (p2 c (c + 1) (by omega) (by omega) (by omega) (by omega)).mpr (h2 c c1 c2)) ?_
      rcases h3 with q | q
      · exact Or.inl q
      · exact Or.inr (fun z => q ((p2 (L - 1) L (by omega) (by omega) (by omega) (by omega)).mp z))
    · rw [if_neg e2]
      refine ls_of _ (n - 1) (o j) (by omega) (fun c c1 c2 => ?_) (Or.inr (by rw [p0]; exact Nat.not_lt_zero _))
      by_cases w : c = o j
      · rw [w]
        exact p3 _ (by omega) (by omega)
      · exact (p2 c (c + 1) (by omega) (by omega) w (by omega)).mpr (h2 c (by omega) c2)
def lvR (n r : Nat) : Nat := lsL (bkN (sbC n r) n) (n - 1)
def gF (n t r : Nat) : Nat := stS t (lvR n r) (n + 1 - lvR n r)
def rkT (n a j : Nat) : Nat := rkL (tpO j (sbC n a)) n n
def hsN (n a r : Nat) : Nat → Nat
  | 0 => 0
  | j + 1 => hsN n a r j + (if rkT n a j = r then 1 else 0)
theorem hs_sm (n a r : Nat) : ∀ m, hsN n a r m = smF (fun j => if rkT n a j = r then 1 else 0) m
  | 0 => rfl
  | m + 1 => by
    rw [hsN, hs_sm n a r m]
    rfl
theorem num_ok : ∀ n, n < 7 → ∀ L, L < n → ∀ t, t < 6 → smF (fun x => stS t (psi L x) (n + 1 - psi L x)) n = stS (t + 1) L (n + 1 - L) := by decide +kernel
theorem lvR_lt {n r : Nat} (hn : 1 ≤ n) : lvR n r < n := by
  have := (ls_is (bkN (sbC n r) n) (n - 1)).1
  unfold lvR
  omega
theorem lvR_rk {n : Nat} {o : Nat → Nat} (ho : IsPm n o) : lvR n (rkL o n n) = lsL (bkN o n) (n - 1) := by
  unfold lvR
  rw [bkN_congr n (fun j hj => un_rk ho j hj)]
/-- one more time of TOP -/
theorem top_step {n t r : Nat} (hn : n < 7) (hn1 : 1 ≤ n) (ht : t < 6) (hr : r < fac n) : smF (fun a => gF n t a * hsN n a r n) (fac n) = gF n (t + 1) r := by
  have hpm := sb_pm n r hr
  have h1 : smF (fun a => gF n t a * hsN n a r n) (fac n) = smF (fun a => smF (fun j => if rkT n a j = r then gF n t a else 0) n) (fac n) := sm_congr _ (fun a _ => by
    rw [hs_sm, sm_mul]
    refine sm_congr n (fun j _ => ?_)
    by_cases q : rkT n a j = r
    · rw [if_pos q, if_pos q, Nat.mul_one]
    · rw [if_neg q, if_neg q, Nat.mul_zero])
  rw [h1, sm_swap]
  have h2 : ∀ j, j < n → smF (fun a => if rkT n a j = r then gF n t a else 0) (fac n) = stS t (psi (lvR n r) (sbC n r j)) (n + 1 - psi (lvR n r) (sbC n r j)) := fun j hj => by
    have hup := up_pm hpm hj
    have hlt := rk_lt (upO j (sbC n r)) n
    have h3 : smF (fun a => if rkT n a j = r then gF n t a else 0) (fac n) = smF (fun a => if a = rkL (upO j (sbC n r)) n n then gF n t (rkL (upO j (sbC n r)) n n) else 0) (fac n) := sm_congr _ (fun a ha => by
      have hpa := sb_pm n a ha
      by_cases q : a = rkL (upO j (sbC n r)) n n
      · rw [if_pos q, if_pos]
        · rw [q]
        · unfold rkT
          rw [q, rk_congr (o' := tpO j (upO j (sbC n r))) (fun i hi => by
            unfold tpO
            split
            · exact un_rk hup _ (by omega)
            · split
              · exact un_rk hup _ (by omega)
              · exact un_rk hup _ hi) n (Nat.le_refl n), rk_congr (o' := sbC n r) (fun i _ => tp_up j _ i) n (Nat.le_refl n), rk_un n r hr]
      · rw [if_neg q, if_neg]
        intro w
        apply q
        have hta := tp_pm hpa hj
        have h4 : ∀ i, i < n → upO j (sbC n r) i = sbC n a i := fun i hi => by
          rw [← up_tp j (sbC n a) i]
          have h5 : ∀ b, b < n → sbC n r b = tpO j (sbC n a) b := fun b hb => by
            rw [← w]
            exact un_rk hta b hb
          unfold upO
          split
          · exact h5 j hj
          · split
            · exact h5 _ (by omega)
            · exact h5 i hi
        rw [rk_congr h4 n (Nat.le_refl n), rk_un n a ha])
    rw [h3, sm_one, if_pos hlt]
    unfold gF
    rw [lvR_rk hup, lv_up hpm hj]
    rfl
  rw [sm_congr n h2, sm_perm hpm (fun x => stS t (psi (lvR n r) x) (n + 1 - psi (lvR n r) x)), num_ok n hn _ (lvR_lt hn1) t ht]
  rfl
theorem rkT_lt (n a j : Nat) : rkT n a j < fac n := rk_lt _ n
