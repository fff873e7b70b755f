/-! ===== the first state ===== -/
def q0 : SP := ((4, 0, 0, 0), (fun _ _ => 0, fun _ _ => 0, fun _ => 0, fun _ => 0), (fun _ => -1, fun _ => 0, fun _ _ => 0), (0, fun _ => 0))
def dkPi : List Nat := [0, 1, 2, 3, 4, 5, 6, 7, 8, 9, 10, 11, 12, 13, 14, 24, 26, 28, 30, 32, 34, 36, 38, 40, 42, 25, 27, 29, 31, 33, 35, 37, 39, 41, 43, 15, 44, 46, 48, 50, 45, 47, 49, 51, 16, 17, 18, 19, 20, 21, 22, 23]
def dk0 : Nat → PCell := dkF (nI 4) (nI 0) (nI 0) 0 (fun _ _ => 0) (fun _ _ => 0) (fun _ _ => 0) (fun _ => nI 0) (fun _ => nI 2) (fun _ => -1) (fun _ => nI 0) (nI 0) (nI 0) (nI 0) (nI 2) (fun _ => 0) (fun _ _ => 0) (fun _ _ => 0)
def pceq (e e1 : va_E) : Prop := e = e1 ∨ ∃ (c : ClassId) (n : Nat) (f f1 : Nat → Option Nat), e = .inl (c, n, .inr (.inr (.inr (.inr f)))) ∧ e1 = .inl (c, n, .inr (.inr (.inr (.inr f1)))) ∧ ∀ j, j < n → f j = f1 j
theorem pceq_at {D : va_G} {cl : List vw_C} {a : Nat} {e e1 : va_E} {H : Heap} (h : pceq e e1) (h1 : va_at D cl (a, e1) H) : va_at D cl (a, e) H := by
  rcases h with rfl | ⟨c, n, f, f1, rfl, rfl, hf⟩
  · exact h1
  · have h2 : H[a]? = some (arrV c n (fun j => va_rf (f1 j))) := h1
    show H[a]? = some (arrV c n (fun j => va_rf (f j)))
    rw [h2]
    exact congrArg some (arrV_ext (fun j hj => by rw [hf j hj]))
set_option maxRecDepth 100000 in
theorem dk_rows (ta : Nat → ClassId) (ad : Nat → Nat) (sa : UInt32 → Nat) : ∀ k, k < 52 → ∃ c, dkNew[dkPi.getD k 0]? = some c ∧ pceq (pce ta (fun k => ad (dkPi.getD k 0)) sa (dk0 k)) (pce ta ad sa c)
  | 0, _ => ⟨_, rfl, Or.inl rfl⟩
  | 1, _ => ⟨_, rfl, Or.inr ⟨_, 12, _, _, rfl, rfl, fun j hj => by
      match j, hj with
      | 0, _ => rfl
      | 1, _ => rfl
      | 2, _ => rfl
      | 3, _ => rfl
      | 4, _ => rfl
      | 5, _ => rfl
      | 6, _ => rfl
      | 7, _ => rfl
      | 8, _ => rfl
      | 9, _ => rfl
      | 10, _ => rfl
      | 11, _ => rfl
      | (j + 12), h => exact absurd h (by omega)⟩⟩
  | 2, _ => ⟨_, rfl, Or.inl rfl⟩
  | 3, _ => ⟨_, rfl, Or.inl rfl⟩
  | 4, _ => ⟨_, rfl, Or.inl rfl⟩
  | 5, _ => ⟨_, rfl, Or.inl rfl⟩
  | 6, _ => ⟨_, rfl, Or.inl rfl⟩
  | 7, _ => ⟨_, rfl, Or.inl rfl⟩
  | 8, _ => ⟨_, rfl, Or.inl rfl⟩
  | 9, _ => ⟨_, rfl, Or.inl rfl⟩
  | 10, _ => ⟨_, rfl, Or.inl rfl⟩
  | 11, _ => ⟨_, rfl, Or.inl rfl⟩
  | 12, _ => ⟨_, rfl, Or.inl rfl⟩
  | 13, _ => ⟨_, rfl, Or.inl rfl⟩
  | 14, _ => ⟨_, rfl, Or.inr ⟨_, 10, _, _, rfl, rfl, fun j hj => by
      match j, hj with
      | 0, _ => rfl
      | 1, _ => rfl
      | 2, _ => rfl
      | 3, _ => rfl
      | 4, _ => rfl
      | 5, _ => rfl
      | 6, _ => rfl
      | 7, _ => rfl
      | 8, _ => rfl
      | 9, _ => rfl
      | (j + 10), h => exact absurd h (by omega)⟩⟩
  | 15, _ => ⟨_, rfl, Or.inl rfl⟩
  | 16, _ => ⟨_, rfl, Or.inl rfl⟩
  | 17, _ => ⟨_, rfl, Or.inl rfl⟩
  | 18, _ => ⟨_, rfl, Or.inl rfl⟩
  | 19, _ => ⟨_, rfl, Or.inl rfl⟩
  | 20, _ => ⟨_, rfl, Or.inl rfl⟩
  | 21, _ => ⟨_, rfl, Or.inl rfl⟩
  | 22, _ => ⟨_, rfl, Or.inl rfl⟩
  | 23, _ => ⟨_, rfl, Or.inl rfl⟩
  | 24, _ => ⟨_, rfl, Or.inl rfl⟩
  | 25, _ => ⟨_, rfl, Or.inl rfl⟩
  | 26, _ => ⟨_, rfl, Or.inl rfl⟩
  | 27, _ => ⟨_, rfl, Or.inl rfl⟩
  | 28, _ => ⟨_, rfl, Or.inl rfl⟩
  | 29, _ => ⟨_, rfl, Or.inl rfl⟩
  | 30, _ => ⟨_, rfl, Or.inl rfl⟩
  | 31, _ => ⟨_, rfl, Or.inl rfl⟩
  | 32, _ => ⟨_, rfl, Or.inl rfl⟩
  | 33, _ => ⟨_, rfl, Or.inl rfl⟩
  | 34, _ => ⟨_, rfl, Or.inl rfl⟩
  | 35, _ => ⟨_, rfl, Or.inr ⟨_, 4, _, _, rfl, rfl, fun j hj => by
      match j, hj with
      | 0, _ => rfl
      | 1, _ => rfl
      | 2, _ => rfl
      | 3, _ => rfl
      | (j + 4), h => exact absurd h (by omega)⟩⟩
  | 36, _ => ⟨_, rfl, Or.inl rfl⟩
  | 37, _ => ⟨_, rfl, Or.inl rfl⟩
  | 38, _ => ⟨_, rfl, Or.inl rfl⟩
  | 39, _ => ⟨_, rfl, Or.inl rfl⟩
  | 40, _ => ⟨_, rfl, Or.inl rfl⟩
  | 41, _ => ⟨_, rfl, Or.inl rfl⟩
  | 42, _ => ⟨_, rfl, Or.inl rfl⟩
  | 43, _ => ⟨_, rfl, Or.inl rfl⟩
  | 44, _ => ⟨_, rfl, Or.inl rfl⟩
  | 45, _ => ⟨_, rfl, Or.inl rfl⟩
  | 46, _ => ⟨_, rfl, Or.inl rfl⟩
  | 47, _ => ⟨_, rfl, Or.inl rfl⟩
  | 48, _ => ⟨_, rfl, Or.inl rfl⟩
  | 49, _ => ⟨_, rfl, Or.inl rfl⟩
  | 50, _ => ⟨_, rfl, Or.inl rfl⟩
  | 51, _ => ⟨_, rfl, Or.inl rfl⟩
  | (k + 52), h => absurd h (by omega)
theorem si_0 : SI q0 := ⟨by decide, fun p h => absurd h (by omega), fun p h => absurd h (by omega), fun t _ => ⟨Nat.zero_le _, Or.inl rfl⟩, by decide⟩
theorem isD_new : IsD q0 (mkH 52 dk0) := ⟨_, _, _, _, _, _, _, _, _, _, _, rfl, fun p h => absurd h (by omega), fun p h => absurd h (by omega), fun t _ j _ => rfl, fun i h _ => absurd h (by omega)⟩
theorem isM_new : IsM q0 mdNew := by
  refine ⟨fun _ => 0, fun _ => 0, fun _ => 0, fun _ => 0, fun _ => 0, fun _ => 0, fun _ => 0, fun _ => 0, upd (upd (upd (upd (fun _ => 0) 0 (-1)) 1 (-1)) 2 (-1)) 3 (-1), fun _ => 0, fun _ => 0, fun _ => 0, fun _ => 0, fun _ => 0, fun _ => 0, fun _ => 0, fun _ => 0, fun _ => 0, fun _ => 0, rfl, fun p h => absurd h (by omega), fun p h => absurd h (by omega), fun t ht => ?_, fun i h _ => absurd h (by omega), fun c _ => Or.inl rfl⟩
  match t, ht with
  | 0, _ => exact ⟨rfl, rfl, fun _ _ => rfl⟩
  | 1, _ => exact ⟨rfl, rfl, fun _ _ => rfl⟩
  | 2, _ => exact ⟨rfl, rfl, fun _ _ => rfl⟩
  | 3, _ => exact ⟨rfl, rfl, fun _ _ => rfl⟩
  | (t + 4), h => exact absurd h (by omega)
theorem dk_inj : ∀ i, i < 52 → ∀ j, j < 52 → dkPi.getD i 0 = dkPi.getD j 0 → i = j := by decide +kernel
/-- both heaps as the constructors left them are the first state -/
theorem lq_new {D : va_G} {ta : Nat → ClassId} {ad ad2 : Nat → Nat} {sa : UInt32 → Nat} {A : Nat → Prop} {H : Heap} (hP : va_P D vwCl (pcw ta ad sa dkNew ++ pcw ta ad2 sa mdNew) H) (hD : va_D A (pcw ta ad sa dkNew ++ pcw ta ad2 sa mdNew)) (h2 : ad2 0 = ad 52) : LQ D ta ad sa A (q0, q0) H := by
  have key : ∀ (k : Nat) (q : Nat × va_E), (pcw ta (fun k => ad (dkPi.getD k 0)) sa (mkH 52 dk0))[k]? = some q → k < 52 ∧ ∃ e1, (pcw ta ad sa dkNew)[dkPi.getD k 0]? = some (q.1, e1) ∧ pceq q.2 e1 := by
    intro k q hk
    have hl : k < 52 := by
      have := (List.getElem?_eq_some_iff.mp hk).1
      simpa [pcw, mkH] using this
    refine ⟨hl, ?_⟩
    rw [pcw_get (mkH_get hl)] at hk
    cases hk
    obtain ⟨c, hc, he⟩ := dk_rows ta ad sa k hl
    exact ⟨_, pcw_get hc, he⟩
  refine ⟨mkH 52 dk0, mdNew, fun k => ad (dkPi.getD k 0), ad2, isD_new, isM_new, rfl, h2, va_P.app (fun k q hk => ?_) (va_P_r hP), va_D.app ⟨fun i j p q hp hq e => ?_, fun k q hk => ?_⟩ (va_D_r hD) (fun i j p q hp hq e => ?_)⟩
  · obtain ⟨-, e1, h1, h3⟩ := key k q hk
    exact pceq_at h3 (va_P_l hP _ _ h1)
  · obtain ⟨l1, e1, h1, -⟩ := key i p hp
    obtain ⟨l2, e3, h3, -⟩ := key j q hq
    exact dk_inj i l1 j l2 ((va_D_l hD).1 _ _ _ _ h1 h3 e)
  · obtain ⟨-, e1, h1, -⟩ := key k q hk
    exact (va_D_l hD).2 _ (q.1, e1) h1
  · obtain ⟨-, e1, h1, -⟩ := key i p hp
    exact va_D_x hD _ _ _ _ h1 hq e
