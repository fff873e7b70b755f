/-! ===== the desk as a heap ===== -/
def mkH (N : Nat) (F : Nat → PCell) : PH := (List.range N).map F
theorem mkH_get {N : Nat} {F : Nat → PCell} {k : Nat} (hk : k < N) : (mkH N F)[k]? = some (F k) := by
  simp [mkH, hk]
theorem mkH_set {N : Nat} {F : Nat → PCell} {k : Nat} {c : PCell} : (mkH N F).set k c = mkH N (fun j => if j = k then c else F j) := by
  apply List.ext_getElem?
  intro i
  rw [List.getElem?_set]
  by_cases hi : i < N
  · rw [mkH_get hi, mkH_get hi]
    by_cases e : k = i
    · subst e
      simp [mkH, hi]
    · rw [if_neg e, if_neg (fun z => e z.symm)]
  · have h1 : (mkH N F)[i]? = none := by simp [mkH]; omega
    have h2 : (mkH N (fun j => if j = k then c else F j))[i]? = none := by simp [mkH]; omega
    rw [h1, h2]
    by_cases e : k = i
    · subst e
      simp [mkH, hi]
    · rw [if_neg e]
theorem mkH_len {N : Nat} {F : Nat → PCell} : (mkH N F).length = N := by simp [mkH]
theorem mkH_ext {N : Nat} {F G : Nat → PCell} (h : ∀ j, j < N → F j = G j) : mkH N F = mkH N G := by
  apply List.ext_getElem?
  intro i
  by_cases hi : i < N
  · rw [mkH_get hi, mkH_get hi, h i hi]
  · have h1 : (mkH N F)[i]? = none := by simp [mkH]; omega
    have h2 : (mkH N G)[i]? = none := by simp [mkH]; omega
    rw [h1, h2]
def dkF (cd pc sc sd : Int32) (pk fr it : Nat → Nat → Int32) (kd hp ts tz : Nat → Int32) (ar ak an ah : Int32) (kt : Nat → Int32) (jk : Nat → Nat → Int32) (jl : Nat → Nat → Int64) (j : Nat) : PCell :=
  if j = 0 then pO 3 [.ref 1, .ref 14, .ref 35, .ref 44, .int cd, .int pc, .int sc, .int sd, .ref 46, .ref 47, .ref 48, .ref 49, .ref 50, .ref 51]
  else if j = 1 then pR 12 2 (fun j => some (2 + j))
  else if j < 14 then pI 10 (pk (j - 2))
  else if j = 14 then pR 10 3 (fun j => some (15 + j))
  else if j < 25 then pO 1 [.ref (10 + j), .int (kd (j - 15)), .int (hp (j - 15))]
  else if j < 35 then pI 10 (fr (j - 25))
  else if j = 35 then pR 4 4 (fun j => some (36 + j))
  else if j < 40 then pO 2 [.ref (4 + j), .int (ts (j - 36)), .int (tz (j - 36))]
  else if j < 44 then pI 40 (it (j - 40))
  else if j = 44 then pO 0 [.ref 45, .int ar, .int ak, .int an, .int ah]
  else if j = 45 then pI 40 kt
  else if j < 50 then pI 10 (jk (j - 46))
  else if j = 50 then pJ 10 (jl 0)
  else pJ 11 (jl 1)
theorem dr_o {cd pc sc sd ar ak an ah : Int32} {pk fr it jk : Nat → Nat → Int32} {kd hp ts tz kt : Nat → Int32} {jl : Nat → Nat → Int64}  : (mkH 52 (dkF cd pc sc sd pk fr it kd hp ts tz ar ak an ah kt jk jl))[0]? = some (pO 3 [.ref 1, .ref 14, .ref 35, .ref 44, .int cd, .int pc, .int sc, .int sd, .ref 46, .ref 47, .ref 48, .ref 49, .ref 50, .ref 51]) := by
  rw [mkH_get (by omega), dkF, if_pos (by omega)]
theorem dr_packs {cd pc sc sd ar ak an ah : Int32} {pk fr it jk : Nat → Nat → Int32} {kd hp ts tz kt : Nat → Int32} {jl : Nat → Nat → Int64}  : (mkH 52 (dkF cd pc sc sd pk fr it kd hp ts tz ar ak an ah kt jk jl))[1]? = some (pR 12 2 (fun j => some (2 + j))) := by
  rw [mkH_get (by omega), dkF, if_neg (by omega), if_pos (by omega)]
theorem dr_pk {cd pc sc sd ar ak an ah : Int32} {pk fr it jk : Nat → Nat → Int32} {kd hp ts tz kt : Nat → Int32} {jl : Nat → Nat → Int64} {p : Nat} (h : p < 12) : (mkH 52 (dkF cd pc sc sd pk fr it kd hp ts tz ar ak an ah kt jk jl))[2 + p]? = some (pI 10 (pk p)) := by
  rw [mkH_get (by omega), dkF, if_neg (by omega), if_neg (by omega), if_pos (by omega)]
  rw [show 2 + p - 2 = p by omega]
theorem dr_shs {cd pc sc sd ar ak an ah : Int32} {pk fr it jk : Nat → Nat → Int32} {kd hp ts tz kt : Nat → Int32} {jl : Nat → Nat → Int64}  : (mkH 52 (dkF cd pc sc sd pk fr it kd hp ts tz ar ak an ah kt jk jl))[14]? = some (pR 10 3 (fun j => some (15 + j))) := by
  rw [mkH_get (by omega), dkF, if_neg (by omega), if_neg (by omega), if_neg (by omega), if_pos (by omega)]
theorem dr_sh {cd pc sc sd ar ak an ah : Int32} {pk fr it jk : Nat → Nat → Int32} {kd hp ts tz kt : Nat → Int32} {jl : Nat → Nat → Int64} {s : Nat} (h : s < 10) : (mkH 52 (dkF cd pc sc sd pk fr it kd hp ts tz ar ak an ah kt jk jl))[15 + s]? = some (pO 1 [.ref (25 + s), .int (kd s), .int (hp s)]) := by
  rw [mkH_get (by omega), dkF, if_neg (by omega), if_neg (by omega), if_neg (by omega), if_neg (by omega), if_pos (by omega)]
  rw [show 15 + s - 15 = s by omega, show 10 + (15 + s) = 25 + s by omega]
theorem dr_fr {cd pc sc sd ar ak an ah : Int32} {pk fr it jk : Nat → Nat → Int32} {kd hp ts tz kt : Nat → Int32} {jl : Nat → Nat → Int64} {s : Nat} (h : s < 10) : (mkH 52 (dkF cd pc sc sd pk fr it kd hp ts tz ar ak an ah kt jk jl))[25 + s]? = some (pI 10 (fr s)) := by
  rw [mkH_get (by omega), dkF, if_neg (by omega), if_neg (by omega), if_neg (by omega), if_neg (by omega), if_neg (by omega), if_pos (by omega)]
  rw [show 25 + s - 25 = s by omega]
theorem dr_trs {cd pc sc sd ar ak an ah : Int32} {pk fr it jk : Nat → Nat → Int32} {kd hp ts tz kt : Nat → Int32} {jl : Nat → Nat → Int64}  : (mkH 52 (dkF cd pc sc sd pk fr it kd hp ts tz ar ak an ah kt jk jl))[35]? = some (pR 4 4 (fun j => some (36 + j))) := by
  rw [mkH_get (by omega), dkF, if_neg (by omega), if_neg (by omega), if_neg (by omega), if_neg (by omega), if_neg (by omega), if_neg (by omega), if_pos (by omega)]
theorem dr_tr {cd pc sc sd ar ak an ah : Int32} {pk fr it jk : Nat → Nat → Int32} {kd hp ts tz kt : Nat → Int32} {jl : Nat → Nat → Int64} {t : Nat} (h : t < 4) : (mkH 52 (dkF cd pc sc sd pk fr it kd hp ts tz ar ak an ah kt jk jl))[36 + t]? = some (pO 2 [.ref (40 + t), .int (ts t), .int (tz t)]) := by
  rw [mkH_get (by omega), dkF, if_neg (by omega), if_neg (by omega), if_neg (by omega), if_neg (by omega), if_neg (by omega), if_neg (by omega), if_neg (by omega), if_pos (by omega)]
  rw [show 36 + t - 36 = t by omega, show 4 + (36 + t) = 40 + t by omega]
theorem dr_it {cd pc sc sd ar ak an ah : Int32} {pk fr it jk : Nat → Nat → Int32} {kd hp ts tz kt : Nat → Int32} {jl : Nat → Nat → Int64} {t : Nat} (h : t < 4) : (mkH 52 (dkF cd pc sc sd pk fr it kd hp ts tz ar ak an ah kt jk jl))[40 + t]? = some (pI 40 (it t)) := by
  rw [mkH_get (by omega), dkF, if_neg (by omega), if_neg (by omega), if_neg (by omega), if_neg (by omega), if_neg (by omega), if_neg (by omega), if_neg (by omega), if_neg (by omega), if_pos (by omega)]
  rw [show 40 + t - 40 = t by omega]
theorem dr_ac {cd pc sc sd ar ak an ah : Int32} {pk fr it jk : Nat → Nat → Int32} {kd hp ts tz kt : Nat → Int32} {jl : Nat → Nat → Int64}  : (mkH 52 (dkF cd pc sc sd pk fr it kd hp ts tz ar ak an ah kt jk jl))[44]? = some (pO 0 [.ref 45, .int ar, .int ak, .int an, .int ah]) := by
  rw [mkH_get (by omega), dkF, if_neg (by omega), if_neg (by omega), if_neg (by omega), if_neg (by omega), if_neg (by omega), if_neg (by omega), if_neg (by omega), if_neg (by omega), if_neg (by omega), if_pos (by omega)]
theorem dr_kt {cd pc sc sd ar ak an ah : Int32} {pk fr it jk : Nat → Nat → Int32} {kd hp ts tz kt : Nat → Int32} {jl : Nat → Nat → Int64}  : (mkH 52 (dkF cd pc sc sd pk fr it kd hp ts tz ar ak an ah kt jk jl))[45]? = some (pI 40 kt) := by
  rw [mkH_get (by omega), dkF, if_neg (by omega), if_neg (by omega), if_neg (by omega), if_neg (by omega), if_neg (by omega), if_neg (by omega), if_neg (by omega), if_neg (by omega), if_neg (by omega), if_neg (by omega), if_pos (by omega)]
theorem dr_bf {cd pc sc sd ar ak an ah : Int32} {pk fr it jk : Nat → Nat → Int32} {kd hp ts tz kt : Nat → Int32} {jl : Nat → Nat → Int64}  : (mkH 52 (dkF cd pc sc sd pk fr it kd hp ts tz ar ak an ah kt jk jl))[46]? = some (pI 10 (jk 0)) := by
  rw [mkH_get (by omega), dkF, if_neg (by omega), if_neg (by omega), if_neg (by omega), if_neg (by omega), if_neg (by omega), if_neg (by omega), if_neg (by omega), if_neg (by omega), if_neg (by omega), if_neg (by omega), if_neg (by omega), if_pos (by omega)]
theorem dr_pl {cd pc sc sd ar ak an ah : Int32} {pk fr it jk : Nat → Nat → Int32} {kd hp ts tz kt : Nat → Int32} {jl : Nat → Nat → Int64}  : (mkH 52 (dkF cd pc sc sd pk fr it kd hp ts tz ar ak an ah kt jk jl))[47]? = some (pI 10 (jk 1)) := by
  rw [mkH_get (by omega), dkF, if_neg (by omega), if_neg (by omega), if_neg (by omega), if_neg (by omega), if_neg (by omega), if_neg (by omega), if_neg (by omega), if_neg (by omega), if_neg (by omega), if_neg (by omega), if_neg (by omega), if_pos (by omega)]
theorem dr_lr {cd pc sc sd ar ak an ah : Int32} {pk fr it jk : Nat → Nat → Int32} {kd hp ts tz kt : Nat → Int32} {jl : Nat → Nat → Int64}  : (mkH 52 (dkF cd pc sc sd pk fr it kd hp ts tz ar ak an ah kt jk jl))[48]? = some (pI 10 (jk 2)) := by
  rw [mkH_get (by omega), dkF, if_neg (by omega), if_neg (by omega), if_neg (by omega), if_neg (by omega), if_neg (by omega), if_neg (by omega), if_neg (by omega), if_neg (by omega), if_neg (by omega), if_neg (by omega), if_neg (by omega), if_pos (by omega)]
theorem dr_nh {cd pc sc sd ar ak an ah : Int32} {pk fr it jk : Nat → Nat → Int32} {kd hp ts tz kt : Nat → Int32} {jl : Nat → Nat → Int64}  : (mkH 52 (dkF cd pc sc sd pk fr it kd hp ts tz ar ak an ah kt jk jl))[49]? = some (pI 10 (jk 3)) := by
  rw [mkH_get (by omega), dkF, if_neg (by omega), if_neg (by omega), if_neg (by omega), if_neg (by omega), if_neg (by omega), if_neg (by omega), if_neg (by omega), if_neg (by omega), if_neg (by omega), if_neg (by omega), if_neg (by omega), if_pos (by omega)]
theorem dr_lc {cd pc sc sd ar ak an ah : Int32} {pk fr it jk : Nat → Nat → Int32} {kd hp ts tz kt : Nat → Int32} {jl : Nat → Nat → Int64}  : (mkH 52 (dkF cd pc sc sd pk fr it kd hp ts tz ar ak an ah kt jk jl))[50]? = some (pJ 10 (jl 0)) := by
  rw [mkH_get (by omega), dkF, if_neg (by omega), if_neg (by omega), if_neg (by omega), if_neg (by omega), if_neg (by omega), if_neg (by omega), if_neg (by omega), if_neg (by omega), if_neg (by omega), if_neg (by omega), if_neg (by omega), if_neg (by omega), if_pos (by omega)]
theorem dr_bl {cd pc sc sd ar ak an ah : Int32} {pk fr it jk : Nat → Nat → Int32} {kd hp ts tz kt : Nat → Int32} {jl : Nat → Nat → Int64}  : (mkH 52 (dkF cd pc sc sd pk fr it kd hp ts tz ar ak an ah kt jk jl))[51]? = some (pJ 11 (jl 1)) := by
  rw [mkH_get (by omega), dkF, if_neg (by omega), if_neg (by omega), if_neg (by omega), if_neg (by omega), if_neg (by omega), if_neg (by omega), if_neg (by omega), if_neg (by omega), if_neg (by omega), if_neg (by omega), if_neg (by omega), if_neg (by omega), if_neg (by omega)]
theorem dk_ext {cd pc sc sd ar ak an ah cd' pc' sc' sd' ar' ak' an' ah' : Int32} {pk fr it jk pk' fr' it' jk' : Nat → Nat → Int32} {kd hp ts tz kt kd' hp' ts' tz' kt' : Nat → Int32} {jl jl' : Nat → Nat → Int64} {j : Nat} (h0 : j = 0 → cd = cd' ∧ pc = pc' ∧ sc = sc' ∧ sd = sd') (h1 : 2 ≤ j → j < 14 → pk (j - 2) = pk' (j - 2)) (h2 : 15 ≤ j → j < 25 → kd (j - 15) = kd' (j - 15) ∧ hp (j - 15) = hp' (j - 15)) (h3 : 25 ≤ j → j < 35 → fr (j - 25) = fr' (j - 25)) (h4 : 36 ≤ j → j < 40 → ts (j - 36) = ts' (j - 36) ∧ tz (j - 36) = tz' (j - 36)) (h5 : 40 ≤ j → j < 44 → it (j - 40) = it' (j - 40)) (h6 : j = 44 → ar = ar' ∧ ak = ak' ∧ an = an' ∧ ah = ah') (h7 : j = 45 → kt = kt') (h8 : 46 ≤ j → j < 50 → jk (j - 46) = jk' (j - 46)) (h9 : 50 ≤ j → jl (j - 50) = jl' (j - 50)) (hj : j < 52) :
    dkF cd pc sc sd pk fr it kd hp ts tz ar ak an ah kt jk jl j = dkF cd' pc' sc' sd' pk' fr' it' kd' hp' ts' tz' ar' ak' an' ah' kt' jk' jl' j := by
  unfold dkF
  by_cases q0 : j = 0
  · obtain ⟨rfl, rfl, rfl, rfl⟩ := h0 q0
    rw [if_pos q0, if_pos q0]
  rw [if_neg q0, if_neg q0]
  by_cases q1 : j = 1
  · rw [if_pos q1, if_pos q1]
  rw [if_neg q1, if_neg q1]
  by_cases q2 : j < 14
  · rw [if_pos q2, if_pos q2, h1 (by omega) q2]
  rw [if_neg q2, if_neg q2]
  by_cases q3 : j = 14
  · rw [if_pos q3, if_pos q3]
  rw [if_neg q3, if_neg q3]
  by_cases q4 : j < 25
  · rw [if_pos q4, if_pos q4, (h2 (by omega) q4).1, (h2 (by omega) q4).2]
  rw [if_neg q4, if_neg q4]
  by_cases q5 : j < 35
  · rw [if_pos q5, if_pos q5, h3 (by omega) q5]
  rw [if_neg q5, if_neg q5]
  by_cases q6 : j = 35
  · rw [if_pos q6, if_pos q6]
  rw [if_neg q6, if_neg q6]
  by_cases q7 : j < 40
  · rw [if_pos q7, if_pos q7, (h4 (by omega) q7).1, (h4 (by omega) q7).2]
  rw [if_neg q7, if_neg q7]
  by_cases q8 : j < 44
  · rw [if_pos q8, if_pos q8, h5 (by omega) q8]
  rw [if_neg q8, if_neg q8]
  by_cases q9 : j = 44
  · obtain ⟨rfl, rfl, rfl, rfl⟩ := h6 q9
    rw [if_pos q9, if_pos q9]
  rw [if_neg q9, if_neg q9]
  by_cases qa : j = 45
  · obtain rfl := h7 qa
    rw [if_pos qa, if_pos qa]
  rw [if_neg qa, if_neg qa]
  by_cases qb : j < 50
  · rw [if_pos qb, if_pos qb, h8 (by omega) qb]
  rw [if_neg qb, if_neg qb]
  by_cases qc : j = 50
  · rw [if_pos qc, if_pos qc]
    have := h9 (by omega)
    rw [qc] at this
    exact congrArg (fun z => pJ 10 z) this
  · rw [if_neg qc, if_neg qc]
    have := h9 (by omega)
    rw [show j = 51 by omega] at this
    exact congrArg (fun z => pJ 11 z) this
theorem ds_cd {cd pc sc sd ar ak an ah : Int32} {pk fr it jk : Nat → Nat → Int32} {kd hp ts tz kt : Nat → Int32} {jl : Nat → Nat → Int64} {x : Int32} : (mkH 52 (dkF cd pc sc sd pk fr it kd hp ts tz ar ak an ah kt jk jl)).set (0) (pO 3 ([.ref 1, .ref 14, .ref 35, .ref 44, .int cd, .int pc, .int sc, .int sd, .ref 46, .ref 47, .ref 48, .ref 49, .ref 50, .ref 51].set 4 (.int x))) = mkH 52 (dkF (x) pc sc sd pk fr it kd hp ts tz ar ak an ah kt jk jl) := by
  rw [mkH_set]
  refine mkH_ext (fun j hj => ?_)
  by_cases e : j = 0
  · rw [if_pos e]
    have hr := @dr_o (x) pc sc sd ar ak an ah pk fr it jk kd hp ts tz kt jl
    rw [mkH_get (by omega)] at hr
    rw [e]
    have hr := Option.some.inj hr
    rw [hr]
    try rfl
  · rw [if_neg e]
    refine dk_ext ?_ ?_ ?_ ?_ ?_ ?_ ?_ ?_ ?_ ?_ hj
    · first | exact fun _ => ⟨rfl, rfl, rfl, rfl⟩ | exact fun q => absurd q (by omega)
    · first | exact fun _ _ => rfl | exact fun _ _ => (if_neg (by omega)).symm
    · first | exact fun _ _ => ⟨rfl, rfl⟩ | exact fun _ _ => ⟨(if_neg (by omega)).symm, rfl⟩ | exact fun _ _ => ⟨rfl, (if_neg (by omega)).symm⟩
    · first | exact fun _ _ => rfl | exact fun _ _ => (if_neg (by omega)).symm
    · first | exact fun _ _ => ⟨rfl, rfl⟩ | exact fun _ _ => ⟨(if_neg (by omega)).symm, rfl⟩ | exact fun _ _ => ⟨rfl, (if_neg (by omega)).symm⟩
    · first | exact fun _ _ => rfl | exact fun _ _ => (if_neg (by omega)).symm
    · first | exact fun _ => ⟨rfl, rfl, rfl, rfl⟩ | exact fun q => absurd q (by omega)
    · first | exact fun _ => rfl | exact fun q => absurd q (by omega)
    · first | exact fun _ _ => rfl | exact fun _ _ => (if_neg (by omega)).symm
    · first | exact fun _ => rfl | exact fun _ => (if_neg (by omega)).symm
theorem ds_pc {cd pc sc sd ar ak an ah : Int32} {pk fr it jk : Nat → Nat → Int32} {kd hp ts tz kt : Nat → Int32} {jl : Nat → Nat → Int64} {x : Int32} : (mkH 52 (dkF cd pc sc sd pk fr it kd hp ts tz ar ak an ah kt jk jl)).set (0) (pO 3 ([.ref 1, .ref 14, .ref 35, .ref 44, .int cd, .int pc, .int sc, .int sd, .ref 46, .ref 47, .ref 48, .ref 49, .ref 50, .ref 51].set 5 (.int x))) = mkH 52 (dkF cd (x) sc sd pk fr it kd hp ts tz ar ak an ah kt jk jl) := by
  rw [mkH_set]
  refine mkH_ext (fun j hj => ?_)
  by_cases e : j = 0
  · rw [if_pos e]
    have hr := @dr_o cd (x) sc sd ar ak an ah pk fr it jk kd hp ts tz kt jl
    rw [mkH_get (by omega)] at hr
    rw [e]
    have hr := Option.some.inj hr
    rw [hr]
    try rfl
  · rw [if_neg e]
    refine dk_ext ?_ ?_ ?_ ?_ ?_ ?_ ?_ ?_ ?_ ?_ hj
    · first | exact fun _ => ⟨rfl, rfl, rfl, rfl⟩ | exact fun q => absurd q (by omega)
    · first | exact fun _ _ => rfl | exact fun _ _ => (if_neg (by omega)).symm
    · first | exact fun _ _ => ⟨rfl, rfl⟩ | exact fun _ _ => ⟨(if_neg (by omega)).symm, rfl⟩ | exact fun _ _ => ⟨rfl, (if_neg (by omega)).symm⟩
    · first | exact fun _ _ => rfl | exact fun _ _ => (if_neg (by omega)).symm
    · first | exact fun _ _ => ⟨rfl, rfl⟩ | exact fun _ _ => ⟨(if_neg (by omega)).symm, rfl⟩ | exact fun _ _ => ⟨rfl, (if_neg (by omega)).symm⟩
    · first | exact fun _ _ => rfl | exact fun _ _ => (if_neg (by omega)).symm
    · first | exact fun _ => ⟨rfl, rfl, rfl, rfl⟩ | exact fun q => absurd q (by omega)
    · first | exact fun _ => rfl | exact fun q => absurd q (by omega)
    · first | exact fun _ _ => rfl | exact fun _ _ => (if_neg (by omega)).symm
    · first | exact fun _ => rfl | exact fun _ => (if_neg (by omega)).symm
theorem ds_sc {cd pc sc sd ar ak an ah : Int32} {pk fr it jk : Nat → Nat → Int32} {kd hp ts tz kt : Nat → Int32} {jl : Nat → Nat → Int64} {x : Int32} : (mkH 52 (dkF cd pc sc sd pk fr it kd hp ts tz ar ak an ah kt jk jl)).set (0) (pO 3 ([.ref 1, .ref 14, .ref 35, .ref 44, .int cd, .int pc, .int sc, .int sd, .ref 46, .ref 47, .ref 48, .ref 49, .ref 50, .ref 51].set 6 (.int x))) = mkH 52 (dkF cd pc (x) sd pk fr it kd hp ts tz ar ak an ah kt jk jl) := by
  rw [mkH_set]
  refine mkH_ext (fun j hj => ?_)
  by_cases e : j = 0
  · rw [if_pos e]
    have hr := @dr_o cd pc (x) sd ar ak an ah pk fr it jk kd hp ts tz kt jl
    rw [mkH_get (by omega)] at hr
    rw [e]
    have hr := Option.some.inj hr
    rw [hr]
    try rfl
  · rw [if_neg e]
    refine dk_ext ?_ ?_ ?_ ?_ ?_ ?_ ?_ ?_ ?_ ?_ hj
    · first | exact fun _ => ⟨rfl, rfl, rfl, rfl⟩ | exact fun q => absurd q (by omega)
    · first | exact fun _ _ => rfl | exact fun _ _ => (if_neg (by omega)).symm
    · first | exact fun _ _ => ⟨rfl, rfl⟩ | exact fun _ _ => ⟨(if_neg (by omega)).symm, rfl⟩ | exact fun _ _ => ⟨rfl, (if_neg (by omega)).symm⟩
    · first | exact fun _ _ => rfl | exact fun _ _ => (if_neg (by omega)).symm
    · first | exact fun _ _ => ⟨rfl, rfl⟩ | exact fun _ _ => ⟨(if_neg (by omega)).symm, rfl⟩ | exact fun _ _ => ⟨rfl, (if_neg (by omega)).symm⟩
    · first | exact fun _ _ => rfl | exact fun _ _ => (if_neg (by omega)).symm
    · first | exact fun _ => ⟨rfl, rfl, rfl, rfl⟩ | exact fun q => absurd q (by omega)
    · first | exact fun _ => rfl | exact fun q => absurd q (by omega)
    · first | exact fun _ _ => rfl | exact fun _ _ => (if_neg (by omega)).symm
    · first | exact fun _ => rfl | exact fun _ => (if_neg (by omega)).symm
theorem ds_sd {cd pc sc sd ar ak an ah : Int32} {pk fr it jk : Nat → Nat → Int32} {kd hp ts tz kt : Nat → Int32} {jl : Nat → Nat → Int64} {x : Int32} : (mkH 52 (dkF cd pc sc sd pk fr it kd hp ts tz ar ak an ah kt jk jl)).set (0) (pO 3 ([.ref 1, .ref 14, .ref 35, .ref 44, .int cd, .int pc, .int sc, .int sd, .ref 46, .ref 47, .ref 48, .ref 49, .ref 50, .ref 51].set 7 (.int x))) = mkH 52 (dkF cd pc sc (x) pk fr it kd hp ts tz ar ak an ah kt jk jl) := by
  rw [mkH_set]
  refine mkH_ext (fun j hj => ?_)
  by_cases e : j = 0
  · rw [if_pos e]
    have hr := @dr_o cd pc sc (x) ar ak an ah pk fr it jk kd hp ts tz kt jl
    rw [mkH_get (by omega)] at hr
    rw [e]
    have hr := Option.some.inj hr
    rw [hr]
    try rfl
  · rw [if_neg e]
    refine dk_ext ?_ ?_ ?_ ?_ ?_ ?_ ?_ ?_ ?_ ?_ hj
    · first | exact fun _ => ⟨rfl, rfl, rfl, rfl⟩ | exact fun q => absurd q (by omega)
    · first | exact fun _ _ => rfl | exact fun _ _ => (if_neg (by omega)).symm
    · first | exact fun _ _ => ⟨rfl, rfl⟩ | exact fun _ _ => ⟨(if_neg (by omega)).symm, rfl⟩ | exact fun _ _ => ⟨rfl, (if_neg (by omega)).symm⟩
    · first | exact fun _ _ => rfl | exact fun _ _ => (if_neg (by omega)).symm
    · first | exact fun _ _ => ⟨rfl, rfl⟩ | exact fun _ _ => ⟨(if_neg (by omega)).symm, rfl⟩ | exact fun _ _ => ⟨rfl, (if_neg (by omega)).symm⟩
    · first | exact fun _ _ => rfl | exact fun _ _ => (if_neg (by omega)).symm
    · first | exact fun _ => ⟨rfl, rfl, rfl, rfl⟩ | exact fun q => absurd q (by omega)
    · first | exact fun _ => rfl | exact fun q => absurd q (by omega)
    · first | exact fun _ _ => rfl | exact fun _ _ => (if_neg (by omega)).symm
    · first | exact fun _ => rfl | exact fun _ => (if_neg (by omega)).symm
theorem ds_ar {cd pc sc sd ar ak an ah : Int32} {pk fr it jk : Nat → Nat → Int32} {kd hp ts tz kt : Nat → Int32} {jl : Nat → Nat → Int64} {x : Int32} : (mkH 52 (dkF cd pc sc sd pk fr it kd hp ts tz ar ak an ah kt jk jl)).set (44) (pO 0 ([.ref 45, .int ar, .int ak, .int an, .int ah].set 1 (.int x))) = mkH 52 (dkF cd pc sc sd pk fr it kd hp ts tz (x) ak an ah kt jk jl) := by
  rw [mkH_set]
  refine mkH_ext (fun j hj => ?_)
  by_cases e : j = 44
  · rw [if_pos e]
    have hr := @dr_ac cd pc sc sd (x) ak an ah pk fr it jk kd hp ts tz kt jl
    rw [mkH_get (by omega)] at hr
    rw [e]
    have hr := Option.some.inj hr
    rw [hr]
    try rfl
  · rw [if_neg e]
    refine dk_ext ?_ ?_ ?_ ?_ ?_ ?_ ?_ ?_ ?_ ?_ hj
    · first | exact fun _ => ⟨rfl, rfl, rfl, rfl⟩ | exact fun q => absurd q (by omega)
    · first | exact fun _ _ => rfl | exact fun _ _ => (if_neg (by omega)).symm
    · first | exact fun _ _ => ⟨rfl, rfl⟩ | exact fun _ _ => ⟨(if_neg (by omega)).symm, rfl⟩ | exact fun _ _ => ⟨rfl, (if_neg (by omega)).symm⟩
    · first | exact fun _ _ => rfl | exact fun _ _ => (if_neg (by omega)).symm
    · first | exact fun _ _ => ⟨rfl, rfl⟩ | exact fun _ _ => ⟨(if_neg (by omega)).symm, rfl⟩ | exact fun _ _ => ⟨rfl, (if_neg (by omega)).symm⟩
    · first | exact fun _ _ => rfl | exact fun _ _ => (if_neg (by omega)).symm
    · first | exact fun _ => ⟨rfl, rfl, rfl, rfl⟩ | exact fun q => absurd q (by omega)
    · first | exact fun _ => rfl | exact fun q => absurd q (by omega)
    · first | exact fun _ _ => rfl | exact fun _ _ => (if_neg (by omega)).symm
    · first | exact fun _ => rfl | exact fun _ => (if_neg (by omega)).symm
theorem ds_ak {cd pc sc sd ar ak an ah : Int32} {pk fr it jk : Nat → Nat → Int32} {kd hp ts tz kt : Nat → Int32} {jl : Nat → Nat → Int64} {x : Int32} : (mkH 52 (dkF cd pc sc sd pk fr it kd hp ts tz ar ak an ah kt jk jl)).set (44) (pO 0 ([.ref 45, .int ar, .int ak, .int an, .int ah].set 2 (.int x))) = mkH 52 (dkF cd pc sc sd pk fr it kd hp ts tz ar (x) an ah kt jk jl) := by
  rw [mkH_set]
  refine mkH_ext (fun j hj => ?_)
  by_cases e : j = 44
  · rw [if_pos e]
    have hr := @dr_ac cd pc sc sd ar (x) an ah pk fr it jk kd hp ts tz kt jl
    rw [mkH_get (by omega)] at hr
    rw [e]
    have hr := Option.some.inj hr
    rw [hr]
    try rfl
  · rw [if_neg e]
    refine dk_ext ?_ ?_ ?_ ?_ ?_ ?_ ?_ ?_ ?_ ?_ hj
    · first | exact fun _ => ⟨rfl, rfl, rfl, rfl⟩ | exact fun q => absurd q (by omega)
    · first | exact fun _ _ => rfl | exact fun _ _ => (if_neg (by omega)).symm
    · first | exact fun _ _ => ⟨rfl, rfl⟩ | exact fun _ _ => ⟨(if_neg (by omega)).symm, rfl⟩ | exact fun _ _ => ⟨rfl, (if_neg (by omega)).symm⟩
    · first | exact fun _ _ => rfl | exact fun _ _ => (if_neg (by omega)).symm
    · first | exact fun _ _ => ⟨rfl, rfl⟩ | exact fun _ _ => ⟨(if_neg (by omega)).symm, rfl⟩ | exact fun _ _ => ⟨rfl, (if_neg (by omega)).symm⟩
    · first | exact fun _ _ => rfl | exact fun _ _ => (if_neg (by omega)).symm
    · first | exact fun _ => ⟨rfl, rfl, rfl, rfl⟩ | exact fun q => absurd q (by omega)
    · first | exact fun _ => rfl | exact fun q => absurd q (by omega)
    · first | exact fun _ _ => rfl | exact fun _ _ => (if_neg (by omega)).symm
    · first | exact fun _ => rfl | exact fun _ => (if_neg (by omega)).symm
theorem ds_an {cd pc sc sd ar ak an ah : Int32} {pk fr it jk : Nat → Nat → Int32} {kd hp ts tz kt : Nat → Int32} {jl : Nat → Nat → Int64} {x : Int32} : (mkH 52 (dkF cd pc sc sd pk fr it kd hp ts tz ar ak an ah kt jk jl)).set (44) (pO 0 ([.ref 45, .int ar, .int ak, .int an, .int ah].set 3 (.int x))) = mkH 52 (dkF cd pc sc sd pk fr it kd hp ts tz ar ak (x) ah kt jk jl) := by
  rw [mkH_set]
  refine mkH_ext (fun j hj => ?_)
  by_cases e : j = 44
  · rw [if_pos e]
    have hr := @dr_ac cd pc sc sd ar ak (x) ah pk fr it jk kd hp ts tz kt jl
    rw [mkH_get (by omega)] at hr
    rw [e]
    have hr := Option.some.inj hr
    rw [hr]
    try rfl
  · rw [if_neg e]
    refine dk_ext ?_ ?_ ?_ ?_ ?_ ?_ ?_ ?_ ?_ ?_ hj
    · first | exact fun _ => ⟨rfl, rfl, rfl, rfl⟩ | exact fun q => absurd q (by omega)
    · first | exact fun _ _ => rfl | exact fun _ _ => (if_neg (by omega)).symm
    · first | exact fun _ _ => ⟨rfl, rfl⟩ | exact fun _ _ => ⟨(if_neg (by omega)).symm, rfl⟩ | exact fun _ _ => ⟨rfl, (if_neg (by omega)).symm⟩
    · first | exact fun _ _ => rfl | exact fun _ _ => (if_neg (by omega)).symm
    · first | exact fun _ _ => ⟨rfl, rfl⟩ | exact fun _ _ => ⟨(if_neg (by omega)).symm, rfl⟩ | exact fun _ _ => ⟨rfl, (if_neg (by omega)).symm⟩
    · first | exact fun _ _ => rfl | exact fun _ _ => (if_neg (by omega)).symm
    · first | exact fun _ => ⟨rfl, rfl, rfl, rfl⟩ | exact fun q => absurd q (by omega)
    · first | exact fun _ => rfl | exact fun q => absurd q (by omega)
    · first | exact fun _ _ => rfl | exact fun _ _ => (if_neg (by omega)).symm
    · first | exact fun _ => rfl | exact fun _ => (if_neg (by omega)).symm
theorem ds_ah {cd pc sc sd ar ak an ah : Int32} {pk fr it jk : Nat → Nat → Int32} {kd hp ts tz kt : Nat → Int32} {jl : Nat → Nat → Int64} {x : Int32} : (mkH 52 (dkF cd pc sc sd pk fr it kd hp ts tz ar ak an ah kt jk jl)).set (44) (pO 0 ([.ref 45, .int ar, .int ak, .int an, .int ah].set 4 (.int x))) = mkH 52 (dkF cd pc sc sd pk fr it kd hp ts tz ar ak an (x) kt jk jl) := by
  rw [mkH_set]
  refine mkH_ext (fun j hj => ?_)
  by_cases e : j = 44
  · rw [if_pos e]
    have hr := @dr_ac cd pc sc sd ar ak an (x) pk fr it jk kd hp ts tz kt jl
    rw [mkH_get (by omega)] at hr
    rw [e]
    have hr := Option.some.inj hr
    rw [hr]
    try rfl
  · rw [if_neg e]
    refine dk_ext ?_ ?_ ?_ ?_ ?_ ?_ ?_ ?_ ?_ ?_ hj
    · first | exact fun _ => ⟨rfl, rfl, rfl, rfl⟩ | exact fun q => absurd q (by omega)
    · first | exact fun _ _ => rfl | exact fun _ _ => (if_neg (by omega)).symm
    · first | exact fun _ _ => ⟨rfl, rfl⟩ | exact fun _ _ => ⟨(if_neg (by omega)).symm, rfl⟩ | exact fun _ _ => ⟨rfl, (if_neg (by omega)).symm⟩
    · first | exact fun _ _ => rfl | exact fun _ _ => (if_neg (by omega)).symm
    · first | exact fun _ _ => ⟨rfl, rfl⟩ | exact fun _ _ => ⟨(if_neg (by omega)).symm, rfl⟩ | exact fun _ _ => ⟨rfl, (if_neg (by omega)).symm⟩
    · first | exact fun _ _ => rfl | exact fun _ _ => (if_neg (by omega)).symm
    · first | exact fun _ => ⟨rfl, rfl, rfl, rfl⟩ | exact fun q => absurd q (by omega)
    · first | exact fun _ => rfl | exact fun q => absurd q (by omega)
    · first | exact fun _ _ => rfl | exact fun _ _ => (if_neg (by omega)).symm
    · first | exact fun _ => rfl | exact fun _ => (if_neg (by omega)).symm
theorem ds_pk {cd pc sc sd ar ak an ah : Int32} {pk fr it jk : Nat → Nat → Int32} {kd hp ts tz kt : Nat → Int32} {jl : Nat → Nat → Int64} {p : Nat} {f : Nat → Int32} (h : p < 12) : (mkH 52 (dkF cd pc sc sd pk fr it kd hp ts tz ar ak an ah kt jk jl)).set (2 + p) (pI 10 f) = mkH 52 (dkF cd pc sc sd (va_up pk p f) fr it kd hp ts tz ar ak an ah kt jk jl) := by
  rw [mkH_set]
  refine mkH_ext (fun j hj => ?_)
  by_cases e : j = 2 + p
  · rw [if_pos e]
    have hr := @dr_pk cd pc sc sd ar ak an ah (va_up pk p f) fr it jk kd hp ts tz kt jl p h
    rw [mkH_get (by omega)] at hr
    rw [e]
    have hr := Option.some.inj hr
    rw [hr]
    rw [show va_up pk p f p = f from if_pos rfl]
  · rw [if_neg e]
    refine dk_ext ?_ ?_ ?_ ?_ ?_ ?_ ?_ ?_ ?_ ?_ hj
    · first | exact fun _ => ⟨rfl, rfl, rfl, rfl⟩ | exact fun q => absurd q (by omega)
    · first | exact fun _ _ => rfl | exact fun _ _ => (if_neg (by omega)).symm
    · first | exact fun _ _ => ⟨rfl, rfl⟩ | exact fun _ _ => ⟨(if_neg (by omega)).symm, rfl⟩ | exact fun _ _ => ⟨rfl, (if_neg (by omega)).symm⟩
    · first | exact fun _ _ => rfl | exact fun _ _ => (if_neg (by omega)).symm
    · first | exact fun _ _ => ⟨rfl, rfl⟩ | exact fun _ _ => ⟨(if_neg (by omega)).symm, rfl⟩ | exact fun _ _ => ⟨rfl, (if_neg (by omega)).symm⟩
    · first | exact fun _ _ => rfl | exact fun _ _ => (if_neg (by omega)).symm
    · first | exact fun _ => ⟨rfl, rfl, rfl, rfl⟩ | exact fun q => absurd q (by omega)
    · first | exact fun _ => rfl | exact fun q => absurd q (by omega)
    · first | exact fun _ _ => rfl | exact fun _ _ => (if_neg (by omega)).symm
    · first | exact fun _ => rfl | exact fun _ => (if_neg (by omega)).symm
theorem ds_fr {cd pc sc sd ar ak an ah : Int32} {pk fr it jk : Nat → Nat → Int32} {kd hp ts tz kt : Nat → Int32} {jl : Nat → Nat → Int64} {s : Nat} {f : Nat → Int32} (h : s < 10) : (mkH 52 (dkF cd pc sc sd pk fr it kd hp ts tz ar ak an ah kt jk jl)).set (25 + s) (pI 10 f) = mkH 52 (dkF cd pc sc sd pk (va_up fr s f) it kd hp ts tz ar ak an ah kt jk jl) := by
  rw [mkH_set]
  refine mkH_ext (fun j hj => ?_)
  by_cases e : j = 25 + s
  · rw [if_pos e]
    have hr := @dr_fr cd pc sc sd ar ak an ah pk (va_up fr s f) it jk kd hp ts tz kt jl s h
    rw [mkH_get (by omega)] at hr
    rw [e]
    have hr := Option.some.inj hr
    rw [hr]
    rw [show va_up fr s f s = f from if_pos rfl]
  · rw [if_neg e]
    refine dk_ext ?_ ?_ ?_ ?_ ?_ ?_ ?_ ?_ ?_ ?_ hj
    · first | exact fun _ => ⟨rfl, rfl, rfl, rfl⟩ | exact fun q => absurd q (by omega)
    · first | exact fun _ _ => rfl | exact fun _ _ => (if_neg (by omega)).symm
    · first | exact fun _ _ => ⟨rfl, rfl⟩ | exact fun _ _ => ⟨(if_neg (by omega)).symm, rfl⟩ | exact fun _ _ => ⟨rfl, (if_neg (by omega)).symm⟩
    · first | exact fun _ _ => rfl | exact fun _ _ => (if_neg (by omega)).symm
    · first | exact fun _ _ => ⟨rfl, rfl⟩ | exact fun _ _ => ⟨(if_neg (by omega)).symm, rfl⟩ | exact fun _ _ => ⟨rfl, (if_neg (by omega)).symm⟩
    · first | exact fun _ _ => rfl | exact fun _ _ => (if_neg (by omega)).symm
    · first | exact fun _ => ⟨rfl, rfl, rfl, rfl⟩ | exact fun q => absurd q (by omega)
    · first | exact fun _ => rfl | exact fun q => absurd q (by omega)
    · first | exact fun _ _ => rfl | exact fun _ _ => (if_neg (by omega)).symm
    · first | exact fun _ => rfl | exact fun _ => (if_neg (by omega)).symm
theorem ds_it {cd pc sc sd ar ak an ah : Int32} {pk fr it jk : Nat → Nat → Int32} {kd hp ts tz kt : Nat → Int32} {jl : Nat → Nat → Int64} {t : Nat} {f : Nat → Int32} (h : t < 4) : (mkH 52 (dkF cd pc sc sd pk fr it kd hp ts tz ar ak an ah kt jk jl)).set (40 + t) (pI 40 f) = mkH 52 (dkF cd pc sc sd pk fr (va_up it t f) kd hp ts tz ar ak an ah kt jk jl) := by
  rw [mkH_set]
  refine mkH_ext (fun j hj => ?_)
  by_cases e : j = 40 + t
  · rw [if_pos e]
    have hr := @dr_it cd pc sc sd ar ak an ah pk fr (va_up it t f) jk kd hp ts tz kt jl t h
    rw [mkH_get (by omega)] at hr
    rw [e]
    have hr := Option.some.inj hr
    rw [hr]
    rw [show va_up it t f t = f from if_pos rfl]
  · rw [if_neg e]
    refine dk_ext ?_ ?_ ?_ ?_ ?_ ?_ ?_ ?_ ?_ ?_ hj
    · first | exact fun _ => ⟨rfl, rfl, rfl, rfl⟩ | exact fun q => absurd q (by omega)
    · first | exact fun _ _ => rfl | exact fun _ _ => (if_neg (by omega)).symm
    · first | exact fun _ _ => ⟨rfl, rfl⟩ | exact fun _ _ => ⟨(if_neg (by omega)).symm, rfl⟩ | exact fun _ _ => ⟨rfl, (if_neg (by omega)).symm⟩
    · first | exact fun _ _ => rfl | exact fun _ _ => (if_neg (by omega)).symm
    · first | exact fun _ _ => ⟨rfl, rfl⟩ | exact fun _ _ => ⟨(if_neg (by omega)).symm, rfl⟩ | exact fun _ _ => ⟨rfl, (if_neg (by omega)).symm⟩
    · first | exact fun _ _ => rfl | exact fun _ _ => (if_neg (by omega)).symm
    · first | exact fun _ => ⟨rfl, rfl, rfl, rfl⟩ | exact fun q => absurd q (by omega)
    · first | exact fun _ => rfl | exact fun q => absurd q (by omega)
    · first | exact fun _ _ => rfl | exact fun _ _ => (if_neg (by omega)).symm
    · first | exact fun _ => rfl | exact fun _ => (if_neg (by omega)).symm
theorem ds_kd {cd pc sc sd ar ak an ah : Int32} {pk fr it jk : Nat → Nat → Int32} {kd hp ts tz kt : Nat → Int32} {jl : Nat → Nat → Int64} {s : Nat} {x : Int32} (h : s < 10) : (mkH 52 (dkF cd pc sc sd pk fr it kd hp ts tz ar ak an ah kt jk jl)).set (15 + s) (pO 1 ([.ref (25 + s), .int (kd s), .int (hp s)].set 1 (.int x))) = mkH 52 (dkF cd pc sc sd pk fr it (upd kd s x) hp ts tz ar ak an ah kt jk jl) := by
  rw [mkH_set]
  refine mkH_ext (fun j hj => ?_)
  by_cases e : j = 15 + s
  · rw [if_pos e]
    have hr := @dr_sh cd pc sc sd ar ak an ah pk fr it jk (upd kd s x) hp ts tz kt jl s h
    rw [mkH_get (by omega)] at hr
    rw [e]
    have hr := Option.some.inj hr
    rw [hr]
    rw [show upd kd s x s = x from if_pos rfl]
    try rfl
  · rw [if_neg e]
    refine dk_ext ?_ ?_ ?_ ?_ ?_ ?_ ?_ ?_ ?_ ?_ hj
    · first | exact fun _ => ⟨rfl, rfl, rfl, rfl⟩ | exact fun q => absurd q (by omega)
    · first | exact fun _ _ => rfl | exact fun _ _ => (if_neg (by omega)).symm
    · first | exact fun _ _ => ⟨rfl, rfl⟩ | exact fun _ _ => ⟨(if_neg (by omega)).symm, rfl⟩ | exact fun _ _ => ⟨rfl, (if_neg (by omega)).symm⟩
    · first | exact fun _ _ => rfl | exact fun _ _ => (if_neg (by omega)).symm
    · first | exact fun _ _ => ⟨rfl, rfl⟩ | exact fun _ _ => ⟨(if_neg (by omega)).symm, rfl⟩ | exact fun _ _ => ⟨rfl, (if_neg (by omega)).symm⟩
    · first | exact fun _ _ => rfl | exact fun _ _ => (if_neg (by omega)).symm
    · first | exact fun _ => ⟨rfl, rfl, rfl, rfl⟩ | exact fun q => absurd q (by omega)
    · first | exact fun _ => rfl | exact fun q => absurd q (by omega)
    · first | exact fun _ _ => rfl | exact fun _ _ => (if_neg (by omega)).symm
    · first | exact fun _ => rfl | exact fun _ => (if_neg (by omega)).symm
theorem ds_hp {cd pc sc sd ar ak an ah : Int32} {pk fr it jk : Nat → Nat → Int32} {kd hp ts tz kt : Nat → Int32} {jl : Nat → Nat → Int64} {s : Nat} {x : Int32} (h : s < 10) : (mkH 52 (dkF cd pc sc sd pk fr it kd hp ts tz ar ak an ah kt jk jl)).set (15 + s) (pO 1 ([.ref (25 + s), .int (kd s), .int (hp s)].set 2 (.int x))) = mkH 52 (dkF cd pc sc sd pk fr it kd (upd hp s x) ts tz ar ak an ah kt jk jl) := by
  rw [mkH_set]
  refine mkH_ext (fun j hj => ?_)
  by_cases e : j = 15 + s
  · rw [if_pos e]
    have hr := @dr_sh cd pc sc sd ar ak an ah pk fr it jk kd (upd hp s x) ts tz kt jl s h
    rw [mkH_get (by omega)] at hr
    rw [e]
    have hr := Option.some.inj hr
    rw [hr]
    rw [show upd hp s x s = x from if_pos rfl]
    try rfl
  · rw [if_neg e]
    refine dk_ext ?_ ?_ ?_ ?_ ?_ ?_ ?_ ?_ ?_ ?_ hj
    · first | exact fun _ => ⟨rfl, rfl, rfl, rfl⟩ | exact fun q => absurd q (by omega)
    · first | exact fun _ _ => rfl | exact fun _ _ => (if_neg (by omega)).symm
    · first | exact fun _ _ => ⟨rfl, rfl⟩ | exact fun _ _ => ⟨(if_neg (by omega)).symm, rfl⟩ | exact fun _ _ => ⟨rfl, (if_neg (by omega)).symm⟩
    · first | exact fun _ _ => rfl | exact fun _ _ => (if_neg (by omega)).symm
    · first | exact fun _ _ => ⟨rfl, rfl⟩ | exact fun _ _ => ⟨(if_neg (by omega)).symm, rfl⟩ | exact fun _ _ => ⟨rfl, (if_neg (by omega)).symm⟩
    · first | exact fun _ _ => rfl | exact fun _ _ => (if_neg (by omega)).symm
    · first | exact fun _ => ⟨rfl, rfl, rfl, rfl⟩ | exact fun q => absurd q (by omega)
    · first | exact fun _ => rfl | exact fun q => absurd q (by omega)
    · first | exact fun _ _ => rfl | exact fun _ _ => (if_neg (by omega)).symm
    · first | exact fun _ => rfl | exact fun _ => (if_neg (by omega)).symm
theorem ds_ts {cd pc sc sd ar ak an ah : Int32} {pk fr it jk : Nat → Nat → Int32} {kd hp ts tz kt : Nat → Int32} {jl : Nat → Nat → Int64} {t : Nat} {x : Int32} (h : t < 4) : (mkH 52 (dkF cd pc sc sd pk fr it kd hp ts tz ar ak an ah kt jk jl)).set (36 + t) (pO 2 ([.ref (40 + t), .int (ts t), .int (tz t)].set 1 (.int x))) = mkH 52 (dkF cd pc sc sd pk fr it kd hp (upd ts t x) tz ar ak an ah kt jk jl) := by
  rw [mkH_set]
  refine mkH_ext (fun j hj => ?_)
  by_cases e : j = 36 + t
  · rw [if_pos e]
    have hr := @dr_tr cd pc sc sd ar ak an ah pk fr it jk kd hp (upd ts t x) tz kt jl t h
    rw [mkH_get (by omega)] at hr
    rw [e]
    have hr := Option.some.inj hr
    rw [hr]
    rw [show upd ts t x t = x from if_pos rfl]
    try rfl
  · rw [if_neg e]
    refine dk_ext ?_ ?_ ?_ ?_ ?_ ?_ ?_ ?_ ?_ ?_ hj
    · first | exact fun _ => ⟨rfl, rfl, rfl, rfl⟩ | exact fun q => absurd q (by omega)
    · first | exact fun _ _ => rfl | exact fun _ _ => (if_neg (by omega)).symm
    · first | exact fun _ _ => ⟨rfl, rfl⟩ | exact fun _ _ => ⟨(if_neg (by omega)).symm, rfl⟩ | exact fun _ _ => ⟨rfl, (if_neg (by omega)).symm⟩
    · first | exact fun _ _ => rfl | exact fun _ _ => (if_neg (by omega)).symm
    · first | exact fun _ _ => ⟨rfl, rfl⟩ | exact fun _ _ => ⟨(if_neg (by omega)).symm, rfl⟩ | exact fun _ _ => ⟨rfl, (if_neg (by omega)).symm⟩
    · first | exact fun _ _ => rfl | exact fun _ _ => (if_neg (by omega)).symm
    · first | exact fun _ => ⟨rfl, rfl, rfl, rfl⟩ | exact fun q => absurd q (by omega)
    · first | exact fun _ => rfl | exact fun q => absurd q (by omega)
    · first | exact fun _ _ => rfl | exact fun _ _ => (if_neg (by omega)).symm
    · first | exact fun _ => rfl | exact fun _ => (if_neg (by omega)).symm
theorem ds_tz {cd pc sc sd ar ak an ah : Int32} {pk fr it jk : Nat → Nat → Int32} {kd hp ts tz kt : Nat → Int32} {jl : Nat → Nat → Int64} {t : Nat} {x : Int32} (h : t < 4) : (mkH 52 (dkF cd pc sc sd pk fr it kd hp ts tz ar ak an ah kt jk jl)).set (36 + t) (pO 2 ([.ref (40 + t), .int (ts t), .int (tz t)].set 2 (.int x))) = mkH 52 (dkF cd pc sc sd pk fr it kd hp ts (upd tz t x) ar ak an ah kt jk jl) := by
  rw [mkH_set]
  refine mkH_ext (fun j hj => ?_)
  by_cases e : j = 36 + t
  · rw [if_pos e]
    have hr := @dr_tr cd pc sc sd ar ak an ah pk fr it jk kd hp ts (upd tz t x) kt jl t h
    rw [mkH_get (by omega)] at hr
    rw [e]
    have hr := Option.some.inj hr
    rw [hr]
    rw [show upd tz t x t = x from if_pos rfl]
    try rfl
  · rw [if_neg e]
    refine dk_ext ?_ ?_ ?_ ?_ ?_ ?_ ?_ ?_ ?_ ?_ hj
    · first | exact fun _ => ⟨rfl, rfl, rfl, rfl⟩ | exact fun q => absurd q (by omega)
    · first | exact fun _ _ => rfl | exact fun _ _ => (if_neg (by omega)).symm
    · first | exact fun _ _ => ⟨rfl, rfl⟩ | exact fun _ _ => ⟨(if_neg (by omega)).symm, rfl⟩ | exact fun _ _ => ⟨rfl, (if_neg (by omega)).symm⟩
    · first | exact fun _ _ => rfl | exact fun _ _ => (if_neg (by omega)).symm
    · first | exact fun _ _ => ⟨rfl, rfl⟩ | exact fun _ _ => ⟨(if_neg (by omega)).symm, rfl⟩ | exact fun _ _ => ⟨rfl, (if_neg (by omega)).symm⟩
    · first | exact fun _ _ => rfl | exact fun _ _ => (if_neg (by omega)).symm
    · first | exact fun _ => ⟨rfl, rfl, rfl, rfl⟩ | exact fun q => absurd q (by omega)
    · first | exact fun _ => rfl | exact fun q => absurd q (by omega)
    · first | exact fun _ _ => rfl | exact fun _ _ => (if_neg (by omega)).symm
    · first | exact fun _ => rfl | exact fun _ => (if_neg (by omega)).symm
theorem ds_kt {cd pc sc sd ar ak an ah : Int32} {pk fr it jk : Nat → Nat → Int32} {kd hp ts tz kt : Nat → Int32} {jl : Nat → Nat → Int64} {f : Nat → Int32} : (mkH 52 (dkF cd pc sc sd pk fr it kd hp ts tz ar ak an ah kt jk jl)).set (45) (pI 40 f) = mkH 52 (dkF cd pc sc sd pk fr it kd hp ts tz ar ak an ah (f) jk jl) := by
  rw [mkH_set]
  refine mkH_ext (fun j hj => ?_)
  by_cases e : j = 45
  · rw [if_pos e]
    have hr := @dr_kt cd pc sc sd ar ak an ah pk fr it jk kd hp ts tz (f) jl
    rw [mkH_get (by omega)] at hr
    rw [e]
    have hr := Option.some.inj hr
    rw [hr]
    try rfl
  · rw [if_neg e]
    refine dk_ext ?_ ?_ ?_ ?_ ?_ ?_ ?_ ?_ ?_ ?_ hj
    · first | exact fun _ => ⟨rfl, rfl, rfl, rfl⟩ | exact fun q => absurd q (by omega)
    · first | exact fun _ _ => rfl | exact fun _ _ => (if_neg (by omega)).symm
    · first | exact fun _ _ => ⟨rfl, rfl⟩ | exact fun _ _ => ⟨(if_neg (by omega)).symm, rfl⟩ | exact fun _ _ => ⟨rfl, (if_neg (by omega)).symm⟩
    · first | exact fun _ _ => rfl | exact fun _ _ => (if_neg (by omega)).symm
    · first | exact fun _ _ => ⟨rfl, rfl⟩ | exact fun _ _ => ⟨(if_neg (by omega)).symm, rfl⟩ | exact fun _ _ => ⟨rfl, (if_neg (by omega)).symm⟩
    · first | exact fun _ _ => rfl | exact fun _ _ => (if_neg (by omega)).symm
    · first | exact fun _ => ⟨rfl, rfl, rfl, rfl⟩ | exact fun q => absurd q (by omega)
    · first | exact fun _ => rfl | exact fun q => absurd q (by omega)
    · first | exact fun _ _ => rfl | exact fun _ _ => (if_neg (by omega)).symm
    · first | exact fun _ => rfl | exact fun _ => (if_neg (by omega)).symm
theorem ds_bf {cd pc sc sd ar ak an ah : Int32} {pk fr it jk : Nat → Nat → Int32} {kd hp ts tz kt : Nat → Int32} {jl : Nat → Nat → Int64} {f : Nat → Int32} : (mkH 52 (dkF cd pc sc sd pk fr it kd hp ts tz ar ak an ah kt jk jl)).set (46) (pI 10 f) = mkH 52 (dkF cd pc sc sd pk fr it kd hp ts tz ar ak an ah kt (va_up jk 0 f) jl) := by
  rw [mkH_set]
  refine mkH_ext (fun j hj => ?_)
  by_cases e : j = 46
  · rw [if_pos e]
    have hr := @dr_bf cd pc sc sd ar ak an ah pk fr it (va_up jk 0 f) kd hp ts tz kt jl
    rw [mkH_get (by omega)] at hr
    rw [e]
    have hr := Option.some.inj hr
    rw [hr]
    rw [show va_up jk 0 f 0 = f from if_pos rfl]
  · rw [if_neg e]
    refine dk_ext ?_ ?_ ?_ ?_ ?_ ?_ ?_ ?_ ?_ ?_ hj
    · first | exact fun _ => ⟨rfl, rfl, rfl, rfl⟩ | exact fun q => absurd q (by omega)
    · first | exact fun _ _ => rfl | exact fun _ _ => (if_neg (by omega)).symm
    · first | exact fun _ _ => ⟨rfl, rfl⟩ | exact fun _ _ => ⟨(if_neg (by omega)).symm, rfl⟩ | exact fun _ _ => ⟨rfl, (if_neg (by omega)).symm⟩
    · first | exact fun _ _ => rfl | exact fun _ _ => (if_neg (by omega)).symm
    · first | exact fun _ _ => ⟨rfl, rfl⟩ | exact fun _ _ => ⟨(if_neg (by omega)).symm, rfl⟩ | exact fun _ _ => ⟨rfl, (if_neg (by omega)).symm⟩
    · first | exact fun _ _ => rfl | exact fun _ _ => (if_neg (by omega)).symm
    · first | exact fun _ => ⟨rfl, rfl, rfl, rfl⟩ | exact fun q => absurd q (by omega)
    · first | exact fun _ => rfl | exact fun q => absurd q (by omega)
    · first | exact fun _ _ => rfl | exact fun _ _ => (if_neg (by omega)).symm
    · first | exact fun _ => rfl | exact fun _ => (if_neg (by omega)).symm
theorem ds_pl {cd pc sc sd ar ak an ah : Int32} {pk fr it jk : Nat → Nat → Int32} {kd hp ts tz kt : Nat → Int32} {jl : Nat → Nat → Int64} {f : Nat → Int32} : (mkH 52 (dkF cd pc sc sd pk fr it kd hp ts tz ar ak an ah kt jk jl)).set (47) (pI 10 f) = mkH 52 (dkF cd pc sc sd pk fr it kd hp ts tz ar ak an ah kt (va_up jk 1 f) jl) := by
  rw [mkH_set]
  refine mkH_ext (fun j hj => ?_)
  by_cases e : j = 47
  · rw [if_pos e]
    have hr := @dr_pl cd pc sc sd ar ak an ah pk fr it (va_up jk 1 f) kd hp ts tz kt jl
    rw [mkH_get (by omega)] at hr
    rw [e]
    have hr := Option.some.inj hr
    rw [hr]
    rw [show va_up jk 1 f 1 = f from if_pos rfl]
  · rw [if_neg e]
    refine dk_ext ?_ ?_ ?_ ?_ ?_ ?_ ?_ ?_ ?_ ?_ hj
    · first | exact fun _ => ⟨rfl, rfl, rfl, rfl⟩ | exact fun q => absurd q (by omega)
    · first | exact fun _ _ => rfl | exact fun _ _ => (if_neg (by omega)).symm
    · first | exact fun _ _ => ⟨rfl, rfl⟩ | exact fun _ _ => ⟨(if_neg (by omega)).symm, rfl⟩ | exact fun _ _ => ⟨rfl, (if_neg (by omega)).symm⟩
    · first | exact fun _ _ => rfl | exact fun _ _ => (if_neg (by omega)).symm
    · first | exact fun _ _ => ⟨rfl, rfl⟩ | exact fun _ _ => ⟨(if_neg (by omega)).symm, rfl⟩ | exact fun _ _ => ⟨rfl, (if_neg (by omega)).symm⟩
    · first | exact fun _ _ => rfl | exact fun _ _ => (if_neg (by omega)).symm
    · first | exact fun _ => ⟨rfl, rfl, rfl, rfl⟩ | exact fun q => absurd q (by omega)
    · first | exact fun _ => rfl | exact fun q => absurd q (by omega)
    · first | exact fun _ _ => rfl | exact fun _ _ => (if_neg (by omega)).symm
    · first | exact fun _ => rfl | exact fun _ => (if_neg (by omega)).symm
theorem ds_lr {cd pc sc sd ar ak an ah : Int32} {pk fr it jk : Nat → Nat → Int32} {kd hp ts tz kt : Nat → Int32} {jl : Nat → Nat → Int64} {f : Nat → Int32} : (mkH 52 (dkF cd pc sc sd pk fr it kd hp ts tz ar ak an ah kt jk jl)).set (48) (pI 10 f) = mkH 52 (dkF cd pc sc sd pk fr it kd hp ts tz ar ak an ah kt (va_up jk 2 f) jl) := by
  rw [mkH_set]
  refine mkH_ext (fun j hj => ?_)
  by_cases e : j = 48
  · rw [if_pos e]
    have hr := @dr_lr cd pc sc sd ar ak an ah pk fr it (va_up jk 2 f) kd hp ts tz kt jl
    rw [mkH_get (by omega)] at hr
    rw [e]
    have hr := Option.some.inj hr
    rw [hr]
    rw [show va_up jk 2 f 2 = f from if_pos rfl]
  · rw [if_neg e]
    refine dk_ext ?_ ?_ ?_ ?_ ?_ ?_ ?_ ?_ ?_ ?_ hj
    · first | exact fun _ => ⟨rfl, rfl, rfl, rfl⟩ | exact fun q => absurd q (by omega)
    · first | exact fun _ _ => rfl | exact fun _ _ => (if_neg (by omega)).symm
    · first | exact fun _ _ => ⟨rfl, rfl⟩ | exact fun _ _ => ⟨(if_neg (by omega)).symm, rfl⟩ | exact fun _ _ => ⟨rfl, (if_neg (by omega)).symm⟩
    · first | exact fun _ _ => rfl | exact fun _ _ => (if_neg (by omega)).symm
    · first | exact fun _ _ => ⟨rfl, rfl⟩ | exact fun _ _ => ⟨(if_neg (by omega)).symm, rfl⟩ | exact fun _ _ => ⟨rfl, (if_neg (by omega)).symm⟩
    · first | exact fun _ _ => rfl | exact fun _ _ => (if_neg (by omega)).symm
    · first | exact fun _ => ⟨rfl, rfl, rfl, rfl⟩ | exact fun q => absurd q (by omega)
    · first | exact fun _ => rfl | exact fun q => absurd q (by omega)
    · first | exact fun _ _ => rfl | exact fun _ _ => (if_neg (by omega)).symm
    · first | exact fun _ => rfl | exact fun _ => (if_neg (by omega)).symm
theorem ds_nh {cd pc sc sd ar ak an ah : Int32} {pk fr it jk : Nat → Nat → Int32} {kd hp ts tz kt : Nat → Int32} {jl : Nat → Nat → Int64} {f : Nat → Int32} : (mkH 52 (dkF cd pc sc sd pk fr it kd hp ts tz ar ak an ah kt jk jl)).set (49) (pI 10 f) = mkH 52 (dkF cd pc sc sd pk fr it kd hp ts tz ar ak an ah kt (va_up jk 3 f) jl) := by
  rw [mkH_set]
  refine mkH_ext (fun j hj => ?_)
  by_cases e : j = 49
  · rw [if_pos e]
    have hr := @dr_nh cd pc sc sd ar ak an ah pk fr it (va_up jk 3 f) kd hp ts tz kt jl
    rw [mkH_get (by omega)] at hr
    rw [e]
    have hr := Option.some.inj hr
    rw [hr]
    rw [show va_up jk 3 f 3 = f from if_pos rfl]
  · rw [if_neg e]
    refine dk_ext ?_ ?_ ?_ ?_ ?_ ?_ ?_ ?_ ?_ ?_ hj
    · first | exact fun _ => ⟨rfl, rfl, rfl, rfl⟩ | exact fun q => absurd q (by omega)
    · first | exact fun _ _ => rfl | exact fun _ _ => (if_neg (by omega)).symm
    · first | exact fun _ _ => ⟨rfl, rfl⟩ | exact fun _ _ => ⟨(if_neg (by omega)).symm, rfl⟩ | exact fun _ _ => ⟨rfl, (if_neg (by omega)).symm⟩
    · first | exact fun _ _ => rfl | exact fun _ _ => (if_neg (by omega)).symm
    · first | exact fun _ _ => ⟨rfl, rfl⟩ | exact fun _ _ => ⟨(if_neg (by omega)).symm, rfl⟩ | exact fun _ _ => ⟨rfl, (if_neg (by omega)).symm⟩
    · first | exact fun _ _ => rfl | exact fun _ _ => (if_neg (by omega)).symm
    · first | exact fun _ => ⟨rfl, rfl, rfl, rfl⟩ | exact fun q => absurd q (by omega)
    · first | exact fun _ => rfl | exact fun q => absurd q (by omega)
    · first | exact fun _ _ => rfl | exact fun _ _ => (if_neg (by omega)).symm
    · first | exact fun _ => rfl | exact fun _ => (if_neg (by omega)).symm
theorem ds_lc {cd pc sc sd ar ak an ah : Int32} {pk fr it jk : Nat → Nat → Int32} {kd hp ts tz kt : Nat → Int32} {jl : Nat → Nat → Int64} {f : Nat → Int64} : (mkH 52 (dkF cd pc sc sd pk fr it kd hp ts tz ar ak an ah kt jk jl)).set (50) (pJ 10 f) = mkH 52 (dkF cd pc sc sd pk fr it kd hp ts tz ar ak an ah kt jk (va_up jl 0 f)) := by
  rw [mkH_set]
  refine mkH_ext (fun j hj => ?_)
  by_cases e : j = 50
  · rw [if_pos e]
    have hr := @dr_lc cd pc sc sd ar ak an ah pk fr it jk kd hp ts tz kt (va_up jl 0 f)
    rw [mkH_get (by omega)] at hr
    rw [e]
    have hr := Option.some.inj hr
    rw [hr]
    rw [show va_up jl 0 f 0 = f from if_pos rfl]
  · rw [if_neg e]
    refine dk_ext ?_ ?_ ?_ ?_ ?_ ?_ ?_ ?_ ?_ ?_ hj
    · first | exact fun _ => ⟨rfl, rfl, rfl, rfl⟩ | exact fun q => absurd q (by omega)
    · first | exact fun _ _ => rfl | exact fun _ _ => (if_neg (by omega)).symm
    · first | exact fun _ _ => ⟨rfl, rfl⟩ | exact fun _ _ => ⟨(if_neg (by omega)).symm, rfl⟩ | exact fun _ _ => ⟨rfl, (if_neg (by omega)).symm⟩
    · first | exact fun _ _ => rfl | exact fun _ _ => (if_neg (by omega)).symm
    · first | exact fun _ _ => ⟨rfl, rfl⟩ | exact fun _ _ => ⟨(if_neg (by omega)).symm, rfl⟩ | exact fun _ _ => ⟨rfl, (if_neg (by omega)).symm⟩
    · first | exact fun _ _ => rfl | exact fun _ _ => (if_neg (by omega)).symm
    · first | exact fun _ => ⟨rfl, rfl, rfl, rfl⟩ | exact fun q => absurd q (by omega)
    · first | exact fun _ => rfl | exact fun q => absurd q (by omega)
    · first | exact fun _ _ => rfl | exact fun _ _ => (if_neg (by omega)).symm
    · first | exact fun _ => rfl | exact fun _ => (if_neg (by omega)).symm
theorem ds_bl {cd pc sc sd ar ak an ah : Int32} {pk fr it jk : Nat → Nat → Int32} {kd hp ts tz kt : Nat → Int32} {jl : Nat → Nat → Int64} {f : Nat → Int64} : (mkH 52 (dkF cd pc sc sd pk fr it kd hp ts tz ar ak an ah kt jk jl)).set (51) (pJ 11 f) = mkH 52 (dkF cd pc sc sd pk fr it kd hp ts tz ar ak an ah kt jk (va_up jl 1 f)) := by
  rw [mkH_set]
  refine mkH_ext (fun j hj => ?_)
  by_cases e : j = 51
  · rw [if_pos e]
    have hr := @dr_bl cd pc sc sd ar ak an ah pk fr it jk kd hp ts tz kt (va_up jl 1 f)
    rw [mkH_get (by omega)] at hr
    rw [e]
    have hr := Option.some.inj hr
    rw [hr]
    rw [show va_up jl 1 f 1 = f from if_pos rfl]
  · rw [if_neg e]
    refine dk_ext ?_ ?_ ?_ ?_ ?_ ?_ ?_ ?_ ?_ ?_ hj
    · first | exact fun _ => ⟨rfl, rfl, rfl, rfl⟩ | exact fun q => absurd q (by omega)
    · first | exact fun _ _ => rfl | exact fun _ _ => (if_neg (by omega)).symm
    · first | exact fun _ _ => ⟨rfl, rfl⟩ | exact fun _ _ => ⟨(if_neg (by omega)).symm, rfl⟩ | exact fun _ _ => ⟨rfl, (if_neg (by omega)).symm⟩
    · first | exact fun _ _ => rfl | exact fun _ _ => (if_neg (by omega)).symm
    · first | exact fun _ _ => ⟨rfl, rfl⟩ | exact fun _ _ => ⟨(if_neg (by omega)).symm, rfl⟩ | exact fun _ _ => ⟨rfl, (if_neg (by omega)).symm⟩
    · first | exact fun _ _ => rfl | exact fun _ _ => (if_neg (by omega)).symm
    · first | exact fun _ => ⟨rfl, rfl, rfl, rfl⟩ | exact fun q => absurd q (by omega)
    · first | exact fun _ => rfl | exact fun q => absurd q (by omega)
    · first | exact fun _ _ => rfl | exact fun _ _ => (if_neg (by omega)).symm
    · first | exact fun _ => rfl | exact fun _ => (if_neg (by omega)).symm
