/-! ===== the reference as a heap ===== -/
def mdF (xn : Int32) (xP : Int32) (xS : Int32) (xsd : Int32) (xod : Nat → Int32) (xkn : Nat → Int32) (xhs : Nat → Int32) (xmm : Nat → Int32) (xln : Nat → Int32) (xot : Nat → Int32) (xwy : Nat → Int64) (xnx : Nat → Int64) (xch : Nat → Int64) (xaf : Nat → Int64) (xfa : Nat → Int32) (xgr : Nat → Int32) (xfo : Nat → Int64) (xco : Nat → Int64) (xtsr : Nat → Int32) (xtsz : Nat → Int32) (xce : Nat → Int32) (xmv : Nat → Int32) (xtc : Nat → Int32) (xbo : Int32) (j : Nat) : PCell := match j with
  | 0 => pO 4 [.int xn, .int xP, .int xS, .int xsd, .ref 1, .ref 2, .ref 3, .ref 4, .ref 5, .ref 6, .ref 7, .ref 8, .ref 9, .ref 10, .ref 11, .ref 12, .ref 13, .ref 14, .ref 15, .ref 16, .ref 17, .ref 18, .ref 19, .int xbo]
  | 1 => pI 120 xod
  | 2 => pI 10 xkn
  | 3 => pI 10 xhs
  | 4 => pI 100 xmm
  | 5 => pI 10 xln
  | 6 => pI 10 xot
  | 7 => pJ 12 xwy
  | 8 => pJ 12 xnx
  | 9 => pJ 720 xch
  | 10 => pJ 720 xaf
  | 11 => pI 10 xfa
  | 12 => pI 11 xgr
  | 13 => pJ 4200 xfo
  | 14 => pJ 11 xco
  | 15 => pI 4 xtsr
  | 16 => pI 4 xtsz
  | 17 => pI 160 xce
  | 18 => pI 40 xmv
  | _ => pI 40 xtc
theorem mr_o {xn xP xS xsd xbo : Int32} {xod xkn xhs xmm xln xot xfa xgr xtsr xtsz xce xmv xtc : Nat → Int32} {xwy xnx xch xaf xfo xco : Nat → Int64} : (mkH 20 (mdF xn xP xS xsd xod xkn xhs xmm xln xot xwy xnx xch xaf xfa xgr xfo xco xtsr xtsz xce xmv xtc xbo))[0]? = some (pO 4 [.int xn, .int xP, .int xS, .int xsd, .ref 1, .ref 2, .ref 3, .ref 4, .ref 5, .ref 6, .ref 7, .ref 8, .ref 9, .ref 10, .ref 11, .ref 12, .ref 13, .ref 14, .ref 15, .ref 16, .ref 17, .ref 18, .ref 19, .int xbo]) := mkH_get (by decide)
theorem mr_order {xn xP xS xsd xbo : Int32} {xod xkn xhs xmm xln xot xfa xgr xtsr xtsz xce xmv xtc : Nat → Int32} {xwy xnx xch xaf xfo xco : Nat → Int64} : (mkH 20 (mdF xn xP xS xsd xod xkn xhs xmm xln xot xwy xnx xch xaf xfa xgr xfo xco xtsr xtsz xce xmv xtc xbo))[1]? = some (pI 120 xod) := mkH_get (by decide)
theorem mr_kind {xn xP xS xsd xbo : Int32} {xod xkn xhs xmm xln xot xfa xgr xtsr xtsz xce xmv xtc : Nat → Int32} {xwy xnx xch xaf xfo xco : Nat → Int64} : (mkH 20 (mdF xn xP xS xsd xod xkn xhs xmm xln xot xwy xnx xch xaf xfa xgr xfo xco xtsr xtsz xce xmv xtc xbo))[2]? = some (pI 10 xkn) := mkH_get (by decide)
theorem mr_heaps {xn xP xS xsd xbo : Int32} {xod xkn xhs xmm xln xot xfa xgr xtsr xtsz xce xmv xtc : Nat → Int32} {xwy xnx xch xaf xfo xco : Nat → Int64} : (mkH 20 (mdF xn xP xS xsd xod xkn xhs xmm xln xot xwy xnx xch xaf xfa xgr xfo xco xtsr xtsz xce xmv xtc xbo))[3]? = some (pI 10 xhs) := mkH_get (by decide)
theorem mr_m {xn xP xS xsd xbo : Int32} {xod xkn xhs xmm xln xot xfa xgr xtsr xtsz xce xmv xtc : Nat → Int32} {xwy xnx xch xaf xfo xco : Nat → Int64} : (mkH 20 (mdF xn xP xS xsd xod xkn xhs xmm xln xot xwy xnx xch xaf xfa xgr xfo xco xtsr xtsz xce xmv xtc xbo))[4]? = some (pI 100 xmm) := mkH_get (by decide)
theorem mr_line {xn xP xS xsd xbo : Int32} {xod xkn xhs xmm xln xot xfa xgr xtsr xtsz xce xmv xtc : Nat → Int32} {xwy xnx xch xaf xfo xco : Nat → Int64} : (mkH 20 (mdF xn xP xS xsd xod xkn xhs xmm xln xot xwy xnx xch xaf xfa xgr xfo xco xtsr xtsz xce xmv xtc xbo))[5]? = some (pI 10 xln) := mkH_get (by decide)
theorem mr_other {xn xP xS xsd xbo : Int32} {xod xkn xhs xmm xln xot xfa xgr xtsr xtsz xce xmv xtc : Nat → Int32} {xwy xnx xch xaf xfo xco : Nat → Int64} : (mkH 20 (mdF xn xP xS xsd xod xkn xhs xmm xln xot xwy xnx xch xaf xfa xgr xfo xco xtsr xtsz xce xmv xtc xbo))[6]? = some (pI 10 xot) := mkH_get (by decide)
theorem mr_ways {xn xP xS xsd xbo : Int32} {xod xkn xhs xmm xln xot xfa xgr xtsr xtsz xce xmv xtc : Nat → Int32} {xwy xnx xch xaf xfo xco : Nat → Int64} : (mkH 20 (mdF xn xP xS xsd xod xkn xhs xmm xln xot xwy xnx xch xaf xfa xgr xfo xco xtsr xtsz xce xmv xtc xbo))[7]? = some (pJ 12 xwy) := mkH_get (by decide)
theorem mr_next {xn xP xS xsd xbo : Int32} {xod xkn xhs xmm xln xot xfa xgr xtsr xtsz xce xmv xtc : Nat → Int32} {xwy xnx xch xaf xfo xco : Nat → Int64} : (mkH 20 (mdF xn xP xS xsd xod xkn xhs xmm xln xot xwy xnx xch xaf xfa xgr xfo xco xtsr xtsz xce xmv xtc xbo))[8]? = some (pJ 12 xnx) := mkH_get (by decide)
theorem mr_chances {xn xP xS xsd xbo : Int32} {xod xkn xhs xmm xln xot xfa xgr xtsr xtsz xce xmv xtc : Nat → Int32} {xwy xnx xch xaf xfo xco : Nat → Int64} : (mkH 20 (mdF xn xP xS xsd xod xkn xhs xmm xln xot xwy xnx xch xaf xfa xgr xfo xco xtsr xtsz xce xmv xtc xbo))[9]? = some (pJ 720 xch) := mkH_get (by decide)
theorem mr_after {xn xP xS xsd xbo : Int32} {xod xkn xhs xmm xln xot xfa xgr xtsr xtsz xce xmv xtc : Nat → Int32} {xwy xnx xch xaf xfo xco : Nat → Int64} : (mkH 20 (mdF xn xP xS xsd xod xkn xhs xmm xln xot xwy xnx xch xaf xfa xgr xfo xco xtsr xtsz xce xmv xtc xbo))[10]? = some (pJ 720 xaf) := mkH_get (by decide)
theorem mr_far {xn xP xS xsd xbo : Int32} {xod xkn xhs xmm xln xot xfa xgr xtsr xtsz xce xmv xtc : Nat → Int32} {xwy xnx xch xaf xfo xco : Nat → Int64} : (mkH 20 (mdF xn xP xS xsd xod xkn xhs xmm xln xot xwy xnx xch xaf xfa xgr xfo xco xtsr xtsz xce xmv xtc xbo))[11]? = some (pI 10 xfa) := mkH_get (by decide)
theorem mr_groups {xn xP xS xsd xbo : Int32} {xod xkn xhs xmm xln xot xfa xgr xtsr xtsz xce xmv xtc : Nat → Int32} {xwy xnx xch xaf xfo xco : Nat → Int64} : (mkH 20 (mdF xn xP xS xsd xod xkn xhs xmm xln xot xwy xnx xch xaf xfa xgr xfo xco xtsr xtsz xce xmv xtc xbo))[12]? = some (pI 11 xgr) := mkH_get (by decide)
theorem mr_found {xn xP xS xsd xbo : Int32} {xod xkn xhs xmm xln xot xfa xgr xtsr xtsz xce xmv xtc : Nat → Int32} {xwy xnx xch xaf xfo xco : Nat → Int64} : (mkH 20 (mdF xn xP xS xsd xod xkn xhs xmm xln xot xwy xnx xch xaf xfa xgr xfo xco xtsr xtsz xce xmv xtc xbo))[13]? = some (pJ 4200 xfo) := mkH_get (by decide)
theorem mr_counts {xn xP xS xsd xbo : Int32} {xod xkn xhs xmm xln xot xfa xgr xtsr xtsz xce xmv xtc : Nat → Int32} {xwy xnx xch xaf xfo xco : Nat → Int64} : (mkH 20 (mdF xn xP xS xsd xod xkn xhs xmm xln xot xwy xnx xch xaf xfa xgr xfo xco xtsr xtsz xce xmv xtc xbo))[14]? = some (pJ 11 xco) := mkH_get (by decide)
theorem mr_traySort {xn xP xS xsd xbo : Int32} {xod xkn xhs xmm xln xot xfa xgr xtsr xtsz xce xmv xtc : Nat → Int32} {xwy xnx xch xaf xfo xco : Nat → Int64} : (mkH 20 (mdF xn xP xS xsd xod xkn xhs xmm xln xot xwy xnx xch xaf xfa xgr xfo xco xtsr xtsz xce xmv xtc xbo))[15]? = some (pI 4 xtsr) := mkH_get (by decide)
theorem mr_traySize {xn xP xS xsd xbo : Int32} {xod xkn xhs xmm xln xot xfa xgr xtsr xtsz xce xmv xtc : Nat → Int32} {xwy xnx xch xaf xfo xco : Nat → Int64} : (mkH 20 (mdF xn xP xS xsd xod xkn xhs xmm xln xot xwy xnx xch xaf xfa xgr xfo xco xtsr xtsz xce xmv xtc xbo))[16]? = some (pI 4 xtsz) := mkH_get (by decide)
theorem mr_cells {xn xP xS xsd xbo : Int32} {xod xkn xhs xmm xln xot xfa xgr xtsr xtsz xce xmv xtc : Nat → Int32} {xwy xnx xch xaf xfo xco : Nat → Int64} : (mkH 20 (mdF xn xP xS xsd xod xkn xhs xmm xln xot xwy xnx xch xaf xfa xgr xfo xco xtsr xtsz xce xmv xtc xbo))[17]? = some (pI 160 xce) := mkH_get (by decide)
theorem mr_moved {xn xP xS xsd xbo : Int32} {xod xkn xhs xmm xln xot xfa xgr xtsr xtsz xce xmv xtc : Nat → Int32} {xwy xnx xch xaf xfo xco : Nat → Int64} : (mkH 20 (mdF xn xP xS xsd xod xkn xhs xmm xln xot xwy xnx xch xaf xfa xgr xfo xco xtsr xtsz xce xmv xtc xbo))[18]? = some (pI 40 xmv) := mkH_get (by decide)
theorem mr_traced {xn xP xS xsd xbo : Int32} {xod xkn xhs xmm xln xot xfa xgr xtsr xtsz xce xmv xtc : Nat → Int32} {xwy xnx xch xaf xfo xco : Nat → Int64} : (mkH 20 (mdF xn xP xS xsd xod xkn xhs xmm xln xot xwy xnx xch xaf xfa xgr xfo xco xtsr xtsz xce xmv xtc xbo))[19]? = some (pI 40 xtc) := mkH_get (by decide)
theorem ms_n {xn xP xS xsd xbo : Int32} {xod xkn xhs xmm xln xot xfa xgr xtsr xtsz xce xmv xtc : Nat → Int32} {xwy xnx xch xaf xfo xco : Nat → Int64} {x : Int32} : (mkH 20 (mdF xn xP xS xsd xod xkn xhs xmm xln xot xwy xnx xch xaf xfa xgr xfo xco xtsr xtsz xce xmv xtc xbo)).set 0 (pO 4 ([.int xn, .int xP, .int xS, .int xsd, .ref 1, .ref 2, .ref 3, .ref 4, .ref 5, .ref 6, .ref 7, .ref 8, .ref 9, .ref 10, .ref 11, .ref 12, .ref 13, .ref 14, .ref 15, .ref 16, .ref 17, .ref 18, .ref 19, .int xbo].set 0 (.int x))) = mkH 20 (mdF (x) xP xS xsd xod xkn xhs xmm xln xot xwy xnx xch xaf xfa xgr xfo xco xtsr xtsz xce xmv xtc xbo) := by
  rw [mkH_set]
  refine mkH_ext (fun j hj => ?_)
  by_cases e : j = 0
  · rw [if_pos e, e]
    rfl
  · rw [if_neg e]
    match j, hj, e with
    | 0, _, e => first | rfl | exact absurd rfl e
    | 1, _, e => first | rfl | exact absurd rfl e
    | 2, _, e => first | rfl | exact absurd rfl e
    | 3, _, e => first | rfl | exact absurd rfl e
    | 4, _, e => first | rfl | exact absurd rfl e
    | 5, _, e => first | rfl | exact absurd rfl e
    | 6, _, e => first | rfl | exact absurd rfl e
    | 7, _, e => first | rfl | exact absurd rfl e
    | 8, _, e => first | rfl | exact absurd rfl e
    | 9, _, e => first | rfl | exact absurd rfl e
    | 10, _, e => first | rfl | exact absurd rfl e
    | 11, _, e => first | rfl | exact absurd rfl e
    | 12, _, e => first | rfl | exact absurd rfl e
    | 13, _, e => first | rfl | exact absurd rfl e
    | 14, _, e => first | rfl | exact absurd rfl e
    | 15, _, e => first | rfl | exact absurd rfl e
    | 16, _, e => first | rfl | exact absurd rfl e
    | 17, _, e => first | rfl | exact absurd rfl e
    | 18, _, e => first | rfl | exact absurd rfl e
    | 19, _, e => first | rfl | exact absurd rfl e
    | (j9 + 20), h, _ => exact absurd h (by omega)
theorem ms_packs {xn xP xS xsd xbo : Int32} {xod xkn xhs xmm xln xot xfa xgr xtsr xtsz xce xmv xtc : Nat → Int32} {xwy xnx xch xaf xfo xco : Nat → Int64} {x : Int32} : (mkH 20 (mdF xn xP xS xsd xod xkn xhs xmm xln xot xwy xnx xch xaf xfa xgr xfo xco xtsr xtsz xce xmv xtc xbo)).set 0 (pO 4 ([.int xn, .int xP, .int xS, .int xsd, .ref 1, .ref 2, .ref 3, .ref 4, .ref 5, .ref 6, .ref 7, .ref 8, .ref 9, .ref 10, .ref 11, .ref 12, .ref 13, .ref 14, .ref 15, .ref 16, .ref 17, .ref 18, .ref 19, .int xbo].set 1 (.int x))) = mkH 20 (mdF xn (x) xS xsd xod xkn xhs xmm xln xot xwy xnx xch xaf xfa xgr xfo xco xtsr xtsz xce xmv xtc xbo) := by
  rw [mkH_set]
  refine mkH_ext (fun j hj => ?_)
  by_cases e : j = 0
  · rw [if_pos e, e]
    rfl
  · rw [if_neg e]
    match j, hj, e with
    | 0, _, e => first | rfl | exact absurd rfl e
    | 1, _, e => first | rfl | exact absurd rfl e
    | 2, _, e => first | rfl | exact absurd rfl e
    | 3, _, e => first | rfl | exact absurd rfl e
    | 4, _, e => first | rfl | exact absurd rfl e
    | 5, _, e => first | rfl | exact absurd rfl e
    | 6, _, e => first | rfl | exact absurd rfl e
    | 7, _, e => first | rfl | exact absurd rfl e
    | 8, _, e => first | rfl | exact absurd rfl e
    | 9, _, e => first | rfl | exact absurd rfl e
    | 10, _, e => first | rfl | exact absurd rfl e
    | 11, _, e => first | rfl | exact absurd rfl e
    | 12, _, e => first | rfl | exact absurd rfl e
    | 13, _, e => first | rfl | exact absurd rfl e
    | 14, _, e => first | rfl | exact absurd rfl e
    | 15, _, e => first | rfl | exact absurd rfl e
    | 16, _, e => first | rfl | exact absurd rfl e
    | 17, _, e => first | rfl | exact absurd rfl e
    | 18, _, e => first | rfl | exact absurd rfl e
    | 19, _, e => first | rfl | exact absurd rfl e
    | (j9 + 20), h, _ => exact absurd h (by omega)
theorem ms_shuffles {xn xP xS xsd xbo : Int32} {xod xkn xhs xmm xln xot xfa xgr xtsr xtsz xce xmv xtc : Nat → Int32} {xwy xnx xch xaf xfo xco : Nat → Int64} {x : Int32} : (mkH 20 (mdF xn xP xS xsd xod xkn xhs xmm xln xot xwy xnx xch xaf xfa xgr xfo xco xtsr xtsz xce xmv xtc xbo)).set 0 (pO 4 ([.int xn, .int xP, .int xS, .int xsd, .ref 1, .ref 2, .ref 3, .ref 4, .ref 5, .ref 6, .ref 7, .ref 8, .ref 9, .ref 10, .ref 11, .ref 12, .ref 13, .ref 14, .ref 15, .ref 16, .ref 17, .ref 18, .ref 19, .int xbo].set 2 (.int x))) = mkH 20 (mdF xn xP (x) xsd xod xkn xhs xmm xln xot xwy xnx xch xaf xfa xgr xfo xco xtsr xtsz xce xmv xtc xbo) := by
  rw [mkH_set]
  refine mkH_ext (fun j hj => ?_)
  by_cases e : j = 0
  · rw [if_pos e, e]
    rfl
  · rw [if_neg e]
    match j, hj, e with
    | 0, _, e => first | rfl | exact absurd rfl e
    | 1, _, e => first | rfl | exact absurd rfl e
    | 2, _, e => first | rfl | exact absurd rfl e
    | 3, _, e => first | rfl | exact absurd rfl e
    | 4, _, e => first | rfl | exact absurd rfl e
    | 5, _, e => first | rfl | exact absurd rfl e
    | 6, _, e => first | rfl | exact absurd rfl e
    | 7, _, e => first | rfl | exact absurd rfl e
    | 8, _, e => first | rfl | exact absurd rfl e
    | 9, _, e => first | rfl | exact absurd rfl e
    | 10, _, e => first | rfl | exact absurd rfl e
    | 11, _, e => first | rfl | exact absurd rfl e
    | 12, _, e => first | rfl | exact absurd rfl e
    | 13, _, e => first | rfl | exact absurd rfl e
    | 14, _, e => first | rfl | exact absurd rfl e
    | 15, _, e => first | rfl | exact absurd rfl e
    | 16, _, e => first | rfl | exact absurd rfl e
    | 17, _, e => first | rfl | exact absurd rfl e
    | 18, _, e => first | rfl | exact absurd rfl e
    | 19, _, e => first | rfl | exact absurd rfl e
    | (j9 + 20), h, _ => exact absurd h (by omega)
theorem ms_seed {xn xP xS xsd xbo : Int32} {xod xkn xhs xmm xln xot xfa xgr xtsr xtsz xce xmv xtc : Nat → Int32} {xwy xnx xch xaf xfo xco : Nat → Int64} {x : Int32} : (mkH 20 (mdF xn xP xS xsd xod xkn xhs xmm xln xot xwy xnx xch xaf xfa xgr xfo xco xtsr xtsz xce xmv xtc xbo)).set 0 (pO 4 ([.int xn, .int xP, .int xS, .int xsd, .ref 1, .ref 2, .ref 3, .ref 4, .ref 5, .ref 6, .ref 7, .ref 8, .ref 9, .ref 10, .ref 11, .ref 12, .ref 13, .ref 14, .ref 15, .ref 16, .ref 17, .ref 18, .ref 19, .int xbo].set 3 (.int x))) = mkH 20 (mdF xn xP xS (x) xod xkn xhs xmm xln xot xwy xnx xch xaf xfa xgr xfo xco xtsr xtsz xce xmv xtc xbo) := by
  rw [mkH_set]
  refine mkH_ext (fun j hj => ?_)
  by_cases e : j = 0
  · rw [if_pos e, e]
    rfl
  · rw [if_neg e]
    match j, hj, e with
    | 0, _, e => first | rfl | exact absurd rfl e
    | 1, _, e => first | rfl | exact absurd rfl e
    | 2, _, e => first | rfl | exact absurd rfl e
    | 3, _, e => first | rfl | exact absurd rfl e
    | 4, _, e => first | rfl | exact absurd rfl e
    | 5, _, e => first | rfl | exact absurd rfl e
    | 6, _, e => first | rfl | exact absurd rfl e
    | 7, _, e => first | rfl | exact absurd rfl e
    | 8, _, e => first | rfl | exact absurd rfl e
    | 9, _, e => first | rfl | exact absurd rfl e
    | 10, _, e => first | rfl | exact absurd rfl e
    | 11, _, e => first | rfl | exact absurd rfl e
    | 12, _, e => first | rfl | exact absurd rfl e
    | 13, _, e => first | rfl | exact absurd rfl e
    | 14, _, e => first | rfl | exact absurd rfl e
    | 15, _, e => first | rfl | exact absurd rfl e
    | 16, _, e => first | rfl | exact absurd rfl e
    | 17, _, e => first | rfl | exact absurd rfl e
    | 18, _, e => first | rfl | exact absurd rfl e
    | 19, _, e => first | rfl | exact absurd rfl e
    | (j9 + 20), h, _ => exact absurd h (by omega)
theorem ms_bodies {xn xP xS xsd xbo : Int32} {xod xkn xhs xmm xln xot xfa xgr xtsr xtsz xce xmv xtc : Nat → Int32} {xwy xnx xch xaf xfo xco : Nat → Int64} {x : Int32} : (mkH 20 (mdF xn xP xS xsd xod xkn xhs xmm xln xot xwy xnx xch xaf xfa xgr xfo xco xtsr xtsz xce xmv xtc xbo)).set 0 (pO 4 ([.int xn, .int xP, .int xS, .int xsd, .ref 1, .ref 2, .ref 3, .ref 4, .ref 5, .ref 6, .ref 7, .ref 8, .ref 9, .ref 10, .ref 11, .ref 12, .ref 13, .ref 14, .ref 15, .ref 16, .ref 17, .ref 18, .ref 19, .int xbo].set 23 (.int x))) = mkH 20 (mdF xn xP xS xsd xod xkn xhs xmm xln xot xwy xnx xch xaf xfa xgr xfo xco xtsr xtsz xce xmv xtc (x)) := by
  rw [mkH_set]
  refine mkH_ext (fun j hj => ?_)
  by_cases e : j = 0
  · rw [if_pos e, e]
    rfl
  · rw [if_neg e]
    match j, hj, e with
    | 0, _, e => first | rfl | exact absurd rfl e
    | 1, _, e => first | rfl | exact absurd rfl e
    | 2, _, e => first | rfl | exact absurd rfl e
    | 3, _, e => first | rfl | exact absurd rfl e
    | 4, _, e => first | rfl | exact absurd rfl e
    | 5, _, e => first | rfl | exact absurd rfl e
    | 6, _, e => first | rfl | exact absurd rfl e
    | 7, _, e => first | rfl | exact absurd rfl e
    | 8, _, e => first | rfl | exact absurd rfl e
    | 9, _, e => first | rfl | exact absurd rfl e
    | 10, _, e => first | rfl | exact absurd rfl e
    | 11, _, e => first | rfl | exact absurd rfl e
    | 12, _, e => first | rfl | exact absurd rfl e
    | 13, _, e => first | rfl | exact absurd rfl e
    | 14, _, e => first | rfl | exact absurd rfl e
    | 15, _, e => first | rfl | exact absurd rfl e
    | 16, _, e => first | rfl | exact absurd rfl e
    | 17, _, e => first | rfl | exact absurd rfl e
    | 18, _, e => first | rfl | exact absurd rfl e
    | 19, _, e => first | rfl | exact absurd rfl e
    | (j9 + 20), h, _ => exact absurd h (by omega)
theorem ms_order {xn xP xS xsd xbo : Int32} {xod xkn xhs xmm xln xot xfa xgr xtsr xtsz xce xmv xtc : Nat → Int32} {xwy xnx xch xaf xfo xco : Nat → Int64} {f : Nat → Int32} : (mkH 20 (mdF xn xP xS xsd xod xkn xhs xmm xln xot xwy xnx xch xaf xfa xgr xfo xco xtsr xtsz xce xmv xtc xbo)).set 1 (pI 120 f) = mkH 20 (mdF xn xP xS xsd (f) xkn xhs xmm xln xot xwy xnx xch xaf xfa xgr xfo xco xtsr xtsz xce xmv xtc xbo) := by
  rw [mkH_set]
  refine mkH_ext (fun j hj => ?_)
  by_cases e : j = 1
  · rw [if_pos e, e]
    rfl
  · rw [if_neg e]
    match j, hj, e with
    | 0, _, e => first | rfl | exact absurd rfl e
    | 1, _, e => first | rfl | exact absurd rfl e
    | 2, _, e => first | rfl | exact absurd rfl e
    | 3, _, e => first | rfl | exact absurd rfl e
    | 4, _, e => first | rfl | exact absurd rfl e
    | 5, _, e => first | rfl | exact absurd rfl e
    | 6, _, e => first | rfl | exact absurd rfl e
    | 7, _, e => first | rfl | exact absurd rfl e
    | 8, _, e => first | rfl | exact absurd rfl e
    | 9, _, e => first | rfl | exact absurd rfl e
    | 10, _, e => first | rfl | exact absurd rfl e
    | 11, _, e => first | rfl | exact absurd rfl e
    | 12, _, e => first | rfl | exact absurd rfl e
    | 13, _, e => first | rfl | exact absurd rfl e
    | 14, _, e => first | rfl | exact absurd rfl e
    | 15, _, e => first | rfl | exact absurd rfl e
    | 16, _, e => first | rfl | exact absurd rfl e
    | 17, _, e => first | rfl | exact absurd rfl e
    | 18, _, e => first | rfl | exact absurd rfl e
    | 19, _, e => first | rfl | exact absurd rfl e
    | (j9 + 20), h, _ => exact absurd h (by omega)
theorem ms_kind {xn xP xS xsd xbo : Int32} {xod xkn xhs xmm xln xot xfa xgr xtsr xtsz xce xmv xtc : Nat → Int32} {xwy xnx xch xaf xfo xco : Nat → Int64} {f : Nat → Int32} : (mkH 20 (mdF xn xP xS xsd xod xkn xhs xmm xln xot xwy xnx xch xaf xfa xgr xfo xco xtsr xtsz xce xmv xtc xbo)).set 2 (pI 10 f) = mkH 20 (mdF xn xP xS xsd xod (f) xhs xmm xln xot xwy xnx xch xaf xfa xgr xfo xco xtsr xtsz xce xmv xtc xbo) := by
  rw [mkH_set]
  refine mkH_ext (fun j hj => ?_)
  by_cases e : j = 2
  · rw [if_pos e, e]
    rfl
  · rw [if_neg e]
    match j, hj, e with
    | 0, _, e => first | rfl | exact absurd rfl e
    | 1, _, e => first | rfl | exact absurd rfl e
    | 2, _, e => first | rfl | exact absurd rfl e
    | 3, _, e => first | rfl | exact absurd rfl e
    | 4, _, e => first | rfl | exact absurd rfl e
    | 5, _, e => first | rfl | exact absurd rfl e
    | 6, _, e => first | rfl | exact absurd rfl e
    | 7, _, e => first | rfl | exact absurd rfl e
    | 8, _, e => first | rfl | exact absurd rfl e
    | 9, _, e => first | rfl | exact absurd rfl e
    | 10, _, e => first | rfl | exact absurd rfl e
    | 11, _, e => first | rfl | exact absurd rfl e
    | 12, _, e => first | rfl | exact absurd rfl e
    | 13, _, e => first | rfl | exact absurd rfl e
    | 14, _, e => first | rfl | exact absurd rfl e
    | 15, _, e => first | rfl | exact absurd rfl e
    | 16, _, e => first | rfl | exact absurd rfl e
    | 17, _, e => first | rfl | exact absurd rfl e
    | 18, _, e => first | rfl | exact absurd rfl e
    | 19, _, e => first | rfl | exact absurd rfl e
    | (j9 + 20), h, _ => exact absurd h (by omega)
theorem ms_heaps {xn xP xS xsd xbo : Int32} {xod xkn xhs xmm xln xot xfa xgr xtsr xtsz xce xmv xtc : Nat → Int32} {xwy xnx xch xaf xfo xco : Nat → Int64} {f : Nat → Int32} : (mkH 20 (mdF xn xP xS xsd xod xkn xhs xmm xln xot xwy xnx xch xaf xfa xgr xfo xco xtsr xtsz xce xmv xtc xbo)).set 3 (pI 10 f) = mkH 20 (mdF xn xP xS xsd xod xkn (f) xmm xln xot xwy xnx xch xaf xfa xgr xfo xco xtsr xtsz xce xmv xtc xbo) := by
  rw [mkH_set]
  refine mkH_ext (fun j hj => ?_)
  by_cases e : j = 3
  · rw [if_pos e, e]
    rfl
  · rw [if_neg e]
    match j, hj, e with
    | 0, _, e => first | rfl | exact absurd rfl e
    | 1, _, e => first | rfl | exact absurd rfl e
    | 2, _, e => first | rfl | exact absurd rfl e
    | 3, _, e => first | rfl | exact absurd rfl e
    | 4, _, e => first | rfl | exact absurd rfl e
    | 5, _, e => first | rfl | exact absurd rfl e
    | 6, _, e => first | rfl | exact absurd rfl e
    | 7, _, e => first | rfl | exact absurd rfl e
    | 8, _, e => first | rfl | exact absurd rfl e
    | 9, _, e => first | rfl | exact absurd rfl e
    | 10, _, e => first | rfl | exact absurd rfl e
    | 11, _, e => first | rfl | exact absurd rfl e
    | 12, _, e => first | rfl | exact absurd rfl e
    | 13, _, e => first | rfl | exact absurd rfl e
    | 14, _, e => first | rfl | exact absurd rfl e
    | 15, _, e => first | rfl | exact absurd rfl e
    | 16, _, e => first | rfl | exact absurd rfl e
    | 17, _, e => first | rfl | exact absurd rfl e
    | 18, _, e => first | rfl | exact absurd rfl e
    | 19, _, e => first | rfl | exact absurd rfl e
    | (j9 + 20), h, _ => exact absurd h (by omega)
theorem ms_m {xn xP xS xsd xbo : Int32} {xod xkn xhs xmm xln xot xfa xgr xtsr xtsz xce xmv xtc : Nat → Int32} {xwy xnx xch xaf xfo xco : Nat → Int64} {f : Nat → Int32} : (mkH 20 (mdF xn xP xS xsd xod xkn xhs xmm xln xot xwy xnx xch xaf xfa xgr xfo xco xtsr xtsz xce xmv xtc xbo)).set 4 (pI 100 f) = mkH 20 (mdF xn xP xS xsd xod xkn xhs (f) xln xot xwy xnx xch xaf xfa xgr xfo xco xtsr xtsz xce xmv xtc xbo) := by
  rw [mkH_set]
  refine mkH_ext (fun j hj => ?_)
  by_cases e : j = 4
  · rw [if_pos e, e]
    rfl
  · rw [if_neg e]
    match j, hj, e with
    | 0, _, e => first | rfl | exact absurd rfl e
    | 1, _, e => first | rfl | exact absurd rfl e
    | 2, _, e => first | rfl | exact absurd rfl e
    | 3, _, e => first | rfl | exact absurd rfl e
    | 4, _, e => first | rfl | exact absurd rfl e
    | 5, _, e => first | rfl | exact absurd rfl e
    | 6, _, e => first | rfl | exact absurd rfl e
    | 7, _, e => first | rfl | exact absurd rfl e
    | 8, _, e => first | rfl | exact absurd rfl e
    | 9, _, e => first | rfl | exact absurd rfl e
    | 10, _, e => first | rfl | exact absurd rfl e
    | 11, _, e => first | rfl | exact absurd rfl e
    | 12, _, e => first | rfl | exact absurd rfl e
    | 13, _, e => first | rfl | exact absurd rfl e
    | 14, _, e => first | rfl | exact absurd rfl e
    | 15, _, e => first | rfl | exact absurd rfl e
    | 16, _, e => first | rfl | exact absurd rfl e
    | 17, _, e => first | rfl | exact absurd rfl e
    | 18, _, e => first | rfl | exact absurd rfl e
    | 19, _, e => first | rfl | exact absurd rfl e
    | (j9 + 20), h, _ => exact absurd h (by omega)
theorem ms_line {xn xP xS xsd xbo : Int32} {xod xkn xhs xmm xln xot xfa xgr xtsr xtsz xce xmv xtc : Nat → Int32} {xwy xnx xch xaf xfo xco : Nat → Int64} {f : Nat → Int32} : (mkH 20 (mdF xn xP xS xsd xod xkn xhs xmm xln xot xwy xnx xch xaf xfa xgr xfo xco xtsr xtsz xce xmv xtc xbo)).set 5 (pI 10 f) = mkH 20 (mdF xn xP xS xsd xod xkn xhs xmm (f) xot xwy xnx xch xaf xfa xgr xfo xco xtsr xtsz xce xmv xtc xbo) := by
  rw [mkH_set]
  refine mkH_ext (fun j hj => ?_)
  by_cases e : j = 5
  · rw [if_pos e, e]
    rfl
  · rw [if_neg e]
    match j, hj, e with
    | 0, _, e => first | rfl | exact absurd rfl e
    | 1, _, e => first | rfl | exact absurd rfl e
    | 2, _, e => first | rfl | exact absurd rfl e
    | 3, _, e => first | rfl | exact absurd rfl e
    | 4, _, e => first | rfl | exact absurd rfl e
    | 5, _, e => first | rfl | exact absurd rfl e
    | 6, _, e => first | rfl | exact absurd rfl e
    | 7, _, e => first | rfl | exact absurd rfl e
    | 8, _, e => first | rfl | exact absurd rfl e
    | 9, _, e => first | rfl | exact absurd rfl e
    | 10, _, e => first | rfl | exact absurd rfl e
    | 11, _, e => first | rfl | exact absurd rfl e
    | 12, _, e => first | rfl | exact absurd rfl e
    | 13, _, e => first | rfl | exact absurd rfl e
    | 14, _, e => first | rfl | exact absurd rfl e
    | 15, _, e => first | rfl | exact absurd rfl e
    | 16, _, e => first | rfl | exact absurd rfl e
    | 17, _, e => first | rfl | exact absurd rfl e
    | 18, _, e => first | rfl | exact absurd rfl e
    | 19, _, e => first | rfl | exact absurd rfl e
    | (j9 + 20), h, _ => exact absurd h (by omega)
theorem ms_other {xn xP xS xsd xbo : Int32} {xod xkn xhs xmm xln xot xfa xgr xtsr xtsz xce xmv xtc : Nat → Int32} {xwy xnx xch xaf xfo xco : Nat → Int64} {f : Nat → Int32} : (mkH 20 (mdF xn xP xS xsd xod xkn xhs xmm xln xot xwy xnx xch xaf xfa xgr xfo xco xtsr xtsz xce xmv xtc xbo)).set 6 (pI 10 f) = mkH 20 (mdF xn xP xS xsd xod xkn xhs xmm xln (f) xwy xnx xch xaf xfa xgr xfo xco xtsr xtsz xce xmv xtc xbo) := by
  rw [mkH_set]
  refine mkH_ext (fun j hj => ?_)
  by_cases e : j = 6
  · rw [if_pos e, e]
    rfl
  · rw [if_neg e]
    match j, hj, e with
    | 0, _, e => first | rfl | exact absurd rfl e
    | 1, _, e => first | rfl | exact absurd rfl e
    | 2, _, e => first | rfl | exact absurd rfl e
    | 3, _, e => first | rfl | exact absurd rfl e
    | 4, _, e => first | rfl | exact absurd rfl e
    | 5, _, e => first | rfl | exact absurd rfl e
    | 6, _, e => first | rfl | exact absurd rfl e
    | 7, _, e => first | rfl | exact absurd rfl e
    | 8, _, e => first | rfl | exact absurd rfl e
    | 9, _, e => first | rfl | exact absurd rfl e
    | 10, _, e => first | rfl | exact absurd rfl e
    | 11, _, e => first | rfl | exact absurd rfl e
    | 12, _, e => first | rfl | exact absurd rfl e
    | 13, _, e => first | rfl | exact absurd rfl e
    | 14, _, e => first | rfl | exact absurd rfl e
    | 15, _, e => first | rfl | exact absurd rfl e
    | 16, _, e => first | rfl | exact absurd rfl e
    | 17, _, e => first | rfl | exact absurd rfl e
    | 18, _, e => first | rfl | exact absurd rfl e
    | 19, _, e => first | rfl | exact absurd rfl e
    | (j9 + 20), h, _ => exact absurd h (by omega)
theorem ms_ways {xn xP xS xsd xbo : Int32} {xod xkn xhs xmm xln xot xfa xgr xtsr xtsz xce xmv xtc : Nat → Int32} {xwy xnx xch xaf xfo xco : Nat → Int64} {f : Nat → Int64} : (mkH 20 (mdF xn xP xS xsd xod xkn xhs xmm xln xot xwy xnx xch xaf xfa xgr xfo xco xtsr xtsz xce xmv xtc xbo)).set 7 (pJ 12 f) = mkH 20 (mdF xn xP xS xsd xod xkn xhs xmm xln xot (f) xnx xch xaf xfa xgr xfo xco xtsr xtsz xce xmv xtc xbo) := by
  rw [mkH_set]
  refine mkH_ext (fun j hj => ?_)
  by_cases e : j = 7
  · rw [if_pos e, e]
    rfl
  · rw [if_neg e]
    match j, hj, e with
    | 0, _, e => first | rfl | exact absurd rfl e
    | 1, _, e => first | rfl | exact absurd rfl e
    | 2, _, e => first | rfl | exact absurd rfl e
    | 3, _, e => first | rfl | exact absurd rfl e
    | 4, _, e => first | rfl | exact absurd rfl e
    | 5, _, e => first | rfl | exact absurd rfl e
    | 6, _, e => first | rfl | exact absurd rfl e
    | 7, _, e => first | rfl | exact absurd rfl e
    | 8, _, e => first | rfl | exact absurd rfl e
    | 9, _, e => first | rfl | exact absurd rfl e
    | 10, _, e => first | rfl | exact absurd rfl e
    | 11, _, e => first | rfl | exact absurd rfl e
    | 12, _, e => first | rfl | exact absurd rfl e
    | 13, _, e => first | rfl | exact absurd rfl e
    | 14, _, e => first | rfl | exact absurd rfl e
    | 15, _, e => first | rfl | exact absurd rfl e
    | 16, _, e => first | rfl | exact absurd rfl e
    | 17, _, e => first | rfl | exact absurd rfl e
    | 18, _, e => first | rfl | exact absurd rfl e
    | 19, _, e => first | rfl | exact absurd rfl e
    | (j9 + 20), h, _ => exact absurd h (by omega)
theorem ms_next {xn xP xS xsd xbo : Int32} {xod xkn xhs xmm xln xot xfa xgr xtsr xtsz xce xmv xtc : Nat → Int32} {xwy xnx xch xaf xfo xco : Nat → Int64} {f : Nat → Int64} : (mkH 20 (mdF xn xP xS xsd xod xkn xhs xmm xln xot xwy xnx xch xaf xfa xgr xfo xco xtsr xtsz xce xmv xtc xbo)).set 8 (pJ 12 f) = mkH 20 (mdF xn xP xS xsd xod xkn xhs xmm xln xot xwy (f) xch xaf xfa xgr xfo xco xtsr xtsz xce xmv xtc xbo) := by
  rw [mkH_set]
  refine mkH_ext (fun j hj => ?_)
  by_cases e : j = 8
  · rw [if_pos e, e]
    rfl
  · rw [if_neg e]
    match j, hj, e with
    | 0, _, e => first | rfl | exact absurd rfl e
    | 1, _, e => first | rfl | exact absurd rfl e
    | 2, _, e => first | rfl | exact absurd rfl e
    | 3, _, e => first | rfl | exact absurd rfl e
    | 4, _, e => first | rfl | exact absurd rfl e
    | 5, _, e => first | rfl | exact absurd rfl e
    | 6, _, e => first | rfl | exact absurd rfl e
    | 7, _, e => first | rfl | exact absurd rfl e
    | 8, _, e => first | rfl | exact absurd rfl e
    | 9, _, e => first | rfl | exact absurd rfl e
    | 10, _, e => first | rfl | exact absurd rfl e
    | 11, _, e => first | rfl | exact absurd rfl e
    | 12, _, e => first | rfl | exact absurd rfl e
    | 13, _, e => first | rfl | exact absurd rfl e
    | 14, _, e => first | rfl | exact absurd rfl e
    | 15, _, e => first | rfl | exact absurd rfl e
    | 16, _, e => first | rfl | exact absurd rfl e
    | 17, _, e => first | rfl | exact absurd rfl e
    | 18, _, e => first | rfl | exact absurd rfl e
    | 19, _, e => first | rfl | exact absurd rfl e
    | (j9 + 20), h, _ => exact absurd h (by omega)
theorem ms_chances {xn xP xS xsd xbo : Int32} {xod xkn xhs xmm xln xot xfa xgr xtsr xtsz xce xmv xtc : Nat → Int32} {xwy xnx xch xaf xfo xco : Nat → Int64} {f : Nat → Int64} : (mkH 20 (mdF xn xP xS xsd xod xkn xhs xmm xln xot xwy xnx xch xaf xfa xgr xfo xco xtsr xtsz xce xmv xtc xbo)).set 9 (pJ 720 f) = mkH 20 (mdF xn xP xS xsd xod xkn xhs xmm xln xot xwy xnx (f) xaf xfa xgr xfo xco xtsr xtsz xce xmv xtc xbo) := by
  rw [mkH_set]
  refine mkH_ext (fun j hj => ?_)
  by_cases e : j = 9
  · rw [if_pos e, e]
    rfl
  · rw [if_neg e]
    match j, hj, e with
    | 0, _, e => first | rfl | exact absurd rfl e
    | 1, _, e => first | rfl | exact absurd rfl e
    | 2, _, e => first | rfl | exact absurd rfl e
    | 3, _, e => first | rfl | exact absurd rfl e
    | 4, _, e => first | rfl | exact absurd rfl e
    | 5, _, e => first | rfl | exact absurd rfl e
    | 6, _, e => first | rfl | exact absurd rfl e
    | 7, _, e => first | rfl | exact absurd rfl e
    | 8, _, e => first | rfl | exact absurd rfl e
    | 9, _, e => first | rfl | exact absurd rfl e
    | 10, _, e => first | rfl | exact absurd rfl e
    | 11, _, e => first | rfl | exact absurd rfl e
    | 12, _, e => first | rfl | exact absurd rfl e
    | 13, _, e => first | rfl | exact absurd rfl e
    | 14, _, e => first | rfl | exact absurd rfl e
    | 15, _, e => first | rfl | exact absurd rfl e
    | 16, _, e => first | rfl | exact absurd rfl e
    | 17, _, e => first | rfl | exact absurd rfl e
    | 18, _, e => first | rfl | exact absurd rfl e
    | 19, _, e => first | rfl | exact absurd rfl e
    | (j9 + 20), h, _ => exact absurd h (by omega)
theorem ms_after {xn xP xS xsd xbo : Int32} {xod xkn xhs xmm xln xot xfa xgr xtsr xtsz xce xmv xtc : Nat → Int32} {xwy xnx xch xaf xfo xco : Nat → Int64} {f : Nat → Int64} : (mkH 20 (mdF xn xP xS xsd xod xkn xhs xmm xln xot xwy xnx xch xaf xfa xgr xfo xco xtsr xtsz xce xmv xtc xbo)).set 10 (pJ 720 f) = mkH 20 (mdF xn xP xS xsd xod xkn xhs xmm xln xot xwy xnx xch (f) xfa xgr xfo xco xtsr xtsz xce xmv xtc xbo) := by
  rw [mkH_set]
  refine mkH_ext (fun j hj => ?_)
  by_cases e : j = 10
  · rw [if_pos e, e]
    rfl
  · rw [if_neg e]
    match j, hj, e with
    | 0, _, e => first | rfl | exact absurd rfl e
    | 1, _, e => first | rfl | exact absurd rfl e
    | 2, _, e => first | rfl | exact absurd rfl e
    | 3, _, e => first | rfl | exact absurd rfl e
    | 4, _, e => first | rfl | exact absurd rfl e
    | 5, _, e => first | rfl | exact absurd rfl e
    | 6, _, e => first | rfl | exact absurd rfl e
    | 7, _, e => first | rfl | exact absurd rfl e
    | 8, _, e => first | rfl | exact absurd rfl e
    | 9, _, e => first | rfl | exact absurd rfl e
    | 10, _, e => first | rfl | exact absurd rfl e
    | 11, _, e => first | rfl | exact absurd rfl e
    | 12, _, e => first | rfl | exact absurd rfl e
    | 13, _, e => first | rfl | exact absurd rfl e
    | 14, _, e => first | rfl | exact absurd rfl e
    | 15, _, e => first | rfl | exact absurd rfl e
    | 16, _, e => first | rfl | exact absurd rfl e
    | 17, _, e => first | rfl | exact absurd rfl e
    | 18, _, e => first | rfl | exact absurd rfl e
    | 19, _, e => first | rfl | exact absurd rfl e
    | (j9 + 20), h, _ => exact absurd h (by omega)
theorem ms_far {xn xP xS xsd xbo : Int32} {xod xkn xhs xmm xln xot xfa xgr xtsr xtsz xce xmv xtc : Nat → Int32} {xwy xnx xch xaf xfo xco : Nat → Int64} {f : Nat → Int32} : (mkH 20 (mdF xn xP xS xsd xod xkn xhs xmm xln xot xwy xnx xch xaf xfa xgr xfo xco xtsr xtsz xce xmv xtc xbo)).set 11 (pI 10 f) = mkH 20 (mdF xn xP xS xsd xod xkn xhs xmm xln xot xwy xnx xch xaf (f) xgr xfo xco xtsr xtsz xce xmv xtc xbo) := by
  rw [mkH_set]
  refine mkH_ext (fun j hj => ?_)
  by_cases e : j = 11
  · rw [if_pos e, e]
    rfl
  · rw [if_neg e]
    match j, hj, e with
    | 0, _, e => first | rfl | exact absurd rfl e
    | 1, _, e => first | rfl | exact absurd rfl e
    | 2, _, e => first | rfl | exact absurd rfl e
    | 3, _, e => first | rfl | exact absurd rfl e
    | 4, _, e => first | rfl | exact absurd rfl e
    | 5, _, e => first | rfl | exact absurd rfl e
    | 6, _, e => first | rfl | exact absurd rfl e
    | 7, _, e => first | rfl | exact absurd rfl e
    | 8, _, e => first | rfl | exact absurd rfl e
    | 9, _, e => first | rfl | exact absurd rfl e
    | 10, _, e => first | rfl | exact absurd rfl e
    | 11, _, e => first | rfl | exact absurd rfl e
    | 12, _, e => first | rfl | exact absurd rfl e
    | 13, _, e => first | rfl | exact absurd rfl e
    | 14, _, e => first | rfl | exact absurd rfl e
    | 15, _, e => first | rfl | exact absurd rfl e
    | 16, _, e => first | rfl | exact absurd rfl e
    | 17, _, e => first | rfl | exact absurd rfl e
    | 18, _, e => first | rfl | exact absurd rfl e
    | 19, _, e => first | rfl | exact absurd rfl e
    | (j9 + 20), h, _ => exact absurd h (by omega)
theorem ms_groups {xn xP xS xsd xbo : Int32} {xod xkn xhs xmm xln xot xfa xgr xtsr xtsz xce xmv xtc : Nat → Int32} {xwy xnx xch xaf xfo xco : Nat → Int64} {f : Nat → Int32} : (mkH 20 (mdF xn xP xS xsd xod xkn xhs xmm xln xot xwy xnx xch xaf xfa xgr xfo xco xtsr xtsz xce xmv xtc xbo)).set 12 (pI 11 f) = mkH 20 (mdF xn xP xS xsd xod xkn xhs xmm xln xot xwy xnx xch xaf xfa (f) xfo xco xtsr xtsz xce xmv xtc xbo) := by
  rw [mkH_set]
  refine mkH_ext (fun j hj => ?_)
  by_cases e : j = 12
  · rw [if_pos e, e]
    rfl
  · rw [if_neg e]
    match j, hj, e with
    | 0, _, e => first | rfl | exact absurd rfl e
    | 1, _, e => first | rfl | exact absurd rfl e
    | 2, _, e => first | rfl | exact absurd rfl e
    | 3, _, e => first | rfl | exact absurd rfl e
    | 4, _, e => first | rfl | exact absurd rfl e
    | 5, _, e => first | rfl | exact absurd rfl e
    | 6, _, e => first | rfl | exact absurd rfl e
    | 7, _, e => first | rfl | exact absurd rfl e
    | 8, _, e => first | rfl | exact absurd rfl e
    | 9, _, e => first | rfl | exact absurd rfl e
    | 10, _, e => first | rfl | exact absurd rfl e
    | 11, _, e => first | rfl | exact absurd rfl e
    | 12, _, e => first | rfl | exact absurd rfl e
    | 13, _, e => first | rfl | exact absurd rfl e
    | 14, _, e => first | rfl | exact absurd rfl e
    | 15, _, e => first | rfl | exact absurd rfl e
    | 16, _, e => first | rfl | exact absurd rfl e
    | 17, _, e => first | rfl | exact absurd rfl e
    | 18, _, e => first | rfl | exact absurd rfl e
    | 19, _, e => first | rfl | exact absurd rfl e
    | (j9 + 20), h, _ => exact absurd h (by omega)
theorem ms_found {xn xP xS xsd xbo : Int32} {xod xkn xhs xmm xln xot xfa xgr xtsr xtsz xce xmv xtc : Nat → Int32} {xwy xnx xch xaf xfo xco : Nat → Int64} {f : Nat → Int64} : (mkH 20 (mdF xn xP xS xsd xod xkn xhs xmm xln xot xwy xnx xch xaf xfa xgr xfo xco xtsr xtsz xce xmv xtc xbo)).set 13 (pJ 4200 f) = mkH 20 (mdF xn xP xS xsd xod xkn xhs xmm xln xot xwy xnx xch xaf xfa xgr (f) xco xtsr xtsz xce xmv xtc xbo) := by
  rw [mkH_set]
  refine mkH_ext (fun j hj => ?_)
  by_cases e : j = 13
  · rw [if_pos e, e]
    rfl
  · rw [if_neg e]
    match j, hj, e with
    | 0, _, e => first | rfl | exact absurd rfl e
    | 1, _, e => first | rfl | exact absurd rfl e
    | 2, _, e => first | rfl | exact absurd rfl e
    | 3, _, e => first | rfl | exact absurd rfl e
    | 4, _, e => first | rfl | exact absurd rfl e
    | 5, _, e => first | rfl | exact absurd rfl e
    | 6, _, e => first | rfl | exact absurd rfl e
    | 7, _, e => first | rfl | exact absurd rfl e
    | 8, _, e => first | rfl | exact absurd rfl e
    | 9, _, e => first | rfl | exact absurd rfl e
    | 10, _, e => first | rfl | exact absurd rfl e
    | 11, _, e => first | rfl | exact absurd rfl e
    | 12, _, e => first | rfl | exact absurd rfl e
    | 13, _, e => first | rfl | exact absurd rfl e
    | 14, _, e => first | rfl | exact absurd rfl e
    | 15, _, e => first | rfl | exact absurd rfl e
    | 16, _, e => first | rfl | exact absurd rfl e
    | 17, _, e => first | rfl | exact absurd rfl e
    | 18, _, e => first | rfl | exact absurd rfl e
    | 19, _, e => first | rfl | exact absurd rfl e
    | (j9 + 20), h, _ => exact absurd h (by omega)
theorem ms_counts {xn xP xS xsd xbo : Int32} {xod xkn xhs xmm xln xot xfa xgr xtsr xtsz xce xmv xtc : Nat → Int32} {xwy xnx xch xaf xfo xco : Nat → Int64} {f : Nat → Int64} : (mkH 20 (mdF xn xP xS xsd xod xkn xhs xmm xln xot xwy xnx xch xaf xfa xgr xfo xco xtsr xtsz xce xmv xtc xbo)).set 14 (pJ 11 f) = mkH 20 (mdF xn xP xS xsd xod xkn xhs xmm xln xot xwy xnx xch xaf xfa xgr xfo (f) xtsr xtsz xce xmv xtc xbo) := by
  rw [mkH_set]
  refine mkH_ext (fun j hj => ?_)
  by_cases e : j = 14
  · rw [if_pos e, e]
    rfl
  · rw [if_neg e]
    match j, hj, e with
    | 0, _, e => first | rfl | exact absurd rfl e
    | 1, _, e => first | rfl | exact absurd rfl e
    | 2, _, e => first | rfl | exact absurd rfl e
    | 3, _, e => first | rfl | exact absurd rfl e
    | 4, _, e => first | rfl | exact absurd rfl e
    | 5, _, e => first | rfl | exact absurd rfl e
    | 6, _, e => first | rfl | exact absurd rfl e
    | 7, _, e => first | rfl | exact absurd rfl e
    | 8, _, e => first | rfl | exact absurd rfl e
    | 9, _, e => first | rfl | exact absurd rfl e
    | 10, _, e => first | rfl | exact absurd rfl e
    | 11, _, e => first | rfl | exact absurd rfl e
    | 12, _, e => first | rfl | exact absurd rfl e
    | 13, _, e => first | rfl | exact absurd rfl e
    | 14, _, e => first | rfl | exact absurd rfl e
    | 15, _, e => first | rfl | exact absurd rfl e
    | 16, _, e => first | rfl | exact absurd rfl e
    | 17, _, e => first | rfl | exact absurd rfl e
    | 18, _, e => first | rfl | exact absurd rfl e
    | 19, _, e => first | rfl | exact absurd rfl e
    | (j9 + 20), h, _ => exact absurd h (by omega)
theorem ms_traySort {xn xP xS xsd xbo : Int32} {xod xkn xhs xmm xln xot xfa xgr xtsr xtsz xce xmv xtc : Nat → Int32} {xwy xnx xch xaf xfo xco : Nat → Int64} {f : Nat → Int32} : (mkH 20 (mdF xn xP xS xsd xod xkn xhs xmm xln xot xwy xnx xch xaf xfa xgr xfo xco xtsr xtsz xce xmv xtc xbo)).set 15 (pI 4 f) = mkH 20 (mdF xn xP xS xsd xod xkn xhs xmm xln xot xwy xnx xch xaf xfa xgr xfo xco (f) xtsz xce xmv xtc xbo) := by
  rw [mkH_set]
  refine mkH_ext (fun j hj => ?_)
  by_cases e : j = 15
  · rw [if_pos e, e]
    rfl
  · rw [if_neg e]
    match j, hj, e with
    | 0, _, e => first | rfl | exact absurd rfl e
    | 1, _, e => first | rfl | exact absurd rfl e
    | 2, _, e => first | rfl | exact absurd rfl e
    | 3, _, e => first | rfl | exact absurd rfl e
    | 4, _, e => first | rfl | exact absurd rfl e
    | 5, _, e => first | rfl | exact absurd rfl e
    | 6, _, e => first | rfl | exact absurd rfl e
    | 7, _, e => first | rfl | exact absurd rfl e
    | 8, _, e => first | rfl | exact absurd rfl e
    | 9, _, e => first | rfl | exact absurd rfl e
    | 10, _, e => first | rfl | exact absurd rfl e
    | 11, _, e => first | rfl | exact absurd rfl e
    | 12, _, e => first | rfl | exact absurd rfl e
    | 13, _, e => first | rfl | exact absurd rfl e
    | 14, _, e => first | rfl | exact absurd rfl e
    | 15, _, e => first | rfl | exact absurd rfl e
    | 16, _, e => first | rfl | exact absurd rfl e
    | 17, _, e => first | rfl | exact absurd rfl e
    | 18, _, e => first | rfl | exact absurd rfl e
    | 19, _, e => first | rfl | exact absurd rfl e
    | (j9 + 20), h, _ => exact absurd h (by omega)
theorem ms_traySize {xn xP xS xsd xbo : Int32} {xod xkn xhs xmm xln xot xfa xgr xtsr xtsz xce xmv xtc : Nat → Int32} {xwy xnx xch xaf xfo xco : Nat → Int64} {f : Nat → Int32} : (mkH 20 (mdF xn xP xS xsd xod xkn xhs xmm xln xot xwy xnx xch xaf xfa xgr xfo xco xtsr xtsz xce xmv xtc xbo)).set 16 (pI 4 f) = mkH 20 (mdF xn xP xS xsd xod xkn xhs xmm xln xot xwy xnx xch xaf xfa xgr xfo xco xtsr (f) xce xmv xtc xbo) := by
  rw [mkH_set]
  refine mkH_ext (fun j hj => ?_)
  by_cases e : j = 16
  · rw [if_pos e, e]
    rfl
  · rw [if_neg e]
    match j, hj, e with
    | 0, _, e => first | rfl | exact absurd rfl e
    | 1, _, e => first | rfl | exact absurd rfl e
    | 2, _, e => first | rfl | exact absurd rfl e
    | 3, _, e => first | rfl | exact absurd rfl e
    | 4, _, e => first | rfl | exact absurd rfl e
    | 5, _, e => first | rfl | exact absurd rfl e
    | 6, _, e => first | rfl | exact absurd rfl e
    | 7, _, e => first | rfl | exact absurd rfl e
    | 8, _, e => first | rfl | exact absurd rfl e
    | 9, _, e => first | rfl | exact absurd rfl e
    | 10, _, e => first | rfl | exact absurd rfl e
    | 11, _, e => first | rfl | exact absurd rfl e
    | 12, _, e => first | rfl | exact absurd rfl e
    | 13, _, e => first | rfl | exact absurd rfl e
    | 14, _, e => first | rfl | exact absurd rfl e
    | 15, _, e => first | rfl | exact absurd rfl e
    | 16, _, e => first | rfl | exact absurd rfl e
    | 17, _, e => first | rfl | exact absurd rfl e
    | 18, _, e => first | rfl | exact absurd rfl e
    | 19, _, e => first | rfl | exact absurd rfl e
    | (j9 + 20), h, _ => exact absurd h (by omega)
theorem ms_cells {xn xP xS xsd xbo : Int32} {xod xkn xhs xmm xln xot xfa xgr xtsr xtsz xce xmv xtc : Nat → Int32} {xwy xnx xch xaf xfo xco : Nat → Int64} {f : Nat → Int32} : (mkH 20 (mdF xn xP xS xsd xod xkn xhs xmm xln xot xwy xnx xch xaf xfa xgr xfo xco xtsr xtsz xce xmv xtc xbo)).set 17 (pI 160 f) = mkH 20 (mdF xn xP xS xsd xod xkn xhs xmm xln xot xwy xnx xch xaf xfa xgr xfo xco xtsr xtsz (f) xmv xtc xbo) := by
  rw [mkH_set]
  refine mkH_ext (fun j hj => ?_)
  by_cases e : j = 17
  · rw [if_pos e, e]
    rfl
  · rw [if_neg e]
    match j, hj, e with
    | 0, _, e => first | rfl | exact absurd rfl e
    | 1, _, e => first | rfl | exact absurd rfl e
    | 2, _, e => first | rfl | exact absurd rfl e
    | 3, _, e => first | rfl | exact absurd rfl e
    | 4, _, e => first | rfl | exact absurd rfl e
    | 5, _, e => first | rfl | exact absurd rfl e
    | 6, _, e => first | rfl | exact absurd rfl e
    | 7, _, e => first | rfl | exact absurd rfl e
    | 8, _, e => first | rfl | exact absurd rfl e
    | 9, _, e => first | rfl | exact absurd rfl e
    | 10, _, e => first | rfl | exact absurd rfl e
    | 11, _, e => first | rfl | exact absurd rfl e
    | 12, _, e => first | rfl | exact absurd rfl e
    | 13, _, e => first | rfl | exact absurd rfl e
    | 14, _, e => first | rfl | exact absurd rfl e
    | 15, _, e => first | rfl | exact absurd rfl e
    | 16, _, e => first | rfl | exact absurd rfl e
    | 17, _, e => first | rfl | exact absurd rfl e
    | 18, _, e => first | rfl | exact absurd rfl e
    | 19, _, e => first | rfl | exact absurd rfl e
    | (j9 + 20), h, _ => exact absurd h (by omega)
theorem ms_moved {xn xP xS xsd xbo : Int32} {xod xkn xhs xmm xln xot xfa xgr xtsr xtsz xce xmv xtc : Nat → Int32} {xwy xnx xch xaf xfo xco : Nat → Int64} {f : Nat → Int32} : (mkH 20 (mdF xn xP xS xsd xod xkn xhs xmm xln xot xwy xnx xch xaf xfa xgr xfo xco xtsr xtsz xce xmv xtc xbo)).set 18 (pI 40 f) = mkH 20 (mdF xn xP xS xsd xod xkn xhs xmm xln xot xwy xnx xch xaf xfa xgr xfo xco xtsr xtsz xce (f) xtc xbo) := by
  rw [mkH_set]
  refine mkH_ext (fun j hj => ?_)
  by_cases e : j = 18
  · rw [if_pos e, e]
    rfl
  · rw [if_neg e]
    match j, hj, e with
    | 0, _, e => first | rfl | exact absurd rfl e
    | 1, _, e => first | rfl | exact absurd rfl e
    | 2, _, e => first | rfl | exact absurd rfl e
    | 3, _, e => first | rfl | exact absurd rfl e
    | 4, _, e => first | rfl | exact absurd rfl e
    | 5, _, e => first | rfl | exact absurd rfl e
    | 6, _, e => first | rfl | exact absurd rfl e
    | 7, _, e => first | rfl | exact absurd rfl e
    | 8, _, e => first | rfl | exact absurd rfl e
    | 9, _, e => first | rfl | exact absurd rfl e
    | 10, _, e => first | rfl | exact absurd rfl e
    | 11, _, e => first | rfl | exact absurd rfl e
    | 12, _, e => first | rfl | exact absurd rfl e
    | 13, _, e => first | rfl | exact absurd rfl e
    | 14, _, e => first | rfl | exact absurd rfl e
    | 15, _, e => first | rfl | exact absurd rfl e
    | 16, _, e => first | rfl | exact absurd rfl e
    | 17, _, e => first | rfl | exact absurd rfl e
    | 18, _, e => first | rfl | exact absurd rfl e
    | 19, _, e => first | rfl | exact absurd rfl e
    | (j9 + 20), h, _ => exact absurd h (by omega)
theorem ms_traced {xn xP xS xsd xbo : Int32} {xod xkn xhs xmm xln xot xfa xgr xtsr xtsz xce xmv xtc : Nat → Int32} {xwy xnx xch xaf xfo xco : Nat → Int64} {f : Nat → Int32} : (mkH 20 (mdF xn xP xS xsd xod xkn xhs xmm xln xot xwy xnx xch xaf xfa xgr xfo xco xtsr xtsz xce xmv xtc xbo)).set 19 (pI 40 f) = mkH 20 (mdF xn xP xS xsd xod xkn xhs xmm xln xot xwy xnx xch xaf xfa xgr xfo xco xtsr xtsz xce xmv (f) xbo) := by
  rw [mkH_set]
  refine mkH_ext (fun j hj => ?_)
  by_cases e : j = 19
  · rw [if_pos e, e]
    rfl
  · rw [if_neg e]
    match j, hj, e with
    | 0, _, e => first | rfl | exact absurd rfl e
    | 1, _, e => first | rfl | exact absurd rfl e
    | 2, _, e => first | rfl | exact absurd rfl e
    | 3, _, e => first | rfl | exact absurd rfl e
    | 4, _, e => first | rfl | exact absurd rfl e
    | 5, _, e => first | rfl | exact absurd rfl e
    | 6, _, e => first | rfl | exact absurd rfl e
    | 7, _, e => first | rfl | exact absurd rfl e
    | 8, _, e => first | rfl | exact absurd rfl e
    | 9, _, e => first | rfl | exact absurd rfl e
    | 10, _, e => first | rfl | exact absurd rfl e
    | 11, _, e => first | rfl | exact absurd rfl e
    | 12, _, e => first | rfl | exact absurd rfl e
    | 13, _, e => first | rfl | exact absurd rfl e
    | 14, _, e => first | rfl | exact absurd rfl e
    | 15, _, e => first | rfl | exact absurd rfl e
    | 16, _, e => first | rfl | exact absurd rfl e
    | 17, _, e => first | rfl | exact absurd rfl e
    | 18, _, e => first | rfl | exact absurd rfl e
    | 19, _, e => first | rfl | exact absurd rfl e
    | (j9 + 20), h, _ => exact absurd h (by omega)
/-- the reference's heap holds this desk -/
def IsM : SP → PH → Prop
  | ((n, P, S, sd), (σ, μ, K, Hh), (ts, zz, it), (ra, tr)), h => ∃ (xod xkn xhs xmm xln xot xfa xgr xtsr xtsz xce xmv xtc : Nat → Int32) (xwy xnx xch xaf xfo xco : Nat → Int64), h = mkH 20 (mdF (nI n) (nI P) (nI S) (sd) xod xkn xhs xmm xln xot xwy xnx xch xaf xfa xgr xfo xco xtsr xtsz xce xmv xtc (nI ra)) ∧ (∀ p, p < P → ∀ j, j < n → xod (10 * p + j) = nI (σ p j)) ∧ (∀ s, s < S → xkn s = nI (K s) ∧ xhs s = nI (Hh s) ∧ (K s < 3 → ∀ j, j < n → xmm (10 * s + j) = nI (μ s j))) ∧ (∀ t, t < 4 → xtsr t = ts t ∧ xtsz t = nI (zz t) ∧ ∀ j, j < 40 → xce (40 * t + j) = it t j) ∧ (∀ i, i < ra → i < 40 → xtc i = tr i) ∧ (∀ c, c < 11 → xgr c = nI 0 ∨ (c % 2 = 0 ∧ xgr c = nI (gpF c)))
