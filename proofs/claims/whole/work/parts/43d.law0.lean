-- the state at the start
def c00 : CS := (0, fun _ => 0, fun _ => 0, fun _ => 0, 0, 0, 0, 0, fun _ => 0, 0, fun _ => 0, -1)
def ts00 : Nat → Int32 := (upd (upd (upd (upd (upd (upd (fun _ => 0) 0 (-1)) 1 (-1)) 2 (-1)) 3 (-1)) 4 (-1)) 5 (-1))
theorem ltF_eq : (upd (upd (upd (upd (upd (upd (upd (upd (upd (upd (upd (upd (upd (upd (upd (upd (upd (upd (fun _ => 0) 0 109) 1 101) 2 110) 3 111) 4 118) 5 101) 6 114) 7 98) 8 97) 9 99) 10 107) 11 109) 12 111) 13 114) 14 110) 15 105) 16 110) 17 103) = ltF := by
  funext j
  by_cases h : j < 18
  · rcases (show j = 0 ∨ j = 1 ∨ j = 2 ∨ j = 3 ∨ j = 4 ∨ j = 5 ∨ j = 6 ∨ j = 7 ∨ j = 8 ∨ j = 9 ∨ j = 10 ∨ j = 11 ∨ j = 12 ∨ j = 13 ∨ j = 14 ∨ j = 15 ∨ j = 16 ∨ j = 17 by omega) with rfl | rfl | rfl | rfl | rfl | rfl | rfl | rfl | rfl | rfl | rfl | rfl | rfl | rfl | rfl | rfl | rfl | rfl <;> rfl
  · have e : ltF j = 0 := by
      unfold ltF
      rw [List.getD_eq_getElem?_getD, List.getElem?_eq_none (by simp; omega)]; rfl
    rw [e]
    unfold upd
    rw [if_neg (by omega), if_neg (by omega), if_neg (by omega), if_neg (by omega), if_neg (by omega), if_neg (by omega), if_neg (by omega), if_neg (by omega), if_neg (by omega), if_neg (by omega), if_neg (by omega), if_neg (by omega), if_neg (by omega), if_neg (by omega), if_neg (by omega), if_neg (by omega), if_neg (by omega), if_neg (by omega)]
def bX0 (D : G) (xa : Nat → Nat) (vt tt : Nat → Option Nat) : Nat → va_W
  | 0 => O9 xa 0 0
  | 1 => C9 D xa 1 c00
  | 2 => C9 D xa 7 c00
  | 3 => T9 D xa 0 (fun _ => 0) 0 (-1)
  | 4 => [(xa 15, eV D 6 vt)]
  | 5 => VB D xa 0 vBare
  | 6 => VB D xa 1 vBare
  | 7 => VB D xa 2 vBare
  | 8 => VB D xa 3 vBare
  | 9 => VB D xa 4 vBare
  | 10 => VB D xa 5 vBare
  | 11 => VB D xa 6 vBare
  | 12 => W9 D xa 51 0 0 0 0 (fun _ => 0) (fun _ => 0) (fun _ => 0) (fun _ => 0) (fun _ => 0) (fun _ => 0)
  | 13 => N9 D xa 0 0 0 0 0 0 (fun _ => 0) ++ W9 D xa 60 0 0 0 0 (fun _ => 0) (fun _ => 0) (fun _ => 0) (fun _ => 0) (fun _ => 0) (fun _ => 0)
  | 14 => R9 D xa (-1) 0 0 0 (fun _ => 0) (fun _ => 0) ++ W9 D xa 70 0 0 0 0 (fun _ => 0) (fun _ => 0) (fun _ => 0) (fun _ => 0) (fun _ => 0) (fun _ => 0)
  | 15 => L9 D xa (fun _ => 0)
  | 16 => B9 D xa 0 (fun _ => 0) 0 0 0
  | 17 => [(xa 81, eT D 6 tt)]
  | 18 => TB D xa 0 (-1) 0 (fun _ => 0)
  | 19 => TB D xa 1 (-1) 0 (fun _ => 0)
  | 20 => TB D xa 2 (-1) 0 (fun _ => 0)
  | 21 => TB D xa 3 (-1) 0 (fun _ => 0)
  | 22 => TB D xa 4 (-1) 0 (fun _ => 0)
  | 23 => TB D xa 5 (-1) 0 (fun _ => 0)
  | _ => []
theorem IX0 {D : G} {xa : Nat → Nat} {vt tt : Nat → Option Nat} : IX D xa vt tt c00 c00 0 0 (fun _ => 0) 0 (fun _ => vBare) ts00 (fun _ => 0) (fun _ _ => 0) 0 (fun _ => 0) (bX0 D xa vt tt) := by
  intro i hi
  rcases (show i = 0 ∨ i = 1 ∨ i = 2 ∨ i = 3 ∨ i = 4 ∨ i = 5 ∨ i = 6 ∨ i = 7 ∨ i = 8 ∨ i = 9 ∨ i = 10 ∨ i = 11 ∨ i = 12 ∨ i = 13 ∨ i = 14 ∨ i = 15 ∨ i = 16 ∨ i = 17 ∨ i = 18 ∨ i = 19 ∨ i = 20 ∨ i = 21 ∨ i = 22 ∨ i = 23 by omega) with rfl | rfl | rfl | rfl | rfl | rfl | rfl | rfl | rfl | rfl | rfl | rfl | rfl | rfl | rfl | rfl | rfl | rfl | rfl | rfl | rfl | rfl | rfl | rfl
  · exact k_0
  · exact k_1
  · exact k_2
  · exact k_3
  · exact k_4
  · exact k_V (k := 0) (by decide)
  · exact k_V (k := 1) (by decide)
  · exact k_V (k := 2) (by decide)
  · exact k_V (k := 3) (by decide)
  · exact k_V (k := 4) (by decide)
  · exact k_V (k := 5) (by decide)
  · exact k_V (k := 6) (by decide)
  · exact k_12
  · exact k_13
  · exact k_14
  · exact k_15
  · exact k_16
  · exact k_17
  · exact k_T (k := 0) (by decide)
  · exact k_T (k := 1) (by decide)
  · exact k_T (k := 2) (by decide)
  · exact k_T (k := 3) (by decide)
  · exact k_T (k := 4) (by decide)
  · exact k_T (k := 5) (by decide)
def bM0 (D : G) (mo : Nat) (ma : Nat → Nat) : Nat → va_W
  | 0 => [(mo, .inr (10, M1R ma (mZ c00 c00 0 0 0 0 0 0 0 0 0 0 0 0 0)))]
  | 4 => [((ma 4), eI D 6 (nF c00.kk))]
  | 5 => [((ma 5), eI D 6 (nF c00.vv))]
  | 6 => [((ma 6), eI D 6 c00.hd)]
  | 12 => [((ma 12), eI D 100 (fun _ => 0))]
  | 13 => [((ma 13), eI D 6 (fun _ => 0))]
  | 14 => [((ma 14), eI D 60 (fun _ => 0))]
  | 15 => [((ma 15), eI D 60 (fun _ => 0))]
  | 16 => [((ma 16), eI D 60 (fun _ => 0))]
  | 17 => [((ma 17), eI D 60 (fun _ => 0))]
  | 18 => [((ma 18), eI D 600 (fun _ => 0))]
  | 19 => [((ma 19), eI D 101 (fun _ => 0))]
  | 23 => [((ma 23), eI D 18 ltF)]
  | 24 => [((ma 24), eZ D 100 (fun _ => 0))]
  | 30 => [((ma 30), eI D 8 (nF c00.crf))]
  | 31 => [((ma 31), eI D 6 (fun _ => 0))]
  | 32 => [((ma 32), eI D 6 (fun _ => 0))]
  | 33 => [((ma 33), eI D 42 (fun _ => 0))]
  | 35 => [((ma 35), eI D 12 (nF c00.bo))]
  | 44 => [((ma 44), eI D 6 (nF c00.kk))]
  | 45 => [((ma 45), eI D 6 (nF c00.vv))]
  | 46 => [((ma 46), eI D 6 c00.hd)]
  | 47 => [((ma 47), eI D 8 (nF c00.crf))]
  | 48 => [((ma 48), eI D 12 (nF c00.bo))]
  | 50 => [((ma 50), eI D 20 (fun _ => 0))]
  | 51 => [((ma 51), eI D 6 ts00)]
  | 52 => [((ma 52), eI D 6 (nF (fun _ => 0)))]
  | 53 => [((ma 53), eJ D 360 (itm (fun _ _ => 0)))]
  | 54 => [((ma 54), eJ D 60 (fun _ => 0))]
  | _ => []
theorem BM0 {D : G} {mo : Nat} {ma : Nat → Nat} : ∀ i, i < 55 → BM D mo ma c00 c00 0 0 (fun _ => 0) 0 ts00 (fun _ => 0) (fun _ _ => 0) 0 (fun _ => 0) (fun _ => 0) (fun _ => 0) (fun _ => 0) (fun _ => 0) (fun _ => 0) (fun _ => 0) i (bM0 D mo ma i) := by
  intro i hi
  rcases (show i = 0 ∨ i = 1 ∨ i = 2 ∨ i = 3 ∨ i = 4 ∨ i = 5 ∨ i = 6 ∨ i = 7 ∨ i = 8 ∨ i = 9 ∨ i = 10 ∨ i = 11 ∨ i = 12 ∨ i = 13 ∨ i = 14 ∨ i = 15 ∨ i = 16 ∨ i = 17 ∨ i = 18 ∨ i = 19 ∨ i = 20 ∨ i = 21 ∨ i = 22 ∨ i = 23 ∨ i = 24 ∨ i = 25 ∨ i = 26 ∨ i = 27 ∨ i = 28 ∨ i = 29 ∨ i = 30 ∨ i = 31 ∨ i = 32 ∨ i = 33 ∨ i = 34 ∨ i = 35 ∨ i = 36 ∨ i = 37 ∨ i = 38 ∨ i = 39 ∨ i = 40 ∨ i = 41 ∨ i = 42 ∨ i = 43 ∨ i = 44 ∨ i = 45 ∨ i = 46 ∨ i = 47 ∨ i = 48 ∨ i = 49 ∨ i = 50 ∨ i = 51 ∨ i = 52 ∨ i = 53 ∨ i = 54 by omega) with rfl | rfl | rfl | rfl | rfl | rfl | rfl | rfl | rfl | rfl | rfl | rfl | rfl | rfl | rfl | rfl | rfl | rfl | rfl | rfl | rfl | rfl | rfl | rfl | rfl | rfl | rfl | rfl | rfl | rfl | rfl | rfl | rfl | rfl | rfl | rfl | rfl | rfl | rfl | rfl | rfl | rfl | rfl | rfl | rfl | rfl | rfl | rfl | rfl | rfl | rfl | rfl | rfl | rfl | rfl
  · exact j_0
  · exact rfl
  · exact rfl
  · exact rfl
  · exact j_4
  · exact j_5
  · exact j_6
  · exact rfl
  · exact rfl
  · exact rfl
  · exact rfl
  · exact rfl
  · exact j_12
  · exact j_13
  · exact j_14
  · exact j_15
  · exact j_16
  · exact j_17
  · exact j_18
  · exact j_19
  · exact rfl
  · exact rfl
  · exact rfl
  · exact j_23
  · exact j_24
  · exact rfl
  · exact rfl
  · exact rfl
  · exact rfl
  · exact rfl
  · exact j_30
  · exact j_31
  · exact j_32
  · exact j_33
  · exact rfl
  · exact j_35
  · exact rfl
  · exact rfl
  · exact rfl
  · exact rfl
  · exact rfl
  · exact rfl
  · exact rfl
  · exact rfl
  · exact j_44
  · exact j_45
  · exact j_46
  · exact j_47
  · exact j_48
  · exact rfl
  · exact j_50
  · exact j_51
  · exact j_52
  · exact j_53
  · exact j_54
theorem cOk0 : cOk c00 := ⟨Nat.zero_le _, fun _ _ => (by decide : (0 : Nat) < 7), fun _ _ => Nat.zero_le _, (by decide : (0 : Nat) < 1000000), Nat.zero_le _, Nat.zero_le _, fun s z => absurd z (Nat.not_lt_zero s), Nat.zero_le _, fun _ _ => (by decide : (0 : Nat) < 1000000)⟩
theorem AOk0 : AOk c00 c00 0 0 (fun _ => 0) 0 (fun _ => vBare) ts00 (fun _ => 0) 0 := by
  refine ⟨cOk0, cOk0, Or.inl rfl, Or.inl rfl, Or.inl rfl, ⟨by decide, fun j z => absurd z (Nat.not_lt_zero j)⟩, by decide, fun k z => absurd z (Nat.not_lt_zero k), rfl, fun t ht => ⟨Nat.zero_le _, fun _ => rfl, Or.inl ?_⟩, by decide⟩
  rcases (show t = 0 ∨ t = 1 ∨ t = 2 ∨ t = 3 ∨ t = 4 ∨ t = 5 by omega) with rfl | rfl | rfl | rfl | rfl | rfl <;> rfl
theorem Inv0 {D : G} {xa : Nat → Nat} {vt tt : Nat → Option Nat} {mo : Nat} {ma : Nat → Nat} : Inv D xa vt tt mo ma (bX0 D xa vt tt) (bM0 D mo ma) := ⟨c00, c00, 0, 0, (fun _ => 0), 0, (fun _ => vBare), ts00, (fun _ => 0), (fun _ _ => 0), 0, (fun _ => 0), AOk0, IX0, (fun _ => 0), (fun _ => 0), (fun _ => 0), (fun _ => 0), (fun _ => 0), (fun _ => 0), fun k hk => absurd hk (Nat.not_lt_zero k), BM0⟩
set_option maxRecDepth 100000 in
set_option maxHeartbeats 4000000 in
theorem w9_0 {D : G} {a e0 e1 e2 e3 e4 e5 e6 e7 e8 e9 e10 e11 e12 e13 e14 e15 e16 e17 e18 e19 e20 e21 e22 e23 e24 e25 e26 e27 e28 e29 e30 e31 e32 e33 e34 e35 e36 e37 e38 e39 e40 e41 e42 e43 e44 e45 e46 e47 e48 e49 e50 e51 e52 e53 e54 e55 e56 e57 e58 e59 e60 e61 e62 e63 e64 e65 e66 e67 e68 e69 e70 e71 e72 e73 e74 e75 e76 e77 e78 e79 e80 e81 e82 e83 e84 e85 e86 e87 e88 e89 e90 e91 e92 : Nat} : [0, 1, 2, 3, 4, 5, 6, 7, 8, 9, 10, 11, 12, 13, 14, 20, 52, 53, 54, 55, 56, 57, 58, 59, 60, 61, 62, 63, 64, 65, 66, 67, 68, 69, 70, 71, 72, 73, 74, 75, 76, 77, 78, 79, 80, 81, 15, 16, 17, 18, 19, 21, 22, 23, 24, 25, 26, 27, 28, 36, 29, 30, 31, 32, 33, 34, 35, 37, 45, 46, 38, 39, 40, 41, 42, 43, 44, 47, 48, 49, 50, 51, 82, 83, 84, 85, 86, 87, 88, 89, 90, 91, 92, 93].map (fun i => ([(a, .inr (9, [.ref e0, .ref e6, .int 0, .ref e12, .ref e14, .ref e19, .int 0, .ref e20, .ref e27, .ref e36, .ref e46, .ref e48, .ref e50])), (e0, .inr (1, [.int 0, .ref e1, .ref e2, .ref e3, .int 0, .int 0, .int 0, .int 0, .ref e4, .int 0, .ref e5, .int (-1)])), (e1, eI D 6 (fun _ => 0)), (e2, eI D 6 (fun _ => 0)), (e3, eI D 6 (fun _ => 0)), (e4, eI D 8 (fun _ => 0)), (e5, eI D 12 (fun _ => 0)), (e6, .inr (1, [.int 0, .ref e7, .ref e8, .ref e9, .int 0, .int 0, .int 0, .int 0, .ref e10, .int 0, .ref e11, .int (-1)])), (e7, eI D 6 (fun _ => 0)), (e8, eI D 6 (fun _ => 0)), (e9, eI D 6 (fun _ => 0)), (e10, eI D 8 (fun _ => 0)), (e11, eI D 12 (fun _ => 0)), (e12, .inr (7, [.ref e13, .int 0, .int 0, .int (-1)])), (e13, eB D 100 (fun _ => 0)), (e14, .inr (6, [.int 3, .int 1, .int 0, .int 0, .ref e15, .ref e16, .ref e17, .int 0, .ref e18])), (e15, eZ D 10 (fun _ => 0)), (e16, eI D 10 (fun _ => 0)), (e17, eI D 10 (fun _ => 0)), (e18, eI D 100 (fun _ => 0)), (e19, eV D 6 (va_up (va_up (va_up (va_up (va_up (va_up (fun _ => none) 0 (some e51)) 1 (some e56)) 2 (some e61)) 3 (some e66)) 4 (some e71)) 5 (some e76))), (e20, .inr (8, [.ref e21, .ref e22, .ref e23, .int 0, .ref e24, .ref e25, .ref e26, .int 0, .int 0, .int 0])), (e21, eI D 6 (fun _ => 0)), (e22, eI D 6 (fun _ => 0)), (e23, eI D 6 (fun _ => 0)), (e24, eI D 5 (fun _ => 0)), (e25, eI D 480 (fun _ => 0)), (e26, eI D 480 (fun _ => 0)), (e27, .inr (3, [.ref e28, .ref e35, .int 0, .int 0, .int 0, .int 0, .int 0, .int 0])), (e28, .inr (8, [.ref e29, .ref e30, .ref e31, .int 0, .ref e32, .ref e33, .ref e34, .int 0, .int 0, .int 0])), (e29, eI D 6 (fun _ => 0)), (e30, eI D 6 (fun _ => 0)), (e31, eI D 6 (fun _ => 0)), (e32, eI D 5 (fun _ => 0)), (e33, eI D 480 (fun _ => 0)), (e34, eI D 480 (fun _ => 0)), (e35, eI D 8 (fun _ => 0)), (e36, .inr (4, [.ref e37, .ref e44, .ref e45, .int (-1), .int 0, .int 0, .int 0])), (e37, .inr (8, [.ref e38, .ref e39, .ref e40, .int 0, .ref e41, .ref e42, .ref e43, .int 0, .int 0, .int 0])), (e38, eI D 6 (fun _ => 0)), (e39, eI D 6 (fun _ => 0)), (e40, eI D 6 (fun _ => 0)), (e41, eI D 5 (fun _ => 0)), (e42, eI D 480 (fun _ => 0)), (e43, eI D 480 (fun _ => 0)), (e44, eI D 6 (fun _ => 0)), (e45, eI D 6 (fun _ => 0)), (e46, .inr (2, [.ref e47])), (e47, eI D 40 (fun _ => 0)), (e48, .inr (0, [.ref e49, .int 0, .int 0, .int 0, .int 0])), (e49, eI D 20 (fun _ => 0)), (e50, eT D 6 (va_up (va_up (va_up (va_up (va_up (va_up (fun _ => none) 0 (some e81)) 1 (some e83)) 2 (some e85)) 3 (some e87)) 4 (some e89)) 5 (some e91))), (e51, .inr (6, [.int 3, .int 1, .int 0, .int 0, .ref e52, .ref e53, .ref e54, .int 0, .ref e55])), (e52, eZ D 10 (fun _ => 0)), (e53, eI D 10 (fun _ => 0)), (e54, eI D 10 (fun _ => 0)), (e55, eI D 100 (fun _ => 0)), (e56, .inr (6, [.int 3, .int 1, .int 0, .int 0, .ref e57, .ref e58, .ref e59, .int 0, .ref e60])), (e57, eZ D 10 (fun _ => 0)), (e58, eI D 10 (fun _ => 0)), (e59, eI D 10 (fun _ => 0)), (e60, eI D 100 (fun _ => 0)), (e61, .inr (6, [.int 3, .int 1, .int 0, .int 0, .ref e62, .ref e63, .ref e64, .int 0, .ref e65])), (e62, eZ D 10 (fun _ => 0)), (e63, eI D 10 (fun _ => 0)), (e64, eI D 10 (fun _ => 0)), (e65, eI D 100 (fun _ => 0)), (e66, .inr (6, [.int 3, .int 1, .int 0, .int 0, .ref e67, .ref e68, .ref e69, .int 0, .ref e70])), (e67, eZ D 10 (fun _ => 0)), (e68, eI D 10 (fun _ => 0)), (e69, eI D 10 (fun _ => 0)), (e70, eI D 100 (fun _ => 0)), (e71, .inr (6, [.int 3, .int 1, .int 0, .int 0, .ref e72, .ref e73, .ref e74, .int 0, .ref e75])), (e72, eZ D 10 (fun _ => 0)), (e73, eI D 10 (fun _ => 0)), (e74, eI D 10 (fun _ => 0)), (e75, eI D 100 (fun _ => 0)), (e76, .inr (6, [.int 3, .int 1, .int 0, .int 0, .ref e77, .ref e78, .ref e79, .int 0, .ref e80])), (e77, eZ D 10 (fun _ => 0)), (e78, eI D 10 (fun _ => 0)), (e79, eI D 10 (fun _ => 0)), (e80, eI D 100 (fun _ => 0)), (e81, .inr (5, [.int (-1), .int 0, .ref e82])), (e82, eJ D 60 (fun _ => 0)), (e83, .inr (5, [.int (-1), .int 0, .ref e84])), (e84, eJ D 60 (fun _ => 0)), (e85, .inr (5, [.int (-1), .int 0, .ref e86])), (e86, eJ D 60 (fun _ => 0)), (e87, .inr (5, [.int (-1), .int 0, .ref e88])), (e88, eJ D 60 (fun _ => 0)), (e89, .inr (5, [.int (-1), .int 0, .ref e90])), (e90, eJ D 60 (fun _ => 0)), (e91, .inr (5, [.int (-1), .int 0, .ref e92])), (e92, eJ D 60 (fun _ => 0))] : va_W)[i]?) = (wB 24 (bX0 D (fun k => [a, e0, e1, e2, e3, e4, e5, e6, e7, e8, e9, e10, e11, e12, e13, e19, e51, e52, e53, e54, e55, e56, e57, e58, e59, e60, e61, e62, e63, e64, e65, e66, e67, e68, e69, e70, e71, e72, e73, e74, e75, e76, e77, e78, e79, e80, e14, e15, e16, e17, e18, e20, e21, e22, e23, e24, e25, e26, e27, e35, e28, e29, e30, e31, e32, e33, e34, e36, e44, e45, e37, e38, e39, e40, e41, e42, e43, e46, e47, e48, e49, e50, e81, e82, e83, e84, e85, e86, e87, e88, e89, e90, e91, e92].getD k 0) (va_up (va_up (va_up (va_up (va_up (va_up (fun _ => none) 0 (some e51)) 1 (some e56)) 2 (some e61)) 3 (some e66)) 4 (some e71)) 5 (some e76)) (va_up (va_up (va_up (va_up (va_up (va_up (fun _ => none) 0 (some e81)) 1 (some e83)) 2 (some e85)) 3 (some e87)) 4 (some e89)) 5 (some e91)))).map some := rfl
set_option maxRecDepth 100000 in
set_option maxHeartbeats 4000000 in
theorem w10_0 {D : G} {a e0 e1 e2 e3 e4 e5 e6 e7 e8 e9 e10 e11 e12 e13 e14 e15 e16 e17 e18 e19 e20 e21 e22 e23 e24 e25 e26 e27 : Nat} : ([(a, .inr (10, [.int 0, .int 0, .int 0, .int 0, .ref e0, .ref e1, .ref e2, .int 0, .int (-1), .int 0, .int 0, .int 0, .ref e3, .ref e4, .ref e5, .ref e6, .ref e7, .ref e8, .ref e9, .ref e10, .int 0, .int 0, .int 0, .ref e11, .ref e12, .int 0, .int 0, .int 0, .int 0, .int 0, .ref e13, .ref e14, .ref e15, .ref e16, .int 0, .ref e17, .int 0, .int (-1), .int 0, .int 0, .int 0, .int 0, .int 0, .int 0, .ref e18, .ref e19, .ref e20, .ref e21, .ref e22, .int 0, .ref e23, .ref e24, .ref e25, .ref e26, .ref e27])), (e0, eI D 6 (fun _ => 0)), (e1, eI D 6 (fun _ => 0)), (e2, eI D 6 (fun _ => 0)), (e3, eI D 100 (fun _ => 0)), (e4, eI D 6 (fun _ => 0)), (e5, eI D 60 (fun _ => 0)), (e6, eI D 60 (fun _ => 0)), (e7, eI D 60 (fun _ => 0)), (e8, eI D 60 (fun _ => 0)), (e9, eI D 600 (fun _ => 0)), (e10, eI D 101 (fun _ => 0)), (e11, eI D 18 (upd (upd (upd (upd (upd (upd (upd (upd (upd (upd (upd (upd (upd (upd (upd (upd (upd (upd (fun _ => 0) 0 109) 1 101) 2 110) 3 111) 4 118) 5 101) 6 114) 7 98) 8 97) 9 99) 10 107) 11 109) 12 111) 13 114) 14 110) 15 105) 16 110) 17 103)), (e12, eZ D 100 (fun _ => 0)), (e13, eI D 8 (fun _ => 0)), (e14, eI D 6 (fun _ => 0)), (e15, eI D 6 (fun _ => 0)), (e16, eI D 42 (fun _ => 0)), (e17, eI D 12 (fun _ => 0)), (e18, eI D 6 (fun _ => 0)), (e19, eI D 6 (fun _ => 0)), (e20, eI D 6 (fun _ => 0)), (e21, eI D 8 (fun _ => 0)), (e22, eI D 12 (fun _ => 0)), (e23, eI D 20 (fun _ => 0)), (e24, eI D 6 (upd (upd (upd (upd (upd (upd (fun _ => 0) 0 (-1)) 1 (-1)) 2 (-1)) 3 (-1)) 4 (-1)) 5 (-1))), (e25, eI D 6 (fun _ => 0)), (e26, eJ D 360 (fun _ => 0)), (e27, eJ D 60 (fun _ => 0))] : va_W) = wB 55 (bM0 D a (fun k => [0, 0, 0, 0, e0, e1, e2, 0, 0, 0, 0, 0, e3, e4, e5, e6, e7, e8, e9, e10, 0, 0, 0, e11, e12, 0, 0, 0, 0, 0, e13, e14, e15, e16, 0, e17, 0, 0, 0, 0, 0, 0, 0, 0, e18, e19, e20, e21, e22, 0, e23, e24, e25, e26, e27].getD k 0)) := by
  rw [ltF_eq]
  rfl
