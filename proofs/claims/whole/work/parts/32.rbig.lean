-- the reference: acts, long numbers
theorem len_c {a : Int32} {l : List Int32} {n : Nat} : n + (a :: l).length = n + 1 + l.length := by rw [List.length_cons]; omega
theorem len_a {k l : List Int32} {n : Nat} : n + (k ++ l).length = n + k.length + l.length := by rw [List.length_append]; omega
theorem less_q : ∀ d, d < 10 → ∀ w, w < 101 → (¬ nI d - nI (w % 10) < 0 → nI d - nI (w % 10) = nI ((d + 100 - w) % 10) ∧ w / 10 = (w + 9 - d) / 10) ∧ (nI d - nI (w % 10) < 0 → nI d - nI (w % 10) + 10 = nI ((d + 100 - w) % 10) ∧ w / 10 + 1 = (w + 9 - d) / 10) := by decide +kernel
theorem topd_hi {e : Nat → Nat} {n : Nat} : ∀ k, (∀ j, n ≤ j → j < n + k → e j = 0) → topd e (n + k) = topd e n
  | 0, _ => rfl
  | k + 1, h => by
    show topd e (n + k + 1) = _
    rw [topd, if_pos (h (n + k) (by omega) (by omega))]
    exact topd_hi k (fun j a b => h j a (by omega))
theorem hrn_hi {e : Nat → Nat} {q n : Nat} : ∀ k, (∀ j, n ≤ j → j < n + k → e j = 0) → 0 < q → hrn e q (n + k) 0 = hrn e q n 0
  | 0, _, _ => rfl
  | k + 1, h, hq => by
    show hrn e q (n + k) ((0 * 10 + e (n + k)) % q) = _
    rw [h (n + k) (by omega) (by omega)]
    show hrn e q (n + k) ((0 * 10 + 0) % q) = _
    rw [Nat.zero_mul, Nat.zero_add, Nat.zero_mod]
    exact hrn_hi k (fun j a b => h j a (by omega)) hq
theorem dig_42 {d m o : Nat} (hd : d ≤ 12) (hm : m ≤ 30) : ∀ j, 40 ≤ j → j < 40 + 2 → bigN d m o / 10 ^ j % 10 = 0 := fun j h _ => digs_high (n := 40) (Nat.lt_of_le_of_lt (Nat.sub_le _ _) (big_lt hd (by omega))) h
set_option maxRecDepth 100000 in
set_option maxHeartbeats 4000000 in
theorem sp_X10_body {D : G} {mo : Nat} {ma : Nat → Nat} {c : CS} {c2 : CS} {tk : Int32} {vc : Nat} {ln : Nat} {rn : Nat} {zs_10 : Int32} {zs_11 : Int32} {zs_20 : Int32} {zs_21 : Int32} {zs_22 : Int32} {zs_25 : Int32} {zs_26 : Int32} {zs_27 : Int32} {zs_29 : Int32} {f : Nat → Int32} {b : Int32} (hn : rn < 20) : Sp D mX10_body 0 0 0 [.ref mo, .int b] [(mo, .inr (10, M1R ma (mZ c c2 tk vc ln rn zs_10 zs_11 zs_20 zs_21 zs_22 zs_25 zs_26 zs_27 zs_29))), ((ma 50), eI D 20 f)] (fun r w => r = none ∧ w = [(mo, .inr (10, M1R ma (mZ c c2 tk vc ln (rn + 1) zs_10 zs_11 zs_20 zs_21 zs_22 zs_25 zs_26 zs_27 zs_29))), ((ma 50), eI D 20 (upd f rn b))]) := by
  refine Sp.of (by decide) (Nat.le_of_ble_eq_true rfl) (fun X O T => ?_)
  refine v_eq (lv' := [(0, .ref mo), (1, .int b)]) rfl rfl rfl rfl ?_
  refine v_aload_n O dX10_body_0 0 rfl ?_
  refine gf_X10_160 (v := .int (nI rn)) O rfl dX10_body_1 0 rfl rfl ?_
  refine v_bipush (v := 20) O dX10_body_4 (by decide) ?_
  refine v_icmp_ge O 19 dX10_body_6 (by decide) (fun z1 => ?_) (fun z1 => ?_)
  · skip
    have z1 := (c_le' (x := nI rn) (y := 20) (a := rn) (b := 20) rfl rfl (by omega) (by omega)).mp z1
    exact absurd z1 (by omega)
  · skip
    have z1 := (not_congr (c_le' (x := nI rn) (y := 20) (a := rn) (b := 20) rfl rfl (by omega) (by omega))).mp z1
    refine v_aload_n O dX10_body_9 0 rfl ?_
    refine gf_X10_163 (v := .ref (ma 50)) O rfl dX10_body_10 0 rfl rfl ?_
    refine v_aload_n O dX10_body_13 0 rfl ?_
    refine gf_X10_160 (v := .int (nI rn)) O rfl dX10_body_14 0 rfl rfl ?_
    refine v_iload_n O dX10_body_17 1 rfl ?_
    refine v_iastk (ws' := [(mo, .inr (10, M1R ma (mZ c c2 tk vc ln rn zs_10 zs_11 zs_20 zs_21 zs_22 zs_25 zs_26 zs_27 zs_29))), ((ma 50), eI D 20 (upd f rn b))]) O dX10_body_18 1 rfl rn (rfl) (by omega) (by decide) (rfl) ?_
    refine v_aload_n O dX10_body_19 0 rfl ?_
    refine v_dup O dX10_body_20 rfl ?_
    refine gf_X10_160 (v := .int (nI rn)) O rfl dX10_body_21 0 rfl rfl ?_
    refine v_iconst (v := 1) O dX10_body_24 (by decide) ?_
    refine v_iadd O dX10_body_25 ?_
    refine v_top (y := nI (rn + 1)) (nI_add rn 1) ?_
    refine pf_X10_160 (fs' := M1R ma (mZ c c2 tk vc ln (rn + 1) zs_10 zs_11 zs_20 zs_21 zs_22 zs_25 zs_26 zs_27 zs_29)) (ws' := [(mo, .inr (10, M1R ma (mZ c c2 tk vc ln (rn + 1) zs_10 zs_11 zs_20 zs_21 zs_22 zs_25 zs_26 zs_27 zs_29))), ((ma 50), eI D 20 (upd f rn b))]) O rfl dX10_body_26 0 rfl (Nat.le_of_ble_eq_true rfl) rfl rfl ?_
    exact v_return O T rfl (by decide) (by decide) dX10_body_29 (⟨rfl, rfl⟩)
set_option maxRecDepth 100000 in
set_option maxHeartbeats 4000000 in
theorem sp_X10_manWakes {D : G} {mo : Nat} {ma : Nat → Nat} {c : CS} {c2 : CS} {tk : Int32} {vc : Nat} {ln : Nat} {rn : Nat} {zs_10 : Int32} {zs_11 : Int32} {zs_20 : Int32} {zs_21 : Int32} {zs_22 : Int32} {zs_25 : Int32} {zs_26 : Int32} {zs_27 : Int32} {zs_29 : Int32} {f : Nat → Int32} {i : Nat} {x : Int32} (hn : rn < 20) : Sp D mX10_manWakes 1 0 0 [.ref mo, .int (nI i), .int x] [(mo, .inr (10, M1R ma (mZ c c2 tk vc ln rn zs_10 zs_11 zs_20 zs_21 zs_22 zs_25 zs_26 zs_27 zs_29))), ((ma 50), eI D 20 f)] (fun r w => r = some (.int (x + nI i)) ∧ w = [(mo, .inr (10, M1R ma (mZ c c2 tk vc ln (rn + 1) zs_10 zs_11 zs_20 zs_21 zs_22 zs_25 zs_26 zs_27 zs_29))), ((ma 50), eI D 20 (upd f rn 10))]) := by
  refine Sp.of (by decide) (Nat.le_of_ble_eq_true rfl) (fun X O T => ?_)
  refine v_eq (lv' := [(0, .ref mo), (1, .int (nI i)), (2, .int x)]) rfl rfl rfl rfl ?_
  refine v_aload_n O dX10_manWakes_0 0 rfl ?_
  refine v_bipush (v := 10) O dX10_manWakes_1 (by decide) ?_
  refine v_cV (T := TX10) (ci := 10) (As := [.int 10]) (wr := []) (st := []) O cf_X10_318 rfl (sp_X10_body (mo := mo) (ma := ma) (c := c) (c2 := c2) (tk := tk) (vc := vc) (ln := ln) (rn := rn) (zs_10 := zs_10) (zs_11 := zs_11) (zs_20 := zs_20) (zs_21 := zs_21) (zs_22 := zs_22) (zs_25 := zs_25) (zs_26 := zs_26) (zs_27 := zs_27) (zs_29 := zs_29) (f := f) (b := 10) (hn)) dX10_manWakes_3 rfl rfl 0 rfl [0, 1] [] (by decide) rfl rfl (by decide) (by decide) (by decide) (Nat.le_of_ble_eq_true rfl) (by decide) (by decide) (fun r_2 w_3 h_1 => ?_)
  obtain ⟨rfl, rfl⟩ := h_1
  refine v_eq (st' := []) (ws' := [(mo, .inr (10, M1R ma (mZ c c2 tk vc ln (rn + 1) zs_10 zs_11 zs_20 zs_21 zs_22 zs_25 zs_26 zs_27 zs_29))), ((ma 50), eI D 20 (upd f rn 10))]) rfl rfl rfl rfl ?_
  refine v_iload_n O dX10_manWakes_6 2 rfl ?_
  refine v_iload_n O dX10_manWakes_7 1 rfl ?_
  refine v_iadd O dX10_manWakes_8 ?_
  exact v_ireturn O T rfl rfl (by decide) (by decide) dX10_manWakes_9 (⟨rfl, rfl⟩)
set_option maxRecDepth 100000 in
set_option maxHeartbeats 4000000 in
theorem sp_X10_wakesAct {D : G} {mo : Nat} {ma : Nat → Nat} {c : CS} {c2 : CS} {tk : Int32} {vc : Nat} {ln : Nat} {rn : Nat} {zs_10 : Int32} {zs_11 : Int32} {zs_20 : Int32} {zs_21 : Int32} {zs_22 : Int32} {zs_25 : Int32} {zs_26 : Int32} {zs_27 : Int32} {zs_29 : Int32} {f : Nat → Int32} {i : Nat} {x : Int32} (hi : i < 6) (hk : c.kk i < 7) (hn : rn + 2 ≤ 20) : Sp D mX10_wakesAct 2 0 0 [.ref mo, .int (nI i), .int x] [(mo, .inr (10, M1R ma (mZ c c2 tk vc ln rn zs_10 zs_11 zs_20 zs_21 zs_22 zs_25 zs_26 zs_27 zs_29))), ((ma 4), eI D 6 (nF c.kk)), ((ma 5), eI D 6 (nF c.vv)), ((ma 50), eI D 20 f)] (fun r w => r = some (.int (wV (nI i) (nI (c.vv i)) x (c.kk i))) ∧ w = [(mo, .inr (10, M1R ma (mZ c c2 tk vc ln (rn + (wL (c.kk i)).length) zs_10 zs_11 zs_20 zs_21 zs_22 zs_25 zs_26 zs_27 zs_29))), ((ma 4), eI D 6 (nF c.kk)), ((ma 5), eI D 6 (nF c.vv)), ((ma 50), eI D 20 (trW f rn (wL (c.kk i))))]) := by
  refine Sp.of (by decide) (Nat.le_of_ble_eq_true rfl) (fun X O T => ?_)
  refine v_eq (lv' := [(0, .ref mo), (1, .int (nI i)), (2, .int x)]) rfl rfl rfl rfl ?_
  refine v_aload_n O dX10_wakesAct_0 0 rfl ?_
  refine gf_X10_22 (v := .ref (ma 4)) O rfl dX10_wakesAct_1 0 rfl rfl ?_
  refine v_iload_n O dX10_wakesAct_4 1 rfl ?_
  refine v_ialdk O dX10_wakesAct_5 1 rfl i rfl (by omega) (by decide) ?_
  refine v_top (y := nI (c.kk i)) rfl ?_
  by_cases s_1 : nI (c.kk i) = 2
  · skip
    refine v_top s_1 ?_
    refine v_tsIn (off := 34) O 40 dX10_wakesAct_6 (by decide) (by decide) (by decide) (by decide) ?_
    have z_k := (c_eq (x := nI (c.kk i)) (y := 2) (a := c.kk i) (b := 2) rfl rfl (by omega) (by omega)).mp s_1
    refine v_aload_n O dX10_wakesAct_40 0 rfl ?_
    refine v_bipush (v := 30) O dX10_wakesAct_41 (by decide) ?_
    refine v_cV (T := TX10) (ci := 10) (As := [.int 30]) (wr := [((ma 4), eI D 6 (nF c.kk)), ((ma 5), eI D 6 (nF c.vv))]) (st := []) O cf_X10_318 rfl (sp_X10_body (mo := mo) (ma := ma) (c := c) (c2 := c2) (tk := tk) (vc := vc) (ln := ln) (rn := rn) (zs_10 := zs_10) (zs_11 := zs_11) (zs_20 := zs_20) (zs_21 := zs_21) (zs_22 := zs_22) (zs_25 := zs_25) (zs_26 := zs_26) (zs_27 := zs_27) (zs_29 := zs_29) (f := f) (b := 30) (by omega)) dX10_wakesAct_43 rfl rfl 0 rfl [0, 3] [1, 2] (by decide) rfl rfl (by decide) (by decide) (by decide) (Nat.le_of_ble_eq_true rfl) (by decide) (by decide) (fun r_3 w_4 h_2 => ?_)
    obtain ⟨rfl, rfl⟩ := h_2
    refine v_eq (st' := []) (ws' := [((ma 4), eI D 6 (nF c.kk)), ((ma 5), eI D 6 (nF c.vv)), (mo, .inr (10, M1R ma (mZ c c2 tk vc ln (rn + 1) zs_10 zs_11 zs_20 zs_21 zs_22 zs_25 zs_26 zs_27 zs_29))), ((ma 50), eI D 20 (upd f rn 30))]) rfl rfl rfl rfl ?_
    refine v_aload_n O dX10_wakesAct_46 0 rfl ?_
    refine v_iload_n O dX10_wakesAct_47 1 rfl ?_
    refine v_iload_n O dX10_wakesAct_48 2 rfl ?_
    refine v_iconst (v := 3) O dX10_wakesAct_49 (by decide) ?_
    refine v_imul O dX10_wakesAct_50 ?_
    refine v_cV (T := TX10) (ci := 10) (As := [.int (nI i), .int (x * 3)]) (wr := [((ma 4), eI D 6 (nF c.kk)), ((ma 5), eI D 6 (nF c.vv))]) (st := []) O cf_X10_321 rfl (sp_X10_manWakes (mo := mo) (ma := ma) (c := c) (c2 := c2) (tk := tk) (vc := vc) (ln := ln) (rn := (rn + 1)) (zs_10 := zs_10) (zs_11 := zs_11) (zs_20 := zs_20) (zs_21 := zs_21) (zs_22 := zs_22) (zs_25 := zs_25) (zs_26 := zs_26) (zs_27 := zs_27) (zs_29 := zs_29) (f := (upd f rn 30)) (i := i) (x := (x * 3)) (by omega)) dX10_wakesAct_51 rfl rfl 2 rfl [2, 3] [0, 1] (by decide) rfl rfl (by decide) (by decide) (by decide) (Nat.le_of_ble_eq_true rfl) (by decide) (by decide) (fun r_6 w_7 h_5 => ?_)
    obtain ⟨rfl, rfl⟩ := h_5
    refine v_eq (st' := [.int ((x * 3) + nI i)]) (ws' := [((ma 4), eI D 6 (nF c.kk)), ((ma 5), eI D 6 (nF c.vv)), (mo, .inr (10, M1R ma (mZ c c2 tk vc ln ((rn + 1) + 1) zs_10 zs_11 zs_20 zs_21 zs_22 zs_25 zs_26 zs_27 zs_29))), ((ma 50), eI D 20 (upd (upd f rn 30) (rn + 1) 10))]) rfl rfl rfl rfl ?_
    refine v_sub (ws' := [(mo, .inr (10, M1R ma (mZ c c2 tk vc ln ((rn + 1) + 1) zs_10 zs_11 zs_20 zs_21 zs_22 zs_25 zs_26 zs_27 zs_29))), ((ma 4), eI D 6 (nF c.kk)), ((ma 5), eI D 6 (nF c.vv)), ((ma 50), eI D 20 (upd (upd f rn 30) (rn + 1) 10))]) [2, 0, 1, 3] (by decide) rfl ?_
    exact v_ireturn O T rfl rfl (by decide) (by decide) dX10_wakesAct_54 (⟨by rw [z_k]; rfl, by rw [z_k]; rfl⟩)
  by_cases s_8 : nI (c.kk i) = 3
  · skip
    refine v_top s_8 ?_
    refine v_tsIn (off := 83) O 89 dX10_wakesAct_6 (by decide) (by decide) (by decide) (by decide) ?_
    have z_k := (c_eq (x := nI (c.kk i)) (y := 3) (a := c.kk i) (b := 3) rfl rfl (by omega) (by omega)).mp s_8
    refine v_aload_n O dX10_wakesAct_89 0 rfl ?_
    refine v_iload_n O dX10_wakesAct_90 1 rfl ?_
    refine v_iload_n O dX10_wakesAct_91 2 rfl ?_
    refine v_cV (T := TX10) (ci := 10) (As := [.int (nI i), .int x]) (wr := [((ma 4), eI D 6 (nF c.kk)), ((ma 5), eI D 6 (nF c.vv))]) (st := []) O cf_X10_321 rfl (sp_X10_manWakes (mo := mo) (ma := ma) (c := c) (c2 := c2) (tk := tk) (vc := vc) (ln := ln) (rn := rn) (zs_10 := zs_10) (zs_11 := zs_11) (zs_20 := zs_20) (zs_21 := zs_21) (zs_22 := zs_22) (zs_25 := zs_25) (zs_26 := zs_26) (zs_27 := zs_27) (zs_29 := zs_29) (f := f) (i := i) (x := x) (by omega)) dX10_wakesAct_92 rfl rfl 0 rfl [0, 3] [1, 2] (by decide) rfl rfl (by decide) (by decide) (by decide) (Nat.le_of_ble_eq_true rfl) (by decide) (by decide) (fun r_10 w_11 h_9 => ?_)
    obtain ⟨rfl, rfl⟩ := h_9
    refine v_eq (st' := [.int (x + nI i)]) (ws' := [((ma 4), eI D 6 (nF c.kk)), ((ma 5), eI D 6 (nF c.vv)), (mo, .inr (10, M1R ma (mZ c c2 tk vc ln (rn + 1) zs_10 zs_11 zs_20 zs_21 zs_22 zs_25 zs_26 zs_27 zs_29))), ((ma 50), eI D 20 (upd f rn 10))]) rfl rfl rfl rfl ?_
    refine v_sub (ws' := [(mo, .inr (10, M1R ma (mZ c c2 tk vc ln (rn + 1) zs_10 zs_11 zs_20 zs_21 zs_22 zs_25 zs_26 zs_27 zs_29))), ((ma 4), eI D 6 (nF c.kk)), ((ma 5), eI D 6 (nF c.vv)), ((ma 50), eI D 20 (upd f rn 10))]) [2, 0, 1, 3] (by decide) rfl ?_
    exact v_ireturn O T rfl rfl (by decide) (by decide) dX10_wakesAct_95 (⟨by rw [z_k]; rfl, by rw [z_k]; rfl⟩)
  by_cases s_12 : nI (c.kk i) = 4
  · skip
    refine v_top s_12 ?_
    refine v_tsIn (off := 49) O 55 dX10_wakesAct_6 (by decide) (by decide) (by decide) (by decide) ?_
    have z_k := (c_eq (x := nI (c.kk i)) (y := 4) (a := c.kk i) (b := 4) rfl rfl (by omega) (by omega)).mp s_12
    refine v_aload_n O dX10_wakesAct_55 0 rfl ?_
    refine v_bipush (v := 50) O dX10_wakesAct_56 (by decide) ?_
    refine v_cV (T := TX10) (ci := 10) (As := [.int 50]) (wr := [((ma 4), eI D 6 (nF c.kk)), ((ma 5), eI D 6 (nF c.vv))]) (st := []) O cf_X10_318 rfl (sp_X10_body (mo := mo) (ma := ma) (c := c) (c2 := c2) (tk := tk) (vc := vc) (ln := ln) (rn := rn) (zs_10 := zs_10) (zs_11 := zs_11) (zs_20 := zs_20) (zs_21 := zs_21) (zs_22 := zs_22) (zs_25 := zs_25) (zs_26 := zs_26) (zs_27 := zs_27) (zs_29 := zs_29) (f := f) (b := 50) (by omega)) dX10_wakesAct_58 rfl rfl 0 rfl [0, 3] [1, 2] (by decide) rfl rfl (by decide) (by decide) (by decide) (Nat.le_of_ble_eq_true rfl) (by decide) (by decide) (fun r_14 w_15 h_13 => ?_)
    obtain ⟨rfl, rfl⟩ := h_13
    refine v_eq (st' := []) (ws' := [((ma 4), eI D 6 (nF c.kk)), ((ma 5), eI D 6 (nF c.vv)), (mo, .inr (10, M1R ma (mZ c c2 tk vc ln (rn + 1) zs_10 zs_11 zs_20 zs_21 zs_22 zs_25 zs_26 zs_27 zs_29))), ((ma 50), eI D 20 (upd f rn 50))]) rfl rfl rfl rfl ?_
    refine v_aload_n O dX10_wakesAct_61 0 rfl ?_
    refine v_iload_n O dX10_wakesAct_62 1 rfl ?_
    refine v_iload_n O dX10_wakesAct_63 2 rfl ?_
    refine v_cV (T := TX10) (ci := 10) (As := [.int (nI i), .int x]) (wr := [((ma 4), eI D 6 (nF c.kk)), ((ma 5), eI D 6 (nF c.vv))]) (st := []) O cf_X10_321 rfl (sp_X10_manWakes (mo := mo) (ma := ma) (c := c) (c2 := c2) (tk := tk) (vc := vc) (ln := ln) (rn := (rn + 1)) (zs_10 := zs_10) (zs_11 := zs_11) (zs_20 := zs_20) (zs_21 := zs_21) (zs_22 := zs_22) (zs_25 := zs_25) (zs_26 := zs_26) (zs_27 := zs_27) (zs_29 := zs_29) (f := (upd f rn 50)) (i := i) (x := x) (by omega)) dX10_wakesAct_64 rfl rfl 2 rfl [2, 3] [0, 1] (by decide) rfl rfl (by decide) (by decide) (by decide) (Nat.le_of_ble_eq_true rfl) (by decide) (by decide) (fun r_17 w_18 h_16 => ?_)
    obtain ⟨rfl, rfl⟩ := h_16
    refine v_eq (st' := [.int (x + nI i)]) (ws' := [((ma 4), eI D 6 (nF c.kk)), ((ma 5), eI D 6 (nF c.vv)), (mo, .inr (10, M1R ma (mZ c c2 tk vc ln ((rn + 1) + 1) zs_10 zs_11 zs_20 zs_21 zs_22 zs_25 zs_26 zs_27 zs_29))), ((ma 50), eI D 20 (upd (upd f rn 50) (rn + 1) 10))]) rfl rfl rfl rfl ?_
    refine v_ineg O dX10_wakesAct_67 ?_
    refine v_sub (ws' := [(mo, .inr (10, M1R ma (mZ c c2 tk vc ln ((rn + 1) + 1) zs_10 zs_11 zs_20 zs_21 zs_22 zs_25 zs_26 zs_27 zs_29))), ((ma 4), eI D 6 (nF c.kk)), ((ma 5), eI D 6 (nF c.vv)), ((ma 50), eI D 20 (upd (upd f rn 50) (rn + 1) 10))]) [2, 0, 1, 3] (by decide) rfl ?_
    exact v_ireturn O T rfl rfl (by decide) (by decide) dX10_wakesAct_68 (⟨by rw [z_k]; rfl, by rw [z_k]; rfl⟩)
  by_cases s_19 : nI (c.kk i) = 5
  · skip
    refine v_top s_19 ?_
    refine v_tsIn (off := 34) O 40 dX10_wakesAct_6 (by decide) (by decide) (by decide) (by decide) ?_
    have z_k := (c_eq (x := nI (c.kk i)) (y := 5) (a := c.kk i) (b := 5) rfl rfl (by omega) (by omega)).mp s_19
    refine v_aload_n O dX10_wakesAct_40 0 rfl ?_
    refine v_bipush (v := 30) O dX10_wakesAct_41 (by decide) ?_
    refine v_cV (T := TX10) (ci := 10) (As := [.int 30]) (wr := [((ma 4), eI D 6 (nF c.kk)), ((ma 5), eI D 6 (nF c.vv))]) (st := []) O cf_X10_318 rfl (sp_X10_body (mo := mo) (ma := ma) (c := c) (c2 := c2) (tk := tk) (vc := vc) (ln := ln) (rn := rn) (zs_10 := zs_10) (zs_11 := zs_11) (zs_20 := zs_20) (zs_21 := zs_21) (zs_22 := zs_22) (zs_25 := zs_25) (zs_26 := zs_26) (zs_27 := zs_27) (zs_29 := zs_29) (f := f) (b := 30) (by omega)) dX10_wakesAct_43 rfl rfl 0 rfl [0, 3] [1, 2] (by decide) rfl rfl (by decide) (by decide) (by decide) (Nat.le_of_ble_eq_true rfl) (by decide) (by decide) (fun r_21 w_22 h_20 => ?_)
    obtain ⟨rfl, rfl⟩ := h_20
    refine v_eq (st' := []) (ws' := [((ma 4), eI D 6 (nF c.kk)), ((ma 5), eI D 6 (nF c.vv)), (mo, .inr (10, M1R ma (mZ c c2 tk vc ln (rn + 1) zs_10 zs_11 zs_20 zs_21 zs_22 zs_25 zs_26 zs_27 zs_29))), ((ma 50), eI D 20 (upd f rn 30))]) rfl rfl rfl rfl ?_
    refine v_aload_n O dX10_wakesAct_46 0 rfl ?_
    refine v_iload_n O dX10_wakesAct_47 1 rfl ?_
    refine v_iload_n O dX10_wakesAct_48 2 rfl ?_
    refine v_iconst (v := 3) O dX10_wakesAct_49 (by decide) ?_
    refine v_imul O dX10_wakesAct_50 ?_
    refine v_cV (T := TX10) (ci := 10) (As := [.int (nI i), .int (x * 3)]) (wr := [((ma 4), eI D 6 (nF c.kk)), ((ma 5), eI D 6 (nF c.vv))]) (st := []) O cf_X10_321 rfl (sp_X10_manWakes (mo := mo) (ma := ma) (c := c) (c2 := c2) (tk := tk) (vc := vc) (ln := ln) (rn := (rn + 1)) (zs_10 := zs_10) (zs_11 := zs_11) (zs_20 := zs_20) (zs_21 := zs_21) (zs_22 := zs_22) (zs_25 := zs_25) (zs_26 := zs_26) (zs_27 := zs_27) (zs_29 := zs_29) (f := (upd f rn 30)) (i := i) (x := (x * 3)) (by omega)) dX10_wakesAct_51 rfl rfl 2 rfl [2, 3] [0, 1] (by decide) rfl rfl (by decide) (by decide) (by decide) (Nat.le_of_ble_eq_true rfl) (by decide) (by decide) (fun r_24 w_25 h_23 => ?_)
    obtain ⟨rfl, rfl⟩ := h_23
    refine v_eq (st' := [.int ((x * 3) + nI i)]) (ws' := [((ma 4), eI D 6 (nF c.kk)), ((ma 5), eI D 6 (nF c.vv)), (mo, .inr (10, M1R ma (mZ c c2 tk vc ln ((rn + 1) + 1) zs_10 zs_11 zs_20 zs_21 zs_22 zs_25 zs_26 zs_27 zs_29))), ((ma 50), eI D 20 (upd (upd f rn 30) (rn + 1) 10))]) rfl rfl rfl rfl ?_
    refine v_sub (ws' := [(mo, .inr (10, M1R ma (mZ c c2 tk vc ln ((rn + 1) + 1) zs_10 zs_11 zs_20 zs_21 zs_22 zs_25 zs_26 zs_27 zs_29))), ((ma 4), eI D 6 (nF c.kk)), ((ma 5), eI D 6 (nF c.vv)), ((ma 50), eI D 20 (upd (upd f rn 30) (rn + 1) 10))]) [2, 0, 1, 3] (by decide) rfl ?_
    exact v_ireturn O T rfl rfl (by decide) (by decide) dX10_wakesAct_54 (⟨by rw [z_k]; rfl, by rw [z_k]; rfl⟩)
  by_cases s_26 : nI (c.kk i) = 6
  · skip
    refine v_top s_26 ?_
    refine v_tsIn (off := 63) O 69 dX10_wakesAct_6 (by decide) (by decide) (by decide) (by decide) ?_
    have z_k := (c_eq (x := nI (c.kk i)) (y := 6) (a := c.kk i) (b := 6) rfl rfl (by omega) (by omega)).mp s_26
    refine v_aload_n O dX10_wakesAct_69 0 rfl ?_
    refine v_bipush (v := 71) O dX10_wakesAct_70 (by decide) ?_
    refine v_cV (T := TX10) (ci := 10) (As := [.int 71]) (wr := [((ma 4), eI D 6 (nF c.kk)), ((ma 5), eI D 6 (nF c.vv))]) (st := []) O cf_X10_318 rfl (sp_X10_body (mo := mo) (ma := ma) (c := c) (c2 := c2) (tk := tk) (vc := vc) (ln := ln) (rn := rn) (zs_10 := zs_10) (zs_11 := zs_11) (zs_20 := zs_20) (zs_21 := zs_21) (zs_22 := zs_22) (zs_25 := zs_25) (zs_26 := zs_26) (zs_27 := zs_27) (zs_29 := zs_29) (f := f) (b := 71) (by omega)) dX10_wakesAct_72 rfl rfl 0 rfl [0, 3] [1, 2] (by decide) rfl rfl (by decide) (by decide) (by decide) (Nat.le_of_ble_eq_true rfl) (by decide) (by decide) (fun r_28 w_29 h_27 => ?_)
    obtain ⟨rfl, rfl⟩ := h_27
    refine v_eq (st' := []) (ws' := [((ma 4), eI D 6 (nF c.kk)), ((ma 5), eI D 6 (nF c.vv)), (mo, .inr (10, M1R ma (mZ c c2 tk vc ln (rn + 1) zs_10 zs_11 zs_20 zs_21 zs_22 zs_25 zs_26 zs_27 zs_29))), ((ma 50), eI D 20 (upd f rn 71))]) rfl rfl rfl rfl ?_
    refine v_aload_n O dX10_wakesAct_75 0 rfl ?_
    refine v_iload_n O dX10_wakesAct_76 1 rfl ?_
    refine v_iload_n O dX10_wakesAct_77 2 rfl ?_
    refine v_cV (T := TX10) (ci := 10) (As := [.int (nI i), .int x]) (wr := [((ma 4), eI D 6 (nF c.kk)), ((ma 5), eI D 6 (nF c.vv))]) (st := []) O cf_X10_321 rfl (sp_X10_manWakes (mo := mo) (ma := ma) (c := c) (c2 := c2) (tk := tk) (vc := vc) (ln := ln) (rn := (rn + 1)) (zs_10 := zs_10) (zs_11 := zs_11) (zs_20 := zs_20) (zs_21 := zs_21) (zs_22 := zs_22) (zs_25 := zs_25) (zs_26 := zs_26) (zs_27 := zs_27) (zs_29 := zs_29) (f := (upd f rn 71)) (i := i) (x := x) (by omega)) dX10_wakesAct_78 rfl rfl 2 rfl [2, 3] [0, 1] (by decide) rfl rfl (by decide) (by decide) (by decide) (Nat.le_of_ble_eq_true rfl) (by decide) (by decide) (fun r_31 w_32 h_30 => ?_)
    obtain ⟨rfl, rfl⟩ := h_30
    refine v_eq (st' := [.int (x + nI i)]) (ws' := [((ma 4), eI D 6 (nF c.kk)), ((ma 5), eI D 6 (nF c.vv)), (mo, .inr (10, M1R ma (mZ c c2 tk vc ln ((rn + 1) + 1) zs_10 zs_11 zs_20 zs_21 zs_22 zs_25 zs_26 zs_27 zs_29))), ((ma 50), eI D 20 (upd (upd f rn 71) (rn + 1) 10))]) rfl rfl rfl rfl ?_
    refine v_aload_n O dX10_wakesAct_81 0 rfl ?_
    refine gf_X10_26 (v := .ref (ma 5)) O rfl dX10_wakesAct_82 2 rfl rfl ?_
    refine v_iload_n O dX10_wakesAct_85 1 rfl ?_
    refine v_ialdk O dX10_wakesAct_86 1 rfl i rfl (by omega) (by decide) ?_
    refine v_top (y := nI (c.vv i)) rfl ?_
    refine v_ixor O dX10_wakesAct_87 ?_
    refine v_sub (ws' := [(mo, .inr (10, M1R ma (mZ c c2 tk vc ln ((rn + 1) + 1) zs_10 zs_11 zs_20 zs_21 zs_22 zs_25 zs_26 zs_27 zs_29))), ((ma 4), eI D 6 (nF c.kk)), ((ma 5), eI D 6 (nF c.vv)), ((ma 50), eI D 20 (upd (upd f rn 71) (rn + 1) 10))]) [2, 0, 1, 3] (by decide) rfl ?_
    exact v_ireturn O T rfl rfl (by decide) (by decide) dX10_wakesAct_88 (⟨by rw [z_k]; rfl, by rw [z_k]; rfl⟩)
  refine v_tsOut O 89 dX10_wakesAct_6 (ts_out (by decide) (by decide) (fun v h1 h2 => by rcases (show v = 2 ∨ v = 3 ∨ v = 4 ∨ v = 5 ∨ v = 6 by omega) with rfl | rfl | rfl | rfl | rfl <;> assumption)) (by decide) ?_
  have z_n2 := (not_congr (c_eq (x := nI (c.kk i)) (y := 2) (a := c.kk i) (b := 2) rfl rfl (by omega) (by omega))).mp s_1
  have z_n3 := (not_congr (c_eq (x := nI (c.kk i)) (y := 3) (a := c.kk i) (b := 3) rfl rfl (by omega) (by omega))).mp s_8
  have z_n4 := (not_congr (c_eq (x := nI (c.kk i)) (y := 4) (a := c.kk i) (b := 4) rfl rfl (by omega) (by omega))).mp s_12
  have z_n5 := (not_congr (c_eq (x := nI (c.kk i)) (y := 5) (a := c.kk i) (b := 5) rfl rfl (by omega) (by omega))).mp s_19
  have z_n6 := (not_congr (c_eq (x := nI (c.kk i)) (y := 6) (a := c.kk i) (b := 6) rfl rfl (by omega) (by omega))).mp s_26
  refine v_aload_n O dX10_wakesAct_89 0 rfl ?_
  refine v_iload_n O dX10_wakesAct_90 1 rfl ?_
  refine v_iload_n O dX10_wakesAct_91 2 rfl ?_
  refine v_cV (T := TX10) (ci := 10) (As := [.int (nI i), .int x]) (wr := [((ma 4), eI D 6 (nF c.kk)), ((ma 5), eI D 6 (nF c.vv))]) (st := []) O cf_X10_321 rfl (sp_X10_manWakes (mo := mo) (ma := ma) (c := c) (c2 := c2) (tk := tk) (vc := vc) (ln := ln) (rn := rn) (zs_10 := zs_10) (zs_11 := zs_11) (zs_20 := zs_20) (zs_21 := zs_21) (zs_22 := zs_22) (zs_25 := zs_25) (zs_26 := zs_26) (zs_27 := zs_27) (zs_29 := zs_29) (f := f) (i := i) (x := x) (by omega)) dX10_wakesAct_92 rfl rfl 0 rfl [0, 3] [1, 2] (by decide) rfl rfl (by decide) (by decide) (by decide) (Nat.le_of_ble_eq_true rfl) (by decide) (by decide) (fun r_34 w_35 h_33 => ?_)
  obtain ⟨rfl, rfl⟩ := h_33
  refine v_eq (st' := [.int (x + nI i)]) (ws' := [((ma 4), eI D 6 (nF c.kk)), ((ma 5), eI D 6 (nF c.vv)), (mo, .inr (10, M1R ma (mZ c c2 tk vc ln (rn + 1) zs_10 zs_11 zs_20 zs_21 zs_22 zs_25 zs_26 zs_27 zs_29))), ((ma 50), eI D 20 (upd f rn 10))]) rfl rfl rfl rfl ?_
  refine v_sub (ws' := [(mo, .inr (10, M1R ma (mZ c c2 tk vc ln (rn + 1) zs_10 zs_11 zs_20 zs_21 zs_22 zs_25 zs_26 zs_27 zs_29))), ((ma 4), eI D 6 (nF c.kk)), ((ma 5), eI D 6 (nF c.vv)), ((ma 50), eI D 20 (upd f rn 10))]) [2, 0, 1, 3] (by decide) rfl ?_
  exact v_ireturn O T rfl rfl (by decide) (by decide) dX10_wakesAct_95 (⟨by rcases (show c.kk i = 0 ∨ c.kk i = 1 by omega) with z | z <;> rw [z] <;> rfl, by rcases (show c.kk i = 0 ∨ c.kk i = 1 by omega) with z | z <;> rw [z] <;> rfl⟩)
set_option maxRecDepth 100000 in
set_option maxHeartbeats 4000000 in
theorem sp_X10_manHides {D : G} {mo : Nat} {ma : Nat → Nat} {c : CS} {c2 : CS} {tk : Int32} {vc : Nat} {ln : Nat} {rn : Nat} {zs_10 : Int32} {zs_11 : Int32} {zs_20 : Int32} {zs_21 : Int32} {zs_22 : Int32} {zs_25 : Int32} {zs_26 : Int32} {zs_27 : Int32} {zs_29 : Int32} {f : Nat → Int32} {i : Nat} {x : Int32} (hi : i < 6) (hk : c.kk i < 7) (hn : rn + 3 ≤ 20) : Sp D mX10_manHides 3 0 0 [.ref mo, .int (nI i), .int x] [(mo, .inr (10, M1R ma (mZ c c2 tk vc ln rn zs_10 zs_11 zs_20 zs_21 zs_22 zs_25 zs_26 zs_27 zs_29))), ((ma 4), eI D 6 (nF c.kk)), ((ma 5), eI D 6 (nF c.vv)), ((ma 50), eI D 20 f)] (fun r w => r = some (.int ((wV (nI i) (nI (c.vv i)) x (c.kk i)) - nI (c.vv i))) ∧ w = [(mo, .inr (10, M1R ma (mZ c c2 tk vc ln (rn + (11 :: (wL (c.kk i))).length) zs_10 zs_11 zs_20 zs_21 zs_22 zs_25 zs_26 zs_27 zs_29))), ((ma 4), eI D 6 (nF c.kk)), ((ma 5), eI D 6 (nF c.vv)), ((ma 50), eI D 20 (trW f rn (11 :: (wL (c.kk i)))))]) := by
  refine Sp.of (by decide) (Nat.le_of_ble_eq_true rfl) (fun X O T => ?_)
  refine v_eq (lv' := [(0, .ref mo), (1, .int (nI i)), (2, .int x)]) rfl rfl rfl rfl ?_
  refine v_aload_n O dX10_manHides_0 0 rfl ?_
  refine v_bipush (v := 11) O dX10_manHides_1 (by decide) ?_
  refine v_cV (T := TX10) (ci := 10) (As := [.int 11]) (wr := [((ma 4), eI D 6 (nF c.kk)), ((ma 5), eI D 6 (nF c.vv))]) (st := []) O cf_X10_318 rfl (sp_X10_body (mo := mo) (ma := ma) (c := c) (c2 := c2) (tk := tk) (vc := vc) (ln := ln) (rn := rn) (zs_10 := zs_10) (zs_11 := zs_11) (zs_20 := zs_20) (zs_21 := zs_21) (zs_22 := zs_22) (zs_25 := zs_25) (zs_26 := zs_26) (zs_27 := zs_27) (zs_29 := zs_29) (f := f) (b := 11) (by omega)) dX10_manHides_3 rfl rfl 0 rfl [0, 3] [1, 2] (by decide) rfl rfl (by decide) (by decide) (by decide) (Nat.le_of_ble_eq_true rfl) (by decide) (by decide) (fun r_2 w_3 h_1 => ?_)
  obtain ⟨rfl, rfl⟩ := h_1
  refine v_eq (st' := []) (ws' := [((ma 4), eI D 6 (nF c.kk)), ((ma 5), eI D 6 (nF c.vv)), (mo, .inr (10, M1R ma (mZ c c2 tk vc ln (rn + 1) zs_10 zs_11 zs_20 zs_21 zs_22 zs_25 zs_26 zs_27 zs_29))), ((ma 50), eI D 20 (upd f rn 11))]) rfl rfl rfl rfl ?_
  refine v_aload_n O dX10_manHides_6 0 rfl ?_
  refine v_iload_n O dX10_manHides_7 1 rfl ?_
  refine v_iload_n O dX10_manHides_8 2 rfl ?_
  refine v_cV (T := TX10) (ci := 10) (As := [.int (nI i), .int x]) (wr := []) (st := []) O cf_X10_324 rfl (sp_X10_wakesAct (mo := mo) (ma := ma) (c := c) (c2 := c2) (tk := tk) (vc := vc) (ln := ln) (rn := (rn + 1)) (zs_10 := zs_10) (zs_11 := zs_11) (zs_20 := zs_20) (zs_21 := zs_21) (zs_22 := zs_22) (zs_25 := zs_25) (zs_26 := zs_26) (zs_27 := zs_27) (zs_29 := zs_29) (f := (upd f rn 11)) (i := i) (x := x) (hi) (hk) (by omega)) dX10_manHides_9 rfl rfl 2 rfl [2, 0, 1, 3] [] (by decide) rfl rfl (by decide) (by decide) (by decide) (Nat.le_of_ble_eq_true rfl) (by decide) (by decide) (fun r_5 w_6 h_4 => ?_)
  obtain ⟨rfl, rfl⟩ := h_4
  refine v_eq (st' := [.int (wV (nI i) (nI (c.vv i)) x (c.kk i))]) (ws' := [(mo, .inr (10, M1R ma (mZ c c2 tk vc ln ((rn + 1) + (wL (c.kk i)).length) zs_10 zs_11 zs_20 zs_21 zs_22 zs_25 zs_26 zs_27 zs_29))), ((ma 4), eI D 6 (nF c.kk)), ((ma 5), eI D 6 (nF c.vv)), ((ma 50), eI D 20 (trW (upd f rn 11) (rn + 1) (wL (c.kk i))))]) rfl rfl rfl rfl ?_
  refine v_aload_n O dX10_manHides_12 0 rfl ?_
  refine gf_X10_26 (v := .ref (ma 5)) O rfl dX10_manHides_13 0 rfl rfl ?_
  refine v_iload_n O dX10_manHides_16 1 rfl ?_
  refine v_ialdk O dX10_manHides_17 2 rfl i rfl (by omega) (by decide) ?_
  refine v_top (y := nI (c.vv i)) rfl ?_
  refine v_isub O dX10_manHides_18 ?_
  exact v_ireturn O T rfl rfl (by decide) (by decide) dX10_manHides_19 (⟨rfl, by rw [len_c]; rfl⟩)
set_option maxRecDepth 100000 in
set_option maxHeartbeats 4000000 in
theorem sp_X10_sharingHides {D : G} {mo : Nat} {ma : Nat → Nat} {c : CS} {c2 : CS} {tk : Int32} {vc : Nat} {ln : Nat} {rn : Nat} {zs_10 : Int32} {zs_11 : Int32} {zs_20 : Int32} {zs_21 : Int32} {zs_22 : Int32} {zs_25 : Int32} {zs_26 : Int32} {zs_27 : Int32} {zs_29 : Int32} {f : Nat → Int32} {i : Nat} {x : Int32} (hi : i < 6) (hk : c.kk i < 7) (hn : rn + 4 ≤ 20) : Sp D mX10_sharingHides 4 0 0 [.ref mo, .int (nI i), .int x] [(mo, .inr (10, M1R ma (mZ c c2 tk vc ln rn zs_10 zs_11 zs_20 zs_21 zs_22 zs_25 zs_26 zs_27 zs_29))), ((ma 4), eI D 6 (nF c.kk)), ((ma 5), eI D 6 (nF c.vv)), ((ma 50), eI D 20 f)] (fun r w => r = some (.int (((wV (nI i) (nI (c.vv i)) x (c.kk i)) - nI (c.vv i)) ^^^ 6)) ∧ w = [(mo, .inr (10, M1R ma (mZ c c2 tk vc ln (rn + (20 :: 11 :: (wL (c.kk i))).length) zs_10 zs_11 zs_20 zs_21 zs_22 zs_25 zs_26 zs_27 zs_29))), ((ma 4), eI D 6 (nF c.kk)), ((ma 5), eI D 6 (nF c.vv)), ((ma 50), eI D 20 (trW f rn (20 :: 11 :: (wL (c.kk i)))))]) := by
  refine Sp.of (by decide) (Nat.le_of_ble_eq_true rfl) (fun X O T => ?_)
  refine v_eq (lv' := [(0, .ref mo), (1, .int (nI i)), (2, .int x)]) rfl rfl rfl rfl ?_
  refine v_aload_n O dX10_sharingHides_0 0 rfl ?_
  refine v_bipush (v := 20) O dX10_sharingHides_1 (by decide) ?_
  refine v_cV (T := TX10) (ci := 10) (As := [.int 20]) (wr := [((ma 4), eI D 6 (nF c.kk)), ((ma 5), eI D 6 (nF c.vv))]) (st := []) O cf_X10_318 rfl (sp_X10_body (mo := mo) (ma := ma) (c := c) (c2 := c2) (tk := tk) (vc := vc) (ln := ln) (rn := rn) (zs_10 := zs_10) (zs_11 := zs_11) (zs_20 := zs_20) (zs_21 := zs_21) (zs_22 := zs_22) (zs_25 := zs_25) (zs_26 := zs_26) (zs_27 := zs_27) (zs_29 := zs_29) (f := f) (b := 20) (by omega)) dX10_sharingHides_3 rfl rfl 0 rfl [0, 3] [1, 2] (by decide) rfl rfl (by decide) (by decide) (by decide) (Nat.le_of_ble_eq_true rfl) (by decide) (by decide) (fun r_2 w_3 h_1 => ?_)
  obtain ⟨rfl, rfl⟩ := h_1
  refine v_eq (st' := []) (ws' := [((ma 4), eI D 6 (nF c.kk)), ((ma 5), eI D 6 (nF c.vv)), (mo, .inr (10, M1R ma (mZ c c2 tk vc ln (rn + 1) zs_10 zs_11 zs_20 zs_21 zs_22 zs_25 zs_26 zs_27 zs_29))), ((ma 50), eI D 20 (upd f rn 20))]) rfl rfl rfl rfl ?_
  refine v_aload_n O dX10_sharingHides_6 0 rfl ?_
  refine v_iload_n O dX10_sharingHides_7 1 rfl ?_
  refine v_iload_n O dX10_sharingHides_8 2 rfl ?_
  refine v_cV (T := TX10) (ci := 10) (As := [.int (nI i), .int x]) (wr := []) (st := []) O cf_X10_327 rfl (sp_X10_manHides (mo := mo) (ma := ma) (c := c) (c2 := c2) (tk := tk) (vc := vc) (ln := ln) (rn := (rn + 1)) (zs_10 := zs_10) (zs_11 := zs_11) (zs_20 := zs_20) (zs_21 := zs_21) (zs_22 := zs_22) (zs_25 := zs_25) (zs_26 := zs_26) (zs_27 := zs_27) (zs_29 := zs_29) (f := (upd f rn 20)) (i := i) (x := x) (hi) (hk) (by omega)) dX10_sharingHides_9 rfl rfl 2 rfl [2, 0, 1, 3] [] (by decide) rfl rfl (by decide) (by decide) (by decide) (Nat.le_of_ble_eq_true rfl) (by decide) (by decide) (fun r_5 w_6 h_4 => ?_)
  obtain ⟨rfl, rfl⟩ := h_4
  refine v_eq (st' := [.int ((wV (nI i) (nI (c.vv i)) x (c.kk i)) - nI (c.vv i))]) (ws' := [(mo, .inr (10, M1R ma (mZ c c2 tk vc ln ((rn + 1) + (11 :: (wL (c.kk i))).length) zs_10 zs_11 zs_20 zs_21 zs_22 zs_25 zs_26 zs_27 zs_29))), ((ma 4), eI D 6 (nF c.kk)), ((ma 5), eI D 6 (nF c.vv)), ((ma 50), eI D 20 (trW (upd f rn 20) (rn + 1) (11 :: (wL (c.kk i)))))]) rfl rfl rfl rfl ?_
  refine v_bipush (v := 6) O dX10_sharingHides_12 (by decide) ?_
  refine v_ixor O dX10_sharingHides_14 ?_
  exact v_ireturn O T rfl rfl (by decide) (by decide) dX10_sharingHides_15 (⟨rfl, by simp only [len_c]; rfl⟩)
set_option maxRecDepth 100000 in
set_option maxHeartbeats 4000000 in
theorem sp_X10_hidesAct {D : G} {mo : Nat} {ma : Nat → Nat} {c : CS} {c2 : CS} {tk : Int32} {vc : Nat} {ln : Nat} {rn : Nat} {zs_10 : Int32} {zs_11 : Int32} {zs_20 : Int32} {zs_21 : Int32} {zs_22 : Int32} {zs_25 : Int32} {zs_26 : Int32} {zs_27 : Int32} {zs_29 : Int32} {f : Nat → Int32} {i : Nat} {x : Int32} (hi : i < 6) (hk : c.kk i < 7) (hn : rn + 5 ≤ 20) : Sp D mX10_hidesAct 5 0 0 [.ref mo, .int (nI i), .int x] [(mo, .inr (10, M1R ma (mZ c c2 tk vc ln rn zs_10 zs_11 zs_20 zs_21 zs_22 zs_25 zs_26 zs_27 zs_29))), ((ma 4), eI D 6 (nF c.kk)), ((ma 5), eI D 6 (nF c.vv)), ((ma 50), eI D 20 f)] (fun r w => r = some (.int (hV (nI i) (nI (c.vv i)) (c.kk i) x (c.kk i))) ∧ w = [(mo, .inr (10, M1R ma (mZ c c2 tk vc ln (rn + (hL (c.kk i) (c.kk i)).length) zs_10 zs_11 zs_20 zs_21 zs_22 zs_25 zs_26 zs_27 zs_29))), ((ma 4), eI D 6 (nF c.kk)), ((ma 5), eI D 6 (nF c.vv)), ((ma 50), eI D 20 (trW f rn (hL (c.kk i) (c.kk i))))]) := by
  refine Sp.of (by decide) (Nat.le_of_ble_eq_true rfl) (fun X O T => ?_)
  refine v_eq (lv' := [(0, .ref mo), (1, .int (nI i)), (2, .int x)]) rfl rfl rfl rfl ?_
  have zl1 := wL_len (c.kk i) hk
  have zl2 := hL_len (c.kk i) hk (c.kk i) hk
  refine v_aload_n O dX10_hidesAct_0 0 rfl ?_
  refine gf_X10_22 (v := .ref (ma 4)) O rfl dX10_hidesAct_1 0 rfl rfl ?_
  refine v_iload_n O dX10_hidesAct_4 1 rfl ?_
  refine v_ialdk O dX10_hidesAct_5 1 rfl i rfl (by omega) (by decide) ?_
  refine v_top (y := nI (c.kk i)) rfl ?_
  by_cases s_1 : nI (c.kk i) = 1
  · skip
    refine v_top s_1 ?_
    refine v_lks (off := 34) O 40 dX10_hidesAct_6 (by decide) (by decide) (by decide) ?_
    have z_k := (c_eq (x := nI (c.kk i)) (y := 1) (a := c.kk i) (b := 1) rfl rfl (by omega) (by omega)).mp s_1
    refine v_aload_n O dX10_hidesAct_40 0 rfl ?_
    refine v_iload_n O dX10_hidesAct_41 1 rfl ?_
    refine v_iload_n O dX10_hidesAct_42 2 rfl ?_
    refine v_cV (T := TX10) (ci := 10) (As := [.int (nI i), .int x]) (wr := []) (st := []) O cf_X10_330 rfl (sp_X10_sharingHides (mo := mo) (ma := ma) (c := c) (c2 := c2) (tk := tk) (vc := vc) (ln := ln) (rn := rn) (zs_10 := zs_10) (zs_11 := zs_11) (zs_20 := zs_20) (zs_21 := zs_21) (zs_22 := zs_22) (zs_25 := zs_25) (zs_26 := zs_26) (zs_27 := zs_27) (zs_29 := zs_29) (f := f) (i := i) (x := x) (hi) (hk) (by omega)) dX10_hidesAct_43 rfl rfl 0 rfl [0, 1, 2, 3] [] (by decide) rfl rfl (by decide) (by decide) (by decide) (Nat.le_of_ble_eq_true rfl) (by decide) (by decide) (fun r_3 w_4 h_2 => ?_)
    obtain ⟨rfl, rfl⟩ := h_2
    refine v_eq (st' := [.int (((wV (nI i) (nI (c.vv i)) x (c.kk i)) - nI (c.vv i)) ^^^ 6)]) (ws' := [(mo, .inr (10, M1R ma (mZ c c2 tk vc ln (rn + (20 :: 11 :: (wL (c.kk i))).length) zs_10 zs_11 zs_20 zs_21 zs_22 zs_25 zs_26 zs_27 zs_29))), ((ma 4), eI D 6 (nF c.kk)), ((ma 5), eI D 6 (nF c.vv)), ((ma 50), eI D 20 (trW f rn (20 :: 11 :: (wL (c.kk i)))))]) rfl rfl rfl rfl ?_
    exact v_ireturn O T rfl rfl (by decide) (by decide) dX10_hidesAct_46 (⟨by rw [z_k]; rfl, by rw [z_k]; rfl⟩)
  by_cases s_5 : nI (c.kk i) = 4
  · skip
    refine v_top s_5 ?_
    refine v_lks (off := 41) O 47 dX10_hidesAct_6 (by decide) (by decide) (by decide) ?_
    have z_k := (c_eq (x := nI (c.kk i)) (y := 4) (a := c.kk i) (b := 4) rfl rfl (by omega) (by omega)).mp s_5
    refine v_aload_n O dX10_hidesAct_47 0 rfl ?_
    refine v_bipush (v := 51) O dX10_hidesAct_48 (by decide) ?_
    refine v_cV (T := TX10) (ci := 10) (As := [.int 51]) (wr := [((ma 4), eI D 6 (nF c.kk)), ((ma 5), eI D 6 (nF c.vv))]) (st := []) O cf_X10_318 rfl (sp_X10_body (mo := mo) (ma := ma) (c := c) (c2 := c2) (tk := tk) (vc := vc) (ln := ln) (rn := rn) (zs_10 := zs_10) (zs_11 := zs_11) (zs_20 := zs_20) (zs_21 := zs_21) (zs_22 := zs_22) (zs_25 := zs_25) (zs_26 := zs_26) (zs_27 := zs_27) (zs_29 := zs_29) (f := f) (b := 51) (by omega)) dX10_hidesAct_50 rfl rfl 0 rfl [0, 3] [1, 2] (by decide) rfl rfl (by decide) (by decide) (by decide) (Nat.le_of_ble_eq_true rfl) (by decide) (by decide) (fun r_7 w_8 h_6 => ?_)
    obtain ⟨rfl, rfl⟩ := h_6
    refine v_eq (st' := []) (ws' := [((ma 4), eI D 6 (nF c.kk)), ((ma 5), eI D 6 (nF c.vv)), (mo, .inr (10, M1R ma (mZ c c2 tk vc ln (rn + 1) zs_10 zs_11 zs_20 zs_21 zs_22 zs_25 zs_26 zs_27 zs_29))), ((ma 50), eI D 20 (upd f rn 51))]) rfl rfl rfl rfl ?_
    refine v_aload_n O dX10_hidesAct_53 0 rfl ?_
    refine v_iload_n O dX10_hidesAct_54 1 rfl ?_
    refine v_iload_n O dX10_hidesAct_55 2 rfl ?_
    refine v_iconst (v := 1) O dX10_hidesAct_56 (by decide) ?_
    refine v_iadd O dX10_hidesAct_57 ?_
    refine v_cV (T := TX10) (ci := 10) (As := [.int (nI i), .int (x + 1)]) (wr := []) (st := []) O cf_X10_330 rfl (sp_X10_sharingHides (mo := mo) (ma := ma) (c := c) (c2 := c2) (tk := tk) (vc := vc) (ln := ln) (rn := (rn + 1)) (zs_10 := zs_10) (zs_11 := zs_11) (zs_20 := zs_20) (zs_21 := zs_21) (zs_22 := zs_22) (zs_25 := zs_25) (zs_26 := zs_26) (zs_27 := zs_27) (zs_29 := zs_29) (f := (upd f rn 51)) (i := i) (x := (x + 1)) (hi) (hk) (by omega)) dX10_hidesAct_58 rfl rfl 2 rfl [2, 0, 1, 3] [] (by decide) rfl rfl (by decide) (by decide) (by decide) (Nat.le_of_ble_eq_true rfl) (by decide) (by decide) (fun r_10 w_11 h_9 => ?_)
    obtain ⟨rfl, rfl⟩ := h_9
    refine v_eq (st' := [.int (((wV (nI i) (nI (c.vv i)) (x + 1) (c.kk i)) - nI (c.vv i)) ^^^ 6)]) (ws' := [(mo, .inr (10, M1R ma (mZ c c2 tk vc ln ((rn + 1) + (20 :: 11 :: (wL (c.kk i))).length) zs_10 zs_11 zs_20 zs_21 zs_22 zs_25 zs_26 zs_27 zs_29))), ((ma 4), eI D 6 (nF c.kk)), ((ma 5), eI D 6 (nF c.vv)), ((ma 50), eI D 20 (trW (upd f rn 51) (rn + 1) (20 :: 11 :: (wL (c.kk i)))))]) rfl rfl rfl rfl ?_
    exact v_ireturn O T rfl rfl (by decide) (by decide) dX10_hidesAct_61 (⟨by rw [z_k]; rfl, by rw [z_k]; rw [show hL 4 4 = 51 :: 20 :: 11 :: wL 4 from rfl, len_c]; rfl⟩)
  by_cases s_12 : nI (c.kk i) = 6
  · skip
    refine v_top s_12 ?_
    refine v_lks (off := 56) O 62 dX10_hidesAct_6 (by decide) (by decide) (by decide) ?_
    have z_k := (c_eq (x := nI (c.kk i)) (y := 6) (a := c.kk i) (b := 6) rfl rfl (by omega) (by omega)).mp s_12
    refine v_aload_n O dX10_hidesAct_62 0 rfl ?_
    refine v_bipush (v := 70) O dX10_hidesAct_63 (by decide) ?_
    refine v_cV (T := TX10) (ci := 10) (As := [.int 70]) (wr := [((ma 4), eI D 6 (nF c.kk)), ((ma 5), eI D 6 (nF c.vv))]) (st := []) O cf_X10_318 rfl (sp_X10_body (mo := mo) (ma := ma) (c := c) (c2 := c2) (tk := tk) (vc := vc) (ln := ln) (rn := rn) (zs_10 := zs_10) (zs_11 := zs_11) (zs_20 := zs_20) (zs_21 := zs_21) (zs_22 := zs_22) (zs_25 := zs_25) (zs_26 := zs_26) (zs_27 := zs_27) (zs_29 := zs_29) (f := f) (b := 70) (by omega)) dX10_hidesAct_65 rfl rfl 0 rfl [0, 3] [1, 2] (by decide) rfl rfl (by decide) (by decide) (by decide) (Nat.le_of_ble_eq_true rfl) (by decide) (by decide) (fun r_14 w_15 h_13 => ?_)
    obtain ⟨rfl, rfl⟩ := h_13
    refine v_eq (st' := []) (ws' := [((ma 4), eI D 6 (nF c.kk)), ((ma 5), eI D 6 (nF c.vv)), (mo, .inr (10, M1R ma (mZ c c2 tk vc ln (rn + 1) zs_10 zs_11 zs_20 zs_21 zs_22 zs_25 zs_26 zs_27 zs_29))), ((ma 50), eI D 20 (upd f rn 70))]) rfl rfl rfl rfl ?_
    refine v_aload_n O dX10_hidesAct_68 0 rfl ?_
    refine v_iload_n O dX10_hidesAct_69 1 rfl ?_
    refine v_iload_n O dX10_hidesAct_70 2 rfl ?_
    refine v_cV (T := TX10) (ci := 10) (As := [.int (nI i), .int x]) (wr := []) (st := []) O cf_X10_327 rfl (sp_X10_manHides (mo := mo) (ma := ma) (c := c) (c2 := c2) (tk := tk) (vc := vc) (ln := ln) (rn := (rn + 1)) (zs_10 := zs_10) (zs_11 := zs_11) (zs_20 := zs_20) (zs_21 := zs_21) (zs_22 := zs_22) (zs_25 := zs_25) (zs_26 := zs_26) (zs_27 := zs_27) (zs_29 := zs_29) (f := (upd f rn 70)) (i := i) (x := x) (hi) (hk) (by omega)) dX10_hidesAct_71 rfl rfl 2 rfl [2, 0, 1, 3] [] (by decide) rfl rfl (by decide) (by decide) (by decide) (Nat.le_of_ble_eq_true rfl) (by decide) (by decide) (fun r_17 w_18 h_16 => ?_)
    obtain ⟨rfl, rfl⟩ := h_16
    refine v_eq (st' := [.int ((wV (nI i) (nI (c.vv i)) x (c.kk i)) - nI (c.vv i))]) (ws' := [(mo, .inr (10, M1R ma (mZ c c2 tk vc ln ((rn + 1) + (11 :: (wL (c.kk i))).length) zs_10 zs_11 zs_20 zs_21 zs_22 zs_25 zs_26 zs_27 zs_29))), ((ma 4), eI D 6 (nF c.kk)), ((ma 5), eI D 6 (nF c.vv)), ((ma 50), eI D 20 (trW (upd f rn 70) (rn + 1) (11 :: (wL (c.kk i)))))]) rfl rfl rfl rfl ?_
    refine v_istore_n (lv' := [(0, .ref mo), (1, .int (nI i)), (2, .int x), (3, .int ((wV (nI i) (nI (c.vv i)) x (c.kk i)) - nI (c.vv i)))]) O dX10_hidesAct_74 (by decide) rfl ?_
    refine v_iload_n O dX10_hidesAct_75 3 rfl ?_
    refine v_aload_n O dX10_hidesAct_76 0 rfl ?_
    refine v_iload_n O dX10_hidesAct_77 1 rfl ?_
    refine v_iconst (v := 2) O dX10_hidesAct_78 (by decide) ?_
    refine v_cV (T := TX10) (ci := 10) (As := [.int (nI i), .int 2]) (wr := [((ma 4), eI D 6 (nF c.kk)), ((ma 5), eI D 6 (nF c.vv))]) (st := [.int ((wV (nI i) (nI (c.vv i)) x (c.kk i)) - nI (c.vv i))]) O cf_X10_321 rfl (sp_X10_manWakes (mo := mo) (ma := ma) (c := c) (c2 := c2) (tk := tk) (vc := vc) (ln := ln) (rn := ((rn + 1) + (11 :: (wL (c.kk i))).length)) (zs_10 := zs_10) (zs_11 := zs_11) (zs_20 := zs_20) (zs_21 := zs_21) (zs_22 := zs_22) (zs_25 := zs_25) (zs_26 := zs_26) (zs_27 := zs_27) (zs_29 := zs_29) (f := (trW (upd f rn 70) (rn + 1) (11 :: (wL (c.kk i))))) (i := i) (x := 2) (by rw [List.length_cons]; omega)) dX10_hidesAct_79 rfl rfl 0 rfl [0, 3] [1, 2] (by decide) rfl rfl (by decide) (by decide) (by decide) (Nat.le_of_ble_eq_true rfl) (by decide) (by decide) (fun r_20 w_21 h_19 => ?_)
    obtain ⟨rfl, rfl⟩ := h_19
    refine v_eq (st' := [.int (2 + nI i), .int ((wV (nI i) (nI (c.vv i)) x (c.kk i)) - nI (c.vv i))]) (ws' := [((ma 4), eI D 6 (nF c.kk)), ((ma 5), eI D 6 (nF c.vv)), (mo, .inr (10, M1R ma (mZ c c2 tk vc ln (((rn + 1) + (11 :: (wL (c.kk i))).length) + 1) zs_10 zs_11 zs_20 zs_21 zs_22 zs_25 zs_26 zs_27 zs_29))), ((ma 50), eI D 20 (upd (trW (upd f rn 70) (rn + 1) (11 :: (wL (c.kk i)))) ((rn + 1) + (11 :: (wL (c.kk i))).length) 10))]) rfl rfl rfl rfl ?_
    refine v_iadd O dX10_hidesAct_82 ?_
    refine v_sub (ws' := [(mo, .inr (10, M1R ma (mZ c c2 tk vc ln (((rn + 1) + (11 :: (wL (c.kk i))).length) + 1) zs_10 zs_11 zs_20 zs_21 zs_22 zs_25 zs_26 zs_27 zs_29))), ((ma 4), eI D 6 (nF c.kk)), ((ma 5), eI D 6 (nF c.vv)), ((ma 50), eI D 20 (upd (trW (upd f rn 70) (rn + 1) (11 :: (wL (c.kk i)))) ((rn + 1) + (11 :: (wL (c.kk i))).length) 10))]) [2, 0, 1, 3] (by decide) rfl ?_
    exact v_ireturn O T rfl rfl (by decide) (by decide) dX10_hidesAct_83 (⟨by rw [z_k]; rfl, by rw [z_k]; simp only [show hL 6 6 = 70 :: ((11 :: wL 6) ++ [10]) from rfl, len_c, len_a]; rfl⟩)
  refine v_lks (off := 78) O 84 dX10_hidesAct_6 (by decide) (lks_out (fun p hp => by simp at hp; rcases hp with rfl | rfl | rfl <;> exact i32_ne (by assumption) (by decide))) (by decide) ?_
  have z_n1 := (not_congr (c_eq (x := nI (c.kk i)) (y := 1) (a := c.kk i) (b := 1) rfl rfl (by omega) (by omega))).mp s_1
  have z_n4 := (not_congr (c_eq (x := nI (c.kk i)) (y := 4) (a := c.kk i) (b := 4) rfl rfl (by omega) (by omega))).mp s_5
  have z_n6 := (not_congr (c_eq (x := nI (c.kk i)) (y := 6) (a := c.kk i) (b := 6) rfl rfl (by omega) (by omega))).mp s_12
  refine v_aload_n O dX10_hidesAct_84 0 rfl ?_
  refine v_iload_n O dX10_hidesAct_85 1 rfl ?_
  refine v_iload_n O dX10_hidesAct_86 2 rfl ?_
  refine v_cV (T := TX10) (ci := 10) (As := [.int (nI i), .int x]) (wr := []) (st := []) O cf_X10_327 rfl (sp_X10_manHides (mo := mo) (ma := ma) (c := c) (c2 := c2) (tk := tk) (vc := vc) (ln := ln) (rn := rn) (zs_10 := zs_10) (zs_11 := zs_11) (zs_20 := zs_20) (zs_21 := zs_21) (zs_22 := zs_22) (zs_25 := zs_25) (zs_26 := zs_26) (zs_27 := zs_27) (zs_29 := zs_29) (f := f) (i := i) (x := x) (hi) (hk) (by omega)) dX10_hidesAct_87 rfl rfl 0 rfl [0, 1, 2, 3] [] (by decide) rfl rfl (by decide) (by decide) (by decide) (Nat.le_of_ble_eq_true rfl) (by decide) (by decide) (fun r_23 w_24 h_22 => ?_)
  obtain ⟨rfl, rfl⟩ := h_22
  refine v_eq (st' := [.int ((wV (nI i) (nI (c.vv i)) x (c.kk i)) - nI (c.vv i))]) (ws' := [(mo, .inr (10, M1R ma (mZ c c2 tk vc ln (rn + (11 :: (wL (c.kk i))).length) zs_10 zs_11 zs_20 zs_21 zs_22 zs_25 zs_26 zs_27 zs_29))), ((ma 4), eI D 6 (nF c.kk)), ((ma 5), eI D 6 (nF c.vv)), ((ma 50), eI D 20 (trW f rn (11 :: (wL (c.kk i)))))]) rfl rfl rfl rfl ?_
  exact v_ireturn O T rfl rfl (by decide) (by decide) dX10_hidesAct_90 (⟨by rcases (show c.kk i = 0 ∨ c.kk i = 2 ∨ c.kk i = 3 ∨ c.kk i = 5 by omega) with z | z | z | z <;> rw [z] <;> rfl, by rcases (show c.kk i = 0 ∨ c.kk i = 2 ∨ c.kk i = 3 ∨ c.kk i = 5 by omega) with z | z | z | z <;> rw [z] <;> rfl⟩)
set_option maxRecDepth 100000 in
set_option maxHeartbeats 4000000 in
theorem sp_X10_manTells {D : G} {mo : Nat} {ma : Nat → Nat} {c : CS} {c2 : CS} {tk : Int32} {vc : Nat} {ln : Nat} {rn : Nat} {zs_10 : Int32} {zs_11 : Int32} {zs_20 : Int32} {zs_21 : Int32} {zs_22 : Int32} {zs_25 : Int32} {zs_26 : Int32} {zs_27 : Int32} {zs_29 : Int32} {f : Nat → Int32} {i : Nat} {x : Int32} (hi : i < 6) (hk : c.kk i < 7) (hn : rn + 6 ≤ 20) : Sp D mX10_manTells 6 0 0 [.ref mo, .int (nI i), .int x] [(mo, .inr (10, M1R ma (mZ c c2 tk vc ln rn zs_10 zs_11 zs_20 zs_21 zs_22 zs_25 zs_26 zs_27 zs_29))), ((ma 4), eI D 6 (nF c.kk)), ((ma 5), eI D 6 (nF c.vv)), ((ma 50), eI D 20 f)] (fun r w => r = some (.int ((hV (nI i) (nI (c.vv i)) (c.kk i) x (c.kk i)) * 2)) ∧ w = [(mo, .inr (10, M1R ma (mZ c c2 tk vc ln (rn + (12 :: (hL (c.kk i) (c.kk i))).length) zs_10 zs_11 zs_20 zs_21 zs_22 zs_25 zs_26 zs_27 zs_29))), ((ma 4), eI D 6 (nF c.kk)), ((ma 5), eI D 6 (nF c.vv)), ((ma 50), eI D 20 (trW f rn (12 :: (hL (c.kk i) (c.kk i)))))]) := by
  refine Sp.of (by decide) (Nat.le_of_ble_eq_true rfl) (fun X O T => ?_)
  refine v_eq (lv' := [(0, .ref mo), (1, .int (nI i)), (2, .int x)]) rfl rfl rfl rfl ?_
  refine v_aload_n O dX10_manTells_0 0 rfl ?_
  refine v_bipush (v := 12) O dX10_manTells_1 (by decide) ?_
  refine v_cV (T := TX10) (ci := 10) (As := [.int 12]) (wr := [((ma 4), eI D 6 (nF c.kk)), ((ma 5), eI D 6 (nF c.vv))]) (st := []) O cf_X10_318 rfl (sp_X10_body (mo := mo) (ma := ma) (c := c) (c2 := c2) (tk := tk) (vc := vc) (ln := ln) (rn := rn) (zs_10 := zs_10) (zs_11 := zs_11) (zs_20 := zs_20) (zs_21 := zs_21) (zs_22 := zs_22) (zs_25 := zs_25) (zs_26 := zs_26) (zs_27 := zs_27) (zs_29 := zs_29) (f := f) (b := 12) (by omega)) dX10_manTells_3 rfl rfl 0 rfl [0, 3] [1, 2] (by decide) rfl rfl (by decide) (by decide) (by decide) (Nat.le_of_ble_eq_true rfl) (by decide) (by decide) (fun r_2 w_3 h_1 => ?_)
  obtain ⟨rfl, rfl⟩ := h_1
  refine v_eq (st' := []) (ws' := [((ma 4), eI D 6 (nF c.kk)), ((ma 5), eI D 6 (nF c.vv)), (mo, .inr (10, M1R ma (mZ c c2 tk vc ln (rn + 1) zs_10 zs_11 zs_20 zs_21 zs_22 zs_25 zs_26 zs_27 zs_29))), ((ma 50), eI D 20 (upd f rn 12))]) rfl rfl rfl rfl ?_
  refine v_aload_n O dX10_manTells_6 0 rfl ?_
  refine v_iload_n O dX10_manTells_7 1 rfl ?_
  refine v_iload_n O dX10_manTells_8 2 rfl ?_
  refine v_cV (T := TX10) (ci := 10) (As := [.int (nI i), .int x]) (wr := []) (st := []) O cf_X10_333 rfl (sp_X10_hidesAct (mo := mo) (ma := ma) (c := c) (c2 := c2) (tk := tk) (vc := vc) (ln := ln) (rn := (rn + 1)) (zs_10 := zs_10) (zs_11 := zs_11) (zs_20 := zs_20) (zs_21 := zs_21) (zs_22 := zs_22) (zs_25 := zs_25) (zs_26 := zs_26) (zs_27 := zs_27) (zs_29 := zs_29) (f := (upd f rn 12)) (i := i) (x := x) (hi) (hk) (by omega)) dX10_manTells_9 rfl rfl 2 rfl [2, 0, 1, 3] [] (by decide) rfl rfl (by decide) (by decide) (by decide) (Nat.le_of_ble_eq_true rfl) (by decide) (by decide) (fun r_5 w_6 h_4 => ?_)
  obtain ⟨rfl, rfl⟩ := h_4
  refine v_eq (st' := [.int (hV (nI i) (nI (c.vv i)) (c.kk i) x (c.kk i))]) (ws' := [(mo, .inr (10, M1R ma (mZ c c2 tk vc ln ((rn + 1) + (hL (c.kk i) (c.kk i)).length) zs_10 zs_11 zs_20 zs_21 zs_22 zs_25 zs_26 zs_27 zs_29))), ((ma 4), eI D 6 (nF c.kk)), ((ma 5), eI D 6 (nF c.vv)), ((ma 50), eI D 20 (trW (upd f rn 12) (rn + 1) (hL (c.kk i) (c.kk i))))]) rfl rfl rfl rfl ?_
  refine v_iconst (v := 2) O dX10_manTells_12 (by decide) ?_
  refine v_imul O dX10_manTells_13 ?_
  exact v_ireturn O T rfl rfl (by decide) (by decide) dX10_manTells_14 (⟨rfl, by rw [len_c]; rfl⟩)
set_option maxRecDepth 100000 in
set_option maxHeartbeats 4000000 in
theorem sp_X10_tellsAct {D : G} {mo : Nat} {ma : Nat → Nat} {c : CS} {c2 : CS} {tk : Int32} {vc : Nat} {ln : Nat} {rn : Nat} {zs_10 : Int32} {zs_11 : Int32} {zs_20 : Int32} {zs_21 : Int32} {zs_22 : Int32} {zs_25 : Int32} {zs_26 : Int32} {zs_27 : Int32} {zs_29 : Int32} {f : Nat → Int32} {i : Nat} {x : Int32} (hi : i < 6) (hk : c.kk i < 7) (hn : rn + 12 ≤ 20) : Sp D mX10_tellsAct 7 0 0 [.ref mo, .int (nI i), .int x] [(mo, .inr (10, M1R ma (mZ c c2 tk vc ln rn zs_10 zs_11 zs_20 zs_21 zs_22 zs_25 zs_26 zs_27 zs_29))), ((ma 4), eI D 6 (nF c.kk)), ((ma 5), eI D 6 (nF c.vv)), ((ma 50), eI D 20 f)] (fun r w => r = some (.int (tV (nI i) (nI (c.vv i)) (c.kk i) x (c.kk i))) ∧ w = [(mo, .inr (10, M1R ma (mZ c c2 tk vc ln (rn + (tL (c.kk i) (c.kk i)).length) zs_10 zs_11 zs_20 zs_21 zs_22 zs_25 zs_26 zs_27 zs_29))), ((ma 4), eI D 6 (nF c.kk)), ((ma 5), eI D 6 (nF c.vv)), ((ma 50), eI D 20 (trW f rn (tL (c.kk i) (c.kk i))))]) := by
  refine Sp.of (by decide) (Nat.le_of_ble_eq_true rfl) (fun X O T => ?_)
  refine v_eq (lv' := [(0, .ref mo), (1, .int (nI i)), (2, .int x)]) rfl rfl rfl rfl ?_
  have zl1 := wL_len (c.kk i) hk
  have zl2 := hL_len (c.kk i) hk (c.kk i) hk
  refine v_aload_n O dX10_tellsAct_0 0 rfl ?_
  refine gf_X10_22 (v := .ref (ma 4)) O rfl dX10_tellsAct_1 0 rfl rfl ?_
  refine v_iload_n O dX10_tellsAct_4 1 rfl ?_
  refine v_ialdk O dX10_tellsAct_5 1 rfl i rfl (by omega) (by decide) ?_
  refine v_top (y := nI (c.kk i)) rfl ?_
  by_cases s_1 : nI (c.kk i) = 3
  · skip
    refine v_top s_1 ?_
    refine v_tsIn (off := 30) O 36 dX10_tellsAct_6 (by decide) (by decide) (by decide) (by decide) ?_
    have z_k := (c_eq (x := nI (c.kk i)) (y := 3) (a := c.kk i) (b := 3) rfl rfl (by omega) (by omega)).mp s_1
    refine v_aload_n O dX10_tellsAct_36 0 rfl ?_
    refine v_bipush (v := 40) O dX10_tellsAct_37 (by decide) ?_
    refine v_cV (T := TX10) (ci := 10) (As := [.int 40]) (wr := [((ma 4), eI D 6 (nF c.kk)), ((ma 5), eI D 6 (nF c.vv))]) (st := []) O cf_X10_318 rfl (sp_X10_body (mo := mo) (ma := ma) (c := c) (c2 := c2) (tk := tk) (vc := vc) (ln := ln) (rn := rn) (zs_10 := zs_10) (zs_11 := zs_11) (zs_20 := zs_20) (zs_21 := zs_21) (zs_22 := zs_22) (zs_25 := zs_25) (zs_26 := zs_26) (zs_27 := zs_27) (zs_29 := zs_29) (f := f) (b := 40) (by omega)) dX10_tellsAct_39 rfl rfl 0 rfl [0, 3] [1, 2] (by decide) rfl rfl (by decide) (by decide) (by decide) (Nat.le_of_ble_eq_true rfl) (by decide) (by decide) (fun r_3 w_4 h_2 => ?_)
    obtain ⟨rfl, rfl⟩ := h_2
    refine v_eq (st' := []) (ws' := [((ma 4), eI D 6 (nF c.kk)), ((ma 5), eI D 6 (nF c.vv)), (mo, .inr (10, M1R ma (mZ c c2 tk vc ln (rn + 1) zs_10 zs_11 zs_20 zs_21 zs_22 zs_25 zs_26 zs_27 zs_29))), ((ma 50), eI D 20 (upd f rn 40))]) rfl rfl rfl rfl ?_
    refine v_aload_n O dX10_tellsAct_42 0 rfl ?_
    refine v_iload_n O dX10_tellsAct_43 1 rfl ?_
    refine v_iload_n O dX10_tellsAct_44 2 rfl ?_
    refine v_cV (T := TX10) (ci := 10) (As := [.int (nI i), .int x]) (wr := []) (st := []) O cf_X10_336 rfl (sp_X10_manTells (mo := mo) (ma := ma) (c := c) (c2 := c2) (tk := tk) (vc := vc) (ln := ln) (rn := (rn + 1)) (zs_10 := zs_10) (zs_11 := zs_11) (zs_20 := zs_20) (zs_21 := zs_21) (zs_22 := zs_22) (zs_25 := zs_25) (zs_26 := zs_26) (zs_27 := zs_27) (zs_29 := zs_29) (f := (upd f rn 40)) (i := i) (x := x) (hi) (hk) (by omega)) dX10_tellsAct_45 rfl rfl 2 rfl [2, 0, 1, 3] [] (by decide) rfl rfl (by decide) (by decide) (by decide) (Nat.le_of_ble_eq_true rfl) (by decide) (by decide) (fun r_6 w_7 h_5 => ?_)
    obtain ⟨rfl, rfl⟩ := h_5
    refine v_eq (st' := [.int ((hV (nI i) (nI (c.vv i)) (c.kk i) x (c.kk i)) * 2)]) (ws' := [(mo, .inr (10, M1R ma (mZ c c2 tk vc ln ((rn + 1) + (12 :: (hL (c.kk i) (c.kk i))).length) zs_10 zs_11 zs_20 zs_21 zs_22 zs_25 zs_26 zs_27 zs_29))), ((ma 4), eI D 6 (nF c.kk)), ((ma 5), eI D 6 (nF c.vv)), ((ma 50), eI D 20 (trW (upd f rn 40) (rn + 1) (12 :: (hL (c.kk i) (c.kk i)))))]) rfl rfl rfl rfl ?_
    refine v_istore_n (lv' := [(0, .ref mo), (1, .int (nI i)), (2, .int x), (3, .int ((hV (nI i) (nI (c.vv i)) (c.kk i) x (c.kk i)) * 2))]) O dX10_tellsAct_48 (by decide) rfl ?_
    refine v_iload_n O dX10_tellsAct_49 3 rfl ?_
    refine v_aload_n O dX10_tellsAct_50 0 rfl ?_
    refine v_iload_n O dX10_tellsAct_51 1 rfl ?_
    refine v_iconst (v := 1) O dX10_tellsAct_52 (by decide) ?_
    refine v_cV (T := TX10) (ci := 10) (As := [.int (nI i), .int 1]) (wr := []) (st := [.int ((hV (nI i) (nI (c.vv i)) (c.kk i) x (c.kk i)) * 2)]) O cf_X10_333 rfl (sp_X10_hidesAct (mo := mo) (ma := ma) (c := c) (c2 := c2) (tk := tk) (vc := vc) (ln := ln) (rn := ((rn + 1) + (12 :: (hL (c.kk i) (c.kk i))).length)) (zs_10 := zs_10) (zs_11 := zs_11) (zs_20 := zs_20) (zs_21 := zs_21) (zs_22 := zs_22) (zs_25 := zs_25) (zs_26 := zs_26) (zs_27 := zs_27) (zs_29 := zs_29) (f := (trW (upd f rn 40) (rn + 1) (12 :: (hL (c.kk i) (c.kk i))))) (i := i) (x := 1) (hi) (hk) (by rw [List.length_cons]; omega)) dX10_tellsAct_53 rfl rfl 0 rfl [0, 1, 2, 3] [] (by decide) rfl rfl (by decide) (by decide) (by decide) (Nat.le_of_ble_eq_true rfl) (by decide) (by decide) (fun r_9 w_10 h_8 => ?_)
    obtain ⟨rfl, rfl⟩ := h_8
    refine v_eq (st' := [.int (hV (nI i) (nI (c.vv i)) (c.kk i) 1 (c.kk i)), .int ((hV (nI i) (nI (c.vv i)) (c.kk i) x (c.kk i)) * 2)]) (ws' := [(mo, .inr (10, M1R ma (mZ c c2 tk vc ln (((rn + 1) + (12 :: (hL (c.kk i) (c.kk i))).length) + (hL (c.kk i) (c.kk i)).length) zs_10 zs_11 zs_20 zs_21 zs_22 zs_25 zs_26 zs_27 zs_29))), ((ma 4), eI D 6 (nF c.kk)), ((ma 5), eI D 6 (nF c.vv)), ((ma 50), eI D 20 (trW (trW (upd f rn 40) (rn + 1) (12 :: (hL (c.kk i) (c.kk i)))) ((rn + 1) + (12 :: (hL (c.kk i) (c.kk i))).length) (hL (c.kk i) (c.kk i))))]) rfl rfl rfl rfl ?_
    refine v_iadd O dX10_tellsAct_56 ?_
    exact v_ireturn O T rfl rfl (by decide) (by decide) dX10_tellsAct_57 (⟨by rw [z_k]; rfl, by rw [z_k]; simp only [show tL 3 3 = 40 :: ((12 :: hL 3 3) ++ hL 3 3) from rfl, len_c, len_a, show ∀ ff nn, trW ff nn (40 :: ((12 :: hL 3 3) ++ hL 3 3)) = trW (trW (upd ff nn 40) (nn + 1) (12 :: hL 3 3)) (nn + 1 + (12 :: hL 3 3).length) (hL 3 3) from fun _ _ => rfl]⟩)
  by_cases s_11 : nI (c.kk i) = 4
  · skip
    refine v_top s_11 ?_
    refine v_tsIn (off := 67) O 73 dX10_tellsAct_6 (by decide) (by decide) (by decide) (by decide) ?_
    have z_k := (c_eq (x := nI (c.kk i)) (y := 4) (a := c.kk i) (b := 4) rfl rfl (by omega) (by omega)).mp s_11
    refine v_aload_n O dX10_tellsAct_73 0 rfl ?_
    refine v_iload_n O dX10_tellsAct_74 1 rfl ?_
    refine v_iload_n O dX10_tellsAct_75 2 rfl ?_
    refine v_cV (T := TX10) (ci := 10) (As := [.int (nI i), .int x]) (wr := []) (st := []) O cf_X10_336 rfl (sp_X10_manTells (mo := mo) (ma := ma) (c := c) (c2 := c2) (tk := tk) (vc := vc) (ln := ln) (rn := rn) (zs_10 := zs_10) (zs_11 := zs_11) (zs_20 := zs_20) (zs_21 := zs_21) (zs_22 := zs_22) (zs_25 := zs_25) (zs_26 := zs_26) (zs_27 := zs_27) (zs_29 := zs_29) (f := f) (i := i) (x := x) (hi) (hk) (by omega)) dX10_tellsAct_76 rfl rfl 0 rfl [0, 1, 2, 3] [] (by decide) rfl rfl (by decide) (by decide) (by decide) (Nat.le_of_ble_eq_true rfl) (by decide) (by decide) (fun r_13 w_14 h_12 => ?_)
    obtain ⟨rfl, rfl⟩ := h_12
    refine v_eq (st' := [.int ((hV (nI i) (nI (c.vv i)) (c.kk i) x (c.kk i)) * 2)]) (ws' := [(mo, .inr (10, M1R ma (mZ c c2 tk vc ln (rn + (12 :: (hL (c.kk i) (c.kk i))).length) zs_10 zs_11 zs_20 zs_21 zs_22 zs_25 zs_26 zs_27 zs_29))), ((ma 4), eI D 6 (nF c.kk)), ((ma 5), eI D 6 (nF c.vv)), ((ma 50), eI D 20 (trW f rn (12 :: (hL (c.kk i) (c.kk i)))))]) rfl rfl rfl rfl ?_
    exact v_ireturn O T rfl rfl (by decide) (by decide) dX10_tellsAct_79 (⟨by rw [z_k]; rfl, by rw [z_k]; rfl⟩)
  by_cases s_15 : nI (c.kk i) = 5
  · skip
    refine v_top s_15 ?_
    refine v_tsIn (off := 52) O 58 dX10_tellsAct_6 (by decide) (by decide) (by decide) (by decide) ?_
    have z_k := (c_eq (x := nI (c.kk i)) (y := 5) (a := c.kk i) (b := 5) rfl rfl (by omega) (by omega)).mp s_15
    refine v_aload_n O dX10_tellsAct_58 0 rfl ?_
    refine v_bipush (v := 60) O dX10_tellsAct_59 (by decide) ?_
    refine v_cV (T := TX10) (ci := 10) (As := [.int 60]) (wr := [((ma 4), eI D 6 (nF c.kk)), ((ma 5), eI D 6 (nF c.vv))]) (st := []) O cf_X10_318 rfl (sp_X10_body (mo := mo) (ma := ma) (c := c) (c2 := c2) (tk := tk) (vc := vc) (ln := ln) (rn := rn) (zs_10 := zs_10) (zs_11 := zs_11) (zs_20 := zs_20) (zs_21 := zs_21) (zs_22 := zs_22) (zs_25 := zs_25) (zs_26 := zs_26) (zs_27 := zs_27) (zs_29 := zs_29) (f := f) (b := 60) (by omega)) dX10_tellsAct_61 rfl rfl 0 rfl [0, 3] [1, 2] (by decide) rfl rfl (by decide) (by decide) (by decide) (Nat.le_of_ble_eq_true rfl) (by decide) (by decide) (fun r_17 w_18 h_16 => ?_)
    obtain ⟨rfl, rfl⟩ := h_16
    refine v_eq (st' := []) (ws' := [((ma 4), eI D 6 (nF c.kk)), ((ma 5), eI D 6 (nF c.vv)), (mo, .inr (10, M1R ma (mZ c c2 tk vc ln (rn + 1) zs_10 zs_11 zs_20 zs_21 zs_22 zs_25 zs_26 zs_27 zs_29))), ((ma 50), eI D 20 (upd f rn 60))]) rfl rfl rfl rfl ?_
    refine v_aload_n O dX10_tellsAct_64 0 rfl ?_
    refine v_iload_n O dX10_tellsAct_65 1 rfl ?_
    refine v_iload_n O dX10_tellsAct_66 2 rfl ?_
    refine v_iload_n O dX10_tellsAct_67 1 rfl ?_
    refine v_isub O dX10_tellsAct_68 ?_
    refine v_cV (T := TX10) (ci := 10) (As := [.int (nI i), .int (x - (nI i))]) (wr := []) (st := []) O cf_X10_336 rfl (sp_X10_manTells (mo := mo) (ma := ma) (c := c) (c2 := c2) (tk := tk) (vc := vc) (ln := ln) (rn := (rn + 1)) (zs_10 := zs_10) (zs_11 := zs_11) (zs_20 := zs_20) (zs_21 := zs_21) (zs_22 := zs_22) (zs_25 := zs_25) (zs_26 := zs_26) (zs_27 := zs_27) (zs_29 := zs_29) (f := (upd f rn 60)) (i := i) (x := (x - (nI i))) (hi) (hk) (by omega)) dX10_tellsAct_69 rfl rfl 2 rfl [2, 0, 1, 3] [] (by decide) rfl rfl (by decide) (by decide) (by decide) (Nat.le_of_ble_eq_true rfl) (by decide) (by decide) (fun r_20 w_21 h_19 => ?_)
    obtain ⟨rfl, rfl⟩ := h_19
    refine v_eq (st' := [.int ((hV (nI i) (nI (c.vv i)) (c.kk i) (x - (nI i)) (c.kk i)) * 2)]) (ws' := [(mo, .inr (10, M1R ma (mZ c c2 tk vc ln ((rn + 1) + (12 :: (hL (c.kk i) (c.kk i))).length) zs_10 zs_11 zs_20 zs_21 zs_22 zs_25 zs_26 zs_27 zs_29))), ((ma 4), eI D 6 (nF c.kk)), ((ma 5), eI D 6 (nF c.vv)), ((ma 50), eI D 20 (trW (upd f rn 60) (rn + 1) (12 :: (hL (c.kk i) (c.kk i)))))]) rfl rfl rfl rfl ?_
    exact v_ireturn O T rfl rfl (by decide) (by decide) dX10_tellsAct_72 (⟨by rw [z_k]; rfl, by rw [z_k]; rw [show tL 5 5 = 60 :: 12 :: hL 5 5 from rfl, len_c]; rfl⟩)
  by_cases s_22 : nI (c.kk i) = 6
  · skip
    refine v_top s_22 ?_
    refine v_tsIn (off := 30) O 36 dX10_tellsAct_6 (by decide) (by decide) (by decide) (by decide) ?_
    have z_k := (c_eq (x := nI (c.kk i)) (y := 6) (a := c.kk i) (b := 6) rfl rfl (by omega) (by omega)).mp s_22
    refine v_aload_n O dX10_tellsAct_36 0 rfl ?_
    refine v_bipush (v := 40) O dX10_tellsAct_37 (by decide) ?_
    refine v_cV (T := TX10) (ci := 10) (As := [.int 40]) (wr := [((ma 4), eI D 6 (nF c.kk)), ((ma 5), eI D 6 (nF c.vv))]) (st := []) O cf_X10_318 rfl (sp_X10_body (mo := mo) (ma := ma) (c := c) (c2 := c2) (tk := tk) (vc := vc) (ln := ln) (rn := rn) (zs_10 := zs_10) (zs_11 := zs_11) (zs_20 := zs_20) (zs_21 := zs_21) (zs_22 := zs_22) (zs_25 := zs_25) (zs_26 := zs_26) (zs_27 := zs_27) (zs_29 := zs_29) (f := f) (b := 40) (by omega)) dX10_tellsAct_39 rfl rfl 0 rfl [0, 3] [1, 2] (by decide) rfl rfl (by decide) (by decide) (by decide) (Nat.le_of_ble_eq_true rfl) (by decide) (by decide) (fun r_24 w_25 h_23 => ?_)
    obtain ⟨rfl, rfl⟩ := h_23
    refine v_eq (st' := []) (ws' := [((ma 4), eI D 6 (nF c.kk)), ((ma 5), eI D 6 (nF c.vv)), (mo, .inr (10, M1R ma (mZ c c2 tk vc ln (rn + 1) zs_10 zs_11 zs_20 zs_21 zs_22 zs_25 zs_26 zs_27 zs_29))), ((ma 50), eI D 20 (upd f rn 40))]) rfl rfl rfl rfl ?_
    refine v_aload_n O dX10_tellsAct_42 0 rfl ?_
    refine v_iload_n O dX10_tellsAct_43 1 rfl ?_
    refine v_iload_n O dX10_tellsAct_44 2 rfl ?_
    refine v_cV (T := TX10) (ci := 10) (As := [.int (nI i), .int x]) (wr := []) (st := []) O cf_X10_336 rfl (sp_X10_manTells (mo := mo) (ma := ma) (c := c) (c2 := c2) (tk := tk) (vc := vc) (ln := ln) (rn := (rn + 1)) (zs_10 := zs_10) (zs_11 := zs_11) (zs_20 := zs_20) (zs_21 := zs_21) (zs_22 := zs_22) (zs_25 := zs_25) (zs_26 := zs_26) (zs_27 := zs_27) (zs_29 := zs_29) (f := (upd f rn 40)) (i := i) (x := x) (hi) (hk) (by omega)) dX10_tellsAct_45 rfl rfl 2 rfl [2, 0, 1, 3] [] (by decide) rfl rfl (by decide) (by decide) (by decide) (Nat.le_of_ble_eq_true rfl) (by decide) (by decide) (fun r_27 w_28 h_26 => ?_)
    obtain ⟨rfl, rfl⟩ := h_26
    refine v_eq (st' := [.int ((hV (nI i) (nI (c.vv i)) (c.kk i) x (c.kk i)) * 2)]) (ws' := [(mo, .inr (10, M1R ma (mZ c c2 tk vc ln ((rn + 1) + (12 :: (hL (c.kk i) (c.kk i))).length) zs_10 zs_11 zs_20 zs_21 zs_22 zs_25 zs_26 zs_27 zs_29))), ((ma 4), eI D 6 (nF c.kk)), ((ma 5), eI D 6 (nF c.vv)), ((ma 50), eI D 20 (trW (upd f rn 40) (rn + 1) (12 :: (hL (c.kk i) (c.kk i)))))]) rfl rfl rfl rfl ?_
    refine v_istore_n (lv' := [(0, .ref mo), (1, .int (nI i)), (2, .int x), (3, .int ((hV (nI i) (nI (c.vv i)) (c.kk i) x (c.kk i)) * 2))]) O dX10_tellsAct_48 (by decide) rfl ?_
    refine v_iload_n O dX10_tellsAct_49 3 rfl ?_
    refine v_aload_n O dX10_tellsAct_50 0 rfl ?_
    refine v_iload_n O dX10_tellsAct_51 1 rfl ?_
    refine v_iconst (v := 1) O dX10_tellsAct_52 (by decide) ?_
    refine v_cV (T := TX10) (ci := 10) (As := [.int (nI i), .int 1]) (wr := []) (st := [.int ((hV (nI i) (nI (c.vv i)) (c.kk i) x (c.kk i)) * 2)]) O cf_X10_333 rfl (sp_X10_hidesAct (mo := mo) (ma := ma) (c := c) (c2 := c2) (tk := tk) (vc := vc) (ln := ln) (rn := ((rn + 1) + (12 :: (hL (c.kk i) (c.kk i))).length)) (zs_10 := zs_10) (zs_11 := zs_11) (zs_20 := zs_20) (zs_21 := zs_21) (zs_22 := zs_22) (zs_25 := zs_25) (zs_26 := zs_26) (zs_27 := zs_27) (zs_29 := zs_29) (f := (trW (upd f rn 40) (rn + 1) (12 :: (hL (c.kk i) (c.kk i))))) (i := i) (x := 1) (hi) (hk) (by rw [List.length_cons]; omega)) dX10_tellsAct_53 rfl rfl 0 rfl [0, 1, 2, 3] [] (by decide) rfl rfl (by decide) (by decide) (by decide) (Nat.le_of_ble_eq_true rfl) (by decide) (by decide) (fun r_30 w_31 h_29 => ?_)
    obtain ⟨rfl, rfl⟩ := h_29
    refine v_eq (st' := [.int (hV (nI i) (nI (c.vv i)) (c.kk i) 1 (c.kk i)), .int ((hV (nI i) (nI (c.vv i)) (c.kk i) x (c.kk i)) * 2)]) (ws' := [(mo, .inr (10, M1R ma (mZ c c2 tk vc ln (((rn + 1) + (12 :: (hL (c.kk i) (c.kk i))).length) + (hL (c.kk i) (c.kk i)).length) zs_10 zs_11 zs_20 zs_21 zs_22 zs_25 zs_26 zs_27 zs_29))), ((ma 4), eI D 6 (nF c.kk)), ((ma 5), eI D 6 (nF c.vv)), ((ma 50), eI D 20 (trW (trW (upd f rn 40) (rn + 1) (12 :: (hL (c.kk i) (c.kk i)))) ((rn + 1) + (12 :: (hL (c.kk i) (c.kk i))).length) (hL (c.kk i) (c.kk i))))]) rfl rfl rfl rfl ?_
    refine v_iadd O dX10_tellsAct_56 ?_
    exact v_ireturn O T rfl rfl (by decide) (by decide) dX10_tellsAct_57 (⟨by rw [z_k]; rfl, by rw [z_k]; simp only [show tL 6 6 = 40 :: ((12 :: hL 6 6) ++ hL 6 6) from rfl, len_c, len_a, show ∀ ff nn, trW ff nn (40 :: ((12 :: hL 6 6) ++ hL 6 6)) = trW (trW (upd ff nn 40) (nn + 1) (12 :: hL 6 6)) (nn + 1 + (12 :: hL 6 6).length) (hL 6 6) from fun _ _ => rfl]⟩)
  refine v_tsOut O 73 dX10_tellsAct_6 (ts_out (by decide) (by decide) (fun v h1 h2 => by rcases (show v = 3 ∨ v = 4 ∨ v = 5 ∨ v = 6 by omega) with rfl | rfl | rfl | rfl <;> assumption)) (by decide) ?_
  have z_n3 := (not_congr (c_eq (x := nI (c.kk i)) (y := 3) (a := c.kk i) (b := 3) rfl rfl (by omega) (by omega))).mp s_1
  have z_n4 := (not_congr (c_eq (x := nI (c.kk i)) (y := 4) (a := c.kk i) (b := 4) rfl rfl (by omega) (by omega))).mp s_11
  have z_n5 := (not_congr (c_eq (x := nI (c.kk i)) (y := 5) (a := c.kk i) (b := 5) rfl rfl (by omega) (by omega))).mp s_15
  have z_n6 := (not_congr (c_eq (x := nI (c.kk i)) (y := 6) (a := c.kk i) (b := 6) rfl rfl (by omega) (by omega))).mp s_22
  refine v_aload_n O dX10_tellsAct_73 0 rfl ?_
  refine v_iload_n O dX10_tellsAct_74 1 rfl ?_
  refine v_iload_n O dX10_tellsAct_75 2 rfl ?_
  refine v_cV (T := TX10) (ci := 10) (As := [.int (nI i), .int x]) (wr := []) (st := []) O cf_X10_336 rfl (sp_X10_manTells (mo := mo) (ma := ma) (c := c) (c2 := c2) (tk := tk) (vc := vc) (ln := ln) (rn := rn) (zs_10 := zs_10) (zs_11 := zs_11) (zs_20 := zs_20) (zs_21 := zs_21) (zs_22 := zs_22) (zs_25 := zs_25) (zs_26 := zs_26) (zs_27 := zs_27) (zs_29 := zs_29) (f := f) (i := i) (x := x) (hi) (hk) (by omega)) dX10_tellsAct_76 rfl rfl 0 rfl [0, 1, 2, 3] [] (by decide) rfl rfl (by decide) (by decide) (by decide) (Nat.le_of_ble_eq_true rfl) (by decide) (by decide) (fun r_33 w_34 h_32 => ?_)
  obtain ⟨rfl, rfl⟩ := h_32
  refine v_eq (st' := [.int ((hV (nI i) (nI (c.vv i)) (c.kk i) x (c.kk i)) * 2)]) (ws' := [(mo, .inr (10, M1R ma (mZ c c2 tk vc ln (rn + (12 :: (hL (c.kk i) (c.kk i))).length) zs_10 zs_11 zs_20 zs_21 zs_22 zs_25 zs_26 zs_27 zs_29))), ((ma 4), eI D 6 (nF c.kk)), ((ma 5), eI D 6 (nF c.vv)), ((ma 50), eI D 20 (trW f rn (12 :: (hL (c.kk i) (c.kk i)))))]) rfl rfl rfl rfl ?_
  exact v_ireturn O T rfl rfl (by decide) (by decide) dX10_tellsAct_79 (⟨by rcases (show c.kk i = 0 ∨ c.kk i = 1 ∨ c.kk i = 2 by omega) with z | z | z <;> rw [z] <;> rfl, by rcases (show c.kk i = 0 ∨ c.kk i = 1 ∨ c.kk i = 2 by omega) with z | z | z <;> rw [z] <;> rfl⟩)
set_option maxRecDepth 100000 in
set_option maxHeartbeats 4000000 in
theorem sp_X10_act_1 {D : G} {mo : Nat} {ma : Nat → Nat} {c : CS} {c2 : CS} {tk : Int32} {vc : Nat} {ln : Nat} {rn : Nat} {zs_10 : Int32} {zs_11 : Int32} {zs_20 : Int32} {zs_21 : Int32} {zs_22 : Int32} {zs_25 : Int32} {zs_26 : Int32} {zs_27 : Int32} {zs_29 : Int32} {f : Nat → Int32} {i : Int32} {a : Int32} {x : Int32} (hC : cOk c) (hi : ¬ isIx i c.men) : Sp D mX10_act 30 0 0 [.ref mo, .int i, .int a, .int x] [(mo, .inr (10, M1R ma (mZ c c2 tk vc ln rn zs_10 zs_11 zs_20 zs_21 zs_22 zs_25 zs_26 zs_27 zs_29))), ((ma 4), eI D 6 (nF c.kk)), ((ma 5), eI D 6 (nF c.vv)), ((ma 6), eI D 6 c.hd), ((ma 30), eI D 8 (nF c.crf)), ((ma 35), eI D 12 (nF c.bo)), ((ma 50), eI D 20 f)] (fun r w => ∃ zs2_10 : Int32, ∃ zs2_11 : Int32, ∃ zs2_20 : Int32, ∃ zs2_21 : Int32, ∃ zs2_22 : Int32, ∃ zs2_25 : Int32, ∃ zs2_26 : Int32, ∃ zs2_27 : Int32, ∃ zs2_29 : Int32, r = some (.int 0) ∧ w = [(mo, .inr (10, M1R ma (mZ c c2 tk vc ln 0 zs2_10 zs2_11 zs2_20 zs2_21 zs2_22 zs2_25 zs2_26 zs2_27 zs2_29))), ((ma 4), eI D 6 (nF c.kk)), ((ma 5), eI D 6 (nF c.vv)), ((ma 6), eI D 6 c.hd), ((ma 30), eI D 8 (nF c.crf)), ((ma 35), eI D 12 (nF c.bo)), ((ma 50), eI D 20 f)]) := by
  refine Sp.of (by decide) (Nat.le_of_ble_eq_true rfl) (fun X O T => ?_)
  refine v_eq (lv' := [(0, .ref mo), (1, .int i), (2, .int a), (3, .int x)]) rfl rfl rfl rfl ?_
  have z_m := hC.1
  refine v_aload_n O dX10_act_0 0 rfl ?_
  refine v_iconst (v := 0) O dX10_act_1 (by decide) ?_
  refine pf_X10_160 (fs' := M1R ma (mZ c c2 tk vc ln 0 zs_10 zs_11 zs_20 zs_21 zs_22 zs_25 zs_26 zs_27 zs_29)) (ws' := [(mo, .inr (10, M1R ma (mZ c c2 tk vc ln 0 zs_10 zs_11 zs_20 zs_21 zs_22 zs_25 zs_26 zs_27 zs_29))), ((ma 4), eI D 6 (nF c.kk)), ((ma 5), eI D 6 (nF c.vv)), ((ma 6), eI D 6 c.hd), ((ma 30), eI D 8 (nF c.crf)), ((ma 35), eI D 12 (nF c.bo)), ((ma 50), eI D 20 f)]) O rfl dX10_act_2 0 rfl (Nat.le_of_ble_eq_true rfl) rfl rfl ?_
  refine v_aload_n O dX10_act_5 0 rfl ?_
  refine v_iload_n O dX10_act_6 1 rfl ?_
  refine v_cV (T := TX10) (ci := 10) (As := [.int i]) (wr := [((ma 4), eI D 6 (nF c.kk)), ((ma 5), eI D 6 (nF c.vv)), ((ma 6), eI D 6 c.hd), ((ma 30), eI D 8 (nF c.crf)), ((ma 35), eI D 12 (nF c.bo)), ((ma 50), eI D 20 f)]) (st := []) O cf_X10_281 rfl (sp_X10_isMan (mo := mo) (ma := ma) (c := c) (c2 := c2) (tk := tk) (vc := vc) (ln := ln) (rn := 0) (zs_10 := zs_10) (zs_11 := zs_11) (zs_20 := zs_20) (zs_21 := zs_21) (zs_22 := zs_22) (zs_25 := zs_25) (zs_26 := zs_26) (zs_27 := zs_27) (zs_29 := zs_29) (i := i) (hC.1)) dX10_act_7 rfl rfl 0 rfl [0] [1, 2, 3, 4, 5, 6] (by decide) rfl rfl (by decide) (by decide) (by decide) (Nat.le_of_ble_eq_true rfl) (by decide) (by decide) (fun r_2 w_3 h_1 => ?_)
  obtain ⟨rfl, rfl⟩ := h_1
  refine v_eq (st' := [.int (b2i (isIx i c.men))]) (ws' := [((ma 4), eI D 6 (nF c.kk)), ((ma 5), eI D 6 (nF c.vv)), ((ma 6), eI D 6 c.hd), ((ma 30), eI D 8 (nF c.crf)), ((ma 35), eI D 12 (nF c.bo)), ((ma 50), eI D 20 f), (mo, .inr (10, M1R ma (mZ c c2 tk vc ln 0 zs_10 zs_11 zs_20 zs_21 zs_22 zs_25 zs_26 zs_27 zs_29)))]) rfl rfl rfl rfl ?_
  refine v_if_eq O 23 dX10_act_10 (by decide) (fun z1 => ?_) (fun z1 => ?_)
  · skip
    have z1 := b2i_0.mp z1
    refine v_iconst (v := 0) O dX10_act_23 (by decide) ?_
    refine v_sub (ws' := [(mo, .inr (10, M1R ma (mZ c c2 tk vc ln 0 zs_10 zs_11 zs_20 zs_21 zs_22 zs_25 zs_26 zs_27 zs_29))), ((ma 4), eI D 6 (nF c.kk)), ((ma 5), eI D 6 (nF c.vv)), ((ma 6), eI D 6 c.hd), ((ma 30), eI D 8 (nF c.crf)), ((ma 35), eI D 12 (nF c.bo)), ((ma 50), eI D 20 f)]) [6, 0, 1, 2, 3, 4, 5] (by decide) rfl ?_
    exact v_ireturn O T rfl rfl (by decide) (by decide) dX10_act_24 (⟨zs_10, zs_11, zs_20, zs_21, zs_22, zs_25, zs_26, zs_27, zs_29, rfl, rfl⟩)
  · skip
    have z1 := b2i_1.mp z1
    exact absurd z1 hi
set_option maxRecDepth 100000 in
set_option maxHeartbeats 4000000 in
theorem sp_X10_act_2 {D : G} {mo : Nat} {ma : Nat → Nat} {c : CS} {c2 : CS} {tk : Int32} {vc : Nat} {ln : Nat} {rn : Nat} {zs_10 : Int32} {zs_11 : Int32} {zs_20 : Int32} {zs_21 : Int32} {zs_22 : Int32} {zs_25 : Int32} {zs_26 : Int32} {zs_27 : Int32} {zs_29 : Int32} {f : Nat → Int32} {i : Nat} {a : Int32} {x : Int32} (hC : cOk c) (hi : i < c.men) (ha : ¬ isIx a 3) : Sp D mX10_act 30 0 0 [.ref mo, .int (nI i), .int a, .int x] [(mo, .inr (10, M1R ma (mZ c c2 tk vc ln rn zs_10 zs_11 zs_20 zs_21 zs_22 zs_25 zs_26 zs_27 zs_29))), ((ma 4), eI D 6 (nF c.kk)), ((ma 5), eI D 6 (nF c.vv)), ((ma 6), eI D 6 c.hd), ((ma 30), eI D 8 (nF c.crf)), ((ma 35), eI D 12 (nF c.bo)), ((ma 50), eI D 20 f)] (fun r w => ∃ zs2_10 : Int32, ∃ zs2_11 : Int32, ∃ zs2_20 : Int32, ∃ zs2_21 : Int32, ∃ zs2_22 : Int32, ∃ zs2_25 : Int32, ∃ zs2_26 : Int32, ∃ zs2_27 : Int32, ∃ zs2_29 : Int32, r = some (.int 0) ∧ w = [(mo, .inr (10, M1R ma (mZ c c2 tk vc ln 0 zs2_10 zs2_11 zs2_20 zs2_21 zs2_22 zs2_25 zs2_26 zs2_27 zs2_29))), ((ma 4), eI D 6 (nF c.kk)), ((ma 5), eI D 6 (nF c.vv)), ((ma 6), eI D 6 c.hd), ((ma 30), eI D 8 (nF c.crf)), ((ma 35), eI D 12 (nF c.bo)), ((ma 50), eI D 20 f)]) := by
  refine Sp.of (by decide) (Nat.le_of_ble_eq_true rfl) (fun X O T => ?_)
  refine v_eq (lv' := [(0, .ref mo), (1, .int (nI i)), (2, .int a), (3, .int x)]) rfl rfl rfl rfl ?_
  have z_m := hC.1
  refine v_aload_n O dX10_act_0 0 rfl ?_
  refine v_iconst (v := 0) O dX10_act_1 (by decide) ?_
  refine pf_X10_160 (fs' := M1R ma (mZ c c2 tk vc ln 0 zs_10 zs_11 zs_20 zs_21 zs_22 zs_25 zs_26 zs_27 zs_29)) (ws' := [(mo, .inr (10, M1R ma (mZ c c2 tk vc ln 0 zs_10 zs_11 zs_20 zs_21 zs_22 zs_25 zs_26 zs_27 zs_29))), ((ma 4), eI D 6 (nF c.kk)), ((ma 5), eI D 6 (nF c.vv)), ((ma 6), eI D 6 c.hd), ((ma 30), eI D 8 (nF c.crf)), ((ma 35), eI D 12 (nF c.bo)), ((ma 50), eI D 20 f)]) O rfl dX10_act_2 0 rfl (Nat.le_of_ble_eq_true rfl) rfl rfl ?_
  refine v_aload_n O dX10_act_5 0 rfl ?_
  refine v_iload_n O dX10_act_6 1 rfl ?_
  refine v_cV (T := TX10) (ci := 10) (As := [.int (nI i)]) (wr := [((ma 4), eI D 6 (nF c.kk)), ((ma 5), eI D 6 (nF c.vv)), ((ma 6), eI D 6 c.hd), ((ma 30), eI D 8 (nF c.crf)), ((ma 35), eI D 12 (nF c.bo)), ((ma 50), eI D 20 f)]) (st := []) O cf_X10_281 rfl (sp_X10_isMan (mo := mo) (ma := ma) (c := c) (c2 := c2) (tk := tk) (vc := vc) (ln := ln) (rn := 0) (zs_10 := zs_10) (zs_11 := zs_11) (zs_20 := zs_20) (zs_21 := zs_21) (zs_22 := zs_22) (zs_25 := zs_25) (zs_26 := zs_26) (zs_27 := zs_27) (zs_29 := zs_29) (i := (nI i)) (hC.1)) dX10_act_7 rfl rfl 0 rfl [0] [1, 2, 3, 4, 5, 6] (by decide) rfl rfl (by decide) (by decide) (by decide) (Nat.le_of_ble_eq_true rfl) (by decide) (by decide) (fun r_2 w_3 h_1 => ?_)
  obtain ⟨rfl, rfl⟩ := h_1
  refine v_eq (st' := [.int (b2i (isIx (nI i) c.men))]) (ws' := [((ma 4), eI D 6 (nF c.kk)), ((ma 5), eI D 6 (nF c.vv)), ((ma 6), eI D 6 c.hd), ((ma 30), eI D 8 (nF c.crf)), ((ma 35), eI D 12 (nF c.bo)), ((ma 50), eI D 20 f), (mo, .inr (10, M1R ma (mZ c c2 tk vc ln 0 zs_10 zs_11 zs_20 zs_21 zs_22 zs_25 zs_26 zs_27 zs_29)))]) rfl rfl rfl rfl ?_
  refine v_if_eq O 23 dX10_act_10 (by decide) (fun z1 => ?_) (fun z1 => ?_)
  · skip
    have z1 := b2i_0.mp z1
    exact absurd ((isIx_nI (by omega) (by omega)).mpr hi) z1
  · skip
    have z1 := b2i_1.mp z1
    refine v_aload_n O dX10_act_13 0 rfl ?_
    refine v_iload_n O dX10_act_14 2 rfl ?_
    refine v_iconst (v := 0) O dX10_act_15 (by decide) ?_
    refine v_iconst (v := 2) O dX10_act_16 (by decide) ?_
    refine v_cV (T := TX10) (ci := 10) (As := [.int a, .int 0, .int 2]) (wr := [((ma 4), eI D 6 (nF c.kk)), ((ma 5), eI D 6 (nF c.vv)), ((ma 6), eI D 6 c.hd), ((ma 30), eI D 8 (nF c.crf)), ((ma 35), eI D 12 (nF c.bo)), ((ma 50), eI D 20 f), (mo, .inr (10, M1R ma (mZ c c2 tk vc ln 0 zs_10 zs_11 zs_20 zs_21 zs_22 zs_25 zs_26 zs_27 zs_29)))]) (st := []) O cf_X10_179 rfl (sp_X10_in_0 (mo := mo) (x := a) (h := 2) (zn := 3) (rfl) (by decide)) dX10_act_17 rfl rfl 6 rfl [] [0, 1, 2, 3, 4, 5, 6] (by decide) rfl rfl (by decide) (by decide) (by decide) (Nat.le_of_ble_eq_true rfl) (by decide) (by decide) (fun r_5 w_6 h_4 => ?_)
    obtain ⟨rfl, rfl⟩ := h_4
    refine v_eq (st' := [.int (b2i (isIx a 3))]) (ws' := [((ma 4), eI D 6 (nF c.kk)), ((ma 5), eI D 6 (nF c.vv)), ((ma 6), eI D 6 c.hd), ((ma 30), eI D 8 (nF c.crf)), ((ma 35), eI D 12 (nF c.bo)), ((ma 50), eI D 20 f), (mo, .inr (10, M1R ma (mZ c c2 tk vc ln 0 zs_10 zs_11 zs_20 zs_21 zs_22 zs_25 zs_26 zs_27 zs_29)))]) rfl rfl rfl rfl ?_
    refine v_if_ne O 25 dX10_act_20 (by decide) (fun z2 => ?_) (fun z2 => ?_)
    · skip
      have z2 := b2i_1.mp z2
      exact absurd z2 ha
    · skip
      have z2 := b2i_0.mp z2
      refine v_iconst (v := 0) O dX10_act_23 (by decide) ?_
      refine v_sub (ws' := [(mo, .inr (10, M1R ma (mZ c c2 tk vc ln 0 zs_10 zs_11 zs_20 zs_21 zs_22 zs_25 zs_26 zs_27 zs_29))), ((ma 4), eI D 6 (nF c.kk)), ((ma 5), eI D 6 (nF c.vv)), ((ma 6), eI D 6 c.hd), ((ma 30), eI D 8 (nF c.crf)), ((ma 35), eI D 12 (nF c.bo)), ((ma 50), eI D 20 f)]) [6, 0, 1, 2, 3, 4, 5] (by decide) rfl ?_
      exact v_ireturn O T rfl rfl (by decide) (by decide) dX10_act_24 (⟨zs_10, zs_11, zs_20, zs_21, zs_22, zs_25, zs_26, zs_27, zs_29, rfl, rfl⟩)
set_option maxRecDepth 100000 in
set_option maxHeartbeats 4000000 in
theorem sp_X10_act_3 {D : G} {mo : Nat} {ma : Nat → Nat} {c : CS} {c2 : CS} {tk : Int32} {vc : Nat} {ln : Nat} {rn : Nat} {zs_10 : Int32} {zs_11 : Int32} {zs_20 : Int32} {zs_21 : Int32} {zs_22 : Int32} {zs_25 : Int32} {zs_26 : Int32} {zs_27 : Int32} {zs_29 : Int32} {f : Nat → Int32} {i : Nat} {x : Int32} (hC : cOk c) (hi : i < c.men) : Sp D mX10_act 30 0 0 [.ref mo, .int (nI i), .int 0, .int x] [(mo, .inr (10, M1R ma (mZ c c2 tk vc ln rn zs_10 zs_11 zs_20 zs_21 zs_22 zs_25 zs_26 zs_27 zs_29))), ((ma 4), eI D 6 (nF c.kk)), ((ma 5), eI D 6 (nF c.vv)), ((ma 6), eI D 6 c.hd), ((ma 30), eI D 8 (nF c.crf)), ((ma 35), eI D 12 (nF c.bo)), ((ma 50), eI D 20 f)] (fun r w => ∃ zs2_10 : Int32, ∃ zs2_11 : Int32, ∃ zs2_20 : Int32, ∃ zs2_21 : Int32, ∃ zs2_22 : Int32, ∃ zs2_25 : Int32, ∃ zs2_26 : Int32, ∃ zs2_27 : Int32, ∃ zs2_29 : Int32, r = some (.int (wV (nI i) (nI (c.vv i)) x (c.kk i))) ∧ w = [(mo, .inr (10, M1R ma (mZ c c2 tk vc ln ((wL (c.kk i)).length) zs2_10 zs2_11 zs2_20 zs2_21 zs2_22 zs2_25 zs2_26 zs2_27 zs2_29))), ((ma 4), eI D 6 (nF c.kk)), ((ma 5), eI D 6 (nF c.vv)), ((ma 6), eI D 6 c.hd), ((ma 30), eI D 8 (nF c.crf)), ((ma 35), eI D 12 (nF c.bo)), ((ma 50), eI D 20 (trW f 0 (wL (c.kk i))))]) := by
  refine Sp.of (by decide) (Nat.le_of_ble_eq_true rfl) (fun X O T => ?_)
  refine v_eq (lv' := [(0, .ref mo), (1, .int (nI i)), (2, .int 0), (3, .int x)]) rfl rfl rfl rfl ?_
  have z_m := hC.1
  refine v_aload_n O dX10_act_0 0 rfl ?_
  refine v_iconst (v := 0) O dX10_act_1 (by decide) ?_
  refine pf_X10_160 (fs' := M1R ma (mZ c c2 tk vc ln 0 zs_10 zs_11 zs_20 zs_21 zs_22 zs_25 zs_26 zs_27 zs_29)) (ws' := [(mo, .inr (10, M1R ma (mZ c c2 tk vc ln 0 zs_10 zs_11 zs_20 zs_21 zs_22 zs_25 zs_26 zs_27 zs_29))), ((ma 4), eI D 6 (nF c.kk)), ((ma 5), eI D 6 (nF c.vv)), ((ma 6), eI D 6 c.hd), ((ma 30), eI D 8 (nF c.crf)), ((ma 35), eI D 12 (nF c.bo)), ((ma 50), eI D 20 f)]) O rfl dX10_act_2 0 rfl (Nat.le_of_ble_eq_true rfl) rfl rfl ?_
  refine v_aload_n O dX10_act_5 0 rfl ?_
  refine v_iload_n O dX10_act_6 1 rfl ?_
  refine v_cV (T := TX10) (ci := 10) (As := [.int (nI i)]) (wr := [((ma 4), eI D 6 (nF c.kk)), ((ma 5), eI D 6 (nF c.vv)), ((ma 6), eI D 6 c.hd), ((ma 30), eI D 8 (nF c.crf)), ((ma 35), eI D 12 (nF c.bo)), ((ma 50), eI D 20 f)]) (st := []) O cf_X10_281 rfl (sp_X10_isMan (mo := mo) (ma := ma) (c := c) (c2 := c2) (tk := tk) (vc := vc) (ln := ln) (rn := 0) (zs_10 := zs_10) (zs_11 := zs_11) (zs_20 := zs_20) (zs_21 := zs_21) (zs_22 := zs_22) (zs_25 := zs_25) (zs_26 := zs_26) (zs_27 := zs_27) (zs_29 := zs_29) (i := (nI i)) (hC.1)) dX10_act_7 rfl rfl 0 rfl [0] [1, 2, 3, 4, 5, 6] (by decide) rfl rfl (by decide) (by decide) (by decide) (Nat.le_of_ble_eq_true rfl) (by decide) (by decide) (fun r_2 w_3 h_1 => ?_)
  obtain ⟨rfl, rfl⟩ := h_1
  refine v_eq (st' := [.int (b2i (isIx (nI i) c.men))]) (ws' := [((ma 4), eI D 6 (nF c.kk)), ((ma 5), eI D 6 (nF c.vv)), ((ma 6), eI D 6 c.hd), ((ma 30), eI D 8 (nF c.crf)), ((ma 35), eI D 12 (nF c.bo)), ((ma 50), eI D 20 f), (mo, .inr (10, M1R ma (mZ c c2 tk vc ln 0 zs_10 zs_11 zs_20 zs_21 zs_22 zs_25 zs_26 zs_27 zs_29)))]) rfl rfl rfl rfl ?_
  refine v_if_eq O 23 dX10_act_10 (by decide) (fun z1 => ?_) (fun z1 => ?_)
  · skip
    have z1 := b2i_0.mp z1
    exact absurd ((isIx_nI (by omega) (by omega)).mpr hi) z1
  · skip
    have z1 := b2i_1.mp z1
    refine v_aload_n O dX10_act_13 0 rfl ?_
    refine v_iload_n O dX10_act_14 2 rfl ?_
    refine v_iconst (v := 0) O dX10_act_15 (by decide) ?_
    refine v_iconst (v := 2) O dX10_act_16 (by decide) ?_
    refine v_cV (T := TX10) (ci := 10) (As := [.int 0, .int 0, .int 2]) (wr := [((ma 4), eI D 6 (nF c.kk)), ((ma 5), eI D 6 (nF c.vv)), ((ma 6), eI D 6 c.hd), ((ma 30), eI D 8 (nF c.crf)), ((ma 35), eI D 12 (nF c.bo)), ((ma 50), eI D 20 f), (mo, .inr (10, M1R ma (mZ c c2 tk vc ln 0 zs_10 zs_11 zs_20 zs_21 zs_22 zs_25 zs_26 zs_27 zs_29)))]) (st := []) O cf_X10_179 rfl (sp_X10_in_0 (mo := mo) (x := 0) (h := 2) (zn := 3) (rfl) (by decide)) dX10_act_17 rfl rfl 6 rfl [] [0, 1, 2, 3, 4, 5, 6] (by decide) rfl rfl (by decide) (by decide) (by decide) (Nat.le_of_ble_eq_true rfl) (by decide) (by decide) (fun r_5 w_6 h_4 => ?_)
    obtain ⟨rfl, rfl⟩ := h_4
    refine v_eq (st' := [.int (b2i (isIx 0 3))]) (ws' := [((ma 4), eI D 6 (nF c.kk)), ((ma 5), eI D 6 (nF c.vv)), ((ma 6), eI D 6 c.hd), ((ma 30), eI D 8 (nF c.crf)), ((ma 35), eI D 12 (nF c.bo)), ((ma 50), eI D 20 f), (mo, .inr (10, M1R ma (mZ c c2 tk vc ln 0 zs_10 zs_11 zs_20 zs_21 zs_22 zs_25 zs_26 zs_27 zs_29)))]) rfl rfl rfl rfl ?_
    refine v_if_ne O 25 dX10_act_20 (by decide) (fun z2 => ?_) (fun z2 => ?_)
    · skip
      have z2 := b2i_1.mp z2
      refine v_iload_n O dX10_act_25 2 rfl ?_
      refine v_if_ne O 38 dX10_act_26 (by decide) (fun c => absurd c (by decide)) (fun _ => ?_)
      refine v_aload_n O dX10_act_29 0 rfl ?_
      refine v_iload_n O dX10_act_30 1 rfl ?_
      refine v_iload_n O dX10_act_31 3 rfl ?_
      refine v_cV (T := TX10) (ci := 10) (As := [.int (nI i), .int x]) (wr := [((ma 6), eI D 6 c.hd), ((ma 30), eI D 8 (nF c.crf)), ((ma 35), eI D 12 (nF c.bo))]) (st := []) O cf_X10_324 rfl (sp_X10_wakesAct (mo := mo) (ma := ma) (c := c) (c2 := c2) (tk := tk) (vc := vc) (ln := ln) (rn := 0) (zs_10 := zs_10) (zs_11 := zs_11) (zs_20 := zs_20) (zs_21 := zs_21) (zs_22 := zs_22) (zs_25 := zs_25) (zs_26 := zs_26) (zs_27 := zs_27) (zs_29 := zs_29) (f := f) (i := i) (x := x) (by omega) (hC.2.1 i (by omega)) (by decide)) dX10_act_32 rfl rfl 6 rfl [6, 0, 1, 5] [2, 3, 4] (by decide) rfl rfl (by decide) (by decide) (by decide) (Nat.le_of_ble_eq_true rfl) (by decide) (by decide) (fun r_9 w_10 h_8 => ?_)
      obtain ⟨rfl, rfl⟩ := h_8
      refine v_eq (st' := [.int (wV (nI i) (nI (c.vv i)) x (c.kk i))]) (ws' := [((ma 6), eI D 6 c.hd), ((ma 30), eI D 8 (nF c.crf)), ((ma 35), eI D 12 (nF c.bo)), (mo, .inr (10, M1R ma (mZ c c2 tk vc ln (0 + (wL (c.kk i)).length) zs_10 zs_11 zs_20 zs_21 zs_22 zs_25 zs_26 zs_27 zs_29))), ((ma 4), eI D 6 (nF c.kk)), ((ma 5), eI D 6 (nF c.vv)), ((ma 50), eI D 20 (trW f 0 (wL (c.kk i))))]) rfl rfl rfl rfl ?_
      refine v_goto O 58 dX10_act_35 (by decide) ?_
      refine v_sub (ws' := [(mo, .inr (10, M1R ma (mZ c c2 tk vc ln (0 + (wL (c.kk i)).length) zs_10 zs_11 zs_20 zs_21 zs_22 zs_25 zs_26 zs_27 zs_29))), ((ma 4), eI D 6 (nF c.kk)), ((ma 5), eI D 6 (nF c.vv)), ((ma 6), eI D 6 c.hd), ((ma 30), eI D 8 (nF c.crf)), ((ma 35), eI D 12 (nF c.bo)), ((ma 50), eI D 20 (trW f 0 (wL (c.kk i))))]) [3, 4, 5, 0, 1, 2, 6] (by decide) rfl ?_
      exact v_ireturn O T rfl rfl (by decide) (by decide) dX10_act_58 (⟨zs_10, zs_11, zs_20, zs_21, zs_22, zs_25, zs_26, zs_27, zs_29, rfl, by simp only [Nat.zero_add]⟩)
    · skip
      have z2 := b2i_0.mp z2
      exact absurd ⟨0, by decide, rfl⟩ z2
set_option maxRecDepth 100000 in
set_option maxHeartbeats 4000000 in
theorem sp_X10_act_4 {D : G} {mo : Nat} {ma : Nat → Nat} {c : CS} {c2 : CS} {tk : Int32} {vc : Nat} {ln : Nat} {rn : Nat} {zs_10 : Int32} {zs_11 : Int32} {zs_20 : Int32} {zs_21 : Int32} {zs_22 : Int32} {zs_25 : Int32} {zs_26 : Int32} {zs_27 : Int32} {zs_29 : Int32} {f : Nat → Int32} {i : Nat} {x : Int32} (hC : cOk c) (hi : i < c.men) : Sp D mX10_act 30 0 0 [.ref mo, .int (nI i), .int 1, .int x] [(mo, .inr (10, M1R ma (mZ c c2 tk vc ln rn zs_10 zs_11 zs_20 zs_21 zs_22 zs_25 zs_26 zs_27 zs_29))), ((ma 4), eI D 6 (nF c.kk)), ((ma 5), eI D 6 (nF c.vv)), ((ma 6), eI D 6 c.hd), ((ma 30), eI D 8 (nF c.crf)), ((ma 35), eI D 12 (nF c.bo)), ((ma 50), eI D 20 f)] (fun r w => ∃ zs2_10 : Int32, ∃ zs2_11 : Int32, ∃ zs2_20 : Int32, ∃ zs2_21 : Int32, ∃ zs2_22 : Int32, ∃ zs2_25 : Int32, ∃ zs2_26 : Int32, ∃ zs2_27 : Int32, ∃ zs2_29 : Int32, r = some (.int (hV (nI i) (nI (c.vv i)) (c.kk i) x (c.kk i))) ∧ w = [(mo, .inr (10, M1R ma (mZ c c2 tk vc ln ((hL (c.kk i) (c.kk i)).length) zs2_10 zs2_11 zs2_20 zs2_21 zs2_22 zs2_25 zs2_26 zs2_27 zs2_29))), ((ma 4), eI D 6 (nF c.kk)), ((ma 5), eI D 6 (nF c.vv)), ((ma 6), eI D 6 c.hd), ((ma 30), eI D 8 (nF c.crf)), ((ma 35), eI D 12 (nF c.bo)), ((ma 50), eI D 20 (trW f 0 (hL (c.kk i) (c.kk i))))]) := by
  refine Sp.of (by decide) (Nat.le_of_ble_eq_true rfl) (fun X O T => ?_)
  refine v_eq (lv' := [(0, .ref mo), (1, .int (nI i)), (2, .int 1), (3, .int x)]) rfl rfl rfl rfl ?_
  have z_m := hC.1
  refine v_aload_n O dX10_act_0 0 rfl ?_
  refine v_iconst (v := 0) O dX10_act_1 (by decide) ?_
  refine pf_X10_160 (fs' := M1R ma (mZ c c2 tk vc ln 0 zs_10 zs_11 zs_20 zs_21 zs_22 zs_25 zs_26 zs_27 zs_29)) (ws' := [(mo, .inr (10, M1R ma (mZ c c2 tk vc ln 0 zs_10 zs_11 zs_20 zs_21 zs_22 zs_25 zs_26 zs_27 zs_29))), ((ma 4), eI D 6 (nF c.kk)), ((ma 5), eI D 6 (nF c.vv)), ((ma 6), eI D 6 c.hd), ((ma 30), eI D 8 (nF c.crf)), ((ma 35), eI D 12 (nF c.bo)), ((ma 50), eI D 20 f)]) O rfl dX10_act_2 0 rfl (Nat.le_of_ble_eq_true rfl) rfl rfl ?_
  refine v_aload_n O dX10_act_5 0 rfl ?_
  refine v_iload_n O dX10_act_6 1 rfl ?_
  refine v_cV (T := TX10) (ci := 10) (As := [.int (nI i)]) (wr := [((ma 4), eI D 6 (nF c.kk)), ((ma 5), eI D 6 (nF c.vv)), ((ma 6), eI D 6 c.hd), ((ma 30), eI D 8 (nF c.crf)), ((ma 35), eI D 12 (nF c.bo)), ((ma 50), eI D 20 f)]) (st := []) O cf_X10_281 rfl (sp_X10_isMan (mo := mo) (ma := ma) (c := c) (c2 := c2) (tk := tk) (vc := vc) (ln := ln) (rn := 0) (zs_10 := zs_10) (zs_11 := zs_11) (zs_20 := zs_20) (zs_21 := zs_21) (zs_22 := zs_22) (zs_25 := zs_25) (zs_26 := zs_26) (zs_27 := zs_27) (zs_29 := zs_29) (i := (nI i)) (hC.1)) dX10_act_7 rfl rfl 0 rfl [0] [1, 2, 3, 4, 5, 6] (by decide) rfl rfl (by decide) (by decide) (by decide) (Nat.le_of_ble_eq_true rfl) (by decide) (by decide) (fun r_2 w_3 h_1 => ?_)
  obtain ⟨rfl, rfl⟩ := h_1
  refine v_eq (st' := [.int (b2i (isIx (nI i) c.men))]) (ws' := [((ma 4), eI D 6 (nF c.kk)), ((ma 5), eI D 6 (nF c.vv)), ((ma 6), eI D 6 c.hd), ((ma 30), eI D 8 (nF c.crf)), ((ma 35), eI D 12 (nF c.bo)), ((ma 50), eI D 20 f), (mo, .inr (10, M1R ma (mZ c c2 tk vc ln 0 zs_10 zs_11 zs_20 zs_21 zs_22 zs_25 zs_26 zs_27 zs_29)))]) rfl rfl rfl rfl ?_
  refine v_if_eq O 23 dX10_act_10 (by decide) (fun z1 => ?_) (fun z1 => ?_)
  · skip
    have z1 := b2i_0.mp z1
    exact absurd ((isIx_nI (by omega) (by omega)).mpr hi) z1
  · skip
    have z1 := b2i_1.mp z1
    refine v_aload_n O dX10_act_13 0 rfl ?_
    refine v_iload_n O dX10_act_14 2 rfl ?_
    refine v_iconst (v := 0) O dX10_act_15 (by decide) ?_
    refine v_iconst (v := 2) O dX10_act_16 (by decide) ?_
    refine v_cV (T := TX10) (ci := 10) (As := [.int 1, .int 0, .int 2]) (wr := [((ma 4), eI D 6 (nF c.kk)), ((ma 5), eI D 6 (nF c.vv)), ((ma 6), eI D 6 c.hd), ((ma 30), eI D 8 (nF c.crf)), ((ma 35), eI D 12 (nF c.bo)), ((ma 50), eI D 20 f), (mo, .inr (10, M1R ma (mZ c c2 tk vc ln 0 zs_10 zs_11 zs_20 zs_21 zs_22 zs_25 zs_26 zs_27 zs_29)))]) (st := []) O cf_X10_179 rfl (sp_X10_in_0 (mo := mo) (x := 1) (h := 2) (zn := 3) (rfl) (by decide)) dX10_act_17 rfl rfl 6 rfl [] [0, 1, 2, 3, 4, 5, 6] (by decide) rfl rfl (by decide) (by decide) (by decide) (Nat.le_of_ble_eq_true rfl) (by decide) (by decide) (fun r_5 w_6 h_4 => ?_)
    obtain ⟨rfl, rfl⟩ := h_4
    refine v_eq (st' := [.int (b2i (isIx 1 3))]) (ws' := [((ma 4), eI D 6 (nF c.kk)), ((ma 5), eI D 6 (nF c.vv)), ((ma 6), eI D 6 c.hd), ((ma 30), eI D 8 (nF c.crf)), ((ma 35), eI D 12 (nF c.bo)), ((ma 50), eI D 20 f), (mo, .inr (10, M1R ma (mZ c c2 tk vc ln 0 zs_10 zs_11 zs_20 zs_21 zs_22 zs_25 zs_26 zs_27 zs_29)))]) rfl rfl rfl rfl ?_
    refine v_if_ne O 25 dX10_act_20 (by decide) (fun z2 => ?_) (fun z2 => ?_)
    · skip
      have z2 := b2i_1.mp z2
      refine v_iload_n O dX10_act_25 2 rfl ?_
      refine v_if_ne O 38 dX10_act_26 (by decide) (fun _ => ?_) (fun c => absurd c (by decide))
      refine v_iload_n O dX10_act_38 2 rfl ?_
      refine v_iconst (v := 1) O dX10_act_39 (by decide) ?_
      refine v_icmp_ne O 52 dX10_act_40 (by decide) (fun c => absurd c (by decide)) (fun _ => ?_)
      refine v_aload_n O dX10_act_43 0 rfl ?_
      refine v_iload_n O dX10_act_44 1 rfl ?_
      refine v_iload_n O dX10_act_45 3 rfl ?_
      refine v_cV (T := TX10) (ci := 10) (As := [.int (nI i), .int x]) (wr := [((ma 6), eI D 6 c.hd), ((ma 30), eI D 8 (nF c.crf)), ((ma 35), eI D 12 (nF c.bo))]) (st := []) O cf_X10_333 rfl (sp_X10_hidesAct (mo := mo) (ma := ma) (c := c) (c2 := c2) (tk := tk) (vc := vc) (ln := ln) (rn := 0) (zs_10 := zs_10) (zs_11 := zs_11) (zs_20 := zs_20) (zs_21 := zs_21) (zs_22 := zs_22) (zs_25 := zs_25) (zs_26 := zs_26) (zs_27 := zs_27) (zs_29 := zs_29) (f := f) (i := i) (x := x) (by omega) (hC.2.1 i (by omega)) (by decide)) dX10_act_46 rfl rfl 6 rfl [6, 0, 1, 5] [2, 3, 4] (by decide) rfl rfl (by decide) (by decide) (by decide) (Nat.le_of_ble_eq_true rfl) (by decide) (by decide) (fun r_10 w_11 h_9 => ?_)
      obtain ⟨rfl, rfl⟩ := h_9
      refine v_eq (st' := [.int (hV (nI i) (nI (c.vv i)) (c.kk i) x (c.kk i))]) (ws' := [((ma 6), eI D 6 c.hd), ((ma 30), eI D 8 (nF c.crf)), ((ma 35), eI D 12 (nF c.bo)), (mo, .inr (10, M1R ma (mZ c c2 tk vc ln (0 + (hL (c.kk i) (c.kk i)).length) zs_10 zs_11 zs_20 zs_21 zs_22 zs_25 zs_26 zs_27 zs_29))), ((ma 4), eI D 6 (nF c.kk)), ((ma 5), eI D 6 (nF c.vv)), ((ma 50), eI D 20 (trW f 0 (hL (c.kk i) (c.kk i))))]) rfl rfl rfl rfl ?_
      refine v_goto O 58 dX10_act_49 (by decide) ?_
      refine v_sub (ws' := [(mo, .inr (10, M1R ma (mZ c c2 tk vc ln (0 + (hL (c.kk i) (c.kk i)).length) zs_10 zs_11 zs_20 zs_21 zs_22 zs_25 zs_26 zs_27 zs_29))), ((ma 4), eI D 6 (nF c.kk)), ((ma 5), eI D 6 (nF c.vv)), ((ma 6), eI D 6 c.hd), ((ma 30), eI D 8 (nF c.crf)), ((ma 35), eI D 12 (nF c.bo)), ((ma 50), eI D 20 (trW f 0 (hL (c.kk i) (c.kk i))))]) [3, 4, 5, 0, 1, 2, 6] (by decide) rfl ?_
      exact v_ireturn O T rfl rfl (by decide) (by decide) dX10_act_58 (⟨zs_10, zs_11, zs_20, zs_21, zs_22, zs_25, zs_26, zs_27, zs_29, rfl, by simp only [Nat.zero_add]⟩)
    · skip
      have z2 := b2i_0.mp z2
      exact absurd ⟨1, by decide, rfl⟩ z2
set_option maxRecDepth 100000 in
set_option maxHeartbeats 4000000 in
theorem sp_X10_act_5 {D : G} {mo : Nat} {ma : Nat → Nat} {c : CS} {c2 : CS} {tk : Int32} {vc : Nat} {ln : Nat} {rn : Nat} {zs_10 : Int32} {zs_11 : Int32} {zs_20 : Int32} {zs_21 : Int32} {zs_22 : Int32} {zs_25 : Int32} {zs_26 : Int32} {zs_27 : Int32} {zs_29 : Int32} {f : Nat → Int32} {i : Nat} {x : Int32} (hC : cOk c) (hi : i < c.men) : Sp D mX10_act 30 0 0 [.ref mo, .int (nI i), .int 2, .int x] [(mo, .inr (10, M1R ma (mZ c c2 tk vc ln rn zs_10 zs_11 zs_20 zs_21 zs_22 zs_25 zs_26 zs_27 zs_29))), ((ma 4), eI D 6 (nF c.kk)), ((ma 5), eI D 6 (nF c.vv)), ((ma 6), eI D 6 c.hd), ((ma 30), eI D 8 (nF c.crf)), ((ma 35), eI D 12 (nF c.bo)), ((ma 50), eI D 20 f)] (fun r w => ∃ zs2_10 : Int32, ∃ zs2_11 : Int32, ∃ zs2_20 : Int32, ∃ zs2_21 : Int32, ∃ zs2_22 : Int32, ∃ zs2_25 : Int32, ∃ zs2_26 : Int32, ∃ zs2_27 : Int32, ∃ zs2_29 : Int32, r = some (.int (tV (nI i) (nI (c.vv i)) (c.kk i) x (c.kk i))) ∧ w = [(mo, .inr (10, M1R ma (mZ c c2 tk vc ln ((tL (c.kk i) (c.kk i)).length) zs2_10 zs2_11 zs2_20 zs2_21 zs2_22 zs2_25 zs2_26 zs2_27 zs2_29))), ((ma 4), eI D 6 (nF c.kk)), ((ma 5), eI D 6 (nF c.vv)), ((ma 6), eI D 6 c.hd), ((ma 30), eI D 8 (nF c.crf)), ((ma 35), eI D 12 (nF c.bo)), ((ma 50), eI D 20 (trW f 0 (tL (c.kk i) (c.kk i))))]) := by
  refine Sp.of (by decide) (Nat.le_of_ble_eq_true rfl) (fun X O T => ?_)
  refine v_eq (lv' := [(0, .ref mo), (1, .int (nI i)), (2, .int 2), (3, .int x)]) rfl rfl rfl rfl ?_
  have z_m := hC.1
  refine v_aload_n O dX10_act_0 0 rfl ?_
  refine v_iconst (v := 0) O dX10_act_1 (by decide) ?_
  refine pf_X10_160 (fs' := M1R ma (mZ c c2 tk vc ln 0 zs_10 zs_11 zs_20 zs_21 zs_22 zs_25 zs_26 zs_27 zs_29)) (ws' := [(mo, .inr (10, M1R ma (mZ c c2 tk vc ln 0 zs_10 zs_11 zs_20 zs_21 zs_22 zs_25 zs_26 zs_27 zs_29))), ((ma 4), eI D 6 (nF c.kk)), ((ma 5), eI D 6 (nF c.vv)), ((ma 6), eI D 6 c.hd), ((ma 30), eI D 8 (nF c.crf)), ((ma 35), eI D 12 (nF c.bo)), ((ma 50), eI D 20 f)]) O rfl dX10_act_2 0 rfl (Nat.le_of_ble_eq_true rfl) rfl rfl ?_
  refine v_aload_n O dX10_act_5 0 rfl ?_
  refine v_iload_n O dX10_act_6 1 rfl ?_
  refine v_cV (T := TX10) (ci := 10) (As := [.int (nI i)]) (wr := [((ma 4), eI D 6 (nF c.kk)), ((ma 5), eI D 6 (nF c.vv)), ((ma 6), eI D 6 c.hd), ((ma 30), eI D 8 (nF c.crf)), ((ma 35), eI D 12 (nF c.bo)), ((ma 50), eI D 20 f)]) (st := []) O cf_X10_281 rfl (sp_X10_isMan (mo := mo) (ma := ma) (c := c) (c2 := c2) (tk := tk) (vc := vc) (ln := ln) (rn := 0) (zs_10 := zs_10) (zs_11 := zs_11) (zs_20 := zs_20) (zs_21 := zs_21) (zs_22 := zs_22) (zs_25 := zs_25) (zs_26 := zs_26) (zs_27 := zs_27) (zs_29 := zs_29) (i := (nI i)) (hC.1)) dX10_act_7 rfl rfl 0 rfl [0] [1, 2, 3, 4, 5, 6] (by decide) rfl rfl (by decide) (by decide) (by decide) (Nat.le_of_ble_eq_true rfl) (by decide) (by decide) (fun r_2 w_3 h_1 => ?_)
  obtain ⟨rfl, rfl⟩ := h_1
  refine v_eq (st' := [.int (b2i (isIx (nI i) c.men))]) (ws' := [((ma 4), eI D 6 (nF c.kk)), ((ma 5), eI D 6 (nF c.vv)), ((ma 6), eI D 6 c.hd), ((ma 30), eI D 8 (nF c.crf)), ((ma 35), eI D 12 (nF c.bo)), ((ma 50), eI D 20 f), (mo, .inr (10, M1R ma (mZ c c2 tk vc ln 0 zs_10 zs_11 zs_20 zs_21 zs_22 zs_25 zs_26 zs_27 zs_29)))]) rfl rfl rfl rfl ?_
  refine v_if_eq O 23 dX10_act_10 (by decide) (fun z1 => ?_) (fun z1 => ?_)
  · skip
    have z1 := b2i_0.mp z1
    exact absurd ((isIx_nI (by omega) (by omega)).mpr hi) z1
  · skip
    have z1 := b2i_1.mp z1
    refine v_aload_n O dX10_act_13 0 rfl ?_
    refine v_iload_n O dX10_act_14 2 rfl ?_
    refine v_iconst (v := 0) O dX10_act_15 (by decide) ?_
    refine v_iconst (v := 2) O dX10_act_16 (by decide) ?_
    refine v_cV (T := TX10) (ci := 10) (As := [.int 2, .int 0, .int 2]) (wr := [((ma 4), eI D 6 (nF c.kk)), ((ma 5), eI D 6 (nF c.vv)), ((ma 6), eI D 6 c.hd), ((ma 30), eI D 8 (nF c.crf)), ((ma 35), eI D 12 (nF c.bo)), ((ma 50), eI D 20 f), (mo, .inr (10, M1R ma (mZ c c2 tk vc ln 0 zs_10 zs_11 zs_20 zs_21 zs_22 zs_25 zs_26 zs_27 zs_29)))]) (st := []) O cf_X10_179 rfl (sp_X10_in_0 (mo := mo) (x := 2) (h := 2) (zn := 3) (rfl) (by decide)) dX10_act_17 rfl rfl 6 rfl [] [0, 1, 2, 3, 4, 5, 6] (by decide) rfl rfl (by decide) (by decide) (by decide) (Nat.le_of_ble_eq_true rfl) (by decide) (by decide) (fun r_5 w_6 h_4 => ?_)
    obtain ⟨rfl, rfl⟩ := h_4
    refine v_eq (st' := [.int (b2i (isIx 2 3))]) (ws' := [((ma 4), eI D 6 (nF c.kk)), ((ma 5), eI D 6 (nF c.vv)), ((ma 6), eI D 6 c.hd), ((ma 30), eI D 8 (nF c.crf)), ((ma 35), eI D 12 (nF c.bo)), ((ma 50), eI D 20 f), (mo, .inr (10, M1R ma (mZ c c2 tk vc ln 0 zs_10 zs_11 zs_20 zs_21 zs_22 zs_25 zs_26 zs_27 zs_29)))]) rfl rfl rfl rfl ?_
    refine v_if_ne O 25 dX10_act_20 (by decide) (fun z2 => ?_) (fun z2 => ?_)
    · skip
      have z2 := b2i_1.mp z2
      refine v_iload_n O dX10_act_25 2 rfl ?_
      refine v_if_ne O 38 dX10_act_26 (by decide) (fun _ => ?_) (fun c => absurd c (by decide))
      refine v_iload_n O dX10_act_38 2 rfl ?_
      refine v_iconst (v := 1) O dX10_act_39 (by decide) ?_
      refine v_icmp_ne O 52 dX10_act_40 (by decide) (fun _ => ?_) (fun c => absurd c (by decide))
      refine v_aload_n O dX10_act_52 0 rfl ?_
      refine v_iload_n O dX10_act_53 1 rfl ?_
      refine v_iload_n O dX10_act_54 3 rfl ?_
      refine v_cV (T := TX10) (ci := 10) (As := [.int (nI i), .int x]) (wr := [((ma 6), eI D 6 c.hd), ((ma 30), eI D 8 (nF c.crf)), ((ma 35), eI D 12 (nF c.bo))]) (st := []) O cf_X10_339 rfl (sp_X10_tellsAct (mo := mo) (ma := ma) (c := c) (c2 := c2) (tk := tk) (vc := vc) (ln := ln) (rn := 0) (zs_10 := zs_10) (zs_11 := zs_11) (zs_20 := zs_20) (zs_21 := zs_21) (zs_22 := zs_22) (zs_25 := zs_25) (zs_26 := zs_26) (zs_27 := zs_27) (zs_29 := zs_29) (f := f) (i := i) (x := x) (by omega) (hC.2.1 i (by omega)) (by decide)) dX10_act_55 rfl rfl 6 rfl [6, 0, 1, 5] [2, 3, 4] (by decide) rfl rfl (by decide) (by decide) (by decide) (Nat.le_of_ble_eq_true rfl) (by decide) (by decide) (fun r_10 w_11 h_9 => ?_)
      obtain ⟨rfl, rfl⟩ := h_9
      refine v_eq (st' := [.int (tV (nI i) (nI (c.vv i)) (c.kk i) x (c.kk i))]) (ws' := [((ma 6), eI D 6 c.hd), ((ma 30), eI D 8 (nF c.crf)), ((ma 35), eI D 12 (nF c.bo)), (mo, .inr (10, M1R ma (mZ c c2 tk vc ln (0 + (tL (c.kk i) (c.kk i)).length) zs_10 zs_11 zs_20 zs_21 zs_22 zs_25 zs_26 zs_27 zs_29))), ((ma 4), eI D 6 (nF c.kk)), ((ma 5), eI D 6 (nF c.vv)), ((ma 50), eI D 20 (trW f 0 (tL (c.kk i) (c.kk i))))]) rfl rfl rfl rfl ?_
      refine v_sub (ws' := [(mo, .inr (10, M1R ma (mZ c c2 tk vc ln (0 + (tL (c.kk i) (c.kk i)).length) zs_10 zs_11 zs_20 zs_21 zs_22 zs_25 zs_26 zs_27 zs_29))), ((ma 4), eI D 6 (nF c.kk)), ((ma 5), eI D 6 (nF c.vv)), ((ma 6), eI D 6 c.hd), ((ma 30), eI D 8 (nF c.crf)), ((ma 35), eI D 12 (nF c.bo)), ((ma 50), eI D 20 (trW f 0 (tL (c.kk i) (c.kk i))))]) [3, 4, 5, 0, 1, 2, 6] (by decide) rfl ?_
      exact v_ireturn O T rfl rfl (by decide) (by decide) dX10_act_58 (⟨zs_10, zs_11, zs_20, zs_21, zs_22, zs_25, zs_26, zs_27, zs_29, rfl, by simp only [Nat.zero_add]⟩)
    · skip
      have z2 := b2i_0.mp z2
      exact absurd ⟨2, by decide, rfl⟩ z2
set_option maxRecDepth 100000 in
set_option maxHeartbeats 4000000 in
theorem l_X10_times {D : G} {X : CX} {mo : Nat} {ma : Nat → Nat} {c : CS} {c2 : CS} {tk : Int32} {vc : Nat} {ln : Nat} {rn : Nat} {zs_10 : Int32} {zs_11 : Int32} {zs_20 : Int32} {zs_21 : Int32} {zs_22 : Int32} {zs_25 : Int32} {zs_26 : Int32} {zs_27 : Int32} {zs_29 : Int32} {N b : Nat} (O : Ok D X mX10_times 0 0 0) (hb0 : 0 < b) (hb : b ≤ 12) (T : Rt D X (fun r w => ∃ g : Nat → Int32, r = none ∧ w = [(mo, .inr (10, M1R ma (mZ c c2 tk vc ln rn zs_10 zs_11 zs_20 zs_21 zs_22 zs_25 zs_26 zs_27 zs_29))), ((ma 33), eI D 42 g)] ∧ (∀ zj, zj < 42 → g zj = digs (N * b) zj)) 0 0) : ∀ (t i : Nat), i + t = 42 → ∀ (g : Nat → Int32) (cy : Nat), cy = (N % 10 ^ i) * b / 10 ^ i → (∀ j, j < i → g j = digs (N * b) j) → (∀ j, i ≤ j → j < 42 → g j = digs N j) → V D X 0 0 4 [(0, .ref mo), (1, .int (nI b)), (2, .int (nI cy)), (3, .int (nI i))] [] [(mo, .inr (10, M1R ma (mZ c c2 tk vc ln rn zs_10 zs_11 zs_20 zs_21 zs_22 zs_25 zs_26 zs_27 zs_29))), ((ma 33), eI D 42 g)] := by
  intro t
  induction t with
  | zero =>
    intro i hi g cy hc h1 h2
    have hcb : cy < b := by rw [hc]; exact mul_carry N b i hb0
    have hd := digs_lt N i
    have hp : N / 10 ^ i % 10 * b + cy < 2147483648 := Nat.lt_of_le_of_lt (Nat.add_le_add (Nat.mul_le_mul (Nat.le_of_lt_succ hd) hb) (Nat.le_of_lt hcb)) (by omega)
    refine v_iload_n O dX10_times_4 3 rfl ?_
    refine v_bipush (v := 42) O dX10_times_5 (by decide) ?_
    refine v_icmp_ge O 45 dX10_times_7 (by decide) (fun c_1 => ?_) (fun c_1 => ?_)
    · skip
      have c_1 := (c_le' (x := nI i) (y := 42) (a := i) (b := 42) rfl rfl (by omega) (by omega)).mp c_1
      exact v_return O T rfl (by decide) (by decide) dX10_times_45 (⟨g, rfl, rfl, fun j hj => h1 j (by omega)⟩)
    · skip
      have c_1 := (not_congr (c_le' (x := nI i) (y := 42) (a := i) (b := 42) rfl rfl (by omega) (by omega))).mp c_1
      exact absurd c_1 (by omega)
  | succ t ih =>
    intro i hi g cy hc h1 h2
    have hcb : cy < b := by rw [hc]; exact mul_carry N b i hb0
    have hd := digs_lt N i
    have hp : N / 10 ^ i % 10 * b + cy < 2147483648 := Nat.lt_of_le_of_lt (Nat.add_le_add (Nat.mul_le_mul (Nat.le_of_lt_succ hd) hb) (Nat.le_of_lt hcb)) (by omega)
    refine v_iload_n O dX10_times_4 3 rfl ?_
    refine v_bipush (v := 42) O dX10_times_5 (by decide) ?_
    refine v_icmp_ge O 45 dX10_times_7 (by decide) (fun c_1 => ?_) (fun c_1 => ?_)
    · skip
      have c_1 := (c_le' (x := nI i) (y := 42) (a := i) (b := 42) rfl rfl (by omega) (by omega)).mp c_1
      exact absurd c_1 (by omega)
    · skip
      have c_1 := (not_congr (c_le' (x := nI i) (y := 42) (a := i) (b := 42) rfl rfl (by omega) (by omega))).mp c_1
      refine v_aload_n O dX10_times_10 0 rfl ?_
      refine gf_X10_111 (v := .ref (ma 33)) O rfl dX10_times_11 0 rfl rfl ?_
      refine v_iload_n O dX10_times_14 3 rfl ?_
      refine v_ialdk O dX10_times_15 1 rfl i rfl (by omega) (by decide) ?_
      refine v_top (y := nI (N / 10 ^ i % 10)) (h2 i (Nat.le_refl i) (by omega)) ?_
      refine v_iload_n O dX10_times_16 1 rfl ?_
      refine v_imul O dX10_times_17 ?_
      refine v_top (y := nI ((N / 10 ^ i % 10) * b)) (pk_mul (N / 10 ^ i % 10) b) ?_
      refine v_iload_n O dX10_times_18 2 rfl ?_
      refine v_iadd O dX10_times_19 ?_
      refine v_top (y := nI (((N / 10 ^ i % 10) * b) + cy)) (nI_add ((N / 10 ^ i % 10) * b) cy) ?_
      refine v_istore (lv' := [(0, .ref mo), (1, .int (nI b)), (2, .int (nI cy)), (3, .int (nI i)), (4, .int (nI (((N / 10 ^ i % 10) * b) + cy)))]) O dX10_times_20 (by decide) rfl ?_
      refine v_aload_n O dX10_times_22 0 rfl ?_
      refine gf_X10_111 (v := .ref (ma 33)) O rfl dX10_times_23 0 rfl rfl ?_
      refine v_iload_n O dX10_times_26 3 rfl ?_
      refine v_iload O dX10_times_27 4 rfl ?_
      refine v_bipush (v := 10) O dX10_times_29 (by decide) ?_
      refine v_irem O dX10_times_31 (by decide) ?_
      refine v_top (y := nI ((N / 10 ^ i % 10 * b + cy) % 10)) (pk_rem (d := 10) hp (by decide) (by decide)) ?_
      refine v_iastk (ws' := [(mo, .inr (10, M1R ma (mZ c c2 tk vc ln rn zs_10 zs_11 zs_20 zs_21 zs_22 zs_25 zs_26 zs_27 zs_29))), ((ma 33), eI D 42 (upd g i (nI ((N / 10 ^ i % 10 * b + cy) % 10))))]) O dX10_times_32 1 rfl i (rfl) (by omega) (by decide) (rfl) ?_
      refine v_iload O dX10_times_33 4 rfl ?_
      refine v_bipush (v := 10) O dX10_times_35 (by decide) ?_
      refine v_idiv O dX10_times_37 (by decide) ?_
      refine v_top (y := nI ((N / 10 ^ i % 10 * b + cy) / 10)) (pk_div (d := 10) hp (by decide) (by decide)) ?_
      refine v_istore_n (lv' := [(0, .ref mo), (1, .int (nI b)), (2, .int (nI ((N / 10 ^ i % 10 * b + cy) / 10))), (3, .int (nI i)), (4, .int (nI (((N / 10 ^ i % 10) * b) + cy)))]) O dX10_times_38 (by decide) rfl ?_
      refine v_iinc (v := nI (i + 1)) (lv' := [(0, .ref mo), (1, .int (nI b)), (2, .int (nI ((N / 10 ^ i % 10 * b + cy) / 10))), (3, .int (nI (i + 1))), (4, .int (nI (((N / 10 ^ i % 10) * b) + cy)))]) O dX10_times_39 3 rfl (nI_1 i) (by decide) rfl ?_
      refine v_goto O 4 dX10_times_42 (by decide) ?_
      refine v_lvp (lv' := [(0, .ref mo), (1, .int (nI b)), (2, .int (nI ((N / 10 ^ i % 10 * b + cy) / 10))), (3, .int (nI (i + 1)))]) [0, 1, 2, 3] rfl ?_
      exact ih (i + 1) (by omega) _ _ (mul_step N b i cy hc).2 (upd_lt h1 (congrArg nI (mul_step N b i cy hc).1)) (upd_ge h2)
set_option maxRecDepth 100000 in
set_option maxHeartbeats 4000000 in
theorem sp_X10_times {D : G} {mo : Nat} {ma : Nat → Nat} {c : CS} {c2 : CS} {tk : Int32} {vc : Nat} {ln : Nat} {rn : Nat} {zs_10 : Int32} {zs_11 : Int32} {zs_20 : Int32} {zs_21 : Int32} {zs_22 : Int32} {zs_25 : Int32} {zs_26 : Int32} {zs_27 : Int32} {zs_29 : Int32} {f : Nat → Int32} {N : Nat} {b : Nat} (hb0 : 0 < b) (hb : b ≤ 12) (hf : (∀ zj, zj < 42 → f zj = digs (N) zj)) : Sp D mX10_times 0 0 0 [.ref mo, .int (nI b)] [(mo, .inr (10, M1R ma (mZ c c2 tk vc ln rn zs_10 zs_11 zs_20 zs_21 zs_22 zs_25 zs_26 zs_27 zs_29))), ((ma 33), eI D 42 f)] (fun r w => ∃ g : Nat → Int32, r = none ∧ w = [(mo, .inr (10, M1R ma (mZ c c2 tk vc ln rn zs_10 zs_11 zs_20 zs_21 zs_22 zs_25 zs_26 zs_27 zs_29))), ((ma 33), eI D 42 g)] ∧ ((∀ zj, zj < 42 → g zj = digs (N * b) zj))) := by
  refine Sp.of (by decide) (Nat.le_of_ble_eq_true rfl) (fun X O T => ?_)
  refine v_eq (lv' := [(0, .ref mo), (1, .int (nI b))]) rfl rfl rfl rfl ?_
  refine v_iconst (v := 0) O dX10_times_0 (by decide) ?_
  refine v_istore_n (lv' := [(0, .ref mo), (1, .int (nI b)), (2, .int 0)]) O dX10_times_1 (by decide) rfl ?_
  refine v_iconst (v := 0) O dX10_times_2 (by decide) ?_
  refine v_istore_n (lv' := [(0, .ref mo), (1, .int (nI b)), (2, .int 0), (3, .int 0)]) O dX10_times_3 (by decide) rfl ?_
  refine v_eq (lv' := [(0, .ref mo), (1, .int (nI b)), (2, .int (nI 0)), (3, .int (nI 0))]) rfl rfl rfl rfl ?_
  exact l_X10_times O hb0 hb T 42 0 (by omega) f 0 (by simp [Nat.mod_one]) (fun j hj => absurd hj (Nat.not_lt_zero j)) (fun j _ hj => hf j hj)
set_option maxRecDepth 100000 in
set_option maxHeartbeats 4000000 in
theorem l_X10_less {D : G} {X : CX} {mo : Nat} {ma : Nat → Nat} {c : CS} {c2 : CS} {tk : Int32} {vc : Nat} {ln : Nat} {rn : Nat} {zs_10 : Int32} {zs_11 : Int32} {zs_20 : Int32} {zs_21 : Int32} {zs_22 : Int32} {zs_25 : Int32} {zs_26 : Int32} {zs_27 : Int32} {zs_29 : Int32} {N a : Nat} (O : Ok D X mX10_less 0 0 0) (ha : a < 100) (hN : N < 10 ^ 42) (T : Rt D X (fun r w => ∃ g : Nat → Int32, r = some (.int (b2i (a ≤ N))) ∧ w = [(mo, .inr (10, M1R ma (mZ c c2 tk vc ln rn zs_10 zs_11 zs_20 zs_21 zs_22 zs_25 zs_26 zs_27 zs_29))), ((ma 33), eI D 42 g)] ∧ (a ≤ N → (∀ zj, zj < 42 → g zj = digs (N - a) zj))) 0 0) : ∀ (t i : Nat), i + t = 42 → ∀ (g : Nat → Int32) (w : Nat), w = sub_w N a i → (a ≤ N → ∀ j, j < i → g j = digs (N - a) j) → (∀ j, i ≤ j → j < 42 → g j = digs N j) → V D X 0 0 4 [(0, .ref mo), (1, .int (nI a)), (2, .int (nI w)), (3, .int (nI i))] [] [(mo, .inr (10, M1R ma (mZ c c2 tk vc ln rn zs_10 zs_11 zs_20 zs_21 zs_22 zs_25 zs_26 zs_27 zs_29))), ((ma 33), eI D 42 g)] := by
  intro t
  induction t with
  | zero =>
    intro i hi g w hw h1 h2
    have hwa : w ≤ a := by rw [hw]; exact sub_w_le N a i
    have hd := digs_lt N i
    have hq := less_q (N / 10 ^ i % 10) hd w (by omega)
    refine v_iload_n O dX10_less_4 3 rfl ?_
    refine v_bipush (v := 42) O dX10_less_5 (by decide) ?_
    refine v_icmp_ge O 53 dX10_less_7 (by decide) (fun c_1 => ?_) (fun c_1 => ?_)
    · skip
      have c_1 := (c_le' (x := nI i) (y := 42) (a := i) (b := 42) rfl rfl (by omega) (by omega)).mp c_1
      have ei : i = 42 := by omega
      subst ei
      have hE := sub_end N a 42 hN (Nat.le_trans (Nat.le_of_lt ha) (by decide))
      rw [← hw] at hE
      refine v_iload_n O dX10_less_53 2 rfl ?_
      refine v_if_ne O 61 dX10_less_54 (by decide) (fun z3 => ?_) (fun z3 => ?_)
      · skip
        have z3 := (not_congr (c_eq (x := nI w) (y := 0) (a := w) (b := 0) rfl rfl (by omega) (by omega))).mp z3
        refine v_iconst (v := 0) O dX10_less_61 (by decide) ?_
        exact v_ireturn O T rfl rfl (by decide) (by decide) dX10_less_62 (⟨_, by rw [b2i_f (by rw [← hE.1]; exact z3)], rfl, fun h9 j hj => h1 h9 j hj⟩)
      · skip
        have z3 := (c_eq (x := nI w) (y := 0) (a := w) (b := 0) rfl rfl (by omega) (by omega)).mp z3
        refine v_iconst (v := 1) O dX10_less_57 (by decide) ?_
        refine v_goto O 62 dX10_less_58 (by decide) ?_
        exact v_ireturn O T rfl rfl (by decide) (by decide) dX10_less_62 (⟨_, by rw [b2i_t (by rw [← hE.1]; exact z3)], rfl, fun h9 j hj => h1 h9 j hj⟩)
    · skip
      have c_1 := (not_congr (c_le' (x := nI i) (y := 42) (a := i) (b := 42) rfl rfl (by omega) (by omega))).mp c_1
      exact absurd c_1 (by omega)
  | succ t ih =>
    intro i hi g w hw h1 h2
    have hwa : w ≤ a := by rw [hw]; exact sub_w_le N a i
    have hd := digs_lt N i
    have hq := less_q (N / 10 ^ i % 10) hd w (by omega)
    refine v_iload_n O dX10_less_4 3 rfl ?_
    refine v_bipush (v := 42) O dX10_less_5 (by decide) ?_
    refine v_icmp_ge O 53 dX10_less_7 (by decide) (fun c_1 => ?_) (fun c_1 => ?_)
    · skip
      have c_1 := (c_le' (x := nI i) (y := 42) (a := i) (b := 42) rfl rfl (by omega) (by omega)).mp c_1
      exact absurd c_1 (by omega)
    · skip
      have c_1 := (not_congr (c_le' (x := nI i) (y := 42) (a := i) (b := 42) rfl rfl (by omega) (by omega))).mp c_1
      refine v_aload_n O dX10_less_10 0 rfl ?_
      refine gf_X10_111 (v := .ref (ma 33)) O rfl dX10_less_11 0 rfl rfl ?_
      refine v_iload_n O dX10_less_14 3 rfl ?_
      refine v_ialdk O dX10_less_15 1 rfl i rfl (by omega) (by decide) ?_
      refine v_top (y := nI (N / 10 ^ i % 10)) (h2 i (Nat.le_refl i) (by omega)) ?_
      refine v_iload_n O dX10_less_16 2 rfl ?_
      refine v_bipush (v := 10) O dX10_less_17 (by decide) ?_
      refine v_irem O dX10_less_19 (by decide) ?_
      refine v_top (y := nI (w % 10)) (pk_rem (a := w) (d := 10) (by omega) (by decide) (by decide)) ?_
      refine v_isub O dX10_less_20 ?_
      refine v_istore (lv' := [(0, .ref mo), (1, .int (nI a)), (2, .int (nI w)), (3, .int (nI i)), (4, .int ((nI (N / 10 ^ i % 10)) - (nI (w % 10))))]) O dX10_less_21 (by decide) rfl ?_
      refine v_iload_n O dX10_less_23 2 rfl ?_
      refine v_bipush (v := 10) O dX10_less_24 (by decide) ?_
      refine v_idiv O dX10_less_26 (by decide) ?_
      refine v_top (y := nI (w / 10)) (pk_div (a := w) (d := 10) (by omega) (by decide) (by decide)) ?_
      refine v_istore_n (lv' := [(0, .ref mo), (1, .int (nI a)), (2, .int (nI (w / 10))), (3, .int (nI i)), (4, .int ((nI (N / 10 ^ i % 10)) - (nI (w % 10))))]) O dX10_less_27 (by decide) rfl ?_
      refine v_iload O dX10_less_28 4 rfl ?_
      refine v_if_ge O 39 dX10_less_30 (by decide) (fun z2 => ?_) (fun z2 => ?_)
      · skip
        obtain ⟨z_d, z_w⟩ := hq.1 (Int32.not_lt.mpr z2)
        refine v_eq (lv' := [(0, .ref mo), (1, .int (nI a)), (2, .int (nI ((w + 9 - N / 10 ^ i % 10) / 10))), (3, .int (nI i)), (4, .int (nI ((N / 10 ^ i % 10 + 100 - w) % 10)))]) rfl (by rw [z_d, z_w]) rfl rfl ?_
        refine v_aload_n O dX10_less_39 0 rfl ?_
        refine gf_X10_111 (v := .ref (ma 33)) O rfl dX10_less_40 0 rfl rfl ?_
        refine v_iload_n O dX10_less_43 3 rfl ?_
        refine v_iload O dX10_less_44 4 rfl ?_
        refine v_iastk (ws' := [(mo, .inr (10, M1R ma (mZ c c2 tk vc ln rn zs_10 zs_11 zs_20 zs_21 zs_22 zs_25 zs_26 zs_27 zs_29))), ((ma 33), eI D 42 (upd g i (nI ((N / 10 ^ i % 10 + 100 - w) % 10))))]) O dX10_less_46 1 rfl i (rfl) (by omega) (by decide) (rfl) ?_
        refine v_iinc (v := nI (i + 1)) (lv' := [(0, .ref mo), (1, .int (nI a)), (2, .int (nI ((w + 9 - N / 10 ^ i % 10) / 10))), (3, .int (nI (i + 1))), (4, .int (nI ((N / 10 ^ i % 10 + 100 - w) % 10)))]) O dX10_less_47 3 rfl (nI_1 i) (by decide) rfl ?_
        refine v_goto O 4 dX10_less_50 (by decide) ?_
        refine v_lvp (lv' := [(0, .ref mo), (1, .int (nI a)), (2, .int (nI ((w + 9 - N / 10 ^ i % 10) / 10))), (3, .int (nI (i + 1)))]) [0, 1, 2, 3] rfl ?_
        exact ih (i + 1) (by omega) _ _ (by rw [hw]; exact sub_step N a i) (fun hle => upd_lt (h1 hle) (congrArg nI (by rw [hw]; exact sub_dig N a i hle ha))) (upd_ge h2)
      · skip
        refine v_iinc (v := ((nI (N / 10 ^ i % 10)) - (nI (w % 10))) + 10) (lv' := [(0, .ref mo), (1, .int (nI a)), (2, .int (nI (w / 10))), (3, .int (nI i)), (4, .int (((nI (N / 10 ^ i % 10)) - (nI (w % 10))) + 10))]) O dX10_less_33 4 rfl (rfl) (by decide) rfl ?_
        refine v_iinc (v := nI (w / 10 + 1)) (lv' := [(0, .ref mo), (1, .int (nI a)), (2, .int (nI (w / 10 + 1))), (3, .int (nI i)), (4, .int (((nI (N / 10 ^ i % 10)) - (nI (w % 10))) + 10))]) O dX10_less_36 2 rfl (nI_1 (w / 10)) (by decide) rfl ?_
        obtain ⟨z_d, z_w⟩ := hq.2 (Int32.not_le.mp z2)
        refine v_eq (lv' := [(0, .ref mo), (1, .int (nI a)), (2, .int (nI ((w + 9 - N / 10 ^ i % 10) / 10))), (3, .int (nI i)), (4, .int (nI ((N / 10 ^ i % 10 + 100 - w) % 10)))]) rfl (by rw [z_d, z_w]) rfl rfl ?_
        refine v_aload_n O dX10_less_39 0 rfl ?_
        refine gf_X10_111 (v := .ref (ma 33)) O rfl dX10_less_40 0 rfl rfl ?_
        refine v_iload_n O dX10_less_43 3 rfl ?_
        refine v_iload O dX10_less_44 4 rfl ?_
        refine v_iastk (ws' := [(mo, .inr (10, M1R ma (mZ c c2 tk vc ln rn zs_10 zs_11 zs_20 zs_21 zs_22 zs_25 zs_26 zs_27 zs_29))), ((ma 33), eI D 42 (upd g i (nI ((N / 10 ^ i % 10 + 100 - w) % 10))))]) O dX10_less_46 1 rfl i (rfl) (by omega) (by decide) (rfl) ?_
        refine v_iinc (v := nI (i + 1)) (lv' := [(0, .ref mo), (1, .int (nI a)), (2, .int (nI ((w + 9 - N / 10 ^ i % 10) / 10))), (3, .int (nI (i + 1))), (4, .int (nI ((N / 10 ^ i % 10 + 100 - w) % 10)))]) O dX10_less_47 3 rfl (nI_1 i) (by decide) rfl ?_
        refine v_goto O 4 dX10_less_50 (by decide) ?_
        refine v_lvp (lv' := [(0, .ref mo), (1, .int (nI a)), (2, .int (nI ((w + 9 - N / 10 ^ i % 10) / 10))), (3, .int (nI (i + 1)))]) [0, 1, 2, 3] rfl ?_
        exact ih (i + 1) (by omega) _ _ (by rw [hw]; exact sub_step N a i) (fun hle => upd_lt (h1 hle) (congrArg nI (by rw [hw]; exact sub_dig N a i hle ha))) (upd_ge h2)
set_option maxRecDepth 100000 in
set_option maxHeartbeats 4000000 in
theorem sp_X10_less {D : G} {mo : Nat} {ma : Nat → Nat} {c : CS} {c2 : CS} {tk : Int32} {vc : Nat} {ln : Nat} {rn : Nat} {zs_10 : Int32} {zs_11 : Int32} {zs_20 : Int32} {zs_21 : Int32} {zs_22 : Int32} {zs_25 : Int32} {zs_26 : Int32} {zs_27 : Int32} {zs_29 : Int32} {f : Nat → Int32} {N : Nat} {a : Nat} (ha : a < 100) (hN : N < 10 ^ 42) (hf : (∀ zj, zj < 42 → f zj = digs (N) zj)) : Sp D mX10_less 0 0 0 [.ref mo, .int (nI a)] [(mo, .inr (10, M1R ma (mZ c c2 tk vc ln rn zs_10 zs_11 zs_20 zs_21 zs_22 zs_25 zs_26 zs_27 zs_29))), ((ma 33), eI D 42 f)] (fun r w => ∃ g : Nat → Int32, r = some (.int (b2i (a ≤ N))) ∧ w = [(mo, .inr (10, M1R ma (mZ c c2 tk vc ln rn zs_10 zs_11 zs_20 zs_21 zs_22 zs_25 zs_26 zs_27 zs_29))), ((ma 33), eI D 42 g)] ∧ (a ≤ N → (∀ zj, zj < 42 → g zj = digs (N - a) zj))) := by
  refine Sp.of (by decide) (Nat.le_of_ble_eq_true rfl) (fun X O T => ?_)
  refine v_eq (lv' := [(0, .ref mo), (1, .int (nI a))]) rfl rfl rfl rfl ?_
  refine v_iload_n O dX10_less_0 1 rfl ?_
  refine v_istore_n (lv' := [(0, .ref mo), (1, .int (nI a)), (2, .int (nI a))]) O dX10_less_1 (by decide) rfl ?_
  refine v_iconst (v := 0) O dX10_less_2 (by decide) ?_
  refine v_istore_n (lv' := [(0, .ref mo), (1, .int (nI a)), (2, .int (nI a)), (3, .int 0)]) O dX10_less_3 (by decide) rfl ?_
  refine v_eq (lv' := [(0, .ref mo), (1, .int (nI a)), (2, .int (nI a)), (3, .int (nI 0))]) rfl rfl rfl rfl ?_
  exact l_X10_less O ha hN T 42 0 (by omega) f a (sub_w0 N a).symm (fun _ j hj => absurd hj (Nat.not_lt_zero j)) (fun j _ hj => hf j hj)
set_option maxRecDepth 100000 in
set_option maxHeartbeats 4000000 in
theorem l_X10_lay3 {D : G} {X : CX} {mo : Nat} {ma : Nat → Nat} {c : CS} {c2 : CS} {tk : Int32} {vc : Nat} {ln : Nat} {rn : Nat} {zs_10 : Int32} {zs_11 : Int32} {zs_20 : Int32} {zs_21 : Int32} {zs_22 : Int32} {zs_25 : Int32} {zs_26 : Int32} {zs_27 : Int32} {zs_29 : Int32} {d : Nat} {m : Nat} {q : Nat} (O : Ok D X mX10_layBig 1 0 0) (hz : bigN d m q = 0) (T : Rt D X (fun r w => ∃ g : Nat → Int32, r = none ∧ w = [(mo, .inr (10, M1R ma (mZ c c2 tk vc ln rn zs_10 zs_11 zs_20 zs_21 zs_22 zs_25 zs_26 zs_27 zs_29))), ((ma 33), eI D 42 g)] ∧ ((∀ zj, zj < 42 → g zj = digs (bigN d m q) zj))) 0 0) : ∀ (t i : Nat), i + t = 42 → ∀ g : Nat → Int32, (∀ j, j < i → g j = 0) → V D X 0 0 69 [(0, .ref mo), (1, .int (nI d)), (2, .int (nI m)), (3, .int (nI q)), (4, .int (nI i))] [] [(mo, .inr (10, M1R ma (mZ c c2 tk vc ln rn zs_10 zs_11 zs_20 zs_21 zs_22 zs_25 zs_26 zs_27 zs_29))), ((ma 33), eI D 42 g)] := by
  intro t
  induction t with
  | zero =>
    intro i hi g h1
    refine v_iload O dX10_layBig_69 4 rfl ?_
    refine v_bipush (v := 42) O dX10_layBig_71 (by decide) ?_
    refine v_icmp_ge O 90 dX10_layBig_73 (by decide) (fun z1 => ?_) (fun z1 => ?_)
    · skip
      have z1 := (c_le' (x := nI i) (y := 42) (a := i) (b := 42) rfl rfl (by omega) (by omega)).mp z1
      exact v_return O T rfl (by decide) (by decide) dX10_layBig_90 (⟨_, rfl, rfl, fun j hj => by rw [h1 j (by omega), hz]; unfold digs; rw [Nat.zero_div]; rfl⟩)
    · skip
      have z1 := (not_congr (c_le' (x := nI i) (y := 42) (a := i) (b := 42) rfl rfl (by omega) (by omega))).mp z1
      exact absurd z1 (by omega)
  | succ t ih =>
    intro i hi g h1
    refine v_iload O dX10_layBig_69 4 rfl ?_
    refine v_bipush (v := 42) O dX10_layBig_71 (by decide) ?_
    refine v_icmp_ge O 90 dX10_layBig_73 (by decide) (fun z1 => ?_) (fun z1 => ?_)
    · skip
      have z1 := (c_le' (x := nI i) (y := 42) (a := i) (b := 42) rfl rfl (by omega) (by omega)).mp z1
      exact absurd z1 (by omega)
    · skip
      have z1 := (not_congr (c_le' (x := nI i) (y := 42) (a := i) (b := 42) rfl rfl (by omega) (by omega))).mp z1
      refine v_aload_n O dX10_layBig_76 0 rfl ?_
      refine gf_X10_111 (v := .ref (ma 33)) O rfl dX10_layBig_77 0 rfl rfl ?_
      refine v_iload O dX10_layBig_80 4 rfl ?_
      refine v_iconst (v := 0) O dX10_layBig_82 (by decide) ?_
      refine v_iastk (ws' := [(mo, .inr (10, M1R ma (mZ c c2 tk vc ln rn zs_10 zs_11 zs_20 zs_21 zs_22 zs_25 zs_26 zs_27 zs_29))), ((ma 33), eI D 42 (upd g i 0))]) O dX10_layBig_83 1 rfl i (rfl) (by omega) (by decide) (rfl) ?_
      refine v_iinc (v := nI (i + 1)) (lv' := [(0, .ref mo), (1, .int (nI d)), (2, .int (nI m)), (3, .int (nI q)), (4, .int (nI (i + 1)))]) O dX10_layBig_84 4 rfl (nI_1 i) (by decide) rfl ?_
      refine v_goto O 69 dX10_layBig_87 (by decide) ?_
      exact ih (i + 1) (by omega) _ (fun j hj => by
        by_cases e : j = i
        · rw [e, pk_us]
        · rw [pk_un e]; exact h1 j (by omega))
set_option maxRecDepth 100000 in
set_option maxHeartbeats 4000000 in
theorem l_X10_lay2 {D : G} {X : CX} {mo : Nat} {ma : Nat → Nat} {c : CS} {c2 : CS} {tk : Int32} {vc : Nat} {ln : Nat} {rn : Nat} {zs_10 : Int32} {zs_11 : Int32} {zs_20 : Int32} {zs_21 : Int32} {zs_22 : Int32} {zs_25 : Int32} {zs_26 : Int32} {zs_27 : Int32} {zs_29 : Int32} {d : Nat} {m : Nat} {q : Nat} (O : Ok D X mX10_layBig 1 0 0) (hd0 : 2 ≤ d) (hd : d ≤ 12) (hm : m ≤ 30) (ho : q ≤ 9) (T : Rt D X (fun r w => ∃ g : Nat → Int32, r = none ∧ w = [(mo, .inr (10, M1R ma (mZ c c2 tk vc ln rn zs_10 zs_11 zs_20 zs_21 zs_22 zs_25 zs_26 zs_27 zs_29))), ((ma 33), eI D 42 g)] ∧ ((∀ zj, zj < 42 → g zj = digs (bigN d m q) zj))) 0 0) : ∀ (t i : Nat), i + t = m + 1 → ∀ g : Nat → Int32, (∀ zj, zj < 42 → g zj = digs (d ^ i) zj) → V D X 0 0 36 [(0, .ref mo), (1, .int (nI d)), (2, .int (nI m)), (3, .int (nI q)), (4, .int (nI i))] [] [(mo, .inr (10, M1R ma (mZ c c2 tk vc ln rn zs_10 zs_11 zs_20 zs_21 zs_22 zs_25 zs_26 zs_27 zs_29))), ((ma 33), eI D 42 g)] := by
  intro t
  induction t with
  | zero =>
    intro i hi g hg
    refine v_iload O dX10_layBig_36 4 rfl ?_
    refine v_iload_n O dX10_layBig_38 2 rfl ?_
    refine v_icmp_gt O 53 dX10_layBig_39 (by decide) (fun z1 => ?_) (fun z1 => ?_)
    · skip
      have z1 := (c_lt' (x := nI i) (y := nI m) (a := i) (b := m) rfl rfl (by omega) (by omega)).mp z1
      have ei : i = m + 1 := by omega
      have hamt : (d - 1) * q < 100 := Nat.lt_of_le_of_lt (Nat.mul_le_mul (show d - 1 ≤ 11 by omega) ho) (by decide)
      refine v_aload_n O dX10_layBig_53 0 rfl ?_
      refine v_iload_n O dX10_layBig_54 1 rfl ?_
      refine v_iconst (v := 1) O dX10_layBig_55 (by decide) ?_
      refine v_isub O dX10_layBig_56 ?_
      refine v_top (y := nI (d - 1)) (pk_sub (a := d) (b := 1) (by omega)) ?_
      refine v_iload_n O dX10_layBig_57 3 rfl ?_
      refine v_imul O dX10_layBig_58 ?_
      refine v_top (y := nI ((d - 1) * q)) (pk_mul (d - 1) q) ?_
      refine v_cV (T := TX10) (ci := 10) (As := [.int (nI ((d - 1) * q))]) (wr := []) (st := []) O cf_X10_308 rfl (sp_X10_less (mo := mo) (ma := ma) (c := c) (c2 := c2) (tk := tk) (vc := vc) (ln := ln) (rn := rn) (zs_10 := zs_10) (zs_11 := zs_11) (zs_20 := zs_20) (zs_21 := zs_21) (zs_22 := zs_22) (zs_25 := zs_25) (zs_26 := zs_26) (zs_27 := zs_27) (zs_29 := zs_29) (f := g) (N := (d ^ i)) (a := ((d - 1) * q)) (hamt) (Nat.lt_trans (big_lt hd (by omega)) (by decide)) (hg)) dX10_layBig_59 rfl rfl 0 rfl [0, 1] [] (by decide) rfl rfl (by decide) (by decide) (by decide) (Nat.le_of_ble_eq_true rfl) (by decide) (by decide) (fun r_2 w_3 h_1 => ?_)
      obtain ⟨g_4, rfl, rfl, hg3⟩ := h_1
      refine v_eq (st' := [.int (b2i (((d - 1) * q) ≤ (d ^ i)))]) (ws' := [(mo, .inr (10, M1R ma (mZ c c2 tk vc ln rn zs_10 zs_11 zs_20 zs_21 zs_22 zs_25 zs_26 zs_27 zs_29))), ((ma 33), eI D 42 g_4)]) rfl rfl rfl rfl ?_
      refine v_if_eq O 66 dX10_layBig_62 (by decide) (fun z3 => ?_) (fun z3 => ?_)
      · skip
        have z3 := b2i_0.mp z3
        refine v_iconst (v := 0) O dX10_layBig_66 (by decide) ?_
        refine v_istore (lv' := [(0, .ref mo), (1, .int (nI d)), (2, .int (nI m)), (3, .int (nI q)), (4, .int 0)]) O dX10_layBig_67 (by decide) rfl ?_
        refine v_eq (lv' := [(0, .ref mo), (1, .int (nI d)), (2, .int (nI m)), (3, .int (nI q)), (4, .int (nI 0))]) rfl rfl rfl rfl ?_
        exact l_X10_lay3 O (by subst ei; unfold bigN; omega) T 42 0 (by omega) _ (fun j hj => absurd hj (Nat.not_lt_zero j))
      · skip
        have z3 := b2i_1.mp z3
        exact v_return O T rfl (by decide) (by decide) dX10_layBig_65 (⟨_, rfl, rfl, by subst ei; exact hg3 z3⟩)
    · skip
      have z1 := (not_congr (c_lt' (x := nI i) (y := nI m) (a := i) (b := m) rfl rfl (by omega) (by omega))).mp z1
      exact absurd z1 (by omega)
  | succ t ih =>
    intro i hi g hg
    refine v_iload O dX10_layBig_36 4 rfl ?_
    refine v_iload_n O dX10_layBig_38 2 rfl ?_
    refine v_icmp_gt O 53 dX10_layBig_39 (by decide) (fun z1 => ?_) (fun z1 => ?_)
    · skip
      have z1 := (c_lt' (x := nI i) (y := nI m) (a := i) (b := m) rfl rfl (by omega) (by omega)).mp z1
      exact absurd z1 (by omega)
    · skip
      have z1 := (not_congr (c_lt' (x := nI i) (y := nI m) (a := i) (b := m) rfl rfl (by omega) (by omega))).mp z1
      refine v_aload_n O dX10_layBig_42 0 rfl ?_
      refine v_iload_n O dX10_layBig_43 1 rfl ?_
      refine v_cV (T := TX10) (ci := 10) (As := [.int (nI d)]) (wr := []) (st := []) O cf_X10_305 rfl (sp_X10_times (mo := mo) (ma := ma) (c := c) (c2 := c2) (tk := tk) (vc := vc) (ln := ln) (rn := rn) (zs_10 := zs_10) (zs_11 := zs_11) (zs_20 := zs_20) (zs_21 := zs_21) (zs_22 := zs_22) (zs_25 := zs_25) (zs_26 := zs_26) (zs_27 := zs_27) (zs_29 := zs_29) (f := g) (N := (d ^ i)) (b := d) (by omega) (hd) (hg)) dX10_layBig_44 rfl rfl 0 rfl [0, 1] [] (by decide) rfl rfl (by decide) (by decide) (by decide) (Nat.le_of_ble_eq_true rfl) (by decide) (by decide) (fun r_2 w_3 h_1 => ?_)
      obtain ⟨g_4, rfl, rfl, hg2⟩ := h_1
      refine v_eq (st' := []) (ws' := [(mo, .inr (10, M1R ma (mZ c c2 tk vc ln rn zs_10 zs_11 zs_20 zs_21 zs_22 zs_25 zs_26 zs_27 zs_29))), ((ma 33), eI D 42 g_4)]) rfl rfl rfl rfl ?_
      refine v_iinc (v := nI (i + 1)) (lv' := [(0, .ref mo), (1, .int (nI d)), (2, .int (nI m)), (3, .int (nI q)), (4, .int (nI (i + 1)))]) O dX10_layBig_47 4 rfl (nI_1 i) (by decide) rfl ?_
      refine v_goto O 36 dX10_layBig_50 (by decide) ?_
      exact ih (i + 1) (by omega) _ (fun j hj => by rw [hg2 j hj, Nat.pow_succ])
set_option maxRecDepth 100000 in
set_option maxHeartbeats 4000000 in
theorem l_X10_lay1 {D : G} {X : CX} {mo : Nat} {ma : Nat → Nat} {c : CS} {c2 : CS} {tk : Int32} {vc : Nat} {ln : Nat} {rn : Nat} {zs_10 : Int32} {zs_11 : Int32} {zs_20 : Int32} {zs_21 : Int32} {zs_22 : Int32} {zs_25 : Int32} {zs_26 : Int32} {zs_27 : Int32} {zs_29 : Int32} {d : Nat} {m : Nat} {q : Nat} (O : Ok D X mX10_layBig 1 0 0) (hd0 : 2 ≤ d) (hd : d ≤ 12) (hm : m ≤ 30) (ho : q ≤ 9) (T : Rt D X (fun r w => ∃ g : Nat → Int32, r = none ∧ w = [(mo, .inr (10, M1R ma (mZ c c2 tk vc ln rn zs_10 zs_11 zs_20 zs_21 zs_22 zs_25 zs_26 zs_27 zs_29))), ((ma 33), eI D 42 g)] ∧ ((∀ zj, zj < 42 → g zj = digs (bigN d m q) zj))) 0 0) : ∀ (t i : Nat), i + t = 42 → ∀ g : Nat → Int32, (∀ j, j < i → g j = digs 1 j) → V D X 0 0 3 [(0, .ref mo), (1, .int (nI d)), (2, .int (nI m)), (3, .int (nI q)), (4, .int (nI i))] [] [(mo, .inr (10, M1R ma (mZ c c2 tk vc ln rn zs_10 zs_11 zs_20 zs_21 zs_22 zs_25 zs_26 zs_27 zs_29))), ((ma 33), eI D 42 g)] := by
  intro t
  induction t with
  | zero =>
    intro i hi g h1
    refine v_iload O dX10_layBig_3 4 rfl ?_
    refine v_bipush (v := 42) O dX10_layBig_5 (by decide) ?_
    refine v_icmp_ge O 33 dX10_layBig_7 (by decide) (fun z1 => ?_) (fun z1 => ?_)
    · skip
      have z1 := (c_le' (x := nI i) (y := 42) (a := i) (b := 42) rfl rfl (by omega) (by omega)).mp z1
      refine v_iconst (v := 0) O dX10_layBig_33 (by decide) ?_
      refine v_istore (lv' := [(0, .ref mo), (1, .int (nI d)), (2, .int (nI m)), (3, .int (nI q)), (4, .int 0)]) O dX10_layBig_34 (by decide) rfl ?_
      refine v_eq (lv' := [(0, .ref mo), (1, .int (nI d)), (2, .int (nI m)), (3, .int (nI q)), (4, .int (nI 0))]) rfl rfl rfl rfl ?_
      exact l_X10_lay2 O hd0 hd hm ho T (m + 1) 0 (by omega) _ (fun j hj => by rw [Nat.pow_zero]; exact h1 j (by omega))
    · skip
      have z1 := (not_congr (c_le' (x := nI i) (y := 42) (a := i) (b := 42) rfl rfl (by omega) (by omega))).mp z1
      exact absurd z1 (by omega)
  | succ t ih =>
    intro i hi g h1
    refine v_iload O dX10_layBig_3 4 rfl ?_
    refine v_bipush (v := 42) O dX10_layBig_5 (by decide) ?_
    refine v_icmp_ge O 33 dX10_layBig_7 (by decide) (fun z1 => ?_) (fun z1 => ?_)
    · skip
      have z1 := (c_le' (x := nI i) (y := 42) (a := i) (b := 42) rfl rfl (by omega) (by omega)).mp z1
      exact absurd z1 (by omega)
    · skip
      have z1 := (not_congr (c_le' (x := nI i) (y := 42) (a := i) (b := 42) rfl rfl (by omega) (by omega))).mp z1
      refine v_aload_n O dX10_layBig_10 0 rfl ?_
      refine gf_X10_111 (v := .ref (ma 33)) O rfl dX10_layBig_11 0 rfl rfl ?_
      refine v_iload O dX10_layBig_14 4 rfl ?_
      refine v_iload O dX10_layBig_16 4 rfl ?_
      refine v_if_ne O 25 dX10_layBig_18 (by decide) (fun z2 => ?_) (fun z2 => ?_)
      · skip
        have z2 := (not_congr (c_eq (x := nI i) (y := 0) (a := i) (b := 0) rfl rfl (by omega) (by omega))).mp z2
        refine v_iconst (v := 0) O dX10_layBig_25 (by decide) ?_
        refine v_iastk (ws' := [(mo, .inr (10, M1R ma (mZ c c2 tk vc ln rn zs_10 zs_11 zs_20 zs_21 zs_22 zs_25 zs_26 zs_27 zs_29))), ((ma 33), eI D 42 (upd g i 0))]) O dX10_layBig_26 1 rfl i (rfl) (by omega) (by decide) (rfl) ?_
        refine v_iinc (v := nI (i + 1)) (lv' := [(0, .ref mo), (1, .int (nI d)), (2, .int (nI m)), (3, .int (nI q)), (4, .int (nI (i + 1)))]) O dX10_layBig_27 4 rfl (nI_1 i) (by decide) rfl ?_
        refine v_goto O 3 dX10_layBig_30 (by decide) ?_
        exact ih (i + 1) (by omega) _ (fun j hj => by
          by_cases e : j = i
          · rw [e, pk_us]; exact congrArg nI (digs_high (n := 1) (N := 1) (i := i) (by decide) (by omega)).symm
          · rw [pk_un e]; exact h1 j (by omega))
      · skip
        have z2 := (c_eq (x := nI i) (y := 0) (a := i) (b := 0) rfl rfl (by omega) (by omega)).mp z2
        refine v_iconst (v := 1) O dX10_layBig_21 (by decide) ?_
        refine v_goto O 26 dX10_layBig_22 (by decide) ?_
        refine v_iastk (ws' := [(mo, .inr (10, M1R ma (mZ c c2 tk vc ln rn zs_10 zs_11 zs_20 zs_21 zs_22 zs_25 zs_26 zs_27 zs_29))), ((ma 33), eI D 42 (upd g i 1))]) O dX10_layBig_26 1 rfl i (rfl) (by omega) (by decide) (rfl) ?_
        refine v_iinc (v := nI (i + 1)) (lv' := [(0, .ref mo), (1, .int (nI d)), (2, .int (nI m)), (3, .int (nI q)), (4, .int (nI (i + 1)))]) O dX10_layBig_27 4 rfl (nI_1 i) (by decide) rfl ?_
        refine v_goto O 3 dX10_layBig_30 (by decide) ?_
        exact ih (i + 1) (by omega) _ (fun j hj => by
          by_cases e : j = i
          · rw [e, pk_us]; rw [z2]; rfl
          · rw [pk_un e]; exact h1 j (by omega))
set_option maxRecDepth 100000 in
set_option maxHeartbeats 4000000 in
theorem sp_X10_layBig {D : G} {mo : Nat} {ma : Nat → Nat} {c : CS} {c2 : CS} {tk : Int32} {vc : Nat} {ln : Nat} {rn : Nat} {zs_10 : Int32} {zs_11 : Int32} {zs_20 : Int32} {zs_21 : Int32} {zs_22 : Int32} {zs_25 : Int32} {zs_26 : Int32} {zs_27 : Int32} {zs_29 : Int32} {f : Nat → Int32} {d : Nat} {m : Nat} {q : Nat} (hd0 : 2 ≤ d) (hd : d ≤ 12) (hm : m ≤ 30) (ho : q ≤ 9) : Sp D mX10_layBig 1 0 0 [.ref mo, .int (nI d), .int (nI m), .int (nI q)] [(mo, .inr (10, M1R ma (mZ c c2 tk vc ln rn zs_10 zs_11 zs_20 zs_21 zs_22 zs_25 zs_26 zs_27 zs_29))), ((ma 33), eI D 42 f)] (fun r w => ∃ g : Nat → Int32, r = none ∧ w = [(mo, .inr (10, M1R ma (mZ c c2 tk vc ln rn zs_10 zs_11 zs_20 zs_21 zs_22 zs_25 zs_26 zs_27 zs_29))), ((ma 33), eI D 42 g)] ∧ ((∀ zj, zj < 42 → g zj = digs (bigN d m q) zj))) := by
  refine Sp.of (by decide) (Nat.le_of_ble_eq_true rfl) (fun X O T => ?_)
  refine v_eq (lv' := [(0, .ref mo), (1, .int (nI d)), (2, .int (nI m)), (3, .int (nI q))]) rfl rfl rfl rfl ?_
  refine v_iconst (v := 0) O dX10_layBig_0 (by decide) ?_
  refine v_istore (lv' := [(0, .ref mo), (1, .int (nI d)), (2, .int (nI m)), (3, .int (nI q)), (4, .int 0)]) O dX10_layBig_1 (by decide) rfl ?_
  refine v_eq (lv' := [(0, .ref mo), (1, .int (nI d)), (2, .int (nI m)), (3, .int (nI q)), (4, .int (nI 0))]) rfl rfl rfl rfl ?_
  exact l_X10_lay1 O hd0 hd hm ho T 42 0 (by omega) f (fun j hj => absurd hj (Nat.not_lt_zero j))
set_option maxRecDepth 100000 in
set_option maxHeartbeats 4000000 in
theorem sp_X10_big_1 {D : G} {mo : Nat} {ma : Nat → Nat} {c : CS} {c2 : CS} {tk : Int32} {vc : Nat} {ln : Nat} {rn : Nat} {zs_10 : Int32} {zs_11 : Int32} {zs_20 : Int32} {zs_21 : Int32} {zs_22 : Int32} {zs_25 : Int32} {zs_26 : Int32} {zs_27 : Int32} {zs_29 : Int32} {d : Int32} {m : Int32} {q : Int32} {zw : Int32} (hw : ¬ zw = -1 ∧ ¬ isIx zw 40 ∧ ¬ (102 ≤ zw ∧ zw ≤ 199)) : Sp D mX10_big 30 0 0 [.ref mo, .int d, .int m, .int q, .int zw] [(mo, .inr (10, M1R ma (mZ c c2 tk vc ln rn zs_10 zs_11 zs_20 zs_21 zs_22 zs_25 zs_26 zs_27 zs_29)))] (fun r w => ∃ zs2_10 : Int32, ∃ zs2_11 : Int32, ∃ zs2_20 : Int32, ∃ zs2_21 : Int32, ∃ zs2_22 : Int32, ∃ zs2_25 : Int32, ∃ zs2_26 : Int32, ∃ zs2_27 : Int32, ∃ zs2_29 : Int32, r = some (.int (-1)) ∧ w = [(mo, .inr (10, M1R ma (mZ c c2 tk vc ln rn zs2_10 zs2_11 zs2_20 zs2_21 zs2_22 zs2_25 zs2_26 zs2_27 zs2_29)))]) := by
  refine Sp.of (by decide) (Nat.le_of_ble_eq_true rfl) (fun X O T => ?_)
  refine v_eq (lv' := [(0, .ref mo), (1, .int d), (2, .int m), (3, .int q), (4, .int zw)]) rfl rfl rfl rfl ?_
  refine v_aload_n O dX10_big_0 0 rfl ?_
  refine v_iload O dX10_big_1 4 rfl ?_
  refine v_iconst (v := -1) O dX10_big_3 (by decide) ?_
  refine v_bipush (v := 39) O dX10_big_4 (by decide) ?_
  refine v_cV (T := TX10) (ci := 10) (As := [.int zw, .int (-1), .int 39]) (wr := [(mo, .inr (10, M1R ma (mZ c c2 tk vc ln rn zs_10 zs_11 zs_20 zs_21 zs_22 zs_25 zs_26 zs_27 zs_29)))]) (st := []) O cf_X10_179 rfl (sp_X10_in_m1_39 (mo := mo) (x := zw) ) dX10_big_6 rfl rfl 0 rfl [] [0] (by decide) rfl rfl (by decide) (by decide) (by decide) (Nat.le_of_ble_eq_true rfl) (by decide) (by decide) (fun r_2 w_3 h_1 => ?_)
  obtain ⟨rfl, rfl⟩ := h_1
  refine v_eq (st' := [.int (b2i (-1 ≤ zw ∧ zw ≤ 39))]) (ws' := [(mo, .inr (10, M1R ma (mZ c c2 tk vc ln rn zs_10 zs_11 zs_20 zs_21 zs_22 zs_25 zs_26 zs_27 zs_29)))]) rfl rfl rfl rfl ?_
  refine v_if_ne O 28 dX10_big_9 (by decide) (fun z1 => ?_) (fun z1 => ?_)
  · skip
    have z1 := b2i_1.mp z1
    exact absurd (isIx_t' (n := 40) (m := 39) (by decide) rfl (zm1_n (Int32.not_lt.mpr z1.1) hw.1) (Int32.not_lt.mpr z1.2)) hw.2.1
  · skip
    have z1 := b2i_0.mp z1
    refine v_aload_n O dX10_big_12 0 rfl ?_
    refine v_iload O dX10_big_13 4 rfl ?_
    refine v_bipush (v := 102) O dX10_big_15 (by decide) ?_
    refine v_sipush (v := 199) O dX10_big_17 (by decide) ?_
    refine v_cV (T := TX10) (ci := 10) (As := [.int zw, .int 102, .int 199]) (wr := [(mo, .inr (10, M1R ma (mZ c c2 tk vc ln rn zs_10 zs_11 zs_20 zs_21 zs_22 zs_25 zs_26 zs_27 zs_29)))]) (st := []) O cf_X10_179 rfl (sp_X10_in_102_199 (mo := mo) (x := zw) ) dX10_big_20 rfl rfl 0 rfl [] [0] (by decide) rfl rfl (by decide) (by decide) (by decide) (Nat.le_of_ble_eq_true rfl) (by decide) (by decide) (fun r_5 w_6 h_4 => ?_)
    obtain ⟨rfl, rfl⟩ := h_4
    refine v_eq (st' := [.int (b2i (102 ≤ zw ∧ zw ≤ 199))]) (ws' := [(mo, .inr (10, M1R ma (mZ c c2 tk vc ln rn zs_10 zs_11 zs_20 zs_21 zs_22 zs_25 zs_26 zs_27 zs_29)))]) rfl rfl rfl rfl ?_
    refine v_if_ne O 28 dX10_big_23 (by decide) (fun z2 => ?_) (fun z2 => ?_)
    · skip
      have z2 := b2i_1.mp z2
      exact absurd z2 hw.2.2
    · skip
      have z2 := b2i_0.mp z2
      refine v_iconst (v := -1) O dX10_big_26 (by decide) ?_
      exact v_ireturn O T rfl rfl (by decide) (by decide) dX10_big_27 (⟨zs_10, zs_11, zs_20, zs_21, zs_22, zs_25, zs_26, zs_27, zs_29, rfl, rfl⟩)
set_option maxRecDepth 100000 in
set_option maxHeartbeats 4000000 in
theorem sp_X10_big_2 {D : G} {mo : Nat} {ma : Nat → Nat} {c : CS} {c2 : CS} {tk : Int32} {vc : Nat} {ln : Nat} {rn : Nat} {zs_10 : Int32} {zs_11 : Int32} {zs_20 : Int32} {zs_21 : Int32} {zs_22 : Int32} {zs_25 : Int32} {zs_26 : Int32} {zs_27 : Int32} {zs_29 : Int32} {d : Int32} {m : Int32} {q : Int32} (hb : ¬ (2 ≤ d ∧ d ≤ 12 ∧ 1 ≤ m ∧ m ≤ 30 ∧ 0 ≤ q ∧ q ≤ 9)) : Sp D mX10_big 30 0 0 [.ref mo, .int d, .int m, .int q, .int (-1)] [(mo, .inr (10, M1R ma (mZ c c2 tk vc ln rn zs_10 zs_11 zs_20 zs_21 zs_22 zs_25 zs_26 zs_27 zs_29)))] (fun r w => ∃ zs2_10 : Int32, ∃ zs2_11 : Int32, ∃ zs2_20 : Int32, ∃ zs2_21 : Int32, ∃ zs2_22 : Int32, ∃ zs2_25 : Int32, ∃ zs2_26 : Int32, ∃ zs2_27 : Int32, ∃ zs2_29 : Int32, r = some (.int (-2)) ∧ w = [(mo, .inr (10, M1R ma (mZ c c2 tk vc ln rn zs2_10 zs2_11 zs2_20 zs2_21 zs2_22 zs2_25 zs2_26 zs2_27 zs2_29)))]) := by
  refine Sp.of (by decide) (Nat.le_of_ble_eq_true rfl) (fun X O T => ?_)
  refine v_eq (lv' := [(0, .ref mo), (1, .int d), (2, .int m), (3, .int q), (4, .int (-1))]) rfl rfl rfl rfl ?_
  refine v_aload_n O dX10_big_0 0 rfl ?_
  refine v_iload O dX10_big_1 4 rfl ?_
  refine v_iconst (v := -1) O dX10_big_3 (by decide) ?_
  refine v_bipush (v := 39) O dX10_big_4 (by decide) ?_
  refine v_cV (T := TX10) (ci := 10) (As := [.int (-1), .int (-1), .int 39]) (wr := [(mo, .inr (10, M1R ma (mZ c c2 tk vc ln rn zs_10 zs_11 zs_20 zs_21 zs_22 zs_25 zs_26 zs_27 zs_29)))]) (st := []) O cf_X10_179 rfl (sp_X10_in_m1_39 (mo := mo) (x := (-1)) ) dX10_big_6 rfl rfl 0 rfl [] [0] (by decide) rfl rfl (by decide) (by decide) (by decide) (Nat.le_of_ble_eq_true rfl) (by decide) (by decide) (fun r_2 w_3 h_1 => ?_)
  obtain ⟨rfl, rfl⟩ := h_1
  refine v_eq (st' := [.int (b2i (-1 ≤ (-1) ∧ (-1) ≤ 39))]) (ws' := [(mo, .inr (10, M1R ma (mZ c c2 tk vc ln rn zs_10 zs_11 zs_20 zs_21 zs_22 zs_25 zs_26 zs_27 zs_29)))]) rfl rfl rfl rfl ?_
  refine v_if_ne O 28 dX10_big_9 (by decide) (fun z1 => ?_) (fun z1 => ?_)
  · skip
    have z1 := b2i_1.mp z1
    refine v_aload_n O dX10_big_28 0 rfl ?_
    refine v_iload_n O dX10_big_29 1 rfl ?_
    refine v_iconst (v := 2) O dX10_big_30 (by decide) ?_
    refine v_bipush (v := 12) O dX10_big_31 (by decide) ?_
    refine v_cV (T := TX10) (ci := 10) (As := [.int d, .int 2, .int 12]) (wr := [(mo, .inr (10, M1R ma (mZ c c2 tk vc ln rn zs_10 zs_11 zs_20 zs_21 zs_22 zs_25 zs_26 zs_27 zs_29)))]) (st := []) O cf_X10_179 rfl (sp_X10_in_2_12 (mo := mo) (x := d) ) dX10_big_33 rfl rfl 0 rfl [] [0] (by decide) rfl rfl (by decide) (by decide) (by decide) (Nat.le_of_ble_eq_true rfl) (by decide) (by decide) (fun r_5 w_6 h_4 => ?_)
    obtain ⟨rfl, rfl⟩ := h_4
    refine v_eq (st' := [.int (b2i (2 ≤ d ∧ d ≤ 12))]) (ws' := [(mo, .inr (10, M1R ma (mZ c c2 tk vc ln rn zs_10 zs_11 zs_20 zs_21 zs_22 zs_25 zs_26 zs_27 zs_29)))]) rfl rfl rfl rfl ?_
    refine v_if_eq O 61 dX10_big_36 (by decide) (fun y1 => ?_) (fun y1 => ?_)
    · skip
      have y1 := b2i_0.mp y1
      refine v_bipush (v := -2) O dX10_big_61 (by decide) ?_
      exact v_ireturn O T rfl rfl (by decide) (by decide) dX10_big_63 (⟨zs_10, zs_11, zs_20, zs_21, zs_22, zs_25, zs_26, zs_27, zs_29, rfl, rfl⟩)
    · skip
      have y1 := b2i_1.mp y1
      refine v_aload_n O dX10_big_39 0 rfl ?_
      refine v_iload_n O dX10_big_40 2 rfl ?_
      refine v_iconst (v := 1) O dX10_big_41 (by decide) ?_
      refine v_bipush (v := 30) O dX10_big_42 (by decide) ?_
      refine v_cV (T := TX10) (ci := 10) (As := [.int m, .int 1, .int 30]) (wr := [(mo, .inr (10, M1R ma (mZ c c2 tk vc ln rn zs_10 zs_11 zs_20 zs_21 zs_22 zs_25 zs_26 zs_27 zs_29)))]) (st := []) O cf_X10_179 rfl (sp_X10_in_1_30 (mo := mo) (x := m) ) dX10_big_44 rfl rfl 0 rfl [] [0] (by decide) rfl rfl (by decide) (by decide) (by decide) (Nat.le_of_ble_eq_true rfl) (by decide) (by decide) (fun r_8 w_9 h_7 => ?_)
      obtain ⟨rfl, rfl⟩ := h_7
      refine v_eq (st' := [.int (b2i (1 ≤ m ∧ m ≤ 30))]) (ws' := [(mo, .inr (10, M1R ma (mZ c c2 tk vc ln rn zs_10 zs_11 zs_20 zs_21 zs_22 zs_25 zs_26 zs_27 zs_29)))]) rfl rfl rfl rfl ?_
      refine v_if_eq O 61 dX10_big_47 (by decide) (fun y2 => ?_) (fun y2 => ?_)
      · skip
        have y2 := b2i_0.mp y2
        refine v_bipush (v := -2) O dX10_big_61 (by decide) ?_
        exact v_ireturn O T rfl rfl (by decide) (by decide) dX10_big_63 (⟨zs_10, zs_11, zs_20, zs_21, zs_22, zs_25, zs_26, zs_27, zs_29, rfl, rfl⟩)
      · skip
        have y2 := b2i_1.mp y2
        refine v_aload_n O dX10_big_50 0 rfl ?_
        refine v_iload_n O dX10_big_51 3 rfl ?_
        refine v_iconst (v := 0) O dX10_big_52 (by decide) ?_
        refine v_bipush (v := 9) O dX10_big_53 (by decide) ?_
        refine v_cV (T := TX10) (ci := 10) (As := [.int q, .int 0, .int 9]) (wr := [(mo, .inr (10, M1R ma (mZ c c2 tk vc ln rn zs_10 zs_11 zs_20 zs_21 zs_22 zs_25 zs_26 zs_27 zs_29)))]) (st := []) O cf_X10_179 rfl (sp_X10_in_0 (mo := mo) (x := q) (h := 9) (zn := 10) (rfl) (by decide)) dX10_big_55 rfl rfl 0 rfl [] [0] (by decide) rfl rfl (by decide) (by decide) (by decide) (Nat.le_of_ble_eq_true rfl) (by decide) (by decide) (fun r_11 w_12 h_10 => ?_)
        obtain ⟨rfl, rfl⟩ := h_10
        refine v_eq (st' := [.int (b2i (isIx q 10))]) (ws' := [(mo, .inr (10, M1R ma (mZ c c2 tk vc ln rn zs_10 zs_11 zs_20 zs_21 zs_22 zs_25 zs_26 zs_27 zs_29)))]) rfl rfl rfl rfl ?_
        refine v_if_ne O 64 dX10_big_58 (by decide) (fun y3 => ?_) (fun y3 => ?_)
        · skip
          have y3 := b2i_1.mp y3
          exact absurd ⟨y1.1, y1.2, y2.1, y2.2, by obtain ⟨k9, hk9, e9⟩ := y3; rw [e9]; exact ⟨Int32.not_lt.mp (nI_pos (by omega)), (c_le (x := nI k9) (y := 9) (b := 9) rfl rfl (by omega) (by omega)).mpr (by omega)⟩⟩ hb
        · skip
          have y3 := b2i_0.mp y3
          refine v_bipush (v := -2) O dX10_big_61 (by decide) ?_
          exact v_ireturn O T rfl rfl (by decide) (by decide) dX10_big_63 (⟨zs_10, zs_11, zs_20, zs_21, zs_22, zs_25, zs_26, zs_27, zs_29, rfl, rfl⟩)
  · skip
    have z1 := b2i_0.mp z1
    exact absurd (by decide) z1
set_option maxRecDepth 100000 in
set_option maxHeartbeats 4000000 in
theorem sp_X10_big_4 {D : G} {mo : Nat} {ma : Nat → Nat} {c : CS} {c2 : CS} {tk : Int32} {vc : Nat} {ln : Nat} {rn : Nat} {zs_10 : Int32} {zs_11 : Int32} {zs_20 : Int32} {zs_21 : Int32} {zs_22 : Int32} {zs_25 : Int32} {zs_26 : Int32} {zs_27 : Int32} {zs_29 : Int32} {d : Int32} {m : Int32} {q : Int32} {zw : Nat} (hw : zw < 40) (hb : ¬ (2 ≤ d ∧ d ≤ 12 ∧ 1 ≤ m ∧ m ≤ 30 ∧ 0 ≤ q ∧ q ≤ 9)) : Sp D mX10_big 30 0 0 [.ref mo, .int d, .int m, .int q, .int (nI zw)] [(mo, .inr (10, M1R ma (mZ c c2 tk vc ln rn zs_10 zs_11 zs_20 zs_21 zs_22 zs_25 zs_26 zs_27 zs_29)))] (fun r w => ∃ zs2_10 : Int32, ∃ zs2_11 : Int32, ∃ zs2_20 : Int32, ∃ zs2_21 : Int32, ∃ zs2_22 : Int32, ∃ zs2_25 : Int32, ∃ zs2_26 : Int32, ∃ zs2_27 : Int32, ∃ zs2_29 : Int32, r = some (.int (-2)) ∧ w = [(mo, .inr (10, M1R ma (mZ c c2 tk vc ln rn zs2_10 zs2_11 zs2_20 zs2_21 zs2_22 zs2_25 zs2_26 zs2_27 zs2_29)))]) := by
  refine Sp.of (by decide) (Nat.le_of_ble_eq_true rfl) (fun X O T => ?_)
  refine v_eq (lv' := [(0, .ref mo), (1, .int d), (2, .int m), (3, .int q), (4, .int (nI zw))]) rfl rfl rfl rfl ?_
  refine v_aload_n O dX10_big_0 0 rfl ?_
  refine v_iload O dX10_big_1 4 rfl ?_
  refine v_iconst (v := -1) O dX10_big_3 (by decide) ?_
  refine v_bipush (v := 39) O dX10_big_4 (by decide) ?_
  refine v_cV (T := TX10) (ci := 10) (As := [.int (nI zw), .int (-1), .int 39]) (wr := [(mo, .inr (10, M1R ma (mZ c c2 tk vc ln rn zs_10 zs_11 zs_20 zs_21 zs_22 zs_25 zs_26 zs_27 zs_29)))]) (st := []) O cf_X10_179 rfl (sp_X10_in_m1_39 (mo := mo) (x := (nI zw)) ) dX10_big_6 rfl rfl 0 rfl [] [0] (by decide) rfl rfl (by decide) (by decide) (by decide) (Nat.le_of_ble_eq_true rfl) (by decide) (by decide) (fun r_2 w_3 h_1 => ?_)
  obtain ⟨rfl, rfl⟩ := h_1
  refine v_eq (st' := [.int (b2i (-1 ≤ (nI zw) ∧ (nI zw) ≤ 39))]) (ws' := [(mo, .inr (10, M1R ma (mZ c c2 tk vc ln rn zs_10 zs_11 zs_20 zs_21 zs_22 zs_25 zs_26 zs_27 zs_29)))]) rfl rfl rfl rfl ?_
  refine v_if_ne O 28 dX10_big_9 (by decide) (fun z1 => ?_) (fun z1 => ?_)
  · skip
    have z1 := b2i_1.mp z1
    refine v_aload_n O dX10_big_28 0 rfl ?_
    refine v_iload_n O dX10_big_29 1 rfl ?_
    refine v_iconst (v := 2) O dX10_big_30 (by decide) ?_
    refine v_bipush (v := 12) O dX10_big_31 (by decide) ?_
    refine v_cV (T := TX10) (ci := 10) (As := [.int d, .int 2, .int 12]) (wr := [(mo, .inr (10, M1R ma (mZ c c2 tk vc ln rn zs_10 zs_11 zs_20 zs_21 zs_22 zs_25 zs_26 zs_27 zs_29)))]) (st := []) O cf_X10_179 rfl (sp_X10_in_2_12 (mo := mo) (x := d) ) dX10_big_33 rfl rfl 0 rfl [] [0] (by decide) rfl rfl (by decide) (by decide) (by decide) (Nat.le_of_ble_eq_true rfl) (by decide) (by decide) (fun r_5 w_6 h_4 => ?_)
    obtain ⟨rfl, rfl⟩ := h_4
    refine v_eq (st' := [.int (b2i (2 ≤ d ∧ d ≤ 12))]) (ws' := [(mo, .inr (10, M1R ma (mZ c c2 tk vc ln rn zs_10 zs_11 zs_20 zs_21 zs_22 zs_25 zs_26 zs_27 zs_29)))]) rfl rfl rfl rfl ?_
    refine v_if_eq O 61 dX10_big_36 (by decide) (fun y1 => ?_) (fun y1 => ?_)
    · skip
      have y1 := b2i_0.mp y1
      refine v_bipush (v := -2) O dX10_big_61 (by decide) ?_
      exact v_ireturn O T rfl rfl (by decide) (by decide) dX10_big_63 (⟨zs_10, zs_11, zs_20, zs_21, zs_22, zs_25, zs_26, zs_27, zs_29, rfl, rfl⟩)
    · skip
      have y1 := b2i_1.mp y1
      refine v_aload_n O dX10_big_39 0 rfl ?_
      refine v_iload_n O dX10_big_40 2 rfl ?_
      refine v_iconst (v := 1) O dX10_big_41 (by decide) ?_
      refine v_bipush (v := 30) O dX10_big_42 (by decide) ?_
      refine v_cV (T := TX10) (ci := 10) (As := [.int m, .int 1, .int 30]) (wr := [(mo, .inr (10, M1R ma (mZ c c2 tk vc ln rn zs_10 zs_11 zs_20 zs_21 zs_22 zs_25 zs_26 zs_27 zs_29)))]) (st := []) O cf_X10_179 rfl (sp_X10_in_1_30 (mo := mo) (x := m) ) dX10_big_44 rfl rfl 0 rfl [] [0] (by decide) rfl rfl (by decide) (by decide) (by decide) (Nat.le_of_ble_eq_true rfl) (by decide) (by decide) (fun r_8 w_9 h_7 => ?_)
      obtain ⟨rfl, rfl⟩ := h_7
      refine v_eq (st' := [.int (b2i (1 ≤ m ∧ m ≤ 30))]) (ws' := [(mo, .inr (10, M1R ma (mZ c c2 tk vc ln rn zs_10 zs_11 zs_20 zs_21 zs_22 zs_25 zs_26 zs_27 zs_29)))]) rfl rfl rfl rfl ?_
      refine v_if_eq O 61 dX10_big_47 (by decide) (fun y2 => ?_) (fun y2 => ?_)
      · skip
        have y2 := b2i_0.mp y2
        refine v_bipush (v := -2) O dX10_big_61 (by decide) ?_
        exact v_ireturn O T rfl rfl (by decide) (by decide) dX10_big_63 (⟨zs_10, zs_11, zs_20, zs_21, zs_22, zs_25, zs_26, zs_27, zs_29, rfl, rfl⟩)
      · skip
        have y2 := b2i_1.mp y2
        refine v_aload_n O dX10_big_50 0 rfl ?_
        refine v_iload_n O dX10_big_51 3 rfl ?_
        refine v_iconst (v := 0) O dX10_big_52 (by decide) ?_
        refine v_bipush (v := 9) O dX10_big_53 (by decide) ?_
        refine v_cV (T := TX10) (ci := 10) (As := [.int q, .int 0, .int 9]) (wr := [(mo, .inr (10, M1R ma (mZ c c2 tk vc ln rn zs_10 zs_11 zs_20 zs_21 zs_22 zs_25 zs_26 zs_27 zs_29)))]) (st := []) O cf_X10_179 rfl (sp_X10_in_0 (mo := mo) (x := q) (h := 9) (zn := 10) (rfl) (by decide)) dX10_big_55 rfl rfl 0 rfl [] [0] (by decide) rfl rfl (by decide) (by decide) (by decide) (Nat.le_of_ble_eq_true rfl) (by decide) (by decide) (fun r_11 w_12 h_10 => ?_)
        obtain ⟨rfl, rfl⟩ := h_10
        refine v_eq (st' := [.int (b2i (isIx q 10))]) (ws' := [(mo, .inr (10, M1R ma (mZ c c2 tk vc ln rn zs_10 zs_11 zs_20 zs_21 zs_22 zs_25 zs_26 zs_27 zs_29)))]) rfl rfl rfl rfl ?_
        refine v_if_ne O 64 dX10_big_58 (by decide) (fun y3 => ?_) (fun y3 => ?_)
        · skip
          have y3 := b2i_1.mp y3
          exact absurd ⟨y1.1, y1.2, y2.1, y2.2, by obtain ⟨k9, hk9, e9⟩ := y3; rw [e9]; exact ⟨Int32.not_lt.mp (nI_pos (by omega)), (c_le (x := nI k9) (y := 9) (b := 9) rfl rfl (by omega) (by omega)).mpr (by omega)⟩⟩ hb
        · skip
          have y3 := b2i_0.mp y3
          refine v_bipush (v := -2) O dX10_big_61 (by decide) ?_
          exact v_ireturn O T rfl rfl (by decide) (by decide) dX10_big_63 (⟨zs_10, zs_11, zs_20, zs_21, zs_22, zs_25, zs_26, zs_27, zs_29, rfl, rfl⟩)
  · skip
    have z1 := b2i_0.mp z1
    exact absurd (in_m1 (m := 39) (by omega) (by decide)) z1
set_option maxRecDepth 100000 in
set_option maxHeartbeats 4000000 in
theorem sp_X10_big_6 {D : G} {mo : Nat} {ma : Nat → Nat} {c : CS} {c2 : CS} {tk : Int32} {vc : Nat} {ln : Nat} {rn : Nat} {zs_10 : Int32} {zs_11 : Int32} {zs_20 : Int32} {zs_21 : Int32} {zs_22 : Int32} {zs_25 : Int32} {zs_26 : Int32} {zs_27 : Int32} {zs_29 : Int32} {d : Int32} {m : Int32} {q : Int32} {zw : Nat} (hw1 : 2 ≤ zw) (hw : zw < 100) (hb : ¬ (2 ≤ d ∧ d ≤ 12 ∧ 1 ≤ m ∧ m ≤ 30 ∧ 0 ≤ q ∧ q ≤ 9)) : Sp D mX10_big 30 0 0 [.ref mo, .int d, .int m, .int q, .int (nI (zw + 100))] [(mo, .inr (10, M1R ma (mZ c c2 tk vc ln rn zs_10 zs_11 zs_20 zs_21 zs_22 zs_25 zs_26 zs_27 zs_29)))] (fun r w => ∃ zs2_10 : Int32, ∃ zs2_11 : Int32, ∃ zs2_20 : Int32, ∃ zs2_21 : Int32, ∃ zs2_22 : Int32, ∃ zs2_25 : Int32, ∃ zs2_26 : Int32, ∃ zs2_27 : Int32, ∃ zs2_29 : Int32, r = some (.int (-2)) ∧ w = [(mo, .inr (10, M1R ma (mZ c c2 tk vc ln rn zs2_10 zs2_11 zs2_20 zs2_21 zs2_22 zs2_25 zs2_26 zs2_27 zs2_29)))]) := by
  refine Sp.of (by decide) (Nat.le_of_ble_eq_true rfl) (fun X O T => ?_)
  refine v_eq (lv' := [(0, .ref mo), (1, .int d), (2, .int m), (3, .int q), (4, .int (nI (zw + 100)))]) rfl rfl rfl rfl ?_
  refine v_aload_n O dX10_big_0 0 rfl ?_
  refine v_iload O dX10_big_1 4 rfl ?_
  refine v_iconst (v := -1) O dX10_big_3 (by decide) ?_
  refine v_bipush (v := 39) O dX10_big_4 (by decide) ?_
  refine v_cV (T := TX10) (ci := 10) (As := [.int (nI (zw + 100)), .int (-1), .int 39]) (wr := [(mo, .inr (10, M1R ma (mZ c c2 tk vc ln rn zs_10 zs_11 zs_20 zs_21 zs_22 zs_25 zs_26 zs_27 zs_29)))]) (st := []) O cf_X10_179 rfl (sp_X10_in_m1_39 (mo := mo) (x := (nI (zw + 100))) ) dX10_big_6 rfl rfl 0 rfl [] [0] (by decide) rfl rfl (by decide) (by decide) (by decide) (Nat.le_of_ble_eq_true rfl) (by decide) (by decide) (fun r_2 w_3 h_1 => ?_)
  obtain ⟨rfl, rfl⟩ := h_1
  refine v_eq (st' := [.int (b2i (-1 ≤ (nI (zw + 100)) ∧ (nI (zw + 100)) ≤ 39))]) (ws' := [(mo, .inr (10, M1R ma (mZ c c2 tk vc ln rn zs_10 zs_11 zs_20 zs_21 zs_22 zs_25 zs_26 zs_27 zs_29)))]) rfl rfl rfl rfl ?_
  refine v_if_ne O 28 dX10_big_9 (by decide) (fun z1 => ?_) (fun z1 => ?_)
  · skip
    have z1 := b2i_1.mp z1
    exact absurd z1.2 (fun q => absurd ((c_le (x := nI (zw + 100)) (y := 39) (b := 39) rfl rfl (by omega) (by omega)).mp q) (by omega))
  · skip
    have z1 := b2i_0.mp z1
    refine v_aload_n O dX10_big_12 0 rfl ?_
    refine v_iload O dX10_big_13 4 rfl ?_
    refine v_bipush (v := 102) O dX10_big_15 (by decide) ?_
    refine v_sipush (v := 199) O dX10_big_17 (by decide) ?_
    refine v_cV (T := TX10) (ci := 10) (As := [.int (nI (zw + 100)), .int 102, .int 199]) (wr := [(mo, .inr (10, M1R ma (mZ c c2 tk vc ln rn zs_10 zs_11 zs_20 zs_21 zs_22 zs_25 zs_26 zs_27 zs_29)))]) (st := []) O cf_X10_179 rfl (sp_X10_in_102_199 (mo := mo) (x := (nI (zw + 100))) ) dX10_big_20 rfl rfl 0 rfl [] [0] (by decide) rfl rfl (by decide) (by decide) (by decide) (Nat.le_of_ble_eq_true rfl) (by decide) (by decide) (fun r_5 w_6 h_4 => ?_)
    obtain ⟨rfl, rfl⟩ := h_4
    refine v_eq (st' := [.int (b2i (102 ≤ (nI (zw + 100)) ∧ (nI (zw + 100)) ≤ 199))]) (ws' := [(mo, .inr (10, M1R ma (mZ c c2 tk vc ln rn zs_10 zs_11 zs_20 zs_21 zs_22 zs_25 zs_26 zs_27 zs_29)))]) rfl rfl rfl rfl ?_
    refine v_if_ne O 28 dX10_big_23 (by decide) (fun z2 => ?_) (fun z2 => ?_)
    · skip
      have z2 := b2i_1.mp z2
      refine v_aload_n O dX10_big_28 0 rfl ?_
      refine v_iload_n O dX10_big_29 1 rfl ?_
      refine v_iconst (v := 2) O dX10_big_30 (by decide) ?_
      refine v_bipush (v := 12) O dX10_big_31 (by decide) ?_
      refine v_cV (T := TX10) (ci := 10) (As := [.int d, .int 2, .int 12]) (wr := [(mo, .inr (10, M1R ma (mZ c c2 tk vc ln rn zs_10 zs_11 zs_20 zs_21 zs_22 zs_25 zs_26 zs_27 zs_29)))]) (st := []) O cf_X10_179 rfl (sp_X10_in_2_12 (mo := mo) (x := d) ) dX10_big_33 rfl rfl 0 rfl [] [0] (by decide) rfl rfl (by decide) (by decide) (by decide) (Nat.le_of_ble_eq_true rfl) (by decide) (by decide) (fun r_8 w_9 h_7 => ?_)
      obtain ⟨rfl, rfl⟩ := h_7
      refine v_eq (st' := [.int (b2i (2 ≤ d ∧ d ≤ 12))]) (ws' := [(mo, .inr (10, M1R ma (mZ c c2 tk vc ln rn zs_10 zs_11 zs_20 zs_21 zs_22 zs_25 zs_26 zs_27 zs_29)))]) rfl rfl rfl rfl ?_
      refine v_if_eq O 61 dX10_big_36 (by decide) (fun y1 => ?_) (fun y1 => ?_)
      · skip
        have y1 := b2i_0.mp y1
        refine v_bipush (v := -2) O dX10_big_61 (by decide) ?_
        exact v_ireturn O T rfl rfl (by decide) (by decide) dX10_big_63 (⟨zs_10, zs_11, zs_20, zs_21, zs_22, zs_25, zs_26, zs_27, zs_29, rfl, rfl⟩)
      · skip
        have y1 := b2i_1.mp y1
        refine v_aload_n O dX10_big_39 0 rfl ?_
        refine v_iload_n O dX10_big_40 2 rfl ?_
        refine v_iconst (v := 1) O dX10_big_41 (by decide) ?_
        refine v_bipush (v := 30) O dX10_big_42 (by decide) ?_
        refine v_cV (T := TX10) (ci := 10) (As := [.int m, .int 1, .int 30]) (wr := [(mo, .inr (10, M1R ma (mZ c c2 tk vc ln rn zs_10 zs_11 zs_20 zs_21 zs_22 zs_25 zs_26 zs_27 zs_29)))]) (st := []) O cf_X10_179 rfl (sp_X10_in_1_30 (mo := mo) (x := m) ) dX10_big_44 rfl rfl 0 rfl [] [0] (by decide) rfl rfl (by decide) (by decide) (by decide) (Nat.le_of_ble_eq_true rfl) (by decide) (by decide) (fun r_11 w_12 h_10 => ?_)
        obtain ⟨rfl, rfl⟩ := h_10
        refine v_eq (st' := [.int (b2i (1 ≤ m ∧ m ≤ 30))]) (ws' := [(mo, .inr (10, M1R ma (mZ c c2 tk vc ln rn zs_10 zs_11 zs_20 zs_21 zs_22 zs_25 zs_26 zs_27 zs_29)))]) rfl rfl rfl rfl ?_
        refine v_if_eq O 61 dX10_big_47 (by decide) (fun y2 => ?_) (fun y2 => ?_)
        · skip
          have y2 := b2i_0.mp y2
          refine v_bipush (v := -2) O dX10_big_61 (by decide) ?_
          exact v_ireturn O T rfl rfl (by decide) (by decide) dX10_big_63 (⟨zs_10, zs_11, zs_20, zs_21, zs_22, zs_25, zs_26, zs_27, zs_29, rfl, rfl⟩)
        · skip
          have y2 := b2i_1.mp y2
          refine v_aload_n O dX10_big_50 0 rfl ?_
          refine v_iload_n O dX10_big_51 3 rfl ?_
          refine v_iconst (v := 0) O dX10_big_52 (by decide) ?_
          refine v_bipush (v := 9) O dX10_big_53 (by decide) ?_
          refine v_cV (T := TX10) (ci := 10) (As := [.int q, .int 0, .int 9]) (wr := [(mo, .inr (10, M1R ma (mZ c c2 tk vc ln rn zs_10 zs_11 zs_20 zs_21 zs_22 zs_25 zs_26 zs_27 zs_29)))]) (st := []) O cf_X10_179 rfl (sp_X10_in_0 (mo := mo) (x := q) (h := 9) (zn := 10) (rfl) (by decide)) dX10_big_55 rfl rfl 0 rfl [] [0] (by decide) rfl rfl (by decide) (by decide) (by decide) (Nat.le_of_ble_eq_true rfl) (by decide) (by decide) (fun r_14 w_15 h_13 => ?_)
          obtain ⟨rfl, rfl⟩ := h_13
          refine v_eq (st' := [.int (b2i (isIx q 10))]) (ws' := [(mo, .inr (10, M1R ma (mZ c c2 tk vc ln rn zs_10 zs_11 zs_20 zs_21 zs_22 zs_25 zs_26 zs_27 zs_29)))]) rfl rfl rfl rfl ?_
          refine v_if_ne O 64 dX10_big_58 (by decide) (fun y3 => ?_) (fun y3 => ?_)
          · skip
            have y3 := b2i_1.mp y3
            exact absurd ⟨y1.1, y1.2, y2.1, y2.2, by obtain ⟨k9, hk9, e9⟩ := y3; rw [e9]; exact ⟨Int32.not_lt.mp (nI_pos (by omega)), (c_le (x := nI k9) (y := 9) (b := 9) rfl rfl (by omega) (by omega)).mpr (by omega)⟩⟩ hb
          · skip
            have y3 := b2i_0.mp y3
            refine v_bipush (v := -2) O dX10_big_61 (by decide) ?_
            exact v_ireturn O T rfl rfl (by decide) (by decide) dX10_big_63 (⟨zs_10, zs_11, zs_20, zs_21, zs_22, zs_25, zs_26, zs_27, zs_29, rfl, rfl⟩)
    · skip
      have z2 := b2i_0.mp z2
      exact absurd ⟨(c_le (x := 102) (y := nI (zw + 100)) (a := 102) rfl rfl (by omega) (by omega)).mpr (by omega), (c_le (x := nI (zw + 100)) (y := 199) (b := 199) rfl rfl (by omega) (by omega)).mpr (by omega)⟩ z2
set_option maxRecDepth 100000 in
set_option maxHeartbeats 4000000 in
theorem sp_X10_big_5 {D : G} {mo : Nat} {ma : Nat → Nat} {c : CS} {c2 : CS} {tk : Int32} {vc : Nat} {ln : Nat} {rn : Nat} {zs_10 : Int32} {zs_11 : Int32} {zs_20 : Int32} {zs_21 : Int32} {zs_22 : Int32} {zs_25 : Int32} {zs_26 : Int32} {zs_27 : Int32} {zs_29 : Int32} {d : Nat} {m : Nat} {q : Nat} {zw : Nat} {f : Nat → Int32} (hw : zw < 40) (hd0 : 2 ≤ d) (hd : d ≤ 12) (hm0 : 1 ≤ m) (hm : m ≤ 30) (ho : q ≤ 9) : Sp D mX10_big 30 0 0 [.ref mo, .int (nI d), .int (nI m), .int (nI q), .int (nI zw)] [(mo, .inr (10, M1R ma (mZ c c2 tk vc ln rn zs_10 zs_11 zs_20 zs_21 zs_22 zs_25 zs_26 zs_27 zs_29))), ((ma 33), eI D 42 f)] (fun r w => ∃ zs2_10 : Int32, ∃ zs2_11 : Int32, ∃ zs2_20 : Int32, ∃ zs2_21 : Int32, ∃ zs2_22 : Int32, ∃ zs2_25 : Int32, ∃ zs2_26 : Int32, ∃ zs2_27 : Int32, ∃ zs2_29 : Int32, ∃ f1 : Nat → Int32, r = some (.int (nI (bigN d m q / 10 ^ zw % 10))) ∧ w = [(mo, .inr (10, M1R ma (mZ c c2 tk vc ln rn zs2_10 zs2_11 zs2_20 zs2_21 zs2_22 zs2_25 zs2_26 zs2_27 zs2_29))), ((ma 33), eI D 42 f1)]) := by
  refine Sp.of (by decide) (Nat.le_of_ble_eq_true rfl) (fun X O T => ?_)
  refine v_eq (lv' := [(0, .ref mo), (1, .int (nI d)), (2, .int (nI m)), (3, .int (nI q)), (4, .int (nI zw))]) rfl rfl rfl rfl ?_
  refine v_aload_n O dX10_big_0 0 rfl ?_
  refine v_iload O dX10_big_1 4 rfl ?_
  refine v_iconst (v := -1) O dX10_big_3 (by decide) ?_
  refine v_bipush (v := 39) O dX10_big_4 (by decide) ?_
  refine v_cV (T := TX10) (ci := 10) (As := [.int (nI zw), .int (-1), .int 39]) (wr := [(mo, .inr (10, M1R ma (mZ c c2 tk vc ln rn zs_10 zs_11 zs_20 zs_21 zs_22 zs_25 zs_26 zs_27 zs_29))), ((ma 33), eI D 42 f)]) (st := []) O cf_X10_179 rfl (sp_X10_in_m1_39 (mo := mo) (x := (nI zw)) ) dX10_big_6 rfl rfl 0 rfl [] [0, 1] (by decide) rfl rfl (by decide) (by decide) (by decide) (Nat.le_of_ble_eq_true rfl) (by decide) (by decide) (fun r_2 w_3 h_1 => ?_)
  obtain ⟨rfl, rfl⟩ := h_1
  refine v_eq (st' := [.int (b2i (-1 ≤ (nI zw) ∧ (nI zw) ≤ 39))]) (ws' := [(mo, .inr (10, M1R ma (mZ c c2 tk vc ln rn zs_10 zs_11 zs_20 zs_21 zs_22 zs_25 zs_26 zs_27 zs_29))), ((ma 33), eI D 42 f)]) rfl rfl rfl rfl ?_
  refine v_if_ne O 28 dX10_big_9 (by decide) (fun z1 => ?_) (fun z1 => ?_)
  · skip
    have z1 := b2i_1.mp z1
    refine v_aload_n O dX10_big_28 0 rfl ?_
    refine v_iload_n O dX10_big_29 1 rfl ?_
    refine v_iconst (v := 2) O dX10_big_30 (by decide) ?_
    refine v_bipush (v := 12) O dX10_big_31 (by decide) ?_
    refine v_cV (T := TX10) (ci := 10) (As := [.int (nI d), .int 2, .int 12]) (wr := [(mo, .inr (10, M1R ma (mZ c c2 tk vc ln rn zs_10 zs_11 zs_20 zs_21 zs_22 zs_25 zs_26 zs_27 zs_29))), ((ma 33), eI D 42 f)]) (st := []) O cf_X10_179 rfl (sp_X10_in_2_12 (mo := mo) (x := (nI d)) ) dX10_big_33 rfl rfl 0 rfl [] [0, 1] (by decide) rfl rfl (by decide) (by decide) (by decide) (Nat.le_of_ble_eq_true rfl) (by decide) (by decide) (fun r_5 w_6 h_4 => ?_)
    obtain ⟨rfl, rfl⟩ := h_4
    refine v_eq (st' := [.int (b2i (2 ≤ (nI d) ∧ (nI d) ≤ 12))]) (ws' := [(mo, .inr (10, M1R ma (mZ c c2 tk vc ln rn zs_10 zs_11 zs_20 zs_21 zs_22 zs_25 zs_26 zs_27 zs_29))), ((ma 33), eI D 42 f)]) rfl rfl rfl rfl ?_
    refine v_if_eq O 61 dX10_big_36 (by decide) (fun y1 => ?_) (fun y1 => ?_)
    · skip
      have y1 := b2i_0.mp y1
      exact absurd (⟨(c_le (x := 2) (y := nI d) (a := 2) rfl rfl (by omega) (by omega)).mpr (by omega), (c_le (x := nI d) (y := 12) (b := 12) rfl rfl (by omega) (by omega)).mpr (by omega)⟩) y1
    · skip
      have y1 := b2i_1.mp y1
      refine v_aload_n O dX10_big_39 0 rfl ?_
      refine v_iload_n O dX10_big_40 2 rfl ?_
      refine v_iconst (v := 1) O dX10_big_41 (by decide) ?_
      refine v_bipush (v := 30) O dX10_big_42 (by decide) ?_
      refine v_cV (T := TX10) (ci := 10) (As := [.int (nI m), .int 1, .int 30]) (wr := [(mo, .inr (10, M1R ma (mZ c c2 tk vc ln rn zs_10 zs_11 zs_20 zs_21 zs_22 zs_25 zs_26 zs_27 zs_29))), ((ma 33), eI D 42 f)]) (st := []) O cf_X10_179 rfl (sp_X10_in_1_30 (mo := mo) (x := (nI m)) ) dX10_big_44 rfl rfl 0 rfl [] [0, 1] (by decide) rfl rfl (by decide) (by decide) (by decide) (Nat.le_of_ble_eq_true rfl) (by decide) (by decide) (fun r_8 w_9 h_7 => ?_)
      obtain ⟨rfl, rfl⟩ := h_7
      refine v_eq (st' := [.int (b2i (1 ≤ (nI m) ∧ (nI m) ≤ 30))]) (ws' := [(mo, .inr (10, M1R ma (mZ c c2 tk vc ln rn zs_10 zs_11 zs_20 zs_21 zs_22 zs_25 zs_26 zs_27 zs_29))), ((ma 33), eI D 42 f)]) rfl rfl rfl rfl ?_
      refine v_if_eq O 61 dX10_big_47 (by decide) (fun y2 => ?_) (fun y2 => ?_)
      · skip
        have y2 := b2i_0.mp y2
        exact absurd (⟨(c_le (x := 1) (y := nI m) (a := 1) rfl rfl (by omega) (by omega)).mpr (by omega), (c_le (x := nI m) (y := 30) (b := 30) rfl rfl (by omega) (by omega)).mpr (by omega)⟩) y2
      · skip
        have y2 := b2i_1.mp y2
        refine v_aload_n O dX10_big_50 0 rfl ?_
        refine v_iload_n O dX10_big_51 3 rfl ?_
        refine v_iconst (v := 0) O dX10_big_52 (by decide) ?_
        refine v_bipush (v := 9) O dX10_big_53 (by decide) ?_
        refine v_cV (T := TX10) (ci := 10) (As := [.int (nI q), .int 0, .int 9]) (wr := [(mo, .inr (10, M1R ma (mZ c c2 tk vc ln rn zs_10 zs_11 zs_20 zs_21 zs_22 zs_25 zs_26 zs_27 zs_29))), ((ma 33), eI D 42 f)]) (st := []) O cf_X10_179 rfl (sp_X10_in_0 (mo := mo) (x := (nI q)) (h := 9) (zn := 10) (rfl) (by decide)) dX10_big_55 rfl rfl 0 rfl [] [0, 1] (by decide) rfl rfl (by decide) (by decide) (by decide) (Nat.le_of_ble_eq_true rfl) (by decide) (by decide) (fun r_11 w_12 h_10 => ?_)
        obtain ⟨rfl, rfl⟩ := h_10
        refine v_eq (st' := [.int (b2i (isIx (nI q) 10))]) (ws' := [(mo, .inr (10, M1R ma (mZ c c2 tk vc ln rn zs_10 zs_11 zs_20 zs_21 zs_22 zs_25 zs_26 zs_27 zs_29))), ((ma 33), eI D 42 f)]) rfl rfl rfl rfl ?_
        refine v_if_ne O 64 dX10_big_58 (by decide) (fun y3 => ?_) (fun y3 => ?_)
        · skip
          have y3 := b2i_1.mp y3
          refine v_aload_n O dX10_big_64 0 rfl ?_
          refine v_iload_n O dX10_big_65 1 rfl ?_
          refine v_iload_n O dX10_big_66 2 rfl ?_
          refine v_iload_n O dX10_big_67 3 rfl ?_
          refine v_cV (T := TX10) (ci := 10) (As := [.int (nI d), .int (nI m), .int (nI q)]) (wr := []) (st := []) O cf_X10_311 rfl (sp_X10_layBig (mo := mo) (ma := ma) (c := c) (c2 := c2) (tk := tk) (vc := vc) (ln := ln) (rn := rn) (zs_10 := zs_10) (zs_11 := zs_11) (zs_20 := zs_20) (zs_21 := zs_21) (zs_22 := zs_22) (zs_25 := zs_25) (zs_26 := zs_26) (zs_27 := zs_27) (zs_29 := zs_29) (f := f) (d := d) (m := m) (q := q) (hd0) (hd) (hm) (ho)) dX10_big_68 rfl rfl 0 rfl [0, 1] [] (by decide) rfl rfl (by decide) (by decide) (by decide) (Nat.le_of_ble_eq_true rfl) (by decide) (by decide) (fun r_14 w_15 h_13 => ?_)
          obtain ⟨g_16, rfl, rfl, h_g⟩ := h_13
          refine v_eq (st' := []) (ws' := [(mo, .inr (10, M1R ma (mZ c c2 tk vc ln rn zs_10 zs_11 zs_20 zs_21 zs_22 zs_25 zs_26 zs_27 zs_29))), ((ma 33), eI D 42 g_16)]) rfl rfl rfl rfl ?_
          refine v_aload_n O dX10_big_71 0 rfl ?_
          refine v_iload O dX10_big_72 4 rfl ?_
          refine v_iconst (v := 0) O dX10_big_74 (by decide) ?_
          refine v_bipush (v := 39) O dX10_big_75 (by decide) ?_
          refine v_cV (T := TX10) (ci := 10) (As := [.int (nI zw), .int 0, .int 39]) (wr := [(mo, .inr (10, M1R ma (mZ c c2 tk vc ln rn zs_10 zs_11 zs_20 zs_21 zs_22 zs_25 zs_26 zs_27 zs_29))), ((ma 33), eI D 42 g_16)]) (st := []) O cf_X10_179 rfl (sp_X10_in_0 (mo := mo) (x := (nI zw)) (h := 39) (zn := 40) (rfl) (by decide)) dX10_big_77 rfl rfl 0 rfl [] [0, 1] (by decide) rfl rfl (by decide) (by decide) (by decide) (Nat.le_of_ble_eq_true rfl) (by decide) (by decide) (fun r_18 w_19 h_17 => ?_)
          obtain ⟨rfl, rfl⟩ := h_17
          refine v_eq (st' := [.int (b2i (isIx (nI zw) 40))]) (ws' := [(mo, .inr (10, M1R ma (mZ c c2 tk vc ln rn zs_10 zs_11 zs_20 zs_21 zs_22 zs_25 zs_26 zs_27 zs_29))), ((ma 33), eI D 42 g_16)]) rfl rfl rfl rfl ?_
          refine v_if_eq O 91 dX10_big_80 (by decide) (fun y4 => ?_) (fun y4 => ?_)
          · skip
            have y4 := b2i_0.mp y4
            exact absurd ((isIx_nI (by omega) (by omega)).mpr hw) y4
          · skip
            have y4 := b2i_1.mp y4
            refine v_aload_n O dX10_big_83 0 rfl ?_
            refine gf_X10_111 (v := .ref (ma 33)) O rfl dX10_big_84 0 rfl rfl ?_
            refine v_iload O dX10_big_87 4 rfl ?_
            refine v_ialdk O dX10_big_89 1 rfl zw rfl (by omega) (by decide) ?_
            exact v_ireturn O T rfl rfl (by decide) (by decide) dX10_big_90 (⟨zs_10, zs_11, zs_20, zs_21, zs_22, zs_25, zs_26, zs_27, zs_29, _, by rw [h_g zw (by omega)]; rfl, rfl⟩)
        · skip
          have y3 := b2i_0.mp y3
          exact absurd ((isIx_nI (by omega) (by omega)).mpr (by omega)) y3
  · skip
    have z1 := b2i_0.mp z1
    exact absurd (in_m1 (m := 39) (by omega) (by decide)) z1
set_option maxRecDepth 100000 in
set_option maxHeartbeats 4000000 in
theorem l_X10_lenD {D : G} {X : CX} {mo : Nat} {ma : Nat → Nat} {c : CS} {c2 : CS} {tk : Int32} {vc : Nat} {ln : Nat} {rn : Nat} {zs_10 : Int32} {zs_11 : Int32} {zs_20 : Int32} {zs_21 : Int32} {zs_22 : Int32} {zs_25 : Int32} {zs_26 : Int32} {zs_27 : Int32} {zs_29 : Int32} {d : Nat} {m : Nat} {q : Nat} {f : Nat → Int32} (O : Ok D X mX10_big 30 0 0) (hd0 : 2 ≤ d) (hd : d ≤ 12) (hm0 : 1 ≤ m) (hm : m ≤ 30) (ho : q ≤ 9) (hf : (∀ zj, zj < 42 → f zj = digs (bigN d m q) zj)) (T : Rt D X (fun r w => ∃ zs2_10 : Int32, ∃ zs2_11 : Int32, ∃ zs2_20 : Int32, ∃ zs2_21 : Int32, ∃ zs2_22 : Int32, ∃ zs2_25 : Int32, ∃ zs2_26 : Int32, ∃ zs2_27 : Int32, ∃ zs2_29 : Int32, ∃ f1 : Nat → Int32, r = some (.int (nI (topd (fun zi => bigN d m q / 10 ^ zi % 10) 40))) ∧ w = [(mo, .inr (10, M1R ma (mZ c c2 tk vc ln rn zs2_10 zs2_11 zs2_20 zs2_21 zs2_22 zs2_25 zs2_26 zs2_27 zs2_29))), ((ma 33), eI D 42 f1)]) 0 0) : ∀ t : Nat, t ≤ 42 → ∀ nn : Nat, nn < 100 → (nn = 1 ∧ topd (fun zi => bigN d m q / 10 ^ zi % 10) t = topd (fun zi => bigN d m q / 10 ^ zi % 10) 42) ∨ (t < nn ∧ nn = topd (fun zi => bigN d m q / 10 ^ zi % 10) 42) → ∀ v7 : Int32, v7 = nI t - 1 → V D X 0 0 101 [(0, .ref mo), (1, .int (nI d)), (2, .int (nI m)), (3, .int (nI q)), (4, .int (-1)), (5, .int (nI nn)), (6, .int 0), (7, .int v7)] [] [(mo, .inr (10, M1R ma (mZ c c2 tk vc ln rn zs_10 zs_11 zs_20 zs_21 zs_22 zs_25 zs_26 zs_27 zs_29))), ((ma 33), eI D 42 f)] := by
  intro t
  induction t with
  | zero =>
    intro ht nn hn h v7 h7
    have h8 : v7 = -1 := by rw [h7]; decide
    refine v_iload O dX10_big_101 7 rfl ?_
    refine v_if_lt O 165 dX10_big_103 (by decide) (fun w1 => ?_) (fun w1 => ?_)
    · skip
      refine v_iload O dX10_big_165 4 rfl ?_
      refine v_if_ge O 175 dX10_big_167 (by decide) (fun w9 => ?_) (fun w9 => ?_)
      · skip
        exact absurd w9 (by decide)
      · skip
        refine v_iload O dX10_big_170 5 rfl ?_
        refine v_goto O 177 dX10_big_172 (by decide) ?_
        exact v_ireturn O T rfl rfl (by decide) (by decide) dX10_big_177 (⟨zs_10, zs_11, zs_20, zs_21, zs_22, zs_25, zs_26, zs_27, zs_29, _, by rw [show nn = topd (fun zi => bigN d m q / 10 ^ zi % 10) 40 from by rw [← topd_hi 2 (dig_42 hd hm)]; rcases h with ⟨a, b⟩ | ⟨a, b⟩; (· rw [a]; exact b); (· exact b)], rfl⟩)
    · skip
      rw [h8] at w1; exact absurd (by decide) w1
  | succ t ih =>
    intro ht nn hn h v7 h7
    rw [nI_p] at h7
    subst h7
    have hdg := digs_lt (bigN d m q) t
    refine v_iload O dX10_big_101 7 rfl ?_
    refine v_if_lt O 165 dX10_big_103 (by decide) (fun w1 => ?_) (fun w1 => ?_)
    · skip
      have w1 := (c_lt (x := nI t) (y := 0) (a := t) (b := 0) rfl rfl (by omega) (by omega)).mp w1
      exact absurd w1 (by omega)
    · skip
      have w1 := (not_congr (c_lt (x := nI t) (y := 0) (a := t) (b := 0) rfl rfl (by omega) (by omega))).mp w1
      refine v_aload_n O dX10_big_106 0 rfl ?_
      refine gf_X10_111 (v := .ref (ma 33)) O rfl dX10_big_107 0 rfl rfl ?_
      refine v_iload O dX10_big_110 7 rfl ?_
      refine v_ialdk O dX10_big_112 1 rfl t rfl (by omega) (by decide) ?_
      refine v_top (y := nI (bigN d m q / 10 ^ t % 10)) (hf t (by omega)) ?_
      refine v_if_le O 129 dX10_big_113 (by decide) (fun w2 => ?_) (fun w2 => ?_)
      · skip
        have w2 := (c_le (x := nI (bigN d m q / 10 ^ t % 10)) (y := 0) (a := bigN d m q / 10 ^ t % 10) (b := 0) rfl rfl (by omega) (by omega)).mp w2
        refine v_iload O dX10_big_129 4 rfl ?_
        refine v_if_ge O 138 dX10_big_131 (by decide) (fun w4 => ?_) (fun w4 => ?_)
        · skip
          exact absurd w4 (by decide)
        · skip
          refine v_iconst (v := 0) O dX10_big_134 (by decide) ?_
          refine v_goto O 157 dX10_big_135 (by decide) ?_
          refine v_istore (lv' := [(0, .ref mo), (1, .int (nI d)), (2, .int (nI m)), (3, .int (nI q)), (4, .int (-1)), (5, .int (nI nn)), (6, .int 0), (7, .int (nI t))]) O dX10_big_157 (by decide) rfl ?_
          refine v_iinc (v := (nI t) + (-1)) (lv' := [(0, .ref mo), (1, .int (nI d)), (2, .int (nI m)), (3, .int (nI q)), (4, .int (-1)), (5, .int (nI nn)), (6, .int 0), (7, .int ((nI t) + (-1)))]) O dX10_big_159 7 rfl (rfl) (by decide) rfl ?_
          refine v_goto O 101 dX10_big_162 (by decide) ?_
          exact ih (by omega) _ (by omega) (by
            rcases h with ⟨a, b⟩ | ⟨a, b⟩
            · left; refine ⟨a, ?_⟩; rw [← b, topd, if_pos (by show bigN d m q / 10 ^ t % 10 = 0; omega)]
            · right; exact ⟨by omega, b⟩) _ (Int32.sub_eq_add_neg _ _).symm
      · skip
        have w2 := (not_congr (c_le (x := nI (bigN d m q / 10 ^ t % 10)) (y := 0) (a := bigN d m q / 10 ^ t % 10) (b := 0) rfl rfl (by omega) (by omega))).mp w2
        refine v_iload O dX10_big_116 7 rfl ?_
        refine v_iload O dX10_big_118 5 rfl ?_
        refine v_icmp_lt O 129 dX10_big_120 (by decide) (fun w3 => ?_) (fun w3 => ?_)
        · skip
          have w3 := (c_lt (x := nI t) (y := nI nn) (a := t) (b := nn) rfl rfl (by omega) (by omega)).mp w3
          refine v_iload O dX10_big_129 4 rfl ?_
          refine v_if_ge O 138 dX10_big_131 (by decide) (fun w4 => ?_) (fun w4 => ?_)
          · skip
            exact absurd w4 (by decide)
          · skip
            refine v_iconst (v := 0) O dX10_big_134 (by decide) ?_
            refine v_goto O 157 dX10_big_135 (by decide) ?_
            refine v_istore (lv' := [(0, .ref mo), (1, .int (nI d)), (2, .int (nI m)), (3, .int (nI q)), (4, .int (-1)), (5, .int (nI nn)), (6, .int 0), (7, .int (nI t))]) O dX10_big_157 (by decide) rfl ?_
            refine v_iinc (v := (nI t) + (-1)) (lv' := [(0, .ref mo), (1, .int (nI d)), (2, .int (nI m)), (3, .int (nI q)), (4, .int (-1)), (5, .int (nI nn)), (6, .int 0), (7, .int ((nI t) + (-1)))]) O dX10_big_159 7 rfl (rfl) (by decide) rfl ?_
            refine v_goto O 101 dX10_big_162 (by decide) ?_
            exact ih (by omega) _ (by omega) (by
              rcases h with ⟨a, b⟩ | ⟨a, b⟩
              · right; exact ⟨by omega, by rw [a, ← b, topd, if_neg (by show ¬ bigN d m q / 10 ^ t % 10 = 0; omega)]; omega⟩
              · right; exact ⟨by omega, b⟩) _ (Int32.sub_eq_add_neg _ _).symm
        · skip
          have w3 := (not_congr (c_lt (x := nI t) (y := nI nn) (a := t) (b := nn) rfl rfl (by omega) (by omega))).mp w3
          refine v_iload O dX10_big_123 7 rfl ?_
          refine v_iconst (v := 1) O dX10_big_125 (by decide) ?_
          refine v_iadd O dX10_big_126 ?_
          refine v_top (y := nI (t + 1)) (nI_add t 1) ?_
          refine v_istore (lv' := [(0, .ref mo), (1, .int (nI d)), (2, .int (nI m)), (3, .int (nI q)), (4, .int (-1)), (5, .int (nI (t + 1))), (6, .int 0), (7, .int (nI t))]) O dX10_big_127 (by decide) rfl ?_
          refine v_iload O dX10_big_129 4 rfl ?_
          refine v_if_ge O 138 dX10_big_131 (by decide) (fun w4 => ?_) (fun w4 => ?_)
          · skip
            exact absurd w4 (by decide)
          · skip
            refine v_iconst (v := 0) O dX10_big_134 (by decide) ?_
            refine v_goto O 157 dX10_big_135 (by decide) ?_
            refine v_istore (lv' := [(0, .ref mo), (1, .int (nI d)), (2, .int (nI m)), (3, .int (nI q)), (4, .int (-1)), (5, .int (nI (t + 1))), (6, .int 0), (7, .int (nI t))]) O dX10_big_157 (by decide) rfl ?_
            refine v_iinc (v := (nI t) + (-1)) (lv' := [(0, .ref mo), (1, .int (nI d)), (2, .int (nI m)), (3, .int (nI q)), (4, .int (-1)), (5, .int (nI (t + 1))), (6, .int 0), (7, .int ((nI t) + (-1)))]) O dX10_big_159 7 rfl (rfl) (by decide) rfl ?_
            refine v_goto O 101 dX10_big_162 (by decide) ?_
            exact ih (by omega) _ (by omega) (Or.inr ⟨by omega, by
              rcases h with ⟨a, b⟩ | ⟨a, b⟩
              · rw [← b, topd, if_neg (by show ¬ bigN d m q / 10 ^ t % 10 = 0; omega)]
              · omega⟩) _ (Int32.sub_eq_add_neg _ _).symm
set_option maxRecDepth 100000 in
set_option maxHeartbeats 4000000 in
theorem sp_X10_big_3 {D : G} {mo : Nat} {ma : Nat → Nat} {c : CS} {c2 : CS} {tk : Int32} {vc : Nat} {ln : Nat} {rn : Nat} {zs_10 : Int32} {zs_11 : Int32} {zs_20 : Int32} {zs_21 : Int32} {zs_22 : Int32} {zs_25 : Int32} {zs_26 : Int32} {zs_27 : Int32} {zs_29 : Int32} {d : Nat} {m : Nat} {q : Nat} {f : Nat → Int32} (hd0 : 2 ≤ d) (hd : d ≤ 12) (hm0 : 1 ≤ m) (hm : m ≤ 30) (ho : q ≤ 9) : Sp D mX10_big 30 0 0 [.ref mo, .int (nI d), .int (nI m), .int (nI q), .int (-1)] [(mo, .inr (10, M1R ma (mZ c c2 tk vc ln rn zs_10 zs_11 zs_20 zs_21 zs_22 zs_25 zs_26 zs_27 zs_29))), ((ma 33), eI D 42 f)] (fun r w => ∃ zs2_10 : Int32, ∃ zs2_11 : Int32, ∃ zs2_20 : Int32, ∃ zs2_21 : Int32, ∃ zs2_22 : Int32, ∃ zs2_25 : Int32, ∃ zs2_26 : Int32, ∃ zs2_27 : Int32, ∃ zs2_29 : Int32, ∃ f1 : Nat → Int32, r = some (.int (nI (topd (fun zi => bigN d m q / 10 ^ zi % 10) 40))) ∧ w = [(mo, .inr (10, M1R ma (mZ c c2 tk vc ln rn zs2_10 zs2_11 zs2_20 zs2_21 zs2_22 zs2_25 zs2_26 zs2_27 zs2_29))), ((ma 33), eI D 42 f1)]) := by
  refine Sp.of (by decide) (Nat.le_of_ble_eq_true rfl) (fun X O T => ?_)
  refine v_eq (lv' := [(0, .ref mo), (1, .int (nI d)), (2, .int (nI m)), (3, .int (nI q)), (4, .int (-1))]) rfl rfl rfl rfl ?_
  refine v_aload_n O dX10_big_0 0 rfl ?_
  refine v_iload O dX10_big_1 4 rfl ?_
  refine v_iconst (v := -1) O dX10_big_3 (by decide) ?_
  refine v_bipush (v := 39) O dX10_big_4 (by decide) ?_
  refine v_cV (T := TX10) (ci := 10) (As := [.int (-1), .int (-1), .int 39]) (wr := [(mo, .inr (10, M1R ma (mZ c c2 tk vc ln rn zs_10 zs_11 zs_20 zs_21 zs_22 zs_25 zs_26 zs_27 zs_29))), ((ma 33), eI D 42 f)]) (st := []) O cf_X10_179 rfl (sp_X10_in_m1_39 (mo := mo) (x := (-1)) ) dX10_big_6 rfl rfl 0 rfl [] [0, 1] (by decide) rfl rfl (by decide) (by decide) (by decide) (Nat.le_of_ble_eq_true rfl) (by decide) (by decide) (fun r_2 w_3 h_1 => ?_)
  obtain ⟨rfl, rfl⟩ := h_1
  refine v_eq (st' := [.int (b2i (-1 ≤ (-1) ∧ (-1) ≤ 39))]) (ws' := [(mo, .inr (10, M1R ma (mZ c c2 tk vc ln rn zs_10 zs_11 zs_20 zs_21 zs_22 zs_25 zs_26 zs_27 zs_29))), ((ma 33), eI D 42 f)]) rfl rfl rfl rfl ?_
  refine v_if_ne O 28 dX10_big_9 (by decide) (fun z1 => ?_) (fun z1 => ?_)
  · skip
    have z1 := b2i_1.mp z1
    refine v_aload_n O dX10_big_28 0 rfl ?_
    refine v_iload_n O dX10_big_29 1 rfl ?_
    refine v_iconst (v := 2) O dX10_big_30 (by decide) ?_
    refine v_bipush (v := 12) O dX10_big_31 (by decide) ?_
    refine v_cV (T := TX10) (ci := 10) (As := [.int (nI d), .int 2, .int 12]) (wr := [(mo, .inr (10, M1R ma (mZ c c2 tk vc ln rn zs_10 zs_11 zs_20 zs_21 zs_22 zs_25 zs_26 zs_27 zs_29))), ((ma 33), eI D 42 f)]) (st := []) O cf_X10_179 rfl (sp_X10_in_2_12 (mo := mo) (x := (nI d)) ) dX10_big_33 rfl rfl 0 rfl [] [0, 1] (by decide) rfl rfl (by decide) (by decide) (by decide) (Nat.le_of_ble_eq_true rfl) (by decide) (by decide) (fun r_5 w_6 h_4 => ?_)
    obtain ⟨rfl, rfl⟩ := h_4
    refine v_eq (st' := [.int (b2i (2 ≤ (nI d) ∧ (nI d) ≤ 12))]) (ws' := [(mo, .inr (10, M1R ma (mZ c c2 tk vc ln rn zs_10 zs_11 zs_20 zs_21 zs_22 zs_25 zs_26 zs_27 zs_29))), ((ma 33), eI D 42 f)]) rfl rfl rfl rfl ?_
    refine v_if_eq O 61 dX10_big_36 (by decide) (fun y1 => ?_) (fun y1 => ?_)
    · skip
      have y1 := b2i_0.mp y1
      exact absurd (⟨(c_le (x := 2) (y := nI d) (a := 2) rfl rfl (by omega) (by omega)).mpr (by omega), (c_le (x := nI d) (y := 12) (b := 12) rfl rfl (by omega) (by omega)).mpr (by omega)⟩) y1
    · skip
      have y1 := b2i_1.mp y1
      refine v_aload_n O dX10_big_39 0 rfl ?_
      refine v_iload_n O dX10_big_40 2 rfl ?_
      refine v_iconst (v := 1) O dX10_big_41 (by decide) ?_
      refine v_bipush (v := 30) O dX10_big_42 (by decide) ?_
      refine v_cV (T := TX10) (ci := 10) (As := [.int (nI m), .int 1, .int 30]) (wr := [(mo, .inr (10, M1R ma (mZ c c2 tk vc ln rn zs_10 zs_11 zs_20 zs_21 zs_22 zs_25 zs_26 zs_27 zs_29))), ((ma 33), eI D 42 f)]) (st := []) O cf_X10_179 rfl (sp_X10_in_1_30 (mo := mo) (x := (nI m)) ) dX10_big_44 rfl rfl 0 rfl [] [0, 1] (by decide) rfl rfl (by decide) (by decide) (by decide) (Nat.le_of_ble_eq_true rfl) (by decide) (by decide) (fun r_8 w_9 h_7 => ?_)
      obtain ⟨rfl, rfl⟩ := h_7
      refine v_eq (st' := [.int (b2i (1 ≤ (nI m) ∧ (nI m) ≤ 30))]) (ws' := [(mo, .inr (10, M1R ma (mZ c c2 tk vc ln rn zs_10 zs_11 zs_20 zs_21 zs_22 zs_25 zs_26 zs_27 zs_29))), ((ma 33), eI D 42 f)]) rfl rfl rfl rfl ?_
      refine v_if_eq O 61 dX10_big_47 (by decide) (fun y2 => ?_) (fun y2 => ?_)
      · skip
        have y2 := b2i_0.mp y2
        exact absurd (⟨(c_le (x := 1) (y := nI m) (a := 1) rfl rfl (by omega) (by omega)).mpr (by omega), (c_le (x := nI m) (y := 30) (b := 30) rfl rfl (by omega) (by omega)).mpr (by omega)⟩) y2
      · skip
        have y2 := b2i_1.mp y2
        refine v_aload_n O dX10_big_50 0 rfl ?_
        refine v_iload_n O dX10_big_51 3 rfl ?_
        refine v_iconst (v := 0) O dX10_big_52 (by decide) ?_
        refine v_bipush (v := 9) O dX10_big_53 (by decide) ?_
        refine v_cV (T := TX10) (ci := 10) (As := [.int (nI q), .int 0, .int 9]) (wr := [(mo, .inr (10, M1R ma (mZ c c2 tk vc ln rn zs_10 zs_11 zs_20 zs_21 zs_22 zs_25 zs_26 zs_27 zs_29))), ((ma 33), eI D 42 f)]) (st := []) O cf_X10_179 rfl (sp_X10_in_0 (mo := mo) (x := (nI q)) (h := 9) (zn := 10) (rfl) (by decide)) dX10_big_55 rfl rfl 0 rfl [] [0, 1] (by decide) rfl rfl (by decide) (by decide) (by decide) (Nat.le_of_ble_eq_true rfl) (by decide) (by decide) (fun r_11 w_12 h_10 => ?_)
        obtain ⟨rfl, rfl⟩ := h_10
        refine v_eq (st' := [.int (b2i (isIx (nI q) 10))]) (ws' := [(mo, .inr (10, M1R ma (mZ c c2 tk vc ln rn zs_10 zs_11 zs_20 zs_21 zs_22 zs_25 zs_26 zs_27 zs_29))), ((ma 33), eI D 42 f)]) rfl rfl rfl rfl ?_
        refine v_if_ne O 64 dX10_big_58 (by decide) (fun y3 => ?_) (fun y3 => ?_)
        · skip
          have y3 := b2i_1.mp y3
          refine v_aload_n O dX10_big_64 0 rfl ?_
          refine v_iload_n O dX10_big_65 1 rfl ?_
          refine v_iload_n O dX10_big_66 2 rfl ?_
          refine v_iload_n O dX10_big_67 3 rfl ?_
          refine v_cV (T := TX10) (ci := 10) (As := [.int (nI d), .int (nI m), .int (nI q)]) (wr := []) (st := []) O cf_X10_311 rfl (sp_X10_layBig (mo := mo) (ma := ma) (c := c) (c2 := c2) (tk := tk) (vc := vc) (ln := ln) (rn := rn) (zs_10 := zs_10) (zs_11 := zs_11) (zs_20 := zs_20) (zs_21 := zs_21) (zs_22 := zs_22) (zs_25 := zs_25) (zs_26 := zs_26) (zs_27 := zs_27) (zs_29 := zs_29) (f := f) (d := d) (m := m) (q := q) (hd0) (hd) (hm) (ho)) dX10_big_68 rfl rfl 0 rfl [0, 1] [] (by decide) rfl rfl (by decide) (by decide) (by decide) (Nat.le_of_ble_eq_true rfl) (by decide) (by decide) (fun r_14 w_15 h_13 => ?_)
          obtain ⟨g_16, rfl, rfl, h_g⟩ := h_13
          refine v_eq (st' := []) (ws' := [(mo, .inr (10, M1R ma (mZ c c2 tk vc ln rn zs_10 zs_11 zs_20 zs_21 zs_22 zs_25 zs_26 zs_27 zs_29))), ((ma 33), eI D 42 g_16)]) rfl rfl rfl rfl ?_
          refine v_aload_n O dX10_big_71 0 rfl ?_
          refine v_iload O dX10_big_72 4 rfl ?_
          refine v_iconst (v := 0) O dX10_big_74 (by decide) ?_
          refine v_bipush (v := 39) O dX10_big_75 (by decide) ?_
          refine v_cV (T := TX10) (ci := 10) (As := [.int (-1), .int 0, .int 39]) (wr := [(mo, .inr (10, M1R ma (mZ c c2 tk vc ln rn zs_10 zs_11 zs_20 zs_21 zs_22 zs_25 zs_26 zs_27 zs_29))), ((ma 33), eI D 42 g_16)]) (st := []) O cf_X10_179 rfl (sp_X10_in_0 (mo := mo) (x := (-1)) (h := 39) (zn := 40) (rfl) (by decide)) dX10_big_77 rfl rfl 0 rfl [] [0, 1] (by decide) rfl rfl (by decide) (by decide) (by decide) (Nat.le_of_ble_eq_true rfl) (by decide) (by decide) (fun r_18 w_19 h_17 => ?_)
          obtain ⟨rfl, rfl⟩ := h_17
          refine v_eq (st' := [.int (b2i (isIx (-1) 40))]) (ws' := [(mo, .inr (10, M1R ma (mZ c c2 tk vc ln rn zs_10 zs_11 zs_20 zs_21 zs_22 zs_25 zs_26 zs_27 zs_29))), ((ma 33), eI D 42 g_16)]) rfl rfl rfl rfl ?_
          refine v_if_eq O 91 dX10_big_80 (by decide) (fun y4 => ?_) (fun y4 => ?_)
          · skip
            have y4 := b2i_0.mp y4
            refine v_iconst (v := 1) O dX10_big_91 (by decide) ?_
            refine v_istore (lv' := [(0, .ref mo), (1, .int (nI d)), (2, .int (nI m)), (3, .int (nI q)), (4, .int (-1)), (5, .int 1)]) O dX10_big_92 (by decide) rfl ?_
            refine v_iconst (v := 0) O dX10_big_94 (by decide) ?_
            refine v_istore (lv' := [(0, .ref mo), (1, .int (nI d)), (2, .int (nI m)), (3, .int (nI q)), (4, .int (-1)), (5, .int 1), (6, .int 0)]) O dX10_big_95 (by decide) rfl ?_
            refine v_bipush (v := 41) O dX10_big_97 (by decide) ?_
            refine v_istore (lv' := [(0, .ref mo), (1, .int (nI d)), (2, .int (nI m)), (3, .int (nI q)), (4, .int (-1)), (5, .int 1), (6, .int 0), (7, .int 41)]) O dX10_big_99 (by decide) rfl ?_
            refine v_eq (lv' := [(0, .ref mo), (1, .int (nI d)), (2, .int (nI m)), (3, .int (nI q)), (4, .int (-1)), (5, .int (nI 1)), (6, .int 0), (7, .int 41)]) rfl rfl rfl rfl ?_
            exact l_X10_lenD O hd0 hd hm0 hm ho h_g T 42 (Nat.le_refl _) 1 (by decide) (Or.inl ⟨rfl, rfl⟩) _ rfl
          · skip
            have y4 := b2i_1.mp y4
            exact absurd y4 (fun q => by obtain ⟨k9, hk9, e9⟩ := q; exact absurd e9.symm (zI_m1 (by omega)))
        · skip
          have y3 := b2i_0.mp y3
          exact absurd ((isIx_nI (by omega) (by omega)).mpr (by omega)) y3
  · skip
    have z1 := b2i_0.mp z1
    exact absurd (by decide) z1
set_option maxRecDepth 100000 in
set_option maxHeartbeats 4000000 in
theorem l_X10_resD {D : G} {X : CX} {mo : Nat} {ma : Nat → Nat} {c : CS} {c2 : CS} {tk : Int32} {vc : Nat} {ln : Nat} {rn : Nat} {zs_10 : Int32} {zs_11 : Int32} {zs_20 : Int32} {zs_21 : Int32} {zs_22 : Int32} {zs_25 : Int32} {zs_26 : Int32} {zs_27 : Int32} {zs_29 : Int32} {d : Nat} {m : Nat} {q : Nat} {zw : Nat} {f : Nat → Int32} (O : Ok D X mX10_big 30 0 0) (hw1 : 2 ≤ zw) (hw : zw < 100) (hd0 : 2 ≤ d) (hd : d ≤ 12) (hm0 : 1 ≤ m) (hm : m ≤ 30) (ho : q ≤ 9) (hf : (∀ zj, zj < 42 → f zj = digs (bigN d m q) zj)) (T : Rt D X (fun r w => ∃ zs2_10 : Int32, ∃ zs2_11 : Int32, ∃ zs2_20 : Int32, ∃ zs2_21 : Int32, ∃ zs2_22 : Int32, ∃ zs2_25 : Int32, ∃ zs2_26 : Int32, ∃ zs2_27 : Int32, ∃ zs2_29 : Int32, ∃ f1 : Nat → Int32, r = some (.int (nI (hrn (fun zi => bigN d m q / 10 ^ zi % 10) zw 40 0))) ∧ w = [(mo, .inr (10, M1R ma (mZ c c2 tk vc ln rn zs2_10 zs2_11 zs2_20 zs2_21 zs2_22 zs2_25 zs2_26 zs2_27 zs2_29))), ((ma 33), eI D 42 f1)]) 0 0) : ∀ t : Nat, t ≤ 42 → ∀ nn r : Nat, nn < 100 → r < zw → hrn (fun zi => bigN d m q / 10 ^ zi % 10) zw t r = hrn (fun zi => bigN d m q / 10 ^ zi % 10) zw 42 0 → ∀ v7 : Int32, v7 = nI t - 1 → V D X 0 0 101 [(0, .ref mo), (1, .int (nI d)), (2, .int (nI m)), (3, .int (nI q)), (4, .int (nI (zw + 100))), (5, .int (nI nn)), (6, .int (nI r)), (7, .int v7)] [] [(mo, .inr (10, M1R ma (mZ c c2 tk vc ln rn zs_10 zs_11 zs_20 zs_21 zs_22 zs_25 zs_26 zs_27 zs_29))), ((ma 33), eI D 42 f)] := by
  intro t
  induction t with
  | zero =>
    intro ht nn r hn hr h v7 h7
    have h8 : v7 = -1 := by rw [h7]; decide
    refine v_iload O dX10_big_101 7 rfl ?_
    refine v_if_lt O 165 dX10_big_103 (by decide) (fun w1 => ?_) (fun w1 => ?_)
    · skip
      refine v_iload O dX10_big_165 4 rfl ?_
      refine v_if_ge O 175 dX10_big_167 (by decide) (fun w9 => ?_) (fun w9 => ?_)
      · skip
        refine v_iload O dX10_big_175 6 rfl ?_
        exact v_ireturn O T rfl rfl (by decide) (by decide) dX10_big_177 (⟨zs_10, zs_11, zs_20, zs_21, zs_22, zs_25, zs_26, zs_27, zs_29, _, by rw [← hrn_hi 2 (dig_42 hd hm) (by omega), ← h]; rfl, rfl⟩)
      · skip
        exact absurd (Int32.not_lt.mp (nI_pos (by omega))) w9
    · skip
      rw [h8] at w1; exact absurd (by decide) w1
  | succ t ih =>
    intro ht nn r hn hr h v7 h7
    rw [nI_p] at h7
    subst h7
    have hdg := digs_lt (bigN d m q) t
    refine v_iload O dX10_big_101 7 rfl ?_
    refine v_if_lt O 165 dX10_big_103 (by decide) (fun w1 => ?_) (fun w1 => ?_)
    · skip
      have w1 := (c_lt (x := nI t) (y := 0) (a := t) (b := 0) rfl rfl (by omega) (by omega)).mp w1
      exact absurd w1 (by omega)
    · skip
      have w1 := (not_congr (c_lt (x := nI t) (y := 0) (a := t) (b := 0) rfl rfl (by omega) (by omega))).mp w1
      refine v_aload_n O dX10_big_106 0 rfl ?_
      refine gf_X10_111 (v := .ref (ma 33)) O rfl dX10_big_107 0 rfl rfl ?_
      refine v_iload O dX10_big_110 7 rfl ?_
      refine v_ialdk O dX10_big_112 1 rfl t rfl (by omega) (by decide) ?_
      refine v_top (y := nI (bigN d m q / 10 ^ t % 10)) (hf t (by omega)) ?_
      refine v_if_le O 129 dX10_big_113 (by decide) (fun w2 => ?_) (fun w2 => ?_)
      · skip
        have w2 := (c_le (x := nI (bigN d m q / 10 ^ t % 10)) (y := 0) (a := bigN d m q / 10 ^ t % 10) (b := 0) rfl rfl (by omega) (by omega)).mp w2
        refine v_iload O dX10_big_129 4 rfl ?_
        refine v_if_ge O 138 dX10_big_131 (by decide) (fun w4 => ?_) (fun w4 => ?_)
        · skip
          refine v_bipush (v := 10) O dX10_big_138 (by decide) ?_
          refine v_iload O dX10_big_140 6 rfl ?_
          refine v_imul O dX10_big_142 ?_
          refine v_top (y := nI (10 * r)) (pk_mul 10 r) ?_
          refine v_aload_n O dX10_big_143 0 rfl ?_
          refine gf_X10_111 (v := .ref (ma 33)) O rfl dX10_big_144 0 rfl rfl ?_
          refine v_iload O dX10_big_147 7 rfl ?_
          refine v_ialdk O dX10_big_149 1 rfl t rfl (by omega) (by decide) ?_
          refine v_top (y := nI (bigN d m q / 10 ^ t % 10)) (hf t (by omega)) ?_
          refine v_iadd O dX10_big_150 ?_
          refine v_top (y := nI ((10 * r) + (bigN d m q / 10 ^ t % 10))) (nI_add (10 * r) (bigN d m q / 10 ^ t % 10)) ?_
          refine v_iload O dX10_big_151 4 rfl ?_
          refine v_bipush (v := 100) O dX10_big_153 (by decide) ?_
          refine v_isub O dX10_big_155 ?_
          refine v_top (y := nI zw) ((show nI (zw + 100) - nI 100 = nI (zw + 100 - 100) from pk_sub (by omega)).trans (by rw [Nat.add_sub_cancel])) ?_
          refine v_irem O dX10_big_156 (nI_ne0 (by omega) (by omega)) ?_
          refine v_top (y := nI ((10 * r + bigN d m q / 10 ^ t % 10) % zw)) (pk_rem (by omega) (by omega) (by omega)) ?_
          refine v_istore (lv' := [(0, .ref mo), (1, .int (nI d)), (2, .int (nI m)), (3, .int (nI q)), (4, .int (nI (zw + 100))), (5, .int (nI nn)), (6, .int (nI ((10 * r + bigN d m q / 10 ^ t % 10) % zw))), (7, .int (nI t))]) O dX10_big_157 (by decide) rfl ?_
          refine v_iinc (v := (nI t) + (-1)) (lv' := [(0, .ref mo), (1, .int (nI d)), (2, .int (nI m)), (3, .int (nI q)), (4, .int (nI (zw + 100))), (5, .int (nI nn)), (6, .int (nI ((10 * r + bigN d m q / 10 ^ t % 10) % zw))), (7, .int ((nI t) + (-1)))]) O dX10_big_159 7 rfl (rfl) (by decide) rfl ?_
          refine v_goto O 101 dX10_big_162 (by decide) ?_
          exact ih (by omega) _ _ (by omega) (Nat.mod_lt _ (by omega)) (by rw [← h, Nat.mul_comm 10 r]; rfl) _ (Int32.sub_eq_add_neg _ _).symm
        · skip
          exact absurd (Int32.not_lt.mp (nI_pos (by omega))) w4
      · skip
        have w2 := (not_congr (c_le (x := nI (bigN d m q / 10 ^ t % 10)) (y := 0) (a := bigN d m q / 10 ^ t % 10) (b := 0) rfl rfl (by omega) (by omega))).mp w2
        refine v_iload O dX10_big_116 7 rfl ?_
        refine v_iload O dX10_big_118 5 rfl ?_
        refine v_icmp_lt O 129 dX10_big_120 (by decide) (fun w3 => ?_) (fun w3 => ?_)
        · skip
          have w3 := (c_lt (x := nI t) (y := nI nn) (a := t) (b := nn) rfl rfl (by omega) (by omega)).mp w3
          refine v_iload O dX10_big_129 4 rfl ?_
          refine v_if_ge O 138 dX10_big_131 (by decide) (fun w4 => ?_) (fun w4 => ?_)
          · skip
            refine v_bipush (v := 10) O dX10_big_138 (by decide) ?_
            refine v_iload O dX10_big_140 6 rfl ?_
            refine v_imul O dX10_big_142 ?_
            refine v_top (y := nI (10 * r)) (pk_mul 10 r) ?_
            refine v_aload_n O dX10_big_143 0 rfl ?_
            refine gf_X10_111 (v := .ref (ma 33)) O rfl dX10_big_144 0 rfl rfl ?_
            refine v_iload O dX10_big_147 7 rfl ?_
            refine v_ialdk O dX10_big_149 1 rfl t rfl (by omega) (by decide) ?_
            refine v_top (y := nI (bigN d m q / 10 ^ t % 10)) (hf t (by omega)) ?_
            refine v_iadd O dX10_big_150 ?_
            refine v_top (y := nI ((10 * r) + (bigN d m q / 10 ^ t % 10))) (nI_add (10 * r) (bigN d m q / 10 ^ t % 10)) ?_
            refine v_iload O dX10_big_151 4 rfl ?_
            refine v_bipush (v := 100) O dX10_big_153 (by decide) ?_
            refine v_isub O dX10_big_155 ?_
            refine v_top (y := nI zw) ((show nI (zw + 100) - nI 100 = nI (zw + 100 - 100) from pk_sub (by omega)).trans (by rw [Nat.add_sub_cancel])) ?_
            refine v_irem O dX10_big_156 (nI_ne0 (by omega) (by omega)) ?_
            refine v_top (y := nI ((10 * r + bigN d m q / 10 ^ t % 10) % zw)) (pk_rem (by omega) (by omega) (by omega)) ?_
            refine v_istore (lv' := [(0, .ref mo), (1, .int (nI d)), (2, .int (nI m)), (3, .int (nI q)), (4, .int (nI (zw + 100))), (5, .int (nI nn)), (6, .int (nI ((10 * r + bigN d m q / 10 ^ t % 10) % zw))), (7, .int (nI t))]) O dX10_big_157 (by decide) rfl ?_
            refine v_iinc (v := (nI t) + (-1)) (lv' := [(0, .ref mo), (1, .int (nI d)), (2, .int (nI m)), (3, .int (nI q)), (4, .int (nI (zw + 100))), (5, .int (nI nn)), (6, .int (nI ((10 * r + bigN d m q / 10 ^ t % 10) % zw))), (7, .int ((nI t) + (-1)))]) O dX10_big_159 7 rfl (rfl) (by decide) rfl ?_
            refine v_goto O 101 dX10_big_162 (by decide) ?_
            exact ih (by omega) _ _ (by omega) (Nat.mod_lt _ (by omega)) (by rw [← h, Nat.mul_comm 10 r]; rfl) _ (Int32.sub_eq_add_neg _ _).symm
          · skip
            exact absurd (Int32.not_lt.mp (nI_pos (by omega))) w4
        · skip
          have w3 := (not_congr (c_lt (x := nI t) (y := nI nn) (a := t) (b := nn) rfl rfl (by omega) (by omega))).mp w3
          refine v_iload O dX10_big_123 7 rfl ?_
          refine v_iconst (v := 1) O dX10_big_125 (by decide) ?_
          refine v_iadd O dX10_big_126 ?_
          refine v_top (y := nI (t + 1)) (nI_add t 1) ?_
          refine v_istore (lv' := [(0, .ref mo), (1, .int (nI d)), (2, .int (nI m)), (3, .int (nI q)), (4, .int (nI (zw + 100))), (5, .int (nI (t + 1))), (6, .int (nI r)), (7, .int (nI t))]) O dX10_big_127 (by decide) rfl ?_
          refine v_iload O dX10_big_129 4 rfl ?_
          refine v_if_ge O 138 dX10_big_131 (by decide) (fun w4 => ?_) (fun w4 => ?_)
          · skip
            refine v_bipush (v := 10) O dX10_big_138 (by decide) ?_
            refine v_iload O dX10_big_140 6 rfl ?_
            refine v_imul O dX10_big_142 ?_
            refine v_top (y := nI (10 * r)) (pk_mul 10 r) ?_
            refine v_aload_n O dX10_big_143 0 rfl ?_
            refine gf_X10_111 (v := .ref (ma 33)) O rfl dX10_big_144 0 rfl rfl ?_
            refine v_iload O dX10_big_147 7 rfl ?_
            refine v_ialdk O dX10_big_149 1 rfl t rfl (by omega) (by decide) ?_
            refine v_top (y := nI (bigN d m q / 10 ^ t % 10)) (hf t (by omega)) ?_
            refine v_iadd O dX10_big_150 ?_
            refine v_top (y := nI ((10 * r) + (bigN d m q / 10 ^ t % 10))) (nI_add (10 * r) (bigN d m q / 10 ^ t % 10)) ?_
            refine v_iload O dX10_big_151 4 rfl ?_
            refine v_bipush (v := 100) O dX10_big_153 (by decide) ?_
            refine v_isub O dX10_big_155 ?_
            refine v_top (y := nI zw) ((show nI (zw + 100) - nI 100 = nI (zw + 100 - 100) from pk_sub (by omega)).trans (by rw [Nat.add_sub_cancel])) ?_
            refine v_irem O dX10_big_156 (nI_ne0 (by omega) (by omega)) ?_
            refine v_top (y := nI ((10 * r + bigN d m q / 10 ^ t % 10) % zw)) (pk_rem (by omega) (by omega) (by omega)) ?_
            refine v_istore (lv' := [(0, .ref mo), (1, .int (nI d)), (2, .int (nI m)), (3, .int (nI q)), (4, .int (nI (zw + 100))), (5, .int (nI (t + 1))), (6, .int (nI ((10 * r + bigN d m q / 10 ^ t % 10) % zw))), (7, .int (nI t))]) O dX10_big_157 (by decide) rfl ?_
            refine v_iinc (v := (nI t) + (-1)) (lv' := [(0, .ref mo), (1, .int (nI d)), (2, .int (nI m)), (3, .int (nI q)), (4, .int (nI (zw + 100))), (5, .int (nI (t + 1))), (6, .int (nI ((10 * r + bigN d m q / 10 ^ t % 10) % zw))), (7, .int ((nI t) + (-1)))]) O dX10_big_159 7 rfl (rfl) (by decide) rfl ?_
            refine v_goto O 101 dX10_big_162 (by decide) ?_
            exact ih (by omega) _ _ (by omega) (Nat.mod_lt _ (by omega)) (by rw [← h, Nat.mul_comm 10 r]; rfl) _ (Int32.sub_eq_add_neg _ _).symm
          · skip
            exact absurd (Int32.not_lt.mp (nI_pos (by omega))) w4
set_option maxRecDepth 100000 in
set_option maxHeartbeats 4000000 in
theorem sp_X10_big_7 {D : G} {mo : Nat} {ma : Nat → Nat} {c : CS} {c2 : CS} {tk : Int32} {vc : Nat} {ln : Nat} {rn : Nat} {zs_10 : Int32} {zs_11 : Int32} {zs_20 : Int32} {zs_21 : Int32} {zs_22 : Int32} {zs_25 : Int32} {zs_26 : Int32} {zs_27 : Int32} {zs_29 : Int32} {d : Nat} {m : Nat} {q : Nat} {zw : Nat} {f : Nat → Int32} (hw1 : 2 ≤ zw) (hw : zw < 100) (hd0 : 2 ≤ d) (hd : d ≤ 12) (hm0 : 1 ≤ m) (hm : m ≤ 30) (ho : q ≤ 9) : Sp D mX10_big 30 0 0 [.ref mo, .int (nI d), .int (nI m), .int (nI q), .int (nI (zw + 100))] [(mo, .inr (10, M1R ma (mZ c c2 tk vc ln rn zs_10 zs_11 zs_20 zs_21 zs_22 zs_25 zs_26 zs_27 zs_29))), ((ma 33), eI D 42 f)] (fun r w => ∃ zs2_10 : Int32, ∃ zs2_11 : Int32, ∃ zs2_20 : Int32, ∃ zs2_21 : Int32, ∃ zs2_22 : Int32, ∃ zs2_25 : Int32, ∃ zs2_26 : Int32, ∃ zs2_27 : Int32, ∃ zs2_29 : Int32, ∃ f1 : Nat → Int32, r = some (.int (nI (hrn (fun zi => bigN d m q / 10 ^ zi % 10) zw 40 0))) ∧ w = [(mo, .inr (10, M1R ma (mZ c c2 tk vc ln rn zs2_10 zs2_11 zs2_20 zs2_21 zs2_22 zs2_25 zs2_26 zs2_27 zs2_29))), ((ma 33), eI D 42 f1)]) := by
  refine Sp.of (by decide) (Nat.le_of_ble_eq_true rfl) (fun X O T => ?_)
  refine v_eq (lv' := [(0, .ref mo), (1, .int (nI d)), (2, .int (nI m)), (3, .int (nI q)), (4, .int (nI (zw + 100)))]) rfl rfl rfl rfl ?_
  refine v_aload_n O dX10_big_0 0 rfl ?_
  refine v_iload O dX10_big_1 4 rfl ?_
  refine v_iconst (v := -1) O dX10_big_3 (by decide) ?_
  refine v_bipush (v := 39) O dX10_big_4 (by decide) ?_
  refine v_cV (T := TX10) (ci := 10) (As := [.int (nI (zw + 100)), .int (-1), .int 39]) (wr := [(mo, .inr (10, M1R ma (mZ c c2 tk vc ln rn zs_10 zs_11 zs_20 zs_21 zs_22 zs_25 zs_26 zs_27 zs_29))), ((ma 33), eI D 42 f)]) (st := []) O cf_X10_179 rfl (sp_X10_in_m1_39 (mo := mo) (x := (nI (zw + 100))) ) dX10_big_6 rfl rfl 0 rfl [] [0, 1] (by decide) rfl rfl (by decide) (by decide) (by decide) (Nat.le_of_ble_eq_true rfl) (by decide) (by decide) (fun r_2 w_3 h_1 => ?_)
  obtain ⟨rfl, rfl⟩ := h_1
  refine v_eq (st' := [.int (b2i (-1 ≤ (nI (zw + 100)) ∧ (nI (zw + 100)) ≤ 39))]) (ws' := [(mo, .inr (10, M1R ma (mZ c c2 tk vc ln rn zs_10 zs_11 zs_20 zs_21 zs_22 zs_25 zs_26 zs_27 zs_29))), ((ma 33), eI D 42 f)]) rfl rfl rfl rfl ?_
  refine v_if_ne O 28 dX10_big_9 (by decide) (fun z1 => ?_) (fun z1 => ?_)
  · skip
    have z1 := b2i_1.mp z1
    exact absurd z1.2 (fun q => absurd ((c_le (x := nI (zw + 100)) (y := 39) (b := 39) rfl rfl (by omega) (by omega)).mp q) (by omega))
  · skip
    have z1 := b2i_0.mp z1
    refine v_aload_n O dX10_big_12 0 rfl ?_
    refine v_iload O dX10_big_13 4 rfl ?_
    refine v_bipush (v := 102) O dX10_big_15 (by decide) ?_
    refine v_sipush (v := 199) O dX10_big_17 (by decide) ?_
    refine v_cV (T := TX10) (ci := 10) (As := [.int (nI (zw + 100)), .int 102, .int 199]) (wr := [(mo, .inr (10, M1R ma (mZ c c2 tk vc ln rn zs_10 zs_11 zs_20 zs_21 zs_22 zs_25 zs_26 zs_27 zs_29))), ((ma 33), eI D 42 f)]) (st := []) O cf_X10_179 rfl (sp_X10_in_102_199 (mo := mo) (x := (nI (zw + 100))) ) dX10_big_20 rfl rfl 0 rfl [] [0, 1] (by decide) rfl rfl (by decide) (by decide) (by decide) (Nat.le_of_ble_eq_true rfl) (by decide) (by decide) (fun r_5 w_6 h_4 => ?_)
    obtain ⟨rfl, rfl⟩ := h_4
    refine v_eq (st' := [.int (b2i (102 ≤ (nI (zw + 100)) ∧ (nI (zw + 100)) ≤ 199))]) (ws' := [(mo, .inr (10, M1R ma (mZ c c2 tk vc ln rn zs_10 zs_11 zs_20 zs_21 zs_22 zs_25 zs_26 zs_27 zs_29))), ((ma 33), eI D 42 f)]) rfl rfl rfl rfl ?_
    refine v_if_ne O 28 dX10_big_23 (by decide) (fun z2 => ?_) (fun z2 => ?_)
    · skip
      have z2 := b2i_1.mp z2
      refine v_aload_n O dX10_big_28 0 rfl ?_
      refine v_iload_n O dX10_big_29 1 rfl ?_
      refine v_iconst (v := 2) O dX10_big_30 (by decide) ?_
      refine v_bipush (v := 12) O dX10_big_31 (by decide) ?_
      refine v_cV (T := TX10) (ci := 10) (As := [.int (nI d), .int 2, .int 12]) (wr := [(mo, .inr (10, M1R ma (mZ c c2 tk vc ln rn zs_10 zs_11 zs_20 zs_21 zs_22 zs_25 zs_26 zs_27 zs_29))), ((ma 33), eI D 42 f)]) (st := []) O cf_X10_179 rfl (sp_X10_in_2_12 (mo := mo) (x := (nI d)) ) dX10_big_33 rfl rfl 0 rfl [] [0, 1] (by decide) rfl rfl (by decide) (by decide) (by decide) (Nat.le_of_ble_eq_true rfl) (by decide) (by decide) (fun r_8 w_9 h_7 => ?_)
      obtain ⟨rfl, rfl⟩ := h_7
      refine v_eq (st' := [.int (b2i (2 ≤ (nI d) ∧ (nI d) ≤ 12))]) (ws' := [(mo, .inr (10, M1R ma (mZ c c2 tk vc ln rn zs_10 zs_11 zs_20 zs_21 zs_22 zs_25 zs_26 zs_27 zs_29))), ((ma 33), eI D 42 f)]) rfl rfl rfl rfl ?_
      refine v_if_eq O 61 dX10_big_36 (by decide) (fun y1 => ?_) (fun y1 => ?_)
      · skip
        have y1 := b2i_0.mp y1
        exact absurd (⟨(c_le (x := 2) (y := nI d) (a := 2) rfl rfl (by omega) (by omega)).mpr (by omega), (c_le (x := nI d) (y := 12) (b := 12) rfl rfl (by omega) (by omega)).mpr (by omega)⟩) y1
      · skip
        have y1 := b2i_1.mp y1
        refine v_aload_n O dX10_big_39 0 rfl ?_
        refine v_iload_n O dX10_big_40 2 rfl ?_
        refine v_iconst (v := 1) O dX10_big_41 (by decide) ?_
        refine v_bipush (v := 30) O dX10_big_42 (by decide) ?_
        refine v_cV (T := TX10) (ci := 10) (As := [.int (nI m), .int 1, .int 30]) (wr := [(mo, .inr (10, M1R ma (mZ c c2 tk vc ln rn zs_10 zs_11 zs_20 zs_21 zs_22 zs_25 zs_26 zs_27 zs_29))), ((ma 33), eI D 42 f)]) (st := []) O cf_X10_179 rfl (sp_X10_in_1_30 (mo := mo) (x := (nI m)) ) dX10_big_44 rfl rfl 0 rfl [] [0, 1] (by decide) rfl rfl (by decide) (by decide) (by decide) (Nat.le_of_ble_eq_true rfl) (by decide) (by decide) (fun r_11 w_12 h_10 => ?_)
        obtain ⟨rfl, rfl⟩ := h_10
        refine v_eq (st' := [.int (b2i (1 ≤ (nI m) ∧ (nI m) ≤ 30))]) (ws' := [(mo, .inr (10, M1R ma (mZ c c2 tk vc ln rn zs_10 zs_11 zs_20 zs_21 zs_22 zs_25 zs_26 zs_27 zs_29))), ((ma 33), eI D 42 f)]) rfl rfl rfl rfl ?_
        refine v_if_eq O 61 dX10_big_47 (by decide) (fun y2 => ?_) (fun y2 => ?_)
        · skip
          have y2 := b2i_0.mp y2
          exact absurd (⟨(c_le (x := 1) (y := nI m) (a := 1) rfl rfl (by omega) (by omega)).mpr (by omega), (c_le (x := nI m) (y := 30) (b := 30) rfl rfl (by omega) (by omega)).mpr (by omega)⟩) y2
        · skip
          have y2 := b2i_1.mp y2
          refine v_aload_n O dX10_big_50 0 rfl ?_
          refine v_iload_n O dX10_big_51 3 rfl ?_
          refine v_iconst (v := 0) O dX10_big_52 (by decide) ?_
          refine v_bipush (v := 9) O dX10_big_53 (by decide) ?_
          refine v_cV (T := TX10) (ci := 10) (As := [.int (nI q), .int 0, .int 9]) (wr := [(mo, .inr (10, M1R ma (mZ c c2 tk vc ln rn zs_10 zs_11 zs_20 zs_21 zs_22 zs_25 zs_26 zs_27 zs_29))), ((ma 33), eI D 42 f)]) (st := []) O cf_X10_179 rfl (sp_X10_in_0 (mo := mo) (x := (nI q)) (h := 9) (zn := 10) (rfl) (by decide)) dX10_big_55 rfl rfl 0 rfl [] [0, 1] (by decide) rfl rfl (by decide) (by decide) (by decide) (Nat.le_of_ble_eq_true rfl) (by decide) (by decide) (fun r_14 w_15 h_13 => ?_)
          obtain ⟨rfl, rfl⟩ := h_13
          refine v_eq (st' := [.int (b2i (isIx (nI q) 10))]) (ws' := [(mo, .inr (10, M1R ma (mZ c c2 tk vc ln rn zs_10 zs_11 zs_20 zs_21 zs_22 zs_25 zs_26 zs_27 zs_29))), ((ma 33), eI D 42 f)]) rfl rfl rfl rfl ?_
          refine v_if_ne O 64 dX10_big_58 (by decide) (fun y3 => ?_) (fun y3 => ?_)
          · skip
            have y3 := b2i_1.mp y3
            refine v_aload_n O dX10_big_64 0 rfl ?_
            refine v_iload_n O dX10_big_65 1 rfl ?_
            refine v_iload_n O dX10_big_66 2 rfl ?_
            refine v_iload_n O dX10_big_67 3 rfl ?_
            refine v_cV (T := TX10) (ci := 10) (As := [.int (nI d), .int (nI m), .int (nI q)]) (wr := []) (st := []) O cf_X10_311 rfl (sp_X10_layBig (mo := mo) (ma := ma) (c := c) (c2 := c2) (tk := tk) (vc := vc) (ln := ln) (rn := rn) (zs_10 := zs_10) (zs_11 := zs_11) (zs_20 := zs_20) (zs_21 := zs_21) (zs_22 := zs_22) (zs_25 := zs_25) (zs_26 := zs_26) (zs_27 := zs_27) (zs_29 := zs_29) (f := f) (d := d) (m := m) (q := q) (hd0) (hd) (hm) (ho)) dX10_big_68 rfl rfl 0 rfl [0, 1] [] (by decide) rfl rfl (by decide) (by decide) (by decide) (Nat.le_of_ble_eq_true rfl) (by decide) (by decide) (fun r_17 w_18 h_16 => ?_)
            obtain ⟨g_19, rfl, rfl, h_g⟩ := h_16
            refine v_eq (st' := []) (ws' := [(mo, .inr (10, M1R ma (mZ c c2 tk vc ln rn zs_10 zs_11 zs_20 zs_21 zs_22 zs_25 zs_26 zs_27 zs_29))), ((ma 33), eI D 42 g_19)]) rfl rfl rfl rfl ?_
            refine v_aload_n O dX10_big_71 0 rfl ?_
            refine v_iload O dX10_big_72 4 rfl ?_
            refine v_iconst (v := 0) O dX10_big_74 (by decide) ?_
            refine v_bipush (v := 39) O dX10_big_75 (by decide) ?_
            refine v_cV (T := TX10) (ci := 10) (As := [.int (nI (zw + 100)), .int 0, .int 39]) (wr := [(mo, .inr (10, M1R ma (mZ c c2 tk vc ln rn zs_10 zs_11 zs_20 zs_21 zs_22 zs_25 zs_26 zs_27 zs_29))), ((ma 33), eI D 42 g_19)]) (st := []) O cf_X10_179 rfl (sp_X10_in_0 (mo := mo) (x := (nI (zw + 100))) (h := 39) (zn := 40) (rfl) (by decide)) dX10_big_77 rfl rfl 0 rfl [] [0, 1] (by decide) rfl rfl (by decide) (by decide) (by decide) (Nat.le_of_ble_eq_true rfl) (by decide) (by decide) (fun r_21 w_22 h_20 => ?_)
            obtain ⟨rfl, rfl⟩ := h_20
            refine v_eq (st' := [.int (b2i (isIx (nI (zw + 100)) 40))]) (ws' := [(mo, .inr (10, M1R ma (mZ c c2 tk vc ln rn zs_10 zs_11 zs_20 zs_21 zs_22 zs_25 zs_26 zs_27 zs_29))), ((ma 33), eI D 42 g_19)]) rfl rfl rfl rfl ?_
            refine v_if_eq O 91 dX10_big_80 (by decide) (fun y4 => ?_) (fun y4 => ?_)
            · skip
              have y4 := b2i_0.mp y4
              refine v_iconst (v := 1) O dX10_big_91 (by decide) ?_
              refine v_istore (lv' := [(0, .ref mo), (1, .int (nI d)), (2, .int (nI m)), (3, .int (nI q)), (4, .int (nI (zw + 100))), (5, .int 1)]) O dX10_big_92 (by decide) rfl ?_
              refine v_iconst (v := 0) O dX10_big_94 (by decide) ?_
              refine v_istore (lv' := [(0, .ref mo), (1, .int (nI d)), (2, .int (nI m)), (3, .int (nI q)), (4, .int (nI (zw + 100))), (5, .int 1), (6, .int 0)]) O dX10_big_95 (by decide) rfl ?_
              refine v_bipush (v := 41) O dX10_big_97 (by decide) ?_
              refine v_istore (lv' := [(0, .ref mo), (1, .int (nI d)), (2, .int (nI m)), (3, .int (nI q)), (4, .int (nI (zw + 100))), (5, .int 1), (6, .int 0), (7, .int 41)]) O dX10_big_99 (by decide) rfl ?_
              refine v_eq (lv' := [(0, .ref mo), (1, .int (nI d)), (2, .int (nI m)), (3, .int (nI q)), (4, .int (nI (zw + 100))), (5, .int (nI 1)), (6, .int (nI 0)), (7, .int 41)]) rfl rfl rfl rfl ?_
              exact l_X10_resD O hw1 hw hd0 hd hm0 hm ho h_g T 42 (Nat.le_refl _) 1 0 (by decide) (by omega) rfl _ rfl
            · skip
              have y4 := b2i_1.mp y4
              exact absurd ((isIx_nI (by omega) (by omega)).mp y4) (by omega)
          · skip
            have y3 := b2i_0.mp y3
            exact absurd ((isIx_nI (by omega) (by omega)).mpr (by omega)) y3
    · skip
      have z2 := b2i_0.mp z2
      exact absurd ⟨(c_le (x := 102) (y := nI (zw + 100)) (a := 102) rfl rfl (by omega) (by omega)).mpr (by omega), (c_le (x := nI (zw + 100)) (y := 199) (b := 199) rfl rfl (by omega) (by omega)).mpr (by omega)⟩ z2
