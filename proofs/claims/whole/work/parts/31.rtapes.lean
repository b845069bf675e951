-- the reference: judge, tapes
theorem in_m1 {k m : Nat} (h : k ≤ m) (hm : m < 2147483648) : (-1 : Int32) ≤ nI k ∧ nI k ≤ nI m :=
  ⟨Int32.le_of_lt (Int32.lt_of_lt_of_le (show (-1 : Int32) < 0 by decide) (Int32.not_lt.mp (nI_pos (by omega)))), (c_le rfl rfl (by omega) hm).mpr h⟩
theorem so_ge {s : Int32} (h : s = -1 ∨ isIx s 5) (h1 : ¬ s = -1) : ¬ s < 0 := by
  rcases h with h | ⟨k, hk, rfl⟩
  · exact absurd h h1
  · exact nI_pos (by omega)
theorem so_lt {s : Int32} (h : s = -1 ∨ isIx s 5) (h1 : s < 0) : s = -1 := by
  rcases h with h | ⟨k, hk, rfl⟩
  · exact h
  · exact absurd h1 (nI_pos (by omega))
theorem nI_ti {k : Nat} (h : k < 2147483648) : (nI k).toInt = (k : Int) := nI_toInt h
theorem le_jd {a b i : Nat} (ha : a < 1000) (hb : b < 1000) (hi : i < 2147483648) : nI a - nI b - 1 < nI i ↔ a ≤ i + b := by
  rw [fa_lt, nI_ti hi]
  have h1 : (nI a - nI b).toInt = (a : Int) - b := by rw [fb_subI (by rw [nI_ti (by omega), nI_ti (by omega)]; omega) (by rw [nI_ti (by omega), nI_ti (by omega)]; omega), nI_ti (by omega), nI_ti (by omega)]
  have e1 : (1 : Int32).toInt = 1 := by decide
  rw [fb_subI (by rw [h1, e1]; omega) (by rw [h1, e1]; omega), h1, e1]
  omega
theorem st_r {i n : Int32} {len : Nat} (hl : len ≤ 60) (h1 : ¬ n < 0) (h2 : ¬ i < 0) (h3 : ¬ nI len - n < i) : isSt i n len := by
  obtain ⟨a, ha, rfl⟩ := nI_of h2
  obtain ⟨b, hb, rfl⟩ := nI_of h1
  refine ⟨a, b, rfl, rfl, ?_⟩
  rw [fa_lt, nI_ti ha, fb_subI (by rw [nI_ti (by omega), nI_ti (by omega)]; omega) (by rw [nI_ti (by omega), nI_ti (by omega)]; omega), nI_ti (by omega), nI_ti hb] at h3
  omega
theorem itm_zero {ti : Nat → Nat → Int64} {t : Nat} {h : Nat → Int64} (h1 : ∀ j, 60 * t ≤ j → j < 60 * t + 60 → h j = 0) (h2 : ∀ j, ¬ (60 * t ≤ j ∧ j < 60 * t + 60) → h j = itm ti j) : ∀ j, j < 360 → h j = itm (updT ti t (fun _ => 0)) j := fun j _ => by
  unfold itm updT
  by_cases z : 60 * t ≤ j ∧ j < 60 * t + 60
  · rw [h1 j z.1 z.2, if_pos (show j / 60 = t by omega)]
  · rw [h2 j z, if_neg (show ¬ j / 60 = t by omega)]
    rfl
theorem itm_put {ti : Nat → Nat → Int64} {t i : Nat} {x y : Int64} (hi : i < 60) (e : x = y) : ∀ j, j < 360 → vp_updL (itm ti) (60 * t + i) x j = itm (updT ti t (vp_updL (ti t) i y)) j := fun j _ => by
  subst e
  unfold itm updT vp_updL
  by_cases z : j = 60 * t + i
  · rw [if_pos z, if_pos (show j / 60 = t by omega), if_pos (show j % 60 = i by omega)]
  · rw [if_neg z]
    by_cases z2 : j / 60 = t
    · rw [if_pos z2, if_neg (show ¬ j % 60 = i by omega)]
      show ti (j / 60) (j % 60) = ti t (j % 60)
      rw [z2]
    · rw [if_neg z2]
theorem itm_cpy {ti : Nat → Nat → Int64} {t u i j n : Nat} {h : Nat → Int64} (hu : j + n ≤ 60) (hi : i + n ≤ 60) (h1 : ∀ x, 60 * u + j ≤ x → x < 60 * u + j + n → h x = itm ti (60 * t + i + (x - (60 * u + j)))) (h2 : ∀ x, ¬ (60 * u + j ≤ x ∧ x < 60 * u + j + n) → h x = itm ti x) : ∀ x, x < 360 → h x = itm (updT ti u (va_cpy (ti t) (ti u) i j n)) x := fun x _ => by
  by_cases z : 60 * u + j ≤ x ∧ x < 60 * u + j + n
  · rw [h1 x z.1 z.2]
    unfold itm updT va_cpy
    rw [if_pos (show x / 60 = u by omega), if_pos (show j ≤ x % 60 ∧ x % 60 < j + n by omega), show (60 * t + i + (x - (60 * u + j))) / 60 = t by omega, show (60 * t + i + (x - (60 * u + j))) % 60 = i + (x % 60 - j) by omega]
  · rw [h2 x z]
    unfold itm updT va_cpy
    by_cases z2 : x / 60 = u
    · rw [if_pos z2, if_neg (show ¬ (j ≤ x % 60 ∧ x % 60 < j + n) by omega), z2]
    · rw [if_neg z2]
set_option maxRecDepth 100000 in
set_option maxHeartbeats 4000000 in
theorem sp_X10_judge_1 {D : G} {mo : Nat} {ma : Nat → Nat} {c : CS} {c2 : CS} {tk : Int32} {vc : Nat} {ln : Nat} {rn : Nat} {zs_10 : Int32} {zs_11 : Int32} {zs_20 : Int32} {zs_21 : Int32} {zs_22 : Int32} {zs_25 : Int32} {zs_26 : Int32} {zs_27 : Int32} {zs_29 : Int32} {ts : Nat → Int32} {tl : Nat → Nat} {ti : Nat → Nat → Int64} {t : Int32} {i : Int32} (hk : ¬ isIx t 6) : Sp D mX10_judge 30 0 0 [.ref mo, .int t, .int i] [(mo, .inr (10, M1R ma (mZ c c2 tk vc ln rn zs_10 zs_11 zs_20 zs_21 zs_22 zs_25 zs_26 zs_27 zs_29))), ((ma 51), eI D 6 ts), ((ma 52), eI D 6 (nF tl)), ((ma 53), eJ D 360 (itm ti))] (fun r w => ∃ zs2_10 : Int32, ∃ zs2_11 : Int32, ∃ zs2_20 : Int32, ∃ zs2_21 : Int32, ∃ zs2_22 : Int32, ∃ zs2_25 : Int32, ∃ zs2_26 : Int32, ∃ zs2_27 : Int32, ∃ zs2_29 : Int32, r = some (.int (-1)) ∧ w = [(mo, .inr (10, M1R ma (mZ c c2 tk vc ln rn zs2_10 zs2_11 zs2_20 zs2_21 zs2_22 zs2_25 zs2_26 zs2_27 zs2_29))), ((ma 51), eI D 6 ts), ((ma 52), eI D 6 (nF tl)), ((ma 53), eJ D 360 (itm ti))]) := by
  refine Sp.of (by decide) (Nat.le_of_ble_eq_true rfl) (fun X O T => ?_)
  refine v_eq (lv' := [(0, .ref mo), (1, .int t), (2, .int i)]) rfl rfl rfl rfl ?_
  refine v_aload_n O dX10_judge_0 0 rfl ?_
  refine v_iload_n O dX10_judge_1 1 rfl ?_
  refine v_cV (T := TX10) (ci := 10) (As := [.int t]) (wr := [((ma 51), eI D 6 ts), ((ma 52), eI D 6 (nF tl)), ((ma 53), eJ D 360 (itm ti))]) (st := []) O cf_X10_315 rfl (sp_X10_isTape (mo := mo) (ma := ma) (c := c) (c2 := c2) (tk := tk) (vc := vc) (ln := ln) (rn := rn) (zs_10 := zs_10) (zs_11 := zs_11) (zs_20 := zs_20) (zs_21 := zs_21) (zs_22 := zs_22) (zs_25 := zs_25) (zs_26 := zs_26) (zs_27 := zs_27) (zs_29 := zs_29) (t := t) ) dX10_judge_2 rfl rfl 0 rfl [0] [1, 2, 3] (by decide) rfl rfl (by decide) (by decide) (by decide) (Nat.le_of_ble_eq_true rfl) (by decide) (by decide) (fun r_2 w_3 h_1 => ?_)
  obtain ⟨rfl, rfl⟩ := h_1
  refine v_eq (st' := [.int (b2i (isIx t 6))]) (ws' := [((ma 51), eI D 6 ts), ((ma 52), eI D 6 (nF tl)), ((ma 53), eJ D 360 (itm ti)), (mo, .inr (10, M1R ma (mZ c c2 tk vc ln rn zs_10 zs_11 zs_20 zs_21 zs_22 zs_25 zs_26 zs_27 zs_29)))]) rfl rfl rfl rfl ?_
  refine v_if_ne O 10 dX10_judge_5 (by decide) (fun z1 => ?_) (fun z1 => ?_)
  · skip
    have z1 := b2i_1.mp z1
    exact absurd z1 hk
  · skip
    have z1 := b2i_0.mp z1
    refine v_iconst (v := -1) O dX10_judge_8 (by decide) ?_
    refine v_sub (ws' := [(mo, .inr (10, M1R ma (mZ c c2 tk vc ln rn zs_10 zs_11 zs_20 zs_21 zs_22 zs_25 zs_26 zs_27 zs_29))), ((ma 51), eI D 6 ts), ((ma 52), eI D 6 (nF tl)), ((ma 53), eJ D 360 (itm ti))]) [3, 0, 1, 2] (by decide) rfl ?_
    exact v_ireturn O T rfl rfl (by decide) (by decide) dX10_judge_9 (⟨zs_10, zs_11, zs_20, zs_21, zs_22, zs_25, zs_26, zs_27, zs_29, rfl, rfl⟩)
set_option maxRecDepth 100000 in
set_option maxHeartbeats 4000000 in
theorem sp_X10_judge_2 {D : G} {mo : Nat} {ma : Nat → Nat} {c : CS} {c2 : CS} {tk : Int32} {vc : Nat} {ln : Nat} {rn : Nat} {zs_10 : Int32} {zs_11 : Int32} {zs_20 : Int32} {zs_21 : Int32} {zs_22 : Int32} {zs_25 : Int32} {zs_26 : Int32} {zs_27 : Int32} {zs_29 : Int32} {ts : Nat → Int32} {tl : Nat → Nat} {ti : Nat → Nat → Int64} {t : Nat} {i : Int32} (hC : cOk c) (hk : t < 6) (htl : (tl t) ≤ 60) (hts : (ts t) = -1 → (tl t) = 0) (hso : (ts t) = -1 ∨ isIx (ts t) 5) (hs1 : ¬ (ts t) = -1) (hs3 : ¬ (ts t) = 3) : Sp D mX10_judge 30 0 0 [.ref mo, .int (nI t), .int i] [(mo, .inr (10, M1R ma (mZ c c2 tk vc ln rn zs_10 zs_11 zs_20 zs_21 zs_22 zs_25 zs_26 zs_27 zs_29))), ((ma 4), eI D 6 (nF c.kk)), ((ma 5), eI D 6 (nF c.vv)), ((ma 6), eI D 6 c.hd), ((ma 30), eI D 8 (nF c.crf)), ((ma 35), eI D 12 (nF c.bo)), ((ma 51), eI D 6 ts), ((ma 52), eI D 6 (nF tl)), ((ma 53), eJ D 360 (itm ti))] (fun r w => ∃ zs2_10 : Int32, ∃ zs2_11 : Int32, ∃ zs2_20 : Int32, ∃ zs2_21 : Int32, ∃ zs2_22 : Int32, ∃ zs2_25 : Int32, ∃ zs2_26 : Int32, ∃ zs2_27 : Int32, ∃ zs2_29 : Int32, r = some (.int (-12)) ∧ w = [(mo, .inr (10, M1R ma (mZ c c2 tk vc ln rn zs2_10 zs2_11 zs2_20 zs2_21 zs2_22 zs2_25 zs2_26 zs2_27 zs2_29))), ((ma 4), eI D 6 (nF c.kk)), ((ma 5), eI D 6 (nF c.vv)), ((ma 6), eI D 6 c.hd), ((ma 30), eI D 8 (nF c.crf)), ((ma 35), eI D 12 (nF c.bo)), ((ma 51), eI D 6 ts), ((ma 52), eI D 6 (nF tl)), ((ma 53), eJ D 360 (itm ti))]) := by
  refine Sp.of (by decide) (Nat.le_of_ble_eq_true rfl) (fun X O T => ?_)
  refine v_eq (lv' := [(0, .ref mo), (1, .int (nI t)), (2, .int i)]) rfl rfl rfl rfl ?_
  have z_m := hC.1
  refine v_aload_n O dX10_judge_0 0 rfl ?_
  refine v_iload_n O dX10_judge_1 1 rfl ?_
  refine v_cV (T := TX10) (ci := 10) (As := [.int (nI t)]) (wr := [((ma 4), eI D 6 (nF c.kk)), ((ma 5), eI D 6 (nF c.vv)), ((ma 6), eI D 6 c.hd), ((ma 30), eI D 8 (nF c.crf)), ((ma 35), eI D 12 (nF c.bo)), ((ma 51), eI D 6 ts), ((ma 52), eI D 6 (nF tl)), ((ma 53), eJ D 360 (itm ti))]) (st := []) O cf_X10_315 rfl (sp_X10_isTape (mo := mo) (ma := ma) (c := c) (c2 := c2) (tk := tk) (vc := vc) (ln := ln) (rn := rn) (zs_10 := zs_10) (zs_11 := zs_11) (zs_20 := zs_20) (zs_21 := zs_21) (zs_22 := zs_22) (zs_25 := zs_25) (zs_26 := zs_26) (zs_27 := zs_27) (zs_29 := zs_29) (t := (nI t)) ) dX10_judge_2 rfl rfl 0 rfl [0] [1, 2, 3, 4, 5, 6, 7, 8] (by decide) rfl rfl (by decide) (by decide) (by decide) (Nat.le_of_ble_eq_true rfl) (by decide) (by decide) (fun r_2 w_3 h_1 => ?_)
  obtain ⟨rfl, rfl⟩ := h_1
  refine v_eq (st' := [.int (b2i (isIx (nI t) 6))]) (ws' := [((ma 4), eI D 6 (nF c.kk)), ((ma 5), eI D 6 (nF c.vv)), ((ma 6), eI D 6 c.hd), ((ma 30), eI D 8 (nF c.crf)), ((ma 35), eI D 12 (nF c.bo)), ((ma 51), eI D 6 ts), ((ma 52), eI D 6 (nF tl)), ((ma 53), eJ D 360 (itm ti)), (mo, .inr (10, M1R ma (mZ c c2 tk vc ln rn zs_10 zs_11 zs_20 zs_21 zs_22 zs_25 zs_26 zs_27 zs_29)))]) rfl rfl rfl rfl ?_
  refine v_if_ne O 10 dX10_judge_5 (by decide) (fun z1 => ?_) (fun z1 => ?_)
  · skip
    have z1 := b2i_1.mp z1
    refine v_aload_n O dX10_judge_10 0 rfl ?_
    refine gf_X10_166 (v := .ref (ma 51)) O rfl dX10_judge_11 8 rfl rfl ?_
    refine v_iload_n O dX10_judge_14 1 rfl ?_
    refine v_ialdk O dX10_judge_15 5 rfl t rfl (by omega) (by decide) ?_
    refine v_if_lt O 32 dX10_judge_16 (by decide) (fun z2 => ?_) (fun z2 => ?_)
    · skip
      exact absurd z2 (so_ge hso hs1)
    · skip
      refine v_aload_n O dX10_judge_19 0 rfl ?_
      refine gf_X10_166 (v := .ref (ma 51)) O rfl dX10_judge_20 8 rfl rfl ?_
      refine v_iload_n O dX10_judge_23 1 rfl ?_
      refine v_ialdk O dX10_judge_24 5 rfl t rfl (by omega) (by decide) ?_
      refine v_iconst (v := 3) O dX10_judge_25 (by decide) ?_
      refine v_icmp_eq O 32 dX10_judge_26 (by decide) (fun z3 => ?_) (fun z3 => ?_)
      · skip
        exact absurd z3 hs3
      · skip
        refine v_bipush (v := -12) O dX10_judge_29 (by decide) ?_
        refine v_sub (ws' := [(mo, .inr (10, M1R ma (mZ c c2 tk vc ln rn zs_10 zs_11 zs_20 zs_21 zs_22 zs_25 zs_26 zs_27 zs_29))), ((ma 4), eI D 6 (nF c.kk)), ((ma 5), eI D 6 (nF c.vv)), ((ma 6), eI D 6 c.hd), ((ma 30), eI D 8 (nF c.crf)), ((ma 35), eI D 12 (nF c.bo)), ((ma 51), eI D 6 ts), ((ma 52), eI D 6 (nF tl)), ((ma 53), eJ D 360 (itm ti))]) [8, 0, 1, 2, 3, 4, 5, 6, 7] (by decide) rfl ?_
        exact v_ireturn O T rfl rfl (by decide) (by decide) dX10_judge_31 (⟨zs_10, zs_11, zs_20, zs_21, zs_22, zs_25, zs_26, zs_27, zs_29, rfl, rfl⟩)
  · skip
    have z1 := b2i_0.mp z1
    exact absurd ((isIx_nI (by omega) (by omega)).mpr hk) z1
set_option maxRecDepth 100000 in
set_option maxHeartbeats 4000000 in
theorem sp_X10_judge_3 {D : G} {mo : Nat} {ma : Nat → Nat} {c : CS} {c2 : CS} {tk : Int32} {vc : Nat} {ln : Nat} {rn : Nat} {zs_10 : Int32} {zs_11 : Int32} {zs_20 : Int32} {zs_21 : Int32} {zs_22 : Int32} {zs_25 : Int32} {zs_26 : Int32} {zs_27 : Int32} {zs_29 : Int32} {ts : Nat → Int32} {tl : Nat → Nat} {ti : Nat → Nat → Int64} {t : Nat} {i : Int32} (hC : cOk c) (hk : t < 6) (htl : (tl t) ≤ 60) (hts : (ts t) = -1 → (tl t) = 0) (hso : (ts t) = -1 ∨ isIx (ts t) 5) (hs : (ts t) = -1 ∨ (ts t) = 3) (hm : c.men = 0) : Sp D mX10_judge 30 0 0 [.ref mo, .int (nI t), .int i] [(mo, .inr (10, M1R ma (mZ c c2 tk vc ln rn zs_10 zs_11 zs_20 zs_21 zs_22 zs_25 zs_26 zs_27 zs_29))), ((ma 4), eI D 6 (nF c.kk)), ((ma 5), eI D 6 (nF c.vv)), ((ma 6), eI D 6 c.hd), ((ma 30), eI D 8 (nF c.crf)), ((ma 35), eI D 12 (nF c.bo)), ((ma 51), eI D 6 ts), ((ma 52), eI D 6 (nF tl)), ((ma 53), eJ D 360 (itm ti))] (fun r w => ∃ zs2_10 : Int32, ∃ zs2_11 : Int32, ∃ zs2_20 : Int32, ∃ zs2_21 : Int32, ∃ zs2_22 : Int32, ∃ zs2_25 : Int32, ∃ zs2_26 : Int32, ∃ zs2_27 : Int32, ∃ zs2_29 : Int32, r = some (.int (-5)) ∧ w = [(mo, .inr (10, M1R ma (mZ c c2 tk vc ln rn zs2_10 zs2_11 zs2_20 zs2_21 zs2_22 zs2_25 zs2_26 zs2_27 zs2_29))), ((ma 4), eI D 6 (nF c.kk)), ((ma 5), eI D 6 (nF c.vv)), ((ma 6), eI D 6 c.hd), ((ma 30), eI D 8 (nF c.crf)), ((ma 35), eI D 12 (nF c.bo)), ((ma 51), eI D 6 ts), ((ma 52), eI D 6 (nF tl)), ((ma 53), eJ D 360 (itm ti))]) := by
  refine Sp.of (by decide) (Nat.le_of_ble_eq_true rfl) (fun X O T => ?_)
  refine v_eq (lv' := [(0, .ref mo), (1, .int (nI t)), (2, .int i)]) rfl rfl rfl rfl ?_
  have z_m := hC.1
  refine v_aload_n O dX10_judge_0 0 rfl ?_
  refine v_iload_n O dX10_judge_1 1 rfl ?_
  refine v_cV (T := TX10) (ci := 10) (As := [.int (nI t)]) (wr := [((ma 4), eI D 6 (nF c.kk)), ((ma 5), eI D 6 (nF c.vv)), ((ma 6), eI D 6 c.hd), ((ma 30), eI D 8 (nF c.crf)), ((ma 35), eI D 12 (nF c.bo)), ((ma 51), eI D 6 ts), ((ma 52), eI D 6 (nF tl)), ((ma 53), eJ D 360 (itm ti))]) (st := []) O cf_X10_315 rfl (sp_X10_isTape (mo := mo) (ma := ma) (c := c) (c2 := c2) (tk := tk) (vc := vc) (ln := ln) (rn := rn) (zs_10 := zs_10) (zs_11 := zs_11) (zs_20 := zs_20) (zs_21 := zs_21) (zs_22 := zs_22) (zs_25 := zs_25) (zs_26 := zs_26) (zs_27 := zs_27) (zs_29 := zs_29) (t := (nI t)) ) dX10_judge_2 rfl rfl 0 rfl [0] [1, 2, 3, 4, 5, 6, 7, 8] (by decide) rfl rfl (by decide) (by decide) (by decide) (Nat.le_of_ble_eq_true rfl) (by decide) (by decide) (fun r_2 w_3 h_1 => ?_)
  obtain ⟨rfl, rfl⟩ := h_1
  refine v_eq (st' := [.int (b2i (isIx (nI t) 6))]) (ws' := [((ma 4), eI D 6 (nF c.kk)), ((ma 5), eI D 6 (nF c.vv)), ((ma 6), eI D 6 c.hd), ((ma 30), eI D 8 (nF c.crf)), ((ma 35), eI D 12 (nF c.bo)), ((ma 51), eI D 6 ts), ((ma 52), eI D 6 (nF tl)), ((ma 53), eJ D 360 (itm ti)), (mo, .inr (10, M1R ma (mZ c c2 tk vc ln rn zs_10 zs_11 zs_20 zs_21 zs_22 zs_25 zs_26 zs_27 zs_29)))]) rfl rfl rfl rfl ?_
  refine v_if_ne O 10 dX10_judge_5 (by decide) (fun z1 => ?_) (fun z1 => ?_)
  · skip
    have z1 := b2i_1.mp z1
    refine v_aload_n O dX10_judge_10 0 rfl ?_
    refine gf_X10_166 (v := .ref (ma 51)) O rfl dX10_judge_11 8 rfl rfl ?_
    refine v_iload_n O dX10_judge_14 1 rfl ?_
    refine v_ialdk O dX10_judge_15 5 rfl t rfl (by omega) (by decide) ?_
    refine v_if_lt O 32 dX10_judge_16 (by decide) (fun z2 => ?_) (fun z2 => ?_)
    · skip
      refine v_iconst (v := 0) O dX10_judge_32 (by decide) ?_
      refine v_istore_n (lv' := [(0, .ref mo), (1, .int (nI t)), (2, .int i), (3, .int 0)]) O dX10_judge_33 (by decide) rfl ?_
      refine v_iload_n O dX10_judge_34 3 rfl ?_
      refine v_aload_n O dX10_judge_35 0 rfl ?_
      refine gf_X10_7 (v := .int (nI c.men)) O rfl dX10_judge_36 8 rfl rfl ?_
      refine v_icmp_ge O 106 dX10_judge_39 (by decide) (fun z4 => ?_) (fun z4 => ?_)
      · skip
        have z4 := (c_le' (x := 0) (y := nI c.men) (a := 0) (b := c.men) rfl rfl (by omega) (by omega)).mp z4
        refine v_bipush (v := -5) O dX10_judge_106 (by decide) ?_
        refine v_sub (ws' := [(mo, .inr (10, M1R ma (mZ c c2 tk vc ln rn zs_10 zs_11 zs_20 zs_21 zs_22 zs_25 zs_26 zs_27 zs_29))), ((ma 4), eI D 6 (nF c.kk)), ((ma 5), eI D 6 (nF c.vv)), ((ma 6), eI D 6 c.hd), ((ma 30), eI D 8 (nF c.crf)), ((ma 35), eI D 12 (nF c.bo)), ((ma 51), eI D 6 ts), ((ma 52), eI D 6 (nF tl)), ((ma 53), eJ D 360 (itm ti))]) [8, 0, 1, 2, 3, 4, 5, 6, 7] (by decide) rfl ?_
        exact v_ireturn O T rfl rfl (by decide) (by decide) dX10_judge_108 (⟨zs_10, zs_11, zs_20, zs_21, zs_22, zs_25, zs_26, zs_27, zs_29, rfl, rfl⟩)
      · skip
        have z4 := (not_congr (c_le' (x := 0) (y := nI c.men) (a := 0) (b := c.men) rfl rfl (by omega) (by omega))).mp z4
        exact absurd z4 (by omega)
    · skip
      refine v_aload_n O dX10_judge_19 0 rfl ?_
      refine gf_X10_166 (v := .ref (ma 51)) O rfl dX10_judge_20 8 rfl rfl ?_
      refine v_iload_n O dX10_judge_23 1 rfl ?_
      refine v_ialdk O dX10_judge_24 5 rfl t rfl (by omega) (by decide) ?_
      refine v_iconst (v := 3) O dX10_judge_25 (by decide) ?_
      refine v_icmp_eq O 32 dX10_judge_26 (by decide) (fun z3 => ?_) (fun z3 => ?_)
      · skip
        refine v_iconst (v := 0) O dX10_judge_32 (by decide) ?_
        refine v_istore_n (lv' := [(0, .ref mo), (1, .int (nI t)), (2, .int i), (3, .int 0)]) O dX10_judge_33 (by decide) rfl ?_
        refine v_iload_n O dX10_judge_34 3 rfl ?_
        refine v_aload_n O dX10_judge_35 0 rfl ?_
        refine gf_X10_7 (v := .int (nI c.men)) O rfl dX10_judge_36 8 rfl rfl ?_
        refine v_icmp_ge O 106 dX10_judge_39 (by decide) (fun z4 => ?_) (fun z4 => ?_)
        · skip
          have z4 := (c_le' (x := 0) (y := nI c.men) (a := 0) (b := c.men) rfl rfl (by omega) (by omega)).mp z4
          refine v_bipush (v := -5) O dX10_judge_106 (by decide) ?_
          refine v_sub (ws' := [(mo, .inr (10, M1R ma (mZ c c2 tk vc ln rn zs_10 zs_11 zs_20 zs_21 zs_22 zs_25 zs_26 zs_27 zs_29))), ((ma 4), eI D 6 (nF c.kk)), ((ma 5), eI D 6 (nF c.vv)), ((ma 6), eI D 6 c.hd), ((ma 30), eI D 8 (nF c.crf)), ((ma 35), eI D 12 (nF c.bo)), ((ma 51), eI D 6 ts), ((ma 52), eI D 6 (nF tl)), ((ma 53), eJ D 360 (itm ti))]) [8, 0, 1, 2, 3, 4, 5, 6, 7] (by decide) rfl ?_
          exact v_ireturn O T rfl rfl (by decide) (by decide) dX10_judge_108 (⟨zs_10, zs_11, zs_20, zs_21, zs_22, zs_25, zs_26, zs_27, zs_29, rfl, rfl⟩)
        · skip
          have z4 := (not_congr (c_le' (x := 0) (y := nI c.men) (a := 0) (b := c.men) rfl rfl (by omega) (by omega))).mp z4
          exact absurd z4 (by omega)
      · skip
        exact absurd (hs.resolve_left (fun e9 => by rw [e9] at z2; exact z2 (by decide))) z3
  · skip
    have z1 := b2i_0.mp z1
    exact absurd ((isIx_nI (by omega) (by omega)).mpr hk) z1
set_option maxRecDepth 100000 in
set_option maxHeartbeats 4000000 in
theorem sp_X10_judge_4 {D : G} {mo : Nat} {ma : Nat → Nat} {c : CS} {c2 : CS} {tk : Int32} {vc : Nat} {ln : Nat} {rn : Nat} {zs_10 : Int32} {zs_11 : Int32} {zs_20 : Int32} {zs_21 : Int32} {zs_22 : Int32} {zs_25 : Int32} {zs_26 : Int32} {zs_27 : Int32} {zs_29 : Int32} {ts : Nat → Int32} {tl : Nat → Nat} {ti : Nat → Nat → Int64} {t : Nat} {i : Int32} (hC : cOk c) (hk : t < 6) (htl : (tl t) ≤ 60) (hts : (ts t) = -1 → (tl t) = 0) (hso : (ts t) = -1 ∨ isIx (ts t) 5) (hs : (ts t) = -1 ∨ (ts t) = 3) (hm : 0 < c.men) (hi : i < 0) : Sp D mX10_judge 30 0 0 [.ref mo, .int (nI t), .int i] [(mo, .inr (10, M1R ma (mZ c c2 tk vc ln rn zs_10 zs_11 zs_20 zs_21 zs_22 zs_25 zs_26 zs_27 zs_29))), ((ma 4), eI D 6 (nF c.kk)), ((ma 5), eI D 6 (nF c.vv)), ((ma 6), eI D 6 c.hd), ((ma 30), eI D 8 (nF c.crf)), ((ma 35), eI D 12 (nF c.bo)), ((ma 51), eI D 6 ts), ((ma 52), eI D 6 (nF tl)), ((ma 53), eJ D 360 (itm ti))] (fun r w => ∃ zs2_10 : Int32, ∃ zs2_11 : Int32, ∃ zs2_20 : Int32, ∃ zs2_21 : Int32, ∃ zs2_22 : Int32, ∃ zs2_25 : Int32, ∃ zs2_26 : Int32, ∃ zs2_27 : Int32, ∃ zs2_29 : Int32, r = some (.int 100) ∧ w = [(mo, .inr (10, M1R ma (mZ c c2 tk vc ln rn zs2_10 zs2_11 zs2_20 zs2_21 zs2_22 zs2_25 zs2_26 zs2_27 zs2_29))), ((ma 4), eI D 6 (nF c.kk)), ((ma 5), eI D 6 (nF c.vv)), ((ma 6), eI D 6 c.hd), ((ma 30), eI D 8 (nF c.crf)), ((ma 35), eI D 12 (nF c.bo)), ((ma 51), eI D 6 ts), ((ma 52), eI D 6 (nF tl)), ((ma 53), eJ D 360 (itm ti))]) := by
  refine Sp.of (by decide) (Nat.le_of_ble_eq_true rfl) (fun X O T => ?_)
  refine v_eq (lv' := [(0, .ref mo), (1, .int (nI t)), (2, .int i)]) rfl rfl rfl rfl ?_
  have z_m := hC.1
  refine v_aload_n O dX10_judge_0 0 rfl ?_
  refine v_iload_n O dX10_judge_1 1 rfl ?_
  refine v_cV (T := TX10) (ci := 10) (As := [.int (nI t)]) (wr := [((ma 4), eI D 6 (nF c.kk)), ((ma 5), eI D 6 (nF c.vv)), ((ma 6), eI D 6 c.hd), ((ma 30), eI D 8 (nF c.crf)), ((ma 35), eI D 12 (nF c.bo)), ((ma 51), eI D 6 ts), ((ma 52), eI D 6 (nF tl)), ((ma 53), eJ D 360 (itm ti))]) (st := []) O cf_X10_315 rfl (sp_X10_isTape (mo := mo) (ma := ma) (c := c) (c2 := c2) (tk := tk) (vc := vc) (ln := ln) (rn := rn) (zs_10 := zs_10) (zs_11 := zs_11) (zs_20 := zs_20) (zs_21 := zs_21) (zs_22 := zs_22) (zs_25 := zs_25) (zs_26 := zs_26) (zs_27 := zs_27) (zs_29 := zs_29) (t := (nI t)) ) dX10_judge_2 rfl rfl 0 rfl [0] [1, 2, 3, 4, 5, 6, 7, 8] (by decide) rfl rfl (by decide) (by decide) (by decide) (Nat.le_of_ble_eq_true rfl) (by decide) (by decide) (fun r_2 w_3 h_1 => ?_)
  obtain ⟨rfl, rfl⟩ := h_1
  refine v_eq (st' := [.int (b2i (isIx (nI t) 6))]) (ws' := [((ma 4), eI D 6 (nF c.kk)), ((ma 5), eI D 6 (nF c.vv)), ((ma 6), eI D 6 c.hd), ((ma 30), eI D 8 (nF c.crf)), ((ma 35), eI D 12 (nF c.bo)), ((ma 51), eI D 6 ts), ((ma 52), eI D 6 (nF tl)), ((ma 53), eJ D 360 (itm ti)), (mo, .inr (10, M1R ma (mZ c c2 tk vc ln rn zs_10 zs_11 zs_20 zs_21 zs_22 zs_25 zs_26 zs_27 zs_29)))]) rfl rfl rfl rfl ?_
  refine v_if_ne O 10 dX10_judge_5 (by decide) (fun z1 => ?_) (fun z1 => ?_)
  · skip
    have z1 := b2i_1.mp z1
    refine v_aload_n O dX10_judge_10 0 rfl ?_
    refine gf_X10_166 (v := .ref (ma 51)) O rfl dX10_judge_11 8 rfl rfl ?_
    refine v_iload_n O dX10_judge_14 1 rfl ?_
    refine v_ialdk O dX10_judge_15 5 rfl t rfl (by omega) (by decide) ?_
    refine v_if_lt O 32 dX10_judge_16 (by decide) (fun z2 => ?_) (fun z2 => ?_)
    · skip
      refine v_iconst (v := 0) O dX10_judge_32 (by decide) ?_
      refine v_istore_n (lv' := [(0, .ref mo), (1, .int (nI t)), (2, .int i), (3, .int 0)]) O dX10_judge_33 (by decide) rfl ?_
      refine v_iload_n O dX10_judge_34 3 rfl ?_
      refine v_aload_n O dX10_judge_35 0 rfl ?_
      refine gf_X10_7 (v := .int (nI c.men)) O rfl dX10_judge_36 8 rfl rfl ?_
      refine v_icmp_ge O 106 dX10_judge_39 (by decide) (fun z4 => ?_) (fun z4 => ?_)
      · skip
        have z4 := (c_le' (x := 0) (y := nI c.men) (a := 0) (b := c.men) rfl rfl (by omega) (by omega)).mp z4
        exact absurd z4 (by omega)
      · skip
        have z4 := (not_congr (c_le' (x := 0) (y := nI c.men) (a := 0) (b := c.men) rfl rfl (by omega) (by omega))).mp z4
        refine v_aload_n O dX10_judge_42 0 rfl ?_
        refine gf_X10_166 (v := .ref (ma 51)) O rfl dX10_judge_43 8 rfl rfl ?_
        refine v_iload_n O dX10_judge_46 1 rfl ?_
        refine v_ialdk O dX10_judge_47 5 rfl t rfl (by omega) (by decide) ?_
        refine v_if_lt O 69 dX10_judge_48 (by decide) (fun z5 => ?_) (fun z5 => ?_)
        · skip
          refine v_bipush (v := 100) O dX10_judge_69 (by decide) ?_
          refine v_iload_n O dX10_judge_71 3 rfl ?_
          refine v_iadd O dX10_judge_72 ?_
          refine v_top (y := nI 100) rfl ?_
          refine v_sub (ws' := [(mo, .inr (10, M1R ma (mZ c c2 tk vc ln rn zs_10 zs_11 zs_20 zs_21 zs_22 zs_25 zs_26 zs_27 zs_29))), ((ma 4), eI D 6 (nF c.kk)), ((ma 5), eI D 6 (nF c.vv)), ((ma 6), eI D 6 c.hd), ((ma 30), eI D 8 (nF c.crf)), ((ma 35), eI D 12 (nF c.bo)), ((ma 51), eI D 6 ts), ((ma 52), eI D 6 (nF tl)), ((ma 53), eJ D 360 (itm ti))]) [8, 0, 1, 2, 3, 4, 5, 6, 7] (by decide) rfl ?_
          exact v_ireturn O T rfl rfl (by decide) (by decide) dX10_judge_73 (⟨zs_10, zs_11, zs_20, zs_21, zs_22, zs_25, zs_26, zs_27, zs_29, rfl, rfl⟩)
        · skip
          refine v_iload_n O dX10_judge_51 2 rfl ?_
          refine v_if_lt O 69 dX10_judge_52 (by decide) (fun z6 => ?_) (fun z6 => ?_)
          · skip
            refine v_bipush (v := 100) O dX10_judge_69 (by decide) ?_
            refine v_iload_n O dX10_judge_71 3 rfl ?_
            refine v_iadd O dX10_judge_72 ?_
            refine v_top (y := nI 100) rfl ?_
            refine v_sub (ws' := [(mo, .inr (10, M1R ma (mZ c c2 tk vc ln rn zs_10 zs_11 zs_20 zs_21 zs_22 zs_25 zs_26 zs_27 zs_29))), ((ma 4), eI D 6 (nF c.kk)), ((ma 5), eI D 6 (nF c.vv)), ((ma 6), eI D 6 c.hd), ((ma 30), eI D 8 (nF c.crf)), ((ma 35), eI D 12 (nF c.bo)), ((ma 51), eI D 6 ts), ((ma 52), eI D 6 (nF tl)), ((ma 53), eJ D 360 (itm ti))]) [8, 0, 1, 2, 3, 4, 5, 6, 7] (by decide) rfl ?_
            exact v_ireturn O T rfl rfl (by decide) (by decide) dX10_judge_73 (⟨zs_10, zs_11, zs_20, zs_21, zs_22, zs_25, zs_26, zs_27, zs_29, rfl, rfl⟩)
          · skip
            exact absurd hi z6
    · skip
      refine v_aload_n O dX10_judge_19 0 rfl ?_
      refine gf_X10_166 (v := .ref (ma 51)) O rfl dX10_judge_20 8 rfl rfl ?_
      refine v_iload_n O dX10_judge_23 1 rfl ?_
      refine v_ialdk O dX10_judge_24 5 rfl t rfl (by omega) (by decide) ?_
      refine v_iconst (v := 3) O dX10_judge_25 (by decide) ?_
      refine v_icmp_eq O 32 dX10_judge_26 (by decide) (fun z3 => ?_) (fun z3 => ?_)
      · skip
        refine v_iconst (v := 0) O dX10_judge_32 (by decide) ?_
        refine v_istore_n (lv' := [(0, .ref mo), (1, .int (nI t)), (2, .int i), (3, .int 0)]) O dX10_judge_33 (by decide) rfl ?_
        refine v_iload_n O dX10_judge_34 3 rfl ?_
        refine v_aload_n O dX10_judge_35 0 rfl ?_
        refine gf_X10_7 (v := .int (nI c.men)) O rfl dX10_judge_36 8 rfl rfl ?_
        refine v_icmp_ge O 106 dX10_judge_39 (by decide) (fun z4 => ?_) (fun z4 => ?_)
        · skip
          have z4 := (c_le' (x := 0) (y := nI c.men) (a := 0) (b := c.men) rfl rfl (by omega) (by omega)).mp z4
          exact absurd z4 (by omega)
        · skip
          have z4 := (not_congr (c_le' (x := 0) (y := nI c.men) (a := 0) (b := c.men) rfl rfl (by omega) (by omega))).mp z4
          refine v_aload_n O dX10_judge_42 0 rfl ?_
          refine gf_X10_166 (v := .ref (ma 51)) O rfl dX10_judge_43 8 rfl rfl ?_
          refine v_iload_n O dX10_judge_46 1 rfl ?_
          refine v_ialdk O dX10_judge_47 5 rfl t rfl (by omega) (by decide) ?_
          refine v_if_lt O 69 dX10_judge_48 (by decide) (fun z5 => ?_) (fun z5 => ?_)
          · skip
            refine v_bipush (v := 100) O dX10_judge_69 (by decide) ?_
            refine v_iload_n O dX10_judge_71 3 rfl ?_
            refine v_iadd O dX10_judge_72 ?_
            refine v_top (y := nI 100) rfl ?_
            refine v_sub (ws' := [(mo, .inr (10, M1R ma (mZ c c2 tk vc ln rn zs_10 zs_11 zs_20 zs_21 zs_22 zs_25 zs_26 zs_27 zs_29))), ((ma 4), eI D 6 (nF c.kk)), ((ma 5), eI D 6 (nF c.vv)), ((ma 6), eI D 6 c.hd), ((ma 30), eI D 8 (nF c.crf)), ((ma 35), eI D 12 (nF c.bo)), ((ma 51), eI D 6 ts), ((ma 52), eI D 6 (nF tl)), ((ma 53), eJ D 360 (itm ti))]) [8, 0, 1, 2, 3, 4, 5, 6, 7] (by decide) rfl ?_
            exact v_ireturn O T rfl rfl (by decide) (by decide) dX10_judge_73 (⟨zs_10, zs_11, zs_20, zs_21, zs_22, zs_25, zs_26, zs_27, zs_29, rfl, rfl⟩)
          · skip
            refine v_iload_n O dX10_judge_51 2 rfl ?_
            refine v_if_lt O 69 dX10_judge_52 (by decide) (fun z6 => ?_) (fun z6 => ?_)
            · skip
              refine v_bipush (v := 100) O dX10_judge_69 (by decide) ?_
              refine v_iload_n O dX10_judge_71 3 rfl ?_
              refine v_iadd O dX10_judge_72 ?_
              refine v_top (y := nI 100) rfl ?_
              refine v_sub (ws' := [(mo, .inr (10, M1R ma (mZ c c2 tk vc ln rn zs_10 zs_11 zs_20 zs_21 zs_22 zs_25 zs_26 zs_27 zs_29))), ((ma 4), eI D 6 (nF c.kk)), ((ma 5), eI D 6 (nF c.vv)), ((ma 6), eI D 6 c.hd), ((ma 30), eI D 8 (nF c.crf)), ((ma 35), eI D 12 (nF c.bo)), ((ma 51), eI D 6 ts), ((ma 52), eI D 6 (nF tl)), ((ma 53), eJ D 360 (itm ti))]) [8, 0, 1, 2, 3, 4, 5, 6, 7] (by decide) rfl ?_
              exact v_ireturn O T rfl rfl (by decide) (by decide) dX10_judge_73 (⟨zs_10, zs_11, zs_20, zs_21, zs_22, zs_25, zs_26, zs_27, zs_29, rfl, rfl⟩)
            · skip
              exact absurd hi z6
      · skip
        exact absurd (hs.resolve_left (fun e9 => by rw [e9] at z2; exact z2 (by decide))) z3
  · skip
    have z1 := b2i_0.mp z1
    exact absurd ((isIx_nI (by omega) (by omega)).mpr hk) z1
set_option maxRecDepth 100000 in
set_option maxHeartbeats 4000000 in
theorem l_X10_judge {D : G} {X : CX} {mo : Nat} {ma : Nat → Nat} {c : CS} {c2 : CS} {tk : Int32} {vc : Nat} {ln : Nat} {rn : Nat} {zs_10 : Int32} {zs_11 : Int32} {zs_20 : Int32} {zs_21 : Int32} {zs_22 : Int32} {zs_25 : Int32} {zs_26 : Int32} {zs_27 : Int32} {zs_29 : Int32} {ts : Nat → Int32} {tl : Nat → Nat} {ti : Nat → Nat → Int64} {t : Nat} {i : Nat} (O : Ok D X mX10_judge 30 0 0) (hC : cOk c) (hk : t < 6) (htl : (tl t) ≤ 60) (hts : (ts t) = -1 → (tl t) = 0) (hso : (ts t) = -1 ∨ isIx (ts t) 5) (hs : (ts t) = -1 ∨ (ts t) = 3) (hi : i < 2147483648) (T : Rt D X (fun r w => ∃ zs2_10 : Int32, ∃ zs2_11 : Int32, ∃ zs2_20 : Int32, ∃ zs2_21 : Int32, ∃ zs2_22 : Int32, ∃ zs2_25 : Int32, ∃ zs2_26 : Int32, ∃ zs2_27 : Int32, ∃ zs2_29 : Int32, r = some (.int (judN c.hd (ti t) (tl t) i c.men 0)) ∧ w = [(mo, .inr (10, M1R ma (mZ c c2 tk vc ln rn zs2_10 zs2_11 zs2_20 zs2_21 zs2_22 zs2_25 zs2_26 zs2_27 zs2_29))), ((ma 4), eI D 6 (nF c.kk)), ((ma 5), eI D 6 (nF c.vv)), ((ma 6), eI D 6 c.hd), ((ma 30), eI D 8 (nF c.crf)), ((ma 35), eI D 12 (nF c.bo)), ((ma 51), eI D 6 ts), ((ma 52), eI D 6 (nF tl)), ((ma 53), eJ D 360 (itm ti))]) 0 0) : ∀ (t9 m : Nat), m + t9 = c.men → judN c.hd (ti t) (tl t) i c.men 0 = judN c.hd (ti t) (tl t) i t9 m → V D X 0 0 34 [(0, .ref mo), (1, .int (nI t)), (2, .int (nI i)), (3, .int (nI m))] [] [(mo, .inr (10, M1R ma (mZ c c2 tk vc ln rn zs_10 zs_11 zs_20 zs_21 zs_22 zs_25 zs_26 zs_27 zs_29))), ((ma 4), eI D 6 (nF c.kk)), ((ma 5), eI D 6 (nF c.vv)), ((ma 6), eI D 6 c.hd), ((ma 30), eI D 8 (nF c.crf)), ((ma 35), eI D 12 (nF c.bo)), ((ma 51), eI D 6 ts), ((ma 52), eI D 6 (nF tl)), ((ma 53), eJ D 360 (itm ti))] := by
  intro t9
  induction t9 with
  | zero =>
    intro m hm hF
    have z_m := hC.1
    refine v_iload_n O dX10_judge_34 3 rfl ?_
    refine v_aload_n O dX10_judge_35 0 rfl ?_
    refine gf_X10_7 (v := .int (nI c.men)) O rfl dX10_judge_36 0 rfl rfl ?_
    refine v_icmp_ge O 106 dX10_judge_39 (by decide) (fun z4 => ?_) (fun z4 => ?_)
    · skip
      have z4 := (c_le' (x := nI m) (y := nI c.men) (a := m) (b := c.men) rfl rfl (by omega) (by omega)).mp z4
      refine v_bipush (v := -5) O dX10_judge_106 (by decide) ?_
      exact v_ireturn O T rfl rfl (by decide) (by decide) dX10_judge_108 (⟨zs_10, zs_11, zs_20, zs_21, zs_22, zs_25, zs_26, zs_27, zs_29, by rw [hF]; rfl, rfl⟩)
    · skip
      have z4 := (not_congr (c_le' (x := nI m) (y := nI c.men) (a := m) (b := c.men) rfl rfl (by omega) (by omega))).mp z4
      exact absurd z4 (by omega)
  | succ t9 ih =>
    intro m hm hF
    have z_m := hC.1
    refine v_iload_n O dX10_judge_34 3 rfl ?_
    refine v_aload_n O dX10_judge_35 0 rfl ?_
    refine gf_X10_7 (v := .int (nI c.men)) O rfl dX10_judge_36 0 rfl rfl ?_
    refine v_icmp_ge O 106 dX10_judge_39 (by decide) (fun z4 => ?_) (fun z4 => ?_)
    · skip
      have z4 := (c_le' (x := nI m) (y := nI c.men) (a := m) (b := c.men) rfl rfl (by omega) (by omega)).mp z4
      exact absurd z4 (by omega)
    · skip
      have z4 := (not_congr (c_le' (x := nI m) (y := nI c.men) (a := m) (b := c.men) rfl rfl (by omega) (by omega))).mp z4
      refine v_aload_n O dX10_judge_42 0 rfl ?_
      refine gf_X10_166 (v := .ref (ma 51)) O rfl dX10_judge_43 0 rfl rfl ?_
      refine v_iload_n O dX10_judge_46 1 rfl ?_
      refine v_ialdk O dX10_judge_47 6 rfl t rfl (by omega) (by decide) ?_
      refine v_if_lt O 69 dX10_judge_48 (by decide) (fun z5 => ?_) (fun z5 => ?_)
      · skip
        have z9 : ¬ i + m < tl t := by rw [hts (so_lt hso z5)]; omega
        refine v_bipush (v := 100) O dX10_judge_69 (by decide) ?_
        refine v_iload_n O dX10_judge_71 3 rfl ?_
        refine v_iadd O dX10_judge_72 ?_
        refine v_top (y := nI (100 + m)) (nI_add 100 m) ?_
        exact v_ireturn O T rfl rfl (by decide) (by decide) dX10_judge_73 (⟨zs_10, zs_11, zs_20, zs_21, zs_22, zs_25, zs_26, zs_27, zs_29, by rw [hF, judN, iteP_f z9], rfl⟩)
      · skip
        refine v_iload_n O dX10_judge_51 2 rfl ?_
        refine v_if_lt O 69 dX10_judge_52 (by decide) (fun z7 => ?_) (fun z7 => ?_)
        · skip
          exact absurd z7 (nI_pos (by omega))
        · skip
          refine v_iload_n O dX10_judge_55 2 rfl ?_
          refine v_aload_n O dX10_judge_56 0 rfl ?_
          refine gf_X10_169 (v := .ref (ma 52)) O rfl dX10_judge_57 0 rfl rfl ?_
          refine v_iload_n O dX10_judge_60 1 rfl ?_
          refine v_ialdk O dX10_judge_61 7 rfl t rfl (by omega) (by decide) ?_
          refine v_top (y := nI (tl t)) rfl ?_
          refine v_iload_n O dX10_judge_62 3 rfl ?_
          refine v_isub O dX10_judge_63 ?_
          refine v_iconst (v := 1) O dX10_judge_64 (by decide) ?_
          refine v_isub O dX10_judge_65 ?_
          refine v_icmp_le O 74 dX10_judge_66 (by decide) (fun z8 => ?_) (fun z8 => ?_)
          · skip
            have z9 : i + m < tl t := by
              rcases Nat.lt_or_ge (i + m) (tl t) with q | q
              · exact q
              · exact absurd ((le_jd (by omega) (by omega) (by omega)).mpr q) (Int32.not_lt.mpr z8)
            refine v_aload_n O dX10_judge_74 0 rfl ?_
            refine gf_X10_172 (v := .ref (ma 53)) O rfl dX10_judge_75 0 rfl rfl ?_
            refine v_bipush (v := 60) O dX10_judge_78 (by decide) ?_
            refine v_iload_n O dX10_judge_80 1 rfl ?_
            refine v_imul O dX10_judge_81 ?_
            refine v_top (y := nI (60 * t)) (pk_mul 60 t) ?_
            refine v_iload_n O dX10_judge_82 2 rfl ?_
            refine v_iadd O dX10_judge_83 ?_
            refine v_top (y := nI ((60 * t) + i)) (nI_add (60 * t) i) ?_
            refine v_iload_n O dX10_judge_84 3 rfl ?_
            refine v_iadd O dX10_judge_85 ?_
            refine v_top (y := nI (((60 * t) + i) + m)) (nI_add ((60 * t) + i) m) ?_
            refine v_laldk O dX10_judge_86 8 rfl (((60 * t) + i) + m) rfl (by omega) (by decide) ?_
            refine v_topx (y := ti t (i + m)) (by rw [show 60 * t + i + m = 60 * t + (i + m) by omega]; exact itm_at (by omega)) ?_
            refine v_aload_n O dX10_judge_87 0 rfl ?_
            refine gf_X10_29 (v := .ref (ma 6)) O rfl dX10_judge_88 0 rfl rfl ?_
            refine v_iload_n O dX10_judge_91 3 rfl ?_
            refine v_ialdk O dX10_judge_92 3 rfl m rfl (by omega) (by decide) ?_
            refine v_i2l O dX10_judge_93 ?_
            refine v_lcmp O dX10_judge_94 ?_
            refine v_if_eq O 100 dX10_judge_95 (by decide) (fun z6 => ?_) (fun z6 => ?_)
            · skip
              have z6 := (lg_cmp_eq _ _).mp z6
              refine v_iinc (v := nI (m + 1)) (lv' := [(0, .ref mo), (1, .int (nI t)), (2, .int (nI i)), (3, .int (nI (m + 1)))]) O dX10_judge_100 3 rfl (nI_1 m) (by decide) rfl ?_
              refine v_goto O 34 dX10_judge_103 (by decide) ?_
              exact ih (m + 1) (by omega) (by rw [hF, judN, iteP_t z9, iteP_t z6])
            · skip
              have z6 := (not_congr (lg_cmp_eq _ _)).mp z6
              refine v_iload_n O dX10_judge_98 3 rfl ?_
              exact v_ireturn O T rfl rfl (by decide) (by decide) dX10_judge_99 (⟨zs_10, zs_11, zs_20, zs_21, zs_22, zs_25, zs_26, zs_27, zs_29, by rw [hF, judN, iteP_t z9, iteP_f z6], rfl⟩)
          · skip
            have z9 : ¬ i + m < tl t := by
              have q := (le_jd (by omega) (by omega) (by omega)).mp (Int32.not_le.mp z8)
              omega
            refine v_bipush (v := 100) O dX10_judge_69 (by decide) ?_
            refine v_iload_n O dX10_judge_71 3 rfl ?_
            refine v_iadd O dX10_judge_72 ?_
            refine v_top (y := nI (100 + m)) (nI_add 100 m) ?_
            exact v_ireturn O T rfl rfl (by decide) (by decide) dX10_judge_73 (⟨zs_10, zs_11, zs_20, zs_21, zs_22, zs_25, zs_26, zs_27, zs_29, by rw [hF, judN, iteP_f z9], rfl⟩)
set_option maxRecDepth 100000 in
set_option maxHeartbeats 4000000 in
theorem sp_X10_judge_5 {D : G} {mo : Nat} {ma : Nat → Nat} {c : CS} {c2 : CS} {tk : Int32} {vc : Nat} {ln : Nat} {rn : Nat} {zs_10 : Int32} {zs_11 : Int32} {zs_20 : Int32} {zs_21 : Int32} {zs_22 : Int32} {zs_25 : Int32} {zs_26 : Int32} {zs_27 : Int32} {zs_29 : Int32} {ts : Nat → Int32} {tl : Nat → Nat} {ti : Nat → Nat → Int64} {t : Nat} {i : Nat} (hC : cOk c) (hk : t < 6) (htl : (tl t) ≤ 60) (hts : (ts t) = -1 → (tl t) = 0) (hso : (ts t) = -1 ∨ isIx (ts t) 5) (hs : (ts t) = -1 ∨ (ts t) = 3) (hi : i < 2147483648) : Sp D mX10_judge 30 0 0 [.ref mo, .int (nI t), .int (nI i)] [(mo, .inr (10, M1R ma (mZ c c2 tk vc ln rn zs_10 zs_11 zs_20 zs_21 zs_22 zs_25 zs_26 zs_27 zs_29))), ((ma 4), eI D 6 (nF c.kk)), ((ma 5), eI D 6 (nF c.vv)), ((ma 6), eI D 6 c.hd), ((ma 30), eI D 8 (nF c.crf)), ((ma 35), eI D 12 (nF c.bo)), ((ma 51), eI D 6 ts), ((ma 52), eI D 6 (nF tl)), ((ma 53), eJ D 360 (itm ti))] (fun r w => ∃ zs2_10 : Int32, ∃ zs2_11 : Int32, ∃ zs2_20 : Int32, ∃ zs2_21 : Int32, ∃ zs2_22 : Int32, ∃ zs2_25 : Int32, ∃ zs2_26 : Int32, ∃ zs2_27 : Int32, ∃ zs2_29 : Int32, r = some (.int (judN c.hd (ti t) (tl t) i c.men 0)) ∧ w = [(mo, .inr (10, M1R ma (mZ c c2 tk vc ln rn zs2_10 zs2_11 zs2_20 zs2_21 zs2_22 zs2_25 zs2_26 zs2_27 zs2_29))), ((ma 4), eI D 6 (nF c.kk)), ((ma 5), eI D 6 (nF c.vv)), ((ma 6), eI D 6 c.hd), ((ma 30), eI D 8 (nF c.crf)), ((ma 35), eI D 12 (nF c.bo)), ((ma 51), eI D 6 ts), ((ma 52), eI D 6 (nF tl)), ((ma 53), eJ D 360 (itm ti))]) := by
  refine Sp.of (by decide) (Nat.le_of_ble_eq_true rfl) (fun X O T => ?_)
  refine v_eq (lv' := [(0, .ref mo), (1, .int (nI t)), (2, .int (nI i))]) rfl rfl rfl rfl ?_
  have z_m := hC.1
  refine v_aload_n O dX10_judge_0 0 rfl ?_
  refine v_iload_n O dX10_judge_1 1 rfl ?_
  refine v_cV (T := TX10) (ci := 10) (As := [.int (nI t)]) (wr := [((ma 4), eI D 6 (nF c.kk)), ((ma 5), eI D 6 (nF c.vv)), ((ma 6), eI D 6 c.hd), ((ma 30), eI D 8 (nF c.crf)), ((ma 35), eI D 12 (nF c.bo)), ((ma 51), eI D 6 ts), ((ma 52), eI D 6 (nF tl)), ((ma 53), eJ D 360 (itm ti))]) (st := []) O cf_X10_315 rfl (sp_X10_isTape (mo := mo) (ma := ma) (c := c) (c2 := c2) (tk := tk) (vc := vc) (ln := ln) (rn := rn) (zs_10 := zs_10) (zs_11 := zs_11) (zs_20 := zs_20) (zs_21 := zs_21) (zs_22 := zs_22) (zs_25 := zs_25) (zs_26 := zs_26) (zs_27 := zs_27) (zs_29 := zs_29) (t := (nI t)) ) dX10_judge_2 rfl rfl 0 rfl [0] [1, 2, 3, 4, 5, 6, 7, 8] (by decide) rfl rfl (by decide) (by decide) (by decide) (Nat.le_of_ble_eq_true rfl) (by decide) (by decide) (fun r_2 w_3 h_1 => ?_)
  obtain ⟨rfl, rfl⟩ := h_1
  refine v_eq (st' := [.int (b2i (isIx (nI t) 6))]) (ws' := [((ma 4), eI D 6 (nF c.kk)), ((ma 5), eI D 6 (nF c.vv)), ((ma 6), eI D 6 c.hd), ((ma 30), eI D 8 (nF c.crf)), ((ma 35), eI D 12 (nF c.bo)), ((ma 51), eI D 6 ts), ((ma 52), eI D 6 (nF tl)), ((ma 53), eJ D 360 (itm ti)), (mo, .inr (10, M1R ma (mZ c c2 tk vc ln rn zs_10 zs_11 zs_20 zs_21 zs_22 zs_25 zs_26 zs_27 zs_29)))]) rfl rfl rfl rfl ?_
  refine v_if_ne O 10 dX10_judge_5 (by decide) (fun z1 => ?_) (fun z1 => ?_)
  · skip
    have z1 := b2i_1.mp z1
    refine v_aload_n O dX10_judge_10 0 rfl ?_
    refine gf_X10_166 (v := .ref (ma 51)) O rfl dX10_judge_11 8 rfl rfl ?_
    refine v_iload_n O dX10_judge_14 1 rfl ?_
    refine v_ialdk O dX10_judge_15 5 rfl t rfl (by omega) (by decide) ?_
    refine v_if_lt O 32 dX10_judge_16 (by decide) (fun z2 => ?_) (fun z2 => ?_)
    · skip
      refine v_iconst (v := 0) O dX10_judge_32 (by decide) ?_
      refine v_istore_n (lv' := [(0, .ref mo), (1, .int (nI t)), (2, .int (nI i)), (3, .int 0)]) O dX10_judge_33 (by decide) rfl ?_
      refine v_sub (ws' := [(mo, .inr (10, M1R ma (mZ c c2 tk vc ln rn zs_10 zs_11 zs_20 zs_21 zs_22 zs_25 zs_26 zs_27 zs_29))), ((ma 4), eI D 6 (nF c.kk)), ((ma 5), eI D 6 (nF c.vv)), ((ma 6), eI D 6 c.hd), ((ma 30), eI D 8 (nF c.crf)), ((ma 35), eI D 12 (nF c.bo)), ((ma 51), eI D 6 ts), ((ma 52), eI D 6 (nF tl)), ((ma 53), eJ D 360 (itm ti))]) [8, 0, 1, 2, 3, 4, 5, 6, 7] (by decide) rfl ?_
      refine v_eq (lv' := [(0, .ref mo), (1, .int (nI t)), (2, .int (nI i)), (3, .int (nI 0))]) rfl rfl rfl rfl ?_
      exact l_X10_judge O hC hk htl hts hso hs hi T c.men 0 (by omega) rfl
    · skip
      refine v_aload_n O dX10_judge_19 0 rfl ?_
      refine gf_X10_166 (v := .ref (ma 51)) O rfl dX10_judge_20 8 rfl rfl ?_
      refine v_iload_n O dX10_judge_23 1 rfl ?_
      refine v_ialdk O dX10_judge_24 5 rfl t rfl (by omega) (by decide) ?_
      refine v_iconst (v := 3) O dX10_judge_25 (by decide) ?_
      refine v_icmp_eq O 32 dX10_judge_26 (by decide) (fun z3 => ?_) (fun z3 => ?_)
      · skip
        refine v_iconst (v := 0) O dX10_judge_32 (by decide) ?_
        refine v_istore_n (lv' := [(0, .ref mo), (1, .int (nI t)), (2, .int (nI i)), (3, .int 0)]) O dX10_judge_33 (by decide) rfl ?_
        refine v_sub (ws' := [(mo, .inr (10, M1R ma (mZ c c2 tk vc ln rn zs_10 zs_11 zs_20 zs_21 zs_22 zs_25 zs_26 zs_27 zs_29))), ((ma 4), eI D 6 (nF c.kk)), ((ma 5), eI D 6 (nF c.vv)), ((ma 6), eI D 6 c.hd), ((ma 30), eI D 8 (nF c.crf)), ((ma 35), eI D 12 (nF c.bo)), ((ma 51), eI D 6 ts), ((ma 52), eI D 6 (nF tl)), ((ma 53), eJ D 360 (itm ti))]) [8, 0, 1, 2, 3, 4, 5, 6, 7] (by decide) rfl ?_
        refine v_eq (lv' := [(0, .ref mo), (1, .int (nI t)), (2, .int (nI i)), (3, .int (nI 0))]) rfl rfl rfl rfl ?_
        exact l_X10_judge O hC hk htl hts hso hs hi T c.men 0 (by omega) rfl
      · skip
        exact absurd (hs.resolve_left (fun e9 => by rw [e9] at z2; exact z2 (by decide))) z3
  · skip
    have z1 := b2i_0.mp z1
    exact absurd ((isIx_nI (by omega) (by omega)).mpr hk) z1
set_option maxRecDepth 100000 in
set_option maxHeartbeats 4000000 in
theorem l_X10_tape {D : G} {X : CX} {mo : Nat} {ma : Nat → Nat} {c : CS} {c2 : CS} {tk : Int32} {vc : Nat} {ln : Nat} {rn : Nat} {zs_10 : Int32} {zs_11 : Int32} {zs_20 : Int32} {zs_21 : Int32} {zs_22 : Int32} {zs_25 : Int32} {zs_26 : Int32} {zs_27 : Int32} {zs_29 : Int32} {g1 : Nat → Int32} {g2 : Nat → Int32} {ti : Nat → Nat → Int64} {t : Nat} {s : Int32} {n : Int32} (O : Ok D X mX10_tape 30 0 0) (ht : t < 6) (K : ∀ h : Nat → Int64, (∀ j, 60 * t ≤ j → j < 60 * t + 60 → h j = 0) → (∀ j, ¬ (60 * t ≤ j ∧ j < 60 * t + 60) → h j = itm ti j) → V D X 0 0 95 [(0, .ref mo), (1, .int (nI t)), (2, .int s), (3, .int n), (4, .int (nI 60))] [] [(mo, .inr (10, M1R ma (mZ c c2 tk vc ln rn zs_10 zs_11 zs_20 zs_21 zs_22 zs_25 zs_26 zs_27 zs_29))), ((ma 51), eI D 6 g1), ((ma 52), eI D 6 g2), ((ma 53), eJ D 360 h)]) : ∀ (t9 k : Nat), k + t9 = 60 → ∀ h : Nat → Int64, (∀ j, 60 * t ≤ j → j < 60 * t + k → h j = 0) → (∀ j, ¬ (60 * t ≤ j ∧ j < 60 * t + k) → h j = itm ti j) → V D X 0 0 69 [(0, .ref mo), (1, .int (nI t)), (2, .int s), (3, .int n), (4, .int (nI k))] [] [(mo, .inr (10, M1R ma (mZ c c2 tk vc ln rn zs_10 zs_11 zs_20 zs_21 zs_22 zs_25 zs_26 zs_27 zs_29))), ((ma 51), eI D 6 g1), ((ma 52), eI D 6 g2), ((ma 53), eJ D 360 h)] := by
  intro t9
  induction t9 with
  | zero =>
    intro k hk h h1 h2
    refine v_iload O dX10_tape_69 4 rfl ?_
    refine v_bipush (v := 60) O dX10_tape_71 (by decide) ?_
    refine v_icmp_ge O 95 dX10_tape_73 (by decide) (fun z1 => ?_) (fun z1 => ?_)
    · skip
      have z1 := (c_le' (x := nI k) (y := 60) (a := k) (b := 60) rfl rfl (by omega) (by omega)).mp z1
      refine v_eq (lv' := [(0, .ref mo), (1, .int (nI t)), (2, .int s), (3, .int n), (4, .int (nI 60))]) rfl (by rw [show k = 60 by omega]) rfl rfl ?_
      exact K h (fun j a b => h1 j a (by omega)) (fun j a => h2 j (fun b => a ⟨b.1, by omega⟩))
    · skip
      have z1 := (not_congr (c_le' (x := nI k) (y := 60) (a := k) (b := 60) rfl rfl (by omega) (by omega))).mp z1
      exact absurd z1 (by omega)
  | succ t9 ih =>
    intro k hk h h1 h2
    refine v_iload O dX10_tape_69 4 rfl ?_
    refine v_bipush (v := 60) O dX10_tape_71 (by decide) ?_
    refine v_icmp_ge O 95 dX10_tape_73 (by decide) (fun z1 => ?_) (fun z1 => ?_)
    · skip
      have z1 := (c_le' (x := nI k) (y := 60) (a := k) (b := 60) rfl rfl (by omega) (by omega)).mp z1
      exact absurd z1 (by omega)
    · skip
      have z1 := (not_congr (c_le' (x := nI k) (y := 60) (a := k) (b := 60) rfl rfl (by omega) (by omega))).mp z1
      refine v_aload_n O dX10_tape_76 0 rfl ?_
      refine gf_X10_172 (v := .ref (ma 53)) O rfl dX10_tape_77 0 rfl rfl ?_
      refine v_bipush (v := 60) O dX10_tape_80 (by decide) ?_
      refine v_iload_n O dX10_tape_82 1 rfl ?_
      refine v_imul O dX10_tape_83 ?_
      refine v_top (y := nI (60 * t)) (pk_mul 60 t) ?_
      refine v_iload O dX10_tape_84 4 rfl ?_
      refine v_iadd O dX10_tape_86 ?_
      refine v_top (y := nI ((60 * t) + k)) (nI_add (60 * t) k) ?_
      refine v_lconst (v := 0) O dX10_tape_87 rfl ?_
      refine v_lastk (ws' := [(mo, .inr (10, M1R ma (mZ c c2 tk vc ln rn zs_10 zs_11 zs_20 zs_21 zs_22 zs_25 zs_26 zs_27 zs_29))), ((ma 51), eI D 6 g1), ((ma 52), eI D 6 g2), ((ma 53), eJ D 360 (vp_updL h ((60 * t) + k) 0))]) O dX10_tape_88 3 rfl ((60 * t) + k) (rfl) (by omega) (by decide) (rfl) ?_
      refine v_iinc (v := nI (k + 1)) (lv' := [(0, .ref mo), (1, .int (nI t)), (2, .int s), (3, .int n), (4, .int (nI (k + 1)))]) O dX10_tape_89 4 rfl (nI_1 k) (by decide) rfl ?_
      refine v_goto O 69 dX10_tape_92 (by decide) ?_
      exact ih (k + 1) (by omega) _ (fun j a b => by
        by_cases e : j = 60 * t + k
        · rw [e, vp_updL, if_pos rfl]
        · rw [vp_updL, if_neg e]; exact h1 j a (by omega)) (fun j a => by
        rw [vp_updL, if_neg (fun e => a (by omega))]
        exact h2 j (fun b => a ⟨b.1, by omega⟩))
set_option maxRecDepth 100000 in
set_option maxHeartbeats 4000000 in
theorem sp_X10_tape_2 {D : G} {mo : Nat} {ma : Nat → Nat} {c : CS} {c2 : CS} {tk : Int32} {vc : Nat} {ln : Nat} {rn : Nat} {zs_10 : Int32} {zs_11 : Int32} {zs_20 : Int32} {zs_21 : Int32} {zs_22 : Int32} {zs_25 : Int32} {zs_26 : Int32} {zs_27 : Int32} {zs_29 : Int32} {ts : Nat → Int32} {tl : Nat → Nat} {ti : Nat → Nat → Int64} {t : Nat} {n : Int32} (hk : t < 6) (htl : (tl t) ≤ 60) (hts : (ts t) = -1 → (tl t) = 0) (hso : (ts t) = -1 ∨ isIx (ts t) 5) : Sp D mX10_tape 30 0 0 [.ref mo, .int (nI t), .int (-1), .int n] [(mo, .inr (10, M1R ma (mZ c c2 tk vc ln rn zs_10 zs_11 zs_20 zs_21 zs_22 zs_25 zs_26 zs_27 zs_29))), ((ma 51), eI D 6 ts), ((ma 52), eI D 6 (nF tl)), ((ma 53), eJ D 360 (itm ti))] (fun r w => ∃ zs2_10 : Int32, ∃ zs2_11 : Int32, ∃ zs2_20 : Int32, ∃ zs2_21 : Int32, ∃ zs2_22 : Int32, ∃ zs2_25 : Int32, ∃ zs2_26 : Int32, ∃ zs2_27 : Int32, ∃ zs2_29 : Int32, r = some (.int 1) ∧ w = [(mo, .inr (10, M1R ma (mZ c c2 tk vc ln rn zs2_10 zs2_11 zs2_20 zs2_21 zs2_22 zs2_25 zs2_26 zs2_27 zs2_29))), ((ma 51), eI D 6 (upd ts t (-1))), ((ma 52), eI D 6 (nF (uN tl t 0))), ((ma 53), eJ D 360 (itm (updT ti t (fun _ => 0))))]) := by
  refine Sp.of (by decide) (Nat.le_of_ble_eq_true rfl) (fun X O T => ?_)
  refine v_eq (lv' := [(0, .ref mo), (1, .int (nI t)), (2, .int (-1)), (3, .int n)]) rfl rfl rfl rfl ?_
  refine v_aload_n O dX10_tape_0 0 rfl ?_
  refine v_iload_n O dX10_tape_1 1 rfl ?_
  refine v_cV (T := TX10) (ci := 10) (As := [.int (nI t)]) (wr := [((ma 51), eI D 6 ts), ((ma 52), eI D 6 (nF tl)), ((ma 53), eJ D 360 (itm ti))]) (st := []) O cf_X10_315 rfl (sp_X10_isTape (mo := mo) (ma := ma) (c := c) (c2 := c2) (tk := tk) (vc := vc) (ln := ln) (rn := rn) (zs_10 := zs_10) (zs_11 := zs_11) (zs_20 := zs_20) (zs_21 := zs_21) (zs_22 := zs_22) (zs_25 := zs_25) (zs_26 := zs_26) (zs_27 := zs_27) (zs_29 := zs_29) (t := (nI t)) ) dX10_tape_2 rfl rfl 0 rfl [0] [1, 2, 3] (by decide) rfl rfl (by decide) (by decide) (by decide) (Nat.le_of_ble_eq_true rfl) (by decide) (by decide) (fun r_2 w_3 h_1 => ?_)
  obtain ⟨rfl, rfl⟩ := h_1
  refine v_eq (st' := [.int (b2i (isIx (nI t) 6))]) (ws' := [((ma 51), eI D 6 ts), ((ma 52), eI D 6 (nF tl)), ((ma 53), eJ D 360 (itm ti)), (mo, .inr (10, M1R ma (mZ c c2 tk vc ln rn zs_10 zs_11 zs_20 zs_21 zs_22 zs_25 zs_26 zs_27 zs_29)))]) rfl rfl rfl rfl ?_
  refine v_if_ne O 10 dX10_tape_5 (by decide) (fun z1 => ?_) (fun z1 => ?_)
  · skip
    have z1 := b2i_1.mp z1
    refine v_aload_n O dX10_tape_10 0 rfl ?_
    refine v_iload_n O dX10_tape_11 2 rfl ?_
    refine v_iconst (v := -1) O dX10_tape_12 (by decide) ?_
    refine v_iconst (v := 4) O dX10_tape_13 (by decide) ?_
    refine v_cV (T := TX10) (ci := 10) (As := [.int (-1), .int (-1), .int 4]) (wr := [((ma 51), eI D 6 ts), ((ma 52), eI D 6 (nF tl)), ((ma 53), eJ D 360 (itm ti)), (mo, .inr (10, M1R ma (mZ c c2 tk vc ln rn zs_10 zs_11 zs_20 zs_21 zs_22 zs_25 zs_26 zs_27 zs_29)))]) (st := []) O cf_X10_179 rfl (sp_X10_in_m1_4 (mo := mo) (x := (-1)) ) dX10_tape_14 rfl rfl 3 rfl [] [0, 1, 2, 3] (by decide) rfl rfl (by decide) (by decide) (by decide) (Nat.le_of_ble_eq_true rfl) (by decide) (by decide) (fun r_5 w_6 h_4 => ?_)
    obtain ⟨rfl, rfl⟩ := h_4
    refine v_eq (st' := [.int (b2i (-1 ≤ (-1) ∧ (-1) ≤ 4))]) (ws' := [((ma 51), eI D 6 ts), ((ma 52), eI D 6 (nF tl)), ((ma 53), eJ D 360 (itm ti)), (mo, .inr (10, M1R ma (mZ c c2 tk vc ln rn zs_10 zs_11 zs_20 zs_21 zs_22 zs_25 zs_26 zs_27 zs_29)))]) rfl rfl rfl rfl ?_
    refine v_if_eq O 30 dX10_tape_17 (by decide) (fun z2 => ?_) (fun z2 => ?_)
    · skip
      have z2 := b2i_0.mp z2
      exact absurd (by decide) z2
    · skip
      have z2 := b2i_1.mp z2
      refine v_iload_n O dX10_tape_20 2 rfl ?_
      refine v_if_lt O 33 dX10_tape_21 (by decide) (fun z3 => ?_) (fun z3 => ?_)
      · skip
        refine v_iload_n O dX10_tape_33 2 rfl ?_
        refine v_if_lt O 44 dX10_tape_34 (by decide) (fun z4 => ?_) (fun z4 => ?_)
        · skip
          refine v_aload_n O dX10_tape_44 0 rfl ?_
          refine gf_X10_166 (v := .ref (ma 51)) O rfl dX10_tape_45 3 rfl rfl ?_
          refine v_iload_n O dX10_tape_48 1 rfl ?_
          refine v_iload_n O dX10_tape_49 2 rfl ?_
          refine v_iastk (ws' := [((ma 51), eI D 6 (upd ts t (-1))), ((ma 52), eI D 6 (nF tl)), ((ma 53), eJ D 360 (itm ti)), (mo, .inr (10, M1R ma (mZ c c2 tk vc ln rn zs_10 zs_11 zs_20 zs_21 zs_22 zs_25 zs_26 zs_27 zs_29)))]) O dX10_tape_50 0 rfl t (rfl) (by omega) (by decide) (rfl) ?_
          refine v_aload_n O dX10_tape_51 0 rfl ?_
          refine gf_X10_169 (v := .ref (ma 52)) O rfl dX10_tape_52 3 rfl rfl ?_
          refine v_iload_n O dX10_tape_55 1 rfl ?_
          refine v_iload_n O dX10_tape_56 2 rfl ?_
          refine v_if_ge O 64 dX10_tape_57 (by decide) (fun z5 => ?_) (fun z5 => ?_)
          · skip
            exact absurd z5 (by decide)
          · skip
            refine v_iconst (v := 0) O dX10_tape_60 (by decide) ?_
            refine v_goto O 65 dX10_tape_61 (by decide) ?_
            refine v_iastk (ws' := [((ma 51), eI D 6 (upd ts t (-1))), ((ma 52), eI D 6 (nF (uN tl t 0))), ((ma 53), eJ D 360 (itm ti)), (mo, .inr (10, M1R ma (mZ c c2 tk vc ln rn zs_10 zs_11 zs_20 zs_21 zs_22 zs_25 zs_26 zs_27 zs_29)))]) O dX10_tape_65 1 rfl t (rfl) (by omega) (by decide) (by rw [show (0 : Int32) = nI 0 from rfl, upd_nF]; rfl) ?_
            refine v_iconst (v := 0) O dX10_tape_66 (by decide) ?_
            refine v_istore (lv' := [(0, .ref mo), (1, .int (nI t)), (2, .int (-1)), (3, .int n), (4, .int 0)]) O dX10_tape_67 (by decide) rfl ?_
            refine v_sub (ws' := [(mo, .inr (10, M1R ma (mZ c c2 tk vc ln rn zs_10 zs_11 zs_20 zs_21 zs_22 zs_25 zs_26 zs_27 zs_29))), ((ma 51), eI D 6 (upd ts t (-1))), ((ma 52), eI D 6 (nF (uN tl t 0))), ((ma 53), eJ D 360 (itm ti))]) [3, 0, 1, 2] (by decide) rfl ?_
            refine v_eq (lv' := [(0, .ref mo), (1, .int (nI t)), (2, .int (-1)), (3, .int n), (4, .int (nI 0))]) rfl rfl rfl rfl ?_
            refine l_X10_tape O hk (fun h h1 h2 => ?_) 60 0 (by omega) _ (fun j a b => by omega) (fun j _ => rfl)
            refine v_congJ (g := itm (updT ti t (fun _ => 0))) (ws' := [(mo, .inr (10, M1R ma (mZ c c2 tk vc ln rn zs_10 zs_11 zs_20 zs_21 zs_22 zs_25 zs_26 zs_27 zs_29))), ((ma 51), eI D 6 (upd ts t (-1))), ((ma 52), eI D 6 (nF (uN tl t 0))), ((ma 53), eJ D 360 (itm (updT ti t (fun _ => 0))))]) 3 rfl (itm_zero h1 h2) rfl ?_
            refine v_iconst (v := 1) O dX10_tape_95 (by decide) ?_
            exact v_ireturn O T rfl rfl (by decide) (by decide) dX10_tape_96 (⟨zs_10, zs_11, zs_20, zs_21, zs_22, zs_25, zs_26, zs_27, zs_29, rfl, rfl⟩)
            
        · skip
          exact absurd (by decide) z4
      · skip
        exact absurd (by decide) z3
  · skip
    have z1 := b2i_0.mp z1
    exact absurd ((isIx_nI (by omega) (by omega)).mpr hk) z1
set_option maxRecDepth 100000 in
set_option maxHeartbeats 4000000 in
theorem sp_X10_tape_3 {D : G} {mo : Nat} {ma : Nat → Nat} {c : CS} {c2 : CS} {tk : Int32} {vc : Nat} {ln : Nat} {rn : Nat} {zs_10 : Int32} {zs_11 : Int32} {zs_20 : Int32} {zs_21 : Int32} {zs_22 : Int32} {zs_25 : Int32} {zs_26 : Int32} {zs_27 : Int32} {zs_29 : Int32} {ts : Nat → Int32} {tl : Nat → Nat} {ti : Nat → Nat → Int64} {t : Nat} {s : Int32} {n : Int32} (hk : t < 6) (htl : (tl t) ≤ 60) (hts : (ts t) = -1 → (tl t) = 0) (hso : (ts t) = -1 ∨ isIx (ts t) 5) (hs : ¬ s = -1) (hs5 : ¬ isIx s 5) : Sp D mX10_tape 30 0 0 [.ref mo, .int (nI t), .int s, .int n] [(mo, .inr (10, M1R ma (mZ c c2 tk vc ln rn zs_10 zs_11 zs_20 zs_21 zs_22 zs_25 zs_26 zs_27 zs_29))), ((ma 51), eI D 6 ts), ((ma 52), eI D 6 (nF tl)), ((ma 53), eJ D 360 (itm ti))] (fun r w => ∃ zs2_10 : Int32, ∃ zs2_11 : Int32, ∃ zs2_20 : Int32, ∃ zs2_21 : Int32, ∃ zs2_22 : Int32, ∃ zs2_25 : Int32, ∃ zs2_26 : Int32, ∃ zs2_27 : Int32, ∃ zs2_29 : Int32, r = some (.int (-2)) ∧ w = [(mo, .inr (10, M1R ma (mZ c c2 tk vc ln rn zs2_10 zs2_11 zs2_20 zs2_21 zs2_22 zs2_25 zs2_26 zs2_27 zs2_29))), ((ma 51), eI D 6 ts), ((ma 52), eI D 6 (nF tl)), ((ma 53), eJ D 360 (itm ti))]) := by
  refine Sp.of (by decide) (Nat.le_of_ble_eq_true rfl) (fun X O T => ?_)
  refine v_eq (lv' := [(0, .ref mo), (1, .int (nI t)), (2, .int s), (3, .int n)]) rfl rfl rfl rfl ?_
  refine v_aload_n O dX10_tape_0 0 rfl ?_
  refine v_iload_n O dX10_tape_1 1 rfl ?_
  refine v_cV (T := TX10) (ci := 10) (As := [.int (nI t)]) (wr := [((ma 51), eI D 6 ts), ((ma 52), eI D 6 (nF tl)), ((ma 53), eJ D 360 (itm ti))]) (st := []) O cf_X10_315 rfl (sp_X10_isTape (mo := mo) (ma := ma) (c := c) (c2 := c2) (tk := tk) (vc := vc) (ln := ln) (rn := rn) (zs_10 := zs_10) (zs_11 := zs_11) (zs_20 := zs_20) (zs_21 := zs_21) (zs_22 := zs_22) (zs_25 := zs_25) (zs_26 := zs_26) (zs_27 := zs_27) (zs_29 := zs_29) (t := (nI t)) ) dX10_tape_2 rfl rfl 0 rfl [0] [1, 2, 3] (by decide) rfl rfl (by decide) (by decide) (by decide) (Nat.le_of_ble_eq_true rfl) (by decide) (by decide) (fun r_2 w_3 h_1 => ?_)
  obtain ⟨rfl, rfl⟩ := h_1
  refine v_eq (st' := [.int (b2i (isIx (nI t) 6))]) (ws' := [((ma 51), eI D 6 ts), ((ma 52), eI D 6 (nF tl)), ((ma 53), eJ D 360 (itm ti)), (mo, .inr (10, M1R ma (mZ c c2 tk vc ln rn zs_10 zs_11 zs_20 zs_21 zs_22 zs_25 zs_26 zs_27 zs_29)))]) rfl rfl rfl rfl ?_
  refine v_if_ne O 10 dX10_tape_5 (by decide) (fun z1 => ?_) (fun z1 => ?_)
  · skip
    have z1 := b2i_1.mp z1
    refine v_aload_n O dX10_tape_10 0 rfl ?_
    refine v_iload_n O dX10_tape_11 2 rfl ?_
    refine v_iconst (v := -1) O dX10_tape_12 (by decide) ?_
    refine v_iconst (v := 4) O dX10_tape_13 (by decide) ?_
    refine v_cV (T := TX10) (ci := 10) (As := [.int s, .int (-1), .int 4]) (wr := [((ma 51), eI D 6 ts), ((ma 52), eI D 6 (nF tl)), ((ma 53), eJ D 360 (itm ti)), (mo, .inr (10, M1R ma (mZ c c2 tk vc ln rn zs_10 zs_11 zs_20 zs_21 zs_22 zs_25 zs_26 zs_27 zs_29)))]) (st := []) O cf_X10_179 rfl (sp_X10_in_m1_4 (mo := mo) (x := s) ) dX10_tape_14 rfl rfl 3 rfl [] [0, 1, 2, 3] (by decide) rfl rfl (by decide) (by decide) (by decide) (Nat.le_of_ble_eq_true rfl) (by decide) (by decide) (fun r_5 w_6 h_4 => ?_)
    obtain ⟨rfl, rfl⟩ := h_4
    refine v_eq (st' := [.int (b2i (-1 ≤ s ∧ s ≤ 4))]) (ws' := [((ma 51), eI D 6 ts), ((ma 52), eI D 6 (nF tl)), ((ma 53), eJ D 360 (itm ti)), (mo, .inr (10, M1R ma (mZ c c2 tk vc ln rn zs_10 zs_11 zs_20 zs_21 zs_22 zs_25 zs_26 zs_27 zs_29)))]) rfl rfl rfl rfl ?_
    refine v_if_eq O 30 dX10_tape_17 (by decide) (fun z2 => ?_) (fun z2 => ?_)
    · skip
      have z2 := b2i_0.mp z2
      refine v_bipush (v := -2) O dX10_tape_30 (by decide) ?_
      refine v_sub (ws' := [(mo, .inr (10, M1R ma (mZ c c2 tk vc ln rn zs_10 zs_11 zs_20 zs_21 zs_22 zs_25 zs_26 zs_27 zs_29))), ((ma 51), eI D 6 ts), ((ma 52), eI D 6 (nF tl)), ((ma 53), eJ D 360 (itm ti))]) [3, 0, 1, 2] (by decide) rfl ?_
      exact v_ireturn O T rfl rfl (by decide) (by decide) dX10_tape_32 (⟨zs_10, zs_11, zs_20, zs_21, zs_22, zs_25, zs_26, zs_27, zs_29, rfl, rfl⟩)
    · skip
      have z2 := b2i_1.mp z2
      exact absurd (isIx_t' (n := 5) (m := 4) (by decide) rfl (zm1_n (Int32.not_lt.mpr z2.1) hs) (Int32.not_lt.mpr z2.2)) hs5
  · skip
    have z1 := b2i_0.mp z1
    exact absurd ((isIx_nI (by omega) (by omega)).mpr hk) z1
set_option maxRecDepth 100000 in
set_option maxHeartbeats 4000000 in
theorem sp_X10_tape_4 {D : G} {mo : Nat} {ma : Nat → Nat} {c : CS} {c2 : CS} {tk : Int32} {vc : Nat} {ln : Nat} {rn : Nat} {zs_10 : Int32} {zs_11 : Int32} {zs_20 : Int32} {zs_21 : Int32} {zs_22 : Int32} {zs_25 : Int32} {zs_26 : Int32} {zs_27 : Int32} {zs_29 : Int32} {ts : Nat → Int32} {tl : Nat → Nat} {ti : Nat → Nat → Int64} {t : Nat} {s : Nat} {n : Int32} (hk : t < 6) (htl : (tl t) ≤ 60) (hts : (ts t) = -1 → (tl t) = 0) (hso : (ts t) = -1 ∨ isIx (ts t) 5) (hs : s < 5) (hn : 60 < n) : Sp D mX10_tape 30 0 0 [.ref mo, .int (nI t), .int (nI s), .int n] [(mo, .inr (10, M1R ma (mZ c c2 tk vc ln rn zs_10 zs_11 zs_20 zs_21 zs_22 zs_25 zs_26 zs_27 zs_29))), ((ma 51), eI D 6 ts), ((ma 52), eI D 6 (nF tl)), ((ma 53), eJ D 360 (itm ti))] (fun r w => ∃ zs2_10 : Int32, ∃ zs2_11 : Int32, ∃ zs2_20 : Int32, ∃ zs2_21 : Int32, ∃ zs2_22 : Int32, ∃ zs2_25 : Int32, ∃ zs2_26 : Int32, ∃ zs2_27 : Int32, ∃ zs2_29 : Int32, r = some (.int (-2)) ∧ w = [(mo, .inr (10, M1R ma (mZ c c2 tk vc ln rn zs2_10 zs2_11 zs2_20 zs2_21 zs2_22 zs2_25 zs2_26 zs2_27 zs2_29))), ((ma 51), eI D 6 ts), ((ma 52), eI D 6 (nF tl)), ((ma 53), eJ D 360 (itm ti))]) := by
  refine Sp.of (by decide) (Nat.le_of_ble_eq_true rfl) (fun X O T => ?_)
  refine v_eq (lv' := [(0, .ref mo), (1, .int (nI t)), (2, .int (nI s)), (3, .int n)]) rfl rfl rfl rfl ?_
  refine v_aload_n O dX10_tape_0 0 rfl ?_
  refine v_iload_n O dX10_tape_1 1 rfl ?_
  refine v_cV (T := TX10) (ci := 10) (As := [.int (nI t)]) (wr := [((ma 51), eI D 6 ts), ((ma 52), eI D 6 (nF tl)), ((ma 53), eJ D 360 (itm ti))]) (st := []) O cf_X10_315 rfl (sp_X10_isTape (mo := mo) (ma := ma) (c := c) (c2 := c2) (tk := tk) (vc := vc) (ln := ln) (rn := rn) (zs_10 := zs_10) (zs_11 := zs_11) (zs_20 := zs_20) (zs_21 := zs_21) (zs_22 := zs_22) (zs_25 := zs_25) (zs_26 := zs_26) (zs_27 := zs_27) (zs_29 := zs_29) (t := (nI t)) ) dX10_tape_2 rfl rfl 0 rfl [0] [1, 2, 3] (by decide) rfl rfl (by decide) (by decide) (by decide) (Nat.le_of_ble_eq_true rfl) (by decide) (by decide) (fun r_2 w_3 h_1 => ?_)
  obtain ⟨rfl, rfl⟩ := h_1
  refine v_eq (st' := [.int (b2i (isIx (nI t) 6))]) (ws' := [((ma 51), eI D 6 ts), ((ma 52), eI D 6 (nF tl)), ((ma 53), eJ D 360 (itm ti)), (mo, .inr (10, M1R ma (mZ c c2 tk vc ln rn zs_10 zs_11 zs_20 zs_21 zs_22 zs_25 zs_26 zs_27 zs_29)))]) rfl rfl rfl rfl ?_
  refine v_if_ne O 10 dX10_tape_5 (by decide) (fun z1 => ?_) (fun z1 => ?_)
  · skip
    have z1 := b2i_1.mp z1
    refine v_aload_n O dX10_tape_10 0 rfl ?_
    refine v_iload_n O dX10_tape_11 2 rfl ?_
    refine v_iconst (v := -1) O dX10_tape_12 (by decide) ?_
    refine v_iconst (v := 4) O dX10_tape_13 (by decide) ?_
    refine v_cV (T := TX10) (ci := 10) (As := [.int (nI s), .int (-1), .int 4]) (wr := [((ma 51), eI D 6 ts), ((ma 52), eI D 6 (nF tl)), ((ma 53), eJ D 360 (itm ti)), (mo, .inr (10, M1R ma (mZ c c2 tk vc ln rn zs_10 zs_11 zs_20 zs_21 zs_22 zs_25 zs_26 zs_27 zs_29)))]) (st := []) O cf_X10_179 rfl (sp_X10_in_m1_4 (mo := mo) (x := (nI s)) ) dX10_tape_14 rfl rfl 3 rfl [] [0, 1, 2, 3] (by decide) rfl rfl (by decide) (by decide) (by decide) (Nat.le_of_ble_eq_true rfl) (by decide) (by decide) (fun r_5 w_6 h_4 => ?_)
    obtain ⟨rfl, rfl⟩ := h_4
    refine v_eq (st' := [.int (b2i (-1 ≤ (nI s) ∧ (nI s) ≤ 4))]) (ws' := [((ma 51), eI D 6 ts), ((ma 52), eI D 6 (nF tl)), ((ma 53), eJ D 360 (itm ti)), (mo, .inr (10, M1R ma (mZ c c2 tk vc ln rn zs_10 zs_11 zs_20 zs_21 zs_22 zs_25 zs_26 zs_27 zs_29)))]) rfl rfl rfl rfl ?_
    refine v_if_eq O 30 dX10_tape_17 (by decide) (fun z2 => ?_) (fun z2 => ?_)
    · skip
      have z2 := b2i_0.mp z2
      exact absurd (in_m1 (m := 4) (by omega) (by decide)) z2
    · skip
      have z2 := b2i_1.mp z2
      refine v_iload_n O dX10_tape_20 2 rfl ?_
      refine v_if_lt O 33 dX10_tape_21 (by decide) (fun c_7 => ?_) (fun c_7 => ?_)
      · skip
        have c_7 := (c_lt (x := nI s) (y := 0) (a := s) (b := 0) rfl rfl (by omega) (by omega)).mp c_7
        exact absurd c_7 (by omega)
      · skip
        have c_7 := (not_congr (c_lt (x := nI s) (y := 0) (a := s) (b := 0) rfl rfl (by omega) (by omega))).mp c_7
        refine v_iload_n O dX10_tape_24 3 rfl ?_
        refine v_bipush (v := 60) O dX10_tape_25 (by decide) ?_
        refine v_icmp_le O 33 dX10_tape_27 (by decide) (fun z4 => ?_) (fun z4 => ?_)
        · skip
          exact absurd hn (Int32.not_lt.mpr z4)
        · skip
          refine v_bipush (v := -2) O dX10_tape_30 (by decide) ?_
          refine v_sub (ws' := [(mo, .inr (10, M1R ma (mZ c c2 tk vc ln rn zs_10 zs_11 zs_20 zs_21 zs_22 zs_25 zs_26 zs_27 zs_29))), ((ma 51), eI D 6 ts), ((ma 52), eI D 6 (nF tl)), ((ma 53), eJ D 360 (itm ti))]) [3, 0, 1, 2] (by decide) rfl ?_
          exact v_ireturn O T rfl rfl (by decide) (by decide) dX10_tape_32 (⟨zs_10, zs_11, zs_20, zs_21, zs_22, zs_25, zs_26, zs_27, zs_29, rfl, rfl⟩)
  · skip
    have z1 := b2i_0.mp z1
    exact absurd ((isIx_nI (by omega) (by omega)).mpr hk) z1
set_option maxRecDepth 100000 in
set_option maxHeartbeats 4000000 in
theorem sp_X10_tape_5 {D : G} {mo : Nat} {ma : Nat → Nat} {c : CS} {c2 : CS} {tk : Int32} {vc : Nat} {ln : Nat} {rn : Nat} {zs_10 : Int32} {zs_11 : Int32} {zs_20 : Int32} {zs_21 : Int32} {zs_22 : Int32} {zs_25 : Int32} {zs_26 : Int32} {zs_27 : Int32} {zs_29 : Int32} {ts : Nat → Int32} {tl : Nat → Nat} {ti : Nat → Nat → Int64} {t : Nat} {s : Nat} {n : Int32} (hk : t < 6) (htl : (tl t) ≤ 60) (hts : (ts t) = -1 → (tl t) = 0) (hso : (ts t) = -1 ∨ isIx (ts t) 5) (hs : s < 5) (hn : n < 0) : Sp D mX10_tape 30 0 0 [.ref mo, .int (nI t), .int (nI s), .int n] [(mo, .inr (10, M1R ma (mZ c c2 tk vc ln rn zs_10 zs_11 zs_20 zs_21 zs_22 zs_25 zs_26 zs_27 zs_29))), ((ma 51), eI D 6 ts), ((ma 52), eI D 6 (nF tl)), ((ma 53), eJ D 360 (itm ti))] (fun r w => ∃ zs2_10 : Int32, ∃ zs2_11 : Int32, ∃ zs2_20 : Int32, ∃ zs2_21 : Int32, ∃ zs2_22 : Int32, ∃ zs2_25 : Int32, ∃ zs2_26 : Int32, ∃ zs2_27 : Int32, ∃ zs2_29 : Int32, r = some (.int (-14)) ∧ w = [(mo, .inr (10, M1R ma (mZ c c2 tk vc ln rn zs2_10 zs2_11 zs2_20 zs2_21 zs2_22 zs2_25 zs2_26 zs2_27 zs2_29))), ((ma 51), eI D 6 ts), ((ma 52), eI D 6 (nF tl)), ((ma 53), eJ D 360 (itm ti))]) := by
  refine Sp.of (by decide) (Nat.le_of_ble_eq_true rfl) (fun X O T => ?_)
  refine v_eq (lv' := [(0, .ref mo), (1, .int (nI t)), (2, .int (nI s)), (3, .int n)]) rfl rfl rfl rfl ?_
  refine v_aload_n O dX10_tape_0 0 rfl ?_
  refine v_iload_n O dX10_tape_1 1 rfl ?_
  refine v_cV (T := TX10) (ci := 10) (As := [.int (nI t)]) (wr := [((ma 51), eI D 6 ts), ((ma 52), eI D 6 (nF tl)), ((ma 53), eJ D 360 (itm ti))]) (st := []) O cf_X10_315 rfl (sp_X10_isTape (mo := mo) (ma := ma) (c := c) (c2 := c2) (tk := tk) (vc := vc) (ln := ln) (rn := rn) (zs_10 := zs_10) (zs_11 := zs_11) (zs_20 := zs_20) (zs_21 := zs_21) (zs_22 := zs_22) (zs_25 := zs_25) (zs_26 := zs_26) (zs_27 := zs_27) (zs_29 := zs_29) (t := (nI t)) ) dX10_tape_2 rfl rfl 0 rfl [0] [1, 2, 3] (by decide) rfl rfl (by decide) (by decide) (by decide) (Nat.le_of_ble_eq_true rfl) (by decide) (by decide) (fun r_2 w_3 h_1 => ?_)
  obtain ⟨rfl, rfl⟩ := h_1
  refine v_eq (st' := [.int (b2i (isIx (nI t) 6))]) (ws' := [((ma 51), eI D 6 ts), ((ma 52), eI D 6 (nF tl)), ((ma 53), eJ D 360 (itm ti)), (mo, .inr (10, M1R ma (mZ c c2 tk vc ln rn zs_10 zs_11 zs_20 zs_21 zs_22 zs_25 zs_26 zs_27 zs_29)))]) rfl rfl rfl rfl ?_
  refine v_if_ne O 10 dX10_tape_5 (by decide) (fun z1 => ?_) (fun z1 => ?_)
  · skip
    have z1 := b2i_1.mp z1
    refine v_aload_n O dX10_tape_10 0 rfl ?_
    refine v_iload_n O dX10_tape_11 2 rfl ?_
    refine v_iconst (v := -1) O dX10_tape_12 (by decide) ?_
    refine v_iconst (v := 4) O dX10_tape_13 (by decide) ?_
    refine v_cV (T := TX10) (ci := 10) (As := [.int (nI s), .int (-1), .int 4]) (wr := [((ma 51), eI D 6 ts), ((ma 52), eI D 6 (nF tl)), ((ma 53), eJ D 360 (itm ti)), (mo, .inr (10, M1R ma (mZ c c2 tk vc ln rn zs_10 zs_11 zs_20 zs_21 zs_22 zs_25 zs_26 zs_27 zs_29)))]) (st := []) O cf_X10_179 rfl (sp_X10_in_m1_4 (mo := mo) (x := (nI s)) ) dX10_tape_14 rfl rfl 3 rfl [] [0, 1, 2, 3] (by decide) rfl rfl (by decide) (by decide) (by decide) (Nat.le_of_ble_eq_true rfl) (by decide) (by decide) (fun r_5 w_6 h_4 => ?_)
    obtain ⟨rfl, rfl⟩ := h_4
    refine v_eq (st' := [.int (b2i (-1 ≤ (nI s) ∧ (nI s) ≤ 4))]) (ws' := [((ma 51), eI D 6 ts), ((ma 52), eI D 6 (nF tl)), ((ma 53), eJ D 360 (itm ti)), (mo, .inr (10, M1R ma (mZ c c2 tk vc ln rn zs_10 zs_11 zs_20 zs_21 zs_22 zs_25 zs_26 zs_27 zs_29)))]) rfl rfl rfl rfl ?_
    refine v_if_eq O 30 dX10_tape_17 (by decide) (fun z2 => ?_) (fun z2 => ?_)
    · skip
      have z2 := b2i_0.mp z2
      exact absurd (in_m1 (m := 4) (by omega) (by decide)) z2
    · skip
      have z2 := b2i_1.mp z2
      refine v_iload_n O dX10_tape_20 2 rfl ?_
      refine v_if_lt O 33 dX10_tape_21 (by decide) (fun c_7 => ?_) (fun c_7 => ?_)
      · skip
        have c_7 := (c_lt (x := nI s) (y := 0) (a := s) (b := 0) rfl rfl (by omega) (by omega)).mp c_7
        exact absurd c_7 (by omega)
      · skip
        have c_7 := (not_congr (c_lt (x := nI s) (y := 0) (a := s) (b := 0) rfl rfl (by omega) (by omega))).mp c_7
        refine v_iload_n O dX10_tape_24 3 rfl ?_
        refine v_bipush (v := 60) O dX10_tape_25 (by decide) ?_
        refine v_icmp_le O 33 dX10_tape_27 (by decide) (fun z4 => ?_) (fun z4 => ?_)
        · skip
          refine v_iload_n O dX10_tape_33 2 rfl ?_
          refine v_if_lt O 44 dX10_tape_34 (by decide) (fun c_8 => ?_) (fun c_8 => ?_)
          · skip
            have c_8 := (c_lt (x := nI s) (y := 0) (a := s) (b := 0) rfl rfl (by omega) (by omega)).mp c_8
            exact absurd c_8 (by omega)
          · skip
            have c_8 := (not_congr (c_lt (x := nI s) (y := 0) (a := s) (b := 0) rfl rfl (by omega) (by omega))).mp c_8
            refine v_iload_n O dX10_tape_37 3 rfl ?_
            refine v_if_ge O 44 dX10_tape_38 (by decide) (fun z5 => ?_) (fun z5 => ?_)
            · skip
              exact absurd hn (Int32.not_lt.mpr z5)
            · skip
              refine v_bipush (v := -14) O dX10_tape_41 (by decide) ?_
              refine v_sub (ws' := [(mo, .inr (10, M1R ma (mZ c c2 tk vc ln rn zs_10 zs_11 zs_20 zs_21 zs_22 zs_25 zs_26 zs_27 zs_29))), ((ma 51), eI D 6 ts), ((ma 52), eI D 6 (nF tl)), ((ma 53), eJ D 360 (itm ti))]) [3, 0, 1, 2] (by decide) rfl ?_
              exact v_ireturn O T rfl rfl (by decide) (by decide) dX10_tape_43 (⟨zs_10, zs_11, zs_20, zs_21, zs_22, zs_25, zs_26, zs_27, zs_29, rfl, rfl⟩)
        · skip
          exact absurd (Int32.le_of_lt (Int32.lt_trans hn (by decide))) z4
  · skip
    have z1 := b2i_0.mp z1
    exact absurd ((isIx_nI (by omega) (by omega)).mpr hk) z1
set_option maxRecDepth 100000 in
set_option maxHeartbeats 4000000 in
theorem sp_X10_tape_6 {D : G} {mo : Nat} {ma : Nat → Nat} {c : CS} {c2 : CS} {tk : Int32} {vc : Nat} {ln : Nat} {rn : Nat} {zs_10 : Int32} {zs_11 : Int32} {zs_20 : Int32} {zs_21 : Int32} {zs_22 : Int32} {zs_25 : Int32} {zs_26 : Int32} {zs_27 : Int32} {zs_29 : Int32} {ts : Nat → Int32} {tl : Nat → Nat} {ti : Nat → Nat → Int64} {t : Nat} {s : Nat} {n : Nat} (hk : t < 6) (htl : (tl t) ≤ 60) (hts : (ts t) = -1 → (tl t) = 0) (hso : (ts t) = -1 ∨ isIx (ts t) 5) (hs : s < 5) (hn : n ≤ 60) : Sp D mX10_tape 30 0 0 [.ref mo, .int (nI t), .int (nI s), .int (nI n)] [(mo, .inr (10, M1R ma (mZ c c2 tk vc ln rn zs_10 zs_11 zs_20 zs_21 zs_22 zs_25 zs_26 zs_27 zs_29))), ((ma 51), eI D 6 ts), ((ma 52), eI D 6 (nF tl)), ((ma 53), eJ D 360 (itm ti))] (fun r w => ∃ zs2_10 : Int32, ∃ zs2_11 : Int32, ∃ zs2_20 : Int32, ∃ zs2_21 : Int32, ∃ zs2_22 : Int32, ∃ zs2_25 : Int32, ∃ zs2_26 : Int32, ∃ zs2_27 : Int32, ∃ zs2_29 : Int32, r = some (.int 1) ∧ w = [(mo, .inr (10, M1R ma (mZ c c2 tk vc ln rn zs2_10 zs2_11 zs2_20 zs2_21 zs2_22 zs2_25 zs2_26 zs2_27 zs2_29))), ((ma 51), eI D 6 (upd ts t (nI s))), ((ma 52), eI D 6 (nF (uN tl t n))), ((ma 53), eJ D 360 (itm (updT ti t (fun _ => 0))))]) := by
  refine Sp.of (by decide) (Nat.le_of_ble_eq_true rfl) (fun X O T => ?_)
  refine v_eq (lv' := [(0, .ref mo), (1, .int (nI t)), (2, .int (nI s)), (3, .int (nI n))]) rfl rfl rfl rfl ?_
  refine v_aload_n O dX10_tape_0 0 rfl ?_
  refine v_iload_n O dX10_tape_1 1 rfl ?_
  refine v_cV (T := TX10) (ci := 10) (As := [.int (nI t)]) (wr := [((ma 51), eI D 6 ts), ((ma 52), eI D 6 (nF tl)), ((ma 53), eJ D 360 (itm ti))]) (st := []) O cf_X10_315 rfl (sp_X10_isTape (mo := mo) (ma := ma) (c := c) (c2 := c2) (tk := tk) (vc := vc) (ln := ln) (rn := rn) (zs_10 := zs_10) (zs_11 := zs_11) (zs_20 := zs_20) (zs_21 := zs_21) (zs_22 := zs_22) (zs_25 := zs_25) (zs_26 := zs_26) (zs_27 := zs_27) (zs_29 := zs_29) (t := (nI t)) ) dX10_tape_2 rfl rfl 0 rfl [0] [1, 2, 3] (by decide) rfl rfl (by decide) (by decide) (by decide) (Nat.le_of_ble_eq_true rfl) (by decide) (by decide) (fun r_2 w_3 h_1 => ?_)
  obtain ⟨rfl, rfl⟩ := h_1
  refine v_eq (st' := [.int (b2i (isIx (nI t) 6))]) (ws' := [((ma 51), eI D 6 ts), ((ma 52), eI D 6 (nF tl)), ((ma 53), eJ D 360 (itm ti)), (mo, .inr (10, M1R ma (mZ c c2 tk vc ln rn zs_10 zs_11 zs_20 zs_21 zs_22 zs_25 zs_26 zs_27 zs_29)))]) rfl rfl rfl rfl ?_
  refine v_if_ne O 10 dX10_tape_5 (by decide) (fun z1 => ?_) (fun z1 => ?_)
  · skip
    have z1 := b2i_1.mp z1
    refine v_aload_n O dX10_tape_10 0 rfl ?_
    refine v_iload_n O dX10_tape_11 2 rfl ?_
    refine v_iconst (v := -1) O dX10_tape_12 (by decide) ?_
    refine v_iconst (v := 4) O dX10_tape_13 (by decide) ?_
    refine v_cV (T := TX10) (ci := 10) (As := [.int (nI s), .int (-1), .int 4]) (wr := [((ma 51), eI D 6 ts), ((ma 52), eI D 6 (nF tl)), ((ma 53), eJ D 360 (itm ti)), (mo, .inr (10, M1R ma (mZ c c2 tk vc ln rn zs_10 zs_11 zs_20 zs_21 zs_22 zs_25 zs_26 zs_27 zs_29)))]) (st := []) O cf_X10_179 rfl (sp_X10_in_m1_4 (mo := mo) (x := (nI s)) ) dX10_tape_14 rfl rfl 3 rfl [] [0, 1, 2, 3] (by decide) rfl rfl (by decide) (by decide) (by decide) (Nat.le_of_ble_eq_true rfl) (by decide) (by decide) (fun r_5 w_6 h_4 => ?_)
    obtain ⟨rfl, rfl⟩ := h_4
    refine v_eq (st' := [.int (b2i (-1 ≤ (nI s) ∧ (nI s) ≤ 4))]) (ws' := [((ma 51), eI D 6 ts), ((ma 52), eI D 6 (nF tl)), ((ma 53), eJ D 360 (itm ti)), (mo, .inr (10, M1R ma (mZ c c2 tk vc ln rn zs_10 zs_11 zs_20 zs_21 zs_22 zs_25 zs_26 zs_27 zs_29)))]) rfl rfl rfl rfl ?_
    refine v_if_eq O 30 dX10_tape_17 (by decide) (fun z2 => ?_) (fun z2 => ?_)
    · skip
      have z2 := b2i_0.mp z2
      exact absurd (in_m1 (m := 4) (by omega) (by decide)) z2
    · skip
      have z2 := b2i_1.mp z2
      refine v_iload_n O dX10_tape_20 2 rfl ?_
      refine v_if_lt O 33 dX10_tape_21 (by decide) (fun c_7 => ?_) (fun c_7 => ?_)
      · skip
        have c_7 := (c_lt (x := nI s) (y := 0) (a := s) (b := 0) rfl rfl (by omega) (by omega)).mp c_7
        exact absurd c_7 (by omega)
      · skip
        have c_7 := (not_congr (c_lt (x := nI s) (y := 0) (a := s) (b := 0) rfl rfl (by omega) (by omega))).mp c_7
        refine v_iload_n O dX10_tape_24 3 rfl ?_
        refine v_bipush (v := 60) O dX10_tape_25 (by decide) ?_
        refine v_icmp_le O 33 dX10_tape_27 (by decide) (fun z4 => ?_) (fun z4 => ?_)
        · skip
          have z4 := (c_le (x := nI n) (y := 60) (a := n) (b := 60) rfl rfl (by omega) (by omega)).mp z4
          refine v_iload_n O dX10_tape_33 2 rfl ?_
          refine v_if_lt O 44 dX10_tape_34 (by decide) (fun c_8 => ?_) (fun c_8 => ?_)
          · skip
            have c_8 := (c_lt (x := nI s) (y := 0) (a := s) (b := 0) rfl rfl (by omega) (by omega)).mp c_8
            exact absurd c_8 (by omega)
          · skip
            have c_8 := (not_congr (c_lt (x := nI s) (y := 0) (a := s) (b := 0) rfl rfl (by omega) (by omega))).mp c_8
            refine v_iload_n O dX10_tape_37 3 rfl ?_
            refine v_if_ge O 44 dX10_tape_38 (by decide) (fun z5 => ?_) (fun z5 => ?_)
            · skip
              refine v_aload_n O dX10_tape_44 0 rfl ?_
              refine gf_X10_166 (v := .ref (ma 51)) O rfl dX10_tape_45 3 rfl rfl ?_
              refine v_iload_n O dX10_tape_48 1 rfl ?_
              refine v_iload_n O dX10_tape_49 2 rfl ?_
              refine v_iastk (ws' := [((ma 51), eI D 6 (upd ts t (nI s))), ((ma 52), eI D 6 (nF tl)), ((ma 53), eJ D 360 (itm ti)), (mo, .inr (10, M1R ma (mZ c c2 tk vc ln rn zs_10 zs_11 zs_20 zs_21 zs_22 zs_25 zs_26 zs_27 zs_29)))]) O dX10_tape_50 0 rfl t (rfl) (by omega) (by decide) (rfl) ?_
              refine v_aload_n O dX10_tape_51 0 rfl ?_
              refine gf_X10_169 (v := .ref (ma 52)) O rfl dX10_tape_52 3 rfl rfl ?_
              refine v_iload_n O dX10_tape_55 1 rfl ?_
              refine v_iload_n O dX10_tape_56 2 rfl ?_
              refine v_if_ge O 64 dX10_tape_57 (by decide) (fun z6 => ?_) (fun z6 => ?_)
              · skip
                refine v_iload_n O dX10_tape_64 3 rfl ?_
                refine v_iastk (ws' := [((ma 51), eI D 6 (upd ts t (nI s))), ((ma 52), eI D 6 (nF (uN tl t n))), ((ma 53), eJ D 360 (itm ti)), (mo, .inr (10, M1R ma (mZ c c2 tk vc ln rn zs_10 zs_11 zs_20 zs_21 zs_22 zs_25 zs_26 zs_27 zs_29)))]) O dX10_tape_65 1 rfl t (rfl) (by omega) (by decide) (by rw [upd_nF]; rfl) ?_
                refine v_iconst (v := 0) O dX10_tape_66 (by decide) ?_
                refine v_istore (lv' := [(0, .ref mo), (1, .int (nI t)), (2, .int (nI s)), (3, .int (nI n)), (4, .int 0)]) O dX10_tape_67 (by decide) rfl ?_
                refine v_sub (ws' := [(mo, .inr (10, M1R ma (mZ c c2 tk vc ln rn zs_10 zs_11 zs_20 zs_21 zs_22 zs_25 zs_26 zs_27 zs_29))), ((ma 51), eI D 6 (upd ts t (nI s))), ((ma 52), eI D 6 (nF (uN tl t n))), ((ma 53), eJ D 360 (itm ti))]) [3, 0, 1, 2] (by decide) rfl ?_
                refine v_eq (lv' := [(0, .ref mo), (1, .int (nI t)), (2, .int (nI s)), (3, .int (nI n)), (4, .int (nI 0))]) rfl rfl rfl rfl ?_
                refine l_X10_tape O hk (fun h h1 h2 => ?_) 60 0 (by omega) _ (fun j a b => by omega) (fun j _ => rfl)
                refine v_congJ (g := itm (updT ti t (fun _ => 0))) (ws' := [(mo, .inr (10, M1R ma (mZ c c2 tk vc ln rn zs_10 zs_11 zs_20 zs_21 zs_22 zs_25 zs_26 zs_27 zs_29))), ((ma 51), eI D 6 (upd ts t (nI s))), ((ma 52), eI D 6 (nF (uN tl t n))), ((ma 53), eJ D 360 (itm (updT ti t (fun _ => 0))))]) 3 rfl (itm_zero h1 h2) rfl ?_
                refine v_iconst (v := 1) O dX10_tape_95 (by decide) ?_
                exact v_ireturn O T rfl rfl (by decide) (by decide) dX10_tape_96 (⟨zs_10, zs_11, zs_20, zs_21, zs_22, zs_25, zs_26, zs_27, zs_29, rfl, rfl⟩)
                
              · skip
                exact absurd (Int32.not_lt.mp (nI_pos (by omega))) z6
            · skip
              exact absurd (Int32.not_lt.mp (nI_pos (by omega))) z5
        · skip
          have z4 := (not_congr (c_le (x := nI n) (y := 60) (a := n) (b := 60) rfl rfl (by omega) (by omega))).mp z4
          exact absurd z4 (by omega)
  · skip
    have z1 := b2i_0.mp z1
    exact absurd ((isIx_nI (by omega) (by omega)).mpr hk) z1
set_option maxRecDepth 100000 in
set_option maxHeartbeats 4000000 in
theorem sp_X10_tape_1 {D : G} {mo : Nat} {ma : Nat → Nat} {c : CS} {c2 : CS} {tk : Int32} {vc : Nat} {ln : Nat} {rn : Nat} {zs_10 : Int32} {zs_11 : Int32} {zs_20 : Int32} {zs_21 : Int32} {zs_22 : Int32} {zs_25 : Int32} {zs_26 : Int32} {zs_27 : Int32} {zs_29 : Int32} {ts : Nat → Int32} {tl : Nat → Nat} {ti : Nat → Nat → Int64} {t : Int32} {s : Int32} {n : Int32} (hk : ¬ isIx t 6) : Sp D mX10_tape 30 0 0 [.ref mo, .int t, .int s, .int n] [(mo, .inr (10, M1R ma (mZ c c2 tk vc ln rn zs_10 zs_11 zs_20 zs_21 zs_22 zs_25 zs_26 zs_27 zs_29))), ((ma 51), eI D 6 ts), ((ma 52), eI D 6 (nF tl)), ((ma 53), eJ D 360 (itm ti))] (fun r w => ∃ zs2_10 : Int32, ∃ zs2_11 : Int32, ∃ zs2_20 : Int32, ∃ zs2_21 : Int32, ∃ zs2_22 : Int32, ∃ zs2_25 : Int32, ∃ zs2_26 : Int32, ∃ zs2_27 : Int32, ∃ zs2_29 : Int32, r = some (.int (-1)) ∧ w = [(mo, .inr (10, M1R ma (mZ c c2 tk vc ln rn zs2_10 zs2_11 zs2_20 zs2_21 zs2_22 zs2_25 zs2_26 zs2_27 zs2_29))), ((ma 51), eI D 6 ts), ((ma 52), eI D 6 (nF tl)), ((ma 53), eJ D 360 (itm ti))]) := by
  refine Sp.of (by decide) (Nat.le_of_ble_eq_true rfl) (fun X O T => ?_)
  refine v_eq (lv' := [(0, .ref mo), (1, .int t), (2, .int s), (3, .int n)]) rfl rfl rfl rfl ?_
  refine v_aload_n O dX10_tape_0 0 rfl ?_
  refine v_iload_n O dX10_tape_1 1 rfl ?_
  refine v_cV (T := TX10) (ci := 10) (As := [.int t]) (wr := [((ma 51), eI D 6 ts), ((ma 52), eI D 6 (nF tl)), ((ma 53), eJ D 360 (itm ti))]) (st := []) O cf_X10_315 rfl (sp_X10_isTape (mo := mo) (ma := ma) (c := c) (c2 := c2) (tk := tk) (vc := vc) (ln := ln) (rn := rn) (zs_10 := zs_10) (zs_11 := zs_11) (zs_20 := zs_20) (zs_21 := zs_21) (zs_22 := zs_22) (zs_25 := zs_25) (zs_26 := zs_26) (zs_27 := zs_27) (zs_29 := zs_29) (t := t) ) dX10_tape_2 rfl rfl 0 rfl [0] [1, 2, 3] (by decide) rfl rfl (by decide) (by decide) (by decide) (Nat.le_of_ble_eq_true rfl) (by decide) (by decide) (fun r_2 w_3 h_1 => ?_)
  obtain ⟨rfl, rfl⟩ := h_1
  refine v_eq (st' := [.int (b2i (isIx t 6))]) (ws' := [((ma 51), eI D 6 ts), ((ma 52), eI D 6 (nF tl)), ((ma 53), eJ D 360 (itm ti)), (mo, .inr (10, M1R ma (mZ c c2 tk vc ln rn zs_10 zs_11 zs_20 zs_21 zs_22 zs_25 zs_26 zs_27 zs_29)))]) rfl rfl rfl rfl ?_
  refine v_if_ne O 10 dX10_tape_5 (by decide) (fun z1 => ?_) (fun z1 => ?_)
  · skip
    have z1 := b2i_1.mp z1
    exact absurd z1 hk
  · skip
    have z1 := b2i_0.mp z1
    refine v_iconst (v := -1) O dX10_tape_8 (by decide) ?_
    refine v_sub (ws' := [(mo, .inr (10, M1R ma (mZ c c2 tk vc ln rn zs_10 zs_11 zs_20 zs_21 zs_22 zs_25 zs_26 zs_27 zs_29))), ((ma 51), eI D 6 ts), ((ma 52), eI D 6 (nF tl)), ((ma 53), eJ D 360 (itm ti))]) [3, 0, 1, 2] (by decide) rfl ?_
    exact v_ireturn O T rfl rfl (by decide) (by decide) dX10_tape_9 (⟨zs_10, zs_11, zs_20, zs_21, zs_22, zs_25, zs_26, zs_27, zs_29, rfl, rfl⟩)
set_option maxRecDepth 100000 in
set_option maxHeartbeats 4000000 in
theorem sp_X10_narrow {D : G} {mo : Nat} {s : Nat} {z : Int64} (hs : s < 5) : Sp D mX10_narrow 0 0 0 [.ref mo, .int (nI s), .long z] [] (fun r w => r = some (.long (cutF (nI s) z)) ∧ w = []) := by
  refine Sp.of (by decide) (Nat.le_of_ble_eq_true rfl) (fun X O T => ?_)
  refine v_eq (lv' := [(0, .ref mo), (1, .int (nI s)), (2, .long z)]) rfl rfl rfl rfl ?_
  refine v_iload_n O dX10_narrow_0 1 rfl ?_
  refine v_if_ne O 11 dX10_narrow_1 (by decide) (fun y1 => ?_) (fun y1 => ?_)
  · skip
    have y1 := (not_congr (c_eq (x := nI s) (y := 0) (a := s) (b := 0) rfl rfl (by omega) (by omega))).mp y1
    refine v_iload_n O dX10_narrow_11 1 rfl ?_
    refine v_iconst (v := 1) O dX10_narrow_12 (by decide) ?_
    refine v_icmp_ne O 23 dX10_narrow_13 (by decide) (fun y2 => ?_) (fun y2 => ?_)
    · skip
      have y2 := (not_congr (c_eq (x := nI s) (y := 1) (a := s) (b := 1) rfl rfl (by omega) (by omega))).mp y2
      refine v_iload_n O dX10_narrow_23 1 rfl ?_
      refine v_iconst (v := 2) O dX10_narrow_24 (by decide) ?_
      refine v_icmp_ne O 34 dX10_narrow_25 (by decide) (fun y3 => ?_) (fun y3 => ?_)
      · skip
        have y3 := (not_congr (c_eq (x := nI s) (y := 2) (a := s) (b := 2) rfl rfl (by omega) (by omega))).mp y3
        refine v_iload_n O dX10_narrow_34 1 rfl ?_
        refine v_iconst (v := 4) O dX10_narrow_35 (by decide) ?_
        refine v_icmp_ne O 53 dX10_narrow_36 (by decide) (fun y4 => ?_) (fun y4 => ?_)
        · skip
          have y4 := (not_congr (c_eq (x := nI s) (y := 4) (a := s) (b := 4) rfl rfl (by omega) (by omega))).mp y4
          refine v_lload_n O dX10_narrow_53 2 rfl ?_
          exact v_lreturn O T rfl (by decide) (by decide) dX10_narrow_54 (⟨by unfold cutF; rw [if_neg (fun e => y1 ((c_eq (x := nI s) (y := 0) (b := 0) rfl rfl (by omega) (by decide)).mp e)), if_neg (fun e => y2 ((c_eq (x := nI s) (y := 1) (b := 1) rfl rfl (by omega) (by decide)).mp e)), if_neg (fun e => y3 ((c_eq (x := nI s) (y := 2) (b := 2) rfl rfl (by omega) (by decide)).mp e)), if_pos (by rw [show s = 3 by omega]; rfl)], rfl⟩)
        · skip
          have y4 := (c_eq (x := nI s) (y := 4) (a := s) (b := 4) rfl rfl (by omega) (by omega)).mp y4
          refine v_lload_n O dX10_narrow_39 2 rfl ?_
          refine v_lconst (v := 0) O dX10_narrow_40 rfl ?_
          refine v_lcmp O dX10_narrow_41 ?_
          refine v_if_eq O 49 dX10_narrow_42 (by decide) (fun y5 => ?_) (fun y5 => ?_)
          · skip
            have y5 := (lg_cmp_eq _ _).mp y5
            refine v_lconst (v := 0) O dX10_narrow_49 rfl ?_
            refine v_goto O 54 dX10_narrow_50 (by decide) ?_
            exact v_lreturn O T rfl (by decide) (by decide) dX10_narrow_54 (⟨by unfold cutF; rw [if_neg (fun e => y1 ((c_eq (x := nI s) (y := 0) (b := 0) rfl rfl (by omega) (by decide)).mp e)), if_neg (fun e => y2 ((c_eq (x := nI s) (y := 1) (b := 1) rfl rfl (by omega) (by decide)).mp e)), if_neg (fun e => y3 ((c_eq (x := nI s) (y := 2) (b := 2) rfl rfl (by omega) (by decide)).mp e)), if_neg (by rw [y4]; decide), if_pos y5], rfl⟩)
          · skip
            have y5 := (not_congr (lg_cmp_eq _ _)).mp y5
            refine v_lconst (v := 1) O dX10_narrow_45 rfl ?_
            refine v_goto O 54 dX10_narrow_46 (by decide) ?_
            exact v_lreturn O T rfl (by decide) (by decide) dX10_narrow_54 (⟨by unfold cutF; rw [if_neg (fun e => y1 ((c_eq (x := nI s) (y := 0) (b := 0) rfl rfl (by omega) (by decide)).mp e)), if_neg (fun e => y2 ((c_eq (x := nI s) (y := 1) (b := 1) rfl rfl (by omega) (by decide)).mp e)), if_neg (fun e => y3 ((c_eq (x := nI s) (y := 2) (b := 2) rfl rfl (by omega) (by decide)).mp e)), if_neg (by rw [y4]; decide), if_neg y5], rfl⟩)
      · skip
        have y3 := (c_eq (x := nI s) (y := 2) (a := s) (b := 2) rfl rfl (by omega) (by omega)).mp y3
        refine v_lload_n O dX10_narrow_28 2 rfl ?_
        refine v_l2i O dX10_narrow_29 ?_
        refine v_i2l O dX10_narrow_30 ?_
        refine v_goto O 54 dX10_narrow_31 (by decide) ?_
        exact v_lreturn O T rfl (by decide) (by decide) dX10_narrow_54 (⟨by unfold cutF; rw [if_neg (fun e => y1 ((c_eq (x := nI s) (y := 0) (b := 0) rfl rfl (by omega) (by decide)).mp e)), if_neg (fun e => y2 ((c_eq (x := nI s) (y := 1) (b := 1) rfl rfl (by omega) (by decide)).mp e)), if_pos (by rw [y3]; rfl)], rfl⟩)
    · skip
      have y2 := (c_eq (x := nI s) (y := 1) (a := s) (b := 1) rfl rfl (by omega) (by omega)).mp y2
      refine v_lload_n O dX10_narrow_16 2 rfl ?_
      refine v_l2i O dX10_narrow_17 ?_
      refine v_i2s O dX10_narrow_18 ?_
      refine v_i2l O dX10_narrow_19 ?_
      refine v_goto O 54 dX10_narrow_20 (by decide) ?_
      exact v_lreturn O T rfl (by decide) (by decide) dX10_narrow_54 (⟨by unfold cutF; rw [if_neg (fun e => y1 ((c_eq (x := nI s) (y := 0) (b := 0) rfl rfl (by omega) (by decide)).mp e)), if_pos (by rw [y2]; rfl)], rfl⟩)
  · skip
    have y1 := (c_eq (x := nI s) (y := 0) (a := s) (b := 0) rfl rfl (by omega) (by omega)).mp y1
    refine v_lload_n O dX10_narrow_4 2 rfl ?_
    refine v_l2i O dX10_narrow_5 ?_
    refine v_i2b O dX10_narrow_6 ?_
    refine v_i2l O dX10_narrow_7 ?_
    refine v_goto O 54 dX10_narrow_8 (by decide) ?_
    exact v_lreturn O T rfl (by decide) (by decide) dX10_narrow_54 (⟨by unfold cutF; rw [if_pos (by rw [y1]; rfl)], rfl⟩)
set_option maxRecDepth 100000 in
set_option maxHeartbeats 4000000 in
theorem sp_X10_item_1 {D : G} {mo : Nat} {ma : Nat → Nat} {c : CS} {c2 : CS} {tk : Int32} {vc : Nat} {ln : Nat} {rn : Nat} {zs_10 : Int32} {zs_11 : Int32} {zs_20 : Int32} {zs_21 : Int32} {zs_22 : Int32} {zs_25 : Int32} {zs_26 : Int32} {zs_27 : Int32} {zs_29 : Int32} {ts : Nat → Int32} {tl : Nat → Nat} {ti : Nat → Nat → Int64} {t : Int32} {i : Int32} {z : Int64} (hk : ¬ isIx t 6) : Sp D mX10_item 30 0 0 [.ref mo, .int t, .int i, .long z] [(mo, .inr (10, M1R ma (mZ c c2 tk vc ln rn zs_10 zs_11 zs_20 zs_21 zs_22 zs_25 zs_26 zs_27 zs_29))), ((ma 51), eI D 6 ts), ((ma 52), eI D 6 (nF tl)), ((ma 53), eJ D 360 (itm ti))] (fun r w => ∃ zs2_10 : Int32, ∃ zs2_11 : Int32, ∃ zs2_20 : Int32, ∃ zs2_21 : Int32, ∃ zs2_22 : Int32, ∃ zs2_25 : Int32, ∃ zs2_26 : Int32, ∃ zs2_27 : Int32, ∃ zs2_29 : Int32, r = some (.int (-1)) ∧ w = [(mo, .inr (10, M1R ma (mZ c c2 tk vc ln rn zs2_10 zs2_11 zs2_20 zs2_21 zs2_22 zs2_25 zs2_26 zs2_27 zs2_29))), ((ma 51), eI D 6 ts), ((ma 52), eI D 6 (nF tl)), ((ma 53), eJ D 360 (itm ti))]) := by
  refine Sp.of (by decide) (Nat.le_of_ble_eq_true rfl) (fun X O T => ?_)
  refine v_eq (lv' := [(0, .ref mo), (1, .int t), (2, .int i), (3, .long z)]) rfl rfl rfl rfl ?_
  refine v_aload_n O dX10_item_0 0 rfl ?_
  refine v_iload_n O dX10_item_1 1 rfl ?_
  refine v_cV (T := TX10) (ci := 10) (As := [.int t]) (wr := [((ma 51), eI D 6 ts), ((ma 52), eI D 6 (nF tl)), ((ma 53), eJ D 360 (itm ti))]) (st := []) O cf_X10_315 rfl (sp_X10_isTape (mo := mo) (ma := ma) (c := c) (c2 := c2) (tk := tk) (vc := vc) (ln := ln) (rn := rn) (zs_10 := zs_10) (zs_11 := zs_11) (zs_20 := zs_20) (zs_21 := zs_21) (zs_22 := zs_22) (zs_25 := zs_25) (zs_26 := zs_26) (zs_27 := zs_27) (zs_29 := zs_29) (t := t) ) dX10_item_2 rfl rfl 0 rfl [0] [1, 2, 3] (by decide) rfl rfl (by decide) (by decide) (by decide) (Nat.le_of_ble_eq_true rfl) (by decide) (by decide) (fun r_2 w_3 h_1 => ?_)
  obtain ⟨rfl, rfl⟩ := h_1
  refine v_eq (st' := [.int (b2i (isIx t 6))]) (ws' := [((ma 51), eI D 6 ts), ((ma 52), eI D 6 (nF tl)), ((ma 53), eJ D 360 (itm ti)), (mo, .inr (10, M1R ma (mZ c c2 tk vc ln rn zs_10 zs_11 zs_20 zs_21 zs_22 zs_25 zs_26 zs_27 zs_29)))]) rfl rfl rfl rfl ?_
  refine v_if_ne O 10 dX10_item_5 (by decide) (fun z1 => ?_) (fun z1 => ?_)
  · skip
    have z1 := b2i_1.mp z1
    exact absurd z1 hk
  · skip
    have z1 := b2i_0.mp z1
    refine v_iconst (v := -1) O dX10_item_8 (by decide) ?_
    refine v_sub (ws' := [(mo, .inr (10, M1R ma (mZ c c2 tk vc ln rn zs_10 zs_11 zs_20 zs_21 zs_22 zs_25 zs_26 zs_27 zs_29))), ((ma 51), eI D 6 ts), ((ma 52), eI D 6 (nF tl)), ((ma 53), eJ D 360 (itm ti))]) [3, 0, 1, 2] (by decide) rfl ?_
    exact v_ireturn O T rfl rfl (by decide) (by decide) dX10_item_9 (⟨zs_10, zs_11, zs_20, zs_21, zs_22, zs_25, zs_26, zs_27, zs_29, rfl, rfl⟩)
set_option maxRecDepth 100000 in
set_option maxHeartbeats 4000000 in
theorem sp_X10_item_2 {D : G} {mo : Nat} {ma : Nat → Nat} {c : CS} {c2 : CS} {tk : Int32} {vc : Nat} {ln : Nat} {rn : Nat} {zs_10 : Int32} {zs_11 : Int32} {zs_20 : Int32} {zs_21 : Int32} {zs_22 : Int32} {zs_25 : Int32} {zs_26 : Int32} {zs_27 : Int32} {zs_29 : Int32} {ts : Nat → Int32} {tl : Nat → Nat} {ti : Nat → Nat → Int64} {t : Nat} {i : Int32} {z : Int64} (hk : t < 6) (htl : (tl t) ≤ 60) (hts : (ts t) = -1 → (tl t) = 0) (hso : (ts t) = -1 ∨ isIx (ts t) 5) (hs : (ts t) = -1) : Sp D mX10_item 30 0 0 [.ref mo, .int (nI t), .int i, .long z] [(mo, .inr (10, M1R ma (mZ c c2 tk vc ln rn zs_10 zs_11 zs_20 zs_21 zs_22 zs_25 zs_26 zs_27 zs_29))), ((ma 51), eI D 6 ts), ((ma 52), eI D 6 (nF tl)), ((ma 53), eJ D 360 (itm ti))] (fun r w => ∃ zs2_10 : Int32, ∃ zs2_11 : Int32, ∃ zs2_20 : Int32, ∃ zs2_21 : Int32, ∃ zs2_22 : Int32, ∃ zs2_25 : Int32, ∃ zs2_26 : Int32, ∃ zs2_27 : Int32, ∃ zs2_29 : Int32, r = some (.int (-11)) ∧ w = [(mo, .inr (10, M1R ma (mZ c c2 tk vc ln rn zs2_10 zs2_11 zs2_20 zs2_21 zs2_22 zs2_25 zs2_26 zs2_27 zs2_29))), ((ma 51), eI D 6 ts), ((ma 52), eI D 6 (nF tl)), ((ma 53), eJ D 360 (itm ti))]) := by
  refine Sp.of (by decide) (Nat.le_of_ble_eq_true rfl) (fun X O T => ?_)
  refine v_eq (lv' := [(0, .ref mo), (1, .int (nI t)), (2, .int i), (3, .long z)]) rfl rfl rfl rfl ?_
  refine v_aload_n O dX10_item_0 0 rfl ?_
  refine v_iload_n O dX10_item_1 1 rfl ?_
  refine v_cV (T := TX10) (ci := 10) (As := [.int (nI t)]) (wr := [((ma 51), eI D 6 ts), ((ma 52), eI D 6 (nF tl)), ((ma 53), eJ D 360 (itm ti))]) (st := []) O cf_X10_315 rfl (sp_X10_isTape (mo := mo) (ma := ma) (c := c) (c2 := c2) (tk := tk) (vc := vc) (ln := ln) (rn := rn) (zs_10 := zs_10) (zs_11 := zs_11) (zs_20 := zs_20) (zs_21 := zs_21) (zs_22 := zs_22) (zs_25 := zs_25) (zs_26 := zs_26) (zs_27 := zs_27) (zs_29 := zs_29) (t := (nI t)) ) dX10_item_2 rfl rfl 0 rfl [0] [1, 2, 3] (by decide) rfl rfl (by decide) (by decide) (by decide) (Nat.le_of_ble_eq_true rfl) (by decide) (by decide) (fun r_2 w_3 h_1 => ?_)
  obtain ⟨rfl, rfl⟩ := h_1
  refine v_eq (st' := [.int (b2i (isIx (nI t) 6))]) (ws' := [((ma 51), eI D 6 ts), ((ma 52), eI D 6 (nF tl)), ((ma 53), eJ D 360 (itm ti)), (mo, .inr (10, M1R ma (mZ c c2 tk vc ln rn zs_10 zs_11 zs_20 zs_21 zs_22 zs_25 zs_26 zs_27 zs_29)))]) rfl rfl rfl rfl ?_
  refine v_if_ne O 10 dX10_item_5 (by decide) (fun z1 => ?_) (fun z1 => ?_)
  · skip
    have z1 := b2i_1.mp z1
    refine v_aload_n O dX10_item_10 0 rfl ?_
    refine gf_X10_166 (v := .ref (ma 51)) O rfl dX10_item_11 3 rfl rfl ?_
    refine v_iload_n O dX10_item_14 1 rfl ?_
    refine v_ialdk O dX10_item_15 0 rfl t rfl (by omega) (by decide) ?_
    refine v_if_ge O 22 dX10_item_16 (by decide) (fun z2 => ?_) (fun z2 => ?_)
    · skip
      exact absurd (by rw [hs]; decide) (Int32.not_lt.mpr z2)
    · skip
      refine v_bipush (v := -11) O dX10_item_19 (by decide) ?_
      refine v_sub (ws' := [(mo, .inr (10, M1R ma (mZ c c2 tk vc ln rn zs_10 zs_11 zs_20 zs_21 zs_22 zs_25 zs_26 zs_27 zs_29))), ((ma 51), eI D 6 ts), ((ma 52), eI D 6 (nF tl)), ((ma 53), eJ D 360 (itm ti))]) [3, 0, 1, 2] (by decide) rfl ?_
      exact v_ireturn O T rfl rfl (by decide) (by decide) dX10_item_21 (⟨zs_10, zs_11, zs_20, zs_21, zs_22, zs_25, zs_26, zs_27, zs_29, rfl, rfl⟩)
  · skip
    have z1 := b2i_0.mp z1
    exact absurd ((isIx_nI (by omega) (by omega)).mpr hk) z1
set_option maxRecDepth 100000 in
set_option maxHeartbeats 4000000 in
theorem sp_X10_item_3 {D : G} {mo : Nat} {ma : Nat → Nat} {c : CS} {c2 : CS} {tk : Int32} {vc : Nat} {ln : Nat} {rn : Nat} {zs_10 : Int32} {zs_11 : Int32} {zs_20 : Int32} {zs_21 : Int32} {zs_22 : Int32} {zs_25 : Int32} {zs_26 : Int32} {zs_27 : Int32} {zs_29 : Int32} {ts : Nat → Int32} {tl : Nat → Nat} {ti : Nat → Nat → Int64} {t : Nat} {i : Int32} {z : Int64} (hk : t < 6) (htl : (tl t) ≤ 60) (hts : (ts t) = -1 → (tl t) = 0) (hso : (ts t) = -1 ∨ isIx (ts t) 5) (hs : ¬ (ts t) = -1) (hi : ¬ isIx i (tl t)) : Sp D mX10_item 30 0 0 [.ref mo, .int (nI t), .int i, .long z] [(mo, .inr (10, M1R ma (mZ c c2 tk vc ln rn zs_10 zs_11 zs_20 zs_21 zs_22 zs_25 zs_26 zs_27 zs_29))), ((ma 51), eI D 6 ts), ((ma 52), eI D 6 (nF tl)), ((ma 53), eJ D 360 (itm ti))] (fun r w => ∃ zs2_10 : Int32, ∃ zs2_11 : Int32, ∃ zs2_20 : Int32, ∃ zs2_21 : Int32, ∃ zs2_22 : Int32, ∃ zs2_25 : Int32, ∃ zs2_26 : Int32, ∃ zs2_27 : Int32, ∃ zs2_29 : Int32, r = some (.int (-13)) ∧ w = [(mo, .inr (10, M1R ma (mZ c c2 tk vc ln rn zs2_10 zs2_11 zs2_20 zs2_21 zs2_22 zs2_25 zs2_26 zs2_27 zs2_29))), ((ma 51), eI D 6 ts), ((ma 52), eI D 6 (nF tl)), ((ma 53), eJ D 360 (itm ti))]) := by
  refine Sp.of (by decide) (Nat.le_of_ble_eq_true rfl) (fun X O T => ?_)
  refine v_eq (lv' := [(0, .ref mo), (1, .int (nI t)), (2, .int i), (3, .long z)]) rfl rfl rfl rfl ?_
  refine v_aload_n O dX10_item_0 0 rfl ?_
  refine v_iload_n O dX10_item_1 1 rfl ?_
  refine v_cV (T := TX10) (ci := 10) (As := [.int (nI t)]) (wr := [((ma 51), eI D 6 ts), ((ma 52), eI D 6 (nF tl)), ((ma 53), eJ D 360 (itm ti))]) (st := []) O cf_X10_315 rfl (sp_X10_isTape (mo := mo) (ma := ma) (c := c) (c2 := c2) (tk := tk) (vc := vc) (ln := ln) (rn := rn) (zs_10 := zs_10) (zs_11 := zs_11) (zs_20 := zs_20) (zs_21 := zs_21) (zs_22 := zs_22) (zs_25 := zs_25) (zs_26 := zs_26) (zs_27 := zs_27) (zs_29 := zs_29) (t := (nI t)) ) dX10_item_2 rfl rfl 0 rfl [0] [1, 2, 3] (by decide) rfl rfl (by decide) (by decide) (by decide) (Nat.le_of_ble_eq_true rfl) (by decide) (by decide) (fun r_2 w_3 h_1 => ?_)
  obtain ⟨rfl, rfl⟩ := h_1
  refine v_eq (st' := [.int (b2i (isIx (nI t) 6))]) (ws' := [((ma 51), eI D 6 ts), ((ma 52), eI D 6 (nF tl)), ((ma 53), eJ D 360 (itm ti)), (mo, .inr (10, M1R ma (mZ c c2 tk vc ln rn zs_10 zs_11 zs_20 zs_21 zs_22 zs_25 zs_26 zs_27 zs_29)))]) rfl rfl rfl rfl ?_
  refine v_if_ne O 10 dX10_item_5 (by decide) (fun z1 => ?_) (fun z1 => ?_)
  · skip
    have z1 := b2i_1.mp z1
    refine v_aload_n O dX10_item_10 0 rfl ?_
    refine gf_X10_166 (v := .ref (ma 51)) O rfl dX10_item_11 3 rfl rfl ?_
    refine v_iload_n O dX10_item_14 1 rfl ?_
    refine v_ialdk O dX10_item_15 0 rfl t rfl (by omega) (by decide) ?_
    refine v_if_ge O 22 dX10_item_16 (by decide) (fun z2 => ?_) (fun z2 => ?_)
    · skip
      refine v_aload_n O dX10_item_22 0 rfl ?_
      refine v_iload_n O dX10_item_23 2 rfl ?_
      refine v_iconst (v := 0) O dX10_item_24 (by decide) ?_
      refine v_aload_n O dX10_item_25 0 rfl ?_
      refine gf_X10_169 (v := .ref (ma 52)) O rfl dX10_item_26 3 rfl rfl ?_
      refine v_iload_n O dX10_item_29 1 rfl ?_
      refine v_ialdk O dX10_item_30 1 rfl t rfl (by omega) (by decide) ?_
      refine v_top (y := nI (tl t)) rfl ?_
      refine v_iconst (v := 1) O dX10_item_31 (by decide) ?_
      refine v_isub O dX10_item_32 ?_
      refine v_cV (T := TX10) (ci := 10) (As := [.int i, .int 0, .int ((nI (tl t)) - 1)]) (wr := [((ma 51), eI D 6 ts), ((ma 52), eI D 6 (nF tl)), ((ma 53), eJ D 360 (itm ti)), (mo, .inr (10, M1R ma (mZ c c2 tk vc ln rn zs_10 zs_11 zs_20 zs_21 zs_22 zs_25 zs_26 zs_27 zs_29)))]) (st := []) O cf_X10_179 rfl (sp_X10_in_0 (mo := mo) (x := i) (h := ((nI (tl t)) - 1)) (zn := (tl t)) (rfl) (by omega)) dX10_item_33 rfl rfl 3 rfl [] [0, 1, 2, 3] (by decide) rfl rfl (by decide) (by decide) (by decide) (Nat.le_of_ble_eq_true rfl) (by decide) (by decide) (fun r_5 w_6 h_4 => ?_)
      obtain ⟨rfl, rfl⟩ := h_4
      refine v_eq (st' := [.int (b2i (isIx i (tl t)))]) (ws' := [((ma 51), eI D 6 ts), ((ma 52), eI D 6 (nF tl)), ((ma 53), eJ D 360 (itm ti)), (mo, .inr (10, M1R ma (mZ c c2 tk vc ln rn zs_10 zs_11 zs_20 zs_21 zs_22 zs_25 zs_26 zs_27 zs_29)))]) rfl rfl rfl rfl ?_
      refine v_if_ne O 42 dX10_item_36 (by decide) (fun z3 => ?_) (fun z3 => ?_)
      · skip
        have z3 := b2i_1.mp z3
        exact absurd z3 hi
      · skip
        have z3 := b2i_0.mp z3
        refine v_bipush (v := -13) O dX10_item_39 (by decide) ?_
        refine v_sub (ws' := [(mo, .inr (10, M1R ma (mZ c c2 tk vc ln rn zs_10 zs_11 zs_20 zs_21 zs_22 zs_25 zs_26 zs_27 zs_29))), ((ma 51), eI D 6 ts), ((ma 52), eI D 6 (nF tl)), ((ma 53), eJ D 360 (itm ti))]) [3, 0, 1, 2] (by decide) rfl ?_
        exact v_ireturn O T rfl rfl (by decide) (by decide) dX10_item_41 (⟨zs_10, zs_11, zs_20, zs_21, zs_22, zs_25, zs_26, zs_27, zs_29, rfl, rfl⟩)
    · skip
      exact absurd (Int32.not_lt.mp (so_ge hso hs)) z2
  · skip
    have z1 := b2i_0.mp z1
    exact absurd ((isIx_nI (by omega) (by omega)).mpr hk) z1
set_option maxRecDepth 100000 in
set_option maxHeartbeats 4000000 in
theorem sp_X10_item_4 {D : G} {mo : Nat} {ma : Nat → Nat} {c : CS} {c2 : CS} {tk : Int32} {vc : Nat} {ln : Nat} {rn : Nat} {zs_10 : Int32} {zs_11 : Int32} {zs_20 : Int32} {zs_21 : Int32} {zs_22 : Int32} {zs_25 : Int32} {zs_26 : Int32} {zs_27 : Int32} {zs_29 : Int32} {ts : Nat → Int32} {tl : Nat → Nat} {ti : Nat → Nat → Int64} {t : Nat} {i : Nat} {z : Int64} (hk : t < 6) (htl : (tl t) ≤ 60) (hts : (ts t) = -1 → (tl t) = 0) (hso : (ts t) = -1 ∨ isIx (ts t) 5) (hs : ¬ (ts t) = -1) (hi : i < (tl t)) : Sp D mX10_item 30 0 0 [.ref mo, .int (nI t), .int (nI i), .long z] [(mo, .inr (10, M1R ma (mZ c c2 tk vc ln rn zs_10 zs_11 zs_20 zs_21 zs_22 zs_25 zs_26 zs_27 zs_29))), ((ma 51), eI D 6 ts), ((ma 52), eI D 6 (nF tl)), ((ma 53), eJ D 360 (itm ti))] (fun r w => ∃ zs2_10 : Int32, ∃ zs2_11 : Int32, ∃ zs2_20 : Int32, ∃ zs2_21 : Int32, ∃ zs2_22 : Int32, ∃ zs2_25 : Int32, ∃ zs2_26 : Int32, ∃ zs2_27 : Int32, ∃ zs2_29 : Int32, r = some (.int 1) ∧ w = [(mo, .inr (10, M1R ma (mZ c c2 tk vc ln rn zs2_10 zs2_11 zs2_20 zs2_21 zs2_22 zs2_25 zs2_26 zs2_27 zs2_29))), ((ma 51), eI D 6 ts), ((ma 52), eI D 6 (nF tl)), ((ma 53), eJ D 360 (itm (updT ti t (vp_updL (ti t) i (cutF (ts t) z)))))]) := by
  refine Sp.of (by decide) (Nat.le_of_ble_eq_true rfl) (fun X O T => ?_)
  refine v_eq (lv' := [(0, .ref mo), (1, .int (nI t)), (2, .int (nI i)), (3, .long z)]) rfl rfl rfl rfl ?_
  obtain ⟨s9, hs9, z_s⟩ := hso.resolve_left hs
  refine v_aload_n O dX10_item_0 0 rfl ?_
  refine v_iload_n O dX10_item_1 1 rfl ?_
  refine v_cV (T := TX10) (ci := 10) (As := [.int (nI t)]) (wr := [((ma 51), eI D 6 ts), ((ma 52), eI D 6 (nF tl)), ((ma 53), eJ D 360 (itm ti))]) (st := []) O cf_X10_315 rfl (sp_X10_isTape (mo := mo) (ma := ma) (c := c) (c2 := c2) (tk := tk) (vc := vc) (ln := ln) (rn := rn) (zs_10 := zs_10) (zs_11 := zs_11) (zs_20 := zs_20) (zs_21 := zs_21) (zs_22 := zs_22) (zs_25 := zs_25) (zs_26 := zs_26) (zs_27 := zs_27) (zs_29 := zs_29) (t := (nI t)) ) dX10_item_2 rfl rfl 0 rfl [0] [1, 2, 3] (by decide) rfl rfl (by decide) (by decide) (by decide) (Nat.le_of_ble_eq_true rfl) (by decide) (by decide) (fun r_2 w_3 h_1 => ?_)
  obtain ⟨rfl, rfl⟩ := h_1
  refine v_eq (st' := [.int (b2i (isIx (nI t) 6))]) (ws' := [((ma 51), eI D 6 ts), ((ma 52), eI D 6 (nF tl)), ((ma 53), eJ D 360 (itm ti)), (mo, .inr (10, M1R ma (mZ c c2 tk vc ln rn zs_10 zs_11 zs_20 zs_21 zs_22 zs_25 zs_26 zs_27 zs_29)))]) rfl rfl rfl rfl ?_
  refine v_if_ne O 10 dX10_item_5 (by decide) (fun z1 => ?_) (fun z1 => ?_)
  · skip
    have z1 := b2i_1.mp z1
    refine v_aload_n O dX10_item_10 0 rfl ?_
    refine gf_X10_166 (v := .ref (ma 51)) O rfl dX10_item_11 3 rfl rfl ?_
    refine v_iload_n O dX10_item_14 1 rfl ?_
    refine v_ialdk O dX10_item_15 0 rfl t rfl (by omega) (by decide) ?_
    refine v_if_ge O 22 dX10_item_16 (by decide) (fun z2 => ?_) (fun z2 => ?_)
    · skip
      refine v_aload_n O dX10_item_22 0 rfl ?_
      refine v_iload_n O dX10_item_23 2 rfl ?_
      refine v_iconst (v := 0) O dX10_item_24 (by decide) ?_
      refine v_aload_n O dX10_item_25 0 rfl ?_
      refine gf_X10_169 (v := .ref (ma 52)) O rfl dX10_item_26 3 rfl rfl ?_
      refine v_iload_n O dX10_item_29 1 rfl ?_
      refine v_ialdk O dX10_item_30 1 rfl t rfl (by omega) (by decide) ?_
      refine v_top (y := nI (tl t)) rfl ?_
      refine v_iconst (v := 1) O dX10_item_31 (by decide) ?_
      refine v_isub O dX10_item_32 ?_
      refine v_cV (T := TX10) (ci := 10) (As := [.int (nI i), .int 0, .int ((nI (tl t)) - 1)]) (wr := [((ma 51), eI D 6 ts), ((ma 52), eI D 6 (nF tl)), ((ma 53), eJ D 360 (itm ti)), (mo, .inr (10, M1R ma (mZ c c2 tk vc ln rn zs_10 zs_11 zs_20 zs_21 zs_22 zs_25 zs_26 zs_27 zs_29)))]) (st := []) O cf_X10_179 rfl (sp_X10_in_0 (mo := mo) (x := (nI i)) (h := ((nI (tl t)) - 1)) (zn := (tl t)) (rfl) (by omega)) dX10_item_33 rfl rfl 3 rfl [] [0, 1, 2, 3] (by decide) rfl rfl (by decide) (by decide) (by decide) (Nat.le_of_ble_eq_true rfl) (by decide) (by decide) (fun r_5 w_6 h_4 => ?_)
      obtain ⟨rfl, rfl⟩ := h_4
      refine v_eq (st' := [.int (b2i (isIx (nI i) (tl t)))]) (ws' := [((ma 51), eI D 6 ts), ((ma 52), eI D 6 (nF tl)), ((ma 53), eJ D 360 (itm ti)), (mo, .inr (10, M1R ma (mZ c c2 tk vc ln rn zs_10 zs_11 zs_20 zs_21 zs_22 zs_25 zs_26 zs_27 zs_29)))]) rfl rfl rfl rfl ?_
      refine v_if_ne O 42 dX10_item_36 (by decide) (fun z3 => ?_) (fun z3 => ?_)
      · skip
        have z3 := b2i_1.mp z3
        refine v_aload_n O dX10_item_42 0 rfl ?_
        refine gf_X10_172 (v := .ref (ma 53)) O rfl dX10_item_43 3 rfl rfl ?_
        refine v_bipush (v := 60) O dX10_item_46 (by decide) ?_
        refine v_iload_n O dX10_item_48 1 rfl ?_
        refine v_imul O dX10_item_49 ?_
        refine v_top (y := nI (60 * t)) (pk_mul 60 t) ?_
        refine v_iload_n O dX10_item_50 2 rfl ?_
        refine v_iadd O dX10_item_51 ?_
        refine v_top (y := nI ((60 * t) + i)) (nI_add (60 * t) i) ?_
        refine v_aload_n O dX10_item_52 0 rfl ?_
        refine v_aload_n O dX10_item_53 0 rfl ?_
        refine gf_X10_166 (v := .ref (ma 51)) O rfl dX10_item_54 3 rfl rfl ?_
        refine v_iload_n O dX10_item_57 1 rfl ?_
        refine v_ialdk O dX10_item_58 0 rfl t rfl (by omega) (by decide) ?_
        refine v_top (y := nI s9) (z_s) ?_
        refine v_lload_n O dX10_item_59 3 rfl ?_
        refine v_cV (T := TX10) (ci := 10) (As := [.int (nI s9), .long z]) (wr := [((ma 51), eI D 6 ts), ((ma 52), eI D 6 (nF tl)), ((ma 53), eJ D 360 (itm ti)), (mo, .inr (10, M1R ma (mZ c c2 tk vc ln rn zs_10 zs_11 zs_20 zs_21 zs_22 zs_25 zs_26 zs_27 zs_29)))]) (st := [.int (nI ((60 * t) + i)), .ref (ma 53)]) O cf_X10_342 rfl (sp_X10_narrow (mo := mo) (s := s9) (z := z) (hs9)) dX10_item_60 rfl rfl 3 rfl [] [0, 1, 2, 3] (by decide) rfl rfl (by decide) (by decide) (by decide) (Nat.le_of_ble_eq_true rfl) (by decide) (by decide) (fun r_8 w_9 h_7 => ?_)
        obtain ⟨rfl, rfl⟩ := h_7
        refine v_eq (st' := [.long (cutF (nI s9) z), .int (nI ((60 * t) + i)), .ref (ma 53)]) (ws' := [((ma 51), eI D 6 ts), ((ma 52), eI D 6 (nF tl)), ((ma 53), eJ D 360 (itm ti)), (mo, .inr (10, M1R ma (mZ c c2 tk vc ln rn zs_10 zs_11 zs_20 zs_21 zs_22 zs_25 zs_26 zs_27 zs_29)))]) rfl rfl rfl rfl ?_
        refine v_lastk (ws' := [((ma 51), eI D 6 ts), ((ma 52), eI D 6 (nF tl)), ((ma 53), eJ D 360 (vp_updL (itm ti) ((60 * t) + i) (cutF (nI s9) z))), (mo, .inr (10, M1R ma (mZ c c2 tk vc ln rn zs_10 zs_11 zs_20 zs_21 zs_22 zs_25 zs_26 zs_27 zs_29)))]) O dX10_item_63 2 rfl ((60 * t) + i) (rfl) (by omega) (by decide) (rfl) ?_
        refine v_congJ (g := itm (updT ti t (vp_updL (ti t) i (cutF (ts t) z)))) (ws' := [((ma 51), eI D 6 ts), ((ma 52), eI D 6 (nF tl)), ((ma 53), eJ D 360 (itm (updT ti t (vp_updL (ti t) i (cutF (ts t) z))))), (mo, .inr (10, M1R ma (mZ c c2 tk vc ln rn zs_10 zs_11 zs_20 zs_21 zs_22 zs_25 zs_26 zs_27 zs_29)))]) 2 rfl (itm_put (by omega) (by rw [z_s])) rfl ?_
        refine v_iconst (v := 1) O dX10_item_64 (by decide) ?_
        refine v_sub (ws' := [(mo, .inr (10, M1R ma (mZ c c2 tk vc ln rn zs_10 zs_11 zs_20 zs_21 zs_22 zs_25 zs_26 zs_27 zs_29))), ((ma 51), eI D 6 ts), ((ma 52), eI D 6 (nF tl)), ((ma 53), eJ D 360 (itm (updT ti t (vp_updL (ti t) i (cutF (ts t) z)))))]) [3, 0, 1, 2] (by decide) rfl ?_
        exact v_ireturn O T rfl rfl (by decide) (by decide) dX10_item_65 (⟨zs_10, zs_11, zs_20, zs_21, zs_22, zs_25, zs_26, zs_27, zs_29, rfl, rfl⟩)
      · skip
        have z3 := b2i_0.mp z3
        exact absurd ((isIx_nI (by omega) (by omega)).mpr hi) z3
    · skip
      exact absurd (Int32.not_lt.mp (so_ge hso hs)) z2
  · skip
    have z1 := b2i_0.mp z1
    exact absurd ((isIx_nI (by omega) (by omega)).mpr hk) z1
set_option maxRecDepth 100000 in
set_option maxHeartbeats 4000000 in
theorem sp_X10_read_1 {D : G} {mo : Nat} {ma : Nat → Nat} {c : CS} {c2 : CS} {tk : Int32} {vc : Nat} {ln : Nat} {rn : Nat} {zs_10 : Int32} {zs_11 : Int32} {zs_20 : Int32} {zs_21 : Int32} {zs_22 : Int32} {zs_25 : Int32} {zs_26 : Int32} {zs_27 : Int32} {zs_29 : Int32} {ts : Nat → Int32} {tl : Nat → Nat} {ti : Nat → Nat → Int64} {t : Int32} {i : Int32} (hk : ¬ isIx t 6) : Sp D mX10_read 30 0 0 [.ref mo, .int t, .int i] [(mo, .inr (10, M1R ma (mZ c c2 tk vc ln rn zs_10 zs_11 zs_20 zs_21 zs_22 zs_25 zs_26 zs_27 zs_29))), ((ma 51), eI D 6 ts), ((ma 52), eI D 6 (nF tl)), ((ma 53), eJ D 360 (itm ti))] (fun r w => ∃ zs2_10 : Int32, ∃ zs2_11 : Int32, ∃ zs2_20 : Int32, ∃ zs2_21 : Int32, ∃ zs2_22 : Int32, ∃ zs2_25 : Int32, ∃ zs2_26 : Int32, ∃ zs2_27 : Int32, ∃ zs2_29 : Int32, r = some (.long (-9223372036854775808 : Int64)) ∧ w = [(mo, .inr (10, M1R ma (mZ c c2 tk vc ln rn zs2_10 zs2_11 zs2_20 zs2_21 zs2_22 zs2_25 zs2_26 zs2_27 zs2_29))), ((ma 51), eI D 6 ts), ((ma 52), eI D 6 (nF tl)), ((ma 53), eJ D 360 (itm ti))]) := by
  refine Sp.of (by decide) (Nat.le_of_ble_eq_true rfl) (fun X O T => ?_)
  refine v_eq (lv' := [(0, .ref mo), (1, .int t), (2, .int i)]) rfl rfl rfl rfl ?_
  refine v_aload_n O dX10_read_0 0 rfl ?_
  refine v_iload_n O dX10_read_1 1 rfl ?_
  refine v_cV (T := TX10) (ci := 10) (As := [.int t]) (wr := [((ma 51), eI D 6 ts), ((ma 52), eI D 6 (nF tl)), ((ma 53), eJ D 360 (itm ti))]) (st := []) O cf_X10_315 rfl (sp_X10_isTape (mo := mo) (ma := ma) (c := c) (c2 := c2) (tk := tk) (vc := vc) (ln := ln) (rn := rn) (zs_10 := zs_10) (zs_11 := zs_11) (zs_20 := zs_20) (zs_21 := zs_21) (zs_22 := zs_22) (zs_25 := zs_25) (zs_26 := zs_26) (zs_27 := zs_27) (zs_29 := zs_29) (t := t) ) dX10_read_2 rfl rfl 0 rfl [0] [1, 2, 3] (by decide) rfl rfl (by decide) (by decide) (by decide) (Nat.le_of_ble_eq_true rfl) (by decide) (by decide) (fun r_2 w_3 h_1 => ?_)
  obtain ⟨rfl, rfl⟩ := h_1
  refine v_eq (st' := [.int (b2i (isIx t 6))]) (ws' := [((ma 51), eI D 6 ts), ((ma 52), eI D 6 (nF tl)), ((ma 53), eJ D 360 (itm ti)), (mo, .inr (10, M1R ma (mZ c c2 tk vc ln rn zs_10 zs_11 zs_20 zs_21 zs_22 zs_25 zs_26 zs_27 zs_29)))]) rfl rfl rfl rfl ?_
  refine v_if_eq O 34 dX10_read_5 (by decide) (fun z1 => ?_) (fun z1 => ?_)
  · skip
    have z1 := b2i_0.mp z1
    refine v_ldc2 (v := -9223372036854775808) O tw_1343 dX10_read_34 ?_
    refine v_goto O 51 dX10_read_37 (by decide) ?_
    refine v_sub (ws' := [(mo, .inr (10, M1R ma (mZ c c2 tk vc ln rn zs_10 zs_11 zs_20 zs_21 zs_22 zs_25 zs_26 zs_27 zs_29))), ((ma 51), eI D 6 ts), ((ma 52), eI D 6 (nF tl)), ((ma 53), eJ D 360 (itm ti))]) [3, 0, 1, 2] (by decide) rfl ?_
    exact v_lreturn O T rfl (by decide) (by decide) dX10_read_51 (⟨zs_10, zs_11, zs_20, zs_21, zs_22, zs_25, zs_26, zs_27, zs_29, rfl, rfl⟩)
  · skip
    have z1 := b2i_1.mp z1
    exact absurd z1 hk
set_option maxRecDepth 100000 in
set_option maxHeartbeats 4000000 in
theorem sp_X10_read_2 {D : G} {mo : Nat} {ma : Nat → Nat} {c : CS} {c2 : CS} {tk : Int32} {vc : Nat} {ln : Nat} {rn : Nat} {zs_10 : Int32} {zs_11 : Int32} {zs_20 : Int32} {zs_21 : Int32} {zs_22 : Int32} {zs_25 : Int32} {zs_26 : Int32} {zs_27 : Int32} {zs_29 : Int32} {ts : Nat → Int32} {tl : Nat → Nat} {ti : Nat → Nat → Int64} {t : Nat} {i : Int32} (hk : t < 6) (htl : (tl t) ≤ 60) (hts : (ts t) = -1 → (tl t) = 0) (hso : (ts t) = -1 ∨ isIx (ts t) 5) (hi : ¬ isIx i (tl t)) : Sp D mX10_read 30 0 0 [.ref mo, .int (nI t), .int i] [(mo, .inr (10, M1R ma (mZ c c2 tk vc ln rn zs_10 zs_11 zs_20 zs_21 zs_22 zs_25 zs_26 zs_27 zs_29))), ((ma 51), eI D 6 ts), ((ma 52), eI D 6 (nF tl)), ((ma 53), eJ D 360 (itm ti))] (fun r w => ∃ zs2_10 : Int32, ∃ zs2_11 : Int32, ∃ zs2_20 : Int32, ∃ zs2_21 : Int32, ∃ zs2_22 : Int32, ∃ zs2_25 : Int32, ∃ zs2_26 : Int32, ∃ zs2_27 : Int32, ∃ zs2_29 : Int32, r = some (.long (-9223372036854775808 : Int64)) ∧ w = [(mo, .inr (10, M1R ma (mZ c c2 tk vc ln rn zs2_10 zs2_11 zs2_20 zs2_21 zs2_22 zs2_25 zs2_26 zs2_27 zs2_29))), ((ma 51), eI D 6 ts), ((ma 52), eI D 6 (nF tl)), ((ma 53), eJ D 360 (itm ti))]) := by
  refine Sp.of (by decide) (Nat.le_of_ble_eq_true rfl) (fun X O T => ?_)
  refine v_eq (lv' := [(0, .ref mo), (1, .int (nI t)), (2, .int i)]) rfl rfl rfl rfl ?_
  refine v_aload_n O dX10_read_0 0 rfl ?_
  refine v_iload_n O dX10_read_1 1 rfl ?_
  refine v_cV (T := TX10) (ci := 10) (As := [.int (nI t)]) (wr := [((ma 51), eI D 6 ts), ((ma 52), eI D 6 (nF tl)), ((ma 53), eJ D 360 (itm ti))]) (st := []) O cf_X10_315 rfl (sp_X10_isTape (mo := mo) (ma := ma) (c := c) (c2 := c2) (tk := tk) (vc := vc) (ln := ln) (rn := rn) (zs_10 := zs_10) (zs_11 := zs_11) (zs_20 := zs_20) (zs_21 := zs_21) (zs_22 := zs_22) (zs_25 := zs_25) (zs_26 := zs_26) (zs_27 := zs_27) (zs_29 := zs_29) (t := (nI t)) ) dX10_read_2 rfl rfl 0 rfl [0] [1, 2, 3] (by decide) rfl rfl (by decide) (by decide) (by decide) (Nat.le_of_ble_eq_true rfl) (by decide) (by decide) (fun r_2 w_3 h_1 => ?_)
  obtain ⟨rfl, rfl⟩ := h_1
  refine v_eq (st' := [.int (b2i (isIx (nI t) 6))]) (ws' := [((ma 51), eI D 6 ts), ((ma 52), eI D 6 (nF tl)), ((ma 53), eJ D 360 (itm ti)), (mo, .inr (10, M1R ma (mZ c c2 tk vc ln rn zs_10 zs_11 zs_20 zs_21 zs_22 zs_25 zs_26 zs_27 zs_29)))]) rfl rfl rfl rfl ?_
  refine v_if_eq O 34 dX10_read_5 (by decide) (fun z1 => ?_) (fun z1 => ?_)
  · skip
    have z1 := b2i_0.mp z1
    exact absurd ((isIx_nI (by omega) (by omega)).mpr hk) z1
  · skip
    have z1 := b2i_1.mp z1
    refine v_aload_n O dX10_read_8 0 rfl ?_
    refine gf_X10_166 (v := .ref (ma 51)) O rfl dX10_read_9 3 rfl rfl ?_
    refine v_iload_n O dX10_read_12 1 rfl ?_
    refine v_ialdk O dX10_read_13 0 rfl t rfl (by omega) (by decide) ?_
    refine v_if_lt O 34 dX10_read_14 (by decide) (fun z2 => ?_) (fun z2 => ?_)
    · skip
      refine v_ldc2 (v := -9223372036854775808) O tw_1343 dX10_read_34 ?_
      refine v_goto O 51 dX10_read_37 (by decide) ?_
      refine v_sub (ws' := [(mo, .inr (10, M1R ma (mZ c c2 tk vc ln rn zs_10 zs_11 zs_20 zs_21 zs_22 zs_25 zs_26 zs_27 zs_29))), ((ma 51), eI D 6 ts), ((ma 52), eI D 6 (nF tl)), ((ma 53), eJ D 360 (itm ti))]) [3, 0, 1, 2] (by decide) rfl ?_
      exact v_lreturn O T rfl (by decide) (by decide) dX10_read_51 (⟨zs_10, zs_11, zs_20, zs_21, zs_22, zs_25, zs_26, zs_27, zs_29, rfl, rfl⟩)
    · skip
      refine v_aload_n O dX10_read_17 0 rfl ?_
      refine v_iload_n O dX10_read_18 2 rfl ?_
      refine v_iconst (v := 0) O dX10_read_19 (by decide) ?_
      refine v_aload_n O dX10_read_20 0 rfl ?_
      refine gf_X10_169 (v := .ref (ma 52)) O rfl dX10_read_21 3 rfl rfl ?_
      refine v_iload_n O dX10_read_24 1 rfl ?_
      refine v_ialdk O dX10_read_25 1 rfl t rfl (by omega) (by decide) ?_
      refine v_top (y := nI (tl t)) rfl ?_
      refine v_iconst (v := 1) O dX10_read_26 (by decide) ?_
      refine v_isub O dX10_read_27 ?_
      refine v_cV (T := TX10) (ci := 10) (As := [.int i, .int 0, .int ((nI (tl t)) - 1)]) (wr := [((ma 51), eI D 6 ts), ((ma 52), eI D 6 (nF tl)), ((ma 53), eJ D 360 (itm ti)), (mo, .inr (10, M1R ma (mZ c c2 tk vc ln rn zs_10 zs_11 zs_20 zs_21 zs_22 zs_25 zs_26 zs_27 zs_29)))]) (st := []) O cf_X10_179 rfl (sp_X10_in_0 (mo := mo) (x := i) (h := ((nI (tl t)) - 1)) (zn := (tl t)) (rfl) (by omega)) dX10_read_28 rfl rfl 3 rfl [] [0, 1, 2, 3] (by decide) rfl rfl (by decide) (by decide) (by decide) (Nat.le_of_ble_eq_true rfl) (by decide) (by decide) (fun r_5 w_6 h_4 => ?_)
      obtain ⟨rfl, rfl⟩ := h_4
      refine v_eq (st' := [.int (b2i (isIx i (tl t)))]) (ws' := [((ma 51), eI D 6 ts), ((ma 52), eI D 6 (nF tl)), ((ma 53), eJ D 360 (itm ti)), (mo, .inr (10, M1R ma (mZ c c2 tk vc ln rn zs_10 zs_11 zs_20 zs_21 zs_22 zs_25 zs_26 zs_27 zs_29)))]) rfl rfl rfl rfl ?_
      refine v_if_ne O 40 dX10_read_31 (by decide) (fun z3 => ?_) (fun z3 => ?_)
      · skip
        have z3 := b2i_1.mp z3
        exact absurd z3 hi
      · skip
        have z3 := b2i_0.mp z3
        refine v_ldc2 (v := -9223372036854775808) O tw_1343 dX10_read_34 ?_
        refine v_goto O 51 dX10_read_37 (by decide) ?_
        refine v_sub (ws' := [(mo, .inr (10, M1R ma (mZ c c2 tk vc ln rn zs_10 zs_11 zs_20 zs_21 zs_22 zs_25 zs_26 zs_27 zs_29))), ((ma 51), eI D 6 ts), ((ma 52), eI D 6 (nF tl)), ((ma 53), eJ D 360 (itm ti))]) [3, 0, 1, 2] (by decide) rfl ?_
        exact v_lreturn O T rfl (by decide) (by decide) dX10_read_51 (⟨zs_10, zs_11, zs_20, zs_21, zs_22, zs_25, zs_26, zs_27, zs_29, rfl, rfl⟩)
set_option maxRecDepth 100000 in
set_option maxHeartbeats 4000000 in
theorem sp_X10_read_3 {D : G} {mo : Nat} {ma : Nat → Nat} {c : CS} {c2 : CS} {tk : Int32} {vc : Nat} {ln : Nat} {rn : Nat} {zs_10 : Int32} {zs_11 : Int32} {zs_20 : Int32} {zs_21 : Int32} {zs_22 : Int32} {zs_25 : Int32} {zs_26 : Int32} {zs_27 : Int32} {zs_29 : Int32} {ts : Nat → Int32} {tl : Nat → Nat} {ti : Nat → Nat → Int64} {t : Nat} {i : Nat} (hk : t < 6) (htl : (tl t) ≤ 60) (hts : (ts t) = -1 → (tl t) = 0) (hso : (ts t) = -1 ∨ isIx (ts t) 5) (hi : i < (tl t)) : Sp D mX10_read 30 0 0 [.ref mo, .int (nI t), .int (nI i)] [(mo, .inr (10, M1R ma (mZ c c2 tk vc ln rn zs_10 zs_11 zs_20 zs_21 zs_22 zs_25 zs_26 zs_27 zs_29))), ((ma 51), eI D 6 ts), ((ma 52), eI D 6 (nF tl)), ((ma 53), eJ D 360 (itm ti))] (fun r w => ∃ zs2_10 : Int32, ∃ zs2_11 : Int32, ∃ zs2_20 : Int32, ∃ zs2_21 : Int32, ∃ zs2_22 : Int32, ∃ zs2_25 : Int32, ∃ zs2_26 : Int32, ∃ zs2_27 : Int32, ∃ zs2_29 : Int32, r = some (.long ((ti t) i)) ∧ w = [(mo, .inr (10, M1R ma (mZ c c2 tk vc ln rn zs2_10 zs2_11 zs2_20 zs2_21 zs2_22 zs2_25 zs2_26 zs2_27 zs2_29))), ((ma 51), eI D 6 ts), ((ma 52), eI D 6 (nF tl)), ((ma 53), eJ D 360 (itm ti))]) := by
  refine Sp.of (by decide) (Nat.le_of_ble_eq_true rfl) (fun X O T => ?_)
  refine v_eq (lv' := [(0, .ref mo), (1, .int (nI t)), (2, .int (nI i))]) rfl rfl rfl rfl ?_
  refine v_aload_n O dX10_read_0 0 rfl ?_
  refine v_iload_n O dX10_read_1 1 rfl ?_
  refine v_cV (T := TX10) (ci := 10) (As := [.int (nI t)]) (wr := [((ma 51), eI D 6 ts), ((ma 52), eI D 6 (nF tl)), ((ma 53), eJ D 360 (itm ti))]) (st := []) O cf_X10_315 rfl (sp_X10_isTape (mo := mo) (ma := ma) (c := c) (c2 := c2) (tk := tk) (vc := vc) (ln := ln) (rn := rn) (zs_10 := zs_10) (zs_11 := zs_11) (zs_20 := zs_20) (zs_21 := zs_21) (zs_22 := zs_22) (zs_25 := zs_25) (zs_26 := zs_26) (zs_27 := zs_27) (zs_29 := zs_29) (t := (nI t)) ) dX10_read_2 rfl rfl 0 rfl [0] [1, 2, 3] (by decide) rfl rfl (by decide) (by decide) (by decide) (Nat.le_of_ble_eq_true rfl) (by decide) (by decide) (fun r_2 w_3 h_1 => ?_)
  obtain ⟨rfl, rfl⟩ := h_1
  refine v_eq (st' := [.int (b2i (isIx (nI t) 6))]) (ws' := [((ma 51), eI D 6 ts), ((ma 52), eI D 6 (nF tl)), ((ma 53), eJ D 360 (itm ti)), (mo, .inr (10, M1R ma (mZ c c2 tk vc ln rn zs_10 zs_11 zs_20 zs_21 zs_22 zs_25 zs_26 zs_27 zs_29)))]) rfl rfl rfl rfl ?_
  refine v_if_eq O 34 dX10_read_5 (by decide) (fun z1 => ?_) (fun z1 => ?_)
  · skip
    have z1 := b2i_0.mp z1
    exact absurd ((isIx_nI (by omega) (by omega)).mpr hk) z1
  · skip
    have z1 := b2i_1.mp z1
    refine v_aload_n O dX10_read_8 0 rfl ?_
    refine gf_X10_166 (v := .ref (ma 51)) O rfl dX10_read_9 3 rfl rfl ?_
    refine v_iload_n O dX10_read_12 1 rfl ?_
    refine v_ialdk O dX10_read_13 0 rfl t rfl (by omega) (by decide) ?_
    refine v_if_lt O 34 dX10_read_14 (by decide) (fun z2 => ?_) (fun z2 => ?_)
    · skip
      exact absurd (hts (so_lt hso z2)) (by omega)
    · skip
      refine v_aload_n O dX10_read_17 0 rfl ?_
      refine v_iload_n O dX10_read_18 2 rfl ?_
      refine v_iconst (v := 0) O dX10_read_19 (by decide) ?_
      refine v_aload_n O dX10_read_20 0 rfl ?_
      refine gf_X10_169 (v := .ref (ma 52)) O rfl dX10_read_21 3 rfl rfl ?_
      refine v_iload_n O dX10_read_24 1 rfl ?_
      refine v_ialdk O dX10_read_25 1 rfl t rfl (by omega) (by decide) ?_
      refine v_top (y := nI (tl t)) rfl ?_
      refine v_iconst (v := 1) O dX10_read_26 (by decide) ?_
      refine v_isub O dX10_read_27 ?_
      refine v_cV (T := TX10) (ci := 10) (As := [.int (nI i), .int 0, .int ((nI (tl t)) - 1)]) (wr := [((ma 51), eI D 6 ts), ((ma 52), eI D 6 (nF tl)), ((ma 53), eJ D 360 (itm ti)), (mo, .inr (10, M1R ma (mZ c c2 tk vc ln rn zs_10 zs_11 zs_20 zs_21 zs_22 zs_25 zs_26 zs_27 zs_29)))]) (st := []) O cf_X10_179 rfl (sp_X10_in_0 (mo := mo) (x := (nI i)) (h := ((nI (tl t)) - 1)) (zn := (tl t)) (rfl) (by omega)) dX10_read_28 rfl rfl 3 rfl [] [0, 1, 2, 3] (by decide) rfl rfl (by decide) (by decide) (by decide) (Nat.le_of_ble_eq_true rfl) (by decide) (by decide) (fun r_5 w_6 h_4 => ?_)
      obtain ⟨rfl, rfl⟩ := h_4
      refine v_eq (st' := [.int (b2i (isIx (nI i) (tl t)))]) (ws' := [((ma 51), eI D 6 ts), ((ma 52), eI D 6 (nF tl)), ((ma 53), eJ D 360 (itm ti)), (mo, .inr (10, M1R ma (mZ c c2 tk vc ln rn zs_10 zs_11 zs_20 zs_21 zs_22 zs_25 zs_26 zs_27 zs_29)))]) rfl rfl rfl rfl ?_
      refine v_if_ne O 40 dX10_read_31 (by decide) (fun z3 => ?_) (fun z3 => ?_)
      · skip
        have z3 := b2i_1.mp z3
        refine v_aload_n O dX10_read_40 0 rfl ?_
        refine gf_X10_172 (v := .ref (ma 53)) O rfl dX10_read_41 3 rfl rfl ?_
        refine v_bipush (v := 60) O dX10_read_44 (by decide) ?_
        refine v_iload_n O dX10_read_46 1 rfl ?_
        refine v_imul O dX10_read_47 ?_
        refine v_top (y := nI (60 * t)) (pk_mul 60 t) ?_
        refine v_iload_n O dX10_read_48 2 rfl ?_
        refine v_iadd O dX10_read_49 ?_
        refine v_top (y := nI ((60 * t) + i)) (nI_add (60 * t) i) ?_
        refine v_laldk O dX10_read_50 2 rfl ((60 * t) + i) rfl (by omega) (by decide) ?_
        refine v_topx (y := ti t i) (itm_at (by omega)) ?_
        refine v_sub (ws' := [(mo, .inr (10, M1R ma (mZ c c2 tk vc ln rn zs_10 zs_11 zs_20 zs_21 zs_22 zs_25 zs_26 zs_27 zs_29))), ((ma 51), eI D 6 ts), ((ma 52), eI D 6 (nF tl)), ((ma 53), eJ D 360 (itm ti))]) [3, 0, 1, 2] (by decide) rfl ?_
        exact v_lreturn O T rfl (by decide) (by decide) dX10_read_51 (⟨zs_10, zs_11, zs_20, zs_21, zs_22, zs_25, zs_26, zs_27, zs_29, rfl, rfl⟩)
      · skip
        have z3 := b2i_0.mp z3
        exact absurd ((isIx_nI (by omega) (by omega)).mpr hi) z3
set_option maxRecDepth 100000 in
set_option maxHeartbeats 4000000 in
theorem sp_X10_shift_1 {D : G} {mo : Nat} {ma : Nat → Nat} {c : CS} {c2 : CS} {tk : Int32} {vc : Nat} {ln : Nat} {rn : Nat} {zs_10 : Int32} {zs_11 : Int32} {zs_20 : Int32} {zs_21 : Int32} {zs_22 : Int32} {zs_25 : Int32} {zs_26 : Int32} {zs_27 : Int32} {zs_29 : Int32} {ts : Nat → Int32} {tl : Nat → Nat} {ti : Nat → Nat → Int64} {t : Int32} {u : Int32} {i : Int32} {j : Int32} {n : Int32} (hk : ¬ isIx t 6) : Sp D mX10_shift 30 0 0 [.ref mo, .int t, .int i, .int u, .int j, .int n] [(mo, .inr (10, M1R ma (mZ c c2 tk vc ln rn zs_10 zs_11 zs_20 zs_21 zs_22 zs_25 zs_26 zs_27 zs_29))), ((ma 51), eI D 6 ts), ((ma 52), eI D 6 (nF tl)), ((ma 53), eJ D 360 (itm ti))] (fun r w => ∃ zs2_10 : Int32, ∃ zs2_11 : Int32, ∃ zs2_20 : Int32, ∃ zs2_21 : Int32, ∃ zs2_22 : Int32, ∃ zs2_25 : Int32, ∃ zs2_26 : Int32, ∃ zs2_27 : Int32, ∃ zs2_29 : Int32, r = some (.int (-1)) ∧ w = [(mo, .inr (10, M1R ma (mZ c c2 tk vc ln rn zs2_10 zs2_11 zs2_20 zs2_21 zs2_22 zs2_25 zs2_26 zs2_27 zs2_29))), ((ma 51), eI D 6 ts), ((ma 52), eI D 6 (nF tl)), ((ma 53), eJ D 360 (itm ti))]) := by
  refine Sp.of (by decide) (Nat.le_of_ble_eq_true rfl) (fun X O T => ?_)
  refine v_eq (lv' := [(0, .ref mo), (1, .int t), (2, .int i), (3, .int u), (4, .int j), (5, .int n)]) rfl rfl rfl rfl ?_
  refine v_aload_n O dX10_shift_0 0 rfl ?_
  refine v_iload_n O dX10_shift_1 1 rfl ?_
  refine v_cV (T := TX10) (ci := 10) (As := [.int t]) (wr := [((ma 51), eI D 6 ts), ((ma 52), eI D 6 (nF tl)), ((ma 53), eJ D 360 (itm ti))]) (st := []) O cf_X10_315 rfl (sp_X10_isTape (mo := mo) (ma := ma) (c := c) (c2 := c2) (tk := tk) (vc := vc) (ln := ln) (rn := rn) (zs_10 := zs_10) (zs_11 := zs_11) (zs_20 := zs_20) (zs_21 := zs_21) (zs_22 := zs_22) (zs_25 := zs_25) (zs_26 := zs_26) (zs_27 := zs_27) (zs_29 := zs_29) (t := t) ) dX10_shift_2 rfl rfl 0 rfl [0] [1, 2, 3] (by decide) rfl rfl (by decide) (by decide) (by decide) (Nat.le_of_ble_eq_true rfl) (by decide) (by decide) (fun r_2 w_3 h_1 => ?_)
  obtain ⟨rfl, rfl⟩ := h_1
  refine v_eq (st' := [.int (b2i (isIx t 6))]) (ws' := [((ma 51), eI D 6 ts), ((ma 52), eI D 6 (nF tl)), ((ma 53), eJ D 360 (itm ti)), (mo, .inr (10, M1R ma (mZ c c2 tk vc ln rn zs_10 zs_11 zs_20 zs_21 zs_22 zs_25 zs_26 zs_27 zs_29)))]) rfl rfl rfl rfl ?_
  refine v_if_eq O 16 dX10_shift_5 (by decide) (fun z1 => ?_) (fun z1 => ?_)
  · skip
    have z1 := b2i_0.mp z1
    refine v_iconst (v := -1) O dX10_shift_16 (by decide) ?_
    refine v_sub (ws' := [(mo, .inr (10, M1R ma (mZ c c2 tk vc ln rn zs_10 zs_11 zs_20 zs_21 zs_22 zs_25 zs_26 zs_27 zs_29))), ((ma 51), eI D 6 ts), ((ma 52), eI D 6 (nF tl)), ((ma 53), eJ D 360 (itm ti))]) [3, 0, 1, 2] (by decide) rfl ?_
    exact v_ireturn O T rfl rfl (by decide) (by decide) dX10_shift_17 (⟨zs_10, zs_11, zs_20, zs_21, zs_22, zs_25, zs_26, zs_27, zs_29, rfl, rfl⟩)
  · skip
    have z1 := b2i_1.mp z1
    exact absurd z1 hk
set_option maxRecDepth 100000 in
set_option maxHeartbeats 4000000 in
theorem sp_X10_shift_2 {D : G} {mo : Nat} {ma : Nat → Nat} {c : CS} {c2 : CS} {tk : Int32} {vc : Nat} {ln : Nat} {rn : Nat} {zs_10 : Int32} {zs_11 : Int32} {zs_20 : Int32} {zs_21 : Int32} {zs_22 : Int32} {zs_25 : Int32} {zs_26 : Int32} {zs_27 : Int32} {zs_29 : Int32} {ts : Nat → Int32} {tl : Nat → Nat} {ti : Nat → Nat → Int64} {t : Nat} {u : Int32} {i : Int32} {j : Int32} {n : Int32} {ad : Nat → Int64} (hk : t < 6) (hu : ¬ isIx u 6) : Sp D mX10_shift 30 0 0 [.ref mo, .int (nI t), .int i, .int u, .int j, .int n] [(mo, .inr (10, M1R ma (mZ c c2 tk vc ln rn zs_10 zs_11 zs_20 zs_21 zs_22 zs_25 zs_26 zs_27 zs_29))), ((ma 51), eI D 6 ts), ((ma 52), eI D 6 (nF tl)), ((ma 53), eJ D 360 (itm ti)), ((ma 54), eJ D 60 ad)] (fun r w => ∃ zs2_10 : Int32, ∃ zs2_11 : Int32, ∃ zs2_20 : Int32, ∃ zs2_21 : Int32, ∃ zs2_22 : Int32, ∃ zs2_25 : Int32, ∃ zs2_26 : Int32, ∃ zs2_27 : Int32, ∃ zs2_29 : Int32, ∃ ad2 : Nat → Int64, r = some (.int (-1)) ∧ w = [(mo, .inr (10, M1R ma (mZ c c2 tk vc ln rn zs2_10 zs2_11 zs2_20 zs2_21 zs2_22 zs2_25 zs2_26 zs2_27 zs2_29))), ((ma 51), eI D 6 ts), ((ma 52), eI D 6 (nF tl)), ((ma 53), eJ D 360 (itm ti)), ((ma 54), eJ D 60 ad2)]) := by
  refine Sp.of (by decide) (Nat.le_of_ble_eq_true rfl) (fun X O T => ?_)
  refine v_eq (lv' := [(0, .ref mo), (1, .int (nI t)), (2, .int i), (3, .int u), (4, .int j), (5, .int n)]) rfl rfl rfl rfl ?_
  refine v_aload_n O dX10_shift_0 0 rfl ?_
  refine v_iload_n O dX10_shift_1 1 rfl ?_
  refine v_cV (T := TX10) (ci := 10) (As := [.int (nI t)]) (wr := [((ma 51), eI D 6 ts), ((ma 52), eI D 6 (nF tl)), ((ma 53), eJ D 360 (itm ti)), ((ma 54), eJ D 60 ad)]) (st := []) O cf_X10_315 rfl (sp_X10_isTape (mo := mo) (ma := ma) (c := c) (c2 := c2) (tk := tk) (vc := vc) (ln := ln) (rn := rn) (zs_10 := zs_10) (zs_11 := zs_11) (zs_20 := zs_20) (zs_21 := zs_21) (zs_22 := zs_22) (zs_25 := zs_25) (zs_26 := zs_26) (zs_27 := zs_27) (zs_29 := zs_29) (t := (nI t)) ) dX10_shift_2 rfl rfl 0 rfl [0] [1, 2, 3, 4] (by decide) rfl rfl (by decide) (by decide) (by decide) (Nat.le_of_ble_eq_true rfl) (by decide) (by decide) (fun r_2 w_3 h_1 => ?_)
  obtain ⟨rfl, rfl⟩ := h_1
  refine v_eq (st' := [.int (b2i (isIx (nI t) 6))]) (ws' := [((ma 51), eI D 6 ts), ((ma 52), eI D 6 (nF tl)), ((ma 53), eJ D 360 (itm ti)), ((ma 54), eJ D 60 ad), (mo, .inr (10, M1R ma (mZ c c2 tk vc ln rn zs_10 zs_11 zs_20 zs_21 zs_22 zs_25 zs_26 zs_27 zs_29)))]) rfl rfl rfl rfl ?_
  refine v_if_eq O 16 dX10_shift_5 (by decide) (fun z1 => ?_) (fun z1 => ?_)
  · skip
    have z1 := b2i_0.mp z1
    exact absurd ((isIx_nI (by omega) (by omega)).mpr hk) z1
  · skip
    have z1 := b2i_1.mp z1
    refine v_aload_n O dX10_shift_8 0 rfl ?_
    refine v_iload_n O dX10_shift_9 3 rfl ?_
    refine v_cV (T := TX10) (ci := 10) (As := [.int u]) (wr := [((ma 51), eI D 6 ts), ((ma 52), eI D 6 (nF tl)), ((ma 53), eJ D 360 (itm ti)), ((ma 54), eJ D 60 ad)]) (st := []) O cf_X10_315 rfl (sp_X10_isTape (mo := mo) (ma := ma) (c := c) (c2 := c2) (tk := tk) (vc := vc) (ln := ln) (rn := rn) (zs_10 := zs_10) (zs_11 := zs_11) (zs_20 := zs_20) (zs_21 := zs_21) (zs_22 := zs_22) (zs_25 := zs_25) (zs_26 := zs_26) (zs_27 := zs_27) (zs_29 := zs_29) (t := u) ) dX10_shift_10 rfl rfl 4 rfl [4] [0, 1, 2, 3] (by decide) rfl rfl (by decide) (by decide) (by decide) (Nat.le_of_ble_eq_true rfl) (by decide) (by decide) (fun r_5 w_6 h_4 => ?_)
    obtain ⟨rfl, rfl⟩ := h_4
    refine v_eq (st' := [.int (b2i (isIx u 6))]) (ws' := [((ma 51), eI D 6 ts), ((ma 52), eI D 6 (nF tl)), ((ma 53), eJ D 360 (itm ti)), ((ma 54), eJ D 60 ad), (mo, .inr (10, M1R ma (mZ c c2 tk vc ln rn zs_10 zs_11 zs_20 zs_21 zs_22 zs_25 zs_26 zs_27 zs_29)))]) rfl rfl rfl rfl ?_
    refine v_if_ne O 18 dX10_shift_13 (by decide) (fun z2 => ?_) (fun z2 => ?_)
    · skip
      have z2 := b2i_1.mp z2
      exact absurd z2 hu
    · skip
      have z2 := b2i_0.mp z2
      refine v_iconst (v := -1) O dX10_shift_16 (by decide) ?_
      refine v_sub (ws' := [(mo, .inr (10, M1R ma (mZ c c2 tk vc ln rn zs_10 zs_11 zs_20 zs_21 zs_22 zs_25 zs_26 zs_27 zs_29))), ((ma 51), eI D 6 ts), ((ma 52), eI D 6 (nF tl)), ((ma 53), eJ D 360 (itm ti)), ((ma 54), eJ D 60 ad)]) [4, 0, 1, 2, 3] (by decide) rfl ?_
      exact v_ireturn O T rfl rfl (by decide) (by decide) dX10_shift_17 (⟨zs_10, zs_11, zs_20, zs_21, zs_22, zs_25, zs_26, zs_27, zs_29, _, rfl, rfl⟩)
set_option maxRecDepth 100000 in
set_option maxHeartbeats 4000000 in
theorem sp_X10_shift_3 {D : G} {mo : Nat} {ma : Nat → Nat} {c : CS} {c2 : CS} {tk : Int32} {vc : Nat} {ln : Nat} {rn : Nat} {zs_10 : Int32} {zs_11 : Int32} {zs_20 : Int32} {zs_21 : Int32} {zs_22 : Int32} {zs_25 : Int32} {zs_26 : Int32} {zs_27 : Int32} {zs_29 : Int32} {ts : Nat → Int32} {tl : Nat → Nat} {ti : Nat → Nat → Int64} {t : Nat} {i : Int32} {j : Int32} {n : Int32} {ad : Nat → Int64} (hk : t < 6) (htl : (tl t) ≤ 60) (hts : (ts t) = -1 → (tl t) = 0) (hso : (ts t) = -1 ∨ isIx (ts t) 5) (hs : (ts t) = -1 ∨ (ts t) = -1) : Sp D mX10_shift 30 0 0 [.ref mo, .int (nI t), .int i, .int (nI t), .int j, .int n] [(mo, .inr (10, M1R ma (mZ c c2 tk vc ln rn zs_10 zs_11 zs_20 zs_21 zs_22 zs_25 zs_26 zs_27 zs_29))), ((ma 51), eI D 6 ts), ((ma 52), eI D 6 (nF tl)), ((ma 53), eJ D 360 (itm ti)), ((ma 54), eJ D 60 ad)] (fun r w => ∃ zs2_10 : Int32, ∃ zs2_11 : Int32, ∃ zs2_20 : Int32, ∃ zs2_21 : Int32, ∃ zs2_22 : Int32, ∃ zs2_25 : Int32, ∃ zs2_26 : Int32, ∃ zs2_27 : Int32, ∃ zs2_29 : Int32, ∃ ad2 : Nat → Int64, r = some (.int (-11)) ∧ w = [(mo, .inr (10, M1R ma (mZ c c2 tk vc ln rn zs2_10 zs2_11 zs2_20 zs2_21 zs2_22 zs2_25 zs2_26 zs2_27 zs2_29))), ((ma 51), eI D 6 ts), ((ma 52), eI D 6 (nF tl)), ((ma 53), eJ D 360 (itm ti)), ((ma 54), eJ D 60 ad2)]) := by
  refine Sp.of (by decide) (Nat.le_of_ble_eq_true rfl) (fun X O T => ?_)
  refine v_eq (lv' := [(0, .ref mo), (1, .int (nI t)), (2, .int i), (3, .int (nI t)), (4, .int j), (5, .int n)]) rfl rfl rfl rfl ?_
  refine v_aload_n O dX10_shift_0 0 rfl ?_
  refine v_iload_n O dX10_shift_1 1 rfl ?_
  refine v_cV (T := TX10) (ci := 10) (As := [.int (nI t)]) (wr := [((ma 51), eI D 6 ts), ((ma 52), eI D 6 (nF tl)), ((ma 53), eJ D 360 (itm ti)), ((ma 54), eJ D 60 ad)]) (st := []) O cf_X10_315 rfl (sp_X10_isTape (mo := mo) (ma := ma) (c := c) (c2 := c2) (tk := tk) (vc := vc) (ln := ln) (rn := rn) (zs_10 := zs_10) (zs_11 := zs_11) (zs_20 := zs_20) (zs_21 := zs_21) (zs_22 := zs_22) (zs_25 := zs_25) (zs_26 := zs_26) (zs_27 := zs_27) (zs_29 := zs_29) (t := (nI t)) ) dX10_shift_2 rfl rfl 0 rfl [0] [1, 2, 3, 4] (by decide) rfl rfl (by decide) (by decide) (by decide) (Nat.le_of_ble_eq_true rfl) (by decide) (by decide) (fun r_2 w_3 h_1 => ?_)
  obtain ⟨rfl, rfl⟩ := h_1
  refine v_eq (st' := [.int (b2i (isIx (nI t) 6))]) (ws' := [((ma 51), eI D 6 ts), ((ma 52), eI D 6 (nF tl)), ((ma 53), eJ D 360 (itm ti)), ((ma 54), eJ D 60 ad), (mo, .inr (10, M1R ma (mZ c c2 tk vc ln rn zs_10 zs_11 zs_20 zs_21 zs_22 zs_25 zs_26 zs_27 zs_29)))]) rfl rfl rfl rfl ?_
  refine v_if_eq O 16 dX10_shift_5 (by decide) (fun z1 => ?_) (fun z1 => ?_)
  · skip
    have z1 := b2i_0.mp z1
    exact absurd ((isIx_nI (by omega) (by omega)).mpr hk) z1
  · skip
    have z1 := b2i_1.mp z1
    refine v_aload_n O dX10_shift_8 0 rfl ?_
    refine v_iload_n O dX10_shift_9 3 rfl ?_
    refine v_cV (T := TX10) (ci := 10) (As := [.int (nI t)]) (wr := [((ma 51), eI D 6 ts), ((ma 52), eI D 6 (nF tl)), ((ma 53), eJ D 360 (itm ti)), ((ma 54), eJ D 60 ad)]) (st := []) O cf_X10_315 rfl (sp_X10_isTape (mo := mo) (ma := ma) (c := c) (c2 := c2) (tk := tk) (vc := vc) (ln := ln) (rn := rn) (zs_10 := zs_10) (zs_11 := zs_11) (zs_20 := zs_20) (zs_21 := zs_21) (zs_22 := zs_22) (zs_25 := zs_25) (zs_26 := zs_26) (zs_27 := zs_27) (zs_29 := zs_29) (t := (nI t)) ) dX10_shift_10 rfl rfl 4 rfl [4] [0, 1, 2, 3] (by decide) rfl rfl (by decide) (by decide) (by decide) (Nat.le_of_ble_eq_true rfl) (by decide) (by decide) (fun r_5 w_6 h_4 => ?_)
    obtain ⟨rfl, rfl⟩ := h_4
    refine v_eq (st' := [.int (b2i (isIx (nI t) 6))]) (ws' := [((ma 51), eI D 6 ts), ((ma 52), eI D 6 (nF tl)), ((ma 53), eJ D 360 (itm ti)), ((ma 54), eJ D 60 ad), (mo, .inr (10, M1R ma (mZ c c2 tk vc ln rn zs_10 zs_11 zs_20 zs_21 zs_22 zs_25 zs_26 zs_27 zs_29)))]) rfl rfl rfl rfl ?_
    refine v_if_ne O 18 dX10_shift_13 (by decide) (fun z2 => ?_) (fun z2 => ?_)
    · skip
      have z2 := b2i_1.mp z2
      refine v_aload_n O dX10_shift_18 0 rfl ?_
      refine gf_X10_166 (v := .ref (ma 51)) O rfl dX10_shift_19 4 rfl rfl ?_
      refine v_iload_n O dX10_shift_22 1 rfl ?_
      refine v_ialdk O dX10_shift_23 0 rfl t rfl (by omega) (by decide) ?_
      refine v_if_lt O 36 dX10_shift_24 (by decide) (fun z3 => ?_) (fun z3 => ?_)
      · skip
        refine v_bipush (v := -11) O dX10_shift_36 (by decide) ?_
        refine v_sub (ws' := [(mo, .inr (10, M1R ma (mZ c c2 tk vc ln rn zs_10 zs_11 zs_20 zs_21 zs_22 zs_25 zs_26 zs_27 zs_29))), ((ma 51), eI D 6 ts), ((ma 52), eI D 6 (nF tl)), ((ma 53), eJ D 360 (itm ti)), ((ma 54), eJ D 60 ad)]) [4, 0, 1, 2, 3] (by decide) rfl ?_
        exact v_ireturn O T rfl rfl (by decide) (by decide) dX10_shift_38 (⟨zs_10, zs_11, zs_20, zs_21, zs_22, zs_25, zs_26, zs_27, zs_29, _, rfl, rfl⟩)
      · skip
        refine v_aload_n O dX10_shift_27 0 rfl ?_
        refine gf_X10_166 (v := .ref (ma 51)) O rfl dX10_shift_28 4 rfl rfl ?_
        refine v_iload_n O dX10_shift_31 3 rfl ?_
        refine v_ialdk O dX10_shift_32 0 rfl t rfl (by omega) (by decide) ?_
        refine v_if_ge O 39 dX10_shift_33 (by decide) (fun z4 => ?_) (fun z4 => ?_)
        · skip
          exact absurd (Int32.not_lt.mpr z4) (not_not_intro (hs.elim (fun e => absurd (by rw [e]; decide) z3) (fun e => by rw [e]; decide)))
        · skip
          refine v_bipush (v := -11) O dX10_shift_36 (by decide) ?_
          refine v_sub (ws' := [(mo, .inr (10, M1R ma (mZ c c2 tk vc ln rn zs_10 zs_11 zs_20 zs_21 zs_22 zs_25 zs_26 zs_27 zs_29))), ((ma 51), eI D 6 ts), ((ma 52), eI D 6 (nF tl)), ((ma 53), eJ D 360 (itm ti)), ((ma 54), eJ D 60 ad)]) [4, 0, 1, 2, 3] (by decide) rfl ?_
          exact v_ireturn O T rfl rfl (by decide) (by decide) dX10_shift_38 (⟨zs_10, zs_11, zs_20, zs_21, zs_22, zs_25, zs_26, zs_27, zs_29, _, rfl, rfl⟩)
    · skip
      have z2 := b2i_0.mp z2
      exact absurd ((isIx_nI (by omega) (by omega)).mpr hk) z2
set_option maxRecDepth 100000 in
set_option maxHeartbeats 4000000 in
theorem sp_X10_shift_5 {D : G} {mo : Nat} {ma : Nat → Nat} {c : CS} {c2 : CS} {tk : Int32} {vc : Nat} {ln : Nat} {rn : Nat} {zs_10 : Int32} {zs_11 : Int32} {zs_20 : Int32} {zs_21 : Int32} {zs_22 : Int32} {zs_25 : Int32} {zs_26 : Int32} {zs_27 : Int32} {zs_29 : Int32} {ts : Nat → Int32} {tl : Nat → Nat} {ti : Nat → Nat → Int64} {t : Nat} {i : Int32} {j : Int32} {n : Int32} {ad : Nat → Int64} (hk : t < 6) (htl : (tl t) ≤ 60) (hts : (ts t) = -1 → (tl t) = 0) (hso : (ts t) = -1 ∨ isIx (ts t) 5) (hs : ¬ (ts t) = -1) (hn : ¬ isSt i n (tl t)) : Sp D mX10_shift 30 0 0 [.ref mo, .int (nI t), .int i, .int (nI t), .int j, .int n] [(mo, .inr (10, M1R ma (mZ c c2 tk vc ln rn zs_10 zs_11 zs_20 zs_21 zs_22 zs_25 zs_26 zs_27 zs_29))), ((ma 51), eI D 6 ts), ((ma 52), eI D 6 (nF tl)), ((ma 53), eJ D 360 (itm ti)), ((ma 54), eJ D 60 ad)] (fun r w => ∃ zs2_10 : Int32, ∃ zs2_11 : Int32, ∃ zs2_20 : Int32, ∃ zs2_21 : Int32, ∃ zs2_22 : Int32, ∃ zs2_25 : Int32, ∃ zs2_26 : Int32, ∃ zs2_27 : Int32, ∃ zs2_29 : Int32, ∃ ad2 : Nat → Int64, r = some (.int (-13)) ∧ w = [(mo, .inr (10, M1R ma (mZ c c2 tk vc ln rn zs2_10 zs2_11 zs2_20 zs2_21 zs2_22 zs2_25 zs2_26 zs2_27 zs2_29))), ((ma 51), eI D 6 ts), ((ma 52), eI D 6 (nF tl)), ((ma 53), eJ D 360 (itm ti)), ((ma 54), eJ D 60 ad2)]) := by
  refine Sp.of (by decide) (Nat.le_of_ble_eq_true rfl) (fun X O T => ?_)
  refine v_eq (lv' := [(0, .ref mo), (1, .int (nI t)), (2, .int i), (3, .int (nI t)), (4, .int j), (5, .int n)]) rfl rfl rfl rfl ?_
  refine v_aload_n O dX10_shift_0 0 rfl ?_
  refine v_iload_n O dX10_shift_1 1 rfl ?_
  refine v_cV (T := TX10) (ci := 10) (As := [.int (nI t)]) (wr := [((ma 51), eI D 6 ts), ((ma 52), eI D 6 (nF tl)), ((ma 53), eJ D 360 (itm ti)), ((ma 54), eJ D 60 ad)]) (st := []) O cf_X10_315 rfl (sp_X10_isTape (mo := mo) (ma := ma) (c := c) (c2 := c2) (tk := tk) (vc := vc) (ln := ln) (rn := rn) (zs_10 := zs_10) (zs_11 := zs_11) (zs_20 := zs_20) (zs_21 := zs_21) (zs_22 := zs_22) (zs_25 := zs_25) (zs_26 := zs_26) (zs_27 := zs_27) (zs_29 := zs_29) (t := (nI t)) ) dX10_shift_2 rfl rfl 0 rfl [0] [1, 2, 3, 4] (by decide) rfl rfl (by decide) (by decide) (by decide) (Nat.le_of_ble_eq_true rfl) (by decide) (by decide) (fun r_2 w_3 h_1 => ?_)
  obtain ⟨rfl, rfl⟩ := h_1
  refine v_eq (st' := [.int (b2i (isIx (nI t) 6))]) (ws' := [((ma 51), eI D 6 ts), ((ma 52), eI D 6 (nF tl)), ((ma 53), eJ D 360 (itm ti)), ((ma 54), eJ D 60 ad), (mo, .inr (10, M1R ma (mZ c c2 tk vc ln rn zs_10 zs_11 zs_20 zs_21 zs_22 zs_25 zs_26 zs_27 zs_29)))]) rfl rfl rfl rfl ?_
  refine v_if_eq O 16 dX10_shift_5 (by decide) (fun z1 => ?_) (fun z1 => ?_)
  · skip
    have z1 := b2i_0.mp z1
    exact absurd ((isIx_nI (by omega) (by omega)).mpr hk) z1
  · skip
    have z1 := b2i_1.mp z1
    refine v_aload_n O dX10_shift_8 0 rfl ?_
    refine v_iload_n O dX10_shift_9 3 rfl ?_
    refine v_cV (T := TX10) (ci := 10) (As := [.int (nI t)]) (wr := [((ma 51), eI D 6 ts), ((ma 52), eI D 6 (nF tl)), ((ma 53), eJ D 360 (itm ti)), ((ma 54), eJ D 60 ad)]) (st := []) O cf_X10_315 rfl (sp_X10_isTape (mo := mo) (ma := ma) (c := c) (c2 := c2) (tk := tk) (vc := vc) (ln := ln) (rn := rn) (zs_10 := zs_10) (zs_11 := zs_11) (zs_20 := zs_20) (zs_21 := zs_21) (zs_22 := zs_22) (zs_25 := zs_25) (zs_26 := zs_26) (zs_27 := zs_27) (zs_29 := zs_29) (t := (nI t)) ) dX10_shift_10 rfl rfl 4 rfl [4] [0, 1, 2, 3] (by decide) rfl rfl (by decide) (by decide) (by decide) (Nat.le_of_ble_eq_true rfl) (by decide) (by decide) (fun r_5 w_6 h_4 => ?_)
    obtain ⟨rfl, rfl⟩ := h_4
    refine v_eq (st' := [.int (b2i (isIx (nI t) 6))]) (ws' := [((ma 51), eI D 6 ts), ((ma 52), eI D 6 (nF tl)), ((ma 53), eJ D 360 (itm ti)), ((ma 54), eJ D 60 ad), (mo, .inr (10, M1R ma (mZ c c2 tk vc ln rn zs_10 zs_11 zs_20 zs_21 zs_22 zs_25 zs_26 zs_27 zs_29)))]) rfl rfl rfl rfl ?_
    refine v_if_ne O 18 dX10_shift_13 (by decide) (fun z2 => ?_) (fun z2 => ?_)
    · skip
      have z2 := b2i_1.mp z2
      refine v_aload_n O dX10_shift_18 0 rfl ?_
      refine gf_X10_166 (v := .ref (ma 51)) O rfl dX10_shift_19 4 rfl rfl ?_
      refine v_iload_n O dX10_shift_22 1 rfl ?_
      refine v_ialdk O dX10_shift_23 0 rfl t rfl (by omega) (by decide) ?_
      refine v_if_lt O 36 dX10_shift_24 (by decide) (fun z3 => ?_) (fun z3 => ?_)
      · skip
        exact absurd z3 (so_ge hso hs)
      · skip
        refine v_aload_n O dX10_shift_27 0 rfl ?_
        refine gf_X10_166 (v := .ref (ma 51)) O rfl dX10_shift_28 4 rfl rfl ?_
        refine v_iload_n O dX10_shift_31 3 rfl ?_
        refine v_ialdk O dX10_shift_32 0 rfl t rfl (by omega) (by decide) ?_
        refine v_if_ge O 39 dX10_shift_33 (by decide) (fun z4 => ?_) (fun z4 => ?_)
        · skip
          refine v_aload_n O dX10_shift_39 0 rfl ?_
          refine gf_X10_166 (v := .ref (ma 51)) O rfl dX10_shift_40 4 rfl rfl ?_
          refine v_iload_n O dX10_shift_43 1 rfl ?_
          refine v_ialdk O dX10_shift_44 0 rfl t rfl (by omega) (by decide) ?_
          refine v_aload_n O dX10_shift_45 0 rfl ?_
          refine gf_X10_166 (v := .ref (ma 51)) O rfl dX10_shift_46 4 rfl rfl ?_
          refine v_iload_n O dX10_shift_49 3 rfl ?_
          refine v_ialdk O dX10_shift_50 0 rfl t rfl (by omega) (by decide) ?_
          refine v_icmp_eq O 57 dX10_shift_51 (by decide) (fun z5 => ?_) (fun z5 => ?_)
          · skip
            refine v_iload O dX10_shift_57 5 rfl ?_
            refine v_if_lt O 98 dX10_shift_59 (by decide) (fun z6 => ?_) (fun z6 => ?_)
            · skip
              refine v_bipush (v := -13) O dX10_shift_98 (by decide) ?_
              refine v_sub (ws' := [(mo, .inr (10, M1R ma (mZ c c2 tk vc ln rn zs_10 zs_11 zs_20 zs_21 zs_22 zs_25 zs_26 zs_27 zs_29))), ((ma 51), eI D 6 ts), ((ma 52), eI D 6 (nF tl)), ((ma 53), eJ D 360 (itm ti)), ((ma 54), eJ D 60 ad)]) [4, 0, 1, 2, 3] (by decide) rfl ?_
              exact v_ireturn O T rfl rfl (by decide) (by decide) dX10_shift_100 (⟨zs_10, zs_11, zs_20, zs_21, zs_22, zs_25, zs_26, zs_27, zs_29, _, rfl, rfl⟩)
            · skip
              refine v_iload_n O dX10_shift_62 2 rfl ?_
              refine v_if_lt O 98 dX10_shift_63 (by decide) (fun z7 => ?_) (fun z7 => ?_)
              · skip
                refine v_bipush (v := -13) O dX10_shift_98 (by decide) ?_
                refine v_sub (ws' := [(mo, .inr (10, M1R ma (mZ c c2 tk vc ln rn zs_10 zs_11 zs_20 zs_21 zs_22 zs_25 zs_26 zs_27 zs_29))), ((ma 51), eI D 6 ts), ((ma 52), eI D 6 (nF tl)), ((ma 53), eJ D 360 (itm ti)), ((ma 54), eJ D 60 ad)]) [4, 0, 1, 2, 3] (by decide) rfl ?_
                exact v_ireturn O T rfl rfl (by decide) (by decide) dX10_shift_100 (⟨zs_10, zs_11, zs_20, zs_21, zs_22, zs_25, zs_26, zs_27, zs_29, _, rfl, rfl⟩)
              · skip
                refine v_iload O dX10_shift_66 4 rfl ?_
                refine v_if_lt O 98 dX10_shift_68 (by decide) (fun z8 => ?_) (fun z8 => ?_)
                · skip
                  refine v_bipush (v := -13) O dX10_shift_98 (by decide) ?_
                  refine v_sub (ws' := [(mo, .inr (10, M1R ma (mZ c c2 tk vc ln rn zs_10 zs_11 zs_20 zs_21 zs_22 zs_25 zs_26 zs_27 zs_29))), ((ma 51), eI D 6 ts), ((ma 52), eI D 6 (nF tl)), ((ma 53), eJ D 360 (itm ti)), ((ma 54), eJ D 60 ad)]) [4, 0, 1, 2, 3] (by decide) rfl ?_
                  exact v_ireturn O T rfl rfl (by decide) (by decide) dX10_shift_100 (⟨zs_10, zs_11, zs_20, zs_21, zs_22, zs_25, zs_26, zs_27, zs_29, _, rfl, rfl⟩)
                · skip
                  refine v_iload_n O dX10_shift_71 2 rfl ?_
                  refine v_aload_n O dX10_shift_72 0 rfl ?_
                  refine gf_X10_169 (v := .ref (ma 52)) O rfl dX10_shift_73 4 rfl rfl ?_
                  refine v_iload_n O dX10_shift_76 1 rfl ?_
                  refine v_ialdk O dX10_shift_77 1 rfl t rfl (by omega) (by decide) ?_
                  refine v_top (y := nI (tl t)) rfl ?_
                  refine v_iload O dX10_shift_78 5 rfl ?_
                  refine v_isub O dX10_shift_80 ?_
                  refine v_icmp_gt O 98 dX10_shift_81 (by decide) (fun z9 => ?_) (fun z9 => ?_)
                  · skip
                    refine v_bipush (v := -13) O dX10_shift_98 (by decide) ?_
                    refine v_sub (ws' := [(mo, .inr (10, M1R ma (mZ c c2 tk vc ln rn zs_10 zs_11 zs_20 zs_21 zs_22 zs_25 zs_26 zs_27 zs_29))), ((ma 51), eI D 6 ts), ((ma 52), eI D 6 (nF tl)), ((ma 53), eJ D 360 (itm ti)), ((ma 54), eJ D 60 ad)]) [4, 0, 1, 2, 3] (by decide) rfl ?_
                    exact v_ireturn O T rfl rfl (by decide) (by decide) dX10_shift_100 (⟨zs_10, zs_11, zs_20, zs_21, zs_22, zs_25, zs_26, zs_27, zs_29, _, rfl, rfl⟩)
                  · skip
                    exact absurd (st_r htl z6 z7 z9) hn
          · skip
            exact absurd rfl z5
        · skip
          exact absurd (Int32.not_lt.mp (so_ge hso hs)) z4
    · skip
      have z2 := b2i_0.mp z2
      exact absurd ((isIx_nI (by omega) (by omega)).mpr hk) z2
set_option maxRecDepth 100000 in
set_option maxHeartbeats 4000000 in
theorem sp_X10_shift_6 {D : G} {mo : Nat} {ma : Nat → Nat} {c : CS} {c2 : CS} {tk : Int32} {vc : Nat} {ln : Nat} {rn : Nat} {zs_10 : Int32} {zs_11 : Int32} {zs_20 : Int32} {zs_21 : Int32} {zs_22 : Int32} {zs_25 : Int32} {zs_26 : Int32} {zs_27 : Int32} {zs_29 : Int32} {ts : Nat → Int32} {tl : Nat → Nat} {ti : Nat → Nat → Int64} {t : Nat} {i : Int32} {j : Int32} {n : Int32} {ad : Nat → Int64} (hk : t < 6) (htl : (tl t) ≤ 60) (hts : (ts t) = -1 → (tl t) = 0) (hso : (ts t) = -1 ∨ isIx (ts t) 5) (hs : ¬ (ts t) = -1) (hn : isSt i n (tl t)) (hm : ¬ isSt j n (tl t)) : Sp D mX10_shift 30 0 0 [.ref mo, .int (nI t), .int i, .int (nI t), .int j, .int n] [(mo, .inr (10, M1R ma (mZ c c2 tk vc ln rn zs_10 zs_11 zs_20 zs_21 zs_22 zs_25 zs_26 zs_27 zs_29))), ((ma 51), eI D 6 ts), ((ma 52), eI D 6 (nF tl)), ((ma 53), eJ D 360 (itm ti)), ((ma 54), eJ D 60 ad)] (fun r w => ∃ zs2_10 : Int32, ∃ zs2_11 : Int32, ∃ zs2_20 : Int32, ∃ zs2_21 : Int32, ∃ zs2_22 : Int32, ∃ zs2_25 : Int32, ∃ zs2_26 : Int32, ∃ zs2_27 : Int32, ∃ zs2_29 : Int32, ∃ ad2 : Nat → Int64, r = some (.int (-13)) ∧ w = [(mo, .inr (10, M1R ma (mZ c c2 tk vc ln rn zs2_10 zs2_11 zs2_20 zs2_21 zs2_22 zs2_25 zs2_26 zs2_27 zs2_29))), ((ma 51), eI D 6 ts), ((ma 52), eI D 6 (nF tl)), ((ma 53), eJ D 360 (itm ti)), ((ma 54), eJ D 60 ad2)]) := by
  refine Sp.of (by decide) (Nat.le_of_ble_eq_true rfl) (fun X O T => ?_)
  refine v_eq (lv' := [(0, .ref mo), (1, .int (nI t)), (2, .int i), (3, .int (nI t)), (4, .int j), (5, .int n)]) rfl rfl rfl rfl ?_
  refine v_aload_n O dX10_shift_0 0 rfl ?_
  refine v_iload_n O dX10_shift_1 1 rfl ?_
  refine v_cV (T := TX10) (ci := 10) (As := [.int (nI t)]) (wr := [((ma 51), eI D 6 ts), ((ma 52), eI D 6 (nF tl)), ((ma 53), eJ D 360 (itm ti)), ((ma 54), eJ D 60 ad)]) (st := []) O cf_X10_315 rfl (sp_X10_isTape (mo := mo) (ma := ma) (c := c) (c2 := c2) (tk := tk) (vc := vc) (ln := ln) (rn := rn) (zs_10 := zs_10) (zs_11 := zs_11) (zs_20 := zs_20) (zs_21 := zs_21) (zs_22 := zs_22) (zs_25 := zs_25) (zs_26 := zs_26) (zs_27 := zs_27) (zs_29 := zs_29) (t := (nI t)) ) dX10_shift_2 rfl rfl 0 rfl [0] [1, 2, 3, 4] (by decide) rfl rfl (by decide) (by decide) (by decide) (Nat.le_of_ble_eq_true rfl) (by decide) (by decide) (fun r_2 w_3 h_1 => ?_)
  obtain ⟨rfl, rfl⟩ := h_1
  refine v_eq (st' := [.int (b2i (isIx (nI t) 6))]) (ws' := [((ma 51), eI D 6 ts), ((ma 52), eI D 6 (nF tl)), ((ma 53), eJ D 360 (itm ti)), ((ma 54), eJ D 60 ad), (mo, .inr (10, M1R ma (mZ c c2 tk vc ln rn zs_10 zs_11 zs_20 zs_21 zs_22 zs_25 zs_26 zs_27 zs_29)))]) rfl rfl rfl rfl ?_
  refine v_if_eq O 16 dX10_shift_5 (by decide) (fun z1 => ?_) (fun z1 => ?_)
  · skip
    have z1 := b2i_0.mp z1
    exact absurd ((isIx_nI (by omega) (by omega)).mpr hk) z1
  · skip
    have z1 := b2i_1.mp z1
    refine v_aload_n O dX10_shift_8 0 rfl ?_
    refine v_iload_n O dX10_shift_9 3 rfl ?_
    refine v_cV (T := TX10) (ci := 10) (As := [.int (nI t)]) (wr := [((ma 51), eI D 6 ts), ((ma 52), eI D 6 (nF tl)), ((ma 53), eJ D 360 (itm ti)), ((ma 54), eJ D 60 ad)]) (st := []) O cf_X10_315 rfl (sp_X10_isTape (mo := mo) (ma := ma) (c := c) (c2 := c2) (tk := tk) (vc := vc) (ln := ln) (rn := rn) (zs_10 := zs_10) (zs_11 := zs_11) (zs_20 := zs_20) (zs_21 := zs_21) (zs_22 := zs_22) (zs_25 := zs_25) (zs_26 := zs_26) (zs_27 := zs_27) (zs_29 := zs_29) (t := (nI t)) ) dX10_shift_10 rfl rfl 4 rfl [4] [0, 1, 2, 3] (by decide) rfl rfl (by decide) (by decide) (by decide) (Nat.le_of_ble_eq_true rfl) (by decide) (by decide) (fun r_5 w_6 h_4 => ?_)
    obtain ⟨rfl, rfl⟩ := h_4
    refine v_eq (st' := [.int (b2i (isIx (nI t) 6))]) (ws' := [((ma 51), eI D 6 ts), ((ma 52), eI D 6 (nF tl)), ((ma 53), eJ D 360 (itm ti)), ((ma 54), eJ D 60 ad), (mo, .inr (10, M1R ma (mZ c c2 tk vc ln rn zs_10 zs_11 zs_20 zs_21 zs_22 zs_25 zs_26 zs_27 zs_29)))]) rfl rfl rfl rfl ?_
    refine v_if_ne O 18 dX10_shift_13 (by decide) (fun z2 => ?_) (fun z2 => ?_)
    · skip
      have z2 := b2i_1.mp z2
      refine v_aload_n O dX10_shift_18 0 rfl ?_
      refine gf_X10_166 (v := .ref (ma 51)) O rfl dX10_shift_19 4 rfl rfl ?_
      refine v_iload_n O dX10_shift_22 1 rfl ?_
      refine v_ialdk O dX10_shift_23 0 rfl t rfl (by omega) (by decide) ?_
      refine v_if_lt O 36 dX10_shift_24 (by decide) (fun z3 => ?_) (fun z3 => ?_)
      · skip
        exact absurd z3 (so_ge hso hs)
      · skip
        refine v_aload_n O dX10_shift_27 0 rfl ?_
        refine gf_X10_166 (v := .ref (ma 51)) O rfl dX10_shift_28 4 rfl rfl ?_
        refine v_iload_n O dX10_shift_31 3 rfl ?_
        refine v_ialdk O dX10_shift_32 0 rfl t rfl (by omega) (by decide) ?_
        refine v_if_ge O 39 dX10_shift_33 (by decide) (fun z4 => ?_) (fun z4 => ?_)
        · skip
          refine v_aload_n O dX10_shift_39 0 rfl ?_
          refine gf_X10_166 (v := .ref (ma 51)) O rfl dX10_shift_40 4 rfl rfl ?_
          refine v_iload_n O dX10_shift_43 1 rfl ?_
          refine v_ialdk O dX10_shift_44 0 rfl t rfl (by omega) (by decide) ?_
          refine v_aload_n O dX10_shift_45 0 rfl ?_
          refine gf_X10_166 (v := .ref (ma 51)) O rfl dX10_shift_46 4 rfl rfl ?_
          refine v_iload_n O dX10_shift_49 3 rfl ?_
          refine v_ialdk O dX10_shift_50 0 rfl t rfl (by omega) (by decide) ?_
          refine v_icmp_eq O 57 dX10_shift_51 (by decide) (fun z5 => ?_) (fun z5 => ?_)
          · skip
            refine v_iload O dX10_shift_57 5 rfl ?_
            refine v_if_lt O 98 dX10_shift_59 (by decide) (fun z6 => ?_) (fun z6 => ?_)
            · skip
              refine v_bipush (v := -13) O dX10_shift_98 (by decide) ?_
              refine v_sub (ws' := [(mo, .inr (10, M1R ma (mZ c c2 tk vc ln rn zs_10 zs_11 zs_20 zs_21 zs_22 zs_25 zs_26 zs_27 zs_29))), ((ma 51), eI D 6 ts), ((ma 52), eI D 6 (nF tl)), ((ma 53), eJ D 360 (itm ti)), ((ma 54), eJ D 60 ad)]) [4, 0, 1, 2, 3] (by decide) rfl ?_
              exact v_ireturn O T rfl rfl (by decide) (by decide) dX10_shift_100 (⟨zs_10, zs_11, zs_20, zs_21, zs_22, zs_25, zs_26, zs_27, zs_29, _, rfl, rfl⟩)
            · skip
              refine v_iload_n O dX10_shift_62 2 rfl ?_
              refine v_if_lt O 98 dX10_shift_63 (by decide) (fun z7 => ?_) (fun z7 => ?_)
              · skip
                refine v_bipush (v := -13) O dX10_shift_98 (by decide) ?_
                refine v_sub (ws' := [(mo, .inr (10, M1R ma (mZ c c2 tk vc ln rn zs_10 zs_11 zs_20 zs_21 zs_22 zs_25 zs_26 zs_27 zs_29))), ((ma 51), eI D 6 ts), ((ma 52), eI D 6 (nF tl)), ((ma 53), eJ D 360 (itm ti)), ((ma 54), eJ D 60 ad)]) [4, 0, 1, 2, 3] (by decide) rfl ?_
                exact v_ireturn O T rfl rfl (by decide) (by decide) dX10_shift_100 (⟨zs_10, zs_11, zs_20, zs_21, zs_22, zs_25, zs_26, zs_27, zs_29, _, rfl, rfl⟩)
              · skip
                refine v_iload O dX10_shift_66 4 rfl ?_
                refine v_if_lt O 98 dX10_shift_68 (by decide) (fun z8 => ?_) (fun z8 => ?_)
                · skip
                  refine v_bipush (v := -13) O dX10_shift_98 (by decide) ?_
                  refine v_sub (ws' := [(mo, .inr (10, M1R ma (mZ c c2 tk vc ln rn zs_10 zs_11 zs_20 zs_21 zs_22 zs_25 zs_26 zs_27 zs_29))), ((ma 51), eI D 6 ts), ((ma 52), eI D 6 (nF tl)), ((ma 53), eJ D 360 (itm ti)), ((ma 54), eJ D 60 ad)]) [4, 0, 1, 2, 3] (by decide) rfl ?_
                  exact v_ireturn O T rfl rfl (by decide) (by decide) dX10_shift_100 (⟨zs_10, zs_11, zs_20, zs_21, zs_22, zs_25, zs_26, zs_27, zs_29, _, rfl, rfl⟩)
                · skip
                  refine v_iload_n O dX10_shift_71 2 rfl ?_
                  refine v_aload_n O dX10_shift_72 0 rfl ?_
                  refine gf_X10_169 (v := .ref (ma 52)) O rfl dX10_shift_73 4 rfl rfl ?_
                  refine v_iload_n O dX10_shift_76 1 rfl ?_
                  refine v_ialdk O dX10_shift_77 1 rfl t rfl (by omega) (by decide) ?_
                  refine v_top (y := nI (tl t)) rfl ?_
                  refine v_iload O dX10_shift_78 5 rfl ?_
                  refine v_isub O dX10_shift_80 ?_
                  refine v_icmp_gt O 98 dX10_shift_81 (by decide) (fun z9 => ?_) (fun z9 => ?_)
                  · skip
                    refine v_bipush (v := -13) O dX10_shift_98 (by decide) ?_
                    refine v_sub (ws' := [(mo, .inr (10, M1R ma (mZ c c2 tk vc ln rn zs_10 zs_11 zs_20 zs_21 zs_22 zs_25 zs_26 zs_27 zs_29))), ((ma 51), eI D 6 ts), ((ma 52), eI D 6 (nF tl)), ((ma 53), eJ D 360 (itm ti)), ((ma 54), eJ D 60 ad)]) [4, 0, 1, 2, 3] (by decide) rfl ?_
                    exact v_ireturn O T rfl rfl (by decide) (by decide) dX10_shift_100 (⟨zs_10, zs_11, zs_20, zs_21, zs_22, zs_25, zs_26, zs_27, zs_29, _, rfl, rfl⟩)
                  · skip
                    refine v_iload O dX10_shift_84 4 rfl ?_
                    refine v_aload_n O dX10_shift_86 0 rfl ?_
                    refine gf_X10_169 (v := .ref (ma 52)) O rfl dX10_shift_87 4 rfl rfl ?_
                    refine v_iload_n O dX10_shift_90 3 rfl ?_
                    refine v_ialdk O dX10_shift_91 1 rfl t rfl (by omega) (by decide) ?_
                    refine v_top (y := nI (tl t)) rfl ?_
                    refine v_iload O dX10_shift_92 5 rfl ?_
                    refine v_isub O dX10_shift_94 ?_
                    refine v_icmp_le O 101 dX10_shift_95 (by decide) (fun z10 => ?_) (fun z10 => ?_)
                    · skip
                      exact absurd (st_r htl z6 z8 (Int32.not_lt.mpr z10)) hm
                    · skip
                      refine v_bipush (v := -13) O dX10_shift_98 (by decide) ?_
                      refine v_sub (ws' := [(mo, .inr (10, M1R ma (mZ c c2 tk vc ln rn zs_10 zs_11 zs_20 zs_21 zs_22 zs_25 zs_26 zs_27 zs_29))), ((ma 51), eI D 6 ts), ((ma 52), eI D 6 (nF tl)), ((ma 53), eJ D 360 (itm ti)), ((ma 54), eJ D 60 ad)]) [4, 0, 1, 2, 3] (by decide) rfl ?_
                      exact v_ireturn O T rfl rfl (by decide) (by decide) dX10_shift_100 (⟨zs_10, zs_11, zs_20, zs_21, zs_22, zs_25, zs_26, zs_27, zs_29, _, rfl, rfl⟩)
          · skip
            exact absurd rfl z5
        · skip
          exact absurd (Int32.not_lt.mp (so_ge hso hs)) z4
    · skip
      have z2 := b2i_0.mp z2
      exact absurd ((isIx_nI (by omega) (by omega)).mpr hk) z2
set_option maxRecDepth 100000 in
set_option maxHeartbeats 4000000 in
theorem l_X10_shA {D : G} {X : CX} {mo : Nat} {ma : Nat → Nat} {c : CS} {c2 : CS} {tk : Int32} {vc : Nat} {ln : Nat} {rn : Nat} {zs_10 : Int32} {zs_11 : Int32} {zs_20 : Int32} {zs_21 : Int32} {zs_22 : Int32} {zs_25 : Int32} {zs_26 : Int32} {zs_27 : Int32} {zs_29 : Int32} {ts : Nat → Int32} {tl : Nat → Nat} {ti : Nat → Nat → Int64} {t : Nat} {i : Nat} {j : Nat} {n : Nat} (O : Ok D X mX10_shift 30 0 0) (ht : t < 6) (hi : i + n ≤ 60) (K : ∀ ad : Nat → Int64, (∀ x, x < n → ad x = itm ti (60 * t + i + x)) → V D X 0 0 138 [(0, .ref mo), (1, .int (nI t)), (2, .int (nI i)), (3, .int (nI t)), (4, .int (nI j)), (5, .int (nI n)), (6, .int (nI n))] [] [(mo, .inr (10, M1R ma (mZ c c2 tk vc ln rn zs_10 zs_11 zs_20 zs_21 zs_22 zs_25 zs_26 zs_27 zs_29))), ((ma 51), eI D 6 ts), ((ma 52), eI D 6 (nF tl)), ((ma 53), eJ D 360 (itm ti)), ((ma 54), eJ D 60 ad)]) : ∀ (t9 k : Nat), k + t9 = n → ∀ ad : Nat → Int64, (∀ x, x < k → ad x = itm ti (60 * t + i + x)) → V D X 0 0 104 [(0, .ref mo), (1, .int (nI t)), (2, .int (nI i)), (3, .int (nI t)), (4, .int (nI j)), (5, .int (nI n)), (6, .int (nI k))] [] [(mo, .inr (10, M1R ma (mZ c c2 tk vc ln rn zs_10 zs_11 zs_20 zs_21 zs_22 zs_25 zs_26 zs_27 zs_29))), ((ma 51), eI D 6 ts), ((ma 52), eI D 6 (nF tl)), ((ma 53), eJ D 360 (itm ti)), ((ma 54), eJ D 60 ad)] := by
  intro t9
  induction t9 with
  | zero =>
    intro k hk ad h1
    refine v_iload O dX10_shift_104 6 rfl ?_
    refine v_iload O dX10_shift_106 5 rfl ?_
    refine v_icmp_ge O 138 dX10_shift_108 (by decide) (fun z1 => ?_) (fun z1 => ?_)
    · skip
      have z1 := (c_le' (x := nI k) (y := nI n) (a := k) (b := n) rfl rfl (by omega) (by omega)).mp z1
      refine v_eq (lv' := [(0, .ref mo), (1, .int (nI t)), (2, .int (nI i)), (3, .int (nI t)), (4, .int (nI j)), (5, .int (nI n)), (6, .int (nI n))]) rfl (by rw [show k = n by omega]) rfl rfl ?_
      exact K ad (fun x hx => h1 x (by omega))
    · skip
      have z1 := (not_congr (c_le' (x := nI k) (y := nI n) (a := k) (b := n) rfl rfl (by omega) (by omega))).mp z1
      exact absurd z1 (by omega)
  | succ t9 ih =>
    intro k hk ad h1
    refine v_iload O dX10_shift_104 6 rfl ?_
    refine v_iload O dX10_shift_106 5 rfl ?_
    refine v_icmp_ge O 138 dX10_shift_108 (by decide) (fun z1 => ?_) (fun z1 => ?_)
    · skip
      have z1 := (c_le' (x := nI k) (y := nI n) (a := k) (b := n) rfl rfl (by omega) (by omega)).mp z1
      exact absurd z1 (by omega)
    · skip
      have z1 := (not_congr (c_le' (x := nI k) (y := nI n) (a := k) (b := n) rfl rfl (by omega) (by omega))).mp z1
      refine v_aload_n O dX10_shift_111 0 rfl ?_
      refine gf_X10_176 (v := .ref (ma 54)) O rfl dX10_shift_112 0 rfl rfl ?_
      refine v_iload O dX10_shift_115 6 rfl ?_
      refine v_aload_n O dX10_shift_117 0 rfl ?_
      refine gf_X10_172 (v := .ref (ma 53)) O rfl dX10_shift_118 0 rfl rfl ?_
      refine v_bipush (v := 60) O dX10_shift_121 (by decide) ?_
      refine v_iload_n O dX10_shift_123 1 rfl ?_
      refine v_imul O dX10_shift_124 ?_
      refine v_top (y := nI (60 * t)) (pk_mul 60 t) ?_
      refine v_iload_n O dX10_shift_125 2 rfl ?_
      refine v_iadd O dX10_shift_126 ?_
      refine v_top (y := nI ((60 * t) + i)) (nI_add (60 * t) i) ?_
      refine v_iload O dX10_shift_127 6 rfl ?_
      refine v_iadd O dX10_shift_129 ?_
      refine v_top (y := nI (((60 * t) + i) + k)) (nI_add ((60 * t) + i) k) ?_
      refine v_laldk O dX10_shift_130 3 rfl (((60 * t) + i) + k) rfl (by omega) (by decide) ?_
      refine v_lastk (ws' := [(mo, .inr (10, M1R ma (mZ c c2 tk vc ln rn zs_10 zs_11 zs_20 zs_21 zs_22 zs_25 zs_26 zs_27 zs_29))), ((ma 51), eI D 6 ts), ((ma 52), eI D 6 (nF tl)), ((ma 53), eJ D 360 (itm ti)), ((ma 54), eJ D 60 (vp_updL ad k ((itm ti) (((60 * t) + i) + k))))]) O dX10_shift_131 4 rfl k (rfl) (by omega) (by decide) (rfl) ?_
      refine v_iinc (v := nI (k + 1)) (lv' := [(0, .ref mo), (1, .int (nI t)), (2, .int (nI i)), (3, .int (nI t)), (4, .int (nI j)), (5, .int (nI n)), (6, .int (nI (k + 1)))]) O dX10_shift_132 6 rfl (nI_1 k) (by decide) rfl ?_
      refine v_goto O 104 dX10_shift_135 (by decide) ?_
      exact ih (k + 1) (by omega) _ (fun x hx => by
        by_cases e : x = k
        · rw [e, vp_updL, if_pos rfl]
        · rw [vp_updL, if_neg e]; exact h1 x (by omega))
set_option maxRecDepth 100000 in
set_option maxHeartbeats 4000000 in
theorem l_X10_shB {D : G} {X : CX} {mo : Nat} {ma : Nat → Nat} {c : CS} {c2 : CS} {tk : Int32} {vc : Nat} {ln : Nat} {rn : Nat} {zs_10 : Int32} {zs_11 : Int32} {zs_20 : Int32} {zs_21 : Int32} {zs_22 : Int32} {zs_25 : Int32} {zs_26 : Int32} {zs_27 : Int32} {zs_29 : Int32} {ts : Nat → Int32} {tl : Nat → Nat} {ti : Nat → Nat → Int64} {t : Nat} {i : Nat} {j : Nat} {n : Nat} {ad : Nat → Int64} (O : Ok D X mX10_shift 30 0 0) (hu : t < 6) (hj : j + n ≤ 60) (ha : (∀ x, x < n → ad x = itm ti (60 * t + i + x))) (K : ∀ h : Nat → Int64, (∀ x, 60 * t + j ≤ x → x < 60 * t + j + n → h x = itm ti (60 * t + i + (x - (60 * t + j)))) → (∀ x, ¬ (60 * t + j ≤ x ∧ x < 60 * t + j + n) → h x = itm ti x) → V D X 0 0 176 [(0, .ref mo), (1, .int (nI t)), (2, .int (nI i)), (3, .int (nI t)), (4, .int (nI j)), (5, .int (nI n)), (6, .int (nI n))] [] [(mo, .inr (10, M1R ma (mZ c c2 tk vc ln rn zs_10 zs_11 zs_20 zs_21 zs_22 zs_25 zs_26 zs_27 zs_29))), ((ma 51), eI D 6 ts), ((ma 52), eI D 6 (nF tl)), ((ma 53), eJ D 360 h), ((ma 54), eJ D 60 ad)]) : ∀ (t9 k : Nat), k + t9 = n → ∀ h : Nat → Int64, (∀ x, 60 * t + j ≤ x → x < 60 * t + j + k → h x = itm ti (60 * t + i + (x - (60 * t + j)))) → (∀ x, ¬ (60 * t + j ≤ x ∧ x < 60 * t + j + k) → h x = itm ti x) → V D X 0 0 141 [(0, .ref mo), (1, .int (nI t)), (2, .int (nI i)), (3, .int (nI t)), (4, .int (nI j)), (5, .int (nI n)), (6, .int (nI k))] [] [(mo, .inr (10, M1R ma (mZ c c2 tk vc ln rn zs_10 zs_11 zs_20 zs_21 zs_22 zs_25 zs_26 zs_27 zs_29))), ((ma 51), eI D 6 ts), ((ma 52), eI D 6 (nF tl)), ((ma 53), eJ D 360 h), ((ma 54), eJ D 60 ad)] := by
  intro t9
  induction t9 with
  | zero =>
    intro k hk h h1 h2
    refine v_iload O dX10_shift_141 6 rfl ?_
    refine v_iload O dX10_shift_143 5 rfl ?_
    refine v_icmp_ge O 176 dX10_shift_145 (by decide) (fun z1 => ?_) (fun z1 => ?_)
    · skip
      have z1 := (c_le' (x := nI k) (y := nI n) (a := k) (b := n) rfl rfl (by omega) (by omega)).mp z1
      refine v_eq (lv' := [(0, .ref mo), (1, .int (nI t)), (2, .int (nI i)), (3, .int (nI t)), (4, .int (nI j)), (5, .int (nI n)), (6, .int (nI n))]) rfl (by rw [show k = n by omega]) rfl rfl ?_
      exact K h (fun x a b => h1 x a (by omega)) (fun x a => h2 x (fun b => a ⟨b.1, by omega⟩))
    · skip
      have z1 := (not_congr (c_le' (x := nI k) (y := nI n) (a := k) (b := n) rfl rfl (by omega) (by omega))).mp z1
      exact absurd z1 (by omega)
  | succ t9 ih =>
    intro k hk h h1 h2
    refine v_iload O dX10_shift_141 6 rfl ?_
    refine v_iload O dX10_shift_143 5 rfl ?_
    refine v_icmp_ge O 176 dX10_shift_145 (by decide) (fun z1 => ?_) (fun z1 => ?_)
    · skip
      have z1 := (c_le' (x := nI k) (y := nI n) (a := k) (b := n) rfl rfl (by omega) (by omega)).mp z1
      exact absurd z1 (by omega)
    · skip
      have z1 := (not_congr (c_le' (x := nI k) (y := nI n) (a := k) (b := n) rfl rfl (by omega) (by omega))).mp z1
      refine v_aload_n O dX10_shift_148 0 rfl ?_
      refine gf_X10_172 (v := .ref (ma 53)) O rfl dX10_shift_149 0 rfl rfl ?_
      refine v_bipush (v := 60) O dX10_shift_152 (by decide) ?_
      refine v_iload_n O dX10_shift_154 3 rfl ?_
      refine v_imul O dX10_shift_155 ?_
      refine v_top (y := nI (60 * t)) (pk_mul 60 t) ?_
      refine v_iload O dX10_shift_156 4 rfl ?_
      refine v_iadd O dX10_shift_158 ?_
      refine v_top (y := nI ((60 * t) + j)) (nI_add (60 * t) j) ?_
      refine v_iload O dX10_shift_159 6 rfl ?_
      refine v_iadd O dX10_shift_161 ?_
      refine v_top (y := nI (((60 * t) + j) + k)) (nI_add ((60 * t) + j) k) ?_
      refine v_aload_n O dX10_shift_162 0 rfl ?_
      refine gf_X10_176 (v := .ref (ma 54)) O rfl dX10_shift_163 0 rfl rfl ?_
      refine v_iload O dX10_shift_166 6 rfl ?_
      refine v_laldk O dX10_shift_168 4 rfl k rfl (by omega) (by decide) ?_
      refine v_lastk (ws' := [(mo, .inr (10, M1R ma (mZ c c2 tk vc ln rn zs_10 zs_11 zs_20 zs_21 zs_22 zs_25 zs_26 zs_27 zs_29))), ((ma 51), eI D 6 ts), ((ma 52), eI D 6 (nF tl)), ((ma 53), eJ D 360 (vp_updL h (((60 * t) + j) + k) (ad k))), ((ma 54), eJ D 60 ad)]) O dX10_shift_169 3 rfl (((60 * t) + j) + k) (rfl) (by omega) (by decide) (rfl) ?_
      refine v_iinc (v := nI (k + 1)) (lv' := [(0, .ref mo), (1, .int (nI t)), (2, .int (nI i)), (3, .int (nI t)), (4, .int (nI j)), (5, .int (nI n)), (6, .int (nI (k + 1)))]) O dX10_shift_170 6 rfl (nI_1 k) (by decide) rfl ?_
      refine v_goto O 141 dX10_shift_173 (by decide) ?_
      exact ih (k + 1) (by omega) _ (fun x a b => by
        by_cases e : x = 60 * t + j + k
        · rw [e, vp_updL, if_pos rfl, ha k (by omega), show 60 * t + j + k - (60 * t + j) = k by omega]
        · rw [vp_updL, if_neg e]; exact h1 x a (by omega)) (fun x a => by
        rw [vp_updL, if_neg (fun e => a (by omega))]
        exact h2 x (fun b => a ⟨b.1, by omega⟩))
set_option maxRecDepth 100000 in
set_option maxHeartbeats 4000000 in
theorem sp_X10_shift_7 {D : G} {mo : Nat} {ma : Nat → Nat} {c : CS} {c2 : CS} {tk : Int32} {vc : Nat} {ln : Nat} {rn : Nat} {zs_10 : Int32} {zs_11 : Int32} {zs_20 : Int32} {zs_21 : Int32} {zs_22 : Int32} {zs_25 : Int32} {zs_26 : Int32} {zs_27 : Int32} {zs_29 : Int32} {ts : Nat → Int32} {tl : Nat → Nat} {ti : Nat → Nat → Int64} {t : Nat} {i : Nat} {j : Nat} {n : Nat} {ad : Nat → Int64} (hk : t < 6) (htl : (tl t) ≤ 60) (hts : (ts t) = -1 → (tl t) = 0) (hso : (ts t) = -1 ∨ isIx (ts t) 5) (hs : ¬ (ts t) = -1) (hn : i + n ≤ (tl t)) (hm : j + n ≤ (tl t)) : Sp D mX10_shift 30 0 0 [.ref mo, .int (nI t), .int (nI i), .int (nI t), .int (nI j), .int (nI n)] [(mo, .inr (10, M1R ma (mZ c c2 tk vc ln rn zs_10 zs_11 zs_20 zs_21 zs_22 zs_25 zs_26 zs_27 zs_29))), ((ma 51), eI D 6 ts), ((ma 52), eI D 6 (nF tl)), ((ma 53), eJ D 360 (itm ti)), ((ma 54), eJ D 60 ad)] (fun r w => ∃ zs2_10 : Int32, ∃ zs2_11 : Int32, ∃ zs2_20 : Int32, ∃ zs2_21 : Int32, ∃ zs2_22 : Int32, ∃ zs2_25 : Int32, ∃ zs2_26 : Int32, ∃ zs2_27 : Int32, ∃ zs2_29 : Int32, ∃ ad2 : Nat → Int64, r = some (.int (nI n)) ∧ w = [(mo, .inr (10, M1R ma (mZ c c2 tk vc ln rn zs2_10 zs2_11 zs2_20 zs2_21 zs2_22 zs2_25 zs2_26 zs2_27 zs2_29))), ((ma 51), eI D 6 ts), ((ma 52), eI D 6 (nF tl)), ((ma 53), eJ D 360 (itm (updT ti t (va_cpy (ti t) (ti t) i j n)))), ((ma 54), eJ D 60 ad2)]) := by
  refine Sp.of (by decide) (Nat.le_of_ble_eq_true rfl) (fun X O T => ?_)
  refine v_eq (lv' := [(0, .ref mo), (1, .int (nI t)), (2, .int (nI i)), (3, .int (nI t)), (4, .int (nI j)), (5, .int (nI n))]) rfl rfl rfl rfl ?_
  refine v_aload_n O dX10_shift_0 0 rfl ?_
  refine v_iload_n O dX10_shift_1 1 rfl ?_
  refine v_cV (T := TX10) (ci := 10) (As := [.int (nI t)]) (wr := [((ma 51), eI D 6 ts), ((ma 52), eI D 6 (nF tl)), ((ma 53), eJ D 360 (itm ti)), ((ma 54), eJ D 60 ad)]) (st := []) O cf_X10_315 rfl (sp_X10_isTape (mo := mo) (ma := ma) (c := c) (c2 := c2) (tk := tk) (vc := vc) (ln := ln) (rn := rn) (zs_10 := zs_10) (zs_11 := zs_11) (zs_20 := zs_20) (zs_21 := zs_21) (zs_22 := zs_22) (zs_25 := zs_25) (zs_26 := zs_26) (zs_27 := zs_27) (zs_29 := zs_29) (t := (nI t)) ) dX10_shift_2 rfl rfl 0 rfl [0] [1, 2, 3, 4] (by decide) rfl rfl (by decide) (by decide) (by decide) (Nat.le_of_ble_eq_true rfl) (by decide) (by decide) (fun r_2 w_3 h_1 => ?_)
  obtain ⟨rfl, rfl⟩ := h_1
  refine v_eq (st' := [.int (b2i (isIx (nI t) 6))]) (ws' := [((ma 51), eI D 6 ts), ((ma 52), eI D 6 (nF tl)), ((ma 53), eJ D 360 (itm ti)), ((ma 54), eJ D 60 ad), (mo, .inr (10, M1R ma (mZ c c2 tk vc ln rn zs_10 zs_11 zs_20 zs_21 zs_22 zs_25 zs_26 zs_27 zs_29)))]) rfl rfl rfl rfl ?_
  refine v_if_eq O 16 dX10_shift_5 (by decide) (fun z1 => ?_) (fun z1 => ?_)
  · skip
    have z1 := b2i_0.mp z1
    exact absurd ((isIx_nI (by omega) (by omega)).mpr hk) z1
  · skip
    have z1 := b2i_1.mp z1
    refine v_aload_n O dX10_shift_8 0 rfl ?_
    refine v_iload_n O dX10_shift_9 3 rfl ?_
    refine v_cV (T := TX10) (ci := 10) (As := [.int (nI t)]) (wr := [((ma 51), eI D 6 ts), ((ma 52), eI D 6 (nF tl)), ((ma 53), eJ D 360 (itm ti)), ((ma 54), eJ D 60 ad)]) (st := []) O cf_X10_315 rfl (sp_X10_isTape (mo := mo) (ma := ma) (c := c) (c2 := c2) (tk := tk) (vc := vc) (ln := ln) (rn := rn) (zs_10 := zs_10) (zs_11 := zs_11) (zs_20 := zs_20) (zs_21 := zs_21) (zs_22 := zs_22) (zs_25 := zs_25) (zs_26 := zs_26) (zs_27 := zs_27) (zs_29 := zs_29) (t := (nI t)) ) dX10_shift_10 rfl rfl 4 rfl [4] [0, 1, 2, 3] (by decide) rfl rfl (by decide) (by decide) (by decide) (Nat.le_of_ble_eq_true rfl) (by decide) (by decide) (fun r_5 w_6 h_4 => ?_)
    obtain ⟨rfl, rfl⟩ := h_4
    refine v_eq (st' := [.int (b2i (isIx (nI t) 6))]) (ws' := [((ma 51), eI D 6 ts), ((ma 52), eI D 6 (nF tl)), ((ma 53), eJ D 360 (itm ti)), ((ma 54), eJ D 60 ad), (mo, .inr (10, M1R ma (mZ c c2 tk vc ln rn zs_10 zs_11 zs_20 zs_21 zs_22 zs_25 zs_26 zs_27 zs_29)))]) rfl rfl rfl rfl ?_
    refine v_if_ne O 18 dX10_shift_13 (by decide) (fun z2 => ?_) (fun z2 => ?_)
    · skip
      have z2 := b2i_1.mp z2
      refine v_aload_n O dX10_shift_18 0 rfl ?_
      refine gf_X10_166 (v := .ref (ma 51)) O rfl dX10_shift_19 4 rfl rfl ?_
      refine v_iload_n O dX10_shift_22 1 rfl ?_
      refine v_ialdk O dX10_shift_23 0 rfl t rfl (by omega) (by decide) ?_
      refine v_if_lt O 36 dX10_shift_24 (by decide) (fun z3 => ?_) (fun z3 => ?_)
      · skip
        exact absurd z3 (so_ge hso hs)
      · skip
        refine v_aload_n O dX10_shift_27 0 rfl ?_
        refine gf_X10_166 (v := .ref (ma 51)) O rfl dX10_shift_28 4 rfl rfl ?_
        refine v_iload_n O dX10_shift_31 3 rfl ?_
        refine v_ialdk O dX10_shift_32 0 rfl t rfl (by omega) (by decide) ?_
        refine v_if_ge O 39 dX10_shift_33 (by decide) (fun z4 => ?_) (fun z4 => ?_)
        · skip
          refine v_aload_n O dX10_shift_39 0 rfl ?_
          refine gf_X10_166 (v := .ref (ma 51)) O rfl dX10_shift_40 4 rfl rfl ?_
          refine v_iload_n O dX10_shift_43 1 rfl ?_
          refine v_ialdk O dX10_shift_44 0 rfl t rfl (by omega) (by decide) ?_
          refine v_aload_n O dX10_shift_45 0 rfl ?_
          refine gf_X10_166 (v := .ref (ma 51)) O rfl dX10_shift_46 4 rfl rfl ?_
          refine v_iload_n O dX10_shift_49 3 rfl ?_
          refine v_ialdk O dX10_shift_50 0 rfl t rfl (by omega) (by decide) ?_
          refine v_icmp_eq O 57 dX10_shift_51 (by decide) (fun z5 => ?_) (fun z5 => ?_)
          · skip
            refine v_iload O dX10_shift_57 5 rfl ?_
            refine v_if_lt O 98 dX10_shift_59 (by decide) (fun c_7 => ?_) (fun c_7 => ?_)
            · skip
              have c_7 := (c_lt (x := nI n) (y := 0) (a := n) (b := 0) rfl rfl (by omega) (by omega)).mp c_7
              exact absurd c_7 (by omega)
            · skip
              have c_7 := (not_congr (c_lt (x := nI n) (y := 0) (a := n) (b := 0) rfl rfl (by omega) (by omega))).mp c_7
              refine v_iload_n O dX10_shift_62 2 rfl ?_
              refine v_if_lt O 98 dX10_shift_63 (by decide) (fun c_8 => ?_) (fun c_8 => ?_)
              · skip
                have c_8 := (c_lt (x := nI i) (y := 0) (a := i) (b := 0) rfl rfl (by omega) (by omega)).mp c_8
                exact absurd c_8 (by omega)
              · skip
                have c_8 := (not_congr (c_lt (x := nI i) (y := 0) (a := i) (b := 0) rfl rfl (by omega) (by omega))).mp c_8
                refine v_iload O dX10_shift_66 4 rfl ?_
                refine v_if_lt O 98 dX10_shift_68 (by decide) (fun c_9 => ?_) (fun c_9 => ?_)
                · skip
                  have c_9 := (c_lt (x := nI j) (y := 0) (a := j) (b := 0) rfl rfl (by omega) (by omega)).mp c_9
                  exact absurd c_9 (by omega)
                · skip
                  have c_9 := (not_congr (c_lt (x := nI j) (y := 0) (a := j) (b := 0) rfl rfl (by omega) (by omega))).mp c_9
                  refine v_iload_n O dX10_shift_71 2 rfl ?_
                  refine v_aload_n O dX10_shift_72 0 rfl ?_
                  refine gf_X10_169 (v := .ref (ma 52)) O rfl dX10_shift_73 4 rfl rfl ?_
                  refine v_iload_n O dX10_shift_76 1 rfl ?_
                  refine v_ialdk O dX10_shift_77 1 rfl t rfl (by omega) (by decide) ?_
                  refine v_top (y := nI (tl t)) rfl ?_
                  refine v_iload O dX10_shift_78 5 rfl ?_
                  refine v_isub O dX10_shift_80 ?_
                  refine v_top (y := nI (tl t - n)) (pk_sub (by omega)) ?_
                  refine v_icmp_gt O 98 dX10_shift_81 (by decide) (fun z9 => ?_) (fun z9 => ?_)
                  · skip
                    have z9 := (c_lt' (x := nI i) (y := nI (tl t - n)) (a := i) (b := tl t - n) rfl rfl (by omega) (by omega)).mp z9
                    exact absurd z9 (by omega)
                  · skip
                    have z9 := (not_congr (c_lt' (x := nI i) (y := nI (tl t - n)) (a := i) (b := tl t - n) rfl rfl (by omega) (by omega))).mp z9
                    refine v_iload O dX10_shift_84 4 rfl ?_
                    refine v_aload_n O dX10_shift_86 0 rfl ?_
                    refine gf_X10_169 (v := .ref (ma 52)) O rfl dX10_shift_87 4 rfl rfl ?_
                    refine v_iload_n O dX10_shift_90 3 rfl ?_
                    refine v_ialdk O dX10_shift_91 1 rfl t rfl (by omega) (by decide) ?_
                    refine v_top (y := nI (tl t)) rfl ?_
                    refine v_iload O dX10_shift_92 5 rfl ?_
                    refine v_isub O dX10_shift_94 ?_
                    refine v_top (y := nI (tl t - n)) (pk_sub (by omega)) ?_
                    refine v_icmp_le O 101 dX10_shift_95 (by decide) (fun z10 => ?_) (fun z10 => ?_)
                    · skip
                      have z10 := (c_le (x := nI j) (y := nI (tl t - n)) (a := j) (b := tl t - n) rfl rfl (by omega) (by omega)).mp z10
                      refine v_iconst (v := 0) O dX10_shift_101 (by decide) ?_
                      refine v_istore (lv' := [(0, .ref mo), (1, .int (nI t)), (2, .int (nI i)), (3, .int (nI t)), (4, .int (nI j)), (5, .int (nI n)), (6, .int 0)]) O dX10_shift_102 (by decide) rfl ?_
                      refine v_sub (ws' := [(mo, .inr (10, M1R ma (mZ c c2 tk vc ln rn zs_10 zs_11 zs_20 zs_21 zs_22 zs_25 zs_26 zs_27 zs_29))), ((ma 51), eI D 6 ts), ((ma 52), eI D 6 (nF tl)), ((ma 53), eJ D 360 (itm ti)), ((ma 54), eJ D 60 ad)]) [4, 0, 1, 2, 3] (by decide) rfl ?_
                      refine v_eq (lv' := [(0, .ref mo), (1, .int (nI t)), (2, .int (nI i)), (3, .int (nI t)), (4, .int (nI j)), (5, .int (nI n)), (6, .int (nI 0))]) rfl rfl rfl rfl ?_
                      refine l_X10_shA O hk (by omega) (fun ad1 ha => ?_) n 0 (by omega) _ (fun x hx => absurd hx (Nat.not_lt_zero x))
                      refine v_iconst (v := 0) O dX10_shift_138 (by decide) ?_
                      refine v_istore (lv' := [(0, .ref mo), (1, .int (nI t)), (2, .int (nI i)), (3, .int (nI t)), (4, .int (nI j)), (5, .int (nI n)), (6, .int 0)]) O dX10_shift_139 (by decide) rfl ?_
                      refine v_eq (lv' := [(0, .ref mo), (1, .int (nI t)), (2, .int (nI i)), (3, .int (nI t)), (4, .int (nI j)), (5, .int (nI n)), (6, .int (nI 0))]) rfl rfl rfl rfl ?_
                      refine l_X10_shB O hk (by omega) ha (fun h h1 h2 => ?_) n 0 (by omega) _ (fun x a b => by omega) (fun x _ => rfl)
                      refine v_congJ (g := itm (updT ti t (va_cpy (ti t) (ti t) i j n))) (ws' := [(mo, .inr (10, M1R ma (mZ c c2 tk vc ln rn zs_10 zs_11 zs_20 zs_21 zs_22 zs_25 zs_26 zs_27 zs_29))), ((ma 51), eI D 6 ts), ((ma 52), eI D 6 (nF tl)), ((ma 53), eJ D 360 (itm (updT ti t (va_cpy (ti t) (ti t) i j n)))), ((ma 54), eJ D 60 ad1)]) 3 rfl (itm_cpy (by omega) (by omega) h1 h2) rfl ?_
                      refine v_iload O dX10_shift_176 5 rfl ?_
                      exact v_ireturn O T rfl rfl (by decide) (by decide) dX10_shift_178 (⟨zs_10, zs_11, zs_20, zs_21, zs_22, zs_25, zs_26, zs_27, zs_29, _, rfl, rfl⟩)
                      
                      
                    · skip
                      have z10 := (not_congr (c_le (x := nI j) (y := nI (tl t - n)) (a := j) (b := tl t - n) rfl rfl (by omega) (by omega))).mp z10
                      exact absurd z10 (by omega)
          · skip
            exact absurd rfl z5
        · skip
          exact absurd (Int32.not_lt.mp (so_ge hso hs)) z4
    · skip
      have z2 := b2i_0.mp z2
      exact absurd ((isIx_nI (by omega) (by omega)).mpr hk) z2
set_option maxRecDepth 100000 in
set_option maxHeartbeats 4000000 in
theorem sp_X10_shift_8 {D : G} {mo : Nat} {ma : Nat → Nat} {c : CS} {c2 : CS} {tk : Int32} {vc : Nat} {ln : Nat} {rn : Nat} {zs_10 : Int32} {zs_11 : Int32} {zs_20 : Int32} {zs_21 : Int32} {zs_22 : Int32} {zs_25 : Int32} {zs_26 : Int32} {zs_27 : Int32} {zs_29 : Int32} {ts : Nat → Int32} {tl : Nat → Nat} {ti : Nat → Nat → Int64} {t : Nat} {u : Nat} {i : Int32} {j : Int32} {n : Int32} {ad : Nat → Int64} (hk : t < 6) (htl : (tl t) ≤ 60) (hts : (ts t) = -1 → (tl t) = 0) (hso : (ts t) = -1 ∨ isIx (ts t) 5) (hk2 : u < 6) (htl2 : (tl u) ≤ 60) (hts2 : (ts u) = -1 → (tl u) = 0) (hso2 : (ts u) = -1 ∨ isIx (ts u) 5) (hs : (ts t) = -1 ∨ (ts u) = -1) : Sp D mX10_shift 30 0 0 [.ref mo, .int (nI t), .int i, .int (nI u), .int j, .int n] [(mo, .inr (10, M1R ma (mZ c c2 tk vc ln rn zs_10 zs_11 zs_20 zs_21 zs_22 zs_25 zs_26 zs_27 zs_29))), ((ma 51), eI D 6 ts), ((ma 52), eI D 6 (nF tl)), ((ma 53), eJ D 360 (itm ti)), ((ma 54), eJ D 60 ad)] (fun r w => ∃ zs2_10 : Int32, ∃ zs2_11 : Int32, ∃ zs2_20 : Int32, ∃ zs2_21 : Int32, ∃ zs2_22 : Int32, ∃ zs2_25 : Int32, ∃ zs2_26 : Int32, ∃ zs2_27 : Int32, ∃ zs2_29 : Int32, ∃ ad2 : Nat → Int64, r = some (.int (-11)) ∧ w = [(mo, .inr (10, M1R ma (mZ c c2 tk vc ln rn zs2_10 zs2_11 zs2_20 zs2_21 zs2_22 zs2_25 zs2_26 zs2_27 zs2_29))), ((ma 51), eI D 6 ts), ((ma 52), eI D 6 (nF tl)), ((ma 53), eJ D 360 (itm ti)), ((ma 54), eJ D 60 ad2)]) := by
  refine Sp.of (by decide) (Nat.le_of_ble_eq_true rfl) (fun X O T => ?_)
  refine v_eq (lv' := [(0, .ref mo), (1, .int (nI t)), (2, .int i), (3, .int (nI u)), (4, .int j), (5, .int n)]) rfl rfl rfl rfl ?_
  refine v_aload_n O dX10_shift_0 0 rfl ?_
  refine v_iload_n O dX10_shift_1 1 rfl ?_
  refine v_cV (T := TX10) (ci := 10) (As := [.int (nI t)]) (wr := [((ma 51), eI D 6 ts), ((ma 52), eI D 6 (nF tl)), ((ma 53), eJ D 360 (itm ti)), ((ma 54), eJ D 60 ad)]) (st := []) O cf_X10_315 rfl (sp_X10_isTape (mo := mo) (ma := ma) (c := c) (c2 := c2) (tk := tk) (vc := vc) (ln := ln) (rn := rn) (zs_10 := zs_10) (zs_11 := zs_11) (zs_20 := zs_20) (zs_21 := zs_21) (zs_22 := zs_22) (zs_25 := zs_25) (zs_26 := zs_26) (zs_27 := zs_27) (zs_29 := zs_29) (t := (nI t)) ) dX10_shift_2 rfl rfl 0 rfl [0] [1, 2, 3, 4] (by decide) rfl rfl (by decide) (by decide) (by decide) (Nat.le_of_ble_eq_true rfl) (by decide) (by decide) (fun r_2 w_3 h_1 => ?_)
  obtain ⟨rfl, rfl⟩ := h_1
  refine v_eq (st' := [.int (b2i (isIx (nI t) 6))]) (ws' := [((ma 51), eI D 6 ts), ((ma 52), eI D 6 (nF tl)), ((ma 53), eJ D 360 (itm ti)), ((ma 54), eJ D 60 ad), (mo, .inr (10, M1R ma (mZ c c2 tk vc ln rn zs_10 zs_11 zs_20 zs_21 zs_22 zs_25 zs_26 zs_27 zs_29)))]) rfl rfl rfl rfl ?_
  refine v_if_eq O 16 dX10_shift_5 (by decide) (fun z1 => ?_) (fun z1 => ?_)
  · skip
    have z1 := b2i_0.mp z1
    exact absurd ((isIx_nI (by omega) (by omega)).mpr hk) z1
  · skip
    have z1 := b2i_1.mp z1
    refine v_aload_n O dX10_shift_8 0 rfl ?_
    refine v_iload_n O dX10_shift_9 3 rfl ?_
    refine v_cV (T := TX10) (ci := 10) (As := [.int (nI u)]) (wr := [((ma 51), eI D 6 ts), ((ma 52), eI D 6 (nF tl)), ((ma 53), eJ D 360 (itm ti)), ((ma 54), eJ D 60 ad)]) (st := []) O cf_X10_315 rfl (sp_X10_isTape (mo := mo) (ma := ma) (c := c) (c2 := c2) (tk := tk) (vc := vc) (ln := ln) (rn := rn) (zs_10 := zs_10) (zs_11 := zs_11) (zs_20 := zs_20) (zs_21 := zs_21) (zs_22 := zs_22) (zs_25 := zs_25) (zs_26 := zs_26) (zs_27 := zs_27) (zs_29 := zs_29) (t := (nI u)) ) dX10_shift_10 rfl rfl 4 rfl [4] [0, 1, 2, 3] (by decide) rfl rfl (by decide) (by decide) (by decide) (Nat.le_of_ble_eq_true rfl) (by decide) (by decide) (fun r_5 w_6 h_4 => ?_)
    obtain ⟨rfl, rfl⟩ := h_4
    refine v_eq (st' := [.int (b2i (isIx (nI u) 6))]) (ws' := [((ma 51), eI D 6 ts), ((ma 52), eI D 6 (nF tl)), ((ma 53), eJ D 360 (itm ti)), ((ma 54), eJ D 60 ad), (mo, .inr (10, M1R ma (mZ c c2 tk vc ln rn zs_10 zs_11 zs_20 zs_21 zs_22 zs_25 zs_26 zs_27 zs_29)))]) rfl rfl rfl rfl ?_
    refine v_if_ne O 18 dX10_shift_13 (by decide) (fun z2 => ?_) (fun z2 => ?_)
    · skip
      have z2 := b2i_1.mp z2
      refine v_aload_n O dX10_shift_18 0 rfl ?_
      refine gf_X10_166 (v := .ref (ma 51)) O rfl dX10_shift_19 4 rfl rfl ?_
      refine v_iload_n O dX10_shift_22 1 rfl ?_
      refine v_ialdk O dX10_shift_23 0 rfl t rfl (by omega) (by decide) ?_
      refine v_if_lt O 36 dX10_shift_24 (by decide) (fun z3 => ?_) (fun z3 => ?_)
      · skip
        refine v_bipush (v := -11) O dX10_shift_36 (by decide) ?_
        refine v_sub (ws' := [(mo, .inr (10, M1R ma (mZ c c2 tk vc ln rn zs_10 zs_11 zs_20 zs_21 zs_22 zs_25 zs_26 zs_27 zs_29))), ((ma 51), eI D 6 ts), ((ma 52), eI D 6 (nF tl)), ((ma 53), eJ D 360 (itm ti)), ((ma 54), eJ D 60 ad)]) [4, 0, 1, 2, 3] (by decide) rfl ?_
        exact v_ireturn O T rfl rfl (by decide) (by decide) dX10_shift_38 (⟨zs_10, zs_11, zs_20, zs_21, zs_22, zs_25, zs_26, zs_27, zs_29, _, rfl, rfl⟩)
      · skip
        refine v_aload_n O dX10_shift_27 0 rfl ?_
        refine gf_X10_166 (v := .ref (ma 51)) O rfl dX10_shift_28 4 rfl rfl ?_
        refine v_iload_n O dX10_shift_31 3 rfl ?_
        refine v_ialdk O dX10_shift_32 0 rfl u rfl (by omega) (by decide) ?_
        refine v_if_ge O 39 dX10_shift_33 (by decide) (fun z4 => ?_) (fun z4 => ?_)
        · skip
          exact absurd (Int32.not_lt.mpr z4) (not_not_intro (hs.elim (fun e => absurd (by rw [e]; decide) z3) (fun e => by rw [e]; decide)))
        · skip
          refine v_bipush (v := -11) O dX10_shift_36 (by decide) ?_
          refine v_sub (ws' := [(mo, .inr (10, M1R ma (mZ c c2 tk vc ln rn zs_10 zs_11 zs_20 zs_21 zs_22 zs_25 zs_26 zs_27 zs_29))), ((ma 51), eI D 6 ts), ((ma 52), eI D 6 (nF tl)), ((ma 53), eJ D 360 (itm ti)), ((ma 54), eJ D 60 ad)]) [4, 0, 1, 2, 3] (by decide) rfl ?_
          exact v_ireturn O T rfl rfl (by decide) (by decide) dX10_shift_38 (⟨zs_10, zs_11, zs_20, zs_21, zs_22, zs_25, zs_26, zs_27, zs_29, _, rfl, rfl⟩)
    · skip
      have z2 := b2i_0.mp z2
      exact absurd ((isIx_nI (by omega) (by omega)).mpr hk2) z2
set_option maxRecDepth 100000 in
set_option maxHeartbeats 4000000 in
theorem sp_X10_shift_9 {D : G} {mo : Nat} {ma : Nat → Nat} {c : CS} {c2 : CS} {tk : Int32} {vc : Nat} {ln : Nat} {rn : Nat} {zs_10 : Int32} {zs_11 : Int32} {zs_20 : Int32} {zs_21 : Int32} {zs_22 : Int32} {zs_25 : Int32} {zs_26 : Int32} {zs_27 : Int32} {zs_29 : Int32} {ts : Nat → Int32} {tl : Nat → Nat} {ti : Nat → Nat → Int64} {t : Nat} {u : Nat} {i : Int32} {j : Int32} {n : Int32} {ad : Nat → Int64} (hk : t < 6) (htl : (tl t) ≤ 60) (hts : (ts t) = -1 → (tl t) = 0) (hso : (ts t) = -1 ∨ isIx (ts t) 5) (hk2 : u < 6) (htl2 : (tl u) ≤ 60) (hts2 : (ts u) = -1 → (tl u) = 0) (hso2 : (ts u) = -1 ∨ isIx (ts u) 5) (hs : ¬ (ts t) = -1) (hs2 : ¬ (ts u) = -1) (hne : ¬ (ts t) = (ts u)) : Sp D mX10_shift 30 0 0 [.ref mo, .int (nI t), .int i, .int (nI u), .int j, .int n] [(mo, .inr (10, M1R ma (mZ c c2 tk vc ln rn zs_10 zs_11 zs_20 zs_21 zs_22 zs_25 zs_26 zs_27 zs_29))), ((ma 51), eI D 6 ts), ((ma 52), eI D 6 (nF tl)), ((ma 53), eJ D 360 (itm ti)), ((ma 54), eJ D 60 ad)] (fun r w => ∃ zs2_10 : Int32, ∃ zs2_11 : Int32, ∃ zs2_20 : Int32, ∃ zs2_21 : Int32, ∃ zs2_22 : Int32, ∃ zs2_25 : Int32, ∃ zs2_26 : Int32, ∃ zs2_27 : Int32, ∃ zs2_29 : Int32, ∃ ad2 : Nat → Int64, r = some (.int (-12)) ∧ w = [(mo, .inr (10, M1R ma (mZ c c2 tk vc ln rn zs2_10 zs2_11 zs2_20 zs2_21 zs2_22 zs2_25 zs2_26 zs2_27 zs2_29))), ((ma 51), eI D 6 ts), ((ma 52), eI D 6 (nF tl)), ((ma 53), eJ D 360 (itm ti)), ((ma 54), eJ D 60 ad2)]) := by
  refine Sp.of (by decide) (Nat.le_of_ble_eq_true rfl) (fun X O T => ?_)
  refine v_eq (lv' := [(0, .ref mo), (1, .int (nI t)), (2, .int i), (3, .int (nI u)), (4, .int j), (5, .int n)]) rfl rfl rfl rfl ?_
  refine v_aload_n O dX10_shift_0 0 rfl ?_
  refine v_iload_n O dX10_shift_1 1 rfl ?_
  refine v_cV (T := TX10) (ci := 10) (As := [.int (nI t)]) (wr := [((ma 51), eI D 6 ts), ((ma 52), eI D 6 (nF tl)), ((ma 53), eJ D 360 (itm ti)), ((ma 54), eJ D 60 ad)]) (st := []) O cf_X10_315 rfl (sp_X10_isTape (mo := mo) (ma := ma) (c := c) (c2 := c2) (tk := tk) (vc := vc) (ln := ln) (rn := rn) (zs_10 := zs_10) (zs_11 := zs_11) (zs_20 := zs_20) (zs_21 := zs_21) (zs_22 := zs_22) (zs_25 := zs_25) (zs_26 := zs_26) (zs_27 := zs_27) (zs_29 := zs_29) (t := (nI t)) ) dX10_shift_2 rfl rfl 0 rfl [0] [1, 2, 3, 4] (by decide) rfl rfl (by decide) (by decide) (by decide) (Nat.le_of_ble_eq_true rfl) (by decide) (by decide) (fun r_2 w_3 h_1 => ?_)
  obtain ⟨rfl, rfl⟩ := h_1
  refine v_eq (st' := [.int (b2i (isIx (nI t) 6))]) (ws' := [((ma 51), eI D 6 ts), ((ma 52), eI D 6 (nF tl)), ((ma 53), eJ D 360 (itm ti)), ((ma 54), eJ D 60 ad), (mo, .inr (10, M1R ma (mZ c c2 tk vc ln rn zs_10 zs_11 zs_20 zs_21 zs_22 zs_25 zs_26 zs_27 zs_29)))]) rfl rfl rfl rfl ?_
  refine v_if_eq O 16 dX10_shift_5 (by decide) (fun z1 => ?_) (fun z1 => ?_)
  · skip
    have z1 := b2i_0.mp z1
    exact absurd ((isIx_nI (by omega) (by omega)).mpr hk) z1
  · skip
    have z1 := b2i_1.mp z1
    refine v_aload_n O dX10_shift_8 0 rfl ?_
    refine v_iload_n O dX10_shift_9 3 rfl ?_
    refine v_cV (T := TX10) (ci := 10) (As := [.int (nI u)]) (wr := [((ma 51), eI D 6 ts), ((ma 52), eI D 6 (nF tl)), ((ma 53), eJ D 360 (itm ti)), ((ma 54), eJ D 60 ad)]) (st := []) O cf_X10_315 rfl (sp_X10_isTape (mo := mo) (ma := ma) (c := c) (c2 := c2) (tk := tk) (vc := vc) (ln := ln) (rn := rn) (zs_10 := zs_10) (zs_11 := zs_11) (zs_20 := zs_20) (zs_21 := zs_21) (zs_22 := zs_22) (zs_25 := zs_25) (zs_26 := zs_26) (zs_27 := zs_27) (zs_29 := zs_29) (t := (nI u)) ) dX10_shift_10 rfl rfl 4 rfl [4] [0, 1, 2, 3] (by decide) rfl rfl (by decide) (by decide) (by decide) (Nat.le_of_ble_eq_true rfl) (by decide) (by decide) (fun r_5 w_6 h_4 => ?_)
    obtain ⟨rfl, rfl⟩ := h_4
    refine v_eq (st' := [.int (b2i (isIx (nI u) 6))]) (ws' := [((ma 51), eI D 6 ts), ((ma 52), eI D 6 (nF tl)), ((ma 53), eJ D 360 (itm ti)), ((ma 54), eJ D 60 ad), (mo, .inr (10, M1R ma (mZ c c2 tk vc ln rn zs_10 zs_11 zs_20 zs_21 zs_22 zs_25 zs_26 zs_27 zs_29)))]) rfl rfl rfl rfl ?_
    refine v_if_ne O 18 dX10_shift_13 (by decide) (fun z2 => ?_) (fun z2 => ?_)
    · skip
      have z2 := b2i_1.mp z2
      refine v_aload_n O dX10_shift_18 0 rfl ?_
      refine gf_X10_166 (v := .ref (ma 51)) O rfl dX10_shift_19 4 rfl rfl ?_
      refine v_iload_n O dX10_shift_22 1 rfl ?_
      refine v_ialdk O dX10_shift_23 0 rfl t rfl (by omega) (by decide) ?_
      refine v_if_lt O 36 dX10_shift_24 (by decide) (fun z3 => ?_) (fun z3 => ?_)
      · skip
        exact absurd z3 (so_ge hso hs)
      · skip
        refine v_aload_n O dX10_shift_27 0 rfl ?_
        refine gf_X10_166 (v := .ref (ma 51)) O rfl dX10_shift_28 4 rfl rfl ?_
        refine v_iload_n O dX10_shift_31 3 rfl ?_
        refine v_ialdk O dX10_shift_32 0 rfl u rfl (by omega) (by decide) ?_
        refine v_if_ge O 39 dX10_shift_33 (by decide) (fun z4 => ?_) (fun z4 => ?_)
        · skip
          refine v_aload_n O dX10_shift_39 0 rfl ?_
          refine gf_X10_166 (v := .ref (ma 51)) O rfl dX10_shift_40 4 rfl rfl ?_
          refine v_iload_n O dX10_shift_43 1 rfl ?_
          refine v_ialdk O dX10_shift_44 0 rfl t rfl (by omega) (by decide) ?_
          refine v_aload_n O dX10_shift_45 0 rfl ?_
          refine gf_X10_166 (v := .ref (ma 51)) O rfl dX10_shift_46 4 rfl rfl ?_
          refine v_iload_n O dX10_shift_49 3 rfl ?_
          refine v_ialdk O dX10_shift_50 0 rfl u rfl (by omega) (by decide) ?_
          refine v_icmp_eq O 57 dX10_shift_51 (by decide) (fun z5 => ?_) (fun z5 => ?_)
          · skip
            exact absurd z5 hne
          · skip
            refine v_bipush (v := -12) O dX10_shift_54 (by decide) ?_
            refine v_sub (ws' := [(mo, .inr (10, M1R ma (mZ c c2 tk vc ln rn zs_10 zs_11 zs_20 zs_21 zs_22 zs_25 zs_26 zs_27 zs_29))), ((ma 51), eI D 6 ts), ((ma 52), eI D 6 (nF tl)), ((ma 53), eJ D 360 (itm ti)), ((ma 54), eJ D 60 ad)]) [4, 0, 1, 2, 3] (by decide) rfl ?_
            exact v_ireturn O T rfl rfl (by decide) (by decide) dX10_shift_56 (⟨zs_10, zs_11, zs_20, zs_21, zs_22, zs_25, zs_26, zs_27, zs_29, _, rfl, rfl⟩)
        · skip
          exact absurd (Int32.not_lt.mp (so_ge hso2 hs2)) z4
    · skip
      have z2 := b2i_0.mp z2
      exact absurd ((isIx_nI (by omega) (by omega)).mpr hk2) z2
set_option maxRecDepth 100000 in
set_option maxHeartbeats 4000000 in
theorem sp_X10_shift_10 {D : G} {mo : Nat} {ma : Nat → Nat} {c : CS} {c2 : CS} {tk : Int32} {vc : Nat} {ln : Nat} {rn : Nat} {zs_10 : Int32} {zs_11 : Int32} {zs_20 : Int32} {zs_21 : Int32} {zs_22 : Int32} {zs_25 : Int32} {zs_26 : Int32} {zs_27 : Int32} {zs_29 : Int32} {ts : Nat → Int32} {tl : Nat → Nat} {ti : Nat → Nat → Int64} {t : Nat} {u : Nat} {i : Int32} {j : Int32} {n : Int32} {ad : Nat → Int64} (hk : t < 6) (htl : (tl t) ≤ 60) (hts : (ts t) = -1 → (tl t) = 0) (hso : (ts t) = -1 ∨ isIx (ts t) 5) (hk2 : u < 6) (htl2 : (tl u) ≤ 60) (hts2 : (ts u) = -1 → (tl u) = 0) (hso2 : (ts u) = -1 ∨ isIx (ts u) 5) (hs : ¬ (ts t) = -1) (hs2 : ¬ (ts u) = -1) (heq : (ts t) = (ts u)) (hn : ¬ isSt i n (tl t)) : Sp D mX10_shift 30 0 0 [.ref mo, .int (nI t), .int i, .int (nI u), .int j, .int n] [(mo, .inr (10, M1R ma (mZ c c2 tk vc ln rn zs_10 zs_11 zs_20 zs_21 zs_22 zs_25 zs_26 zs_27 zs_29))), ((ma 51), eI D 6 ts), ((ma 52), eI D 6 (nF tl)), ((ma 53), eJ D 360 (itm ti)), ((ma 54), eJ D 60 ad)] (fun r w => ∃ zs2_10 : Int32, ∃ zs2_11 : Int32, ∃ zs2_20 : Int32, ∃ zs2_21 : Int32, ∃ zs2_22 : Int32, ∃ zs2_25 : Int32, ∃ zs2_26 : Int32, ∃ zs2_27 : Int32, ∃ zs2_29 : Int32, ∃ ad2 : Nat → Int64, r = some (.int (-13)) ∧ w = [(mo, .inr (10, M1R ma (mZ c c2 tk vc ln rn zs2_10 zs2_11 zs2_20 zs2_21 zs2_22 zs2_25 zs2_26 zs2_27 zs2_29))), ((ma 51), eI D 6 ts), ((ma 52), eI D 6 (nF tl)), ((ma 53), eJ D 360 (itm ti)), ((ma 54), eJ D 60 ad2)]) := by
  refine Sp.of (by decide) (Nat.le_of_ble_eq_true rfl) (fun X O T => ?_)
  refine v_eq (lv' := [(0, .ref mo), (1, .int (nI t)), (2, .int i), (3, .int (nI u)), (4, .int j), (5, .int n)]) rfl rfl rfl rfl ?_
  refine v_aload_n O dX10_shift_0 0 rfl ?_
  refine v_iload_n O dX10_shift_1 1 rfl ?_
  refine v_cV (T := TX10) (ci := 10) (As := [.int (nI t)]) (wr := [((ma 51), eI D 6 ts), ((ma 52), eI D 6 (nF tl)), ((ma 53), eJ D 360 (itm ti)), ((ma 54), eJ D 60 ad)]) (st := []) O cf_X10_315 rfl (sp_X10_isTape (mo := mo) (ma := ma) (c := c) (c2 := c2) (tk := tk) (vc := vc) (ln := ln) (rn := rn) (zs_10 := zs_10) (zs_11 := zs_11) (zs_20 := zs_20) (zs_21 := zs_21) (zs_22 := zs_22) (zs_25 := zs_25) (zs_26 := zs_26) (zs_27 := zs_27) (zs_29 := zs_29) (t := (nI t)) ) dX10_shift_2 rfl rfl 0 rfl [0] [1, 2, 3, 4] (by decide) rfl rfl (by decide) (by decide) (by decide) (Nat.le_of_ble_eq_true rfl) (by decide) (by decide) (fun r_2 w_3 h_1 => ?_)
  obtain ⟨rfl, rfl⟩ := h_1
  refine v_eq (st' := [.int (b2i (isIx (nI t) 6))]) (ws' := [((ma 51), eI D 6 ts), ((ma 52), eI D 6 (nF tl)), ((ma 53), eJ D 360 (itm ti)), ((ma 54), eJ D 60 ad), (mo, .inr (10, M1R ma (mZ c c2 tk vc ln rn zs_10 zs_11 zs_20 zs_21 zs_22 zs_25 zs_26 zs_27 zs_29)))]) rfl rfl rfl rfl ?_
  refine v_if_eq O 16 dX10_shift_5 (by decide) (fun z1 => ?_) (fun z1 => ?_)
  · skip
    have z1 := b2i_0.mp z1
    exact absurd ((isIx_nI (by omega) (by omega)).mpr hk) z1
  · skip
    have z1 := b2i_1.mp z1
    refine v_aload_n O dX10_shift_8 0 rfl ?_
    refine v_iload_n O dX10_shift_9 3 rfl ?_
    refine v_cV (T := TX10) (ci := 10) (As := [.int (nI u)]) (wr := [((ma 51), eI D 6 ts), ((ma 52), eI D 6 (nF tl)), ((ma 53), eJ D 360 (itm ti)), ((ma 54), eJ D 60 ad)]) (st := []) O cf_X10_315 rfl (sp_X10_isTape (mo := mo) (ma := ma) (c := c) (c2 := c2) (tk := tk) (vc := vc) (ln := ln) (rn := rn) (zs_10 := zs_10) (zs_11 := zs_11) (zs_20 := zs_20) (zs_21 := zs_21) (zs_22 := zs_22) (zs_25 := zs_25) (zs_26 := zs_26) (zs_27 := zs_27) (zs_29 := zs_29) (t := (nI u)) ) dX10_shift_10 rfl rfl 4 rfl [4] [0, 1, 2, 3] (by decide) rfl rfl (by decide) (by decide) (by decide) (Nat.le_of_ble_eq_true rfl) (by decide) (by decide) (fun r_5 w_6 h_4 => ?_)
    obtain ⟨rfl, rfl⟩ := h_4
    refine v_eq (st' := [.int (b2i (isIx (nI u) 6))]) (ws' := [((ma 51), eI D 6 ts), ((ma 52), eI D 6 (nF tl)), ((ma 53), eJ D 360 (itm ti)), ((ma 54), eJ D 60 ad), (mo, .inr (10, M1R ma (mZ c c2 tk vc ln rn zs_10 zs_11 zs_20 zs_21 zs_22 zs_25 zs_26 zs_27 zs_29)))]) rfl rfl rfl rfl ?_
    refine v_if_ne O 18 dX10_shift_13 (by decide) (fun z2 => ?_) (fun z2 => ?_)
    · skip
      have z2 := b2i_1.mp z2
      refine v_aload_n O dX10_shift_18 0 rfl ?_
      refine gf_X10_166 (v := .ref (ma 51)) O rfl dX10_shift_19 4 rfl rfl ?_
      refine v_iload_n O dX10_shift_22 1 rfl ?_
      refine v_ialdk O dX10_shift_23 0 rfl t rfl (by omega) (by decide) ?_
      refine v_if_lt O 36 dX10_shift_24 (by decide) (fun z3 => ?_) (fun z3 => ?_)
      · skip
        exact absurd z3 (so_ge hso hs)
      · skip
        refine v_aload_n O dX10_shift_27 0 rfl ?_
        refine gf_X10_166 (v := .ref (ma 51)) O rfl dX10_shift_28 4 rfl rfl ?_
        refine v_iload_n O dX10_shift_31 3 rfl ?_
        refine v_ialdk O dX10_shift_32 0 rfl u rfl (by omega) (by decide) ?_
        refine v_if_ge O 39 dX10_shift_33 (by decide) (fun z4 => ?_) (fun z4 => ?_)
        · skip
          refine v_aload_n O dX10_shift_39 0 rfl ?_
          refine gf_X10_166 (v := .ref (ma 51)) O rfl dX10_shift_40 4 rfl rfl ?_
          refine v_iload_n O dX10_shift_43 1 rfl ?_
          refine v_ialdk O dX10_shift_44 0 rfl t rfl (by omega) (by decide) ?_
          refine v_aload_n O dX10_shift_45 0 rfl ?_
          refine gf_X10_166 (v := .ref (ma 51)) O rfl dX10_shift_46 4 rfl rfl ?_
          refine v_iload_n O dX10_shift_49 3 rfl ?_
          refine v_ialdk O dX10_shift_50 0 rfl u rfl (by omega) (by decide) ?_
          refine v_icmp_eq O 57 dX10_shift_51 (by decide) (fun z5 => ?_) (fun z5 => ?_)
          · skip
            refine v_iload O dX10_shift_57 5 rfl ?_
            refine v_if_lt O 98 dX10_shift_59 (by decide) (fun z6 => ?_) (fun z6 => ?_)
            · skip
              refine v_bipush (v := -13) O dX10_shift_98 (by decide) ?_
              refine v_sub (ws' := [(mo, .inr (10, M1R ma (mZ c c2 tk vc ln rn zs_10 zs_11 zs_20 zs_21 zs_22 zs_25 zs_26 zs_27 zs_29))), ((ma 51), eI D 6 ts), ((ma 52), eI D 6 (nF tl)), ((ma 53), eJ D 360 (itm ti)), ((ma 54), eJ D 60 ad)]) [4, 0, 1, 2, 3] (by decide) rfl ?_
              exact v_ireturn O T rfl rfl (by decide) (by decide) dX10_shift_100 (⟨zs_10, zs_11, zs_20, zs_21, zs_22, zs_25, zs_26, zs_27, zs_29, _, rfl, rfl⟩)
            · skip
              refine v_iload_n O dX10_shift_62 2 rfl ?_
              refine v_if_lt O 98 dX10_shift_63 (by decide) (fun z7 => ?_) (fun z7 => ?_)
              · skip
                refine v_bipush (v := -13) O dX10_shift_98 (by decide) ?_
                refine v_sub (ws' := [(mo, .inr (10, M1R ma (mZ c c2 tk vc ln rn zs_10 zs_11 zs_20 zs_21 zs_22 zs_25 zs_26 zs_27 zs_29))), ((ma 51), eI D 6 ts), ((ma 52), eI D 6 (nF tl)), ((ma 53), eJ D 360 (itm ti)), ((ma 54), eJ D 60 ad)]) [4, 0, 1, 2, 3] (by decide) rfl ?_
                exact v_ireturn O T rfl rfl (by decide) (by decide) dX10_shift_100 (⟨zs_10, zs_11, zs_20, zs_21, zs_22, zs_25, zs_26, zs_27, zs_29, _, rfl, rfl⟩)
              · skip
                refine v_iload O dX10_shift_66 4 rfl ?_
                refine v_if_lt O 98 dX10_shift_68 (by decide) (fun z8 => ?_) (fun z8 => ?_)
                · skip
                  refine v_bipush (v := -13) O dX10_shift_98 (by decide) ?_
                  refine v_sub (ws' := [(mo, .inr (10, M1R ma (mZ c c2 tk vc ln rn zs_10 zs_11 zs_20 zs_21 zs_22 zs_25 zs_26 zs_27 zs_29))), ((ma 51), eI D 6 ts), ((ma 52), eI D 6 (nF tl)), ((ma 53), eJ D 360 (itm ti)), ((ma 54), eJ D 60 ad)]) [4, 0, 1, 2, 3] (by decide) rfl ?_
                  exact v_ireturn O T rfl rfl (by decide) (by decide) dX10_shift_100 (⟨zs_10, zs_11, zs_20, zs_21, zs_22, zs_25, zs_26, zs_27, zs_29, _, rfl, rfl⟩)
                · skip
                  refine v_iload_n O dX10_shift_71 2 rfl ?_
                  refine v_aload_n O dX10_shift_72 0 rfl ?_
                  refine gf_X10_169 (v := .ref (ma 52)) O rfl dX10_shift_73 4 rfl rfl ?_
                  refine v_iload_n O dX10_shift_76 1 rfl ?_
                  refine v_ialdk O dX10_shift_77 1 rfl t rfl (by omega) (by decide) ?_
                  refine v_top (y := nI (tl t)) rfl ?_
                  refine v_iload O dX10_shift_78 5 rfl ?_
                  refine v_isub O dX10_shift_80 ?_
                  refine v_icmp_gt O 98 dX10_shift_81 (by decide) (fun z9 => ?_) (fun z9 => ?_)
                  · skip
                    refine v_bipush (v := -13) O dX10_shift_98 (by decide) ?_
                    refine v_sub (ws' := [(mo, .inr (10, M1R ma (mZ c c2 tk vc ln rn zs_10 zs_11 zs_20 zs_21 zs_22 zs_25 zs_26 zs_27 zs_29))), ((ma 51), eI D 6 ts), ((ma 52), eI D 6 (nF tl)), ((ma 53), eJ D 360 (itm ti)), ((ma 54), eJ D 60 ad)]) [4, 0, 1, 2, 3] (by decide) rfl ?_
                    exact v_ireturn O T rfl rfl (by decide) (by decide) dX10_shift_100 (⟨zs_10, zs_11, zs_20, zs_21, zs_22, zs_25, zs_26, zs_27, zs_29, _, rfl, rfl⟩)
                  · skip
                    exact absurd (st_r htl z6 z7 z9) hn
          · skip
            exact absurd heq z5
        · skip
          exact absurd (Int32.not_lt.mp (so_ge hso2 hs2)) z4
    · skip
      have z2 := b2i_0.mp z2
      exact absurd ((isIx_nI (by omega) (by omega)).mpr hk2) z2
set_option maxRecDepth 100000 in
set_option maxHeartbeats 4000000 in
theorem sp_X10_shift_11 {D : G} {mo : Nat} {ma : Nat → Nat} {c : CS} {c2 : CS} {tk : Int32} {vc : Nat} {ln : Nat} {rn : Nat} {zs_10 : Int32} {zs_11 : Int32} {zs_20 : Int32} {zs_21 : Int32} {zs_22 : Int32} {zs_25 : Int32} {zs_26 : Int32} {zs_27 : Int32} {zs_29 : Int32} {ts : Nat → Int32} {tl : Nat → Nat} {ti : Nat → Nat → Int64} {t : Nat} {u : Nat} {i : Int32} {j : Int32} {n : Int32} {ad : Nat → Int64} (hk : t < 6) (htl : (tl t) ≤ 60) (hts : (ts t) = -1 → (tl t) = 0) (hso : (ts t) = -1 ∨ isIx (ts t) 5) (hk2 : u < 6) (htl2 : (tl u) ≤ 60) (hts2 : (ts u) = -1 → (tl u) = 0) (hso2 : (ts u) = -1 ∨ isIx (ts u) 5) (hs : ¬ (ts t) = -1) (hs2 : ¬ (ts u) = -1) (heq : (ts t) = (ts u)) (hn : isSt i n (tl t)) (hm : ¬ isSt j n (tl u)) : Sp D mX10_shift 30 0 0 [.ref mo, .int (nI t), .int i, .int (nI u), .int j, .int n] [(mo, .inr (10, M1R ma (mZ c c2 tk vc ln rn zs_10 zs_11 zs_20 zs_21 zs_22 zs_25 zs_26 zs_27 zs_29))), ((ma 51), eI D 6 ts), ((ma 52), eI D 6 (nF tl)), ((ma 53), eJ D 360 (itm ti)), ((ma 54), eJ D 60 ad)] (fun r w => ∃ zs2_10 : Int32, ∃ zs2_11 : Int32, ∃ zs2_20 : Int32, ∃ zs2_21 : Int32, ∃ zs2_22 : Int32, ∃ zs2_25 : Int32, ∃ zs2_26 : Int32, ∃ zs2_27 : Int32, ∃ zs2_29 : Int32, ∃ ad2 : Nat → Int64, r = some (.int (-13)) ∧ w = [(mo, .inr (10, M1R ma (mZ c c2 tk vc ln rn zs2_10 zs2_11 zs2_20 zs2_21 zs2_22 zs2_25 zs2_26 zs2_27 zs2_29))), ((ma 51), eI D 6 ts), ((ma 52), eI D 6 (nF tl)), ((ma 53), eJ D 360 (itm ti)), ((ma 54), eJ D 60 ad2)]) := by
  refine Sp.of (by decide) (Nat.le_of_ble_eq_true rfl) (fun X O T => ?_)
  refine v_eq (lv' := [(0, .ref mo), (1, .int (nI t)), (2, .int i), (3, .int (nI u)), (4, .int j), (5, .int n)]) rfl rfl rfl rfl ?_
  refine v_aload_n O dX10_shift_0 0 rfl ?_
  refine v_iload_n O dX10_shift_1 1 rfl ?_
  refine v_cV (T := TX10) (ci := 10) (As := [.int (nI t)]) (wr := [((ma 51), eI D 6 ts), ((ma 52), eI D 6 (nF tl)), ((ma 53), eJ D 360 (itm ti)), ((ma 54), eJ D 60 ad)]) (st := []) O cf_X10_315 rfl (sp_X10_isTape (mo := mo) (ma := ma) (c := c) (c2 := c2) (tk := tk) (vc := vc) (ln := ln) (rn := rn) (zs_10 := zs_10) (zs_11 := zs_11) (zs_20 := zs_20) (zs_21 := zs_21) (zs_22 := zs_22) (zs_25 := zs_25) (zs_26 := zs_26) (zs_27 := zs_27) (zs_29 := zs_29) (t := (nI t)) ) dX10_shift_2 rfl rfl 0 rfl [0] [1, 2, 3, 4] (by decide) rfl rfl (by decide) (by decide) (by decide) (Nat.le_of_ble_eq_true rfl) (by decide) (by decide) (fun r_2 w_3 h_1 => ?_)
  obtain ⟨rfl, rfl⟩ := h_1
  refine v_eq (st' := [.int (b2i (isIx (nI t) 6))]) (ws' := [((ma 51), eI D 6 ts), ((ma 52), eI D 6 (nF tl)), ((ma 53), eJ D 360 (itm ti)), ((ma 54), eJ D 60 ad), (mo, .inr (10, M1R ma (mZ c c2 tk vc ln rn zs_10 zs_11 zs_20 zs_21 zs_22 zs_25 zs_26 zs_27 zs_29)))]) rfl rfl rfl rfl ?_
  refine v_if_eq O 16 dX10_shift_5 (by decide) (fun z1 => ?_) (fun z1 => ?_)
  · skip
    have z1 := b2i_0.mp z1
    exact absurd ((isIx_nI (by omega) (by omega)).mpr hk) z1
  · skip
    have z1 := b2i_1.mp z1
    refine v_aload_n O dX10_shift_8 0 rfl ?_
    refine v_iload_n O dX10_shift_9 3 rfl ?_
    refine v_cV (T := TX10) (ci := 10) (As := [.int (nI u)]) (wr := [((ma 51), eI D 6 ts), ((ma 52), eI D 6 (nF tl)), ((ma 53), eJ D 360 (itm ti)), ((ma 54), eJ D 60 ad)]) (st := []) O cf_X10_315 rfl (sp_X10_isTape (mo := mo) (ma := ma) (c := c) (c2 := c2) (tk := tk) (vc := vc) (ln := ln) (rn := rn) (zs_10 := zs_10) (zs_11 := zs_11) (zs_20 := zs_20) (zs_21 := zs_21) (zs_22 := zs_22) (zs_25 := zs_25) (zs_26 := zs_26) (zs_27 := zs_27) (zs_29 := zs_29) (t := (nI u)) ) dX10_shift_10 rfl rfl 4 rfl [4] [0, 1, 2, 3] (by decide) rfl rfl (by decide) (by decide) (by decide) (Nat.le_of_ble_eq_true rfl) (by decide) (by decide) (fun r_5 w_6 h_4 => ?_)
    obtain ⟨rfl, rfl⟩ := h_4
    refine v_eq (st' := [.int (b2i (isIx (nI u) 6))]) (ws' := [((ma 51), eI D 6 ts), ((ma 52), eI D 6 (nF tl)), ((ma 53), eJ D 360 (itm ti)), ((ma 54), eJ D 60 ad), (mo, .inr (10, M1R ma (mZ c c2 tk vc ln rn zs_10 zs_11 zs_20 zs_21 zs_22 zs_25 zs_26 zs_27 zs_29)))]) rfl rfl rfl rfl ?_
    refine v_if_ne O 18 dX10_shift_13 (by decide) (fun z2 => ?_) (fun z2 => ?_)
    · skip
      have z2 := b2i_1.mp z2
      refine v_aload_n O dX10_shift_18 0 rfl ?_
      refine gf_X10_166 (v := .ref (ma 51)) O rfl dX10_shift_19 4 rfl rfl ?_
      refine v_iload_n O dX10_shift_22 1 rfl ?_
      refine v_ialdk O dX10_shift_23 0 rfl t rfl (by omega) (by decide) ?_
      refine v_if_lt O 36 dX10_shift_24 (by decide) (fun z3 => ?_) (fun z3 => ?_)
      · skip
        exact absurd z3 (so_ge hso hs)
      · skip
        refine v_aload_n O dX10_shift_27 0 rfl ?_
        refine gf_X10_166 (v := .ref (ma 51)) O rfl dX10_shift_28 4 rfl rfl ?_
        refine v_iload_n O dX10_shift_31 3 rfl ?_
        refine v_ialdk O dX10_shift_32 0 rfl u rfl (by omega) (by decide) ?_
        refine v_if_ge O 39 dX10_shift_33 (by decide) (fun z4 => ?_) (fun z4 => ?_)
        · skip
          refine v_aload_n O dX10_shift_39 0 rfl ?_
          refine gf_X10_166 (v := .ref (ma 51)) O rfl dX10_shift_40 4 rfl rfl ?_
          refine v_iload_n O dX10_shift_43 1 rfl ?_
          refine v_ialdk O dX10_shift_44 0 rfl t rfl (by omega) (by decide) ?_
          refine v_aload_n O dX10_shift_45 0 rfl ?_
          refine gf_X10_166 (v := .ref (ma 51)) O rfl dX10_shift_46 4 rfl rfl ?_
          refine v_iload_n O dX10_shift_49 3 rfl ?_
          refine v_ialdk O dX10_shift_50 0 rfl u rfl (by omega) (by decide) ?_
          refine v_icmp_eq O 57 dX10_shift_51 (by decide) (fun z5 => ?_) (fun z5 => ?_)
          · skip
            refine v_iload O dX10_shift_57 5 rfl ?_
            refine v_if_lt O 98 dX10_shift_59 (by decide) (fun z6 => ?_) (fun z6 => ?_)
            · skip
              refine v_bipush (v := -13) O dX10_shift_98 (by decide) ?_
              refine v_sub (ws' := [(mo, .inr (10, M1R ma (mZ c c2 tk vc ln rn zs_10 zs_11 zs_20 zs_21 zs_22 zs_25 zs_26 zs_27 zs_29))), ((ma 51), eI D 6 ts), ((ma 52), eI D 6 (nF tl)), ((ma 53), eJ D 360 (itm ti)), ((ma 54), eJ D 60 ad)]) [4, 0, 1, 2, 3] (by decide) rfl ?_
              exact v_ireturn O T rfl rfl (by decide) (by decide) dX10_shift_100 (⟨zs_10, zs_11, zs_20, zs_21, zs_22, zs_25, zs_26, zs_27, zs_29, _, rfl, rfl⟩)
            · skip
              refine v_iload_n O dX10_shift_62 2 rfl ?_
              refine v_if_lt O 98 dX10_shift_63 (by decide) (fun z7 => ?_) (fun z7 => ?_)
              · skip
                refine v_bipush (v := -13) O dX10_shift_98 (by decide) ?_
                refine v_sub (ws' := [(mo, .inr (10, M1R ma (mZ c c2 tk vc ln rn zs_10 zs_11 zs_20 zs_21 zs_22 zs_25 zs_26 zs_27 zs_29))), ((ma 51), eI D 6 ts), ((ma 52), eI D 6 (nF tl)), ((ma 53), eJ D 360 (itm ti)), ((ma 54), eJ D 60 ad)]) [4, 0, 1, 2, 3] (by decide) rfl ?_
                exact v_ireturn O T rfl rfl (by decide) (by decide) dX10_shift_100 (⟨zs_10, zs_11, zs_20, zs_21, zs_22, zs_25, zs_26, zs_27, zs_29, _, rfl, rfl⟩)
              · skip
                refine v_iload O dX10_shift_66 4 rfl ?_
                refine v_if_lt O 98 dX10_shift_68 (by decide) (fun z8 => ?_) (fun z8 => ?_)
                · skip
                  refine v_bipush (v := -13) O dX10_shift_98 (by decide) ?_
                  refine v_sub (ws' := [(mo, .inr (10, M1R ma (mZ c c2 tk vc ln rn zs_10 zs_11 zs_20 zs_21 zs_22 zs_25 zs_26 zs_27 zs_29))), ((ma 51), eI D 6 ts), ((ma 52), eI D 6 (nF tl)), ((ma 53), eJ D 360 (itm ti)), ((ma 54), eJ D 60 ad)]) [4, 0, 1, 2, 3] (by decide) rfl ?_
                  exact v_ireturn O T rfl rfl (by decide) (by decide) dX10_shift_100 (⟨zs_10, zs_11, zs_20, zs_21, zs_22, zs_25, zs_26, zs_27, zs_29, _, rfl, rfl⟩)
                · skip
                  refine v_iload_n O dX10_shift_71 2 rfl ?_
                  refine v_aload_n O dX10_shift_72 0 rfl ?_
                  refine gf_X10_169 (v := .ref (ma 52)) O rfl dX10_shift_73 4 rfl rfl ?_
                  refine v_iload_n O dX10_shift_76 1 rfl ?_
                  refine v_ialdk O dX10_shift_77 1 rfl t rfl (by omega) (by decide) ?_
                  refine v_top (y := nI (tl t)) rfl ?_
                  refine v_iload O dX10_shift_78 5 rfl ?_
                  refine v_isub O dX10_shift_80 ?_
                  refine v_icmp_gt O 98 dX10_shift_81 (by decide) (fun z9 => ?_) (fun z9 => ?_)
                  · skip
                    refine v_bipush (v := -13) O dX10_shift_98 (by decide) ?_
                    refine v_sub (ws' := [(mo, .inr (10, M1R ma (mZ c c2 tk vc ln rn zs_10 zs_11 zs_20 zs_21 zs_22 zs_25 zs_26 zs_27 zs_29))), ((ma 51), eI D 6 ts), ((ma 52), eI D 6 (nF tl)), ((ma 53), eJ D 360 (itm ti)), ((ma 54), eJ D 60 ad)]) [4, 0, 1, 2, 3] (by decide) rfl ?_
                    exact v_ireturn O T rfl rfl (by decide) (by decide) dX10_shift_100 (⟨zs_10, zs_11, zs_20, zs_21, zs_22, zs_25, zs_26, zs_27, zs_29, _, rfl, rfl⟩)
                  · skip
                    refine v_iload O dX10_shift_84 4 rfl ?_
                    refine v_aload_n O dX10_shift_86 0 rfl ?_
                    refine gf_X10_169 (v := .ref (ma 52)) O rfl dX10_shift_87 4 rfl rfl ?_
                    refine v_iload_n O dX10_shift_90 3 rfl ?_
                    refine v_ialdk O dX10_shift_91 1 rfl u rfl (by omega) (by decide) ?_
                    refine v_top (y := nI (tl u)) rfl ?_
                    refine v_iload O dX10_shift_92 5 rfl ?_
                    refine v_isub O dX10_shift_94 ?_
                    refine v_icmp_le O 101 dX10_shift_95 (by decide) (fun z10 => ?_) (fun z10 => ?_)
                    · skip
                      exact absurd (st_r htl2 z6 z8 (Int32.not_lt.mpr z10)) hm
                    · skip
                      refine v_bipush (v := -13) O dX10_shift_98 (by decide) ?_
                      refine v_sub (ws' := [(mo, .inr (10, M1R ma (mZ c c2 tk vc ln rn zs_10 zs_11 zs_20 zs_21 zs_22 zs_25 zs_26 zs_27 zs_29))), ((ma 51), eI D 6 ts), ((ma 52), eI D 6 (nF tl)), ((ma 53), eJ D 360 (itm ti)), ((ma 54), eJ D 60 ad)]) [4, 0, 1, 2, 3] (by decide) rfl ?_
                      exact v_ireturn O T rfl rfl (by decide) (by decide) dX10_shift_100 (⟨zs_10, zs_11, zs_20, zs_21, zs_22, zs_25, zs_26, zs_27, zs_29, _, rfl, rfl⟩)
          · skip
            exact absurd heq z5
        · skip
          exact absurd (Int32.not_lt.mp (so_ge hso2 hs2)) z4
    · skip
      have z2 := b2i_0.mp z2
      exact absurd ((isIx_nI (by omega) (by omega)).mpr hk2) z2
set_option maxRecDepth 100000 in
set_option maxHeartbeats 4000000 in
theorem l_X10_shA2 {D : G} {X : CX} {mo : Nat} {ma : Nat → Nat} {c : CS} {c2 : CS} {tk : Int32} {vc : Nat} {ln : Nat} {rn : Nat} {zs_10 : Int32} {zs_11 : Int32} {zs_20 : Int32} {zs_21 : Int32} {zs_22 : Int32} {zs_25 : Int32} {zs_26 : Int32} {zs_27 : Int32} {zs_29 : Int32} {ts : Nat → Int32} {tl : Nat → Nat} {ti : Nat → Nat → Int64} {t : Nat} {u : Nat} {i : Nat} {j : Nat} {n : Nat} (O : Ok D X mX10_shift 30 0 0) (ht : t < 6) (hi : i + n ≤ 60) (K : ∀ ad : Nat → Int64, (∀ x, x < n → ad x = itm ti (60 * t + i + x)) → V D X 0 0 138 [(0, .ref mo), (1, .int (nI t)), (2, .int (nI i)), (3, .int (nI u)), (4, .int (nI j)), (5, .int (nI n)), (6, .int (nI n))] [] [(mo, .inr (10, M1R ma (mZ c c2 tk vc ln rn zs_10 zs_11 zs_20 zs_21 zs_22 zs_25 zs_26 zs_27 zs_29))), ((ma 51), eI D 6 ts), ((ma 52), eI D 6 (nF tl)), ((ma 53), eJ D 360 (itm ti)), ((ma 54), eJ D 60 ad)]) : ∀ (t9 k : Nat), k + t9 = n → ∀ ad : Nat → Int64, (∀ x, x < k → ad x = itm ti (60 * t + i + x)) → V D X 0 0 104 [(0, .ref mo), (1, .int (nI t)), (2, .int (nI i)), (3, .int (nI u)), (4, .int (nI j)), (5, .int (nI n)), (6, .int (nI k))] [] [(mo, .inr (10, M1R ma (mZ c c2 tk vc ln rn zs_10 zs_11 zs_20 zs_21 zs_22 zs_25 zs_26 zs_27 zs_29))), ((ma 51), eI D 6 ts), ((ma 52), eI D 6 (nF tl)), ((ma 53), eJ D 360 (itm ti)), ((ma 54), eJ D 60 ad)] := by
  intro t9
  induction t9 with
  | zero =>
    intro k hk ad h1
    refine v_iload O dX10_shift_104 6 rfl ?_
    refine v_iload O dX10_shift_106 5 rfl ?_
    refine v_icmp_ge O 138 dX10_shift_108 (by decide) (fun z1 => ?_) (fun z1 => ?_)
    · skip
      have z1 := (c_le' (x := nI k) (y := nI n) (a := k) (b := n) rfl rfl (by omega) (by omega)).mp z1
      refine v_eq (lv' := [(0, .ref mo), (1, .int (nI t)), (2, .int (nI i)), (3, .int (nI u)), (4, .int (nI j)), (5, .int (nI n)), (6, .int (nI n))]) rfl (by rw [show k = n by omega]) rfl rfl ?_
      exact K ad (fun x hx => h1 x (by omega))
    · skip
      have z1 := (not_congr (c_le' (x := nI k) (y := nI n) (a := k) (b := n) rfl rfl (by omega) (by omega))).mp z1
      exact absurd z1 (by omega)
  | succ t9 ih =>
    intro k hk ad h1
    refine v_iload O dX10_shift_104 6 rfl ?_
    refine v_iload O dX10_shift_106 5 rfl ?_
    refine v_icmp_ge O 138 dX10_shift_108 (by decide) (fun z1 => ?_) (fun z1 => ?_)
    · skip
      have z1 := (c_le' (x := nI k) (y := nI n) (a := k) (b := n) rfl rfl (by omega) (by omega)).mp z1
      exact absurd z1 (by omega)
    · skip
      have z1 := (not_congr (c_le' (x := nI k) (y := nI n) (a := k) (b := n) rfl rfl (by omega) (by omega))).mp z1
      refine v_aload_n O dX10_shift_111 0 rfl ?_
      refine gf_X10_176 (v := .ref (ma 54)) O rfl dX10_shift_112 0 rfl rfl ?_
      refine v_iload O dX10_shift_115 6 rfl ?_
      refine v_aload_n O dX10_shift_117 0 rfl ?_
      refine gf_X10_172 (v := .ref (ma 53)) O rfl dX10_shift_118 0 rfl rfl ?_
      refine v_bipush (v := 60) O dX10_shift_121 (by decide) ?_
      refine v_iload_n O dX10_shift_123 1 rfl ?_
      refine v_imul O dX10_shift_124 ?_
      refine v_top (y := nI (60 * t)) (pk_mul 60 t) ?_
      refine v_iload_n O dX10_shift_125 2 rfl ?_
      refine v_iadd O dX10_shift_126 ?_
      refine v_top (y := nI ((60 * t) + i)) (nI_add (60 * t) i) ?_
      refine v_iload O dX10_shift_127 6 rfl ?_
      refine v_iadd O dX10_shift_129 ?_
      refine v_top (y := nI (((60 * t) + i) + k)) (nI_add ((60 * t) + i) k) ?_
      refine v_laldk O dX10_shift_130 3 rfl (((60 * t) + i) + k) rfl (by omega) (by decide) ?_
      refine v_lastk (ws' := [(mo, .inr (10, M1R ma (mZ c c2 tk vc ln rn zs_10 zs_11 zs_20 zs_21 zs_22 zs_25 zs_26 zs_27 zs_29))), ((ma 51), eI D 6 ts), ((ma 52), eI D 6 (nF tl)), ((ma 53), eJ D 360 (itm ti)), ((ma 54), eJ D 60 (vp_updL ad k ((itm ti) (((60 * t) + i) + k))))]) O dX10_shift_131 4 rfl k (rfl) (by omega) (by decide) (rfl) ?_
      refine v_iinc (v := nI (k + 1)) (lv' := [(0, .ref mo), (1, .int (nI t)), (2, .int (nI i)), (3, .int (nI u)), (4, .int (nI j)), (5, .int (nI n)), (6, .int (nI (k + 1)))]) O dX10_shift_132 6 rfl (nI_1 k) (by decide) rfl ?_
      refine v_goto O 104 dX10_shift_135 (by decide) ?_
      exact ih (k + 1) (by omega) _ (fun x hx => by
        by_cases e : x = k
        · rw [e, vp_updL, if_pos rfl]
        · rw [vp_updL, if_neg e]; exact h1 x (by omega))
set_option maxRecDepth 100000 in
set_option maxHeartbeats 4000000 in
theorem l_X10_shB2 {D : G} {X : CX} {mo : Nat} {ma : Nat → Nat} {c : CS} {c2 : CS} {tk : Int32} {vc : Nat} {ln : Nat} {rn : Nat} {zs_10 : Int32} {zs_11 : Int32} {zs_20 : Int32} {zs_21 : Int32} {zs_22 : Int32} {zs_25 : Int32} {zs_26 : Int32} {zs_27 : Int32} {zs_29 : Int32} {ts : Nat → Int32} {tl : Nat → Nat} {ti : Nat → Nat → Int64} {t : Nat} {u : Nat} {i : Nat} {j : Nat} {n : Nat} {ad : Nat → Int64} (O : Ok D X mX10_shift 30 0 0) (hu : u < 6) (hj : j + n ≤ 60) (ha : (∀ x, x < n → ad x = itm ti (60 * t + i + x))) (K : ∀ h : Nat → Int64, (∀ x, 60 * u + j ≤ x → x < 60 * u + j + n → h x = itm ti (60 * t + i + (x - (60 * u + j)))) → (∀ x, ¬ (60 * u + j ≤ x ∧ x < 60 * u + j + n) → h x = itm ti x) → V D X 0 0 176 [(0, .ref mo), (1, .int (nI t)), (2, .int (nI i)), (3, .int (nI u)), (4, .int (nI j)), (5, .int (nI n)), (6, .int (nI n))] [] [(mo, .inr (10, M1R ma (mZ c c2 tk vc ln rn zs_10 zs_11 zs_20 zs_21 zs_22 zs_25 zs_26 zs_27 zs_29))), ((ma 51), eI D 6 ts), ((ma 52), eI D 6 (nF tl)), ((ma 53), eJ D 360 h), ((ma 54), eJ D 60 ad)]) : ∀ (t9 k : Nat), k + t9 = n → ∀ h : Nat → Int64, (∀ x, 60 * u + j ≤ x → x < 60 * u + j + k → h x = itm ti (60 * t + i + (x - (60 * u + j)))) → (∀ x, ¬ (60 * u + j ≤ x ∧ x < 60 * u + j + k) → h x = itm ti x) → V D X 0 0 141 [(0, .ref mo), (1, .int (nI t)), (2, .int (nI i)), (3, .int (nI u)), (4, .int (nI j)), (5, .int (nI n)), (6, .int (nI k))] [] [(mo, .inr (10, M1R ma (mZ c c2 tk vc ln rn zs_10 zs_11 zs_20 zs_21 zs_22 zs_25 zs_26 zs_27 zs_29))), ((ma 51), eI D 6 ts), ((ma 52), eI D 6 (nF tl)), ((ma 53), eJ D 360 h), ((ma 54), eJ D 60 ad)] := by
  intro t9
  induction t9 with
  | zero =>
    intro k hk h h1 h2
    refine v_iload O dX10_shift_141 6 rfl ?_
    refine v_iload O dX10_shift_143 5 rfl ?_
    refine v_icmp_ge O 176 dX10_shift_145 (by decide) (fun z1 => ?_) (fun z1 => ?_)
    · skip
      have z1 := (c_le' (x := nI k) (y := nI n) (a := k) (b := n) rfl rfl (by omega) (by omega)).mp z1
      refine v_eq (lv' := [(0, .ref mo), (1, .int (nI t)), (2, .int (nI i)), (3, .int (nI u)), (4, .int (nI j)), (5, .int (nI n)), (6, .int (nI n))]) rfl (by rw [show k = n by omega]) rfl rfl ?_
      exact K h (fun x a b => h1 x a (by omega)) (fun x a => h2 x (fun b => a ⟨b.1, by omega⟩))
    · skip
      have z1 := (not_congr (c_le' (x := nI k) (y := nI n) (a := k) (b := n) rfl rfl (by omega) (by omega))).mp z1
      exact absurd z1 (by omega)
  | succ t9 ih =>
    intro k hk h h1 h2
    refine v_iload O dX10_shift_141 6 rfl ?_
    refine v_iload O dX10_shift_143 5 rfl ?_
    refine v_icmp_ge O 176 dX10_shift_145 (by decide) (fun z1 => ?_) (fun z1 => ?_)
    · skip
      have z1 := (c_le' (x := nI k) (y := nI n) (a := k) (b := n) rfl rfl (by omega) (by omega)).mp z1
      exact absurd z1 (by omega)
    · skip
      have z1 := (not_congr (c_le' (x := nI k) (y := nI n) (a := k) (b := n) rfl rfl (by omega) (by omega))).mp z1
      refine v_aload_n O dX10_shift_148 0 rfl ?_
      refine gf_X10_172 (v := .ref (ma 53)) O rfl dX10_shift_149 0 rfl rfl ?_
      refine v_bipush (v := 60) O dX10_shift_152 (by decide) ?_
      refine v_iload_n O dX10_shift_154 3 rfl ?_
      refine v_imul O dX10_shift_155 ?_
      refine v_top (y := nI (60 * u)) (pk_mul 60 u) ?_
      refine v_iload O dX10_shift_156 4 rfl ?_
      refine v_iadd O dX10_shift_158 ?_
      refine v_top (y := nI ((60 * u) + j)) (nI_add (60 * u) j) ?_
      refine v_iload O dX10_shift_159 6 rfl ?_
      refine v_iadd O dX10_shift_161 ?_
      refine v_top (y := nI (((60 * u) + j) + k)) (nI_add ((60 * u) + j) k) ?_
      refine v_aload_n O dX10_shift_162 0 rfl ?_
      refine gf_X10_176 (v := .ref (ma 54)) O rfl dX10_shift_163 0 rfl rfl ?_
      refine v_iload O dX10_shift_166 6 rfl ?_
      refine v_laldk O dX10_shift_168 4 rfl k rfl (by omega) (by decide) ?_
      refine v_lastk (ws' := [(mo, .inr (10, M1R ma (mZ c c2 tk vc ln rn zs_10 zs_11 zs_20 zs_21 zs_22 zs_25 zs_26 zs_27 zs_29))), ((ma 51), eI D 6 ts), ((ma 52), eI D 6 (nF tl)), ((ma 53), eJ D 360 (vp_updL h (((60 * u) + j) + k) (ad k))), ((ma 54), eJ D 60 ad)]) O dX10_shift_169 3 rfl (((60 * u) + j) + k) (rfl) (by omega) (by decide) (rfl) ?_
      refine v_iinc (v := nI (k + 1)) (lv' := [(0, .ref mo), (1, .int (nI t)), (2, .int (nI i)), (3, .int (nI u)), (4, .int (nI j)), (5, .int (nI n)), (6, .int (nI (k + 1)))]) O dX10_shift_170 6 rfl (nI_1 k) (by decide) rfl ?_
      refine v_goto O 141 dX10_shift_173 (by decide) ?_
      exact ih (k + 1) (by omega) _ (fun x a b => by
        by_cases e : x = 60 * u + j + k
        · rw [e, vp_updL, if_pos rfl, ha k (by omega), show 60 * u + j + k - (60 * u + j) = k by omega]
        · rw [vp_updL, if_neg e]; exact h1 x a (by omega)) (fun x a => by
        rw [vp_updL, if_neg (fun e => a (by omega))]
        exact h2 x (fun b => a ⟨b.1, by omega⟩))
set_option maxRecDepth 100000 in
set_option maxHeartbeats 4000000 in
theorem sp_X10_shift_12 {D : G} {mo : Nat} {ma : Nat → Nat} {c : CS} {c2 : CS} {tk : Int32} {vc : Nat} {ln : Nat} {rn : Nat} {zs_10 : Int32} {zs_11 : Int32} {zs_20 : Int32} {zs_21 : Int32} {zs_22 : Int32} {zs_25 : Int32} {zs_26 : Int32} {zs_27 : Int32} {zs_29 : Int32} {ts : Nat → Int32} {tl : Nat → Nat} {ti : Nat → Nat → Int64} {t : Nat} {u : Nat} {i : Nat} {j : Nat} {n : Nat} {ad : Nat → Int64} (hk : t < 6) (htl : (tl t) ≤ 60) (hts : (ts t) = -1 → (tl t) = 0) (hso : (ts t) = -1 ∨ isIx (ts t) 5) (hk2 : u < 6) (htl2 : (tl u) ≤ 60) (hts2 : (ts u) = -1 → (tl u) = 0) (hso2 : (ts u) = -1 ∨ isIx (ts u) 5) (hs : ¬ (ts t) = -1) (hs2 : ¬ (ts u) = -1) (heq : (ts t) = (ts u)) (hn : i + n ≤ (tl t)) (hm : j + n ≤ (tl u)) : Sp D mX10_shift 30 0 0 [.ref mo, .int (nI t), .int (nI i), .int (nI u), .int (nI j), .int (nI n)] [(mo, .inr (10, M1R ma (mZ c c2 tk vc ln rn zs_10 zs_11 zs_20 zs_21 zs_22 zs_25 zs_26 zs_27 zs_29))), ((ma 51), eI D 6 ts), ((ma 52), eI D 6 (nF tl)), ((ma 53), eJ D 360 (itm ti)), ((ma 54), eJ D 60 ad)] (fun r w => ∃ zs2_10 : Int32, ∃ zs2_11 : Int32, ∃ zs2_20 : Int32, ∃ zs2_21 : Int32, ∃ zs2_22 : Int32, ∃ zs2_25 : Int32, ∃ zs2_26 : Int32, ∃ zs2_27 : Int32, ∃ zs2_29 : Int32, ∃ ad2 : Nat → Int64, r = some (.int (nI n)) ∧ w = [(mo, .inr (10, M1R ma (mZ c c2 tk vc ln rn zs2_10 zs2_11 zs2_20 zs2_21 zs2_22 zs2_25 zs2_26 zs2_27 zs2_29))), ((ma 51), eI D 6 ts), ((ma 52), eI D 6 (nF tl)), ((ma 53), eJ D 360 (itm (updT ti u (va_cpy (ti t) (ti u) i j n)))), ((ma 54), eJ D 60 ad2)]) := by
  refine Sp.of (by decide) (Nat.le_of_ble_eq_true rfl) (fun X O T => ?_)
  refine v_eq (lv' := [(0, .ref mo), (1, .int (nI t)), (2, .int (nI i)), (3, .int (nI u)), (4, .int (nI j)), (5, .int (nI n))]) rfl rfl rfl rfl ?_
  refine v_aload_n O dX10_shift_0 0 rfl ?_
  refine v_iload_n O dX10_shift_1 1 rfl ?_
  refine v_cV (T := TX10) (ci := 10) (As := [.int (nI t)]) (wr := [((ma 51), eI D 6 ts), ((ma 52), eI D 6 (nF tl)), ((ma 53), eJ D 360 (itm ti)), ((ma 54), eJ D 60 ad)]) (st := []) O cf_X10_315 rfl (sp_X10_isTape (mo := mo) (ma := ma) (c := c) (c2 := c2) (tk := tk) (vc := vc) (ln := ln) (rn := rn) (zs_10 := zs_10) (zs_11 := zs_11) (zs_20 := zs_20) (zs_21 := zs_21) (zs_22 := zs_22) (zs_25 := zs_25) (zs_26 := zs_26) (zs_27 := zs_27) (zs_29 := zs_29) (t := (nI t)) ) dX10_shift_2 rfl rfl 0 rfl [0] [1, 2, 3, 4] (by decide) rfl rfl (by decide) (by decide) (by decide) (Nat.le_of_ble_eq_true rfl) (by decide) (by decide) (fun r_2 w_3 h_1 => ?_)
  obtain ⟨rfl, rfl⟩ := h_1
  refine v_eq (st' := [.int (b2i (isIx (nI t) 6))]) (ws' := [((ma 51), eI D 6 ts), ((ma 52), eI D 6 (nF tl)), ((ma 53), eJ D 360 (itm ti)), ((ma 54), eJ D 60 ad), (mo, .inr (10, M1R ma (mZ c c2 tk vc ln rn zs_10 zs_11 zs_20 zs_21 zs_22 zs_25 zs_26 zs_27 zs_29)))]) rfl rfl rfl rfl ?_
  refine v_if_eq O 16 dX10_shift_5 (by decide) (fun z1 => ?_) (fun z1 => ?_)
  · skip
    have z1 := b2i_0.mp z1
    exact absurd ((isIx_nI (by omega) (by omega)).mpr hk) z1
  · skip
    have z1 := b2i_1.mp z1
    refine v_aload_n O dX10_shift_8 0 rfl ?_
    refine v_iload_n O dX10_shift_9 3 rfl ?_
    refine v_cV (T := TX10) (ci := 10) (As := [.int (nI u)]) (wr := [((ma 51), eI D 6 ts), ((ma 52), eI D 6 (nF tl)), ((ma 53), eJ D 360 (itm ti)), ((ma 54), eJ D 60 ad)]) (st := []) O cf_X10_315 rfl (sp_X10_isTape (mo := mo) (ma := ma) (c := c) (c2 := c2) (tk := tk) (vc := vc) (ln := ln) (rn := rn) (zs_10 := zs_10) (zs_11 := zs_11) (zs_20 := zs_20) (zs_21 := zs_21) (zs_22 := zs_22) (zs_25 := zs_25) (zs_26 := zs_26) (zs_27 := zs_27) (zs_29 := zs_29) (t := (nI u)) ) dX10_shift_10 rfl rfl 4 rfl [4] [0, 1, 2, 3] (by decide) rfl rfl (by decide) (by decide) (by decide) (Nat.le_of_ble_eq_true rfl) (by decide) (by decide) (fun r_5 w_6 h_4 => ?_)
    obtain ⟨rfl, rfl⟩ := h_4
    refine v_eq (st' := [.int (b2i (isIx (nI u) 6))]) (ws' := [((ma 51), eI D 6 ts), ((ma 52), eI D 6 (nF tl)), ((ma 53), eJ D 360 (itm ti)), ((ma 54), eJ D 60 ad), (mo, .inr (10, M1R ma (mZ c c2 tk vc ln rn zs_10 zs_11 zs_20 zs_21 zs_22 zs_25 zs_26 zs_27 zs_29)))]) rfl rfl rfl rfl ?_
    refine v_if_ne O 18 dX10_shift_13 (by decide) (fun z2 => ?_) (fun z2 => ?_)
    · skip
      have z2 := b2i_1.mp z2
      refine v_aload_n O dX10_shift_18 0 rfl ?_
      refine gf_X10_166 (v := .ref (ma 51)) O rfl dX10_shift_19 4 rfl rfl ?_
      refine v_iload_n O dX10_shift_22 1 rfl ?_
      refine v_ialdk O dX10_shift_23 0 rfl t rfl (by omega) (by decide) ?_
      refine v_if_lt O 36 dX10_shift_24 (by decide) (fun z3 => ?_) (fun z3 => ?_)
      · skip
        exact absurd z3 (so_ge hso hs)
      · skip
        refine v_aload_n O dX10_shift_27 0 rfl ?_
        refine gf_X10_166 (v := .ref (ma 51)) O rfl dX10_shift_28 4 rfl rfl ?_
        refine v_iload_n O dX10_shift_31 3 rfl ?_
        refine v_ialdk O dX10_shift_32 0 rfl u rfl (by omega) (by decide) ?_
        refine v_if_ge O 39 dX10_shift_33 (by decide) (fun z4 => ?_) (fun z4 => ?_)
        · skip
          refine v_aload_n O dX10_shift_39 0 rfl ?_
          refine gf_X10_166 (v := .ref (ma 51)) O rfl dX10_shift_40 4 rfl rfl ?_
          refine v_iload_n O dX10_shift_43 1 rfl ?_
          refine v_ialdk O dX10_shift_44 0 rfl t rfl (by omega) (by decide) ?_
          refine v_aload_n O dX10_shift_45 0 rfl ?_
          refine gf_X10_166 (v := .ref (ma 51)) O rfl dX10_shift_46 4 rfl rfl ?_
          refine v_iload_n O dX10_shift_49 3 rfl ?_
          refine v_ialdk O dX10_shift_50 0 rfl u rfl (by omega) (by decide) ?_
          refine v_icmp_eq O 57 dX10_shift_51 (by decide) (fun z5 => ?_) (fun z5 => ?_)
          · skip
            refine v_iload O dX10_shift_57 5 rfl ?_
            refine v_if_lt O 98 dX10_shift_59 (by decide) (fun c_7 => ?_) (fun c_7 => ?_)
            · skip
              have c_7 := (c_lt (x := nI n) (y := 0) (a := n) (b := 0) rfl rfl (by omega) (by omega)).mp c_7
              exact absurd c_7 (by omega)
            · skip
              have c_7 := (not_congr (c_lt (x := nI n) (y := 0) (a := n) (b := 0) rfl rfl (by omega) (by omega))).mp c_7
              refine v_iload_n O dX10_shift_62 2 rfl ?_
              refine v_if_lt O 98 dX10_shift_63 (by decide) (fun c_8 => ?_) (fun c_8 => ?_)
              · skip
                have c_8 := (c_lt (x := nI i) (y := 0) (a := i) (b := 0) rfl rfl (by omega) (by omega)).mp c_8
                exact absurd c_8 (by omega)
              · skip
                have c_8 := (not_congr (c_lt (x := nI i) (y := 0) (a := i) (b := 0) rfl rfl (by omega) (by omega))).mp c_8
                refine v_iload O dX10_shift_66 4 rfl ?_
                refine v_if_lt O 98 dX10_shift_68 (by decide) (fun c_9 => ?_) (fun c_9 => ?_)
                · skip
                  have c_9 := (c_lt (x := nI j) (y := 0) (a := j) (b := 0) rfl rfl (by omega) (by omega)).mp c_9
                  exact absurd c_9 (by omega)
                · skip
                  have c_9 := (not_congr (c_lt (x := nI j) (y := 0) (a := j) (b := 0) rfl rfl (by omega) (by omega))).mp c_9
                  refine v_iload_n O dX10_shift_71 2 rfl ?_
                  refine v_aload_n O dX10_shift_72 0 rfl ?_
                  refine gf_X10_169 (v := .ref (ma 52)) O rfl dX10_shift_73 4 rfl rfl ?_
                  refine v_iload_n O dX10_shift_76 1 rfl ?_
                  refine v_ialdk O dX10_shift_77 1 rfl t rfl (by omega) (by decide) ?_
                  refine v_top (y := nI (tl t)) rfl ?_
                  refine v_iload O dX10_shift_78 5 rfl ?_
                  refine v_isub O dX10_shift_80 ?_
                  refine v_top (y := nI (tl t - n)) (pk_sub (by omega)) ?_
                  refine v_icmp_gt O 98 dX10_shift_81 (by decide) (fun z9 => ?_) (fun z9 => ?_)
                  · skip
                    have z9 := (c_lt' (x := nI i) (y := nI (tl t - n)) (a := i) (b := tl t - n) rfl rfl (by omega) (by omega)).mp z9
                    exact absurd z9 (by omega)
                  · skip
                    have z9 := (not_congr (c_lt' (x := nI i) (y := nI (tl t - n)) (a := i) (b := tl t - n) rfl rfl (by omega) (by omega))).mp z9
                    refine v_iload O dX10_shift_84 4 rfl ?_
                    refine v_aload_n O dX10_shift_86 0 rfl ?_
                    refine gf_X10_169 (v := .ref (ma 52)) O rfl dX10_shift_87 4 rfl rfl ?_
                    refine v_iload_n O dX10_shift_90 3 rfl ?_
                    refine v_ialdk O dX10_shift_91 1 rfl u rfl (by omega) (by decide) ?_
                    refine v_top (y := nI (tl u)) rfl ?_
                    refine v_iload O dX10_shift_92 5 rfl ?_
                    refine v_isub O dX10_shift_94 ?_
                    refine v_top (y := nI (tl u - n)) (pk_sub (by omega)) ?_
                    refine v_icmp_le O 101 dX10_shift_95 (by decide) (fun z10 => ?_) (fun z10 => ?_)
                    · skip
                      have z10 := (c_le (x := nI j) (y := nI (tl u - n)) (a := j) (b := tl u - n) rfl rfl (by omega) (by omega)).mp z10
                      refine v_iconst (v := 0) O dX10_shift_101 (by decide) ?_
                      refine v_istore (lv' := [(0, .ref mo), (1, .int (nI t)), (2, .int (nI i)), (3, .int (nI u)), (4, .int (nI j)), (5, .int (nI n)), (6, .int 0)]) O dX10_shift_102 (by decide) rfl ?_
                      refine v_sub (ws' := [(mo, .inr (10, M1R ma (mZ c c2 tk vc ln rn zs_10 zs_11 zs_20 zs_21 zs_22 zs_25 zs_26 zs_27 zs_29))), ((ma 51), eI D 6 ts), ((ma 52), eI D 6 (nF tl)), ((ma 53), eJ D 360 (itm ti)), ((ma 54), eJ D 60 ad)]) [4, 0, 1, 2, 3] (by decide) rfl ?_
                      refine v_eq (lv' := [(0, .ref mo), (1, .int (nI t)), (2, .int (nI i)), (3, .int (nI u)), (4, .int (nI j)), (5, .int (nI n)), (6, .int (nI 0))]) rfl rfl rfl rfl ?_
                      refine l_X10_shA2 O hk (by omega) (fun ad1 ha => ?_) n 0 (by omega) _ (fun x hx => absurd hx (Nat.not_lt_zero x))
                      refine v_iconst (v := 0) O dX10_shift_138 (by decide) ?_
                      refine v_istore (lv' := [(0, .ref mo), (1, .int (nI t)), (2, .int (nI i)), (3, .int (nI u)), (4, .int (nI j)), (5, .int (nI n)), (6, .int 0)]) O dX10_shift_139 (by decide) rfl ?_
                      refine v_eq (lv' := [(0, .ref mo), (1, .int (nI t)), (2, .int (nI i)), (3, .int (nI u)), (4, .int (nI j)), (5, .int (nI n)), (6, .int (nI 0))]) rfl rfl rfl rfl ?_
                      refine l_X10_shB2 O hk2 (by omega) ha (fun h h1 h2 => ?_) n 0 (by omega) _ (fun x a b => by omega) (fun x _ => rfl)
                      refine v_congJ (g := itm (updT ti u (va_cpy (ti t) (ti u) i j n))) (ws' := [(mo, .inr (10, M1R ma (mZ c c2 tk vc ln rn zs_10 zs_11 zs_20 zs_21 zs_22 zs_25 zs_26 zs_27 zs_29))), ((ma 51), eI D 6 ts), ((ma 52), eI D 6 (nF tl)), ((ma 53), eJ D 360 (itm (updT ti u (va_cpy (ti t) (ti u) i j n)))), ((ma 54), eJ D 60 ad1)]) 3 rfl (itm_cpy (by omega) (by omega) h1 h2) rfl ?_
                      refine v_iload O dX10_shift_176 5 rfl ?_
                      exact v_ireturn O T rfl rfl (by decide) (by decide) dX10_shift_178 (⟨zs_10, zs_11, zs_20, zs_21, zs_22, zs_25, zs_26, zs_27, zs_29, _, rfl, rfl⟩)
                      
                      
                    · skip
                      have z10 := (not_congr (c_le (x := nI j) (y := nI (tl u - n)) (a := j) (b := tl u - n) rfl rfl (by omega) (by omega))).mp z10
                      exact absurd z10 (by omega)
          · skip
            exact absurd heq z5
        · skip
          exact absurd (Int32.not_lt.mp (so_ge hso2 hs2)) z4
    · skip
      have z2 := b2i_0.mp z2
      exact absurd ((isIx_nI (by omega) (by omega)).mpr hk2) z2
