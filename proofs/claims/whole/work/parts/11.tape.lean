-- OneForDog$Tape
noncomputable def cutF (s : Int32) (v : Int64) : Int64 := if s = 0 then Int32.toInt64 (Int64.toInt32 v).toInt8.toInt32 else if s = 1 then Int32.toInt64 (Int64.toInt32 v).toInt16.toInt32 else if s = 2 then Int32.toInt64 (Int64.toInt32 v) else if s = 3 then v else if v = 0 then 0 else 1
set_option maxRecDepth 100000 in
set_option maxHeartbeats 4000000 in
theorem sp_X5_becomes {D : G} {t : Nat} {sort : Int32} {len : Nat} {it : Nat} {f : Nat → Int64} {ns : Int32} {n : Nat} : Sp D mX5_becomes 1 0 0 [.ref t, .int ns, .int (nI n)] [(t, .inr (5, [.int sort, .int (nI len), .ref it])), (it, eJ D 60 f)] (fun r w => ∃ g : Nat → Int64, r = none ∧ w = [(t, .inr (5, [.int ns, .int (nI n), .ref it])), (it, eJ D 60 g)] ∧ (∀ j, j < 60 → g j = 0)) := by
  refine Sp.of (by decide) (Nat.le_of_ble_eq_true rfl) (fun X O T => ?_)
  refine v_eq (lv' := [(0, .ref t), (1, .int ns), (2, .int (nI n))]) rfl rfl rfl rfl ?_
  refine v_aload_n O dX5_becomes_0 0 rfl ?_
  refine v_iload_n O dX5_becomes_1 1 rfl ?_
  refine pf_X5_11 (fs' := [.int ns, .int (nI len), .ref it]) (ws' := [(t, .inr (5, [.int ns, .int (nI len), .ref it])), (it, eJ D 60 f)]) O rfl dX5_becomes_2 0 rfl (Nat.le_of_ble_eq_true rfl) rfl rfl ?_
  refine v_aload_n O dX5_becomes_5 0 rfl ?_
  refine v_iload_n O dX5_becomes_6 2 rfl ?_
  refine pf_X5_15 (fs' := [.int ns, .int (nI n), .ref it]) (ws' := [(t, .inr (5, [.int ns, .int (nI n), .ref it])), (it, eJ D 60 f)]) O rfl dX5_becomes_7 0 rfl (Nat.le_of_ble_eq_true rfl) rfl rfl ?_
  refine v_aload_n O dX5_becomes_10 0 rfl ?_
  refine gf_X5_18 O rfl dX5_becomes_11 0 rfl rfl ?_
  refine v_lconst (v := 0) O dX5_becomes_14 rfl ?_
  refine v_cS (As := [.ref it, .long 0]) (wr := [(t, .inr (5, [.int ns, .int (nI n), .ref it]))]) (st := []) O cf_X5_22 (sg_fill_d0a16 (a := it) (n := 60) (f := f) (v := 0) (by decide)) dX5_becomes_15 rfl rfl [1] [0] (by decide) rfl rfl (by decide) (by decide) (by decide) (Nat.le_of_ble_eq_true rfl) (by decide) (by decide) (fun r_2 w_3 h_1 => ?_)
  obtain ⟨g_4, rfl, rfl, hg⟩ := h_1
  refine v_eq (st' := []) (ws' := [(t, .inr (5, [.int ns, .int (nI n), .ref it])), (it, eJ D 60 g_4)]) rfl rfl rfl rfl ?_
  exact v_return O T rfl (by decide) (by decide) dX5_becomes_18 (⟨_, rfl, rfl, hg⟩)
set_option maxRecDepth 100000 in
set_option maxHeartbeats 4000000 in
theorem sp_X5_holdsSomething {D : G} {t : Nat} {sort : Int32} {len : Nat} {it : Nat} : Sp D mX5_holdsSomething 0 0 0 [.ref t] [(t, .inr (5, [.int sort, .int (nI len), .ref it]))] (fun r w => r = some (.int (b2i (¬ sort = -1))) ∧ w = [(t, .inr (5, [.int sort, .int (nI len), .ref it]))]) := by
  refine Sp.of (by decide) (Nat.le_of_ble_eq_true rfl) (fun X O T => ?_)
  refine v_eq (lv' := [(0, .ref t)]) rfl rfl rfl rfl ?_
  refine v_aload_n O dX5_holdsSomething_0 0 rfl ?_
  refine gf_X5_11 O rfl dX5_holdsSomething_1 0 rfl rfl ?_
  refine v_iconst (v := -1) O dX5_holdsSomething_4 (by decide) ?_
  refine v_icmp_eq O 12 dX5_holdsSomething_5 (by decide) (fun c => ?_) (fun c => ?_)
  · skip
    refine v_iconst (v := 0) O dX5_holdsSomething_12 (by decide) ?_
    exact v_ireturn O T rfl rfl (by decide) (by decide) dX5_holdsSomething_13 (⟨by rw [b2i_f (fun h => h c)], rfl⟩)
  · skip
    refine v_iconst (v := 1) O dX5_holdsSomething_8 (by decide) ?_
    refine v_goto O 13 dX5_holdsSomething_9 (by decide) ?_
    exact v_ireturn O T rfl rfl (by decide) (by decide) dX5_holdsSomething_13 (⟨by rw [b2i_t (c)], rfl⟩)
set_option maxRecDepth 100000 in
set_option maxHeartbeats 4000000 in
theorem sp_X5_has {D : G} {t : Nat} {sort : Int32} {len : Nat} {it : Nat} {p : Int64} (hl : len ≤ 60) : Sp D mX5_has 0 0 0 [.ref t, .long p] [(t, .inr (5, [.int sort, .int (nI len), .ref it]))] (fun r w => r = some (.int (b2i (isIxL p len))) ∧ w = [(t, .inr (5, [.int sort, .int (nI len), .ref it]))]) := by
  refine Sp.of (by decide) (Nat.le_of_ble_eq_true rfl) (fun X O T => ?_)
  refine v_eq (lv' := [(0, .ref t), (1, .long p)]) rfl rfl rfl rfl ?_
  refine v_lload_n O dX5_has_0 1 rfl ?_
  refine v_lconst (v := 0) O dX5_has_1 rfl ?_
  refine v_lcmp O dX5_has_2 ?_
  refine v_if_lt O 28 dX5_has_3 (by decide) (fun c1 => ?_) (fun c1 => ?_)
  · skip
    have c1 := (lg_cmp_lt _ _).mp c1
    refine v_iconst (v := 0) O dX5_has_28 (by decide) ?_
    exact v_ireturn O T rfl rfl (by decide) (by decide) dX5_has_29 (⟨by rw [b2i_f (by first | exact isIxL_neg (by omega) c1 | exact isIxL_big (by omega) (Nat.le_refl _) c2 | exact isIxL_big (m := 60) (by omega) (by omega) c3)], rfl⟩)
  · skip
    have c1 := (not_congr (lg_cmp_lt _ _)).mp c1
    refine v_lload_n O dX5_has_6 1 rfl ?_
    refine v_aload_n O dX5_has_7 0 rfl ?_
    refine gf_X5_15 O rfl dX5_has_8 0 rfl rfl ?_
    refine v_i2l O dX5_has_11 ?_
    refine v_topx (y := lN len) (nI_l (by omega)) ?_
    refine v_lcmp O dX5_has_12 ?_
    refine v_if_ge O 28 dX5_has_13 (by decide) (fun c2 => ?_) (fun c2 => ?_)
    · skip
      have c2 := (lg_cmp_ge _ _).mp c2
      refine v_iconst (v := 0) O dX5_has_28 (by decide) ?_
      exact v_ireturn O T rfl rfl (by decide) (by decide) dX5_has_29 (⟨by rw [b2i_f (by first | exact isIxL_neg (by omega) c1 | exact isIxL_big (by omega) (Nat.le_refl _) c2 | exact isIxL_big (m := 60) (by omega) (by omega) c3)], rfl⟩)
    · skip
      have c2 := (not_congr (lg_cmp_ge _ _)).mp c2
      refine v_lload_n O dX5_has_16 1 rfl ?_
      refine v_ldc2 (v := 60) O tw_848 dX5_has_17 ?_
      refine v_lcmp O dX5_has_20 ?_
      refine v_if_ge O 28 dX5_has_21 (by decide) (fun c3 => ?_) (fun c3 => ?_)
      · skip
        have c3 := (lg_cmp_ge _ _).mp c3
        refine v_iconst (v := 0) O dX5_has_28 (by decide) ?_
        exact v_ireturn O T rfl rfl (by decide) (by decide) dX5_has_29 (⟨by rw [b2i_f (by first | exact isIxL_neg (by omega) c1 | exact isIxL_big (by omega) (Nat.le_refl _) c2 | exact isIxL_big (m := 60) (by omega) (by omega) c3)], rfl⟩)
      · skip
        have c3 := (not_congr (lg_cmp_ge _ _)).mp c3
        refine v_iconst (v := 1) O dX5_has_24 (by decide) ?_
        refine v_goto O 29 dX5_has_25 (by decide) ?_
        exact v_ireturn O T rfl rfl (by decide) (by decide) dX5_has_29 (⟨by rw [b2i_t (isIxL_t (by omega) c1 c2)], rfl⟩)
def isSt (a b : Int32) (n : Nat) : Prop := ∃ i j : Nat, a = nI i ∧ b = nI j ∧ i + j ≤ n
set_option maxRecDepth 100000 in
set_option maxHeartbeats 4000000 in
theorem sp_X5_hasStretch {D : G} {t : Nat} {sort : Int32} {len : Nat} {it : Nat} {a : Int32} {b : Int32} (hl : len ≤ 60) : Sp D mX5_hasStretch 0 0 0 [.ref t, .int a, .int b] [(t, .inr (5, [.int sort, .int (nI len), .ref it]))] (fun r w => r = some (.int (b2i (isSt a b len))) ∧ w = [(t, .inr (5, [.int sort, .int (nI len), .ref it]))]) := by
  refine Sp.of (by decide) (Nat.le_of_ble_eq_true rfl) (fun X O T => ?_)
  refine v_eq (lv' := [(0, .ref t), (1, .int a), (2, .int b)]) rfl rfl rfl rfl ?_
  refine v_iload_n O dX5_hasStretch_0 1 rfl ?_
  refine v_if_lt O 35 dX5_hasStretch_1 (by decide) (fun c1 => ?_) (fun c1 => ?_)
  · skip
    refine v_iconst (v := 0) O dX5_hasStretch_35 (by decide) ?_
    exact v_ireturn O T rfl rfl (by decide) (by decide) dX5_hasStretch_36 (⟨by rw [b2i_f (by rintro ⟨i2, j2, e1, e2, h2⟩; first | (subst e1; exact nI_pos (by omega) c1) | (subst e2; exact nI_pos (by omega) c2) | (have := (nI_eq hi (by omega)).mp e1; have := (nI_eq hj (by omega)).mp e2; omega))], rfl⟩)
  · skip
    refine v_iload_n O dX5_hasStretch_4 2 rfl ?_
    refine v_if_lt O 35 dX5_hasStretch_5 (by decide) (fun c2 => ?_) (fun c2 => ?_)
    · skip
      refine v_iconst (v := 0) O dX5_hasStretch_35 (by decide) ?_
      exact v_ireturn O T rfl rfl (by decide) (by decide) dX5_hasStretch_36 (⟨by rw [b2i_f (by rintro ⟨i2, j2, e1, e2, h2⟩; first | (subst e1; exact nI_pos (by omega) c1) | (subst e2; exact nI_pos (by omega) c2) | (have := (nI_eq hi (by omega)).mp e1; have := (nI_eq hj (by omega)).mp e2; omega))], rfl⟩)
    · skip
      obtain ⟨i, hi, rfl⟩ := nI_of c1
      obtain ⟨j, hj, rfl⟩ := nI_of c2
      refine v_iload_n O dX5_hasStretch_8 1 rfl ?_
      refine v_i2l O dX5_hasStretch_9 ?_
      refine v_topx (y := lN i) (nI_l (by omega)) ?_
      refine v_iload_n O dX5_hasStretch_10 2 rfl ?_
      refine v_i2l O dX5_hasStretch_11 ?_
      refine v_topx (y := lN j) (nI_l (by omega)) ?_
      refine v_ladd O dX5_hasStretch_12 ?_
      refine v_topx (y := lN (i + j)) (lN_add _ _) ?_
      refine v_aload_n O dX5_hasStretch_13 0 rfl ?_
      refine gf_X5_15 O rfl dX5_hasStretch_14 0 rfl rfl ?_
      refine v_i2l O dX5_hasStretch_17 ?_
      refine v_topx (y := lN len) (nI_l (by omega)) ?_
      refine v_lcmp O dX5_hasStretch_18 ?_
      refine v_if_gt O 35 dX5_hasStretch_19 (by decide) (fun c3 => ?_) (fun c3 => ?_)
      · skip
        have c3 := (lg_cmp_gt _ _).mp c3; have c3 := (cl_lt' (x := lN (i + j)) (y := lN len) (a := i + j) (b := len) rfl rfl (by omega) (by omega)).mp c3
        refine v_iconst (v := 0) O dX5_hasStretch_35 (by decide) ?_
        exact v_ireturn O T rfl rfl (by decide) (by decide) dX5_hasStretch_36 (⟨by rw [b2i_f (by rintro ⟨i2, j2, e1, e2, h2⟩; first | (subst e1; exact nI_pos (by omega) c1) | (subst e2; exact nI_pos (by omega) c2) | (have := (nI_eq hi (by omega)).mp e1; have := (nI_eq hj (by omega)).mp e2; omega))], rfl⟩)
      · skip
        have c3 := (not_congr (lg_cmp_gt _ _)).mp c3; have c3 := (not_congr (cl_lt' (x := lN (i + j)) (y := lN len) (a := i + j) (b := len) rfl rfl (by omega) (by omega))).mp c3
        refine v_aload_n O dX5_hasStretch_22 0 rfl ?_
        refine gf_X5_15 O rfl dX5_hasStretch_23 0 rfl rfl ?_
        refine v_bipush (v := 60) O dX5_hasStretch_26 (by decide) ?_
        refine v_icmp_gt O 35 dX5_hasStretch_28 (by decide) (fun c4 => ?_) (fun c4 => ?_)
        · skip
          have c4 := (c_lt' (x := nI len) (y := 60) (a := len) (b := 60) rfl rfl (by omega) (by omega)).mp c4
          refine v_iconst (v := 0) O dX5_hasStretch_35 (by decide) ?_
          exact v_ireturn O T rfl rfl (by decide) (by decide) dX5_hasStretch_36 (⟨by rw [b2i_f (by rintro ⟨i2, j2, e1, e2, h2⟩; first | (subst e1; exact nI_pos (by omega) c1) | (subst e2; exact nI_pos (by omega) c2) | (have := (nI_eq hi (by omega)).mp e1; have := (nI_eq hj (by omega)).mp e2; omega))], rfl⟩)
        · skip
          have c4 := (not_congr (c_lt' (x := nI len) (y := 60) (a := len) (b := 60) rfl rfl (by omega) (by omega))).mp c4
          refine v_iconst (v := 1) O dX5_hasStretch_31 (by decide) ?_
          refine v_goto O 36 dX5_hasStretch_32 (by decide) ?_
          exact v_ireturn O T rfl rfl (by decide) (by decide) dX5_hasStretch_36 (⟨by rw [b2i_t (⟨i, j, rfl, rfl, by omega⟩)], rfl⟩)
set_option maxRecDepth 100000 in
set_option maxHeartbeats 4000000 in
theorem sp_X5_at {D : G} {t : Nat} {sort : Int32} {len : Nat} {it : Nat} {f : Nat → Int64} {k : Nat} (hk : k < len) (hl : len ≤ 60) : Sp D mX5_at 1 0 0 [.ref t, .int (nI k)] [(t, .inr (5, [.int sort, .int (nI len), .ref it])), (it, eJ D 60 f)] (fun r w => r = some (.long (f k)) ∧ w = [(t, .inr (5, [.int sort, .int (nI len), .ref it])), (it, eJ D 60 f)]) := by
  refine Sp.of (by decide) (Nat.le_of_ble_eq_true rfl) (fun X O T => ?_)
  refine v_eq (lv' := [(0, .ref t), (1, .int (nI k))]) rfl rfl rfl rfl ?_
  refine v_aload_n O dX5_at_0 0 rfl ?_
  refine v_iload_n O dX5_at_1 1 rfl ?_
  refine v_i2l O dX5_at_2 ?_
  refine v_topx (y := lN k) (nI_l (by omega)) ?_
  refine v_cV (T := TX5) (ci := 5) (As := [.long (lN k)]) (wr := [(it, eJ D 60 f)]) (st := []) O cf_X5_30 rfl (sp_X5_has (t := t) (sort := sort) (len := len) (it := it) (p := (lN k)) (hl)) dX5_at_3 rfl rfl 0 rfl [0] [1] (by decide) rfl rfl (by decide) (by decide) (by decide) (Nat.le_of_ble_eq_true rfl) (by decide) (by decide) (fun r_2 w_3 h_1 => ?_)
  obtain ⟨rfl, rfl⟩ := h_1
  refine v_eq (st' := [.int (b2i (isIxL (lN k) len))]) (ws' := [(it, eJ D 60 f), (t, .inr (5, [.int sort, .int (nI len), .ref it]))]) rfl rfl rfl rfl ?_
  refine v_if_eq O 18 dX5_at_6 (by decide) (fun c1 => ?_) (fun c1 => ?_)
  · skip
    have c1 := b2i_0.mp c1
    exact absurd ((isIxL_lN (by omega) (by omega)).mpr hk) c1
  · skip
    have c1 := b2i_1.mp c1
    refine v_aload_n O dX5_at_9 0 rfl ?_
    refine gf_X5_18 O rfl dX5_at_10 1 rfl rfl ?_
    refine v_iload_n O dX5_at_13 1 rfl ?_
    refine v_laldk O dX5_at_14 0 rfl k rfl (by omega) (by decide) ?_
    refine v_goto O 19 dX5_at_15 (by decide) ?_
    refine v_sub (ws' := [(t, .inr (5, [.int sort, .int (nI len), .ref it])), (it, eJ D 60 f)]) [1, 0] (by decide) rfl ?_
    exact v_lreturn O T rfl (by decide) (by decide) dX5_at_19 (⟨rfl, rfl⟩)
set_option maxRecDepth 100000 in
set_option maxHeartbeats 4000000 in
theorem sp_X5_cut {D : G} {t : Nat} {sort : Int32} {len : Nat} {it : Nat} {v : Int64} : Sp D mX5_cut 0 0 0 [.ref t, .long v] [(t, .inr (5, [.int sort, .int (nI len), .ref it]))] (fun r w => r = some (.long (cutF sort v)) ∧ w = [(t, .inr (5, [.int sort, .int (nI len), .ref it]))]) := by
  refine Sp.of (by decide) (Nat.le_of_ble_eq_true rfl) (fun X O T => ?_)
  refine v_eq (lv' := [(0, .ref t), (1, .long v)]) rfl rfl rfl rfl ?_
  refine v_aload_n O dX5_cut_0 0 rfl ?_
  refine gf_X5_11 O rfl dX5_cut_1 0 rfl rfl ?_
  by_cases s_1 : sort = 0
  · skip
    refine v_top s_1 ?_
    refine v_tsIn (off := 32) O 36 dX5_cut_4 (by decide) (by decide) (by decide) (by decide) ?_
    refine v_lload_n O dX5_cut_36 1 rfl ?_
    refine v_l2i O dX5_cut_37 ?_
    refine v_i2b O dX5_cut_38 ?_
    refine v_i2l O dX5_cut_39 ?_
    exact v_lreturn O T rfl (by decide) (by decide) dX5_cut_40 (⟨by unfold cutF; simp_all, rfl⟩)
  by_cases s_2 : sort = 1
  · skip
    refine v_top s_2 ?_
    refine v_tsIn (off := 37) O 41 dX5_cut_4 (by decide) (by decide) (by decide) (by decide) ?_
    refine v_lload_n O dX5_cut_41 1 rfl ?_
    refine v_l2i O dX5_cut_42 ?_
    refine v_i2s O dX5_cut_43 ?_
    refine v_i2l O dX5_cut_44 ?_
    exact v_lreturn O T rfl (by decide) (by decide) dX5_cut_45 (⟨by unfold cutF; simp_all, rfl⟩)
  by_cases s_3 : sort = 2
  · skip
    refine v_top s_3 ?_
    refine v_tsIn (off := 42) O 46 dX5_cut_4 (by decide) (by decide) (by decide) (by decide) ?_
    refine v_lload_n O dX5_cut_46 1 rfl ?_
    refine v_l2i O dX5_cut_47 ?_
    refine v_i2l O dX5_cut_48 ?_
    exact v_lreturn O T rfl (by decide) (by decide) dX5_cut_49 (⟨by unfold cutF; simp_all, rfl⟩)
  by_cases s_4 : sort = 3
  · skip
    refine v_top s_4 ?_
    refine v_tsIn (off := 46) O 50 dX5_cut_4 (by decide) (by decide) (by decide) (by decide) ?_
    refine v_lload_n O dX5_cut_50 1 rfl ?_
    exact v_lreturn O T rfl (by decide) (by decide) dX5_cut_51 (⟨by unfold cutF; simp_all, rfl⟩)
  refine v_tsOut O 52 dX5_cut_4 (ts_out (by decide) (by decide) (fun v h1 h2 => by rcases (show v = 0 ∨ v = 1 ∨ v = 2 ∨ v = 3 by omega) with rfl | rfl | rfl | rfl <;> assumption)) (by decide) ?_
  refine v_lload_n O dX5_cut_52 1 rfl ?_
  refine v_lconst (v := 0) O dX5_cut_53 rfl ?_
  refine v_lcmp O dX5_cut_54 ?_
  refine v_if_eq O 62 dX5_cut_55 (by decide) (fun c => ?_) (fun c => ?_)
  · skip
    have c := (lg_cmp_eq _ _).mp c
    refine v_lconst (v := 0) O dX5_cut_62 rfl ?_
    exact v_lreturn O T rfl (by decide) (by decide) dX5_cut_63 (⟨by unfold cutF; simp_all, rfl⟩)
  · skip
    have c := (not_congr (lg_cmp_eq _ _)).mp c
    refine v_lconst (v := 1) O dX5_cut_58 rfl ?_
    refine v_goto O 63 dX5_cut_59 (by decide) ?_
    exact v_lreturn O T rfl (by decide) (by decide) dX5_cut_63 (⟨by unfold cutF; simp_all, rfl⟩)
set_option maxRecDepth 100000 in
set_option maxHeartbeats 4000000 in
theorem sp_X5_put {D : G} {t : Nat} {sort : Int32} {len : Nat} {it : Nat} {f : Nat → Int64} {k : Nat} {v : Int64} (hk : k < len) (hl : len ≤ 60) : Sp D mX5_put 1 0 0 [.ref t, .int (nI k), .long v] [(t, .inr (5, [.int sort, .int (nI len), .ref it])), (it, eJ D 60 f)] (fun r w => r = none ∧ w = [(t, .inr (5, [.int sort, .int (nI len), .ref it])), (it, eJ D 60 (vp_updL f k (cutF sort v)))]) := by
  refine Sp.of (by decide) (Nat.le_of_ble_eq_true rfl) (fun X O T => ?_)
  refine v_eq (lv' := [(0, .ref t), (1, .int (nI k)), (2, .long v)]) rfl rfl rfl rfl ?_
  refine v_aload_n O dX5_put_0 0 rfl ?_
  refine v_iload_n O dX5_put_1 1 rfl ?_
  refine v_i2l O dX5_put_2 ?_
  refine v_topx (y := lN k) (nI_l (by omega)) ?_
  refine v_cV (T := TX5) (ci := 5) (As := [.long (lN k)]) (wr := [(it, eJ D 60 f)]) (st := []) O cf_X5_30 rfl (sp_X5_has (t := t) (sort := sort) (len := len) (it := it) (p := (lN k)) (hl)) dX5_put_3 rfl rfl 0 rfl [0] [1] (by decide) rfl rfl (by decide) (by decide) (by decide) (Nat.le_of_ble_eq_true rfl) (by decide) (by decide) (fun r_2 w_3 h_1 => ?_)
  obtain ⟨rfl, rfl⟩ := h_1
  refine v_eq (st' := [.int (b2i (isIxL (lN k) len))]) (ws' := [(it, eJ D 60 f), (t, .inr (5, [.int sort, .int (nI len), .ref it]))]) rfl rfl rfl rfl ?_
  refine v_if_eq O 20 dX5_put_6 (by decide) (fun c1 => ?_) (fun c1 => ?_)
  · skip
    have c1 := b2i_0.mp c1
    exact absurd ((isIxL_lN (by omega) (by omega)).mpr hk) c1
  · skip
    have c1 := b2i_1.mp c1
    refine v_aload_n O dX5_put_9 0 rfl ?_
    refine gf_X5_18 O rfl dX5_put_10 1 rfl rfl ?_
    refine v_iload_n O dX5_put_13 1 rfl ?_
    refine v_aload_n O dX5_put_14 0 rfl ?_
    refine v_lload_n O dX5_put_15 2 rfl ?_
    refine v_cV (T := TX5) (ci := 5) (As := [.long v]) (wr := [(it, eJ D 60 f)]) (st := [.int (nI k), .ref it]) O cf_X5_34 rfl (sp_X5_cut (t := t) (sort := sort) (len := len) (it := it) (v := v) ) dX5_put_16 rfl rfl 1 rfl [1] [0] (by decide) rfl rfl (by decide) (by decide) (by decide) (Nat.le_of_ble_eq_true rfl) (by decide) (by decide) (fun r_5 w_6 h_4 => ?_)
    obtain ⟨rfl, rfl⟩ := h_4
    refine v_eq (st' := [.long (cutF sort v), .int (nI k), .ref it]) (ws' := [(it, eJ D 60 f), (t, .inr (5, [.int sort, .int (nI len), .ref it]))]) rfl rfl rfl rfl ?_
    refine v_lastk (ws' := [(it, eJ D 60 (vp_updL f k (cutF sort v))), (t, .inr (5, [.int sort, .int (nI len), .ref it]))]) O dX5_put_19 0 rfl k (rfl) (by omega) (by decide) (rfl) ?_
    refine v_sub (ws' := [(t, .inr (5, [.int sort, .int (nI len), .ref it])), (it, eJ D 60 (vp_updL f k (cutF sort v)))]) [1, 0] (by decide) rfl ?_
    exact v_return O T rfl (by decide) (by decide) dX5_put_20 (⟨rfl, rfl⟩)
