-- the calls: judge, tapes, long numbers
theorem isIxL_i {x : Int32} {n : Nat} (hn : n < 2147483648) (h : isIxL (Int32.toInt64 x) n) : isIx x n := by
  obtain ⟨k, hk, e⟩ := h
  refine ⟨k, hk, ?_⟩
  rw [← nI_l (show k < 2147483648 by omega)] at e
  rwa [fa_wide_eq] at e
theorem zm1_n {zw : Int32} (h1 : ¬ zw < -1) (h2 : ¬ zw = -1) : ¬ zw < 0 := fun h => by
  rw [fa_lt] at h1 h
  rw [fa_eq] at h2
  have e1 : (-1 : Int32).toInt = -1 := by decide
  have e0 : (0 : Int32).toInt = 0 := by decide
  omega
set_option maxRecDepth 100000 in
set_option maxHeartbeats 4000000 in
theorem sp_X9_judge_1 {D : G} {o : Nat} {ca : Nat} {im : Nat} {tk : Int32} {txo : Nat} {ba : Nat} {va : Nat} {vc : Nat} {nwk : Nat} {nt : Nat} {ro : Nat} {lo : Nat} {bd : Nat} {ta : Nat} {tt : Nat → Option Nat} {t : Int32} {i : Int32} (hk : ¬ isIx t 6) : Sp D mX9_judge 30 0 0 [.ref o, .int t, .int i] [(o, .inr (9, [.ref ca, .ref im, .int tk, .ref txo, .ref ba, .ref va, .int (nI vc), .ref nwk, .ref nt, .ref ro, .ref lo, .ref bd, .ref ta])), (ta, eT D 6 tt)] (fun r w => r = some (.int (-1)) ∧ w = [(o, .inr (9, [.ref ca, .ref im, .int tk, .ref txo, .ref ba, .ref va, .int (nI vc), .ref nwk, .ref nt, .ref ro, .ref lo, .ref bd, .ref ta])), (ta, eT D 6 tt)]) := by
  refine Sp.of (by decide) (Nat.le_of_ble_eq_true rfl) (fun X O T => ?_)
  refine v_eq (lv' := [(0, .ref o), (1, .int t), (2, .int i)]) rfl rfl rfl rfl ?_
  refine v_aload_n O dX9_judge_0 0 rfl ?_
  refine v_iload_n O dX9_judge_1 1 rfl ?_
  refine v_cV (T := TX9) (ci := 9) (As := [.int t]) (wr := []) (st := []) O cf_X9_243 rfl (sp_X9_tapeAt_o (o := o) (ca := ca) (im := im) (tk := tk) (txo := txo) (ba := ba) (va := va) (vc := vc) (nwk := nwk) (nt := nt) (ro := ro) (lo := lo) (bd := bd) (ta := ta) (tt := tt) (k := t) (hk)) dX9_judge_2 rfl rfl 0 rfl [0, 1] [] (by decide) rfl rfl (by decide) (by decide) (by decide) (Nat.le_of_ble_eq_true rfl) (by decide) (by decide) (fun r_2 w_3 h_1 => ?_)
  obtain ⟨rfl, rfl⟩ := h_1
  refine v_eq (st' := [.null]) (ws' := [(o, .inr (9, [.ref ca, .ref im, .int tk, .ref txo, .ref ba, .ref va, .int (nI vc), .ref nwk, .ref nt, .ref ro, .ref lo, .ref bd, .ref ta])), (ta, eT D 6 tt)]) rfl rfl rfl rfl ?_
  refine v_astore_nN (lv' := [(0, .ref o), (1, .int t), (2, .int i), (3, .null)]) O dX9_judge_5 (by decide) rfl ?_
  refine v_aload_nN O dX9_judge_6 3 rfl ?_
  refine v_ifnonnullN O dX9_judge_7 ?_
  refine v_iconst (v := -1) O dX9_judge_10 (by decide) ?_
  exact v_ireturn O T rfl rfl (by decide) (by decide) dX9_judge_11 (⟨rfl, rfl⟩)
set_option maxRecDepth 100000 in
set_option maxHeartbeats 4000000 in
theorem sp_X9_judge_2 {D : G} {o : Nat} {ca : Nat} {im : Nat} {tk : Int32} {txo : Nat} {ba : Nat} {va : Nat} {vc : Nat} {nwk : Nat} {nt : Nat} {ro : Nat} {lo : Nat} {bd : Nat} {ta : Nat} {ck : Nat} {cv : Nat} {chd : Nat} {cr : Nat} {cb : Nat} {c : CS} {tt : Nat → Option Nat} {ti : Nat} {sort : Int32} {len : Nat} {it : Nat} {f : Nat → Int64} {t : Nat} {i : Int32} (hC : cOk c) (hk : t < 6) (ht : tt t = some ti) (htl : len ≤ 60) (hts : sort = -1 → len = 0) (hso : sort = -1 ∨ isIx sort 5) (hs1 : ¬ sort = -1) (hs3 : ¬ sort = 3) : Sp D mX9_judge 30 0 0 [.ref o, .int (nI t), .int i] [(o, .inr (9, [.ref ca, .ref im, .int tk, .ref txo, .ref ba, .ref va, .int (nI vc), .ref nwk, .ref nt, .ref ro, .ref lo, .ref bd, .ref ta])), (ca, .inr (1, [.int (nI c.men), .ref ck, .ref cv, .ref chd, .int (nI c.heap), .int c.dogs, .int (nI c.wak), .int (nI c.rl), .ref cr, .int (nI c.pg), .ref cb, .int c.held])), (ck, eI D 6 (nF c.kk)), (cv, eI D 6 (nF c.vv)), (chd, eI D 6 c.hd), (cr, eI D 8 (nF c.crf)), (cb, eI D 12 (nF c.bo)), (ta, eT D 6 tt), (ti, .inr (5, [.int sort, .int (nI len), .ref it])), (it, eJ D 60 f)] (fun r w => r = some (.int (-12)) ∧ w = [(o, .inr (9, [.ref ca, .ref im, .int tk, .ref txo, .ref ba, .ref va, .int (nI vc), .ref nwk, .ref nt, .ref ro, .ref lo, .ref bd, .ref ta])), (ca, .inr (1, [.int (nI c.men), .ref ck, .ref cv, .ref chd, .int (nI c.heap), .int c.dogs, .int (nI c.wak), .int (nI c.rl), .ref cr, .int (nI c.pg), .ref cb, .int c.held])), (ck, eI D 6 (nF c.kk)), (cv, eI D 6 (nF c.vv)), (chd, eI D 6 c.hd), (cr, eI D 8 (nF c.crf)), (cb, eI D 12 (nF c.bo)), (ta, eT D 6 tt), (ti, .inr (5, [.int sort, .int (nI len), .ref it])), (it, eJ D 60 f)]) := by
  refine Sp.of (by decide) (Nat.le_of_ble_eq_true rfl) (fun X O T => ?_)
  refine v_eq (lv' := [(0, .ref o), (1, .int (nI t)), (2, .int i)]) rfl rfl rfl rfl ?_
  have z_m := hC.1
  refine v_aload_n O dX9_judge_0 0 rfl ?_
  refine v_iload_n O dX9_judge_1 1 rfl ?_
  refine v_cV (T := TX9) (ci := 9) (As := [.int (nI t)]) (wr := [(ca, .inr (1, [.int (nI c.men), .ref ck, .ref cv, .ref chd, .int (nI c.heap), .int c.dogs, .int (nI c.wak), .int (nI c.rl), .ref cr, .int (nI c.pg), .ref cb, .int c.held])), (ck, eI D 6 (nF c.kk)), (cv, eI D 6 (nF c.vv)), (chd, eI D 6 c.hd), (cr, eI D 8 (nF c.crf)), (cb, eI D 12 (nF c.bo)), (ti, .inr (5, [.int sort, .int (nI len), .ref it])), (it, eJ D 60 f)]) (st := []) O cf_X9_243 rfl (sp_X9_tapeAt_i (o := o) (ca := ca) (im := im) (tk := tk) (txo := txo) (ba := ba) (va := va) (vc := vc) (nwk := nwk) (nt := nt) (ro := ro) (lo := lo) (bd := bd) (ta := ta) (tt := tt) (k := t) (ti := ti) (hk) (ht)) dX9_judge_2 rfl rfl 0 rfl [0, 7] [1, 2, 3, 4, 5, 6, 8, 9] (by decide) rfl rfl (by decide) (by decide) (by decide) (Nat.le_of_ble_eq_true rfl) (by decide) (by decide) (fun r_2 w_3 h_1 => ?_)
  obtain ⟨rfl, rfl⟩ := h_1
  refine v_eq (st' := [.ref ti]) (ws' := [(ca, .inr (1, [.int (nI c.men), .ref ck, .ref cv, .ref chd, .int (nI c.heap), .int c.dogs, .int (nI c.wak), .int (nI c.rl), .ref cr, .int (nI c.pg), .ref cb, .int c.held])), (ck, eI D 6 (nF c.kk)), (cv, eI D 6 (nF c.vv)), (chd, eI D 6 c.hd), (cr, eI D 8 (nF c.crf)), (cb, eI D 12 (nF c.bo)), (ti, .inr (5, [.int sort, .int (nI len), .ref it])), (it, eJ D 60 f), (o, .inr (9, [.ref ca, .ref im, .int tk, .ref txo, .ref ba, .ref va, .int (nI vc), .ref nwk, .ref nt, .ref ro, .ref lo, .ref bd, .ref ta])), (ta, eT D 6 tt)]) rfl rfl rfl rfl ?_
  refine v_astore_n (lv' := [(0, .ref o), (1, .int (nI t)), (2, .int i), (3, .ref ti)]) O dX9_judge_5 (by decide) rfl ?_
  refine v_aload_n O dX9_judge_6 3 rfl ?_
  refine v_ifnonnull O 12 dX9_judge_7 (by decide) ?_
  refine v_aload_n O dX9_judge_12 3 rfl ?_
  refine v_cV (T := TX5) (ci := 5) (As := []) (wr := [(ca, .inr (1, [.int (nI c.men), .ref ck, .ref cv, .ref chd, .int (nI c.heap), .int c.dogs, .int (nI c.wak), .int (nI c.rl), .ref cr, .int (nI c.pg), .ref cb, .int c.held])), (ck, eI D 6 (nF c.kk)), (cv, eI D 6 (nF c.vv)), (chd, eI D 6 c.hd), (cr, eI D 8 (nF c.crf)), (cb, eI D 12 (nF c.bo)), (it, eJ D 60 f), (o, .inr (9, [.ref ca, .ref im, .int tk, .ref txo, .ref ba, .ref va, .int (nI vc), .ref nwk, .ref nt, .ref ro, .ref lo, .ref bd, .ref ta])), (ta, eT D 6 tt)]) (st := []) O cf_X9_247 rfl (sp_X5_holdsSomething (t := ti) (sort := sort) (len := len) (it := it) ) dX9_judge_13 rfl rfl 6 rfl [6] [0, 1, 2, 3, 4, 5, 7, 8, 9] (by decide) rfl rfl (by decide) (by decide) (by decide) (Nat.le_of_ble_eq_true rfl) (by decide) (by decide) (fun r_5 w_6 h_4 => ?_)
  obtain ⟨rfl, rfl⟩ := h_4
  refine v_eq (st' := [.int (b2i (¬ sort = -1))]) (ws' := [(ca, .inr (1, [.int (nI c.men), .ref ck, .ref cv, .ref chd, .int (nI c.heap), .int c.dogs, .int (nI c.wak), .int (nI c.rl), .ref cr, .int (nI c.pg), .ref cb, .int c.held])), (ck, eI D 6 (nF c.kk)), (cv, eI D 6 (nF c.vv)), (chd, eI D 6 c.hd), (cr, eI D 8 (nF c.crf)), (cb, eI D 12 (nF c.bo)), (it, eJ D 60 f), (o, .inr (9, [.ref ca, .ref im, .int tk, .ref txo, .ref ba, .ref va, .int (nI vc), .ref nwk, .ref nt, .ref ro, .ref lo, .ref bd, .ref ta])), (ta, eT D 6 tt), (ti, .inr (5, [.int sort, .int (nI len), .ref it]))]) rfl rfl rfl rfl ?_
  refine v_if_eq O 30 dX9_judge_16 (by decide) (fun z1 => ?_) (fun z1 => ?_)
  · skip
    have z1 := b2i_0.mp z1
    exact absurd hs1 z1
  · skip
    have z1 := b2i_1.mp z1
    refine v_aload_n O dX9_judge_19 3 rfl ?_
    refine gf_X9_251 O rfl dX9_judge_20 9 rfl rfl ?_
    refine v_iconst (v := 3) O dX9_judge_23 (by decide) ?_
    refine v_icmp_eq O 30 dX9_judge_24 (by decide) (fun z2 => ?_) (fun z2 => ?_)
    · skip
      exact absurd z2 hs3
    · skip
      refine v_bipush (v := -12) O dX9_judge_27 (by decide) ?_
      refine v_sub (ws' := [(o, .inr (9, [.ref ca, .ref im, .int tk, .ref txo, .ref ba, .ref va, .int (nI vc), .ref nwk, .ref nt, .ref ro, .ref lo, .ref bd, .ref ta])), (ca, .inr (1, [.int (nI c.men), .ref ck, .ref cv, .ref chd, .int (nI c.heap), .int c.dogs, .int (nI c.wak), .int (nI c.rl), .ref cr, .int (nI c.pg), .ref cb, .int c.held])), (ck, eI D 6 (nF c.kk)), (cv, eI D 6 (nF c.vv)), (chd, eI D 6 c.hd), (cr, eI D 8 (nF c.crf)), (cb, eI D 12 (nF c.bo)), (ta, eT D 6 tt), (ti, .inr (5, [.int sort, .int (nI len), .ref it])), (it, eJ D 60 f)]) [7, 0, 1, 2, 3, 4, 5, 8, 9, 6] (by decide) rfl ?_
      exact v_ireturn O T rfl rfl (by decide) (by decide) dX9_judge_29 (⟨rfl, rfl⟩)
set_option maxRecDepth 100000 in
set_option maxHeartbeats 4000000 in
theorem sp_X9_judge_3 {D : G} {o : Nat} {ca : Nat} {im : Nat} {tk : Int32} {txo : Nat} {ba : Nat} {va : Nat} {vc : Nat} {nwk : Nat} {nt : Nat} {ro : Nat} {lo : Nat} {bd : Nat} {ta : Nat} {ck : Nat} {cv : Nat} {chd : Nat} {cr : Nat} {cb : Nat} {c : CS} {tt : Nat → Option Nat} {ti : Nat} {sort : Int32} {len : Nat} {it : Nat} {f : Nat → Int64} {t : Nat} {i : Int32} (hC : cOk c) (hk : t < 6) (ht : tt t = some ti) (htl : len ≤ 60) (hts : sort = -1 → len = 0) (hso : sort = -1 ∨ isIx sort 5) (hs : sort = -1 ∨ sort = 3) (hm : c.men = 0) : Sp D mX9_judge 30 0 0 [.ref o, .int (nI t), .int i] [(o, .inr (9, [.ref ca, .ref im, .int tk, .ref txo, .ref ba, .ref va, .int (nI vc), .ref nwk, .ref nt, .ref ro, .ref lo, .ref bd, .ref ta])), (ca, .inr (1, [.int (nI c.men), .ref ck, .ref cv, .ref chd, .int (nI c.heap), .int c.dogs, .int (nI c.wak), .int (nI c.rl), .ref cr, .int (nI c.pg), .ref cb, .int c.held])), (ck, eI D 6 (nF c.kk)), (cv, eI D 6 (nF c.vv)), (chd, eI D 6 c.hd), (cr, eI D 8 (nF c.crf)), (cb, eI D 12 (nF c.bo)), (ta, eT D 6 tt), (ti, .inr (5, [.int sort, .int (nI len), .ref it])), (it, eJ D 60 f)] (fun r w => r = some (.int (-5)) ∧ w = [(o, .inr (9, [.ref ca, .ref im, .int tk, .ref txo, .ref ba, .ref va, .int (nI vc), .ref nwk, .ref nt, .ref ro, .ref lo, .ref bd, .ref ta])), (ca, .inr (1, [.int (nI c.men), .ref ck, .ref cv, .ref chd, .int (nI c.heap), .int c.dogs, .int (nI c.wak), .int (nI c.rl), .ref cr, .int (nI c.pg), .ref cb, .int c.held])), (ck, eI D 6 (nF c.kk)), (cv, eI D 6 (nF c.vv)), (chd, eI D 6 c.hd), (cr, eI D 8 (nF c.crf)), (cb, eI D 12 (nF c.bo)), (ta, eT D 6 tt), (ti, .inr (5, [.int sort, .int (nI len), .ref it])), (it, eJ D 60 f)]) := by
  refine Sp.of (by decide) (Nat.le_of_ble_eq_true rfl) (fun X O T => ?_)
  refine v_eq (lv' := [(0, .ref o), (1, .int (nI t)), (2, .int i)]) rfl rfl rfl rfl ?_
  have z_m := hC.1
  refine v_aload_n O dX9_judge_0 0 rfl ?_
  refine v_iload_n O dX9_judge_1 1 rfl ?_
  refine v_cV (T := TX9) (ci := 9) (As := [.int (nI t)]) (wr := [(ca, .inr (1, [.int (nI c.men), .ref ck, .ref cv, .ref chd, .int (nI c.heap), .int c.dogs, .int (nI c.wak), .int (nI c.rl), .ref cr, .int (nI c.pg), .ref cb, .int c.held])), (ck, eI D 6 (nF c.kk)), (cv, eI D 6 (nF c.vv)), (chd, eI D 6 c.hd), (cr, eI D 8 (nF c.crf)), (cb, eI D 12 (nF c.bo)), (ti, .inr (5, [.int sort, .int (nI len), .ref it])), (it, eJ D 60 f)]) (st := []) O cf_X9_243 rfl (sp_X9_tapeAt_i (o := o) (ca := ca) (im := im) (tk := tk) (txo := txo) (ba := ba) (va := va) (vc := vc) (nwk := nwk) (nt := nt) (ro := ro) (lo := lo) (bd := bd) (ta := ta) (tt := tt) (k := t) (ti := ti) (hk) (ht)) dX9_judge_2 rfl rfl 0 rfl [0, 7] [1, 2, 3, 4, 5, 6, 8, 9] (by decide) rfl rfl (by decide) (by decide) (by decide) (Nat.le_of_ble_eq_true rfl) (by decide) (by decide) (fun r_2 w_3 h_1 => ?_)
  obtain ⟨rfl, rfl⟩ := h_1
  refine v_eq (st' := [.ref ti]) (ws' := [(ca, .inr (1, [.int (nI c.men), .ref ck, .ref cv, .ref chd, .int (nI c.heap), .int c.dogs, .int (nI c.wak), .int (nI c.rl), .ref cr, .int (nI c.pg), .ref cb, .int c.held])), (ck, eI D 6 (nF c.kk)), (cv, eI D 6 (nF c.vv)), (chd, eI D 6 c.hd), (cr, eI D 8 (nF c.crf)), (cb, eI D 12 (nF c.bo)), (ti, .inr (5, [.int sort, .int (nI len), .ref it])), (it, eJ D 60 f), (o, .inr (9, [.ref ca, .ref im, .int tk, .ref txo, .ref ba, .ref va, .int (nI vc), .ref nwk, .ref nt, .ref ro, .ref lo, .ref bd, .ref ta])), (ta, eT D 6 tt)]) rfl rfl rfl rfl ?_
  refine v_astore_n (lv' := [(0, .ref o), (1, .int (nI t)), (2, .int i), (3, .ref ti)]) O dX9_judge_5 (by decide) rfl ?_
  refine v_aload_n O dX9_judge_6 3 rfl ?_
  refine v_ifnonnull O 12 dX9_judge_7 (by decide) ?_
  refine v_aload_n O dX9_judge_12 3 rfl ?_
  refine v_cV (T := TX5) (ci := 5) (As := []) (wr := [(ca, .inr (1, [.int (nI c.men), .ref ck, .ref cv, .ref chd, .int (nI c.heap), .int c.dogs, .int (nI c.wak), .int (nI c.rl), .ref cr, .int (nI c.pg), .ref cb, .int c.held])), (ck, eI D 6 (nF c.kk)), (cv, eI D 6 (nF c.vv)), (chd, eI D 6 c.hd), (cr, eI D 8 (nF c.crf)), (cb, eI D 12 (nF c.bo)), (it, eJ D 60 f), (o, .inr (9, [.ref ca, .ref im, .int tk, .ref txo, .ref ba, .ref va, .int (nI vc), .ref nwk, .ref nt, .ref ro, .ref lo, .ref bd, .ref ta])), (ta, eT D 6 tt)]) (st := []) O cf_X9_247 rfl (sp_X5_holdsSomething (t := ti) (sort := sort) (len := len) (it := it) ) dX9_judge_13 rfl rfl 6 rfl [6] [0, 1, 2, 3, 4, 5, 7, 8, 9] (by decide) rfl rfl (by decide) (by decide) (by decide) (Nat.le_of_ble_eq_true rfl) (by decide) (by decide) (fun r_5 w_6 h_4 => ?_)
  obtain ⟨rfl, rfl⟩ := h_4
  refine v_eq (st' := [.int (b2i (¬ sort = -1))]) (ws' := [(ca, .inr (1, [.int (nI c.men), .ref ck, .ref cv, .ref chd, .int (nI c.heap), .int c.dogs, .int (nI c.wak), .int (nI c.rl), .ref cr, .int (nI c.pg), .ref cb, .int c.held])), (ck, eI D 6 (nF c.kk)), (cv, eI D 6 (nF c.vv)), (chd, eI D 6 c.hd), (cr, eI D 8 (nF c.crf)), (cb, eI D 12 (nF c.bo)), (it, eJ D 60 f), (o, .inr (9, [.ref ca, .ref im, .int tk, .ref txo, .ref ba, .ref va, .int (nI vc), .ref nwk, .ref nt, .ref ro, .ref lo, .ref bd, .ref ta])), (ta, eT D 6 tt), (ti, .inr (5, [.int sort, .int (nI len), .ref it]))]) rfl rfl rfl rfl ?_
  refine v_if_eq O 30 dX9_judge_16 (by decide) (fun z1 => ?_) (fun z1 => ?_)
  · skip
    have z1 := b2i_0.mp z1
    refine v_iconst (v := 0) O dX9_judge_30 (by decide) ?_
    refine v_istore (lv' := [(0, .ref o), (1, .int (nI t)), (2, .int i), (3, .ref ti), (4, .int 0)]) O dX9_judge_31 (by decide) rfl ?_
    refine v_iload O dX9_judge_33 4 rfl ?_
    refine v_aload_n O dX9_judge_35 0 rfl ?_
    refine gf_X9_12 O rfl dX9_judge_36 7 rfl rfl ?_
    refine gf_X9_89 O rfl dX9_judge_39 0 rfl rfl ?_
    refine v_icmp_ge O 110 dX9_judge_42 (by decide) (fun z3 => ?_) (fun z3 => ?_)
    · skip
      have z3 := (c_le' (x := 0) (y := nI c.men) (a := 0) (b := c.men) rfl rfl (by omega) (by omega)).mp z3
      refine v_bipush (v := -5) O dX9_judge_110 (by decide) ?_
      refine v_sub (ws' := [(o, .inr (9, [.ref ca, .ref im, .int tk, .ref txo, .ref ba, .ref va, .int (nI vc), .ref nwk, .ref nt, .ref ro, .ref lo, .ref bd, .ref ta])), (ca, .inr (1, [.int (nI c.men), .ref ck, .ref cv, .ref chd, .int (nI c.heap), .int c.dogs, .int (nI c.wak), .int (nI c.rl), .ref cr, .int (nI c.pg), .ref cb, .int c.held])), (ck, eI D 6 (nF c.kk)), (cv, eI D 6 (nF c.vv)), (chd, eI D 6 c.hd), (cr, eI D 8 (nF c.crf)), (cb, eI D 12 (nF c.bo)), (ta, eT D 6 tt), (ti, .inr (5, [.int sort, .int (nI len), .ref it])), (it, eJ D 60 f)]) [7, 0, 1, 2, 3, 4, 5, 8, 9, 6] (by decide) rfl ?_
      exact v_ireturn O T rfl rfl (by decide) (by decide) dX9_judge_112 (⟨rfl, rfl⟩)
    · skip
      have z3 := (not_congr (c_le' (x := 0) (y := nI c.men) (a := 0) (b := c.men) rfl rfl (by omega) (by omega))).mp z3
      exact absurd z3 (by omega)
  · skip
    have z1 := b2i_1.mp z1
    refine v_aload_n O dX9_judge_19 3 rfl ?_
    refine gf_X9_251 O rfl dX9_judge_20 9 rfl rfl ?_
    refine v_iconst (v := 3) O dX9_judge_23 (by decide) ?_
    refine v_icmp_eq O 30 dX9_judge_24 (by decide) (fun z2 => ?_) (fun z2 => ?_)
    · skip
      refine v_iconst (v := 0) O dX9_judge_30 (by decide) ?_
      refine v_istore (lv' := [(0, .ref o), (1, .int (nI t)), (2, .int i), (3, .ref ti), (4, .int 0)]) O dX9_judge_31 (by decide) rfl ?_
      refine v_iload O dX9_judge_33 4 rfl ?_
      refine v_aload_n O dX9_judge_35 0 rfl ?_
      refine gf_X9_12 O rfl dX9_judge_36 7 rfl rfl ?_
      refine gf_X9_89 O rfl dX9_judge_39 0 rfl rfl ?_
      refine v_icmp_ge O 110 dX9_judge_42 (by decide) (fun z3 => ?_) (fun z3 => ?_)
      · skip
        have z3 := (c_le' (x := 0) (y := nI c.men) (a := 0) (b := c.men) rfl rfl (by omega) (by omega)).mp z3
        refine v_bipush (v := -5) O dX9_judge_110 (by decide) ?_
        refine v_sub (ws' := [(o, .inr (9, [.ref ca, .ref im, .int tk, .ref txo, .ref ba, .ref va, .int (nI vc), .ref nwk, .ref nt, .ref ro, .ref lo, .ref bd, .ref ta])), (ca, .inr (1, [.int (nI c.men), .ref ck, .ref cv, .ref chd, .int (nI c.heap), .int c.dogs, .int (nI c.wak), .int (nI c.rl), .ref cr, .int (nI c.pg), .ref cb, .int c.held])), (ck, eI D 6 (nF c.kk)), (cv, eI D 6 (nF c.vv)), (chd, eI D 6 c.hd), (cr, eI D 8 (nF c.crf)), (cb, eI D 12 (nF c.bo)), (ta, eT D 6 tt), (ti, .inr (5, [.int sort, .int (nI len), .ref it])), (it, eJ D 60 f)]) [7, 0, 1, 2, 3, 4, 5, 8, 9, 6] (by decide) rfl ?_
        exact v_ireturn O T rfl rfl (by decide) (by decide) dX9_judge_112 (⟨rfl, rfl⟩)
      · skip
        have z3 := (not_congr (c_le' (x := 0) (y := nI c.men) (a := 0) (b := c.men) rfl rfl (by omega) (by omega))).mp z3
        exact absurd z3 (by omega)
    · skip
      exact absurd (hs.resolve_left z1) z2
set_option maxRecDepth 100000 in
set_option maxHeartbeats 4000000 in
theorem sp_X9_judge_4 {D : G} {o : Nat} {ca : Nat} {im : Nat} {tk : Int32} {txo : Nat} {ba : Nat} {va : Nat} {vc : Nat} {nwk : Nat} {nt : Nat} {ro : Nat} {lo : Nat} {bd : Nat} {ta : Nat} {ck : Nat} {cv : Nat} {chd : Nat} {cr : Nat} {cb : Nat} {c : CS} {tt : Nat → Option Nat} {ti : Nat} {sort : Int32} {len : Nat} {it : Nat} {f : Nat → Int64} {t : Nat} {i : Int32} (hC : cOk c) (hk : t < 6) (ht : tt t = some ti) (htl : len ≤ 60) (hts : sort = -1 → len = 0) (hso : sort = -1 ∨ isIx sort 5) (hs : sort = -1 ∨ sort = 3) (hm : 0 < c.men) (hi : i < 0) : Sp D mX9_judge 30 0 0 [.ref o, .int (nI t), .int i] [(o, .inr (9, [.ref ca, .ref im, .int tk, .ref txo, .ref ba, .ref va, .int (nI vc), .ref nwk, .ref nt, .ref ro, .ref lo, .ref bd, .ref ta])), (ca, .inr (1, [.int (nI c.men), .ref ck, .ref cv, .ref chd, .int (nI c.heap), .int c.dogs, .int (nI c.wak), .int (nI c.rl), .ref cr, .int (nI c.pg), .ref cb, .int c.held])), (ck, eI D 6 (nF c.kk)), (cv, eI D 6 (nF c.vv)), (chd, eI D 6 c.hd), (cr, eI D 8 (nF c.crf)), (cb, eI D 12 (nF c.bo)), (ta, eT D 6 tt), (ti, .inr (5, [.int sort, .int (nI len), .ref it])), (it, eJ D 60 f)] (fun r w => r = some (.int 100) ∧ w = [(o, .inr (9, [.ref ca, .ref im, .int tk, .ref txo, .ref ba, .ref va, .int (nI vc), .ref nwk, .ref nt, .ref ro, .ref lo, .ref bd, .ref ta])), (ca, .inr (1, [.int (nI c.men), .ref ck, .ref cv, .ref chd, .int (nI c.heap), .int c.dogs, .int (nI c.wak), .int (nI c.rl), .ref cr, .int (nI c.pg), .ref cb, .int c.held])), (ck, eI D 6 (nF c.kk)), (cv, eI D 6 (nF c.vv)), (chd, eI D 6 c.hd), (cr, eI D 8 (nF c.crf)), (cb, eI D 12 (nF c.bo)), (ta, eT D 6 tt), (ti, .inr (5, [.int sort, .int (nI len), .ref it])), (it, eJ D 60 f)]) := by
  refine Sp.of (by decide) (Nat.le_of_ble_eq_true rfl) (fun X O T => ?_)
  refine v_eq (lv' := [(0, .ref o), (1, .int (nI t)), (2, .int i)]) rfl rfl rfl rfl ?_
  have z_m := hC.1
  refine v_aload_n O dX9_judge_0 0 rfl ?_
  refine v_iload_n O dX9_judge_1 1 rfl ?_
  refine v_cV (T := TX9) (ci := 9) (As := [.int (nI t)]) (wr := [(ca, .inr (1, [.int (nI c.men), .ref ck, .ref cv, .ref chd, .int (nI c.heap), .int c.dogs, .int (nI c.wak), .int (nI c.rl), .ref cr, .int (nI c.pg), .ref cb, .int c.held])), (ck, eI D 6 (nF c.kk)), (cv, eI D 6 (nF c.vv)), (chd, eI D 6 c.hd), (cr, eI D 8 (nF c.crf)), (cb, eI D 12 (nF c.bo)), (ti, .inr (5, [.int sort, .int (nI len), .ref it])), (it, eJ D 60 f)]) (st := []) O cf_X9_243 rfl (sp_X9_tapeAt_i (o := o) (ca := ca) (im := im) (tk := tk) (txo := txo) (ba := ba) (va := va) (vc := vc) (nwk := nwk) (nt := nt) (ro := ro) (lo := lo) (bd := bd) (ta := ta) (tt := tt) (k := t) (ti := ti) (hk) (ht)) dX9_judge_2 rfl rfl 0 rfl [0, 7] [1, 2, 3, 4, 5, 6, 8, 9] (by decide) rfl rfl (by decide) (by decide) (by decide) (Nat.le_of_ble_eq_true rfl) (by decide) (by decide) (fun r_2 w_3 h_1 => ?_)
  obtain ⟨rfl, rfl⟩ := h_1
  refine v_eq (st' := [.ref ti]) (ws' := [(ca, .inr (1, [.int (nI c.men), .ref ck, .ref cv, .ref chd, .int (nI c.heap), .int c.dogs, .int (nI c.wak), .int (nI c.rl), .ref cr, .int (nI c.pg), .ref cb, .int c.held])), (ck, eI D 6 (nF c.kk)), (cv, eI D 6 (nF c.vv)), (chd, eI D 6 c.hd), (cr, eI D 8 (nF c.crf)), (cb, eI D 12 (nF c.bo)), (ti, .inr (5, [.int sort, .int (nI len), .ref it])), (it, eJ D 60 f), (o, .inr (9, [.ref ca, .ref im, .int tk, .ref txo, .ref ba, .ref va, .int (nI vc), .ref nwk, .ref nt, .ref ro, .ref lo, .ref bd, .ref ta])), (ta, eT D 6 tt)]) rfl rfl rfl rfl ?_
  refine v_astore_n (lv' := [(0, .ref o), (1, .int (nI t)), (2, .int i), (3, .ref ti)]) O dX9_judge_5 (by decide) rfl ?_
  refine v_aload_n O dX9_judge_6 3 rfl ?_
  refine v_ifnonnull O 12 dX9_judge_7 (by decide) ?_
  refine v_aload_n O dX9_judge_12 3 rfl ?_
  refine v_cV (T := TX5) (ci := 5) (As := []) (wr := [(ca, .inr (1, [.int (nI c.men), .ref ck, .ref cv, .ref chd, .int (nI c.heap), .int c.dogs, .int (nI c.wak), .int (nI c.rl), .ref cr, .int (nI c.pg), .ref cb, .int c.held])), (ck, eI D 6 (nF c.kk)), (cv, eI D 6 (nF c.vv)), (chd, eI D 6 c.hd), (cr, eI D 8 (nF c.crf)), (cb, eI D 12 (nF c.bo)), (it, eJ D 60 f), (o, .inr (9, [.ref ca, .ref im, .int tk, .ref txo, .ref ba, .ref va, .int (nI vc), .ref nwk, .ref nt, .ref ro, .ref lo, .ref bd, .ref ta])), (ta, eT D 6 tt)]) (st := []) O cf_X9_247 rfl (sp_X5_holdsSomething (t := ti) (sort := sort) (len := len) (it := it) ) dX9_judge_13 rfl rfl 6 rfl [6] [0, 1, 2, 3, 4, 5, 7, 8, 9] (by decide) rfl rfl (by decide) (by decide) (by decide) (Nat.le_of_ble_eq_true rfl) (by decide) (by decide) (fun r_5 w_6 h_4 => ?_)
  obtain ⟨rfl, rfl⟩ := h_4
  refine v_eq (st' := [.int (b2i (¬ sort = -1))]) (ws' := [(ca, .inr (1, [.int (nI c.men), .ref ck, .ref cv, .ref chd, .int (nI c.heap), .int c.dogs, .int (nI c.wak), .int (nI c.rl), .ref cr, .int (nI c.pg), .ref cb, .int c.held])), (ck, eI D 6 (nF c.kk)), (cv, eI D 6 (nF c.vv)), (chd, eI D 6 c.hd), (cr, eI D 8 (nF c.crf)), (cb, eI D 12 (nF c.bo)), (it, eJ D 60 f), (o, .inr (9, [.ref ca, .ref im, .int tk, .ref txo, .ref ba, .ref va, .int (nI vc), .ref nwk, .ref nt, .ref ro, .ref lo, .ref bd, .ref ta])), (ta, eT D 6 tt), (ti, .inr (5, [.int sort, .int (nI len), .ref it]))]) rfl rfl rfl rfl ?_
  refine v_if_eq O 30 dX9_judge_16 (by decide) (fun z1 => ?_) (fun z1 => ?_)
  · skip
    have z1 := b2i_0.mp z1
    refine v_iconst (v := 0) O dX9_judge_30 (by decide) ?_
    refine v_istore (lv' := [(0, .ref o), (1, .int (nI t)), (2, .int i), (3, .ref ti), (4, .int 0)]) O dX9_judge_31 (by decide) rfl ?_
    refine v_iload O dX9_judge_33 4 rfl ?_
    refine v_aload_n O dX9_judge_35 0 rfl ?_
    refine gf_X9_12 O rfl dX9_judge_36 7 rfl rfl ?_
    refine gf_X9_89 O rfl dX9_judge_39 0 rfl rfl ?_
    refine v_icmp_ge O 110 dX9_judge_42 (by decide) (fun z3 => ?_) (fun z3 => ?_)
    · skip
      have z3 := (c_le' (x := 0) (y := nI c.men) (a := 0) (b := c.men) rfl rfl (by omega) (by omega)).mp z3
      exact absurd z3 (by omega)
    · skip
      have z3 := (not_congr (c_le' (x := 0) (y := nI c.men) (a := 0) (b := c.men) rfl rfl (by omega) (by omega))).mp z3
      refine v_iload O dX9_judge_45 4 rfl ?_
      refine v_bipush (v := 6) O dX9_judge_47 (by decide) ?_
      refine v_icmp_ge O 110 dX9_judge_49 (by decide) (fun c => absurd c (by decide)) (fun _ => ?_)
      refine v_iload_n O dX9_judge_52 2 rfl ?_
      refine v_i2l O dX9_judge_53 ?_
      refine v_iload O dX9_judge_54 4 rfl ?_
      refine v_i2l O dX9_judge_56 ?_
      refine v_topx (y := lN 0) (by decide) ?_
      refine v_ladd O dX9_judge_57 ?_
      refine v_lstore (lv' := [(0, .ref o), (1, .int (nI t)), (2, .int i), (3, .ref ti), (4, .int 0), (5, .long ((Int32.toInt64 i) + (lN 0)))]) O dX9_judge_58 (by decide) rfl ?_
      refine v_iload_n O dX9_judge_60 2 rfl ?_
      refine v_if_lt O 73 dX9_judge_61 (by decide) (fun z5 => ?_) (fun z5 => ?_)
      · skip
        refine v_bipush (v := 100) O dX9_judge_73 (by decide) ?_
        refine v_iload O dX9_judge_75 4 rfl ?_
        refine v_iadd O dX9_judge_77 ?_
        refine v_top (y := nI 100) rfl ?_
        refine v_sub (ws' := [(o, .inr (9, [.ref ca, .ref im, .int tk, .ref txo, .ref ba, .ref va, .int (nI vc), .ref nwk, .ref nt, .ref ro, .ref lo, .ref bd, .ref ta])), (ca, .inr (1, [.int (nI c.men), .ref ck, .ref cv, .ref chd, .int (nI c.heap), .int c.dogs, .int (nI c.wak), .int (nI c.rl), .ref cr, .int (nI c.pg), .ref cb, .int c.held])), (ck, eI D 6 (nF c.kk)), (cv, eI D 6 (nF c.vv)), (chd, eI D 6 c.hd), (cr, eI D 8 (nF c.crf)), (cb, eI D 12 (nF c.bo)), (ta, eT D 6 tt), (ti, .inr (5, [.int sort, .int (nI len), .ref it])), (it, eJ D 60 f)]) [7, 0, 1, 2, 3, 4, 5, 8, 9, 6] (by decide) rfl ?_
        exact v_ireturn O T rfl rfl (by decide) (by decide) dX9_judge_78 (⟨rfl, rfl⟩)
      · skip
        exact absurd hi z5
  · skip
    have z1 := b2i_1.mp z1
    refine v_aload_n O dX9_judge_19 3 rfl ?_
    refine gf_X9_251 O rfl dX9_judge_20 9 rfl rfl ?_
    refine v_iconst (v := 3) O dX9_judge_23 (by decide) ?_
    refine v_icmp_eq O 30 dX9_judge_24 (by decide) (fun z2 => ?_) (fun z2 => ?_)
    · skip
      refine v_iconst (v := 0) O dX9_judge_30 (by decide) ?_
      refine v_istore (lv' := [(0, .ref o), (1, .int (nI t)), (2, .int i), (3, .ref ti), (4, .int 0)]) O dX9_judge_31 (by decide) rfl ?_
      refine v_iload O dX9_judge_33 4 rfl ?_
      refine v_aload_n O dX9_judge_35 0 rfl ?_
      refine gf_X9_12 O rfl dX9_judge_36 7 rfl rfl ?_
      refine gf_X9_89 O rfl dX9_judge_39 0 rfl rfl ?_
      refine v_icmp_ge O 110 dX9_judge_42 (by decide) (fun z3 => ?_) (fun z3 => ?_)
      · skip
        have z3 := (c_le' (x := 0) (y := nI c.men) (a := 0) (b := c.men) rfl rfl (by omega) (by omega)).mp z3
        exact absurd z3 (by omega)
      · skip
        have z3 := (not_congr (c_le' (x := 0) (y := nI c.men) (a := 0) (b := c.men) rfl rfl (by omega) (by omega))).mp z3
        refine v_iload O dX9_judge_45 4 rfl ?_
        refine v_bipush (v := 6) O dX9_judge_47 (by decide) ?_
        refine v_icmp_ge O 110 dX9_judge_49 (by decide) (fun c => absurd c (by decide)) (fun _ => ?_)
        refine v_iload_n O dX9_judge_52 2 rfl ?_
        refine v_i2l O dX9_judge_53 ?_
        refine v_iload O dX9_judge_54 4 rfl ?_
        refine v_i2l O dX9_judge_56 ?_
        refine v_topx (y := lN 0) (by decide) ?_
        refine v_ladd O dX9_judge_57 ?_
        refine v_lstore (lv' := [(0, .ref o), (1, .int (nI t)), (2, .int i), (3, .ref ti), (4, .int 0), (5, .long ((Int32.toInt64 i) + (lN 0)))]) O dX9_judge_58 (by decide) rfl ?_
        refine v_iload_n O dX9_judge_60 2 rfl ?_
        refine v_if_lt O 73 dX9_judge_61 (by decide) (fun z5 => ?_) (fun z5 => ?_)
        · skip
          refine v_bipush (v := 100) O dX9_judge_73 (by decide) ?_
          refine v_iload O dX9_judge_75 4 rfl ?_
          refine v_iadd O dX9_judge_77 ?_
          refine v_top (y := nI 100) rfl ?_
          refine v_sub (ws' := [(o, .inr (9, [.ref ca, .ref im, .int tk, .ref txo, .ref ba, .ref va, .int (nI vc), .ref nwk, .ref nt, .ref ro, .ref lo, .ref bd, .ref ta])), (ca, .inr (1, [.int (nI c.men), .ref ck, .ref cv, .ref chd, .int (nI c.heap), .int c.dogs, .int (nI c.wak), .int (nI c.rl), .ref cr, .int (nI c.pg), .ref cb, .int c.held])), (ck, eI D 6 (nF c.kk)), (cv, eI D 6 (nF c.vv)), (chd, eI D 6 c.hd), (cr, eI D 8 (nF c.crf)), (cb, eI D 12 (nF c.bo)), (ta, eT D 6 tt), (ti, .inr (5, [.int sort, .int (nI len), .ref it])), (it, eJ D 60 f)]) [7, 0, 1, 2, 3, 4, 5, 8, 9, 6] (by decide) rfl ?_
          exact v_ireturn O T rfl rfl (by decide) (by decide) dX9_judge_78 (⟨rfl, rfl⟩)
        · skip
          exact absurd hi z5
    · skip
      exact absurd (hs.resolve_left z1) z2
set_option maxRecDepth 100000 in
set_option maxHeartbeats 4000000 in
theorem l_X9_judge {D : G} {X : CX} {o : Nat} {ca : Nat} {im : Nat} {tk : Int32} {txo : Nat} {ba : Nat} {va : Nat} {vc : Nat} {nwk : Nat} {nt : Nat} {ro : Nat} {lo : Nat} {bd : Nat} {ta : Nat} {ck : Nat} {cv : Nat} {chd : Nat} {cr : Nat} {cb : Nat} {c : CS} {tt : Nat → Option Nat} {ti : Nat} {sort : Int32} {len : Nat} {it : Nat} {f : Nat → Int64} {t : Nat} {i : Nat} (O : Ok D X mX9_judge 30 0 0) (hC : cOk c) (hk : t < 6) (ht : tt t = some ti) (htl : len ≤ 60) (hts : sort = -1 → len = 0) (hso : sort = -1 ∨ isIx sort 5) (hs : sort = -1 ∨ sort = 3) (hi : i < 2147483648) (T : Rt D X (fun r w => r = some (.int (judN c.hd f len i c.men 0)) ∧ w = [(o, .inr (9, [.ref ca, .ref im, .int tk, .ref txo, .ref ba, .ref va, .int (nI vc), .ref nwk, .ref nt, .ref ro, .ref lo, .ref bd, .ref ta])), (ca, .inr (1, [.int (nI c.men), .ref ck, .ref cv, .ref chd, .int (nI c.heap), .int c.dogs, .int (nI c.wak), .int (nI c.rl), .ref cr, .int (nI c.pg), .ref cb, .int c.held])), (ck, eI D 6 (nF c.kk)), (cv, eI D 6 (nF c.vv)), (chd, eI D 6 c.hd), (cr, eI D 8 (nF c.crf)), (cb, eI D 12 (nF c.bo)), (ta, eT D 6 tt), (ti, .inr (5, [.int sort, .int (nI len), .ref it])), (it, eJ D 60 f)]) 0 0) : ∀ (t9 m : Nat), m + t9 = c.men → judN c.hd f len i c.men 0 = judN c.hd f len i t9 m → V D X 0 0 33 [(0, .ref o), (1, .int (nI t)), (2, .int (nI i)), (3, .ref ti), (4, .int (nI m))] [] [(o, .inr (9, [.ref ca, .ref im, .int tk, .ref txo, .ref ba, .ref va, .int (nI vc), .ref nwk, .ref nt, .ref ro, .ref lo, .ref bd, .ref ta])), (ca, .inr (1, [.int (nI c.men), .ref ck, .ref cv, .ref chd, .int (nI c.heap), .int c.dogs, .int (nI c.wak), .int (nI c.rl), .ref cr, .int (nI c.pg), .ref cb, .int c.held])), (ck, eI D 6 (nF c.kk)), (cv, eI D 6 (nF c.vv)), (chd, eI D 6 c.hd), (cr, eI D 8 (nF c.crf)), (cb, eI D 12 (nF c.bo)), (ta, eT D 6 tt), (ti, .inr (5, [.int sort, .int (nI len), .ref it])), (it, eJ D 60 f)] := by
  intro t9
  induction t9 with
  | zero =>
    intro m hm hF
    have z_m := hC.1
    refine v_iload O dX9_judge_33 4 rfl ?_
    refine v_aload_n O dX9_judge_35 0 rfl ?_
    refine gf_X9_12 O rfl dX9_judge_36 0 rfl rfl ?_
    refine gf_X9_89 O rfl dX9_judge_39 1 rfl rfl ?_
    refine v_icmp_ge O 110 dX9_judge_42 (by decide) (fun z3 => ?_) (fun z3 => ?_)
    · skip
      have z3 := (c_le' (x := nI m) (y := nI c.men) (a := m) (b := c.men) rfl rfl (by omega) (by omega)).mp z3
      refine v_bipush (v := -5) O dX9_judge_110 (by decide) ?_
      exact v_ireturn O T rfl rfl (by decide) (by decide) dX9_judge_112 (⟨by rw [hF]; rfl, rfl⟩)
    · skip
      have z3 := (not_congr (c_le' (x := nI m) (y := nI c.men) (a := m) (b := c.men) rfl rfl (by omega) (by omega))).mp z3
      exact absurd z3 (by omega)
  | succ t9 ih =>
    intro m hm hF
    have z_m := hC.1
    refine v_iload O dX9_judge_33 4 rfl ?_
    refine v_aload_n O dX9_judge_35 0 rfl ?_
    refine gf_X9_12 O rfl dX9_judge_36 0 rfl rfl ?_
    refine gf_X9_89 O rfl dX9_judge_39 1 rfl rfl ?_
    refine v_icmp_ge O 110 dX9_judge_42 (by decide) (fun z3 => ?_) (fun z3 => ?_)
    · skip
      have z3 := (c_le' (x := nI m) (y := nI c.men) (a := m) (b := c.men) rfl rfl (by omega) (by omega)).mp z3
      exact absurd z3 (by omega)
    · skip
      have z3 := (not_congr (c_le' (x := nI m) (y := nI c.men) (a := m) (b := c.men) rfl rfl (by omega) (by omega))).mp z3
      refine v_iload O dX9_judge_45 4 rfl ?_
      refine v_bipush (v := 6) O dX9_judge_47 (by decide) ?_
      refine v_icmp_ge O 110 dX9_judge_49 (by decide) (fun z4 => ?_) (fun z4 => ?_)
      · skip
        have z4 := (c_le' (x := nI m) (y := 6) (a := m) (b := 6) rfl rfl (by omega) (by omega)).mp z4
        exact absurd z4 (by omega)
      · skip
        have z4 := (not_congr (c_le' (x := nI m) (y := 6) (a := m) (b := 6) rfl rfl (by omega) (by omega))).mp z4
        refine v_iload_n O dX9_judge_52 2 rfl ?_
        refine v_i2l O dX9_judge_53 ?_
        refine v_topx (y := lN i) (nI_l (by omega)) ?_
        refine v_iload O dX9_judge_54 4 rfl ?_
        refine v_i2l O dX9_judge_56 ?_
        refine v_topx (y := lN m) (nI_l (by omega)) ?_
        refine v_ladd O dX9_judge_57 ?_
        refine v_topx (y := lN (i + m)) (lN_add _ _) ?_
        refine v_lstore (lv' := [(0, .ref o), (1, .int (nI t)), (2, .int (nI i)), (3, .ref ti), (4, .int (nI m)), (5, .long (lN (i + m)))]) O dX9_judge_58 (by decide) rfl ?_
        refine v_iload_n O dX9_judge_60 2 rfl ?_
        refine v_if_lt O 73 dX9_judge_61 (by decide) (fun c_1 => ?_) (fun c_1 => ?_)
        · skip
          have c_1 := (c_lt (x := nI i) (y := 0) (a := i) (b := 0) rfl rfl (by omega) (by omega)).mp c_1
          exact absurd c_1 (by omega)
        · skip
          have c_1 := (not_congr (c_lt (x := nI i) (y := 0) (a := i) (b := 0) rfl rfl (by omega) (by omega))).mp c_1
          refine v_aload_n O dX9_judge_64 3 rfl ?_
          refine v_lload O dX9_judge_65 5 rfl ?_
          refine v_cV (T := TX5) (ci := 5) (As := [.long (lN (i + m))]) (wr := [(o, .inr (9, [.ref ca, .ref im, .int tk, .ref txo, .ref ba, .ref va, .int (nI vc), .ref nwk, .ref nt, .ref ro, .ref lo, .ref bd, .ref ta])), (ca, .inr (1, [.int (nI c.men), .ref ck, .ref cv, .ref chd, .int (nI c.heap), .int c.dogs, .int (nI c.wak), .int (nI c.rl), .ref cr, .int (nI c.pg), .ref cb, .int c.held])), (ck, eI D 6 (nF c.kk)), (cv, eI D 6 (nF c.vv)), (chd, eI D 6 c.hd), (cr, eI D 8 (nF c.crf)), (cb, eI D 12 (nF c.bo)), (ta, eT D 6 tt), (it, eJ D 60 f)]) (st := []) O cf_X9_254 rfl (sp_X5_has (t := ti) (sort := sort) (len := len) (it := it) (p := (lN (i + m))) (htl)) dX9_judge_67 rfl rfl 8 rfl [8] [0, 1, 2, 3, 4, 5, 6, 7, 9] (by decide) rfl rfl (by decide) (by decide) (by decide) (Nat.le_of_ble_eq_true rfl) (by decide) (by decide) (fun r_3 w_4 h_2 => ?_)
          obtain ⟨rfl, rfl⟩ := h_2
          refine v_eq (st' := [.int (b2i (isIxL (lN (i + m)) len))]) (ws' := [(o, .inr (9, [.ref ca, .ref im, .int tk, .ref txo, .ref ba, .ref va, .int (nI vc), .ref nwk, .ref nt, .ref ro, .ref lo, .ref bd, .ref ta])), (ca, .inr (1, [.int (nI c.men), .ref ck, .ref cv, .ref chd, .int (nI c.heap), .int c.dogs, .int (nI c.wak), .int (nI c.rl), .ref cr, .int (nI c.pg), .ref cb, .int c.held])), (ck, eI D 6 (nF c.kk)), (cv, eI D 6 (nF c.vv)), (chd, eI D 6 c.hd), (cr, eI D 8 (nF c.crf)), (cb, eI D 12 (nF c.bo)), (ta, eT D 6 tt), (it, eJ D 60 f), (ti, .inr (5, [.int sort, .int (nI len), .ref it]))]) rfl rfl rfl rfl ?_
          refine v_if_ne O 79 dX9_judge_70 (by decide) (fun z5 => ?_) (fun z5 => ?_)
          · skip
            have z5 := b2i_1.mp z5
            have z9 : i + m < len := (isIxL_lN (by omega) (by omega)).mp z5
            refine v_aload_n O dX9_judge_79 3 rfl ?_
            refine v_lload O dX9_judge_80 5 rfl ?_
            refine v_l2i O dX9_judge_82 ?_
            refine v_top (y := nI (i + m)) (lN_i _) ?_
            refine v_cV (T := TX5) (ci := 5) (As := [.int (nI (i + m))]) (wr := [(o, .inr (9, [.ref ca, .ref im, .int tk, .ref txo, .ref ba, .ref va, .int (nI vc), .ref nwk, .ref nt, .ref ro, .ref lo, .ref bd, .ref ta])), (ca, .inr (1, [.int (nI c.men), .ref ck, .ref cv, .ref chd, .int (nI c.heap), .int c.dogs, .int (nI c.wak), .int (nI c.rl), .ref cr, .int (nI c.pg), .ref cb, .int c.held])), (ck, eI D 6 (nF c.kk)), (cv, eI D 6 (nF c.vv)), (chd, eI D 6 c.hd), (cr, eI D 8 (nF c.crf)), (cb, eI D 12 (nF c.bo)), (ta, eT D 6 tt)]) (st := []) O cf_X9_258 rfl (sp_X5_at (t := ti) (sort := sort) (len := len) (it := it) (f := f) (k := (i + m)) (z9) (htl)) dX9_judge_83 rfl rfl 9 rfl [9, 8] [0, 1, 2, 3, 4, 5, 6, 7] (by decide) rfl rfl (by decide) (by decide) (by decide) (Nat.le_of_ble_eq_true rfl) (by decide) (by decide) (fun r_6 w_7 h_5 => ?_)
            obtain ⟨rfl, rfl⟩ := h_5
            refine v_eq (st' := [.long (f (i + m))]) (ws' := [(o, .inr (9, [.ref ca, .ref im, .int tk, .ref txo, .ref ba, .ref va, .int (nI vc), .ref nwk, .ref nt, .ref ro, .ref lo, .ref bd, .ref ta])), (ca, .inr (1, [.int (nI c.men), .ref ck, .ref cv, .ref chd, .int (nI c.heap), .int c.dogs, .int (nI c.wak), .int (nI c.rl), .ref cr, .int (nI c.pg), .ref cb, .int c.held])), (ck, eI D 6 (nF c.kk)), (cv, eI D 6 (nF c.vv)), (chd, eI D 6 c.hd), (cr, eI D 8 (nF c.crf)), (cb, eI D 12 (nF c.bo)), (ta, eT D 6 tt), (ti, .inr (5, [.int sort, .int (nI len), .ref it])), (it, eJ D 60 f)]) rfl rfl rfl rfl ?_
            refine v_aload_n O dX9_judge_86 0 rfl ?_
            refine gf_X9_12 O rfl dX9_judge_87 0 rfl rfl ?_
            refine gf_X9_99 O rfl dX9_judge_90 1 rfl rfl ?_
            refine v_iload O dX9_judge_93 4 rfl ?_
            refine v_ialdk O dX9_judge_95 4 rfl m rfl (by omega) (by decide) ?_
            refine v_i2l O dX9_judge_96 ?_
            refine v_lcmp O dX9_judge_97 ?_
            refine v_if_eq O 104 dX9_judge_98 (by decide) (fun z6 => ?_) (fun z6 => ?_)
            · skip
              have z6 := (lg_cmp_eq _ _).mp z6
              refine v_iinc (v := nI (m + 1)) (lv' := [(0, .ref o), (1, .int (nI t)), (2, .int (nI i)), (3, .ref ti), (4, .int (nI (m + 1))), (5, .long (lN (i + m)))]) O dX9_judge_104 4 rfl (nI_1 m) (by decide) rfl ?_
              refine v_goto O 33 dX9_judge_107 (by decide) ?_
              refine v_lvp (lv' := [(0, .ref o), (1, .int (nI t)), (2, .int (nI i)), (3, .ref ti), (4, .int (nI (m + 1)))]) [0, 1, 2, 3, 4] rfl ?_
              exact ih (m + 1) (by omega) (by rw [hF, judN, iteP_t z9, iteP_t z6])
            · skip
              have z6 := (not_congr (lg_cmp_eq _ _)).mp z6
              refine v_iload O dX9_judge_101 4 rfl ?_
              exact v_ireturn O T rfl rfl (by decide) (by decide) dX9_judge_103 (⟨by rw [hF, judN, iteP_t z9, iteP_f z6], rfl⟩)
          · skip
            have z5 := b2i_0.mp z5
            have z9 : ¬ i + m < len := fun z8 => z5 ((isIxL_lN (by omega) (by omega)).mpr z8)
            refine v_bipush (v := 100) O dX9_judge_73 (by decide) ?_
            refine v_iload O dX9_judge_75 4 rfl ?_
            refine v_iadd O dX9_judge_77 ?_
            refine v_top (y := nI (100 + m)) (nI_add 100 m) ?_
            refine v_sub (ws' := [(o, .inr (9, [.ref ca, .ref im, .int tk, .ref txo, .ref ba, .ref va, .int (nI vc), .ref nwk, .ref nt, .ref ro, .ref lo, .ref bd, .ref ta])), (ca, .inr (1, [.int (nI c.men), .ref ck, .ref cv, .ref chd, .int (nI c.heap), .int c.dogs, .int (nI c.wak), .int (nI c.rl), .ref cr, .int (nI c.pg), .ref cb, .int c.held])), (ck, eI D 6 (nF c.kk)), (cv, eI D 6 (nF c.vv)), (chd, eI D 6 c.hd), (cr, eI D 8 (nF c.crf)), (cb, eI D 12 (nF c.bo)), (ta, eT D 6 tt), (ti, .inr (5, [.int sort, .int (nI len), .ref it])), (it, eJ D 60 f)]) [0, 1, 2, 3, 4, 5, 6, 7, 9, 8] (by decide) rfl ?_
            exact v_ireturn O T rfl rfl (by decide) (by decide) dX9_judge_78 (⟨by rw [hF, judN, iteP_f z9], rfl⟩)
set_option maxRecDepth 100000 in
set_option maxHeartbeats 4000000 in
theorem sp_X9_judge_5 {D : G} {o : Nat} {ca : Nat} {im : Nat} {tk : Int32} {txo : Nat} {ba : Nat} {va : Nat} {vc : Nat} {nwk : Nat} {nt : Nat} {ro : Nat} {lo : Nat} {bd : Nat} {ta : Nat} {ck : Nat} {cv : Nat} {chd : Nat} {cr : Nat} {cb : Nat} {c : CS} {tt : Nat → Option Nat} {ti : Nat} {sort : Int32} {len : Nat} {it : Nat} {f : Nat → Int64} {t : Nat} {i : Nat} (hC : cOk c) (hk : t < 6) (ht : tt t = some ti) (htl : len ≤ 60) (hts : sort = -1 → len = 0) (hso : sort = -1 ∨ isIx sort 5) (hs : sort = -1 ∨ sort = 3) (hi : i < 2147483648) : Sp D mX9_judge 30 0 0 [.ref o, .int (nI t), .int (nI i)] [(o, .inr (9, [.ref ca, .ref im, .int tk, .ref txo, .ref ba, .ref va, .int (nI vc), .ref nwk, .ref nt, .ref ro, .ref lo, .ref bd, .ref ta])), (ca, .inr (1, [.int (nI c.men), .ref ck, .ref cv, .ref chd, .int (nI c.heap), .int c.dogs, .int (nI c.wak), .int (nI c.rl), .ref cr, .int (nI c.pg), .ref cb, .int c.held])), (ck, eI D 6 (nF c.kk)), (cv, eI D 6 (nF c.vv)), (chd, eI D 6 c.hd), (cr, eI D 8 (nF c.crf)), (cb, eI D 12 (nF c.bo)), (ta, eT D 6 tt), (ti, .inr (5, [.int sort, .int (nI len), .ref it])), (it, eJ D 60 f)] (fun r w => r = some (.int (judN c.hd f len i c.men 0)) ∧ w = [(o, .inr (9, [.ref ca, .ref im, .int tk, .ref txo, .ref ba, .ref va, .int (nI vc), .ref nwk, .ref nt, .ref ro, .ref lo, .ref bd, .ref ta])), (ca, .inr (1, [.int (nI c.men), .ref ck, .ref cv, .ref chd, .int (nI c.heap), .int c.dogs, .int (nI c.wak), .int (nI c.rl), .ref cr, .int (nI c.pg), .ref cb, .int c.held])), (ck, eI D 6 (nF c.kk)), (cv, eI D 6 (nF c.vv)), (chd, eI D 6 c.hd), (cr, eI D 8 (nF c.crf)), (cb, eI D 12 (nF c.bo)), (ta, eT D 6 tt), (ti, .inr (5, [.int sort, .int (nI len), .ref it])), (it, eJ D 60 f)]) := by
  refine Sp.of (by decide) (Nat.le_of_ble_eq_true rfl) (fun X O T => ?_)
  refine v_eq (lv' := [(0, .ref o), (1, .int (nI t)), (2, .int (nI i))]) rfl rfl rfl rfl ?_
  have z_m := hC.1
  refine v_aload_n O dX9_judge_0 0 rfl ?_
  refine v_iload_n O dX9_judge_1 1 rfl ?_
  refine v_cV (T := TX9) (ci := 9) (As := [.int (nI t)]) (wr := [(ca, .inr (1, [.int (nI c.men), .ref ck, .ref cv, .ref chd, .int (nI c.heap), .int c.dogs, .int (nI c.wak), .int (nI c.rl), .ref cr, .int (nI c.pg), .ref cb, .int c.held])), (ck, eI D 6 (nF c.kk)), (cv, eI D 6 (nF c.vv)), (chd, eI D 6 c.hd), (cr, eI D 8 (nF c.crf)), (cb, eI D 12 (nF c.bo)), (ti, .inr (5, [.int sort, .int (nI len), .ref it])), (it, eJ D 60 f)]) (st := []) O cf_X9_243 rfl (sp_X9_tapeAt_i (o := o) (ca := ca) (im := im) (tk := tk) (txo := txo) (ba := ba) (va := va) (vc := vc) (nwk := nwk) (nt := nt) (ro := ro) (lo := lo) (bd := bd) (ta := ta) (tt := tt) (k := t) (ti := ti) (hk) (ht)) dX9_judge_2 rfl rfl 0 rfl [0, 7] [1, 2, 3, 4, 5, 6, 8, 9] (by decide) rfl rfl (by decide) (by decide) (by decide) (Nat.le_of_ble_eq_true rfl) (by decide) (by decide) (fun r_2 w_3 h_1 => ?_)
  obtain ⟨rfl, rfl⟩ := h_1
  refine v_eq (st' := [.ref ti]) (ws' := [(ca, .inr (1, [.int (nI c.men), .ref ck, .ref cv, .ref chd, .int (nI c.heap), .int c.dogs, .int (nI c.wak), .int (nI c.rl), .ref cr, .int (nI c.pg), .ref cb, .int c.held])), (ck, eI D 6 (nF c.kk)), (cv, eI D 6 (nF c.vv)), (chd, eI D 6 c.hd), (cr, eI D 8 (nF c.crf)), (cb, eI D 12 (nF c.bo)), (ti, .inr (5, [.int sort, .int (nI len), .ref it])), (it, eJ D 60 f), (o, .inr (9, [.ref ca, .ref im, .int tk, .ref txo, .ref ba, .ref va, .int (nI vc), .ref nwk, .ref nt, .ref ro, .ref lo, .ref bd, .ref ta])), (ta, eT D 6 tt)]) rfl rfl rfl rfl ?_
  refine v_astore_n (lv' := [(0, .ref o), (1, .int (nI t)), (2, .int (nI i)), (3, .ref ti)]) O dX9_judge_5 (by decide) rfl ?_
  refine v_aload_n O dX9_judge_6 3 rfl ?_
  refine v_ifnonnull O 12 dX9_judge_7 (by decide) ?_
  refine v_aload_n O dX9_judge_12 3 rfl ?_
  refine v_cV (T := TX5) (ci := 5) (As := []) (wr := [(ca, .inr (1, [.int (nI c.men), .ref ck, .ref cv, .ref chd, .int (nI c.heap), .int c.dogs, .int (nI c.wak), .int (nI c.rl), .ref cr, .int (nI c.pg), .ref cb, .int c.held])), (ck, eI D 6 (nF c.kk)), (cv, eI D 6 (nF c.vv)), (chd, eI D 6 c.hd), (cr, eI D 8 (nF c.crf)), (cb, eI D 12 (nF c.bo)), (it, eJ D 60 f), (o, .inr (9, [.ref ca, .ref im, .int tk, .ref txo, .ref ba, .ref va, .int (nI vc), .ref nwk, .ref nt, .ref ro, .ref lo, .ref bd, .ref ta])), (ta, eT D 6 tt)]) (st := []) O cf_X9_247 rfl (sp_X5_holdsSomething (t := ti) (sort := sort) (len := len) (it := it) ) dX9_judge_13 rfl rfl 6 rfl [6] [0, 1, 2, 3, 4, 5, 7, 8, 9] (by decide) rfl rfl (by decide) (by decide) (by decide) (Nat.le_of_ble_eq_true rfl) (by decide) (by decide) (fun r_5 w_6 h_4 => ?_)
  obtain ⟨rfl, rfl⟩ := h_4
  refine v_eq (st' := [.int (b2i (¬ sort = -1))]) (ws' := [(ca, .inr (1, [.int (nI c.men), .ref ck, .ref cv, .ref chd, .int (nI c.heap), .int c.dogs, .int (nI c.wak), .int (nI c.rl), .ref cr, .int (nI c.pg), .ref cb, .int c.held])), (ck, eI D 6 (nF c.kk)), (cv, eI D 6 (nF c.vv)), (chd, eI D 6 c.hd), (cr, eI D 8 (nF c.crf)), (cb, eI D 12 (nF c.bo)), (it, eJ D 60 f), (o, .inr (9, [.ref ca, .ref im, .int tk, .ref txo, .ref ba, .ref va, .int (nI vc), .ref nwk, .ref nt, .ref ro, .ref lo, .ref bd, .ref ta])), (ta, eT D 6 tt), (ti, .inr (5, [.int sort, .int (nI len), .ref it]))]) rfl rfl rfl rfl ?_
  refine v_if_eq O 30 dX9_judge_16 (by decide) (fun z1 => ?_) (fun z1 => ?_)
  · skip
    have z1 := b2i_0.mp z1
    refine v_iconst (v := 0) O dX9_judge_30 (by decide) ?_
    refine v_istore (lv' := [(0, .ref o), (1, .int (nI t)), (2, .int (nI i)), (3, .ref ti), (4, .int 0)]) O dX9_judge_31 (by decide) rfl ?_
    refine v_sub (ws' := [(o, .inr (9, [.ref ca, .ref im, .int tk, .ref txo, .ref ba, .ref va, .int (nI vc), .ref nwk, .ref nt, .ref ro, .ref lo, .ref bd, .ref ta])), (ca, .inr (1, [.int (nI c.men), .ref ck, .ref cv, .ref chd, .int (nI c.heap), .int c.dogs, .int (nI c.wak), .int (nI c.rl), .ref cr, .int (nI c.pg), .ref cb, .int c.held])), (ck, eI D 6 (nF c.kk)), (cv, eI D 6 (nF c.vv)), (chd, eI D 6 c.hd), (cr, eI D 8 (nF c.crf)), (cb, eI D 12 (nF c.bo)), (ta, eT D 6 tt), (ti, .inr (5, [.int sort, .int (nI len), .ref it])), (it, eJ D 60 f)]) [7, 0, 1, 2, 3, 4, 5, 8, 9, 6] (by decide) rfl ?_
    refine v_eq (lv' := [(0, .ref o), (1, .int (nI t)), (2, .int (nI i)), (3, .ref ti), (4, .int (nI 0))]) rfl rfl rfl rfl ?_
    exact l_X9_judge O hC hk ht htl hts hso hs hi T c.men 0 (by omega) rfl
  · skip
    have z1 := b2i_1.mp z1
    refine v_aload_n O dX9_judge_19 3 rfl ?_
    refine gf_X9_251 O rfl dX9_judge_20 9 rfl rfl ?_
    refine v_iconst (v := 3) O dX9_judge_23 (by decide) ?_
    refine v_icmp_eq O 30 dX9_judge_24 (by decide) (fun z2 => ?_) (fun z2 => ?_)
    · skip
      refine v_iconst (v := 0) O dX9_judge_30 (by decide) ?_
      refine v_istore (lv' := [(0, .ref o), (1, .int (nI t)), (2, .int (nI i)), (3, .ref ti), (4, .int 0)]) O dX9_judge_31 (by decide) rfl ?_
      refine v_sub (ws' := [(o, .inr (9, [.ref ca, .ref im, .int tk, .ref txo, .ref ba, .ref va, .int (nI vc), .ref nwk, .ref nt, .ref ro, .ref lo, .ref bd, .ref ta])), (ca, .inr (1, [.int (nI c.men), .ref ck, .ref cv, .ref chd, .int (nI c.heap), .int c.dogs, .int (nI c.wak), .int (nI c.rl), .ref cr, .int (nI c.pg), .ref cb, .int c.held])), (ck, eI D 6 (nF c.kk)), (cv, eI D 6 (nF c.vv)), (chd, eI D 6 c.hd), (cr, eI D 8 (nF c.crf)), (cb, eI D 12 (nF c.bo)), (ta, eT D 6 tt), (ti, .inr (5, [.int sort, .int (nI len), .ref it])), (it, eJ D 60 f)]) [7, 0, 1, 2, 3, 4, 5, 8, 9, 6] (by decide) rfl ?_
      refine v_eq (lv' := [(0, .ref o), (1, .int (nI t)), (2, .int (nI i)), (3, .ref ti), (4, .int (nI 0))]) rfl rfl rfl rfl ?_
      exact l_X9_judge O hC hk ht htl hts hso hs hi T c.men 0 (by omega) rfl
    · skip
      exact absurd (hs.resolve_left z1) z2
set_option maxRecDepth 100000 in
set_option maxHeartbeats 4000000 in
theorem sp_X9_tape_1 {D : G} {o : Nat} {ca : Nat} {im : Nat} {tk : Int32} {txo : Nat} {ba : Nat} {va : Nat} {vc : Nat} {nwk : Nat} {nt : Nat} {ro : Nat} {lo : Nat} {bd : Nat} {ta : Nat} {tt : Nat → Option Nat} {t : Int32} {s : Int32} {n : Int32} (hk : ¬ isIx t 6) : Sp D mX9_tape 30 0 0 [.ref o, .int t, .int s, .int n] [(o, .inr (9, [.ref ca, .ref im, .int tk, .ref txo, .ref ba, .ref va, .int (nI vc), .ref nwk, .ref nt, .ref ro, .ref lo, .ref bd, .ref ta])), (ta, eT D 6 tt)] (fun r w => r = some (.int (-1)) ∧ w = [(o, .inr (9, [.ref ca, .ref im, .int tk, .ref txo, .ref ba, .ref va, .int (nI vc), .ref nwk, .ref nt, .ref ro, .ref lo, .ref bd, .ref ta])), (ta, eT D 6 tt)]) := by
  refine Sp.of (by decide) (Nat.le_of_ble_eq_true rfl) (fun X O T => ?_)
  refine v_eq (lv' := [(0, .ref o), (1, .int t), (2, .int s), (3, .int n)]) rfl rfl rfl rfl ?_
  refine v_aload_n O dX9_tape_0 0 rfl ?_
  refine v_iload_n O dX9_tape_1 1 rfl ?_
  refine v_cV (T := TX9) (ci := 9) (As := [.int t]) (wr := []) (st := []) O cf_X9_243 rfl (sp_X9_tapeAt_o (o := o) (ca := ca) (im := im) (tk := tk) (txo := txo) (ba := ba) (va := va) (vc := vc) (nwk := nwk) (nt := nt) (ro := ro) (lo := lo) (bd := bd) (ta := ta) (tt := tt) (k := t) (hk)) dX9_tape_2 rfl rfl 0 rfl [0, 1] [] (by decide) rfl rfl (by decide) (by decide) (by decide) (Nat.le_of_ble_eq_true rfl) (by decide) (by decide) (fun r_2 w_3 h_1 => ?_)
  obtain ⟨rfl, rfl⟩ := h_1
  refine v_eq (st' := [.null]) (ws' := [(o, .inr (9, [.ref ca, .ref im, .int tk, .ref txo, .ref ba, .ref va, .int (nI vc), .ref nwk, .ref nt, .ref ro, .ref lo, .ref bd, .ref ta])), (ta, eT D 6 tt)]) rfl rfl rfl rfl ?_
  refine v_astoreN (lv' := [(0, .ref o), (1, .int t), (2, .int s), (3, .int n), (4, .null)]) O dX9_tape_5 (by decide) rfl ?_
  refine v_aloadN O dX9_tape_7 4 rfl ?_
  refine v_ifnonnullN O dX9_tape_9 ?_
  refine v_iconst (v := -1) O dX9_tape_12 (by decide) ?_
  exact v_ireturn O T rfl rfl (by decide) (by decide) dX9_tape_13 (⟨rfl, rfl⟩)
set_option maxRecDepth 100000 in
set_option maxHeartbeats 4000000 in
theorem sp_X9_tape_2 {D : G} {o : Nat} {ca : Nat} {im : Nat} {tk : Int32} {txo : Nat} {ba : Nat} {va : Nat} {vc : Nat} {nwk : Nat} {nt : Nat} {ro : Nat} {lo : Nat} {bd : Nat} {ta : Nat} {tt : Nat → Option Nat} {ti : Nat} {sort : Int32} {len : Nat} {it : Nat} {f : Nat → Int64} {t : Nat} {n : Int32} (hk : t < 6) (ht : tt t = some ti) (htl : len ≤ 60) (hts : sort = -1 → len = 0) (hso : sort = -1 ∨ isIx sort 5) : Sp D mX9_tape 30 0 0 [.ref o, .int (nI t), .int (-1), .int n] [(o, .inr (9, [.ref ca, .ref im, .int tk, .ref txo, .ref ba, .ref va, .int (nI vc), .ref nwk, .ref nt, .ref ro, .ref lo, .ref bd, .ref ta])), (ta, eT D 6 tt), (ti, .inr (5, [.int sort, .int (nI len), .ref it])), (it, eJ D 60 f)] (fun r w => r = some (.int 1) ∧ w = [(o, .inr (9, [.ref ca, .ref im, .int tk, .ref txo, .ref ba, .ref va, .int (nI vc), .ref nwk, .ref nt, .ref ro, .ref lo, .ref bd, .ref ta])), (ta, eT D 6 tt), (ti, .inr (5, [.int (-1), .int (nI 0), .ref it])), (it, eJ D 60 (fun _ => 0))]) := by
  refine Sp.of (by decide) (Nat.le_of_ble_eq_true rfl) (fun X O T => ?_)
  refine v_eq (lv' := [(0, .ref o), (1, .int (nI t)), (2, .int (-1)), (3, .int n)]) rfl rfl rfl rfl ?_
  refine v_aload_n O dX9_tape_0 0 rfl ?_
  refine v_iload_n O dX9_tape_1 1 rfl ?_
  refine v_cV (T := TX9) (ci := 9) (As := [.int (nI t)]) (wr := [(ti, .inr (5, [.int sort, .int (nI len), .ref it])), (it, eJ D 60 f)]) (st := []) O cf_X9_243 rfl (sp_X9_tapeAt_i (o := o) (ca := ca) (im := im) (tk := tk) (txo := txo) (ba := ba) (va := va) (vc := vc) (nwk := nwk) (nt := nt) (ro := ro) (lo := lo) (bd := bd) (ta := ta) (tt := tt) (k := t) (ti := ti) (hk) (ht)) dX9_tape_2 rfl rfl 0 rfl [0, 1] [2, 3] (by decide) rfl rfl (by decide) (by decide) (by decide) (Nat.le_of_ble_eq_true rfl) (by decide) (by decide) (fun r_2 w_3 h_1 => ?_)
  obtain ⟨rfl, rfl⟩ := h_1
  refine v_eq (st' := [.ref ti]) (ws' := [(ti, .inr (5, [.int sort, .int (nI len), .ref it])), (it, eJ D 60 f), (o, .inr (9, [.ref ca, .ref im, .int tk, .ref txo, .ref ba, .ref va, .int (nI vc), .ref nwk, .ref nt, .ref ro, .ref lo, .ref bd, .ref ta])), (ta, eT D 6 tt)]) rfl rfl rfl rfl ?_
  refine v_astore (lv' := [(0, .ref o), (1, .int (nI t)), (2, .int (-1)), (3, .int n), (4, .ref ti)]) O dX9_tape_5 (by decide) rfl ?_
  refine v_aload O dX9_tape_7 4 rfl ?_
  refine v_ifnonnull O 14 dX9_tape_9 (by decide) ?_
  refine v_iload_n O dX9_tape_14 2 rfl ?_
  refine v_iconst (v := -1) O dX9_tape_15 (by decide) ?_
  refine v_icmp_ne O 28 dX9_tape_16 (by decide) (fun z1 => ?_) (fun z1 => ?_)
  · skip
    exact absurd rfl z1
  · skip
    refine v_aload O dX9_tape_19 4 rfl ?_
    refine v_iconst (v := -1) O dX9_tape_21 (by decide) ?_
    refine v_iconst (v := 0) O dX9_tape_22 (by decide) ?_
    refine v_cV (T := TX5) (ci := 5) (As := [.int (-1), .int 0]) (wr := [(o, .inr (9, [.ref ca, .ref im, .int tk, .ref txo, .ref ba, .ref va, .int (nI vc), .ref nwk, .ref nt, .ref ro, .ref lo, .ref bd, .ref ta])), (ta, eT D 6 tt)]) (st := []) O cf_X9_284 rfl (sp_X5_becomes (t := ti) (sort := sort) (len := len) (it := it) (f := f) (ns := (-1)) (n := 0) ) dX9_tape_23 rfl rfl 0 rfl [0, 1] [2, 3] (by decide) rfl rfl (by decide) (by decide) (by decide) (Nat.le_of_ble_eq_true rfl) (by decide) (by decide) (fun r_5 w_6 h_4 => ?_)
    obtain ⟨g_7, rfl, rfl, h_g⟩ := h_4
    refine v_eq (st' := []) (ws' := [(o, .inr (9, [.ref ca, .ref im, .int tk, .ref txo, .ref ba, .ref va, .int (nI vc), .ref nwk, .ref nt, .ref ro, .ref lo, .ref bd, .ref ta])), (ta, eT D 6 tt), (ti, .inr (5, [.int (-1), .int (nI 0), .ref it])), (it, eJ D 60 g_7)]) rfl rfl rfl rfl ?_
    refine v_congJ (g := fun _ => 0) (ws' := [(o, .inr (9, [.ref ca, .ref im, .int tk, .ref txo, .ref ba, .ref va, .int (nI vc), .ref nwk, .ref nt, .ref ro, .ref lo, .ref bd, .ref ta])), (ta, eT D 6 tt), (ti, .inr (5, [.int (-1), .int (nI 0), .ref it])), (it, eJ D 60 (fun _ => 0))]) 3 rfl (fun j hj => h_g j hj) rfl ?_
    refine v_iconst (v := 1) O dX9_tape_26 (by decide) ?_
    exact v_ireturn O T rfl rfl (by decide) (by decide) dX9_tape_27 (⟨rfl, rfl⟩)
set_option maxRecDepth 100000 in
set_option maxHeartbeats 4000000 in
theorem sp_X9_tape_3 {D : G} {o : Nat} {ca : Nat} {im : Nat} {tk : Int32} {txo : Nat} {ba : Nat} {va : Nat} {vc : Nat} {nwk : Nat} {nt : Nat} {ro : Nat} {lo : Nat} {bd : Nat} {ta : Nat} {tt : Nat → Option Nat} {ti : Nat} {sort : Int32} {len : Nat} {it : Nat} {f : Nat → Int64} {t : Nat} {s : Int32} {n : Int32} (hk : t < 6) (ht : tt t = some ti) (htl : len ≤ 60) (hts : sort = -1 → len = 0) (hso : sort = -1 ∨ isIx sort 5) (hs : ¬ s = -1) (hs5 : ¬ isIx s 5) : Sp D mX9_tape 30 0 0 [.ref o, .int (nI t), .int s, .int n] [(o, .inr (9, [.ref ca, .ref im, .int tk, .ref txo, .ref ba, .ref va, .int (nI vc), .ref nwk, .ref nt, .ref ro, .ref lo, .ref bd, .ref ta])), (ta, eT D 6 tt), (ti, .inr (5, [.int sort, .int (nI len), .ref it])), (it, eJ D 60 f)] (fun r w => r = some (.int (-2)) ∧ w = [(o, .inr (9, [.ref ca, .ref im, .int tk, .ref txo, .ref ba, .ref va, .int (nI vc), .ref nwk, .ref nt, .ref ro, .ref lo, .ref bd, .ref ta])), (ta, eT D 6 tt), (ti, .inr (5, [.int sort, .int (nI len), .ref it])), (it, eJ D 60 f)]) := by
  refine Sp.of (by decide) (Nat.le_of_ble_eq_true rfl) (fun X O T => ?_)
  refine v_eq (lv' := [(0, .ref o), (1, .int (nI t)), (2, .int s), (3, .int n)]) rfl rfl rfl rfl ?_
  refine v_aload_n O dX9_tape_0 0 rfl ?_
  refine v_iload_n O dX9_tape_1 1 rfl ?_
  refine v_cV (T := TX9) (ci := 9) (As := [.int (nI t)]) (wr := [(ti, .inr (5, [.int sort, .int (nI len), .ref it])), (it, eJ D 60 f)]) (st := []) O cf_X9_243 rfl (sp_X9_tapeAt_i (o := o) (ca := ca) (im := im) (tk := tk) (txo := txo) (ba := ba) (va := va) (vc := vc) (nwk := nwk) (nt := nt) (ro := ro) (lo := lo) (bd := bd) (ta := ta) (tt := tt) (k := t) (ti := ti) (hk) (ht)) dX9_tape_2 rfl rfl 0 rfl [0, 1] [2, 3] (by decide) rfl rfl (by decide) (by decide) (by decide) (Nat.le_of_ble_eq_true rfl) (by decide) (by decide) (fun r_2 w_3 h_1 => ?_)
  obtain ⟨rfl, rfl⟩ := h_1
  refine v_eq (st' := [.ref ti]) (ws' := [(ti, .inr (5, [.int sort, .int (nI len), .ref it])), (it, eJ D 60 f), (o, .inr (9, [.ref ca, .ref im, .int tk, .ref txo, .ref ba, .ref va, .int (nI vc), .ref nwk, .ref nt, .ref ro, .ref lo, .ref bd, .ref ta])), (ta, eT D 6 tt)]) rfl rfl rfl rfl ?_
  refine v_astore (lv' := [(0, .ref o), (1, .int (nI t)), (2, .int s), (3, .int n), (4, .ref ti)]) O dX9_tape_5 (by decide) rfl ?_
  refine v_aload O dX9_tape_7 4 rfl ?_
  refine v_ifnonnull O 14 dX9_tape_9 (by decide) ?_
  refine v_iload_n O dX9_tape_14 2 rfl ?_
  refine v_iconst (v := -1) O dX9_tape_15 (by decide) ?_
  refine v_icmp_ne O 28 dX9_tape_16 (by decide) (fun z1 => ?_) (fun z1 => ?_)
  · skip
    refine v_iload_n O dX9_tape_28 2 rfl ?_
    refine v_if_lt O 43 dX9_tape_29 (by decide) (fun z2 => ?_) (fun z2 => ?_)
    · skip
      refine v_bipush (v := -2) O dX9_tape_43 (by decide) ?_
      refine v_sub (ws' := [(o, .inr (9, [.ref ca, .ref im, .int tk, .ref txo, .ref ba, .ref va, .int (nI vc), .ref nwk, .ref nt, .ref ro, .ref lo, .ref bd, .ref ta])), (ta, eT D 6 tt), (ti, .inr (5, [.int sort, .int (nI len), .ref it])), (it, eJ D 60 f)]) [2, 3, 0, 1] (by decide) rfl ?_
      exact v_ireturn O T rfl rfl (by decide) (by decide) dX9_tape_45 (⟨rfl, rfl⟩)
    · skip
      refine v_iload_n O dX9_tape_32 2 rfl ?_
      refine v_iconst (v := 5) O dX9_tape_33 (by decide) ?_
      refine v_icmp_ge O 43 dX9_tape_34 (by decide) (fun z3 => ?_) (fun z3 => ?_)
      · skip
        refine v_bipush (v := -2) O dX9_tape_43 (by decide) ?_
        refine v_sub (ws' := [(o, .inr (9, [.ref ca, .ref im, .int tk, .ref txo, .ref ba, .ref va, .int (nI vc), .ref nwk, .ref nt, .ref ro, .ref lo, .ref bd, .ref ta])), (ta, eT D 6 tt), (ti, .inr (5, [.int sort, .int (nI len), .ref it])), (it, eJ D 60 f)]) [2, 3, 0, 1] (by decide) rfl ?_
        exact v_ireturn O T rfl rfl (by decide) (by decide) dX9_tape_45 (⟨rfl, rfl⟩)
      · skip
        exact absurd (isIx_t (n := 5) (by decide) z2 z3) hs5
  · skip
    exact absurd z1 hs
set_option maxRecDepth 100000 in
set_option maxHeartbeats 4000000 in
theorem sp_X9_tape_4 {D : G} {o : Nat} {ca : Nat} {im : Nat} {tk : Int32} {txo : Nat} {ba : Nat} {va : Nat} {vc : Nat} {nwk : Nat} {nt : Nat} {ro : Nat} {lo : Nat} {bd : Nat} {ta : Nat} {tt : Nat → Option Nat} {ti : Nat} {sort : Int32} {len : Nat} {it : Nat} {f : Nat → Int64} {t : Nat} {s : Nat} {n : Int32} (hk : t < 6) (ht : tt t = some ti) (htl : len ≤ 60) (hts : sort = -1 → len = 0) (hso : sort = -1 ∨ isIx sort 5) (hs : s < 5) (hn : 60 < n) : Sp D mX9_tape 30 0 0 [.ref o, .int (nI t), .int (nI s), .int n] [(o, .inr (9, [.ref ca, .ref im, .int tk, .ref txo, .ref ba, .ref va, .int (nI vc), .ref nwk, .ref nt, .ref ro, .ref lo, .ref bd, .ref ta])), (ta, eT D 6 tt), (ti, .inr (5, [.int sort, .int (nI len), .ref it])), (it, eJ D 60 f)] (fun r w => r = some (.int (-2)) ∧ w = [(o, .inr (9, [.ref ca, .ref im, .int tk, .ref txo, .ref ba, .ref va, .int (nI vc), .ref nwk, .ref nt, .ref ro, .ref lo, .ref bd, .ref ta])), (ta, eT D 6 tt), (ti, .inr (5, [.int sort, .int (nI len), .ref it])), (it, eJ D 60 f)]) := by
  refine Sp.of (by decide) (Nat.le_of_ble_eq_true rfl) (fun X O T => ?_)
  refine v_eq (lv' := [(0, .ref o), (1, .int (nI t)), (2, .int (nI s)), (3, .int n)]) rfl rfl rfl rfl ?_
  refine v_aload_n O dX9_tape_0 0 rfl ?_
  refine v_iload_n O dX9_tape_1 1 rfl ?_
  refine v_cV (T := TX9) (ci := 9) (As := [.int (nI t)]) (wr := [(ti, .inr (5, [.int sort, .int (nI len), .ref it])), (it, eJ D 60 f)]) (st := []) O cf_X9_243 rfl (sp_X9_tapeAt_i (o := o) (ca := ca) (im := im) (tk := tk) (txo := txo) (ba := ba) (va := va) (vc := vc) (nwk := nwk) (nt := nt) (ro := ro) (lo := lo) (bd := bd) (ta := ta) (tt := tt) (k := t) (ti := ti) (hk) (ht)) dX9_tape_2 rfl rfl 0 rfl [0, 1] [2, 3] (by decide) rfl rfl (by decide) (by decide) (by decide) (Nat.le_of_ble_eq_true rfl) (by decide) (by decide) (fun r_2 w_3 h_1 => ?_)
  obtain ⟨rfl, rfl⟩ := h_1
  refine v_eq (st' := [.ref ti]) (ws' := [(ti, .inr (5, [.int sort, .int (nI len), .ref it])), (it, eJ D 60 f), (o, .inr (9, [.ref ca, .ref im, .int tk, .ref txo, .ref ba, .ref va, .int (nI vc), .ref nwk, .ref nt, .ref ro, .ref lo, .ref bd, .ref ta])), (ta, eT D 6 tt)]) rfl rfl rfl rfl ?_
  refine v_astore (lv' := [(0, .ref o), (1, .int (nI t)), (2, .int (nI s)), (3, .int n), (4, .ref ti)]) O dX9_tape_5 (by decide) rfl ?_
  refine v_aload O dX9_tape_7 4 rfl ?_
  refine v_ifnonnull O 14 dX9_tape_9 (by decide) ?_
  refine v_iload_n O dX9_tape_14 2 rfl ?_
  refine v_iconst (v := -1) O dX9_tape_15 (by decide) ?_
  refine v_icmp_ne O 28 dX9_tape_16 (by decide) (fun z1 => ?_) (fun z1 => ?_)
  · skip
    refine v_iload_n O dX9_tape_28 2 rfl ?_
    refine v_if_lt O 43 dX9_tape_29 (by decide) (fun c_4 => ?_) (fun c_4 => ?_)
    · skip
      have c_4 := (c_lt (x := nI s) (y := 0) (a := s) (b := 0) rfl rfl (by omega) (by omega)).mp c_4
      exact absurd c_4 (by omega)
    · skip
      have c_4 := (not_congr (c_lt (x := nI s) (y := 0) (a := s) (b := 0) rfl rfl (by omega) (by omega))).mp c_4
      refine v_iload_n O dX9_tape_32 2 rfl ?_
      refine v_iconst (v := 5) O dX9_tape_33 (by decide) ?_
      refine v_icmp_ge O 43 dX9_tape_34 (by decide) (fun z3 => ?_) (fun z3 => ?_)
      · skip
        have z3 := (c_le' (x := nI s) (y := 5) (a := s) (b := 5) rfl rfl (by omega) (by omega)).mp z3
        exact absurd z3 (by omega)
      · skip
        have z3 := (not_congr (c_le' (x := nI s) (y := 5) (a := s) (b := 5) rfl rfl (by omega) (by omega))).mp z3
        refine v_iload_n O dX9_tape_37 3 rfl ?_
        refine v_bipush (v := 60) O dX9_tape_38 (by decide) ?_
        refine v_icmp_le O 46 dX9_tape_40 (by decide) (fun z4 => ?_) (fun z4 => ?_)
        · skip
          exact absurd hn (Int32.not_lt.mpr z4)
        · skip
          refine v_bipush (v := -2) O dX9_tape_43 (by decide) ?_
          refine v_sub (ws' := [(o, .inr (9, [.ref ca, .ref im, .int tk, .ref txo, .ref ba, .ref va, .int (nI vc), .ref nwk, .ref nt, .ref ro, .ref lo, .ref bd, .ref ta])), (ta, eT D 6 tt), (ti, .inr (5, [.int sort, .int (nI len), .ref it])), (it, eJ D 60 f)]) [2, 3, 0, 1] (by decide) rfl ?_
          exact v_ireturn O T rfl rfl (by decide) (by decide) dX9_tape_45 (⟨rfl, rfl⟩)
  · skip
    exact absurd z1 (zI_m1 (by omega))
set_option maxRecDepth 100000 in
set_option maxHeartbeats 4000000 in
theorem sp_X9_tape_5 {D : G} {o : Nat} {ca : Nat} {im : Nat} {tk : Int32} {txo : Nat} {ba : Nat} {va : Nat} {vc : Nat} {nwk : Nat} {nt : Nat} {ro : Nat} {lo : Nat} {bd : Nat} {ta : Nat} {tt : Nat → Option Nat} {ti : Nat} {sort : Int32} {len : Nat} {it : Nat} {f : Nat → Int64} {t : Nat} {s : Nat} {n : Int32} (hk : t < 6) (ht : tt t = some ti) (htl : len ≤ 60) (hts : sort = -1 → len = 0) (hso : sort = -1 ∨ isIx sort 5) (hs : s < 5) (hn : n < 0) : Sp D mX9_tape 30 0 0 [.ref o, .int (nI t), .int (nI s), .int n] [(o, .inr (9, [.ref ca, .ref im, .int tk, .ref txo, .ref ba, .ref va, .int (nI vc), .ref nwk, .ref nt, .ref ro, .ref lo, .ref bd, .ref ta])), (ta, eT D 6 tt), (ti, .inr (5, [.int sort, .int (nI len), .ref it])), (it, eJ D 60 f)] (fun r w => r = some (.int (-14)) ∧ w = [(o, .inr (9, [.ref ca, .ref im, .int tk, .ref txo, .ref ba, .ref va, .int (nI vc), .ref nwk, .ref nt, .ref ro, .ref lo, .ref bd, .ref ta])), (ta, eT D 6 tt), (ti, .inr (5, [.int sort, .int (nI len), .ref it])), (it, eJ D 60 f)]) := by
  refine Sp.of (by decide) (Nat.le_of_ble_eq_true rfl) (fun X O T => ?_)
  refine v_eq (lv' := [(0, .ref o), (1, .int (nI t)), (2, .int (nI s)), (3, .int n)]) rfl rfl rfl rfl ?_
  refine v_aload_n O dX9_tape_0 0 rfl ?_
  refine v_iload_n O dX9_tape_1 1 rfl ?_
  refine v_cV (T := TX9) (ci := 9) (As := [.int (nI t)]) (wr := [(ti, .inr (5, [.int sort, .int (nI len), .ref it])), (it, eJ D 60 f)]) (st := []) O cf_X9_243 rfl (sp_X9_tapeAt_i (o := o) (ca := ca) (im := im) (tk := tk) (txo := txo) (ba := ba) (va := va) (vc := vc) (nwk := nwk) (nt := nt) (ro := ro) (lo := lo) (bd := bd) (ta := ta) (tt := tt) (k := t) (ti := ti) (hk) (ht)) dX9_tape_2 rfl rfl 0 rfl [0, 1] [2, 3] (by decide) rfl rfl (by decide) (by decide) (by decide) (Nat.le_of_ble_eq_true rfl) (by decide) (by decide) (fun r_2 w_3 h_1 => ?_)
  obtain ⟨rfl, rfl⟩ := h_1
  refine v_eq (st' := [.ref ti]) (ws' := [(ti, .inr (5, [.int sort, .int (nI len), .ref it])), (it, eJ D 60 f), (o, .inr (9, [.ref ca, .ref im, .int tk, .ref txo, .ref ba, .ref va, .int (nI vc), .ref nwk, .ref nt, .ref ro, .ref lo, .ref bd, .ref ta])), (ta, eT D 6 tt)]) rfl rfl rfl rfl ?_
  refine v_astore (lv' := [(0, .ref o), (1, .int (nI t)), (2, .int (nI s)), (3, .int n), (4, .ref ti)]) O dX9_tape_5 (by decide) rfl ?_
  refine v_aload O dX9_tape_7 4 rfl ?_
  refine v_ifnonnull O 14 dX9_tape_9 (by decide) ?_
  refine v_iload_n O dX9_tape_14 2 rfl ?_
  refine v_iconst (v := -1) O dX9_tape_15 (by decide) ?_
  refine v_icmp_ne O 28 dX9_tape_16 (by decide) (fun z1 => ?_) (fun z1 => ?_)
  · skip
    refine v_iload_n O dX9_tape_28 2 rfl ?_
    refine v_if_lt O 43 dX9_tape_29 (by decide) (fun c_4 => ?_) (fun c_4 => ?_)
    · skip
      have c_4 := (c_lt (x := nI s) (y := 0) (a := s) (b := 0) rfl rfl (by omega) (by omega)).mp c_4
      exact absurd c_4 (by omega)
    · skip
      have c_4 := (not_congr (c_lt (x := nI s) (y := 0) (a := s) (b := 0) rfl rfl (by omega) (by omega))).mp c_4
      refine v_iload_n O dX9_tape_32 2 rfl ?_
      refine v_iconst (v := 5) O dX9_tape_33 (by decide) ?_
      refine v_icmp_ge O 43 dX9_tape_34 (by decide) (fun z3 => ?_) (fun z3 => ?_)
      · skip
        have z3 := (c_le' (x := nI s) (y := 5) (a := s) (b := 5) rfl rfl (by omega) (by omega)).mp z3
        exact absurd z3 (by omega)
      · skip
        have z3 := (not_congr (c_le' (x := nI s) (y := 5) (a := s) (b := 5) rfl rfl (by omega) (by omega))).mp z3
        refine v_iload_n O dX9_tape_37 3 rfl ?_
        refine v_bipush (v := 60) O dX9_tape_38 (by decide) ?_
        refine v_icmp_le O 46 dX9_tape_40 (by decide) (fun z4 => ?_) (fun z4 => ?_)
        · skip
          refine v_iload_n O dX9_tape_46 3 rfl ?_
          refine v_if_ge O 53 dX9_tape_47 (by decide) (fun z5 => ?_) (fun z5 => ?_)
          · skip
            exact absurd hn (Int32.not_lt.mpr z5)
          · skip
            refine v_bipush (v := -14) O dX9_tape_50 (by decide) ?_
            refine v_sub (ws' := [(o, .inr (9, [.ref ca, .ref im, .int tk, .ref txo, .ref ba, .ref va, .int (nI vc), .ref nwk, .ref nt, .ref ro, .ref lo, .ref bd, .ref ta])), (ta, eT D 6 tt), (ti, .inr (5, [.int sort, .int (nI len), .ref it])), (it, eJ D 60 f)]) [2, 3, 0, 1] (by decide) rfl ?_
            exact v_ireturn O T rfl rfl (by decide) (by decide) dX9_tape_52 (⟨rfl, rfl⟩)
        · skip
          exact absurd (Int32.le_of_lt (Int32.lt_trans hn (by decide))) z4
  · skip
    exact absurd z1 (zI_m1 (by omega))
set_option maxRecDepth 100000 in
set_option maxHeartbeats 4000000 in
theorem sp_X9_tape_6 {D : G} {o : Nat} {ca : Nat} {im : Nat} {tk : Int32} {txo : Nat} {ba : Nat} {va : Nat} {vc : Nat} {nwk : Nat} {nt : Nat} {ro : Nat} {lo : Nat} {bd : Nat} {ta : Nat} {tt : Nat → Option Nat} {ti : Nat} {sort : Int32} {len : Nat} {it : Nat} {f : Nat → Int64} {t : Nat} {s : Nat} {n : Nat} (hk : t < 6) (ht : tt t = some ti) (htl : len ≤ 60) (hts : sort = -1 → len = 0) (hso : sort = -1 ∨ isIx sort 5) (hs : s < 5) (hn : n ≤ 60) : Sp D mX9_tape 30 0 0 [.ref o, .int (nI t), .int (nI s), .int (nI n)] [(o, .inr (9, [.ref ca, .ref im, .int tk, .ref txo, .ref ba, .ref va, .int (nI vc), .ref nwk, .ref nt, .ref ro, .ref lo, .ref bd, .ref ta])), (ta, eT D 6 tt), (ti, .inr (5, [.int sort, .int (nI len), .ref it])), (it, eJ D 60 f)] (fun r w => r = some (.int 1) ∧ w = [(o, .inr (9, [.ref ca, .ref im, .int tk, .ref txo, .ref ba, .ref va, .int (nI vc), .ref nwk, .ref nt, .ref ro, .ref lo, .ref bd, .ref ta])), (ta, eT D 6 tt), (ti, .inr (5, [.int (nI s), .int (nI n), .ref it])), (it, eJ D 60 (fun _ => 0))]) := by
  refine Sp.of (by decide) (Nat.le_of_ble_eq_true rfl) (fun X O T => ?_)
  refine v_eq (lv' := [(0, .ref o), (1, .int (nI t)), (2, .int (nI s)), (3, .int (nI n))]) rfl rfl rfl rfl ?_
  refine v_aload_n O dX9_tape_0 0 rfl ?_
  refine v_iload_n O dX9_tape_1 1 rfl ?_
  refine v_cV (T := TX9) (ci := 9) (As := [.int (nI t)]) (wr := [(ti, .inr (5, [.int sort, .int (nI len), .ref it])), (it, eJ D 60 f)]) (st := []) O cf_X9_243 rfl (sp_X9_tapeAt_i (o := o) (ca := ca) (im := im) (tk := tk) (txo := txo) (ba := ba) (va := va) (vc := vc) (nwk := nwk) (nt := nt) (ro := ro) (lo := lo) (bd := bd) (ta := ta) (tt := tt) (k := t) (ti := ti) (hk) (ht)) dX9_tape_2 rfl rfl 0 rfl [0, 1] [2, 3] (by decide) rfl rfl (by decide) (by decide) (by decide) (Nat.le_of_ble_eq_true rfl) (by decide) (by decide) (fun r_2 w_3 h_1 => ?_)
  obtain ⟨rfl, rfl⟩ := h_1
  refine v_eq (st' := [.ref ti]) (ws' := [(ti, .inr (5, [.int sort, .int (nI len), .ref it])), (it, eJ D 60 f), (o, .inr (9, [.ref ca, .ref im, .int tk, .ref txo, .ref ba, .ref va, .int (nI vc), .ref nwk, .ref nt, .ref ro, .ref lo, .ref bd, .ref ta])), (ta, eT D 6 tt)]) rfl rfl rfl rfl ?_
  refine v_astore (lv' := [(0, .ref o), (1, .int (nI t)), (2, .int (nI s)), (3, .int (nI n)), (4, .ref ti)]) O dX9_tape_5 (by decide) rfl ?_
  refine v_aload O dX9_tape_7 4 rfl ?_
  refine v_ifnonnull O 14 dX9_tape_9 (by decide) ?_
  refine v_iload_n O dX9_tape_14 2 rfl ?_
  refine v_iconst (v := -1) O dX9_tape_15 (by decide) ?_
  refine v_icmp_ne O 28 dX9_tape_16 (by decide) (fun z1 => ?_) (fun z1 => ?_)
  · skip
    refine v_iload_n O dX9_tape_28 2 rfl ?_
    refine v_if_lt O 43 dX9_tape_29 (by decide) (fun c_4 => ?_) (fun c_4 => ?_)
    · skip
      have c_4 := (c_lt (x := nI s) (y := 0) (a := s) (b := 0) rfl rfl (by omega) (by omega)).mp c_4
      exact absurd c_4 (by omega)
    · skip
      have c_4 := (not_congr (c_lt (x := nI s) (y := 0) (a := s) (b := 0) rfl rfl (by omega) (by omega))).mp c_4
      refine v_iload_n O dX9_tape_32 2 rfl ?_
      refine v_iconst (v := 5) O dX9_tape_33 (by decide) ?_
      refine v_icmp_ge O 43 dX9_tape_34 (by decide) (fun z3 => ?_) (fun z3 => ?_)
      · skip
        have z3 := (c_le' (x := nI s) (y := 5) (a := s) (b := 5) rfl rfl (by omega) (by omega)).mp z3
        exact absurd z3 (by omega)
      · skip
        have z3 := (not_congr (c_le' (x := nI s) (y := 5) (a := s) (b := 5) rfl rfl (by omega) (by omega))).mp z3
        refine v_iload_n O dX9_tape_37 3 rfl ?_
        refine v_bipush (v := 60) O dX9_tape_38 (by decide) ?_
        refine v_icmp_le O 46 dX9_tape_40 (by decide) (fun z4 => ?_) (fun z4 => ?_)
        · skip
          have z4 := (c_le (x := nI n) (y := 60) (a := n) (b := 60) rfl rfl (by omega) (by omega)).mp z4
          refine v_iload_n O dX9_tape_46 3 rfl ?_
          refine v_if_ge O 53 dX9_tape_47 (by decide) (fun z5 => ?_) (fun z5 => ?_)
          · skip
            refine v_aload O dX9_tape_53 4 rfl ?_
            refine v_iload_n O dX9_tape_55 2 rfl ?_
            refine v_iload_n O dX9_tape_56 3 rfl ?_
            refine v_cV (T := TX5) (ci := 5) (As := [.int (nI s), .int (nI n)]) (wr := [(o, .inr (9, [.ref ca, .ref im, .int tk, .ref txo, .ref ba, .ref va, .int (nI vc), .ref nwk, .ref nt, .ref ro, .ref lo, .ref bd, .ref ta])), (ta, eT D 6 tt)]) (st := []) O cf_X9_284 rfl (sp_X5_becomes (t := ti) (sort := sort) (len := len) (it := it) (f := f) (ns := (nI s)) (n := n) ) dX9_tape_57 rfl rfl 0 rfl [0, 1] [2, 3] (by decide) rfl rfl (by decide) (by decide) (by decide) (Nat.le_of_ble_eq_true rfl) (by decide) (by decide) (fun r_6 w_7 h_5 => ?_)
            obtain ⟨g_8, rfl, rfl, h_g⟩ := h_5
            refine v_eq (st' := []) (ws' := [(o, .inr (9, [.ref ca, .ref im, .int tk, .ref txo, .ref ba, .ref va, .int (nI vc), .ref nwk, .ref nt, .ref ro, .ref lo, .ref bd, .ref ta])), (ta, eT D 6 tt), (ti, .inr (5, [.int (nI s), .int (nI n), .ref it])), (it, eJ D 60 g_8)]) rfl rfl rfl rfl ?_
            refine v_congJ (g := fun _ => 0) (ws' := [(o, .inr (9, [.ref ca, .ref im, .int tk, .ref txo, .ref ba, .ref va, .int (nI vc), .ref nwk, .ref nt, .ref ro, .ref lo, .ref bd, .ref ta])), (ta, eT D 6 tt), (ti, .inr (5, [.int (nI s), .int (nI n), .ref it])), (it, eJ D 60 (fun _ => 0))]) 3 rfl (fun j hj => h_g j hj) rfl ?_
            refine v_iconst (v := 1) O dX9_tape_60 (by decide) ?_
            exact v_ireturn O T rfl rfl (by decide) (by decide) dX9_tape_61 (⟨rfl, rfl⟩)
          · skip
            exact absurd (Int32.not_lt.mp (nI_pos (by omega))) z5
        · skip
          have z4 := (not_congr (c_le (x := nI n) (y := 60) (a := n) (b := 60) rfl rfl (by omega) (by omega))).mp z4
          exact absurd z4 (by omega)
  · skip
    exact absurd z1 (zI_m1 (by omega))
set_option maxRecDepth 100000 in
set_option maxHeartbeats 4000000 in
theorem sp_X9_item_1 {D : G} {o : Nat} {ca : Nat} {im : Nat} {tk : Int32} {txo : Nat} {ba : Nat} {va : Nat} {vc : Nat} {nwk : Nat} {nt : Nat} {ro : Nat} {lo : Nat} {bd : Nat} {ta : Nat} {tt : Nat → Option Nat} {t : Int32} {i : Int32} {z : Int64} (hk : ¬ isIx t 6) : Sp D mX9_item 30 0 0 [.ref o, .int t, .int i, .long z] [(o, .inr (9, [.ref ca, .ref im, .int tk, .ref txo, .ref ba, .ref va, .int (nI vc), .ref nwk, .ref nt, .ref ro, .ref lo, .ref bd, .ref ta])), (ta, eT D 6 tt)] (fun r w => r = some (.int (-1)) ∧ w = [(o, .inr (9, [.ref ca, .ref im, .int tk, .ref txo, .ref ba, .ref va, .int (nI vc), .ref nwk, .ref nt, .ref ro, .ref lo, .ref bd, .ref ta])), (ta, eT D 6 tt)]) := by
  refine Sp.of (by decide) (Nat.le_of_ble_eq_true rfl) (fun X O T => ?_)
  refine v_eq (lv' := [(0, .ref o), (1, .int t), (2, .int i), (3, .long z)]) rfl rfl rfl rfl ?_
  refine v_aload_n O dX9_item_0 0 rfl ?_
  refine v_iload_n O dX9_item_1 1 rfl ?_
  refine v_cV (T := TX9) (ci := 9) (As := [.int t]) (wr := []) (st := []) O cf_X9_243 rfl (sp_X9_tapeAt_o (o := o) (ca := ca) (im := im) (tk := tk) (txo := txo) (ba := ba) (va := va) (vc := vc) (nwk := nwk) (nt := nt) (ro := ro) (lo := lo) (bd := bd) (ta := ta) (tt := tt) (k := t) (hk)) dX9_item_2 rfl rfl 0 rfl [0, 1] [] (by decide) rfl rfl (by decide) (by decide) (by decide) (Nat.le_of_ble_eq_true rfl) (by decide) (by decide) (fun r_2 w_3 h_1 => ?_)
  obtain ⟨rfl, rfl⟩ := h_1
  refine v_eq (st' := [.null]) (ws' := [(o, .inr (9, [.ref ca, .ref im, .int tk, .ref txo, .ref ba, .ref va, .int (nI vc), .ref nwk, .ref nt, .ref ro, .ref lo, .ref bd, .ref ta])), (ta, eT D 6 tt)]) rfl rfl rfl rfl ?_
  refine v_astoreN (lv' := [(0, .ref o), (1, .int t), (2, .int i), (3, .long z), (5, .null)]) O dX9_item_5 (by decide) rfl ?_
  refine v_aloadN O dX9_item_7 4 rfl ?_
  refine v_ifnonnullN O dX9_item_9 ?_
  refine v_iconst (v := -1) O dX9_item_12 (by decide) ?_
  exact v_ireturn O T rfl rfl (by decide) (by decide) dX9_item_13 (⟨rfl, rfl⟩)
set_option maxRecDepth 100000 in
set_option maxHeartbeats 4000000 in
theorem sp_X9_item_2 {D : G} {o : Nat} {ca : Nat} {im : Nat} {tk : Int32} {txo : Nat} {ba : Nat} {va : Nat} {vc : Nat} {nwk : Nat} {nt : Nat} {ro : Nat} {lo : Nat} {bd : Nat} {ta : Nat} {tt : Nat → Option Nat} {ti : Nat} {sort : Int32} {len : Nat} {it : Nat} {f : Nat → Int64} {t : Nat} {i : Int32} {z : Int64} (hk : t < 6) (ht : tt t = some ti) (htl : len ≤ 60) (hts : sort = -1 → len = 0) (hso : sort = -1 ∨ isIx sort 5) (hs : sort = -1) : Sp D mX9_item 30 0 0 [.ref o, .int (nI t), .int i, .long z] [(o, .inr (9, [.ref ca, .ref im, .int tk, .ref txo, .ref ba, .ref va, .int (nI vc), .ref nwk, .ref nt, .ref ro, .ref lo, .ref bd, .ref ta])), (ta, eT D 6 tt), (ti, .inr (5, [.int sort, .int (nI len), .ref it])), (it, eJ D 60 f)] (fun r w => r = some (.int (-11)) ∧ w = [(o, .inr (9, [.ref ca, .ref im, .int tk, .ref txo, .ref ba, .ref va, .int (nI vc), .ref nwk, .ref nt, .ref ro, .ref lo, .ref bd, .ref ta])), (ta, eT D 6 tt), (ti, .inr (5, [.int sort, .int (nI len), .ref it])), (it, eJ D 60 f)]) := by
  refine Sp.of (by decide) (Nat.le_of_ble_eq_true rfl) (fun X O T => ?_)
  refine v_eq (lv' := [(0, .ref o), (1, .int (nI t)), (2, .int i), (3, .long z)]) rfl rfl rfl rfl ?_
  refine v_aload_n O dX9_item_0 0 rfl ?_
  refine v_iload_n O dX9_item_1 1 rfl ?_
  refine v_cV (T := TX9) (ci := 9) (As := [.int (nI t)]) (wr := [(ti, .inr (5, [.int sort, .int (nI len), .ref it])), (it, eJ D 60 f)]) (st := []) O cf_X9_243 rfl (sp_X9_tapeAt_i (o := o) (ca := ca) (im := im) (tk := tk) (txo := txo) (ba := ba) (va := va) (vc := vc) (nwk := nwk) (nt := nt) (ro := ro) (lo := lo) (bd := bd) (ta := ta) (tt := tt) (k := t) (ti := ti) (hk) (ht)) dX9_item_2 rfl rfl 0 rfl [0, 1] [2, 3] (by decide) rfl rfl (by decide) (by decide) (by decide) (Nat.le_of_ble_eq_true rfl) (by decide) (by decide) (fun r_2 w_3 h_1 => ?_)
  obtain ⟨rfl, rfl⟩ := h_1
  refine v_eq (st' := [.ref ti]) (ws' := [(ti, .inr (5, [.int sort, .int (nI len), .ref it])), (it, eJ D 60 f), (o, .inr (9, [.ref ca, .ref im, .int tk, .ref txo, .ref ba, .ref va, .int (nI vc), .ref nwk, .ref nt, .ref ro, .ref lo, .ref bd, .ref ta])), (ta, eT D 6 tt)]) rfl rfl rfl rfl ?_
  refine v_astore (lv' := [(0, .ref o), (1, .int (nI t)), (2, .int i), (3, .long z), (5, .ref ti)]) O dX9_item_5 (by decide) rfl ?_
  refine v_aload O dX9_item_7 4 rfl ?_
  refine v_ifnonnull O 14 dX9_item_9 (by decide) ?_
  refine v_aload O dX9_item_14 4 rfl ?_
  refine v_cV (T := TX5) (ci := 5) (As := []) (wr := [(it, eJ D 60 f), (o, .inr (9, [.ref ca, .ref im, .int tk, .ref txo, .ref ba, .ref va, .int (nI vc), .ref nwk, .ref nt, .ref ro, .ref lo, .ref bd, .ref ta])), (ta, eT D 6 tt)]) (st := []) O cf_X9_247 rfl (sp_X5_holdsSomething (t := ti) (sort := sort) (len := len) (it := it) ) dX9_item_16 rfl rfl 0 rfl [0] [1, 2, 3] (by decide) rfl rfl (by decide) (by decide) (by decide) (Nat.le_of_ble_eq_true rfl) (by decide) (by decide) (fun r_5 w_6 h_4 => ?_)
  obtain ⟨rfl, rfl⟩ := h_4
  refine v_eq (st' := [.int (b2i (¬ sort = -1))]) (ws' := [(it, eJ D 60 f), (o, .inr (9, [.ref ca, .ref im, .int tk, .ref txo, .ref ba, .ref va, .int (nI vc), .ref nwk, .ref nt, .ref ro, .ref lo, .ref bd, .ref ta])), (ta, eT D 6 tt), (ti, .inr (5, [.int sort, .int (nI len), .ref it]))]) rfl rfl rfl rfl ?_
  refine v_if_ne O 25 dX9_item_19 (by decide) (fun z1 => ?_) (fun z1 => ?_)
  · skip
    have z1 := b2i_1.mp z1
    exact absurd hs z1
  · skip
    have z1 := b2i_0.mp z1
    refine v_bipush (v := -11) O dX9_item_22 (by decide) ?_
    refine v_sub (ws' := [(o, .inr (9, [.ref ca, .ref im, .int tk, .ref txo, .ref ba, .ref va, .int (nI vc), .ref nwk, .ref nt, .ref ro, .ref lo, .ref bd, .ref ta])), (ta, eT D 6 tt), (ti, .inr (5, [.int sort, .int (nI len), .ref it])), (it, eJ D 60 f)]) [1, 2, 3, 0] (by decide) rfl ?_
    exact v_ireturn O T rfl rfl (by decide) (by decide) dX9_item_24 (⟨rfl, rfl⟩)
set_option maxRecDepth 100000 in
set_option maxHeartbeats 4000000 in
theorem sp_X9_item_3 {D : G} {o : Nat} {ca : Nat} {im : Nat} {tk : Int32} {txo : Nat} {ba : Nat} {va : Nat} {vc : Nat} {nwk : Nat} {nt : Nat} {ro : Nat} {lo : Nat} {bd : Nat} {ta : Nat} {tt : Nat → Option Nat} {ti : Nat} {sort : Int32} {len : Nat} {it : Nat} {f : Nat → Int64} {t : Nat} {i : Int32} {z : Int64} (hk : t < 6) (ht : tt t = some ti) (htl : len ≤ 60) (hts : sort = -1 → len = 0) (hso : sort = -1 ∨ isIx sort 5) (hs : ¬ sort = -1) (hi : ¬ isIx i len) : Sp D mX9_item 30 0 0 [.ref o, .int (nI t), .int i, .long z] [(o, .inr (9, [.ref ca, .ref im, .int tk, .ref txo, .ref ba, .ref va, .int (nI vc), .ref nwk, .ref nt, .ref ro, .ref lo, .ref bd, .ref ta])), (ta, eT D 6 tt), (ti, .inr (5, [.int sort, .int (nI len), .ref it])), (it, eJ D 60 f)] (fun r w => r = some (.int (-13)) ∧ w = [(o, .inr (9, [.ref ca, .ref im, .int tk, .ref txo, .ref ba, .ref va, .int (nI vc), .ref nwk, .ref nt, .ref ro, .ref lo, .ref bd, .ref ta])), (ta, eT D 6 tt), (ti, .inr (5, [.int sort, .int (nI len), .ref it])), (it, eJ D 60 f)]) := by
  refine Sp.of (by decide) (Nat.le_of_ble_eq_true rfl) (fun X O T => ?_)
  refine v_eq (lv' := [(0, .ref o), (1, .int (nI t)), (2, .int i), (3, .long z)]) rfl rfl rfl rfl ?_
  refine v_aload_n O dX9_item_0 0 rfl ?_
  refine v_iload_n O dX9_item_1 1 rfl ?_
  refine v_cV (T := TX9) (ci := 9) (As := [.int (nI t)]) (wr := [(ti, .inr (5, [.int sort, .int (nI len), .ref it])), (it, eJ D 60 f)]) (st := []) O cf_X9_243 rfl (sp_X9_tapeAt_i (o := o) (ca := ca) (im := im) (tk := tk) (txo := txo) (ba := ba) (va := va) (vc := vc) (nwk := nwk) (nt := nt) (ro := ro) (lo := lo) (bd := bd) (ta := ta) (tt := tt) (k := t) (ti := ti) (hk) (ht)) dX9_item_2 rfl rfl 0 rfl [0, 1] [2, 3] (by decide) rfl rfl (by decide) (by decide) (by decide) (Nat.le_of_ble_eq_true rfl) (by decide) (by decide) (fun r_2 w_3 h_1 => ?_)
  obtain ⟨rfl, rfl⟩ := h_1
  refine v_eq (st' := [.ref ti]) (ws' := [(ti, .inr (5, [.int sort, .int (nI len), .ref it])), (it, eJ D 60 f), (o, .inr (9, [.ref ca, .ref im, .int tk, .ref txo, .ref ba, .ref va, .int (nI vc), .ref nwk, .ref nt, .ref ro, .ref lo, .ref bd, .ref ta])), (ta, eT D 6 tt)]) rfl rfl rfl rfl ?_
  refine v_astore (lv' := [(0, .ref o), (1, .int (nI t)), (2, .int i), (3, .long z), (5, .ref ti)]) O dX9_item_5 (by decide) rfl ?_
  refine v_aload O dX9_item_7 4 rfl ?_
  refine v_ifnonnull O 14 dX9_item_9 (by decide) ?_
  refine v_aload O dX9_item_14 4 rfl ?_
  refine v_cV (T := TX5) (ci := 5) (As := []) (wr := [(it, eJ D 60 f), (o, .inr (9, [.ref ca, .ref im, .int tk, .ref txo, .ref ba, .ref va, .int (nI vc), .ref nwk, .ref nt, .ref ro, .ref lo, .ref bd, .ref ta])), (ta, eT D 6 tt)]) (st := []) O cf_X9_247 rfl (sp_X5_holdsSomething (t := ti) (sort := sort) (len := len) (it := it) ) dX9_item_16 rfl rfl 0 rfl [0] [1, 2, 3] (by decide) rfl rfl (by decide) (by decide) (by decide) (Nat.le_of_ble_eq_true rfl) (by decide) (by decide) (fun r_5 w_6 h_4 => ?_)
  obtain ⟨rfl, rfl⟩ := h_4
  refine v_eq (st' := [.int (b2i (¬ sort = -1))]) (ws' := [(it, eJ D 60 f), (o, .inr (9, [.ref ca, .ref im, .int tk, .ref txo, .ref ba, .ref va, .int (nI vc), .ref nwk, .ref nt, .ref ro, .ref lo, .ref bd, .ref ta])), (ta, eT D 6 tt), (ti, .inr (5, [.int sort, .int (nI len), .ref it]))]) rfl rfl rfl rfl ?_
  refine v_if_ne O 25 dX9_item_19 (by decide) (fun z1 => ?_) (fun z1 => ?_)
  · skip
    have z1 := b2i_1.mp z1
    refine v_aload O dX9_item_25 4 rfl ?_
    refine v_iload_n O dX9_item_27 2 rfl ?_
    refine v_i2l O dX9_item_28 ?_
    refine v_cV (T := TX5) (ci := 5) (As := [.long (Int32.toInt64 i)]) (wr := [(it, eJ D 60 f), (o, .inr (9, [.ref ca, .ref im, .int tk, .ref txo, .ref ba, .ref va, .int (nI vc), .ref nwk, .ref nt, .ref ro, .ref lo, .ref bd, .ref ta])), (ta, eT D 6 tt)]) (st := []) O cf_X9_254 rfl (sp_X5_has (t := ti) (sort := sort) (len := len) (it := it) (p := (Int32.toInt64 i)) (htl)) dX9_item_29 rfl rfl 3 rfl [3] [0, 1, 2] (by decide) rfl rfl (by decide) (by decide) (by decide) (Nat.le_of_ble_eq_true rfl) (by decide) (by decide) (fun r_8 w_9 h_7 => ?_)
    obtain ⟨rfl, rfl⟩ := h_7
    refine v_eq (st' := [.int (b2i (isIxL (Int32.toInt64 i) len))]) (ws' := [(it, eJ D 60 f), (o, .inr (9, [.ref ca, .ref im, .int tk, .ref txo, .ref ba, .ref va, .int (nI vc), .ref nwk, .ref nt, .ref ro, .ref lo, .ref bd, .ref ta])), (ta, eT D 6 tt), (ti, .inr (5, [.int sort, .int (nI len), .ref it]))]) rfl rfl rfl rfl ?_
    refine v_if_ne O 38 dX9_item_32 (by decide) (fun z2 => ?_) (fun z2 => ?_)
    · skip
      have z2 := b2i_1.mp z2
      exact absurd (isIxL_i (by omega) z2) hi
    · skip
      have z2 := b2i_0.mp z2
      refine v_bipush (v := -13) O dX9_item_35 (by decide) ?_
      refine v_sub (ws' := [(o, .inr (9, [.ref ca, .ref im, .int tk, .ref txo, .ref ba, .ref va, .int (nI vc), .ref nwk, .ref nt, .ref ro, .ref lo, .ref bd, .ref ta])), (ta, eT D 6 tt), (ti, .inr (5, [.int sort, .int (nI len), .ref it])), (it, eJ D 60 f)]) [1, 2, 3, 0] (by decide) rfl ?_
      exact v_ireturn O T rfl rfl (by decide) (by decide) dX9_item_37 (⟨rfl, rfl⟩)
  · skip
    have z1 := b2i_0.mp z1
    exact absurd hs z1
set_option maxRecDepth 100000 in
set_option maxHeartbeats 4000000 in
theorem sp_X9_item_4 {D : G} {o : Nat} {ca : Nat} {im : Nat} {tk : Int32} {txo : Nat} {ba : Nat} {va : Nat} {vc : Nat} {nwk : Nat} {nt : Nat} {ro : Nat} {lo : Nat} {bd : Nat} {ta : Nat} {tt : Nat → Option Nat} {ti : Nat} {sort : Int32} {len : Nat} {it : Nat} {f : Nat → Int64} {t : Nat} {i : Nat} {z : Int64} (hk : t < 6) (ht : tt t = some ti) (htl : len ≤ 60) (hts : sort = -1 → len = 0) (hso : sort = -1 ∨ isIx sort 5) (hs : ¬ sort = -1) (hi : i < len) : Sp D mX9_item 30 0 0 [.ref o, .int (nI t), .int (nI i), .long z] [(o, .inr (9, [.ref ca, .ref im, .int tk, .ref txo, .ref ba, .ref va, .int (nI vc), .ref nwk, .ref nt, .ref ro, .ref lo, .ref bd, .ref ta])), (ta, eT D 6 tt), (ti, .inr (5, [.int sort, .int (nI len), .ref it])), (it, eJ D 60 f)] (fun r w => r = some (.int 1) ∧ w = [(o, .inr (9, [.ref ca, .ref im, .int tk, .ref txo, .ref ba, .ref va, .int (nI vc), .ref nwk, .ref nt, .ref ro, .ref lo, .ref bd, .ref ta])), (ta, eT D 6 tt), (ti, .inr (5, [.int sort, .int (nI len), .ref it])), (it, eJ D 60 (vp_updL f i (cutF sort z)))]) := by
  refine Sp.of (by decide) (Nat.le_of_ble_eq_true rfl) (fun X O T => ?_)
  refine v_eq (lv' := [(0, .ref o), (1, .int (nI t)), (2, .int (nI i)), (3, .long z)]) rfl rfl rfl rfl ?_
  refine v_aload_n O dX9_item_0 0 rfl ?_
  refine v_iload_n O dX9_item_1 1 rfl ?_
  refine v_cV (T := TX9) (ci := 9) (As := [.int (nI t)]) (wr := [(ti, .inr (5, [.int sort, .int (nI len), .ref it])), (it, eJ D 60 f)]) (st := []) O cf_X9_243 rfl (sp_X9_tapeAt_i (o := o) (ca := ca) (im := im) (tk := tk) (txo := txo) (ba := ba) (va := va) (vc := vc) (nwk := nwk) (nt := nt) (ro := ro) (lo := lo) (bd := bd) (ta := ta) (tt := tt) (k := t) (ti := ti) (hk) (ht)) dX9_item_2 rfl rfl 0 rfl [0, 1] [2, 3] (by decide) rfl rfl (by decide) (by decide) (by decide) (Nat.le_of_ble_eq_true rfl) (by decide) (by decide) (fun r_2 w_3 h_1 => ?_)
  obtain ⟨rfl, rfl⟩ := h_1
  refine v_eq (st' := [.ref ti]) (ws' := [(ti, .inr (5, [.int sort, .int (nI len), .ref it])), (it, eJ D 60 f), (o, .inr (9, [.ref ca, .ref im, .int tk, .ref txo, .ref ba, .ref va, .int (nI vc), .ref nwk, .ref nt, .ref ro, .ref lo, .ref bd, .ref ta])), (ta, eT D 6 tt)]) rfl rfl rfl rfl ?_
  refine v_astore (lv' := [(0, .ref o), (1, .int (nI t)), (2, .int (nI i)), (3, .long z), (5, .ref ti)]) O dX9_item_5 (by decide) rfl ?_
  refine v_aload O dX9_item_7 4 rfl ?_
  refine v_ifnonnull O 14 dX9_item_9 (by decide) ?_
  refine v_aload O dX9_item_14 4 rfl ?_
  refine v_cV (T := TX5) (ci := 5) (As := []) (wr := [(it, eJ D 60 f), (o, .inr (9, [.ref ca, .ref im, .int tk, .ref txo, .ref ba, .ref va, .int (nI vc), .ref nwk, .ref nt, .ref ro, .ref lo, .ref bd, .ref ta])), (ta, eT D 6 tt)]) (st := []) O cf_X9_247 rfl (sp_X5_holdsSomething (t := ti) (sort := sort) (len := len) (it := it) ) dX9_item_16 rfl rfl 0 rfl [0] [1, 2, 3] (by decide) rfl rfl (by decide) (by decide) (by decide) (Nat.le_of_ble_eq_true rfl) (by decide) (by decide) (fun r_5 w_6 h_4 => ?_)
  obtain ⟨rfl, rfl⟩ := h_4
  refine v_eq (st' := [.int (b2i (¬ sort = -1))]) (ws' := [(it, eJ D 60 f), (o, .inr (9, [.ref ca, .ref im, .int tk, .ref txo, .ref ba, .ref va, .int (nI vc), .ref nwk, .ref nt, .ref ro, .ref lo, .ref bd, .ref ta])), (ta, eT D 6 tt), (ti, .inr (5, [.int sort, .int (nI len), .ref it]))]) rfl rfl rfl rfl ?_
  refine v_if_ne O 25 dX9_item_19 (by decide) (fun z1 => ?_) (fun z1 => ?_)
  · skip
    have z1 := b2i_1.mp z1
    refine v_aload O dX9_item_25 4 rfl ?_
    refine v_iload_n O dX9_item_27 2 rfl ?_
    refine v_i2l O dX9_item_28 ?_
    refine v_topx (y := lN i) (nI_l (by omega)) ?_
    refine v_cV (T := TX5) (ci := 5) (As := [.long (lN i)]) (wr := [(it, eJ D 60 f), (o, .inr (9, [.ref ca, .ref im, .int tk, .ref txo, .ref ba, .ref va, .int (nI vc), .ref nwk, .ref nt, .ref ro, .ref lo, .ref bd, .ref ta])), (ta, eT D 6 tt)]) (st := []) O cf_X9_254 rfl (sp_X5_has (t := ti) (sort := sort) (len := len) (it := it) (p := (lN i)) (htl)) dX9_item_29 rfl rfl 3 rfl [3] [0, 1, 2] (by decide) rfl rfl (by decide) (by decide) (by decide) (Nat.le_of_ble_eq_true rfl) (by decide) (by decide) (fun r_8 w_9 h_7 => ?_)
    obtain ⟨rfl, rfl⟩ := h_7
    refine v_eq (st' := [.int (b2i (isIxL (lN i) len))]) (ws' := [(it, eJ D 60 f), (o, .inr (9, [.ref ca, .ref im, .int tk, .ref txo, .ref ba, .ref va, .int (nI vc), .ref nwk, .ref nt, .ref ro, .ref lo, .ref bd, .ref ta])), (ta, eT D 6 tt), (ti, .inr (5, [.int sort, .int (nI len), .ref it]))]) rfl rfl rfl rfl ?_
    refine v_if_ne O 38 dX9_item_32 (by decide) (fun z2 => ?_) (fun z2 => ?_)
    · skip
      have z2 := b2i_1.mp z2
      refine v_aload O dX9_item_38 4 rfl ?_
      refine v_iload_n O dX9_item_40 2 rfl ?_
      refine v_lload_n O dX9_item_41 3 rfl ?_
      refine v_cV (T := TX5) (ci := 5) (As := [.int (nI i), .long z]) (wr := [(o, .inr (9, [.ref ca, .ref im, .int tk, .ref txo, .ref ba, .ref va, .int (nI vc), .ref nwk, .ref nt, .ref ro, .ref lo, .ref bd, .ref ta])), (ta, eT D 6 tt)]) (st := []) O cf_X9_287 rfl (sp_X5_put (t := ti) (sort := sort) (len := len) (it := it) (f := f) (k := i) (v := z) (hi) (htl)) dX9_item_42 rfl rfl 3 rfl [3, 0] [1, 2] (by decide) rfl rfl (by decide) (by decide) (by decide) (Nat.le_of_ble_eq_true rfl) (by decide) (by decide) (fun r_11 w_12 h_10 => ?_)
      obtain ⟨rfl, rfl⟩ := h_10
      refine v_eq (st' := []) (ws' := [(o, .inr (9, [.ref ca, .ref im, .int tk, .ref txo, .ref ba, .ref va, .int (nI vc), .ref nwk, .ref nt, .ref ro, .ref lo, .ref bd, .ref ta])), (ta, eT D 6 tt), (ti, .inr (5, [.int sort, .int (nI len), .ref it])), (it, eJ D 60 (vp_updL f i (cutF sort z)))]) rfl rfl rfl rfl ?_
      refine v_iconst (v := 1) O dX9_item_45 (by decide) ?_
      exact v_ireturn O T rfl rfl (by decide) (by decide) dX9_item_46 (⟨rfl, rfl⟩)
    · skip
      have z2 := b2i_0.mp z2
      exact absurd ((isIxL_lN (by omega) (by omega)).mpr hi) z2
  · skip
    have z1 := b2i_0.mp z1
    exact absurd hs z1
set_option maxRecDepth 100000 in
set_option maxHeartbeats 4000000 in
theorem sp_X9_read_1 {D : G} {o : Nat} {ca : Nat} {im : Nat} {tk : Int32} {txo : Nat} {ba : Nat} {va : Nat} {vc : Nat} {nwk : Nat} {nt : Nat} {ro : Nat} {lo : Nat} {bd : Nat} {ta : Nat} {tt : Nat → Option Nat} {t : Int32} {i : Int32} (hk : ¬ isIx t 6) : Sp D mX9_read 30 0 0 [.ref o, .int t, .int i] [(o, .inr (9, [.ref ca, .ref im, .int tk, .ref txo, .ref ba, .ref va, .int (nI vc), .ref nwk, .ref nt, .ref ro, .ref lo, .ref bd, .ref ta])), (ta, eT D 6 tt)] (fun r w => r = some (.long (-9223372036854775808 : Int64)) ∧ w = [(o, .inr (9, [.ref ca, .ref im, .int tk, .ref txo, .ref ba, .ref va, .int (nI vc), .ref nwk, .ref nt, .ref ro, .ref lo, .ref bd, .ref ta])), (ta, eT D 6 tt)]) := by
  refine Sp.of (by decide) (Nat.le_of_ble_eq_true rfl) (fun X O T => ?_)
  refine v_eq (lv' := [(0, .ref o), (1, .int t), (2, .int i)]) rfl rfl rfl rfl ?_
  refine v_aload_n O dX9_read_0 0 rfl ?_
  refine v_iload_n O dX9_read_1 1 rfl ?_
  refine v_cV (T := TX9) (ci := 9) (As := [.int t]) (wr := []) (st := []) O cf_X9_243 rfl (sp_X9_tapeAt_o (o := o) (ca := ca) (im := im) (tk := tk) (txo := txo) (ba := ba) (va := va) (vc := vc) (nwk := nwk) (nt := nt) (ro := ro) (lo := lo) (bd := bd) (ta := ta) (tt := tt) (k := t) (hk)) dX9_read_2 rfl rfl 0 rfl [0, 1] [] (by decide) rfl rfl (by decide) (by decide) (by decide) (Nat.le_of_ble_eq_true rfl) (by decide) (by decide) (fun r_2 w_3 h_1 => ?_)
  obtain ⟨rfl, rfl⟩ := h_1
  refine v_eq (st' := [.null]) (ws' := [(o, .inr (9, [.ref ca, .ref im, .int tk, .ref txo, .ref ba, .ref va, .int (nI vc), .ref nwk, .ref nt, .ref ro, .ref lo, .ref bd, .ref ta])), (ta, eT D 6 tt)]) rfl rfl rfl rfl ?_
  refine v_astore_nN (lv' := [(0, .ref o), (1, .int t), (2, .int i), (3, .null)]) O dX9_read_5 (by decide) rfl ?_
  refine v_aload_nN O dX9_read_6 3 rfl ?_
  refine v_ifnullN O 19 dX9_read_7 (by decide) ?_
  refine v_ldc2 (v := -9223372036854775808) O tw_769 dX9_read_19 ?_
  exact v_lreturn O T rfl (by decide) (by decide) dX9_read_22 (⟨rfl, rfl⟩)
set_option maxRecDepth 100000 in
set_option maxHeartbeats 4000000 in
theorem sp_X9_read_2 {D : G} {o : Nat} {ca : Nat} {im : Nat} {tk : Int32} {txo : Nat} {ba : Nat} {va : Nat} {vc : Nat} {nwk : Nat} {nt : Nat} {ro : Nat} {lo : Nat} {bd : Nat} {ta : Nat} {tt : Nat → Option Nat} {ti : Nat} {sort : Int32} {len : Nat} {it : Nat} {f : Nat → Int64} {t : Nat} {i : Int32} (hk : t < 6) (ht : tt t = some ti) (htl : len ≤ 60) (hts : sort = -1 → len = 0) (hso : sort = -1 ∨ isIx sort 5) (hi : ¬ isIx i len) : Sp D mX9_read 30 0 0 [.ref o, .int (nI t), .int i] [(o, .inr (9, [.ref ca, .ref im, .int tk, .ref txo, .ref ba, .ref va, .int (nI vc), .ref nwk, .ref nt, .ref ro, .ref lo, .ref bd, .ref ta])), (ta, eT D 6 tt), (ti, .inr (5, [.int sort, .int (nI len), .ref it])), (it, eJ D 60 f)] (fun r w => r = some (.long (-9223372036854775808 : Int64)) ∧ w = [(o, .inr (9, [.ref ca, .ref im, .int tk, .ref txo, .ref ba, .ref va, .int (nI vc), .ref nwk, .ref nt, .ref ro, .ref lo, .ref bd, .ref ta])), (ta, eT D 6 tt), (ti, .inr (5, [.int sort, .int (nI len), .ref it])), (it, eJ D 60 f)]) := by
  refine Sp.of (by decide) (Nat.le_of_ble_eq_true rfl) (fun X O T => ?_)
  refine v_eq (lv' := [(0, .ref o), (1, .int (nI t)), (2, .int i)]) rfl rfl rfl rfl ?_
  refine v_aload_n O dX9_read_0 0 rfl ?_
  refine v_iload_n O dX9_read_1 1 rfl ?_
  refine v_cV (T := TX9) (ci := 9) (As := [.int (nI t)]) (wr := [(ti, .inr (5, [.int sort, .int (nI len), .ref it])), (it, eJ D 60 f)]) (st := []) O cf_X9_243 rfl (sp_X9_tapeAt_i (o := o) (ca := ca) (im := im) (tk := tk) (txo := txo) (ba := ba) (va := va) (vc := vc) (nwk := nwk) (nt := nt) (ro := ro) (lo := lo) (bd := bd) (ta := ta) (tt := tt) (k := t) (ti := ti) (hk) (ht)) dX9_read_2 rfl rfl 0 rfl [0, 1] [2, 3] (by decide) rfl rfl (by decide) (by decide) (by decide) (Nat.le_of_ble_eq_true rfl) (by decide) (by decide) (fun r_2 w_3 h_1 => ?_)
  obtain ⟨rfl, rfl⟩ := h_1
  refine v_eq (st' := [.ref ti]) (ws' := [(ti, .inr (5, [.int sort, .int (nI len), .ref it])), (it, eJ D 60 f), (o, .inr (9, [.ref ca, .ref im, .int tk, .ref txo, .ref ba, .ref va, .int (nI vc), .ref nwk, .ref nt, .ref ro, .ref lo, .ref bd, .ref ta])), (ta, eT D 6 tt)]) rfl rfl rfl rfl ?_
  refine v_astore_n (lv' := [(0, .ref o), (1, .int (nI t)), (2, .int i), (3, .ref ti)]) O dX9_read_5 (by decide) rfl ?_
  refine v_aload_n O dX9_read_6 3 rfl ?_
  refine v_ifnull O dX9_read_7 ?_
  refine v_aload_n O dX9_read_10 3 rfl ?_
  refine v_iload_n O dX9_read_11 2 rfl ?_
  refine v_i2l O dX9_read_12 ?_
  refine v_cV (T := TX5) (ci := 5) (As := [.long (Int32.toInt64 i)]) (wr := [(it, eJ D 60 f), (o, .inr (9, [.ref ca, .ref im, .int tk, .ref txo, .ref ba, .ref va, .int (nI vc), .ref nwk, .ref nt, .ref ro, .ref lo, .ref bd, .ref ta])), (ta, eT D 6 tt)]) (st := []) O cf_X9_254 rfl (sp_X5_has (t := ti) (sort := sort) (len := len) (it := it) (p := (Int32.toInt64 i)) (htl)) dX9_read_13 rfl rfl 0 rfl [0] [1, 2, 3] (by decide) rfl rfl (by decide) (by decide) (by decide) (Nat.le_of_ble_eq_true rfl) (by decide) (by decide) (fun r_5 w_6 h_4 => ?_)
  obtain ⟨rfl, rfl⟩ := h_4
  refine v_eq (st' := [.int (b2i (isIxL (Int32.toInt64 i) len))]) (ws' := [(it, eJ D 60 f), (o, .inr (9, [.ref ca, .ref im, .int tk, .ref txo, .ref ba, .ref va, .int (nI vc), .ref nwk, .ref nt, .ref ro, .ref lo, .ref bd, .ref ta])), (ta, eT D 6 tt), (ti, .inr (5, [.int sort, .int (nI len), .ref it]))]) rfl rfl rfl rfl ?_
  refine v_if_ne O 23 dX9_read_16 (by decide) (fun z2 => ?_) (fun z2 => ?_)
  · skip
    have z2 := b2i_1.mp z2
    exact absurd (isIxL_i (by omega) z2) hi
  · skip
    have z2 := b2i_0.mp z2
    refine v_ldc2 (v := -9223372036854775808) O tw_769 dX9_read_19 ?_
    refine v_sub (ws' := [(o, .inr (9, [.ref ca, .ref im, .int tk, .ref txo, .ref ba, .ref va, .int (nI vc), .ref nwk, .ref nt, .ref ro, .ref lo, .ref bd, .ref ta])), (ta, eT D 6 tt), (ti, .inr (5, [.int sort, .int (nI len), .ref it])), (it, eJ D 60 f)]) [1, 2, 3, 0] (by decide) rfl ?_
    exact v_lreturn O T rfl (by decide) (by decide) dX9_read_22 (⟨rfl, rfl⟩)
set_option maxRecDepth 100000 in
set_option maxHeartbeats 4000000 in
theorem sp_X9_read_3 {D : G} {o : Nat} {ca : Nat} {im : Nat} {tk : Int32} {txo : Nat} {ba : Nat} {va : Nat} {vc : Nat} {nwk : Nat} {nt : Nat} {ro : Nat} {lo : Nat} {bd : Nat} {ta : Nat} {tt : Nat → Option Nat} {ti : Nat} {sort : Int32} {len : Nat} {it : Nat} {f : Nat → Int64} {t : Nat} {i : Nat} (hk : t < 6) (ht : tt t = some ti) (htl : len ≤ 60) (hts : sort = -1 → len = 0) (hso : sort = -1 ∨ isIx sort 5) (hi : i < len) : Sp D mX9_read 30 0 0 [.ref o, .int (nI t), .int (nI i)] [(o, .inr (9, [.ref ca, .ref im, .int tk, .ref txo, .ref ba, .ref va, .int (nI vc), .ref nwk, .ref nt, .ref ro, .ref lo, .ref bd, .ref ta])), (ta, eT D 6 tt), (ti, .inr (5, [.int sort, .int (nI len), .ref it])), (it, eJ D 60 f)] (fun r w => r = some (.long (f i)) ∧ w = [(o, .inr (9, [.ref ca, .ref im, .int tk, .ref txo, .ref ba, .ref va, .int (nI vc), .ref nwk, .ref nt, .ref ro, .ref lo, .ref bd, .ref ta])), (ta, eT D 6 tt), (ti, .inr (5, [.int sort, .int (nI len), .ref it])), (it, eJ D 60 f)]) := by
  refine Sp.of (by decide) (Nat.le_of_ble_eq_true rfl) (fun X O T => ?_)
  refine v_eq (lv' := [(0, .ref o), (1, .int (nI t)), (2, .int (nI i))]) rfl rfl rfl rfl ?_
  refine v_aload_n O dX9_read_0 0 rfl ?_
  refine v_iload_n O dX9_read_1 1 rfl ?_
  refine v_cV (T := TX9) (ci := 9) (As := [.int (nI t)]) (wr := [(ti, .inr (5, [.int sort, .int (nI len), .ref it])), (it, eJ D 60 f)]) (st := []) O cf_X9_243 rfl (sp_X9_tapeAt_i (o := o) (ca := ca) (im := im) (tk := tk) (txo := txo) (ba := ba) (va := va) (vc := vc) (nwk := nwk) (nt := nt) (ro := ro) (lo := lo) (bd := bd) (ta := ta) (tt := tt) (k := t) (ti := ti) (hk) (ht)) dX9_read_2 rfl rfl 0 rfl [0, 1] [2, 3] (by decide) rfl rfl (by decide) (by decide) (by decide) (Nat.le_of_ble_eq_true rfl) (by decide) (by decide) (fun r_2 w_3 h_1 => ?_)
  obtain ⟨rfl, rfl⟩ := h_1
  refine v_eq (st' := [.ref ti]) (ws' := [(ti, .inr (5, [.int sort, .int (nI len), .ref it])), (it, eJ D 60 f), (o, .inr (9, [.ref ca, .ref im, .int tk, .ref txo, .ref ba, .ref va, .int (nI vc), .ref nwk, .ref nt, .ref ro, .ref lo, .ref bd, .ref ta])), (ta, eT D 6 tt)]) rfl rfl rfl rfl ?_
  refine v_astore_n (lv' := [(0, .ref o), (1, .int (nI t)), (2, .int (nI i)), (3, .ref ti)]) O dX9_read_5 (by decide) rfl ?_
  refine v_aload_n O dX9_read_6 3 rfl ?_
  refine v_ifnull O dX9_read_7 ?_
  refine v_aload_n O dX9_read_10 3 rfl ?_
  refine v_iload_n O dX9_read_11 2 rfl ?_
  refine v_i2l O dX9_read_12 ?_
  refine v_topx (y := lN i) (nI_l (by omega)) ?_
  refine v_cV (T := TX5) (ci := 5) (As := [.long (lN i)]) (wr := [(it, eJ D 60 f), (o, .inr (9, [.ref ca, .ref im, .int tk, .ref txo, .ref ba, .ref va, .int (nI vc), .ref nwk, .ref nt, .ref ro, .ref lo, .ref bd, .ref ta])), (ta, eT D 6 tt)]) (st := []) O cf_X9_254 rfl (sp_X5_has (t := ti) (sort := sort) (len := len) (it := it) (p := (lN i)) (htl)) dX9_read_13 rfl rfl 0 rfl [0] [1, 2, 3] (by decide) rfl rfl (by decide) (by decide) (by decide) (Nat.le_of_ble_eq_true rfl) (by decide) (by decide) (fun r_5 w_6 h_4 => ?_)
  obtain ⟨rfl, rfl⟩ := h_4
  refine v_eq (st' := [.int (b2i (isIxL (lN i) len))]) (ws' := [(it, eJ D 60 f), (o, .inr (9, [.ref ca, .ref im, .int tk, .ref txo, .ref ba, .ref va, .int (nI vc), .ref nwk, .ref nt, .ref ro, .ref lo, .ref bd, .ref ta])), (ta, eT D 6 tt), (ti, .inr (5, [.int sort, .int (nI len), .ref it]))]) rfl rfl rfl rfl ?_
  refine v_if_ne O 23 dX9_read_16 (by decide) (fun z2 => ?_) (fun z2 => ?_)
  · skip
    have z2 := b2i_1.mp z2
    refine v_aload_n O dX9_read_23 3 rfl ?_
    refine v_iload_n O dX9_read_24 2 rfl ?_
    refine v_cV (T := TX5) (ci := 5) (As := [.int (nI i)]) (wr := [(o, .inr (9, [.ref ca, .ref im, .int tk, .ref txo, .ref ba, .ref va, .int (nI vc), .ref nwk, .ref nt, .ref ro, .ref lo, .ref bd, .ref ta])), (ta, eT D 6 tt)]) (st := []) O cf_X9_258 rfl (sp_X5_at (t := ti) (sort := sort) (len := len) (it := it) (f := f) (k := i) (hi) (htl)) dX9_read_25 rfl rfl 3 rfl [3, 0] [1, 2] (by decide) rfl rfl (by decide) (by decide) (by decide) (Nat.le_of_ble_eq_true rfl) (by decide) (by decide) (fun r_8 w_9 h_7 => ?_)
    obtain ⟨rfl, rfl⟩ := h_7
    refine v_eq (st' := [.long (f i)]) (ws' := [(o, .inr (9, [.ref ca, .ref im, .int tk, .ref txo, .ref ba, .ref va, .int (nI vc), .ref nwk, .ref nt, .ref ro, .ref lo, .ref bd, .ref ta])), (ta, eT D 6 tt), (ti, .inr (5, [.int sort, .int (nI len), .ref it])), (it, eJ D 60 f)]) rfl rfl rfl rfl ?_
    exact v_lreturn O T rfl (by decide) (by decide) dX9_read_28 (⟨rfl, rfl⟩)
  · skip
    have z2 := b2i_0.mp z2
    exact absurd ((isIxL_lN (by omega) (by omega)).mpr hi) z2
set_option maxRecDepth 100000 in
set_option maxHeartbeats 4000000 in
theorem sp_X9_shift_3 {D : G} {o : Nat} {ca : Nat} {im : Nat} {tk : Int32} {txo : Nat} {ba : Nat} {va : Nat} {vc : Nat} {nwk : Nat} {nt : Nat} {ro : Nat} {lo : Nat} {bd : Nat} {ta : Nat} {tt : Nat → Option Nat} {ti : Nat} {sort : Int32} {len : Nat} {it : Nat} {f : Nat → Int64} {t : Nat} {i : Int32} {j : Int32} {n : Int32} (hk : t < 6) (ht : tt t = some ti) (htl : len ≤ 60) (hts : sort = -1 → len = 0) (hso : sort = -1 ∨ isIx sort 5) (hs : sort = -1 ∨ sort = -1) : Sp D mX9_shift 30 0 0 [.ref o, .int (nI t), .int i, .int (nI t), .int j, .int n] [(o, .inr (9, [.ref ca, .ref im, .int tk, .ref txo, .ref ba, .ref va, .int (nI vc), .ref nwk, .ref nt, .ref ro, .ref lo, .ref bd, .ref ta])), (ta, eT D 6 tt), (ti, .inr (5, [.int sort, .int (nI len), .ref it])), (it, eJ D 60 f)] (fun r w => r = some (.int (-11)) ∧ w = [(o, .inr (9, [.ref ca, .ref im, .int tk, .ref txo, .ref ba, .ref va, .int (nI vc), .ref nwk, .ref nt, .ref ro, .ref lo, .ref bd, .ref ta])), (ta, eT D 6 tt), (ti, .inr (5, [.int sort, .int (nI len), .ref it])), (it, eJ D 60 f)]) := by
  refine Sp.of (by decide) (Nat.le_of_ble_eq_true rfl) (fun X O T => ?_)
  refine v_eq (lv' := [(0, .ref o), (1, .int (nI t)), (2, .int i), (3, .int (nI t)), (4, .int j), (5, .int n)]) rfl rfl rfl rfl ?_
  refine v_aload_n O dX9_shift_0 0 rfl ?_
  refine v_iload_n O dX9_shift_1 1 rfl ?_
  refine v_cV (T := TX9) (ci := 9) (As := [.int (nI t)]) (wr := [(ti, .inr (5, [.int sort, .int (nI len), .ref it])), (it, eJ D 60 f)]) (st := []) O cf_X9_243 rfl (sp_X9_tapeAt_i (o := o) (ca := ca) (im := im) (tk := tk) (txo := txo) (ba := ba) (va := va) (vc := vc) (nwk := nwk) (nt := nt) (ro := ro) (lo := lo) (bd := bd) (ta := ta) (tt := tt) (k := t) (ti := ti) (hk) (ht)) dX9_shift_2 rfl rfl 0 rfl [0, 1] [2, 3] (by decide) rfl rfl (by decide) (by decide) (by decide) (Nat.le_of_ble_eq_true rfl) (by decide) (by decide) (fun r_2 w_3 h_1 => ?_)
  obtain ⟨rfl, rfl⟩ := h_1
  refine v_eq (st' := [.ref ti]) (ws' := [(ti, .inr (5, [.int sort, .int (nI len), .ref it])), (it, eJ D 60 f), (o, .inr (9, [.ref ca, .ref im, .int tk, .ref txo, .ref ba, .ref va, .int (nI vc), .ref nwk, .ref nt, .ref ro, .ref lo, .ref bd, .ref ta])), (ta, eT D 6 tt)]) rfl rfl rfl rfl ?_
  refine v_astore (lv' := [(0, .ref o), (1, .int (nI t)), (2, .int i), (3, .int (nI t)), (4, .int j), (5, .int n), (6, .ref ti)]) O dX9_shift_5 (by decide) rfl ?_
  refine v_aload_n O dX9_shift_7 0 rfl ?_
  refine v_iload_n O dX9_shift_8 3 rfl ?_
  refine v_cV (T := TX9) (ci := 9) (As := [.int (nI t)]) (wr := [(ti, .inr (5, [.int sort, .int (nI len), .ref it])), (it, eJ D 60 f)]) (st := []) O cf_X9_243 rfl (sp_X9_tapeAt_i (o := o) (ca := ca) (im := im) (tk := tk) (txo := txo) (ba := ba) (va := va) (vc := vc) (nwk := nwk) (nt := nt) (ro := ro) (lo := lo) (bd := bd) (ta := ta) (tt := tt) (k := t) (ti := ti) (hk) (ht)) dX9_shift_9 rfl rfl 2 rfl [2, 3] [0, 1] (by decide) rfl rfl (by decide) (by decide) (by decide) (Nat.le_of_ble_eq_true rfl) (by decide) (by decide) (fun r_5 w_6 h_4 => ?_)
  obtain ⟨rfl, rfl⟩ := h_4
  refine v_eq (st' := [.ref ti]) (ws' := [(ti, .inr (5, [.int sort, .int (nI len), .ref it])), (it, eJ D 60 f), (o, .inr (9, [.ref ca, .ref im, .int tk, .ref txo, .ref ba, .ref va, .int (nI vc), .ref nwk, .ref nt, .ref ro, .ref lo, .ref bd, .ref ta])), (ta, eT D 6 tt)]) rfl rfl rfl rfl ?_
  refine v_astore (lv' := [(0, .ref o), (1, .int (nI t)), (2, .int i), (3, .int (nI t)), (4, .int j), (5, .int n), (6, .ref ti), (7, .ref ti)]) O dX9_shift_12 (by decide) rfl ?_
  refine v_aload O dX9_shift_14 6 rfl ?_
  refine v_ifnull O dX9_shift_16 ?_
  refine v_aload O dX9_shift_19 7 rfl ?_
  refine v_ifnonnull O 26 dX9_shift_21 (by decide) ?_
  refine v_aload O dX9_shift_26 6 rfl ?_
  refine v_cV (T := TX5) (ci := 5) (As := []) (wr := [(it, eJ D 60 f), (o, .inr (9, [.ref ca, .ref im, .int tk, .ref txo, .ref ba, .ref va, .int (nI vc), .ref nwk, .ref nt, .ref ro, .ref lo, .ref bd, .ref ta])), (ta, eT D 6 tt)]) (st := []) O cf_X9_247 rfl (sp_X5_holdsSomething (t := ti) (sort := sort) (len := len) (it := it) ) dX9_shift_28 rfl rfl 0 rfl [0] [1, 2, 3] (by decide) rfl rfl (by decide) (by decide) (by decide) (Nat.le_of_ble_eq_true rfl) (by decide) (by decide) (fun r_8 w_9 h_7 => ?_)
  obtain ⟨rfl, rfl⟩ := h_7
  refine v_eq (st' := [.int (b2i (¬ sort = -1))]) (ws' := [(it, eJ D 60 f), (o, .inr (9, [.ref ca, .ref im, .int tk, .ref txo, .ref ba, .ref va, .int (nI vc), .ref nwk, .ref nt, .ref ro, .ref lo, .ref bd, .ref ta])), (ta, eT D 6 tt), (ti, .inr (5, [.int sort, .int (nI len), .ref it]))]) rfl rfl rfl rfl ?_
  refine v_if_eq O 42 dX9_shift_31 (by decide) (fun z1 => ?_) (fun z1 => ?_)
  · skip
    have z1 := b2i_0.mp z1
    refine v_bipush (v := -11) O dX9_shift_42 (by decide) ?_
    refine v_sub (ws' := [(o, .inr (9, [.ref ca, .ref im, .int tk, .ref txo, .ref ba, .ref va, .int (nI vc), .ref nwk, .ref nt, .ref ro, .ref lo, .ref bd, .ref ta])), (ta, eT D 6 tt), (ti, .inr (5, [.int sort, .int (nI len), .ref it])), (it, eJ D 60 f)]) [1, 2, 3, 0] (by decide) rfl ?_
    exact v_ireturn O T rfl rfl (by decide) (by decide) dX9_shift_44 (⟨rfl, rfl⟩)
  · skip
    have z1 := b2i_1.mp z1
    refine v_aload O dX9_shift_34 7 rfl ?_
    refine v_cV (T := TX5) (ci := 5) (As := []) (wr := [(it, eJ D 60 f), (o, .inr (9, [.ref ca, .ref im, .int tk, .ref txo, .ref ba, .ref va, .int (nI vc), .ref nwk, .ref nt, .ref ro, .ref lo, .ref bd, .ref ta])), (ta, eT D 6 tt)]) (st := []) O cf_X9_247 rfl (sp_X5_holdsSomething (t := ti) (sort := sort) (len := len) (it := it) ) dX9_shift_36 rfl rfl 3 rfl [3] [0, 1, 2] (by decide) rfl rfl (by decide) (by decide) (by decide) (Nat.le_of_ble_eq_true rfl) (by decide) (by decide) (fun r_11 w_12 h_10 => ?_)
    obtain ⟨rfl, rfl⟩ := h_10
    refine v_eq (st' := [.int (b2i (¬ sort = -1))]) (ws' := [(it, eJ D 60 f), (o, .inr (9, [.ref ca, .ref im, .int tk, .ref txo, .ref ba, .ref va, .int (nI vc), .ref nwk, .ref nt, .ref ro, .ref lo, .ref bd, .ref ta])), (ta, eT D 6 tt), (ti, .inr (5, [.int sort, .int (nI len), .ref it]))]) rfl rfl rfl rfl ?_
    refine v_if_ne O 45 dX9_shift_39 (by decide) (fun z2 => ?_) (fun z2 => ?_)
    · skip
      have z2 := b2i_1.mp z2
      exact (hs.elim z1 z2).elim
    · skip
      have z2 := b2i_0.mp z2
      refine v_bipush (v := -11) O dX9_shift_42 (by decide) ?_
      refine v_sub (ws' := [(o, .inr (9, [.ref ca, .ref im, .int tk, .ref txo, .ref ba, .ref va, .int (nI vc), .ref nwk, .ref nt, .ref ro, .ref lo, .ref bd, .ref ta])), (ta, eT D 6 tt), (ti, .inr (5, [.int sort, .int (nI len), .ref it])), (it, eJ D 60 f)]) [1, 2, 3, 0] (by decide) rfl ?_
      exact v_ireturn O T rfl rfl (by decide) (by decide) dX9_shift_44 (⟨rfl, rfl⟩)
set_option maxRecDepth 100000 in
set_option maxHeartbeats 4000000 in
theorem sp_X9_shift_5 {D : G} {o : Nat} {ca : Nat} {im : Nat} {tk : Int32} {txo : Nat} {ba : Nat} {va : Nat} {vc : Nat} {nwk : Nat} {nt : Nat} {ro : Nat} {lo : Nat} {bd : Nat} {ta : Nat} {tt : Nat → Option Nat} {ti : Nat} {sort : Int32} {len : Nat} {it : Nat} {f : Nat → Int64} {t : Nat} {i : Int32} {j : Int32} {n : Int32} (hk : t < 6) (ht : tt t = some ti) (htl : len ≤ 60) (hts : sort = -1 → len = 0) (hso : sort = -1 ∨ isIx sort 5) (hs : ¬ sort = -1) (hn : ¬ isSt i n len) : Sp D mX9_shift 30 0 0 [.ref o, .int (nI t), .int i, .int (nI t), .int j, .int n] [(o, .inr (9, [.ref ca, .ref im, .int tk, .ref txo, .ref ba, .ref va, .int (nI vc), .ref nwk, .ref nt, .ref ro, .ref lo, .ref bd, .ref ta])), (ta, eT D 6 tt), (ti, .inr (5, [.int sort, .int (nI len), .ref it])), (it, eJ D 60 f)] (fun r w => r = some (.int (-13)) ∧ w = [(o, .inr (9, [.ref ca, .ref im, .int tk, .ref txo, .ref ba, .ref va, .int (nI vc), .ref nwk, .ref nt, .ref ro, .ref lo, .ref bd, .ref ta])), (ta, eT D 6 tt), (ti, .inr (5, [.int sort, .int (nI len), .ref it])), (it, eJ D 60 f)]) := by
  refine Sp.of (by decide) (Nat.le_of_ble_eq_true rfl) (fun X O T => ?_)
  refine v_eq (lv' := [(0, .ref o), (1, .int (nI t)), (2, .int i), (3, .int (nI t)), (4, .int j), (5, .int n)]) rfl rfl rfl rfl ?_
  refine v_aload_n O dX9_shift_0 0 rfl ?_
  refine v_iload_n O dX9_shift_1 1 rfl ?_
  refine v_cV (T := TX9) (ci := 9) (As := [.int (nI t)]) (wr := [(ti, .inr (5, [.int sort, .int (nI len), .ref it])), (it, eJ D 60 f)]) (st := []) O cf_X9_243 rfl (sp_X9_tapeAt_i (o := o) (ca := ca) (im := im) (tk := tk) (txo := txo) (ba := ba) (va := va) (vc := vc) (nwk := nwk) (nt := nt) (ro := ro) (lo := lo) (bd := bd) (ta := ta) (tt := tt) (k := t) (ti := ti) (hk) (ht)) dX9_shift_2 rfl rfl 0 rfl [0, 1] [2, 3] (by decide) rfl rfl (by decide) (by decide) (by decide) (Nat.le_of_ble_eq_true rfl) (by decide) (by decide) (fun r_2 w_3 h_1 => ?_)
  obtain ⟨rfl, rfl⟩ := h_1
  refine v_eq (st' := [.ref ti]) (ws' := [(ti, .inr (5, [.int sort, .int (nI len), .ref it])), (it, eJ D 60 f), (o, .inr (9, [.ref ca, .ref im, .int tk, .ref txo, .ref ba, .ref va, .int (nI vc), .ref nwk, .ref nt, .ref ro, .ref lo, .ref bd, .ref ta])), (ta, eT D 6 tt)]) rfl rfl rfl rfl ?_
  refine v_astore (lv' := [(0, .ref o), (1, .int (nI t)), (2, .int i), (3, .int (nI t)), (4, .int j), (5, .int n), (6, .ref ti)]) O dX9_shift_5 (by decide) rfl ?_
  refine v_aload_n O dX9_shift_7 0 rfl ?_
  refine v_iload_n O dX9_shift_8 3 rfl ?_
  refine v_cV (T := TX9) (ci := 9) (As := [.int (nI t)]) (wr := [(ti, .inr (5, [.int sort, .int (nI len), .ref it])), (it, eJ D 60 f)]) (st := []) O cf_X9_243 rfl (sp_X9_tapeAt_i (o := o) (ca := ca) (im := im) (tk := tk) (txo := txo) (ba := ba) (va := va) (vc := vc) (nwk := nwk) (nt := nt) (ro := ro) (lo := lo) (bd := bd) (ta := ta) (tt := tt) (k := t) (ti := ti) (hk) (ht)) dX9_shift_9 rfl rfl 2 rfl [2, 3] [0, 1] (by decide) rfl rfl (by decide) (by decide) (by decide) (Nat.le_of_ble_eq_true rfl) (by decide) (by decide) (fun r_5 w_6 h_4 => ?_)
  obtain ⟨rfl, rfl⟩ := h_4
  refine v_eq (st' := [.ref ti]) (ws' := [(ti, .inr (5, [.int sort, .int (nI len), .ref it])), (it, eJ D 60 f), (o, .inr (9, [.ref ca, .ref im, .int tk, .ref txo, .ref ba, .ref va, .int (nI vc), .ref nwk, .ref nt, .ref ro, .ref lo, .ref bd, .ref ta])), (ta, eT D 6 tt)]) rfl rfl rfl rfl ?_
  refine v_astore (lv' := [(0, .ref o), (1, .int (nI t)), (2, .int i), (3, .int (nI t)), (4, .int j), (5, .int n), (6, .ref ti), (7, .ref ti)]) O dX9_shift_12 (by decide) rfl ?_
  refine v_aload O dX9_shift_14 6 rfl ?_
  refine v_ifnull O dX9_shift_16 ?_
  refine v_aload O dX9_shift_19 7 rfl ?_
  refine v_ifnonnull O 26 dX9_shift_21 (by decide) ?_
  refine v_aload O dX9_shift_26 6 rfl ?_
  refine v_cV (T := TX5) (ci := 5) (As := []) (wr := [(it, eJ D 60 f), (o, .inr (9, [.ref ca, .ref im, .int tk, .ref txo, .ref ba, .ref va, .int (nI vc), .ref nwk, .ref nt, .ref ro, .ref lo, .ref bd, .ref ta])), (ta, eT D 6 tt)]) (st := []) O cf_X9_247 rfl (sp_X5_holdsSomething (t := ti) (sort := sort) (len := len) (it := it) ) dX9_shift_28 rfl rfl 0 rfl [0] [1, 2, 3] (by decide) rfl rfl (by decide) (by decide) (by decide) (Nat.le_of_ble_eq_true rfl) (by decide) (by decide) (fun r_8 w_9 h_7 => ?_)
  obtain ⟨rfl, rfl⟩ := h_7
  refine v_eq (st' := [.int (b2i (¬ sort = -1))]) (ws' := [(it, eJ D 60 f), (o, .inr (9, [.ref ca, .ref im, .int tk, .ref txo, .ref ba, .ref va, .int (nI vc), .ref nwk, .ref nt, .ref ro, .ref lo, .ref bd, .ref ta])), (ta, eT D 6 tt), (ti, .inr (5, [.int sort, .int (nI len), .ref it]))]) rfl rfl rfl rfl ?_
  refine v_if_eq O 42 dX9_shift_31 (by decide) (fun z1 => ?_) (fun z1 => ?_)
  · skip
    have z1 := b2i_0.mp z1
    exact absurd hs z1
  · skip
    have z1 := b2i_1.mp z1
    refine v_aload O dX9_shift_34 7 rfl ?_
    refine v_cV (T := TX5) (ci := 5) (As := []) (wr := [(it, eJ D 60 f), (o, .inr (9, [.ref ca, .ref im, .int tk, .ref txo, .ref ba, .ref va, .int (nI vc), .ref nwk, .ref nt, .ref ro, .ref lo, .ref bd, .ref ta])), (ta, eT D 6 tt)]) (st := []) O cf_X9_247 rfl (sp_X5_holdsSomething (t := ti) (sort := sort) (len := len) (it := it) ) dX9_shift_36 rfl rfl 3 rfl [3] [0, 1, 2] (by decide) rfl rfl (by decide) (by decide) (by decide) (Nat.le_of_ble_eq_true rfl) (by decide) (by decide) (fun r_11 w_12 h_10 => ?_)
    obtain ⟨rfl, rfl⟩ := h_10
    refine v_eq (st' := [.int (b2i (¬ sort = -1))]) (ws' := [(it, eJ D 60 f), (o, .inr (9, [.ref ca, .ref im, .int tk, .ref txo, .ref ba, .ref va, .int (nI vc), .ref nwk, .ref nt, .ref ro, .ref lo, .ref bd, .ref ta])), (ta, eT D 6 tt), (ti, .inr (5, [.int sort, .int (nI len), .ref it]))]) rfl rfl rfl rfl ?_
    refine v_if_ne O 45 dX9_shift_39 (by decide) (fun z2 => ?_) (fun z2 => ?_)
    · skip
      have z2 := b2i_1.mp z2
      refine v_aload O dX9_shift_45 6 rfl ?_
      refine gf_X9_251 O rfl dX9_shift_47 3 rfl rfl ?_
      refine v_aload O dX9_shift_50 7 rfl ?_
      refine gf_X9_251 O rfl dX9_shift_52 3 rfl rfl ?_
      refine v_icmp_eq O 61 dX9_shift_55 (by decide) (fun z3 => ?_) (fun z3 => ?_)
      · skip
        refine v_aload O dX9_shift_61 6 rfl ?_
        refine v_iload_n O dX9_shift_63 2 rfl ?_
        refine v_iload O dX9_shift_64 5 rfl ?_
        refine v_cV (T := TX5) (ci := 5) (As := [.int i, .int n]) (wr := [(it, eJ D 60 f), (o, .inr (9, [.ref ca, .ref im, .int tk, .ref txo, .ref ba, .ref va, .int (nI vc), .ref nwk, .ref nt, .ref ro, .ref lo, .ref bd, .ref ta])), (ta, eT D 6 tt)]) (st := []) O cf_X9_291 rfl (sp_X5_hasStretch (t := ti) (sort := sort) (len := len) (it := it) (a := i) (b := n) (htl)) dX9_shift_66 rfl rfl 3 rfl [3] [0, 1, 2] (by decide) rfl rfl (by decide) (by decide) (by decide) (Nat.le_of_ble_eq_true rfl) (by decide) (by decide) (fun r_14 w_15 h_13 => ?_)
        obtain ⟨rfl, rfl⟩ := h_13
        refine v_eq (st' := [.int (b2i (isSt i n len))]) (ws' := [(it, eJ D 60 f), (o, .inr (9, [.ref ca, .ref im, .int tk, .ref txo, .ref ba, .ref va, .int (nI vc), .ref nwk, .ref nt, .ref ro, .ref lo, .ref bd, .ref ta])), (ta, eT D 6 tt), (ti, .inr (5, [.int sort, .int (nI len), .ref it]))]) rfl rfl rfl rfl ?_
        refine v_if_eq O 84 dX9_shift_69 (by decide) (fun z4 => ?_) (fun z4 => ?_)
        · skip
          have z4 := b2i_0.mp z4
          refine v_bipush (v := -13) O dX9_shift_84 (by decide) ?_
          refine v_sub (ws' := [(o, .inr (9, [.ref ca, .ref im, .int tk, .ref txo, .ref ba, .ref va, .int (nI vc), .ref nwk, .ref nt, .ref ro, .ref lo, .ref bd, .ref ta])), (ta, eT D 6 tt), (ti, .inr (5, [.int sort, .int (nI len), .ref it])), (it, eJ D 60 f)]) [1, 2, 3, 0] (by decide) rfl ?_
          exact v_ireturn O T rfl rfl (by decide) (by decide) dX9_shift_86 (⟨rfl, rfl⟩)
        · skip
          have z4 := b2i_1.mp z4
          exact absurd z4 hn
      · skip
        exact absurd rfl z3
    · skip
      have z2 := b2i_0.mp z2
      exact absurd hs z2
set_option maxRecDepth 100000 in
set_option maxHeartbeats 4000000 in
theorem sp_X9_shift_6 {D : G} {o : Nat} {ca : Nat} {im : Nat} {tk : Int32} {txo : Nat} {ba : Nat} {va : Nat} {vc : Nat} {nwk : Nat} {nt : Nat} {ro : Nat} {lo : Nat} {bd : Nat} {ta : Nat} {tt : Nat → Option Nat} {ti : Nat} {sort : Int32} {len : Nat} {it : Nat} {f : Nat → Int64} {t : Nat} {i : Int32} {j : Int32} {n : Int32} (hk : t < 6) (ht : tt t = some ti) (htl : len ≤ 60) (hts : sort = -1 → len = 0) (hso : sort = -1 ∨ isIx sort 5) (hs : ¬ sort = -1) (hn : isSt i n len) (hm : ¬ isSt j n len) : Sp D mX9_shift 30 0 0 [.ref o, .int (nI t), .int i, .int (nI t), .int j, .int n] [(o, .inr (9, [.ref ca, .ref im, .int tk, .ref txo, .ref ba, .ref va, .int (nI vc), .ref nwk, .ref nt, .ref ro, .ref lo, .ref bd, .ref ta])), (ta, eT D 6 tt), (ti, .inr (5, [.int sort, .int (nI len), .ref it])), (it, eJ D 60 f)] (fun r w => r = some (.int (-13)) ∧ w = [(o, .inr (9, [.ref ca, .ref im, .int tk, .ref txo, .ref ba, .ref va, .int (nI vc), .ref nwk, .ref nt, .ref ro, .ref lo, .ref bd, .ref ta])), (ta, eT D 6 tt), (ti, .inr (5, [.int sort, .int (nI len), .ref it])), (it, eJ D 60 f)]) := by
  refine Sp.of (by decide) (Nat.le_of_ble_eq_true rfl) (fun X O T => ?_)
  refine v_eq (lv' := [(0, .ref o), (1, .int (nI t)), (2, .int i), (3, .int (nI t)), (4, .int j), (5, .int n)]) rfl rfl rfl rfl ?_
  refine v_aload_n O dX9_shift_0 0 rfl ?_
  refine v_iload_n O dX9_shift_1 1 rfl ?_
  refine v_cV (T := TX9) (ci := 9) (As := [.int (nI t)]) (wr := [(ti, .inr (5, [.int sort, .int (nI len), .ref it])), (it, eJ D 60 f)]) (st := []) O cf_X9_243 rfl (sp_X9_tapeAt_i (o := o) (ca := ca) (im := im) (tk := tk) (txo := txo) (ba := ba) (va := va) (vc := vc) (nwk := nwk) (nt := nt) (ro := ro) (lo := lo) (bd := bd) (ta := ta) (tt := tt) (k := t) (ti := ti) (hk) (ht)) dX9_shift_2 rfl rfl 0 rfl [0, 1] [2, 3] (by decide) rfl rfl (by decide) (by decide) (by decide) (Nat.le_of_ble_eq_true rfl) (by decide) (by decide) (fun r_2 w_3 h_1 => ?_)
  obtain ⟨rfl, rfl⟩ := h_1
  refine v_eq (st' := [.ref ti]) (ws' := [(ti, .inr (5, [.int sort, .int (nI len), .ref it])), (it, eJ D 60 f), (o, .inr (9, [.ref ca, .ref im, .int tk, .ref txo, .ref ba, .ref va, .int (nI vc), .ref nwk, .ref nt, .ref ro, .ref lo, .ref bd, .ref ta])), (ta, eT D 6 tt)]) rfl rfl rfl rfl ?_
  refine v_astore (lv' := [(0, .ref o), (1, .int (nI t)), (2, .int i), (3, .int (nI t)), (4, .int j), (5, .int n), (6, .ref ti)]) O dX9_shift_5 (by decide) rfl ?_
  refine v_aload_n O dX9_shift_7 0 rfl ?_
  refine v_iload_n O dX9_shift_8 3 rfl ?_
  refine v_cV (T := TX9) (ci := 9) (As := [.int (nI t)]) (wr := [(ti, .inr (5, [.int sort, .int (nI len), .ref it])), (it, eJ D 60 f)]) (st := []) O cf_X9_243 rfl (sp_X9_tapeAt_i (o := o) (ca := ca) (im := im) (tk := tk) (txo := txo) (ba := ba) (va := va) (vc := vc) (nwk := nwk) (nt := nt) (ro := ro) (lo := lo) (bd := bd) (ta := ta) (tt := tt) (k := t) (ti := ti) (hk) (ht)) dX9_shift_9 rfl rfl 2 rfl [2, 3] [0, 1] (by decide) rfl rfl (by decide) (by decide) (by decide) (Nat.le_of_ble_eq_true rfl) (by decide) (by decide) (fun r_5 w_6 h_4 => ?_)
  obtain ⟨rfl, rfl⟩ := h_4
  refine v_eq (st' := [.ref ti]) (ws' := [(ti, .inr (5, [.int sort, .int (nI len), .ref it])), (it, eJ D 60 f), (o, .inr (9, [.ref ca, .ref im, .int tk, .ref txo, .ref ba, .ref va, .int (nI vc), .ref nwk, .ref nt, .ref ro, .ref lo, .ref bd, .ref ta])), (ta, eT D 6 tt)]) rfl rfl rfl rfl ?_
  refine v_astore (lv' := [(0, .ref o), (1, .int (nI t)), (2, .int i), (3, .int (nI t)), (4, .int j), (5, .int n), (6, .ref ti), (7, .ref ti)]) O dX9_shift_12 (by decide) rfl ?_
  refine v_aload O dX9_shift_14 6 rfl ?_
  refine v_ifnull O dX9_shift_16 ?_
  refine v_aload O dX9_shift_19 7 rfl ?_
  refine v_ifnonnull O 26 dX9_shift_21 (by decide) ?_
  refine v_aload O dX9_shift_26 6 rfl ?_
  refine v_cV (T := TX5) (ci := 5) (As := []) (wr := [(it, eJ D 60 f), (o, .inr (9, [.ref ca, .ref im, .int tk, .ref txo, .ref ba, .ref va, .int (nI vc), .ref nwk, .ref nt, .ref ro, .ref lo, .ref bd, .ref ta])), (ta, eT D 6 tt)]) (st := []) O cf_X9_247 rfl (sp_X5_holdsSomething (t := ti) (sort := sort) (len := len) (it := it) ) dX9_shift_28 rfl rfl 0 rfl [0] [1, 2, 3] (by decide) rfl rfl (by decide) (by decide) (by decide) (Nat.le_of_ble_eq_true rfl) (by decide) (by decide) (fun r_8 w_9 h_7 => ?_)
  obtain ⟨rfl, rfl⟩ := h_7
  refine v_eq (st' := [.int (b2i (¬ sort = -1))]) (ws' := [(it, eJ D 60 f), (o, .inr (9, [.ref ca, .ref im, .int tk, .ref txo, .ref ba, .ref va, .int (nI vc), .ref nwk, .ref nt, .ref ro, .ref lo, .ref bd, .ref ta])), (ta, eT D 6 tt), (ti, .inr (5, [.int sort, .int (nI len), .ref it]))]) rfl rfl rfl rfl ?_
  refine v_if_eq O 42 dX9_shift_31 (by decide) (fun z1 => ?_) (fun z1 => ?_)
  · skip
    have z1 := b2i_0.mp z1
    exact absurd hs z1
  · skip
    have z1 := b2i_1.mp z1
    refine v_aload O dX9_shift_34 7 rfl ?_
    refine v_cV (T := TX5) (ci := 5) (As := []) (wr := [(it, eJ D 60 f), (o, .inr (9, [.ref ca, .ref im, .int tk, .ref txo, .ref ba, .ref va, .int (nI vc), .ref nwk, .ref nt, .ref ro, .ref lo, .ref bd, .ref ta])), (ta, eT D 6 tt)]) (st := []) O cf_X9_247 rfl (sp_X5_holdsSomething (t := ti) (sort := sort) (len := len) (it := it) ) dX9_shift_36 rfl rfl 3 rfl [3] [0, 1, 2] (by decide) rfl rfl (by decide) (by decide) (by decide) (Nat.le_of_ble_eq_true rfl) (by decide) (by decide) (fun r_11 w_12 h_10 => ?_)
    obtain ⟨rfl, rfl⟩ := h_10
    refine v_eq (st' := [.int (b2i (¬ sort = -1))]) (ws' := [(it, eJ D 60 f), (o, .inr (9, [.ref ca, .ref im, .int tk, .ref txo, .ref ba, .ref va, .int (nI vc), .ref nwk, .ref nt, .ref ro, .ref lo, .ref bd, .ref ta])), (ta, eT D 6 tt), (ti, .inr (5, [.int sort, .int (nI len), .ref it]))]) rfl rfl rfl rfl ?_
    refine v_if_ne O 45 dX9_shift_39 (by decide) (fun z2 => ?_) (fun z2 => ?_)
    · skip
      have z2 := b2i_1.mp z2
      refine v_aload O dX9_shift_45 6 rfl ?_
      refine gf_X9_251 O rfl dX9_shift_47 3 rfl rfl ?_
      refine v_aload O dX9_shift_50 7 rfl ?_
      refine gf_X9_251 O rfl dX9_shift_52 3 rfl rfl ?_
      refine v_icmp_eq O 61 dX9_shift_55 (by decide) (fun z3 => ?_) (fun z3 => ?_)
      · skip
        refine v_aload O dX9_shift_61 6 rfl ?_
        refine v_iload_n O dX9_shift_63 2 rfl ?_
        refine v_iload O dX9_shift_64 5 rfl ?_
        refine v_cV (T := TX5) (ci := 5) (As := [.int i, .int n]) (wr := [(it, eJ D 60 f), (o, .inr (9, [.ref ca, .ref im, .int tk, .ref txo, .ref ba, .ref va, .int (nI vc), .ref nwk, .ref nt, .ref ro, .ref lo, .ref bd, .ref ta])), (ta, eT D 6 tt)]) (st := []) O cf_X9_291 rfl (sp_X5_hasStretch (t := ti) (sort := sort) (len := len) (it := it) (a := i) (b := n) (htl)) dX9_shift_66 rfl rfl 3 rfl [3] [0, 1, 2] (by decide) rfl rfl (by decide) (by decide) (by decide) (Nat.le_of_ble_eq_true rfl) (by decide) (by decide) (fun r_14 w_15 h_13 => ?_)
        obtain ⟨rfl, rfl⟩ := h_13
        refine v_eq (st' := [.int (b2i (isSt i n len))]) (ws' := [(it, eJ D 60 f), (o, .inr (9, [.ref ca, .ref im, .int tk, .ref txo, .ref ba, .ref va, .int (nI vc), .ref nwk, .ref nt, .ref ro, .ref lo, .ref bd, .ref ta])), (ta, eT D 6 tt), (ti, .inr (5, [.int sort, .int (nI len), .ref it]))]) rfl rfl rfl rfl ?_
        refine v_if_eq O 84 dX9_shift_69 (by decide) (fun z4 => ?_) (fun z4 => ?_)
        · skip
          have z4 := b2i_0.mp z4
          exact absurd hn z4
        · skip
          have z4 := b2i_1.mp z4
          refine v_aload O dX9_shift_72 7 rfl ?_
          refine v_iload O dX9_shift_74 4 rfl ?_
          refine v_iload O dX9_shift_76 5 rfl ?_
          refine v_cV (T := TX5) (ci := 5) (As := [.int j, .int n]) (wr := [(it, eJ D 60 f), (o, .inr (9, [.ref ca, .ref im, .int tk, .ref txo, .ref ba, .ref va, .int (nI vc), .ref nwk, .ref nt, .ref ro, .ref lo, .ref bd, .ref ta])), (ta, eT D 6 tt)]) (st := []) O cf_X9_291 rfl (sp_X5_hasStretch (t := ti) (sort := sort) (len := len) (it := it) (a := j) (b := n) (htl)) dX9_shift_78 rfl rfl 3 rfl [3] [0, 1, 2] (by decide) rfl rfl (by decide) (by decide) (by decide) (Nat.le_of_ble_eq_true rfl) (by decide) (by decide) (fun r_17 w_18 h_16 => ?_)
          obtain ⟨rfl, rfl⟩ := h_16
          refine v_eq (st' := [.int (b2i (isSt j n len))]) (ws' := [(it, eJ D 60 f), (o, .inr (9, [.ref ca, .ref im, .int tk, .ref txo, .ref ba, .ref va, .int (nI vc), .ref nwk, .ref nt, .ref ro, .ref lo, .ref bd, .ref ta])), (ta, eT D 6 tt), (ti, .inr (5, [.int sort, .int (nI len), .ref it]))]) rfl rfl rfl rfl ?_
          refine v_if_ne O 87 dX9_shift_81 (by decide) (fun z5 => ?_) (fun z5 => ?_)
          · skip
            have z5 := b2i_1.mp z5
            exact absurd z5 hm
          · skip
            have z5 := b2i_0.mp z5
            refine v_bipush (v := -13) O dX9_shift_84 (by decide) ?_
            refine v_sub (ws' := [(o, .inr (9, [.ref ca, .ref im, .int tk, .ref txo, .ref ba, .ref va, .int (nI vc), .ref nwk, .ref nt, .ref ro, .ref lo, .ref bd, .ref ta])), (ta, eT D 6 tt), (ti, .inr (5, [.int sort, .int (nI len), .ref it])), (it, eJ D 60 f)]) [1, 2, 3, 0] (by decide) rfl ?_
            exact v_ireturn O T rfl rfl (by decide) (by decide) dX9_shift_86 (⟨rfl, rfl⟩)
      · skip
        exact absurd rfl z3
    · skip
      have z2 := b2i_0.mp z2
      exact absurd hs z2
set_option maxRecDepth 100000 in
set_option maxHeartbeats 4000000 in
theorem sp_X9_shift_7 {D : G} {o : Nat} {ca : Nat} {im : Nat} {tk : Int32} {txo : Nat} {ba : Nat} {va : Nat} {vc : Nat} {nwk : Nat} {nt : Nat} {ro : Nat} {lo : Nat} {bd : Nat} {ta : Nat} {tt : Nat → Option Nat} {ti : Nat} {sort : Int32} {len : Nat} {it : Nat} {f : Nat → Int64} {t : Nat} {i : Nat} {j : Nat} {n : Nat} (hk : t < 6) (ht : tt t = some ti) (htl : len ≤ 60) (hts : sort = -1 → len = 0) (hso : sort = -1 ∨ isIx sort 5) (hs : ¬ sort = -1) (hn : i + n ≤ len) (hm : j + n ≤ len) : Sp D mX9_shift 30 0 0 [.ref o, .int (nI t), .int (nI i), .int (nI t), .int (nI j), .int (nI n)] [(o, .inr (9, [.ref ca, .ref im, .int tk, .ref txo, .ref ba, .ref va, .int (nI vc), .ref nwk, .ref nt, .ref ro, .ref lo, .ref bd, .ref ta])), (ta, eT D 6 tt), (ti, .inr (5, [.int sort, .int (nI len), .ref it])), (it, eJ D 60 f)] (fun r w => r = some (.int (nI n)) ∧ w = [(o, .inr (9, [.ref ca, .ref im, .int tk, .ref txo, .ref ba, .ref va, .int (nI vc), .ref nwk, .ref nt, .ref ro, .ref lo, .ref bd, .ref ta])), (ta, eT D 6 tt), (ti, .inr (5, [.int sort, .int (nI len), .ref it])), (it, eJ D 60 (va_cpy f f i j n))]) := by
  refine Sp.of (by decide) (Nat.le_of_ble_eq_true rfl) (fun X O T => ?_)
  refine v_eq (lv' := [(0, .ref o), (1, .int (nI t)), (2, .int (nI i)), (3, .int (nI t)), (4, .int (nI j)), (5, .int (nI n))]) rfl rfl rfl rfl ?_
  refine v_aload_n O dX9_shift_0 0 rfl ?_
  refine v_iload_n O dX9_shift_1 1 rfl ?_
  refine v_cV (T := TX9) (ci := 9) (As := [.int (nI t)]) (wr := [(ti, .inr (5, [.int sort, .int (nI len), .ref it])), (it, eJ D 60 f)]) (st := []) O cf_X9_243 rfl (sp_X9_tapeAt_i (o := o) (ca := ca) (im := im) (tk := tk) (txo := txo) (ba := ba) (va := va) (vc := vc) (nwk := nwk) (nt := nt) (ro := ro) (lo := lo) (bd := bd) (ta := ta) (tt := tt) (k := t) (ti := ti) (hk) (ht)) dX9_shift_2 rfl rfl 0 rfl [0, 1] [2, 3] (by decide) rfl rfl (by decide) (by decide) (by decide) (Nat.le_of_ble_eq_true rfl) (by decide) (by decide) (fun r_2 w_3 h_1 => ?_)
  obtain ⟨rfl, rfl⟩ := h_1
  refine v_eq (st' := [.ref ti]) (ws' := [(ti, .inr (5, [.int sort, .int (nI len), .ref it])), (it, eJ D 60 f), (o, .inr (9, [.ref ca, .ref im, .int tk, .ref txo, .ref ba, .ref va, .int (nI vc), .ref nwk, .ref nt, .ref ro, .ref lo, .ref bd, .ref ta])), (ta, eT D 6 tt)]) rfl rfl rfl rfl ?_
  refine v_astore (lv' := [(0, .ref o), (1, .int (nI t)), (2, .int (nI i)), (3, .int (nI t)), (4, .int (nI j)), (5, .int (nI n)), (6, .ref ti)]) O dX9_shift_5 (by decide) rfl ?_
  refine v_aload_n O dX9_shift_7 0 rfl ?_
  refine v_iload_n O dX9_shift_8 3 rfl ?_
  refine v_cV (T := TX9) (ci := 9) (As := [.int (nI t)]) (wr := [(ti, .inr (5, [.int sort, .int (nI len), .ref it])), (it, eJ D 60 f)]) (st := []) O cf_X9_243 rfl (sp_X9_tapeAt_i (o := o) (ca := ca) (im := im) (tk := tk) (txo := txo) (ba := ba) (va := va) (vc := vc) (nwk := nwk) (nt := nt) (ro := ro) (lo := lo) (bd := bd) (ta := ta) (tt := tt) (k := t) (ti := ti) (hk) (ht)) dX9_shift_9 rfl rfl 2 rfl [2, 3] [0, 1] (by decide) rfl rfl (by decide) (by decide) (by decide) (Nat.le_of_ble_eq_true rfl) (by decide) (by decide) (fun r_5 w_6 h_4 => ?_)
  obtain ⟨rfl, rfl⟩ := h_4
  refine v_eq (st' := [.ref ti]) (ws' := [(ti, .inr (5, [.int sort, .int (nI len), .ref it])), (it, eJ D 60 f), (o, .inr (9, [.ref ca, .ref im, .int tk, .ref txo, .ref ba, .ref va, .int (nI vc), .ref nwk, .ref nt, .ref ro, .ref lo, .ref bd, .ref ta])), (ta, eT D 6 tt)]) rfl rfl rfl rfl ?_
  refine v_astore (lv' := [(0, .ref o), (1, .int (nI t)), (2, .int (nI i)), (3, .int (nI t)), (4, .int (nI j)), (5, .int (nI n)), (6, .ref ti), (7, .ref ti)]) O dX9_shift_12 (by decide) rfl ?_
  refine v_aload O dX9_shift_14 6 rfl ?_
  refine v_ifnull O dX9_shift_16 ?_
  refine v_aload O dX9_shift_19 7 rfl ?_
  refine v_ifnonnull O 26 dX9_shift_21 (by decide) ?_
  refine v_aload O dX9_shift_26 6 rfl ?_
  refine v_cV (T := TX5) (ci := 5) (As := []) (wr := [(it, eJ D 60 f), (o, .inr (9, [.ref ca, .ref im, .int tk, .ref txo, .ref ba, .ref va, .int (nI vc), .ref nwk, .ref nt, .ref ro, .ref lo, .ref bd, .ref ta])), (ta, eT D 6 tt)]) (st := []) O cf_X9_247 rfl (sp_X5_holdsSomething (t := ti) (sort := sort) (len := len) (it := it) ) dX9_shift_28 rfl rfl 0 rfl [0] [1, 2, 3] (by decide) rfl rfl (by decide) (by decide) (by decide) (Nat.le_of_ble_eq_true rfl) (by decide) (by decide) (fun r_8 w_9 h_7 => ?_)
  obtain ⟨rfl, rfl⟩ := h_7
  refine v_eq (st' := [.int (b2i (¬ sort = -1))]) (ws' := [(it, eJ D 60 f), (o, .inr (9, [.ref ca, .ref im, .int tk, .ref txo, .ref ba, .ref va, .int (nI vc), .ref nwk, .ref nt, .ref ro, .ref lo, .ref bd, .ref ta])), (ta, eT D 6 tt), (ti, .inr (5, [.int sort, .int (nI len), .ref it]))]) rfl rfl rfl rfl ?_
  refine v_if_eq O 42 dX9_shift_31 (by decide) (fun z1 => ?_) (fun z1 => ?_)
  · skip
    have z1 := b2i_0.mp z1
    exact absurd hs z1
  · skip
    have z1 := b2i_1.mp z1
    refine v_aload O dX9_shift_34 7 rfl ?_
    refine v_cV (T := TX5) (ci := 5) (As := []) (wr := [(it, eJ D 60 f), (o, .inr (9, [.ref ca, .ref im, .int tk, .ref txo, .ref ba, .ref va, .int (nI vc), .ref nwk, .ref nt, .ref ro, .ref lo, .ref bd, .ref ta])), (ta, eT D 6 tt)]) (st := []) O cf_X9_247 rfl (sp_X5_holdsSomething (t := ti) (sort := sort) (len := len) (it := it) ) dX9_shift_36 rfl rfl 3 rfl [3] [0, 1, 2] (by decide) rfl rfl (by decide) (by decide) (by decide) (Nat.le_of_ble_eq_true rfl) (by decide) (by decide) (fun r_11 w_12 h_10 => ?_)
    obtain ⟨rfl, rfl⟩ := h_10
    refine v_eq (st' := [.int (b2i (¬ sort = -1))]) (ws' := [(it, eJ D 60 f), (o, .inr (9, [.ref ca, .ref im, .int tk, .ref txo, .ref ba, .ref va, .int (nI vc), .ref nwk, .ref nt, .ref ro, .ref lo, .ref bd, .ref ta])), (ta, eT D 6 tt), (ti, .inr (5, [.int sort, .int (nI len), .ref it]))]) rfl rfl rfl rfl ?_
    refine v_if_ne O 45 dX9_shift_39 (by decide) (fun z2 => ?_) (fun z2 => ?_)
    · skip
      have z2 := b2i_1.mp z2
      refine v_aload O dX9_shift_45 6 rfl ?_
      refine gf_X9_251 O rfl dX9_shift_47 3 rfl rfl ?_
      refine v_aload O dX9_shift_50 7 rfl ?_
      refine gf_X9_251 O rfl dX9_shift_52 3 rfl rfl ?_
      refine v_icmp_eq O 61 dX9_shift_55 (by decide) (fun z3 => ?_) (fun z3 => ?_)
      · skip
        refine v_aload O dX9_shift_61 6 rfl ?_
        refine v_iload_n O dX9_shift_63 2 rfl ?_
        refine v_iload O dX9_shift_64 5 rfl ?_
        refine v_cV (T := TX5) (ci := 5) (As := [.int (nI i), .int (nI n)]) (wr := [(it, eJ D 60 f), (o, .inr (9, [.ref ca, .ref im, .int tk, .ref txo, .ref ba, .ref va, .int (nI vc), .ref nwk, .ref nt, .ref ro, .ref lo, .ref bd, .ref ta])), (ta, eT D 6 tt)]) (st := []) O cf_X9_291 rfl (sp_X5_hasStretch (t := ti) (sort := sort) (len := len) (it := it) (a := (nI i)) (b := (nI n)) (htl)) dX9_shift_66 rfl rfl 3 rfl [3] [0, 1, 2] (by decide) rfl rfl (by decide) (by decide) (by decide) (Nat.le_of_ble_eq_true rfl) (by decide) (by decide) (fun r_14 w_15 h_13 => ?_)
        obtain ⟨rfl, rfl⟩ := h_13
        refine v_eq (st' := [.int (b2i (isSt (nI i) (nI n) len))]) (ws' := [(it, eJ D 60 f), (o, .inr (9, [.ref ca, .ref im, .int tk, .ref txo, .ref ba, .ref va, .int (nI vc), .ref nwk, .ref nt, .ref ro, .ref lo, .ref bd, .ref ta])), (ta, eT D 6 tt), (ti, .inr (5, [.int sort, .int (nI len), .ref it]))]) rfl rfl rfl rfl ?_
        refine v_if_eq O 84 dX9_shift_69 (by decide) (fun z4 => ?_) (fun z4 => ?_)
        · skip
          have z4 := b2i_0.mp z4
          exact absurd ⟨i, n, rfl, rfl, hn⟩ z4
        · skip
          have z4 := b2i_1.mp z4
          refine v_aload O dX9_shift_72 7 rfl ?_
          refine v_iload O dX9_shift_74 4 rfl ?_
          refine v_iload O dX9_shift_76 5 rfl ?_
          refine v_cV (T := TX5) (ci := 5) (As := [.int (nI j), .int (nI n)]) (wr := [(it, eJ D 60 f), (o, .inr (9, [.ref ca, .ref im, .int tk, .ref txo, .ref ba, .ref va, .int (nI vc), .ref nwk, .ref nt, .ref ro, .ref lo, .ref bd, .ref ta])), (ta, eT D 6 tt)]) (st := []) O cf_X9_291 rfl (sp_X5_hasStretch (t := ti) (sort := sort) (len := len) (it := it) (a := (nI j)) (b := (nI n)) (htl)) dX9_shift_78 rfl rfl 3 rfl [3] [0, 1, 2] (by decide) rfl rfl (by decide) (by decide) (by decide) (Nat.le_of_ble_eq_true rfl) (by decide) (by decide) (fun r_17 w_18 h_16 => ?_)
          obtain ⟨rfl, rfl⟩ := h_16
          refine v_eq (st' := [.int (b2i (isSt (nI j) (nI n) len))]) (ws' := [(it, eJ D 60 f), (o, .inr (9, [.ref ca, .ref im, .int tk, .ref txo, .ref ba, .ref va, .int (nI vc), .ref nwk, .ref nt, .ref ro, .ref lo, .ref bd, .ref ta])), (ta, eT D 6 tt), (ti, .inr (5, [.int sort, .int (nI len), .ref it]))]) rfl rfl rfl rfl ?_
          refine v_if_ne O 87 dX9_shift_81 (by decide) (fun z5 => ?_) (fun z5 => ?_)
          · skip
            have z5 := b2i_1.mp z5
            refine v_aload O dX9_shift_87 6 rfl ?_
            refine gf_X9_294 O rfl dX9_shift_89 3 rfl rfl ?_
            refine v_iload_n O dX9_shift_92 2 rfl ?_
            refine v_aload O dX9_shift_93 7 rfl ?_
            refine gf_X9_294 O rfl dX9_shift_95 3 rfl rfl ?_
            refine v_iload O dX9_shift_98 4 rfl ?_
            refine v_iload O dX9_shift_100 5 rfl ?_
            refine v_copyJ (ws' := [(it, eJ D 60 (va_cpy f f i j n)), (o, .inr (9, [.ref ca, .ref im, .int tk, .ref txo, .ref ba, .ref va, .int (nI vc), .ref nwk, .ref nt, .ref ro, .ref lo, .ref bd, .ref ta])), (ta, eT D 6 tt), (ti, .inr (5, [.int sort, .int (nI len), .ref it]))]) O ⟨tw_961, tw_755, tw_754, tw_93⟩ dX9_shift_102 0 0 rfl rfl (nI_pos (by omega)) (nI_pos (by omega)) (nI_pos (by omega)) (by rw [nI_clamp (by omega), nI_clamp (by omega)]; omega) (by rw [nI_clamp (by omega), nI_clamp (by omega)]; omega) (by decide) (Nat.le_of_ble_eq_true rfl) (by rw [nI_clamp (show i < 2147483648 by omega), nI_clamp (show j < 2147483648 by omega), nI_clamp (show n < 2147483648 by omega)]; rfl) ?_
            refine v_iload O dX9_shift_105 5 rfl ?_
            refine v_sub (ws' := [(o, .inr (9, [.ref ca, .ref im, .int tk, .ref txo, .ref ba, .ref va, .int (nI vc), .ref nwk, .ref nt, .ref ro, .ref lo, .ref bd, .ref ta])), (ta, eT D 6 tt), (ti, .inr (5, [.int sort, .int (nI len), .ref it])), (it, eJ D 60 (va_cpy f f i j n))]) [1, 2, 3, 0] (by decide) rfl ?_
            exact v_ireturn O T rfl rfl (by decide) (by decide) dX9_shift_107 (⟨rfl, rfl⟩)
          · skip
            have z5 := b2i_0.mp z5
            exact absurd ⟨j, n, rfl, rfl, hm⟩ z5
      · skip
        exact absurd rfl z3
    · skip
      have z2 := b2i_0.mp z2
      exact absurd hs z2
set_option maxRecDepth 100000 in
set_option maxHeartbeats 4000000 in
theorem sp_X9_shift_8 {D : G} {o : Nat} {ca : Nat} {im : Nat} {tk : Int32} {txo : Nat} {ba : Nat} {va : Nat} {vc : Nat} {nwk : Nat} {nt : Nat} {ro : Nat} {lo : Nat} {bd : Nat} {ta : Nat} {tt : Nat → Option Nat} {ti : Nat} {sort : Int32} {len : Nat} {it : Nat} {f : Nat → Int64} {ti2 : Nat} {sort2 : Int32} {len2 : Nat} {it2 : Nat} {f2 : Nat → Int64} {t : Nat} {u : Nat} {i : Int32} {j : Int32} {n : Int32} (hk : t < 6) (ht : tt t = some ti) (htl : len ≤ 60) (hts : sort = -1 → len = 0) (hso : sort = -1 ∨ isIx sort 5) (hk2 : u < 6) (ht2 : tt u = some ti2) (htl2 : len2 ≤ 60) (hts2 : sort2 = -1 → len2 = 0) (hso2 : sort2 = -1 ∨ isIx sort2 5) (hs : sort = -1 ∨ sort2 = -1) : Sp D mX9_shift 30 0 0 [.ref o, .int (nI t), .int i, .int (nI u), .int j, .int n] [(o, .inr (9, [.ref ca, .ref im, .int tk, .ref txo, .ref ba, .ref va, .int (nI vc), .ref nwk, .ref nt, .ref ro, .ref lo, .ref bd, .ref ta])), (ta, eT D 6 tt), (ti, .inr (5, [.int sort, .int (nI len), .ref it])), (it, eJ D 60 f), (ti2, .inr (5, [.int sort2, .int (nI len2), .ref it2])), (it2, eJ D 60 f2)] (fun r w => r = some (.int (-11)) ∧ w = [(o, .inr (9, [.ref ca, .ref im, .int tk, .ref txo, .ref ba, .ref va, .int (nI vc), .ref nwk, .ref nt, .ref ro, .ref lo, .ref bd, .ref ta])), (ta, eT D 6 tt), (ti, .inr (5, [.int sort, .int (nI len), .ref it])), (it, eJ D 60 f), (ti2, .inr (5, [.int sort2, .int (nI len2), .ref it2])), (it2, eJ D 60 f2)]) := by
  refine Sp.of (by decide) (Nat.le_of_ble_eq_true rfl) (fun X O T => ?_)
  refine v_eq (lv' := [(0, .ref o), (1, .int (nI t)), (2, .int i), (3, .int (nI u)), (4, .int j), (5, .int n)]) rfl rfl rfl rfl ?_
  refine v_aload_n O dX9_shift_0 0 rfl ?_
  refine v_iload_n O dX9_shift_1 1 rfl ?_
  refine v_cV (T := TX9) (ci := 9) (As := [.int (nI t)]) (wr := [(ti, .inr (5, [.int sort, .int (nI len), .ref it])), (it, eJ D 60 f), (ti2, .inr (5, [.int sort2, .int (nI len2), .ref it2])), (it2, eJ D 60 f2)]) (st := []) O cf_X9_243 rfl (sp_X9_tapeAt_i (o := o) (ca := ca) (im := im) (tk := tk) (txo := txo) (ba := ba) (va := va) (vc := vc) (nwk := nwk) (nt := nt) (ro := ro) (lo := lo) (bd := bd) (ta := ta) (tt := tt) (k := t) (ti := ti) (hk) (ht)) dX9_shift_2 rfl rfl 0 rfl [0, 1] [2, 3, 4, 5] (by decide) rfl rfl (by decide) (by decide) (by decide) (Nat.le_of_ble_eq_true rfl) (by decide) (by decide) (fun r_2 w_3 h_1 => ?_)
  obtain ⟨rfl, rfl⟩ := h_1
  refine v_eq (st' := [.ref ti]) (ws' := [(ti, .inr (5, [.int sort, .int (nI len), .ref it])), (it, eJ D 60 f), (ti2, .inr (5, [.int sort2, .int (nI len2), .ref it2])), (it2, eJ D 60 f2), (o, .inr (9, [.ref ca, .ref im, .int tk, .ref txo, .ref ba, .ref va, .int (nI vc), .ref nwk, .ref nt, .ref ro, .ref lo, .ref bd, .ref ta])), (ta, eT D 6 tt)]) rfl rfl rfl rfl ?_
  refine v_astore (lv' := [(0, .ref o), (1, .int (nI t)), (2, .int i), (3, .int (nI u)), (4, .int j), (5, .int n), (6, .ref ti)]) O dX9_shift_5 (by decide) rfl ?_
  refine v_aload_n O dX9_shift_7 0 rfl ?_
  refine v_iload_n O dX9_shift_8 3 rfl ?_
  refine v_cV (T := TX9) (ci := 9) (As := [.int (nI u)]) (wr := [(ti, .inr (5, [.int sort, .int (nI len), .ref it])), (it, eJ D 60 f), (ti2, .inr (5, [.int sort2, .int (nI len2), .ref it2])), (it2, eJ D 60 f2)]) (st := []) O cf_X9_243 rfl (sp_X9_tapeAt_i (o := o) (ca := ca) (im := im) (tk := tk) (txo := txo) (ba := ba) (va := va) (vc := vc) (nwk := nwk) (nt := nt) (ro := ro) (lo := lo) (bd := bd) (ta := ta) (tt := tt) (k := u) (ti := ti2) (hk2) (ht2)) dX9_shift_9 rfl rfl 4 rfl [4, 5] [0, 1, 2, 3] (by decide) rfl rfl (by decide) (by decide) (by decide) (Nat.le_of_ble_eq_true rfl) (by decide) (by decide) (fun r_5 w_6 h_4 => ?_)
  obtain ⟨rfl, rfl⟩ := h_4
  refine v_eq (st' := [.ref ti2]) (ws' := [(ti, .inr (5, [.int sort, .int (nI len), .ref it])), (it, eJ D 60 f), (ti2, .inr (5, [.int sort2, .int (nI len2), .ref it2])), (it2, eJ D 60 f2), (o, .inr (9, [.ref ca, .ref im, .int tk, .ref txo, .ref ba, .ref va, .int (nI vc), .ref nwk, .ref nt, .ref ro, .ref lo, .ref bd, .ref ta])), (ta, eT D 6 tt)]) rfl rfl rfl rfl ?_
  refine v_astore (lv' := [(0, .ref o), (1, .int (nI t)), (2, .int i), (3, .int (nI u)), (4, .int j), (5, .int n), (6, .ref ti), (7, .ref ti2)]) O dX9_shift_12 (by decide) rfl ?_
  refine v_aload O dX9_shift_14 6 rfl ?_
  refine v_ifnull O dX9_shift_16 ?_
  refine v_aload O dX9_shift_19 7 rfl ?_
  refine v_ifnonnull O 26 dX9_shift_21 (by decide) ?_
  refine v_aload O dX9_shift_26 6 rfl ?_
  refine v_cV (T := TX5) (ci := 5) (As := []) (wr := [(it, eJ D 60 f), (ti2, .inr (5, [.int sort2, .int (nI len2), .ref it2])), (it2, eJ D 60 f2), (o, .inr (9, [.ref ca, .ref im, .int tk, .ref txo, .ref ba, .ref va, .int (nI vc), .ref nwk, .ref nt, .ref ro, .ref lo, .ref bd, .ref ta])), (ta, eT D 6 tt)]) (st := []) O cf_X9_247 rfl (sp_X5_holdsSomething (t := ti) (sort := sort) (len := len) (it := it) ) dX9_shift_28 rfl rfl 0 rfl [0] [1, 2, 3, 4, 5] (by decide) rfl rfl (by decide) (by decide) (by decide) (Nat.le_of_ble_eq_true rfl) (by decide) (by decide) (fun r_8 w_9 h_7 => ?_)
  obtain ⟨rfl, rfl⟩ := h_7
  refine v_eq (st' := [.int (b2i (¬ sort = -1))]) (ws' := [(it, eJ D 60 f), (ti2, .inr (5, [.int sort2, .int (nI len2), .ref it2])), (it2, eJ D 60 f2), (o, .inr (9, [.ref ca, .ref im, .int tk, .ref txo, .ref ba, .ref va, .int (nI vc), .ref nwk, .ref nt, .ref ro, .ref lo, .ref bd, .ref ta])), (ta, eT D 6 tt), (ti, .inr (5, [.int sort, .int (nI len), .ref it]))]) rfl rfl rfl rfl ?_
  refine v_if_eq O 42 dX9_shift_31 (by decide) (fun z1 => ?_) (fun z1 => ?_)
  · skip
    have z1 := b2i_0.mp z1
    refine v_bipush (v := -11) O dX9_shift_42 (by decide) ?_
    refine v_sub (ws' := [(o, .inr (9, [.ref ca, .ref im, .int tk, .ref txo, .ref ba, .ref va, .int (nI vc), .ref nwk, .ref nt, .ref ro, .ref lo, .ref bd, .ref ta])), (ta, eT D 6 tt), (ti, .inr (5, [.int sort, .int (nI len), .ref it])), (it, eJ D 60 f), (ti2, .inr (5, [.int sort2, .int (nI len2), .ref it2])), (it2, eJ D 60 f2)]) [3, 4, 5, 0, 1, 2] (by decide) rfl ?_
    exact v_ireturn O T rfl rfl (by decide) (by decide) dX9_shift_44 (⟨rfl, rfl⟩)
  · skip
    have z1 := b2i_1.mp z1
    refine v_aload O dX9_shift_34 7 rfl ?_
    refine v_cV (T := TX5) (ci := 5) (As := []) (wr := [(it, eJ D 60 f), (it2, eJ D 60 f2), (o, .inr (9, [.ref ca, .ref im, .int tk, .ref txo, .ref ba, .ref va, .int (nI vc), .ref nwk, .ref nt, .ref ro, .ref lo, .ref bd, .ref ta])), (ta, eT D 6 tt), (ti, .inr (5, [.int sort, .int (nI len), .ref it]))]) (st := []) O cf_X9_247 rfl (sp_X5_holdsSomething (t := ti2) (sort := sort2) (len := len2) (it := it2) ) dX9_shift_36 rfl rfl 1 rfl [1] [0, 2, 3, 4, 5] (by decide) rfl rfl (by decide) (by decide) (by decide) (Nat.le_of_ble_eq_true rfl) (by decide) (by decide) (fun r_11 w_12 h_10 => ?_)
    obtain ⟨rfl, rfl⟩ := h_10
    refine v_eq (st' := [.int (b2i (¬ sort2 = -1))]) (ws' := [(it, eJ D 60 f), (it2, eJ D 60 f2), (o, .inr (9, [.ref ca, .ref im, .int tk, .ref txo, .ref ba, .ref va, .int (nI vc), .ref nwk, .ref nt, .ref ro, .ref lo, .ref bd, .ref ta])), (ta, eT D 6 tt), (ti, .inr (5, [.int sort, .int (nI len), .ref it])), (ti2, .inr (5, [.int sort2, .int (nI len2), .ref it2]))]) rfl rfl rfl rfl ?_
    refine v_if_ne O 45 dX9_shift_39 (by decide) (fun z2 => ?_) (fun z2 => ?_)
    · skip
      have z2 := b2i_1.mp z2
      exact (hs.elim z1 z2).elim
    · skip
      have z2 := b2i_0.mp z2
      refine v_bipush (v := -11) O dX9_shift_42 (by decide) ?_
      refine v_sub (ws' := [(o, .inr (9, [.ref ca, .ref im, .int tk, .ref txo, .ref ba, .ref va, .int (nI vc), .ref nwk, .ref nt, .ref ro, .ref lo, .ref bd, .ref ta])), (ta, eT D 6 tt), (ti, .inr (5, [.int sort, .int (nI len), .ref it])), (it, eJ D 60 f), (ti2, .inr (5, [.int sort2, .int (nI len2), .ref it2])), (it2, eJ D 60 f2)]) [2, 3, 4, 0, 5, 1] (by decide) rfl ?_
      exact v_ireturn O T rfl rfl (by decide) (by decide) dX9_shift_44 (⟨rfl, rfl⟩)
set_option maxRecDepth 100000 in
set_option maxHeartbeats 4000000 in
theorem sp_X9_shift_9 {D : G} {o : Nat} {ca : Nat} {im : Nat} {tk : Int32} {txo : Nat} {ba : Nat} {va : Nat} {vc : Nat} {nwk : Nat} {nt : Nat} {ro : Nat} {lo : Nat} {bd : Nat} {ta : Nat} {tt : Nat → Option Nat} {ti : Nat} {sort : Int32} {len : Nat} {it : Nat} {f : Nat → Int64} {ti2 : Nat} {sort2 : Int32} {len2 : Nat} {it2 : Nat} {f2 : Nat → Int64} {t : Nat} {u : Nat} {i : Int32} {j : Int32} {n : Int32} (hk : t < 6) (ht : tt t = some ti) (htl : len ≤ 60) (hts : sort = -1 → len = 0) (hso : sort = -1 ∨ isIx sort 5) (hk2 : u < 6) (ht2 : tt u = some ti2) (htl2 : len2 ≤ 60) (hts2 : sort2 = -1 → len2 = 0) (hso2 : sort2 = -1 ∨ isIx sort2 5) (hs : ¬ sort = -1) (hs2 : ¬ sort2 = -1) (hne : ¬ sort = sort2) : Sp D mX9_shift 30 0 0 [.ref o, .int (nI t), .int i, .int (nI u), .int j, .int n] [(o, .inr (9, [.ref ca, .ref im, .int tk, .ref txo, .ref ba, .ref va, .int (nI vc), .ref nwk, .ref nt, .ref ro, .ref lo, .ref bd, .ref ta])), (ta, eT D 6 tt), (ti, .inr (5, [.int sort, .int (nI len), .ref it])), (it, eJ D 60 f), (ti2, .inr (5, [.int sort2, .int (nI len2), .ref it2])), (it2, eJ D 60 f2)] (fun r w => r = some (.int (-12)) ∧ w = [(o, .inr (9, [.ref ca, .ref im, .int tk, .ref txo, .ref ba, .ref va, .int (nI vc), .ref nwk, .ref nt, .ref ro, .ref lo, .ref bd, .ref ta])), (ta, eT D 6 tt), (ti, .inr (5, [.int sort, .int (nI len), .ref it])), (it, eJ D 60 f), (ti2, .inr (5, [.int sort2, .int (nI len2), .ref it2])), (it2, eJ D 60 f2)]) := by
  refine Sp.of (by decide) (Nat.le_of_ble_eq_true rfl) (fun X O T => ?_)
  refine v_eq (lv' := [(0, .ref o), (1, .int (nI t)), (2, .int i), (3, .int (nI u)), (4, .int j), (5, .int n)]) rfl rfl rfl rfl ?_
  refine v_aload_n O dX9_shift_0 0 rfl ?_
  refine v_iload_n O dX9_shift_1 1 rfl ?_
  refine v_cV (T := TX9) (ci := 9) (As := [.int (nI t)]) (wr := [(ti, .inr (5, [.int sort, .int (nI len), .ref it])), (it, eJ D 60 f), (ti2, .inr (5, [.int sort2, .int (nI len2), .ref it2])), (it2, eJ D 60 f2)]) (st := []) O cf_X9_243 rfl (sp_X9_tapeAt_i (o := o) (ca := ca) (im := im) (tk := tk) (txo := txo) (ba := ba) (va := va) (vc := vc) (nwk := nwk) (nt := nt) (ro := ro) (lo := lo) (bd := bd) (ta := ta) (tt := tt) (k := t) (ti := ti) (hk) (ht)) dX9_shift_2 rfl rfl 0 rfl [0, 1] [2, 3, 4, 5] (by decide) rfl rfl (by decide) (by decide) (by decide) (Nat.le_of_ble_eq_true rfl) (by decide) (by decide) (fun r_2 w_3 h_1 => ?_)
  obtain ⟨rfl, rfl⟩ := h_1
  refine v_eq (st' := [.ref ti]) (ws' := [(ti, .inr (5, [.int sort, .int (nI len), .ref it])), (it, eJ D 60 f), (ti2, .inr (5, [.int sort2, .int (nI len2), .ref it2])), (it2, eJ D 60 f2), (o, .inr (9, [.ref ca, .ref im, .int tk, .ref txo, .ref ba, .ref va, .int (nI vc), .ref nwk, .ref nt, .ref ro, .ref lo, .ref bd, .ref ta])), (ta, eT D 6 tt)]) rfl rfl rfl rfl ?_
  refine v_astore (lv' := [(0, .ref o), (1, .int (nI t)), (2, .int i), (3, .int (nI u)), (4, .int j), (5, .int n), (6, .ref ti)]) O dX9_shift_5 (by decide) rfl ?_
  refine v_aload_n O dX9_shift_7 0 rfl ?_
  refine v_iload_n O dX9_shift_8 3 rfl ?_
  refine v_cV (T := TX9) (ci := 9) (As := [.int (nI u)]) (wr := [(ti, .inr (5, [.int sort, .int (nI len), .ref it])), (it, eJ D 60 f), (ti2, .inr (5, [.int sort2, .int (nI len2), .ref it2])), (it2, eJ D 60 f2)]) (st := []) O cf_X9_243 rfl (sp_X9_tapeAt_i (o := o) (ca := ca) (im := im) (tk := tk) (txo := txo) (ba := ba) (va := va) (vc := vc) (nwk := nwk) (nt := nt) (ro := ro) (lo := lo) (bd := bd) (ta := ta) (tt := tt) (k := u) (ti := ti2) (hk2) (ht2)) dX9_shift_9 rfl rfl 4 rfl [4, 5] [0, 1, 2, 3] (by decide) rfl rfl (by decide) (by decide) (by decide) (Nat.le_of_ble_eq_true rfl) (by decide) (by decide) (fun r_5 w_6 h_4 => ?_)
  obtain ⟨rfl, rfl⟩ := h_4
  refine v_eq (st' := [.ref ti2]) (ws' := [(ti, .inr (5, [.int sort, .int (nI len), .ref it])), (it, eJ D 60 f), (ti2, .inr (5, [.int sort2, .int (nI len2), .ref it2])), (it2, eJ D 60 f2), (o, .inr (9, [.ref ca, .ref im, .int tk, .ref txo, .ref ba, .ref va, .int (nI vc), .ref nwk, .ref nt, .ref ro, .ref lo, .ref bd, .ref ta])), (ta, eT D 6 tt)]) rfl rfl rfl rfl ?_
  refine v_astore (lv' := [(0, .ref o), (1, .int (nI t)), (2, .int i), (3, .int (nI u)), (4, .int j), (5, .int n), (6, .ref ti), (7, .ref ti2)]) O dX9_shift_12 (by decide) rfl ?_
  refine v_aload O dX9_shift_14 6 rfl ?_
  refine v_ifnull O dX9_shift_16 ?_
  refine v_aload O dX9_shift_19 7 rfl ?_
  refine v_ifnonnull O 26 dX9_shift_21 (by decide) ?_
  refine v_aload O dX9_shift_26 6 rfl ?_
  refine v_cV (T := TX5) (ci := 5) (As := []) (wr := [(it, eJ D 60 f), (ti2, .inr (5, [.int sort2, .int (nI len2), .ref it2])), (it2, eJ D 60 f2), (o, .inr (9, [.ref ca, .ref im, .int tk, .ref txo, .ref ba, .ref va, .int (nI vc), .ref nwk, .ref nt, .ref ro, .ref lo, .ref bd, .ref ta])), (ta, eT D 6 tt)]) (st := []) O cf_X9_247 rfl (sp_X5_holdsSomething (t := ti) (sort := sort) (len := len) (it := it) ) dX9_shift_28 rfl rfl 0 rfl [0] [1, 2, 3, 4, 5] (by decide) rfl rfl (by decide) (by decide) (by decide) (Nat.le_of_ble_eq_true rfl) (by decide) (by decide) (fun r_8 w_9 h_7 => ?_)
  obtain ⟨rfl, rfl⟩ := h_7
  refine v_eq (st' := [.int (b2i (¬ sort = -1))]) (ws' := [(it, eJ D 60 f), (ti2, .inr (5, [.int sort2, .int (nI len2), .ref it2])), (it2, eJ D 60 f2), (o, .inr (9, [.ref ca, .ref im, .int tk, .ref txo, .ref ba, .ref va, .int (nI vc), .ref nwk, .ref nt, .ref ro, .ref lo, .ref bd, .ref ta])), (ta, eT D 6 tt), (ti, .inr (5, [.int sort, .int (nI len), .ref it]))]) rfl rfl rfl rfl ?_
  refine v_if_eq O 42 dX9_shift_31 (by decide) (fun z1 => ?_) (fun z1 => ?_)
  · skip
    have z1 := b2i_0.mp z1
    exact absurd hs z1
  · skip
    have z1 := b2i_1.mp z1
    refine v_aload O dX9_shift_34 7 rfl ?_
    refine v_cV (T := TX5) (ci := 5) (As := []) (wr := [(it, eJ D 60 f), (it2, eJ D 60 f2), (o, .inr (9, [.ref ca, .ref im, .int tk, .ref txo, .ref ba, .ref va, .int (nI vc), .ref nwk, .ref nt, .ref ro, .ref lo, .ref bd, .ref ta])), (ta, eT D 6 tt), (ti, .inr (5, [.int sort, .int (nI len), .ref it]))]) (st := []) O cf_X9_247 rfl (sp_X5_holdsSomething (t := ti2) (sort := sort2) (len := len2) (it := it2) ) dX9_shift_36 rfl rfl 1 rfl [1] [0, 2, 3, 4, 5] (by decide) rfl rfl (by decide) (by decide) (by decide) (Nat.le_of_ble_eq_true rfl) (by decide) (by decide) (fun r_11 w_12 h_10 => ?_)
    obtain ⟨rfl, rfl⟩ := h_10
    refine v_eq (st' := [.int (b2i (¬ sort2 = -1))]) (ws' := [(it, eJ D 60 f), (it2, eJ D 60 f2), (o, .inr (9, [.ref ca, .ref im, .int tk, .ref txo, .ref ba, .ref va, .int (nI vc), .ref nwk, .ref nt, .ref ro, .ref lo, .ref bd, .ref ta])), (ta, eT D 6 tt), (ti, .inr (5, [.int sort, .int (nI len), .ref it])), (ti2, .inr (5, [.int sort2, .int (nI len2), .ref it2]))]) rfl rfl rfl rfl ?_
    refine v_if_ne O 45 dX9_shift_39 (by decide) (fun z2 => ?_) (fun z2 => ?_)
    · skip
      have z2 := b2i_1.mp z2
      refine v_aload O dX9_shift_45 6 rfl ?_
      refine gf_X9_251 O rfl dX9_shift_47 4 rfl rfl ?_
      refine v_aload O dX9_shift_50 7 rfl ?_
      refine gf_X9_251 O rfl dX9_shift_52 5 rfl rfl ?_
      refine v_icmp_eq O 61 dX9_shift_55 (by decide) (fun z3 => ?_) (fun z3 => ?_)
      · skip
        exact absurd z3 hne
      · skip
        refine v_bipush (v := -12) O dX9_shift_58 (by decide) ?_
        refine v_sub (ws' := [(o, .inr (9, [.ref ca, .ref im, .int tk, .ref txo, .ref ba, .ref va, .int (nI vc), .ref nwk, .ref nt, .ref ro, .ref lo, .ref bd, .ref ta])), (ta, eT D 6 tt), (ti, .inr (5, [.int sort, .int (nI len), .ref it])), (it, eJ D 60 f), (ti2, .inr (5, [.int sort2, .int (nI len2), .ref it2])), (it2, eJ D 60 f2)]) [2, 3, 4, 0, 5, 1] (by decide) rfl ?_
        exact v_ireturn O T rfl rfl (by decide) (by decide) dX9_shift_60 (⟨rfl, rfl⟩)
    · skip
      have z2 := b2i_0.mp z2
      exact absurd hs2 z2
set_option maxRecDepth 100000 in
set_option maxHeartbeats 4000000 in
theorem sp_X9_shift_10 {D : G} {o : Nat} {ca : Nat} {im : Nat} {tk : Int32} {txo : Nat} {ba : Nat} {va : Nat} {vc : Nat} {nwk : Nat} {nt : Nat} {ro : Nat} {lo : Nat} {bd : Nat} {ta : Nat} {tt : Nat → Option Nat} {ti : Nat} {sort : Int32} {len : Nat} {it : Nat} {f : Nat → Int64} {ti2 : Nat} {sort2 : Int32} {len2 : Nat} {it2 : Nat} {f2 : Nat → Int64} {t : Nat} {u : Nat} {i : Int32} {j : Int32} {n : Int32} (hk : t < 6) (ht : tt t = some ti) (htl : len ≤ 60) (hts : sort = -1 → len = 0) (hso : sort = -1 ∨ isIx sort 5) (hk2 : u < 6) (ht2 : tt u = some ti2) (htl2 : len2 ≤ 60) (hts2 : sort2 = -1 → len2 = 0) (hso2 : sort2 = -1 ∨ isIx sort2 5) (hs : ¬ sort = -1) (hs2 : ¬ sort2 = -1) (heq : sort = sort2) (hn : ¬ isSt i n len) : Sp D mX9_shift 30 0 0 [.ref o, .int (nI t), .int i, .int (nI u), .int j, .int n] [(o, .inr (9, [.ref ca, .ref im, .int tk, .ref txo, .ref ba, .ref va, .int (nI vc), .ref nwk, .ref nt, .ref ro, .ref lo, .ref bd, .ref ta])), (ta, eT D 6 tt), (ti, .inr (5, [.int sort, .int (nI len), .ref it])), (it, eJ D 60 f), (ti2, .inr (5, [.int sort2, .int (nI len2), .ref it2])), (it2, eJ D 60 f2)] (fun r w => r = some (.int (-13)) ∧ w = [(o, .inr (9, [.ref ca, .ref im, .int tk, .ref txo, .ref ba, .ref va, .int (nI vc), .ref nwk, .ref nt, .ref ro, .ref lo, .ref bd, .ref ta])), (ta, eT D 6 tt), (ti, .inr (5, [.int sort, .int (nI len), .ref it])), (it, eJ D 60 f), (ti2, .inr (5, [.int sort2, .int (nI len2), .ref it2])), (it2, eJ D 60 f2)]) := by
  refine Sp.of (by decide) (Nat.le_of_ble_eq_true rfl) (fun X O T => ?_)
  refine v_eq (lv' := [(0, .ref o), (1, .int (nI t)), (2, .int i), (3, .int (nI u)), (4, .int j), (5, .int n)]) rfl rfl rfl rfl ?_
  refine v_aload_n O dX9_shift_0 0 rfl ?_
  refine v_iload_n O dX9_shift_1 1 rfl ?_
  refine v_cV (T := TX9) (ci := 9) (As := [.int (nI t)]) (wr := [(ti, .inr (5, [.int sort, .int (nI len), .ref it])), (it, eJ D 60 f), (ti2, .inr (5, [.int sort2, .int (nI len2), .ref it2])), (it2, eJ D 60 f2)]) (st := []) O cf_X9_243 rfl (sp_X9_tapeAt_i (o := o) (ca := ca) (im := im) (tk := tk) (txo := txo) (ba := ba) (va := va) (vc := vc) (nwk := nwk) (nt := nt) (ro := ro) (lo := lo) (bd := bd) (ta := ta) (tt := tt) (k := t) (ti := ti) (hk) (ht)) dX9_shift_2 rfl rfl 0 rfl [0, 1] [2, 3, 4, 5] (by decide) rfl rfl (by decide) (by decide) (by decide) (Nat.le_of_ble_eq_true rfl) (by decide) (by decide) (fun r_2 w_3 h_1 => ?_)
  obtain ⟨rfl, rfl⟩ := h_1
  refine v_eq (st' := [.ref ti]) (ws' := [(ti, .inr (5, [.int sort, .int (nI len), .ref it])), (it, eJ D 60 f), (ti2, .inr (5, [.int sort2, .int (nI len2), .ref it2])), (it2, eJ D 60 f2), (o, .inr (9, [.ref ca, .ref im, .int tk, .ref txo, .ref ba, .ref va, .int (nI vc), .ref nwk, .ref nt, .ref ro, .ref lo, .ref bd, .ref ta])), (ta, eT D 6 tt)]) rfl rfl rfl rfl ?_
  refine v_astore (lv' := [(0, .ref o), (1, .int (nI t)), (2, .int i), (3, .int (nI u)), (4, .int j), (5, .int n), (6, .ref ti)]) O dX9_shift_5 (by decide) rfl ?_
  refine v_aload_n O dX9_shift_7 0 rfl ?_
  refine v_iload_n O dX9_shift_8 3 rfl ?_
  refine v_cV (T := TX9) (ci := 9) (As := [.int (nI u)]) (wr := [(ti, .inr (5, [.int sort, .int (nI len), .ref it])), (it, eJ D 60 f), (ti2, .inr (5, [.int sort2, .int (nI len2), .ref it2])), (it2, eJ D 60 f2)]) (st := []) O cf_X9_243 rfl (sp_X9_tapeAt_i (o := o) (ca := ca) (im := im) (tk := tk) (txo := txo) (ba := ba) (va := va) (vc := vc) (nwk := nwk) (nt := nt) (ro := ro) (lo := lo) (bd := bd) (ta := ta) (tt := tt) (k := u) (ti := ti2) (hk2) (ht2)) dX9_shift_9 rfl rfl 4 rfl [4, 5] [0, 1, 2, 3] (by decide) rfl rfl (by decide) (by decide) (by decide) (Nat.le_of_ble_eq_true rfl) (by decide) (by decide) (fun r_5 w_6 h_4 => ?_)
  obtain ⟨rfl, rfl⟩ := h_4
  refine v_eq (st' := [.ref ti2]) (ws' := [(ti, .inr (5, [.int sort, .int (nI len), .ref it])), (it, eJ D 60 f), (ti2, .inr (5, [.int sort2, .int (nI len2), .ref it2])), (it2, eJ D 60 f2), (o, .inr (9, [.ref ca, .ref im, .int tk, .ref txo, .ref ba, .ref va, .int (nI vc), .ref nwk, .ref nt, .ref ro, .ref lo, .ref bd, .ref ta])), (ta, eT D 6 tt)]) rfl rfl rfl rfl ?_
  refine v_astore (lv' := [(0, .ref o), (1, .int (nI t)), (2, .int i), (3, .int (nI u)), (4, .int j), (5, .int n), (6, .ref ti), (7, .ref ti2)]) O dX9_shift_12 (by decide) rfl ?_
  refine v_aload O dX9_shift_14 6 rfl ?_
  refine v_ifnull O dX9_shift_16 ?_
  refine v_aload O dX9_shift_19 7 rfl ?_
  refine v_ifnonnull O 26 dX9_shift_21 (by decide) ?_
  refine v_aload O dX9_shift_26 6 rfl ?_
  refine v_cV (T := TX5) (ci := 5) (As := []) (wr := [(it, eJ D 60 f), (ti2, .inr (5, [.int sort2, .int (nI len2), .ref it2])), (it2, eJ D 60 f2), (o, .inr (9, [.ref ca, .ref im, .int tk, .ref txo, .ref ba, .ref va, .int (nI vc), .ref nwk, .ref nt, .ref ro, .ref lo, .ref bd, .ref ta])), (ta, eT D 6 tt)]) (st := []) O cf_X9_247 rfl (sp_X5_holdsSomething (t := ti) (sort := sort) (len := len) (it := it) ) dX9_shift_28 rfl rfl 0 rfl [0] [1, 2, 3, 4, 5] (by decide) rfl rfl (by decide) (by decide) (by decide) (Nat.le_of_ble_eq_true rfl) (by decide) (by decide) (fun r_8 w_9 h_7 => ?_)
  obtain ⟨rfl, rfl⟩ := h_7
  refine v_eq (st' := [.int (b2i (¬ sort = -1))]) (ws' := [(it, eJ D 60 f), (ti2, .inr (5, [.int sort2, .int (nI len2), .ref it2])), (it2, eJ D 60 f2), (o, .inr (9, [.ref ca, .ref im, .int tk, .ref txo, .ref ba, .ref va, .int (nI vc), .ref nwk, .ref nt, .ref ro, .ref lo, .ref bd, .ref ta])), (ta, eT D 6 tt), (ti, .inr (5, [.int sort, .int (nI len), .ref it]))]) rfl rfl rfl rfl ?_
  refine v_if_eq O 42 dX9_shift_31 (by decide) (fun z1 => ?_) (fun z1 => ?_)
  · skip
    have z1 := b2i_0.mp z1
    exact absurd hs z1
  · skip
    have z1 := b2i_1.mp z1
    refine v_aload O dX9_shift_34 7 rfl ?_
    refine v_cV (T := TX5) (ci := 5) (As := []) (wr := [(it, eJ D 60 f), (it2, eJ D 60 f2), (o, .inr (9, [.ref ca, .ref im, .int tk, .ref txo, .ref ba, .ref va, .int (nI vc), .ref nwk, .ref nt, .ref ro, .ref lo, .ref bd, .ref ta])), (ta, eT D 6 tt), (ti, .inr (5, [.int sort, .int (nI len), .ref it]))]) (st := []) O cf_X9_247 rfl (sp_X5_holdsSomething (t := ti2) (sort := sort2) (len := len2) (it := it2) ) dX9_shift_36 rfl rfl 1 rfl [1] [0, 2, 3, 4, 5] (by decide) rfl rfl (by decide) (by decide) (by decide) (Nat.le_of_ble_eq_true rfl) (by decide) (by decide) (fun r_11 w_12 h_10 => ?_)
    obtain ⟨rfl, rfl⟩ := h_10
    refine v_eq (st' := [.int (b2i (¬ sort2 = -1))]) (ws' := [(it, eJ D 60 f), (it2, eJ D 60 f2), (o, .inr (9, [.ref ca, .ref im, .int tk, .ref txo, .ref ba, .ref va, .int (nI vc), .ref nwk, .ref nt, .ref ro, .ref lo, .ref bd, .ref ta])), (ta, eT D 6 tt), (ti, .inr (5, [.int sort, .int (nI len), .ref it])), (ti2, .inr (5, [.int sort2, .int (nI len2), .ref it2]))]) rfl rfl rfl rfl ?_
    refine v_if_ne O 45 dX9_shift_39 (by decide) (fun z2 => ?_) (fun z2 => ?_)
    · skip
      have z2 := b2i_1.mp z2
      refine v_aload O dX9_shift_45 6 rfl ?_
      refine gf_X9_251 O rfl dX9_shift_47 4 rfl rfl ?_
      refine v_aload O dX9_shift_50 7 rfl ?_
      refine gf_X9_251 O rfl dX9_shift_52 5 rfl rfl ?_
      refine v_icmp_eq O 61 dX9_shift_55 (by decide) (fun z3 => ?_) (fun z3 => ?_)
      · skip
        refine v_aload O dX9_shift_61 6 rfl ?_
        refine v_iload_n O dX9_shift_63 2 rfl ?_
        refine v_iload O dX9_shift_64 5 rfl ?_
        refine v_cV (T := TX5) (ci := 5) (As := [.int i, .int n]) (wr := [(it, eJ D 60 f), (it2, eJ D 60 f2), (o, .inr (9, [.ref ca, .ref im, .int tk, .ref txo, .ref ba, .ref va, .int (nI vc), .ref nwk, .ref nt, .ref ro, .ref lo, .ref bd, .ref ta])), (ta, eT D 6 tt), (ti2, .inr (5, [.int sort2, .int (nI len2), .ref it2]))]) (st := []) O cf_X9_291 rfl (sp_X5_hasStretch (t := ti) (sort := sort) (len := len) (it := it) (a := i) (b := n) (htl)) dX9_shift_66 rfl rfl 4 rfl [4] [0, 1, 2, 3, 5] (by decide) rfl rfl (by decide) (by decide) (by decide) (Nat.le_of_ble_eq_true rfl) (by decide) (by decide) (fun r_14 w_15 h_13 => ?_)
        obtain ⟨rfl, rfl⟩ := h_13
        refine v_eq (st' := [.int (b2i (isSt i n len))]) (ws' := [(it, eJ D 60 f), (it2, eJ D 60 f2), (o, .inr (9, [.ref ca, .ref im, .int tk, .ref txo, .ref ba, .ref va, .int (nI vc), .ref nwk, .ref nt, .ref ro, .ref lo, .ref bd, .ref ta])), (ta, eT D 6 tt), (ti2, .inr (5, [.int sort2, .int (nI len2), .ref it2])), (ti, .inr (5, [.int sort, .int (nI len), .ref it]))]) rfl rfl rfl rfl ?_
        refine v_if_eq O 84 dX9_shift_69 (by decide) (fun z4 => ?_) (fun z4 => ?_)
        · skip
          have z4 := b2i_0.mp z4
          refine v_bipush (v := -13) O dX9_shift_84 (by decide) ?_
          refine v_sub (ws' := [(o, .inr (9, [.ref ca, .ref im, .int tk, .ref txo, .ref ba, .ref va, .int (nI vc), .ref nwk, .ref nt, .ref ro, .ref lo, .ref bd, .ref ta])), (ta, eT D 6 tt), (ti, .inr (5, [.int sort, .int (nI len), .ref it])), (it, eJ D 60 f), (ti2, .inr (5, [.int sort2, .int (nI len2), .ref it2])), (it2, eJ D 60 f2)]) [2, 3, 5, 0, 4, 1] (by decide) rfl ?_
          exact v_ireturn O T rfl rfl (by decide) (by decide) dX9_shift_86 (⟨rfl, rfl⟩)
        · skip
          have z4 := b2i_1.mp z4
          exact absurd z4 hn
      · skip
        exact absurd heq z3
    · skip
      have z2 := b2i_0.mp z2
      exact absurd hs2 z2
set_option maxRecDepth 100000 in
set_option maxHeartbeats 4000000 in
theorem sp_X9_shift_11 {D : G} {o : Nat} {ca : Nat} {im : Nat} {tk : Int32} {txo : Nat} {ba : Nat} {va : Nat} {vc : Nat} {nwk : Nat} {nt : Nat} {ro : Nat} {lo : Nat} {bd : Nat} {ta : Nat} {tt : Nat → Option Nat} {ti : Nat} {sort : Int32} {len : Nat} {it : Nat} {f : Nat → Int64} {ti2 : Nat} {sort2 : Int32} {len2 : Nat} {it2 : Nat} {f2 : Nat → Int64} {t : Nat} {u : Nat} {i : Int32} {j : Int32} {n : Int32} (hk : t < 6) (ht : tt t = some ti) (htl : len ≤ 60) (hts : sort = -1 → len = 0) (hso : sort = -1 ∨ isIx sort 5) (hk2 : u < 6) (ht2 : tt u = some ti2) (htl2 : len2 ≤ 60) (hts2 : sort2 = -1 → len2 = 0) (hso2 : sort2 = -1 ∨ isIx sort2 5) (hs : ¬ sort = -1) (hs2 : ¬ sort2 = -1) (heq : sort = sort2) (hn : isSt i n len) (hm : ¬ isSt j n len2) : Sp D mX9_shift 30 0 0 [.ref o, .int (nI t), .int i, .int (nI u), .int j, .int n] [(o, .inr (9, [.ref ca, .ref im, .int tk, .ref txo, .ref ba, .ref va, .int (nI vc), .ref nwk, .ref nt, .ref ro, .ref lo, .ref bd, .ref ta])), (ta, eT D 6 tt), (ti, .inr (5, [.int sort, .int (nI len), .ref it])), (it, eJ D 60 f), (ti2, .inr (5, [.int sort2, .int (nI len2), .ref it2])), (it2, eJ D 60 f2)] (fun r w => r = some (.int (-13)) ∧ w = [(o, .inr (9, [.ref ca, .ref im, .int tk, .ref txo, .ref ba, .ref va, .int (nI vc), .ref nwk, .ref nt, .ref ro, .ref lo, .ref bd, .ref ta])), (ta, eT D 6 tt), (ti, .inr (5, [.int sort, .int (nI len), .ref it])), (it, eJ D 60 f), (ti2, .inr (5, [.int sort2, .int (nI len2), .ref it2])), (it2, eJ D 60 f2)]) := by
  refine Sp.of (by decide) (Nat.le_of_ble_eq_true rfl) (fun X O T => ?_)
  refine v_eq (lv' := [(0, .ref o), (1, .int (nI t)), (2, .int i), (3, .int (nI u)), (4, .int j), (5, .int n)]) rfl rfl rfl rfl ?_
  refine v_aload_n O dX9_shift_0 0 rfl ?_
  refine v_iload_n O dX9_shift_1 1 rfl ?_
  refine v_cV (T := TX9) (ci := 9) (As := [.int (nI t)]) (wr := [(ti, .inr (5, [.int sort, .int (nI len), .ref it])), (it, eJ D 60 f), (ti2, .inr (5, [.int sort2, .int (nI len2), .ref it2])), (it2, eJ D 60 f2)]) (st := []) O cf_X9_243 rfl (sp_X9_tapeAt_i (o := o) (ca := ca) (im := im) (tk := tk) (txo := txo) (ba := ba) (va := va) (vc := vc) (nwk := nwk) (nt := nt) (ro := ro) (lo := lo) (bd := bd) (ta := ta) (tt := tt) (k := t) (ti := ti) (hk) (ht)) dX9_shift_2 rfl rfl 0 rfl [0, 1] [2, 3, 4, 5] (by decide) rfl rfl (by decide) (by decide) (by decide) (Nat.le_of_ble_eq_true rfl) (by decide) (by decide) (fun r_2 w_3 h_1 => ?_)
  obtain ⟨rfl, rfl⟩ := h_1
  refine v_eq (st' := [.ref ti]) (ws' := [(ti, .inr (5, [.int sort, .int (nI len), .ref it])), (it, eJ D 60 f), (ti2, .inr (5, [.int sort2, .int (nI len2), .ref it2])), (it2, eJ D 60 f2), (o, .inr (9, [.ref ca, .ref im, .int tk, .ref txo, .ref ba, .ref va, .int (nI vc), .ref nwk, .ref nt, .ref ro, .ref lo, .ref bd, .ref ta])), (ta, eT D 6 tt)]) rfl rfl rfl rfl ?_
  refine v_astore (lv' := [(0, .ref o), (1, .int (nI t)), (2, .int i), (3, .int (nI u)), (4, .int j), (5, .int n), (6, .ref ti)]) O dX9_shift_5 (by decide) rfl ?_
  refine v_aload_n O dX9_shift_7 0 rfl ?_
  refine v_iload_n O dX9_shift_8 3 rfl ?_
  refine v_cV (T := TX9) (ci := 9) (As := [.int (nI u)]) (wr := [(ti, .inr (5, [.int sort, .int (nI len), .ref it])), (it, eJ D 60 f), (ti2, .inr (5, [.int sort2, .int (nI len2), .ref it2])), (it2, eJ D 60 f2)]) (st := []) O cf_X9_243 rfl (sp_X9_tapeAt_i (o := o) (ca := ca) (im := im) (tk := tk) (txo := txo) (ba := ba) (va := va) (vc := vc) (nwk := nwk) (nt := nt) (ro := ro) (lo := lo) (bd := bd) (ta := ta) (tt := tt) (k := u) (ti := ti2) (hk2) (ht2)) dX9_shift_9 rfl rfl 4 rfl [4, 5] [0, 1, 2, 3] (by decide) rfl rfl (by decide) (by decide) (by decide) (Nat.le_of_ble_eq_true rfl) (by decide) (by decide) (fun r_5 w_6 h_4 => ?_)
  obtain ⟨rfl, rfl⟩ := h_4
  refine v_eq (st' := [.ref ti2]) (ws' := [(ti, .inr (5, [.int sort, .int (nI len), .ref it])), (it, eJ D 60 f), (ti2, .inr (5, [.int sort2, .int (nI len2), .ref it2])), (it2, eJ D 60 f2), (o, .inr (9, [.ref ca, .ref im, .int tk, .ref txo, .ref ba, .ref va, .int (nI vc), .ref nwk, .ref nt, .ref ro, .ref lo, .ref bd, .ref ta])), (ta, eT D 6 tt)]) rfl rfl rfl rfl ?_
  refine v_astore (lv' := [(0, .ref o), (1, .int (nI t)), (2, .int i), (3, .int (nI u)), (4, .int j), (5, .int n), (6, .ref ti), (7, .ref ti2)]) O dX9_shift_12 (by decide) rfl ?_
  refine v_aload O dX9_shift_14 6 rfl ?_
  refine v_ifnull O dX9_shift_16 ?_
  refine v_aload O dX9_shift_19 7 rfl ?_
  refine v_ifnonnull O 26 dX9_shift_21 (by decide) ?_
  refine v_aload O dX9_shift_26 6 rfl ?_
  refine v_cV (T := TX5) (ci := 5) (As := []) (wr := [(it, eJ D 60 f), (ti2, .inr (5, [.int sort2, .int (nI len2), .ref it2])), (it2, eJ D 60 f2), (o, .inr (9, [.ref ca, .ref im, .int tk, .ref txo, .ref ba, .ref va, .int (nI vc), .ref nwk, .ref nt, .ref ro, .ref lo, .ref bd, .ref ta])), (ta, eT D 6 tt)]) (st := []) O cf_X9_247 rfl (sp_X5_holdsSomething (t := ti) (sort := sort) (len := len) (it := it) ) dX9_shift_28 rfl rfl 0 rfl [0] [1, 2, 3, 4, 5] (by decide) rfl rfl (by decide) (by decide) (by decide) (Nat.le_of_ble_eq_true rfl) (by decide) (by decide) (fun r_8 w_9 h_7 => ?_)
  obtain ⟨rfl, rfl⟩ := h_7
  refine v_eq (st' := [.int (b2i (¬ sort = -1))]) (ws' := [(it, eJ D 60 f), (ti2, .inr (5, [.int sort2, .int (nI len2), .ref it2])), (it2, eJ D 60 f2), (o, .inr (9, [.ref ca, .ref im, .int tk, .ref txo, .ref ba, .ref va, .int (nI vc), .ref nwk, .ref nt, .ref ro, .ref lo, .ref bd, .ref ta])), (ta, eT D 6 tt), (ti, .inr (5, [.int sort, .int (nI len), .ref it]))]) rfl rfl rfl rfl ?_
  refine v_if_eq O 42 dX9_shift_31 (by decide) (fun z1 => ?_) (fun z1 => ?_)
  · skip
    have z1 := b2i_0.mp z1
    exact absurd hs z1
  · skip
    have z1 := b2i_1.mp z1
    refine v_aload O dX9_shift_34 7 rfl ?_
    refine v_cV (T := TX5) (ci := 5) (As := []) (wr := [(it, eJ D 60 f), (it2, eJ D 60 f2), (o, .inr (9, [.ref ca, .ref im, .int tk, .ref txo, .ref ba, .ref va, .int (nI vc), .ref nwk, .ref nt, .ref ro, .ref lo, .ref bd, .ref ta])), (ta, eT D 6 tt), (ti, .inr (5, [.int sort, .int (nI len), .ref it]))]) (st := []) O cf_X9_247 rfl (sp_X5_holdsSomething (t := ti2) (sort := sort2) (len := len2) (it := it2) ) dX9_shift_36 rfl rfl 1 rfl [1] [0, 2, 3, 4, 5] (by decide) rfl rfl (by decide) (by decide) (by decide) (Nat.le_of_ble_eq_true rfl) (by decide) (by decide) (fun r_11 w_12 h_10 => ?_)
    obtain ⟨rfl, rfl⟩ := h_10
    refine v_eq (st' := [.int (b2i (¬ sort2 = -1))]) (ws' := [(it, eJ D 60 f), (it2, eJ D 60 f2), (o, .inr (9, [.ref ca, .ref im, .int tk, .ref txo, .ref ba, .ref va, .int (nI vc), .ref nwk, .ref nt, .ref ro, .ref lo, .ref bd, .ref ta])), (ta, eT D 6 tt), (ti, .inr (5, [.int sort, .int (nI len), .ref it])), (ti2, .inr (5, [.int sort2, .int (nI len2), .ref it2]))]) rfl rfl rfl rfl ?_
    refine v_if_ne O 45 dX9_shift_39 (by decide) (fun z2 => ?_) (fun z2 => ?_)
    · skip
      have z2 := b2i_1.mp z2
      refine v_aload O dX9_shift_45 6 rfl ?_
      refine gf_X9_251 O rfl dX9_shift_47 4 rfl rfl ?_
      refine v_aload O dX9_shift_50 7 rfl ?_
      refine gf_X9_251 O rfl dX9_shift_52 5 rfl rfl ?_
      refine v_icmp_eq O 61 dX9_shift_55 (by decide) (fun z3 => ?_) (fun z3 => ?_)
      · skip
        refine v_aload O dX9_shift_61 6 rfl ?_
        refine v_iload_n O dX9_shift_63 2 rfl ?_
        refine v_iload O dX9_shift_64 5 rfl ?_
        refine v_cV (T := TX5) (ci := 5) (As := [.int i, .int n]) (wr := [(it, eJ D 60 f), (it2, eJ D 60 f2), (o, .inr (9, [.ref ca, .ref im, .int tk, .ref txo, .ref ba, .ref va, .int (nI vc), .ref nwk, .ref nt, .ref ro, .ref lo, .ref bd, .ref ta])), (ta, eT D 6 tt), (ti2, .inr (5, [.int sort2, .int (nI len2), .ref it2]))]) (st := []) O cf_X9_291 rfl (sp_X5_hasStretch (t := ti) (sort := sort) (len := len) (it := it) (a := i) (b := n) (htl)) dX9_shift_66 rfl rfl 4 rfl [4] [0, 1, 2, 3, 5] (by decide) rfl rfl (by decide) (by decide) (by decide) (Nat.le_of_ble_eq_true rfl) (by decide) (by decide) (fun r_14 w_15 h_13 => ?_)
        obtain ⟨rfl, rfl⟩ := h_13
        refine v_eq (st' := [.int (b2i (isSt i n len))]) (ws' := [(it, eJ D 60 f), (it2, eJ D 60 f2), (o, .inr (9, [.ref ca, .ref im, .int tk, .ref txo, .ref ba, .ref va, .int (nI vc), .ref nwk, .ref nt, .ref ro, .ref lo, .ref bd, .ref ta])), (ta, eT D 6 tt), (ti2, .inr (5, [.int sort2, .int (nI len2), .ref it2])), (ti, .inr (5, [.int sort, .int (nI len), .ref it]))]) rfl rfl rfl rfl ?_
        refine v_if_eq O 84 dX9_shift_69 (by decide) (fun z4 => ?_) (fun z4 => ?_)
        · skip
          have z4 := b2i_0.mp z4
          exact absurd hn z4
        · skip
          have z4 := b2i_1.mp z4
          refine v_aload O dX9_shift_72 7 rfl ?_
          refine v_iload O dX9_shift_74 4 rfl ?_
          refine v_iload O dX9_shift_76 5 rfl ?_
          refine v_cV (T := TX5) (ci := 5) (As := [.int j, .int n]) (wr := [(it, eJ D 60 f), (it2, eJ D 60 f2), (o, .inr (9, [.ref ca, .ref im, .int tk, .ref txo, .ref ba, .ref va, .int (nI vc), .ref nwk, .ref nt, .ref ro, .ref lo, .ref bd, .ref ta])), (ta, eT D 6 tt), (ti, .inr (5, [.int sort, .int (nI len), .ref it]))]) (st := []) O cf_X9_291 rfl (sp_X5_hasStretch (t := ti2) (sort := sort2) (len := len2) (it := it2) (a := j) (b := n) (htl2)) dX9_shift_78 rfl rfl 4 rfl [4] [0, 1, 2, 3, 5] (by decide) rfl rfl (by decide) (by decide) (by decide) (Nat.le_of_ble_eq_true rfl) (by decide) (by decide) (fun r_17 w_18 h_16 => ?_)
          obtain ⟨rfl, rfl⟩ := h_16
          refine v_eq (st' := [.int (b2i (isSt j n len2))]) (ws' := [(it, eJ D 60 f), (it2, eJ D 60 f2), (o, .inr (9, [.ref ca, .ref im, .int tk, .ref txo, .ref ba, .ref va, .int (nI vc), .ref nwk, .ref nt, .ref ro, .ref lo, .ref bd, .ref ta])), (ta, eT D 6 tt), (ti, .inr (5, [.int sort, .int (nI len), .ref it])), (ti2, .inr (5, [.int sort2, .int (nI len2), .ref it2]))]) rfl rfl rfl rfl ?_
          refine v_if_ne O 87 dX9_shift_81 (by decide) (fun z5 => ?_) (fun z5 => ?_)
          · skip
            have z5 := b2i_1.mp z5
            exact absurd z5 hm
          · skip
            have z5 := b2i_0.mp z5
            refine v_bipush (v := -13) O dX9_shift_84 (by decide) ?_
            refine v_sub (ws' := [(o, .inr (9, [.ref ca, .ref im, .int tk, .ref txo, .ref ba, .ref va, .int (nI vc), .ref nwk, .ref nt, .ref ro, .ref lo, .ref bd, .ref ta])), (ta, eT D 6 tt), (ti, .inr (5, [.int sort, .int (nI len), .ref it])), (it, eJ D 60 f), (ti2, .inr (5, [.int sort2, .int (nI len2), .ref it2])), (it2, eJ D 60 f2)]) [2, 3, 4, 0, 5, 1] (by decide) rfl ?_
            exact v_ireturn O T rfl rfl (by decide) (by decide) dX9_shift_86 (⟨rfl, rfl⟩)
      · skip
        exact absurd heq z3
    · skip
      have z2 := b2i_0.mp z2
      exact absurd hs2 z2
set_option maxRecDepth 100000 in
set_option maxHeartbeats 4000000 in
theorem sp_X9_shift_12 {D : G} {o : Nat} {ca : Nat} {im : Nat} {tk : Int32} {txo : Nat} {ba : Nat} {va : Nat} {vc : Nat} {nwk : Nat} {nt : Nat} {ro : Nat} {lo : Nat} {bd : Nat} {ta : Nat} {tt : Nat → Option Nat} {ti : Nat} {sort : Int32} {len : Nat} {it : Nat} {f : Nat → Int64} {ti2 : Nat} {sort2 : Int32} {len2 : Nat} {it2 : Nat} {f2 : Nat → Int64} {t : Nat} {u : Nat} {i : Nat} {j : Nat} {n : Nat} (hk : t < 6) (ht : tt t = some ti) (htl : len ≤ 60) (hts : sort = -1 → len = 0) (hso : sort = -1 ∨ isIx sort 5) (hk2 : u < 6) (ht2 : tt u = some ti2) (htl2 : len2 ≤ 60) (hts2 : sort2 = -1 → len2 = 0) (hso2 : sort2 = -1 ∨ isIx sort2 5) (hs : ¬ sort = -1) (hs2 : ¬ sort2 = -1) (heq : sort = sort2) (hn : i + n ≤ len) (hm : j + n ≤ len2) : Sp D mX9_shift 30 0 0 [.ref o, .int (nI t), .int (nI i), .int (nI u), .int (nI j), .int (nI n)] [(o, .inr (9, [.ref ca, .ref im, .int tk, .ref txo, .ref ba, .ref va, .int (nI vc), .ref nwk, .ref nt, .ref ro, .ref lo, .ref bd, .ref ta])), (ta, eT D 6 tt), (ti, .inr (5, [.int sort, .int (nI len), .ref it])), (it, eJ D 60 f), (ti2, .inr (5, [.int sort2, .int (nI len2), .ref it2])), (it2, eJ D 60 f2)] (fun r w => r = some (.int (nI n)) ∧ w = [(o, .inr (9, [.ref ca, .ref im, .int tk, .ref txo, .ref ba, .ref va, .int (nI vc), .ref nwk, .ref nt, .ref ro, .ref lo, .ref bd, .ref ta])), (ta, eT D 6 tt), (ti, .inr (5, [.int sort, .int (nI len), .ref it])), (it, eJ D 60 f), (ti2, .inr (5, [.int sort2, .int (nI len2), .ref it2])), (it2, eJ D 60 (va_cpy f f2 i j n))]) := by
  refine Sp.of (by decide) (Nat.le_of_ble_eq_true rfl) (fun X O T => ?_)
  refine v_eq (lv' := [(0, .ref o), (1, .int (nI t)), (2, .int (nI i)), (3, .int (nI u)), (4, .int (nI j)), (5, .int (nI n))]) rfl rfl rfl rfl ?_
  refine v_aload_n O dX9_shift_0 0 rfl ?_
  refine v_iload_n O dX9_shift_1 1 rfl ?_
  refine v_cV (T := TX9) (ci := 9) (As := [.int (nI t)]) (wr := [(ti, .inr (5, [.int sort, .int (nI len), .ref it])), (it, eJ D 60 f), (ti2, .inr (5, [.int sort2, .int (nI len2), .ref it2])), (it2, eJ D 60 f2)]) (st := []) O cf_X9_243 rfl (sp_X9_tapeAt_i (o := o) (ca := ca) (im := im) (tk := tk) (txo := txo) (ba := ba) (va := va) (vc := vc) (nwk := nwk) (nt := nt) (ro := ro) (lo := lo) (bd := bd) (ta := ta) (tt := tt) (k := t) (ti := ti) (hk) (ht)) dX9_shift_2 rfl rfl 0 rfl [0, 1] [2, 3, 4, 5] (by decide) rfl rfl (by decide) (by decide) (by decide) (Nat.le_of_ble_eq_true rfl) (by decide) (by decide) (fun r_2 w_3 h_1 => ?_)
  obtain ⟨rfl, rfl⟩ := h_1
  refine v_eq (st' := [.ref ti]) (ws' := [(ti, .inr (5, [.int sort, .int (nI len), .ref it])), (it, eJ D 60 f), (ti2, .inr (5, [.int sort2, .int (nI len2), .ref it2])), (it2, eJ D 60 f2), (o, .inr (9, [.ref ca, .ref im, .int tk, .ref txo, .ref ba, .ref va, .int (nI vc), .ref nwk, .ref nt, .ref ro, .ref lo, .ref bd, .ref ta])), (ta, eT D 6 tt)]) rfl rfl rfl rfl ?_
  refine v_astore (lv' := [(0, .ref o), (1, .int (nI t)), (2, .int (nI i)), (3, .int (nI u)), (4, .int (nI j)), (5, .int (nI n)), (6, .ref ti)]) O dX9_shift_5 (by decide) rfl ?_
  refine v_aload_n O dX9_shift_7 0 rfl ?_
  refine v_iload_n O dX9_shift_8 3 rfl ?_
  refine v_cV (T := TX9) (ci := 9) (As := [.int (nI u)]) (wr := [(ti, .inr (5, [.int sort, .int (nI len), .ref it])), (it, eJ D 60 f), (ti2, .inr (5, [.int sort2, .int (nI len2), .ref it2])), (it2, eJ D 60 f2)]) (st := []) O cf_X9_243 rfl (sp_X9_tapeAt_i (o := o) (ca := ca) (im := im) (tk := tk) (txo := txo) (ba := ba) (va := va) (vc := vc) (nwk := nwk) (nt := nt) (ro := ro) (lo := lo) (bd := bd) (ta := ta) (tt := tt) (k := u) (ti := ti2) (hk2) (ht2)) dX9_shift_9 rfl rfl 4 rfl [4, 5] [0, 1, 2, 3] (by decide) rfl rfl (by decide) (by decide) (by decide) (Nat.le_of_ble_eq_true rfl) (by decide) (by decide) (fun r_5 w_6 h_4 => ?_)
  obtain ⟨rfl, rfl⟩ := h_4
  refine v_eq (st' := [.ref ti2]) (ws' := [(ti, .inr (5, [.int sort, .int (nI len), .ref it])), (it, eJ D 60 f), (ti2, .inr (5, [.int sort2, .int (nI len2), .ref it2])), (it2, eJ D 60 f2), (o, .inr (9, [.ref ca, .ref im, .int tk, .ref txo, .ref ba, .ref va, .int (nI vc), .ref nwk, .ref nt, .ref ro, .ref lo, .ref bd, .ref ta])), (ta, eT D 6 tt)]) rfl rfl rfl rfl ?_
  refine v_astore (lv' := [(0, .ref o), (1, .int (nI t)), (2, .int (nI i)), (3, .int (nI u)), (4, .int (nI j)), (5, .int (nI n)), (6, .ref ti), (7, .ref ti2)]) O dX9_shift_12 (by decide) rfl ?_
  refine v_aload O dX9_shift_14 6 rfl ?_
  refine v_ifnull O dX9_shift_16 ?_
  refine v_aload O dX9_shift_19 7 rfl ?_
  refine v_ifnonnull O 26 dX9_shift_21 (by decide) ?_
  refine v_aload O dX9_shift_26 6 rfl ?_
  refine v_cV (T := TX5) (ci := 5) (As := []) (wr := [(it, eJ D 60 f), (ti2, .inr (5, [.int sort2, .int (nI len2), .ref it2])), (it2, eJ D 60 f2), (o, .inr (9, [.ref ca, .ref im, .int tk, .ref txo, .ref ba, .ref va, .int (nI vc), .ref nwk, .ref nt, .ref ro, .ref lo, .ref bd, .ref ta])), (ta, eT D 6 tt)]) (st := []) O cf_X9_247 rfl (sp_X5_holdsSomething (t := ti) (sort := sort) (len := len) (it := it) ) dX9_shift_28 rfl rfl 0 rfl [0] [1, 2, 3, 4, 5] (by decide) rfl rfl (by decide) (by decide) (by decide) (Nat.le_of_ble_eq_true rfl) (by decide) (by decide) (fun r_8 w_9 h_7 => ?_)
  obtain ⟨rfl, rfl⟩ := h_7
  refine v_eq (st' := [.int (b2i (¬ sort = -1))]) (ws' := [(it, eJ D 60 f), (ti2, .inr (5, [.int sort2, .int (nI len2), .ref it2])), (it2, eJ D 60 f2), (o, .inr (9, [.ref ca, .ref im, .int tk, .ref txo, .ref ba, .ref va, .int (nI vc), .ref nwk, .ref nt, .ref ro, .ref lo, .ref bd, .ref ta])), (ta, eT D 6 tt), (ti, .inr (5, [.int sort, .int (nI len), .ref it]))]) rfl rfl rfl rfl ?_
  refine v_if_eq O 42 dX9_shift_31 (by decide) (fun z1 => ?_) (fun z1 => ?_)
  · skip
    have z1 := b2i_0.mp z1
    exact absurd hs z1
  · skip
    have z1 := b2i_1.mp z1
    refine v_aload O dX9_shift_34 7 rfl ?_
    refine v_cV (T := TX5) (ci := 5) (As := []) (wr := [(it, eJ D 60 f), (it2, eJ D 60 f2), (o, .inr (9, [.ref ca, .ref im, .int tk, .ref txo, .ref ba, .ref va, .int (nI vc), .ref nwk, .ref nt, .ref ro, .ref lo, .ref bd, .ref ta])), (ta, eT D 6 tt), (ti, .inr (5, [.int sort, .int (nI len), .ref it]))]) (st := []) O cf_X9_247 rfl (sp_X5_holdsSomething (t := ti2) (sort := sort2) (len := len2) (it := it2) ) dX9_shift_36 rfl rfl 1 rfl [1] [0, 2, 3, 4, 5] (by decide) rfl rfl (by decide) (by decide) (by decide) (Nat.le_of_ble_eq_true rfl) (by decide) (by decide) (fun r_11 w_12 h_10 => ?_)
    obtain ⟨rfl, rfl⟩ := h_10
    refine v_eq (st' := [.int (b2i (¬ sort2 = -1))]) (ws' := [(it, eJ D 60 f), (it2, eJ D 60 f2), (o, .inr (9, [.ref ca, .ref im, .int tk, .ref txo, .ref ba, .ref va, .int (nI vc), .ref nwk, .ref nt, .ref ro, .ref lo, .ref bd, .ref ta])), (ta, eT D 6 tt), (ti, .inr (5, [.int sort, .int (nI len), .ref it])), (ti2, .inr (5, [.int sort2, .int (nI len2), .ref it2]))]) rfl rfl rfl rfl ?_
    refine v_if_ne O 45 dX9_shift_39 (by decide) (fun z2 => ?_) (fun z2 => ?_)
    · skip
      have z2 := b2i_1.mp z2
      refine v_aload O dX9_shift_45 6 rfl ?_
      refine gf_X9_251 O rfl dX9_shift_47 4 rfl rfl ?_
      refine v_aload O dX9_shift_50 7 rfl ?_
      refine gf_X9_251 O rfl dX9_shift_52 5 rfl rfl ?_
      refine v_icmp_eq O 61 dX9_shift_55 (by decide) (fun z3 => ?_) (fun z3 => ?_)
      · skip
        refine v_aload O dX9_shift_61 6 rfl ?_
        refine v_iload_n O dX9_shift_63 2 rfl ?_
        refine v_iload O dX9_shift_64 5 rfl ?_
        refine v_cV (T := TX5) (ci := 5) (As := [.int (nI i), .int (nI n)]) (wr := [(it, eJ D 60 f), (it2, eJ D 60 f2), (o, .inr (9, [.ref ca, .ref im, .int tk, .ref txo, .ref ba, .ref va, .int (nI vc), .ref nwk, .ref nt, .ref ro, .ref lo, .ref bd, .ref ta])), (ta, eT D 6 tt), (ti2, .inr (5, [.int sort2, .int (nI len2), .ref it2]))]) (st := []) O cf_X9_291 rfl (sp_X5_hasStretch (t := ti) (sort := sort) (len := len) (it := it) (a := (nI i)) (b := (nI n)) (htl)) dX9_shift_66 rfl rfl 4 rfl [4] [0, 1, 2, 3, 5] (by decide) rfl rfl (by decide) (by decide) (by decide) (Nat.le_of_ble_eq_true rfl) (by decide) (by decide) (fun r_14 w_15 h_13 => ?_)
        obtain ⟨rfl, rfl⟩ := h_13
        refine v_eq (st' := [.int (b2i (isSt (nI i) (nI n) len))]) (ws' := [(it, eJ D 60 f), (it2, eJ D 60 f2), (o, .inr (9, [.ref ca, .ref im, .int tk, .ref txo, .ref ba, .ref va, .int (nI vc), .ref nwk, .ref nt, .ref ro, .ref lo, .ref bd, .ref ta])), (ta, eT D 6 tt), (ti2, .inr (5, [.int sort2, .int (nI len2), .ref it2])), (ti, .inr (5, [.int sort, .int (nI len), .ref it]))]) rfl rfl rfl rfl ?_
        refine v_if_eq O 84 dX9_shift_69 (by decide) (fun z4 => ?_) (fun z4 => ?_)
        · skip
          have z4 := b2i_0.mp z4
          exact absurd ⟨i, n, rfl, rfl, hn⟩ z4
        · skip
          have z4 := b2i_1.mp z4
          refine v_aload O dX9_shift_72 7 rfl ?_
          refine v_iload O dX9_shift_74 4 rfl ?_
          refine v_iload O dX9_shift_76 5 rfl ?_
          refine v_cV (T := TX5) (ci := 5) (As := [.int (nI j), .int (nI n)]) (wr := [(it, eJ D 60 f), (it2, eJ D 60 f2), (o, .inr (9, [.ref ca, .ref im, .int tk, .ref txo, .ref ba, .ref va, .int (nI vc), .ref nwk, .ref nt, .ref ro, .ref lo, .ref bd, .ref ta])), (ta, eT D 6 tt), (ti, .inr (5, [.int sort, .int (nI len), .ref it]))]) (st := []) O cf_X9_291 rfl (sp_X5_hasStretch (t := ti2) (sort := sort2) (len := len2) (it := it2) (a := (nI j)) (b := (nI n)) (htl2)) dX9_shift_78 rfl rfl 4 rfl [4] [0, 1, 2, 3, 5] (by decide) rfl rfl (by decide) (by decide) (by decide) (Nat.le_of_ble_eq_true rfl) (by decide) (by decide) (fun r_17 w_18 h_16 => ?_)
          obtain ⟨rfl, rfl⟩ := h_16
          refine v_eq (st' := [.int (b2i (isSt (nI j) (nI n) len2))]) (ws' := [(it, eJ D 60 f), (it2, eJ D 60 f2), (o, .inr (9, [.ref ca, .ref im, .int tk, .ref txo, .ref ba, .ref va, .int (nI vc), .ref nwk, .ref nt, .ref ro, .ref lo, .ref bd, .ref ta])), (ta, eT D 6 tt), (ti, .inr (5, [.int sort, .int (nI len), .ref it])), (ti2, .inr (5, [.int sort2, .int (nI len2), .ref it2]))]) rfl rfl rfl rfl ?_
          refine v_if_ne O 87 dX9_shift_81 (by decide) (fun z5 => ?_) (fun z5 => ?_)
          · skip
            have z5 := b2i_1.mp z5
            refine v_aload O dX9_shift_87 6 rfl ?_
            refine gf_X9_294 O rfl dX9_shift_89 4 rfl rfl ?_
            refine v_iload_n O dX9_shift_92 2 rfl ?_
            refine v_aload O dX9_shift_93 7 rfl ?_
            refine gf_X9_294 O rfl dX9_shift_95 5 rfl rfl ?_
            refine v_iload O dX9_shift_98 4 rfl ?_
            refine v_iload O dX9_shift_100 5 rfl ?_
            refine v_copyJ (ws' := [(it, eJ D 60 f), (it2, eJ D 60 (va_cpy f f2 i j n)), (o, .inr (9, [.ref ca, .ref im, .int tk, .ref txo, .ref ba, .ref va, .int (nI vc), .ref nwk, .ref nt, .ref ro, .ref lo, .ref bd, .ref ta])), (ta, eT D 6 tt), (ti, .inr (5, [.int sort, .int (nI len), .ref it])), (ti2, .inr (5, [.int sort2, .int (nI len2), .ref it2]))]) O ⟨tw_961, tw_755, tw_754, tw_93⟩ dX9_shift_102 0 1 rfl rfl (nI_pos (by omega)) (nI_pos (by omega)) (nI_pos (by omega)) (by rw [nI_clamp (by omega), nI_clamp (by omega)]; omega) (by rw [nI_clamp (by omega), nI_clamp (by omega)]; omega) (by decide) (Nat.le_of_ble_eq_true rfl) (by rw [nI_clamp (show i < 2147483648 by omega), nI_clamp (show j < 2147483648 by omega), nI_clamp (show n < 2147483648 by omega)]; rfl) ?_
            refine v_iload O dX9_shift_105 5 rfl ?_
            refine v_sub (ws' := [(o, .inr (9, [.ref ca, .ref im, .int tk, .ref txo, .ref ba, .ref va, .int (nI vc), .ref nwk, .ref nt, .ref ro, .ref lo, .ref bd, .ref ta])), (ta, eT D 6 tt), (ti, .inr (5, [.int sort, .int (nI len), .ref it])), (it, eJ D 60 f), (ti2, .inr (5, [.int sort2, .int (nI len2), .ref it2])), (it2, eJ D 60 (va_cpy f f2 i j n))]) [2, 3, 4, 0, 5, 1] (by decide) rfl ?_
            exact v_ireturn O T rfl rfl (by decide) (by decide) dX9_shift_107 (⟨rfl, rfl⟩)
          · skip
            have z5 := b2i_0.mp z5
            exact absurd ⟨j, n, rfl, rfl, hm⟩ z5
      · skip
        exact absurd heq z3
    · skip
      have z2 := b2i_0.mp z2
      exact absurd hs2 z2
set_option maxRecDepth 100000 in
set_option maxHeartbeats 4000000 in
theorem sp_X9_shift_2 {D : G} {o : Nat} {ca : Nat} {im : Nat} {tk : Int32} {txo : Nat} {ba : Nat} {va : Nat} {vc : Nat} {nwk : Nat} {nt : Nat} {ro : Nat} {lo : Nat} {bd : Nat} {ta : Nat} {tt : Nat → Option Nat} {t : Nat} {ti : Nat} {u : Int32} {i : Int32} {j : Int32} {n : Int32} (hk : t < 6) (ht : tt t = some ti) (hu : ¬ isIx u 6) : Sp D mX9_shift 30 0 0 [.ref o, .int (nI t), .int i, .int u, .int j, .int n] [(o, .inr (9, [.ref ca, .ref im, .int tk, .ref txo, .ref ba, .ref va, .int (nI vc), .ref nwk, .ref nt, .ref ro, .ref lo, .ref bd, .ref ta])), (ta, eT D 6 tt)] (fun r w => r = some (.int (-1)) ∧ w = [(o, .inr (9, [.ref ca, .ref im, .int tk, .ref txo, .ref ba, .ref va, .int (nI vc), .ref nwk, .ref nt, .ref ro, .ref lo, .ref bd, .ref ta])), (ta, eT D 6 tt)]) := by
  refine Sp.of (by decide) (Nat.le_of_ble_eq_true rfl) (fun X O T => ?_)
  refine v_eq (lv' := [(0, .ref o), (1, .int (nI t)), (2, .int i), (3, .int u), (4, .int j), (5, .int n)]) rfl rfl rfl rfl ?_
  refine v_aload_n O dX9_shift_0 0 rfl ?_
  refine v_iload_n O dX9_shift_1 1 rfl ?_
  refine v_cV (T := TX9) (ci := 9) (As := [.int (nI t)]) (wr := []) (st := []) O cf_X9_243 rfl (sp_X9_tapeAt_i (o := o) (ca := ca) (im := im) (tk := tk) (txo := txo) (ba := ba) (va := va) (vc := vc) (nwk := nwk) (nt := nt) (ro := ro) (lo := lo) (bd := bd) (ta := ta) (tt := tt) (k := t) (ti := ti) (hk) (ht)) dX9_shift_2 rfl rfl 0 rfl [0, 1] [] (by decide) rfl rfl (by decide) (by decide) (by decide) (Nat.le_of_ble_eq_true rfl) (by decide) (by decide) (fun r_2 w_3 h_1 => ?_)
  obtain ⟨rfl, rfl⟩ := h_1
  refine v_eq (st' := [.ref ti]) (ws' := [(o, .inr (9, [.ref ca, .ref im, .int tk, .ref txo, .ref ba, .ref va, .int (nI vc), .ref nwk, .ref nt, .ref ro, .ref lo, .ref bd, .ref ta])), (ta, eT D 6 tt)]) rfl rfl rfl rfl ?_
  refine v_astore (lv' := [(0, .ref o), (1, .int (nI t)), (2, .int i), (3, .int u), (4, .int j), (5, .int n), (6, .ref ti)]) O dX9_shift_5 (by decide) rfl ?_
  refine v_aload_n O dX9_shift_7 0 rfl ?_
  refine v_iload_n O dX9_shift_8 3 rfl ?_
  refine v_cV (T := TX9) (ci := 9) (As := [.int u]) (wr := []) (st := []) O cf_X9_243 rfl (sp_X9_tapeAt_o (o := o) (ca := ca) (im := im) (tk := tk) (txo := txo) (ba := ba) (va := va) (vc := vc) (nwk := nwk) (nt := nt) (ro := ro) (lo := lo) (bd := bd) (ta := ta) (tt := tt) (k := u) (hu)) dX9_shift_9 rfl rfl 0 rfl [0, 1] [] (by decide) rfl rfl (by decide) (by decide) (by decide) (Nat.le_of_ble_eq_true rfl) (by decide) (by decide) (fun r_5 w_6 h_4 => ?_)
  obtain ⟨rfl, rfl⟩ := h_4
  refine v_eq (st' := [.null]) (ws' := [(o, .inr (9, [.ref ca, .ref im, .int tk, .ref txo, .ref ba, .ref va, .int (nI vc), .ref nwk, .ref nt, .ref ro, .ref lo, .ref bd, .ref ta])), (ta, eT D 6 tt)]) rfl rfl rfl rfl ?_
  refine v_astoreN (lv' := [(0, .ref o), (1, .int (nI t)), (2, .int i), (3, .int u), (4, .int j), (5, .int n), (6, .ref ti), (7, .null)]) O dX9_shift_12 (by decide) rfl ?_
  refine v_aload O dX9_shift_14 6 rfl ?_
  refine v_ifnull O dX9_shift_16 ?_
  refine v_aloadN O dX9_shift_19 7 rfl ?_
  refine v_ifnonnullN O dX9_shift_21 ?_
  refine v_iconst (v := -1) O dX9_shift_24 (by decide) ?_
  exact v_ireturn O T rfl rfl (by decide) (by decide) dX9_shift_25 (⟨rfl, rfl⟩)
set_option maxRecDepth 100000 in
set_option maxHeartbeats 4000000 in
theorem sp_X9_shift_1 {D : G} {o : Nat} {ca : Nat} {im : Nat} {tk : Int32} {txo : Nat} {ba : Nat} {va : Nat} {vc : Nat} {nwk : Nat} {nt : Nat} {ro : Nat} {lo : Nat} {bd : Nat} {ta : Nat} {tt : Nat → Option Nat} {t : Int32} {u : Int32} {i : Int32} {j : Int32} {n : Int32} (hk : ¬ isIx t 6) (hT : ∀ zk, zk < 6 → ∃ za : Nat, tt zk = some za) : Sp D mX9_shift 30 0 0 [.ref o, .int t, .int i, .int u, .int j, .int n] [(o, .inr (9, [.ref ca, .ref im, .int tk, .ref txo, .ref ba, .ref va, .int (nI vc), .ref nwk, .ref nt, .ref ro, .ref lo, .ref bd, .ref ta])), (ta, eT D 6 tt)] (fun r w => r = some (.int (-1)) ∧ w = [(o, .inr (9, [.ref ca, .ref im, .int tk, .ref txo, .ref ba, .ref va, .int (nI vc), .ref nwk, .ref nt, .ref ro, .ref lo, .ref bd, .ref ta])), (ta, eT D 6 tt)]) := by
  refine Sp.of (by decide) (Nat.le_of_ble_eq_true rfl) (fun X O T => ?_)
  refine v_eq (lv' := [(0, .ref o), (1, .int t), (2, .int i), (3, .int u), (4, .int j), (5, .int n)]) rfl rfl rfl rfl ?_
  refine v_aload_n O dX9_shift_0 0 rfl ?_
  refine v_iload_n O dX9_shift_1 1 rfl ?_
  refine v_cV (T := TX9) (ci := 9) (As := [.int t]) (wr := []) (st := []) O cf_X9_243 rfl (sp_X9_tapeAt_o (o := o) (ca := ca) (im := im) (tk := tk) (txo := txo) (ba := ba) (va := va) (vc := vc) (nwk := nwk) (nt := nt) (ro := ro) (lo := lo) (bd := bd) (ta := ta) (tt := tt) (k := t) (hk)) dX9_shift_2 rfl rfl 0 rfl [0, 1] [] (by decide) rfl rfl (by decide) (by decide) (by decide) (Nat.le_of_ble_eq_true rfl) (by decide) (by decide) (fun r_2 w_3 h_1 => ?_)
  obtain ⟨rfl, rfl⟩ := h_1
  refine v_eq (st' := [.null]) (ws' := [(o, .inr (9, [.ref ca, .ref im, .int tk, .ref txo, .ref ba, .ref va, .int (nI vc), .ref nwk, .ref nt, .ref ro, .ref lo, .ref bd, .ref ta])), (ta, eT D 6 tt)]) rfl rfl rfl rfl ?_
  refine v_astoreN (lv' := [(0, .ref o), (1, .int t), (2, .int i), (3, .int u), (4, .int j), (5, .int n), (6, .null)]) O dX9_shift_5 (by decide) rfl ?_
  refine v_aload_n O dX9_shift_7 0 rfl ?_
  refine v_iload_n O dX9_shift_8 3 rfl ?_
  by_cases zu : isIx u 6
  · skip
    obtain ⟨uk, hu6, z_u⟩ := zu
    obtain ⟨ti9, z_t⟩ := hT uk hu6
    refine v_top (y := nI uk) z_u ?_
    refine v_cV (T := TX9) (ci := 9) (As := [.int (nI uk)]) (wr := []) (st := []) O cf_X9_243 rfl (sp_X9_tapeAt_i (o := o) (ca := ca) (im := im) (tk := tk) (txo := txo) (ba := ba) (va := va) (vc := vc) (nwk := nwk) (nt := nt) (ro := ro) (lo := lo) (bd := bd) (ta := ta) (tt := tt) (k := uk) (ti := ti9) (hu6) (z_t)) dX9_shift_9 rfl rfl 0 rfl [0, 1] [] (by decide) rfl rfl (by decide) (by decide) (by decide) (Nat.le_of_ble_eq_true rfl) (by decide) (by decide) (fun r_5 w_6 h_4 => ?_)
    obtain ⟨rfl, rfl⟩ := h_4
    refine v_eq (st' := [.ref ti9]) (ws' := [(o, .inr (9, [.ref ca, .ref im, .int tk, .ref txo, .ref ba, .ref va, .int (nI vc), .ref nwk, .ref nt, .ref ro, .ref lo, .ref bd, .ref ta])), (ta, eT D 6 tt)]) rfl rfl rfl rfl ?_
    refine v_astore (lv' := [(0, .ref o), (1, .int t), (2, .int i), (3, .int u), (4, .int j), (5, .int n), (6, .null), (7, .ref ti9)]) O dX9_shift_12 (by decide) rfl ?_
    refine v_aloadN O dX9_shift_14 6 rfl ?_
    refine v_ifnullN O 24 dX9_shift_16 (by decide) ?_
    refine v_iconst (v := -1) O dX9_shift_24 (by decide) ?_
    exact v_ireturn O T rfl rfl (by decide) (by decide) dX9_shift_25 (⟨rfl, rfl⟩)
  · skip
    refine v_cV (T := TX9) (ci := 9) (As := [.int u]) (wr := []) (st := []) O cf_X9_243 rfl (sp_X9_tapeAt_o (o := o) (ca := ca) (im := im) (tk := tk) (txo := txo) (ba := ba) (va := va) (vc := vc) (nwk := nwk) (nt := nt) (ro := ro) (lo := lo) (bd := bd) (ta := ta) (tt := tt) (k := u) (zu)) dX9_shift_9 rfl rfl 0 rfl [0, 1] [] (by decide) rfl rfl (by decide) (by decide) (by decide) (Nat.le_of_ble_eq_true rfl) (by decide) (by decide) (fun r_8 w_9 h_7 => ?_)
    obtain ⟨rfl, rfl⟩ := h_7
    refine v_eq (st' := [.null]) (ws' := [(o, .inr (9, [.ref ca, .ref im, .int tk, .ref txo, .ref ba, .ref va, .int (nI vc), .ref nwk, .ref nt, .ref ro, .ref lo, .ref bd, .ref ta])), (ta, eT D 6 tt)]) rfl rfl rfl rfl ?_
    refine v_astoreN (lv' := [(0, .ref o), (1, .int t), (2, .int i), (3, .int u), (4, .int j), (5, .int n), (6, .null), (7, .null)]) O dX9_shift_12 (by decide) rfl ?_
    refine v_aloadN O dX9_shift_14 6 rfl ?_
    refine v_ifnullN O 24 dX9_shift_16 (by decide) ?_
    refine v_iconst (v := -1) O dX9_shift_24 (by decide) ?_
    exact v_ireturn O T rfl rfl (by decide) (by decide) dX9_shift_25 (⟨rfl, rfl⟩)
set_option maxRecDepth 100000 in
set_option maxHeartbeats 4000000 in
theorem sp_X9_big_1 {D : G} {o : Nat} {ca : Nat} {im : Nat} {tk : Int32} {txo : Nat} {ba : Nat} {va : Nat} {vc : Nat} {nwk : Nat} {nt : Nat} {ro : Nat} {lo : Nat} {bd : Nat} {ta : Nat} {d : Int32} {m : Int32} {q : Int32} {zw : Int32} (hw : ¬ zw = -1 ∧ ¬ isIx zw 40 ∧ ¬ (102 ≤ zw ∧ zw ≤ 199)) : Sp D mX9_big 30 0 0 [.ref o, .int d, .int m, .int q, .int zw] [(o, .inr (9, [.ref ca, .ref im, .int tk, .ref txo, .ref ba, .ref va, .int (nI vc), .ref nwk, .ref nt, .ref ro, .ref lo, .ref bd, .ref ta]))] (fun r w => r = some (.int (-1)) ∧ w = [(o, .inr (9, [.ref ca, .ref im, .int tk, .ref txo, .ref ba, .ref va, .int (nI vc), .ref nwk, .ref nt, .ref ro, .ref lo, .ref bd, .ref ta]))]) := by
  refine Sp.of (by decide) (Nat.le_of_ble_eq_true rfl) (fun X O T => ?_)
  refine v_eq (lv' := [(0, .ref o), (1, .int d), (2, .int m), (3, .int q), (4, .int zw)]) rfl rfl rfl rfl ?_
  refine v_iload O dX9_big_0 4 rfl ?_
  refine v_iconst (v := -1) O dX9_big_2 (by decide) ?_
  refine v_icmp_lt O 17 dX9_big_3 (by decide) (fun z1 => ?_) (fun z1 => ?_)
  · skip
    refine v_iconst (v := 0) O dX9_big_17 (by decide) ?_
    refine v_istore (lv' := [(0, .ref o), (1, .int d), (2, .int m), (3, .int q), (4, .int zw), (5, .int 0)]) O dX9_big_18 (by decide) rfl ?_
    refine v_iload O dX9_big_20 4 rfl ?_
    refine v_bipush (v := 102) O dX9_big_22 (by decide) ?_
    refine v_icmp_lt O 39 dX9_big_24 (by decide) (fun z3 => ?_) (fun z3 => ?_)
    · skip
      refine v_iconst (v := 0) O dX9_big_39 (by decide) ?_
      refine v_istore (lv' := [(0, .ref o), (1, .int d), (2, .int m), (3, .int q), (4, .int zw), (5, .int 0), (6, .int 0)]) O dX9_big_40 (by decide) rfl ?_
      refine v_iload O dX9_big_42 5 rfl ?_
      refine v_if_ne O 54 dX9_big_44 (by decide) (fun c => absurd c (by decide)) (fun _ => ?_)
      refine v_iload O dX9_big_47 6 rfl ?_
      refine v_if_ne O 54 dX9_big_49 (by decide) (fun c => absurd c (by decide)) (fun _ => ?_)
      refine v_iconst (v := -1) O dX9_big_52 (by decide) ?_
      exact v_ireturn O T rfl rfl (by decide) (by decide) dX9_big_53 (⟨rfl, rfl⟩)
    · skip
      refine v_iload O dX9_big_27 4 rfl ?_
      refine v_sipush (v := 199) O dX9_big_29 (by decide) ?_
      refine v_icmp_gt O 39 dX9_big_32 (by decide) (fun z4 => ?_) (fun z4 => ?_)
      · skip
        refine v_iconst (v := 0) O dX9_big_39 (by decide) ?_
        refine v_istore (lv' := [(0, .ref o), (1, .int d), (2, .int m), (3, .int q), (4, .int zw), (5, .int 0), (6, .int 0)]) O dX9_big_40 (by decide) rfl ?_
        refine v_iload O dX9_big_42 5 rfl ?_
        refine v_if_ne O 54 dX9_big_44 (by decide) (fun c => absurd c (by decide)) (fun _ => ?_)
        refine v_iload O dX9_big_47 6 rfl ?_
        refine v_if_ne O 54 dX9_big_49 (by decide) (fun c => absurd c (by decide)) (fun _ => ?_)
        refine v_iconst (v := -1) O dX9_big_52 (by decide) ?_
        exact v_ireturn O T rfl rfl (by decide) (by decide) dX9_big_53 (⟨rfl, rfl⟩)
      · skip
        exact absurd ⟨Int32.not_lt.mp z3, Int32.not_lt.mp z4⟩ hw.2.2
  · skip
    refine v_iload O dX9_big_6 4 rfl ?_
    refine v_bipush (v := 40) O dX9_big_8 (by decide) ?_
    refine v_icmp_ge O 17 dX9_big_10 (by decide) (fun z2 => ?_) (fun z2 => ?_)
    · skip
      refine v_iconst (v := 0) O dX9_big_17 (by decide) ?_
      refine v_istore (lv' := [(0, .ref o), (1, .int d), (2, .int m), (3, .int q), (4, .int zw), (5, .int 0)]) O dX9_big_18 (by decide) rfl ?_
      refine v_iload O dX9_big_20 4 rfl ?_
      refine v_bipush (v := 102) O dX9_big_22 (by decide) ?_
      refine v_icmp_lt O 39 dX9_big_24 (by decide) (fun z3 => ?_) (fun z3 => ?_)
      · skip
        refine v_iconst (v := 0) O dX9_big_39 (by decide) ?_
        refine v_istore (lv' := [(0, .ref o), (1, .int d), (2, .int m), (3, .int q), (4, .int zw), (5, .int 0), (6, .int 0)]) O dX9_big_40 (by decide) rfl ?_
        refine v_iload O dX9_big_42 5 rfl ?_
        refine v_if_ne O 54 dX9_big_44 (by decide) (fun c => absurd c (by decide)) (fun _ => ?_)
        refine v_iload O dX9_big_47 6 rfl ?_
        refine v_if_ne O 54 dX9_big_49 (by decide) (fun c => absurd c (by decide)) (fun _ => ?_)
        refine v_iconst (v := -1) O dX9_big_52 (by decide) ?_
        exact v_ireturn O T rfl rfl (by decide) (by decide) dX9_big_53 (⟨rfl, rfl⟩)
      · skip
        refine v_iload O dX9_big_27 4 rfl ?_
        refine v_sipush (v := 199) O dX9_big_29 (by decide) ?_
        refine v_icmp_gt O 39 dX9_big_32 (by decide) (fun z4 => ?_) (fun z4 => ?_)
        · skip
          refine v_iconst (v := 0) O dX9_big_39 (by decide) ?_
          refine v_istore (lv' := [(0, .ref o), (1, .int d), (2, .int m), (3, .int q), (4, .int zw), (5, .int 0), (6, .int 0)]) O dX9_big_40 (by decide) rfl ?_
          refine v_iload O dX9_big_42 5 rfl ?_
          refine v_if_ne O 54 dX9_big_44 (by decide) (fun c => absurd c (by decide)) (fun _ => ?_)
          refine v_iload O dX9_big_47 6 rfl ?_
          refine v_if_ne O 54 dX9_big_49 (by decide) (fun c => absurd c (by decide)) (fun _ => ?_)
          refine v_iconst (v := -1) O dX9_big_52 (by decide) ?_
          exact v_ireturn O T rfl rfl (by decide) (by decide) dX9_big_53 (⟨rfl, rfl⟩)
        · skip
          exact absurd ⟨Int32.not_lt.mp z3, Int32.not_lt.mp z4⟩ hw.2.2
    · skip
      exact absurd (isIx_t (n := 40) (by decide) (zm1_n z1 hw.1) z2) hw.2.1
set_option maxRecDepth 100000 in
set_option maxHeartbeats 4000000 in
theorem sp_X9_big_2 {D : G} {o : Nat} {ca : Nat} {im : Nat} {tk : Int32} {txo : Nat} {ba : Nat} {va : Nat} {vc : Nat} {nwk : Nat} {nt : Nat} {ro : Nat} {lo : Nat} {bd : Nat} {ta : Nat} {d : Int32} {m : Int32} {q : Int32} (hb : ¬ (2 ≤ d ∧ d ≤ 12 ∧ 1 ≤ m ∧ m ≤ 30 ∧ 0 ≤ q ∧ q ≤ 9)) : Sp D mX9_big 30 0 0 [.ref o, .int d, .int m, .int q, .int (-1)] [(o, .inr (9, [.ref ca, .ref im, .int tk, .ref txo, .ref ba, .ref va, .int (nI vc), .ref nwk, .ref nt, .ref ro, .ref lo, .ref bd, .ref ta]))] (fun r w => r = some (.int (-2)) ∧ w = [(o, .inr (9, [.ref ca, .ref im, .int tk, .ref txo, .ref ba, .ref va, .int (nI vc), .ref nwk, .ref nt, .ref ro, .ref lo, .ref bd, .ref ta]))]) := by
  refine Sp.of (by decide) (Nat.le_of_ble_eq_true rfl) (fun X O T => ?_)
  refine v_eq (lv' := [(0, .ref o), (1, .int d), (2, .int m), (3, .int q), (4, .int (-1))]) rfl rfl rfl rfl ?_
  refine v_iload O dX9_big_0 4 rfl ?_
  refine v_iconst (v := -1) O dX9_big_2 (by decide) ?_
  refine v_icmp_lt O 17 dX9_big_3 (by decide) (fun z1 => ?_) (fun z1 => ?_)
  · skip
    exact absurd z1 (by decide)
  · skip
    refine v_iload O dX9_big_6 4 rfl ?_
    refine v_bipush (v := 40) O dX9_big_8 (by decide) ?_
    refine v_icmp_ge O 17 dX9_big_10 (by decide) (fun z2 => ?_) (fun z2 => ?_)
    · skip
      exact absurd z2 (by decide)
    · skip
      refine v_iconst (v := 1) O dX9_big_13 (by decide) ?_
      refine v_goto O 18 dX9_big_14 (by decide) ?_
      refine v_istore (lv' := [(0, .ref o), (1, .int d), (2, .int m), (3, .int q), (4, .int (-1)), (5, .int 1)]) O dX9_big_18 (by decide) rfl ?_
      refine v_iload O dX9_big_20 4 rfl ?_
      refine v_bipush (v := 102) O dX9_big_22 (by decide) ?_
      refine v_icmp_lt O 39 dX9_big_24 (by decide) (fun z3 => ?_) (fun z3 => ?_)
      · skip
        refine v_iconst (v := 0) O dX9_big_39 (by decide) ?_
        refine v_istore (lv' := [(0, .ref o), (1, .int d), (2, .int m), (3, .int q), (4, .int (-1)), (5, .int 1), (6, .int 0)]) O dX9_big_40 (by decide) rfl ?_
        refine v_iload O dX9_big_42 5 rfl ?_
        refine v_if_ne O 54 dX9_big_44 (by decide) (fun _ => ?_) (fun c => absurd c (by decide))
        refine v_iload_n O dX9_big_54 1 rfl ?_
        refine v_iconst (v := 2) O dX9_big_55 (by decide) ?_
        refine v_icmp_lt O 86 dX9_big_56 (by decide) (fun z5 => ?_) (fun z5 => ?_)
        · skip
          refine v_bipush (v := -2) O dX9_big_86 (by decide) ?_
          exact v_ireturn O T rfl rfl (by decide) (by decide) dX9_big_88 (⟨rfl, rfl⟩)
        · skip
          refine v_iload_n O dX9_big_59 1 rfl ?_
          refine v_bipush (v := 12) O dX9_big_60 (by decide) ?_
          refine v_icmp_gt O 86 dX9_big_62 (by decide) (fun z6 => ?_) (fun z6 => ?_)
          · skip
            refine v_bipush (v := -2) O dX9_big_86 (by decide) ?_
            exact v_ireturn O T rfl rfl (by decide) (by decide) dX9_big_88 (⟨rfl, rfl⟩)
          · skip
            refine v_iload_n O dX9_big_65 2 rfl ?_
            refine v_iconst (v := 1) O dX9_big_66 (by decide) ?_
            refine v_icmp_lt O 86 dX9_big_67 (by decide) (fun z7 => ?_) (fun z7 => ?_)
            · skip
              refine v_bipush (v := -2) O dX9_big_86 (by decide) ?_
              exact v_ireturn O T rfl rfl (by decide) (by decide) dX9_big_88 (⟨rfl, rfl⟩)
            · skip
              refine v_iload_n O dX9_big_70 2 rfl ?_
              refine v_bipush (v := 30) O dX9_big_71 (by decide) ?_
              refine v_icmp_gt O 86 dX9_big_73 (by decide) (fun z8 => ?_) (fun z8 => ?_)
              · skip
                refine v_bipush (v := -2) O dX9_big_86 (by decide) ?_
                exact v_ireturn O T rfl rfl (by decide) (by decide) dX9_big_88 (⟨rfl, rfl⟩)
              · skip
                refine v_iload_n O dX9_big_76 3 rfl ?_
                refine v_if_lt O 86 dX9_big_77 (by decide) (fun z9 => ?_) (fun z9 => ?_)
                · skip
                  refine v_bipush (v := -2) O dX9_big_86 (by decide) ?_
                  exact v_ireturn O T rfl rfl (by decide) (by decide) dX9_big_88 (⟨rfl, rfl⟩)
                · skip
                  refine v_iload_n O dX9_big_80 3 rfl ?_
                  refine v_bipush (v := 9) O dX9_big_81 (by decide) ?_
                  refine v_icmp_le O 89 dX9_big_83 (by decide) (fun z10 => ?_) (fun z10 => ?_)
                  · skip
                    exact absurd ⟨Int32.not_lt.mp z5, Int32.not_lt.mp z6, Int32.not_lt.mp z7, Int32.not_lt.mp z8, Int32.not_lt.mp z9, z10⟩ hb
                  · skip
                    refine v_bipush (v := -2) O dX9_big_86 (by decide) ?_
                    exact v_ireturn O T rfl rfl (by decide) (by decide) dX9_big_88 (⟨rfl, rfl⟩)
      · skip
        exact absurd (by decide) z3
set_option maxRecDepth 100000 in
set_option maxHeartbeats 4000000 in
theorem sp_X9_big_3 {D : G} {o : Nat} {ca : Nat} {im : Nat} {tk : Int32} {txo : Nat} {ba : Nat} {va : Nat} {vc : Nat} {nwk : Nat} {nt : Nat} {ro : Nat} {lo : Nat} {bd : Nat} {ta : Nat} {dg : Nat} {f : Nat → Int32} {d : Nat} {m : Nat} {q : Nat} (hd0 : 2 ≤ d) (hd : d ≤ 12) (hm0 : 1 ≤ m) (hm : m ≤ 30) (ho : q ≤ 9) : Sp D mX9_big 30 0 0 [.ref o, .int (nI d), .int (nI m), .int (nI q), .int (-1)] [(o, .inr (9, [.ref ca, .ref im, .int tk, .ref txo, .ref ba, .ref va, .int (nI vc), .ref nwk, .ref nt, .ref ro, .ref lo, .ref bd, .ref ta])), (lo, .inr (2, [.ref dg])), (dg, eI D 40 f)] (fun r w => ∃ f1 : Nat → Int32, r = some (.int (nI (topd (fun zi => bigN d m q / 10 ^ zi % 10) 40))) ∧ w = [(o, .inr (9, [.ref ca, .ref im, .int tk, .ref txo, .ref ba, .ref va, .int (nI vc), .ref nwk, .ref nt, .ref ro, .ref lo, .ref bd, .ref ta])), (lo, .inr (2, [.ref dg])), (dg, eI D 40 f1)]) := by
  refine Sp.of (by decide) (Nat.le_of_ble_eq_true rfl) (fun X O T => ?_)
  refine v_eq (lv' := [(0, .ref o), (1, .int (nI d)), (2, .int (nI m)), (3, .int (nI q)), (4, .int (-1))]) rfl rfl rfl rfl ?_
  refine v_iload O dX9_big_0 4 rfl ?_
  refine v_iconst (v := -1) O dX9_big_2 (by decide) ?_
  refine v_icmp_lt O 17 dX9_big_3 (by decide) (fun z1 => ?_) (fun z1 => ?_)
  · skip
    exact absurd z1 (by decide)
  · skip
    refine v_iload O dX9_big_6 4 rfl ?_
    refine v_bipush (v := 40) O dX9_big_8 (by decide) ?_
    refine v_icmp_ge O 17 dX9_big_10 (by decide) (fun z2 => ?_) (fun z2 => ?_)
    · skip
      exact absurd z2 (by decide)
    · skip
      refine v_iconst (v := 1) O dX9_big_13 (by decide) ?_
      refine v_goto O 18 dX9_big_14 (by decide) ?_
      refine v_istore (lv' := [(0, .ref o), (1, .int (nI d)), (2, .int (nI m)), (3, .int (nI q)), (4, .int (-1)), (5, .int 1)]) O dX9_big_18 (by decide) rfl ?_
      refine v_iload O dX9_big_20 4 rfl ?_
      refine v_bipush (v := 102) O dX9_big_22 (by decide) ?_
      refine v_icmp_lt O 39 dX9_big_24 (by decide) (fun z3 => ?_) (fun z3 => ?_)
      · skip
        refine v_iconst (v := 0) O dX9_big_39 (by decide) ?_
        refine v_istore (lv' := [(0, .ref o), (1, .int (nI d)), (2, .int (nI m)), (3, .int (nI q)), (4, .int (-1)), (5, .int 1), (6, .int 0)]) O dX9_big_40 (by decide) rfl ?_
        refine v_iload O dX9_big_42 5 rfl ?_
        refine v_if_ne O 54 dX9_big_44 (by decide) (fun _ => ?_) (fun c => absurd c (by decide))
        refine v_iload_n O dX9_big_54 1 rfl ?_
        refine v_iconst (v := 2) O dX9_big_55 (by decide) ?_
        refine v_icmp_lt O 86 dX9_big_56 (by decide) (fun z5 => ?_) (fun z5 => ?_)
        · skip
          have z5 := (c_lt (x := nI d) (y := 2) (a := d) (b := 2) rfl rfl (by omega) (by omega)).mp z5
          exact absurd z5 (by omega)
        · skip
          have z5 := (not_congr (c_lt (x := nI d) (y := 2) (a := d) (b := 2) rfl rfl (by omega) (by omega))).mp z5
          refine v_iload_n O dX9_big_59 1 rfl ?_
          refine v_bipush (v := 12) O dX9_big_60 (by decide) ?_
          refine v_icmp_gt O 86 dX9_big_62 (by decide) (fun z6 => ?_) (fun z6 => ?_)
          · skip
            have z6 := (c_lt' (x := nI d) (y := 12) (a := d) (b := 12) rfl rfl (by omega) (by omega)).mp z6
            exact absurd z6 (by omega)
          · skip
            have z6 := (not_congr (c_lt' (x := nI d) (y := 12) (a := d) (b := 12) rfl rfl (by omega) (by omega))).mp z6
            refine v_iload_n O dX9_big_65 2 rfl ?_
            refine v_iconst (v := 1) O dX9_big_66 (by decide) ?_
            refine v_icmp_lt O 86 dX9_big_67 (by decide) (fun z7 => ?_) (fun z7 => ?_)
            · skip
              have z7 := (c_lt (x := nI m) (y := 1) (a := m) (b := 1) rfl rfl (by omega) (by omega)).mp z7
              exact absurd z7 (by omega)
            · skip
              have z7 := (not_congr (c_lt (x := nI m) (y := 1) (a := m) (b := 1) rfl rfl (by omega) (by omega))).mp z7
              refine v_iload_n O dX9_big_70 2 rfl ?_
              refine v_bipush (v := 30) O dX9_big_71 (by decide) ?_
              refine v_icmp_gt O 86 dX9_big_73 (by decide) (fun z8 => ?_) (fun z8 => ?_)
              · skip
                have z8 := (c_lt' (x := nI m) (y := 30) (a := m) (b := 30) rfl rfl (by omega) (by omega)).mp z8
                exact absurd z8 (by omega)
              · skip
                have z8 := (not_congr (c_lt' (x := nI m) (y := 30) (a := m) (b := 30) rfl rfl (by omega) (by omega))).mp z8
                refine v_iload_n O dX9_big_76 3 rfl ?_
                refine v_if_lt O 86 dX9_big_77 (by decide) (fun c_2 => ?_) (fun c_2 => ?_)
                · skip
                  have c_2 := (c_lt (x := nI q) (y := 0) (a := q) (b := 0) rfl rfl (by omega) (by omega)).mp c_2
                  exact absurd c_2 (by omega)
                · skip
                  have c_2 := (not_congr (c_lt (x := nI q) (y := 0) (a := q) (b := 0) rfl rfl (by omega) (by omega))).mp c_2
                  refine v_iload_n O dX9_big_80 3 rfl ?_
                  refine v_bipush (v := 9) O dX9_big_81 (by decide) ?_
                  refine v_icmp_le O 89 dX9_big_83 (by decide) (fun z10 => ?_) (fun z10 => ?_)
                  · skip
                    have z10 := (c_le (x := nI q) (y := 9) (a := q) (b := 9) rfl rfl (by omega) (by omega)).mp z10
                    refine v_aload_n O dX9_big_89 0 rfl ?_
                    refine gf_X9_71 O rfl dX9_big_90 0 rfl rfl ?_
                    refine v_iload_n O dX9_big_93 1 rfl ?_
                    refine v_iload_n O dX9_big_94 2 rfl ?_
                    refine v_iload_n O dX9_big_95 3 rfl ?_
                    refine v_cV (T := TX2) (ci := 2) (As := [.int (nI d), .int (nI m), .int (nI q)]) (wr := [(o, .inr (9, [.ref ca, .ref im, .int tk, .ref txo, .ref ba, .ref va, .int (nI vc), .ref nwk, .ref nt, .ref ro, .ref lo, .ref bd, .ref ta]))]) (st := []) O cf_X9_222 rfl (sp_X2_becomes (ln := lo) (dg := dg) (f := f) (d := d) (m := m) (o := q) (hd0) (hd) (hm) (ho)) dX9_big_96 rfl rfl 1 rfl [1, 2] [0] (by decide) rfl rfl (by decide) (by decide) (by decide) (Nat.le_of_ble_eq_true rfl) (by decide) (by decide) (fun r_4 w_5 h_3 => ?_)
                    obtain ⟨g_6, rfl, rfl, h_g⟩ := h_3
                    refine v_eq (st' := []) (ws' := [(o, .inr (9, [.ref ca, .ref im, .int tk, .ref txo, .ref ba, .ref va, .int (nI vc), .ref nwk, .ref nt, .ref ro, .ref lo, .ref bd, .ref ta])), (lo, .inr (2, [.ref dg])), (dg, eI D 40 g_6)]) rfl rfl rfl rfl ?_
                    refine v_iload O dX9_big_99 6 rfl ?_
                    refine v_if_eq O 117 dX9_big_101 (by decide) (fun _ => ?_) (fun c => absurd c (by decide))
                    refine v_iload O dX9_big_117 4 rfl ?_
                    refine v_iconst (v := -1) O dX9_big_119 (by decide) ?_
                    refine v_icmp_ne O 133 dX9_big_120 (by decide) (fun z12 => ?_) (fun z12 => ?_)
                    · skip
                      exact absurd rfl z12
                    · skip
                      refine v_aload_n O dX9_big_123 0 rfl ?_
                      refine gf_X9_71 O rfl dX9_big_124 0 rfl rfl ?_
                      refine v_cV (T := TX2) (ci := 2) (As := []) (wr := [(o, .inr (9, [.ref ca, .ref im, .int tk, .ref txo, .ref ba, .ref va, .int (nI vc), .ref nwk, .ref nt, .ref ro, .ref lo, .ref bd, .ref ta]))]) (st := []) O cf_X9_229 rfl (sp_X2_size (ln := lo) (dg := dg) (f := g_6) (N := (bigN d m q)) (h_g)) dX9_big_127 rfl rfl 1 rfl [1, 2] [0] (by decide) rfl rfl (by decide) (by decide) (by decide) (Nat.le_of_ble_eq_true rfl) (by decide) (by decide) (fun r_9 w_10 h_8 => ?_)
                      obtain ⟨rfl, rfl⟩ := h_8
                      refine v_eq (st' := [.int (nI (topd (fun i => (bigN d m q) / 10 ^ i % 10) 40))]) (ws' := [(o, .inr (9, [.ref ca, .ref im, .int tk, .ref txo, .ref ba, .ref va, .int (nI vc), .ref nwk, .ref nt, .ref ro, .ref lo, .ref bd, .ref ta])), (lo, .inr (2, [.ref dg])), (dg, eI D 40 g_6)]) rfl rfl rfl rfl ?_
                      refine v_goto O 142 dX9_big_130 (by decide) ?_
                      exact v_ireturn O T rfl rfl (by decide) (by decide) dX9_big_142 (⟨_, rfl, rfl⟩)
                  · skip
                    have z10 := (not_congr (c_le (x := nI q) (y := 9) (a := q) (b := 9) rfl rfl (by omega) (by omega))).mp z10
                    exact absurd z10 (by omega)
      · skip
        exact absurd (by decide) z3
set_option maxRecDepth 100000 in
set_option maxHeartbeats 4000000 in
theorem sp_X9_big_4 {D : G} {o : Nat} {ca : Nat} {im : Nat} {tk : Int32} {txo : Nat} {ba : Nat} {va : Nat} {vc : Nat} {nwk : Nat} {nt : Nat} {ro : Nat} {lo : Nat} {bd : Nat} {ta : Nat} {d : Int32} {m : Int32} {q : Int32} {zw : Nat} (hw : zw < 40) (hb : ¬ (2 ≤ d ∧ d ≤ 12 ∧ 1 ≤ m ∧ m ≤ 30 ∧ 0 ≤ q ∧ q ≤ 9)) : Sp D mX9_big 30 0 0 [.ref o, .int d, .int m, .int q, .int (nI zw)] [(o, .inr (9, [.ref ca, .ref im, .int tk, .ref txo, .ref ba, .ref va, .int (nI vc), .ref nwk, .ref nt, .ref ro, .ref lo, .ref bd, .ref ta]))] (fun r w => r = some (.int (-2)) ∧ w = [(o, .inr (9, [.ref ca, .ref im, .int tk, .ref txo, .ref ba, .ref va, .int (nI vc), .ref nwk, .ref nt, .ref ro, .ref lo, .ref bd, .ref ta]))]) := by
  refine Sp.of (by decide) (Nat.le_of_ble_eq_true rfl) (fun X O T => ?_)
  refine v_eq (lv' := [(0, .ref o), (1, .int d), (2, .int m), (3, .int q), (4, .int (nI zw))]) rfl rfl rfl rfl ?_
  refine v_iload O dX9_big_0 4 rfl ?_
  refine v_iconst (v := -1) O dX9_big_2 (by decide) ?_
  refine v_icmp_lt O 17 dX9_big_3 (by decide) (fun z1 => ?_) (fun z1 => ?_)
  · skip
    exact absurd z1 (fun z9 => nI_pos (show zw < 2147483648 by omega) (Int32.lt_trans z9 (by decide)))
  · skip
    refine v_iload O dX9_big_6 4 rfl ?_
    refine v_bipush (v := 40) O dX9_big_8 (by decide) ?_
    refine v_icmp_ge O 17 dX9_big_10 (by decide) (fun z2 => ?_) (fun z2 => ?_)
    · skip
      have z2 := (c_le' (x := nI zw) (y := 40) (a := zw) (b := 40) rfl rfl (by omega) (by omega)).mp z2
      exact absurd z2 (by omega)
    · skip
      have z2 := (not_congr (c_le' (x := nI zw) (y := 40) (a := zw) (b := 40) rfl rfl (by omega) (by omega))).mp z2
      refine v_iconst (v := 1) O dX9_big_13 (by decide) ?_
      refine v_goto O 18 dX9_big_14 (by decide) ?_
      refine v_istore (lv' := [(0, .ref o), (1, .int d), (2, .int m), (3, .int q), (4, .int (nI zw)), (5, .int 1)]) O dX9_big_18 (by decide) rfl ?_
      refine v_iload O dX9_big_20 4 rfl ?_
      refine v_bipush (v := 102) O dX9_big_22 (by decide) ?_
      refine v_icmp_lt O 39 dX9_big_24 (by decide) (fun z3 => ?_) (fun z3 => ?_)
      · skip
        have z3 := (c_lt (x := nI zw) (y := 102) (a := zw) (b := 102) rfl rfl (by omega) (by omega)).mp z3
        refine v_iconst (v := 0) O dX9_big_39 (by decide) ?_
        refine v_istore (lv' := [(0, .ref o), (1, .int d), (2, .int m), (3, .int q), (4, .int (nI zw)), (5, .int 1), (6, .int 0)]) O dX9_big_40 (by decide) rfl ?_
        refine v_iload O dX9_big_42 5 rfl ?_
        refine v_if_ne O 54 dX9_big_44 (by decide) (fun _ => ?_) (fun c => absurd c (by decide))
        refine v_iload_n O dX9_big_54 1 rfl ?_
        refine v_iconst (v := 2) O dX9_big_55 (by decide) ?_
        refine v_icmp_lt O 86 dX9_big_56 (by decide) (fun z5 => ?_) (fun z5 => ?_)
        · skip
          refine v_bipush (v := -2) O dX9_big_86 (by decide) ?_
          exact v_ireturn O T rfl rfl (by decide) (by decide) dX9_big_88 (⟨rfl, rfl⟩)
        · skip
          refine v_iload_n O dX9_big_59 1 rfl ?_
          refine v_bipush (v := 12) O dX9_big_60 (by decide) ?_
          refine v_icmp_gt O 86 dX9_big_62 (by decide) (fun z6 => ?_) (fun z6 => ?_)
          · skip
            refine v_bipush (v := -2) O dX9_big_86 (by decide) ?_
            exact v_ireturn O T rfl rfl (by decide) (by decide) dX9_big_88 (⟨rfl, rfl⟩)
          · skip
            refine v_iload_n O dX9_big_65 2 rfl ?_
            refine v_iconst (v := 1) O dX9_big_66 (by decide) ?_
            refine v_icmp_lt O 86 dX9_big_67 (by decide) (fun z7 => ?_) (fun z7 => ?_)
            · skip
              refine v_bipush (v := -2) O dX9_big_86 (by decide) ?_
              exact v_ireturn O T rfl rfl (by decide) (by decide) dX9_big_88 (⟨rfl, rfl⟩)
            · skip
              refine v_iload_n O dX9_big_70 2 rfl ?_
              refine v_bipush (v := 30) O dX9_big_71 (by decide) ?_
              refine v_icmp_gt O 86 dX9_big_73 (by decide) (fun z8 => ?_) (fun z8 => ?_)
              · skip
                refine v_bipush (v := -2) O dX9_big_86 (by decide) ?_
                exact v_ireturn O T rfl rfl (by decide) (by decide) dX9_big_88 (⟨rfl, rfl⟩)
              · skip
                refine v_iload_n O dX9_big_76 3 rfl ?_
                refine v_if_lt O 86 dX9_big_77 (by decide) (fun z9 => ?_) (fun z9 => ?_)
                · skip
                  refine v_bipush (v := -2) O dX9_big_86 (by decide) ?_
                  exact v_ireturn O T rfl rfl (by decide) (by decide) dX9_big_88 (⟨rfl, rfl⟩)
                · skip
                  refine v_iload_n O dX9_big_80 3 rfl ?_
                  refine v_bipush (v := 9) O dX9_big_81 (by decide) ?_
                  refine v_icmp_le O 89 dX9_big_83 (by decide) (fun z10 => ?_) (fun z10 => ?_)
                  · skip
                    exact absurd ⟨Int32.not_lt.mp z5, Int32.not_lt.mp z6, Int32.not_lt.mp z7, Int32.not_lt.mp z8, Int32.not_lt.mp z9, z10⟩ hb
                  · skip
                    refine v_bipush (v := -2) O dX9_big_86 (by decide) ?_
                    exact v_ireturn O T rfl rfl (by decide) (by decide) dX9_big_88 (⟨rfl, rfl⟩)
      · skip
        have z3 := (not_congr (c_lt (x := nI zw) (y := 102) (a := zw) (b := 102) rfl rfl (by omega) (by omega))).mp z3
        exact absurd z3 (by omega)
set_option maxRecDepth 100000 in
set_option maxHeartbeats 4000000 in
theorem sp_X9_big_5 {D : G} {o : Nat} {ca : Nat} {im : Nat} {tk : Int32} {txo : Nat} {ba : Nat} {va : Nat} {vc : Nat} {nwk : Nat} {nt : Nat} {ro : Nat} {lo : Nat} {bd : Nat} {ta : Nat} {dg : Nat} {f : Nat → Int32} {d : Nat} {m : Nat} {q : Nat} {zw : Nat} (hw : zw < 40) (hd0 : 2 ≤ d) (hd : d ≤ 12) (hm0 : 1 ≤ m) (hm : m ≤ 30) (ho : q ≤ 9) : Sp D mX9_big 30 0 0 [.ref o, .int (nI d), .int (nI m), .int (nI q), .int (nI zw)] [(o, .inr (9, [.ref ca, .ref im, .int tk, .ref txo, .ref ba, .ref va, .int (nI vc), .ref nwk, .ref nt, .ref ro, .ref lo, .ref bd, .ref ta])), (lo, .inr (2, [.ref dg])), (dg, eI D 40 f)] (fun r w => ∃ f1 : Nat → Int32, r = some (.int (nI (bigN d m q / 10 ^ zw % 10))) ∧ w = [(o, .inr (9, [.ref ca, .ref im, .int tk, .ref txo, .ref ba, .ref va, .int (nI vc), .ref nwk, .ref nt, .ref ro, .ref lo, .ref bd, .ref ta])), (lo, .inr (2, [.ref dg])), (dg, eI D 40 f1)]) := by
  refine Sp.of (by decide) (Nat.le_of_ble_eq_true rfl) (fun X O T => ?_)
  refine v_eq (lv' := [(0, .ref o), (1, .int (nI d)), (2, .int (nI m)), (3, .int (nI q)), (4, .int (nI zw))]) rfl rfl rfl rfl ?_
  refine v_iload O dX9_big_0 4 rfl ?_
  refine v_iconst (v := -1) O dX9_big_2 (by decide) ?_
  refine v_icmp_lt O 17 dX9_big_3 (by decide) (fun z1 => ?_) (fun z1 => ?_)
  · skip
    exact absurd z1 (fun z9 => nI_pos (show zw < 2147483648 by omega) (Int32.lt_trans z9 (by decide)))
  · skip
    refine v_iload O dX9_big_6 4 rfl ?_
    refine v_bipush (v := 40) O dX9_big_8 (by decide) ?_
    refine v_icmp_ge O 17 dX9_big_10 (by decide) (fun z2 => ?_) (fun z2 => ?_)
    · skip
      have z2 := (c_le' (x := nI zw) (y := 40) (a := zw) (b := 40) rfl rfl (by omega) (by omega)).mp z2
      exact absurd z2 (by omega)
    · skip
      have z2 := (not_congr (c_le' (x := nI zw) (y := 40) (a := zw) (b := 40) rfl rfl (by omega) (by omega))).mp z2
      refine v_iconst (v := 1) O dX9_big_13 (by decide) ?_
      refine v_goto O 18 dX9_big_14 (by decide) ?_
      refine v_istore (lv' := [(0, .ref o), (1, .int (nI d)), (2, .int (nI m)), (3, .int (nI q)), (4, .int (nI zw)), (5, .int 1)]) O dX9_big_18 (by decide) rfl ?_
      refine v_iload O dX9_big_20 4 rfl ?_
      refine v_bipush (v := 102) O dX9_big_22 (by decide) ?_
      refine v_icmp_lt O 39 dX9_big_24 (by decide) (fun z3 => ?_) (fun z3 => ?_)
      · skip
        have z3 := (c_lt (x := nI zw) (y := 102) (a := zw) (b := 102) rfl rfl (by omega) (by omega)).mp z3
        refine v_iconst (v := 0) O dX9_big_39 (by decide) ?_
        refine v_istore (lv' := [(0, .ref o), (1, .int (nI d)), (2, .int (nI m)), (3, .int (nI q)), (4, .int (nI zw)), (5, .int 1), (6, .int 0)]) O dX9_big_40 (by decide) rfl ?_
        refine v_iload O dX9_big_42 5 rfl ?_
        refine v_if_ne O 54 dX9_big_44 (by decide) (fun _ => ?_) (fun c => absurd c (by decide))
        refine v_iload_n O dX9_big_54 1 rfl ?_
        refine v_iconst (v := 2) O dX9_big_55 (by decide) ?_
        refine v_icmp_lt O 86 dX9_big_56 (by decide) (fun z5 => ?_) (fun z5 => ?_)
        · skip
          have z5 := (c_lt (x := nI d) (y := 2) (a := d) (b := 2) rfl rfl (by omega) (by omega)).mp z5
          exact absurd z5 (by omega)
        · skip
          have z5 := (not_congr (c_lt (x := nI d) (y := 2) (a := d) (b := 2) rfl rfl (by omega) (by omega))).mp z5
          refine v_iload_n O dX9_big_59 1 rfl ?_
          refine v_bipush (v := 12) O dX9_big_60 (by decide) ?_
          refine v_icmp_gt O 86 dX9_big_62 (by decide) (fun z6 => ?_) (fun z6 => ?_)
          · skip
            have z6 := (c_lt' (x := nI d) (y := 12) (a := d) (b := 12) rfl rfl (by omega) (by omega)).mp z6
            exact absurd z6 (by omega)
          · skip
            have z6 := (not_congr (c_lt' (x := nI d) (y := 12) (a := d) (b := 12) rfl rfl (by omega) (by omega))).mp z6
            refine v_iload_n O dX9_big_65 2 rfl ?_
            refine v_iconst (v := 1) O dX9_big_66 (by decide) ?_
            refine v_icmp_lt O 86 dX9_big_67 (by decide) (fun z7 => ?_) (fun z7 => ?_)
            · skip
              have z7 := (c_lt (x := nI m) (y := 1) (a := m) (b := 1) rfl rfl (by omega) (by omega)).mp z7
              exact absurd z7 (by omega)
            · skip
              have z7 := (not_congr (c_lt (x := nI m) (y := 1) (a := m) (b := 1) rfl rfl (by omega) (by omega))).mp z7
              refine v_iload_n O dX9_big_70 2 rfl ?_
              refine v_bipush (v := 30) O dX9_big_71 (by decide) ?_
              refine v_icmp_gt O 86 dX9_big_73 (by decide) (fun z8 => ?_) (fun z8 => ?_)
              · skip
                have z8 := (c_lt' (x := nI m) (y := 30) (a := m) (b := 30) rfl rfl (by omega) (by omega)).mp z8
                exact absurd z8 (by omega)
              · skip
                have z8 := (not_congr (c_lt' (x := nI m) (y := 30) (a := m) (b := 30) rfl rfl (by omega) (by omega))).mp z8
                refine v_iload_n O dX9_big_76 3 rfl ?_
                refine v_if_lt O 86 dX9_big_77 (by decide) (fun c_2 => ?_) (fun c_2 => ?_)
                · skip
                  have c_2 := (c_lt (x := nI q) (y := 0) (a := q) (b := 0) rfl rfl (by omega) (by omega)).mp c_2
                  exact absurd c_2 (by omega)
                · skip
                  have c_2 := (not_congr (c_lt (x := nI q) (y := 0) (a := q) (b := 0) rfl rfl (by omega) (by omega))).mp c_2
                  refine v_iload_n O dX9_big_80 3 rfl ?_
                  refine v_bipush (v := 9) O dX9_big_81 (by decide) ?_
                  refine v_icmp_le O 89 dX9_big_83 (by decide) (fun z10 => ?_) (fun z10 => ?_)
                  · skip
                    have z10 := (c_le (x := nI q) (y := 9) (a := q) (b := 9) rfl rfl (by omega) (by omega)).mp z10
                    refine v_aload_n O dX9_big_89 0 rfl ?_
                    refine gf_X9_71 O rfl dX9_big_90 0 rfl rfl ?_
                    refine v_iload_n O dX9_big_93 1 rfl ?_
                    refine v_iload_n O dX9_big_94 2 rfl ?_
                    refine v_iload_n O dX9_big_95 3 rfl ?_
                    refine v_cV (T := TX2) (ci := 2) (As := [.int (nI d), .int (nI m), .int (nI q)]) (wr := [(o, .inr (9, [.ref ca, .ref im, .int tk, .ref txo, .ref ba, .ref va, .int (nI vc), .ref nwk, .ref nt, .ref ro, .ref lo, .ref bd, .ref ta]))]) (st := []) O cf_X9_222 rfl (sp_X2_becomes (ln := lo) (dg := dg) (f := f) (d := d) (m := m) (o := q) (hd0) (hd) (hm) (ho)) dX9_big_96 rfl rfl 1 rfl [1, 2] [0] (by decide) rfl rfl (by decide) (by decide) (by decide) (Nat.le_of_ble_eq_true rfl) (by decide) (by decide) (fun r_4 w_5 h_3 => ?_)
                    obtain ⟨g_6, rfl, rfl, h_g⟩ := h_3
                    refine v_eq (st' := []) (ws' := [(o, .inr (9, [.ref ca, .ref im, .int tk, .ref txo, .ref ba, .ref va, .int (nI vc), .ref nwk, .ref nt, .ref ro, .ref lo, .ref bd, .ref ta])), (lo, .inr (2, [.ref dg])), (dg, eI D 40 g_6)]) rfl rfl rfl rfl ?_
                    refine v_iload O dX9_big_99 6 rfl ?_
                    refine v_if_eq O 117 dX9_big_101 (by decide) (fun _ => ?_) (fun c => absurd c (by decide))
                    refine v_iload O dX9_big_117 4 rfl ?_
                    refine v_iconst (v := -1) O dX9_big_119 (by decide) ?_
                    refine v_icmp_ne O 133 dX9_big_120 (by decide) (fun z12 => ?_) (fun z12 => ?_)
                    · skip
                      refine v_aload_n O dX9_big_133 0 rfl ?_
                      refine gf_X9_71 O rfl dX9_big_134 0 rfl rfl ?_
                      refine v_iload O dX9_big_137 4 rfl ?_
                      refine v_cV (T := TX2) (ci := 2) (As := [.int (nI zw)]) (wr := [(o, .inr (9, [.ref ca, .ref im, .int tk, .ref txo, .ref ba, .ref va, .int (nI vc), .ref nwk, .ref nt, .ref ro, .ref lo, .ref bd, .ref ta]))]) (st := []) O cf_X9_230 rfl (sp_X2_digit (ln := lo) (dg := dg) (f := g_6) (k := zw) (hw)) dX9_big_139 rfl rfl 1 rfl [1, 2] [0] (by decide) rfl rfl (by decide) (by decide) (by decide) (Nat.le_of_ble_eq_true rfl) (by decide) (by decide) (fun r_9 w_10 h_8 => ?_)
                      obtain ⟨rfl, rfl⟩ := h_8
                      refine v_eq (st' := [.int (g_6 zw)]) (ws' := [(o, .inr (9, [.ref ca, .ref im, .int tk, .ref txo, .ref ba, .ref va, .int (nI vc), .ref nwk, .ref nt, .ref ro, .ref lo, .ref bd, .ref ta])), (lo, .inr (2, [.ref dg])), (dg, eI D 40 g_6)]) rfl rfl rfl rfl ?_
                      exact v_ireturn O T rfl rfl (by decide) (by decide) dX9_big_142 (⟨_, by rw [h_g zw hw]; rfl, rfl⟩)
                    · skip
                      exact absurd z12 (zI_m1 (by omega))
                  · skip
                    have z10 := (not_congr (c_le (x := nI q) (y := 9) (a := q) (b := 9) rfl rfl (by omega) (by omega))).mp z10
                    exact absurd z10 (by omega)
      · skip
        have z3 := (not_congr (c_lt (x := nI zw) (y := 102) (a := zw) (b := 102) rfl rfl (by omega) (by omega))).mp z3
        exact absurd z3 (by omega)
set_option maxRecDepth 100000 in
set_option maxHeartbeats 4000000 in
theorem sp_X9_big_6 {D : G} {o : Nat} {ca : Nat} {im : Nat} {tk : Int32} {txo : Nat} {ba : Nat} {va : Nat} {vc : Nat} {nwk : Nat} {nt : Nat} {ro : Nat} {lo : Nat} {bd : Nat} {ta : Nat} {d : Int32} {m : Int32} {q : Int32} {zw : Nat} (hw1 : 2 ≤ zw) (hw : zw < 100) (hb : ¬ (2 ≤ d ∧ d ≤ 12 ∧ 1 ≤ m ∧ m ≤ 30 ∧ 0 ≤ q ∧ q ≤ 9)) : Sp D mX9_big 30 0 0 [.ref o, .int d, .int m, .int q, .int (nI (zw + 100))] [(o, .inr (9, [.ref ca, .ref im, .int tk, .ref txo, .ref ba, .ref va, .int (nI vc), .ref nwk, .ref nt, .ref ro, .ref lo, .ref bd, .ref ta]))] (fun r w => r = some (.int (-2)) ∧ w = [(o, .inr (9, [.ref ca, .ref im, .int tk, .ref txo, .ref ba, .ref va, .int (nI vc), .ref nwk, .ref nt, .ref ro, .ref lo, .ref bd, .ref ta]))]) := by
  refine Sp.of (by decide) (Nat.le_of_ble_eq_true rfl) (fun X O T => ?_)
  refine v_eq (lv' := [(0, .ref o), (1, .int d), (2, .int m), (3, .int q), (4, .int (nI (zw + 100)))]) rfl rfl rfl rfl ?_
  refine v_iload O dX9_big_0 4 rfl ?_
  refine v_iconst (v := -1) O dX9_big_2 (by decide) ?_
  refine v_icmp_lt O 17 dX9_big_3 (by decide) (fun z1 => ?_) (fun z1 => ?_)
  · skip
    exact absurd z1 (fun z9 => nI_pos (show zw + 100 < 2147483648 by omega) (Int32.lt_trans z9 (by decide)))
  · skip
    refine v_iload O dX9_big_6 4 rfl ?_
    refine v_bipush (v := 40) O dX9_big_8 (by decide) ?_
    refine v_icmp_ge O 17 dX9_big_10 (by decide) (fun z2 => ?_) (fun z2 => ?_)
    · skip
      have z2 := (c_le' (x := nI (zw + 100)) (y := 40) (a := zw + 100) (b := 40) rfl rfl (by omega) (by omega)).mp z2
      refine v_iconst (v := 0) O dX9_big_17 (by decide) ?_
      refine v_istore (lv' := [(0, .ref o), (1, .int d), (2, .int m), (3, .int q), (4, .int (nI (zw + 100))), (5, .int 0)]) O dX9_big_18 (by decide) rfl ?_
      refine v_iload O dX9_big_20 4 rfl ?_
      refine v_bipush (v := 102) O dX9_big_22 (by decide) ?_
      refine v_icmp_lt O 39 dX9_big_24 (by decide) (fun z3 => ?_) (fun z3 => ?_)
      · skip
        have z3 := (c_lt (x := nI (zw + 100)) (y := 102) (a := zw + 100) (b := 102) rfl rfl (by omega) (by omega)).mp z3
        exact absurd z3 (by omega)
      · skip
        have z3 := (not_congr (c_lt (x := nI (zw + 100)) (y := 102) (a := zw + 100) (b := 102) rfl rfl (by omega) (by omega))).mp z3
        refine v_iload O dX9_big_27 4 rfl ?_
        refine v_sipush (v := 199) O dX9_big_29 (by decide) ?_
        refine v_icmp_gt O 39 dX9_big_32 (by decide) (fun z4 => ?_) (fun z4 => ?_)
        · skip
          have z4 := (c_lt' (x := nI (zw + 100)) (y := 199) (a := zw + 100) (b := 199) rfl rfl (by omega) (by omega)).mp z4
          exact absurd z4 (by omega)
        · skip
          have z4 := (not_congr (c_lt' (x := nI (zw + 100)) (y := 199) (a := zw + 100) (b := 199) rfl rfl (by omega) (by omega))).mp z4
          refine v_iconst (v := 1) O dX9_big_35 (by decide) ?_
          refine v_goto O 40 dX9_big_36 (by decide) ?_
          refine v_istore (lv' := [(0, .ref o), (1, .int d), (2, .int m), (3, .int q), (4, .int (nI (zw + 100))), (5, .int 0), (6, .int 1)]) O dX9_big_40 (by decide) rfl ?_
          refine v_iload O dX9_big_42 5 rfl ?_
          refine v_if_ne O 54 dX9_big_44 (by decide) (fun c => absurd c (by decide)) (fun _ => ?_)
          refine v_iload O dX9_big_47 6 rfl ?_
          refine v_if_ne O 54 dX9_big_49 (by decide) (fun _ => ?_) (fun c => absurd c (by decide))
          refine v_iload_n O dX9_big_54 1 rfl ?_
          refine v_iconst (v := 2) O dX9_big_55 (by decide) ?_
          refine v_icmp_lt O 86 dX9_big_56 (by decide) (fun z5 => ?_) (fun z5 => ?_)
          · skip
            refine v_bipush (v := -2) O dX9_big_86 (by decide) ?_
            exact v_ireturn O T rfl rfl (by decide) (by decide) dX9_big_88 (⟨rfl, rfl⟩)
          · skip
            refine v_iload_n O dX9_big_59 1 rfl ?_
            refine v_bipush (v := 12) O dX9_big_60 (by decide) ?_
            refine v_icmp_gt O 86 dX9_big_62 (by decide) (fun z6 => ?_) (fun z6 => ?_)
            · skip
              refine v_bipush (v := -2) O dX9_big_86 (by decide) ?_
              exact v_ireturn O T rfl rfl (by decide) (by decide) dX9_big_88 (⟨rfl, rfl⟩)
            · skip
              refine v_iload_n O dX9_big_65 2 rfl ?_
              refine v_iconst (v := 1) O dX9_big_66 (by decide) ?_
              refine v_icmp_lt O 86 dX9_big_67 (by decide) (fun z7 => ?_) (fun z7 => ?_)
              · skip
                refine v_bipush (v := -2) O dX9_big_86 (by decide) ?_
                exact v_ireturn O T rfl rfl (by decide) (by decide) dX9_big_88 (⟨rfl, rfl⟩)
              · skip
                refine v_iload_n O dX9_big_70 2 rfl ?_
                refine v_bipush (v := 30) O dX9_big_71 (by decide) ?_
                refine v_icmp_gt O 86 dX9_big_73 (by decide) (fun z8 => ?_) (fun z8 => ?_)
                · skip
                  refine v_bipush (v := -2) O dX9_big_86 (by decide) ?_
                  exact v_ireturn O T rfl rfl (by decide) (by decide) dX9_big_88 (⟨rfl, rfl⟩)
                · skip
                  refine v_iload_n O dX9_big_76 3 rfl ?_
                  refine v_if_lt O 86 dX9_big_77 (by decide) (fun z9 => ?_) (fun z9 => ?_)
                  · skip
                    refine v_bipush (v := -2) O dX9_big_86 (by decide) ?_
                    exact v_ireturn O T rfl rfl (by decide) (by decide) dX9_big_88 (⟨rfl, rfl⟩)
                  · skip
                    refine v_iload_n O dX9_big_80 3 rfl ?_
                    refine v_bipush (v := 9) O dX9_big_81 (by decide) ?_
                    refine v_icmp_le O 89 dX9_big_83 (by decide) (fun z10 => ?_) (fun z10 => ?_)
                    · skip
                      exact absurd ⟨Int32.not_lt.mp z5, Int32.not_lt.mp z6, Int32.not_lt.mp z7, Int32.not_lt.mp z8, Int32.not_lt.mp z9, z10⟩ hb
                    · skip
                      refine v_bipush (v := -2) O dX9_big_86 (by decide) ?_
                      exact v_ireturn O T rfl rfl (by decide) (by decide) dX9_big_88 (⟨rfl, rfl⟩)
    · skip
      have z2 := (not_congr (c_le' (x := nI (zw + 100)) (y := 40) (a := zw + 100) (b := 40) rfl rfl (by omega) (by omega))).mp z2
      exact absurd z2 (by omega)
set_option maxRecDepth 100000 in
set_option maxHeartbeats 4000000 in
theorem sp_X9_big_7 {D : G} {o : Nat} {ca : Nat} {im : Nat} {tk : Int32} {txo : Nat} {ba : Nat} {va : Nat} {vc : Nat} {nwk : Nat} {nt : Nat} {ro : Nat} {lo : Nat} {bd : Nat} {ta : Nat} {dg : Nat} {f : Nat → Int32} {d : Nat} {m : Nat} {q : Nat} {zw : Nat} (hw1 : 2 ≤ zw) (hw : zw < 100) (hd0 : 2 ≤ d) (hd : d ≤ 12) (hm0 : 1 ≤ m) (hm : m ≤ 30) (ho : q ≤ 9) : Sp D mX9_big 30 0 0 [.ref o, .int (nI d), .int (nI m), .int (nI q), .int (nI (zw + 100))] [(o, .inr (9, [.ref ca, .ref im, .int tk, .ref txo, .ref ba, .ref va, .int (nI vc), .ref nwk, .ref nt, .ref ro, .ref lo, .ref bd, .ref ta])), (lo, .inr (2, [.ref dg])), (dg, eI D 40 f)] (fun r w => ∃ f1 : Nat → Int32, r = some (.int (nI (hrn (fun zi => bigN d m q / 10 ^ zi % 10) zw 40 0))) ∧ w = [(o, .inr (9, [.ref ca, .ref im, .int tk, .ref txo, .ref ba, .ref va, .int (nI vc), .ref nwk, .ref nt, .ref ro, .ref lo, .ref bd, .ref ta])), (lo, .inr (2, [.ref dg])), (dg, eI D 40 f1)]) := by
  refine Sp.of (by decide) (Nat.le_of_ble_eq_true rfl) (fun X O T => ?_)
  refine v_eq (lv' := [(0, .ref o), (1, .int (nI d)), (2, .int (nI m)), (3, .int (nI q)), (4, .int (nI (zw + 100)))]) rfl rfl rfl rfl ?_
  refine v_iload O dX9_big_0 4 rfl ?_
  refine v_iconst (v := -1) O dX9_big_2 (by decide) ?_
  refine v_icmp_lt O 17 dX9_big_3 (by decide) (fun z1 => ?_) (fun z1 => ?_)
  · skip
    exact absurd z1 (fun z9 => nI_pos (show zw + 100 < 2147483648 by omega) (Int32.lt_trans z9 (by decide)))
  · skip
    refine v_iload O dX9_big_6 4 rfl ?_
    refine v_bipush (v := 40) O dX9_big_8 (by decide) ?_
    refine v_icmp_ge O 17 dX9_big_10 (by decide) (fun z2 => ?_) (fun z2 => ?_)
    · skip
      have z2 := (c_le' (x := nI (zw + 100)) (y := 40) (a := zw + 100) (b := 40) rfl rfl (by omega) (by omega)).mp z2
      refine v_iconst (v := 0) O dX9_big_17 (by decide) ?_
      refine v_istore (lv' := [(0, .ref o), (1, .int (nI d)), (2, .int (nI m)), (3, .int (nI q)), (4, .int (nI (zw + 100))), (5, .int 0)]) O dX9_big_18 (by decide) rfl ?_
      refine v_iload O dX9_big_20 4 rfl ?_
      refine v_bipush (v := 102) O dX9_big_22 (by decide) ?_
      refine v_icmp_lt O 39 dX9_big_24 (by decide) (fun z3 => ?_) (fun z3 => ?_)
      · skip
        have z3 := (c_lt (x := nI (zw + 100)) (y := 102) (a := zw + 100) (b := 102) rfl rfl (by omega) (by omega)).mp z3
        exact absurd z3 (by omega)
      · skip
        have z3 := (not_congr (c_lt (x := nI (zw + 100)) (y := 102) (a := zw + 100) (b := 102) rfl rfl (by omega) (by omega))).mp z3
        refine v_iload O dX9_big_27 4 rfl ?_
        refine v_sipush (v := 199) O dX9_big_29 (by decide) ?_
        refine v_icmp_gt O 39 dX9_big_32 (by decide) (fun z4 => ?_) (fun z4 => ?_)
        · skip
          have z4 := (c_lt' (x := nI (zw + 100)) (y := 199) (a := zw + 100) (b := 199) rfl rfl (by omega) (by omega)).mp z4
          exact absurd z4 (by omega)
        · skip
          have z4 := (not_congr (c_lt' (x := nI (zw + 100)) (y := 199) (a := zw + 100) (b := 199) rfl rfl (by omega) (by omega))).mp z4
          refine v_iconst (v := 1) O dX9_big_35 (by decide) ?_
          refine v_goto O 40 dX9_big_36 (by decide) ?_
          refine v_istore (lv' := [(0, .ref o), (1, .int (nI d)), (2, .int (nI m)), (3, .int (nI q)), (4, .int (nI (zw + 100))), (5, .int 0), (6, .int 1)]) O dX9_big_40 (by decide) rfl ?_
          refine v_iload O dX9_big_42 5 rfl ?_
          refine v_if_ne O 54 dX9_big_44 (by decide) (fun c => absurd c (by decide)) (fun _ => ?_)
          refine v_iload O dX9_big_47 6 rfl ?_
          refine v_if_ne O 54 dX9_big_49 (by decide) (fun _ => ?_) (fun c => absurd c (by decide))
          refine v_iload_n O dX9_big_54 1 rfl ?_
          refine v_iconst (v := 2) O dX9_big_55 (by decide) ?_
          refine v_icmp_lt O 86 dX9_big_56 (by decide) (fun z5 => ?_) (fun z5 => ?_)
          · skip
            have z5 := (c_lt (x := nI d) (y := 2) (a := d) (b := 2) rfl rfl (by omega) (by omega)).mp z5
            exact absurd z5 (by omega)
          · skip
            have z5 := (not_congr (c_lt (x := nI d) (y := 2) (a := d) (b := 2) rfl rfl (by omega) (by omega))).mp z5
            refine v_iload_n O dX9_big_59 1 rfl ?_
            refine v_bipush (v := 12) O dX9_big_60 (by decide) ?_
            refine v_icmp_gt O 86 dX9_big_62 (by decide) (fun z6 => ?_) (fun z6 => ?_)
            · skip
              have z6 := (c_lt' (x := nI d) (y := 12) (a := d) (b := 12) rfl rfl (by omega) (by omega)).mp z6
              exact absurd z6 (by omega)
            · skip
              have z6 := (not_congr (c_lt' (x := nI d) (y := 12) (a := d) (b := 12) rfl rfl (by omega) (by omega))).mp z6
              refine v_iload_n O dX9_big_65 2 rfl ?_
              refine v_iconst (v := 1) O dX9_big_66 (by decide) ?_
              refine v_icmp_lt O 86 dX9_big_67 (by decide) (fun z7 => ?_) (fun z7 => ?_)
              · skip
                have z7 := (c_lt (x := nI m) (y := 1) (a := m) (b := 1) rfl rfl (by omega) (by omega)).mp z7
                exact absurd z7 (by omega)
              · skip
                have z7 := (not_congr (c_lt (x := nI m) (y := 1) (a := m) (b := 1) rfl rfl (by omega) (by omega))).mp z7
                refine v_iload_n O dX9_big_70 2 rfl ?_
                refine v_bipush (v := 30) O dX9_big_71 (by decide) ?_
                refine v_icmp_gt O 86 dX9_big_73 (by decide) (fun z8 => ?_) (fun z8 => ?_)
                · skip
                  have z8 := (c_lt' (x := nI m) (y := 30) (a := m) (b := 30) rfl rfl (by omega) (by omega)).mp z8
                  exact absurd z8 (by omega)
                · skip
                  have z8 := (not_congr (c_lt' (x := nI m) (y := 30) (a := m) (b := 30) rfl rfl (by omega) (by omega))).mp z8
                  refine v_iload_n O dX9_big_76 3 rfl ?_
                  refine v_if_lt O 86 dX9_big_77 (by decide) (fun c_3 => ?_) (fun c_3 => ?_)
                  · skip
                    have c_3 := (c_lt (x := nI q) (y := 0) (a := q) (b := 0) rfl rfl (by omega) (by omega)).mp c_3
                    exact absurd c_3 (by omega)
                  · skip
                    have c_3 := (not_congr (c_lt (x := nI q) (y := 0) (a := q) (b := 0) rfl rfl (by omega) (by omega))).mp c_3
                    refine v_iload_n O dX9_big_80 3 rfl ?_
                    refine v_bipush (v := 9) O dX9_big_81 (by decide) ?_
                    refine v_icmp_le O 89 dX9_big_83 (by decide) (fun z10 => ?_) (fun z10 => ?_)
                    · skip
                      have z10 := (c_le (x := nI q) (y := 9) (a := q) (b := 9) rfl rfl (by omega) (by omega)).mp z10
                      refine v_aload_n O dX9_big_89 0 rfl ?_
                      refine gf_X9_71 O rfl dX9_big_90 0 rfl rfl ?_
                      refine v_iload_n O dX9_big_93 1 rfl ?_
                      refine v_iload_n O dX9_big_94 2 rfl ?_
                      refine v_iload_n O dX9_big_95 3 rfl ?_
                      refine v_cV (T := TX2) (ci := 2) (As := [.int (nI d), .int (nI m), .int (nI q)]) (wr := [(o, .inr (9, [.ref ca, .ref im, .int tk, .ref txo, .ref ba, .ref va, .int (nI vc), .ref nwk, .ref nt, .ref ro, .ref lo, .ref bd, .ref ta]))]) (st := []) O cf_X9_222 rfl (sp_X2_becomes (ln := lo) (dg := dg) (f := f) (d := d) (m := m) (o := q) (hd0) (hd) (hm) (ho)) dX9_big_96 rfl rfl 1 rfl [1, 2] [0] (by decide) rfl rfl (by decide) (by decide) (by decide) (Nat.le_of_ble_eq_true rfl) (by decide) (by decide) (fun r_5 w_6 h_4 => ?_)
                      obtain ⟨g_7, rfl, rfl, h_g⟩ := h_4
                      refine v_eq (st' := []) (ws' := [(o, .inr (9, [.ref ca, .ref im, .int tk, .ref txo, .ref ba, .ref va, .int (nI vc), .ref nwk, .ref nt, .ref ro, .ref lo, .ref bd, .ref ta])), (lo, .inr (2, [.ref dg])), (dg, eI D 40 g_7)]) rfl rfl rfl rfl ?_
                      refine v_iload O dX9_big_99 6 rfl ?_
                      refine v_if_eq O 117 dX9_big_101 (by decide) (fun c => absurd c (by decide)) (fun _ => ?_)
                      refine v_aload_n O dX9_big_104 0 rfl ?_
                      refine gf_X9_71 O rfl dX9_big_105 0 rfl rfl ?_
                      refine v_iload O dX9_big_108 4 rfl ?_
                      refine v_bipush (v := 100) O dX9_big_110 (by decide) ?_
                      refine v_isub O dX9_big_112 ?_
                      refine v_top (y := nI zw) ((show nI (zw + 100) - nI 100 = nI (zw + 100 - 100) from pk_sub (by omega)).trans (by rw [Nat.add_sub_cancel])) ?_
                      refine v_cV (T := TX2) (ci := 2) (As := [.int (nI zw)]) (wr := [(o, .inr (9, [.ref ca, .ref im, .int tk, .ref txo, .ref ba, .ref va, .int (nI vc), .ref nwk, .ref nt, .ref ro, .ref lo, .ref bd, .ref ta]))]) (st := []) O cf_X9_226 rfl (sp_X2_restBy (ln := lo) (dg := dg) (f := g_7) (N := (bigN d m q)) (q := zw) (h_g) (by omega) (hw)) dX9_big_113 rfl rfl 1 rfl [1, 2] [0] (by decide) rfl rfl (by decide) (by decide) (by decide) (Nat.le_of_ble_eq_true rfl) (by decide) (by decide) (fun r_10 w_11 h_9 => ?_)
                      obtain ⟨rfl, rfl⟩ := h_9
                      refine v_eq (st' := [.int (nI (hrn (fun i => (bigN d m q) / 10 ^ i % 10) zw 40 0))]) (ws' := [(o, .inr (9, [.ref ca, .ref im, .int tk, .ref txo, .ref ba, .ref va, .int (nI vc), .ref nwk, .ref nt, .ref ro, .ref lo, .ref bd, .ref ta])), (lo, .inr (2, [.ref dg])), (dg, eI D 40 g_7)]) rfl rfl rfl rfl ?_
                      exact v_ireturn O T rfl rfl (by decide) (by decide) dX9_big_116 (⟨_, rfl, rfl⟩)
                    · skip
                      have z10 := (not_congr (c_le (x := nI q) (y := 9) (a := q) (b := 9) rfl rfl (by omega) (by omega))).mp z10
                      exact absurd z10 (by omega)
    · skip
      have z2 := (not_congr (c_le' (x := nI (zw + 100)) (y := 40) (a := zw + 100) (b := 40) rfl rfl (by omega) (by omega))).mp z2
      exact absurd z2 (by omega)
