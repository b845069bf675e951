-- the calls that look at no row
def cMan (c : CS) (k v : Nat) : CS := (c.men + 1, uN c.kk c.men k, uN c.vv c.men v, upd c.hd c.men 0, c.heap, c.dogs, c.wak, c.rl, c.crf, c.pg, c.bo, c.held)
def cHeap (c : CS) (n : Nat) : CS := (c.men, c.kk, c.vv, c.hd, n, c.dogs, c.wak, c.rl, c.crf, c.pg, c.bo, c.held)
def cHeld (c : CS) (n : Nat) : CS := (c.men, c.kk, c.vv, c.hd, c.heap, c.dogs, c.wak, c.rl, c.crf, c.pg, c.bo, nI n)
def cWake (c : CS) (i : Nat) (e : Option (Nat × Nat × Nat)) : CS := (c.men, c.kk, c.vv, upd c.hd i (c.hd i + nI (oD e 0)), oL e c.heap, c.dogs + nI (oG e 0), c.wak + 1, c.rl, c.crf, c.pg, c.bo, c.held)
def cRow0 (c : CS) : CS := (c.men, c.kk, c.vv, c.hd, c.heap, c.dogs, c.wak, 0, c.crf, c.pg, c.bo, c.held)
def cRow (c : CS) (i : Nat) : CS := (c.men, c.kk, c.vv, c.hd, c.heap, c.dogs, c.wak, c.rl + 1, uN c.crf c.rl i, c.pg, c.bo, c.held)
def cBook0 (c : CS) : CS := (c.men, c.kk, c.vv, c.hd, c.heap, c.dogs, c.wak, c.rl, c.crf, 0, c.bo, c.held)
def cBook (c : CS) (h : Nat) : CS := (c.men, c.kk, c.vv, c.hd, c.heap, c.dogs, c.wak, c.rl, c.crf, c.pg + 1, uN c.bo c.pg h, c.held)
def takN (kd k : Nat) : Prop := k = kd ∨ k = 0 ∨ kd = 4 ∧ k = 1 ∨ kd = 5 ∧ k = 2 ∨ kd = 6 ∧ k = 3
theorem zI_m1 {k : Nat} (h : k < 2147483648) : ¬ nI k = -1 := fun z => nI_pos h (by rw [z]; decide)
noncomputable def judN (hd : Nat → Int32) (f : Nat → Int64) (len i : Nat) : Nat → Nat → Int32
  | 0, _ => -5
  | t + 1, m => iteP (i + m < len) (iteP (f (i + m) = (hd m).toInt64) (judN hd f len i t (m + 1)) (nI m)) (nI (100 + m))
set_option maxRecDepth 100000 in
set_option maxHeartbeats 4000000 in
theorem sp_X9_man_1 {D : G} {o : Nat} {ca : Nat} {im : Nat} {tk : Int32} {txo : Nat} {ba : Nat} {va : Nat} {vc : Nat} {nwk : Nat} {nt : Nat} {ro : Nat} {lo : Nat} {bd : Nat} {ta : Nat} {ck : Nat} {cv : Nat} {chd : Nat} {cr : Nat} {cb : Nat} {c : CS} {k : Int32} {v : Int32} (hC : cOk c) (hk : ¬ isIx k 7) : Sp D mX9_man 30 0 0 [.ref o, .int k, .int v] [(o, .inr (9, [.ref ca, .ref im, .int tk, .ref txo, .ref ba, .ref va, .int (nI vc), .ref nwk, .ref nt, .ref ro, .ref lo, .ref bd, .ref ta])), (ca, .inr (1, [.int (nI c.men), .ref ck, .ref cv, .ref chd, .int (nI c.heap), .int c.dogs, .int (nI c.wak), .int (nI c.rl), .ref cr, .int (nI c.pg), .ref cb, .int c.held])), (ck, eI D 6 (nF c.kk)), (cv, eI D 6 (nF c.vv)), (chd, eI D 6 c.hd), (cr, eI D 8 (nF c.crf)), (cb, eI D 12 (nF c.bo))] (fun r w => r = some (.int (-1)) ∧ w = [(o, .inr (9, [.ref ca, .ref im, .int tk, .ref txo, .ref ba, .ref va, .int (nI vc), .ref nwk, .ref nt, .ref ro, .ref lo, .ref bd, .ref ta])), (ca, .inr (1, [.int (nI c.men), .ref ck, .ref cv, .ref chd, .int (nI c.heap), .int c.dogs, .int (nI c.wak), .int (nI c.rl), .ref cr, .int (nI c.pg), .ref cb, .int c.held])), (ck, eI D 6 (nF c.kk)), (cv, eI D 6 (nF c.vv)), (chd, eI D 6 c.hd), (cr, eI D 8 (nF c.crf)), (cb, eI D 12 (nF c.bo))]) := by
  refine Sp.of (by decide) (Nat.le_of_ble_eq_true rfl) (fun X O T => ?_)
  refine v_eq (lv' := [(0, .ref o), (1, .int k), (2, .int v)]) rfl rfl rfl rfl ?_
  have z_m := hC.1
  have z_hp := hC.2.2.2.1
  have z_wk := hC.2.2.2.2.1
  have z_rl := hC.2.2.2.2.2.1
  have z_pg := hC.2.2.2.2.2.2.2.1
  refine v_iload_n O dX9_man_0 1 rfl ?_
  refine v_if_lt O 10 dX9_man_1 (by decide) (fun z1 => ?_) (fun z1 => ?_)
  · skip
    refine v_iconst (v := -1) O dX9_man_10 (by decide) ?_
    exact v_ireturn O T rfl rfl (by decide) (by decide) dX9_man_11 (⟨rfl, rfl⟩)
  · skip
    refine v_iload_n O dX9_man_4 1 rfl ?_
    refine v_bipush (v := 7) O dX9_man_5 (by decide) ?_
    refine v_icmp_lt O 12 dX9_man_7 (by decide) (fun z2 => ?_) (fun z2 => ?_)
    · skip
      exact absurd (isIx_t (n := 7) (by decide) z1 (Int32.not_le.mpr z2)) hk
    · skip
      refine v_iconst (v := -1) O dX9_man_10 (by decide) ?_
      exact v_ireturn O T rfl rfl (by decide) (by decide) dX9_man_11 (⟨rfl, rfl⟩)
set_option maxRecDepth 100000 in
set_option maxHeartbeats 4000000 in
theorem sp_X9_man_2 {D : G} {o : Nat} {ca : Nat} {im : Nat} {tk : Int32} {txo : Nat} {ba : Nat} {va : Nat} {vc : Nat} {nwk : Nat} {nt : Nat} {ro : Nat} {lo : Nat} {bd : Nat} {ta : Nat} {ck : Nat} {cv : Nat} {chd : Nat} {cr : Nat} {cb : Nat} {c : CS} {k : Nat} {v : Int32} (hC : cOk c) (hk : k < 7) (hv : ¬ isIx v 10) : Sp D mX9_man 30 0 0 [.ref o, .int (nI k), .int v] [(o, .inr (9, [.ref ca, .ref im, .int tk, .ref txo, .ref ba, .ref va, .int (nI vc), .ref nwk, .ref nt, .ref ro, .ref lo, .ref bd, .ref ta])), (ca, .inr (1, [.int (nI c.men), .ref ck, .ref cv, .ref chd, .int (nI c.heap), .int c.dogs, .int (nI c.wak), .int (nI c.rl), .ref cr, .int (nI c.pg), .ref cb, .int c.held])), (ck, eI D 6 (nF c.kk)), (cv, eI D 6 (nF c.vv)), (chd, eI D 6 c.hd), (cr, eI D 8 (nF c.crf)), (cb, eI D 12 (nF c.bo))] (fun r w => r = some (.int (-2)) ∧ w = [(o, .inr (9, [.ref ca, .ref im, .int tk, .ref txo, .ref ba, .ref va, .int (nI vc), .ref nwk, .ref nt, .ref ro, .ref lo, .ref bd, .ref ta])), (ca, .inr (1, [.int (nI c.men), .ref ck, .ref cv, .ref chd, .int (nI c.heap), .int c.dogs, .int (nI c.wak), .int (nI c.rl), .ref cr, .int (nI c.pg), .ref cb, .int c.held])), (ck, eI D 6 (nF c.kk)), (cv, eI D 6 (nF c.vv)), (chd, eI D 6 c.hd), (cr, eI D 8 (nF c.crf)), (cb, eI D 12 (nF c.bo))]) := by
  refine Sp.of (by decide) (Nat.le_of_ble_eq_true rfl) (fun X O T => ?_)
  refine v_eq (lv' := [(0, .ref o), (1, .int (nI k)), (2, .int v)]) rfl rfl rfl rfl ?_
  have z_m := hC.1
  have z_hp := hC.2.2.2.1
  have z_wk := hC.2.2.2.2.1
  have z_rl := hC.2.2.2.2.2.1
  have z_pg := hC.2.2.2.2.2.2.2.1
  refine v_iload_n O dX9_man_0 1 rfl ?_
  refine v_if_lt O 10 dX9_man_1 (by decide) (fun c_1 => ?_) (fun c_1 => ?_)
  · skip
    have c_1 := (c_lt (x := nI k) (y := 0) (a := k) (b := 0) rfl rfl (by omega) (by omega)).mp c_1
    exact absurd c_1 (by omega)
  · skip
    have c_1 := (not_congr (c_lt (x := nI k) (y := 0) (a := k) (b := 0) rfl rfl (by omega) (by omega))).mp c_1
    refine v_iload_n O dX9_man_4 1 rfl ?_
    refine v_bipush (v := 7) O dX9_man_5 (by decide) ?_
    refine v_icmp_lt O 12 dX9_man_7 (by decide) (fun z2 => ?_) (fun z2 => ?_)
    · skip
      have z2 := (c_lt (x := nI k) (y := 7) (a := k) (b := 7) rfl rfl (by omega) (by omega)).mp z2
      refine v_iload_n O dX9_man_12 2 rfl ?_
      refine v_if_lt O 22 dX9_man_13 (by decide) (fun z3 => ?_) (fun z3 => ?_)
      · skip
        refine v_bipush (v := -2) O dX9_man_22 (by decide) ?_
        exact v_ireturn O T rfl rfl (by decide) (by decide) dX9_man_24 (⟨rfl, rfl⟩)
      · skip
        refine v_iload_n O dX9_man_16 2 rfl ?_
        refine v_bipush (v := 9) O dX9_man_17 (by decide) ?_
        refine v_icmp_le O 25 dX9_man_19 (by decide) (fun z4 => ?_) (fun z4 => ?_)
        · skip
          exact absurd (isIx_t' (n := 10) (m := 9) (by decide) rfl z3 (Int32.not_lt.mpr z4)) hv
        · skip
          refine v_bipush (v := -2) O dX9_man_22 (by decide) ?_
          exact v_ireturn O T rfl rfl (by decide) (by decide) dX9_man_24 (⟨rfl, rfl⟩)
    · skip
      have z2 := (not_congr (c_lt (x := nI k) (y := 7) (a := k) (b := 7) rfl rfl (by omega) (by omega))).mp z2
      exact absurd z2 (by omega)
set_option maxRecDepth 100000 in
set_option maxHeartbeats 4000000 in
theorem sp_X9_man_3 {D : G} {o : Nat} {ca : Nat} {im : Nat} {tk : Int32} {txo : Nat} {ba : Nat} {va : Nat} {vc : Nat} {nwk : Nat} {nt : Nat} {ro : Nat} {lo : Nat} {bd : Nat} {ta : Nat} {ck : Nat} {cv : Nat} {chd : Nat} {cr : Nat} {cb : Nat} {c : CS} {k : Nat} {v : Nat} (hC : cOk c) (hk : k < 7) (hv : v < 10) (hm : c.men = 6) : Sp D mX9_man 30 0 0 [.ref o, .int (nI k), .int (nI v)] [(o, .inr (9, [.ref ca, .ref im, .int tk, .ref txo, .ref ba, .ref va, .int (nI vc), .ref nwk, .ref nt, .ref ro, .ref lo, .ref bd, .ref ta])), (ca, .inr (1, [.int (nI c.men), .ref ck, .ref cv, .ref chd, .int (nI c.heap), .int c.dogs, .int (nI c.wak), .int (nI c.rl), .ref cr, .int (nI c.pg), .ref cb, .int c.held])), (ck, eI D 6 (nF c.kk)), (cv, eI D 6 (nF c.vv)), (chd, eI D 6 c.hd), (cr, eI D 8 (nF c.crf)), (cb, eI D 12 (nF c.bo))] (fun r w => r = some (.int (-4)) ∧ w = [(o, .inr (9, [.ref ca, .ref im, .int tk, .ref txo, .ref ba, .ref va, .int (nI vc), .ref nwk, .ref nt, .ref ro, .ref lo, .ref bd, .ref ta])), (ca, .inr (1, [.int (nI c.men), .ref ck, .ref cv, .ref chd, .int (nI c.heap), .int c.dogs, .int (nI c.wak), .int (nI c.rl), .ref cr, .int (nI c.pg), .ref cb, .int c.held])), (ck, eI D 6 (nF c.kk)), (cv, eI D 6 (nF c.vv)), (chd, eI D 6 c.hd), (cr, eI D 8 (nF c.crf)), (cb, eI D 12 (nF c.bo))]) := by
  refine Sp.of (by decide) (Nat.le_of_ble_eq_true rfl) (fun X O T => ?_)
  refine v_eq (lv' := [(0, .ref o), (1, .int (nI k)), (2, .int (nI v))]) rfl rfl rfl rfl ?_
  have z_m := hC.1
  have z_hp := hC.2.2.2.1
  have z_wk := hC.2.2.2.2.1
  have z_rl := hC.2.2.2.2.2.1
  have z_pg := hC.2.2.2.2.2.2.2.1
  refine v_iload_n O dX9_man_0 1 rfl ?_
  refine v_if_lt O 10 dX9_man_1 (by decide) (fun c_1 => ?_) (fun c_1 => ?_)
  · skip
    have c_1 := (c_lt (x := nI k) (y := 0) (a := k) (b := 0) rfl rfl (by omega) (by omega)).mp c_1
    exact absurd c_1 (by omega)
  · skip
    have c_1 := (not_congr (c_lt (x := nI k) (y := 0) (a := k) (b := 0) rfl rfl (by omega) (by omega))).mp c_1
    refine v_iload_n O dX9_man_4 1 rfl ?_
    refine v_bipush (v := 7) O dX9_man_5 (by decide) ?_
    refine v_icmp_lt O 12 dX9_man_7 (by decide) (fun z2 => ?_) (fun z2 => ?_)
    · skip
      have z2 := (c_lt (x := nI k) (y := 7) (a := k) (b := 7) rfl rfl (by omega) (by omega)).mp z2
      refine v_iload_n O dX9_man_12 2 rfl ?_
      refine v_if_lt O 22 dX9_man_13 (by decide) (fun c_2 => ?_) (fun c_2 => ?_)
      · skip
        have c_2 := (c_lt (x := nI v) (y := 0) (a := v) (b := 0) rfl rfl (by omega) (by omega)).mp c_2
        exact absurd c_2 (by omega)
      · skip
        have c_2 := (not_congr (c_lt (x := nI v) (y := 0) (a := v) (b := 0) rfl rfl (by omega) (by omega))).mp c_2
        refine v_iload_n O dX9_man_16 2 rfl ?_
        refine v_bipush (v := 9) O dX9_man_17 (by decide) ?_
        refine v_icmp_le O 25 dX9_man_19 (by decide) (fun z4 => ?_) (fun z4 => ?_)
        · skip
          have z4 := (c_le (x := nI v) (y := 9) (a := v) (b := 9) rfl rfl (by omega) (by omega)).mp z4
          refine v_aload_n O dX9_man_25 0 rfl ?_
          refine gf_X9_12 O rfl dX9_man_26 0 rfl rfl ?_
          refine gf_X9_89 O rfl dX9_man_29 1 rfl rfl ?_
          refine v_istore_n (lv' := [(0, .ref o), (1, .int (nI k)), (2, .int (nI v)), (3, .int (nI c.men))]) O dX9_man_32 (by decide) rfl ?_
          refine v_iload_n O dX9_man_33 3 rfl ?_
          refine v_if_lt O 43 dX9_man_34 (by decide) (fun c_3 => ?_) (fun c_3 => ?_)
          · skip
            have c_3 := (c_lt (x := nI c.men) (y := 0) (a := c.men) (b := 0) rfl rfl (by omega) (by omega)).mp c_3
            exact absurd c_3 (by omega)
          · skip
            have c_3 := (not_congr (c_lt (x := nI c.men) (y := 0) (a := c.men) (b := 0) rfl rfl (by omega) (by omega))).mp c_3
            refine v_iload_n O dX9_man_37 3 rfl ?_
            refine v_bipush (v := 6) O dX9_man_38 (by decide) ?_
            refine v_icmp_lt O 46 dX9_man_40 (by decide) (fun z5 => ?_) (fun z5 => ?_)
            · skip
              have z5 := (c_lt (x := nI c.men) (y := 6) (a := c.men) (b := 6) rfl rfl (by omega) (by omega)).mp z5
              exact absurd z5 (by omega)
            · skip
              have z5 := (not_congr (c_lt (x := nI c.men) (y := 6) (a := c.men) (b := 6) rfl rfl (by omega) (by omega))).mp z5
              refine v_bipush (v := -4) O dX9_man_43 (by decide) ?_
              exact v_ireturn O T rfl rfl (by decide) (by decide) dX9_man_45 (⟨rfl, rfl⟩)
        · skip
          have z4 := (not_congr (c_le (x := nI v) (y := 9) (a := v) (b := 9) rfl rfl (by omega) (by omega))).mp z4
          exact absurd z4 (by omega)
    · skip
      have z2 := (not_congr (c_lt (x := nI k) (y := 7) (a := k) (b := 7) rfl rfl (by omega) (by omega))).mp z2
      exact absurd z2 (by omega)
set_option maxRecDepth 100000 in
set_option maxHeartbeats 4000000 in
theorem sp_X9_man_4 {D : G} {o : Nat} {ca : Nat} {im : Nat} {tk : Int32} {txo : Nat} {ba : Nat} {va : Nat} {vc : Nat} {nwk : Nat} {nt : Nat} {ro : Nat} {lo : Nat} {bd : Nat} {ta : Nat} {ck : Nat} {cv : Nat} {chd : Nat} {cr : Nat} {cb : Nat} {c : CS} {k : Nat} {v : Nat} (hC : cOk c) (hk : k < 7) (hv : v < 10) (hm : c.men < 6) : Sp D mX9_man 30 0 0 [.ref o, .int (nI k), .int (nI v)] [(o, .inr (9, [.ref ca, .ref im, .int tk, .ref txo, .ref ba, .ref va, .int (nI vc), .ref nwk, .ref nt, .ref ro, .ref lo, .ref bd, .ref ta])), (ca, .inr (1, [.int (nI c.men), .ref ck, .ref cv, .ref chd, .int (nI c.heap), .int c.dogs, .int (nI c.wak), .int (nI c.rl), .ref cr, .int (nI c.pg), .ref cb, .int c.held])), (ck, eI D 6 (nF c.kk)), (cv, eI D 6 (nF c.vv)), (chd, eI D 6 c.hd), (cr, eI D 8 (nF c.crf)), (cb, eI D 12 (nF c.bo))] (fun r w => r = some (.int (nI c.men)) ∧ w = [(o, .inr (9, [.ref ca, .ref im, .int tk, .ref txo, .ref ba, .ref va, .int (nI vc), .ref nwk, .ref nt, .ref ro, .ref lo, .ref bd, .ref ta])), (ca, .inr (1, [.int (nI ((cMan c k v).men)), .ref ck, .ref cv, .ref chd, .int (nI ((cMan c k v).heap)), .int ((cMan c k v).dogs), .int (nI ((cMan c k v).wak)), .int (nI ((cMan c k v).rl)), .ref cr, .int (nI ((cMan c k v).pg)), .ref cb, .int ((cMan c k v).held)])), (ck, eI D 6 (nF (cMan c k v).kk)), (cv, eI D 6 (nF (cMan c k v).vv)), (chd, eI D 6 ((cMan c k v).hd)), (cr, eI D 8 (nF (cMan c k v).crf)), (cb, eI D 12 (nF (cMan c k v).bo))]) := by
  refine Sp.of (by decide) (Nat.le_of_ble_eq_true rfl) (fun X O T => ?_)
  refine v_eq (lv' := [(0, .ref o), (1, .int (nI k)), (2, .int (nI v))]) rfl rfl rfl rfl ?_
  have z_m := hC.1
  have z_hp := hC.2.2.2.1
  have z_wk := hC.2.2.2.2.1
  have z_rl := hC.2.2.2.2.2.1
  have z_pg := hC.2.2.2.2.2.2.2.1
  refine v_iload_n O dX9_man_0 1 rfl ?_
  refine v_if_lt O 10 dX9_man_1 (by decide) (fun c_1 => ?_) (fun c_1 => ?_)
  · skip
    have c_1 := (c_lt (x := nI k) (y := 0) (a := k) (b := 0) rfl rfl (by omega) (by omega)).mp c_1
    exact absurd c_1 (by omega)
  · skip
    have c_1 := (not_congr (c_lt (x := nI k) (y := 0) (a := k) (b := 0) rfl rfl (by omega) (by omega))).mp c_1
    refine v_iload_n O dX9_man_4 1 rfl ?_
    refine v_bipush (v := 7) O dX9_man_5 (by decide) ?_
    refine v_icmp_lt O 12 dX9_man_7 (by decide) (fun z2 => ?_) (fun z2 => ?_)
    · skip
      have z2 := (c_lt (x := nI k) (y := 7) (a := k) (b := 7) rfl rfl (by omega) (by omega)).mp z2
      refine v_iload_n O dX9_man_12 2 rfl ?_
      refine v_if_lt O 22 dX9_man_13 (by decide) (fun c_2 => ?_) (fun c_2 => ?_)
      · skip
        have c_2 := (c_lt (x := nI v) (y := 0) (a := v) (b := 0) rfl rfl (by omega) (by omega)).mp c_2
        exact absurd c_2 (by omega)
      · skip
        have c_2 := (not_congr (c_lt (x := nI v) (y := 0) (a := v) (b := 0) rfl rfl (by omega) (by omega))).mp c_2
        refine v_iload_n O dX9_man_16 2 rfl ?_
        refine v_bipush (v := 9) O dX9_man_17 (by decide) ?_
        refine v_icmp_le O 25 dX9_man_19 (by decide) (fun z4 => ?_) (fun z4 => ?_)
        · skip
          have z4 := (c_le (x := nI v) (y := 9) (a := v) (b := 9) rfl rfl (by omega) (by omega)).mp z4
          refine v_aload_n O dX9_man_25 0 rfl ?_
          refine gf_X9_12 O rfl dX9_man_26 0 rfl rfl ?_
          refine gf_X9_89 O rfl dX9_man_29 1 rfl rfl ?_
          refine v_istore_n (lv' := [(0, .ref o), (1, .int (nI k)), (2, .int (nI v)), (3, .int (nI c.men))]) O dX9_man_32 (by decide) rfl ?_
          refine v_iload_n O dX9_man_33 3 rfl ?_
          refine v_if_lt O 43 dX9_man_34 (by decide) (fun c_3 => ?_) (fun c_3 => ?_)
          · skip
            have c_3 := (c_lt (x := nI c.men) (y := 0) (a := c.men) (b := 0) rfl rfl (by omega) (by omega)).mp c_3
            exact absurd c_3 (by omega)
          · skip
            have c_3 := (not_congr (c_lt (x := nI c.men) (y := 0) (a := c.men) (b := 0) rfl rfl (by omega) (by omega))).mp c_3
            refine v_iload_n O dX9_man_37 3 rfl ?_
            refine v_bipush (v := 6) O dX9_man_38 (by decide) ?_
            refine v_icmp_lt O 46 dX9_man_40 (by decide) (fun z5 => ?_) (fun z5 => ?_)
            · skip
              have z5 := (c_lt (x := nI c.men) (y := 6) (a := c.men) (b := 6) rfl rfl (by omega) (by omega)).mp z5
              refine v_aload_n O dX9_man_46 0 rfl ?_
              refine gf_X9_12 O rfl dX9_man_47 0 rfl rfl ?_
              refine gf_X9_92 O rfl dX9_man_50 1 rfl rfl ?_
              refine v_iload_n O dX9_man_53 3 rfl ?_
              refine v_iload_n O dX9_man_54 1 rfl ?_
              refine v_iastk (ws' := [(o, .inr (9, [.ref ca, .ref im, .int tk, .ref txo, .ref ba, .ref va, .int (nI vc), .ref nwk, .ref nt, .ref ro, .ref lo, .ref bd, .ref ta])), (ca, .inr (1, [.int (nI c.men), .ref ck, .ref cv, .ref chd, .int (nI c.heap), .int c.dogs, .int (nI c.wak), .int (nI c.rl), .ref cr, .int (nI c.pg), .ref cb, .int c.held])), (ck, eI D 6 (nF (uN c.kk c.men k))), (cv, eI D 6 (nF c.vv)), (chd, eI D 6 c.hd), (cr, eI D 8 (nF c.crf)), (cb, eI D 12 (nF c.bo))]) O dX9_man_55 2 rfl c.men (rfl) (by omega) (by decide) (by rw [upd_nF]; rfl) ?_
              refine v_aload_n O dX9_man_56 0 rfl ?_
              refine gf_X9_12 O rfl dX9_man_57 0 rfl rfl ?_
              refine gf_X9_96 O rfl dX9_man_60 1 rfl rfl ?_
              refine v_iload_n O dX9_man_63 3 rfl ?_
              refine v_iload_n O dX9_man_64 2 rfl ?_
              refine v_iastk (ws' := [(o, .inr (9, [.ref ca, .ref im, .int tk, .ref txo, .ref ba, .ref va, .int (nI vc), .ref nwk, .ref nt, .ref ro, .ref lo, .ref bd, .ref ta])), (ca, .inr (1, [.int (nI c.men), .ref ck, .ref cv, .ref chd, .int (nI c.heap), .int c.dogs, .int (nI c.wak), .int (nI c.rl), .ref cr, .int (nI c.pg), .ref cb, .int c.held])), (ck, eI D 6 (nF (uN c.kk c.men k))), (cv, eI D 6 (nF (uN c.vv c.men v))), (chd, eI D 6 c.hd), (cr, eI D 8 (nF c.crf)), (cb, eI D 12 (nF c.bo))]) O dX9_man_65 3 rfl c.men (rfl) (by omega) (by decide) (by rw [upd_nF]; rfl) ?_
              refine v_aload_n O dX9_man_66 0 rfl ?_
              refine gf_X9_12 O rfl dX9_man_67 0 rfl rfl ?_
              refine gf_X9_99 O rfl dX9_man_70 1 rfl rfl ?_
              refine v_iload_n O dX9_man_73 3 rfl ?_
              refine v_iconst (v := 0) O dX9_man_74 (by decide) ?_
              refine v_iastk (ws' := [(o, .inr (9, [.ref ca, .ref im, .int tk, .ref txo, .ref ba, .ref va, .int (nI vc), .ref nwk, .ref nt, .ref ro, .ref lo, .ref bd, .ref ta])), (ca, .inr (1, [.int (nI c.men), .ref ck, .ref cv, .ref chd, .int (nI c.heap), .int c.dogs, .int (nI c.wak), .int (nI c.rl), .ref cr, .int (nI c.pg), .ref cb, .int c.held])), (ck, eI D 6 (nF (uN c.kk c.men k))), (cv, eI D 6 (nF (uN c.vv c.men v))), (chd, eI D 6 (upd c.hd c.men 0)), (cr, eI D 8 (nF c.crf)), (cb, eI D 12 (nF c.bo))]) O dX9_man_75 4 rfl c.men (rfl) (by omega) (by decide) (rfl) ?_
              refine v_aload_n O dX9_man_76 0 rfl ?_
              refine gf_X9_12 O rfl dX9_man_77 0 rfl rfl ?_
              refine v_iload_n O dX9_man_80 3 rfl ?_
              refine v_iconst (v := 1) O dX9_man_81 (by decide) ?_
              refine v_iadd O dX9_man_82 ?_
              refine v_top (y := nI (c.men + 1)) (nI_add c.men 1) ?_
              refine pf_X9_89 (fs' := [.int (nI (c.men + 1)), .ref ck, .ref cv, .ref chd, .int (nI c.heap), .int c.dogs, .int (nI c.wak), .int (nI c.rl), .ref cr, .int (nI c.pg), .ref cb, .int c.held]) (ws' := [(o, .inr (9, [.ref ca, .ref im, .int tk, .ref txo, .ref ba, .ref va, .int (nI vc), .ref nwk, .ref nt, .ref ro, .ref lo, .ref bd, .ref ta])), (ca, .inr (1, [.int (nI (c.men + 1)), .ref ck, .ref cv, .ref chd, .int (nI c.heap), .int c.dogs, .int (nI c.wak), .int (nI c.rl), .ref cr, .int (nI c.pg), .ref cb, .int c.held])), (ck, eI D 6 (nF (uN c.kk c.men k))), (cv, eI D 6 (nF (uN c.vv c.men v))), (chd, eI D 6 (upd c.hd c.men 0)), (cr, eI D 8 (nF c.crf)), (cb, eI D 12 (nF c.bo))]) O rfl dX9_man_83 1 rfl (Nat.le_of_ble_eq_true rfl) rfl rfl ?_
              refine v_iload_n O dX9_man_86 3 rfl ?_
              exact v_ireturn O T rfl rfl (by decide) (by decide) dX9_man_87 (⟨rfl, rfl⟩)
            · skip
              have z5 := (not_congr (c_lt (x := nI c.men) (y := 6) (a := c.men) (b := 6) rfl rfl (by omega) (by omega))).mp z5
              exact absurd z5 (by omega)
        · skip
          have z4 := (not_congr (c_le (x := nI v) (y := 9) (a := v) (b := 9) rfl rfl (by omega) (by omega))).mp z4
          exact absurd z4 (by omega)
    · skip
      have z2 := (not_congr (c_lt (x := nI k) (y := 7) (a := k) (b := 7) rfl rfl (by omega) (by omega))).mp z2
      exact absurd z2 (by omega)
set_option maxRecDepth 100000 in
set_option maxHeartbeats 4000000 in
theorem sp_X9_of_1 {D : G} {o : Nat} {ca : Nat} {im : Nat} {tk : Int32} {txo : Nat} {ba : Nat} {va : Nat} {vc : Nat} {nwk : Nat} {nt : Nat} {ro : Nat} {lo : Nat} {bd : Nat} {ta : Nat} {ck : Nat} {cv : Nat} {chd : Nat} {cr : Nat} {cb : Nat} {c : CS} {i : Int32} {zw : Int32} (hC : cOk c) (hi : ¬ isIx i c.men) : Sp D mX9_of 30 0 0 [.ref o, .int i, .int zw] [(o, .inr (9, [.ref ca, .ref im, .int tk, .ref txo, .ref ba, .ref va, .int (nI vc), .ref nwk, .ref nt, .ref ro, .ref lo, .ref bd, .ref ta])), (ca, .inr (1, [.int (nI c.men), .ref ck, .ref cv, .ref chd, .int (nI c.heap), .int c.dogs, .int (nI c.wak), .int (nI c.rl), .ref cr, .int (nI c.pg), .ref cb, .int c.held])), (ck, eI D 6 (nF c.kk)), (cv, eI D 6 (nF c.vv)), (chd, eI D 6 c.hd), (cr, eI D 8 (nF c.crf)), (cb, eI D 12 (nF c.bo))] (fun r w => r = some (.int (-10001)) ∧ w = [(o, .inr (9, [.ref ca, .ref im, .int tk, .ref txo, .ref ba, .ref va, .int (nI vc), .ref nwk, .ref nt, .ref ro, .ref lo, .ref bd, .ref ta])), (ca, .inr (1, [.int (nI c.men), .ref ck, .ref cv, .ref chd, .int (nI c.heap), .int c.dogs, .int (nI c.wak), .int (nI c.rl), .ref cr, .int (nI c.pg), .ref cb, .int c.held])), (ck, eI D 6 (nF c.kk)), (cv, eI D 6 (nF c.vv)), (chd, eI D 6 c.hd), (cr, eI D 8 (nF c.crf)), (cb, eI D 12 (nF c.bo))]) := by
  refine Sp.of (by decide) (Nat.le_of_ble_eq_true rfl) (fun X O T => ?_)
  refine v_eq (lv' := [(0, .ref o), (1, .int i), (2, .int zw)]) rfl rfl rfl rfl ?_
  have z_m := hC.1
  have z_hp := hC.2.2.2.1
  have z_wk := hC.2.2.2.2.1
  have z_rl := hC.2.2.2.2.2.1
  have z_pg := hC.2.2.2.2.2.2.2.1
  refine v_aload_n O dX9_of_0 0 rfl ?_
  refine v_iload_n O dX9_of_1 1 rfl ?_
  refine v_cV (T := TX9) (ci := 9) (As := [.int i]) (wr := [(ck, eI D 6 (nF c.kk)), (cv, eI D 6 (nF c.vv)), (chd, eI D 6 c.hd), (cr, eI D 8 (nF c.crf)), (cb, eI D 12 (nF c.bo))]) (st := []) O cf_X9_102 rfl (sp_X9_isMan (o := o) (man := i) (ca := ca) (im := im) (it := tk) (tx := txo) (ba := ba) (vs := va) (vc := (nI vc)) (nw := nwk) (nt := nt) (ro := ro) (ln := lo) (bo := bd) (tp := ta) (men := c.men) (ck := ck) (cv := cv) (chd := chd) (heap := (nI c.heap)) (dogs := c.dogs) (wak := (nI c.wak)) (rl := c.rl) (cr := cr) (pg := c.pg) (cb := cb) (held := c.held) (hC.1)) dX9_of_2 rfl rfl 0 rfl [0, 1] [2, 3, 4, 5, 6] (by decide) rfl rfl (by decide) (by decide) (by decide) (Nat.le_of_ble_eq_true rfl) (by decide) (by decide) (fun r_2 w_3 h_1 => ?_)
  obtain ⟨rfl, rfl⟩ := h_1
  refine v_eq (st' := [.int (b2i (isIx i c.men))]) (ws' := [(ck, eI D 6 (nF c.kk)), (cv, eI D 6 (nF c.vv)), (chd, eI D 6 c.hd), (cr, eI D 8 (nF c.crf)), (cb, eI D 12 (nF c.bo)), (o, .inr (9, [.ref ca, .ref im, .int tk, .ref txo, .ref ba, .ref va, .int (nI vc), .ref nwk, .ref nt, .ref ro, .ref lo, .ref bd, .ref ta])), (ca, .inr (1, [.int (nI c.men), .ref ck, .ref cv, .ref chd, .int (nI c.heap), .int c.dogs, .int (nI c.wak), .int (nI c.rl), .ref cr, .int (nI c.pg), .ref cb, .int c.held]))]) rfl rfl rfl rfl ?_
  refine v_if_ne O 12 dX9_of_5 (by decide) (fun z1 => ?_) (fun z1 => ?_)
  · skip
    have z1 := b2i_1.mp z1
    exact absurd z1 hi
  · skip
    have z1 := b2i_0.mp z1
    refine v_sipush (v := -10001) O dX9_of_8 (by decide) ?_
    refine v_sub (ws' := [(o, .inr (9, [.ref ca, .ref im, .int tk, .ref txo, .ref ba, .ref va, .int (nI vc), .ref nwk, .ref nt, .ref ro, .ref lo, .ref bd, .ref ta])), (ca, .inr (1, [.int (nI c.men), .ref ck, .ref cv, .ref chd, .int (nI c.heap), .int c.dogs, .int (nI c.wak), .int (nI c.rl), .ref cr, .int (nI c.pg), .ref cb, .int c.held])), (ck, eI D 6 (nF c.kk)), (cv, eI D 6 (nF c.vv)), (chd, eI D 6 c.hd), (cr, eI D 8 (nF c.crf)), (cb, eI D 12 (nF c.bo))]) [5, 6, 0, 1, 2, 3, 4] (by decide) rfl ?_
    exact v_ireturn O T rfl rfl (by decide) (by decide) dX9_of_11 (⟨rfl, rfl⟩)
set_option maxRecDepth 100000 in
set_option maxHeartbeats 4000000 in
theorem sp_X9_of_2 {D : G} {o : Nat} {ca : Nat} {im : Nat} {tk : Int32} {txo : Nat} {ba : Nat} {va : Nat} {vc : Nat} {nwk : Nat} {nt : Nat} {ro : Nat} {lo : Nat} {bd : Nat} {ta : Nat} {ck : Nat} {cv : Nat} {chd : Nat} {cr : Nat} {cb : Nat} {c : CS} {i : Nat} {zw : Int32} (hC : cOk c) (hi : i < c.men) (hw : ¬ isIx zw 7) : Sp D mX9_of 30 0 0 [.ref o, .int (nI i), .int zw] [(o, .inr (9, [.ref ca, .ref im, .int tk, .ref txo, .ref ba, .ref va, .int (nI vc), .ref nwk, .ref nt, .ref ro, .ref lo, .ref bd, .ref ta])), (ca, .inr (1, [.int (nI c.men), .ref ck, .ref cv, .ref chd, .int (nI c.heap), .int c.dogs, .int (nI c.wak), .int (nI c.rl), .ref cr, .int (nI c.pg), .ref cb, .int c.held])), (ck, eI D 6 (nF c.kk)), (cv, eI D 6 (nF c.vv)), (chd, eI D 6 c.hd), (cr, eI D 8 (nF c.crf)), (cb, eI D 12 (nF c.bo))] (fun r w => r = some (.int (-10001)) ∧ w = [(o, .inr (9, [.ref ca, .ref im, .int tk, .ref txo, .ref ba, .ref va, .int (nI vc), .ref nwk, .ref nt, .ref ro, .ref lo, .ref bd, .ref ta])), (ca, .inr (1, [.int (nI c.men), .ref ck, .ref cv, .ref chd, .int (nI c.heap), .int c.dogs, .int (nI c.wak), .int (nI c.rl), .ref cr, .int (nI c.pg), .ref cb, .int c.held])), (ck, eI D 6 (nF c.kk)), (cv, eI D 6 (nF c.vv)), (chd, eI D 6 c.hd), (cr, eI D 8 (nF c.crf)), (cb, eI D 12 (nF c.bo))]) := by
  refine Sp.of (by decide) (Nat.le_of_ble_eq_true rfl) (fun X O T => ?_)
  refine v_eq (lv' := [(0, .ref o), (1, .int (nI i)), (2, .int zw)]) rfl rfl rfl rfl ?_
  have z_m := hC.1
  have z_hp := hC.2.2.2.1
  have z_wk := hC.2.2.2.2.1
  have z_rl := hC.2.2.2.2.2.1
  have z_pg := hC.2.2.2.2.2.2.2.1
  refine v_aload_n O dX9_of_0 0 rfl ?_
  refine v_iload_n O dX9_of_1 1 rfl ?_
  refine v_cV (T := TX9) (ci := 9) (As := [.int (nI i)]) (wr := [(ck, eI D 6 (nF c.kk)), (cv, eI D 6 (nF c.vv)), (chd, eI D 6 c.hd), (cr, eI D 8 (nF c.crf)), (cb, eI D 12 (nF c.bo))]) (st := []) O cf_X9_102 rfl (sp_X9_isMan (o := o) (man := (nI i)) (ca := ca) (im := im) (it := tk) (tx := txo) (ba := ba) (vs := va) (vc := (nI vc)) (nw := nwk) (nt := nt) (ro := ro) (ln := lo) (bo := bd) (tp := ta) (men := c.men) (ck := ck) (cv := cv) (chd := chd) (heap := (nI c.heap)) (dogs := c.dogs) (wak := (nI c.wak)) (rl := c.rl) (cr := cr) (pg := c.pg) (cb := cb) (held := c.held) (hC.1)) dX9_of_2 rfl rfl 0 rfl [0, 1] [2, 3, 4, 5, 6] (by decide) rfl rfl (by decide) (by decide) (by decide) (Nat.le_of_ble_eq_true rfl) (by decide) (by decide) (fun r_2 w_3 h_1 => ?_)
  obtain ⟨rfl, rfl⟩ := h_1
  refine v_eq (st' := [.int (b2i (isIx (nI i) c.men))]) (ws' := [(ck, eI D 6 (nF c.kk)), (cv, eI D 6 (nF c.vv)), (chd, eI D 6 c.hd), (cr, eI D 8 (nF c.crf)), (cb, eI D 12 (nF c.bo)), (o, .inr (9, [.ref ca, .ref im, .int tk, .ref txo, .ref ba, .ref va, .int (nI vc), .ref nwk, .ref nt, .ref ro, .ref lo, .ref bd, .ref ta])), (ca, .inr (1, [.int (nI c.men), .ref ck, .ref cv, .ref chd, .int (nI c.heap), .int c.dogs, .int (nI c.wak), .int (nI c.rl), .ref cr, .int (nI c.pg), .ref cb, .int c.held]))]) rfl rfl rfl rfl ?_
  refine v_if_ne O 12 dX9_of_5 (by decide) (fun z1 => ?_) (fun z1 => ?_)
  · skip
    have z1 := b2i_1.mp z1
    refine v_iload_n O dX9_of_12 2 rfl ?_
    by_cases s_4 : zw = 0
    · skip
      refine v_top s_4 ?_
      refine v_tsIn (off := 43) O 56 dX9_of_13 (by decide) (by decide) (by decide) (by decide) ?_
      exact absurd ⟨0, by decide, s_4⟩ hw
    by_cases s_5 : zw = 1
    · skip
      refine v_top s_5 ?_
      refine v_tsIn (off := 53) O 66 dX9_of_13 (by decide) (by decide) (by decide) (by decide) ?_
      exact absurd ⟨1, by decide, s_5⟩ hw
    by_cases s_6 : zw = 2
    · skip
      refine v_top s_6 ?_
      refine v_tsIn (off := 63) O 76 dX9_of_13 (by decide) (by decide) (by decide) (by decide) ?_
      exact absurd ⟨2, by decide, s_6⟩ hw
    by_cases s_7 : zw = 3
    · skip
      refine v_top s_7 ?_
      refine v_tsIn (off := 73) O 86 dX9_of_13 (by decide) (by decide) (by decide) (by decide) ?_
      exact absurd ⟨3, by decide, s_7⟩ hw
    by_cases s_8 : zw = 4
    · skip
      refine v_top s_8 ?_
      refine v_tsIn (off := 83) O 96 dX9_of_13 (by decide) (by decide) (by decide) (by decide) ?_
      exact absurd ⟨4, by decide, s_8⟩ hw
    by_cases s_9 : zw = 5
    · skip
      refine v_top s_9 ?_
      refine v_tsIn (off := 101) O 114 dX9_of_13 (by decide) (by decide) (by decide) (by decide) ?_
      exact absurd ⟨5, by decide, s_9⟩ hw
    by_cases s_10 : zw = 6
    · skip
      refine v_top s_10 ?_
      refine v_tsIn (off := 119) O 132 dX9_of_13 (by decide) (by decide) (by decide) (by decide) ?_
      exact absurd ⟨6, by decide, s_10⟩ hw
    refine v_tsOut O 158 dX9_of_13 (ts_out (by decide) (by decide) (fun v h1 h2 => by rcases (show v = 0 ∨ v = 1 ∨ v = 2 ∨ v = 3 ∨ v = 4 ∨ v = 5 ∨ v = 6 by omega) with rfl | rfl | rfl | rfl | rfl | rfl | rfl <;> assumption)) (by decide) ?_
    refine v_sipush (v := -10001) O dX9_of_158 (by decide) ?_
    refine v_sub (ws' := [(o, .inr (9, [.ref ca, .ref im, .int tk, .ref txo, .ref ba, .ref va, .int (nI vc), .ref nwk, .ref nt, .ref ro, .ref lo, .ref bd, .ref ta])), (ca, .inr (1, [.int (nI c.men), .ref ck, .ref cv, .ref chd, .int (nI c.heap), .int c.dogs, .int (nI c.wak), .int (nI c.rl), .ref cr, .int (nI c.pg), .ref cb, .int c.held])), (ck, eI D 6 (nF c.kk)), (cv, eI D 6 (nF c.vv)), (chd, eI D 6 c.hd), (cr, eI D 8 (nF c.crf)), (cb, eI D 12 (nF c.bo))]) [5, 6, 0, 1, 2, 3, 4] (by decide) rfl ?_
    exact v_ireturn O T rfl rfl (by decide) (by decide) dX9_of_161 (⟨rfl, rfl⟩)
  · skip
    have z1 := b2i_0.mp z1
    exact absurd ((isIx_nI (by omega) (by omega)).mpr hi) z1
set_option maxRecDepth 100000 in
set_option maxHeartbeats 4000000 in
theorem sp_X9_of_3 {D : G} {o : Nat} {ca : Nat} {im : Nat} {tk : Int32} {txo : Nat} {ba : Nat} {va : Nat} {vc : Nat} {nwk : Nat} {nt : Nat} {ro : Nat} {lo : Nat} {bd : Nat} {ta : Nat} {ck : Nat} {cv : Nat} {chd : Nat} {cr : Nat} {cb : Nat} {c : CS} {i : Nat} (hC : cOk c) (hi : i < c.men) : Sp D mX9_of 30 0 0 [.ref o, .int (nI i), .int 0] [(o, .inr (9, [.ref ca, .ref im, .int tk, .ref txo, .ref ba, .ref va, .int (nI vc), .ref nwk, .ref nt, .ref ro, .ref lo, .ref bd, .ref ta])), (ca, .inr (1, [.int (nI c.men), .ref ck, .ref cv, .ref chd, .int (nI c.heap), .int c.dogs, .int (nI c.wak), .int (nI c.rl), .ref cr, .int (nI c.pg), .ref cb, .int c.held])), (ck, eI D 6 (nF c.kk)), (cv, eI D 6 (nF c.vv)), (chd, eI D 6 c.hd), (cr, eI D 8 (nF c.crf)), (cb, eI D 12 (nF c.bo))] (fun r w => r = some (.int (nI (c.kk i))) ∧ w = [(o, .inr (9, [.ref ca, .ref im, .int tk, .ref txo, .ref ba, .ref va, .int (nI vc), .ref nwk, .ref nt, .ref ro, .ref lo, .ref bd, .ref ta])), (ca, .inr (1, [.int (nI c.men), .ref ck, .ref cv, .ref chd, .int (nI c.heap), .int c.dogs, .int (nI c.wak), .int (nI c.rl), .ref cr, .int (nI c.pg), .ref cb, .int c.held])), (ck, eI D 6 (nF c.kk)), (cv, eI D 6 (nF c.vv)), (chd, eI D 6 c.hd), (cr, eI D 8 (nF c.crf)), (cb, eI D 12 (nF c.bo))]) := by
  refine Sp.of (by decide) (Nat.le_of_ble_eq_true rfl) (fun X O T => ?_)
  refine v_eq (lv' := [(0, .ref o), (1, .int (nI i)), (2, .int 0)]) rfl rfl rfl rfl ?_
  have z_m := hC.1
  have z_hp := hC.2.2.2.1
  have z_wk := hC.2.2.2.2.1
  have z_rl := hC.2.2.2.2.2.1
  have z_pg := hC.2.2.2.2.2.2.2.1
  refine v_aload_n O dX9_of_0 0 rfl ?_
  refine v_iload_n O dX9_of_1 1 rfl ?_
  refine v_cV (T := TX9) (ci := 9) (As := [.int (nI i)]) (wr := [(ck, eI D 6 (nF c.kk)), (cv, eI D 6 (nF c.vv)), (chd, eI D 6 c.hd), (cr, eI D 8 (nF c.crf)), (cb, eI D 12 (nF c.bo))]) (st := []) O cf_X9_102 rfl (sp_X9_isMan (o := o) (man := (nI i)) (ca := ca) (im := im) (it := tk) (tx := txo) (ba := ba) (vs := va) (vc := (nI vc)) (nw := nwk) (nt := nt) (ro := ro) (ln := lo) (bo := bd) (tp := ta) (men := c.men) (ck := ck) (cv := cv) (chd := chd) (heap := (nI c.heap)) (dogs := c.dogs) (wak := (nI c.wak)) (rl := c.rl) (cr := cr) (pg := c.pg) (cb := cb) (held := c.held) (hC.1)) dX9_of_2 rfl rfl 0 rfl [0, 1] [2, 3, 4, 5, 6] (by decide) rfl rfl (by decide) (by decide) (by decide) (Nat.le_of_ble_eq_true rfl) (by decide) (by decide) (fun r_2 w_3 h_1 => ?_)
  obtain ⟨rfl, rfl⟩ := h_1
  refine v_eq (st' := [.int (b2i (isIx (nI i) c.men))]) (ws' := [(ck, eI D 6 (nF c.kk)), (cv, eI D 6 (nF c.vv)), (chd, eI D 6 c.hd), (cr, eI D 8 (nF c.crf)), (cb, eI D 12 (nF c.bo)), (o, .inr (9, [.ref ca, .ref im, .int tk, .ref txo, .ref ba, .ref va, .int (nI vc), .ref nwk, .ref nt, .ref ro, .ref lo, .ref bd, .ref ta])), (ca, .inr (1, [.int (nI c.men), .ref ck, .ref cv, .ref chd, .int (nI c.heap), .int c.dogs, .int (nI c.wak), .int (nI c.rl), .ref cr, .int (nI c.pg), .ref cb, .int c.held]))]) rfl rfl rfl rfl ?_
  refine v_if_ne O 12 dX9_of_5 (by decide) (fun z1 => ?_) (fun z1 => ?_)
  · skip
    have z1 := b2i_1.mp z1
    refine v_iload_n O dX9_of_12 2 rfl ?_
    refine v_tsIn (off := 43) O 56 dX9_of_13 (by decide) (by decide) (by decide) (by decide) ?_
    refine v_aload_n O dX9_of_56 0 rfl ?_
    refine gf_X9_12 O rfl dX9_of_57 5 rfl rfl ?_
    refine gf_X9_92 O rfl dX9_of_60 6 rfl rfl ?_
    refine v_iload_n O dX9_of_63 1 rfl ?_
    refine v_ialdk O dX9_of_64 0 rfl i rfl (by omega) (by decide) ?_
    refine v_top (y := nI (c.kk i)) rfl ?_
    refine v_sub (ws' := [(o, .inr (9, [.ref ca, .ref im, .int tk, .ref txo, .ref ba, .ref va, .int (nI vc), .ref nwk, .ref nt, .ref ro, .ref lo, .ref bd, .ref ta])), (ca, .inr (1, [.int (nI c.men), .ref ck, .ref cv, .ref chd, .int (nI c.heap), .int c.dogs, .int (nI c.wak), .int (nI c.rl), .ref cr, .int (nI c.pg), .ref cb, .int c.held])), (ck, eI D 6 (nF c.kk)), (cv, eI D 6 (nF c.vv)), (chd, eI D 6 c.hd), (cr, eI D 8 (nF c.crf)), (cb, eI D 12 (nF c.bo))]) [5, 6, 0, 1, 2, 3, 4] (by decide) rfl ?_
    exact v_ireturn O T rfl rfl (by decide) (by decide) dX9_of_65 (⟨rfl, rfl⟩)
  · skip
    have z1 := b2i_0.mp z1
    exact absurd ((isIx_nI (by omega) (by omega)).mpr hi) z1
set_option maxRecDepth 100000 in
set_option maxHeartbeats 4000000 in
theorem sp_X9_of_4 {D : G} {o : Nat} {ca : Nat} {im : Nat} {tk : Int32} {txo : Nat} {ba : Nat} {va : Nat} {vc : Nat} {nwk : Nat} {nt : Nat} {ro : Nat} {lo : Nat} {bd : Nat} {ta : Nat} {ck : Nat} {cv : Nat} {chd : Nat} {cr : Nat} {cb : Nat} {c : CS} {i : Nat} (hC : cOk c) (hi : i < c.men) : Sp D mX9_of 30 0 0 [.ref o, .int (nI i), .int 1] [(o, .inr (9, [.ref ca, .ref im, .int tk, .ref txo, .ref ba, .ref va, .int (nI vc), .ref nwk, .ref nt, .ref ro, .ref lo, .ref bd, .ref ta])), (ca, .inr (1, [.int (nI c.men), .ref ck, .ref cv, .ref chd, .int (nI c.heap), .int c.dogs, .int (nI c.wak), .int (nI c.rl), .ref cr, .int (nI c.pg), .ref cb, .int c.held])), (ck, eI D 6 (nF c.kk)), (cv, eI D 6 (nF c.vv)), (chd, eI D 6 c.hd), (cr, eI D 8 (nF c.crf)), (cb, eI D 12 (nF c.bo))] (fun r w => r = some (.int (nI (c.vv i))) ∧ w = [(o, .inr (9, [.ref ca, .ref im, .int tk, .ref txo, .ref ba, .ref va, .int (nI vc), .ref nwk, .ref nt, .ref ro, .ref lo, .ref bd, .ref ta])), (ca, .inr (1, [.int (nI c.men), .ref ck, .ref cv, .ref chd, .int (nI c.heap), .int c.dogs, .int (nI c.wak), .int (nI c.rl), .ref cr, .int (nI c.pg), .ref cb, .int c.held])), (ck, eI D 6 (nF c.kk)), (cv, eI D 6 (nF c.vv)), (chd, eI D 6 c.hd), (cr, eI D 8 (nF c.crf)), (cb, eI D 12 (nF c.bo))]) := by
  refine Sp.of (by decide) (Nat.le_of_ble_eq_true rfl) (fun X O T => ?_)
  refine v_eq (lv' := [(0, .ref o), (1, .int (nI i)), (2, .int 1)]) rfl rfl rfl rfl ?_
  have z_m := hC.1
  have z_hp := hC.2.2.2.1
  have z_wk := hC.2.2.2.2.1
  have z_rl := hC.2.2.2.2.2.1
  have z_pg := hC.2.2.2.2.2.2.2.1
  refine v_aload_n O dX9_of_0 0 rfl ?_
  refine v_iload_n O dX9_of_1 1 rfl ?_
  refine v_cV (T := TX9) (ci := 9) (As := [.int (nI i)]) (wr := [(ck, eI D 6 (nF c.kk)), (cv, eI D 6 (nF c.vv)), (chd, eI D 6 c.hd), (cr, eI D 8 (nF c.crf)), (cb, eI D 12 (nF c.bo))]) (st := []) O cf_X9_102 rfl (sp_X9_isMan (o := o) (man := (nI i)) (ca := ca) (im := im) (it := tk) (tx := txo) (ba := ba) (vs := va) (vc := (nI vc)) (nw := nwk) (nt := nt) (ro := ro) (ln := lo) (bo := bd) (tp := ta) (men := c.men) (ck := ck) (cv := cv) (chd := chd) (heap := (nI c.heap)) (dogs := c.dogs) (wak := (nI c.wak)) (rl := c.rl) (cr := cr) (pg := c.pg) (cb := cb) (held := c.held) (hC.1)) dX9_of_2 rfl rfl 0 rfl [0, 1] [2, 3, 4, 5, 6] (by decide) rfl rfl (by decide) (by decide) (by decide) (Nat.le_of_ble_eq_true rfl) (by decide) (by decide) (fun r_2 w_3 h_1 => ?_)
  obtain ⟨rfl, rfl⟩ := h_1
  refine v_eq (st' := [.int (b2i (isIx (nI i) c.men))]) (ws' := [(ck, eI D 6 (nF c.kk)), (cv, eI D 6 (nF c.vv)), (chd, eI D 6 c.hd), (cr, eI D 8 (nF c.crf)), (cb, eI D 12 (nF c.bo)), (o, .inr (9, [.ref ca, .ref im, .int tk, .ref txo, .ref ba, .ref va, .int (nI vc), .ref nwk, .ref nt, .ref ro, .ref lo, .ref bd, .ref ta])), (ca, .inr (1, [.int (nI c.men), .ref ck, .ref cv, .ref chd, .int (nI c.heap), .int c.dogs, .int (nI c.wak), .int (nI c.rl), .ref cr, .int (nI c.pg), .ref cb, .int c.held]))]) rfl rfl rfl rfl ?_
  refine v_if_ne O 12 dX9_of_5 (by decide) (fun z1 => ?_) (fun z1 => ?_)
  · skip
    have z1 := b2i_1.mp z1
    refine v_iload_n O dX9_of_12 2 rfl ?_
    refine v_tsIn (off := 53) O 66 dX9_of_13 (by decide) (by decide) (by decide) (by decide) ?_
    refine v_aload_n O dX9_of_66 0 rfl ?_
    refine gf_X9_12 O rfl dX9_of_67 5 rfl rfl ?_
    refine gf_X9_96 O rfl dX9_of_70 6 rfl rfl ?_
    refine v_iload_n O dX9_of_73 1 rfl ?_
    refine v_ialdk O dX9_of_74 1 rfl i rfl (by omega) (by decide) ?_
    refine v_top (y := nI (c.vv i)) rfl ?_
    refine v_sub (ws' := [(o, .inr (9, [.ref ca, .ref im, .int tk, .ref txo, .ref ba, .ref va, .int (nI vc), .ref nwk, .ref nt, .ref ro, .ref lo, .ref bd, .ref ta])), (ca, .inr (1, [.int (nI c.men), .ref ck, .ref cv, .ref chd, .int (nI c.heap), .int c.dogs, .int (nI c.wak), .int (nI c.rl), .ref cr, .int (nI c.pg), .ref cb, .int c.held])), (ck, eI D 6 (nF c.kk)), (cv, eI D 6 (nF c.vv)), (chd, eI D 6 c.hd), (cr, eI D 8 (nF c.crf)), (cb, eI D 12 (nF c.bo))]) [5, 6, 0, 1, 2, 3, 4] (by decide) rfl ?_
    exact v_ireturn O T rfl rfl (by decide) (by decide) dX9_of_75 (⟨rfl, rfl⟩)
  · skip
    have z1 := b2i_0.mp z1
    exact absurd ((isIx_nI (by omega) (by omega)).mpr hi) z1
set_option maxRecDepth 100000 in
set_option maxHeartbeats 4000000 in
theorem sp_X9_of_5 {D : G} {o : Nat} {ca : Nat} {im : Nat} {tk : Int32} {txo : Nat} {ba : Nat} {va : Nat} {vc : Nat} {nwk : Nat} {nt : Nat} {ro : Nat} {lo : Nat} {bd : Nat} {ta : Nat} {ck : Nat} {cv : Nat} {chd : Nat} {cr : Nat} {cb : Nat} {c : CS} {i : Nat} (hC : cOk c) (hi : i < c.men) : Sp D mX9_of 30 0 0 [.ref o, .int (nI i), .int 2] [(o, .inr (9, [.ref ca, .ref im, .int tk, .ref txo, .ref ba, .ref va, .int (nI vc), .ref nwk, .ref nt, .ref ro, .ref lo, .ref bd, .ref ta])), (ca, .inr (1, [.int (nI c.men), .ref ck, .ref cv, .ref chd, .int (nI c.heap), .int c.dogs, .int (nI c.wak), .int (nI c.rl), .ref cr, .int (nI c.pg), .ref cb, .int c.held])), (ck, eI D 6 (nF c.kk)), (cv, eI D 6 (nF c.vv)), (chd, eI D 6 c.hd), (cr, eI D 8 (nF c.crf)), (cb, eI D 12 (nF c.bo))] (fun r w => r = some (.int (c.hd i)) ∧ w = [(o, .inr (9, [.ref ca, .ref im, .int tk, .ref txo, .ref ba, .ref va, .int (nI vc), .ref nwk, .ref nt, .ref ro, .ref lo, .ref bd, .ref ta])), (ca, .inr (1, [.int (nI c.men), .ref ck, .ref cv, .ref chd, .int (nI c.heap), .int c.dogs, .int (nI c.wak), .int (nI c.rl), .ref cr, .int (nI c.pg), .ref cb, .int c.held])), (ck, eI D 6 (nF c.kk)), (cv, eI D 6 (nF c.vv)), (chd, eI D 6 c.hd), (cr, eI D 8 (nF c.crf)), (cb, eI D 12 (nF c.bo))]) := by
  refine Sp.of (by decide) (Nat.le_of_ble_eq_true rfl) (fun X O T => ?_)
  refine v_eq (lv' := [(0, .ref o), (1, .int (nI i)), (2, .int 2)]) rfl rfl rfl rfl ?_
  have z_m := hC.1
  have z_hp := hC.2.2.2.1
  have z_wk := hC.2.2.2.2.1
  have z_rl := hC.2.2.2.2.2.1
  have z_pg := hC.2.2.2.2.2.2.2.1
  refine v_aload_n O dX9_of_0 0 rfl ?_
  refine v_iload_n O dX9_of_1 1 rfl ?_
  refine v_cV (T := TX9) (ci := 9) (As := [.int (nI i)]) (wr := [(ck, eI D 6 (nF c.kk)), (cv, eI D 6 (nF c.vv)), (chd, eI D 6 c.hd), (cr, eI D 8 (nF c.crf)), (cb, eI D 12 (nF c.bo))]) (st := []) O cf_X9_102 rfl (sp_X9_isMan (o := o) (man := (nI i)) (ca := ca) (im := im) (it := tk) (tx := txo) (ba := ba) (vs := va) (vc := (nI vc)) (nw := nwk) (nt := nt) (ro := ro) (ln := lo) (bo := bd) (tp := ta) (men := c.men) (ck := ck) (cv := cv) (chd := chd) (heap := (nI c.heap)) (dogs := c.dogs) (wak := (nI c.wak)) (rl := c.rl) (cr := cr) (pg := c.pg) (cb := cb) (held := c.held) (hC.1)) dX9_of_2 rfl rfl 0 rfl [0, 1] [2, 3, 4, 5, 6] (by decide) rfl rfl (by decide) (by decide) (by decide) (Nat.le_of_ble_eq_true rfl) (by decide) (by decide) (fun r_2 w_3 h_1 => ?_)
  obtain ⟨rfl, rfl⟩ := h_1
  refine v_eq (st' := [.int (b2i (isIx (nI i) c.men))]) (ws' := [(ck, eI D 6 (nF c.kk)), (cv, eI D 6 (nF c.vv)), (chd, eI D 6 c.hd), (cr, eI D 8 (nF c.crf)), (cb, eI D 12 (nF c.bo)), (o, .inr (9, [.ref ca, .ref im, .int tk, .ref txo, .ref ba, .ref va, .int (nI vc), .ref nwk, .ref nt, .ref ro, .ref lo, .ref bd, .ref ta])), (ca, .inr (1, [.int (nI c.men), .ref ck, .ref cv, .ref chd, .int (nI c.heap), .int c.dogs, .int (nI c.wak), .int (nI c.rl), .ref cr, .int (nI c.pg), .ref cb, .int c.held]))]) rfl rfl rfl rfl ?_
  refine v_if_ne O 12 dX9_of_5 (by decide) (fun z1 => ?_) (fun z1 => ?_)
  · skip
    have z1 := b2i_1.mp z1
    refine v_iload_n O dX9_of_12 2 rfl ?_
    refine v_tsIn (off := 63) O 76 dX9_of_13 (by decide) (by decide) (by decide) (by decide) ?_
    refine v_aload_n O dX9_of_76 0 rfl ?_
    refine gf_X9_12 O rfl dX9_of_77 5 rfl rfl ?_
    refine gf_X9_99 O rfl dX9_of_80 6 rfl rfl ?_
    refine v_iload_n O dX9_of_83 1 rfl ?_
    refine v_ialdk O dX9_of_84 2 rfl i rfl (by omega) (by decide) ?_
    refine v_sub (ws' := [(o, .inr (9, [.ref ca, .ref im, .int tk, .ref txo, .ref ba, .ref va, .int (nI vc), .ref nwk, .ref nt, .ref ro, .ref lo, .ref bd, .ref ta])), (ca, .inr (1, [.int (nI c.men), .ref ck, .ref cv, .ref chd, .int (nI c.heap), .int c.dogs, .int (nI c.wak), .int (nI c.rl), .ref cr, .int (nI c.pg), .ref cb, .int c.held])), (ck, eI D 6 (nF c.kk)), (cv, eI D 6 (nF c.vv)), (chd, eI D 6 c.hd), (cr, eI D 8 (nF c.crf)), (cb, eI D 12 (nF c.bo))]) [5, 6, 0, 1, 2, 3, 4] (by decide) rfl ?_
    exact v_ireturn O T rfl rfl (by decide) (by decide) dX9_of_85 (⟨rfl, rfl⟩)
  · skip
    have z1 := b2i_0.mp z1
    exact absurd ((isIx_nI (by omega) (by omega)).mpr hi) z1
set_option maxRecDepth 100000 in
set_option maxHeartbeats 4000000 in
theorem sp_X9_of_6 {D : G} {o : Nat} {ca : Nat} {im : Nat} {tk : Int32} {txo : Nat} {ba : Nat} {va : Nat} {vc : Nat} {nt : Nat} {ro : Nat} {lo : Nat} {bd : Nat} {ta : Nat} {ck : Nat} {cv : Nat} {chd : Nat} {cr : Nat} {cb : Nat} {c : CS} {vt : Nat → Option Nat} {vg : Nat} {io : Nat} {am : Nat} {en : Nat} {sp : Nat} {v : VS} {wk : Nat} {kn : Nat} {vl : Nat} {pt : Nat} {fc : Nat} {ovr : Nat} {bkr : Nat} {gz : Int32} {lf : Int32} {dg : Int32} {hd : Int32} {f1 : Nat → Int32} {f2 : Nat → Int32} {f3 : Nat → Int32} {ff : Nat → Int32} {ot : Nat → Nat} {bt : Nat → Nat} {i : Nat} (hC : cOk c) (hv : vAsk v) (hV : (c.held = -1 ∧ vg = ba) ∨ (∃ zh : Nat, zh < 6 ∧ c.held = nI zh ∧ vt zh = some vg)) (hi : i < c.men) : Sp D mX9_of 30 0 0 [.ref o, .int (nI i), .int 3] [(o, .inr (9, [.ref ca, .ref im, .int tk, .ref txo, .ref ba, .ref va, .int (nI vc), .ref wk, .ref nt, .ref ro, .ref lo, .ref bd, .ref ta])), (ca, .inr (1, [.int (nI c.men), .ref ck, .ref cv, .ref chd, .int (nI c.heap), .int c.dogs, .int (nI c.wak), .int (nI c.rl), .ref cr, .int (nI c.pg), .ref cb, .int c.held])), (ck, eI D 6 (nF c.kk)), (cv, eI D 6 (nF c.vv)), (chd, eI D 6 c.hd), (cr, eI D 8 (nF c.crf)), (cb, eI D 12 (nF c.bo)), (va, eV D 6 vt), (vg, .inr (6, [.int (nI v.sh), .int (nI v.mo), .int (nI v.ov), .int (nI v.nr), .ref io, .ref am, .ref en, .int (nI v.nl), .ref sp])), (io, eZ D 10 v.fo), (am, eI D 10 v.fa), (en, eI D 10 v.fe), (sp, eI D 100 v.fs), (wk, .inr (8, [.ref kn, .ref vl, .ref pt, .int gz, .ref fc, .ref ovr, .ref bkr, .int lf, .int dg, .int hd])), (kn, eI D 6 f1), (vl, eI D 6 f2), (pt, eI D 6 f3), (fc, eI D 5 ff), (ovr, eI D 480 (nF ot)), (bkr, eI D 480 (nF bt))] (fun r w => ∃ gz1 : Int32, ∃ l2 : Int32, ∃ g2 : Int32, ∃ d2 : Int32, ∃ f11 : Nat → Int32, ∃ f21 : Nat → Int32, ∃ f31 : Nat → Int32, ∃ ff1 : Nat → Int32, ∃ ot1 : Nat → Nat, ∃ bt1 : Nat → Nat, r = some (.int (nI (ppA c v i))) ∧ w = [(o, .inr (9, [.ref ca, .ref im, .int tk, .ref txo, .ref ba, .ref va, .int (nI vc), .ref wk, .ref nt, .ref ro, .ref lo, .ref bd, .ref ta])), (ca, .inr (1, [.int (nI c.men), .ref ck, .ref cv, .ref chd, .int (nI c.heap), .int c.dogs, .int (nI c.wak), .int (nI c.rl), .ref cr, .int (nI c.pg), .ref cb, .int c.held])), (ck, eI D 6 (nF c.kk)), (cv, eI D 6 (nF c.vv)), (chd, eI D 6 c.hd), (cr, eI D 8 (nF c.crf)), (cb, eI D 12 (nF c.bo)), (va, eV D 6 vt), (vg, .inr (6, [.int (nI v.sh), .int (nI v.mo), .int (nI v.ov), .int (nI v.nr), .ref io, .ref am, .ref en, .int (nI v.nl), .ref sp])), (io, eZ D 10 v.fo), (am, eI D 10 v.fa), (en, eI D 10 v.fe), (sp, eI D 100 v.fs), (wk, .inr (8, [.ref kn, .ref vl, .ref pt, .int gz1, .ref fc, .ref ovr, .ref bkr, .int l2, .int g2, .int d2])), (kn, eI D 6 f11), (vl, eI D 6 f21), (pt, eI D 6 f31), (fc, eI D 5 ff1), (ovr, eI D 480 (nF ot1)), (bkr, eI D 480 (nF bt1))]) := by
  refine Sp.of (by decide) (Nat.le_of_ble_eq_true rfl) (fun X O T => ?_)
  refine v_eq (lv' := [(0, .ref o), (1, .int (nI i)), (2, .int 3)]) rfl rfl rfl rfl ?_
  have z_m := hC.1
  have z_hp := hC.2.2.2.1
  have z_wk := hC.2.2.2.2.1
  have z_rl := hC.2.2.2.2.2.1
  have z_pg := hC.2.2.2.2.2.2.2.1
  refine v_aload_n O dX9_of_0 0 rfl ?_
  refine v_iload_n O dX9_of_1 1 rfl ?_
  refine v_cV (T := TX9) (ci := 9) (As := [.int (nI i)]) (wr := [(ck, eI D 6 (nF c.kk)), (cv, eI D 6 (nF c.vv)), (chd, eI D 6 c.hd), (cr, eI D 8 (nF c.crf)), (cb, eI D 12 (nF c.bo)), (va, eV D 6 vt), (vg, .inr (6, [.int (nI v.sh), .int (nI v.mo), .int (nI v.ov), .int (nI v.nr), .ref io, .ref am, .ref en, .int (nI v.nl), .ref sp])), (io, eZ D 10 v.fo), (am, eI D 10 v.fa), (en, eI D 10 v.fe), (sp, eI D 100 v.fs), (wk, .inr (8, [.ref kn, .ref vl, .ref pt, .int gz, .ref fc, .ref ovr, .ref bkr, .int lf, .int dg, .int hd])), (kn, eI D 6 f1), (vl, eI D 6 f2), (pt, eI D 6 f3), (fc, eI D 5 ff), (ovr, eI D 480 (nF ot)), (bkr, eI D 480 (nF bt))]) (st := []) O cf_X9_102 rfl (sp_X9_isMan (o := o) (man := (nI i)) (ca := ca) (im := im) (it := tk) (tx := txo) (ba := ba) (vs := va) (vc := (nI vc)) (nw := wk) (nt := nt) (ro := ro) (ln := lo) (bo := bd) (tp := ta) (men := c.men) (ck := ck) (cv := cv) (chd := chd) (heap := (nI c.heap)) (dogs := c.dogs) (wak := (nI c.wak)) (rl := c.rl) (cr := cr) (pg := c.pg) (cb := cb) (held := c.held) (hC.1)) dX9_of_2 rfl rfl 0 rfl [0, 1] [2, 3, 4, 5, 6, 7, 8, 9, 10, 11, 12, 13, 14, 15, 16, 17, 18, 19] (by decide) rfl rfl (by decide) (by decide) (by decide) (Nat.le_of_ble_eq_true rfl) (by decide) (by decide) (fun r_2 w_3 h_1 => ?_)
  obtain ⟨rfl, rfl⟩ := h_1
  refine v_eq (st' := [.int (b2i (isIx (nI i) c.men))]) (ws' := [(ck, eI D 6 (nF c.kk)), (cv, eI D 6 (nF c.vv)), (chd, eI D 6 c.hd), (cr, eI D 8 (nF c.crf)), (cb, eI D 12 (nF c.bo)), (va, eV D 6 vt), (vg, .inr (6, [.int (nI v.sh), .int (nI v.mo), .int (nI v.ov), .int (nI v.nr), .ref io, .ref am, .ref en, .int (nI v.nl), .ref sp])), (io, eZ D 10 v.fo), (am, eI D 10 v.fa), (en, eI D 10 v.fe), (sp, eI D 100 v.fs), (wk, .inr (8, [.ref kn, .ref vl, .ref pt, .int gz, .ref fc, .ref ovr, .ref bkr, .int lf, .int dg, .int hd])), (kn, eI D 6 f1), (vl, eI D 6 f2), (pt, eI D 6 f3), (fc, eI D 5 ff), (ovr, eI D 480 (nF ot)), (bkr, eI D 480 (nF bt)), (o, .inr (9, [.ref ca, .ref im, .int tk, .ref txo, .ref ba, .ref va, .int (nI vc), .ref wk, .ref nt, .ref ro, .ref lo, .ref bd, .ref ta])), (ca, .inr (1, [.int (nI c.men), .ref ck, .ref cv, .ref chd, .int (nI c.heap), .int c.dogs, .int (nI c.wak), .int (nI c.rl), .ref cr, .int (nI c.pg), .ref cb, .int c.held]))]) rfl rfl rfl rfl ?_
  refine v_if_ne O 12 dX9_of_5 (by decide) (fun z1 => ?_) (fun z1 => ?_)
  · skip
    have z1 := b2i_1.mp z1
    refine v_iload_n O dX9_of_12 2 rfl ?_
    refine v_tsIn (off := 73) O 86 dX9_of_13 (by decide) (by decide) (by decide) (by decide) ?_
    refine v_aload_n O dX9_of_86 0 rfl ?_
    refine v_iload_n O dX9_of_87 1 rfl ?_
    refine v_cV (T := TX9) (ci := 9) (As := [.int (nI i)]) (wr := []) (st := []) O cf_X9_106 rfl (sp_X9_readyWaking (o := o) (ca := ca) (im := im) (tk := tk) (txo := txo) (ba := ba) (va := va) (vc := vc) (nt := nt) (ro := ro) (lo := lo) (bd := bd) (ta := ta) (ck := ck) (cv := cv) (chd := chd) (cr := cr) (cb := cb) (c := c) (vt := vt) (vg := vg) (io := io) (am := am) (en := en) (sp := sp) (v := v) (wk := wk) (kn := kn) (vl := vl) (pt := pt) (fc := fc) (ovr := ovr) (bkr := bkr) (gz := gz) (lf := lf) (dg := dg) (hd := hd) (f1 := f1) (f2 := f2) (f3 := f3) (ff := ff) (ot := ot) (bt := bt) (m := i) (hV) (hC) (hv) (by omega)) dX9_of_88 rfl rfl 18 rfl [18, 19, 0, 1, 2, 3, 4, 5, 6, 7, 8, 9, 10, 11, 12, 13, 14, 15, 16, 17] [] (by decide) rfl rfl (by decide) (by decide) (by decide) (Nat.le_of_ble_eq_true rfl) (by decide) (by decide) (fun r_5 w_6 h_4 => ?_)
    obtain ⟨ff2_7, ot2_8, bt2_9, rfl, rfl, h_o, h_b⟩ := h_4
    refine v_eq (st' := [.ref wk]) (ws' := [(o, .inr (9, [.ref ca, .ref im, .int tk, .ref txo, .ref ba, .ref va, .int (nI vc), .ref wk, .ref nt, .ref ro, .ref lo, .ref bd, .ref ta])), (ca, .inr (1, [.int (nI c.men), .ref ck, .ref cv, .ref chd, .int (nI c.heap), .int c.dogs, .int (nI c.wak), .int (nI c.rl), .ref cr, .int (nI c.pg), .ref cb, .int c.held])), (ck, eI D 6 (nF c.kk)), (cv, eI D 6 (nF c.vv)), (chd, eI D 6 c.hd), (cr, eI D 8 (nF c.crf)), (cb, eI D 12 (nF c.bo)), (va, eV D 6 vt), (vg, .inr (6, [.int (nI v.sh), .int (nI v.mo), .int (nI v.ov), .int (nI v.nr), .ref io, .ref am, .ref en, .int (nI v.nl), .ref sp])), (io, eZ D 10 v.fo), (am, eI D 10 v.fa), (en, eI D 10 v.fe), (sp, eI D 100 v.fs), (wk, .inr (8, [.ref kn, .ref vl, .ref pt, .int (nI c.wak), .ref fc, .ref ovr, .ref bkr, .int lf, .int dg, .int hd])), (kn, eI D 6 (nF c.kk)), (vl, eI D 6 (nF c.vv)), (pt, eI D 6 (nF (ppA c v))), (fc, eI D 5 ff2_7), (ovr, eI D 480 (nF ot2_8)), (bkr, eI D 480 (nF bt2_9))]) rfl rfl rfl rfl ?_
    refine v_iload_n O dX9_of_91 1 rfl ?_
    refine v_cV (T := TX8) (ci := 8) (As := [.int (nI i)]) (wr := [(o, .inr (9, [.ref ca, .ref im, .int tk, .ref txo, .ref ba, .ref va, .int (nI vc), .ref wk, .ref nt, .ref ro, .ref lo, .ref bd, .ref ta])), (ca, .inr (1, [.int (nI c.men), .ref ck, .ref cv, .ref chd, .int (nI c.heap), .int c.dogs, .int (nI c.wak), .int (nI c.rl), .ref cr, .int (nI c.pg), .ref cb, .int c.held])), (ck, eI D 6 (nF c.kk)), (cv, eI D 6 (nF c.vv)), (chd, eI D 6 c.hd), (cr, eI D 8 (nF c.crf)), (cb, eI D 12 (nF c.bo)), (va, eV D 6 vt), (vg, .inr (6, [.int (nI v.sh), .int (nI v.mo), .int (nI v.ov), .int (nI v.nr), .ref io, .ref am, .ref en, .int (nI v.nl), .ref sp])), (io, eZ D 10 v.fo), (am, eI D 10 v.fa), (en, eI D 10 v.fe), (sp, eI D 100 v.fs), (kn, eI D 6 (nF c.kk)), (vl, eI D 6 (nF c.vv)), (fc, eI D 5 ff2_7), (ovr, eI D 480 (nF ot2_8)), (bkr, eI D 480 (nF bt2_9))]) (st := []) O cf_X9_110 rfl (sp_X8_partsOf (wk := wk) (kn := kn) (vl := vl) (pt := pt) (gone := c.wak) (fc := fc) (ovr := ovr) (bkr := bkr) (lf := lf) (dg := dg) (hd := hd) (pp := (ppA c v)) (m := i) (by omega)) dX9_of_92 rfl rfl 13 rfl [13, 16] [0, 1, 2, 3, 4, 5, 6, 7, 8, 9, 10, 11, 12, 14, 15, 17, 18, 19] (by decide) rfl rfl (by decide) (by decide) (by decide) (Nat.le_of_ble_eq_true rfl) (by decide) (by decide) (fun r_11 w_12 h_10 => ?_)
    obtain ⟨rfl, rfl⟩ := h_10
    refine v_eq (st' := [.int (nI ((ppA c v) i))]) (ws' := [(o, .inr (9, [.ref ca, .ref im, .int tk, .ref txo, .ref ba, .ref va, .int (nI vc), .ref wk, .ref nt, .ref ro, .ref lo, .ref bd, .ref ta])), (ca, .inr (1, [.int (nI c.men), .ref ck, .ref cv, .ref chd, .int (nI c.heap), .int c.dogs, .int (nI c.wak), .int (nI c.rl), .ref cr, .int (nI c.pg), .ref cb, .int c.held])), (ck, eI D 6 (nF c.kk)), (cv, eI D 6 (nF c.vv)), (chd, eI D 6 c.hd), (cr, eI D 8 (nF c.crf)), (cb, eI D 12 (nF c.bo)), (va, eV D 6 vt), (vg, .inr (6, [.int (nI v.sh), .int (nI v.mo), .int (nI v.ov), .int (nI v.nr), .ref io, .ref am, .ref en, .int (nI v.nl), .ref sp])), (io, eZ D 10 v.fo), (am, eI D 10 v.fa), (en, eI D 10 v.fe), (sp, eI D 100 v.fs), (kn, eI D 6 (nF c.kk)), (vl, eI D 6 (nF c.vv)), (fc, eI D 5 ff2_7), (ovr, eI D 480 (nF ot2_8)), (bkr, eI D 480 (nF bt2_9)), (wk, .inr (8, [.ref kn, .ref vl, .ref pt, .int (nI c.wak), .ref fc, .ref ovr, .ref bkr, .int lf, .int dg, .int hd])), (pt, eI D 6 (nF (ppA c v)))]) rfl rfl rfl rfl ?_
    refine v_sub (ws' := [(o, .inr (9, [.ref ca, .ref im, .int tk, .ref txo, .ref ba, .ref va, .int (nI vc), .ref wk, .ref nt, .ref ro, .ref lo, .ref bd, .ref ta])), (ca, .inr (1, [.int (nI c.men), .ref ck, .ref cv, .ref chd, .int (nI c.heap), .int c.dogs, .int (nI c.wak), .int (nI c.rl), .ref cr, .int (nI c.pg), .ref cb, .int c.held])), (ck, eI D 6 (nF c.kk)), (cv, eI D 6 (nF c.vv)), (chd, eI D 6 c.hd), (cr, eI D 8 (nF c.crf)), (cb, eI D 12 (nF c.bo)), (va, eV D 6 vt), (vg, .inr (6, [.int (nI v.sh), .int (nI v.mo), .int (nI v.ov), .int (nI v.nr), .ref io, .ref am, .ref en, .int (nI v.nl), .ref sp])), (io, eZ D 10 v.fo), (am, eI D 10 v.fa), (en, eI D 10 v.fe), (sp, eI D 100 v.fs), (wk, .inr (8, [.ref kn, .ref vl, .ref pt, .int (nI c.wak), .ref fc, .ref ovr, .ref bkr, .int lf, .int dg, .int hd])), (kn, eI D 6 (nF c.kk)), (vl, eI D 6 (nF c.vv)), (pt, eI D 6 (nF (ppA c v))), (fc, eI D 5 ff2_7), (ovr, eI D 480 (nF ot2_8)), (bkr, eI D 480 (nF bt2_9))]) [0, 1, 2, 3, 4, 5, 6, 7, 8, 9, 10, 11, 12, 18, 13, 14, 19, 15, 16, 17] (by decide) rfl ?_
    exact v_ireturn O T rfl rfl (by decide) (by decide) dX9_of_95 (⟨_, _, _, _, _, _, _, _, _, _, rfl, rfl⟩)
  · skip
    have z1 := b2i_0.mp z1
    exact absurd ((isIx_nI (by omega) (by omega)).mpr hi) z1
set_option maxRecDepth 100000 in
set_option maxHeartbeats 4000000 in
theorem sp_X9_of_7 {D : G} {o : Nat} {ca : Nat} {im : Nat} {tk : Int32} {txo : Nat} {ba : Nat} {va : Nat} {vc : Nat} {nt : Nat} {ro : Nat} {lo : Nat} {bd : Nat} {ta : Nat} {ck : Nat} {cv : Nat} {chd : Nat} {cr : Nat} {cb : Nat} {c : CS} {vt : Nat → Option Nat} {vg : Nat} {io : Nat} {am : Nat} {en : Nat} {sp : Nat} {v : VS} {wk : Nat} {kn : Nat} {vl : Nat} {pt : Nat} {fc : Nat} {ovr : Nat} {bkr : Nat} {gz : Int32} {lf : Int32} {dg : Int32} {hd : Int32} {f1 : Nat → Int32} {f2 : Nat → Int32} {f3 : Nat → Int32} {ff : Nat → Int32} {ot : Nat → Nat} {bt : Nat → Nat} {i : Nat} (hC : cOk c) (hv : vAsk v) (hV : (c.held = -1 ∧ vg = ba) ∨ (∃ zh : Nat, zh < 6 ∧ c.held = nI zh ∧ vt zh = some vg)) (hi : i < c.men) : Sp D mX9_of 30 0 0 [.ref o, .int (nI i), .int 4] [(o, .inr (9, [.ref ca, .ref im, .int tk, .ref txo, .ref ba, .ref va, .int (nI vc), .ref wk, .ref nt, .ref ro, .ref lo, .ref bd, .ref ta])), (ca, .inr (1, [.int (nI c.men), .ref ck, .ref cv, .ref chd, .int (nI c.heap), .int c.dogs, .int (nI c.wak), .int (nI c.rl), .ref cr, .int (nI c.pg), .ref cb, .int c.held])), (ck, eI D 6 (nF c.kk)), (cv, eI D 6 (nF c.vv)), (chd, eI D 6 c.hd), (cr, eI D 8 (nF c.crf)), (cb, eI D 12 (nF c.bo)), (va, eV D 6 vt), (vg, .inr (6, [.int (nI v.sh), .int (nI v.mo), .int (nI v.ov), .int (nI v.nr), .ref io, .ref am, .ref en, .int (nI v.nl), .ref sp])), (io, eZ D 10 v.fo), (am, eI D 10 v.fa), (en, eI D 10 v.fe), (sp, eI D 100 v.fs), (wk, .inr (8, [.ref kn, .ref vl, .ref pt, .int gz, .ref fc, .ref ovr, .ref bkr, .int lf, .int dg, .int hd])), (kn, eI D 6 f1), (vl, eI D 6 f2), (pt, eI D 6 f3), (fc, eI D 5 ff), (ovr, eI D 480 (nF ot)), (bkr, eI D 480 (nF bt))] (fun r w => ∃ gz1 : Int32, ∃ l2 : Int32, ∃ g2 : Int32, ∃ d2 : Int32, ∃ f11 : Nat → Int32, ∃ f21 : Nat → Int32, ∃ f31 : Nat → Int32, ∃ ff1 : Nat → Int32, ∃ ot1 : Nat → Nat, ∃ bt1 : Nat → Nat, r = some (.int (nI (ovA c v i 0 (c.heap % 10)))) ∧ w = [(o, .inr (9, [.ref ca, .ref im, .int tk, .ref txo, .ref ba, .ref va, .int (nI vc), .ref wk, .ref nt, .ref ro, .ref lo, .ref bd, .ref ta])), (ca, .inr (1, [.int (nI c.men), .ref ck, .ref cv, .ref chd, .int (nI c.heap), .int c.dogs, .int (nI c.wak), .int (nI c.rl), .ref cr, .int (nI c.pg), .ref cb, .int c.held])), (ck, eI D 6 (nF c.kk)), (cv, eI D 6 (nF c.vv)), (chd, eI D 6 c.hd), (cr, eI D 8 (nF c.crf)), (cb, eI D 12 (nF c.bo)), (va, eV D 6 vt), (vg, .inr (6, [.int (nI v.sh), .int (nI v.mo), .int (nI v.ov), .int (nI v.nr), .ref io, .ref am, .ref en, .int (nI v.nl), .ref sp])), (io, eZ D 10 v.fo), (am, eI D 10 v.fa), (en, eI D 10 v.fe), (sp, eI D 100 v.fs), (wk, .inr (8, [.ref kn, .ref vl, .ref pt, .int gz1, .ref fc, .ref ovr, .ref bkr, .int l2, .int g2, .int d2])), (kn, eI D 6 f11), (vl, eI D 6 f21), (pt, eI D 6 f31), (fc, eI D 5 ff1), (ovr, eI D 480 (nF ot1)), (bkr, eI D 480 (nF bt1))]) := by
  refine Sp.of (by decide) (Nat.le_of_ble_eq_true rfl) (fun X O T => ?_)
  refine v_eq (lv' := [(0, .ref o), (1, .int (nI i)), (2, .int 4)]) rfl rfl rfl rfl ?_
  have z_m := hC.1
  have z_hp := hC.2.2.2.1
  have z_wk := hC.2.2.2.2.1
  have z_rl := hC.2.2.2.2.2.1
  have z_pg := hC.2.2.2.2.2.2.2.1
  refine v_aload_n O dX9_of_0 0 rfl ?_
  refine v_iload_n O dX9_of_1 1 rfl ?_
  refine v_cV (T := TX9) (ci := 9) (As := [.int (nI i)]) (wr := [(ck, eI D 6 (nF c.kk)), (cv, eI D 6 (nF c.vv)), (chd, eI D 6 c.hd), (cr, eI D 8 (nF c.crf)), (cb, eI D 12 (nF c.bo)), (va, eV D 6 vt), (vg, .inr (6, [.int (nI v.sh), .int (nI v.mo), .int (nI v.ov), .int (nI v.nr), .ref io, .ref am, .ref en, .int (nI v.nl), .ref sp])), (io, eZ D 10 v.fo), (am, eI D 10 v.fa), (en, eI D 10 v.fe), (sp, eI D 100 v.fs), (wk, .inr (8, [.ref kn, .ref vl, .ref pt, .int gz, .ref fc, .ref ovr, .ref bkr, .int lf, .int dg, .int hd])), (kn, eI D 6 f1), (vl, eI D 6 f2), (pt, eI D 6 f3), (fc, eI D 5 ff), (ovr, eI D 480 (nF ot)), (bkr, eI D 480 (nF bt))]) (st := []) O cf_X9_102 rfl (sp_X9_isMan (o := o) (man := (nI i)) (ca := ca) (im := im) (it := tk) (tx := txo) (ba := ba) (vs := va) (vc := (nI vc)) (nw := wk) (nt := nt) (ro := ro) (ln := lo) (bo := bd) (tp := ta) (men := c.men) (ck := ck) (cv := cv) (chd := chd) (heap := (nI c.heap)) (dogs := c.dogs) (wak := (nI c.wak)) (rl := c.rl) (cr := cr) (pg := c.pg) (cb := cb) (held := c.held) (hC.1)) dX9_of_2 rfl rfl 0 rfl [0, 1] [2, 3, 4, 5, 6, 7, 8, 9, 10, 11, 12, 13, 14, 15, 16, 17, 18, 19] (by decide) rfl rfl (by decide) (by decide) (by decide) (Nat.le_of_ble_eq_true rfl) (by decide) (by decide) (fun r_2 w_3 h_1 => ?_)
  obtain ⟨rfl, rfl⟩ := h_1
  refine v_eq (st' := [.int (b2i (isIx (nI i) c.men))]) (ws' := [(ck, eI D 6 (nF c.kk)), (cv, eI D 6 (nF c.vv)), (chd, eI D 6 c.hd), (cr, eI D 8 (nF c.crf)), (cb, eI D 12 (nF c.bo)), (va, eV D 6 vt), (vg, .inr (6, [.int (nI v.sh), .int (nI v.mo), .int (nI v.ov), .int (nI v.nr), .ref io, .ref am, .ref en, .int (nI v.nl), .ref sp])), (io, eZ D 10 v.fo), (am, eI D 10 v.fa), (en, eI D 10 v.fe), (sp, eI D 100 v.fs), (wk, .inr (8, [.ref kn, .ref vl, .ref pt, .int gz, .ref fc, .ref ovr, .ref bkr, .int lf, .int dg, .int hd])), (kn, eI D 6 f1), (vl, eI D 6 f2), (pt, eI D 6 f3), (fc, eI D 5 ff), (ovr, eI D 480 (nF ot)), (bkr, eI D 480 (nF bt)), (o, .inr (9, [.ref ca, .ref im, .int tk, .ref txo, .ref ba, .ref va, .int (nI vc), .ref wk, .ref nt, .ref ro, .ref lo, .ref bd, .ref ta])), (ca, .inr (1, [.int (nI c.men), .ref ck, .ref cv, .ref chd, .int (nI c.heap), .int c.dogs, .int (nI c.wak), .int (nI c.rl), .ref cr, .int (nI c.pg), .ref cb, .int c.held]))]) rfl rfl rfl rfl ?_
  refine v_if_ne O 12 dX9_of_5 (by decide) (fun z1 => ?_) (fun z1 => ?_)
  · skip
    have z1 := b2i_1.mp z1
    refine v_iload_n O dX9_of_12 2 rfl ?_
    refine v_tsIn (off := 83) O 96 dX9_of_13 (by decide) (by decide) (by decide) (by decide) ?_
    refine v_aload_n O dX9_of_96 0 rfl ?_
    refine v_iload_n O dX9_of_97 1 rfl ?_
    refine v_cV (T := TX9) (ci := 9) (As := [.int (nI i)]) (wr := []) (st := []) O cf_X9_106 rfl (sp_X9_readyWaking (o := o) (ca := ca) (im := im) (tk := tk) (txo := txo) (ba := ba) (va := va) (vc := vc) (nt := nt) (ro := ro) (lo := lo) (bd := bd) (ta := ta) (ck := ck) (cv := cv) (chd := chd) (cr := cr) (cb := cb) (c := c) (vt := vt) (vg := vg) (io := io) (am := am) (en := en) (sp := sp) (v := v) (wk := wk) (kn := kn) (vl := vl) (pt := pt) (fc := fc) (ovr := ovr) (bkr := bkr) (gz := gz) (lf := lf) (dg := dg) (hd := hd) (f1 := f1) (f2 := f2) (f3 := f3) (ff := ff) (ot := ot) (bt := bt) (m := i) (hV) (hC) (hv) (by omega)) dX9_of_98 rfl rfl 18 rfl [18, 19, 0, 1, 2, 3, 4, 5, 6, 7, 8, 9, 10, 11, 12, 13, 14, 15, 16, 17] [] (by decide) rfl rfl (by decide) (by decide) (by decide) (Nat.le_of_ble_eq_true rfl) (by decide) (by decide) (fun r_5 w_6 h_4 => ?_)
    obtain ⟨ff2_7, ot2_8, bt2_9, rfl, rfl, h_o, h_b⟩ := h_4
    refine v_eq (st' := [.ref wk]) (ws' := [(o, .inr (9, [.ref ca, .ref im, .int tk, .ref txo, .ref ba, .ref va, .int (nI vc), .ref wk, .ref nt, .ref ro, .ref lo, .ref bd, .ref ta])), (ca, .inr (1, [.int (nI c.men), .ref ck, .ref cv, .ref chd, .int (nI c.heap), .int c.dogs, .int (nI c.wak), .int (nI c.rl), .ref cr, .int (nI c.pg), .ref cb, .int c.held])), (ck, eI D 6 (nF c.kk)), (cv, eI D 6 (nF c.vv)), (chd, eI D 6 c.hd), (cr, eI D 8 (nF c.crf)), (cb, eI D 12 (nF c.bo)), (va, eV D 6 vt), (vg, .inr (6, [.int (nI v.sh), .int (nI v.mo), .int (nI v.ov), .int (nI v.nr), .ref io, .ref am, .ref en, .int (nI v.nl), .ref sp])), (io, eZ D 10 v.fo), (am, eI D 10 v.fa), (en, eI D 10 v.fe), (sp, eI D 100 v.fs), (wk, .inr (8, [.ref kn, .ref vl, .ref pt, .int (nI c.wak), .ref fc, .ref ovr, .ref bkr, .int lf, .int dg, .int hd])), (kn, eI D 6 (nF c.kk)), (vl, eI D 6 (nF c.vv)), (pt, eI D 6 (nF (ppA c v))), (fc, eI D 5 ff2_7), (ovr, eI D 480 (nF ot2_8)), (bkr, eI D 480 (nF bt2_9))]) rfl rfl rfl rfl ?_
    refine v_iload_n O dX9_of_101 1 rfl ?_
    refine v_iconst (v := 0) O dX9_of_102 (by decide) ?_
    refine v_aload_n O dX9_of_103 0 rfl ?_
    refine gf_X9_12 O rfl dX9_of_104 0 rfl rfl ?_
    refine gf_X9_114 O rfl dX9_of_107 1 rfl rfl ?_
    refine v_cV (T := TX8) (ci := 8) (As := [.int (nI i), .int 0, .int (nI c.heap)]) (wr := [(o, .inr (9, [.ref ca, .ref im, .int tk, .ref txo, .ref ba, .ref va, .int (nI vc), .ref wk, .ref nt, .ref ro, .ref lo, .ref bd, .ref ta])), (ca, .inr (1, [.int (nI c.men), .ref ck, .ref cv, .ref chd, .int (nI c.heap), .int c.dogs, .int (nI c.wak), .int (nI c.rl), .ref cr, .int (nI c.pg), .ref cb, .int c.held])), (ck, eI D 6 (nF c.kk)), (cv, eI D 6 (nF c.vv)), (chd, eI D 6 c.hd), (cr, eI D 8 (nF c.crf)), (cb, eI D 12 (nF c.bo)), (va, eV D 6 vt), (vg, .inr (6, [.int (nI v.sh), .int (nI v.mo), .int (nI v.ov), .int (nI v.nr), .ref io, .ref am, .ref en, .int (nI v.nl), .ref sp])), (io, eZ D 10 v.fo), (am, eI D 10 v.fa), (en, eI D 10 v.fe), (sp, eI D 100 v.fs), (kn, eI D 6 (nF c.kk)), (vl, eI D 6 (nF c.vv)), (pt, eI D 6 (nF (ppA c v))), (fc, eI D 5 ff2_7), (bkr, eI D 480 (nF bt2_9))]) (st := []) O cf_X9_117 rfl (sp_X8_overOf (wk := wk) (kn := kn) (vl := vl) (pt := pt) (gone := c.wak) (fc := fc) (ovr := ovr) (bkr := bkr) (lf := lf) (dg := dg) (hd := hd) (ov := ot2_8) (m := i) (s := 0) (h := c.heap) (by omega) (by decide) (by omega)) dX9_of_110 rfl rfl 13 rfl [13, 18] [0, 1, 2, 3, 4, 5, 6, 7, 8, 9, 10, 11, 12, 14, 15, 16, 17, 19] (by decide) rfl rfl (by decide) (by decide) (by decide) (Nat.le_of_ble_eq_true rfl) (by decide) (by decide) (fun r_11 w_12 h_10 => ?_)
    obtain ⟨rfl, rfl⟩ := h_10
    refine v_eq (st' := [.int (nI (ot2_8 (slotN i 0 (c.heap % 10))))]) (ws' := [(o, .inr (9, [.ref ca, .ref im, .int tk, .ref txo, .ref ba, .ref va, .int (nI vc), .ref wk, .ref nt, .ref ro, .ref lo, .ref bd, .ref ta])), (ca, .inr (1, [.int (nI c.men), .ref ck, .ref cv, .ref chd, .int (nI c.heap), .int c.dogs, .int (nI c.wak), .int (nI c.rl), .ref cr, .int (nI c.pg), .ref cb, .int c.held])), (ck, eI D 6 (nF c.kk)), (cv, eI D 6 (nF c.vv)), (chd, eI D 6 c.hd), (cr, eI D 8 (nF c.crf)), (cb, eI D 12 (nF c.bo)), (va, eV D 6 vt), (vg, .inr (6, [.int (nI v.sh), .int (nI v.mo), .int (nI v.ov), .int (nI v.nr), .ref io, .ref am, .ref en, .int (nI v.nl), .ref sp])), (io, eZ D 10 v.fo), (am, eI D 10 v.fa), (en, eI D 10 v.fe), (sp, eI D 100 v.fs), (kn, eI D 6 (nF c.kk)), (vl, eI D 6 (nF c.vv)), (pt, eI D 6 (nF (ppA c v))), (fc, eI D 5 ff2_7), (bkr, eI D 480 (nF bt2_9)), (wk, .inr (8, [.ref kn, .ref vl, .ref pt, .int (nI c.wak), .ref fc, .ref ovr, .ref bkr, .int lf, .int dg, .int hd])), (ovr, eI D 480 (nF ot2_8))]) rfl rfl rfl rfl ?_
    refine v_sub (ws' := [(o, .inr (9, [.ref ca, .ref im, .int tk, .ref txo, .ref ba, .ref va, .int (nI vc), .ref wk, .ref nt, .ref ro, .ref lo, .ref bd, .ref ta])), (ca, .inr (1, [.int (nI c.men), .ref ck, .ref cv, .ref chd, .int (nI c.heap), .int c.dogs, .int (nI c.wak), .int (nI c.rl), .ref cr, .int (nI c.pg), .ref cb, .int c.held])), (ck, eI D 6 (nF c.kk)), (cv, eI D 6 (nF c.vv)), (chd, eI D 6 c.hd), (cr, eI D 8 (nF c.crf)), (cb, eI D 12 (nF c.bo)), (va, eV D 6 vt), (vg, .inr (6, [.int (nI v.sh), .int (nI v.mo), .int (nI v.ov), .int (nI v.nr), .ref io, .ref am, .ref en, .int (nI v.nl), .ref sp])), (io, eZ D 10 v.fo), (am, eI D 10 v.fa), (en, eI D 10 v.fe), (sp, eI D 100 v.fs), (wk, .inr (8, [.ref kn, .ref vl, .ref pt, .int (nI c.wak), .ref fc, .ref ovr, .ref bkr, .int lf, .int dg, .int hd])), (kn, eI D 6 (nF c.kk)), (vl, eI D 6 (nF c.vv)), (pt, eI D 6 (nF (ppA c v))), (fc, eI D 5 ff2_7), (ovr, eI D 480 (nF ot2_8)), (bkr, eI D 480 (nF bt2_9))]) [0, 1, 2, 3, 4, 5, 6, 7, 8, 9, 10, 11, 12, 18, 13, 14, 15, 16, 19, 17] (by decide) rfl ?_
    exact v_ireturn O T rfl rfl (by decide) (by decide) dX9_of_113 (⟨_, _, _, _, _, _, _, _, _, _, by rw [h_o _ (Nat.mod_lt _ (by decide))], rfl⟩)
  · skip
    have z1 := b2i_0.mp z1
    exact absurd ((isIx_nI (by omega) (by omega)).mpr hi) z1
set_option maxRecDepth 100000 in
set_option maxHeartbeats 4000000 in
theorem sp_X9_of_8 {D : G} {o : Nat} {ca : Nat} {im : Nat} {tk : Int32} {txo : Nat} {ba : Nat} {va : Nat} {vc : Nat} {nt : Nat} {ro : Nat} {lo : Nat} {bd : Nat} {ta : Nat} {ck : Nat} {cv : Nat} {chd : Nat} {cr : Nat} {cb : Nat} {c : CS} {vt : Nat → Option Nat} {vg : Nat} {io : Nat} {am : Nat} {en : Nat} {sp : Nat} {v : VS} {wk : Nat} {kn : Nat} {vl : Nat} {pt : Nat} {fc : Nat} {ovr : Nat} {bkr : Nat} {gz : Int32} {lf : Int32} {dg : Int32} {hd : Int32} {f1 : Nat → Int32} {f2 : Nat → Int32} {f3 : Nat → Int32} {ff : Nat → Int32} {ot : Nat → Nat} {bt : Nat → Nat} {i : Nat} (hC : cOk c) (hv : vAsk v) (hV : (c.held = -1 ∧ vg = ba) ∨ (∃ zh : Nat, zh < 6 ∧ c.held = nI zh ∧ vt zh = some vg)) (hi : i < c.men) : Sp D mX9_of 30 0 0 [.ref o, .int (nI i), .int 5] [(o, .inr (9, [.ref ca, .ref im, .int tk, .ref txo, .ref ba, .ref va, .int (nI vc), .ref wk, .ref nt, .ref ro, .ref lo, .ref bd, .ref ta])), (ca, .inr (1, [.int (nI c.men), .ref ck, .ref cv, .ref chd, .int (nI c.heap), .int c.dogs, .int (nI c.wak), .int (nI c.rl), .ref cr, .int (nI c.pg), .ref cb, .int c.held])), (ck, eI D 6 (nF c.kk)), (cv, eI D 6 (nF c.vv)), (chd, eI D 6 c.hd), (cr, eI D 8 (nF c.crf)), (cb, eI D 12 (nF c.bo)), (va, eV D 6 vt), (vg, .inr (6, [.int (nI v.sh), .int (nI v.mo), .int (nI v.ov), .int (nI v.nr), .ref io, .ref am, .ref en, .int (nI v.nl), .ref sp])), (io, eZ D 10 v.fo), (am, eI D 10 v.fa), (en, eI D 10 v.fe), (sp, eI D 100 v.fs), (wk, .inr (8, [.ref kn, .ref vl, .ref pt, .int gz, .ref fc, .ref ovr, .ref bkr, .int lf, .int dg, .int hd])), (kn, eI D 6 f1), (vl, eI D 6 f2), (pt, eI D 6 f3), (fc, eI D 5 ff), (ovr, eI D 480 (nF ot)), (bkr, eI D 480 (nF bt))] (fun r w => ∃ gz1 : Int32, ∃ l2 : Int32, ∃ g2 : Int32, ∃ d2 : Int32, ∃ f11 : Nat → Int32, ∃ f21 : Nat → Int32, ∃ f31 : Nat → Int32, ∃ ff1 : Nat → Int32, ∃ ot1 : Nat → Nat, ∃ bt1 : Nat → Nat, r = some (.int (nI (bkA c v i 0 (c.heap % 10)))) ∧ w = [(o, .inr (9, [.ref ca, .ref im, .int tk, .ref txo, .ref ba, .ref va, .int (nI vc), .ref wk, .ref nt, .ref ro, .ref lo, .ref bd, .ref ta])), (ca, .inr (1, [.int (nI c.men), .ref ck, .ref cv, .ref chd, .int (nI c.heap), .int c.dogs, .int (nI c.wak), .int (nI c.rl), .ref cr, .int (nI c.pg), .ref cb, .int c.held])), (ck, eI D 6 (nF c.kk)), (cv, eI D 6 (nF c.vv)), (chd, eI D 6 c.hd), (cr, eI D 8 (nF c.crf)), (cb, eI D 12 (nF c.bo)), (va, eV D 6 vt), (vg, .inr (6, [.int (nI v.sh), .int (nI v.mo), .int (nI v.ov), .int (nI v.nr), .ref io, .ref am, .ref en, .int (nI v.nl), .ref sp])), (io, eZ D 10 v.fo), (am, eI D 10 v.fa), (en, eI D 10 v.fe), (sp, eI D 100 v.fs), (wk, .inr (8, [.ref kn, .ref vl, .ref pt, .int gz1, .ref fc, .ref ovr, .ref bkr, .int l2, .int g2, .int d2])), (kn, eI D 6 f11), (vl, eI D 6 f21), (pt, eI D 6 f31), (fc, eI D 5 ff1), (ovr, eI D 480 (nF ot1)), (bkr, eI D 480 (nF bt1))]) := by
  refine Sp.of (by decide) (Nat.le_of_ble_eq_true rfl) (fun X O T => ?_)
  refine v_eq (lv' := [(0, .ref o), (1, .int (nI i)), (2, .int 5)]) rfl rfl rfl rfl ?_
  have z_m := hC.1
  have z_hp := hC.2.2.2.1
  have z_wk := hC.2.2.2.2.1
  have z_rl := hC.2.2.2.2.2.1
  have z_pg := hC.2.2.2.2.2.2.2.1
  refine v_aload_n O dX9_of_0 0 rfl ?_
  refine v_iload_n O dX9_of_1 1 rfl ?_
  refine v_cV (T := TX9) (ci := 9) (As := [.int (nI i)]) (wr := [(ck, eI D 6 (nF c.kk)), (cv, eI D 6 (nF c.vv)), (chd, eI D 6 c.hd), (cr, eI D 8 (nF c.crf)), (cb, eI D 12 (nF c.bo)), (va, eV D 6 vt), (vg, .inr (6, [.int (nI v.sh), .int (nI v.mo), .int (nI v.ov), .int (nI v.nr), .ref io, .ref am, .ref en, .int (nI v.nl), .ref sp])), (io, eZ D 10 v.fo), (am, eI D 10 v.fa), (en, eI D 10 v.fe), (sp, eI D 100 v.fs), (wk, .inr (8, [.ref kn, .ref vl, .ref pt, .int gz, .ref fc, .ref ovr, .ref bkr, .int lf, .int dg, .int hd])), (kn, eI D 6 f1), (vl, eI D 6 f2), (pt, eI D 6 f3), (fc, eI D 5 ff), (ovr, eI D 480 (nF ot)), (bkr, eI D 480 (nF bt))]) (st := []) O cf_X9_102 rfl (sp_X9_isMan (o := o) (man := (nI i)) (ca := ca) (im := im) (it := tk) (tx := txo) (ba := ba) (vs := va) (vc := (nI vc)) (nw := wk) (nt := nt) (ro := ro) (ln := lo) (bo := bd) (tp := ta) (men := c.men) (ck := ck) (cv := cv) (chd := chd) (heap := (nI c.heap)) (dogs := c.dogs) (wak := (nI c.wak)) (rl := c.rl) (cr := cr) (pg := c.pg) (cb := cb) (held := c.held) (hC.1)) dX9_of_2 rfl rfl 0 rfl [0, 1] [2, 3, 4, 5, 6, 7, 8, 9, 10, 11, 12, 13, 14, 15, 16, 17, 18, 19] (by decide) rfl rfl (by decide) (by decide) (by decide) (Nat.le_of_ble_eq_true rfl) (by decide) (by decide) (fun r_2 w_3 h_1 => ?_)
  obtain ⟨rfl, rfl⟩ := h_1
  refine v_eq (st' := [.int (b2i (isIx (nI i) c.men))]) (ws' := [(ck, eI D 6 (nF c.kk)), (cv, eI D 6 (nF c.vv)), (chd, eI D 6 c.hd), (cr, eI D 8 (nF c.crf)), (cb, eI D 12 (nF c.bo)), (va, eV D 6 vt), (vg, .inr (6, [.int (nI v.sh), .int (nI v.mo), .int (nI v.ov), .int (nI v.nr), .ref io, .ref am, .ref en, .int (nI v.nl), .ref sp])), (io, eZ D 10 v.fo), (am, eI D 10 v.fa), (en, eI D 10 v.fe), (sp, eI D 100 v.fs), (wk, .inr (8, [.ref kn, .ref vl, .ref pt, .int gz, .ref fc, .ref ovr, .ref bkr, .int lf, .int dg, .int hd])), (kn, eI D 6 f1), (vl, eI D 6 f2), (pt, eI D 6 f3), (fc, eI D 5 ff), (ovr, eI D 480 (nF ot)), (bkr, eI D 480 (nF bt)), (o, .inr (9, [.ref ca, .ref im, .int tk, .ref txo, .ref ba, .ref va, .int (nI vc), .ref wk, .ref nt, .ref ro, .ref lo, .ref bd, .ref ta])), (ca, .inr (1, [.int (nI c.men), .ref ck, .ref cv, .ref chd, .int (nI c.heap), .int c.dogs, .int (nI c.wak), .int (nI c.rl), .ref cr, .int (nI c.pg), .ref cb, .int c.held]))]) rfl rfl rfl rfl ?_
  refine v_if_ne O 12 dX9_of_5 (by decide) (fun z1 => ?_) (fun z1 => ?_)
  · skip
    have z1 := b2i_1.mp z1
    refine v_iload_n O dX9_of_12 2 rfl ?_
    refine v_tsIn (off := 101) O 114 dX9_of_13 (by decide) (by decide) (by decide) (by decide) ?_
    refine v_aload_n O dX9_of_114 0 rfl ?_
    refine v_iload_n O dX9_of_115 1 rfl ?_
    refine v_cV (T := TX9) (ci := 9) (As := [.int (nI i)]) (wr := []) (st := []) O cf_X9_106 rfl (sp_X9_readyWaking (o := o) (ca := ca) (im := im) (tk := tk) (txo := txo) (ba := ba) (va := va) (vc := vc) (nt := nt) (ro := ro) (lo := lo) (bd := bd) (ta := ta) (ck := ck) (cv := cv) (chd := chd) (cr := cr) (cb := cb) (c := c) (vt := vt) (vg := vg) (io := io) (am := am) (en := en) (sp := sp) (v := v) (wk := wk) (kn := kn) (vl := vl) (pt := pt) (fc := fc) (ovr := ovr) (bkr := bkr) (gz := gz) (lf := lf) (dg := dg) (hd := hd) (f1 := f1) (f2 := f2) (f3 := f3) (ff := ff) (ot := ot) (bt := bt) (m := i) (hV) (hC) (hv) (by omega)) dX9_of_116 rfl rfl 18 rfl [18, 19, 0, 1, 2, 3, 4, 5, 6, 7, 8, 9, 10, 11, 12, 13, 14, 15, 16, 17] [] (by decide) rfl rfl (by decide) (by decide) (by decide) (Nat.le_of_ble_eq_true rfl) (by decide) (by decide) (fun r_5 w_6 h_4 => ?_)
    obtain ⟨ff2_7, ot2_8, bt2_9, rfl, rfl, h_o, h_b⟩ := h_4
    refine v_eq (st' := [.ref wk]) (ws' := [(o, .inr (9, [.ref ca, .ref im, .int tk, .ref txo, .ref ba, .ref va, .int (nI vc), .ref wk, .ref nt, .ref ro, .ref lo, .ref bd, .ref ta])), (ca, .inr (1, [.int (nI c.men), .ref ck, .ref cv, .ref chd, .int (nI c.heap), .int c.dogs, .int (nI c.wak), .int (nI c.rl), .ref cr, .int (nI c.pg), .ref cb, .int c.held])), (ck, eI D 6 (nF c.kk)), (cv, eI D 6 (nF c.vv)), (chd, eI D 6 c.hd), (cr, eI D 8 (nF c.crf)), (cb, eI D 12 (nF c.bo)), (va, eV D 6 vt), (vg, .inr (6, [.int (nI v.sh), .int (nI v.mo), .int (nI v.ov), .int (nI v.nr), .ref io, .ref am, .ref en, .int (nI v.nl), .ref sp])), (io, eZ D 10 v.fo), (am, eI D 10 v.fa), (en, eI D 10 v.fe), (sp, eI D 100 v.fs), (wk, .inr (8, [.ref kn, .ref vl, .ref pt, .int (nI c.wak), .ref fc, .ref ovr, .ref bkr, .int lf, .int dg, .int hd])), (kn, eI D 6 (nF c.kk)), (vl, eI D 6 (nF c.vv)), (pt, eI D 6 (nF (ppA c v))), (fc, eI D 5 ff2_7), (ovr, eI D 480 (nF ot2_8)), (bkr, eI D 480 (nF bt2_9))]) rfl rfl rfl rfl ?_
    refine v_iload_n O dX9_of_119 1 rfl ?_
    refine v_iconst (v := 0) O dX9_of_120 (by decide) ?_
    refine v_aload_n O dX9_of_121 0 rfl ?_
    refine gf_X9_12 O rfl dX9_of_122 0 rfl rfl ?_
    refine gf_X9_114 O rfl dX9_of_125 1 rfl rfl ?_
    refine v_cV (T := TX8) (ci := 8) (As := [.int (nI i), .int 0, .int (nI c.heap)]) (wr := [(o, .inr (9, [.ref ca, .ref im, .int tk, .ref txo, .ref ba, .ref va, .int (nI vc), .ref wk, .ref nt, .ref ro, .ref lo, .ref bd, .ref ta])), (ca, .inr (1, [.int (nI c.men), .ref ck, .ref cv, .ref chd, .int (nI c.heap), .int c.dogs, .int (nI c.wak), .int (nI c.rl), .ref cr, .int (nI c.pg), .ref cb, .int c.held])), (ck, eI D 6 (nF c.kk)), (cv, eI D 6 (nF c.vv)), (chd, eI D 6 c.hd), (cr, eI D 8 (nF c.crf)), (cb, eI D 12 (nF c.bo)), (va, eV D 6 vt), (vg, .inr (6, [.int (nI v.sh), .int (nI v.mo), .int (nI v.ov), .int (nI v.nr), .ref io, .ref am, .ref en, .int (nI v.nl), .ref sp])), (io, eZ D 10 v.fo), (am, eI D 10 v.fa), (en, eI D 10 v.fe), (sp, eI D 100 v.fs), (kn, eI D 6 (nF c.kk)), (vl, eI D 6 (nF c.vv)), (pt, eI D 6 (nF (ppA c v))), (fc, eI D 5 ff2_7), (ovr, eI D 480 (nF ot2_8))]) (st := []) O cf_X9_121 rfl (sp_X8_backOf (wk := wk) (kn := kn) (vl := vl) (pt := pt) (gone := c.wak) (fc := fc) (ovr := ovr) (bkr := bkr) (lf := lf) (dg := dg) (hd := hd) (bk := bt2_9) (m := i) (s := 0) (h := c.heap) (by omega) (by decide) (by omega)) dX9_of_128 rfl rfl 13 rfl [13, 19] [0, 1, 2, 3, 4, 5, 6, 7, 8, 9, 10, 11, 12, 14, 15, 16, 17, 18] (by decide) rfl rfl (by decide) (by decide) (by decide) (Nat.le_of_ble_eq_true rfl) (by decide) (by decide) (fun r_11 w_12 h_10 => ?_)
    obtain ⟨rfl, rfl⟩ := h_10
    refine v_eq (st' := [.int (nI (bt2_9 (slotN i 0 (c.heap % 10))))]) (ws' := [(o, .inr (9, [.ref ca, .ref im, .int tk, .ref txo, .ref ba, .ref va, .int (nI vc), .ref wk, .ref nt, .ref ro, .ref lo, .ref bd, .ref ta])), (ca, .inr (1, [.int (nI c.men), .ref ck, .ref cv, .ref chd, .int (nI c.heap), .int c.dogs, .int (nI c.wak), .int (nI c.rl), .ref cr, .int (nI c.pg), .ref cb, .int c.held])), (ck, eI D 6 (nF c.kk)), (cv, eI D 6 (nF c.vv)), (chd, eI D 6 c.hd), (cr, eI D 8 (nF c.crf)), (cb, eI D 12 (nF c.bo)), (va, eV D 6 vt), (vg, .inr (6, [.int (nI v.sh), .int (nI v.mo), .int (nI v.ov), .int (nI v.nr), .ref io, .ref am, .ref en, .int (nI v.nl), .ref sp])), (io, eZ D 10 v.fo), (am, eI D 10 v.fa), (en, eI D 10 v.fe), (sp, eI D 100 v.fs), (kn, eI D 6 (nF c.kk)), (vl, eI D 6 (nF c.vv)), (pt, eI D 6 (nF (ppA c v))), (fc, eI D 5 ff2_7), (ovr, eI D 480 (nF ot2_8)), (wk, .inr (8, [.ref kn, .ref vl, .ref pt, .int (nI c.wak), .ref fc, .ref ovr, .ref bkr, .int lf, .int dg, .int hd])), (bkr, eI D 480 (nF bt2_9))]) rfl rfl rfl rfl ?_
    refine v_sub (ws' := [(o, .inr (9, [.ref ca, .ref im, .int tk, .ref txo, .ref ba, .ref va, .int (nI vc), .ref wk, .ref nt, .ref ro, .ref lo, .ref bd, .ref ta])), (ca, .inr (1, [.int (nI c.men), .ref ck, .ref cv, .ref chd, .int (nI c.heap), .int c.dogs, .int (nI c.wak), .int (nI c.rl), .ref cr, .int (nI c.pg), .ref cb, .int c.held])), (ck, eI D 6 (nF c.kk)), (cv, eI D 6 (nF c.vv)), (chd, eI D 6 c.hd), (cr, eI D 8 (nF c.crf)), (cb, eI D 12 (nF c.bo)), (va, eV D 6 vt), (vg, .inr (6, [.int (nI v.sh), .int (nI v.mo), .int (nI v.ov), .int (nI v.nr), .ref io, .ref am, .ref en, .int (nI v.nl), .ref sp])), (io, eZ D 10 v.fo), (am, eI D 10 v.fa), (en, eI D 10 v.fe), (sp, eI D 100 v.fs), (wk, .inr (8, [.ref kn, .ref vl, .ref pt, .int (nI c.wak), .ref fc, .ref ovr, .ref bkr, .int lf, .int dg, .int hd])), (kn, eI D 6 (nF c.kk)), (vl, eI D 6 (nF c.vv)), (pt, eI D 6 (nF (ppA c v))), (fc, eI D 5 ff2_7), (ovr, eI D 480 (nF ot2_8)), (bkr, eI D 480 (nF bt2_9))]) [0, 1, 2, 3, 4, 5, 6, 7, 8, 9, 10, 11, 12, 18, 13, 14, 15, 16, 17, 19] (by decide) rfl ?_
    exact v_ireturn O T rfl rfl (by decide) (by decide) dX9_of_131 (⟨_, _, _, _, _, _, _, _, _, _, by rw [h_b _ (Nat.mod_lt _ (by decide))], rfl⟩)
  · skip
    have z1 := b2i_0.mp z1
    exact absurd ((isIx_nI (by omega) (by omega)).mpr hi) z1
set_option maxRecDepth 100000 in
set_option maxHeartbeats 4000000 in
theorem sp_X9_of_9 {D : G} {o : Nat} {ca : Nat} {im : Nat} {tk : Int32} {txo : Nat} {ba : Nat} {va : Nat} {vc : Nat} {nt : Nat} {ro : Nat} {lo : Nat} {bd : Nat} {ta : Nat} {ck : Nat} {cv : Nat} {chd : Nat} {cr : Nat} {cb : Nat} {c : CS} {vt : Nat → Option Nat} {vg : Nat} {io : Nat} {am : Nat} {en : Nat} {sp : Nat} {v : VS} {wk : Nat} {kn : Nat} {vl : Nat} {pt : Nat} {fc : Nat} {ovr : Nat} {bkr : Nat} {gz : Int32} {lf : Int32} {dg : Int32} {hd : Int32} {f1 : Nat → Int32} {f2 : Nat → Int32} {f3 : Nat → Int32} {ff : Nat → Int32} {ot : Nat → Nat} {bt : Nat → Nat} {i : Nat} (hC : cOk c) (hv : vAsk v) (hV : (c.held = -1 ∧ vg = ba) ∨ (∃ zh : Nat, zh < 6 ∧ c.held = nI zh ∧ vt zh = some vg)) (hi : i < c.men) : Sp D mX9_of 30 0 0 [.ref o, .int (nI i), .int 6] [(o, .inr (9, [.ref ca, .ref im, .int tk, .ref txo, .ref ba, .ref va, .int (nI vc), .ref wk, .ref nt, .ref ro, .ref lo, .ref bd, .ref ta])), (ca, .inr (1, [.int (nI c.men), .ref ck, .ref cv, .ref chd, .int (nI c.heap), .int c.dogs, .int (nI c.wak), .int (nI c.rl), .ref cr, .int (nI c.pg), .ref cb, .int c.held])), (ck, eI D 6 (nF c.kk)), (cv, eI D 6 (nF c.vv)), (chd, eI D 6 c.hd), (cr, eI D 8 (nF c.crf)), (cb, eI D 12 (nF c.bo)), (va, eV D 6 vt), (vg, .inr (6, [.int (nI v.sh), .int (nI v.mo), .int (nI v.ov), .int (nI v.nr), .ref io, .ref am, .ref en, .int (nI v.nl), .ref sp])), (io, eZ D 10 v.fo), (am, eI D 10 v.fa), (en, eI D 10 v.fe), (sp, eI D 100 v.fs), (wk, .inr (8, [.ref kn, .ref vl, .ref pt, .int gz, .ref fc, .ref ovr, .ref bkr, .int lf, .int dg, .int hd])), (kn, eI D 6 f1), (vl, eI D 6 f2), (pt, eI D 6 f3), (fc, eI D 5 ff), (ovr, eI D 480 (nF ot)), (bkr, eI D 480 (nF bt))] (fun r w => ∃ gz1 : Int32, ∃ l2 : Int32, ∃ g2 : Int32, ∃ d2 : Int32, ∃ f11 : Nat → Int32, ∃ f21 : Nat → Int32, ∃ f31 : Nat → Int32, ∃ ff1 : Nat → Int32, ∃ ot1 : Nat → Nat, ∃ bt1 : Nat → Nat, r = some (.int (b2i (¬ wakA c v i 0 c.heap = none))) ∧ w = [(o, .inr (9, [.ref ca, .ref im, .int tk, .ref txo, .ref ba, .ref va, .int (nI vc), .ref wk, .ref nt, .ref ro, .ref lo, .ref bd, .ref ta])), (ca, .inr (1, [.int (nI c.men), .ref ck, .ref cv, .ref chd, .int (nI c.heap), .int c.dogs, .int (nI c.wak), .int (nI c.rl), .ref cr, .int (nI c.pg), .ref cb, .int c.held])), (ck, eI D 6 (nF c.kk)), (cv, eI D 6 (nF c.vv)), (chd, eI D 6 c.hd), (cr, eI D 8 (nF c.crf)), (cb, eI D 12 (nF c.bo)), (va, eV D 6 vt), (vg, .inr (6, [.int (nI v.sh), .int (nI v.mo), .int (nI v.ov), .int (nI v.nr), .ref io, .ref am, .ref en, .int (nI v.nl), .ref sp])), (io, eZ D 10 v.fo), (am, eI D 10 v.fa), (en, eI D 10 v.fe), (sp, eI D 100 v.fs), (wk, .inr (8, [.ref kn, .ref vl, .ref pt, .int gz1, .ref fc, .ref ovr, .ref bkr, .int l2, .int g2, .int d2])), (kn, eI D 6 f11), (vl, eI D 6 f21), (pt, eI D 6 f31), (fc, eI D 5 ff1), (ovr, eI D 480 (nF ot1)), (bkr, eI D 480 (nF bt1))]) := by
  refine Sp.of (by decide) (Nat.le_of_ble_eq_true rfl) (fun X O T => ?_)
  refine v_eq (lv' := [(0, .ref o), (1, .int (nI i)), (2, .int 6)]) rfl rfl rfl rfl ?_
  have z_m := hC.1
  have z_hp := hC.2.2.2.1
  have z_wk := hC.2.2.2.2.1
  have z_rl := hC.2.2.2.2.2.1
  have z_pg := hC.2.2.2.2.2.2.2.1
  refine v_aload_n O dX9_of_0 0 rfl ?_
  refine v_iload_n O dX9_of_1 1 rfl ?_
  refine v_cV (T := TX9) (ci := 9) (As := [.int (nI i)]) (wr := [(ck, eI D 6 (nF c.kk)), (cv, eI D 6 (nF c.vv)), (chd, eI D 6 c.hd), (cr, eI D 8 (nF c.crf)), (cb, eI D 12 (nF c.bo)), (va, eV D 6 vt), (vg, .inr (6, [.int (nI v.sh), .int (nI v.mo), .int (nI v.ov), .int (nI v.nr), .ref io, .ref am, .ref en, .int (nI v.nl), .ref sp])), (io, eZ D 10 v.fo), (am, eI D 10 v.fa), (en, eI D 10 v.fe), (sp, eI D 100 v.fs), (wk, .inr (8, [.ref kn, .ref vl, .ref pt, .int gz, .ref fc, .ref ovr, .ref bkr, .int lf, .int dg, .int hd])), (kn, eI D 6 f1), (vl, eI D 6 f2), (pt, eI D 6 f3), (fc, eI D 5 ff), (ovr, eI D 480 (nF ot)), (bkr, eI D 480 (nF bt))]) (st := []) O cf_X9_102 rfl (sp_X9_isMan (o := o) (man := (nI i)) (ca := ca) (im := im) (it := tk) (tx := txo) (ba := ba) (vs := va) (vc := (nI vc)) (nw := wk) (nt := nt) (ro := ro) (ln := lo) (bo := bd) (tp := ta) (men := c.men) (ck := ck) (cv := cv) (chd := chd) (heap := (nI c.heap)) (dogs := c.dogs) (wak := (nI c.wak)) (rl := c.rl) (cr := cr) (pg := c.pg) (cb := cb) (held := c.held) (hC.1)) dX9_of_2 rfl rfl 0 rfl [0, 1] [2, 3, 4, 5, 6, 7, 8, 9, 10, 11, 12, 13, 14, 15, 16, 17, 18, 19] (by decide) rfl rfl (by decide) (by decide) (by decide) (Nat.le_of_ble_eq_true rfl) (by decide) (by decide) (fun r_2 w_3 h_1 => ?_)
  obtain ⟨rfl, rfl⟩ := h_1
  refine v_eq (st' := [.int (b2i (isIx (nI i) c.men))]) (ws' := [(ck, eI D 6 (nF c.kk)), (cv, eI D 6 (nF c.vv)), (chd, eI D 6 c.hd), (cr, eI D 8 (nF c.crf)), (cb, eI D 12 (nF c.bo)), (va, eV D 6 vt), (vg, .inr (6, [.int (nI v.sh), .int (nI v.mo), .int (nI v.ov), .int (nI v.nr), .ref io, .ref am, .ref en, .int (nI v.nl), .ref sp])), (io, eZ D 10 v.fo), (am, eI D 10 v.fa), (en, eI D 10 v.fe), (sp, eI D 100 v.fs), (wk, .inr (8, [.ref kn, .ref vl, .ref pt, .int gz, .ref fc, .ref ovr, .ref bkr, .int lf, .int dg, .int hd])), (kn, eI D 6 f1), (vl, eI D 6 f2), (pt, eI D 6 f3), (fc, eI D 5 ff), (ovr, eI D 480 (nF ot)), (bkr, eI D 480 (nF bt)), (o, .inr (9, [.ref ca, .ref im, .int tk, .ref txo, .ref ba, .ref va, .int (nI vc), .ref wk, .ref nt, .ref ro, .ref lo, .ref bd, .ref ta])), (ca, .inr (1, [.int (nI c.men), .ref ck, .ref cv, .ref chd, .int (nI c.heap), .int c.dogs, .int (nI c.wak), .int (nI c.rl), .ref cr, .int (nI c.pg), .ref cb, .int c.held]))]) rfl rfl rfl rfl ?_
  refine v_if_ne O 12 dX9_of_5 (by decide) (fun z1 => ?_) (fun z1 => ?_)
  · skip
    have z1 := b2i_1.mp z1
    refine v_iload_n O dX9_of_12 2 rfl ?_
    refine v_tsIn (off := 119) O 132 dX9_of_13 (by decide) (by decide) (by decide) (by decide) ?_
    refine v_aload_n O dX9_of_132 0 rfl ?_
    refine v_iload_n O dX9_of_133 1 rfl ?_
    refine v_cV (T := TX9) (ci := 9) (As := [.int (nI i)]) (wr := []) (st := []) O cf_X9_106 rfl (sp_X9_readyWaking (o := o) (ca := ca) (im := im) (tk := tk) (txo := txo) (ba := ba) (va := va) (vc := vc) (nt := nt) (ro := ro) (lo := lo) (bd := bd) (ta := ta) (ck := ck) (cv := cv) (chd := chd) (cr := cr) (cb := cb) (c := c) (vt := vt) (vg := vg) (io := io) (am := am) (en := en) (sp := sp) (v := v) (wk := wk) (kn := kn) (vl := vl) (pt := pt) (fc := fc) (ovr := ovr) (bkr := bkr) (gz := gz) (lf := lf) (dg := dg) (hd := hd) (f1 := f1) (f2 := f2) (f3 := f3) (ff := ff) (ot := ot) (bt := bt) (m := i) (hV) (hC) (hv) (by omega)) dX9_of_134 rfl rfl 18 rfl [18, 19, 0, 1, 2, 3, 4, 5, 6, 7, 8, 9, 10, 11, 12, 13, 14, 15, 16, 17] [] (by decide) rfl rfl (by decide) (by decide) (by decide) (Nat.le_of_ble_eq_true rfl) (by decide) (by decide) (fun r_5 w_6 h_4 => ?_)
    obtain ⟨ff2_7, ot2_8, bt2_9, rfl, rfl, h_o, h_b⟩ := h_4
    refine v_eq (st' := [.ref wk]) (ws' := [(o, .inr (9, [.ref ca, .ref im, .int tk, .ref txo, .ref ba, .ref va, .int (nI vc), .ref wk, .ref nt, .ref ro, .ref lo, .ref bd, .ref ta])), (ca, .inr (1, [.int (nI c.men), .ref ck, .ref cv, .ref chd, .int (nI c.heap), .int c.dogs, .int (nI c.wak), .int (nI c.rl), .ref cr, .int (nI c.pg), .ref cb, .int c.held])), (ck, eI D 6 (nF c.kk)), (cv, eI D 6 (nF c.vv)), (chd, eI D 6 c.hd), (cr, eI D 8 (nF c.crf)), (cb, eI D 12 (nF c.bo)), (va, eV D 6 vt), (vg, .inr (6, [.int (nI v.sh), .int (nI v.mo), .int (nI v.ov), .int (nI v.nr), .ref io, .ref am, .ref en, .int (nI v.nl), .ref sp])), (io, eZ D 10 v.fo), (am, eI D 10 v.fa), (en, eI D 10 v.fe), (sp, eI D 100 v.fs), (wk, .inr (8, [.ref kn, .ref vl, .ref pt, .int (nI c.wak), .ref fc, .ref ovr, .ref bkr, .int lf, .int dg, .int hd])), (kn, eI D 6 (nF c.kk)), (vl, eI D 6 (nF c.vv)), (pt, eI D 6 (nF (ppA c v))), (fc, eI D 5 ff2_7), (ovr, eI D 480 (nF ot2_8)), (bkr, eI D 480 (nF bt2_9))]) rfl rfl rfl rfl ?_
    have z_e : wakeN (c.kk i) (ppA c v i) (fun zd => ot2_8 (slotN i 0 zd)) (fun zd => bt2_9 (slotN i 0 zd)) c.heap = wakA c v i 0 c.heap := wakeN_cg h_o h_b
    refine v_iload_n O dX9_of_137 1 rfl ?_
    refine v_iconst (v := 0) O dX9_of_138 (by decide) ?_
    refine v_aload_n O dX9_of_139 0 rfl ?_
    refine gf_X9_12 O rfl dX9_of_140 0 rfl rfl ?_
    refine gf_X9_114 O rfl dX9_of_143 1 rfl rfl ?_
    refine v_cV (T := TX8) (ci := 8) (As := [.int (nI i), .int 0, .int (nI c.heap)]) (wr := [(o, .inr (9, [.ref ca, .ref im, .int tk, .ref txo, .ref ba, .ref va, .int (nI vc), .ref wk, .ref nt, .ref ro, .ref lo, .ref bd, .ref ta])), (ca, .inr (1, [.int (nI c.men), .ref ck, .ref cv, .ref chd, .int (nI c.heap), .int c.dogs, .int (nI c.wak), .int (nI c.rl), .ref cr, .int (nI c.pg), .ref cb, .int c.held])), (ck, eI D 6 (nF c.kk)), (cv, eI D 6 (nF c.vv)), (chd, eI D 6 c.hd), (cr, eI D 8 (nF c.crf)), (cb, eI D 12 (nF c.bo)), (va, eV D 6 vt), (vg, .inr (6, [.int (nI v.sh), .int (nI v.mo), .int (nI v.ov), .int (nI v.nr), .ref io, .ref am, .ref en, .int (nI v.nl), .ref sp])), (io, eZ D 10 v.fo), (am, eI D 10 v.fa), (en, eI D 10 v.fe), (sp, eI D 100 v.fs), (vl, eI D 6 (nF c.vv)), (fc, eI D 5 ff2_7)]) (st := []) O cf_X9_124 rfl (sp_X8_comesOut (wk := wk) (kn := kn) (vl := vl) (pt := pt) (gone := c.wak) (fc := fc) (ovr := ovr) (bkr := bkr) (lf := lf) (dg := dg) (hd := hd) (kk := c.kk) (pp := (ppA c v)) (ov := ot2_8) (bk := bt2_9) (m := i) (s := 0) (h := c.heap) (by omega) (by decide) (by omega) (hC.2.1 i (by omega)) (partsN_ge hv.2.2.1) (partsN_le hv.2.2.2.1 (hC.2.2.1 i (by omega))) (fun d hd => by rw [h_o d hd]; exact ovA_lt hv) (fun d hd => by rw [h_b d hd]; exact bkA_lt hv)) dX9_of_146 rfl rfl 13 rfl [13, 14, 16, 18, 19] [0, 1, 2, 3, 4, 5, 6, 7, 8, 9, 10, 11, 12, 15, 17] (by decide) rfl rfl (by decide) (by decide) (by decide) (Nat.le_of_ble_eq_true rfl) (by decide) (by decide) (fun r_11 w_12 h_10 => ?_)
    obtain ⟨rfl, rfl⟩ := h_10
    refine v_eq (st' := [.int (b2i (¬ wakeN (c.kk i) ((ppA c v) i) (fun zd => ot2_8 (slotN i 0 zd)) (fun zd => bt2_9 (slotN i 0 zd)) c.heap = none))]) (ws' := [(o, .inr (9, [.ref ca, .ref im, .int tk, .ref txo, .ref ba, .ref va, .int (nI vc), .ref wk, .ref nt, .ref ro, .ref lo, .ref bd, .ref ta])), (ca, .inr (1, [.int (nI c.men), .ref ck, .ref cv, .ref chd, .int (nI c.heap), .int c.dogs, .int (nI c.wak), .int (nI c.rl), .ref cr, .int (nI c.pg), .ref cb, .int c.held])), (ck, eI D 6 (nF c.kk)), (cv, eI D 6 (nF c.vv)), (chd, eI D 6 c.hd), (cr, eI D 8 (nF c.crf)), (cb, eI D 12 (nF c.bo)), (va, eV D 6 vt), (vg, .inr (6, [.int (nI v.sh), .int (nI v.mo), .int (nI v.ov), .int (nI v.nr), .ref io, .ref am, .ref en, .int (nI v.nl), .ref sp])), (io, eZ D 10 v.fo), (am, eI D 10 v.fa), (en, eI D 10 v.fe), (sp, eI D 100 v.fs), (vl, eI D 6 (nF c.vv)), (fc, eI D 5 ff2_7), (wk, .inr (8, [.ref kn, .ref vl, .ref pt, .int (nI c.wak), .ref fc, .ref ovr, .ref bkr, .int (nI (oL (wakeN (c.kk i) ((ppA c v) i) (fun zd => ot2_8 (slotN i 0 zd)) (fun zd => bt2_9 (slotN i 0 zd)) c.heap) c.heap)), .int (nI (oG (wakeN (c.kk i) ((ppA c v) i) (fun zd => ot2_8 (slotN i 0 zd)) (fun zd => bt2_9 (slotN i 0 zd)) c.heap) 0)), .int (nI (oD (wakeN (c.kk i) ((ppA c v) i) (fun zd => ot2_8 (slotN i 0 zd)) (fun zd => bt2_9 (slotN i 0 zd)) c.heap) 0))])), (kn, eI D 6 (nF c.kk)), (pt, eI D 6 (nF (ppA c v))), (ovr, eI D 480 (nF ot2_8)), (bkr, eI D 480 (nF bt2_9))]) rfl rfl rfl rfl ?_
    refine v_if_eq O 156 dX9_of_149 (by decide) (fun z2 => ?_) (fun z2 => ?_)
    · skip
      have z2 := b2i_0.mp z2
      refine v_iconst (v := 0) O dX9_of_156 (by decide) ?_
      refine v_sub (ws' := [(o, .inr (9, [.ref ca, .ref im, .int tk, .ref txo, .ref ba, .ref va, .int (nI vc), .ref wk, .ref nt, .ref ro, .ref lo, .ref bd, .ref ta])), (ca, .inr (1, [.int (nI c.men), .ref ck, .ref cv, .ref chd, .int (nI c.heap), .int c.dogs, .int (nI c.wak), .int (nI c.rl), .ref cr, .int (nI c.pg), .ref cb, .int c.held])), (ck, eI D 6 (nF c.kk)), (cv, eI D 6 (nF c.vv)), (chd, eI D 6 c.hd), (cr, eI D 8 (nF c.crf)), (cb, eI D 12 (nF c.bo)), (va, eV D 6 vt), (vg, .inr (6, [.int (nI v.sh), .int (nI v.mo), .int (nI v.ov), .int (nI v.nr), .ref io, .ref am, .ref en, .int (nI v.nl), .ref sp])), (io, eZ D 10 v.fo), (am, eI D 10 v.fa), (en, eI D 10 v.fe), (sp, eI D 100 v.fs), (wk, .inr (8, [.ref kn, .ref vl, .ref pt, .int (nI c.wak), .ref fc, .ref ovr, .ref bkr, .int (nI (oL (wakeN (c.kk i) ((ppA c v) i) (fun zd => ot2_8 (slotN i 0 zd)) (fun zd => bt2_9 (slotN i 0 zd)) c.heap) c.heap)), .int (nI (oG (wakeN (c.kk i) ((ppA c v) i) (fun zd => ot2_8 (slotN i 0 zd)) (fun zd => bt2_9 (slotN i 0 zd)) c.heap) 0)), .int (nI (oD (wakeN (c.kk i) ((ppA c v) i) (fun zd => ot2_8 (slotN i 0 zd)) (fun zd => bt2_9 (slotN i 0 zd)) c.heap) 0))])), (kn, eI D 6 (nF c.kk)), (vl, eI D 6 (nF c.vv)), (pt, eI D 6 (nF (ppA c v))), (fc, eI D 5 ff2_7), (ovr, eI D 480 (nF ot2_8)), (bkr, eI D 480 (nF bt2_9))]) [0, 1, 2, 3, 4, 5, 6, 7, 8, 9, 10, 11, 12, 15, 16, 13, 17, 14, 18, 19] (by decide) rfl ?_
      exact v_ireturn O T rfl rfl (by decide) (by decide) dX9_of_157 (⟨_, _, _, _, _, _, _, _, _, _, by rw [b2i_f (by rw [← z_e]; exact z2)], rfl⟩)
    · skip
      have z2 := b2i_1.mp z2
      refine v_iconst (v := 1) O dX9_of_152 (by decide) ?_
      refine v_goto O 157 dX9_of_153 (by decide) ?_
      refine v_sub (ws' := [(o, .inr (9, [.ref ca, .ref im, .int tk, .ref txo, .ref ba, .ref va, .int (nI vc), .ref wk, .ref nt, .ref ro, .ref lo, .ref bd, .ref ta])), (ca, .inr (1, [.int (nI c.men), .ref ck, .ref cv, .ref chd, .int (nI c.heap), .int c.dogs, .int (nI c.wak), .int (nI c.rl), .ref cr, .int (nI c.pg), .ref cb, .int c.held])), (ck, eI D 6 (nF c.kk)), (cv, eI D 6 (nF c.vv)), (chd, eI D 6 c.hd), (cr, eI D 8 (nF c.crf)), (cb, eI D 12 (nF c.bo)), (va, eV D 6 vt), (vg, .inr (6, [.int (nI v.sh), .int (nI v.mo), .int (nI v.ov), .int (nI v.nr), .ref io, .ref am, .ref en, .int (nI v.nl), .ref sp])), (io, eZ D 10 v.fo), (am, eI D 10 v.fa), (en, eI D 10 v.fe), (sp, eI D 100 v.fs), (wk, .inr (8, [.ref kn, .ref vl, .ref pt, .int (nI c.wak), .ref fc, .ref ovr, .ref bkr, .int (nI (oL (wakeN (c.kk i) ((ppA c v) i) (fun zd => ot2_8 (slotN i 0 zd)) (fun zd => bt2_9 (slotN i 0 zd)) c.heap) c.heap)), .int (nI (oG (wakeN (c.kk i) ((ppA c v) i) (fun zd => ot2_8 (slotN i 0 zd)) (fun zd => bt2_9 (slotN i 0 zd)) c.heap) 0)), .int (nI (oD (wakeN (c.kk i) ((ppA c v) i) (fun zd => ot2_8 (slotN i 0 zd)) (fun zd => bt2_9 (slotN i 0 zd)) c.heap) 0))])), (kn, eI D 6 (nF c.kk)), (vl, eI D 6 (nF c.vv)), (pt, eI D 6 (nF (ppA c v))), (fc, eI D 5 ff2_7), (ovr, eI D 480 (nF ot2_8)), (bkr, eI D 480 (nF bt2_9))]) [0, 1, 2, 3, 4, 5, 6, 7, 8, 9, 10, 11, 12, 15, 16, 13, 17, 14, 18, 19] (by decide) rfl ?_
      exact v_ireturn O T rfl rfl (by decide) (by decide) dX9_of_157 (⟨_, _, _, _, _, _, _, _, _, _, by rw [b2i_t (by rw [← z_e]; exact z2)], rfl⟩)
  · skip
    have z1 := b2i_0.mp z1
    exact absurd ((isIx_nI (by omega) (by omega)).mpr hi) z1
set_option maxRecDepth 100000 in
set_option maxHeartbeats 4000000 in
theorem sp_X9_heap_1 {D : G} {o : Nat} {ca : Nat} {im : Nat} {tk : Int32} {txo : Nat} {ba : Nat} {va : Nat} {vc : Nat} {nwk : Nat} {nt : Nat} {ro : Nat} {lo : Nat} {bd : Nat} {ta : Nat} {ck : Nat} {cv : Nat} {chd : Nat} {cr : Nat} {cb : Nat} {c : CS} {n : Int32} (hC : cOk c) (hn : ¬ isIx n 1000000) : Sp D mX9_heap 30 0 0 [.ref o, .int n] [(o, .inr (9, [.ref ca, .ref im, .int tk, .ref txo, .ref ba, .ref va, .int (nI vc), .ref nwk, .ref nt, .ref ro, .ref lo, .ref bd, .ref ta])), (ca, .inr (1, [.int (nI c.men), .ref ck, .ref cv, .ref chd, .int (nI c.heap), .int c.dogs, .int (nI c.wak), .int (nI c.rl), .ref cr, .int (nI c.pg), .ref cb, .int c.held])), (ck, eI D 6 (nF c.kk)), (cv, eI D 6 (nF c.vv)), (chd, eI D 6 c.hd), (cr, eI D 8 (nF c.crf)), (cb, eI D 12 (nF c.bo))] (fun r w => r = some (.int (-2)) ∧ w = [(o, .inr (9, [.ref ca, .ref im, .int tk, .ref txo, .ref ba, .ref va, .int (nI vc), .ref nwk, .ref nt, .ref ro, .ref lo, .ref bd, .ref ta])), (ca, .inr (1, [.int (nI c.men), .ref ck, .ref cv, .ref chd, .int (nI c.heap), .int c.dogs, .int (nI c.wak), .int (nI c.rl), .ref cr, .int (nI c.pg), .ref cb, .int c.held])), (ck, eI D 6 (nF c.kk)), (cv, eI D 6 (nF c.vv)), (chd, eI D 6 c.hd), (cr, eI D 8 (nF c.crf)), (cb, eI D 12 (nF c.bo))]) := by
  refine Sp.of (by decide) (Nat.le_of_ble_eq_true rfl) (fun X O T => ?_)
  refine v_eq (lv' := [(0, .ref o), (1, .int n)]) rfl rfl rfl rfl ?_
  have z_m := hC.1
  have z_hp := hC.2.2.2.1
  have z_wk := hC.2.2.2.2.1
  have z_rl := hC.2.2.2.2.2.1
  have z_pg := hC.2.2.2.2.2.2.2.1
  refine v_iload_n O dX9_heap_0 1 rfl ?_
  refine v_cS (As := [.int n]) (wr := [(o, .inr (9, [.ref ca, .ref im, .int tk, .ref txo, .ref ba, .ref va, .int (nI vc), .ref nwk, .ref nt, .ref ro, .ref lo, .ref bd, .ref ta])), (ca, .inr (1, [.int (nI c.men), .ref ck, .ref cv, .ref chd, .int (nI c.heap), .int c.dogs, .int (nI c.wak), .int (nI c.rl), .ref cr, .int (nI c.pg), .ref cb, .int c.held])), (ck, eI D 6 (nF c.kk)), (cv, eI D 6 (nF c.vv)), (chd, eI D 6 c.hd), (cr, eI D 8 (nF c.crf)), (cb, eI D 12 (nF c.bo))]) (st := []) O cf_X9_128 (sp_X9_isHeap (n := n) ) dX9_heap_1 rfl rfl [] [0, 1, 2, 3, 4, 5, 6] (by decide) rfl rfl (by decide) (by decide) (by decide) (Nat.le_of_ble_eq_true rfl) (by decide) (by decide) (fun r_2 w_3 h_1 => ?_)
  obtain ⟨rfl, rfl⟩ := h_1
  refine v_eq (st' := [.int (b2i (isIx n 1000000))]) (ws' := [(o, .inr (9, [.ref ca, .ref im, .int tk, .ref txo, .ref ba, .ref va, .int (nI vc), .ref nwk, .ref nt, .ref ro, .ref lo, .ref bd, .ref ta])), (ca, .inr (1, [.int (nI c.men), .ref ck, .ref cv, .ref chd, .int (nI c.heap), .int c.dogs, .int (nI c.wak), .int (nI c.rl), .ref cr, .int (nI c.pg), .ref cb, .int c.held])), (ck, eI D 6 (nF c.kk)), (cv, eI D 6 (nF c.vv)), (chd, eI D 6 c.hd), (cr, eI D 8 (nF c.crf)), (cb, eI D 12 (nF c.bo))]) rfl rfl rfl rfl ?_
  refine v_if_ne O 10 dX9_heap_4 (by decide) (fun z1 => ?_) (fun z1 => ?_)
  · skip
    have z1 := b2i_1.mp z1
    exact absurd z1 hn
  · skip
    have z1 := b2i_0.mp z1
    refine v_bipush (v := -2) O dX9_heap_7 (by decide) ?_
    exact v_ireturn O T rfl rfl (by decide) (by decide) dX9_heap_9 (⟨rfl, rfl⟩)
set_option maxRecDepth 100000 in
set_option maxHeartbeats 4000000 in
theorem sp_X9_heap_2 {D : G} {o : Nat} {ca : Nat} {im : Nat} {tk : Int32} {txo : Nat} {ba : Nat} {va : Nat} {vc : Nat} {nwk : Nat} {nt : Nat} {ro : Nat} {lo : Nat} {bd : Nat} {ta : Nat} {ck : Nat} {cv : Nat} {chd : Nat} {cr : Nat} {cb : Nat} {c : CS} {n : Nat} (hC : cOk c) (hn : n < 1000000) : Sp D mX9_heap 30 0 0 [.ref o, .int (nI n)] [(o, .inr (9, [.ref ca, .ref im, .int tk, .ref txo, .ref ba, .ref va, .int (nI vc), .ref nwk, .ref nt, .ref ro, .ref lo, .ref bd, .ref ta])), (ca, .inr (1, [.int (nI c.men), .ref ck, .ref cv, .ref chd, .int (nI c.heap), .int c.dogs, .int (nI c.wak), .int (nI c.rl), .ref cr, .int (nI c.pg), .ref cb, .int c.held])), (ck, eI D 6 (nF c.kk)), (cv, eI D 6 (nF c.vv)), (chd, eI D 6 c.hd), (cr, eI D 8 (nF c.crf)), (cb, eI D 12 (nF c.bo))] (fun r w => r = some (.int (nI c.heap)) ∧ w = [(o, .inr (9, [.ref ca, .ref im, .int tk, .ref txo, .ref ba, .ref va, .int (nI vc), .ref nwk, .ref nt, .ref ro, .ref lo, .ref bd, .ref ta])), (ca, .inr (1, [.int (nI ((cHeap c n).men)), .ref ck, .ref cv, .ref chd, .int (nI ((cHeap c n).heap)), .int ((cHeap c n).dogs), .int (nI ((cHeap c n).wak)), .int (nI ((cHeap c n).rl)), .ref cr, .int (nI ((cHeap c n).pg)), .ref cb, .int ((cHeap c n).held)])), (ck, eI D 6 (nF (cHeap c n).kk)), (cv, eI D 6 (nF (cHeap c n).vv)), (chd, eI D 6 ((cHeap c n).hd)), (cr, eI D 8 (nF (cHeap c n).crf)), (cb, eI D 12 (nF (cHeap c n).bo))]) := by
  refine Sp.of (by decide) (Nat.le_of_ble_eq_true rfl) (fun X O T => ?_)
  refine v_eq (lv' := [(0, .ref o), (1, .int (nI n))]) rfl rfl rfl rfl ?_
  have z_m := hC.1
  have z_hp := hC.2.2.2.1
  have z_wk := hC.2.2.2.2.1
  have z_rl := hC.2.2.2.2.2.1
  have z_pg := hC.2.2.2.2.2.2.2.1
  refine v_iload_n O dX9_heap_0 1 rfl ?_
  refine v_cS (As := [.int (nI n)]) (wr := [(o, .inr (9, [.ref ca, .ref im, .int tk, .ref txo, .ref ba, .ref va, .int (nI vc), .ref nwk, .ref nt, .ref ro, .ref lo, .ref bd, .ref ta])), (ca, .inr (1, [.int (nI c.men), .ref ck, .ref cv, .ref chd, .int (nI c.heap), .int c.dogs, .int (nI c.wak), .int (nI c.rl), .ref cr, .int (nI c.pg), .ref cb, .int c.held])), (ck, eI D 6 (nF c.kk)), (cv, eI D 6 (nF c.vv)), (chd, eI D 6 c.hd), (cr, eI D 8 (nF c.crf)), (cb, eI D 12 (nF c.bo))]) (st := []) O cf_X9_128 (sp_X9_isHeap (n := (nI n)) ) dX9_heap_1 rfl rfl [] [0, 1, 2, 3, 4, 5, 6] (by decide) rfl rfl (by decide) (by decide) (by decide) (Nat.le_of_ble_eq_true rfl) (by decide) (by decide) (fun r_2 w_3 h_1 => ?_)
  obtain ⟨rfl, rfl⟩ := h_1
  refine v_eq (st' := [.int (b2i (isIx (nI n) 1000000))]) (ws' := [(o, .inr (9, [.ref ca, .ref im, .int tk, .ref txo, .ref ba, .ref va, .int (nI vc), .ref nwk, .ref nt, .ref ro, .ref lo, .ref bd, .ref ta])), (ca, .inr (1, [.int (nI c.men), .ref ck, .ref cv, .ref chd, .int (nI c.heap), .int c.dogs, .int (nI c.wak), .int (nI c.rl), .ref cr, .int (nI c.pg), .ref cb, .int c.held])), (ck, eI D 6 (nF c.kk)), (cv, eI D 6 (nF c.vv)), (chd, eI D 6 c.hd), (cr, eI D 8 (nF c.crf)), (cb, eI D 12 (nF c.bo))]) rfl rfl rfl rfl ?_
  refine v_if_ne O 10 dX9_heap_4 (by decide) (fun z1 => ?_) (fun z1 => ?_)
  · skip
    have z1 := b2i_1.mp z1
    refine v_aload_n O dX9_heap_10 0 rfl ?_
    refine gf_X9_12 O rfl dX9_heap_11 0 rfl rfl ?_
    refine gf_X9_114 O rfl dX9_heap_14 1 rfl rfl ?_
    refine v_istore_n (lv' := [(0, .ref o), (1, .int (nI n)), (2, .int (nI c.heap))]) O dX9_heap_17 (by decide) rfl ?_
    refine v_aload_n O dX9_heap_18 0 rfl ?_
    refine gf_X9_12 O rfl dX9_heap_19 0 rfl rfl ?_
    refine v_iload_n O dX9_heap_22 1 rfl ?_
    refine pf_X9_114 (fs' := [.int (nI c.men), .ref ck, .ref cv, .ref chd, .int (nI n), .int c.dogs, .int (nI c.wak), .int (nI c.rl), .ref cr, .int (nI c.pg), .ref cb, .int c.held]) (ws' := [(o, .inr (9, [.ref ca, .ref im, .int tk, .ref txo, .ref ba, .ref va, .int (nI vc), .ref nwk, .ref nt, .ref ro, .ref lo, .ref bd, .ref ta])), (ca, .inr (1, [.int (nI c.men), .ref ck, .ref cv, .ref chd, .int (nI n), .int c.dogs, .int (nI c.wak), .int (nI c.rl), .ref cr, .int (nI c.pg), .ref cb, .int c.held])), (ck, eI D 6 (nF c.kk)), (cv, eI D 6 (nF c.vv)), (chd, eI D 6 c.hd), (cr, eI D 8 (nF c.crf)), (cb, eI D 12 (nF c.bo))]) O rfl dX9_heap_23 1 rfl (Nat.le_of_ble_eq_true rfl) rfl rfl ?_
    refine v_iload_n O dX9_heap_26 2 rfl ?_
    exact v_ireturn O T rfl rfl (by decide) (by decide) dX9_heap_27 (⟨rfl, rfl⟩)
  · skip
    have z1 := b2i_0.mp z1
    exact absurd ((isIx_nI (by omega) (by omega)).mpr hn) z1
set_option maxRecDepth 100000 in
set_option maxHeartbeats 4000000 in
theorem sp_X9_feed_1 {D : G} {o : Nat} {ca : Nat} {im : Nat} {tk : Int32} {txo : Nat} {ba : Nat} {va : Nat} {vc : Nat} {nwk : Nat} {nt : Nat} {ro : Nat} {lo : Nat} {bd : Nat} {ta : Nat} {tsg : Nat} {ln : Nat} {tb : Nat → Int32} {pl : Int32} {si : Int32} {s : Int32} (hs : ¬ isIx s 128) : Sp D mX9_feed 30 0 0 [.ref o, .int s] [(o, .inr (9, [.ref ca, .ref im, .int tk, .ref txo, .ref ba, .ref va, .int (nI vc), .ref nwk, .ref nt, .ref ro, .ref lo, .ref bd, .ref ta])), (txo, .inr (7, [.ref tsg, .int (nI ln), .int pl, .int si])), (tsg, eB D 100 tb)] (fun r w => r = some (.int (-2)) ∧ w = [(o, .inr (9, [.ref ca, .ref im, .int tk, .ref txo, .ref ba, .ref va, .int (nI vc), .ref nwk, .ref nt, .ref ro, .ref lo, .ref bd, .ref ta])), (txo, .inr (7, [.ref tsg, .int (nI ln), .int pl, .int si])), (tsg, eB D 100 tb)]) := by
  refine Sp.of (by decide) (Nat.le_of_ble_eq_true rfl) (fun X O T => ?_)
  refine v_eq (lv' := [(0, .ref o), (1, .int s)]) rfl rfl rfl rfl ?_
  refine v_iload_n O dX9_feed_0 1 rfl ?_
  refine v_if_lt O 10 dX9_feed_1 (by decide) (fun z1 => ?_) (fun z1 => ?_)
  · skip
    refine v_bipush (v := -2) O dX9_feed_10 (by decide) ?_
    exact v_ireturn O T rfl rfl (by decide) (by decide) dX9_feed_12 (⟨rfl, rfl⟩)
  · skip
    refine v_iload_n O dX9_feed_4 1 rfl ?_
    refine v_bipush (v := 127) O dX9_feed_5 (by decide) ?_
    refine v_icmp_le O 13 dX9_feed_7 (by decide) (fun z2 => ?_) (fun z2 => ?_)
    · skip
      exact absurd (isIx_t' (n := 128) (m := 127) (by decide) rfl z1 (Int32.not_lt.mpr z2)) hs
    · skip
      refine v_bipush (v := -2) O dX9_feed_10 (by decide) ?_
      exact v_ireturn O T rfl rfl (by decide) (by decide) dX9_feed_12 (⟨rfl, rfl⟩)
set_option maxRecDepth 100000 in
set_option maxHeartbeats 4000000 in
theorem sp_X9_feed_2 {D : G} {o : Nat} {ca : Nat} {im : Nat} {tk : Int32} {txo : Nat} {ba : Nat} {va : Nat} {vc : Nat} {nwk : Nat} {nt : Nat} {ro : Nat} {lo : Nat} {bd : Nat} {ta : Nat} {tsg : Nat} {ln : Nat} {tb : Nat → Int32} {pl : Int32} {si : Int32} {s : Nat} (hs : s < 128) (hf : ln = 100) : Sp D mX9_feed 30 0 0 [.ref o, .int (nI s)] [(o, .inr (9, [.ref ca, .ref im, .int tk, .ref txo, .ref ba, .ref va, .int (nI vc), .ref nwk, .ref nt, .ref ro, .ref lo, .ref bd, .ref ta])), (txo, .inr (7, [.ref tsg, .int (nI ln), .int pl, .int si])), (tsg, eB D 100 tb)] (fun r w => r = some (.int (-4)) ∧ w = [(o, .inr (9, [.ref ca, .ref im, .int tk, .ref txo, .ref ba, .ref va, .int (nI vc), .ref nwk, .ref nt, .ref ro, .ref lo, .ref bd, .ref ta])), (txo, .inr (7, [.ref tsg, .int (nI ln), .int pl, .int si])), (tsg, eB D 100 tb)]) := by
  refine Sp.of (by decide) (Nat.le_of_ble_eq_true rfl) (fun X O T => ?_)
  refine v_eq (lv' := [(0, .ref o), (1, .int (nI s))]) rfl rfl rfl rfl ?_
  refine v_iload_n O dX9_feed_0 1 rfl ?_
  refine v_if_lt O 10 dX9_feed_1 (by decide) (fun c_1 => ?_) (fun c_1 => ?_)
  · skip
    have c_1 := (c_lt (x := nI s) (y := 0) (a := s) (b := 0) rfl rfl (by omega) (by omega)).mp c_1
    exact absurd c_1 (by omega)
  · skip
    have c_1 := (not_congr (c_lt (x := nI s) (y := 0) (a := s) (b := 0) rfl rfl (by omega) (by omega))).mp c_1
    refine v_iload_n O dX9_feed_4 1 rfl ?_
    refine v_bipush (v := 127) O dX9_feed_5 (by decide) ?_
    refine v_icmp_le O 13 dX9_feed_7 (by decide) (fun z2 => ?_) (fun z2 => ?_)
    · skip
      have z2 := (c_le (x := nI s) (y := 127) (a := s) (b := 127) rfl rfl (by omega) (by omega)).mp z2
      refine v_aload_n O dX9_feed_13 0 rfl ?_
      refine gf_X9_28 O rfl dX9_feed_14 0 rfl rfl ?_
      refine v_iload_n O dX9_feed_17 1 rfl ?_
      refine v_cV (T := TX7) (ci := 7) (As := [.int (nI s)]) (wr := [(o, .inr (9, [.ref ca, .ref im, .int tk, .ref txo, .ref ba, .ref va, .int (nI vc), .ref nwk, .ref nt, .ref ro, .ref lo, .ref bd, .ref ta]))]) (st := []) O cf_X9_131 rfl (sp_X7_add_f (txo := txo) (tsg := tsg) (ln := ln) (tb := tb) (pl := pl) (si := si) (x := s) (by omega) (hf)) dX9_feed_18 rfl rfl 1 rfl [1, 2] [0] (by decide) rfl rfl (by decide) (by decide) (by decide) (Nat.le_of_ble_eq_true rfl) (by decide) (by decide) (fun r_3 w_4 h_2 => ?_)
      obtain ⟨rfl, rfl⟩ := h_2
      refine v_eq (st' := [.int 0]) (ws' := [(o, .inr (9, [.ref ca, .ref im, .int tk, .ref txo, .ref ba, .ref va, .int (nI vc), .ref nwk, .ref nt, .ref ro, .ref lo, .ref bd, .ref ta])), (txo, .inr (7, [.ref tsg, .int (nI ln), .int pl, .int si])), (tsg, eB D 100 tb)]) rfl rfl rfl rfl ?_
      refine v_if_eq O 34 dX9_feed_21 (by decide) (fun _ => ?_) (fun c => absurd c (by decide))
      refine v_bipush (v := -4) O dX9_feed_34 (by decide) ?_
      exact v_ireturn O T rfl rfl (by decide) (by decide) dX9_feed_36 (⟨rfl, rfl⟩)
    · skip
      have z2 := (not_congr (c_le (x := nI s) (y := 127) (a := s) (b := 127) rfl rfl (by omega) (by omega))).mp z2
      exact absurd z2 (by omega)
set_option maxRecDepth 100000 in
set_option maxHeartbeats 4000000 in
theorem sp_X9_feed_3 {D : G} {o : Nat} {ca : Nat} {im : Nat} {tk : Int32} {txo : Nat} {ba : Nat} {va : Nat} {vc : Nat} {nwk : Nat} {nt : Nat} {ro : Nat} {lo : Nat} {bd : Nat} {ta : Nat} {tsg : Nat} {ln : Nat} {tb : Nat → Int32} {pl : Int32} {si : Int32} {s : Nat} (hs : s < 128) (hf : ln < 100) : Sp D mX9_feed 30 0 0 [.ref o, .int (nI s)] [(o, .inr (9, [.ref ca, .ref im, .int tk, .ref txo, .ref ba, .ref va, .int (nI vc), .ref nwk, .ref nt, .ref ro, .ref lo, .ref bd, .ref ta])), (txo, .inr (7, [.ref tsg, .int (nI ln), .int pl, .int si])), (tsg, eB D 100 tb)] (fun r w => r = some (.int (nI (ln + 1))) ∧ w = [(o, .inr (9, [.ref ca, .ref im, .int tk, .ref txo, .ref ba, .ref va, .int (nI vc), .ref nwk, .ref nt, .ref ro, .ref lo, .ref bd, .ref ta])), (txo, .inr (7, [.ref tsg, .int (nI (ln + 1)), .int pl, .int si])), (tsg, eB D 100 (upd tb ln (nI s)))]) := by
  refine Sp.of (by decide) (Nat.le_of_ble_eq_true rfl) (fun X O T => ?_)
  refine v_eq (lv' := [(0, .ref o), (1, .int (nI s))]) rfl rfl rfl rfl ?_
  refine v_iload_n O dX9_feed_0 1 rfl ?_
  refine v_if_lt O 10 dX9_feed_1 (by decide) (fun c_1 => ?_) (fun c_1 => ?_)
  · skip
    have c_1 := (c_lt (x := nI s) (y := 0) (a := s) (b := 0) rfl rfl (by omega) (by omega)).mp c_1
    exact absurd c_1 (by omega)
  · skip
    have c_1 := (not_congr (c_lt (x := nI s) (y := 0) (a := s) (b := 0) rfl rfl (by omega) (by omega))).mp c_1
    refine v_iload_n O dX9_feed_4 1 rfl ?_
    refine v_bipush (v := 127) O dX9_feed_5 (by decide) ?_
    refine v_icmp_le O 13 dX9_feed_7 (by decide) (fun z2 => ?_) (fun z2 => ?_)
    · skip
      have z2 := (c_le (x := nI s) (y := 127) (a := s) (b := 127) rfl rfl (by omega) (by omega)).mp z2
      refine v_aload_n O dX9_feed_13 0 rfl ?_
      refine gf_X9_28 O rfl dX9_feed_14 0 rfl rfl ?_
      refine v_iload_n O dX9_feed_17 1 rfl ?_
      refine v_cV (T := TX7) (ci := 7) (As := [.int (nI s)]) (wr := [(o, .inr (9, [.ref ca, .ref im, .int tk, .ref txo, .ref ba, .ref va, .int (nI vc), .ref nwk, .ref nt, .ref ro, .ref lo, .ref bd, .ref ta]))]) (st := []) O cf_X9_131 rfl (sp_X7_add_t (txo := txo) (tsg := tsg) (ln := ln) (tb := tb) (pl := pl) (si := si) (x := s) (by omega) (hf)) dX9_feed_18 rfl rfl 1 rfl [1, 2] [0] (by decide) rfl rfl (by decide) (by decide) (by decide) (Nat.le_of_ble_eq_true rfl) (by decide) (by decide) (fun r_3 w_4 h_2 => ?_)
      obtain ⟨rfl, rfl⟩ := h_2
      refine v_eq (st' := [.int 1]) (ws' := [(o, .inr (9, [.ref ca, .ref im, .int tk, .ref txo, .ref ba, .ref va, .int (nI vc), .ref nwk, .ref nt, .ref ro, .ref lo, .ref bd, .ref ta])), (txo, .inr (7, [.ref tsg, .int (nI (ln + 1)), .int pl, .int si])), (tsg, eB D 100 (upd tb ln (nI s)))]) rfl rfl rfl rfl ?_
      refine v_if_eq O 34 dX9_feed_21 (by decide) (fun c => absurd c (by decide)) (fun _ => ?_)
      refine v_aload_n O dX9_feed_24 0 rfl ?_
      refine gf_X9_28 O rfl dX9_feed_25 0 rfl rfl ?_
      refine v_cV (T := TX7) (ci := 7) (As := []) (wr := [(o, .inr (9, [.ref ca, .ref im, .int tk, .ref txo, .ref ba, .ref va, .int (nI vc), .ref nwk, .ref nt, .ref ro, .ref lo, .ref bd, .ref ta])), (tsg, eB D 100 (upd tb ln (nI s)))]) (st := []) O cf_X9_134 rfl (sp_X7_size (txo := txo) (tsg := tsg) (ln := (ln + 1)) (tb := tb) (pl := pl) (si := si) ) dX9_feed_28 rfl rfl 1 rfl [1] [0, 2] (by decide) rfl rfl (by decide) (by decide) (by decide) (Nat.le_of_ble_eq_true rfl) (by decide) (by decide) (fun r_7 w_8 h_6 => ?_)
      obtain ⟨rfl, rfl⟩ := h_6
      refine v_eq (st' := [.int (nI (ln + 1))]) (ws' := [(o, .inr (9, [.ref ca, .ref im, .int tk, .ref txo, .ref ba, .ref va, .int (nI vc), .ref nwk, .ref nt, .ref ro, .ref lo, .ref bd, .ref ta])), (tsg, eB D 100 (upd tb ln (nI s))), (txo, .inr (7, [.ref tsg, .int (nI (ln + 1)), .int pl, .int si]))]) rfl rfl rfl rfl ?_
      refine v_goto O 36 dX9_feed_31 (by decide) ?_
      refine v_sub (ws' := [(o, .inr (9, [.ref ca, .ref im, .int tk, .ref txo, .ref ba, .ref va, .int (nI vc), .ref nwk, .ref nt, .ref ro, .ref lo, .ref bd, .ref ta])), (txo, .inr (7, [.ref tsg, .int (nI (ln + 1)), .int pl, .int si])), (tsg, eB D 100 (upd tb ln (nI s)))]) [0, 2, 1] (by decide) rfl ?_
      exact v_ireturn O T rfl rfl (by decide) (by decide) dX9_feed_36 (⟨rfl, rfl⟩)
    · skip
      have z2 := (not_congr (c_le (x := nI s) (y := 127) (a := s) (b := 127) rfl rfl (by omega) (by omega))).mp z2
      exact absurd z2 (by omega)
set_option maxRecDepth 100000 in
set_option maxHeartbeats 4000000 in
theorem sp_X9_village_1 {D : G} {o : Nat} {ca : Nat} {im : Nat} {tk : Int32} {txo : Nat} {ba : Nat} {va : Nat} {vc : Nat} {nwk : Nat} {nt : Nat} {ro : Nat} {lo : Nat} {bd : Nat} {ta : Nat} (hf : vc = 6) : Sp D mX9_village 30 0 0 [.ref o] [(o, .inr (9, [.ref ca, .ref im, .int tk, .ref txo, .ref ba, .ref va, .int (nI vc), .ref nwk, .ref nt, .ref ro, .ref lo, .ref bd, .ref ta]))] (fun r w => r = some (.int (-4)) ∧ w = [(o, .inr (9, [.ref ca, .ref im, .int tk, .ref txo, .ref ba, .ref va, .int (nI vc), .ref nwk, .ref nt, .ref ro, .ref lo, .ref bd, .ref ta]))]) := by
  refine Sp.of (by decide) (Nat.le_of_ble_eq_true rfl) (fun X O T => ?_)
  refine v_eq (lv' := [(0, .ref o)]) rfl rfl rfl rfl ?_
  refine v_aload_n O dX9_village_0 0 rfl ?_
  refine gf_X9_43 O rfl dX9_village_1 0 rfl rfl ?_
  refine v_istore_n (lv' := [(0, .ref o), (1, .int (nI vc))]) O dX9_village_4 (by decide) rfl ?_
  refine v_iload_n O dX9_village_5 1 rfl ?_
  refine v_if_lt O 15 dX9_village_6 (by decide) (fun c_1 => ?_) (fun c_1 => ?_)
  · skip
    have c_1 := (c_lt (x := nI vc) (y := 0) (a := vc) (b := 0) rfl rfl (by omega) (by omega)).mp c_1
    exact absurd c_1 (by omega)
  · skip
    have c_1 := (not_congr (c_lt (x := nI vc) (y := 0) (a := vc) (b := 0) rfl rfl (by omega) (by omega))).mp c_1
    refine v_iload_n O dX9_village_9 1 rfl ?_
    refine v_bipush (v := 6) O dX9_village_10 (by decide) ?_
    refine v_icmp_lt O 18 dX9_village_12 (by decide) (fun z2 => ?_) (fun z2 => ?_)
    · skip
      have z2 := (c_lt (x := nI vc) (y := 6) (a := vc) (b := 6) rfl rfl (by omega) (by omega)).mp z2
      exact absurd z2 (by omega)
    · skip
      have z2 := (not_congr (c_lt (x := nI vc) (y := 6) (a := vc) (b := 6) rfl rfl (by omega) (by omega))).mp z2
      refine v_bipush (v := -4) O dX9_village_15 (by decide) ?_
      exact v_ireturn O T rfl rfl (by decide) (by decide) dX9_village_17 (⟨rfl, rfl⟩)
set_option maxRecDepth 100000 in
set_option maxHeartbeats 4000000 in
theorem sp_X9_village_2 {D : G} {o : Nat} {ca : Nat} {im : Nat} {tk : Int32} {txo : Nat} {ba : Nat} {va : Nat} {vc : Nat} {nwk : Nat} {nt : Nat} {ro : Nat} {lo : Nat} {bd : Nat} {ta : Nat} {ck : Nat} {cv : Nat} {chd : Nat} {cr : Nat} {cb : Nat} {c : CS} {tsg : Nat} {ln : Nat} {tb : Nat → Int32} {pl : Int32} {si : Int32} {vt : Nat → Option Nat} {vg : Nat} {io : Nat} {am : Nat} {en : Nat} {sp : Nat} {v : VS} (hC : cOk c) (hf : vc < 6) (hvt : vt vc = some vg) (hln : ln ≤ 100) (hg : ¬ ((redP (sgT tb ln) v).2.1 = true ∧ sgT tb ln (redP (sgT tb ln) v).1 = -1)) : Sp D mX9_village 30 0 0 [.ref o] [(o, .inr (9, [.ref ca, .ref im, .int tk, .ref txo, .ref ba, .ref va, .int (nI vc), .ref nwk, .ref nt, .ref ro, .ref lo, .ref bd, .ref ta])), (ca, .inr (1, [.int (nI c.men), .ref ck, .ref cv, .ref chd, .int (nI c.heap), .int c.dogs, .int (nI c.wak), .int (nI c.rl), .ref cr, .int (nI c.pg), .ref cb, .int c.held])), (ck, eI D 6 (nF c.kk)), (cv, eI D 6 (nF c.vv)), (chd, eI D 6 c.hd), (cr, eI D 8 (nF c.crf)), (cb, eI D 12 (nF c.bo)), (txo, .inr (7, [.ref tsg, .int (nI ln), .int pl, .int si])), (tsg, eB D 100 tb), (va, eV D 6 vt), (vg, .inr (6, [.int (nI v.sh), .int (nI v.mo), .int (nI v.ov), .int (nI v.nr), .ref io, .ref am, .ref en, .int (nI v.nl), .ref sp])), (io, eZ D 10 v.fo), (am, eI D 10 v.fa), (en, eI D 10 v.fe), (sp, eI D 100 v.fs)] (fun r w => ∃ pl1 : Int32, ∃ si1 : Int32, r = some (.int (-10 - nI (redP (sgT tb ln) v).1)) ∧ w = [(o, .inr (9, [.ref ca, .ref im, .int tk, .ref txo, .ref ba, .ref va, .int (nI vc), .ref nwk, .ref nt, .ref ro, .ref lo, .ref bd, .ref ta])), (ca, .inr (1, [.int (nI c.men), .ref ck, .ref cv, .ref chd, .int (nI c.heap), .int c.dogs, .int (nI c.wak), .int (nI c.rl), .ref cr, .int (nI c.pg), .ref cb, .int c.held])), (ck, eI D 6 (nF c.kk)), (cv, eI D 6 (nF c.vv)), (chd, eI D 6 c.hd), (cr, eI D 8 (nF c.crf)), (cb, eI D 12 (nF c.bo)), (txo, .inr (7, [.ref tsg, .int (nI 0), .int pl1, .int si1])), (tsg, eB D 100 tb), (va, eV D 6 vt), (vg, .inr (6, [.int (nI ((redP (sgT tb ln) v).2.2.sh)), .int (nI ((redP (sgT tb ln) v).2.2.mo)), .int (nI ((redP (sgT tb ln) v).2.2.ov)), .int (nI ((redP (sgT tb ln) v).2.2.nr)), .ref io, .ref am, .ref en, .int (nI ((redP (sgT tb ln) v).2.2.nl)), .ref sp])), (io, eZ D 10 ((redP (sgT tb ln) v).2.2.fo)), (am, eI D 10 ((redP (sgT tb ln) v).2.2.fa)), (en, eI D 10 ((redP (sgT tb ln) v).2.2.fe)), (sp, eI D 100 ((redP (sgT tb ln) v).2.2.fs))]) := by
  refine Sp.of (by decide) (Nat.le_of_ble_eq_true rfl) (fun X O T => ?_)
  refine v_eq (lv' := [(0, .ref o)]) rfl rfl rfl rfl ?_
  have z_m := hC.1
  have z_hp := hC.2.2.2.1
  have z_wk := hC.2.2.2.2.1
  have z_rl := hC.2.2.2.2.2.1
  have z_pg := hC.2.2.2.2.2.2.2.1
  refine v_aload_n O dX9_village_0 0 rfl ?_
  refine gf_X9_43 O rfl dX9_village_1 0 rfl rfl ?_
  refine v_istore_n (lv' := [(0, .ref o), (1, .int (nI vc))]) O dX9_village_4 (by decide) rfl ?_
  refine v_iload_n O dX9_village_5 1 rfl ?_
  refine v_if_lt O 15 dX9_village_6 (by decide) (fun c_1 => ?_) (fun c_1 => ?_)
  · skip
    have c_1 := (c_lt (x := nI vc) (y := 0) (a := vc) (b := 0) rfl rfl (by omega) (by omega)).mp c_1
    exact absurd c_1 (by omega)
  · skip
    have c_1 := (not_congr (c_lt (x := nI vc) (y := 0) (a := vc) (b := 0) rfl rfl (by omega) (by omega))).mp c_1
    refine v_iload_n O dX9_village_9 1 rfl ?_
    refine v_bipush (v := 6) O dX9_village_10 (by decide) ?_
    refine v_icmp_lt O 18 dX9_village_12 (by decide) (fun z2 => ?_) (fun z2 => ?_)
    · skip
      have z2 := (c_lt (x := nI vc) (y := 6) (a := vc) (b := 6) rfl rfl (by omega) (by omega)).mp z2
      refine v_aload_n O dX9_village_18 0 rfl ?_
      refine gf_X9_39 O rfl dX9_village_19 0 rfl rfl ?_
      refine v_iload_n O dX9_village_22 1 rfl ?_
      refine v_aaldVk (v := .ref vg) O dX9_village_23 9 rfl vc (rfl) (by omega) (by decide) (by rw [hvt]; rfl) ?_
      refine v_astore_n (lv' := [(0, .ref o), (1, .int (nI vc)), (2, .ref vg)]) O dX9_village_24 (by decide) rfl ?_
      refine v_aload_n O dX9_village_25 2 rfl ?_
      refine v_ifnonnull O 32 dX9_village_26 (by decide) ?_
      refine v_aload_n O dX9_village_32 0 rfl ?_
      refine gf_X9_28 O rfl dX9_village_33 0 rfl rfl ?_
      refine v_aload_n O dX9_village_36 2 rfl ?_
      refine v_cV (T := TX7) (ci := 7) (As := [.ref vg]) (wr := [(o, .inr (9, [.ref ca, .ref im, .int tk, .ref txo, .ref ba, .ref va, .int (nI vc), .ref nwk, .ref nt, .ref ro, .ref lo, .ref bd, .ref ta])), (ca, .inr (1, [.int (nI c.men), .ref ck, .ref cv, .ref chd, .int (nI c.heap), .int c.dogs, .int (nI c.wak), .int (nI c.rl), .ref cr, .int (nI c.pg), .ref cb, .int c.held])), (ck, eI D 6 (nF c.kk)), (cv, eI D 6 (nF c.vv)), (chd, eI D 6 c.hd), (cr, eI D 8 (nF c.crf)), (cb, eI D 12 (nF c.bo)), (va, eV D 6 vt)]) (st := []) O cf_X9_138 rfl (sp_X7_readInto (txo := txo) (tsg := tsg) (ln := ln) (tb := tb) (vg := vg) (io := io) (am := am) (en := en) (sp := sp) (v := v) (pl := pl) (si := si) (hln)) dX9_village_37 rfl rfl 7 rfl [7, 8, 10, 11, 12, 13, 14] [0, 1, 2, 3, 4, 5, 6, 9] (by decide) rfl rfl (by decide) (by decide) (by decide) (Nat.le_of_ble_eq_true rfl) (by decide) (by decide) (fun r_3 w_4 h_2 => ?_)
      obtain ⟨rfl, rfl⟩ := h_2
      refine v_eq (st' := [.int (fltP (sgT tb ln) (redP (sgT tb ln) v))]) (ws' := [(o, .inr (9, [.ref ca, .ref im, .int tk, .ref txo, .ref ba, .ref va, .int (nI vc), .ref nwk, .ref nt, .ref ro, .ref lo, .ref bd, .ref ta])), (ca, .inr (1, [.int (nI c.men), .ref ck, .ref cv, .ref chd, .int (nI c.heap), .int c.dogs, .int (nI c.wak), .int (nI c.rl), .ref cr, .int (nI c.pg), .ref cb, .int c.held])), (ck, eI D 6 (nF c.kk)), (cv, eI D 6 (nF c.vv)), (chd, eI D 6 c.hd), (cr, eI D 8 (nF c.crf)), (cb, eI D 12 (nF c.bo)), (va, eV D 6 vt), (txo, .inr (7, [.ref tsg, .int (nI ln), .int (nI ((redP (sgT tb ln) v).1)), .int ((sgT tb ln) ((redP (sgT tb ln) v).1))])), (tsg, eB D 100 tb), (vg, .inr (6, [.int (nI ((redP (sgT tb ln) v).2.2.sh)), .int (nI ((redP (sgT tb ln) v).2.2.mo)), .int (nI ((redP (sgT tb ln) v).2.2.ov)), .int (nI ((redP (sgT tb ln) v).2.2.nr)), .ref io, .ref am, .ref en, .int (nI ((redP (sgT tb ln) v).2.2.nl)), .ref sp])), (io, eZ D 10 ((redP (sgT tb ln) v).2.2.fo)), (am, eI D 10 ((redP (sgT tb ln) v).2.2.fa)), (en, eI D 10 ((redP (sgT tb ln) v).2.2.fe)), (sp, eI D 100 ((redP (sgT tb ln) v).2.2.fs))]) rfl rfl rfl rfl ?_
      have z_f : fltP (sgT tb ln) (redP (sgT tb ln) v) = nI (redP (sgT tb ln) v).1 := by unfold fltP; rw [if_neg hg]
      have z_k := (red_ok (tb := tb) (v := v) hln).1
      refine v_top z_f ?_
      refine v_istore_n (lv' := [(0, .ref o), (1, .int (nI vc)), (2, .ref vg), (3, .int (nI ((redP (sgT tb ln) v).1)))]) O dX9_village_40 (by decide) rfl ?_
      refine v_aload_n O dX9_village_41 0 rfl ?_
      refine gf_X9_28 O rfl dX9_village_42 0 rfl rfl ?_
      refine v_cV (T := TX7) (ci := 7) (As := []) (wr := [(o, .inr (9, [.ref ca, .ref im, .int tk, .ref txo, .ref ba, .ref va, .int (nI vc), .ref nwk, .ref nt, .ref ro, .ref lo, .ref bd, .ref ta])), (ca, .inr (1, [.int (nI c.men), .ref ck, .ref cv, .ref chd, .int (nI c.heap), .int c.dogs, .int (nI c.wak), .int (nI c.rl), .ref cr, .int (nI c.pg), .ref cb, .int c.held])), (ck, eI D 6 (nF c.kk)), (cv, eI D 6 (nF c.vv)), (chd, eI D 6 c.hd), (cr, eI D 8 (nF c.crf)), (cb, eI D 12 (nF c.bo)), (va, eV D 6 vt), (tsg, eB D 100 tb), (vg, .inr (6, [.int (nI ((redP (sgT tb ln) v).2.2.sh)), .int (nI ((redP (sgT tb ln) v).2.2.mo)), .int (nI ((redP (sgT tb ln) v).2.2.ov)), .int (nI ((redP (sgT tb ln) v).2.2.nr)), .ref io, .ref am, .ref en, .int (nI ((redP (sgT tb ln) v).2.2.nl)), .ref sp])), (io, eZ D 10 ((redP (sgT tb ln) v).2.2.fo)), (am, eI D 10 ((redP (sgT tb ln) v).2.2.fa)), (en, eI D 10 ((redP (sgT tb ln) v).2.2.fe)), (sp, eI D 100 ((redP (sgT tb ln) v).2.2.fs))]) (st := []) O cf_X9_142 rfl (sp_X7_clear (txo := txo) (tsg := tsg) (ln := ln) (tb := tb) (pl := (nI ((redP (sgT tb ln) v).1))) (si := ((sgT tb ln) ((redP (sgT tb ln) v).1))) ) dX9_village_45 rfl rfl 8 rfl [8] [0, 1, 2, 3, 4, 5, 6, 7, 9, 10, 11, 12, 13, 14] (by decide) rfl rfl (by decide) (by decide) (by decide) (Nat.le_of_ble_eq_true rfl) (by decide) (by decide) (fun r_6 w_7 h_5 => ?_)
      obtain ⟨rfl, rfl⟩ := h_5
      refine v_eq (st' := []) (ws' := [(o, .inr (9, [.ref ca, .ref im, .int tk, .ref txo, .ref ba, .ref va, .int (nI vc), .ref nwk, .ref nt, .ref ro, .ref lo, .ref bd, .ref ta])), (ca, .inr (1, [.int (nI c.men), .ref ck, .ref cv, .ref chd, .int (nI c.heap), .int c.dogs, .int (nI c.wak), .int (nI c.rl), .ref cr, .int (nI c.pg), .ref cb, .int c.held])), (ck, eI D 6 (nF c.kk)), (cv, eI D 6 (nF c.vv)), (chd, eI D 6 c.hd), (cr, eI D 8 (nF c.crf)), (cb, eI D 12 (nF c.bo)), (va, eV D 6 vt), (tsg, eB D 100 tb), (vg, .inr (6, [.int (nI ((redP (sgT tb ln) v).2.2.sh)), .int (nI ((redP (sgT tb ln) v).2.2.mo)), .int (nI ((redP (sgT tb ln) v).2.2.ov)), .int (nI ((redP (sgT tb ln) v).2.2.nr)), .ref io, .ref am, .ref en, .int (nI ((redP (sgT tb ln) v).2.2.nl)), .ref sp])), (io, eZ D 10 ((redP (sgT tb ln) v).2.2.fo)), (am, eI D 10 ((redP (sgT tb ln) v).2.2.fa)), (en, eI D 10 ((redP (sgT tb ln) v).2.2.fe)), (sp, eI D 100 ((redP (sgT tb ln) v).2.2.fs)), (txo, .inr (7, [.ref tsg, .int 0, .int (nI ((redP (sgT tb ln) v).1)), .int ((sgT tb ln) ((redP (sgT tb ln) v).1))]))]) rfl rfl rfl rfl ?_
      refine v_iload_n O dX9_village_48 3 rfl ?_
      refine v_if_lt O 57 dX9_village_49 (by decide) (fun z3 => ?_) (fun z3 => ?_)
      · skip
        have z3 := (c_lt (x := nI ((redP (sgT tb ln) v).1)) (y := 0) (a := (redP (sgT tb ln) v).1) (b := 0) rfl rfl (by omega) (by omega)).mp z3
        exact absurd z3 (by omega)
      · skip
        have z3 := (not_congr (c_lt (x := nI ((redP (sgT tb ln) v).1)) (y := 0) (a := (redP (sgT tb ln) v).1) (b := 0) rfl rfl (by omega) (by omega))).mp z3
        refine v_bipush (v := -10) O dX9_village_52 (by decide) ?_
        refine v_iload_n O dX9_village_54 3 rfl ?_
        refine v_isub O dX9_village_55 ?_
        refine v_sub (ws' := [(o, .inr (9, [.ref ca, .ref im, .int tk, .ref txo, .ref ba, .ref va, .int (nI vc), .ref nwk, .ref nt, .ref ro, .ref lo, .ref bd, .ref ta])), (ca, .inr (1, [.int (nI c.men), .ref ck, .ref cv, .ref chd, .int (nI c.heap), .int c.dogs, .int (nI c.wak), .int (nI c.rl), .ref cr, .int (nI c.pg), .ref cb, .int c.held])), (ck, eI D 6 (nF c.kk)), (cv, eI D 6 (nF c.vv)), (chd, eI D 6 c.hd), (cr, eI D 8 (nF c.crf)), (cb, eI D 12 (nF c.bo)), (txo, .inr (7, [.ref tsg, .int 0, .int (nI ((redP (sgT tb ln) v).1)), .int ((sgT tb ln) ((redP (sgT tb ln) v).1))])), (tsg, eB D 100 tb), (va, eV D 6 vt), (vg, .inr (6, [.int (nI ((redP (sgT tb ln) v).2.2.sh)), .int (nI ((redP (sgT tb ln) v).2.2.mo)), .int (nI ((redP (sgT tb ln) v).2.2.ov)), .int (nI ((redP (sgT tb ln) v).2.2.nr)), .ref io, .ref am, .ref en, .int (nI ((redP (sgT tb ln) v).2.2.nl)), .ref sp])), (io, eZ D 10 ((redP (sgT tb ln) v).2.2.fo)), (am, eI D 10 ((redP (sgT tb ln) v).2.2.fa)), (en, eI D 10 ((redP (sgT tb ln) v).2.2.fe)), (sp, eI D 100 ((redP (sgT tb ln) v).2.2.fs))]) [0, 1, 2, 3, 4, 5, 6, 14, 8, 7, 9, 10, 11, 12, 13] (by decide) rfl ?_
        exact v_ireturn O T rfl rfl (by decide) (by decide) dX9_village_56 (⟨_, _, rfl, rfl⟩)
    · skip
      have z2 := (not_congr (c_lt (x := nI vc) (y := 6) (a := vc) (b := 6) rfl rfl (by omega) (by omega))).mp z2
      exact absurd z2 (by omega)
set_option maxRecDepth 100000 in
set_option maxHeartbeats 4000000 in
theorem sp_X9_village_3 {D : G} {o : Nat} {ca : Nat} {im : Nat} {tk : Int32} {txo : Nat} {ba : Nat} {va : Nat} {vc : Nat} {nwk : Nat} {nt : Nat} {ro : Nat} {lo : Nat} {bd : Nat} {ta : Nat} {ck : Nat} {cv : Nat} {chd : Nat} {cr : Nat} {cb : Nat} {c : CS} {tsg : Nat} {ln : Nat} {tb : Nat → Int32} {pl : Int32} {si : Int32} {vt : Nat → Option Nat} {vg : Nat} {io : Nat} {am : Nat} {en : Nat} {sp : Nat} {v : VS} (hC : cOk c) (hf : vc < 6) (hvt : vt vc = some vg) (hln : ln ≤ 100) (hg : ((redP (sgT tb ln) v).2.1 = true ∧ sgT tb ln (redP (sgT tb ln) v).1 = -1)) : Sp D mX9_village 30 0 0 [.ref o] [(o, .inr (9, [.ref ca, .ref im, .int tk, .ref txo, .ref ba, .ref va, .int (nI vc), .ref nwk, .ref nt, .ref ro, .ref lo, .ref bd, .ref ta])), (ca, .inr (1, [.int (nI c.men), .ref ck, .ref cv, .ref chd, .int (nI c.heap), .int c.dogs, .int (nI c.wak), .int (nI c.rl), .ref cr, .int (nI c.pg), .ref cb, .int c.held])), (ck, eI D 6 (nF c.kk)), (cv, eI D 6 (nF c.vv)), (chd, eI D 6 c.hd), (cr, eI D 8 (nF c.crf)), (cb, eI D 12 (nF c.bo)), (txo, .inr (7, [.ref tsg, .int (nI ln), .int pl, .int si])), (tsg, eB D 100 tb), (va, eV D 6 vt), (vg, .inr (6, [.int (nI v.sh), .int (nI v.mo), .int (nI v.ov), .int (nI v.nr), .ref io, .ref am, .ref en, .int (nI v.nl), .ref sp])), (io, eZ D 10 v.fo), (am, eI D 10 v.fa), (en, eI D 10 v.fe), (sp, eI D 100 v.fs)] (fun r w => ∃ pl1 : Int32, ∃ si1 : Int32, r = some (.int (nI vc)) ∧ w = [(o, .inr (9, [.ref ca, .ref im, .int tk, .ref txo, .ref ba, .ref va, .int (nI (vc + 1)), .ref nwk, .ref nt, .ref ro, .ref lo, .ref bd, .ref ta])), (ca, .inr (1, [.int (nI ((cHeld c vc).men)), .ref ck, .ref cv, .ref chd, .int (nI ((cHeld c vc).heap)), .int ((cHeld c vc).dogs), .int (nI ((cHeld c vc).wak)), .int (nI ((cHeld c vc).rl)), .ref cr, .int (nI ((cHeld c vc).pg)), .ref cb, .int ((cHeld c vc).held)])), (ck, eI D 6 (nF (cHeld c vc).kk)), (cv, eI D 6 (nF (cHeld c vc).vv)), (chd, eI D 6 ((cHeld c vc).hd)), (cr, eI D 8 (nF (cHeld c vc).crf)), (cb, eI D 12 (nF (cHeld c vc).bo)), (txo, .inr (7, [.ref tsg, .int (nI 0), .int pl1, .int si1])), (tsg, eB D 100 tb), (va, eV D 6 vt), (vg, .inr (6, [.int (nI ((redP (sgT tb ln) v).2.2.sh)), .int (nI ((redP (sgT tb ln) v).2.2.mo)), .int (nI ((redP (sgT tb ln) v).2.2.ov)), .int (nI ((redP (sgT tb ln) v).2.2.nr)), .ref io, .ref am, .ref en, .int (nI ((redP (sgT tb ln) v).2.2.nl)), .ref sp])), (io, eZ D 10 ((redP (sgT tb ln) v).2.2.fo)), (am, eI D 10 ((redP (sgT tb ln) v).2.2.fa)), (en, eI D 10 ((redP (sgT tb ln) v).2.2.fe)), (sp, eI D 100 ((redP (sgT tb ln) v).2.2.fs))]) := by
  refine Sp.of (by decide) (Nat.le_of_ble_eq_true rfl) (fun X O T => ?_)
  refine v_eq (lv' := [(0, .ref o)]) rfl rfl rfl rfl ?_
  have z_m := hC.1
  have z_hp := hC.2.2.2.1
  have z_wk := hC.2.2.2.2.1
  have z_rl := hC.2.2.2.2.2.1
  have z_pg := hC.2.2.2.2.2.2.2.1
  refine v_aload_n O dX9_village_0 0 rfl ?_
  refine gf_X9_43 O rfl dX9_village_1 0 rfl rfl ?_
  refine v_istore_n (lv' := [(0, .ref o), (1, .int (nI vc))]) O dX9_village_4 (by decide) rfl ?_
  refine v_iload_n O dX9_village_5 1 rfl ?_
  refine v_if_lt O 15 dX9_village_6 (by decide) (fun c_1 => ?_) (fun c_1 => ?_)
  · skip
    have c_1 := (c_lt (x := nI vc) (y := 0) (a := vc) (b := 0) rfl rfl (by omega) (by omega)).mp c_1
    exact absurd c_1 (by omega)
  · skip
    have c_1 := (not_congr (c_lt (x := nI vc) (y := 0) (a := vc) (b := 0) rfl rfl (by omega) (by omega))).mp c_1
    refine v_iload_n O dX9_village_9 1 rfl ?_
    refine v_bipush (v := 6) O dX9_village_10 (by decide) ?_
    refine v_icmp_lt O 18 dX9_village_12 (by decide) (fun z2 => ?_) (fun z2 => ?_)
    · skip
      have z2 := (c_lt (x := nI vc) (y := 6) (a := vc) (b := 6) rfl rfl (by omega) (by omega)).mp z2
      refine v_aload_n O dX9_village_18 0 rfl ?_
      refine gf_X9_39 O rfl dX9_village_19 0 rfl rfl ?_
      refine v_iload_n O dX9_village_22 1 rfl ?_
      refine v_aaldVk (v := .ref vg) O dX9_village_23 9 rfl vc (rfl) (by omega) (by decide) (by rw [hvt]; rfl) ?_
      refine v_astore_n (lv' := [(0, .ref o), (1, .int (nI vc)), (2, .ref vg)]) O dX9_village_24 (by decide) rfl ?_
      refine v_aload_n O dX9_village_25 2 rfl ?_
      refine v_ifnonnull O 32 dX9_village_26 (by decide) ?_
      refine v_aload_n O dX9_village_32 0 rfl ?_
      refine gf_X9_28 O rfl dX9_village_33 0 rfl rfl ?_
      refine v_aload_n O dX9_village_36 2 rfl ?_
      refine v_cV (T := TX7) (ci := 7) (As := [.ref vg]) (wr := [(o, .inr (9, [.ref ca, .ref im, .int tk, .ref txo, .ref ba, .ref va, .int (nI vc), .ref nwk, .ref nt, .ref ro, .ref lo, .ref bd, .ref ta])), (ca, .inr (1, [.int (nI c.men), .ref ck, .ref cv, .ref chd, .int (nI c.heap), .int c.dogs, .int (nI c.wak), .int (nI c.rl), .ref cr, .int (nI c.pg), .ref cb, .int c.held])), (ck, eI D 6 (nF c.kk)), (cv, eI D 6 (nF c.vv)), (chd, eI D 6 c.hd), (cr, eI D 8 (nF c.crf)), (cb, eI D 12 (nF c.bo)), (va, eV D 6 vt)]) (st := []) O cf_X9_138 rfl (sp_X7_readInto (txo := txo) (tsg := tsg) (ln := ln) (tb := tb) (vg := vg) (io := io) (am := am) (en := en) (sp := sp) (v := v) (pl := pl) (si := si) (hln)) dX9_village_37 rfl rfl 7 rfl [7, 8, 10, 11, 12, 13, 14] [0, 1, 2, 3, 4, 5, 6, 9] (by decide) rfl rfl (by decide) (by decide) (by decide) (Nat.le_of_ble_eq_true rfl) (by decide) (by decide) (fun r_3 w_4 h_2 => ?_)
      obtain ⟨rfl, rfl⟩ := h_2
      refine v_eq (st' := [.int (fltP (sgT tb ln) (redP (sgT tb ln) v))]) (ws' := [(o, .inr (9, [.ref ca, .ref im, .int tk, .ref txo, .ref ba, .ref va, .int (nI vc), .ref nwk, .ref nt, .ref ro, .ref lo, .ref bd, .ref ta])), (ca, .inr (1, [.int (nI c.men), .ref ck, .ref cv, .ref chd, .int (nI c.heap), .int c.dogs, .int (nI c.wak), .int (nI c.rl), .ref cr, .int (nI c.pg), .ref cb, .int c.held])), (ck, eI D 6 (nF c.kk)), (cv, eI D 6 (nF c.vv)), (chd, eI D 6 c.hd), (cr, eI D 8 (nF c.crf)), (cb, eI D 12 (nF c.bo)), (va, eV D 6 vt), (txo, .inr (7, [.ref tsg, .int (nI ln), .int (nI ((redP (sgT tb ln) v).1)), .int ((sgT tb ln) ((redP (sgT tb ln) v).1))])), (tsg, eB D 100 tb), (vg, .inr (6, [.int (nI ((redP (sgT tb ln) v).2.2.sh)), .int (nI ((redP (sgT tb ln) v).2.2.mo)), .int (nI ((redP (sgT tb ln) v).2.2.ov)), .int (nI ((redP (sgT tb ln) v).2.2.nr)), .ref io, .ref am, .ref en, .int (nI ((redP (sgT tb ln) v).2.2.nl)), .ref sp])), (io, eZ D 10 ((redP (sgT tb ln) v).2.2.fo)), (am, eI D 10 ((redP (sgT tb ln) v).2.2.fa)), (en, eI D 10 ((redP (sgT tb ln) v).2.2.fe)), (sp, eI D 100 ((redP (sgT tb ln) v).2.2.fs))]) rfl rfl rfl rfl ?_
      have z_f : fltP (sgT tb ln) (redP (sgT tb ln) v) = -1 := by unfold fltP; rw [if_pos hg]
      refine v_top z_f ?_
      refine v_istore_n (lv' := [(0, .ref o), (1, .int (nI vc)), (2, .ref vg), (3, .int (-1))]) O dX9_village_40 (by decide) rfl ?_
      refine v_aload_n O dX9_village_41 0 rfl ?_
      refine gf_X9_28 O rfl dX9_village_42 0 rfl rfl ?_
      refine v_cV (T := TX7) (ci := 7) (As := []) (wr := [(o, .inr (9, [.ref ca, .ref im, .int tk, .ref txo, .ref ba, .ref va, .int (nI vc), .ref nwk, .ref nt, .ref ro, .ref lo, .ref bd, .ref ta])), (ca, .inr (1, [.int (nI c.men), .ref ck, .ref cv, .ref chd, .int (nI c.heap), .int c.dogs, .int (nI c.wak), .int (nI c.rl), .ref cr, .int (nI c.pg), .ref cb, .int c.held])), (ck, eI D 6 (nF c.kk)), (cv, eI D 6 (nF c.vv)), (chd, eI D 6 c.hd), (cr, eI D 8 (nF c.crf)), (cb, eI D 12 (nF c.bo)), (va, eV D 6 vt), (tsg, eB D 100 tb), (vg, .inr (6, [.int (nI ((redP (sgT tb ln) v).2.2.sh)), .int (nI ((redP (sgT tb ln) v).2.2.mo)), .int (nI ((redP (sgT tb ln) v).2.2.ov)), .int (nI ((redP (sgT tb ln) v).2.2.nr)), .ref io, .ref am, .ref en, .int (nI ((redP (sgT tb ln) v).2.2.nl)), .ref sp])), (io, eZ D 10 ((redP (sgT tb ln) v).2.2.fo)), (am, eI D 10 ((redP (sgT tb ln) v).2.2.fa)), (en, eI D 10 ((redP (sgT tb ln) v).2.2.fe)), (sp, eI D 100 ((redP (sgT tb ln) v).2.2.fs))]) (st := []) O cf_X9_142 rfl (sp_X7_clear (txo := txo) (tsg := tsg) (ln := ln) (tb := tb) (pl := (nI ((redP (sgT tb ln) v).1))) (si := ((sgT tb ln) ((redP (sgT tb ln) v).1))) ) dX9_village_45 rfl rfl 8 rfl [8] [0, 1, 2, 3, 4, 5, 6, 7, 9, 10, 11, 12, 13, 14] (by decide) rfl rfl (by decide) (by decide) (by decide) (Nat.le_of_ble_eq_true rfl) (by decide) (by decide) (fun r_6 w_7 h_5 => ?_)
      obtain ⟨rfl, rfl⟩ := h_5
      refine v_eq (st' := []) (ws' := [(o, .inr (9, [.ref ca, .ref im, .int tk, .ref txo, .ref ba, .ref va, .int (nI vc), .ref nwk, .ref nt, .ref ro, .ref lo, .ref bd, .ref ta])), (ca, .inr (1, [.int (nI c.men), .ref ck, .ref cv, .ref chd, .int (nI c.heap), .int c.dogs, .int (nI c.wak), .int (nI c.rl), .ref cr, .int (nI c.pg), .ref cb, .int c.held])), (ck, eI D 6 (nF c.kk)), (cv, eI D 6 (nF c.vv)), (chd, eI D 6 c.hd), (cr, eI D 8 (nF c.crf)), (cb, eI D 12 (nF c.bo)), (va, eV D 6 vt), (tsg, eB D 100 tb), (vg, .inr (6, [.int (nI ((redP (sgT tb ln) v).2.2.sh)), .int (nI ((redP (sgT tb ln) v).2.2.mo)), .int (nI ((redP (sgT tb ln) v).2.2.ov)), .int (nI ((redP (sgT tb ln) v).2.2.nr)), .ref io, .ref am, .ref en, .int (nI ((redP (sgT tb ln) v).2.2.nl)), .ref sp])), (io, eZ D 10 ((redP (sgT tb ln) v).2.2.fo)), (am, eI D 10 ((redP (sgT tb ln) v).2.2.fa)), (en, eI D 10 ((redP (sgT tb ln) v).2.2.fe)), (sp, eI D 100 ((redP (sgT tb ln) v).2.2.fs)), (txo, .inr (7, [.ref tsg, .int 0, .int (nI ((redP (sgT tb ln) v).1)), .int ((sgT tb ln) ((redP (sgT tb ln) v).1))]))]) rfl rfl rfl rfl ?_
      refine v_iload_n O dX9_village_48 3 rfl ?_
      refine v_if_lt O 57 dX9_village_49 (by decide) (fun z3 => ?_) (fun z3 => ?_)
      · skip
        refine v_aload_n O dX9_village_57 0 rfl ?_
        refine gf_X9_12 O rfl dX9_village_58 0 rfl rfl ?_
        refine v_iload_n O dX9_village_61 1 rfl ?_
        refine pf_X9_145 (fs' := [.int (nI c.men), .ref ck, .ref cv, .ref chd, .int (nI c.heap), .int c.dogs, .int (nI c.wak), .int (nI c.rl), .ref cr, .int (nI c.pg), .ref cb, .int (nI vc)]) (ws' := [(o, .inr (9, [.ref ca, .ref im, .int tk, .ref txo, .ref ba, .ref va, .int (nI vc), .ref nwk, .ref nt, .ref ro, .ref lo, .ref bd, .ref ta])), (ca, .inr (1, [.int (nI c.men), .ref ck, .ref cv, .ref chd, .int (nI c.heap), .int c.dogs, .int (nI c.wak), .int (nI c.rl), .ref cr, .int (nI c.pg), .ref cb, .int (nI vc)])), (ck, eI D 6 (nF c.kk)), (cv, eI D 6 (nF c.vv)), (chd, eI D 6 c.hd), (cr, eI D 8 (nF c.crf)), (cb, eI D 12 (nF c.bo)), (va, eV D 6 vt), (tsg, eB D 100 tb), (vg, .inr (6, [.int (nI ((redP (sgT tb ln) v).2.2.sh)), .int (nI ((redP (sgT tb ln) v).2.2.mo)), .int (nI ((redP (sgT tb ln) v).2.2.ov)), .int (nI ((redP (sgT tb ln) v).2.2.nr)), .ref io, .ref am, .ref en, .int (nI ((redP (sgT tb ln) v).2.2.nl)), .ref sp])), (io, eZ D 10 ((redP (sgT tb ln) v).2.2.fo)), (am, eI D 10 ((redP (sgT tb ln) v).2.2.fa)), (en, eI D 10 ((redP (sgT tb ln) v).2.2.fe)), (sp, eI D 100 ((redP (sgT tb ln) v).2.2.fs)), (txo, .inr (7, [.ref tsg, .int 0, .int (nI ((redP (sgT tb ln) v).1)), .int ((sgT tb ln) ((redP (sgT tb ln) v).1))]))]) O rfl dX9_village_62 1 rfl (Nat.le_of_ble_eq_true rfl) rfl rfl ?_
        refine v_aload_n O dX9_village_65 0 rfl ?_
        refine v_iload_n O dX9_village_66 1 rfl ?_
        refine v_iconst (v := 1) O dX9_village_67 (by decide) ?_
        refine v_iadd O dX9_village_68 ?_
        refine v_top (y := nI (vc + 1)) (nI_add vc 1) ?_
        refine pf_X9_43 (fs' := [.ref ca, .ref im, .int tk, .ref txo, .ref ba, .ref va, .int (nI (vc + 1)), .ref nwk, .ref nt, .ref ro, .ref lo, .ref bd, .ref ta]) (ws' := [(o, .inr (9, [.ref ca, .ref im, .int tk, .ref txo, .ref ba, .ref va, .int (nI (vc + 1)), .ref nwk, .ref nt, .ref ro, .ref lo, .ref bd, .ref ta])), (ca, .inr (1, [.int (nI c.men), .ref ck, .ref cv, .ref chd, .int (nI c.heap), .int c.dogs, .int (nI c.wak), .int (nI c.rl), .ref cr, .int (nI c.pg), .ref cb, .int (nI vc)])), (ck, eI D 6 (nF c.kk)), (cv, eI D 6 (nF c.vv)), (chd, eI D 6 c.hd), (cr, eI D 8 (nF c.crf)), (cb, eI D 12 (nF c.bo)), (va, eV D 6 vt), (tsg, eB D 100 tb), (vg, .inr (6, [.int (nI ((redP (sgT tb ln) v).2.2.sh)), .int (nI ((redP (sgT tb ln) v).2.2.mo)), .int (nI ((redP (sgT tb ln) v).2.2.ov)), .int (nI ((redP (sgT tb ln) v).2.2.nr)), .ref io, .ref am, .ref en, .int (nI ((redP (sgT tb ln) v).2.2.nl)), .ref sp])), (io, eZ D 10 ((redP (sgT tb ln) v).2.2.fo)), (am, eI D 10 ((redP (sgT tb ln) v).2.2.fa)), (en, eI D 10 ((redP (sgT tb ln) v).2.2.fe)), (sp, eI D 100 ((redP (sgT tb ln) v).2.2.fs)), (txo, .inr (7, [.ref tsg, .int 0, .int (nI ((redP (sgT tb ln) v).1)), .int ((sgT tb ln) ((redP (sgT tb ln) v).1))]))]) O rfl dX9_village_69 0 rfl (Nat.le_of_ble_eq_true rfl) rfl rfl ?_
        refine v_iload_n O dX9_village_72 1 rfl ?_
        refine v_sub (ws' := [(o, .inr (9, [.ref ca, .ref im, .int tk, .ref txo, .ref ba, .ref va, .int (nI (vc + 1)), .ref nwk, .ref nt, .ref ro, .ref lo, .ref bd, .ref ta])), (ca, .inr (1, [.int (nI c.men), .ref ck, .ref cv, .ref chd, .int (nI c.heap), .int c.dogs, .int (nI c.wak), .int (nI c.rl), .ref cr, .int (nI c.pg), .ref cb, .int (nI vc)])), (ck, eI D 6 (nF c.kk)), (cv, eI D 6 (nF c.vv)), (chd, eI D 6 c.hd), (cr, eI D 8 (nF c.crf)), (cb, eI D 12 (nF c.bo)), (txo, .inr (7, [.ref tsg, .int 0, .int (nI ((redP (sgT tb ln) v).1)), .int ((sgT tb ln) ((redP (sgT tb ln) v).1))])), (tsg, eB D 100 tb), (va, eV D 6 vt), (vg, .inr (6, [.int (nI ((redP (sgT tb ln) v).2.2.sh)), .int (nI ((redP (sgT tb ln) v).2.2.mo)), .int (nI ((redP (sgT tb ln) v).2.2.ov)), .int (nI ((redP (sgT tb ln) v).2.2.nr)), .ref io, .ref am, .ref en, .int (nI ((redP (sgT tb ln) v).2.2.nl)), .ref sp])), (io, eZ D 10 ((redP (sgT tb ln) v).2.2.fo)), (am, eI D 10 ((redP (sgT tb ln) v).2.2.fa)), (en, eI D 10 ((redP (sgT tb ln) v).2.2.fe)), (sp, eI D 100 ((redP (sgT tb ln) v).2.2.fs))]) [0, 1, 2, 3, 4, 5, 6, 14, 8, 7, 9, 10, 11, 12, 13] (by decide) rfl ?_
        exact v_ireturn O T rfl rfl (by decide) (by decide) dX9_village_73 (⟨_, _, rfl, rfl⟩)
      · skip
        exact absurd (by decide) z3
    · skip
      have z2 := (not_congr (c_lt (x := nI vc) (y := 6) (a := vc) (b := 6) rfl rfl (by omega) (by omega))).mp z2
      exact absurd z2 (by omega)
set_option maxRecDepth 100000 in
set_option maxHeartbeats 4000000 in
theorem sp_X9_told_1 {D : G} {o : Nat} {ca : Nat} {im : Nat} {tk : Int32} {txo : Nat} {ba : Nat} {va : Nat} {vc : Nat} {nwk : Nat} {nt : Nat} {ro : Nat} {lo : Nat} {bd : Nat} {ta : Nat} {zw : Int32} (hw : ¬ isIx zw 5) : Sp D mX9_told 30 0 0 [.ref o, .int zw] [(o, .inr (9, [.ref ca, .ref im, .int tk, .ref txo, .ref ba, .ref va, .int (nI vc), .ref nwk, .ref nt, .ref ro, .ref lo, .ref bd, .ref ta]))] (fun r w => r = some (.int (-1)) ∧ w = [(o, .inr (9, [.ref ca, .ref im, .int tk, .ref txo, .ref ba, .ref va, .int (nI vc), .ref nwk, .ref nt, .ref ro, .ref lo, .ref bd, .ref ta]))]) := by
  refine Sp.of (by decide) (Nat.le_of_ble_eq_true rfl) (fun X O T => ?_)
  refine v_eq (lv' := [(0, .ref o), (1, .int zw)]) rfl rfl rfl rfl ?_
  refine v_iload_n O dX9_told_0 1 rfl ?_
  by_cases s_1 : zw = 0
  · skip
    refine v_top s_1 ?_
    refine v_tsIn (off := 35) O 36 dX9_told_1 (by decide) (by decide) (by decide) (by decide) ?_
    exact absurd ⟨0, by decide, s_1⟩ hw
  by_cases s_2 : zw = 1
  · skip
    refine v_top s_2 ?_
    refine v_tsIn (off := 43) O 44 dX9_told_1 (by decide) (by decide) (by decide) (by decide) ?_
    exact absurd ⟨1, by decide, s_2⟩ hw
  by_cases s_3 : zw = 2
  · skip
    refine v_top s_3 ?_
    refine v_tsIn (off := 51) O 52 dX9_told_1 (by decide) (by decide) (by decide) (by decide) ?_
    exact absurd ⟨2, by decide, s_3⟩ hw
  by_cases s_4 : zw = 3
  · skip
    refine v_top s_4 ?_
    refine v_tsIn (off := 59) O 60 dX9_told_1 (by decide) (by decide) (by decide) (by decide) ?_
    exact absurd ⟨3, by decide, s_4⟩ hw
  by_cases s_5 : zw = 4
  · skip
    refine v_top s_5 ?_
    refine v_tsIn (off := 67) O 68 dX9_told_1 (by decide) (by decide) (by decide) (by decide) ?_
    exact absurd ⟨4, by decide, s_5⟩ hw
  refine v_tsOut O 76 dX9_told_1 (ts_out (by decide) (by decide) (fun v h1 h2 => by rcases (show v = 0 ∨ v = 1 ∨ v = 2 ∨ v = 3 ∨ v = 4 by omega) with rfl | rfl | rfl | rfl | rfl <;> assumption)) (by decide) ?_
  refine v_iconst (v := -1) O dX9_told_76 (by decide) ?_
  exact v_ireturn O T rfl rfl (by decide) (by decide) dX9_told_77 (⟨rfl, rfl⟩)
set_option maxRecDepth 100000 in
set_option maxHeartbeats 4000000 in
theorem sp_X9_told_2 {D : G} {o : Nat} {ca : Nat} {im : Nat} {tk : Int32} {txo : Nat} {ba : Nat} {va : Nat} {vc : Nat} {nwk : Nat} {nt : Nat} {ro : Nat} {lo : Nat} {bd : Nat} {ta : Nat} {ck : Nat} {cv : Nat} {chd : Nat} {cr : Nat} {cb : Nat} {c : CS} {vt : Nat → Option Nat} {vg : Nat} {io : Nat} {am : Nat} {en : Nat} {sp : Nat} {v : VS} (hC : cOk c) (hv : vAsk v) (hV : (c.held = -1 ∧ vg = ba) ∨ (∃ zh : Nat, zh < 6 ∧ c.held = nI zh ∧ vt zh = some vg)) : Sp D mX9_told 30 0 0 [.ref o, .int 0] [(o, .inr (9, [.ref ca, .ref im, .int tk, .ref txo, .ref ba, .ref va, .int (nI vc), .ref nwk, .ref nt, .ref ro, .ref lo, .ref bd, .ref ta])), (ca, .inr (1, [.int (nI c.men), .ref ck, .ref cv, .ref chd, .int (nI c.heap), .int c.dogs, .int (nI c.wak), .int (nI c.rl), .ref cr, .int (nI c.pg), .ref cb, .int c.held])), (ck, eI D 6 (nF c.kk)), (cv, eI D 6 (nF c.vv)), (chd, eI D 6 c.hd), (cr, eI D 8 (nF c.crf)), (cb, eI D 12 (nF c.bo)), (va, eV D 6 vt), (vg, .inr (6, [.int (nI v.sh), .int (nI v.mo), .int (nI v.ov), .int (nI v.nr), .ref io, .ref am, .ref en, .int (nI v.nl), .ref sp])), (io, eZ D 10 v.fo), (am, eI D 10 v.fa), (en, eI D 10 v.fe), (sp, eI D 100 v.fs)] (fun r w => r = some (.int (nI v.sh)) ∧ w = [(o, .inr (9, [.ref ca, .ref im, .int tk, .ref txo, .ref ba, .ref va, .int (nI vc), .ref nwk, .ref nt, .ref ro, .ref lo, .ref bd, .ref ta])), (ca, .inr (1, [.int (nI c.men), .ref ck, .ref cv, .ref chd, .int (nI c.heap), .int c.dogs, .int (nI c.wak), .int (nI c.rl), .ref cr, .int (nI c.pg), .ref cb, .int c.held])), (ck, eI D 6 (nF c.kk)), (cv, eI D 6 (nF c.vv)), (chd, eI D 6 c.hd), (cr, eI D 8 (nF c.crf)), (cb, eI D 12 (nF c.bo)), (va, eV D 6 vt), (vg, .inr (6, [.int (nI v.sh), .int (nI v.mo), .int (nI v.ov), .int (nI v.nr), .ref io, .ref am, .ref en, .int (nI v.nl), .ref sp])), (io, eZ D 10 v.fo), (am, eI D 10 v.fa), (en, eI D 10 v.fe), (sp, eI D 100 v.fs)]) := by
  refine Sp.of (by decide) (Nat.le_of_ble_eq_true rfl) (fun X O T => ?_)
  refine v_eq (lv' := [(0, .ref o), (1, .int 0)]) rfl rfl rfl rfl ?_
  have z_m := hC.1
  have z_hp := hC.2.2.2.1
  have z_wk := hC.2.2.2.2.1
  have z_rl := hC.2.2.2.2.2.1
  have z_pg := hC.2.2.2.2.2.2.2.1
  refine v_iload_n O dX9_told_0 1 rfl ?_
  refine v_tsIn (off := 35) O 36 dX9_told_1 (by decide) (by decide) (by decide) (by decide) ?_
  refine v_aload_n O dX9_told_36 0 rfl ?_
  refine v_cV (T := TX9) (ci := 9) (As := []) (wr := [(ck, eI D 6 (nF c.kk)), (cv, eI D 6 (nF c.vv)), (chd, eI D 6 c.hd), (cr, eI D 8 (nF c.crf)), (cb, eI D 12 (nF c.bo)), (vg, .inr (6, [.int (nI v.sh), .int (nI v.mo), .int (nI v.ov), .int (nI v.nr), .ref io, .ref am, .ref en, .int (nI v.nl), .ref sp])), (io, eZ D 10 v.fo), (am, eI D 10 v.fa), (en, eI D 10 v.fe), (sp, eI D 100 v.fs)]) (st := []) O cf_X9_148 rfl (sp_X9_heldVillage (o := o) (ca := ca) (im := im) (tk := tk) (txo := txo) (ba := ba) (va := va) (vc := vc) (nwk := nwk) (nt := nt) (ro := ro) (lo := lo) (bd := bd) (ta := ta) (ck := ck) (cv := cv) (chd := chd) (cr := cr) (cb := cb) (c := c) (vt := vt) (vg := vg) (hV)) dX9_told_37 rfl rfl 0 rfl [0, 1, 7] [2, 3, 4, 5, 6, 8, 9, 10, 11, 12] (by decide) rfl rfl (by decide) (by decide) (by decide) (Nat.le_of_ble_eq_true rfl) (by decide) (by decide) (fun r_2 w_3 h_1 => ?_)
  obtain ⟨rfl, rfl⟩ := h_1
  refine v_eq (st' := [.ref vg]) (ws' := [(ck, eI D 6 (nF c.kk)), (cv, eI D 6 (nF c.vv)), (chd, eI D 6 c.hd), (cr, eI D 8 (nF c.crf)), (cb, eI D 12 (nF c.bo)), (vg, .inr (6, [.int (nI v.sh), .int (nI v.mo), .int (nI v.ov), .int (nI v.nr), .ref io, .ref am, .ref en, .int (nI v.nl), .ref sp])), (io, eZ D 10 v.fo), (am, eI D 10 v.fa), (en, eI D 10 v.fe), (sp, eI D 100 v.fs), (o, .inr (9, [.ref ca, .ref im, .int tk, .ref txo, .ref ba, .ref va, .int (nI vc), .ref nwk, .ref nt, .ref ro, .ref lo, .ref bd, .ref ta])), (ca, .inr (1, [.int (nI c.men), .ref ck, .ref cv, .ref chd, .int (nI c.heap), .int c.dogs, .int (nI c.wak), .int (nI c.rl), .ref cr, .int (nI c.pg), .ref cb, .int c.held])), (va, eV D 6 vt)]) rfl rfl rfl rfl ?_
  refine gf_X9_152 O rfl dX9_told_40 5 rfl rfl ?_
  refine v_sub (ws' := [(o, .inr (9, [.ref ca, .ref im, .int tk, .ref txo, .ref ba, .ref va, .int (nI vc), .ref nwk, .ref nt, .ref ro, .ref lo, .ref bd, .ref ta])), (ca, .inr (1, [.int (nI c.men), .ref ck, .ref cv, .ref chd, .int (nI c.heap), .int c.dogs, .int (nI c.wak), .int (nI c.rl), .ref cr, .int (nI c.pg), .ref cb, .int c.held])), (ck, eI D 6 (nF c.kk)), (cv, eI D 6 (nF c.vv)), (chd, eI D 6 c.hd), (cr, eI D 8 (nF c.crf)), (cb, eI D 12 (nF c.bo)), (va, eV D 6 vt), (vg, .inr (6, [.int (nI v.sh), .int (nI v.mo), .int (nI v.ov), .int (nI v.nr), .ref io, .ref am, .ref en, .int (nI v.nl), .ref sp])), (io, eZ D 10 v.fo), (am, eI D 10 v.fa), (en, eI D 10 v.fe), (sp, eI D 100 v.fs)]) [10, 11, 0, 1, 2, 3, 4, 12, 5, 6, 7, 8, 9] (by decide) rfl ?_
  exact v_ireturn O T rfl rfl (by decide) (by decide) dX9_told_43 (⟨rfl, rfl⟩)
set_option maxRecDepth 100000 in
set_option maxHeartbeats 4000000 in
theorem sp_X9_told_3 {D : G} {o : Nat} {ca : Nat} {im : Nat} {tk : Int32} {txo : Nat} {ba : Nat} {va : Nat} {vc : Nat} {nwk : Nat} {nt : Nat} {ro : Nat} {lo : Nat} {bd : Nat} {ta : Nat} {ck : Nat} {cv : Nat} {chd : Nat} {cr : Nat} {cb : Nat} {c : CS} {vt : Nat → Option Nat} {vg : Nat} {io : Nat} {am : Nat} {en : Nat} {sp : Nat} {v : VS} (hC : cOk c) (hv : vAsk v) (hV : (c.held = -1 ∧ vg = ba) ∨ (∃ zh : Nat, zh < 6 ∧ c.held = nI zh ∧ vt zh = some vg)) : Sp D mX9_told 30 0 0 [.ref o, .int 1] [(o, .inr (9, [.ref ca, .ref im, .int tk, .ref txo, .ref ba, .ref va, .int (nI vc), .ref nwk, .ref nt, .ref ro, .ref lo, .ref bd, .ref ta])), (ca, .inr (1, [.int (nI c.men), .ref ck, .ref cv, .ref chd, .int (nI c.heap), .int c.dogs, .int (nI c.wak), .int (nI c.rl), .ref cr, .int (nI c.pg), .ref cb, .int c.held])), (ck, eI D 6 (nF c.kk)), (cv, eI D 6 (nF c.vv)), (chd, eI D 6 c.hd), (cr, eI D 8 (nF c.crf)), (cb, eI D 12 (nF c.bo)), (va, eV D 6 vt), (vg, .inr (6, [.int (nI v.sh), .int (nI v.mo), .int (nI v.ov), .int (nI v.nr), .ref io, .ref am, .ref en, .int (nI v.nl), .ref sp])), (io, eZ D 10 v.fo), (am, eI D 10 v.fa), (en, eI D 10 v.fe), (sp, eI D 100 v.fs)] (fun r w => r = some (.int (nI v.mo)) ∧ w = [(o, .inr (9, [.ref ca, .ref im, .int tk, .ref txo, .ref ba, .ref va, .int (nI vc), .ref nwk, .ref nt, .ref ro, .ref lo, .ref bd, .ref ta])), (ca, .inr (1, [.int (nI c.men), .ref ck, .ref cv, .ref chd, .int (nI c.heap), .int c.dogs, .int (nI c.wak), .int (nI c.rl), .ref cr, .int (nI c.pg), .ref cb, .int c.held])), (ck, eI D 6 (nF c.kk)), (cv, eI D 6 (nF c.vv)), (chd, eI D 6 c.hd), (cr, eI D 8 (nF c.crf)), (cb, eI D 12 (nF c.bo)), (va, eV D 6 vt), (vg, .inr (6, [.int (nI v.sh), .int (nI v.mo), .int (nI v.ov), .int (nI v.nr), .ref io, .ref am, .ref en, .int (nI v.nl), .ref sp])), (io, eZ D 10 v.fo), (am, eI D 10 v.fa), (en, eI D 10 v.fe), (sp, eI D 100 v.fs)]) := by
  refine Sp.of (by decide) (Nat.le_of_ble_eq_true rfl) (fun X O T => ?_)
  refine v_eq (lv' := [(0, .ref o), (1, .int 1)]) rfl rfl rfl rfl ?_
  have z_m := hC.1
  have z_hp := hC.2.2.2.1
  have z_wk := hC.2.2.2.2.1
  have z_rl := hC.2.2.2.2.2.1
  have z_pg := hC.2.2.2.2.2.2.2.1
  refine v_iload_n O dX9_told_0 1 rfl ?_
  refine v_tsIn (off := 43) O 44 dX9_told_1 (by decide) (by decide) (by decide) (by decide) ?_
  refine v_aload_n O dX9_told_44 0 rfl ?_
  refine v_cV (T := TX9) (ci := 9) (As := []) (wr := [(ck, eI D 6 (nF c.kk)), (cv, eI D 6 (nF c.vv)), (chd, eI D 6 c.hd), (cr, eI D 8 (nF c.crf)), (cb, eI D 12 (nF c.bo)), (vg, .inr (6, [.int (nI v.sh), .int (nI v.mo), .int (nI v.ov), .int (nI v.nr), .ref io, .ref am, .ref en, .int (nI v.nl), .ref sp])), (io, eZ D 10 v.fo), (am, eI D 10 v.fa), (en, eI D 10 v.fe), (sp, eI D 100 v.fs)]) (st := []) O cf_X9_148 rfl (sp_X9_heldVillage (o := o) (ca := ca) (im := im) (tk := tk) (txo := txo) (ba := ba) (va := va) (vc := vc) (nwk := nwk) (nt := nt) (ro := ro) (lo := lo) (bd := bd) (ta := ta) (ck := ck) (cv := cv) (chd := chd) (cr := cr) (cb := cb) (c := c) (vt := vt) (vg := vg) (hV)) dX9_told_45 rfl rfl 0 rfl [0, 1, 7] [2, 3, 4, 5, 6, 8, 9, 10, 11, 12] (by decide) rfl rfl (by decide) (by decide) (by decide) (Nat.le_of_ble_eq_true rfl) (by decide) (by decide) (fun r_2 w_3 h_1 => ?_)
  obtain ⟨rfl, rfl⟩ := h_1
  refine v_eq (st' := [.ref vg]) (ws' := [(ck, eI D 6 (nF c.kk)), (cv, eI D 6 (nF c.vv)), (chd, eI D 6 c.hd), (cr, eI D 8 (nF c.crf)), (cb, eI D 12 (nF c.bo)), (vg, .inr (6, [.int (nI v.sh), .int (nI v.mo), .int (nI v.ov), .int (nI v.nr), .ref io, .ref am, .ref en, .int (nI v.nl), .ref sp])), (io, eZ D 10 v.fo), (am, eI D 10 v.fa), (en, eI D 10 v.fe), (sp, eI D 100 v.fs), (o, .inr (9, [.ref ca, .ref im, .int tk, .ref txo, .ref ba, .ref va, .int (nI vc), .ref nwk, .ref nt, .ref ro, .ref lo, .ref bd, .ref ta])), (ca, .inr (1, [.int (nI c.men), .ref ck, .ref cv, .ref chd, .int (nI c.heap), .int c.dogs, .int (nI c.wak), .int (nI c.rl), .ref cr, .int (nI c.pg), .ref cb, .int c.held])), (va, eV D 6 vt)]) rfl rfl rfl rfl ?_
  refine gf_X9_155 O rfl dX9_told_48 5 rfl rfl ?_
  refine v_sub (ws' := [(o, .inr (9, [.ref ca, .ref im, .int tk, .ref txo, .ref ba, .ref va, .int (nI vc), .ref nwk, .ref nt, .ref ro, .ref lo, .ref bd, .ref ta])), (ca, .inr (1, [.int (nI c.men), .ref ck, .ref cv, .ref chd, .int (nI c.heap), .int c.dogs, .int (nI c.wak), .int (nI c.rl), .ref cr, .int (nI c.pg), .ref cb, .int c.held])), (ck, eI D 6 (nF c.kk)), (cv, eI D 6 (nF c.vv)), (chd, eI D 6 c.hd), (cr, eI D 8 (nF c.crf)), (cb, eI D 12 (nF c.bo)), (va, eV D 6 vt), (vg, .inr (6, [.int (nI v.sh), .int (nI v.mo), .int (nI v.ov), .int (nI v.nr), .ref io, .ref am, .ref en, .int (nI v.nl), .ref sp])), (io, eZ D 10 v.fo), (am, eI D 10 v.fa), (en, eI D 10 v.fe), (sp, eI D 100 v.fs)]) [10, 11, 0, 1, 2, 3, 4, 12, 5, 6, 7, 8, 9] (by decide) rfl ?_
  exact v_ireturn O T rfl rfl (by decide) (by decide) dX9_told_51 (⟨rfl, rfl⟩)
set_option maxRecDepth 100000 in
set_option maxHeartbeats 4000000 in
theorem sp_X9_told_4 {D : G} {o : Nat} {ca : Nat} {im : Nat} {tk : Int32} {txo : Nat} {ba : Nat} {va : Nat} {vc : Nat} {nwk : Nat} {nt : Nat} {ro : Nat} {lo : Nat} {bd : Nat} {ta : Nat} {ck : Nat} {cv : Nat} {chd : Nat} {cr : Nat} {cb : Nat} {c : CS} (hC : cOk c) : Sp D mX9_told 30 0 0 [.ref o, .int 2] [(o, .inr (9, [.ref ca, .ref im, .int tk, .ref txo, .ref ba, .ref va, .int (nI vc), .ref nwk, .ref nt, .ref ro, .ref lo, .ref bd, .ref ta])), (ca, .inr (1, [.int (nI c.men), .ref ck, .ref cv, .ref chd, .int (nI c.heap), .int c.dogs, .int (nI c.wak), .int (nI c.rl), .ref cr, .int (nI c.pg), .ref cb, .int c.held])), (ck, eI D 6 (nF c.kk)), (cv, eI D 6 (nF c.vv)), (chd, eI D 6 c.hd), (cr, eI D 8 (nF c.crf)), (cb, eI D 12 (nF c.bo))] (fun r w => r = some (.int (nI c.heap)) ∧ w = [(o, .inr (9, [.ref ca, .ref im, .int tk, .ref txo, .ref ba, .ref va, .int (nI vc), .ref nwk, .ref nt, .ref ro, .ref lo, .ref bd, .ref ta])), (ca, .inr (1, [.int (nI c.men), .ref ck, .ref cv, .ref chd, .int (nI c.heap), .int c.dogs, .int (nI c.wak), .int (nI c.rl), .ref cr, .int (nI c.pg), .ref cb, .int c.held])), (ck, eI D 6 (nF c.kk)), (cv, eI D 6 (nF c.vv)), (chd, eI D 6 c.hd), (cr, eI D 8 (nF c.crf)), (cb, eI D 12 (nF c.bo))]) := by
  refine Sp.of (by decide) (Nat.le_of_ble_eq_true rfl) (fun X O T => ?_)
  refine v_eq (lv' := [(0, .ref o), (1, .int 2)]) rfl rfl rfl rfl ?_
  have z_m := hC.1
  have z_hp := hC.2.2.2.1
  have z_wk := hC.2.2.2.2.1
  have z_rl := hC.2.2.2.2.2.1
  have z_pg := hC.2.2.2.2.2.2.2.1
  refine v_iload_n O dX9_told_0 1 rfl ?_
  refine v_tsIn (off := 51) O 52 dX9_told_1 (by decide) (by decide) (by decide) (by decide) ?_
  refine v_aload_n O dX9_told_52 0 rfl ?_
  refine gf_X9_12 O rfl dX9_told_53 0 rfl rfl ?_
  refine gf_X9_114 O rfl dX9_told_56 1 rfl rfl ?_
  exact v_ireturn O T rfl rfl (by decide) (by decide) dX9_told_59 (⟨rfl, rfl⟩)
set_option maxRecDepth 100000 in
set_option maxHeartbeats 4000000 in
theorem sp_X9_told_5 {D : G} {o : Nat} {ca : Nat} {im : Nat} {tk : Int32} {txo : Nat} {ba : Nat} {va : Nat} {vc : Nat} {nwk : Nat} {nt : Nat} {ro : Nat} {lo : Nat} {bd : Nat} {ta : Nat} {ck : Nat} {cv : Nat} {chd : Nat} {cr : Nat} {cb : Nat} {c : CS} (hC : cOk c) : Sp D mX9_told 30 0 0 [.ref o, .int 3] [(o, .inr (9, [.ref ca, .ref im, .int tk, .ref txo, .ref ba, .ref va, .int (nI vc), .ref nwk, .ref nt, .ref ro, .ref lo, .ref bd, .ref ta])), (ca, .inr (1, [.int (nI c.men), .ref ck, .ref cv, .ref chd, .int (nI c.heap), .int c.dogs, .int (nI c.wak), .int (nI c.rl), .ref cr, .int (nI c.pg), .ref cb, .int c.held])), (ck, eI D 6 (nF c.kk)), (cv, eI D 6 (nF c.vv)), (chd, eI D 6 c.hd), (cr, eI D 8 (nF c.crf)), (cb, eI D 12 (nF c.bo))] (fun r w => r = some (.int c.dogs) ∧ w = [(o, .inr (9, [.ref ca, .ref im, .int tk, .ref txo, .ref ba, .ref va, .int (nI vc), .ref nwk, .ref nt, .ref ro, .ref lo, .ref bd, .ref ta])), (ca, .inr (1, [.int (nI c.men), .ref ck, .ref cv, .ref chd, .int (nI c.heap), .int c.dogs, .int (nI c.wak), .int (nI c.rl), .ref cr, .int (nI c.pg), .ref cb, .int c.held])), (ck, eI D 6 (nF c.kk)), (cv, eI D 6 (nF c.vv)), (chd, eI D 6 c.hd), (cr, eI D 8 (nF c.crf)), (cb, eI D 12 (nF c.bo))]) := by
  refine Sp.of (by decide) (Nat.le_of_ble_eq_true rfl) (fun X O T => ?_)
  refine v_eq (lv' := [(0, .ref o), (1, .int 3)]) rfl rfl rfl rfl ?_
  have z_m := hC.1
  have z_hp := hC.2.2.2.1
  have z_wk := hC.2.2.2.2.1
  have z_rl := hC.2.2.2.2.2.1
  have z_pg := hC.2.2.2.2.2.2.2.1
  refine v_iload_n O dX9_told_0 1 rfl ?_
  refine v_tsIn (off := 59) O 60 dX9_told_1 (by decide) (by decide) (by decide) (by decide) ?_
  refine v_aload_n O dX9_told_60 0 rfl ?_
  refine gf_X9_12 O rfl dX9_told_61 0 rfl rfl ?_
  refine gf_X9_158 O rfl dX9_told_64 1 rfl rfl ?_
  exact v_ireturn O T rfl rfl (by decide) (by decide) dX9_told_67 (⟨rfl, rfl⟩)
set_option maxRecDepth 100000 in
set_option maxHeartbeats 4000000 in
theorem sp_X9_told_6 {D : G} {o : Nat} {ca : Nat} {im : Nat} {tk : Int32} {txo : Nat} {ba : Nat} {va : Nat} {vc : Nat} {nwk : Nat} {nt : Nat} {ro : Nat} {lo : Nat} {bd : Nat} {ta : Nat} {ck : Nat} {cv : Nat} {chd : Nat} {cr : Nat} {cb : Nat} {c : CS} (hC : cOk c) : Sp D mX9_told 30 0 0 [.ref o, .int 4] [(o, .inr (9, [.ref ca, .ref im, .int tk, .ref txo, .ref ba, .ref va, .int (nI vc), .ref nwk, .ref nt, .ref ro, .ref lo, .ref bd, .ref ta])), (ca, .inr (1, [.int (nI c.men), .ref ck, .ref cv, .ref chd, .int (nI c.heap), .int c.dogs, .int (nI c.wak), .int (nI c.rl), .ref cr, .int (nI c.pg), .ref cb, .int c.held])), (ck, eI D 6 (nF c.kk)), (cv, eI D 6 (nF c.vv)), (chd, eI D 6 c.hd), (cr, eI D 8 (nF c.crf)), (cb, eI D 12 (nF c.bo))] (fun r w => r = some (.int (nI c.wak)) ∧ w = [(o, .inr (9, [.ref ca, .ref im, .int tk, .ref txo, .ref ba, .ref va, .int (nI vc), .ref nwk, .ref nt, .ref ro, .ref lo, .ref bd, .ref ta])), (ca, .inr (1, [.int (nI c.men), .ref ck, .ref cv, .ref chd, .int (nI c.heap), .int c.dogs, .int (nI c.wak), .int (nI c.rl), .ref cr, .int (nI c.pg), .ref cb, .int c.held])), (ck, eI D 6 (nF c.kk)), (cv, eI D 6 (nF c.vv)), (chd, eI D 6 c.hd), (cr, eI D 8 (nF c.crf)), (cb, eI D 12 (nF c.bo))]) := by
  refine Sp.of (by decide) (Nat.le_of_ble_eq_true rfl) (fun X O T => ?_)
  refine v_eq (lv' := [(0, .ref o), (1, .int 4)]) rfl rfl rfl rfl ?_
  have z_m := hC.1
  have z_hp := hC.2.2.2.1
  have z_wk := hC.2.2.2.2.1
  have z_rl := hC.2.2.2.2.2.1
  have z_pg := hC.2.2.2.2.2.2.2.1
  refine v_iload_n O dX9_told_0 1 rfl ?_
  refine v_tsIn (off := 67) O 68 dX9_told_1 (by decide) (by decide) (by decide) (by decide) ?_
  refine v_aload_n O dX9_told_68 0 rfl ?_
  refine gf_X9_12 O rfl dX9_told_69 0 rfl rfl ?_
  refine gf_X9_161 O rfl dX9_told_72 1 rfl rfl ?_
  exact v_ireturn O T rfl rfl (by decide) (by decide) dX9_told_75 (⟨rfl, rfl⟩)
set_option maxRecDepth 100000 in
set_option maxHeartbeats 4000000 in
theorem sp_X9_wake_1 {D : G} {o : Nat} {ca : Nat} {im : Nat} {tk : Int32} {txo : Nat} {ba : Nat} {va : Nat} {vc : Nat} {nwk : Nat} {nt : Nat} {ro : Nat} {lo : Nat} {bd : Nat} {ta : Nat} {ck : Nat} {cv : Nat} {chd : Nat} {cr : Nat} {cb : Nat} {c : CS} {i : Int32} (hC : cOk c) (hi : ¬ isIx i c.men) : Sp D mX9_wake 30 0 0 [.ref o, .int i] [(o, .inr (9, [.ref ca, .ref im, .int tk, .ref txo, .ref ba, .ref va, .int (nI vc), .ref nwk, .ref nt, .ref ro, .ref lo, .ref bd, .ref ta])), (ca, .inr (1, [.int (nI c.men), .ref ck, .ref cv, .ref chd, .int (nI c.heap), .int c.dogs, .int (nI c.wak), .int (nI c.rl), .ref cr, .int (nI c.pg), .ref cb, .int c.held])), (ck, eI D 6 (nF c.kk)), (cv, eI D 6 (nF c.vv)), (chd, eI D 6 c.hd), (cr, eI D 8 (nF c.crf)), (cb, eI D 12 (nF c.bo))] (fun r w => r = some (.int (-1)) ∧ w = [(o, .inr (9, [.ref ca, .ref im, .int tk, .ref txo, .ref ba, .ref va, .int (nI vc), .ref nwk, .ref nt, .ref ro, .ref lo, .ref bd, .ref ta])), (ca, .inr (1, [.int (nI c.men), .ref ck, .ref cv, .ref chd, .int (nI c.heap), .int c.dogs, .int (nI c.wak), .int (nI c.rl), .ref cr, .int (nI c.pg), .ref cb, .int c.held])), (ck, eI D 6 (nF c.kk)), (cv, eI D 6 (nF c.vv)), (chd, eI D 6 c.hd), (cr, eI D 8 (nF c.crf)), (cb, eI D 12 (nF c.bo))]) := by
  refine Sp.of (by decide) (Nat.le_of_ble_eq_true rfl) (fun X O T => ?_)
  refine v_eq (lv' := [(0, .ref o), (1, .int i)]) rfl rfl rfl rfl ?_
  have z_m := hC.1
  have z_hp := hC.2.2.2.1
  have z_wk := hC.2.2.2.2.1
  have z_rl := hC.2.2.2.2.2.1
  have z_pg := hC.2.2.2.2.2.2.2.1
  refine v_aload_n O dX9_wake_0 0 rfl ?_
  refine v_iload_n O dX9_wake_1 1 rfl ?_
  refine v_cV (T := TX9) (ci := 9) (As := [.int i]) (wr := [(ck, eI D 6 (nF c.kk)), (cv, eI D 6 (nF c.vv)), (chd, eI D 6 c.hd), (cr, eI D 8 (nF c.crf)), (cb, eI D 12 (nF c.bo))]) (st := []) O cf_X9_102 rfl (sp_X9_isMan (o := o) (man := i) (ca := ca) (im := im) (it := tk) (tx := txo) (ba := ba) (vs := va) (vc := (nI vc)) (nw := nwk) (nt := nt) (ro := ro) (ln := lo) (bo := bd) (tp := ta) (men := c.men) (ck := ck) (cv := cv) (chd := chd) (heap := (nI c.heap)) (dogs := c.dogs) (wak := (nI c.wak)) (rl := c.rl) (cr := cr) (pg := c.pg) (cb := cb) (held := c.held) (hC.1)) dX9_wake_2 rfl rfl 0 rfl [0, 1] [2, 3, 4, 5, 6] (by decide) rfl rfl (by decide) (by decide) (by decide) (Nat.le_of_ble_eq_true rfl) (by decide) (by decide) (fun r_2 w_3 h_1 => ?_)
  obtain ⟨rfl, rfl⟩ := h_1
  refine v_eq (st' := [.int (b2i (isIx i c.men))]) (ws' := [(ck, eI D 6 (nF c.kk)), (cv, eI D 6 (nF c.vv)), (chd, eI D 6 c.hd), (cr, eI D 8 (nF c.crf)), (cb, eI D 12 (nF c.bo)), (o, .inr (9, [.ref ca, .ref im, .int tk, .ref txo, .ref ba, .ref va, .int (nI vc), .ref nwk, .ref nt, .ref ro, .ref lo, .ref bd, .ref ta])), (ca, .inr (1, [.int (nI c.men), .ref ck, .ref cv, .ref chd, .int (nI c.heap), .int c.dogs, .int (nI c.wak), .int (nI c.rl), .ref cr, .int (nI c.pg), .ref cb, .int c.held]))]) rfl rfl rfl rfl ?_
  refine v_if_ne O 10 dX9_wake_5 (by decide) (fun z1 => ?_) (fun z1 => ?_)
  · skip
    have z1 := b2i_1.mp z1
    exact absurd z1 hi
  · skip
    have z1 := b2i_0.mp z1
    refine v_iconst (v := -1) O dX9_wake_8 (by decide) ?_
    refine v_sub (ws' := [(o, .inr (9, [.ref ca, .ref im, .int tk, .ref txo, .ref ba, .ref va, .int (nI vc), .ref nwk, .ref nt, .ref ro, .ref lo, .ref bd, .ref ta])), (ca, .inr (1, [.int (nI c.men), .ref ck, .ref cv, .ref chd, .int (nI c.heap), .int c.dogs, .int (nI c.wak), .int (nI c.rl), .ref cr, .int (nI c.pg), .ref cb, .int c.held])), (ck, eI D 6 (nF c.kk)), (cv, eI D 6 (nF c.vv)), (chd, eI D 6 c.hd), (cr, eI D 8 (nF c.crf)), (cb, eI D 12 (nF c.bo))]) [5, 6, 0, 1, 2, 3, 4] (by decide) rfl ?_
    exact v_ireturn O T rfl rfl (by decide) (by decide) dX9_wake_9 (⟨rfl, rfl⟩)
set_option maxRecDepth 100000 in
set_option maxHeartbeats 4000000 in
theorem sp_X9_wake_2 {D : G} {o : Nat} {ca : Nat} {im : Nat} {tk : Int32} {txo : Nat} {ba : Nat} {va : Nat} {vc : Nat} {nwk : Nat} {nt : Nat} {ro : Nat} {lo : Nat} {bd : Nat} {ta : Nat} {ck : Nat} {cv : Nat} {chd : Nat} {cr : Nat} {cb : Nat} {c : CS} {i : Nat} (hC : cOk c) (hi : i < c.men) (hw : c.wak = 9999) : Sp D mX9_wake 30 0 0 [.ref o, .int (nI i)] [(o, .inr (9, [.ref ca, .ref im, .int tk, .ref txo, .ref ba, .ref va, .int (nI vc), .ref nwk, .ref nt, .ref ro, .ref lo, .ref bd, .ref ta])), (ca, .inr (1, [.int (nI c.men), .ref ck, .ref cv, .ref chd, .int (nI c.heap), .int c.dogs, .int (nI c.wak), .int (nI c.rl), .ref cr, .int (nI c.pg), .ref cb, .int c.held])), (ck, eI D 6 (nF c.kk)), (cv, eI D 6 (nF c.vv)), (chd, eI D 6 c.hd), (cr, eI D 8 (nF c.crf)), (cb, eI D 12 (nF c.bo))] (fun r w => r = some (.int (-3)) ∧ w = [(o, .inr (9, [.ref ca, .ref im, .int tk, .ref txo, .ref ba, .ref va, .int (nI vc), .ref nwk, .ref nt, .ref ro, .ref lo, .ref bd, .ref ta])), (ca, .inr (1, [.int (nI c.men), .ref ck, .ref cv, .ref chd, .int (nI c.heap), .int c.dogs, .int (nI c.wak), .int (nI c.rl), .ref cr, .int (nI c.pg), .ref cb, .int c.held])), (ck, eI D 6 (nF c.kk)), (cv, eI D 6 (nF c.vv)), (chd, eI D 6 c.hd), (cr, eI D 8 (nF c.crf)), (cb, eI D 12 (nF c.bo))]) := by
  refine Sp.of (by decide) (Nat.le_of_ble_eq_true rfl) (fun X O T => ?_)
  refine v_eq (lv' := [(0, .ref o), (1, .int (nI i))]) rfl rfl rfl rfl ?_
  have z_m := hC.1
  have z_hp := hC.2.2.2.1
  have z_wk := hC.2.2.2.2.1
  have z_rl := hC.2.2.2.2.2.1
  have z_pg := hC.2.2.2.2.2.2.2.1
  refine v_aload_n O dX9_wake_0 0 rfl ?_
  refine v_iload_n O dX9_wake_1 1 rfl ?_
  refine v_cV (T := TX9) (ci := 9) (As := [.int (nI i)]) (wr := [(ck, eI D 6 (nF c.kk)), (cv, eI D 6 (nF c.vv)), (chd, eI D 6 c.hd), (cr, eI D 8 (nF c.crf)), (cb, eI D 12 (nF c.bo))]) (st := []) O cf_X9_102 rfl (sp_X9_isMan (o := o) (man := (nI i)) (ca := ca) (im := im) (it := tk) (tx := txo) (ba := ba) (vs := va) (vc := (nI vc)) (nw := nwk) (nt := nt) (ro := ro) (ln := lo) (bo := bd) (tp := ta) (men := c.men) (ck := ck) (cv := cv) (chd := chd) (heap := (nI c.heap)) (dogs := c.dogs) (wak := (nI c.wak)) (rl := c.rl) (cr := cr) (pg := c.pg) (cb := cb) (held := c.held) (hC.1)) dX9_wake_2 rfl rfl 0 rfl [0, 1] [2, 3, 4, 5, 6] (by decide) rfl rfl (by decide) (by decide) (by decide) (Nat.le_of_ble_eq_true rfl) (by decide) (by decide) (fun r_2 w_3 h_1 => ?_)
  obtain ⟨rfl, rfl⟩ := h_1
  refine v_eq (st' := [.int (b2i (isIx (nI i) c.men))]) (ws' := [(ck, eI D 6 (nF c.kk)), (cv, eI D 6 (nF c.vv)), (chd, eI D 6 c.hd), (cr, eI D 8 (nF c.crf)), (cb, eI D 12 (nF c.bo)), (o, .inr (9, [.ref ca, .ref im, .int tk, .ref txo, .ref ba, .ref va, .int (nI vc), .ref nwk, .ref nt, .ref ro, .ref lo, .ref bd, .ref ta])), (ca, .inr (1, [.int (nI c.men), .ref ck, .ref cv, .ref chd, .int (nI c.heap), .int c.dogs, .int (nI c.wak), .int (nI c.rl), .ref cr, .int (nI c.pg), .ref cb, .int c.held]))]) rfl rfl rfl rfl ?_
  refine v_if_ne O 10 dX9_wake_5 (by decide) (fun z1 => ?_) (fun z1 => ?_)
  · skip
    have z1 := b2i_1.mp z1
    refine v_aload_n O dX9_wake_10 0 rfl ?_
    refine gf_X9_12 O rfl dX9_wake_11 5 rfl rfl ?_
    refine gf_X9_161 O rfl dX9_wake_14 6 rfl rfl ?_
    refine v_sipush (v := 9999) O dX9_wake_17 (by decide) ?_
    refine v_icmp_lt O 26 dX9_wake_20 (by decide) (fun z2 => ?_) (fun z2 => ?_)
    · skip
      have z2 := (c_lt (x := (nI c.wak)) (y := 9999) (a := c.wak) (b := 9999) rfl rfl (by omega) (by omega)).mp z2
      exact absurd z2 (by omega)
    · skip
      have z2 := (not_congr (c_lt (x := (nI c.wak)) (y := 9999) (a := c.wak) (b := 9999) rfl rfl (by omega) (by omega))).mp z2
      refine v_bipush (v := -3) O dX9_wake_23 (by decide) ?_
      refine v_sub (ws' := [(o, .inr (9, [.ref ca, .ref im, .int tk, .ref txo, .ref ba, .ref va, .int (nI vc), .ref nwk, .ref nt, .ref ro, .ref lo, .ref bd, .ref ta])), (ca, .inr (1, [.int (nI c.men), .ref ck, .ref cv, .ref chd, .int (nI c.heap), .int c.dogs, .int (nI c.wak), .int (nI c.rl), .ref cr, .int (nI c.pg), .ref cb, .int c.held])), (ck, eI D 6 (nF c.kk)), (cv, eI D 6 (nF c.vv)), (chd, eI D 6 c.hd), (cr, eI D 8 (nF c.crf)), (cb, eI D 12 (nF c.bo))]) [5, 6, 0, 1, 2, 3, 4] (by decide) rfl ?_
      exact v_ireturn O T rfl rfl (by decide) (by decide) dX9_wake_25 (⟨rfl, rfl⟩)
  · skip
    have z1 := b2i_0.mp z1
    exact absurd ((isIx_nI (by omega) (by omega)).mpr hi) z1
set_option maxRecDepth 100000 in
set_option maxHeartbeats 4000000 in
theorem sp_X9_wake_3 {D : G} {o : Nat} {ca : Nat} {im : Nat} {tk : Int32} {txo : Nat} {ba : Nat} {va : Nat} {vc : Nat} {nt : Nat} {ro : Nat} {lo : Nat} {bd : Nat} {ta : Nat} {ck : Nat} {cv : Nat} {chd : Nat} {cr : Nat} {cb : Nat} {c : CS} {vt : Nat → Option Nat} {vg : Nat} {io : Nat} {am : Nat} {en : Nat} {sp : Nat} {v : VS} {wk : Nat} {kn : Nat} {vl : Nat} {pt : Nat} {fc : Nat} {ovr : Nat} {bkr : Nat} {gz : Int32} {lf : Int32} {dg : Int32} {hd : Int32} {f1 : Nat → Int32} {f2 : Nat → Int32} {f3 : Nat → Int32} {ff : Nat → Int32} {ot : Nat → Nat} {bt : Nat → Nat} {i : Nat} (hC : cOk c) (hv : vAsk v) (hV : (c.held = -1 ∧ vg = ba) ∨ (∃ zh : Nat, zh < 6 ∧ c.held = nI zh ∧ vt zh = some vg)) (hi : i < c.men) (hw : c.wak < 9999) (hn : wakA c v i 0 c.heap = none) : Sp D mX9_wake 30 0 0 [.ref o, .int (nI i)] [(o, .inr (9, [.ref ca, .ref im, .int tk, .ref txo, .ref ba, .ref va, .int (nI vc), .ref wk, .ref nt, .ref ro, .ref lo, .ref bd, .ref ta])), (ca, .inr (1, [.int (nI c.men), .ref ck, .ref cv, .ref chd, .int (nI c.heap), .int c.dogs, .int (nI c.wak), .int (nI c.rl), .ref cr, .int (nI c.pg), .ref cb, .int c.held])), (ck, eI D 6 (nF c.kk)), (cv, eI D 6 (nF c.vv)), (chd, eI D 6 c.hd), (cr, eI D 8 (nF c.crf)), (cb, eI D 12 (nF c.bo)), (va, eV D 6 vt), (vg, .inr (6, [.int (nI v.sh), .int (nI v.mo), .int (nI v.ov), .int (nI v.nr), .ref io, .ref am, .ref en, .int (nI v.nl), .ref sp])), (io, eZ D 10 v.fo), (am, eI D 10 v.fa), (en, eI D 10 v.fe), (sp, eI D 100 v.fs), (wk, .inr (8, [.ref kn, .ref vl, .ref pt, .int gz, .ref fc, .ref ovr, .ref bkr, .int lf, .int dg, .int hd])), (kn, eI D 6 f1), (vl, eI D 6 f2), (pt, eI D 6 f3), (fc, eI D 5 ff), (ovr, eI D 480 (nF ot)), (bkr, eI D 480 (nF bt))] (fun r w => ∃ gz1 : Int32, ∃ l2 : Int32, ∃ g2 : Int32, ∃ d2 : Int32, ∃ f11 : Nat → Int32, ∃ f21 : Nat → Int32, ∃ f31 : Nat → Int32, ∃ ff1 : Nat → Int32, ∃ ot1 : Nat → Nat, ∃ bt1 : Nat → Nat, r = some (.int (-3)) ∧ w = [(o, .inr (9, [.ref ca, .ref im, .int tk, .ref txo, .ref ba, .ref va, .int (nI vc), .ref wk, .ref nt, .ref ro, .ref lo, .ref bd, .ref ta])), (ca, .inr (1, [.int (nI c.men), .ref ck, .ref cv, .ref chd, .int (nI c.heap), .int c.dogs, .int (nI c.wak), .int (nI c.rl), .ref cr, .int (nI c.pg), .ref cb, .int c.held])), (ck, eI D 6 (nF c.kk)), (cv, eI D 6 (nF c.vv)), (chd, eI D 6 c.hd), (cr, eI D 8 (nF c.crf)), (cb, eI D 12 (nF c.bo)), (va, eV D 6 vt), (vg, .inr (6, [.int (nI v.sh), .int (nI v.mo), .int (nI v.ov), .int (nI v.nr), .ref io, .ref am, .ref en, .int (nI v.nl), .ref sp])), (io, eZ D 10 v.fo), (am, eI D 10 v.fa), (en, eI D 10 v.fe), (sp, eI D 100 v.fs), (wk, .inr (8, [.ref kn, .ref vl, .ref pt, .int gz1, .ref fc, .ref ovr, .ref bkr, .int l2, .int g2, .int d2])), (kn, eI D 6 f11), (vl, eI D 6 f21), (pt, eI D 6 f31), (fc, eI D 5 ff1), (ovr, eI D 480 (nF ot1)), (bkr, eI D 480 (nF bt1))]) := by
  refine Sp.of (by decide) (Nat.le_of_ble_eq_true rfl) (fun X O T => ?_)
  refine v_eq (lv' := [(0, .ref o), (1, .int (nI i))]) rfl rfl rfl rfl ?_
  have z_m := hC.1
  have z_hp := hC.2.2.2.1
  have z_wk := hC.2.2.2.2.1
  have z_rl := hC.2.2.2.2.2.1
  have z_pg := hC.2.2.2.2.2.2.2.1
  refine v_aload_n O dX9_wake_0 0 rfl ?_
  refine v_iload_n O dX9_wake_1 1 rfl ?_
  refine v_cV (T := TX9) (ci := 9) (As := [.int (nI i)]) (wr := [(ck, eI D 6 (nF c.kk)), (cv, eI D 6 (nF c.vv)), (chd, eI D 6 c.hd), (cr, eI D 8 (nF c.crf)), (cb, eI D 12 (nF c.bo)), (va, eV D 6 vt), (vg, .inr (6, [.int (nI v.sh), .int (nI v.mo), .int (nI v.ov), .int (nI v.nr), .ref io, .ref am, .ref en, .int (nI v.nl), .ref sp])), (io, eZ D 10 v.fo), (am, eI D 10 v.fa), (en, eI D 10 v.fe), (sp, eI D 100 v.fs), (wk, .inr (8, [.ref kn, .ref vl, .ref pt, .int gz, .ref fc, .ref ovr, .ref bkr, .int lf, .int dg, .int hd])), (kn, eI D 6 f1), (vl, eI D 6 f2), (pt, eI D 6 f3), (fc, eI D 5 ff), (ovr, eI D 480 (nF ot)), (bkr, eI D 480 (nF bt))]) (st := []) O cf_X9_102 rfl (sp_X9_isMan (o := o) (man := (nI i)) (ca := ca) (im := im) (it := tk) (tx := txo) (ba := ba) (vs := va) (vc := (nI vc)) (nw := wk) (nt := nt) (ro := ro) (ln := lo) (bo := bd) (tp := ta) (men := c.men) (ck := ck) (cv := cv) (chd := chd) (heap := (nI c.heap)) (dogs := c.dogs) (wak := (nI c.wak)) (rl := c.rl) (cr := cr) (pg := c.pg) (cb := cb) (held := c.held) (hC.1)) dX9_wake_2 rfl rfl 0 rfl [0, 1] [2, 3, 4, 5, 6, 7, 8, 9, 10, 11, 12, 13, 14, 15, 16, 17, 18, 19] (by decide) rfl rfl (by decide) (by decide) (by decide) (Nat.le_of_ble_eq_true rfl) (by decide) (by decide) (fun r_2 w_3 h_1 => ?_)
  obtain ⟨rfl, rfl⟩ := h_1
  refine v_eq (st' := [.int (b2i (isIx (nI i) c.men))]) (ws' := [(ck, eI D 6 (nF c.kk)), (cv, eI D 6 (nF c.vv)), (chd, eI D 6 c.hd), (cr, eI D 8 (nF c.crf)), (cb, eI D 12 (nF c.bo)), (va, eV D 6 vt), (vg, .inr (6, [.int (nI v.sh), .int (nI v.mo), .int (nI v.ov), .int (nI v.nr), .ref io, .ref am, .ref en, .int (nI v.nl), .ref sp])), (io, eZ D 10 v.fo), (am, eI D 10 v.fa), (en, eI D 10 v.fe), (sp, eI D 100 v.fs), (wk, .inr (8, [.ref kn, .ref vl, .ref pt, .int gz, .ref fc, .ref ovr, .ref bkr, .int lf, .int dg, .int hd])), (kn, eI D 6 f1), (vl, eI D 6 f2), (pt, eI D 6 f3), (fc, eI D 5 ff), (ovr, eI D 480 (nF ot)), (bkr, eI D 480 (nF bt)), (o, .inr (9, [.ref ca, .ref im, .int tk, .ref txo, .ref ba, .ref va, .int (nI vc), .ref wk, .ref nt, .ref ro, .ref lo, .ref bd, .ref ta])), (ca, .inr (1, [.int (nI c.men), .ref ck, .ref cv, .ref chd, .int (nI c.heap), .int c.dogs, .int (nI c.wak), .int (nI c.rl), .ref cr, .int (nI c.pg), .ref cb, .int c.held]))]) rfl rfl rfl rfl ?_
  refine v_if_ne O 10 dX9_wake_5 (by decide) (fun z1 => ?_) (fun z1 => ?_)
  · skip
    have z1 := b2i_1.mp z1
    refine v_aload_n O dX9_wake_10 0 rfl ?_
    refine gf_X9_12 O rfl dX9_wake_11 18 rfl rfl ?_
    refine gf_X9_161 O rfl dX9_wake_14 19 rfl rfl ?_
    refine v_sipush (v := 9999) O dX9_wake_17 (by decide) ?_
    refine v_icmp_lt O 26 dX9_wake_20 (by decide) (fun z2 => ?_) (fun z2 => ?_)
    · skip
      have z2 := (c_lt (x := (nI c.wak)) (y := 9999) (a := c.wak) (b := 9999) rfl rfl (by omega) (by omega)).mp z2
      refine v_aload_n O dX9_wake_26 0 rfl ?_
      refine v_iload_n O dX9_wake_27 1 rfl ?_
      refine v_cV (T := TX9) (ci := 9) (As := [.int (nI i)]) (wr := []) (st := []) O cf_X9_106 rfl (sp_X9_readyWaking (o := o) (ca := ca) (im := im) (tk := tk) (txo := txo) (ba := ba) (va := va) (vc := vc) (nt := nt) (ro := ro) (lo := lo) (bd := bd) (ta := ta) (ck := ck) (cv := cv) (chd := chd) (cr := cr) (cb := cb) (c := c) (vt := vt) (vg := vg) (io := io) (am := am) (en := en) (sp := sp) (v := v) (wk := wk) (kn := kn) (vl := vl) (pt := pt) (fc := fc) (ovr := ovr) (bkr := bkr) (gz := gz) (lf := lf) (dg := dg) (hd := hd) (f1 := f1) (f2 := f2) (f3 := f3) (ff := ff) (ot := ot) (bt := bt) (m := i) (hV) (hC) (hv) (by omega)) dX9_wake_28 rfl rfl 18 rfl [18, 19, 0, 1, 2, 3, 4, 5, 6, 7, 8, 9, 10, 11, 12, 13, 14, 15, 16, 17] [] (by decide) rfl rfl (by decide) (by decide) (by decide) (Nat.le_of_ble_eq_true rfl) (by decide) (by decide) (fun r_5 w_6 h_4 => ?_)
      obtain ⟨ff2_7, ot2_8, bt2_9, rfl, rfl, h_o, h_b⟩ := h_4
      refine v_eq (st' := [.ref wk]) (ws' := [(o, .inr (9, [.ref ca, .ref im, .int tk, .ref txo, .ref ba, .ref va, .int (nI vc), .ref wk, .ref nt, .ref ro, .ref lo, .ref bd, .ref ta])), (ca, .inr (1, [.int (nI c.men), .ref ck, .ref cv, .ref chd, .int (nI c.heap), .int c.dogs, .int (nI c.wak), .int (nI c.rl), .ref cr, .int (nI c.pg), .ref cb, .int c.held])), (ck, eI D 6 (nF c.kk)), (cv, eI D 6 (nF c.vv)), (chd, eI D 6 c.hd), (cr, eI D 8 (nF c.crf)), (cb, eI D 12 (nF c.bo)), (va, eV D 6 vt), (vg, .inr (6, [.int (nI v.sh), .int (nI v.mo), .int (nI v.ov), .int (nI v.nr), .ref io, .ref am, .ref en, .int (nI v.nl), .ref sp])), (io, eZ D 10 v.fo), (am, eI D 10 v.fa), (en, eI D 10 v.fe), (sp, eI D 100 v.fs), (wk, .inr (8, [.ref kn, .ref vl, .ref pt, .int (nI c.wak), .ref fc, .ref ovr, .ref bkr, .int lf, .int dg, .int hd])), (kn, eI D 6 (nF c.kk)), (vl, eI D 6 (nF c.vv)), (pt, eI D 6 (nF (ppA c v))), (fc, eI D 5 ff2_7), (ovr, eI D 480 (nF ot2_8)), (bkr, eI D 480 (nF bt2_9))]) rfl rfl rfl rfl ?_
      have z_e : wakeN (c.kk i) (ppA c v i) (fun zd => ot2_8 (slotN i 0 zd)) (fun zd => bt2_9 (slotN i 0 zd)) c.heap = wakA c v i 0 c.heap := wakeN_cg h_o h_b
      refine v_astore_n (lv' := [(0, .ref o), (1, .int (nI i)), (2, .ref wk)]) O dX9_wake_31 (by decide) rfl ?_
      refine v_aload_n O dX9_wake_32 2 rfl ?_
      refine v_iload_n O dX9_wake_33 1 rfl ?_
      refine v_iconst (v := 0) O dX9_wake_34 (by decide) ?_
      refine v_aload_n O dX9_wake_35 0 rfl ?_
      refine gf_X9_12 O rfl dX9_wake_36 0 rfl rfl ?_
      refine gf_X9_114 O rfl dX9_wake_39 1 rfl rfl ?_
      refine v_cV (T := TX8) (ci := 8) (As := [.int (nI i), .int 0, .int (nI c.heap)]) (wr := [(o, .inr (9, [.ref ca, .ref im, .int tk, .ref txo, .ref ba, .ref va, .int (nI vc), .ref wk, .ref nt, .ref ro, .ref lo, .ref bd, .ref ta])), (ca, .inr (1, [.int (nI c.men), .ref ck, .ref cv, .ref chd, .int (nI c.heap), .int c.dogs, .int (nI c.wak), .int (nI c.rl), .ref cr, .int (nI c.pg), .ref cb, .int c.held])), (ck, eI D 6 (nF c.kk)), (cv, eI D 6 (nF c.vv)), (chd, eI D 6 c.hd), (cr, eI D 8 (nF c.crf)), (cb, eI D 12 (nF c.bo)), (va, eV D 6 vt), (vg, .inr (6, [.int (nI v.sh), .int (nI v.mo), .int (nI v.ov), .int (nI v.nr), .ref io, .ref am, .ref en, .int (nI v.nl), .ref sp])), (io, eZ D 10 v.fo), (am, eI D 10 v.fa), (en, eI D 10 v.fe), (sp, eI D 100 v.fs), (vl, eI D 6 (nF c.vv)), (fc, eI D 5 ff2_7)]) (st := []) O cf_X9_124 rfl (sp_X8_comesOut (wk := wk) (kn := kn) (vl := vl) (pt := pt) (gone := c.wak) (fc := fc) (ovr := ovr) (bkr := bkr) (lf := lf) (dg := dg) (hd := hd) (kk := c.kk) (pp := (ppA c v)) (ov := ot2_8) (bk := bt2_9) (m := i) (s := 0) (h := c.heap) (by omega) (by decide) (by omega) (hC.2.1 i (by omega)) (partsN_ge hv.2.2.1) (partsN_le hv.2.2.2.1 (hC.2.2.1 i (by omega))) (fun d hd => by rw [h_o d hd]; exact ovA_lt hv) (fun d hd => by rw [h_b d hd]; exact bkA_lt hv)) dX9_wake_42 rfl rfl 13 rfl [13, 14, 16, 18, 19] [0, 1, 2, 3, 4, 5, 6, 7, 8, 9, 10, 11, 12, 15, 17] (by decide) rfl rfl (by decide) (by decide) (by decide) (Nat.le_of_ble_eq_true rfl) (by decide) (by decide) (fun r_11 w_12 h_10 => ?_)
      obtain ⟨rfl, rfl⟩ := h_10
      refine v_eq (st' := [.int (b2i (¬ wakeN (c.kk i) ((ppA c v) i) (fun zd => ot2_8 (slotN i 0 zd)) (fun zd => bt2_9 (slotN i 0 zd)) c.heap = none))]) (ws' := [(o, .inr (9, [.ref ca, .ref im, .int tk, .ref txo, .ref ba, .ref va, .int (nI vc), .ref wk, .ref nt, .ref ro, .ref lo, .ref bd, .ref ta])), (ca, .inr (1, [.int (nI c.men), .ref ck, .ref cv, .ref chd, .int (nI c.heap), .int c.dogs, .int (nI c.wak), .int (nI c.rl), .ref cr, .int (nI c.pg), .ref cb, .int c.held])), (ck, eI D 6 (nF c.kk)), (cv, eI D 6 (nF c.vv)), (chd, eI D 6 c.hd), (cr, eI D 8 (nF c.crf)), (cb, eI D 12 (nF c.bo)), (va, eV D 6 vt), (vg, .inr (6, [.int (nI v.sh), .int (nI v.mo), .int (nI v.ov), .int (nI v.nr), .ref io, .ref am, .ref en, .int (nI v.nl), .ref sp])), (io, eZ D 10 v.fo), (am, eI D 10 v.fa), (en, eI D 10 v.fe), (sp, eI D 100 v.fs), (vl, eI D 6 (nF c.vv)), (fc, eI D 5 ff2_7), (wk, .inr (8, [.ref kn, .ref vl, .ref pt, .int (nI c.wak), .ref fc, .ref ovr, .ref bkr, .int (nI (oL (wakeN (c.kk i) ((ppA c v) i) (fun zd => ot2_8 (slotN i 0 zd)) (fun zd => bt2_9 (slotN i 0 zd)) c.heap) c.heap)), .int (nI (oG (wakeN (c.kk i) ((ppA c v) i) (fun zd => ot2_8 (slotN i 0 zd)) (fun zd => bt2_9 (slotN i 0 zd)) c.heap) 0)), .int (nI (oD (wakeN (c.kk i) ((ppA c v) i) (fun zd => ot2_8 (slotN i 0 zd)) (fun zd => bt2_9 (slotN i 0 zd)) c.heap) 0))])), (kn, eI D 6 (nF c.kk)), (pt, eI D 6 (nF (ppA c v))), (ovr, eI D 480 (nF ot2_8)), (bkr, eI D 480 (nF bt2_9))]) rfl rfl rfl rfl ?_
      refine v_if_ne O 51 dX9_wake_45 (by decide) (fun z3 => ?_) (fun z3 => ?_)
      · skip
        have z3 := b2i_1.mp z3
        exact absurd (z_e.trans hn) z3
      · skip
        have z3 := b2i_0.mp z3
        refine v_bipush (v := -3) O dX9_wake_48 (by decide) ?_
        refine v_sub (ws' := [(o, .inr (9, [.ref ca, .ref im, .int tk, .ref txo, .ref ba, .ref va, .int (nI vc), .ref wk, .ref nt, .ref ro, .ref lo, .ref bd, .ref ta])), (ca, .inr (1, [.int (nI c.men), .ref ck, .ref cv, .ref chd, .int (nI c.heap), .int c.dogs, .int (nI c.wak), .int (nI c.rl), .ref cr, .int (nI c.pg), .ref cb, .int c.held])), (ck, eI D 6 (nF c.kk)), (cv, eI D 6 (nF c.vv)), (chd, eI D 6 c.hd), (cr, eI D 8 (nF c.crf)), (cb, eI D 12 (nF c.bo)), (va, eV D 6 vt), (vg, .inr (6, [.int (nI v.sh), .int (nI v.mo), .int (nI v.ov), .int (nI v.nr), .ref io, .ref am, .ref en, .int (nI v.nl), .ref sp])), (io, eZ D 10 v.fo), (am, eI D 10 v.fa), (en, eI D 10 v.fe), (sp, eI D 100 v.fs), (wk, .inr (8, [.ref kn, .ref vl, .ref pt, .int (nI c.wak), .ref fc, .ref ovr, .ref bkr, .int (nI (oL (wakeN (c.kk i) ((ppA c v) i) (fun zd => ot2_8 (slotN i 0 zd)) (fun zd => bt2_9 (slotN i 0 zd)) c.heap) c.heap)), .int (nI (oG (wakeN (c.kk i) ((ppA c v) i) (fun zd => ot2_8 (slotN i 0 zd)) (fun zd => bt2_9 (slotN i 0 zd)) c.heap) 0)), .int (nI (oD (wakeN (c.kk i) ((ppA c v) i) (fun zd => ot2_8 (slotN i 0 zd)) (fun zd => bt2_9 (slotN i 0 zd)) c.heap) 0))])), (kn, eI D 6 (nF c.kk)), (vl, eI D 6 (nF c.vv)), (pt, eI D 6 (nF (ppA c v))), (fc, eI D 5 ff2_7), (ovr, eI D 480 (nF ot2_8)), (bkr, eI D 480 (nF bt2_9))]) [0, 1, 2, 3, 4, 5, 6, 7, 8, 9, 10, 11, 12, 15, 16, 13, 17, 14, 18, 19] (by decide) rfl ?_
        exact v_ireturn O T rfl rfl (by decide) (by decide) dX9_wake_50 (⟨_, _, _, _, _, _, _, _, _, _, rfl, rfl⟩)
    · skip
      have z2 := (not_congr (c_lt (x := (nI c.wak)) (y := 9999) (a := c.wak) (b := 9999) rfl rfl (by omega) (by omega))).mp z2
      exact absurd z2 (by omega)
  · skip
    have z1 := b2i_0.mp z1
    exact absurd ((isIx_nI (by omega) (by omega)).mpr hi) z1
set_option maxRecDepth 100000 in
set_option maxHeartbeats 4000000 in
theorem sp_X9_wake_4 {D : G} {o : Nat} {ca : Nat} {im : Nat} {tk : Int32} {txo : Nat} {ba : Nat} {va : Nat} {vc : Nat} {nt : Nat} {ro : Nat} {lo : Nat} {bd : Nat} {ta : Nat} {ck : Nat} {cv : Nat} {chd : Nat} {cr : Nat} {cb : Nat} {c : CS} {vt : Nat → Option Nat} {vg : Nat} {io : Nat} {am : Nat} {en : Nat} {sp : Nat} {v : VS} {wk : Nat} {kn : Nat} {vl : Nat} {pt : Nat} {fc : Nat} {ovr : Nat} {bkr : Nat} {gz : Int32} {lf : Int32} {dg : Int32} {hd : Int32} {f1 : Nat → Int32} {f2 : Nat → Int32} {f3 : Nat → Int32} {ff : Nat → Int32} {ot : Nat → Nat} {bt : Nat → Nat} {i : Nat} (hC : cOk c) (hv : vAsk v) (hV : (c.held = -1 ∧ vg = ba) ∨ (∃ zh : Nat, zh < 6 ∧ c.held = nI zh ∧ vt zh = some vg)) (hi : i < c.men) (hw : c.wak < 9999) (hn : ¬ wakA c v i 0 c.heap = none) : Sp D mX9_wake 30 0 0 [.ref o, .int (nI i)] [(o, .inr (9, [.ref ca, .ref im, .int tk, .ref txo, .ref ba, .ref va, .int (nI vc), .ref wk, .ref nt, .ref ro, .ref lo, .ref bd, .ref ta])), (ca, .inr (1, [.int (nI c.men), .ref ck, .ref cv, .ref chd, .int (nI c.heap), .int c.dogs, .int (nI c.wak), .int (nI c.rl), .ref cr, .int (nI c.pg), .ref cb, .int c.held])), (ck, eI D 6 (nF c.kk)), (cv, eI D 6 (nF c.vv)), (chd, eI D 6 c.hd), (cr, eI D 8 (nF c.crf)), (cb, eI D 12 (nF c.bo)), (va, eV D 6 vt), (vg, .inr (6, [.int (nI v.sh), .int (nI v.mo), .int (nI v.ov), .int (nI v.nr), .ref io, .ref am, .ref en, .int (nI v.nl), .ref sp])), (io, eZ D 10 v.fo), (am, eI D 10 v.fa), (en, eI D 10 v.fe), (sp, eI D 100 v.fs), (wk, .inr (8, [.ref kn, .ref vl, .ref pt, .int gz, .ref fc, .ref ovr, .ref bkr, .int lf, .int dg, .int hd])), (kn, eI D 6 f1), (vl, eI D 6 f2), (pt, eI D 6 f3), (fc, eI D 5 ff), (ovr, eI D 480 (nF ot)), (bkr, eI D 480 (nF bt))] (fun r w => ∃ gz1 : Int32, ∃ l2 : Int32, ∃ g2 : Int32, ∃ d2 : Int32, ∃ f11 : Nat → Int32, ∃ f21 : Nat → Int32, ∃ f31 : Nat → Int32, ∃ ff1 : Nat → Int32, ∃ ot1 : Nat → Nat, ∃ bt1 : Nat → Nat, r = some (.int (nI (oD (wakA c v i 0 c.heap) 0))) ∧ w = [(o, .inr (9, [.ref ca, .ref im, .int tk, .ref txo, .ref ba, .ref va, .int (nI vc), .ref wk, .ref nt, .ref ro, .ref lo, .ref bd, .ref ta])), (ca, .inr (1, [.int (nI ((cWake c i (wakA c v i 0 c.heap)).men)), .ref ck, .ref cv, .ref chd, .int (nI ((cWake c i (wakA c v i 0 c.heap)).heap)), .int ((cWake c i (wakA c v i 0 c.heap)).dogs), .int (nI ((cWake c i (wakA c v i 0 c.heap)).wak)), .int (nI ((cWake c i (wakA c v i 0 c.heap)).rl)), .ref cr, .int (nI ((cWake c i (wakA c v i 0 c.heap)).pg)), .ref cb, .int ((cWake c i (wakA c v i 0 c.heap)).held)])), (ck, eI D 6 (nF (cWake c i (wakA c v i 0 c.heap)).kk)), (cv, eI D 6 (nF (cWake c i (wakA c v i 0 c.heap)).vv)), (chd, eI D 6 ((cWake c i (wakA c v i 0 c.heap)).hd)), (cr, eI D 8 (nF (cWake c i (wakA c v i 0 c.heap)).crf)), (cb, eI D 12 (nF (cWake c i (wakA c v i 0 c.heap)).bo)), (va, eV D 6 vt), (vg, .inr (6, [.int (nI v.sh), .int (nI v.mo), .int (nI v.ov), .int (nI v.nr), .ref io, .ref am, .ref en, .int (nI v.nl), .ref sp])), (io, eZ D 10 v.fo), (am, eI D 10 v.fa), (en, eI D 10 v.fe), (sp, eI D 100 v.fs), (wk, .inr (8, [.ref kn, .ref vl, .ref pt, .int gz1, .ref fc, .ref ovr, .ref bkr, .int l2, .int g2, .int d2])), (kn, eI D 6 f11), (vl, eI D 6 f21), (pt, eI D 6 f31), (fc, eI D 5 ff1), (ovr, eI D 480 (nF ot1)), (bkr, eI D 480 (nF bt1))]) := by
  refine Sp.of (by decide) (Nat.le_of_ble_eq_true rfl) (fun X O T => ?_)
  refine v_eq (lv' := [(0, .ref o), (1, .int (nI i))]) rfl rfl rfl rfl ?_
  have z_m := hC.1
  have z_hp := hC.2.2.2.1
  have z_wk := hC.2.2.2.2.1
  have z_rl := hC.2.2.2.2.2.1
  have z_pg := hC.2.2.2.2.2.2.2.1
  refine v_aload_n O dX9_wake_0 0 rfl ?_
  refine v_iload_n O dX9_wake_1 1 rfl ?_
  refine v_cV (T := TX9) (ci := 9) (As := [.int (nI i)]) (wr := [(ck, eI D 6 (nF c.kk)), (cv, eI D 6 (nF c.vv)), (chd, eI D 6 c.hd), (cr, eI D 8 (nF c.crf)), (cb, eI D 12 (nF c.bo)), (va, eV D 6 vt), (vg, .inr (6, [.int (nI v.sh), .int (nI v.mo), .int (nI v.ov), .int (nI v.nr), .ref io, .ref am, .ref en, .int (nI v.nl), .ref sp])), (io, eZ D 10 v.fo), (am, eI D 10 v.fa), (en, eI D 10 v.fe), (sp, eI D 100 v.fs), (wk, .inr (8, [.ref kn, .ref vl, .ref pt, .int gz, .ref fc, .ref ovr, .ref bkr, .int lf, .int dg, .int hd])), (kn, eI D 6 f1), (vl, eI D 6 f2), (pt, eI D 6 f3), (fc, eI D 5 ff), (ovr, eI D 480 (nF ot)), (bkr, eI D 480 (nF bt))]) (st := []) O cf_X9_102 rfl (sp_X9_isMan (o := o) (man := (nI i)) (ca := ca) (im := im) (it := tk) (tx := txo) (ba := ba) (vs := va) (vc := (nI vc)) (nw := wk) (nt := nt) (ro := ro) (ln := lo) (bo := bd) (tp := ta) (men := c.men) (ck := ck) (cv := cv) (chd := chd) (heap := (nI c.heap)) (dogs := c.dogs) (wak := (nI c.wak)) (rl := c.rl) (cr := cr) (pg := c.pg) (cb := cb) (held := c.held) (hC.1)) dX9_wake_2 rfl rfl 0 rfl [0, 1] [2, 3, 4, 5, 6, 7, 8, 9, 10, 11, 12, 13, 14, 15, 16, 17, 18, 19] (by decide) rfl rfl (by decide) (by decide) (by decide) (Nat.le_of_ble_eq_true rfl) (by decide) (by decide) (fun r_2 w_3 h_1 => ?_)
  obtain ⟨rfl, rfl⟩ := h_1
  refine v_eq (st' := [.int (b2i (isIx (nI i) c.men))]) (ws' := [(ck, eI D 6 (nF c.kk)), (cv, eI D 6 (nF c.vv)), (chd, eI D 6 c.hd), (cr, eI D 8 (nF c.crf)), (cb, eI D 12 (nF c.bo)), (va, eV D 6 vt), (vg, .inr (6, [.int (nI v.sh), .int (nI v.mo), .int (nI v.ov), .int (nI v.nr), .ref io, .ref am, .ref en, .int (nI v.nl), .ref sp])), (io, eZ D 10 v.fo), (am, eI D 10 v.fa), (en, eI D 10 v.fe), (sp, eI D 100 v.fs), (wk, .inr (8, [.ref kn, .ref vl, .ref pt, .int gz, .ref fc, .ref ovr, .ref bkr, .int lf, .int dg, .int hd])), (kn, eI D 6 f1), (vl, eI D 6 f2), (pt, eI D 6 f3), (fc, eI D 5 ff), (ovr, eI D 480 (nF ot)), (bkr, eI D 480 (nF bt)), (o, .inr (9, [.ref ca, .ref im, .int tk, .ref txo, .ref ba, .ref va, .int (nI vc), .ref wk, .ref nt, .ref ro, .ref lo, .ref bd, .ref ta])), (ca, .inr (1, [.int (nI c.men), .ref ck, .ref cv, .ref chd, .int (nI c.heap), .int c.dogs, .int (nI c.wak), .int (nI c.rl), .ref cr, .int (nI c.pg), .ref cb, .int c.held]))]) rfl rfl rfl rfl ?_
  refine v_if_ne O 10 dX9_wake_5 (by decide) (fun z1 => ?_) (fun z1 => ?_)
  · skip
    have z1 := b2i_1.mp z1
    refine v_aload_n O dX9_wake_10 0 rfl ?_
    refine gf_X9_12 O rfl dX9_wake_11 18 rfl rfl ?_
    refine gf_X9_161 O rfl dX9_wake_14 19 rfl rfl ?_
    refine v_sipush (v := 9999) O dX9_wake_17 (by decide) ?_
    refine v_icmp_lt O 26 dX9_wake_20 (by decide) (fun z2 => ?_) (fun z2 => ?_)
    · skip
      have z2 := (c_lt (x := (nI c.wak)) (y := 9999) (a := c.wak) (b := 9999) rfl rfl (by omega) (by omega)).mp z2
      refine v_aload_n O dX9_wake_26 0 rfl ?_
      refine v_iload_n O dX9_wake_27 1 rfl ?_
      refine v_cV (T := TX9) (ci := 9) (As := [.int (nI i)]) (wr := []) (st := []) O cf_X9_106 rfl (sp_X9_readyWaking (o := o) (ca := ca) (im := im) (tk := tk) (txo := txo) (ba := ba) (va := va) (vc := vc) (nt := nt) (ro := ro) (lo := lo) (bd := bd) (ta := ta) (ck := ck) (cv := cv) (chd := chd) (cr := cr) (cb := cb) (c := c) (vt := vt) (vg := vg) (io := io) (am := am) (en := en) (sp := sp) (v := v) (wk := wk) (kn := kn) (vl := vl) (pt := pt) (fc := fc) (ovr := ovr) (bkr := bkr) (gz := gz) (lf := lf) (dg := dg) (hd := hd) (f1 := f1) (f2 := f2) (f3 := f3) (ff := ff) (ot := ot) (bt := bt) (m := i) (hV) (hC) (hv) (by omega)) dX9_wake_28 rfl rfl 18 rfl [18, 19, 0, 1, 2, 3, 4, 5, 6, 7, 8, 9, 10, 11, 12, 13, 14, 15, 16, 17] [] (by decide) rfl rfl (by decide) (by decide) (by decide) (Nat.le_of_ble_eq_true rfl) (by decide) (by decide) (fun r_5 w_6 h_4 => ?_)
      obtain ⟨ff2_7, ot2_8, bt2_9, rfl, rfl, h_o, h_b⟩ := h_4
      refine v_eq (st' := [.ref wk]) (ws' := [(o, .inr (9, [.ref ca, .ref im, .int tk, .ref txo, .ref ba, .ref va, .int (nI vc), .ref wk, .ref nt, .ref ro, .ref lo, .ref bd, .ref ta])), (ca, .inr (1, [.int (nI c.men), .ref ck, .ref cv, .ref chd, .int (nI c.heap), .int c.dogs, .int (nI c.wak), .int (nI c.rl), .ref cr, .int (nI c.pg), .ref cb, .int c.held])), (ck, eI D 6 (nF c.kk)), (cv, eI D 6 (nF c.vv)), (chd, eI D 6 c.hd), (cr, eI D 8 (nF c.crf)), (cb, eI D 12 (nF c.bo)), (va, eV D 6 vt), (vg, .inr (6, [.int (nI v.sh), .int (nI v.mo), .int (nI v.ov), .int (nI v.nr), .ref io, .ref am, .ref en, .int (nI v.nl), .ref sp])), (io, eZ D 10 v.fo), (am, eI D 10 v.fa), (en, eI D 10 v.fe), (sp, eI D 100 v.fs), (wk, .inr (8, [.ref kn, .ref vl, .ref pt, .int (nI c.wak), .ref fc, .ref ovr, .ref bkr, .int lf, .int dg, .int hd])), (kn, eI D 6 (nF c.kk)), (vl, eI D 6 (nF c.vv)), (pt, eI D 6 (nF (ppA c v))), (fc, eI D 5 ff2_7), (ovr, eI D 480 (nF ot2_8)), (bkr, eI D 480 (nF bt2_9))]) rfl rfl rfl rfl ?_
      have z_e : wakeN (c.kk i) (ppA c v i) (fun zd => ot2_8 (slotN i 0 zd)) (fun zd => bt2_9 (slotN i 0 zd)) c.heap = wakA c v i 0 c.heap := wakeN_cg h_o h_b
      refine v_astore_n (lv' := [(0, .ref o), (1, .int (nI i)), (2, .ref wk)]) O dX9_wake_31 (by decide) rfl ?_
      refine v_aload_n O dX9_wake_32 2 rfl ?_
      refine v_iload_n O dX9_wake_33 1 rfl ?_
      refine v_iconst (v := 0) O dX9_wake_34 (by decide) ?_
      refine v_aload_n O dX9_wake_35 0 rfl ?_
      refine gf_X9_12 O rfl dX9_wake_36 0 rfl rfl ?_
      refine gf_X9_114 O rfl dX9_wake_39 1 rfl rfl ?_
      refine v_cV (T := TX8) (ci := 8) (As := [.int (nI i), .int 0, .int (nI c.heap)]) (wr := [(o, .inr (9, [.ref ca, .ref im, .int tk, .ref txo, .ref ba, .ref va, .int (nI vc), .ref wk, .ref nt, .ref ro, .ref lo, .ref bd, .ref ta])), (ca, .inr (1, [.int (nI c.men), .ref ck, .ref cv, .ref chd, .int (nI c.heap), .int c.dogs, .int (nI c.wak), .int (nI c.rl), .ref cr, .int (nI c.pg), .ref cb, .int c.held])), (ck, eI D 6 (nF c.kk)), (cv, eI D 6 (nF c.vv)), (chd, eI D 6 c.hd), (cr, eI D 8 (nF c.crf)), (cb, eI D 12 (nF c.bo)), (va, eV D 6 vt), (vg, .inr (6, [.int (nI v.sh), .int (nI v.mo), .int (nI v.ov), .int (nI v.nr), .ref io, .ref am, .ref en, .int (nI v.nl), .ref sp])), (io, eZ D 10 v.fo), (am, eI D 10 v.fa), (en, eI D 10 v.fe), (sp, eI D 100 v.fs), (vl, eI D 6 (nF c.vv)), (fc, eI D 5 ff2_7)]) (st := []) O cf_X9_124 rfl (sp_X8_comesOut (wk := wk) (kn := kn) (vl := vl) (pt := pt) (gone := c.wak) (fc := fc) (ovr := ovr) (bkr := bkr) (lf := lf) (dg := dg) (hd := hd) (kk := c.kk) (pp := (ppA c v)) (ov := ot2_8) (bk := bt2_9) (m := i) (s := 0) (h := c.heap) (by omega) (by decide) (by omega) (hC.2.1 i (by omega)) (partsN_ge hv.2.2.1) (partsN_le hv.2.2.2.1 (hC.2.2.1 i (by omega))) (fun d hd => by rw [h_o d hd]; exact ovA_lt hv) (fun d hd => by rw [h_b d hd]; exact bkA_lt hv)) dX9_wake_42 rfl rfl 13 rfl [13, 14, 16, 18, 19] [0, 1, 2, 3, 4, 5, 6, 7, 8, 9, 10, 11, 12, 15, 17] (by decide) rfl rfl (by decide) (by decide) (by decide) (Nat.le_of_ble_eq_true rfl) (by decide) (by decide) (fun r_11 w_12 h_10 => ?_)
      obtain ⟨rfl, rfl⟩ := h_10
      refine v_eq (st' := [.int (b2i (¬ wakeN (c.kk i) ((ppA c v) i) (fun zd => ot2_8 (slotN i 0 zd)) (fun zd => bt2_9 (slotN i 0 zd)) c.heap = none))]) (ws' := [(o, .inr (9, [.ref ca, .ref im, .int tk, .ref txo, .ref ba, .ref va, .int (nI vc), .ref wk, .ref nt, .ref ro, .ref lo, .ref bd, .ref ta])), (ca, .inr (1, [.int (nI c.men), .ref ck, .ref cv, .ref chd, .int (nI c.heap), .int c.dogs, .int (nI c.wak), .int (nI c.rl), .ref cr, .int (nI c.pg), .ref cb, .int c.held])), (ck, eI D 6 (nF c.kk)), (cv, eI D 6 (nF c.vv)), (chd, eI D 6 c.hd), (cr, eI D 8 (nF c.crf)), (cb, eI D 12 (nF c.bo)), (va, eV D 6 vt), (vg, .inr (6, [.int (nI v.sh), .int (nI v.mo), .int (nI v.ov), .int (nI v.nr), .ref io, .ref am, .ref en, .int (nI v.nl), .ref sp])), (io, eZ D 10 v.fo), (am, eI D 10 v.fa), (en, eI D 10 v.fe), (sp, eI D 100 v.fs), (vl, eI D 6 (nF c.vv)), (fc, eI D 5 ff2_7), (wk, .inr (8, [.ref kn, .ref vl, .ref pt, .int (nI c.wak), .ref fc, .ref ovr, .ref bkr, .int (nI (oL (wakeN (c.kk i) ((ppA c v) i) (fun zd => ot2_8 (slotN i 0 zd)) (fun zd => bt2_9 (slotN i 0 zd)) c.heap) c.heap)), .int (nI (oG (wakeN (c.kk i) ((ppA c v) i) (fun zd => ot2_8 (slotN i 0 zd)) (fun zd => bt2_9 (slotN i 0 zd)) c.heap) 0)), .int (nI (oD (wakeN (c.kk i) ((ppA c v) i) (fun zd => ot2_8 (slotN i 0 zd)) (fun zd => bt2_9 (slotN i 0 zd)) c.heap) 0))])), (kn, eI D 6 (nF c.kk)), (pt, eI D 6 (nF (ppA c v))), (ovr, eI D 480 (nF ot2_8)), (bkr, eI D 480 (nF bt2_9))]) rfl rfl rfl rfl ?_
      refine v_if_ne O 51 dX9_wake_45 (by decide) (fun z3 => ?_) (fun z3 => ?_)
      · skip
        have z3 := b2i_1.mp z3
        refine v_aload_n O dX9_wake_51 0 rfl ?_
        refine gf_X9_12 O rfl dX9_wake_52 0 rfl rfl ?_
        refine v_aload_n O dX9_wake_55 2 rfl ?_
        refine gf_X9_164 O rfl dX9_wake_56 15 rfl rfl ?_
        refine pf_X9_114 (fs' := [.int (nI c.men), .ref ck, .ref cv, .ref chd, .int (nI (oL (wakeN (c.kk i) ((ppA c v) i) (fun zd => ot2_8 (slotN i 0 zd)) (fun zd => bt2_9 (slotN i 0 zd)) c.heap) c.heap)), .int c.dogs, .int (nI c.wak), .int (nI c.rl), .ref cr, .int (nI c.pg), .ref cb, .int c.held]) (ws' := [(o, .inr (9, [.ref ca, .ref im, .int tk, .ref txo, .ref ba, .ref va, .int (nI vc), .ref wk, .ref nt, .ref ro, .ref lo, .ref bd, .ref ta])), (ca, .inr (1, [.int (nI c.men), .ref ck, .ref cv, .ref chd, .int (nI (oL (wakeN (c.kk i) ((ppA c v) i) (fun zd => ot2_8 (slotN i 0 zd)) (fun zd => bt2_9 (slotN i 0 zd)) c.heap) c.heap)), .int c.dogs, .int (nI c.wak), .int (nI c.rl), .ref cr, .int (nI c.pg), .ref cb, .int c.held])), (ck, eI D 6 (nF c.kk)), (cv, eI D 6 (nF c.vv)), (chd, eI D 6 c.hd), (cr, eI D 8 (nF c.crf)), (cb, eI D 12 (nF c.bo)), (va, eV D 6 vt), (vg, .inr (6, [.int (nI v.sh), .int (nI v.mo), .int (nI v.ov), .int (nI v.nr), .ref io, .ref am, .ref en, .int (nI v.nl), .ref sp])), (io, eZ D 10 v.fo), (am, eI D 10 v.fa), (en, eI D 10 v.fe), (sp, eI D 100 v.fs), (vl, eI D 6 (nF c.vv)), (fc, eI D 5 ff2_7), (wk, .inr (8, [.ref kn, .ref vl, .ref pt, .int (nI c.wak), .ref fc, .ref ovr, .ref bkr, .int (nI (oL (wakeN (c.kk i) ((ppA c v) i) (fun zd => ot2_8 (slotN i 0 zd)) (fun zd => bt2_9 (slotN i 0 zd)) c.heap) c.heap)), .int (nI (oG (wakeN (c.kk i) ((ppA c v) i) (fun zd => ot2_8 (slotN i 0 zd)) (fun zd => bt2_9 (slotN i 0 zd)) c.heap) 0)), .int (nI (oD (wakeN (c.kk i) ((ppA c v) i) (fun zd => ot2_8 (slotN i 0 zd)) (fun zd => bt2_9 (slotN i 0 zd)) c.heap) 0))])), (kn, eI D 6 (nF c.kk)), (pt, eI D 6 (nF (ppA c v))), (ovr, eI D 480 (nF ot2_8)), (bkr, eI D 480 (nF bt2_9))]) O rfl dX9_wake_59 1 rfl (Nat.le_of_ble_eq_true rfl) rfl rfl ?_
        refine v_aload_n O dX9_wake_62 0 rfl ?_
        refine gf_X9_12 O rfl dX9_wake_63 0 rfl rfl ?_
        refine v_dup O dX9_wake_66 rfl ?_
        refine gf_X9_158 O rfl dX9_wake_67 1 rfl rfl ?_
        refine v_aload_n O dX9_wake_70 2 rfl ?_
        refine gf_X9_167 O rfl dX9_wake_71 15 rfl rfl ?_
        refine v_iadd O dX9_wake_74 ?_
        refine pf_X9_158 (fs' := [.int (nI c.men), .ref ck, .ref cv, .ref chd, .int (nI (oL (wakeN (c.kk i) ((ppA c v) i) (fun zd => ot2_8 (slotN i 0 zd)) (fun zd => bt2_9 (slotN i 0 zd)) c.heap) c.heap)), .int (c.dogs + (nI (oG (wakeN (c.kk i) ((ppA c v) i) (fun zd => ot2_8 (slotN i 0 zd)) (fun zd => bt2_9 (slotN i 0 zd)) c.heap) 0))), .int (nI c.wak), .int (nI c.rl), .ref cr, .int (nI c.pg), .ref cb, .int c.held]) (ws' := [(o, .inr (9, [.ref ca, .ref im, .int tk, .ref txo, .ref ba, .ref va, .int (nI vc), .ref wk, .ref nt, .ref ro, .ref lo, .ref bd, .ref ta])), (ca, .inr (1, [.int (nI c.men), .ref ck, .ref cv, .ref chd, .int (nI (oL (wakeN (c.kk i) ((ppA c v) i) (fun zd => ot2_8 (slotN i 0 zd)) (fun zd => bt2_9 (slotN i 0 zd)) c.heap) c.heap)), .int (c.dogs + (nI (oG (wakeN (c.kk i) ((ppA c v) i) (fun zd => ot2_8 (slotN i 0 zd)) (fun zd => bt2_9 (slotN i 0 zd)) c.heap) 0))), .int (nI c.wak), .int (nI c.rl), .ref cr, .int (nI c.pg), .ref cb, .int c.held])), (ck, eI D 6 (nF c.kk)), (cv, eI D 6 (nF c.vv)), (chd, eI D 6 c.hd), (cr, eI D 8 (nF c.crf)), (cb, eI D 12 (nF c.bo)), (va, eV D 6 vt), (vg, .inr (6, [.int (nI v.sh), .int (nI v.mo), .int (nI v.ov), .int (nI v.nr), .ref io, .ref am, .ref en, .int (nI v.nl), .ref sp])), (io, eZ D 10 v.fo), (am, eI D 10 v.fa), (en, eI D 10 v.fe), (sp, eI D 100 v.fs), (vl, eI D 6 (nF c.vv)), (fc, eI D 5 ff2_7), (wk, .inr (8, [.ref kn, .ref vl, .ref pt, .int (nI c.wak), .ref fc, .ref ovr, .ref bkr, .int (nI (oL (wakeN (c.kk i) ((ppA c v) i) (fun zd => ot2_8 (slotN i 0 zd)) (fun zd => bt2_9 (slotN i 0 zd)) c.heap) c.heap)), .int (nI (oG (wakeN (c.kk i) ((ppA c v) i) (fun zd => ot2_8 (slotN i 0 zd)) (fun zd => bt2_9 (slotN i 0 zd)) c.heap) 0)), .int (nI (oD (wakeN (c.kk i) ((ppA c v) i) (fun zd => ot2_8 (slotN i 0 zd)) (fun zd => bt2_9 (slotN i 0 zd)) c.heap) 0))])), (kn, eI D 6 (nF c.kk)), (pt, eI D 6 (nF (ppA c v))), (ovr, eI D 480 (nF ot2_8)), (bkr, eI D 480 (nF bt2_9))]) O rfl dX9_wake_75 1 rfl (Nat.le_of_ble_eq_true rfl) rfl rfl ?_
        refine v_aload_n O dX9_wake_78 0 rfl ?_
        refine gf_X9_12 O rfl dX9_wake_79 0 rfl rfl ?_
        refine gf_X9_99 O rfl dX9_wake_82 1 rfl rfl ?_
        refine v_iload_n O dX9_wake_85 1 rfl ?_
        refine v_dup2 O dX9_wake_86 rfl rfl ?_
        refine v_ialdk O dX9_wake_87 4 rfl i rfl (by omega) (by decide) ?_
        refine v_aload_n O dX9_wake_88 2 rfl ?_
        refine gf_X9_168 O rfl dX9_wake_89 15 rfl rfl ?_
        refine v_iadd O dX9_wake_92 ?_
        refine v_iastk (ws' := [(o, .inr (9, [.ref ca, .ref im, .int tk, .ref txo, .ref ba, .ref va, .int (nI vc), .ref wk, .ref nt, .ref ro, .ref lo, .ref bd, .ref ta])), (ca, .inr (1, [.int (nI c.men), .ref ck, .ref cv, .ref chd, .int (nI (oL (wakeN (c.kk i) ((ppA c v) i) (fun zd => ot2_8 (slotN i 0 zd)) (fun zd => bt2_9 (slotN i 0 zd)) c.heap) c.heap)), .int (c.dogs + (nI (oG (wakeN (c.kk i) ((ppA c v) i) (fun zd => ot2_8 (slotN i 0 zd)) (fun zd => bt2_9 (slotN i 0 zd)) c.heap) 0))), .int (nI c.wak), .int (nI c.rl), .ref cr, .int (nI c.pg), .ref cb, .int c.held])), (ck, eI D 6 (nF c.kk)), (cv, eI D 6 (nF c.vv)), (chd, eI D 6 (upd c.hd i ((c.hd i) + (nI (oD (wakeN (c.kk i) ((ppA c v) i) (fun zd => ot2_8 (slotN i 0 zd)) (fun zd => bt2_9 (slotN i 0 zd)) c.heap) 0))))), (cr, eI D 8 (nF c.crf)), (cb, eI D 12 (nF c.bo)), (va, eV D 6 vt), (vg, .inr (6, [.int (nI v.sh), .int (nI v.mo), .int (nI v.ov), .int (nI v.nr), .ref io, .ref am, .ref en, .int (nI v.nl), .ref sp])), (io, eZ D 10 v.fo), (am, eI D 10 v.fa), (en, eI D 10 v.fe), (sp, eI D 100 v.fs), (vl, eI D 6 (nF c.vv)), (fc, eI D 5 ff2_7), (wk, .inr (8, [.ref kn, .ref vl, .ref pt, .int (nI c.wak), .ref fc, .ref ovr, .ref bkr, .int (nI (oL (wakeN (c.kk i) ((ppA c v) i) (fun zd => ot2_8 (slotN i 0 zd)) (fun zd => bt2_9 (slotN i 0 zd)) c.heap) c.heap)), .int (nI (oG (wakeN (c.kk i) ((ppA c v) i) (fun zd => ot2_8 (slotN i 0 zd)) (fun zd => bt2_9 (slotN i 0 zd)) c.heap) 0)), .int (nI (oD (wakeN (c.kk i) ((ppA c v) i) (fun zd => ot2_8 (slotN i 0 zd)) (fun zd => bt2_9 (slotN i 0 zd)) c.heap) 0))])), (kn, eI D 6 (nF c.kk)), (pt, eI D 6 (nF (ppA c v))), (ovr, eI D 480 (nF ot2_8)), (bkr, eI D 480 (nF bt2_9))]) O dX9_wake_93 4 rfl i (rfl) (by omega) (by decide) (rfl) ?_
        refine v_aload_n O dX9_wake_94 0 rfl ?_
        refine gf_X9_12 O rfl dX9_wake_95 0 rfl rfl ?_
        refine v_dup O dX9_wake_98 rfl ?_
        refine gf_X9_161 O rfl dX9_wake_99 1 rfl rfl ?_
        refine v_iconst (v := 1) O dX9_wake_102 (by decide) ?_
        refine v_iadd O dX9_wake_103 ?_
        refine v_top (y := nI (c.wak + 1)) (nI_add c.wak 1) ?_
        refine pf_X9_161 (fs' := [.int (nI c.men), .ref ck, .ref cv, .ref chd, .int (nI (oL (wakeN (c.kk i) ((ppA c v) i) (fun zd => ot2_8 (slotN i 0 zd)) (fun zd => bt2_9 (slotN i 0 zd)) c.heap) c.heap)), .int (c.dogs + (nI (oG (wakeN (c.kk i) ((ppA c v) i) (fun zd => ot2_8 (slotN i 0 zd)) (fun zd => bt2_9 (slotN i 0 zd)) c.heap) 0))), .int (nI (c.wak + 1)), .int (nI c.rl), .ref cr, .int (nI c.pg), .ref cb, .int c.held]) (ws' := [(o, .inr (9, [.ref ca, .ref im, .int tk, .ref txo, .ref ba, .ref va, .int (nI vc), .ref wk, .ref nt, .ref ro, .ref lo, .ref bd, .ref ta])), (ca, .inr (1, [.int (nI c.men), .ref ck, .ref cv, .ref chd, .int (nI (oL (wakeN (c.kk i) ((ppA c v) i) (fun zd => ot2_8 (slotN i 0 zd)) (fun zd => bt2_9 (slotN i 0 zd)) c.heap) c.heap)), .int (c.dogs + (nI (oG (wakeN (c.kk i) ((ppA c v) i) (fun zd => ot2_8 (slotN i 0 zd)) (fun zd => bt2_9 (slotN i 0 zd)) c.heap) 0))), .int (nI (c.wak + 1)), .int (nI c.rl), .ref cr, .int (nI c.pg), .ref cb, .int c.held])), (ck, eI D 6 (nF c.kk)), (cv, eI D 6 (nF c.vv)), (chd, eI D 6 (upd c.hd i ((c.hd i) + (nI (oD (wakeN (c.kk i) ((ppA c v) i) (fun zd => ot2_8 (slotN i 0 zd)) (fun zd => bt2_9 (slotN i 0 zd)) c.heap) 0))))), (cr, eI D 8 (nF c.crf)), (cb, eI D 12 (nF c.bo)), (va, eV D 6 vt), (vg, .inr (6, [.int (nI v.sh), .int (nI v.mo), .int (nI v.ov), .int (nI v.nr), .ref io, .ref am, .ref en, .int (nI v.nl), .ref sp])), (io, eZ D 10 v.fo), (am, eI D 10 v.fa), (en, eI D 10 v.fe), (sp, eI D 100 v.fs), (vl, eI D 6 (nF c.vv)), (fc, eI D 5 ff2_7), (wk, .inr (8, [.ref kn, .ref vl, .ref pt, .int (nI c.wak), .ref fc, .ref ovr, .ref bkr, .int (nI (oL (wakeN (c.kk i) ((ppA c v) i) (fun zd => ot2_8 (slotN i 0 zd)) (fun zd => bt2_9 (slotN i 0 zd)) c.heap) c.heap)), .int (nI (oG (wakeN (c.kk i) ((ppA c v) i) (fun zd => ot2_8 (slotN i 0 zd)) (fun zd => bt2_9 (slotN i 0 zd)) c.heap) 0)), .int (nI (oD (wakeN (c.kk i) ((ppA c v) i) (fun zd => ot2_8 (slotN i 0 zd)) (fun zd => bt2_9 (slotN i 0 zd)) c.heap) 0))])), (kn, eI D 6 (nF c.kk)), (pt, eI D 6 (nF (ppA c v))), (ovr, eI D 480 (nF ot2_8)), (bkr, eI D 480 (nF bt2_9))]) O rfl dX9_wake_104 1 rfl (Nat.le_of_ble_eq_true rfl) rfl rfl ?_
        refine v_aload_n O dX9_wake_107 2 rfl ?_
        refine gf_X9_168 O rfl dX9_wake_108 15 rfl rfl ?_
        refine v_sub (ws' := [(o, .inr (9, [.ref ca, .ref im, .int tk, .ref txo, .ref ba, .ref va, .int (nI vc), .ref wk, .ref nt, .ref ro, .ref lo, .ref bd, .ref ta])), (ca, .inr (1, [.int (nI c.men), .ref ck, .ref cv, .ref chd, .int (nI (oL (wakeN (c.kk i) ((ppA c v) i) (fun zd => ot2_8 (slotN i 0 zd)) (fun zd => bt2_9 (slotN i 0 zd)) c.heap) c.heap)), .int (c.dogs + (nI (oG (wakeN (c.kk i) ((ppA c v) i) (fun zd => ot2_8 (slotN i 0 zd)) (fun zd => bt2_9 (slotN i 0 zd)) c.heap) 0))), .int (nI (c.wak + 1)), .int (nI c.rl), .ref cr, .int (nI c.pg), .ref cb, .int c.held])), (ck, eI D 6 (nF c.kk)), (cv, eI D 6 (nF c.vv)), (chd, eI D 6 (upd c.hd i ((c.hd i) + (nI (oD (wakeN (c.kk i) ((ppA c v) i) (fun zd => ot2_8 (slotN i 0 zd)) (fun zd => bt2_9 (slotN i 0 zd)) c.heap) 0))))), (cr, eI D 8 (nF c.crf)), (cb, eI D 12 (nF c.bo)), (va, eV D 6 vt), (vg, .inr (6, [.int (nI v.sh), .int (nI v.mo), .int (nI v.ov), .int (nI v.nr), .ref io, .ref am, .ref en, .int (nI v.nl), .ref sp])), (io, eZ D 10 v.fo), (am, eI D 10 v.fa), (en, eI D 10 v.fe), (sp, eI D 100 v.fs), (wk, .inr (8, [.ref kn, .ref vl, .ref pt, .int (nI c.wak), .ref fc, .ref ovr, .ref bkr, .int (nI (oL (wakeN (c.kk i) ((ppA c v) i) (fun zd => ot2_8 (slotN i 0 zd)) (fun zd => bt2_9 (slotN i 0 zd)) c.heap) c.heap)), .int (nI (oG (wakeN (c.kk i) ((ppA c v) i) (fun zd => ot2_8 (slotN i 0 zd)) (fun zd => bt2_9 (slotN i 0 zd)) c.heap) 0)), .int (nI (oD (wakeN (c.kk i) ((ppA c v) i) (fun zd => ot2_8 (slotN i 0 zd)) (fun zd => bt2_9 (slotN i 0 zd)) c.heap) 0))])), (kn, eI D 6 (nF c.kk)), (vl, eI D 6 (nF c.vv)), (pt, eI D 6 (nF (ppA c v))), (fc, eI D 5 ff2_7), (ovr, eI D 480 (nF ot2_8)), (bkr, eI D 480 (nF bt2_9))]) [0, 1, 2, 3, 4, 5, 6, 7, 8, 9, 10, 11, 12, 15, 16, 13, 17, 14, 18, 19] (by decide) rfl ?_
        exact v_ireturn O T rfl rfl (by decide) (by decide) dX9_wake_111 (⟨_, _, _, _, _, _, _, _, _, _, by rw [z_e], by rw [← z_e]; rfl⟩)
      · skip
        have z3 := b2i_0.mp z3
        exact absurd (Classical.not_not.mp z3) (by rw [z_e]; exact hn)
    · skip
      have z2 := (not_congr (c_lt (x := (nI c.wak)) (y := 9999) (a := c.wak) (b := 9999) rfl rfl (by omega) (by omega))).mp z2
      exact absurd z2 (by omega)
  · skip
    have z1 := b2i_0.mp z1
    exact absurd ((isIx_nI (by omega) (by omega)).mpr hi) z1
set_option maxRecDepth 100000 in
set_option maxHeartbeats 4000000 in
theorem sp_X9_row_1 {D : G} {o : Nat} {ca : Nat} {im : Nat} {tk : Int32} {txo : Nat} {ba : Nat} {va : Nat} {vc : Nat} {nwk : Nat} {nt : Nat} {ro : Nat} {lo : Nat} {bd : Nat} {ta : Nat} {ck : Nat} {cv : Nat} {chd : Nat} {cr : Nat} {cb : Nat} {c : CS} (hC : cOk c) : Sp D mX9_row 30 0 0 [.ref o, .int (-1)] [(o, .inr (9, [.ref ca, .ref im, .int tk, .ref txo, .ref ba, .ref va, .int (nI vc), .ref nwk, .ref nt, .ref ro, .ref lo, .ref bd, .ref ta])), (ca, .inr (1, [.int (nI c.men), .ref ck, .ref cv, .ref chd, .int (nI c.heap), .int c.dogs, .int (nI c.wak), .int (nI c.rl), .ref cr, .int (nI c.pg), .ref cb, .int c.held])), (ck, eI D 6 (nF c.kk)), (cv, eI D 6 (nF c.vv)), (chd, eI D 6 c.hd), (cr, eI D 8 (nF c.crf)), (cb, eI D 12 (nF c.bo))] (fun r w => r = some (.int 0) ∧ w = [(o, .inr (9, [.ref ca, .ref im, .int tk, .ref txo, .ref ba, .ref va, .int (nI vc), .ref nwk, .ref nt, .ref ro, .ref lo, .ref bd, .ref ta])), (ca, .inr (1, [.int (nI ((cRow0 c).men)), .ref ck, .ref cv, .ref chd, .int (nI ((cRow0 c).heap)), .int ((cRow0 c).dogs), .int (nI ((cRow0 c).wak)), .int (nI ((cRow0 c).rl)), .ref cr, .int (nI ((cRow0 c).pg)), .ref cb, .int ((cRow0 c).held)])), (ck, eI D 6 (nF (cRow0 c).kk)), (cv, eI D 6 (nF (cRow0 c).vv)), (chd, eI D 6 ((cRow0 c).hd)), (cr, eI D 8 (nF (cRow0 c).crf)), (cb, eI D 12 (nF (cRow0 c).bo))]) := by
  refine Sp.of (by decide) (Nat.le_of_ble_eq_true rfl) (fun X O T => ?_)
  refine v_eq (lv' := [(0, .ref o), (1, .int (-1))]) rfl rfl rfl rfl ?_
  have z_m := hC.1
  have z_hp := hC.2.2.2.1
  have z_wk := hC.2.2.2.2.1
  have z_rl := hC.2.2.2.2.2.1
  have z_pg := hC.2.2.2.2.2.2.2.1
  refine v_iload_n O dX9_row_0 1 rfl ?_
  refine v_iconst (v := -1) O dX9_row_1 (by decide) ?_
  refine v_icmp_ne O 15 dX9_row_2 (by decide) (fun z0 => ?_) (fun z0 => ?_)
  · skip
    exact absurd rfl z0
  · skip
    refine v_aload_n O dX9_row_5 0 rfl ?_
    refine gf_X9_12 O rfl dX9_row_6 0 rfl rfl ?_
    refine v_iconst (v := 0) O dX9_row_9 (by decide) ?_
    refine pf_X9_171 (fs' := [.int (nI c.men), .ref ck, .ref cv, .ref chd, .int (nI c.heap), .int c.dogs, .int (nI c.wak), .int 0, .ref cr, .int (nI c.pg), .ref cb, .int c.held]) (ws' := [(o, .inr (9, [.ref ca, .ref im, .int tk, .ref txo, .ref ba, .ref va, .int (nI vc), .ref nwk, .ref nt, .ref ro, .ref lo, .ref bd, .ref ta])), (ca, .inr (1, [.int (nI c.men), .ref ck, .ref cv, .ref chd, .int (nI c.heap), .int c.dogs, .int (nI c.wak), .int 0, .ref cr, .int (nI c.pg), .ref cb, .int c.held])), (ck, eI D 6 (nF c.kk)), (cv, eI D 6 (nF c.vv)), (chd, eI D 6 c.hd), (cr, eI D 8 (nF c.crf)), (cb, eI D 12 (nF c.bo))]) O rfl dX9_row_10 1 rfl (Nat.le_of_ble_eq_true rfl) rfl rfl ?_
    refine v_iconst (v := 0) O dX9_row_13 (by decide) ?_
    exact v_ireturn O T rfl rfl (by decide) (by decide) dX9_row_14 (⟨rfl, rfl⟩)
set_option maxRecDepth 100000 in
set_option maxHeartbeats 4000000 in
theorem sp_X9_row_2 {D : G} {o : Nat} {ca : Nat} {im : Nat} {tk : Int32} {txo : Nat} {ba : Nat} {va : Nat} {vc : Nat} {nwk : Nat} {nt : Nat} {ro : Nat} {lo : Nat} {bd : Nat} {ta : Nat} {ck : Nat} {cv : Nat} {chd : Nat} {cr : Nat} {cb : Nat} {c : CS} {i : Int32} (hC : cOk c) (hi0 : ¬ i = -1) (hi : ¬ isIx i c.men) : Sp D mX9_row 30 0 0 [.ref o, .int i] [(o, .inr (9, [.ref ca, .ref im, .int tk, .ref txo, .ref ba, .ref va, .int (nI vc), .ref nwk, .ref nt, .ref ro, .ref lo, .ref bd, .ref ta])), (ca, .inr (1, [.int (nI c.men), .ref ck, .ref cv, .ref chd, .int (nI c.heap), .int c.dogs, .int (nI c.wak), .int (nI c.rl), .ref cr, .int (nI c.pg), .ref cb, .int c.held])), (ck, eI D 6 (nF c.kk)), (cv, eI D 6 (nF c.vv)), (chd, eI D 6 c.hd), (cr, eI D 8 (nF c.crf)), (cb, eI D 12 (nF c.bo))] (fun r w => r = some (.int (-1)) ∧ w = [(o, .inr (9, [.ref ca, .ref im, .int tk, .ref txo, .ref ba, .ref va, .int (nI vc), .ref nwk, .ref nt, .ref ro, .ref lo, .ref bd, .ref ta])), (ca, .inr (1, [.int (nI c.men), .ref ck, .ref cv, .ref chd, .int (nI c.heap), .int c.dogs, .int (nI c.wak), .int (nI c.rl), .ref cr, .int (nI c.pg), .ref cb, .int c.held])), (ck, eI D 6 (nF c.kk)), (cv, eI D 6 (nF c.vv)), (chd, eI D 6 c.hd), (cr, eI D 8 (nF c.crf)), (cb, eI D 12 (nF c.bo))]) := by
  refine Sp.of (by decide) (Nat.le_of_ble_eq_true rfl) (fun X O T => ?_)
  refine v_eq (lv' := [(0, .ref o), (1, .int i)]) rfl rfl rfl rfl ?_
  have z_m := hC.1
  have z_hp := hC.2.2.2.1
  have z_wk := hC.2.2.2.2.1
  have z_rl := hC.2.2.2.2.2.1
  have z_pg := hC.2.2.2.2.2.2.2.1
  refine v_iload_n O dX9_row_0 1 rfl ?_
  refine v_iconst (v := -1) O dX9_row_1 (by decide) ?_
  refine v_icmp_ne O 15 dX9_row_2 (by decide) (fun z0 => ?_) (fun z0 => ?_)
  · skip
    refine v_aload_n O dX9_row_15 0 rfl ?_
    refine v_iload_n O dX9_row_16 1 rfl ?_
    refine v_cV (T := TX9) (ci := 9) (As := [.int i]) (wr := [(ck, eI D 6 (nF c.kk)), (cv, eI D 6 (nF c.vv)), (chd, eI D 6 c.hd), (cr, eI D 8 (nF c.crf)), (cb, eI D 12 (nF c.bo))]) (st := []) O cf_X9_102 rfl (sp_X9_isMan (o := o) (man := i) (ca := ca) (im := im) (it := tk) (tx := txo) (ba := ba) (vs := va) (vc := (nI vc)) (nw := nwk) (nt := nt) (ro := ro) (ln := lo) (bo := bd) (tp := ta) (men := c.men) (ck := ck) (cv := cv) (chd := chd) (heap := (nI c.heap)) (dogs := c.dogs) (wak := (nI c.wak)) (rl := c.rl) (cr := cr) (pg := c.pg) (cb := cb) (held := c.held) (hC.1)) dX9_row_17 rfl rfl 0 rfl [0, 1] [2, 3, 4, 5, 6] (by decide) rfl rfl (by decide) (by decide) (by decide) (Nat.le_of_ble_eq_true rfl) (by decide) (by decide) (fun r_2 w_3 h_1 => ?_)
    obtain ⟨rfl, rfl⟩ := h_1
    refine v_eq (st' := [.int (b2i (isIx i c.men))]) (ws' := [(ck, eI D 6 (nF c.kk)), (cv, eI D 6 (nF c.vv)), (chd, eI D 6 c.hd), (cr, eI D 8 (nF c.crf)), (cb, eI D 12 (nF c.bo)), (o, .inr (9, [.ref ca, .ref im, .int tk, .ref txo, .ref ba, .ref va, .int (nI vc), .ref nwk, .ref nt, .ref ro, .ref lo, .ref bd, .ref ta])), (ca, .inr (1, [.int (nI c.men), .ref ck, .ref cv, .ref chd, .int (nI c.heap), .int c.dogs, .int (nI c.wak), .int (nI c.rl), .ref cr, .int (nI c.pg), .ref cb, .int c.held]))]) rfl rfl rfl rfl ?_
    refine v_if_ne O 25 dX9_row_20 (by decide) (fun z1 => ?_) (fun z1 => ?_)
    · skip
      have z1 := b2i_1.mp z1
      exact absurd z1 hi
    · skip
      have z1 := b2i_0.mp z1
      refine v_iconst (v := -1) O dX9_row_23 (by decide) ?_
      refine v_sub (ws' := [(o, .inr (9, [.ref ca, .ref im, .int tk, .ref txo, .ref ba, .ref va, .int (nI vc), .ref nwk, .ref nt, .ref ro, .ref lo, .ref bd, .ref ta])), (ca, .inr (1, [.int (nI c.men), .ref ck, .ref cv, .ref chd, .int (nI c.heap), .int c.dogs, .int (nI c.wak), .int (nI c.rl), .ref cr, .int (nI c.pg), .ref cb, .int c.held])), (ck, eI D 6 (nF c.kk)), (cv, eI D 6 (nF c.vv)), (chd, eI D 6 c.hd), (cr, eI D 8 (nF c.crf)), (cb, eI D 12 (nF c.bo))]) [5, 6, 0, 1, 2, 3, 4] (by decide) rfl ?_
      exact v_ireturn O T rfl rfl (by decide) (by decide) dX9_row_24 (⟨rfl, rfl⟩)
  · skip
    exact absurd z0 hi0
set_option maxRecDepth 100000 in
set_option maxHeartbeats 4000000 in
theorem sp_X9_row_3 {D : G} {o : Nat} {ca : Nat} {im : Nat} {tk : Int32} {txo : Nat} {ba : Nat} {va : Nat} {vc : Nat} {nwk : Nat} {nt : Nat} {ro : Nat} {lo : Nat} {bd : Nat} {ta : Nat} {ck : Nat} {cv : Nat} {chd : Nat} {cr : Nat} {cb : Nat} {c : CS} {i : Nat} (hC : cOk c) (hi : i < c.men) (hr : c.rl = 8) : Sp D mX9_row 30 0 0 [.ref o, .int (nI i)] [(o, .inr (9, [.ref ca, .ref im, .int tk, .ref txo, .ref ba, .ref va, .int (nI vc), .ref nwk, .ref nt, .ref ro, .ref lo, .ref bd, .ref ta])), (ca, .inr (1, [.int (nI c.men), .ref ck, .ref cv, .ref chd, .int (nI c.heap), .int c.dogs, .int (nI c.wak), .int (nI c.rl), .ref cr, .int (nI c.pg), .ref cb, .int c.held])), (ck, eI D 6 (nF c.kk)), (cv, eI D 6 (nF c.vv)), (chd, eI D 6 c.hd), (cr, eI D 8 (nF c.crf)), (cb, eI D 12 (nF c.bo))] (fun r w => r = some (.int (-4)) ∧ w = [(o, .inr (9, [.ref ca, .ref im, .int tk, .ref txo, .ref ba, .ref va, .int (nI vc), .ref nwk, .ref nt, .ref ro, .ref lo, .ref bd, .ref ta])), (ca, .inr (1, [.int (nI c.men), .ref ck, .ref cv, .ref chd, .int (nI c.heap), .int c.dogs, .int (nI c.wak), .int (nI c.rl), .ref cr, .int (nI c.pg), .ref cb, .int c.held])), (ck, eI D 6 (nF c.kk)), (cv, eI D 6 (nF c.vv)), (chd, eI D 6 c.hd), (cr, eI D 8 (nF c.crf)), (cb, eI D 12 (nF c.bo))]) := by
  refine Sp.of (by decide) (Nat.le_of_ble_eq_true rfl) (fun X O T => ?_)
  refine v_eq (lv' := [(0, .ref o), (1, .int (nI i))]) rfl rfl rfl rfl ?_
  have z_m := hC.1
  have z_hp := hC.2.2.2.1
  have z_wk := hC.2.2.2.2.1
  have z_rl := hC.2.2.2.2.2.1
  have z_pg := hC.2.2.2.2.2.2.2.1
  refine v_iload_n O dX9_row_0 1 rfl ?_
  refine v_iconst (v := -1) O dX9_row_1 (by decide) ?_
  refine v_icmp_ne O 15 dX9_row_2 (by decide) (fun z0 => ?_) (fun z0 => ?_)
  · skip
    refine v_aload_n O dX9_row_15 0 rfl ?_
    refine v_iload_n O dX9_row_16 1 rfl ?_
    refine v_cV (T := TX9) (ci := 9) (As := [.int (nI i)]) (wr := [(ck, eI D 6 (nF c.kk)), (cv, eI D 6 (nF c.vv)), (chd, eI D 6 c.hd), (cr, eI D 8 (nF c.crf)), (cb, eI D 12 (nF c.bo))]) (st := []) O cf_X9_102 rfl (sp_X9_isMan (o := o) (man := (nI i)) (ca := ca) (im := im) (it := tk) (tx := txo) (ba := ba) (vs := va) (vc := (nI vc)) (nw := nwk) (nt := nt) (ro := ro) (ln := lo) (bo := bd) (tp := ta) (men := c.men) (ck := ck) (cv := cv) (chd := chd) (heap := (nI c.heap)) (dogs := c.dogs) (wak := (nI c.wak)) (rl := c.rl) (cr := cr) (pg := c.pg) (cb := cb) (held := c.held) (hC.1)) dX9_row_17 rfl rfl 0 rfl [0, 1] [2, 3, 4, 5, 6] (by decide) rfl rfl (by decide) (by decide) (by decide) (Nat.le_of_ble_eq_true rfl) (by decide) (by decide) (fun r_2 w_3 h_1 => ?_)
    obtain ⟨rfl, rfl⟩ := h_1
    refine v_eq (st' := [.int (b2i (isIx (nI i) c.men))]) (ws' := [(ck, eI D 6 (nF c.kk)), (cv, eI D 6 (nF c.vv)), (chd, eI D 6 c.hd), (cr, eI D 8 (nF c.crf)), (cb, eI D 12 (nF c.bo)), (o, .inr (9, [.ref ca, .ref im, .int tk, .ref txo, .ref ba, .ref va, .int (nI vc), .ref nwk, .ref nt, .ref ro, .ref lo, .ref bd, .ref ta])), (ca, .inr (1, [.int (nI c.men), .ref ck, .ref cv, .ref chd, .int (nI c.heap), .int c.dogs, .int (nI c.wak), .int (nI c.rl), .ref cr, .int (nI c.pg), .ref cb, .int c.held]))]) rfl rfl rfl rfl ?_
    refine v_if_ne O 25 dX9_row_20 (by decide) (fun z1 => ?_) (fun z1 => ?_)
    · skip
      have z1 := b2i_1.mp z1
      refine v_aload_n O dX9_row_25 0 rfl ?_
      refine gf_X9_12 O rfl dX9_row_26 5 rfl rfl ?_
      refine gf_X9_171 O rfl dX9_row_29 6 rfl rfl ?_
      refine v_istore_n (lv' := [(0, .ref o), (1, .int (nI i)), (2, .int (nI c.rl))]) O dX9_row_32 (by decide) rfl ?_
      refine v_iload_n O dX9_row_33 2 rfl ?_
      refine v_if_lt O 43 dX9_row_34 (by decide) (fun c_4 => ?_) (fun c_4 => ?_)
      · skip
        have c_4 := (c_lt (x := nI c.rl) (y := 0) (a := c.rl) (b := 0) rfl rfl (by omega) (by omega)).mp c_4
        exact absurd c_4 (by omega)
      · skip
        have c_4 := (not_congr (c_lt (x := nI c.rl) (y := 0) (a := c.rl) (b := 0) rfl rfl (by omega) (by omega))).mp c_4
        refine v_iload_n O dX9_row_37 2 rfl ?_
        refine v_bipush (v := 8) O dX9_row_38 (by decide) ?_
        refine v_icmp_lt O 46 dX9_row_40 (by decide) (fun z2 => ?_) (fun z2 => ?_)
        · skip
          have z2 := (c_lt (x := nI c.rl) (y := 8) (a := c.rl) (b := 8) rfl rfl (by omega) (by omega)).mp z2
          exact absurd z2 (by omega)
        · skip
          have z2 := (not_congr (c_lt (x := nI c.rl) (y := 8) (a := c.rl) (b := 8) rfl rfl (by omega) (by omega))).mp z2
          refine v_bipush (v := -4) O dX9_row_43 (by decide) ?_
          refine v_sub (ws' := [(o, .inr (9, [.ref ca, .ref im, .int tk, .ref txo, .ref ba, .ref va, .int (nI vc), .ref nwk, .ref nt, .ref ro, .ref lo, .ref bd, .ref ta])), (ca, .inr (1, [.int (nI c.men), .ref ck, .ref cv, .ref chd, .int (nI c.heap), .int c.dogs, .int (nI c.wak), .int (nI c.rl), .ref cr, .int (nI c.pg), .ref cb, .int c.held])), (ck, eI D 6 (nF c.kk)), (cv, eI D 6 (nF c.vv)), (chd, eI D 6 c.hd), (cr, eI D 8 (nF c.crf)), (cb, eI D 12 (nF c.bo))]) [5, 6, 0, 1, 2, 3, 4] (by decide) rfl ?_
          exact v_ireturn O T rfl rfl (by decide) (by decide) dX9_row_45 (⟨rfl, rfl⟩)
    · skip
      have z1 := b2i_0.mp z1
      exact absurd ((isIx_nI (by omega) (by omega)).mpr hi) z1
  · skip
    exact absurd z0 (zI_m1 (by omega))
set_option maxRecDepth 100000 in
set_option maxHeartbeats 4000000 in
theorem sp_X9_row_4 {D : G} {o : Nat} {ca : Nat} {im : Nat} {tk : Int32} {txo : Nat} {ba : Nat} {va : Nat} {vc : Nat} {nwk : Nat} {nt : Nat} {ro : Nat} {lo : Nat} {bd : Nat} {ta : Nat} {ck : Nat} {cv : Nat} {chd : Nat} {cr : Nat} {cb : Nat} {c : CS} {i : Nat} (hC : cOk c) (hi : i < c.men) (hr : c.rl < 8) : Sp D mX9_row 30 0 0 [.ref o, .int (nI i)] [(o, .inr (9, [.ref ca, .ref im, .int tk, .ref txo, .ref ba, .ref va, .int (nI vc), .ref nwk, .ref nt, .ref ro, .ref lo, .ref bd, .ref ta])), (ca, .inr (1, [.int (nI c.men), .ref ck, .ref cv, .ref chd, .int (nI c.heap), .int c.dogs, .int (nI c.wak), .int (nI c.rl), .ref cr, .int (nI c.pg), .ref cb, .int c.held])), (ck, eI D 6 (nF c.kk)), (cv, eI D 6 (nF c.vv)), (chd, eI D 6 c.hd), (cr, eI D 8 (nF c.crf)), (cb, eI D 12 (nF c.bo))] (fun r w => r = some (.int (nI (c.rl + 1))) ∧ w = [(o, .inr (9, [.ref ca, .ref im, .int tk, .ref txo, .ref ba, .ref va, .int (nI vc), .ref nwk, .ref nt, .ref ro, .ref lo, .ref bd, .ref ta])), (ca, .inr (1, [.int (nI ((cRow c i).men)), .ref ck, .ref cv, .ref chd, .int (nI ((cRow c i).heap)), .int ((cRow c i).dogs), .int (nI ((cRow c i).wak)), .int (nI ((cRow c i).rl)), .ref cr, .int (nI ((cRow c i).pg)), .ref cb, .int ((cRow c i).held)])), (ck, eI D 6 (nF (cRow c i).kk)), (cv, eI D 6 (nF (cRow c i).vv)), (chd, eI D 6 ((cRow c i).hd)), (cr, eI D 8 (nF (cRow c i).crf)), (cb, eI D 12 (nF (cRow c i).bo))]) := by
  refine Sp.of (by decide) (Nat.le_of_ble_eq_true rfl) (fun X O T => ?_)
  refine v_eq (lv' := [(0, .ref o), (1, .int (nI i))]) rfl rfl rfl rfl ?_
  have z_m := hC.1
  have z_hp := hC.2.2.2.1
  have z_wk := hC.2.2.2.2.1
  have z_rl := hC.2.2.2.2.2.1
  have z_pg := hC.2.2.2.2.2.2.2.1
  refine v_iload_n O dX9_row_0 1 rfl ?_
  refine v_iconst (v := -1) O dX9_row_1 (by decide) ?_
  refine v_icmp_ne O 15 dX9_row_2 (by decide) (fun z0 => ?_) (fun z0 => ?_)
  · skip
    refine v_aload_n O dX9_row_15 0 rfl ?_
    refine v_iload_n O dX9_row_16 1 rfl ?_
    refine v_cV (T := TX9) (ci := 9) (As := [.int (nI i)]) (wr := [(ck, eI D 6 (nF c.kk)), (cv, eI D 6 (nF c.vv)), (chd, eI D 6 c.hd), (cr, eI D 8 (nF c.crf)), (cb, eI D 12 (nF c.bo))]) (st := []) O cf_X9_102 rfl (sp_X9_isMan (o := o) (man := (nI i)) (ca := ca) (im := im) (it := tk) (tx := txo) (ba := ba) (vs := va) (vc := (nI vc)) (nw := nwk) (nt := nt) (ro := ro) (ln := lo) (bo := bd) (tp := ta) (men := c.men) (ck := ck) (cv := cv) (chd := chd) (heap := (nI c.heap)) (dogs := c.dogs) (wak := (nI c.wak)) (rl := c.rl) (cr := cr) (pg := c.pg) (cb := cb) (held := c.held) (hC.1)) dX9_row_17 rfl rfl 0 rfl [0, 1] [2, 3, 4, 5, 6] (by decide) rfl rfl (by decide) (by decide) (by decide) (Nat.le_of_ble_eq_true rfl) (by decide) (by decide) (fun r_2 w_3 h_1 => ?_)
    obtain ⟨rfl, rfl⟩ := h_1
    refine v_eq (st' := [.int (b2i (isIx (nI i) c.men))]) (ws' := [(ck, eI D 6 (nF c.kk)), (cv, eI D 6 (nF c.vv)), (chd, eI D 6 c.hd), (cr, eI D 8 (nF c.crf)), (cb, eI D 12 (nF c.bo)), (o, .inr (9, [.ref ca, .ref im, .int tk, .ref txo, .ref ba, .ref va, .int (nI vc), .ref nwk, .ref nt, .ref ro, .ref lo, .ref bd, .ref ta])), (ca, .inr (1, [.int (nI c.men), .ref ck, .ref cv, .ref chd, .int (nI c.heap), .int c.dogs, .int (nI c.wak), .int (nI c.rl), .ref cr, .int (nI c.pg), .ref cb, .int c.held]))]) rfl rfl rfl rfl ?_
    refine v_if_ne O 25 dX9_row_20 (by decide) (fun z1 => ?_) (fun z1 => ?_)
    · skip
      have z1 := b2i_1.mp z1
      refine v_aload_n O dX9_row_25 0 rfl ?_
      refine gf_X9_12 O rfl dX9_row_26 5 rfl rfl ?_
      refine gf_X9_171 O rfl dX9_row_29 6 rfl rfl ?_
      refine v_istore_n (lv' := [(0, .ref o), (1, .int (nI i)), (2, .int (nI c.rl))]) O dX9_row_32 (by decide) rfl ?_
      refine v_iload_n O dX9_row_33 2 rfl ?_
      refine v_if_lt O 43 dX9_row_34 (by decide) (fun c_4 => ?_) (fun c_4 => ?_)
      · skip
        have c_4 := (c_lt (x := nI c.rl) (y := 0) (a := c.rl) (b := 0) rfl rfl (by omega) (by omega)).mp c_4
        exact absurd c_4 (by omega)
      · skip
        have c_4 := (not_congr (c_lt (x := nI c.rl) (y := 0) (a := c.rl) (b := 0) rfl rfl (by omega) (by omega))).mp c_4
        refine v_iload_n O dX9_row_37 2 rfl ?_
        refine v_bipush (v := 8) O dX9_row_38 (by decide) ?_
        refine v_icmp_lt O 46 dX9_row_40 (by decide) (fun z2 => ?_) (fun z2 => ?_)
        · skip
          have z2 := (c_lt (x := nI c.rl) (y := 8) (a := c.rl) (b := 8) rfl rfl (by omega) (by omega)).mp z2
          refine v_aload_n O dX9_row_46 0 rfl ?_
          refine gf_X9_12 O rfl dX9_row_47 5 rfl rfl ?_
          refine gf_X9_174 O rfl dX9_row_50 6 rfl rfl ?_
          refine v_iload_n O dX9_row_53 2 rfl ?_
          refine v_iload_n O dX9_row_54 1 rfl ?_
          refine v_iastk (ws' := [(ck, eI D 6 (nF c.kk)), (cv, eI D 6 (nF c.vv)), (chd, eI D 6 c.hd), (cr, eI D 8 (nF (uN c.crf c.rl i))), (cb, eI D 12 (nF c.bo)), (o, .inr (9, [.ref ca, .ref im, .int tk, .ref txo, .ref ba, .ref va, .int (nI vc), .ref nwk, .ref nt, .ref ro, .ref lo, .ref bd, .ref ta])), (ca, .inr (1, [.int (nI c.men), .ref ck, .ref cv, .ref chd, .int (nI c.heap), .int c.dogs, .int (nI c.wak), .int (nI c.rl), .ref cr, .int (nI c.pg), .ref cb, .int c.held]))]) O dX9_row_55 3 rfl c.rl (rfl) (by omega) (by decide) (by rw [upd_nF]; rfl) ?_
          refine v_aload_n O dX9_row_56 0 rfl ?_
          refine gf_X9_12 O rfl dX9_row_57 5 rfl rfl ?_
          refine v_iload_n O dX9_row_60 2 rfl ?_
          refine v_iconst (v := 1) O dX9_row_61 (by decide) ?_
          refine v_iadd O dX9_row_62 ?_
          refine v_top (y := nI (c.rl + 1)) (nI_add c.rl 1) ?_
          refine pf_X9_171 (fs' := [.int (nI c.men), .ref ck, .ref cv, .ref chd, .int (nI c.heap), .int c.dogs, .int (nI c.wak), .int (nI (c.rl + 1)), .ref cr, .int (nI c.pg), .ref cb, .int c.held]) (ws' := [(ck, eI D 6 (nF c.kk)), (cv, eI D 6 (nF c.vv)), (chd, eI D 6 c.hd), (cr, eI D 8 (nF (uN c.crf c.rl i))), (cb, eI D 12 (nF c.bo)), (o, .inr (9, [.ref ca, .ref im, .int tk, .ref txo, .ref ba, .ref va, .int (nI vc), .ref nwk, .ref nt, .ref ro, .ref lo, .ref bd, .ref ta])), (ca, .inr (1, [.int (nI c.men), .ref ck, .ref cv, .ref chd, .int (nI c.heap), .int c.dogs, .int (nI c.wak), .int (nI (c.rl + 1)), .ref cr, .int (nI c.pg), .ref cb, .int c.held]))]) O rfl dX9_row_63 6 rfl (Nat.le_of_ble_eq_true rfl) rfl rfl ?_
          refine v_iload_n O dX9_row_66 2 rfl ?_
          refine v_iconst (v := 1) O dX9_row_67 (by decide) ?_
          refine v_iadd O dX9_row_68 ?_
          refine v_top (y := nI (c.rl + 1)) (nI_add c.rl 1) ?_
          refine v_sub (ws' := [(o, .inr (9, [.ref ca, .ref im, .int tk, .ref txo, .ref ba, .ref va, .int (nI vc), .ref nwk, .ref nt, .ref ro, .ref lo, .ref bd, .ref ta])), (ca, .inr (1, [.int (nI c.men), .ref ck, .ref cv, .ref chd, .int (nI c.heap), .int c.dogs, .int (nI c.wak), .int (nI (c.rl + 1)), .ref cr, .int (nI c.pg), .ref cb, .int c.held])), (ck, eI D 6 (nF c.kk)), (cv, eI D 6 (nF c.vv)), (chd, eI D 6 c.hd), (cr, eI D 8 (nF (uN c.crf c.rl i))), (cb, eI D 12 (nF c.bo))]) [5, 6, 0, 1, 2, 3, 4] (by decide) rfl ?_
          exact v_ireturn O T rfl rfl (by decide) (by decide) dX9_row_69 (⟨rfl, rfl⟩)
        · skip
          have z2 := (not_congr (c_lt (x := nI c.rl) (y := 8) (a := c.rl) (b := 8) rfl rfl (by omega) (by omega))).mp z2
          exact absurd z2 (by omega)
    · skip
      have z1 := b2i_0.mp z1
      exact absurd ((isIx_nI (by omega) (by omega)).mpr hi) z1
  · skip
    exact absurd z0 (zI_m1 (by omega))
set_option maxRecDepth 100000 in
set_option maxHeartbeats 4000000 in
theorem sp_X9_book_1 {D : G} {o : Nat} {ca : Nat} {im : Nat} {tk : Int32} {txo : Nat} {ba : Nat} {va : Nat} {vc : Nat} {nwk : Nat} {nt : Nat} {ro : Nat} {lo : Nat} {bd : Nat} {ta : Nat} {ck : Nat} {cv : Nat} {chd : Nat} {cr : Nat} {cb : Nat} {c : CS} (hC : cOk c) : Sp D mX9_book 30 0 0 [.ref o, .int (-1)] [(o, .inr (9, [.ref ca, .ref im, .int tk, .ref txo, .ref ba, .ref va, .int (nI vc), .ref nwk, .ref nt, .ref ro, .ref lo, .ref bd, .ref ta])), (ca, .inr (1, [.int (nI c.men), .ref ck, .ref cv, .ref chd, .int (nI c.heap), .int c.dogs, .int (nI c.wak), .int (nI c.rl), .ref cr, .int (nI c.pg), .ref cb, .int c.held])), (ck, eI D 6 (nF c.kk)), (cv, eI D 6 (nF c.vv)), (chd, eI D 6 c.hd), (cr, eI D 8 (nF c.crf)), (cb, eI D 12 (nF c.bo))] (fun r w => r = some (.int 0) ∧ w = [(o, .inr (9, [.ref ca, .ref im, .int tk, .ref txo, .ref ba, .ref va, .int (nI vc), .ref nwk, .ref nt, .ref ro, .ref lo, .ref bd, .ref ta])), (ca, .inr (1, [.int (nI ((cBook0 c).men)), .ref ck, .ref cv, .ref chd, .int (nI ((cBook0 c).heap)), .int ((cBook0 c).dogs), .int (nI ((cBook0 c).wak)), .int (nI ((cBook0 c).rl)), .ref cr, .int (nI ((cBook0 c).pg)), .ref cb, .int ((cBook0 c).held)])), (ck, eI D 6 (nF (cBook0 c).kk)), (cv, eI D 6 (nF (cBook0 c).vv)), (chd, eI D 6 ((cBook0 c).hd)), (cr, eI D 8 (nF (cBook0 c).crf)), (cb, eI D 12 (nF (cBook0 c).bo))]) := by
  refine Sp.of (by decide) (Nat.le_of_ble_eq_true rfl) (fun X O T => ?_)
  refine v_eq (lv' := [(0, .ref o), (1, .int (-1))]) rfl rfl rfl rfl ?_
  have z_m := hC.1
  have z_hp := hC.2.2.2.1
  have z_wk := hC.2.2.2.2.1
  have z_rl := hC.2.2.2.2.2.1
  have z_pg := hC.2.2.2.2.2.2.2.1
  refine v_iload_n O dX9_book_0 1 rfl ?_
  refine v_iconst (v := -1) O dX9_book_1 (by decide) ?_
  refine v_icmp_ne O 15 dX9_book_2 (by decide) (fun z0 => ?_) (fun z0 => ?_)
  · skip
    exact absurd rfl z0
  · skip
    refine v_aload_n O dX9_book_5 0 rfl ?_
    refine gf_X9_12 O rfl dX9_book_6 0 rfl rfl ?_
    refine v_iconst (v := 0) O dX9_book_9 (by decide) ?_
    refine pf_X9_233 (fs' := [.int (nI c.men), .ref ck, .ref cv, .ref chd, .int (nI c.heap), .int c.dogs, .int (nI c.wak), .int (nI c.rl), .ref cr, .int 0, .ref cb, .int c.held]) (ws' := [(o, .inr (9, [.ref ca, .ref im, .int tk, .ref txo, .ref ba, .ref va, .int (nI vc), .ref nwk, .ref nt, .ref ro, .ref lo, .ref bd, .ref ta])), (ca, .inr (1, [.int (nI c.men), .ref ck, .ref cv, .ref chd, .int (nI c.heap), .int c.dogs, .int (nI c.wak), .int (nI c.rl), .ref cr, .int 0, .ref cb, .int c.held])), (ck, eI D 6 (nF c.kk)), (cv, eI D 6 (nF c.vv)), (chd, eI D 6 c.hd), (cr, eI D 8 (nF c.crf)), (cb, eI D 12 (nF c.bo))]) O rfl dX9_book_10 1 rfl (Nat.le_of_ble_eq_true rfl) rfl rfl ?_
    refine v_iconst (v := 0) O dX9_book_13 (by decide) ?_
    exact v_ireturn O T rfl rfl (by decide) (by decide) dX9_book_14 (⟨rfl, rfl⟩)
set_option maxRecDepth 100000 in
set_option maxHeartbeats 4000000 in
theorem sp_X9_book_2 {D : G} {o : Nat} {ca : Nat} {im : Nat} {tk : Int32} {txo : Nat} {ba : Nat} {va : Nat} {vc : Nat} {nwk : Nat} {nt : Nat} {ro : Nat} {lo : Nat} {bd : Nat} {ta : Nat} {ck : Nat} {cv : Nat} {chd : Nat} {cr : Nat} {cb : Nat} {c : CS} {h : Int32} (hC : cOk c) (hh0 : ¬ h = -1) (hh : ¬ isIx h 1000000) : Sp D mX9_book 30 0 0 [.ref o, .int h] [(o, .inr (9, [.ref ca, .ref im, .int tk, .ref txo, .ref ba, .ref va, .int (nI vc), .ref nwk, .ref nt, .ref ro, .ref lo, .ref bd, .ref ta])), (ca, .inr (1, [.int (nI c.men), .ref ck, .ref cv, .ref chd, .int (nI c.heap), .int c.dogs, .int (nI c.wak), .int (nI c.rl), .ref cr, .int (nI c.pg), .ref cb, .int c.held])), (ck, eI D 6 (nF c.kk)), (cv, eI D 6 (nF c.vv)), (chd, eI D 6 c.hd), (cr, eI D 8 (nF c.crf)), (cb, eI D 12 (nF c.bo))] (fun r w => r = some (.int (-2)) ∧ w = [(o, .inr (9, [.ref ca, .ref im, .int tk, .ref txo, .ref ba, .ref va, .int (nI vc), .ref nwk, .ref nt, .ref ro, .ref lo, .ref bd, .ref ta])), (ca, .inr (1, [.int (nI c.men), .ref ck, .ref cv, .ref chd, .int (nI c.heap), .int c.dogs, .int (nI c.wak), .int (nI c.rl), .ref cr, .int (nI c.pg), .ref cb, .int c.held])), (ck, eI D 6 (nF c.kk)), (cv, eI D 6 (nF c.vv)), (chd, eI D 6 c.hd), (cr, eI D 8 (nF c.crf)), (cb, eI D 12 (nF c.bo))]) := by
  refine Sp.of (by decide) (Nat.le_of_ble_eq_true rfl) (fun X O T => ?_)
  refine v_eq (lv' := [(0, .ref o), (1, .int h)]) rfl rfl rfl rfl ?_
  have z_m := hC.1
  have z_hp := hC.2.2.2.1
  have z_wk := hC.2.2.2.2.1
  have z_rl := hC.2.2.2.2.2.1
  have z_pg := hC.2.2.2.2.2.2.2.1
  refine v_iload_n O dX9_book_0 1 rfl ?_
  refine v_iconst (v := -1) O dX9_book_1 (by decide) ?_
  refine v_icmp_ne O 15 dX9_book_2 (by decide) (fun z0 => ?_) (fun z0 => ?_)
  · skip
    refine v_iload_n O dX9_book_15 1 rfl ?_
    refine v_cS (As := [.int h]) (wr := [(o, .inr (9, [.ref ca, .ref im, .int tk, .ref txo, .ref ba, .ref va, .int (nI vc), .ref nwk, .ref nt, .ref ro, .ref lo, .ref bd, .ref ta])), (ca, .inr (1, [.int (nI c.men), .ref ck, .ref cv, .ref chd, .int (nI c.heap), .int c.dogs, .int (nI c.wak), .int (nI c.rl), .ref cr, .int (nI c.pg), .ref cb, .int c.held])), (ck, eI D 6 (nF c.kk)), (cv, eI D 6 (nF c.vv)), (chd, eI D 6 c.hd), (cr, eI D 8 (nF c.crf)), (cb, eI D 12 (nF c.bo))]) (st := []) O cf_X9_128 (sp_X9_isHeap (n := h) ) dX9_book_16 rfl rfl [] [0, 1, 2, 3, 4, 5, 6] (by decide) rfl rfl (by decide) (by decide) (by decide) (Nat.le_of_ble_eq_true rfl) (by decide) (by decide) (fun r_2 w_3 h_1 => ?_)
    obtain ⟨rfl, rfl⟩ := h_1
    refine v_eq (st' := [.int (b2i (isIx h 1000000))]) (ws' := [(o, .inr (9, [.ref ca, .ref im, .int tk, .ref txo, .ref ba, .ref va, .int (nI vc), .ref nwk, .ref nt, .ref ro, .ref lo, .ref bd, .ref ta])), (ca, .inr (1, [.int (nI c.men), .ref ck, .ref cv, .ref chd, .int (nI c.heap), .int c.dogs, .int (nI c.wak), .int (nI c.rl), .ref cr, .int (nI c.pg), .ref cb, .int c.held])), (ck, eI D 6 (nF c.kk)), (cv, eI D 6 (nF c.vv)), (chd, eI D 6 c.hd), (cr, eI D 8 (nF c.crf)), (cb, eI D 12 (nF c.bo))]) rfl rfl rfl rfl ?_
    refine v_if_ne O 25 dX9_book_19 (by decide) (fun z1 => ?_) (fun z1 => ?_)
    · skip
      have z1 := b2i_1.mp z1
      exact absurd z1 hh
    · skip
      have z1 := b2i_0.mp z1
      refine v_bipush (v := -2) O dX9_book_22 (by decide) ?_
      exact v_ireturn O T rfl rfl (by decide) (by decide) dX9_book_24 (⟨rfl, rfl⟩)
  · skip
    exact absurd z0 hh0
set_option maxRecDepth 100000 in
set_option maxHeartbeats 4000000 in
theorem sp_X9_book_3 {D : G} {o : Nat} {ca : Nat} {im : Nat} {tk : Int32} {txo : Nat} {ba : Nat} {va : Nat} {vc : Nat} {nwk : Nat} {nt : Nat} {ro : Nat} {lo : Nat} {bd : Nat} {ta : Nat} {ck : Nat} {cv : Nat} {chd : Nat} {cr : Nat} {cb : Nat} {c : CS} {h : Nat} (hC : cOk c) (hh : h < 1000000) (hp : c.pg = 12) : Sp D mX9_book 30 0 0 [.ref o, .int (nI h)] [(o, .inr (9, [.ref ca, .ref im, .int tk, .ref txo, .ref ba, .ref va, .int (nI vc), .ref nwk, .ref nt, .ref ro, .ref lo, .ref bd, .ref ta])), (ca, .inr (1, [.int (nI c.men), .ref ck, .ref cv, .ref chd, .int (nI c.heap), .int c.dogs, .int (nI c.wak), .int (nI c.rl), .ref cr, .int (nI c.pg), .ref cb, .int c.held])), (ck, eI D 6 (nF c.kk)), (cv, eI D 6 (nF c.vv)), (chd, eI D 6 c.hd), (cr, eI D 8 (nF c.crf)), (cb, eI D 12 (nF c.bo))] (fun r w => r = some (.int (-4)) ∧ w = [(o, .inr (9, [.ref ca, .ref im, .int tk, .ref txo, .ref ba, .ref va, .int (nI vc), .ref nwk, .ref nt, .ref ro, .ref lo, .ref bd, .ref ta])), (ca, .inr (1, [.int (nI c.men), .ref ck, .ref cv, .ref chd, .int (nI c.heap), .int c.dogs, .int (nI c.wak), .int (nI c.rl), .ref cr, .int (nI c.pg), .ref cb, .int c.held])), (ck, eI D 6 (nF c.kk)), (cv, eI D 6 (nF c.vv)), (chd, eI D 6 c.hd), (cr, eI D 8 (nF c.crf)), (cb, eI D 12 (nF c.bo))]) := by
  refine Sp.of (by decide) (Nat.le_of_ble_eq_true rfl) (fun X O T => ?_)
  refine v_eq (lv' := [(0, .ref o), (1, .int (nI h))]) rfl rfl rfl rfl ?_
  have z_m := hC.1
  have z_hp := hC.2.2.2.1
  have z_wk := hC.2.2.2.2.1
  have z_rl := hC.2.2.2.2.2.1
  have z_pg := hC.2.2.2.2.2.2.2.1
  refine v_iload_n O dX9_book_0 1 rfl ?_
  refine v_iconst (v := -1) O dX9_book_1 (by decide) ?_
  refine v_icmp_ne O 15 dX9_book_2 (by decide) (fun z0 => ?_) (fun z0 => ?_)
  · skip
    refine v_iload_n O dX9_book_15 1 rfl ?_
    refine v_cS (As := [.int (nI h)]) (wr := [(o, .inr (9, [.ref ca, .ref im, .int tk, .ref txo, .ref ba, .ref va, .int (nI vc), .ref nwk, .ref nt, .ref ro, .ref lo, .ref bd, .ref ta])), (ca, .inr (1, [.int (nI c.men), .ref ck, .ref cv, .ref chd, .int (nI c.heap), .int c.dogs, .int (nI c.wak), .int (nI c.rl), .ref cr, .int (nI c.pg), .ref cb, .int c.held])), (ck, eI D 6 (nF c.kk)), (cv, eI D 6 (nF c.vv)), (chd, eI D 6 c.hd), (cr, eI D 8 (nF c.crf)), (cb, eI D 12 (nF c.bo))]) (st := []) O cf_X9_128 (sp_X9_isHeap (n := (nI h)) ) dX9_book_16 rfl rfl [] [0, 1, 2, 3, 4, 5, 6] (by decide) rfl rfl (by decide) (by decide) (by decide) (Nat.le_of_ble_eq_true rfl) (by decide) (by decide) (fun r_2 w_3 h_1 => ?_)
    obtain ⟨rfl, rfl⟩ := h_1
    refine v_eq (st' := [.int (b2i (isIx (nI h) 1000000))]) (ws' := [(o, .inr (9, [.ref ca, .ref im, .int tk, .ref txo, .ref ba, .ref va, .int (nI vc), .ref nwk, .ref nt, .ref ro, .ref lo, .ref bd, .ref ta])), (ca, .inr (1, [.int (nI c.men), .ref ck, .ref cv, .ref chd, .int (nI c.heap), .int c.dogs, .int (nI c.wak), .int (nI c.rl), .ref cr, .int (nI c.pg), .ref cb, .int c.held])), (ck, eI D 6 (nF c.kk)), (cv, eI D 6 (nF c.vv)), (chd, eI D 6 c.hd), (cr, eI D 8 (nF c.crf)), (cb, eI D 12 (nF c.bo))]) rfl rfl rfl rfl ?_
    refine v_if_ne O 25 dX9_book_19 (by decide) (fun z1 => ?_) (fun z1 => ?_)
    · skip
      have z1 := b2i_1.mp z1
      refine v_aload_n O dX9_book_25 0 rfl ?_
      refine gf_X9_12 O rfl dX9_book_26 0 rfl rfl ?_
      refine gf_X9_233 O rfl dX9_book_29 1 rfl rfl ?_
      refine v_istore_n (lv' := [(0, .ref o), (1, .int (nI h)), (2, .int (nI c.pg))]) O dX9_book_32 (by decide) rfl ?_
      refine v_iload_n O dX9_book_33 2 rfl ?_
      refine v_if_lt O 43 dX9_book_34 (by decide) (fun c_4 => ?_) (fun c_4 => ?_)
      · skip
        have c_4 := (c_lt (x := nI c.pg) (y := 0) (a := c.pg) (b := 0) rfl rfl (by omega) (by omega)).mp c_4
        exact absurd c_4 (by omega)
      · skip
        have c_4 := (not_congr (c_lt (x := nI c.pg) (y := 0) (a := c.pg) (b := 0) rfl rfl (by omega) (by omega))).mp c_4
        refine v_iload_n O dX9_book_37 2 rfl ?_
        refine v_bipush (v := 12) O dX9_book_38 (by decide) ?_
        refine v_icmp_lt O 46 dX9_book_40 (by decide) (fun z2 => ?_) (fun z2 => ?_)
        · skip
          have z2 := (c_lt (x := nI c.pg) (y := 12) (a := c.pg) (b := 12) rfl rfl (by omega) (by omega)).mp z2
          exact absurd z2 (by omega)
        · skip
          have z2 := (not_congr (c_lt (x := nI c.pg) (y := 12) (a := c.pg) (b := 12) rfl rfl (by omega) (by omega))).mp z2
          refine v_bipush (v := -4) O dX9_book_43 (by decide) ?_
          exact v_ireturn O T rfl rfl (by decide) (by decide) dX9_book_45 (⟨rfl, rfl⟩)
    · skip
      have z1 := b2i_0.mp z1
      exact absurd ((isIx_nI (by omega) (by omega)).mpr hh) z1
  · skip
    exact absurd z0 (zI_m1 (by omega))
set_option maxRecDepth 100000 in
set_option maxHeartbeats 4000000 in
theorem sp_X9_book_4 {D : G} {o : Nat} {ca : Nat} {im : Nat} {tk : Int32} {txo : Nat} {ba : Nat} {va : Nat} {vc : Nat} {nwk : Nat} {nt : Nat} {ro : Nat} {lo : Nat} {bd : Nat} {ta : Nat} {ck : Nat} {cv : Nat} {chd : Nat} {cr : Nat} {cb : Nat} {c : CS} {h : Nat} (hC : cOk c) (hh : h < 1000000) (hp : c.pg < 12) : Sp D mX9_book 30 0 0 [.ref o, .int (nI h)] [(o, .inr (9, [.ref ca, .ref im, .int tk, .ref txo, .ref ba, .ref va, .int (nI vc), .ref nwk, .ref nt, .ref ro, .ref lo, .ref bd, .ref ta])), (ca, .inr (1, [.int (nI c.men), .ref ck, .ref cv, .ref chd, .int (nI c.heap), .int c.dogs, .int (nI c.wak), .int (nI c.rl), .ref cr, .int (nI c.pg), .ref cb, .int c.held])), (ck, eI D 6 (nF c.kk)), (cv, eI D 6 (nF c.vv)), (chd, eI D 6 c.hd), (cr, eI D 8 (nF c.crf)), (cb, eI D 12 (nF c.bo))] (fun r w => r = some (.int (nI (c.pg + 1))) ∧ w = [(o, .inr (9, [.ref ca, .ref im, .int tk, .ref txo, .ref ba, .ref va, .int (nI vc), .ref nwk, .ref nt, .ref ro, .ref lo, .ref bd, .ref ta])), (ca, .inr (1, [.int (nI ((cBook c h).men)), .ref ck, .ref cv, .ref chd, .int (nI ((cBook c h).heap)), .int ((cBook c h).dogs), .int (nI ((cBook c h).wak)), .int (nI ((cBook c h).rl)), .ref cr, .int (nI ((cBook c h).pg)), .ref cb, .int ((cBook c h).held)])), (ck, eI D 6 (nF (cBook c h).kk)), (cv, eI D 6 (nF (cBook c h).vv)), (chd, eI D 6 ((cBook c h).hd)), (cr, eI D 8 (nF (cBook c h).crf)), (cb, eI D 12 (nF (cBook c h).bo))]) := by
  refine Sp.of (by decide) (Nat.le_of_ble_eq_true rfl) (fun X O T => ?_)
  refine v_eq (lv' := [(0, .ref o), (1, .int (nI h))]) rfl rfl rfl rfl ?_
  have z_m := hC.1
  have z_hp := hC.2.2.2.1
  have z_wk := hC.2.2.2.2.1
  have z_rl := hC.2.2.2.2.2.1
  have z_pg := hC.2.2.2.2.2.2.2.1
  refine v_iload_n O dX9_book_0 1 rfl ?_
  refine v_iconst (v := -1) O dX9_book_1 (by decide) ?_
  refine v_icmp_ne O 15 dX9_book_2 (by decide) (fun z0 => ?_) (fun z0 => ?_)
  · skip
    refine v_iload_n O dX9_book_15 1 rfl ?_
    refine v_cS (As := [.int (nI h)]) (wr := [(o, .inr (9, [.ref ca, .ref im, .int tk, .ref txo, .ref ba, .ref va, .int (nI vc), .ref nwk, .ref nt, .ref ro, .ref lo, .ref bd, .ref ta])), (ca, .inr (1, [.int (nI c.men), .ref ck, .ref cv, .ref chd, .int (nI c.heap), .int c.dogs, .int (nI c.wak), .int (nI c.rl), .ref cr, .int (nI c.pg), .ref cb, .int c.held])), (ck, eI D 6 (nF c.kk)), (cv, eI D 6 (nF c.vv)), (chd, eI D 6 c.hd), (cr, eI D 8 (nF c.crf)), (cb, eI D 12 (nF c.bo))]) (st := []) O cf_X9_128 (sp_X9_isHeap (n := (nI h)) ) dX9_book_16 rfl rfl [] [0, 1, 2, 3, 4, 5, 6] (by decide) rfl rfl (by decide) (by decide) (by decide) (Nat.le_of_ble_eq_true rfl) (by decide) (by decide) (fun r_2 w_3 h_1 => ?_)
    obtain ⟨rfl, rfl⟩ := h_1
    refine v_eq (st' := [.int (b2i (isIx (nI h) 1000000))]) (ws' := [(o, .inr (9, [.ref ca, .ref im, .int tk, .ref txo, .ref ba, .ref va, .int (nI vc), .ref nwk, .ref nt, .ref ro, .ref lo, .ref bd, .ref ta])), (ca, .inr (1, [.int (nI c.men), .ref ck, .ref cv, .ref chd, .int (nI c.heap), .int c.dogs, .int (nI c.wak), .int (nI c.rl), .ref cr, .int (nI c.pg), .ref cb, .int c.held])), (ck, eI D 6 (nF c.kk)), (cv, eI D 6 (nF c.vv)), (chd, eI D 6 c.hd), (cr, eI D 8 (nF c.crf)), (cb, eI D 12 (nF c.bo))]) rfl rfl rfl rfl ?_
    refine v_if_ne O 25 dX9_book_19 (by decide) (fun z1 => ?_) (fun z1 => ?_)
    · skip
      have z1 := b2i_1.mp z1
      refine v_aload_n O dX9_book_25 0 rfl ?_
      refine gf_X9_12 O rfl dX9_book_26 0 rfl rfl ?_
      refine gf_X9_233 O rfl dX9_book_29 1 rfl rfl ?_
      refine v_istore_n (lv' := [(0, .ref o), (1, .int (nI h)), (2, .int (nI c.pg))]) O dX9_book_32 (by decide) rfl ?_
      refine v_iload_n O dX9_book_33 2 rfl ?_
      refine v_if_lt O 43 dX9_book_34 (by decide) (fun c_4 => ?_) (fun c_4 => ?_)
      · skip
        have c_4 := (c_lt (x := nI c.pg) (y := 0) (a := c.pg) (b := 0) rfl rfl (by omega) (by omega)).mp c_4
        exact absurd c_4 (by omega)
      · skip
        have c_4 := (not_congr (c_lt (x := nI c.pg) (y := 0) (a := c.pg) (b := 0) rfl rfl (by omega) (by omega))).mp c_4
        refine v_iload_n O dX9_book_37 2 rfl ?_
        refine v_bipush (v := 12) O dX9_book_38 (by decide) ?_
        refine v_icmp_lt O 46 dX9_book_40 (by decide) (fun z2 => ?_) (fun z2 => ?_)
        · skip
          have z2 := (c_lt (x := nI c.pg) (y := 12) (a := c.pg) (b := 12) rfl rfl (by omega) (by omega)).mp z2
          refine v_aload_n O dX9_book_46 0 rfl ?_
          refine gf_X9_12 O rfl dX9_book_47 0 rfl rfl ?_
          refine gf_X9_236 O rfl dX9_book_50 1 rfl rfl ?_
          refine v_iload_n O dX9_book_53 2 rfl ?_
          refine v_iload_n O dX9_book_54 1 rfl ?_
          refine v_iastk (ws' := [(o, .inr (9, [.ref ca, .ref im, .int tk, .ref txo, .ref ba, .ref va, .int (nI vc), .ref nwk, .ref nt, .ref ro, .ref lo, .ref bd, .ref ta])), (ca, .inr (1, [.int (nI c.men), .ref ck, .ref cv, .ref chd, .int (nI c.heap), .int c.dogs, .int (nI c.wak), .int (nI c.rl), .ref cr, .int (nI c.pg), .ref cb, .int c.held])), (ck, eI D 6 (nF c.kk)), (cv, eI D 6 (nF c.vv)), (chd, eI D 6 c.hd), (cr, eI D 8 (nF c.crf)), (cb, eI D 12 (nF (uN c.bo c.pg h)))]) O dX9_book_55 6 rfl c.pg (rfl) (by omega) (by decide) (by rw [upd_nF]; rfl) ?_
          refine v_aload_n O dX9_book_56 0 rfl ?_
          refine gf_X9_12 O rfl dX9_book_57 0 rfl rfl ?_
          refine v_iload_n O dX9_book_60 2 rfl ?_
          refine v_iconst (v := 1) O dX9_book_61 (by decide) ?_
          refine v_iadd O dX9_book_62 ?_
          refine v_top (y := nI (c.pg + 1)) (nI_add c.pg 1) ?_
          refine pf_X9_233 (fs' := [.int (nI c.men), .ref ck, .ref cv, .ref chd, .int (nI c.heap), .int c.dogs, .int (nI c.wak), .int (nI c.rl), .ref cr, .int (nI (c.pg + 1)), .ref cb, .int c.held]) (ws' := [(o, .inr (9, [.ref ca, .ref im, .int tk, .ref txo, .ref ba, .ref va, .int (nI vc), .ref nwk, .ref nt, .ref ro, .ref lo, .ref bd, .ref ta])), (ca, .inr (1, [.int (nI c.men), .ref ck, .ref cv, .ref chd, .int (nI c.heap), .int c.dogs, .int (nI c.wak), .int (nI c.rl), .ref cr, .int (nI (c.pg + 1)), .ref cb, .int c.held])), (ck, eI D 6 (nF c.kk)), (cv, eI D 6 (nF c.vv)), (chd, eI D 6 c.hd), (cr, eI D 8 (nF c.crf)), (cb, eI D 12 (nF (uN c.bo c.pg h)))]) O rfl dX9_book_63 1 rfl (Nat.le_of_ble_eq_true rfl) rfl rfl ?_
          refine v_iload_n O dX9_book_66 2 rfl ?_
          refine v_iconst (v := 1) O dX9_book_67 (by decide) ?_
          refine v_iadd O dX9_book_68 ?_
          refine v_top (y := nI (c.pg + 1)) (nI_add c.pg 1) ?_
          exact v_ireturn O T rfl rfl (by decide) (by decide) dX9_book_69 (⟨rfl, rfl⟩)
        · skip
          have z2 := (not_congr (c_lt (x := nI c.pg) (y := 12) (a := c.pg) (b := 12) rfl rfl (by omega) (by omega))).mp z2
          exact absurd z2 (by omega)
    · skip
      have z1 := b2i_0.mp z1
      exact absurd ((isIx_nI (by omega) (by omega)).mpr hh) z1
  · skip
    exact absurd z0 (zI_m1 (by omega))
set_option maxRecDepth 100000 in
set_option maxHeartbeats 4000000 in
theorem sp_X9_image_1 {D : G} {o : Nat} {ca : Nat} {im : Nat} {tk : Int32} {txo : Nat} {ba : Nat} {va : Nat} {vc : Nat} {nwk : Nat} {nt : Nat} {ro : Nat} {lo : Nat} {bd : Nat} {ta : Nat} {ck : Nat} {cv : Nat} {chd : Nat} {cr : Nat} {cb : Nat} {c : CS} {ik : Nat} {iv : Nat} {ih : Nat} {ir : Nat} {ib : Nat} {c2 : CS} (hC : cOk c) : Sp D mX9_image 30 0 0 [.ref o] [(o, .inr (9, [.ref ca, .ref im, .int tk, .ref txo, .ref ba, .ref va, .int (nI vc), .ref nwk, .ref nt, .ref ro, .ref lo, .ref bd, .ref ta])), (ca, .inr (1, [.int (nI c.men), .ref ck, .ref cv, .ref chd, .int (nI c.heap), .int c.dogs, .int (nI c.wak), .int (nI c.rl), .ref cr, .int (nI c.pg), .ref cb, .int c.held])), (ck, eI D 6 (nF c.kk)), (cv, eI D 6 (nF c.vv)), (chd, eI D 6 c.hd), (cr, eI D 8 (nF c.crf)), (cb, eI D 12 (nF c.bo)), (im, .inr (1, [.int (nI c2.men), .ref ik, .ref iv, .ref ih, .int (nI c2.heap), .int c2.dogs, .int (nI c2.wak), .int (nI c2.rl), .ref ir, .int (nI c2.pg), .ref ib, .int c2.held])), (ik, eI D 6 (nF c2.kk)), (iv, eI D 6 (nF c2.vv)), (ih, eI D 6 c2.hd), (ir, eI D 8 (nF c2.crf)), (ib, eI D 12 (nF c2.bo))] (fun r w => r = some (.int (nI c.men)) ∧ w = [(o, .inr (9, [.ref ca, .ref im, .int 1, .ref txo, .ref ba, .ref va, .int (nI vc), .ref nwk, .ref nt, .ref ro, .ref lo, .ref bd, .ref ta])), (ca, .inr (1, [.int (nI c.men), .ref ck, .ref cv, .ref chd, .int (nI c.heap), .int c.dogs, .int (nI c.wak), .int (nI c.rl), .ref cr, .int (nI c.pg), .ref cb, .int c.held])), (ck, eI D 6 (nF c.kk)), (cv, eI D 6 (nF c.vv)), (chd, eI D 6 c.hd), (cr, eI D 8 (nF c.crf)), (cb, eI D 12 (nF c.bo)), (im, .inr (1, [.int (nI c.men), .ref ik, .ref iv, .ref ih, .int (nI c.heap), .int c.dogs, .int (nI c.wak), .int (nI c.rl), .ref ir, .int (nI c.pg), .ref ib, .int c.held])), (ik, eI D 6 (nF c.kk)), (iv, eI D 6 (nF c.vv)), (ih, eI D 6 c.hd), (ir, eI D 8 (nF c.crf)), (ib, eI D 12 (nF c.bo))]) := by
  refine Sp.of (by decide) (Nat.le_of_ble_eq_true rfl) (fun X O T => ?_)
  refine v_eq (lv' := [(0, .ref o)]) rfl rfl rfl rfl ?_
  have z_m := hC.1
  have z_hp := hC.2.2.2.1
  have z_wk := hC.2.2.2.2.1
  have z_rl := hC.2.2.2.2.2.1
  have z_pg := hC.2.2.2.2.2.2.2.1
  refine v_aload_n O dX9_image_0 0 rfl ?_
  refine gf_X9_18 O rfl dX9_image_1 0 rfl rfl ?_
  refine v_aload_n O dX9_image_4 0 rfl ?_
  refine gf_X9_12 O rfl dX9_image_5 0 rfl rfl ?_
  refine v_cV (T := TX1) (ci := 1) (As := [.ref ca]) (wr := [(o, .inr (9, [.ref ca, .ref im, .int tk, .ref txo, .ref ba, .ref va, .int (nI vc), .ref nwk, .ref nt, .ref ro, .ref lo, .ref bd, .ref ta]))]) (st := []) O cf_X9_262 rfl (sp_X1_becomes (ca := im) (ca2 := ca) (ck := ik) (cv := iv) (chd := ih) (cr := ir) (cb := ib) (c := c2) (ck2 := ck) (cv2 := cv) (chd2 := chd) (cr2 := cr) (cb2 := cb) (c2 := c) ) dX9_image_8 rfl rfl 7 rfl [7, 8, 9, 10, 11, 12, 1, 2, 3, 4, 5, 6] [0] (by decide) rfl rfl (by decide) (by decide) (by decide) (Nat.le_of_ble_eq_true rfl) (by decide) (by decide) (fun r_2 w_3 h_1 => ?_)
  obtain ⟨rfl, rfl⟩ := h_1
  refine v_eq (st' := []) (ws' := [(o, .inr (9, [.ref ca, .ref im, .int tk, .ref txo, .ref ba, .ref va, .int (nI vc), .ref nwk, .ref nt, .ref ro, .ref lo, .ref bd, .ref ta])), (im, .inr (1, [.int (nI c.men), .ref ik, .ref iv, .ref ih, .int (nI c.heap), .int c.dogs, .int (nI c.wak), .int (nI c.rl), .ref ir, .int (nI c.pg), .ref ib, .int c.held])), (ik, eI D 6 (nF c.kk)), (iv, eI D 6 (nF c.vv)), (ih, eI D 6 c.hd), (ir, eI D 8 (nF c.crf)), (ib, eI D 12 (nF c.bo)), (ca, .inr (1, [.int (nI c.men), .ref ck, .ref cv, .ref chd, .int (nI c.heap), .int c.dogs, .int (nI c.wak), .int (nI c.rl), .ref cr, .int (nI c.pg), .ref cb, .int c.held])), (ck, eI D 6 (nF c.kk)), (cv, eI D 6 (nF c.vv)), (chd, eI D 6 c.hd), (cr, eI D 8 (nF c.crf)), (cb, eI D 12 (nF c.bo))]) rfl rfl rfl rfl ?_
  refine v_aload_n O dX9_image_11 0 rfl ?_
  refine v_iconst (v := 1) O dX9_image_12 (by decide) ?_
  refine pf_X9_21 (fs' := [.ref ca, .ref im, .int 1, .ref txo, .ref ba, .ref va, .int (nI vc), .ref nwk, .ref nt, .ref ro, .ref lo, .ref bd, .ref ta]) (ws' := [(o, .inr (9, [.ref ca, .ref im, .int 1, .ref txo, .ref ba, .ref va, .int (nI vc), .ref nwk, .ref nt, .ref ro, .ref lo, .ref bd, .ref ta])), (im, .inr (1, [.int (nI c.men), .ref ik, .ref iv, .ref ih, .int (nI c.heap), .int c.dogs, .int (nI c.wak), .int (nI c.rl), .ref ir, .int (nI c.pg), .ref ib, .int c.held])), (ik, eI D 6 (nF c.kk)), (iv, eI D 6 (nF c.vv)), (ih, eI D 6 c.hd), (ir, eI D 8 (nF c.crf)), (ib, eI D 12 (nF c.bo)), (ca, .inr (1, [.int (nI c.men), .ref ck, .ref cv, .ref chd, .int (nI c.heap), .int c.dogs, .int (nI c.wak), .int (nI c.rl), .ref cr, .int (nI c.pg), .ref cb, .int c.held])), (ck, eI D 6 (nF c.kk)), (cv, eI D 6 (nF c.vv)), (chd, eI D 6 c.hd), (cr, eI D 8 (nF c.crf)), (cb, eI D 12 (nF c.bo))]) O rfl dX9_image_13 0 rfl rfl rfl (Nat.le_of_ble_eq_true rfl) rfl rfl ?_
  refine v_aload_n O dX9_image_16 0 rfl ?_
  refine gf_X9_12 O rfl dX9_image_17 0 rfl rfl ?_
  refine gf_X9_89 O rfl dX9_image_20 7 rfl rfl ?_
  refine v_sub (ws' := [(o, .inr (9, [.ref ca, .ref im, .int 1, .ref txo, .ref ba, .ref va, .int (nI vc), .ref nwk, .ref nt, .ref ro, .ref lo, .ref bd, .ref ta])), (ca, .inr (1, [.int (nI c.men), .ref ck, .ref cv, .ref chd, .int (nI c.heap), .int c.dogs, .int (nI c.wak), .int (nI c.rl), .ref cr, .int (nI c.pg), .ref cb, .int c.held])), (ck, eI D 6 (nF c.kk)), (cv, eI D 6 (nF c.vv)), (chd, eI D 6 c.hd), (cr, eI D 8 (nF c.crf)), (cb, eI D 12 (nF c.bo)), (im, .inr (1, [.int (nI c.men), .ref ik, .ref iv, .ref ih, .int (nI c.heap), .int c.dogs, .int (nI c.wak), .int (nI c.rl), .ref ir, .int (nI c.pg), .ref ib, .int c.held])), (ik, eI D 6 (nF c.kk)), (iv, eI D 6 (nF c.vv)), (ih, eI D 6 c.hd), (ir, eI D 8 (nF c.crf)), (ib, eI D 12 (nF c.bo))]) [0, 7, 8, 9, 10, 11, 12, 1, 2, 3, 4, 5, 6] (by decide) rfl ?_
  exact v_ireturn O T rfl rfl (by decide) (by decide) dX9_image_23 (⟨rfl, rfl⟩)
set_option maxRecDepth 100000 in
set_option maxHeartbeats 4000000 in
theorem sp_X9_undo_1 {D : G} {o : Nat} {ca : Nat} {im : Nat} {tk : Int32} {txo : Nat} {ba : Nat} {va : Nat} {vc : Nat} {nwk : Nat} {nt : Nat} {ro : Nat} {lo : Nat} {bd : Nat} {ta : Nat} (ht : tk = 0) : Sp D mX9_undo 30 0 0 [.ref o] [(o, .inr (9, [.ref ca, .ref im, .int tk, .ref txo, .ref ba, .ref va, .int (nI vc), .ref nwk, .ref nt, .ref ro, .ref lo, .ref bd, .ref ta]))] (fun r w => r = some (.int (-3)) ∧ w = [(o, .inr (9, [.ref ca, .ref im, .int tk, .ref txo, .ref ba, .ref va, .int (nI vc), .ref nwk, .ref nt, .ref ro, .ref lo, .ref bd, .ref ta]))]) := by
  refine Sp.of (by decide) (Nat.le_of_ble_eq_true rfl) (fun X O T => ?_)
  refine v_eq (lv' := [(0, .ref o)]) rfl rfl rfl rfl ?_
  refine v_aload_n O dX9_undo_0 0 rfl ?_
  refine gf_X9_21 O rfl dX9_undo_1 0 rfl rfl ?_
  refine v_if_ne O 10 dX9_undo_4 (by decide) (fun z1 => ?_) (fun z1 => ?_)
  · skip
    exact absurd ht z1
  · skip
    refine v_bipush (v := -3) O dX9_undo_7 (by decide) ?_
    exact v_ireturn O T rfl rfl (by decide) (by decide) dX9_undo_9 (⟨rfl, rfl⟩)
set_option maxRecDepth 100000 in
set_option maxHeartbeats 4000000 in
theorem sp_X9_undo_2 {D : G} {o : Nat} {ca : Nat} {im : Nat} {tk : Int32} {txo : Nat} {ba : Nat} {va : Nat} {vc : Nat} {nwk : Nat} {nt : Nat} {ro : Nat} {lo : Nat} {bd : Nat} {ta : Nat} {ck : Nat} {cv : Nat} {chd : Nat} {cr : Nat} {cb : Nat} {c : CS} {ik : Nat} {iv : Nat} {ih : Nat} {ir : Nat} {ib : Nat} {c2 : CS} (hC : cOk c) (ht : tk = 1) : Sp D mX9_undo 30 0 0 [.ref o] [(o, .inr (9, [.ref ca, .ref im, .int tk, .ref txo, .ref ba, .ref va, .int (nI vc), .ref nwk, .ref nt, .ref ro, .ref lo, .ref bd, .ref ta])), (ca, .inr (1, [.int (nI c.men), .ref ck, .ref cv, .ref chd, .int (nI c.heap), .int c.dogs, .int (nI c.wak), .int (nI c.rl), .ref cr, .int (nI c.pg), .ref cb, .int c.held])), (ck, eI D 6 (nF c.kk)), (cv, eI D 6 (nF c.vv)), (chd, eI D 6 c.hd), (cr, eI D 8 (nF c.crf)), (cb, eI D 12 (nF c.bo)), (im, .inr (1, [.int (nI c2.men), .ref ik, .ref iv, .ref ih, .int (nI c2.heap), .int c2.dogs, .int (nI c2.wak), .int (nI c2.rl), .ref ir, .int (nI c2.pg), .ref ib, .int c2.held])), (ik, eI D 6 (nF c2.kk)), (iv, eI D 6 (nF c2.vv)), (ih, eI D 6 c2.hd), (ir, eI D 8 (nF c2.crf)), (ib, eI D 12 (nF c2.bo))] (fun r w => r = some (.int (nI c2.men)) ∧ w = [(o, .inr (9, [.ref ca, .ref im, .int tk, .ref txo, .ref ba, .ref va, .int (nI vc), .ref nwk, .ref nt, .ref ro, .ref lo, .ref bd, .ref ta])), (ca, .inr (1, [.int (nI c2.men), .ref ck, .ref cv, .ref chd, .int (nI c2.heap), .int c2.dogs, .int (nI c2.wak), .int (nI c2.rl), .ref cr, .int (nI c2.pg), .ref cb, .int c2.held])), (ck, eI D 6 (nF c2.kk)), (cv, eI D 6 (nF c2.vv)), (chd, eI D 6 c2.hd), (cr, eI D 8 (nF c2.crf)), (cb, eI D 12 (nF c2.bo)), (im, .inr (1, [.int (nI c2.men), .ref ik, .ref iv, .ref ih, .int (nI c2.heap), .int c2.dogs, .int (nI c2.wak), .int (nI c2.rl), .ref ir, .int (nI c2.pg), .ref ib, .int c2.held])), (ik, eI D 6 (nF c2.kk)), (iv, eI D 6 (nF c2.vv)), (ih, eI D 6 c2.hd), (ir, eI D 8 (nF c2.crf)), (ib, eI D 12 (nF c2.bo))]) := by
  refine Sp.of (by decide) (Nat.le_of_ble_eq_true rfl) (fun X O T => ?_)
  refine v_eq (lv' := [(0, .ref o)]) rfl rfl rfl rfl ?_
  have z_m := hC.1
  have z_hp := hC.2.2.2.1
  have z_wk := hC.2.2.2.2.1
  have z_rl := hC.2.2.2.2.2.1
  have z_pg := hC.2.2.2.2.2.2.2.1
  refine v_aload_n O dX9_undo_0 0 rfl ?_
  refine gf_X9_21 O rfl dX9_undo_1 0 rfl rfl ?_
  refine v_if_ne O 10 dX9_undo_4 (by decide) (fun z1 => ?_) (fun z1 => ?_)
  · skip
    refine v_aload_n O dX9_undo_10 0 rfl ?_
    refine gf_X9_12 O rfl dX9_undo_11 0 rfl rfl ?_
    refine v_aload_n O dX9_undo_14 0 rfl ?_
    refine gf_X9_18 O rfl dX9_undo_15 0 rfl rfl ?_
    refine v_cV (T := TX1) (ci := 1) (As := [.ref im]) (wr := [(o, .inr (9, [.ref ca, .ref im, .int tk, .ref txo, .ref ba, .ref va, .int (nI vc), .ref nwk, .ref nt, .ref ro, .ref lo, .ref bd, .ref ta]))]) (st := []) O cf_X9_262 rfl (sp_X1_becomes (ca := ca) (ca2 := im) (ck := ck) (cv := cv) (chd := chd) (cr := cr) (cb := cb) (c := c) (ck2 := ik) (cv2 := iv) (chd2 := ih) (cr2 := ir) (cb2 := ib) (c2 := c2) ) dX9_undo_18 rfl rfl 1 rfl [1, 2, 3, 4, 5, 6, 7, 8, 9, 10, 11, 12] [0] (by decide) rfl rfl (by decide) (by decide) (by decide) (Nat.le_of_ble_eq_true rfl) (by decide) (by decide) (fun r_2 w_3 h_1 => ?_)
    obtain ⟨rfl, rfl⟩ := h_1
    refine v_eq (st' := []) (ws' := [(o, .inr (9, [.ref ca, .ref im, .int tk, .ref txo, .ref ba, .ref va, .int (nI vc), .ref nwk, .ref nt, .ref ro, .ref lo, .ref bd, .ref ta])), (ca, .inr (1, [.int (nI c2.men), .ref ck, .ref cv, .ref chd, .int (nI c2.heap), .int c2.dogs, .int (nI c2.wak), .int (nI c2.rl), .ref cr, .int (nI c2.pg), .ref cb, .int c2.held])), (ck, eI D 6 (nF c2.kk)), (cv, eI D 6 (nF c2.vv)), (chd, eI D 6 c2.hd), (cr, eI D 8 (nF c2.crf)), (cb, eI D 12 (nF c2.bo)), (im, .inr (1, [.int (nI c2.men), .ref ik, .ref iv, .ref ih, .int (nI c2.heap), .int c2.dogs, .int (nI c2.wak), .int (nI c2.rl), .ref ir, .int (nI c2.pg), .ref ib, .int c2.held])), (ik, eI D 6 (nF c2.kk)), (iv, eI D 6 (nF c2.vv)), (ih, eI D 6 c2.hd), (ir, eI D 8 (nF c2.crf)), (ib, eI D 12 (nF c2.bo))]) rfl rfl rfl rfl ?_
    refine v_aload_n O dX9_undo_21 0 rfl ?_
    refine gf_X9_12 O rfl dX9_undo_22 0 rfl rfl ?_
    refine gf_X9_89 O rfl dX9_undo_25 1 rfl rfl ?_
    exact v_ireturn O T rfl rfl (by decide) (by decide) dX9_undo_28 (⟨rfl, rfl⟩)
  · skip
    rw [ht] at z1; exact absurd z1 (by decide)
set_option maxRecDepth 100000 in
set_option maxHeartbeats 4000000 in
theorem sp_X9_act_1 {D : G} {o : Nat} {ca : Nat} {im : Nat} {tk : Int32} {txo : Nat} {ba : Nat} {va : Nat} {vc : Nat} {nwk : Nat} {nt : Nat} {ro : Nat} {lo : Nat} {bd : Nat} {ta : Nat} {ck : Nat} {cv : Nat} {chd : Nat} {cr : Nat} {cb : Nat} {c : CS} {tr : Nat} {rn : Nat} {bi : Int32} {bk9 : Nat} {bv : Int32} {f : Nat → Int32} {i : Int32} {a : Int32} {x : Int32} (hC : cOk c) (hi : ¬ isIx i c.men) : Sp D mX9_act 30 0 0 [.ref o, .int i, .int a, .int x] [(o, .inr (9, [.ref ca, .ref im, .int tk, .ref txo, .ref ba, .ref va, .int (nI vc), .ref nwk, .ref nt, .ref ro, .ref lo, .ref bd, .ref ta])), (ca, .inr (1, [.int (nI c.men), .ref ck, .ref cv, .ref chd, .int (nI c.heap), .int c.dogs, .int (nI c.wak), .int (nI c.rl), .ref cr, .int (nI c.pg), .ref cb, .int c.held])), (ck, eI D 6 (nF c.kk)), (cv, eI D 6 (nF c.vv)), (chd, eI D 6 c.hd), (cr, eI D 8 (nF c.crf)), (cb, eI D 12 (nF c.bo)), (bd, .inr (0, [.ref tr, .int (nI rn), .int bi, .int (nI bk9), .int bv])), (tr, eI D 20 f)] (fun r w => ∃ bi1 : Int32, ∃ bk1 : Nat, ∃ bv1 : Int32, r = some (.int 0) ∧ w = [(o, .inr (9, [.ref ca, .ref im, .int tk, .ref txo, .ref ba, .ref va, .int (nI vc), .ref nwk, .ref nt, .ref ro, .ref lo, .ref bd, .ref ta])), (ca, .inr (1, [.int (nI c.men), .ref ck, .ref cv, .ref chd, .int (nI c.heap), .int c.dogs, .int (nI c.wak), .int (nI c.rl), .ref cr, .int (nI c.pg), .ref cb, .int c.held])), (ck, eI D 6 (nF c.kk)), (cv, eI D 6 (nF c.vv)), (chd, eI D 6 c.hd), (cr, eI D 8 (nF c.crf)), (cb, eI D 12 (nF c.bo)), (bd, .inr (0, [.ref tr, .int (nI 0), .int bi1, .int (nI bk1), .int bv1])), (tr, eI D 20 f)]) := by
  refine Sp.of (by decide) (Nat.le_of_ble_eq_true rfl) (fun X O T => ?_)
  refine v_eq (lv' := [(0, .ref o), (1, .int i), (2, .int a), (3, .int x)]) rfl rfl rfl rfl ?_
  have z_m := hC.1
  have z_hp := hC.2.2.2.1
  have z_wk := hC.2.2.2.2.1
  have z_rl := hC.2.2.2.2.2.1
  have z_pg := hC.2.2.2.2.2.2.2.1
  refine v_aload_n O dX9_act_0 0 rfl ?_
  refine gf_X9_78 O rfl dX9_act_1 0 rfl rfl ?_
  refine v_cV (T := TX0) (ci := 0) (As := []) (wr := [(o, .inr (9, [.ref ca, .ref im, .int tk, .ref txo, .ref ba, .ref va, .int (nI vc), .ref nwk, .ref nt, .ref ro, .ref lo, .ref bd, .ref ta])), (ca, .inr (1, [.int (nI c.men), .ref ck, .ref cv, .ref chd, .int (nI c.heap), .int c.dogs, .int (nI c.wak), .int (nI c.rl), .ref cr, .int (nI c.pg), .ref cb, .int c.held])), (ck, eI D 6 (nF c.kk)), (cv, eI D 6 (nF c.vv)), (chd, eI D 6 c.hd), (cr, eI D 8 (nF c.crf)), (cb, eI D 12 (nF c.bo)), (tr, eI D 20 f)]) (st := []) O cf_X9_265 rfl (sp_X0_forget (bo := bd) (tr := tr) (rn := (nI rn)) (i := bi) (kd := (nI bk9)) (v := bv) ) dX9_act_4 rfl rfl 7 rfl [7] [0, 1, 2, 3, 4, 5, 6, 8] (by decide) rfl rfl (by decide) (by decide) (by decide) (Nat.le_of_ble_eq_true rfl) (by decide) (by decide) (fun r_2 w_3 h_1 => ?_)
  obtain ⟨rfl, rfl⟩ := h_1
  refine v_eq (st' := []) (ws' := [(o, .inr (9, [.ref ca, .ref im, .int tk, .ref txo, .ref ba, .ref va, .int (nI vc), .ref nwk, .ref nt, .ref ro, .ref lo, .ref bd, .ref ta])), (ca, .inr (1, [.int (nI c.men), .ref ck, .ref cv, .ref chd, .int (nI c.heap), .int c.dogs, .int (nI c.wak), .int (nI c.rl), .ref cr, .int (nI c.pg), .ref cb, .int c.held])), (ck, eI D 6 (nF c.kk)), (cv, eI D 6 (nF c.vv)), (chd, eI D 6 c.hd), (cr, eI D 8 (nF c.crf)), (cb, eI D 12 (nF c.bo)), (tr, eI D 20 f), (bd, .inr (0, [.ref tr, .int (nI 0), .int bi, .int (nI bk9), .int bv]))]) rfl rfl rfl rfl ?_
  refine v_aload_n O dX9_act_7 0 rfl ?_
  refine v_iload_n O dX9_act_8 1 rfl ?_
  refine v_cV (T := TX9) (ci := 9) (As := [.int i]) (wr := [(ck, eI D 6 (nF c.kk)), (cv, eI D 6 (nF c.vv)), (chd, eI D 6 c.hd), (cr, eI D 8 (nF c.crf)), (cb, eI D 12 (nF c.bo)), (tr, eI D 20 f), (bd, .inr (0, [.ref tr, .int (nI 0), .int bi, .int (nI bk9), .int bv]))]) (st := []) O cf_X9_102 rfl (sp_X9_isMan (o := o) (man := i) (ca := ca) (im := im) (it := tk) (tx := txo) (ba := ba) (vs := va) (vc := (nI vc)) (nw := nwk) (nt := nt) (ro := ro) (ln := lo) (bo := bd) (tp := ta) (men := c.men) (ck := ck) (cv := cv) (chd := chd) (heap := (nI c.heap)) (dogs := c.dogs) (wak := (nI c.wak)) (rl := c.rl) (cr := cr) (pg := c.pg) (cb := cb) (held := c.held) (hC.1)) dX9_act_9 rfl rfl 0 rfl [0, 1] [2, 3, 4, 5, 6, 7, 8] (by decide) rfl rfl (by decide) (by decide) (by decide) (Nat.le_of_ble_eq_true rfl) (by decide) (by decide) (fun r_5 w_6 h_4 => ?_)
  obtain ⟨rfl, rfl⟩ := h_4
  refine v_eq (st' := [.int (b2i (isIx i c.men))]) (ws' := [(ck, eI D 6 (nF c.kk)), (cv, eI D 6 (nF c.vv)), (chd, eI D 6 c.hd), (cr, eI D 8 (nF c.crf)), (cb, eI D 12 (nF c.bo)), (tr, eI D 20 f), (bd, .inr (0, [.ref tr, .int (nI 0), .int bi, .int (nI bk9), .int bv])), (o, .inr (9, [.ref ca, .ref im, .int tk, .ref txo, .ref ba, .ref va, .int (nI vc), .ref nwk, .ref nt, .ref ro, .ref lo, .ref bd, .ref ta])), (ca, .inr (1, [.int (nI c.men), .ref ck, .ref cv, .ref chd, .int (nI c.heap), .int c.dogs, .int (nI c.wak), .int (nI c.rl), .ref cr, .int (nI c.pg), .ref cb, .int c.held]))]) rfl rfl rfl rfl ?_
  refine v_if_eq O 24 dX9_act_12 (by decide) (fun z1 => ?_) (fun z1 => ?_)
  · skip
    have z1 := b2i_0.mp z1
    refine v_iconst (v := 0) O dX9_act_24 (by decide) ?_
    refine v_sub (ws' := [(o, .inr (9, [.ref ca, .ref im, .int tk, .ref txo, .ref ba, .ref va, .int (nI vc), .ref nwk, .ref nt, .ref ro, .ref lo, .ref bd, .ref ta])), (ca, .inr (1, [.int (nI c.men), .ref ck, .ref cv, .ref chd, .int (nI c.heap), .int c.dogs, .int (nI c.wak), .int (nI c.rl), .ref cr, .int (nI c.pg), .ref cb, .int c.held])), (ck, eI D 6 (nF c.kk)), (cv, eI D 6 (nF c.vv)), (chd, eI D 6 c.hd), (cr, eI D 8 (nF c.crf)), (cb, eI D 12 (nF c.bo)), (bd, .inr (0, [.ref tr, .int (nI 0), .int bi, .int (nI bk9), .int bv])), (tr, eI D 20 f)]) [7, 8, 0, 1, 2, 3, 4, 6, 5] (by decide) rfl ?_
    exact v_ireturn O T rfl rfl (by decide) (by decide) dX9_act_25 (⟨_, _, _, rfl, rfl⟩)
  · skip
    have z1 := b2i_1.mp z1
    exact absurd z1 hi
set_option maxRecDepth 100000 in
set_option maxHeartbeats 4000000 in
theorem sp_X9_act_2 {D : G} {o : Nat} {ca : Nat} {im : Nat} {tk : Int32} {txo : Nat} {ba : Nat} {va : Nat} {vc : Nat} {nwk : Nat} {nt : Nat} {ro : Nat} {lo : Nat} {bd : Nat} {ta : Nat} {ck : Nat} {cv : Nat} {chd : Nat} {cr : Nat} {cb : Nat} {c : CS} {tr : Nat} {rn : Nat} {bi : Int32} {bk9 : Nat} {bv : Int32} {f : Nat → Int32} {i : Nat} {a : Int32} {x : Int32} (hC : cOk c) (hi : i < c.men) (ha : ¬ isIx a 3) : Sp D mX9_act 30 0 0 [.ref o, .int (nI i), .int a, .int x] [(o, .inr (9, [.ref ca, .ref im, .int tk, .ref txo, .ref ba, .ref va, .int (nI vc), .ref nwk, .ref nt, .ref ro, .ref lo, .ref bd, .ref ta])), (ca, .inr (1, [.int (nI c.men), .ref ck, .ref cv, .ref chd, .int (nI c.heap), .int c.dogs, .int (nI c.wak), .int (nI c.rl), .ref cr, .int (nI c.pg), .ref cb, .int c.held])), (ck, eI D 6 (nF c.kk)), (cv, eI D 6 (nF c.vv)), (chd, eI D 6 c.hd), (cr, eI D 8 (nF c.crf)), (cb, eI D 12 (nF c.bo)), (bd, .inr (0, [.ref tr, .int (nI rn), .int bi, .int (nI bk9), .int bv])), (tr, eI D 20 f)] (fun r w => ∃ bi1 : Int32, ∃ bk1 : Nat, ∃ bv1 : Int32, r = some (.int 0) ∧ w = [(o, .inr (9, [.ref ca, .ref im, .int tk, .ref txo, .ref ba, .ref va, .int (nI vc), .ref nwk, .ref nt, .ref ro, .ref lo, .ref bd, .ref ta])), (ca, .inr (1, [.int (nI c.men), .ref ck, .ref cv, .ref chd, .int (nI c.heap), .int c.dogs, .int (nI c.wak), .int (nI c.rl), .ref cr, .int (nI c.pg), .ref cb, .int c.held])), (ck, eI D 6 (nF c.kk)), (cv, eI D 6 (nF c.vv)), (chd, eI D 6 c.hd), (cr, eI D 8 (nF c.crf)), (cb, eI D 12 (nF c.bo)), (bd, .inr (0, [.ref tr, .int (nI 0), .int bi1, .int (nI bk1), .int bv1])), (tr, eI D 20 f)]) := by
  refine Sp.of (by decide) (Nat.le_of_ble_eq_true rfl) (fun X O T => ?_)
  refine v_eq (lv' := [(0, .ref o), (1, .int (nI i)), (2, .int a), (3, .int x)]) rfl rfl rfl rfl ?_
  have z_m := hC.1
  have z_hp := hC.2.2.2.1
  have z_wk := hC.2.2.2.2.1
  have z_rl := hC.2.2.2.2.2.1
  have z_pg := hC.2.2.2.2.2.2.2.1
  refine v_aload_n O dX9_act_0 0 rfl ?_
  refine gf_X9_78 O rfl dX9_act_1 0 rfl rfl ?_
  refine v_cV (T := TX0) (ci := 0) (As := []) (wr := [(o, .inr (9, [.ref ca, .ref im, .int tk, .ref txo, .ref ba, .ref va, .int (nI vc), .ref nwk, .ref nt, .ref ro, .ref lo, .ref bd, .ref ta])), (ca, .inr (1, [.int (nI c.men), .ref ck, .ref cv, .ref chd, .int (nI c.heap), .int c.dogs, .int (nI c.wak), .int (nI c.rl), .ref cr, .int (nI c.pg), .ref cb, .int c.held])), (ck, eI D 6 (nF c.kk)), (cv, eI D 6 (nF c.vv)), (chd, eI D 6 c.hd), (cr, eI D 8 (nF c.crf)), (cb, eI D 12 (nF c.bo)), (tr, eI D 20 f)]) (st := []) O cf_X9_265 rfl (sp_X0_forget (bo := bd) (tr := tr) (rn := (nI rn)) (i := bi) (kd := (nI bk9)) (v := bv) ) dX9_act_4 rfl rfl 7 rfl [7] [0, 1, 2, 3, 4, 5, 6, 8] (by decide) rfl rfl (by decide) (by decide) (by decide) (Nat.le_of_ble_eq_true rfl) (by decide) (by decide) (fun r_2 w_3 h_1 => ?_)
  obtain ⟨rfl, rfl⟩ := h_1
  refine v_eq (st' := []) (ws' := [(o, .inr (9, [.ref ca, .ref im, .int tk, .ref txo, .ref ba, .ref va, .int (nI vc), .ref nwk, .ref nt, .ref ro, .ref lo, .ref bd, .ref ta])), (ca, .inr (1, [.int (nI c.men), .ref ck, .ref cv, .ref chd, .int (nI c.heap), .int c.dogs, .int (nI c.wak), .int (nI c.rl), .ref cr, .int (nI c.pg), .ref cb, .int c.held])), (ck, eI D 6 (nF c.kk)), (cv, eI D 6 (nF c.vv)), (chd, eI D 6 c.hd), (cr, eI D 8 (nF c.crf)), (cb, eI D 12 (nF c.bo)), (tr, eI D 20 f), (bd, .inr (0, [.ref tr, .int (nI 0), .int bi, .int (nI bk9), .int bv]))]) rfl rfl rfl rfl ?_
  refine v_aload_n O dX9_act_7 0 rfl ?_
  refine v_iload_n O dX9_act_8 1 rfl ?_
  refine v_cV (T := TX9) (ci := 9) (As := [.int (nI i)]) (wr := [(ck, eI D 6 (nF c.kk)), (cv, eI D 6 (nF c.vv)), (chd, eI D 6 c.hd), (cr, eI D 8 (nF c.crf)), (cb, eI D 12 (nF c.bo)), (tr, eI D 20 f), (bd, .inr (0, [.ref tr, .int (nI 0), .int bi, .int (nI bk9), .int bv]))]) (st := []) O cf_X9_102 rfl (sp_X9_isMan (o := o) (man := (nI i)) (ca := ca) (im := im) (it := tk) (tx := txo) (ba := ba) (vs := va) (vc := (nI vc)) (nw := nwk) (nt := nt) (ro := ro) (ln := lo) (bo := bd) (tp := ta) (men := c.men) (ck := ck) (cv := cv) (chd := chd) (heap := (nI c.heap)) (dogs := c.dogs) (wak := (nI c.wak)) (rl := c.rl) (cr := cr) (pg := c.pg) (cb := cb) (held := c.held) (hC.1)) dX9_act_9 rfl rfl 0 rfl [0, 1] [2, 3, 4, 5, 6, 7, 8] (by decide) rfl rfl (by decide) (by decide) (by decide) (Nat.le_of_ble_eq_true rfl) (by decide) (by decide) (fun r_5 w_6 h_4 => ?_)
  obtain ⟨rfl, rfl⟩ := h_4
  refine v_eq (st' := [.int (b2i (isIx (nI i) c.men))]) (ws' := [(ck, eI D 6 (nF c.kk)), (cv, eI D 6 (nF c.vv)), (chd, eI D 6 c.hd), (cr, eI D 8 (nF c.crf)), (cb, eI D 12 (nF c.bo)), (tr, eI D 20 f), (bd, .inr (0, [.ref tr, .int (nI 0), .int bi, .int (nI bk9), .int bv])), (o, .inr (9, [.ref ca, .ref im, .int tk, .ref txo, .ref ba, .ref va, .int (nI vc), .ref nwk, .ref nt, .ref ro, .ref lo, .ref bd, .ref ta])), (ca, .inr (1, [.int (nI c.men), .ref ck, .ref cv, .ref chd, .int (nI c.heap), .int c.dogs, .int (nI c.wak), .int (nI c.rl), .ref cr, .int (nI c.pg), .ref cb, .int c.held]))]) rfl rfl rfl rfl ?_
  refine v_if_eq O 24 dX9_act_12 (by decide) (fun z1 => ?_) (fun z1 => ?_)
  · skip
    have z1 := b2i_0.mp z1
    exact absurd ((isIx_nI (by omega) (by omega)).mpr hi) z1
  · skip
    have z1 := b2i_1.mp z1
    refine v_iload_n O dX9_act_15 2 rfl ?_
    refine v_if_lt O 24 dX9_act_16 (by decide) (fun z2 => ?_) (fun z2 => ?_)
    · skip
      refine v_iconst (v := 0) O dX9_act_24 (by decide) ?_
      refine v_sub (ws' := [(o, .inr (9, [.ref ca, .ref im, .int tk, .ref txo, .ref ba, .ref va, .int (nI vc), .ref nwk, .ref nt, .ref ro, .ref lo, .ref bd, .ref ta])), (ca, .inr (1, [.int (nI c.men), .ref ck, .ref cv, .ref chd, .int (nI c.heap), .int c.dogs, .int (nI c.wak), .int (nI c.rl), .ref cr, .int (nI c.pg), .ref cb, .int c.held])), (ck, eI D 6 (nF c.kk)), (cv, eI D 6 (nF c.vv)), (chd, eI D 6 c.hd), (cr, eI D 8 (nF c.crf)), (cb, eI D 12 (nF c.bo)), (bd, .inr (0, [.ref tr, .int (nI 0), .int bi, .int (nI bk9), .int bv])), (tr, eI D 20 f)]) [7, 8, 0, 1, 2, 3, 4, 6, 5] (by decide) rfl ?_
      exact v_ireturn O T rfl rfl (by decide) (by decide) dX9_act_25 (⟨_, _, _, rfl, rfl⟩)
    · skip
      refine v_iload_n O dX9_act_19 2 rfl ?_
      refine v_iconst (v := 3) O dX9_act_20 (by decide) ?_
      refine v_icmp_lt O 26 dX9_act_21 (by decide) (fun z3 => ?_) (fun z3 => ?_)
      · skip
        exact absurd (isIx_t (n := 3) (by decide) z2 (Int32.not_le.mpr z3)) ha
      · skip
        refine v_iconst (v := 0) O dX9_act_24 (by decide) ?_
        refine v_sub (ws' := [(o, .inr (9, [.ref ca, .ref im, .int tk, .ref txo, .ref ba, .ref va, .int (nI vc), .ref nwk, .ref nt, .ref ro, .ref lo, .ref bd, .ref ta])), (ca, .inr (1, [.int (nI c.men), .ref ck, .ref cv, .ref chd, .int (nI c.heap), .int c.dogs, .int (nI c.wak), .int (nI c.rl), .ref cr, .int (nI c.pg), .ref cb, .int c.held])), (ck, eI D 6 (nF c.kk)), (cv, eI D 6 (nF c.vv)), (chd, eI D 6 c.hd), (cr, eI D 8 (nF c.crf)), (cb, eI D 12 (nF c.bo)), (bd, .inr (0, [.ref tr, .int (nI 0), .int bi, .int (nI bk9), .int bv])), (tr, eI D 20 f)]) [7, 8, 0, 1, 2, 3, 4, 6, 5] (by decide) rfl ?_
        exact v_ireturn O T rfl rfl (by decide) (by decide) dX9_act_25 (⟨_, _, _, rfl, rfl⟩)
set_option maxRecDepth 100000 in
set_option maxHeartbeats 4000000 in
theorem sp_X9_act_3 {D : G} {o : Nat} {ca : Nat} {im : Nat} {tk : Int32} {txo : Nat} {ba : Nat} {va : Nat} {vc : Nat} {nwk : Nat} {nt : Nat} {ro : Nat} {lo : Nat} {bd : Nat} {ta : Nat} {ck : Nat} {cv : Nat} {chd : Nat} {cr : Nat} {cb : Nat} {c : CS} {tr : Nat} {rn : Nat} {bi : Int32} {bk9 : Nat} {bv : Int32} {f : Nat → Int32} {i : Nat} {x : Int32} (hC : cOk c) (hi : i < c.men) : Sp D mX9_act 30 0 0 [.ref o, .int (nI i), .int 0, .int x] [(o, .inr (9, [.ref ca, .ref im, .int tk, .ref txo, .ref ba, .ref va, .int (nI vc), .ref nwk, .ref nt, .ref ro, .ref lo, .ref bd, .ref ta])), (ca, .inr (1, [.int (nI c.men), .ref ck, .ref cv, .ref chd, .int (nI c.heap), .int c.dogs, .int (nI c.wak), .int (nI c.rl), .ref cr, .int (nI c.pg), .ref cb, .int c.held])), (ck, eI D 6 (nF c.kk)), (cv, eI D 6 (nF c.vv)), (chd, eI D 6 c.hd), (cr, eI D 8 (nF c.crf)), (cb, eI D 12 (nF c.bo)), (bd, .inr (0, [.ref tr, .int (nI rn), .int bi, .int (nI bk9), .int bv])), (tr, eI D 20 f)] (fun r w => ∃ bi1 : Int32, ∃ bk1 : Nat, ∃ bv1 : Int32, r = some (.int (wV (nI i) (nI (c.vv i)) x (c.kk i))) ∧ w = [(o, .inr (9, [.ref ca, .ref im, .int tk, .ref txo, .ref ba, .ref va, .int (nI vc), .ref nwk, .ref nt, .ref ro, .ref lo, .ref bd, .ref ta])), (ca, .inr (1, [.int (nI c.men), .ref ck, .ref cv, .ref chd, .int (nI c.heap), .int c.dogs, .int (nI c.wak), .int (nI c.rl), .ref cr, .int (nI c.pg), .ref cb, .int c.held])), (ck, eI D 6 (nF c.kk)), (cv, eI D 6 (nF c.vv)), (chd, eI D 6 c.hd), (cr, eI D 8 (nF c.crf)), (cb, eI D 12 (nF c.bo)), (bd, .inr (0, [.ref tr, .int (nI ((wL (c.kk i)).length)), .int bi1, .int (nI bk1), .int bv1])), (tr, eI D 20 (trW f 0 (wL (c.kk i))))]) := by
  refine Sp.of (by decide) (Nat.le_of_ble_eq_true rfl) (fun X O T => ?_)
  refine v_eq (lv' := [(0, .ref o), (1, .int (nI i)), (2, .int 0), (3, .int x)]) rfl rfl rfl rfl ?_
  have z_m := hC.1
  have z_hp := hC.2.2.2.1
  have z_wk := hC.2.2.2.2.1
  have z_rl := hC.2.2.2.2.2.1
  have z_pg := hC.2.2.2.2.2.2.2.1
  refine v_aload_n O dX9_act_0 0 rfl ?_
  refine gf_X9_78 O rfl dX9_act_1 0 rfl rfl ?_
  refine v_cV (T := TX0) (ci := 0) (As := []) (wr := [(o, .inr (9, [.ref ca, .ref im, .int tk, .ref txo, .ref ba, .ref va, .int (nI vc), .ref nwk, .ref nt, .ref ro, .ref lo, .ref bd, .ref ta])), (ca, .inr (1, [.int (nI c.men), .ref ck, .ref cv, .ref chd, .int (nI c.heap), .int c.dogs, .int (nI c.wak), .int (nI c.rl), .ref cr, .int (nI c.pg), .ref cb, .int c.held])), (ck, eI D 6 (nF c.kk)), (cv, eI D 6 (nF c.vv)), (chd, eI D 6 c.hd), (cr, eI D 8 (nF c.crf)), (cb, eI D 12 (nF c.bo)), (tr, eI D 20 f)]) (st := []) O cf_X9_265 rfl (sp_X0_forget (bo := bd) (tr := tr) (rn := (nI rn)) (i := bi) (kd := (nI bk9)) (v := bv) ) dX9_act_4 rfl rfl 7 rfl [7] [0, 1, 2, 3, 4, 5, 6, 8] (by decide) rfl rfl (by decide) (by decide) (by decide) (Nat.le_of_ble_eq_true rfl) (by decide) (by decide) (fun r_2 w_3 h_1 => ?_)
  obtain ⟨rfl, rfl⟩ := h_1
  refine v_eq (st' := []) (ws' := [(o, .inr (9, [.ref ca, .ref im, .int tk, .ref txo, .ref ba, .ref va, .int (nI vc), .ref nwk, .ref nt, .ref ro, .ref lo, .ref bd, .ref ta])), (ca, .inr (1, [.int (nI c.men), .ref ck, .ref cv, .ref chd, .int (nI c.heap), .int c.dogs, .int (nI c.wak), .int (nI c.rl), .ref cr, .int (nI c.pg), .ref cb, .int c.held])), (ck, eI D 6 (nF c.kk)), (cv, eI D 6 (nF c.vv)), (chd, eI D 6 c.hd), (cr, eI D 8 (nF c.crf)), (cb, eI D 12 (nF c.bo)), (tr, eI D 20 f), (bd, .inr (0, [.ref tr, .int (nI 0), .int bi, .int (nI bk9), .int bv]))]) rfl rfl rfl rfl ?_
  refine v_aload_n O dX9_act_7 0 rfl ?_
  refine v_iload_n O dX9_act_8 1 rfl ?_
  refine v_cV (T := TX9) (ci := 9) (As := [.int (nI i)]) (wr := [(ck, eI D 6 (nF c.kk)), (cv, eI D 6 (nF c.vv)), (chd, eI D 6 c.hd), (cr, eI D 8 (nF c.crf)), (cb, eI D 12 (nF c.bo)), (tr, eI D 20 f), (bd, .inr (0, [.ref tr, .int (nI 0), .int bi, .int (nI bk9), .int bv]))]) (st := []) O cf_X9_102 rfl (sp_X9_isMan (o := o) (man := (nI i)) (ca := ca) (im := im) (it := tk) (tx := txo) (ba := ba) (vs := va) (vc := (nI vc)) (nw := nwk) (nt := nt) (ro := ro) (ln := lo) (bo := bd) (tp := ta) (men := c.men) (ck := ck) (cv := cv) (chd := chd) (heap := (nI c.heap)) (dogs := c.dogs) (wak := (nI c.wak)) (rl := c.rl) (cr := cr) (pg := c.pg) (cb := cb) (held := c.held) (hC.1)) dX9_act_9 rfl rfl 0 rfl [0, 1] [2, 3, 4, 5, 6, 7, 8] (by decide) rfl rfl (by decide) (by decide) (by decide) (Nat.le_of_ble_eq_true rfl) (by decide) (by decide) (fun r_5 w_6 h_4 => ?_)
  obtain ⟨rfl, rfl⟩ := h_4
  refine v_eq (st' := [.int (b2i (isIx (nI i) c.men))]) (ws' := [(ck, eI D 6 (nF c.kk)), (cv, eI D 6 (nF c.vv)), (chd, eI D 6 c.hd), (cr, eI D 8 (nF c.crf)), (cb, eI D 12 (nF c.bo)), (tr, eI D 20 f), (bd, .inr (0, [.ref tr, .int (nI 0), .int bi, .int (nI bk9), .int bv])), (o, .inr (9, [.ref ca, .ref im, .int tk, .ref txo, .ref ba, .ref va, .int (nI vc), .ref nwk, .ref nt, .ref ro, .ref lo, .ref bd, .ref ta])), (ca, .inr (1, [.int (nI c.men), .ref ck, .ref cv, .ref chd, .int (nI c.heap), .int c.dogs, .int (nI c.wak), .int (nI c.rl), .ref cr, .int (nI c.pg), .ref cb, .int c.held]))]) rfl rfl rfl rfl ?_
  refine v_if_eq O 24 dX9_act_12 (by decide) (fun z1 => ?_) (fun z1 => ?_)
  · skip
    have z1 := b2i_0.mp z1
    exact absurd ((isIx_nI (by omega) (by omega)).mpr hi) z1
  · skip
    have z1 := b2i_1.mp z1
    refine v_iload_n O dX9_act_15 2 rfl ?_
    refine v_if_lt O 24 dX9_act_16 (by decide) (fun c => absurd c (by decide)) (fun _ => ?_)
    refine v_iload_n O dX9_act_19 2 rfl ?_
    refine v_iconst (v := 3) O dX9_act_20 (by decide) ?_
    refine v_icmp_lt O 26 dX9_act_21 (by decide) (fun _ => ?_) (fun c => absurd c (by decide))
    refine v_aload_n O dX9_act_26 0 rfl ?_
    refine gf_X9_78 O rfl dX9_act_27 7 rfl rfl ?_
    refine v_iload_n O dX9_act_30 1 rfl ?_
    refine v_aload_n O dX9_act_31 0 rfl ?_
    refine gf_X9_12 O rfl dX9_act_32 7 rfl rfl ?_
    refine gf_X9_92 O rfl dX9_act_35 8 rfl rfl ?_
    refine v_iload_n O dX9_act_38 1 rfl ?_
    refine v_ialdk O dX9_act_39 0 rfl i rfl (by omega) (by decide) ?_
    refine v_top (y := nI (c.kk i)) rfl ?_
    refine v_aload_n O dX9_act_40 0 rfl ?_
    refine gf_X9_12 O rfl dX9_act_41 7 rfl rfl ?_
    refine gf_X9_96 O rfl dX9_act_44 8 rfl rfl ?_
    refine v_iload_n O dX9_act_47 1 rfl ?_
    refine v_ialdk O dX9_act_48 1 rfl i rfl (by omega) (by decide) ?_
    refine v_top (y := nI (c.vv i)) rfl ?_
    refine v_iload_n O dX9_act_49 2 rfl ?_
    refine v_iload_n O dX9_act_50 3 rfl ?_
    refine v_cV (T := TX0) (ci := 0) (As := [.int (nI i), .int (nI (c.kk i)), .int (nI (c.vv i)), .int 0, .int x]) (wr := [(ck, eI D 6 (nF c.kk)), (cv, eI D 6 (nF c.vv)), (chd, eI D 6 c.hd), (cr, eI D 8 (nF c.crf)), (cb, eI D 12 (nF c.bo)), (o, .inr (9, [.ref ca, .ref im, .int tk, .ref txo, .ref ba, .ref va, .int (nI vc), .ref nwk, .ref nt, .ref ro, .ref lo, .ref bd, .ref ta])), (ca, .inr (1, [.int (nI c.men), .ref ck, .ref cv, .ref chd, .int (nI c.heap), .int c.dogs, .int (nI c.wak), .int (nI c.rl), .ref cr, .int (nI c.pg), .ref cb, .int c.held]))]) (st := []) O cf_X9_268 rfl (sp_X0_actsFor_W (bo := bd) (tr := tr) (i0 := bi) (k0 := (nI bk9)) (v0 := bv) (i := (nI i)) (k := (c.kk i)) (v := (nI (c.vv i))) (f := f) (x := x) (hC.2.1 i (by omega))) dX9_act_51 rfl rfl 6 rfl [6, 5] [0, 1, 2, 3, 4, 7, 8] (by decide) rfl rfl (by decide) (by decide) (by decide) (Nat.le_of_ble_eq_true rfl) (by decide) (by decide) (fun r_10 w_11 h_9 => ?_)
    obtain ⟨rfl, rfl⟩ := h_9
    refine v_eq (st' := [.int (wV (nI i) (nI (c.vv i)) x (c.kk i))]) (ws' := [(ck, eI D 6 (nF c.kk)), (cv, eI D 6 (nF c.vv)), (chd, eI D 6 c.hd), (cr, eI D 8 (nF c.crf)), (cb, eI D 12 (nF c.bo)), (o, .inr (9, [.ref ca, .ref im, .int tk, .ref txo, .ref ba, .ref va, .int (nI vc), .ref nwk, .ref nt, .ref ro, .ref lo, .ref bd, .ref ta])), (ca, .inr (1, [.int (nI c.men), .ref ck, .ref cv, .ref chd, .int (nI c.heap), .int c.dogs, .int (nI c.wak), .int (nI c.rl), .ref cr, .int (nI c.pg), .ref cb, .int c.held])), (bd, .inr (0, [.ref tr, .int (nI ((wL (c.kk i)).length)), .int (nI i), .int (nI (c.kk i)), .int (nI (c.vv i))])), (tr, eI D 20 (trW f 0 (wL (c.kk i))))]) rfl rfl rfl rfl ?_
    refine v_sub (ws' := [(o, .inr (9, [.ref ca, .ref im, .int tk, .ref txo, .ref ba, .ref va, .int (nI vc), .ref nwk, .ref nt, .ref ro, .ref lo, .ref bd, .ref ta])), (ca, .inr (1, [.int (nI c.men), .ref ck, .ref cv, .ref chd, .int (nI c.heap), .int c.dogs, .int (nI c.wak), .int (nI c.rl), .ref cr, .int (nI c.pg), .ref cb, .int c.held])), (ck, eI D 6 (nF c.kk)), (cv, eI D 6 (nF c.vv)), (chd, eI D 6 c.hd), (cr, eI D 8 (nF c.crf)), (cb, eI D 12 (nF c.bo)), (bd, .inr (0, [.ref tr, .int (nI ((wL (c.kk i)).length)), .int (nI i), .int (nI (c.kk i)), .int (nI (c.vv i))])), (tr, eI D 20 (trW f 0 (wL (c.kk i))))]) [5, 6, 0, 1, 2, 3, 4, 7, 8] (by decide) rfl ?_
    exact v_ireturn O T rfl rfl (by decide) (by decide) dX9_act_54 (⟨_, _, _, rfl, rfl⟩)
set_option maxRecDepth 100000 in
set_option maxHeartbeats 4000000 in
theorem sp_X9_act_4 {D : G} {o : Nat} {ca : Nat} {im : Nat} {tk : Int32} {txo : Nat} {ba : Nat} {va : Nat} {vc : Nat} {nwk : Nat} {nt : Nat} {ro : Nat} {lo : Nat} {bd : Nat} {ta : Nat} {ck : Nat} {cv : Nat} {chd : Nat} {cr : Nat} {cb : Nat} {c : CS} {tr : Nat} {rn : Nat} {bi : Int32} {bk9 : Nat} {bv : Int32} {f : Nat → Int32} {i : Nat} {x : Int32} (hC : cOk c) (hi : i < c.men) : Sp D mX9_act 30 0 0 [.ref o, .int (nI i), .int 1, .int x] [(o, .inr (9, [.ref ca, .ref im, .int tk, .ref txo, .ref ba, .ref va, .int (nI vc), .ref nwk, .ref nt, .ref ro, .ref lo, .ref bd, .ref ta])), (ca, .inr (1, [.int (nI c.men), .ref ck, .ref cv, .ref chd, .int (nI c.heap), .int c.dogs, .int (nI c.wak), .int (nI c.rl), .ref cr, .int (nI c.pg), .ref cb, .int c.held])), (ck, eI D 6 (nF c.kk)), (cv, eI D 6 (nF c.vv)), (chd, eI D 6 c.hd), (cr, eI D 8 (nF c.crf)), (cb, eI D 12 (nF c.bo)), (bd, .inr (0, [.ref tr, .int (nI rn), .int bi, .int (nI bk9), .int bv])), (tr, eI D 20 f)] (fun r w => ∃ bi1 : Int32, ∃ bk1 : Nat, ∃ bv1 : Int32, r = some (.int (hV (nI i) (nI (c.vv i)) (c.kk i) x (c.kk i))) ∧ w = [(o, .inr (9, [.ref ca, .ref im, .int tk, .ref txo, .ref ba, .ref va, .int (nI vc), .ref nwk, .ref nt, .ref ro, .ref lo, .ref bd, .ref ta])), (ca, .inr (1, [.int (nI c.men), .ref ck, .ref cv, .ref chd, .int (nI c.heap), .int c.dogs, .int (nI c.wak), .int (nI c.rl), .ref cr, .int (nI c.pg), .ref cb, .int c.held])), (ck, eI D 6 (nF c.kk)), (cv, eI D 6 (nF c.vv)), (chd, eI D 6 c.hd), (cr, eI D 8 (nF c.crf)), (cb, eI D 12 (nF c.bo)), (bd, .inr (0, [.ref tr, .int (nI ((hL (c.kk i) (c.kk i)).length)), .int bi1, .int (nI bk1), .int bv1])), (tr, eI D 20 (trW f 0 (hL (c.kk i) (c.kk i))))]) := by
  refine Sp.of (by decide) (Nat.le_of_ble_eq_true rfl) (fun X O T => ?_)
  refine v_eq (lv' := [(0, .ref o), (1, .int (nI i)), (2, .int 1), (3, .int x)]) rfl rfl rfl rfl ?_
  have z_m := hC.1
  have z_hp := hC.2.2.2.1
  have z_wk := hC.2.2.2.2.1
  have z_rl := hC.2.2.2.2.2.1
  have z_pg := hC.2.2.2.2.2.2.2.1
  refine v_aload_n O dX9_act_0 0 rfl ?_
  refine gf_X9_78 O rfl dX9_act_1 0 rfl rfl ?_
  refine v_cV (T := TX0) (ci := 0) (As := []) (wr := [(o, .inr (9, [.ref ca, .ref im, .int tk, .ref txo, .ref ba, .ref va, .int (nI vc), .ref nwk, .ref nt, .ref ro, .ref lo, .ref bd, .ref ta])), (ca, .inr (1, [.int (nI c.men), .ref ck, .ref cv, .ref chd, .int (nI c.heap), .int c.dogs, .int (nI c.wak), .int (nI c.rl), .ref cr, .int (nI c.pg), .ref cb, .int c.held])), (ck, eI D 6 (nF c.kk)), (cv, eI D 6 (nF c.vv)), (chd, eI D 6 c.hd), (cr, eI D 8 (nF c.crf)), (cb, eI D 12 (nF c.bo)), (tr, eI D 20 f)]) (st := []) O cf_X9_265 rfl (sp_X0_forget (bo := bd) (tr := tr) (rn := (nI rn)) (i := bi) (kd := (nI bk9)) (v := bv) ) dX9_act_4 rfl rfl 7 rfl [7] [0, 1, 2, 3, 4, 5, 6, 8] (by decide) rfl rfl (by decide) (by decide) (by decide) (Nat.le_of_ble_eq_true rfl) (by decide) (by decide) (fun r_2 w_3 h_1 => ?_)
  obtain ⟨rfl, rfl⟩ := h_1
  refine v_eq (st' := []) (ws' := [(o, .inr (9, [.ref ca, .ref im, .int tk, .ref txo, .ref ba, .ref va, .int (nI vc), .ref nwk, .ref nt, .ref ro, .ref lo, .ref bd, .ref ta])), (ca, .inr (1, [.int (nI c.men), .ref ck, .ref cv, .ref chd, .int (nI c.heap), .int c.dogs, .int (nI c.wak), .int (nI c.rl), .ref cr, .int (nI c.pg), .ref cb, .int c.held])), (ck, eI D 6 (nF c.kk)), (cv, eI D 6 (nF c.vv)), (chd, eI D 6 c.hd), (cr, eI D 8 (nF c.crf)), (cb, eI D 12 (nF c.bo)), (tr, eI D 20 f), (bd, .inr (0, [.ref tr, .int (nI 0), .int bi, .int (nI bk9), .int bv]))]) rfl rfl rfl rfl ?_
  refine v_aload_n O dX9_act_7 0 rfl ?_
  refine v_iload_n O dX9_act_8 1 rfl ?_
  refine v_cV (T := TX9) (ci := 9) (As := [.int (nI i)]) (wr := [(ck, eI D 6 (nF c.kk)), (cv, eI D 6 (nF c.vv)), (chd, eI D 6 c.hd), (cr, eI D 8 (nF c.crf)), (cb, eI D 12 (nF c.bo)), (tr, eI D 20 f), (bd, .inr (0, [.ref tr, .int (nI 0), .int bi, .int (nI bk9), .int bv]))]) (st := []) O cf_X9_102 rfl (sp_X9_isMan (o := o) (man := (nI i)) (ca := ca) (im := im) (it := tk) (tx := txo) (ba := ba) (vs := va) (vc := (nI vc)) (nw := nwk) (nt := nt) (ro := ro) (ln := lo) (bo := bd) (tp := ta) (men := c.men) (ck := ck) (cv := cv) (chd := chd) (heap := (nI c.heap)) (dogs := c.dogs) (wak := (nI c.wak)) (rl := c.rl) (cr := cr) (pg := c.pg) (cb := cb) (held := c.held) (hC.1)) dX9_act_9 rfl rfl 0 rfl [0, 1] [2, 3, 4, 5, 6, 7, 8] (by decide) rfl rfl (by decide) (by decide) (by decide) (Nat.le_of_ble_eq_true rfl) (by decide) (by decide) (fun r_5 w_6 h_4 => ?_)
  obtain ⟨rfl, rfl⟩ := h_4
  refine v_eq (st' := [.int (b2i (isIx (nI i) c.men))]) (ws' := [(ck, eI D 6 (nF c.kk)), (cv, eI D 6 (nF c.vv)), (chd, eI D 6 c.hd), (cr, eI D 8 (nF c.crf)), (cb, eI D 12 (nF c.bo)), (tr, eI D 20 f), (bd, .inr (0, [.ref tr, .int (nI 0), .int bi, .int (nI bk9), .int bv])), (o, .inr (9, [.ref ca, .ref im, .int tk, .ref txo, .ref ba, .ref va, .int (nI vc), .ref nwk, .ref nt, .ref ro, .ref lo, .ref bd, .ref ta])), (ca, .inr (1, [.int (nI c.men), .ref ck, .ref cv, .ref chd, .int (nI c.heap), .int c.dogs, .int (nI c.wak), .int (nI c.rl), .ref cr, .int (nI c.pg), .ref cb, .int c.held]))]) rfl rfl rfl rfl ?_
  refine v_if_eq O 24 dX9_act_12 (by decide) (fun z1 => ?_) (fun z1 => ?_)
  · skip
    have z1 := b2i_0.mp z1
    exact absurd ((isIx_nI (by omega) (by omega)).mpr hi) z1
  · skip
    have z1 := b2i_1.mp z1
    refine v_iload_n O dX9_act_15 2 rfl ?_
    refine v_if_lt O 24 dX9_act_16 (by decide) (fun c => absurd c (by decide)) (fun _ => ?_)
    refine v_iload_n O dX9_act_19 2 rfl ?_
    refine v_iconst (v := 3) O dX9_act_20 (by decide) ?_
    refine v_icmp_lt O 26 dX9_act_21 (by decide) (fun _ => ?_) (fun c => absurd c (by decide))
    refine v_aload_n O dX9_act_26 0 rfl ?_
    refine gf_X9_78 O rfl dX9_act_27 7 rfl rfl ?_
    refine v_iload_n O dX9_act_30 1 rfl ?_
    refine v_aload_n O dX9_act_31 0 rfl ?_
    refine gf_X9_12 O rfl dX9_act_32 7 rfl rfl ?_
    refine gf_X9_92 O rfl dX9_act_35 8 rfl rfl ?_
    refine v_iload_n O dX9_act_38 1 rfl ?_
    refine v_ialdk O dX9_act_39 0 rfl i rfl (by omega) (by decide) ?_
    refine v_top (y := nI (c.kk i)) rfl ?_
    refine v_aload_n O dX9_act_40 0 rfl ?_
    refine gf_X9_12 O rfl dX9_act_41 7 rfl rfl ?_
    refine gf_X9_96 O rfl dX9_act_44 8 rfl rfl ?_
    refine v_iload_n O dX9_act_47 1 rfl ?_
    refine v_ialdk O dX9_act_48 1 rfl i rfl (by omega) (by decide) ?_
    refine v_top (y := nI (c.vv i)) rfl ?_
    refine v_iload_n O dX9_act_49 2 rfl ?_
    refine v_iload_n O dX9_act_50 3 rfl ?_
    refine v_cV (T := TX0) (ci := 0) (As := [.int (nI i), .int (nI (c.kk i)), .int (nI (c.vv i)), .int 1, .int x]) (wr := [(ck, eI D 6 (nF c.kk)), (cv, eI D 6 (nF c.vv)), (chd, eI D 6 c.hd), (cr, eI D 8 (nF c.crf)), (cb, eI D 12 (nF c.bo)), (o, .inr (9, [.ref ca, .ref im, .int tk, .ref txo, .ref ba, .ref va, .int (nI vc), .ref nwk, .ref nt, .ref ro, .ref lo, .ref bd, .ref ta])), (ca, .inr (1, [.int (nI c.men), .ref ck, .ref cv, .ref chd, .int (nI c.heap), .int c.dogs, .int (nI c.wak), .int (nI c.rl), .ref cr, .int (nI c.pg), .ref cb, .int c.held]))]) (st := []) O cf_X9_268 rfl (sp_X0_actsFor_H (bo := bd) (tr := tr) (i0 := bi) (k0 := (nI bk9)) (v0 := bv) (i := (nI i)) (k := (c.kk i)) (v := (nI (c.vv i))) (f := f) (x := x) (hC.2.1 i (by omega))) dX9_act_51 rfl rfl 6 rfl [6, 5] [0, 1, 2, 3, 4, 7, 8] (by decide) rfl rfl (by decide) (by decide) (by decide) (Nat.le_of_ble_eq_true rfl) (by decide) (by decide) (fun r_10 w_11 h_9 => ?_)
    obtain ⟨rfl, rfl⟩ := h_9
    refine v_eq (st' := [.int (hV (nI i) (nI (c.vv i)) (c.kk i) x (c.kk i))]) (ws' := [(ck, eI D 6 (nF c.kk)), (cv, eI D 6 (nF c.vv)), (chd, eI D 6 c.hd), (cr, eI D 8 (nF c.crf)), (cb, eI D 12 (nF c.bo)), (o, .inr (9, [.ref ca, .ref im, .int tk, .ref txo, .ref ba, .ref va, .int (nI vc), .ref nwk, .ref nt, .ref ro, .ref lo, .ref bd, .ref ta])), (ca, .inr (1, [.int (nI c.men), .ref ck, .ref cv, .ref chd, .int (nI c.heap), .int c.dogs, .int (nI c.wak), .int (nI c.rl), .ref cr, .int (nI c.pg), .ref cb, .int c.held])), (bd, .inr (0, [.ref tr, .int (nI ((hL (c.kk i) (c.kk i)).length)), .int (nI i), .int (nI (c.kk i)), .int (nI (c.vv i))])), (tr, eI D 20 (trW f 0 (hL (c.kk i) (c.kk i))))]) rfl rfl rfl rfl ?_
    refine v_sub (ws' := [(o, .inr (9, [.ref ca, .ref im, .int tk, .ref txo, .ref ba, .ref va, .int (nI vc), .ref nwk, .ref nt, .ref ro, .ref lo, .ref bd, .ref ta])), (ca, .inr (1, [.int (nI c.men), .ref ck, .ref cv, .ref chd, .int (nI c.heap), .int c.dogs, .int (nI c.wak), .int (nI c.rl), .ref cr, .int (nI c.pg), .ref cb, .int c.held])), (ck, eI D 6 (nF c.kk)), (cv, eI D 6 (nF c.vv)), (chd, eI D 6 c.hd), (cr, eI D 8 (nF c.crf)), (cb, eI D 12 (nF c.bo)), (bd, .inr (0, [.ref tr, .int (nI ((hL (c.kk i) (c.kk i)).length)), .int (nI i), .int (nI (c.kk i)), .int (nI (c.vv i))])), (tr, eI D 20 (trW f 0 (hL (c.kk i) (c.kk i))))]) [5, 6, 0, 1, 2, 3, 4, 7, 8] (by decide) rfl ?_
    exact v_ireturn O T rfl rfl (by decide) (by decide) dX9_act_54 (⟨_, _, _, rfl, rfl⟩)
set_option maxRecDepth 100000 in
set_option maxHeartbeats 4000000 in
theorem sp_X9_act_5 {D : G} {o : Nat} {ca : Nat} {im : Nat} {tk : Int32} {txo : Nat} {ba : Nat} {va : Nat} {vc : Nat} {nwk : Nat} {nt : Nat} {ro : Nat} {lo : Nat} {bd : Nat} {ta : Nat} {ck : Nat} {cv : Nat} {chd : Nat} {cr : Nat} {cb : Nat} {c : CS} {tr : Nat} {rn : Nat} {bi : Int32} {bk9 : Nat} {bv : Int32} {f : Nat → Int32} {i : Nat} {x : Int32} (hC : cOk c) (hi : i < c.men) : Sp D mX9_act 30 0 0 [.ref o, .int (nI i), .int 2, .int x] [(o, .inr (9, [.ref ca, .ref im, .int tk, .ref txo, .ref ba, .ref va, .int (nI vc), .ref nwk, .ref nt, .ref ro, .ref lo, .ref bd, .ref ta])), (ca, .inr (1, [.int (nI c.men), .ref ck, .ref cv, .ref chd, .int (nI c.heap), .int c.dogs, .int (nI c.wak), .int (nI c.rl), .ref cr, .int (nI c.pg), .ref cb, .int c.held])), (ck, eI D 6 (nF c.kk)), (cv, eI D 6 (nF c.vv)), (chd, eI D 6 c.hd), (cr, eI D 8 (nF c.crf)), (cb, eI D 12 (nF c.bo)), (bd, .inr (0, [.ref tr, .int (nI rn), .int bi, .int (nI bk9), .int bv])), (tr, eI D 20 f)] (fun r w => ∃ bi1 : Int32, ∃ bk1 : Nat, ∃ bv1 : Int32, r = some (.int (tV (nI i) (nI (c.vv i)) (c.kk i) x (c.kk i))) ∧ w = [(o, .inr (9, [.ref ca, .ref im, .int tk, .ref txo, .ref ba, .ref va, .int (nI vc), .ref nwk, .ref nt, .ref ro, .ref lo, .ref bd, .ref ta])), (ca, .inr (1, [.int (nI c.men), .ref ck, .ref cv, .ref chd, .int (nI c.heap), .int c.dogs, .int (nI c.wak), .int (nI c.rl), .ref cr, .int (nI c.pg), .ref cb, .int c.held])), (ck, eI D 6 (nF c.kk)), (cv, eI D 6 (nF c.vv)), (chd, eI D 6 c.hd), (cr, eI D 8 (nF c.crf)), (cb, eI D 12 (nF c.bo)), (bd, .inr (0, [.ref tr, .int (nI ((tL (c.kk i) (c.kk i)).length)), .int bi1, .int (nI bk1), .int bv1])), (tr, eI D 20 (trW f 0 (tL (c.kk i) (c.kk i))))]) := by
  refine Sp.of (by decide) (Nat.le_of_ble_eq_true rfl) (fun X O T => ?_)
  refine v_eq (lv' := [(0, .ref o), (1, .int (nI i)), (2, .int 2), (3, .int x)]) rfl rfl rfl rfl ?_
  have z_m := hC.1
  have z_hp := hC.2.2.2.1
  have z_wk := hC.2.2.2.2.1
  have z_rl := hC.2.2.2.2.2.1
  have z_pg := hC.2.2.2.2.2.2.2.1
  refine v_aload_n O dX9_act_0 0 rfl ?_
  refine gf_X9_78 O rfl dX9_act_1 0 rfl rfl ?_
  refine v_cV (T := TX0) (ci := 0) (As := []) (wr := [(o, .inr (9, [.ref ca, .ref im, .int tk, .ref txo, .ref ba, .ref va, .int (nI vc), .ref nwk, .ref nt, .ref ro, .ref lo, .ref bd, .ref ta])), (ca, .inr (1, [.int (nI c.men), .ref ck, .ref cv, .ref chd, .int (nI c.heap), .int c.dogs, .int (nI c.wak), .int (nI c.rl), .ref cr, .int (nI c.pg), .ref cb, .int c.held])), (ck, eI D 6 (nF c.kk)), (cv, eI D 6 (nF c.vv)), (chd, eI D 6 c.hd), (cr, eI D 8 (nF c.crf)), (cb, eI D 12 (nF c.bo)), (tr, eI D 20 f)]) (st := []) O cf_X9_265 rfl (sp_X0_forget (bo := bd) (tr := tr) (rn := (nI rn)) (i := bi) (kd := (nI bk9)) (v := bv) ) dX9_act_4 rfl rfl 7 rfl [7] [0, 1, 2, 3, 4, 5, 6, 8] (by decide) rfl rfl (by decide) (by decide) (by decide) (Nat.le_of_ble_eq_true rfl) (by decide) (by decide) (fun r_2 w_3 h_1 => ?_)
  obtain ⟨rfl, rfl⟩ := h_1
  refine v_eq (st' := []) (ws' := [(o, .inr (9, [.ref ca, .ref im, .int tk, .ref txo, .ref ba, .ref va, .int (nI vc), .ref nwk, .ref nt, .ref ro, .ref lo, .ref bd, .ref ta])), (ca, .inr (1, [.int (nI c.men), .ref ck, .ref cv, .ref chd, .int (nI c.heap), .int c.dogs, .int (nI c.wak), .int (nI c.rl), .ref cr, .int (nI c.pg), .ref cb, .int c.held])), (ck, eI D 6 (nF c.kk)), (cv, eI D 6 (nF c.vv)), (chd, eI D 6 c.hd), (cr, eI D 8 (nF c.crf)), (cb, eI D 12 (nF c.bo)), (tr, eI D 20 f), (bd, .inr (0, [.ref tr, .int (nI 0), .int bi, .int (nI bk9), .int bv]))]) rfl rfl rfl rfl ?_
  refine v_aload_n O dX9_act_7 0 rfl ?_
  refine v_iload_n O dX9_act_8 1 rfl ?_
  refine v_cV (T := TX9) (ci := 9) (As := [.int (nI i)]) (wr := [(ck, eI D 6 (nF c.kk)), (cv, eI D 6 (nF c.vv)), (chd, eI D 6 c.hd), (cr, eI D 8 (nF c.crf)), (cb, eI D 12 (nF c.bo)), (tr, eI D 20 f), (bd, .inr (0, [.ref tr, .int (nI 0), .int bi, .int (nI bk9), .int bv]))]) (st := []) O cf_X9_102 rfl (sp_X9_isMan (o := o) (man := (nI i)) (ca := ca) (im := im) (it := tk) (tx := txo) (ba := ba) (vs := va) (vc := (nI vc)) (nw := nwk) (nt := nt) (ro := ro) (ln := lo) (bo := bd) (tp := ta) (men := c.men) (ck := ck) (cv := cv) (chd := chd) (heap := (nI c.heap)) (dogs := c.dogs) (wak := (nI c.wak)) (rl := c.rl) (cr := cr) (pg := c.pg) (cb := cb) (held := c.held) (hC.1)) dX9_act_9 rfl rfl 0 rfl [0, 1] [2, 3, 4, 5, 6, 7, 8] (by decide) rfl rfl (by decide) (by decide) (by decide) (Nat.le_of_ble_eq_true rfl) (by decide) (by decide) (fun r_5 w_6 h_4 => ?_)
  obtain ⟨rfl, rfl⟩ := h_4
  refine v_eq (st' := [.int (b2i (isIx (nI i) c.men))]) (ws' := [(ck, eI D 6 (nF c.kk)), (cv, eI D 6 (nF c.vv)), (chd, eI D 6 c.hd), (cr, eI D 8 (nF c.crf)), (cb, eI D 12 (nF c.bo)), (tr, eI D 20 f), (bd, .inr (0, [.ref tr, .int (nI 0), .int bi, .int (nI bk9), .int bv])), (o, .inr (9, [.ref ca, .ref im, .int tk, .ref txo, .ref ba, .ref va, .int (nI vc), .ref nwk, .ref nt, .ref ro, .ref lo, .ref bd, .ref ta])), (ca, .inr (1, [.int (nI c.men), .ref ck, .ref cv, .ref chd, .int (nI c.heap), .int c.dogs, .int (nI c.wak), .int (nI c.rl), .ref cr, .int (nI c.pg), .ref cb, .int c.held]))]) rfl rfl rfl rfl ?_
  refine v_if_eq O 24 dX9_act_12 (by decide) (fun z1 => ?_) (fun z1 => ?_)
  · skip
    have z1 := b2i_0.mp z1
    exact absurd ((isIx_nI (by omega) (by omega)).mpr hi) z1
  · skip
    have z1 := b2i_1.mp z1
    refine v_iload_n O dX9_act_15 2 rfl ?_
    refine v_if_lt O 24 dX9_act_16 (by decide) (fun c => absurd c (by decide)) (fun _ => ?_)
    refine v_iload_n O dX9_act_19 2 rfl ?_
    refine v_iconst (v := 3) O dX9_act_20 (by decide) ?_
    refine v_icmp_lt O 26 dX9_act_21 (by decide) (fun _ => ?_) (fun c => absurd c (by decide))
    refine v_aload_n O dX9_act_26 0 rfl ?_
    refine gf_X9_78 O rfl dX9_act_27 7 rfl rfl ?_
    refine v_iload_n O dX9_act_30 1 rfl ?_
    refine v_aload_n O dX9_act_31 0 rfl ?_
    refine gf_X9_12 O rfl dX9_act_32 7 rfl rfl ?_
    refine gf_X9_92 O rfl dX9_act_35 8 rfl rfl ?_
    refine v_iload_n O dX9_act_38 1 rfl ?_
    refine v_ialdk O dX9_act_39 0 rfl i rfl (by omega) (by decide) ?_
    refine v_top (y := nI (c.kk i)) rfl ?_
    refine v_aload_n O dX9_act_40 0 rfl ?_
    refine gf_X9_12 O rfl dX9_act_41 7 rfl rfl ?_
    refine gf_X9_96 O rfl dX9_act_44 8 rfl rfl ?_
    refine v_iload_n O dX9_act_47 1 rfl ?_
    refine v_ialdk O dX9_act_48 1 rfl i rfl (by omega) (by decide) ?_
    refine v_top (y := nI (c.vv i)) rfl ?_
    refine v_iload_n O dX9_act_49 2 rfl ?_
    refine v_iload_n O dX9_act_50 3 rfl ?_
    refine v_cV (T := TX0) (ci := 0) (As := [.int (nI i), .int (nI (c.kk i)), .int (nI (c.vv i)), .int 2, .int x]) (wr := [(ck, eI D 6 (nF c.kk)), (cv, eI D 6 (nF c.vv)), (chd, eI D 6 c.hd), (cr, eI D 8 (nF c.crf)), (cb, eI D 12 (nF c.bo)), (o, .inr (9, [.ref ca, .ref im, .int tk, .ref txo, .ref ba, .ref va, .int (nI vc), .ref nwk, .ref nt, .ref ro, .ref lo, .ref bd, .ref ta])), (ca, .inr (1, [.int (nI c.men), .ref ck, .ref cv, .ref chd, .int (nI c.heap), .int c.dogs, .int (nI c.wak), .int (nI c.rl), .ref cr, .int (nI c.pg), .ref cb, .int c.held]))]) (st := []) O cf_X9_268 rfl (sp_X0_actsFor_T (bo := bd) (tr := tr) (i0 := bi) (k0 := (nI bk9)) (v0 := bv) (i := (nI i)) (k := (c.kk i)) (v := (nI (c.vv i))) (f := f) (x := x) (hC.2.1 i (by omega))) dX9_act_51 rfl rfl 6 rfl [6, 5] [0, 1, 2, 3, 4, 7, 8] (by decide) rfl rfl (by decide) (by decide) (by decide) (Nat.le_of_ble_eq_true rfl) (by decide) (by decide) (fun r_10 w_11 h_9 => ?_)
    obtain ⟨rfl, rfl⟩ := h_9
    refine v_eq (st' := [.int (tV (nI i) (nI (c.vv i)) (c.kk i) x (c.kk i))]) (ws' := [(ck, eI D 6 (nF c.kk)), (cv, eI D 6 (nF c.vv)), (chd, eI D 6 c.hd), (cr, eI D 8 (nF c.crf)), (cb, eI D 12 (nF c.bo)), (o, .inr (9, [.ref ca, .ref im, .int tk, .ref txo, .ref ba, .ref va, .int (nI vc), .ref nwk, .ref nt, .ref ro, .ref lo, .ref bd, .ref ta])), (ca, .inr (1, [.int (nI c.men), .ref ck, .ref cv, .ref chd, .int (nI c.heap), .int c.dogs, .int (nI c.wak), .int (nI c.rl), .ref cr, .int (nI c.pg), .ref cb, .int c.held])), (bd, .inr (0, [.ref tr, .int (nI ((tL (c.kk i) (c.kk i)).length)), .int (nI i), .int (nI (c.kk i)), .int (nI (c.vv i))])), (tr, eI D 20 (trW f 0 (tL (c.kk i) (c.kk i))))]) rfl rfl rfl rfl ?_
    refine v_sub (ws' := [(o, .inr (9, [.ref ca, .ref im, .int tk, .ref txo, .ref ba, .ref va, .int (nI vc), .ref nwk, .ref nt, .ref ro, .ref lo, .ref bd, .ref ta])), (ca, .inr (1, [.int (nI c.men), .ref ck, .ref cv, .ref chd, .int (nI c.heap), .int c.dogs, .int (nI c.wak), .int (nI c.rl), .ref cr, .int (nI c.pg), .ref cb, .int c.held])), (ck, eI D 6 (nF c.kk)), (cv, eI D 6 (nF c.vv)), (chd, eI D 6 c.hd), (cr, eI D 8 (nF c.crf)), (cb, eI D 12 (nF c.bo)), (bd, .inr (0, [.ref tr, .int (nI ((tL (c.kk i) (c.kk i)).length)), .int (nI i), .int (nI (c.kk i)), .int (nI (c.vv i))])), (tr, eI D 20 (trW f 0 (tL (c.kk i) (c.kk i))))]) [5, 6, 0, 1, 2, 3, 4, 7, 8] (by decide) rfl ?_
    exact v_ireturn O T rfl rfl (by decide) (by decide) dX9_act_54 (⟨_, _, _, rfl, rfl⟩)
set_option maxRecDepth 100000 in
set_option maxHeartbeats 4000000 in
theorem sp_X9_trace_1 {D : G} {o : Nat} {ca : Nat} {im : Nat} {tk : Int32} {txo : Nat} {ba : Nat} {va : Nat} {vc : Nat} {nwk : Nat} {nt : Nat} {ro : Nat} {lo : Nat} {bd : Nat} {ta : Nat} {tr : Nat} {rn : Nat} {bi : Int32} {bk9 : Nat} {bv : Int32} {f : Nat → Int32} {i : Int32} (hi : ¬ isIx i rn) (hn : rn ≤ 20) : Sp D mX9_trace 30 0 0 [.ref o, .int i] [(o, .inr (9, [.ref ca, .ref im, .int tk, .ref txo, .ref ba, .ref va, .int (nI vc), .ref nwk, .ref nt, .ref ro, .ref lo, .ref bd, .ref ta])), (bd, .inr (0, [.ref tr, .int (nI rn), .int bi, .int (nI bk9), .int bv])), (tr, eI D 20 f)] (fun r w => r = some (.int (-1)) ∧ w = [(o, .inr (9, [.ref ca, .ref im, .int tk, .ref txo, .ref ba, .ref va, .int (nI vc), .ref nwk, .ref nt, .ref ro, .ref lo, .ref bd, .ref ta])), (bd, .inr (0, [.ref tr, .int (nI rn), .int bi, .int (nI bk9), .int bv])), (tr, eI D 20 f)]) := by
  refine Sp.of (by decide) (Nat.le_of_ble_eq_true rfl) (fun X O T => ?_)
  refine v_eq (lv' := [(0, .ref o), (1, .int i)]) rfl rfl rfl rfl ?_
  refine v_aload_n O dX9_trace_0 0 rfl ?_
  refine gf_X9_78 O rfl dX9_trace_1 0 rfl rfl ?_
  refine v_iload_n O dX9_trace_4 1 rfl ?_
  refine v_cV (T := TX0) (ci := 0) (As := [.int i]) (wr := [(o, .inr (9, [.ref ca, .ref im, .int tk, .ref txo, .ref ba, .ref va, .int (nI vc), .ref nwk, .ref nt, .ref ro, .ref lo, .ref bd, .ref ta])), (tr, eI D 20 f)]) (st := []) O cf_X9_272 rfl (sp_X0_hasKept (bo := bd) (tr := tr) (n := rn) (i := bi) (k := bk9) (v := bv) (at_ := i) (hn)) dX9_trace_5 rfl rfl 1 rfl [1] [0, 2] (by decide) rfl rfl (by decide) (by decide) (by decide) (Nat.le_of_ble_eq_true rfl) (by decide) (by decide) (fun r_2 w_3 h_1 => ?_)
  obtain ⟨rfl, rfl⟩ := h_1
  refine v_eq (st' := [.int (b2i (isIx i rn))]) (ws' := [(o, .inr (9, [.ref ca, .ref im, .int tk, .ref txo, .ref ba, .ref va, .int (nI vc), .ref nwk, .ref nt, .ref ro, .ref lo, .ref bd, .ref ta])), (tr, eI D 20 f), (bd, .inr (0, [.ref tr, .int (nI rn), .int bi, .int (nI bk9), .int bv]))]) rfl rfl rfl rfl ?_
  refine v_if_eq O 22 dX9_trace_8 (by decide) (fun z1 => ?_) (fun z1 => ?_)
  · skip
    have z1 := b2i_0.mp z1
    refine v_iconst (v := -1) O dX9_trace_22 (by decide) ?_
    refine v_sub (ws' := [(o, .inr (9, [.ref ca, .ref im, .int tk, .ref txo, .ref ba, .ref va, .int (nI vc), .ref nwk, .ref nt, .ref ro, .ref lo, .ref bd, .ref ta])), (bd, .inr (0, [.ref tr, .int (nI rn), .int bi, .int (nI bk9), .int bv])), (tr, eI D 20 f)]) [0, 2, 1] (by decide) rfl ?_
    exact v_ireturn O T rfl rfl (by decide) (by decide) dX9_trace_23 (⟨rfl, rfl⟩)
  · skip
    have z1 := b2i_1.mp z1
    exact absurd z1 hi
set_option maxRecDepth 100000 in
set_option maxHeartbeats 4000000 in
theorem sp_X9_trace_2 {D : G} {o : Nat} {ca : Nat} {im : Nat} {tk : Int32} {txo : Nat} {ba : Nat} {va : Nat} {vc : Nat} {nwk : Nat} {nt : Nat} {ro : Nat} {lo : Nat} {bd : Nat} {ta : Nat} {tr : Nat} {rn : Nat} {bi : Int32} {bk9 : Nat} {bv : Int32} {f : Nat → Int32} {i : Nat} (hi : i < rn) (hn : rn ≤ 20) : Sp D mX9_trace 30 0 0 [.ref o, .int (nI i)] [(o, .inr (9, [.ref ca, .ref im, .int tk, .ref txo, .ref ba, .ref va, .int (nI vc), .ref nwk, .ref nt, .ref ro, .ref lo, .ref bd, .ref ta])), (bd, .inr (0, [.ref tr, .int (nI rn), .int bi, .int (nI bk9), .int bv])), (tr, eI D 20 f)] (fun r w => r = some (.int (f i)) ∧ w = [(o, .inr (9, [.ref ca, .ref im, .int tk, .ref txo, .ref ba, .ref va, .int (nI vc), .ref nwk, .ref nt, .ref ro, .ref lo, .ref bd, .ref ta])), (bd, .inr (0, [.ref tr, .int (nI rn), .int bi, .int (nI bk9), .int bv])), (tr, eI D 20 f)]) := by
  refine Sp.of (by decide) (Nat.le_of_ble_eq_true rfl) (fun X O T => ?_)
  refine v_eq (lv' := [(0, .ref o), (1, .int (nI i))]) rfl rfl rfl rfl ?_
  refine v_aload_n O dX9_trace_0 0 rfl ?_
  refine gf_X9_78 O rfl dX9_trace_1 0 rfl rfl ?_
  refine v_iload_n O dX9_trace_4 1 rfl ?_
  refine v_cV (T := TX0) (ci := 0) (As := [.int (nI i)]) (wr := [(o, .inr (9, [.ref ca, .ref im, .int tk, .ref txo, .ref ba, .ref va, .int (nI vc), .ref nwk, .ref nt, .ref ro, .ref lo, .ref bd, .ref ta])), (tr, eI D 20 f)]) (st := []) O cf_X9_272 rfl (sp_X0_hasKept (bo := bd) (tr := tr) (n := rn) (i := bi) (k := bk9) (v := bv) (at_ := (nI i)) (hn)) dX9_trace_5 rfl rfl 1 rfl [1] [0, 2] (by decide) rfl rfl (by decide) (by decide) (by decide) (Nat.le_of_ble_eq_true rfl) (by decide) (by decide) (fun r_2 w_3 h_1 => ?_)
  obtain ⟨rfl, rfl⟩ := h_1
  refine v_eq (st' := [.int (b2i (isIx (nI i) rn))]) (ws' := [(o, .inr (9, [.ref ca, .ref im, .int tk, .ref txo, .ref ba, .ref va, .int (nI vc), .ref nwk, .ref nt, .ref ro, .ref lo, .ref bd, .ref ta])), (tr, eI D 20 f), (bd, .inr (0, [.ref tr, .int (nI rn), .int bi, .int (nI bk9), .int bv]))]) rfl rfl rfl rfl ?_
  refine v_if_eq O 22 dX9_trace_8 (by decide) (fun z1 => ?_) (fun z1 => ?_)
  · skip
    have z1 := b2i_0.mp z1
    exact absurd ((isIx_nI (by omega) (by omega)).mpr hi) z1
  · skip
    have z1 := b2i_1.mp z1
    refine v_aload_n O dX9_trace_11 0 rfl ?_
    refine gf_X9_78 O rfl dX9_trace_12 0 rfl rfl ?_
    refine v_iload_n O dX9_trace_15 1 rfl ?_
    refine v_cV (T := TX0) (ci := 0) (As := [.int (nI i)]) (wr := [(o, .inr (9, [.ref ca, .ref im, .int tk, .ref txo, .ref ba, .ref va, .int (nI vc), .ref nwk, .ref nt, .ref ro, .ref lo, .ref bd, .ref ta]))]) (st := []) O cf_X9_275 rfl (sp_X0_kept (bo := bd) (tr := tr) (n := rn) (i := bi) (k := bk9) (v := bv) (f := f) (at_ := i) (hi) (hn)) dX9_trace_16 rfl rfl 2 rfl [2, 1] [0] (by decide) rfl rfl (by decide) (by decide) (by decide) (Nat.le_of_ble_eq_true rfl) (by decide) (by decide) (fun r_5 w_6 h_4 => ?_)
    obtain ⟨rfl, rfl⟩ := h_4
    refine v_eq (st' := [.int (f i)]) (ws' := [(o, .inr (9, [.ref ca, .ref im, .int tk, .ref txo, .ref ba, .ref va, .int (nI vc), .ref nwk, .ref nt, .ref ro, .ref lo, .ref bd, .ref ta])), (bd, .inr (0, [.ref tr, .int (nI rn), .int bi, .int (nI bk9), .int bv])), (tr, eI D 20 f)]) rfl rfl rfl rfl ?_
    refine v_goto O 23 dX9_trace_19 (by decide) ?_
    exact v_ireturn O T rfl rfl (by decide) (by decide) dX9_trace_23 (⟨rfl, rfl⟩)
set_option maxRecDepth 100000 in
set_option maxHeartbeats 4000000 in
theorem sp_X9_aboveOf_n {D : G}  : Sp D mX9_aboveOf 0 0 0 [.int (-1)] [] (fun r w => r = some (.int (-1)) ∧ w = []) := by
  refine Sp.of (by decide) (Nat.le_of_ble_eq_true rfl) (fun X O T => ?_)
  refine v_eq (lv' := [(0, .int (-1))]) rfl rfl rfl rfl ?_
  refine v_iload_n O dX9_aboveOf_0 0 rfl ?_
  refine v_if_lt O 20 dX9_aboveOf_1 (by decide) (fun z1 => ?_) (fun z1 => ?_)
  · skip
    refine v_iconst (v := -1) O dX9_aboveOf_20 (by decide) ?_
    exact v_ireturn O T rfl rfl (by decide) (by decide) dX9_aboveOf_21 (⟨rfl, rfl⟩)
  · skip
    exact absurd (by decide) z1
set_option maxRecDepth 100000 in
set_option maxHeartbeats 4000000 in
theorem sp_X9_isUnder_0 {D : G} {k : Nat} (hk : k < 7) : Sp D mX9_isUnder 1 0 0 [.int 0, .int (nI k)] [] (fun r w => r = some (.int (b2i (takN 0 k))) ∧ w = []) := by
  refine Sp.of (by decide) (Nat.le_of_ble_eq_true rfl) (fun X O T => ?_)
  refine v_eq (lv' := [(0, .int 0), (1, .int (nI k))]) rfl rfl rfl rfl ?_
  refine v_iload_n O dX9_isUnder_0 0 rfl ?_
  refine v_istore_n (lv' := [(0, .int 0), (1, .int (nI k)), (2, .int 0)]) O dX9_isUnder_1 (by decide) rfl ?_
  refine v_iconst (v := 0) O dX9_isUnder_2 (by decide) ?_
  refine v_istore_n (lv' := [(0, .int 0), (1, .int (nI k)), (2, .int 0), (3, .int 0)]) O dX9_isUnder_3 (by decide) rfl ?_
  refine v_iload_n O dX9_isUnder_4 3 rfl ?_
  refine v_iconst (v := 3) O dX9_isUnder_5 (by decide) ?_
  refine v_icmp_ge O 27 dX9_isUnder_6 (by decide) (fun c => absurd c (by decide)) (fun _ => ?_)
  refine v_iload_n O dX9_isUnder_9 2 rfl ?_
  refine v_iload_n O dX9_isUnder_10 1 rfl ?_
  refine v_icmp_ne O 16 dX9_isUnder_11 (by decide) (fun z0 => ?_) (fun z0 => ?_)
  · skip
    have z0 := (not_congr (c_eq (x := 0) (y := nI k) (a := 0) (b := k) rfl rfl (by omega) (by omega))).mp z0
    refine v_iload_n O dX9_isUnder_16 2 rfl ?_
    refine v_cS (As := [.int 0]) (wr := []) (st := []) O cf_X9_305 (sp_X9_aboveOf (k := 0) (by decide)) dX9_isUnder_17 rfl rfl [] [] (by decide) rfl rfl (by decide) (by decide) (by decide) (Nat.le_of_ble_eq_true rfl) (by decide) (by decide) (fun r_3 w_4 h_2 => ?_)
    obtain ⟨rfl, rfl⟩ := h_2
    refine v_eq (st' := [.int (x_abv 0)]) (ws' := []) rfl rfl rfl rfl ?_
    refine v_top (y := -1) (by decide) ?_
    refine v_istore_n (lv' := [(0, .int 0), (1, .int (nI k)), (2, .int (-1)), (3, .int 0)]) O dX9_isUnder_20 (by decide) rfl ?_
    refine v_iinc (v := 1) (lv' := [(0, .int 0), (1, .int (nI k)), (2, .int (-1)), (3, .int 1)]) O dX9_isUnder_21 3 rfl (by decide) (by decide) rfl ?_
    refine v_goto O 4 dX9_isUnder_24 (by decide) ?_
    refine v_iload_n O dX9_isUnder_4 3 rfl ?_
    refine v_iconst (v := 3) O dX9_isUnder_5 (by decide) ?_
    refine v_icmp_ge O 27 dX9_isUnder_6 (by decide) (fun c => absurd c (by decide)) (fun _ => ?_)
    refine v_iload_n O dX9_isUnder_9 2 rfl ?_
    refine v_iload_n O dX9_isUnder_10 1 rfl ?_
    refine v_icmp_ne O 16 dX9_isUnder_11 (by decide) (fun z1 => ?_) (fun z1 => ?_)
    · skip
      refine v_iload_n O dX9_isUnder_16 2 rfl ?_
      refine v_cS (As := [.int (-1)]) (wr := []) (st := []) O cf_X9_305 (sp_X9_aboveOf_n ) dX9_isUnder_17 rfl rfl [] [] (by decide) rfl rfl (by decide) (by decide) (by decide) (Nat.le_of_ble_eq_true rfl) (by decide) (by decide) (fun r_7 w_8 h_6 => ?_)
      obtain ⟨rfl, rfl⟩ := h_6
      refine v_eq (st' := [.int (-1)]) (ws' := []) rfl rfl rfl rfl ?_
      refine v_istore_n (lv' := [(0, .int 0), (1, .int (nI k)), (2, .int (-1)), (3, .int 1)]) O dX9_isUnder_20 (by decide) rfl ?_
      refine v_iinc (v := 2) (lv' := [(0, .int 0), (1, .int (nI k)), (2, .int (-1)), (3, .int 2)]) O dX9_isUnder_21 3 rfl (by decide) (by decide) rfl ?_
      refine v_goto O 4 dX9_isUnder_24 (by decide) ?_
      refine v_iload_n O dX9_isUnder_4 3 rfl ?_
      refine v_iconst (v := 3) O dX9_isUnder_5 (by decide) ?_
      refine v_icmp_ge O 27 dX9_isUnder_6 (by decide) (fun c => absurd c (by decide)) (fun _ => ?_)
      refine v_iload_n O dX9_isUnder_9 2 rfl ?_
      refine v_iload_n O dX9_isUnder_10 1 rfl ?_
      refine v_icmp_ne O 16 dX9_isUnder_11 (by decide) (fun z2 => ?_) (fun z2 => ?_)
      · skip
        refine v_iload_n O dX9_isUnder_16 2 rfl ?_
        refine v_cS (As := [.int (-1)]) (wr := []) (st := []) O cf_X9_305 (sp_X9_aboveOf_n ) dX9_isUnder_17 rfl rfl [] [] (by decide) rfl rfl (by decide) (by decide) (by decide) (Nat.le_of_ble_eq_true rfl) (by decide) (by decide) (fun r_11 w_12 h_10 => ?_)
        obtain ⟨rfl, rfl⟩ := h_10
        refine v_eq (st' := [.int (-1)]) (ws' := []) rfl rfl rfl rfl ?_
        refine v_istore_n (lv' := [(0, .int 0), (1, .int (nI k)), (2, .int (-1)), (3, .int 2)]) O dX9_isUnder_20 (by decide) rfl ?_
        refine v_iinc (v := 3) (lv' := [(0, .int 0), (1, .int (nI k)), (2, .int (-1)), (3, .int 3)]) O dX9_isUnder_21 3 rfl (by decide) (by decide) rfl ?_
        refine v_goto O 4 dX9_isUnder_24 (by decide) ?_
        refine v_iload_n O dX9_isUnder_4 3 rfl ?_
        refine v_iconst (v := 3) O dX9_isUnder_5 (by decide) ?_
        refine v_icmp_ge O 27 dX9_isUnder_6 (by decide) (fun _ => ?_) (fun c => absurd c (by decide))
        refine v_iconst (v := 0) O dX9_isUnder_27 (by decide) ?_
        exact v_ireturn O T rfl rfl (by decide) (by decide) dX9_isUnder_28 (⟨by rw [b2i_f (by unfold takN; omega)], rfl⟩)
      · skip
        exact absurd z2.symm (zI_m1 (by omega))
    · skip
      exact absurd z1.symm (zI_m1 (by omega))
  · skip
    have z0 := (c_eq (x := 0) (y := nI k) (a := 0) (b := k) rfl rfl (by omega) (by omega)).mp z0
    refine v_iconst (v := 1) O dX9_isUnder_14 (by decide) ?_
    exact v_ireturn O T rfl rfl (by decide) (by decide) dX9_isUnder_15 (⟨by rw [b2i_t (by unfold takN; omega)], rfl⟩)
set_option maxRecDepth 100000 in
set_option maxHeartbeats 4000000 in
theorem sp_X9_isUnder_1 {D : G} {k : Nat} (hk : k < 7) : Sp D mX9_isUnder 1 0 0 [.int 1, .int (nI k)] [] (fun r w => r = some (.int (b2i (takN 1 k))) ∧ w = []) := by
  refine Sp.of (by decide) (Nat.le_of_ble_eq_true rfl) (fun X O T => ?_)
  refine v_eq (lv' := [(0, .int 1), (1, .int (nI k))]) rfl rfl rfl rfl ?_
  refine v_iload_n O dX9_isUnder_0 0 rfl ?_
  refine v_istore_n (lv' := [(0, .int 1), (1, .int (nI k)), (2, .int 1)]) O dX9_isUnder_1 (by decide) rfl ?_
  refine v_iconst (v := 0) O dX9_isUnder_2 (by decide) ?_
  refine v_istore_n (lv' := [(0, .int 1), (1, .int (nI k)), (2, .int 1), (3, .int 0)]) O dX9_isUnder_3 (by decide) rfl ?_
  refine v_iload_n O dX9_isUnder_4 3 rfl ?_
  refine v_iconst (v := 3) O dX9_isUnder_5 (by decide) ?_
  refine v_icmp_ge O 27 dX9_isUnder_6 (by decide) (fun c => absurd c (by decide)) (fun _ => ?_)
  refine v_iload_n O dX9_isUnder_9 2 rfl ?_
  refine v_iload_n O dX9_isUnder_10 1 rfl ?_
  refine v_icmp_ne O 16 dX9_isUnder_11 (by decide) (fun z0 => ?_) (fun z0 => ?_)
  · skip
    have z0 := (not_congr (c_eq (x := 1) (y := nI k) (a := 1) (b := k) rfl rfl (by omega) (by omega))).mp z0
    refine v_iload_n O dX9_isUnder_16 2 rfl ?_
    refine v_cS (As := [.int 1]) (wr := []) (st := []) O cf_X9_305 (sp_X9_aboveOf (k := 1) (by decide)) dX9_isUnder_17 rfl rfl [] [] (by decide) rfl rfl (by decide) (by decide) (by decide) (Nat.le_of_ble_eq_true rfl) (by decide) (by decide) (fun r_3 w_4 h_2 => ?_)
    obtain ⟨rfl, rfl⟩ := h_2
    refine v_eq (st' := [.int (x_abv 1)]) (ws' := []) rfl rfl rfl rfl ?_
    refine v_top (y := 0) (by decide) ?_
    refine v_istore_n (lv' := [(0, .int 1), (1, .int (nI k)), (2, .int 0), (3, .int 0)]) O dX9_isUnder_20 (by decide) rfl ?_
    refine v_iinc (v := 1) (lv' := [(0, .int 1), (1, .int (nI k)), (2, .int 0), (3, .int 1)]) O dX9_isUnder_21 3 rfl (by decide) (by decide) rfl ?_
    refine v_goto O 4 dX9_isUnder_24 (by decide) ?_
    refine v_iload_n O dX9_isUnder_4 3 rfl ?_
    refine v_iconst (v := 3) O dX9_isUnder_5 (by decide) ?_
    refine v_icmp_ge O 27 dX9_isUnder_6 (by decide) (fun c => absurd c (by decide)) (fun _ => ?_)
    refine v_iload_n O dX9_isUnder_9 2 rfl ?_
    refine v_iload_n O dX9_isUnder_10 1 rfl ?_
    refine v_icmp_ne O 16 dX9_isUnder_11 (by decide) (fun z1 => ?_) (fun z1 => ?_)
    · skip
      have z1 := (not_congr (c_eq (x := 0) (y := nI k) (a := 0) (b := k) rfl rfl (by omega) (by omega))).mp z1
      refine v_iload_n O dX9_isUnder_16 2 rfl ?_
      refine v_cS (As := [.int 0]) (wr := []) (st := []) O cf_X9_305 (sp_X9_aboveOf (k := 0) (by decide)) dX9_isUnder_17 rfl rfl [] [] (by decide) rfl rfl (by decide) (by decide) (by decide) (Nat.le_of_ble_eq_true rfl) (by decide) (by decide) (fun r_7 w_8 h_6 => ?_)
      obtain ⟨rfl, rfl⟩ := h_6
      refine v_eq (st' := [.int (x_abv 0)]) (ws' := []) rfl rfl rfl rfl ?_
      refine v_top (y := -1) (by decide) ?_
      refine v_istore_n (lv' := [(0, .int 1), (1, .int (nI k)), (2, .int (-1)), (3, .int 1)]) O dX9_isUnder_20 (by decide) rfl ?_
      refine v_iinc (v := 2) (lv' := [(0, .int 1), (1, .int (nI k)), (2, .int (-1)), (3, .int 2)]) O dX9_isUnder_21 3 rfl (by decide) (by decide) rfl ?_
      refine v_goto O 4 dX9_isUnder_24 (by decide) ?_
      refine v_iload_n O dX9_isUnder_4 3 rfl ?_
      refine v_iconst (v := 3) O dX9_isUnder_5 (by decide) ?_
      refine v_icmp_ge O 27 dX9_isUnder_6 (by decide) (fun c => absurd c (by decide)) (fun _ => ?_)
      refine v_iload_n O dX9_isUnder_9 2 rfl ?_
      refine v_iload_n O dX9_isUnder_10 1 rfl ?_
      refine v_icmp_ne O 16 dX9_isUnder_11 (by decide) (fun z2 => ?_) (fun z2 => ?_)
      · skip
        refine v_iload_n O dX9_isUnder_16 2 rfl ?_
        refine v_cS (As := [.int (-1)]) (wr := []) (st := []) O cf_X9_305 (sp_X9_aboveOf_n ) dX9_isUnder_17 rfl rfl [] [] (by decide) rfl rfl (by decide) (by decide) (by decide) (Nat.le_of_ble_eq_true rfl) (by decide) (by decide) (fun r_11 w_12 h_10 => ?_)
        obtain ⟨rfl, rfl⟩ := h_10
        refine v_eq (st' := [.int (-1)]) (ws' := []) rfl rfl rfl rfl ?_
        refine v_istore_n (lv' := [(0, .int 1), (1, .int (nI k)), (2, .int (-1)), (3, .int 2)]) O dX9_isUnder_20 (by decide) rfl ?_
        refine v_iinc (v := 3) (lv' := [(0, .int 1), (1, .int (nI k)), (2, .int (-1)), (3, .int 3)]) O dX9_isUnder_21 3 rfl (by decide) (by decide) rfl ?_
        refine v_goto O 4 dX9_isUnder_24 (by decide) ?_
        refine v_iload_n O dX9_isUnder_4 3 rfl ?_
        refine v_iconst (v := 3) O dX9_isUnder_5 (by decide) ?_
        refine v_icmp_ge O 27 dX9_isUnder_6 (by decide) (fun _ => ?_) (fun c => absurd c (by decide))
        refine v_iconst (v := 0) O dX9_isUnder_27 (by decide) ?_
        exact v_ireturn O T rfl rfl (by decide) (by decide) dX9_isUnder_28 (⟨by rw [b2i_f (by unfold takN; omega)], rfl⟩)
      · skip
        exact absurd z2.symm (zI_m1 (by omega))
    · skip
      have z1 := (c_eq (x := 0) (y := nI k) (a := 0) (b := k) rfl rfl (by omega) (by omega)).mp z1
      refine v_iconst (v := 1) O dX9_isUnder_14 (by decide) ?_
      exact v_ireturn O T rfl rfl (by decide) (by decide) dX9_isUnder_15 (⟨by rw [b2i_t (by unfold takN; omega)], rfl⟩)
  · skip
    have z0 := (c_eq (x := 1) (y := nI k) (a := 1) (b := k) rfl rfl (by omega) (by omega)).mp z0
    refine v_iconst (v := 1) O dX9_isUnder_14 (by decide) ?_
    exact v_ireturn O T rfl rfl (by decide) (by decide) dX9_isUnder_15 (⟨by rw [b2i_t (by unfold takN; omega)], rfl⟩)
set_option maxRecDepth 100000 in
set_option maxHeartbeats 4000000 in
theorem sp_X9_isUnder_2 {D : G} {k : Nat} (hk : k < 7) : Sp D mX9_isUnder 1 0 0 [.int 2, .int (nI k)] [] (fun r w => r = some (.int (b2i (takN 2 k))) ∧ w = []) := by
  refine Sp.of (by decide) (Nat.le_of_ble_eq_true rfl) (fun X O T => ?_)
  refine v_eq (lv' := [(0, .int 2), (1, .int (nI k))]) rfl rfl rfl rfl ?_
  refine v_iload_n O dX9_isUnder_0 0 rfl ?_
  refine v_istore_n (lv' := [(0, .int 2), (1, .int (nI k)), (2, .int 2)]) O dX9_isUnder_1 (by decide) rfl ?_
  refine v_iconst (v := 0) O dX9_isUnder_2 (by decide) ?_
  refine v_istore_n (lv' := [(0, .int 2), (1, .int (nI k)), (2, .int 2), (3, .int 0)]) O dX9_isUnder_3 (by decide) rfl ?_
  refine v_iload_n O dX9_isUnder_4 3 rfl ?_
  refine v_iconst (v := 3) O dX9_isUnder_5 (by decide) ?_
  refine v_icmp_ge O 27 dX9_isUnder_6 (by decide) (fun c => absurd c (by decide)) (fun _ => ?_)
  refine v_iload_n O dX9_isUnder_9 2 rfl ?_
  refine v_iload_n O dX9_isUnder_10 1 rfl ?_
  refine v_icmp_ne O 16 dX9_isUnder_11 (by decide) (fun z0 => ?_) (fun z0 => ?_)
  · skip
    have z0 := (not_congr (c_eq (x := 2) (y := nI k) (a := 2) (b := k) rfl rfl (by omega) (by omega))).mp z0
    refine v_iload_n O dX9_isUnder_16 2 rfl ?_
    refine v_cS (As := [.int 2]) (wr := []) (st := []) O cf_X9_305 (sp_X9_aboveOf (k := 2) (by decide)) dX9_isUnder_17 rfl rfl [] [] (by decide) rfl rfl (by decide) (by decide) (by decide) (Nat.le_of_ble_eq_true rfl) (by decide) (by decide) (fun r_3 w_4 h_2 => ?_)
    obtain ⟨rfl, rfl⟩ := h_2
    refine v_eq (st' := [.int (x_abv 2)]) (ws' := []) rfl rfl rfl rfl ?_
    refine v_top (y := 0) (by decide) ?_
    refine v_istore_n (lv' := [(0, .int 2), (1, .int (nI k)), (2, .int 0), (3, .int 0)]) O dX9_isUnder_20 (by decide) rfl ?_
    refine v_iinc (v := 1) (lv' := [(0, .int 2), (1, .int (nI k)), (2, .int 0), (3, .int 1)]) O dX9_isUnder_21 3 rfl (by decide) (by decide) rfl ?_
    refine v_goto O 4 dX9_isUnder_24 (by decide) ?_
    refine v_iload_n O dX9_isUnder_4 3 rfl ?_
    refine v_iconst (v := 3) O dX9_isUnder_5 (by decide) ?_
    refine v_icmp_ge O 27 dX9_isUnder_6 (by decide) (fun c => absurd c (by decide)) (fun _ => ?_)
    refine v_iload_n O dX9_isUnder_9 2 rfl ?_
    refine v_iload_n O dX9_isUnder_10 1 rfl ?_
    refine v_icmp_ne O 16 dX9_isUnder_11 (by decide) (fun z1 => ?_) (fun z1 => ?_)
    · skip
      have z1 := (not_congr (c_eq (x := 0) (y := nI k) (a := 0) (b := k) rfl rfl (by omega) (by omega))).mp z1
      refine v_iload_n O dX9_isUnder_16 2 rfl ?_
      refine v_cS (As := [.int 0]) (wr := []) (st := []) O cf_X9_305 (sp_X9_aboveOf (k := 0) (by decide)) dX9_isUnder_17 rfl rfl [] [] (by decide) rfl rfl (by decide) (by decide) (by decide) (Nat.le_of_ble_eq_true rfl) (by decide) (by decide) (fun r_7 w_8 h_6 => ?_)
      obtain ⟨rfl, rfl⟩ := h_6
      refine v_eq (st' := [.int (x_abv 0)]) (ws' := []) rfl rfl rfl rfl ?_
      refine v_top (y := -1) (by decide) ?_
      refine v_istore_n (lv' := [(0, .int 2), (1, .int (nI k)), (2, .int (-1)), (3, .int 1)]) O dX9_isUnder_20 (by decide) rfl ?_
      refine v_iinc (v := 2) (lv' := [(0, .int 2), (1, .int (nI k)), (2, .int (-1)), (3, .int 2)]) O dX9_isUnder_21 3 rfl (by decide) (by decide) rfl ?_
      refine v_goto O 4 dX9_isUnder_24 (by decide) ?_
      refine v_iload_n O dX9_isUnder_4 3 rfl ?_
      refine v_iconst (v := 3) O dX9_isUnder_5 (by decide) ?_
      refine v_icmp_ge O 27 dX9_isUnder_6 (by decide) (fun c => absurd c (by decide)) (fun _ => ?_)
      refine v_iload_n O dX9_isUnder_9 2 rfl ?_
      refine v_iload_n O dX9_isUnder_10 1 rfl ?_
      refine v_icmp_ne O 16 dX9_isUnder_11 (by decide) (fun z2 => ?_) (fun z2 => ?_)
      · skip
        refine v_iload_n O dX9_isUnder_16 2 rfl ?_
        refine v_cS (As := [.int (-1)]) (wr := []) (st := []) O cf_X9_305 (sp_X9_aboveOf_n ) dX9_isUnder_17 rfl rfl [] [] (by decide) rfl rfl (by decide) (by decide) (by decide) (Nat.le_of_ble_eq_true rfl) (by decide) (by decide) (fun r_11 w_12 h_10 => ?_)
        obtain ⟨rfl, rfl⟩ := h_10
        refine v_eq (st' := [.int (-1)]) (ws' := []) rfl rfl rfl rfl ?_
        refine v_istore_n (lv' := [(0, .int 2), (1, .int (nI k)), (2, .int (-1)), (3, .int 2)]) O dX9_isUnder_20 (by decide) rfl ?_
        refine v_iinc (v := 3) (lv' := [(0, .int 2), (1, .int (nI k)), (2, .int (-1)), (3, .int 3)]) O dX9_isUnder_21 3 rfl (by decide) (by decide) rfl ?_
        refine v_goto O 4 dX9_isUnder_24 (by decide) ?_
        refine v_iload_n O dX9_isUnder_4 3 rfl ?_
        refine v_iconst (v := 3) O dX9_isUnder_5 (by decide) ?_
        refine v_icmp_ge O 27 dX9_isUnder_6 (by decide) (fun _ => ?_) (fun c => absurd c (by decide))
        refine v_iconst (v := 0) O dX9_isUnder_27 (by decide) ?_
        exact v_ireturn O T rfl rfl (by decide) (by decide) dX9_isUnder_28 (⟨by rw [b2i_f (by unfold takN; omega)], rfl⟩)
      · skip
        exact absurd z2.symm (zI_m1 (by omega))
    · skip
      have z1 := (c_eq (x := 0) (y := nI k) (a := 0) (b := k) rfl rfl (by omega) (by omega)).mp z1
      refine v_iconst (v := 1) O dX9_isUnder_14 (by decide) ?_
      exact v_ireturn O T rfl rfl (by decide) (by decide) dX9_isUnder_15 (⟨by rw [b2i_t (by unfold takN; omega)], rfl⟩)
  · skip
    have z0 := (c_eq (x := 2) (y := nI k) (a := 2) (b := k) rfl rfl (by omega) (by omega)).mp z0
    refine v_iconst (v := 1) O dX9_isUnder_14 (by decide) ?_
    exact v_ireturn O T rfl rfl (by decide) (by decide) dX9_isUnder_15 (⟨by rw [b2i_t (by unfold takN; omega)], rfl⟩)
set_option maxRecDepth 100000 in
set_option maxHeartbeats 4000000 in
theorem sp_X9_isUnder_3 {D : G} {k : Nat} (hk : k < 7) : Sp D mX9_isUnder 1 0 0 [.int 3, .int (nI k)] [] (fun r w => r = some (.int (b2i (takN 3 k))) ∧ w = []) := by
  refine Sp.of (by decide) (Nat.le_of_ble_eq_true rfl) (fun X O T => ?_)
  refine v_eq (lv' := [(0, .int 3), (1, .int (nI k))]) rfl rfl rfl rfl ?_
  refine v_iload_n O dX9_isUnder_0 0 rfl ?_
  refine v_istore_n (lv' := [(0, .int 3), (1, .int (nI k)), (2, .int 3)]) O dX9_isUnder_1 (by decide) rfl ?_
  refine v_iconst (v := 0) O dX9_isUnder_2 (by decide) ?_
  refine v_istore_n (lv' := [(0, .int 3), (1, .int (nI k)), (2, .int 3), (3, .int 0)]) O dX9_isUnder_3 (by decide) rfl ?_
  refine v_iload_n O dX9_isUnder_4 3 rfl ?_
  refine v_iconst (v := 3) O dX9_isUnder_5 (by decide) ?_
  refine v_icmp_ge O 27 dX9_isUnder_6 (by decide) (fun c => absurd c (by decide)) (fun _ => ?_)
  refine v_iload_n O dX9_isUnder_9 2 rfl ?_
  refine v_iload_n O dX9_isUnder_10 1 rfl ?_
  refine v_icmp_ne O 16 dX9_isUnder_11 (by decide) (fun z0 => ?_) (fun z0 => ?_)
  · skip
    have z0 := (not_congr (c_eq (x := 3) (y := nI k) (a := 3) (b := k) rfl rfl (by omega) (by omega))).mp z0
    refine v_iload_n O dX9_isUnder_16 2 rfl ?_
    refine v_cS (As := [.int 3]) (wr := []) (st := []) O cf_X9_305 (sp_X9_aboveOf (k := 3) (by decide)) dX9_isUnder_17 rfl rfl [] [] (by decide) rfl rfl (by decide) (by decide) (by decide) (Nat.le_of_ble_eq_true rfl) (by decide) (by decide) (fun r_3 w_4 h_2 => ?_)
    obtain ⟨rfl, rfl⟩ := h_2
    refine v_eq (st' := [.int (x_abv 3)]) (ws' := []) rfl rfl rfl rfl ?_
    refine v_top (y := 0) (by decide) ?_
    refine v_istore_n (lv' := [(0, .int 3), (1, .int (nI k)), (2, .int 0), (3, .int 0)]) O dX9_isUnder_20 (by decide) rfl ?_
    refine v_iinc (v := 1) (lv' := [(0, .int 3), (1, .int (nI k)), (2, .int 0), (3, .int 1)]) O dX9_isUnder_21 3 rfl (by decide) (by decide) rfl ?_
    refine v_goto O 4 dX9_isUnder_24 (by decide) ?_
    refine v_iload_n O dX9_isUnder_4 3 rfl ?_
    refine v_iconst (v := 3) O dX9_isUnder_5 (by decide) ?_
    refine v_icmp_ge O 27 dX9_isUnder_6 (by decide) (fun c => absurd c (by decide)) (fun _ => ?_)
    refine v_iload_n O dX9_isUnder_9 2 rfl ?_
    refine v_iload_n O dX9_isUnder_10 1 rfl ?_
    refine v_icmp_ne O 16 dX9_isUnder_11 (by decide) (fun z1 => ?_) (fun z1 => ?_)
    · skip
      have z1 := (not_congr (c_eq (x := 0) (y := nI k) (a := 0) (b := k) rfl rfl (by omega) (by omega))).mp z1
      refine v_iload_n O dX9_isUnder_16 2 rfl ?_
      refine v_cS (As := [.int 0]) (wr := []) (st := []) O cf_X9_305 (sp_X9_aboveOf (k := 0) (by decide)) dX9_isUnder_17 rfl rfl [] [] (by decide) rfl rfl (by decide) (by decide) (by decide) (Nat.le_of_ble_eq_true rfl) (by decide) (by decide) (fun r_7 w_8 h_6 => ?_)
      obtain ⟨rfl, rfl⟩ := h_6
      refine v_eq (st' := [.int (x_abv 0)]) (ws' := []) rfl rfl rfl rfl ?_
      refine v_top (y := -1) (by decide) ?_
      refine v_istore_n (lv' := [(0, .int 3), (1, .int (nI k)), (2, .int (-1)), (3, .int 1)]) O dX9_isUnder_20 (by decide) rfl ?_
      refine v_iinc (v := 2) (lv' := [(0, .int 3), (1, .int (nI k)), (2, .int (-1)), (3, .int 2)]) O dX9_isUnder_21 3 rfl (by decide) (by decide) rfl ?_
      refine v_goto O 4 dX9_isUnder_24 (by decide) ?_
      refine v_iload_n O dX9_isUnder_4 3 rfl ?_
      refine v_iconst (v := 3) O dX9_isUnder_5 (by decide) ?_
      refine v_icmp_ge O 27 dX9_isUnder_6 (by decide) (fun c => absurd c (by decide)) (fun _ => ?_)
      refine v_iload_n O dX9_isUnder_9 2 rfl ?_
      refine v_iload_n O dX9_isUnder_10 1 rfl ?_
      refine v_icmp_ne O 16 dX9_isUnder_11 (by decide) (fun z2 => ?_) (fun z2 => ?_)
      · skip
        refine v_iload_n O dX9_isUnder_16 2 rfl ?_
        refine v_cS (As := [.int (-1)]) (wr := []) (st := []) O cf_X9_305 (sp_X9_aboveOf_n ) dX9_isUnder_17 rfl rfl [] [] (by decide) rfl rfl (by decide) (by decide) (by decide) (Nat.le_of_ble_eq_true rfl) (by decide) (by decide) (fun r_11 w_12 h_10 => ?_)
        obtain ⟨rfl, rfl⟩ := h_10
        refine v_eq (st' := [.int (-1)]) (ws' := []) rfl rfl rfl rfl ?_
        refine v_istore_n (lv' := [(0, .int 3), (1, .int (nI k)), (2, .int (-1)), (3, .int 2)]) O dX9_isUnder_20 (by decide) rfl ?_
        refine v_iinc (v := 3) (lv' := [(0, .int 3), (1, .int (nI k)), (2, .int (-1)), (3, .int 3)]) O dX9_isUnder_21 3 rfl (by decide) (by decide) rfl ?_
        refine v_goto O 4 dX9_isUnder_24 (by decide) ?_
        refine v_iload_n O dX9_isUnder_4 3 rfl ?_
        refine v_iconst (v := 3) O dX9_isUnder_5 (by decide) ?_
        refine v_icmp_ge O 27 dX9_isUnder_6 (by decide) (fun _ => ?_) (fun c => absurd c (by decide))
        refine v_iconst (v := 0) O dX9_isUnder_27 (by decide) ?_
        exact v_ireturn O T rfl rfl (by decide) (by decide) dX9_isUnder_28 (⟨by rw [b2i_f (by unfold takN; omega)], rfl⟩)
      · skip
        exact absurd z2.symm (zI_m1 (by omega))
    · skip
      have z1 := (c_eq (x := 0) (y := nI k) (a := 0) (b := k) rfl rfl (by omega) (by omega)).mp z1
      refine v_iconst (v := 1) O dX9_isUnder_14 (by decide) ?_
      exact v_ireturn O T rfl rfl (by decide) (by decide) dX9_isUnder_15 (⟨by rw [b2i_t (by unfold takN; omega)], rfl⟩)
  · skip
    have z0 := (c_eq (x := 3) (y := nI k) (a := 3) (b := k) rfl rfl (by omega) (by omega)).mp z0
    refine v_iconst (v := 1) O dX9_isUnder_14 (by decide) ?_
    exact v_ireturn O T rfl rfl (by decide) (by decide) dX9_isUnder_15 (⟨by rw [b2i_t (by unfold takN; omega)], rfl⟩)
set_option maxRecDepth 100000 in
set_option maxHeartbeats 4000000 in
theorem sp_X9_isUnder_4 {D : G} {k : Nat} (hk : k < 7) : Sp D mX9_isUnder 1 0 0 [.int 4, .int (nI k)] [] (fun r w => r = some (.int (b2i (takN 4 k))) ∧ w = []) := by
  refine Sp.of (by decide) (Nat.le_of_ble_eq_true rfl) (fun X O T => ?_)
  refine v_eq (lv' := [(0, .int 4), (1, .int (nI k))]) rfl rfl rfl rfl ?_
  refine v_iload_n O dX9_isUnder_0 0 rfl ?_
  refine v_istore_n (lv' := [(0, .int 4), (1, .int (nI k)), (2, .int 4)]) O dX9_isUnder_1 (by decide) rfl ?_
  refine v_iconst (v := 0) O dX9_isUnder_2 (by decide) ?_
  refine v_istore_n (lv' := [(0, .int 4), (1, .int (nI k)), (2, .int 4), (3, .int 0)]) O dX9_isUnder_3 (by decide) rfl ?_
  refine v_iload_n O dX9_isUnder_4 3 rfl ?_
  refine v_iconst (v := 3) O dX9_isUnder_5 (by decide) ?_
  refine v_icmp_ge O 27 dX9_isUnder_6 (by decide) (fun c => absurd c (by decide)) (fun _ => ?_)
  refine v_iload_n O dX9_isUnder_9 2 rfl ?_
  refine v_iload_n O dX9_isUnder_10 1 rfl ?_
  refine v_icmp_ne O 16 dX9_isUnder_11 (by decide) (fun z0 => ?_) (fun z0 => ?_)
  · skip
    have z0 := (not_congr (c_eq (x := 4) (y := nI k) (a := 4) (b := k) rfl rfl (by omega) (by omega))).mp z0
    refine v_iload_n O dX9_isUnder_16 2 rfl ?_
    refine v_cS (As := [.int 4]) (wr := []) (st := []) O cf_X9_305 (sp_X9_aboveOf (k := 4) (by decide)) dX9_isUnder_17 rfl rfl [] [] (by decide) rfl rfl (by decide) (by decide) (by decide) (Nat.le_of_ble_eq_true rfl) (by decide) (by decide) (fun r_3 w_4 h_2 => ?_)
    obtain ⟨rfl, rfl⟩ := h_2
    refine v_eq (st' := [.int (x_abv 4)]) (ws' := []) rfl rfl rfl rfl ?_
    refine v_top (y := 1) (by decide) ?_
    refine v_istore_n (lv' := [(0, .int 4), (1, .int (nI k)), (2, .int 1), (3, .int 0)]) O dX9_isUnder_20 (by decide) rfl ?_
    refine v_iinc (v := 1) (lv' := [(0, .int 4), (1, .int (nI k)), (2, .int 1), (3, .int 1)]) O dX9_isUnder_21 3 rfl (by decide) (by decide) rfl ?_
    refine v_goto O 4 dX9_isUnder_24 (by decide) ?_
    refine v_iload_n O dX9_isUnder_4 3 rfl ?_
    refine v_iconst (v := 3) O dX9_isUnder_5 (by decide) ?_
    refine v_icmp_ge O 27 dX9_isUnder_6 (by decide) (fun c => absurd c (by decide)) (fun _ => ?_)
    refine v_iload_n O dX9_isUnder_9 2 rfl ?_
    refine v_iload_n O dX9_isUnder_10 1 rfl ?_
    refine v_icmp_ne O 16 dX9_isUnder_11 (by decide) (fun z1 => ?_) (fun z1 => ?_)
    · skip
      have z1 := (not_congr (c_eq (x := 1) (y := nI k) (a := 1) (b := k) rfl rfl (by omega) (by omega))).mp z1
      refine v_iload_n O dX9_isUnder_16 2 rfl ?_
      refine v_cS (As := [.int 1]) (wr := []) (st := []) O cf_X9_305 (sp_X9_aboveOf (k := 1) (by decide)) dX9_isUnder_17 rfl rfl [] [] (by decide) rfl rfl (by decide) (by decide) (by decide) (Nat.le_of_ble_eq_true rfl) (by decide) (by decide) (fun r_7 w_8 h_6 => ?_)
      obtain ⟨rfl, rfl⟩ := h_6
      refine v_eq (st' := [.int (x_abv 1)]) (ws' := []) rfl rfl rfl rfl ?_
      refine v_top (y := 0) (by decide) ?_
      refine v_istore_n (lv' := [(0, .int 4), (1, .int (nI k)), (2, .int 0), (3, .int 1)]) O dX9_isUnder_20 (by decide) rfl ?_
      refine v_iinc (v := 2) (lv' := [(0, .int 4), (1, .int (nI k)), (2, .int 0), (3, .int 2)]) O dX9_isUnder_21 3 rfl (by decide) (by decide) rfl ?_
      refine v_goto O 4 dX9_isUnder_24 (by decide) ?_
      refine v_iload_n O dX9_isUnder_4 3 rfl ?_
      refine v_iconst (v := 3) O dX9_isUnder_5 (by decide) ?_
      refine v_icmp_ge O 27 dX9_isUnder_6 (by decide) (fun c => absurd c (by decide)) (fun _ => ?_)
      refine v_iload_n O dX9_isUnder_9 2 rfl ?_
      refine v_iload_n O dX9_isUnder_10 1 rfl ?_
      refine v_icmp_ne O 16 dX9_isUnder_11 (by decide) (fun z2 => ?_) (fun z2 => ?_)
      · skip
        have z2 := (not_congr (c_eq (x := 0) (y := nI k) (a := 0) (b := k) rfl rfl (by omega) (by omega))).mp z2
        refine v_iload_n O dX9_isUnder_16 2 rfl ?_
        refine v_cS (As := [.int 0]) (wr := []) (st := []) O cf_X9_305 (sp_X9_aboveOf (k := 0) (by decide)) dX9_isUnder_17 rfl rfl [] [] (by decide) rfl rfl (by decide) (by decide) (by decide) (Nat.le_of_ble_eq_true rfl) (by decide) (by decide) (fun r_11 w_12 h_10 => ?_)
        obtain ⟨rfl, rfl⟩ := h_10
        refine v_eq (st' := [.int (x_abv 0)]) (ws' := []) rfl rfl rfl rfl ?_
        refine v_top (y := -1) (by decide) ?_
        refine v_istore_n (lv' := [(0, .int 4), (1, .int (nI k)), (2, .int (-1)), (3, .int 2)]) O dX9_isUnder_20 (by decide) rfl ?_
        refine v_iinc (v := 3) (lv' := [(0, .int 4), (1, .int (nI k)), (2, .int (-1)), (3, .int 3)]) O dX9_isUnder_21 3 rfl (by decide) (by decide) rfl ?_
        refine v_goto O 4 dX9_isUnder_24 (by decide) ?_
        refine v_iload_n O dX9_isUnder_4 3 rfl ?_
        refine v_iconst (v := 3) O dX9_isUnder_5 (by decide) ?_
        refine v_icmp_ge O 27 dX9_isUnder_6 (by decide) (fun _ => ?_) (fun c => absurd c (by decide))
        refine v_iconst (v := 0) O dX9_isUnder_27 (by decide) ?_
        exact v_ireturn O T rfl rfl (by decide) (by decide) dX9_isUnder_28 (⟨by rw [b2i_f (by unfold takN; omega)], rfl⟩)
      · skip
        have z2 := (c_eq (x := 0) (y := nI k) (a := 0) (b := k) rfl rfl (by omega) (by omega)).mp z2
        refine v_iconst (v := 1) O dX9_isUnder_14 (by decide) ?_
        exact v_ireturn O T rfl rfl (by decide) (by decide) dX9_isUnder_15 (⟨by rw [b2i_t (by unfold takN; omega)], rfl⟩)
    · skip
      have z1 := (c_eq (x := 1) (y := nI k) (a := 1) (b := k) rfl rfl (by omega) (by omega)).mp z1
      refine v_iconst (v := 1) O dX9_isUnder_14 (by decide) ?_
      exact v_ireturn O T rfl rfl (by decide) (by decide) dX9_isUnder_15 (⟨by rw [b2i_t (by unfold takN; omega)], rfl⟩)
  · skip
    have z0 := (c_eq (x := 4) (y := nI k) (a := 4) (b := k) rfl rfl (by omega) (by omega)).mp z0
    refine v_iconst (v := 1) O dX9_isUnder_14 (by decide) ?_
    exact v_ireturn O T rfl rfl (by decide) (by decide) dX9_isUnder_15 (⟨by rw [b2i_t (by unfold takN; omega)], rfl⟩)
set_option maxRecDepth 100000 in
set_option maxHeartbeats 4000000 in
theorem sp_X9_isUnder_5 {D : G} {k : Nat} (hk : k < 7) : Sp D mX9_isUnder 1 0 0 [.int 5, .int (nI k)] [] (fun r w => r = some (.int (b2i (takN 5 k))) ∧ w = []) := by
  refine Sp.of (by decide) (Nat.le_of_ble_eq_true rfl) (fun X O T => ?_)
  refine v_eq (lv' := [(0, .int 5), (1, .int (nI k))]) rfl rfl rfl rfl ?_
  refine v_iload_n O dX9_isUnder_0 0 rfl ?_
  refine v_istore_n (lv' := [(0, .int 5), (1, .int (nI k)), (2, .int 5)]) O dX9_isUnder_1 (by decide) rfl ?_
  refine v_iconst (v := 0) O dX9_isUnder_2 (by decide) ?_
  refine v_istore_n (lv' := [(0, .int 5), (1, .int (nI k)), (2, .int 5), (3, .int 0)]) O dX9_isUnder_3 (by decide) rfl ?_
  refine v_iload_n O dX9_isUnder_4 3 rfl ?_
  refine v_iconst (v := 3) O dX9_isUnder_5 (by decide) ?_
  refine v_icmp_ge O 27 dX9_isUnder_6 (by decide) (fun c => absurd c (by decide)) (fun _ => ?_)
  refine v_iload_n O dX9_isUnder_9 2 rfl ?_
  refine v_iload_n O dX9_isUnder_10 1 rfl ?_
  refine v_icmp_ne O 16 dX9_isUnder_11 (by decide) (fun z0 => ?_) (fun z0 => ?_)
  · skip
    have z0 := (not_congr (c_eq (x := 5) (y := nI k) (a := 5) (b := k) rfl rfl (by omega) (by omega))).mp z0
    refine v_iload_n O dX9_isUnder_16 2 rfl ?_
    refine v_cS (As := [.int 5]) (wr := []) (st := []) O cf_X9_305 (sp_X9_aboveOf (k := 5) (by decide)) dX9_isUnder_17 rfl rfl [] [] (by decide) rfl rfl (by decide) (by decide) (by decide) (Nat.le_of_ble_eq_true rfl) (by decide) (by decide) (fun r_3 w_4 h_2 => ?_)
    obtain ⟨rfl, rfl⟩ := h_2
    refine v_eq (st' := [.int (x_abv 5)]) (ws' := []) rfl rfl rfl rfl ?_
    refine v_top (y := 2) (by decide) ?_
    refine v_istore_n (lv' := [(0, .int 5), (1, .int (nI k)), (2, .int 2), (3, .int 0)]) O dX9_isUnder_20 (by decide) rfl ?_
    refine v_iinc (v := 1) (lv' := [(0, .int 5), (1, .int (nI k)), (2, .int 2), (3, .int 1)]) O dX9_isUnder_21 3 rfl (by decide) (by decide) rfl ?_
    refine v_goto O 4 dX9_isUnder_24 (by decide) ?_
    refine v_iload_n O dX9_isUnder_4 3 rfl ?_
    refine v_iconst (v := 3) O dX9_isUnder_5 (by decide) ?_
    refine v_icmp_ge O 27 dX9_isUnder_6 (by decide) (fun c => absurd c (by decide)) (fun _ => ?_)
    refine v_iload_n O dX9_isUnder_9 2 rfl ?_
    refine v_iload_n O dX9_isUnder_10 1 rfl ?_
    refine v_icmp_ne O 16 dX9_isUnder_11 (by decide) (fun z1 => ?_) (fun z1 => ?_)
    · skip
      have z1 := (not_congr (c_eq (x := 2) (y := nI k) (a := 2) (b := k) rfl rfl (by omega) (by omega))).mp z1
      refine v_iload_n O dX9_isUnder_16 2 rfl ?_
      refine v_cS (As := [.int 2]) (wr := []) (st := []) O cf_X9_305 (sp_X9_aboveOf (k := 2) (by decide)) dX9_isUnder_17 rfl rfl [] [] (by decide) rfl rfl (by decide) (by decide) (by decide) (Nat.le_of_ble_eq_true rfl) (by decide) (by decide) (fun r_7 w_8 h_6 => ?_)
      obtain ⟨rfl, rfl⟩ := h_6
      refine v_eq (st' := [.int (x_abv 2)]) (ws' := []) rfl rfl rfl rfl ?_
      refine v_top (y := 0) (by decide) ?_
      refine v_istore_n (lv' := [(0, .int 5), (1, .int (nI k)), (2, .int 0), (3, .int 1)]) O dX9_isUnder_20 (by decide) rfl ?_
      refine v_iinc (v := 2) (lv' := [(0, .int 5), (1, .int (nI k)), (2, .int 0), (3, .int 2)]) O dX9_isUnder_21 3 rfl (by decide) (by decide) rfl ?_
      refine v_goto O 4 dX9_isUnder_24 (by decide) ?_
      refine v_iload_n O dX9_isUnder_4 3 rfl ?_
      refine v_iconst (v := 3) O dX9_isUnder_5 (by decide) ?_
      refine v_icmp_ge O 27 dX9_isUnder_6 (by decide) (fun c => absurd c (by decide)) (fun _ => ?_)
      refine v_iload_n O dX9_isUnder_9 2 rfl ?_
      refine v_iload_n O dX9_isUnder_10 1 rfl ?_
      refine v_icmp_ne O 16 dX9_isUnder_11 (by decide) (fun z2 => ?_) (fun z2 => ?_)
      · skip
        have z2 := (not_congr (c_eq (x := 0) (y := nI k) (a := 0) (b := k) rfl rfl (by omega) (by omega))).mp z2
        refine v_iload_n O dX9_isUnder_16 2 rfl ?_
        refine v_cS (As := [.int 0]) (wr := []) (st := []) O cf_X9_305 (sp_X9_aboveOf (k := 0) (by decide)) dX9_isUnder_17 rfl rfl [] [] (by decide) rfl rfl (by decide) (by decide) (by decide) (Nat.le_of_ble_eq_true rfl) (by decide) (by decide) (fun r_11 w_12 h_10 => ?_)
        obtain ⟨rfl, rfl⟩ := h_10
        refine v_eq (st' := [.int (x_abv 0)]) (ws' := []) rfl rfl rfl rfl ?_
        refine v_top (y := -1) (by decide) ?_
        refine v_istore_n (lv' := [(0, .int 5), (1, .int (nI k)), (2, .int (-1)), (3, .int 2)]) O dX9_isUnder_20 (by decide) rfl ?_
        refine v_iinc (v := 3) (lv' := [(0, .int 5), (1, .int (nI k)), (2, .int (-1)), (3, .int 3)]) O dX9_isUnder_21 3 rfl (by decide) (by decide) rfl ?_
        refine v_goto O 4 dX9_isUnder_24 (by decide) ?_
        refine v_iload_n O dX9_isUnder_4 3 rfl ?_
        refine v_iconst (v := 3) O dX9_isUnder_5 (by decide) ?_
        refine v_icmp_ge O 27 dX9_isUnder_6 (by decide) (fun _ => ?_) (fun c => absurd c (by decide))
        refine v_iconst (v := 0) O dX9_isUnder_27 (by decide) ?_
        exact v_ireturn O T rfl rfl (by decide) (by decide) dX9_isUnder_28 (⟨by rw [b2i_f (by unfold takN; omega)], rfl⟩)
      · skip
        have z2 := (c_eq (x := 0) (y := nI k) (a := 0) (b := k) rfl rfl (by omega) (by omega)).mp z2
        refine v_iconst (v := 1) O dX9_isUnder_14 (by decide) ?_
        exact v_ireturn O T rfl rfl (by decide) (by decide) dX9_isUnder_15 (⟨by rw [b2i_t (by unfold takN; omega)], rfl⟩)
    · skip
      have z1 := (c_eq (x := 2) (y := nI k) (a := 2) (b := k) rfl rfl (by omega) (by omega)).mp z1
      refine v_iconst (v := 1) O dX9_isUnder_14 (by decide) ?_
      exact v_ireturn O T rfl rfl (by decide) (by decide) dX9_isUnder_15 (⟨by rw [b2i_t (by unfold takN; omega)], rfl⟩)
  · skip
    have z0 := (c_eq (x := 5) (y := nI k) (a := 5) (b := k) rfl rfl (by omega) (by omega)).mp z0
    refine v_iconst (v := 1) O dX9_isUnder_14 (by decide) ?_
    exact v_ireturn O T rfl rfl (by decide) (by decide) dX9_isUnder_15 (⟨by rw [b2i_t (by unfold takN; omega)], rfl⟩)
set_option maxRecDepth 100000 in
set_option maxHeartbeats 4000000 in
theorem sp_X9_isUnder_6 {D : G} {k : Nat} (hk : k < 7) : Sp D mX9_isUnder 1 0 0 [.int 6, .int (nI k)] [] (fun r w => r = some (.int (b2i (takN 6 k))) ∧ w = []) := by
  refine Sp.of (by decide) (Nat.le_of_ble_eq_true rfl) (fun X O T => ?_)
  refine v_eq (lv' := [(0, .int 6), (1, .int (nI k))]) rfl rfl rfl rfl ?_
  refine v_iload_n O dX9_isUnder_0 0 rfl ?_
  refine v_istore_n (lv' := [(0, .int 6), (1, .int (nI k)), (2, .int 6)]) O dX9_isUnder_1 (by decide) rfl ?_
  refine v_iconst (v := 0) O dX9_isUnder_2 (by decide) ?_
  refine v_istore_n (lv' := [(0, .int 6), (1, .int (nI k)), (2, .int 6), (3, .int 0)]) O dX9_isUnder_3 (by decide) rfl ?_
  refine v_iload_n O dX9_isUnder_4 3 rfl ?_
  refine v_iconst (v := 3) O dX9_isUnder_5 (by decide) ?_
  refine v_icmp_ge O 27 dX9_isUnder_6 (by decide) (fun c => absurd c (by decide)) (fun _ => ?_)
  refine v_iload_n O dX9_isUnder_9 2 rfl ?_
  refine v_iload_n O dX9_isUnder_10 1 rfl ?_
  refine v_icmp_ne O 16 dX9_isUnder_11 (by decide) (fun z0 => ?_) (fun z0 => ?_)
  · skip
    have z0 := (not_congr (c_eq (x := 6) (y := nI k) (a := 6) (b := k) rfl rfl (by omega) (by omega))).mp z0
    refine v_iload_n O dX9_isUnder_16 2 rfl ?_
    refine v_cS (As := [.int 6]) (wr := []) (st := []) O cf_X9_305 (sp_X9_aboveOf (k := 6) (by decide)) dX9_isUnder_17 rfl rfl [] [] (by decide) rfl rfl (by decide) (by decide) (by decide) (Nat.le_of_ble_eq_true rfl) (by decide) (by decide) (fun r_3 w_4 h_2 => ?_)
    obtain ⟨rfl, rfl⟩ := h_2
    refine v_eq (st' := [.int (x_abv 6)]) (ws' := []) rfl rfl rfl rfl ?_
    refine v_top (y := 3) (by decide) ?_
    refine v_istore_n (lv' := [(0, .int 6), (1, .int (nI k)), (2, .int 3), (3, .int 0)]) O dX9_isUnder_20 (by decide) rfl ?_
    refine v_iinc (v := 1) (lv' := [(0, .int 6), (1, .int (nI k)), (2, .int 3), (3, .int 1)]) O dX9_isUnder_21 3 rfl (by decide) (by decide) rfl ?_
    refine v_goto O 4 dX9_isUnder_24 (by decide) ?_
    refine v_iload_n O dX9_isUnder_4 3 rfl ?_
    refine v_iconst (v := 3) O dX9_isUnder_5 (by decide) ?_
    refine v_icmp_ge O 27 dX9_isUnder_6 (by decide) (fun c => absurd c (by decide)) (fun _ => ?_)
    refine v_iload_n O dX9_isUnder_9 2 rfl ?_
    refine v_iload_n O dX9_isUnder_10 1 rfl ?_
    refine v_icmp_ne O 16 dX9_isUnder_11 (by decide) (fun z1 => ?_) (fun z1 => ?_)
    · skip
      have z1 := (not_congr (c_eq (x := 3) (y := nI k) (a := 3) (b := k) rfl rfl (by omega) (by omega))).mp z1
      refine v_iload_n O dX9_isUnder_16 2 rfl ?_
      refine v_cS (As := [.int 3]) (wr := []) (st := []) O cf_X9_305 (sp_X9_aboveOf (k := 3) (by decide)) dX9_isUnder_17 rfl rfl [] [] (by decide) rfl rfl (by decide) (by decide) (by decide) (Nat.le_of_ble_eq_true rfl) (by decide) (by decide) (fun r_7 w_8 h_6 => ?_)
      obtain ⟨rfl, rfl⟩ := h_6
      refine v_eq (st' := [.int (x_abv 3)]) (ws' := []) rfl rfl rfl rfl ?_
      refine v_top (y := 0) (by decide) ?_
      refine v_istore_n (lv' := [(0, .int 6), (1, .int (nI k)), (2, .int 0), (3, .int 1)]) O dX9_isUnder_20 (by decide) rfl ?_
      refine v_iinc (v := 2) (lv' := [(0, .int 6), (1, .int (nI k)), (2, .int 0), (3, .int 2)]) O dX9_isUnder_21 3 rfl (by decide) (by decide) rfl ?_
      refine v_goto O 4 dX9_isUnder_24 (by decide) ?_
      refine v_iload_n O dX9_isUnder_4 3 rfl ?_
      refine v_iconst (v := 3) O dX9_isUnder_5 (by decide) ?_
      refine v_icmp_ge O 27 dX9_isUnder_6 (by decide) (fun c => absurd c (by decide)) (fun _ => ?_)
      refine v_iload_n O dX9_isUnder_9 2 rfl ?_
      refine v_iload_n O dX9_isUnder_10 1 rfl ?_
      refine v_icmp_ne O 16 dX9_isUnder_11 (by decide) (fun z2 => ?_) (fun z2 => ?_)
      · skip
        have z2 := (not_congr (c_eq (x := 0) (y := nI k) (a := 0) (b := k) rfl rfl (by omega) (by omega))).mp z2
        refine v_iload_n O dX9_isUnder_16 2 rfl ?_
        refine v_cS (As := [.int 0]) (wr := []) (st := []) O cf_X9_305 (sp_X9_aboveOf (k := 0) (by decide)) dX9_isUnder_17 rfl rfl [] [] (by decide) rfl rfl (by decide) (by decide) (by decide) (Nat.le_of_ble_eq_true rfl) (by decide) (by decide) (fun r_11 w_12 h_10 => ?_)
        obtain ⟨rfl, rfl⟩ := h_10
        refine v_eq (st' := [.int (x_abv 0)]) (ws' := []) rfl rfl rfl rfl ?_
        refine v_top (y := -1) (by decide) ?_
        refine v_istore_n (lv' := [(0, .int 6), (1, .int (nI k)), (2, .int (-1)), (3, .int 2)]) O dX9_isUnder_20 (by decide) rfl ?_
        refine v_iinc (v := 3) (lv' := [(0, .int 6), (1, .int (nI k)), (2, .int (-1)), (3, .int 3)]) O dX9_isUnder_21 3 rfl (by decide) (by decide) rfl ?_
        refine v_goto O 4 dX9_isUnder_24 (by decide) ?_
        refine v_iload_n O dX9_isUnder_4 3 rfl ?_
        refine v_iconst (v := 3) O dX9_isUnder_5 (by decide) ?_
        refine v_icmp_ge O 27 dX9_isUnder_6 (by decide) (fun _ => ?_) (fun c => absurd c (by decide))
        refine v_iconst (v := 0) O dX9_isUnder_27 (by decide) ?_
        exact v_ireturn O T rfl rfl (by decide) (by decide) dX9_isUnder_28 (⟨by rw [b2i_f (by unfold takN; omega)], rfl⟩)
      · skip
        have z2 := (c_eq (x := 0) (y := nI k) (a := 0) (b := k) rfl rfl (by omega) (by omega)).mp z2
        refine v_iconst (v := 1) O dX9_isUnder_14 (by decide) ?_
        exact v_ireturn O T rfl rfl (by decide) (by decide) dX9_isUnder_15 (⟨by rw [b2i_t (by unfold takN; omega)], rfl⟩)
    · skip
      have z1 := (c_eq (x := 3) (y := nI k) (a := 3) (b := k) rfl rfl (by omega) (by omega)).mp z1
      refine v_iconst (v := 1) O dX9_isUnder_14 (by decide) ?_
      exact v_ireturn O T rfl rfl (by decide) (by decide) dX9_isUnder_15 (⟨by rw [b2i_t (by unfold takN; omega)], rfl⟩)
  · skip
    have z0 := (c_eq (x := 6) (y := nI k) (a := 6) (b := k) rfl rfl (by omega) (by omega)).mp z0
    refine v_iconst (v := 1) O dX9_isUnder_14 (by decide) ?_
    exact v_ireturn O T rfl rfl (by decide) (by decide) dX9_isUnder_15 (⟨by rw [b2i_t (by unfold takN; omega)], rfl⟩)
theorem sp_X9_isUnder {D : G} {kd : Nat} {k : Nat} (hkd : kd < 7) (hk : k < 7) : Sp D mX9_isUnder 1 0 0 [.int (nI kd), .int (nI k)] [] (fun r w => r = some (.int (b2i (takN kd k))) ∧ w = []) := by
  rcases (show kd = 0 ∨ kd = 1 ∨ kd = 2 ∨ kd = 3 ∨ kd = 4 ∨ kd = 5 ∨ kd = 6 by omega) with rfl | rfl | rfl | rfl | rfl | rfl | rfl
  · exact sp_X9_isUnder_0 hk
  · exact sp_X9_isUnder_1 hk
  · exact sp_X9_isUnder_2 hk
  · exact sp_X9_isUnder_3 hk
  · exact sp_X9_isUnder_4 hk
  · exact sp_X9_isUnder_5 hk
  · exact sp_X9_isUnder_6 hk
set_option maxRecDepth 100000 in
set_option maxHeartbeats 4000000 in
theorem sp_X9_taken_1 {D : G} {o : Nat} {ca : Nat} {im : Nat} {tk : Int32} {txo : Nat} {ba : Nat} {va : Nat} {vc : Nat} {nwk : Nat} {nt : Nat} {ro : Nat} {lo : Nat} {bd : Nat} {ta : Nat} {ck : Nat} {cv : Nat} {chd : Nat} {cr : Nat} {cb : Nat} {c : CS} {i : Int32} {k : Int32} (hC : cOk c) (hk : ¬ isIx k 7) : Sp D mX9_taken 30 0 0 [.ref o, .int i, .int k] [(o, .inr (9, [.ref ca, .ref im, .int tk, .ref txo, .ref ba, .ref va, .int (nI vc), .ref nwk, .ref nt, .ref ro, .ref lo, .ref bd, .ref ta])), (ca, .inr (1, [.int (nI c.men), .ref ck, .ref cv, .ref chd, .int (nI c.heap), .int c.dogs, .int (nI c.wak), .int (nI c.rl), .ref cr, .int (nI c.pg), .ref cb, .int c.held])), (ck, eI D 6 (nF c.kk)), (cv, eI D 6 (nF c.vv)), (chd, eI D 6 c.hd), (cr, eI D 8 (nF c.crf)), (cb, eI D 12 (nF c.bo))] (fun r w => r = some (.int (-2)) ∧ w = [(o, .inr (9, [.ref ca, .ref im, .int tk, .ref txo, .ref ba, .ref va, .int (nI vc), .ref nwk, .ref nt, .ref ro, .ref lo, .ref bd, .ref ta])), (ca, .inr (1, [.int (nI c.men), .ref ck, .ref cv, .ref chd, .int (nI c.heap), .int c.dogs, .int (nI c.wak), .int (nI c.rl), .ref cr, .int (nI c.pg), .ref cb, .int c.held])), (ck, eI D 6 (nF c.kk)), (cv, eI D 6 (nF c.vv)), (chd, eI D 6 c.hd), (cr, eI D 8 (nF c.crf)), (cb, eI D 12 (nF c.bo))]) := by
  refine Sp.of (by decide) (Nat.le_of_ble_eq_true rfl) (fun X O T => ?_)
  refine v_eq (lv' := [(0, .ref o), (1, .int i), (2, .int k)]) rfl rfl rfl rfl ?_
  have z_m := hC.1
  have z_hp := hC.2.2.2.1
  have z_wk := hC.2.2.2.2.1
  have z_rl := hC.2.2.2.2.2.1
  have z_pg := hC.2.2.2.2.2.2.2.1
  refine v_iload_n O dX9_taken_0 2 rfl ?_
  refine v_if_lt O 10 dX9_taken_1 (by decide) (fun z1 => ?_) (fun z1 => ?_)
  · skip
    refine v_bipush (v := -2) O dX9_taken_10 (by decide) ?_
    exact v_ireturn O T rfl rfl (by decide) (by decide) dX9_taken_12 (⟨rfl, rfl⟩)
  · skip
    refine v_iload_n O dX9_taken_4 2 rfl ?_
    refine v_bipush (v := 7) O dX9_taken_5 (by decide) ?_
    refine v_icmp_lt O 13 dX9_taken_7 (by decide) (fun z2 => ?_) (fun z2 => ?_)
    · skip
      exact absurd (isIx_t (n := 7) (by decide) z1 (Int32.not_le.mpr z2)) hk
    · skip
      refine v_bipush (v := -2) O dX9_taken_10 (by decide) ?_
      exact v_ireturn O T rfl rfl (by decide) (by decide) dX9_taken_12 (⟨rfl, rfl⟩)
set_option maxRecDepth 100000 in
set_option maxHeartbeats 4000000 in
theorem sp_X9_taken_2 {D : G} {o : Nat} {ca : Nat} {im : Nat} {tk : Int32} {txo : Nat} {ba : Nat} {va : Nat} {vc : Nat} {nwk : Nat} {nt : Nat} {ro : Nat} {lo : Nat} {bd : Nat} {ta : Nat} {ck : Nat} {cv : Nat} {chd : Nat} {cr : Nat} {cb : Nat} {c : CS} {i : Int32} {k : Nat} (hC : cOk c) (hk : k < 7) (hi : ¬ isIx i c.men) : Sp D mX9_taken 30 0 0 [.ref o, .int i, .int (nI k)] [(o, .inr (9, [.ref ca, .ref im, .int tk, .ref txo, .ref ba, .ref va, .int (nI vc), .ref nwk, .ref nt, .ref ro, .ref lo, .ref bd, .ref ta])), (ca, .inr (1, [.int (nI c.men), .ref ck, .ref cv, .ref chd, .int (nI c.heap), .int c.dogs, .int (nI c.wak), .int (nI c.rl), .ref cr, .int (nI c.pg), .ref cb, .int c.held])), (ck, eI D 6 (nF c.kk)), (cv, eI D 6 (nF c.vv)), (chd, eI D 6 c.hd), (cr, eI D 8 (nF c.crf)), (cb, eI D 12 (nF c.bo))] (fun r w => r = some (.int (-11)) ∧ w = [(o, .inr (9, [.ref ca, .ref im, .int tk, .ref txo, .ref ba, .ref va, .int (nI vc), .ref nwk, .ref nt, .ref ro, .ref lo, .ref bd, .ref ta])), (ca, .inr (1, [.int (nI c.men), .ref ck, .ref cv, .ref chd, .int (nI c.heap), .int c.dogs, .int (nI c.wak), .int (nI c.rl), .ref cr, .int (nI c.pg), .ref cb, .int c.held])), (ck, eI D 6 (nF c.kk)), (cv, eI D 6 (nF c.vv)), (chd, eI D 6 c.hd), (cr, eI D 8 (nF c.crf)), (cb, eI D 12 (nF c.bo))]) := by
  refine Sp.of (by decide) (Nat.le_of_ble_eq_true rfl) (fun X O T => ?_)
  refine v_eq (lv' := [(0, .ref o), (1, .int i), (2, .int (nI k))]) rfl rfl rfl rfl ?_
  have z_m := hC.1
  have z_hp := hC.2.2.2.1
  have z_wk := hC.2.2.2.2.1
  have z_rl := hC.2.2.2.2.2.1
  have z_pg := hC.2.2.2.2.2.2.2.1
  refine v_iload_n O dX9_taken_0 2 rfl ?_
  refine v_if_lt O 10 dX9_taken_1 (by decide) (fun c_1 => ?_) (fun c_1 => ?_)
  · skip
    have c_1 := (c_lt (x := nI k) (y := 0) (a := k) (b := 0) rfl rfl (by omega) (by omega)).mp c_1
    exact absurd c_1 (by omega)
  · skip
    have c_1 := (not_congr (c_lt (x := nI k) (y := 0) (a := k) (b := 0) rfl rfl (by omega) (by omega))).mp c_1
    refine v_iload_n O dX9_taken_4 2 rfl ?_
    refine v_bipush (v := 7) O dX9_taken_5 (by decide) ?_
    refine v_icmp_lt O 13 dX9_taken_7 (by decide) (fun z2 => ?_) (fun z2 => ?_)
    · skip
      have z2 := (c_lt (x := nI k) (y := 7) (a := k) (b := 7) rfl rfl (by omega) (by omega)).mp z2
      refine v_aload_n O dX9_taken_13 0 rfl ?_
      refine v_iload_n O dX9_taken_14 1 rfl ?_
      refine v_cV (T := TX9) (ci := 9) (As := [.int i]) (wr := [(ck, eI D 6 (nF c.kk)), (cv, eI D 6 (nF c.vv)), (chd, eI D 6 c.hd), (cr, eI D 8 (nF c.crf)), (cb, eI D 12 (nF c.bo))]) (st := []) O cf_X9_102 rfl (sp_X9_isMan (o := o) (man := i) (ca := ca) (im := im) (it := tk) (tx := txo) (ba := ba) (vs := va) (vc := (nI vc)) (nw := nwk) (nt := nt) (ro := ro) (ln := lo) (bo := bd) (tp := ta) (men := c.men) (ck := ck) (cv := cv) (chd := chd) (heap := (nI c.heap)) (dogs := c.dogs) (wak := (nI c.wak)) (rl := c.rl) (cr := cr) (pg := c.pg) (cb := cb) (held := c.held) (hC.1)) dX9_taken_15 rfl rfl 0 rfl [0, 1] [2, 3, 4, 5, 6] (by decide) rfl rfl (by decide) (by decide) (by decide) (Nat.le_of_ble_eq_true rfl) (by decide) (by decide) (fun r_3 w_4 h_2 => ?_)
      obtain ⟨rfl, rfl⟩ := h_2
      refine v_eq (st' := [.int (b2i (isIx i c.men))]) (ws' := [(ck, eI D 6 (nF c.kk)), (cv, eI D 6 (nF c.vv)), (chd, eI D 6 c.hd), (cr, eI D 8 (nF c.crf)), (cb, eI D 12 (nF c.bo)), (o, .inr (9, [.ref ca, .ref im, .int tk, .ref txo, .ref ba, .ref va, .int (nI vc), .ref nwk, .ref nt, .ref ro, .ref lo, .ref bd, .ref ta])), (ca, .inr (1, [.int (nI c.men), .ref ck, .ref cv, .ref chd, .int (nI c.heap), .int c.dogs, .int (nI c.wak), .int (nI c.rl), .ref cr, .int (nI c.pg), .ref cb, .int c.held]))]) rfl rfl rfl rfl ?_
      refine v_if_ne O 24 dX9_taken_18 (by decide) (fun z3 => ?_) (fun z3 => ?_)
      · skip
        have z3 := b2i_1.mp z3
        exact absurd z3 hi
      · skip
        have z3 := b2i_0.mp z3
        refine v_bipush (v := -11) O dX9_taken_21 (by decide) ?_
        refine v_sub (ws' := [(o, .inr (9, [.ref ca, .ref im, .int tk, .ref txo, .ref ba, .ref va, .int (nI vc), .ref nwk, .ref nt, .ref ro, .ref lo, .ref bd, .ref ta])), (ca, .inr (1, [.int (nI c.men), .ref ck, .ref cv, .ref chd, .int (nI c.heap), .int c.dogs, .int (nI c.wak), .int (nI c.rl), .ref cr, .int (nI c.pg), .ref cb, .int c.held])), (ck, eI D 6 (nF c.kk)), (cv, eI D 6 (nF c.vv)), (chd, eI D 6 c.hd), (cr, eI D 8 (nF c.crf)), (cb, eI D 12 (nF c.bo))]) [5, 6, 0, 1, 2, 3, 4] (by decide) rfl ?_
        exact v_ireturn O T rfl rfl (by decide) (by decide) dX9_taken_23 (⟨rfl, rfl⟩)
    · skip
      have z2 := (not_congr (c_lt (x := nI k) (y := 7) (a := k) (b := 7) rfl rfl (by omega) (by omega))).mp z2
      exact absurd z2 (by omega)
set_option maxRecDepth 100000 in
set_option maxHeartbeats 4000000 in
theorem sp_X9_taken_3 {D : G} {o : Nat} {ca : Nat} {im : Nat} {tk : Int32} {txo : Nat} {ba : Nat} {va : Nat} {vc : Nat} {nwk : Nat} {nt : Nat} {ro : Nat} {lo : Nat} {bd : Nat} {ta : Nat} {ck : Nat} {cv : Nat} {chd : Nat} {cr : Nat} {cb : Nat} {c : CS} {i : Nat} {k : Nat} (hC : cOk c) (hk : k < 7) (hi : i < c.men) (hu : takN (c.kk i) k) : Sp D mX9_taken 30 0 0 [.ref o, .int (nI i), .int (nI k)] [(o, .inr (9, [.ref ca, .ref im, .int tk, .ref txo, .ref ba, .ref va, .int (nI vc), .ref nwk, .ref nt, .ref ro, .ref lo, .ref bd, .ref ta])), (ca, .inr (1, [.int (nI c.men), .ref ck, .ref cv, .ref chd, .int (nI c.heap), .int c.dogs, .int (nI c.wak), .int (nI c.rl), .ref cr, .int (nI c.pg), .ref cb, .int c.held])), (ck, eI D 6 (nF c.kk)), (cv, eI D 6 (nF c.vv)), (chd, eI D 6 c.hd), (cr, eI D 8 (nF c.crf)), (cb, eI D 12 (nF c.bo))] (fun r w => r = some (.int (nI (c.kk i))) ∧ w = [(o, .inr (9, [.ref ca, .ref im, .int tk, .ref txo, .ref ba, .ref va, .int (nI vc), .ref nwk, .ref nt, .ref ro, .ref lo, .ref bd, .ref ta])), (ca, .inr (1, [.int (nI c.men), .ref ck, .ref cv, .ref chd, .int (nI c.heap), .int c.dogs, .int (nI c.wak), .int (nI c.rl), .ref cr, .int (nI c.pg), .ref cb, .int c.held])), (ck, eI D 6 (nF c.kk)), (cv, eI D 6 (nF c.vv)), (chd, eI D 6 c.hd), (cr, eI D 8 (nF c.crf)), (cb, eI D 12 (nF c.bo))]) := by
  refine Sp.of (by decide) (Nat.le_of_ble_eq_true rfl) (fun X O T => ?_)
  refine v_eq (lv' := [(0, .ref o), (1, .int (nI i)), (2, .int (nI k))]) rfl rfl rfl rfl ?_
  have z_m := hC.1
  have z_hp := hC.2.2.2.1
  have z_wk := hC.2.2.2.2.1
  have z_rl := hC.2.2.2.2.2.1
  have z_pg := hC.2.2.2.2.2.2.2.1
  refine v_iload_n O dX9_taken_0 2 rfl ?_
  refine v_if_lt O 10 dX9_taken_1 (by decide) (fun c_1 => ?_) (fun c_1 => ?_)
  · skip
    have c_1 := (c_lt (x := nI k) (y := 0) (a := k) (b := 0) rfl rfl (by omega) (by omega)).mp c_1
    exact absurd c_1 (by omega)
  · skip
    have c_1 := (not_congr (c_lt (x := nI k) (y := 0) (a := k) (b := 0) rfl rfl (by omega) (by omega))).mp c_1
    refine v_iload_n O dX9_taken_4 2 rfl ?_
    refine v_bipush (v := 7) O dX9_taken_5 (by decide) ?_
    refine v_icmp_lt O 13 dX9_taken_7 (by decide) (fun z2 => ?_) (fun z2 => ?_)
    · skip
      have z2 := (c_lt (x := nI k) (y := 7) (a := k) (b := 7) rfl rfl (by omega) (by omega)).mp z2
      refine v_aload_n O dX9_taken_13 0 rfl ?_
      refine v_iload_n O dX9_taken_14 1 rfl ?_
      refine v_cV (T := TX9) (ci := 9) (As := [.int (nI i)]) (wr := [(ck, eI D 6 (nF c.kk)), (cv, eI D 6 (nF c.vv)), (chd, eI D 6 c.hd), (cr, eI D 8 (nF c.crf)), (cb, eI D 12 (nF c.bo))]) (st := []) O cf_X9_102 rfl (sp_X9_isMan (o := o) (man := (nI i)) (ca := ca) (im := im) (it := tk) (tx := txo) (ba := ba) (vs := va) (vc := (nI vc)) (nw := nwk) (nt := nt) (ro := ro) (ln := lo) (bo := bd) (tp := ta) (men := c.men) (ck := ck) (cv := cv) (chd := chd) (heap := (nI c.heap)) (dogs := c.dogs) (wak := (nI c.wak)) (rl := c.rl) (cr := cr) (pg := c.pg) (cb := cb) (held := c.held) (hC.1)) dX9_taken_15 rfl rfl 0 rfl [0, 1] [2, 3, 4, 5, 6] (by decide) rfl rfl (by decide) (by decide) (by decide) (Nat.le_of_ble_eq_true rfl) (by decide) (by decide) (fun r_3 w_4 h_2 => ?_)
      obtain ⟨rfl, rfl⟩ := h_2
      refine v_eq (st' := [.int (b2i (isIx (nI i) c.men))]) (ws' := [(ck, eI D 6 (nF c.kk)), (cv, eI D 6 (nF c.vv)), (chd, eI D 6 c.hd), (cr, eI D 8 (nF c.crf)), (cb, eI D 12 (nF c.bo)), (o, .inr (9, [.ref ca, .ref im, .int tk, .ref txo, .ref ba, .ref va, .int (nI vc), .ref nwk, .ref nt, .ref ro, .ref lo, .ref bd, .ref ta])), (ca, .inr (1, [.int (nI c.men), .ref ck, .ref cv, .ref chd, .int (nI c.heap), .int c.dogs, .int (nI c.wak), .int (nI c.rl), .ref cr, .int (nI c.pg), .ref cb, .int c.held]))]) rfl rfl rfl rfl ?_
      refine v_if_ne O 24 dX9_taken_18 (by decide) (fun z3 => ?_) (fun z3 => ?_)
      · skip
        have z3 := b2i_1.mp z3
        refine v_aload_n O dX9_taken_24 0 rfl ?_
        refine gf_X9_12 O rfl dX9_taken_25 5 rfl rfl ?_
        refine gf_X9_92 O rfl dX9_taken_28 6 rfl rfl ?_
        refine v_iload_n O dX9_taken_31 1 rfl ?_
        refine v_ialdk O dX9_taken_32 0 rfl i rfl (by omega) (by decide) ?_
        refine v_top (y := nI (c.kk i)) rfl ?_
        refine v_istore_n (lv' := [(0, .ref o), (1, .int (nI i)), (2, .int (nI k)), (3, .int (nI (c.kk i)))]) O dX9_taken_33 (by decide) rfl ?_
        refine v_iload_n O dX9_taken_34 3 rfl ?_
        refine v_iload_n O dX9_taken_35 2 rfl ?_
        refine v_cS (As := [.int (nI (c.kk i)), .int (nI k)]) (wr := [(ck, eI D 6 (nF c.kk)), (cv, eI D 6 (nF c.vv)), (chd, eI D 6 c.hd), (cr, eI D 8 (nF c.crf)), (cb, eI D 12 (nF c.bo)), (o, .inr (9, [.ref ca, .ref im, .int tk, .ref txo, .ref ba, .ref va, .int (nI vc), .ref nwk, .ref nt, .ref ro, .ref lo, .ref bd, .ref ta])), (ca, .inr (1, [.int (nI c.men), .ref ck, .ref cv, .ref chd, .int (nI c.heap), .int c.dogs, .int (nI c.wak), .int (nI c.rl), .ref cr, .int (nI c.pg), .ref cb, .int c.held]))]) (st := []) O cf_X9_278 (sp_X9_isUnder (kd := (c.kk i)) (k := k) (hC.2.1 i (by omega)) (hk)) dX9_taken_36 rfl rfl [] [0, 1, 2, 3, 4, 5, 6] (by decide) rfl rfl (by decide) (by decide) (by decide) (Nat.le_of_ble_eq_true rfl) (by decide) (by decide) (fun r_6 w_7 h_5 => ?_)
        obtain ⟨rfl, rfl⟩ := h_5
        refine v_eq (st' := [.int (b2i (takN (c.kk i) k))]) (ws' := [(ck, eI D 6 (nF c.kk)), (cv, eI D 6 (nF c.vv)), (chd, eI D 6 c.hd), (cr, eI D 8 (nF c.crf)), (cb, eI D 12 (nF c.bo)), (o, .inr (9, [.ref ca, .ref im, .int tk, .ref txo, .ref ba, .ref va, .int (nI vc), .ref nwk, .ref nt, .ref ro, .ref lo, .ref bd, .ref ta])), (ca, .inr (1, [.int (nI c.men), .ref ck, .ref cv, .ref chd, .int (nI c.heap), .int c.dogs, .int (nI c.wak), .int (nI c.rl), .ref cr, .int (nI c.pg), .ref cb, .int c.held]))]) rfl rfl rfl rfl ?_
        refine v_if_eq O 46 dX9_taken_39 (by decide) (fun z4 => ?_) (fun z4 => ?_)
        · skip
          have z4 := b2i_0.mp z4
          exact absurd hu z4
        · skip
          have z4 := b2i_1.mp z4
          refine v_iload_n O dX9_taken_42 3 rfl ?_
          refine v_goto O 48 dX9_taken_43 (by decide) ?_
          refine v_sub (ws' := [(o, .inr (9, [.ref ca, .ref im, .int tk, .ref txo, .ref ba, .ref va, .int (nI vc), .ref nwk, .ref nt, .ref ro, .ref lo, .ref bd, .ref ta])), (ca, .inr (1, [.int (nI c.men), .ref ck, .ref cv, .ref chd, .int (nI c.heap), .int c.dogs, .int (nI c.wak), .int (nI c.rl), .ref cr, .int (nI c.pg), .ref cb, .int c.held])), (ck, eI D 6 (nF c.kk)), (cv, eI D 6 (nF c.vv)), (chd, eI D 6 c.hd), (cr, eI D 8 (nF c.crf)), (cb, eI D 12 (nF c.bo))]) [5, 6, 0, 1, 2, 3, 4] (by decide) rfl ?_
          exact v_ireturn O T rfl rfl (by decide) (by decide) dX9_taken_48 (⟨rfl, rfl⟩)
      · skip
        have z3 := b2i_0.mp z3
        exact absurd ((isIx_nI (by omega) (by omega)).mpr hi) z3
    · skip
      have z2 := (not_congr (c_lt (x := nI k) (y := 7) (a := k) (b := 7) rfl rfl (by omega) (by omega))).mp z2
      exact absurd z2 (by omega)
set_option maxRecDepth 100000 in
set_option maxHeartbeats 4000000 in
theorem sp_X9_taken_4 {D : G} {o : Nat} {ca : Nat} {im : Nat} {tk : Int32} {txo : Nat} {ba : Nat} {va : Nat} {vc : Nat} {nwk : Nat} {nt : Nat} {ro : Nat} {lo : Nat} {bd : Nat} {ta : Nat} {ck : Nat} {cv : Nat} {chd : Nat} {cr : Nat} {cb : Nat} {c : CS} {i : Nat} {k : Nat} (hC : cOk c) (hk : k < 7) (hi : i < c.men) (hu : ¬ takN (c.kk i) k) : Sp D mX9_taken 30 0 0 [.ref o, .int (nI i), .int (nI k)] [(o, .inr (9, [.ref ca, .ref im, .int tk, .ref txo, .ref ba, .ref va, .int (nI vc), .ref nwk, .ref nt, .ref ro, .ref lo, .ref bd, .ref ta])), (ca, .inr (1, [.int (nI c.men), .ref ck, .ref cv, .ref chd, .int (nI c.heap), .int c.dogs, .int (nI c.wak), .int (nI c.rl), .ref cr, .int (nI c.pg), .ref cb, .int c.held])), (ck, eI D 6 (nF c.kk)), (cv, eI D 6 (nF c.vv)), (chd, eI D 6 c.hd), (cr, eI D 8 (nF c.crf)), (cb, eI D 12 (nF c.bo))] (fun r w => r = some (.int (-12)) ∧ w = [(o, .inr (9, [.ref ca, .ref im, .int tk, .ref txo, .ref ba, .ref va, .int (nI vc), .ref nwk, .ref nt, .ref ro, .ref lo, .ref bd, .ref ta])), (ca, .inr (1, [.int (nI c.men), .ref ck, .ref cv, .ref chd, .int (nI c.heap), .int c.dogs, .int (nI c.wak), .int (nI c.rl), .ref cr, .int (nI c.pg), .ref cb, .int c.held])), (ck, eI D 6 (nF c.kk)), (cv, eI D 6 (nF c.vv)), (chd, eI D 6 c.hd), (cr, eI D 8 (nF c.crf)), (cb, eI D 12 (nF c.bo))]) := by
  refine Sp.of (by decide) (Nat.le_of_ble_eq_true rfl) (fun X O T => ?_)
  refine v_eq (lv' := [(0, .ref o), (1, .int (nI i)), (2, .int (nI k))]) rfl rfl rfl rfl ?_
  have z_m := hC.1
  have z_hp := hC.2.2.2.1
  have z_wk := hC.2.2.2.2.1
  have z_rl := hC.2.2.2.2.2.1
  have z_pg := hC.2.2.2.2.2.2.2.1
  refine v_iload_n O dX9_taken_0 2 rfl ?_
  refine v_if_lt O 10 dX9_taken_1 (by decide) (fun c_1 => ?_) (fun c_1 => ?_)
  · skip
    have c_1 := (c_lt (x := nI k) (y := 0) (a := k) (b := 0) rfl rfl (by omega) (by omega)).mp c_1
    exact absurd c_1 (by omega)
  · skip
    have c_1 := (not_congr (c_lt (x := nI k) (y := 0) (a := k) (b := 0) rfl rfl (by omega) (by omega))).mp c_1
    refine v_iload_n O dX9_taken_4 2 rfl ?_
    refine v_bipush (v := 7) O dX9_taken_5 (by decide) ?_
    refine v_icmp_lt O 13 dX9_taken_7 (by decide) (fun z2 => ?_) (fun z2 => ?_)
    · skip
      have z2 := (c_lt (x := nI k) (y := 7) (a := k) (b := 7) rfl rfl (by omega) (by omega)).mp z2
      refine v_aload_n O dX9_taken_13 0 rfl ?_
      refine v_iload_n O dX9_taken_14 1 rfl ?_
      refine v_cV (T := TX9) (ci := 9) (As := [.int (nI i)]) (wr := [(ck, eI D 6 (nF c.kk)), (cv, eI D 6 (nF c.vv)), (chd, eI D 6 c.hd), (cr, eI D 8 (nF c.crf)), (cb, eI D 12 (nF c.bo))]) (st := []) O cf_X9_102 rfl (sp_X9_isMan (o := o) (man := (nI i)) (ca := ca) (im := im) (it := tk) (tx := txo) (ba := ba) (vs := va) (vc := (nI vc)) (nw := nwk) (nt := nt) (ro := ro) (ln := lo) (bo := bd) (tp := ta) (men := c.men) (ck := ck) (cv := cv) (chd := chd) (heap := (nI c.heap)) (dogs := c.dogs) (wak := (nI c.wak)) (rl := c.rl) (cr := cr) (pg := c.pg) (cb := cb) (held := c.held) (hC.1)) dX9_taken_15 rfl rfl 0 rfl [0, 1] [2, 3, 4, 5, 6] (by decide) rfl rfl (by decide) (by decide) (by decide) (Nat.le_of_ble_eq_true rfl) (by decide) (by decide) (fun r_3 w_4 h_2 => ?_)
      obtain ⟨rfl, rfl⟩ := h_2
      refine v_eq (st' := [.int (b2i (isIx (nI i) c.men))]) (ws' := [(ck, eI D 6 (nF c.kk)), (cv, eI D 6 (nF c.vv)), (chd, eI D 6 c.hd), (cr, eI D 8 (nF c.crf)), (cb, eI D 12 (nF c.bo)), (o, .inr (9, [.ref ca, .ref im, .int tk, .ref txo, .ref ba, .ref va, .int (nI vc), .ref nwk, .ref nt, .ref ro, .ref lo, .ref bd, .ref ta])), (ca, .inr (1, [.int (nI c.men), .ref ck, .ref cv, .ref chd, .int (nI c.heap), .int c.dogs, .int (nI c.wak), .int (nI c.rl), .ref cr, .int (nI c.pg), .ref cb, .int c.held]))]) rfl rfl rfl rfl ?_
      refine v_if_ne O 24 dX9_taken_18 (by decide) (fun z3 => ?_) (fun z3 => ?_)
      · skip
        have z3 := b2i_1.mp z3
        refine v_aload_n O dX9_taken_24 0 rfl ?_
        refine gf_X9_12 O rfl dX9_taken_25 5 rfl rfl ?_
        refine gf_X9_92 O rfl dX9_taken_28 6 rfl rfl ?_
        refine v_iload_n O dX9_taken_31 1 rfl ?_
        refine v_ialdk O dX9_taken_32 0 rfl i rfl (by omega) (by decide) ?_
        refine v_top (y := nI (c.kk i)) rfl ?_
        refine v_istore_n (lv' := [(0, .ref o), (1, .int (nI i)), (2, .int (nI k)), (3, .int (nI (c.kk i)))]) O dX9_taken_33 (by decide) rfl ?_
        refine v_iload_n O dX9_taken_34 3 rfl ?_
        refine v_iload_n O dX9_taken_35 2 rfl ?_
        refine v_cS (As := [.int (nI (c.kk i)), .int (nI k)]) (wr := [(ck, eI D 6 (nF c.kk)), (cv, eI D 6 (nF c.vv)), (chd, eI D 6 c.hd), (cr, eI D 8 (nF c.crf)), (cb, eI D 12 (nF c.bo)), (o, .inr (9, [.ref ca, .ref im, .int tk, .ref txo, .ref ba, .ref va, .int (nI vc), .ref nwk, .ref nt, .ref ro, .ref lo, .ref bd, .ref ta])), (ca, .inr (1, [.int (nI c.men), .ref ck, .ref cv, .ref chd, .int (nI c.heap), .int c.dogs, .int (nI c.wak), .int (nI c.rl), .ref cr, .int (nI c.pg), .ref cb, .int c.held]))]) (st := []) O cf_X9_278 (sp_X9_isUnder (kd := (c.kk i)) (k := k) (hC.2.1 i (by omega)) (hk)) dX9_taken_36 rfl rfl [] [0, 1, 2, 3, 4, 5, 6] (by decide) rfl rfl (by decide) (by decide) (by decide) (Nat.le_of_ble_eq_true rfl) (by decide) (by decide) (fun r_6 w_7 h_5 => ?_)
        obtain ⟨rfl, rfl⟩ := h_5
        refine v_eq (st' := [.int (b2i (takN (c.kk i) k))]) (ws' := [(ck, eI D 6 (nF c.kk)), (cv, eI D 6 (nF c.vv)), (chd, eI D 6 c.hd), (cr, eI D 8 (nF c.crf)), (cb, eI D 12 (nF c.bo)), (o, .inr (9, [.ref ca, .ref im, .int tk, .ref txo, .ref ba, .ref va, .int (nI vc), .ref nwk, .ref nt, .ref ro, .ref lo, .ref bd, .ref ta])), (ca, .inr (1, [.int (nI c.men), .ref ck, .ref cv, .ref chd, .int (nI c.heap), .int c.dogs, .int (nI c.wak), .int (nI c.rl), .ref cr, .int (nI c.pg), .ref cb, .int c.held]))]) rfl rfl rfl rfl ?_
        refine v_if_eq O 46 dX9_taken_39 (by decide) (fun z4 => ?_) (fun z4 => ?_)
        · skip
          have z4 := b2i_0.mp z4
          refine v_bipush (v := -12) O dX9_taken_46 (by decide) ?_
          refine v_sub (ws' := [(o, .inr (9, [.ref ca, .ref im, .int tk, .ref txo, .ref ba, .ref va, .int (nI vc), .ref nwk, .ref nt, .ref ro, .ref lo, .ref bd, .ref ta])), (ca, .inr (1, [.int (nI c.men), .ref ck, .ref cv, .ref chd, .int (nI c.heap), .int c.dogs, .int (nI c.wak), .int (nI c.rl), .ref cr, .int (nI c.pg), .ref cb, .int c.held])), (ck, eI D 6 (nF c.kk)), (cv, eI D 6 (nF c.vv)), (chd, eI D 6 c.hd), (cr, eI D 8 (nF c.crf)), (cb, eI D 12 (nF c.bo))]) [5, 6, 0, 1, 2, 3, 4] (by decide) rfl ?_
          exact v_ireturn O T rfl rfl (by decide) (by decide) dX9_taken_48 (⟨rfl, rfl⟩)
        · skip
          have z4 := b2i_1.mp z4
          exact absurd z4 hu
      · skip
        have z3 := b2i_0.mp z3
        exact absurd ((isIx_nI (by omega) (by omega)).mpr hi) z3
    · skip
      have z2 := (not_congr (c_lt (x := nI k) (y := 7) (a := k) (b := 7) rfl rfl (by omega) (by omega))).mp z2
      exact absurd z2 (by omega)
set_option maxRecDepth 100000 in
set_option maxHeartbeats 4000000 in
theorem sp_X9_count_1 {D : G} {o : Nat} {ca : Nat} {im : Nat} {tk : Int32} {txo : Nat} {ba : Nat} {va : Nat} {vc : Nat} {nwk : Nat} {nt : Nat} {ro : Nat} {lo : Nat} {bd : Nat} {ta : Nat} {zw : Int32} (hw : ¬ isIx zw 6) : Sp D mX9_count 30 0 0 [.ref o, .int zw] [(o, .inr (9, [.ref ca, .ref im, .int tk, .ref txo, .ref ba, .ref va, .int (nI vc), .ref nwk, .ref nt, .ref ro, .ref lo, .ref bd, .ref ta]))] (fun r w => r = some (.int (-2)) ∧ w = [(o, .inr (9, [.ref ca, .ref im, .int tk, .ref txo, .ref ba, .ref va, .int (nI vc), .ref nwk, .ref nt, .ref ro, .ref lo, .ref bd, .ref ta]))]) := by
  refine Sp.of (by decide) (Nat.le_of_ble_eq_true rfl) (fun X O T => ?_)
  refine v_eq (lv' := [(0, .ref o), (1, .int zw)]) rfl rfl rfl rfl ?_
  refine v_iload_n O dX9_count_0 1 rfl ?_
  by_cases s_1 : zw = 0
  · skip
    refine v_top s_1 ?_
    refine v_tsIn (off := 39) O 40 dX9_count_1 (by decide) (by decide) (by decide) (by decide) ?_
    exact absurd ⟨0, by decide, s_1⟩ hw
  by_cases s_2 : zw = 1
  · skip
    refine v_top s_2 ?_
    refine v_tsIn (off := 47) O 48 dX9_count_1 (by decide) (by decide) (by decide) (by decide) ?_
    exact absurd ⟨1, by decide, s_2⟩ hw
  by_cases s_3 : zw = 2
  · skip
    refine v_top s_3 ?_
    refine v_tsIn (off := 52) O 53 dX9_count_1 (by decide) (by decide) (by decide) (by decide) ?_
    exact absurd ⟨2, by decide, s_3⟩ hw
  by_cases s_4 : zw = 3
  · skip
    refine v_top s_4 ?_
    refine v_tsIn (off := 60) O 61 dX9_count_1 (by decide) (by decide) (by decide) (by decide) ?_
    exact absurd ⟨3, by decide, s_4⟩ hw
  by_cases s_5 : zw = 4
  · skip
    refine v_top s_5 ?_
    refine v_tsIn (off := 68) O 69 dX9_count_1 (by decide) (by decide) (by decide) (by decide) ?_
    exact absurd ⟨4, by decide, s_5⟩ hw
  by_cases s_6 : zw = 5
  · skip
    refine v_top s_6 ?_
    refine v_tsIn (off := 76) O 77 dX9_count_1 (by decide) (by decide) (by decide) (by decide) ?_
    exact absurd ⟨5, by decide, s_6⟩ hw
  refine v_tsOut O 85 dX9_count_1 (ts_out (by decide) (by decide) (fun v h1 h2 => by rcases (show v = 0 ∨ v = 1 ∨ v = 2 ∨ v = 3 ∨ v = 4 ∨ v = 5 by omega) with rfl | rfl | rfl | rfl | rfl | rfl <;> assumption)) (by decide) ?_
  refine v_bipush (v := -2) O dX9_count_85 (by decide) ?_
  exact v_ireturn O T rfl rfl (by decide) (by decide) dX9_count_87 (⟨rfl, rfl⟩)
set_option maxRecDepth 100000 in
set_option maxHeartbeats 4000000 in
theorem sp_X9_count_2 {D : G} {o : Nat} {ca : Nat} {im : Nat} {tk : Int32} {txo : Nat} {ba : Nat} {va : Nat} {vc : Nat} {nwk : Nat} {nt : Nat} {ro : Nat} {lo : Nat} {bd : Nat} {ta : Nat} {ck : Nat} {cv : Nat} {chd : Nat} {cr : Nat} {cb : Nat} {c : CS} (hC : cOk c) : Sp D mX9_count 30 0 0 [.ref o, .int 0] [(o, .inr (9, [.ref ca, .ref im, .int tk, .ref txo, .ref ba, .ref va, .int (nI vc), .ref nwk, .ref nt, .ref ro, .ref lo, .ref bd, .ref ta])), (ca, .inr (1, [.int (nI c.men), .ref ck, .ref cv, .ref chd, .int (nI c.heap), .int c.dogs, .int (nI c.wak), .int (nI c.rl), .ref cr, .int (nI c.pg), .ref cb, .int c.held])), (ck, eI D 6 (nF c.kk)), (cv, eI D 6 (nF c.vv)), (chd, eI D 6 c.hd), (cr, eI D 8 (nF c.crf)), (cb, eI D 12 (nF c.bo))] (fun r w => r = some (.int (nI c.men)) ∧ w = [(o, .inr (9, [.ref ca, .ref im, .int tk, .ref txo, .ref ba, .ref va, .int (nI vc), .ref nwk, .ref nt, .ref ro, .ref lo, .ref bd, .ref ta])), (ca, .inr (1, [.int (nI c.men), .ref ck, .ref cv, .ref chd, .int (nI c.heap), .int c.dogs, .int (nI c.wak), .int (nI c.rl), .ref cr, .int (nI c.pg), .ref cb, .int c.held])), (ck, eI D 6 (nF c.kk)), (cv, eI D 6 (nF c.vv)), (chd, eI D 6 c.hd), (cr, eI D 8 (nF c.crf)), (cb, eI D 12 (nF c.bo))]) := by
  refine Sp.of (by decide) (Nat.le_of_ble_eq_true rfl) (fun X O T => ?_)
  refine v_eq (lv' := [(0, .ref o), (1, .int 0)]) rfl rfl rfl rfl ?_
  have z_m := hC.1
  have z_hp := hC.2.2.2.1
  have z_wk := hC.2.2.2.2.1
  have z_rl := hC.2.2.2.2.2.1
  have z_pg := hC.2.2.2.2.2.2.2.1
  refine v_iload_n O dX9_count_0 1 rfl ?_
  refine v_tsIn (off := 39) O 40 dX9_count_1 (by decide) (by decide) (by decide) (by decide) ?_
  refine v_aload_n O dX9_count_40 0 rfl ?_
  refine gf_X9_12 O rfl dX9_count_41 0 rfl rfl ?_
  refine gf_X9_89 O rfl dX9_count_44 1 rfl rfl ?_
  exact v_ireturn O T rfl rfl (by decide) (by decide) dX9_count_47 (⟨rfl, rfl⟩)
set_option maxRecDepth 100000 in
set_option maxHeartbeats 4000000 in
theorem sp_X9_count_3 {D : G} {o : Nat} {ca : Nat} {im : Nat} {tk : Int32} {txo : Nat} {ba : Nat} {va : Nat} {vc : Nat} {nwk : Nat} {nt : Nat} {ro : Nat} {lo : Nat} {bd : Nat} {ta : Nat} : Sp D mX9_count 30 0 0 [.ref o, .int 1] [(o, .inr (9, [.ref ca, .ref im, .int tk, .ref txo, .ref ba, .ref va, .int (nI vc), .ref nwk, .ref nt, .ref ro, .ref lo, .ref bd, .ref ta]))] (fun r w => r = some (.int (nI vc)) ∧ w = [(o, .inr (9, [.ref ca, .ref im, .int tk, .ref txo, .ref ba, .ref va, .int (nI vc), .ref nwk, .ref nt, .ref ro, .ref lo, .ref bd, .ref ta]))]) := by
  refine Sp.of (by decide) (Nat.le_of_ble_eq_true rfl) (fun X O T => ?_)
  refine v_eq (lv' := [(0, .ref o), (1, .int 1)]) rfl rfl rfl rfl ?_
  refine v_iload_n O dX9_count_0 1 rfl ?_
  refine v_tsIn (off := 47) O 48 dX9_count_1 (by decide) (by decide) (by decide) (by decide) ?_
  refine v_aload_n O dX9_count_48 0 rfl ?_
  refine gf_X9_43 O rfl dX9_count_49 0 rfl rfl ?_
  exact v_ireturn O T rfl rfl (by decide) (by decide) dX9_count_52 (⟨rfl, rfl⟩)
set_option maxRecDepth 100000 in
set_option maxHeartbeats 4000000 in
theorem sp_X9_count_4 {D : G} {o : Nat} {ca : Nat} {im : Nat} {tk : Int32} {txo : Nat} {ba : Nat} {va : Nat} {vc : Nat} {nwk : Nat} {nt : Nat} {ro : Nat} {lo : Nat} {bd : Nat} {ta : Nat} {ck : Nat} {cv : Nat} {chd : Nat} {cr : Nat} {cb : Nat} {c : CS} (hC : cOk c) : Sp D mX9_count 30 0 0 [.ref o, .int 2] [(o, .inr (9, [.ref ca, .ref im, .int tk, .ref txo, .ref ba, .ref va, .int (nI vc), .ref nwk, .ref nt, .ref ro, .ref lo, .ref bd, .ref ta])), (ca, .inr (1, [.int (nI c.men), .ref ck, .ref cv, .ref chd, .int (nI c.heap), .int c.dogs, .int (nI c.wak), .int (nI c.rl), .ref cr, .int (nI c.pg), .ref cb, .int c.held])), (ck, eI D 6 (nF c.kk)), (cv, eI D 6 (nF c.vv)), (chd, eI D 6 c.hd), (cr, eI D 8 (nF c.crf)), (cb, eI D 12 (nF c.bo))] (fun r w => r = some (.int (nI c.rl)) ∧ w = [(o, .inr (9, [.ref ca, .ref im, .int tk, .ref txo, .ref ba, .ref va, .int (nI vc), .ref nwk, .ref nt, .ref ro, .ref lo, .ref bd, .ref ta])), (ca, .inr (1, [.int (nI c.men), .ref ck, .ref cv, .ref chd, .int (nI c.heap), .int c.dogs, .int (nI c.wak), .int (nI c.rl), .ref cr, .int (nI c.pg), .ref cb, .int c.held])), (ck, eI D 6 (nF c.kk)), (cv, eI D 6 (nF c.vv)), (chd, eI D 6 c.hd), (cr, eI D 8 (nF c.crf)), (cb, eI D 12 (nF c.bo))]) := by
  refine Sp.of (by decide) (Nat.le_of_ble_eq_true rfl) (fun X O T => ?_)
  refine v_eq (lv' := [(0, .ref o), (1, .int 2)]) rfl rfl rfl rfl ?_
  have z_m := hC.1
  have z_hp := hC.2.2.2.1
  have z_wk := hC.2.2.2.2.1
  have z_rl := hC.2.2.2.2.2.1
  have z_pg := hC.2.2.2.2.2.2.2.1
  refine v_iload_n O dX9_count_0 1 rfl ?_
  refine v_tsIn (off := 52) O 53 dX9_count_1 (by decide) (by decide) (by decide) (by decide) ?_
  refine v_aload_n O dX9_count_53 0 rfl ?_
  refine gf_X9_12 O rfl dX9_count_54 0 rfl rfl ?_
  refine gf_X9_171 O rfl dX9_count_57 1 rfl rfl ?_
  exact v_ireturn O T rfl rfl (by decide) (by decide) dX9_count_60 (⟨rfl, rfl⟩)
set_option maxRecDepth 100000 in
set_option maxHeartbeats 4000000 in
theorem sp_X9_count_5 {D : G} {o : Nat} {ca : Nat} {im : Nat} {tk : Int32} {txo : Nat} {ba : Nat} {va : Nat} {vc : Nat} {nwk : Nat} {nt : Nat} {ro : Nat} {lo : Nat} {bd : Nat} {ta : Nat} {ck : Nat} {cv : Nat} {chd : Nat} {cr : Nat} {cb : Nat} {c : CS} (hC : cOk c) : Sp D mX9_count 30 0 0 [.ref o, .int 3] [(o, .inr (9, [.ref ca, .ref im, .int tk, .ref txo, .ref ba, .ref va, .int (nI vc), .ref nwk, .ref nt, .ref ro, .ref lo, .ref bd, .ref ta])), (ca, .inr (1, [.int (nI c.men), .ref ck, .ref cv, .ref chd, .int (nI c.heap), .int c.dogs, .int (nI c.wak), .int (nI c.rl), .ref cr, .int (nI c.pg), .ref cb, .int c.held])), (ck, eI D 6 (nF c.kk)), (cv, eI D 6 (nF c.vv)), (chd, eI D 6 c.hd), (cr, eI D 8 (nF c.crf)), (cb, eI D 12 (nF c.bo))] (fun r w => r = some (.int (nI c.pg)) ∧ w = [(o, .inr (9, [.ref ca, .ref im, .int tk, .ref txo, .ref ba, .ref va, .int (nI vc), .ref nwk, .ref nt, .ref ro, .ref lo, .ref bd, .ref ta])), (ca, .inr (1, [.int (nI c.men), .ref ck, .ref cv, .ref chd, .int (nI c.heap), .int c.dogs, .int (nI c.wak), .int (nI c.rl), .ref cr, .int (nI c.pg), .ref cb, .int c.held])), (ck, eI D 6 (nF c.kk)), (cv, eI D 6 (nF c.vv)), (chd, eI D 6 c.hd), (cr, eI D 8 (nF c.crf)), (cb, eI D 12 (nF c.bo))]) := by
  refine Sp.of (by decide) (Nat.le_of_ble_eq_true rfl) (fun X O T => ?_)
  refine v_eq (lv' := [(0, .ref o), (1, .int 3)]) rfl rfl rfl rfl ?_
  have z_m := hC.1
  have z_hp := hC.2.2.2.1
  have z_wk := hC.2.2.2.2.1
  have z_rl := hC.2.2.2.2.2.1
  have z_pg := hC.2.2.2.2.2.2.2.1
  refine v_iload_n O dX9_count_0 1 rfl ?_
  refine v_tsIn (off := 60) O 61 dX9_count_1 (by decide) (by decide) (by decide) (by decide) ?_
  refine v_aload_n O dX9_count_61 0 rfl ?_
  refine gf_X9_12 O rfl dX9_count_62 0 rfl rfl ?_
  refine gf_X9_233 O rfl dX9_count_65 1 rfl rfl ?_
  exact v_ireturn O T rfl rfl (by decide) (by decide) dX9_count_68 (⟨rfl, rfl⟩)
set_option maxRecDepth 100000 in
set_option maxHeartbeats 4000000 in
theorem sp_X9_count_6 {D : G} {o : Nat} {ca : Nat} {im : Nat} {tk : Int32} {txo : Nat} {ba : Nat} {va : Nat} {vc : Nat} {nwk : Nat} {nt : Nat} {ro : Nat} {lo : Nat} {bd : Nat} {ta : Nat} {tsg : Nat} {ln : Nat} {tb : Nat → Int32} {pl : Int32} {si : Int32} : Sp D mX9_count 30 0 0 [.ref o, .int 4] [(o, .inr (9, [.ref ca, .ref im, .int tk, .ref txo, .ref ba, .ref va, .int (nI vc), .ref nwk, .ref nt, .ref ro, .ref lo, .ref bd, .ref ta])), (txo, .inr (7, [.ref tsg, .int (nI ln), .int pl, .int si])), (tsg, eB D 100 tb)] (fun r w => r = some (.int (nI ln)) ∧ w = [(o, .inr (9, [.ref ca, .ref im, .int tk, .ref txo, .ref ba, .ref va, .int (nI vc), .ref nwk, .ref nt, .ref ro, .ref lo, .ref bd, .ref ta])), (txo, .inr (7, [.ref tsg, .int (nI ln), .int pl, .int si])), (tsg, eB D 100 tb)]) := by
  refine Sp.of (by decide) (Nat.le_of_ble_eq_true rfl) (fun X O T => ?_)
  refine v_eq (lv' := [(0, .ref o), (1, .int 4)]) rfl rfl rfl rfl ?_
  refine v_iload_n O dX9_count_0 1 rfl ?_
  refine v_tsIn (off := 68) O 69 dX9_count_1 (by decide) (by decide) (by decide) (by decide) ?_
  refine v_aload_n O dX9_count_69 0 rfl ?_
  refine gf_X9_28 O rfl dX9_count_70 0 rfl rfl ?_
  refine v_cV (T := TX7) (ci := 7) (As := []) (wr := [(o, .inr (9, [.ref ca, .ref im, .int tk, .ref txo, .ref ba, .ref va, .int (nI vc), .ref nwk, .ref nt, .ref ro, .ref lo, .ref bd, .ref ta])), (tsg, eB D 100 tb)]) (st := []) O cf_X9_134 rfl (sp_X7_size (txo := txo) (tsg := tsg) (ln := ln) (tb := tb) (pl := pl) (si := si) ) dX9_count_73 rfl rfl 1 rfl [1] [0, 2] (by decide) rfl rfl (by decide) (by decide) (by decide) (Nat.le_of_ble_eq_true rfl) (by decide) (by decide) (fun r_2 w_3 h_1 => ?_)
  obtain ⟨rfl, rfl⟩ := h_1
  refine v_eq (st' := [.int (nI ln)]) (ws' := [(o, .inr (9, [.ref ca, .ref im, .int tk, .ref txo, .ref ba, .ref va, .int (nI vc), .ref nwk, .ref nt, .ref ro, .ref lo, .ref bd, .ref ta])), (tsg, eB D 100 tb), (txo, .inr (7, [.ref tsg, .int (nI ln), .int pl, .int si]))]) rfl rfl rfl rfl ?_
  refine v_sub (ws' := [(o, .inr (9, [.ref ca, .ref im, .int tk, .ref txo, .ref ba, .ref va, .int (nI vc), .ref nwk, .ref nt, .ref ro, .ref lo, .ref bd, .ref ta])), (txo, .inr (7, [.ref tsg, .int (nI ln), .int pl, .int si])), (tsg, eB D 100 tb)]) [0, 2, 1] (by decide) rfl ?_
  exact v_ireturn O T rfl rfl (by decide) (by decide) dX9_count_76 (⟨rfl, rfl⟩)
set_option maxRecDepth 100000 in
set_option maxHeartbeats 4000000 in
theorem sp_X9_count_7 {D : G} {o : Nat} {ca : Nat} {im : Nat} {tk : Int32} {txo : Nat} {ba : Nat} {va : Nat} {vc : Nat} {nwk : Nat} {nt : Nat} {ro : Nat} {lo : Nat} {bd : Nat} {ta : Nat} {tr : Nat} {rn : Nat} {bi : Int32} {bk9 : Nat} {bv : Int32} {f : Nat → Int32} : Sp D mX9_count 30 0 0 [.ref o, .int 5] [(o, .inr (9, [.ref ca, .ref im, .int tk, .ref txo, .ref ba, .ref va, .int (nI vc), .ref nwk, .ref nt, .ref ro, .ref lo, .ref bd, .ref ta])), (bd, .inr (0, [.ref tr, .int (nI rn), .int bi, .int (nI bk9), .int bv])), (tr, eI D 20 f)] (fun r w => r = some (.int (nI rn)) ∧ w = [(o, .inr (9, [.ref ca, .ref im, .int tk, .ref txo, .ref ba, .ref va, .int (nI vc), .ref nwk, .ref nt, .ref ro, .ref lo, .ref bd, .ref ta])), (bd, .inr (0, [.ref tr, .int (nI rn), .int bi, .int (nI bk9), .int bv])), (tr, eI D 20 f)]) := by
  refine Sp.of (by decide) (Nat.le_of_ble_eq_true rfl) (fun X O T => ?_)
  refine v_eq (lv' := [(0, .ref o), (1, .int 5)]) rfl rfl rfl rfl ?_
  refine v_iload_n O dX9_count_0 1 rfl ?_
  refine v_tsIn (off := 76) O 77 dX9_count_1 (by decide) (by decide) (by decide) (by decide) ?_
  refine v_aload_n O dX9_count_77 0 rfl ?_
  refine gf_X9_78 O rfl dX9_count_78 0 rfl rfl ?_
  refine gf_X9_281 O rfl dX9_count_81 1 rfl rfl ?_
  exact v_ireturn O T rfl rfl (by decide) (by decide) dX9_count_84 (⟨rfl, rfl⟩)
