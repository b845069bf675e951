-- OneForDog$Wakings.begin, reckon
set_option maxRecDepth 100000 in
set_option maxHeartbeats 4000000 in
theorem l_X8_begin {D : G} {X : CX} {wk : Nat} {kn : Nat} {vl : Nat} {pt : Nat} {fc : Nat} {ovr : Nat} {bkr : Nat} {lf : Int32} {dg : Int32} {hd : Int32} {kk : Nat → Nat} {vv : Nat → Nat} {ca : Nat} {men : Nat} {ck : Nat} {cv : Nat} {chd : Nat} {heap : Int32} {dogs : Int32} {wak : Int32} {rl : Nat} {cr : Nat} {pg : Nat} {cb : Nat} {held : Int32} {vg : Nat} {sh : Nat} {mo : Nat} {ov : Nat} {nr : Nat} {io : Nat} {am : Nat} {en : Nat} {nl : Nat} {sp : Nat} (O : Ok D X mX8_begin 1 0 0) (hk : ∀ j, j < 6 → kk j < 7) (T : Rt D X (fun r w => r = none ∧ w = [(wk, .inr (8, [.ref kn, .ref vl, .ref pt, .int wak, .ref fc, .ref ovr, .ref bkr, .int lf, .int dg, .int hd])), (kn, eI D 6 (nF kk)), (vl, eI D 6 (nF vv)), (pt, eI D 6 (nF (fun zj => partsN (kk zj) (vv zj) sh))), (ca, .inr (1, [.int (nI men), .ref ck, .ref cv, .ref chd, .int heap, .int dogs, .int wak, .int (nI rl), .ref cr, .int (nI pg), .ref cb, .int held])), (ck, eI D 6 (nF kk)), (cv, eI D 6 (nF vv)), (vg, .inr (6, [.int (nI sh), .int (nI mo), .int (nI ov), .int (nI nr), .ref io, .ref am, .ref en, .int (nI nl), .ref sp]))]) 0 0) : ∀ (t i : Nat), i + t = 6 → ∀ (g1 g2 g3 : Nat → Int32), (∀ j, j < i → g1 j = nF kk j) → (∀ j, j < i → g2 j = nF vv j) → (∀ j, j < i → g3 j = nF (fun zj => partsN (kk zj) (vv zj) sh) j) → V D X 0 0 10 [(0, .ref wk), (1, .ref ca), (2, .ref vg), (3, .int (nI i))] [] [(wk, .inr (8, [.ref kn, .ref vl, .ref pt, .int wak, .ref fc, .ref ovr, .ref bkr, .int lf, .int dg, .int hd])), (kn, eI D 6 g1), (vl, eI D 6 g2), (pt, eI D 6 g3), (ca, .inr (1, [.int (nI men), .ref ck, .ref cv, .ref chd, .int heap, .int dogs, .int wak, .int (nI rl), .ref cr, .int (nI pg), .ref cb, .int held])), (ck, eI D 6 (nF kk)), (cv, eI D 6 (nF vv)), (vg, .inr (6, [.int (nI sh), .int (nI mo), .int (nI ov), .int (nI nr), .ref io, .ref am, .ref en, .int (nI nl), .ref sp]))] := by
  intro t
  induction t with
  | zero =>
    intro i hi g1 g2 g3 h1 h2 h3
    refine v_iload_n O dX8_begin_10 3 rfl ?_
    refine v_bipush (v := 6) O dX8_begin_11 (by decide) ?_
    refine v_icmp_ge O 71 dX8_begin_13 (by decide) (fun z1 => ?_) (fun z1 => ?_)
    · skip
      have z1 := (c_le' (x := nI i) (y := 6) (a := i) (b := 6) rfl rfl (by omega) (by omega)).mp z1
      refine v_congI (g := nF kk) (ws' := [(wk, .inr (8, [.ref kn, .ref vl, .ref pt, .int wak, .ref fc, .ref ovr, .ref bkr, .int lf, .int dg, .int hd])), (kn, eI D 6 (nF kk)), (vl, eI D 6 g2), (pt, eI D 6 g3), (ca, .inr (1, [.int (nI men), .ref ck, .ref cv, .ref chd, .int heap, .int dogs, .int wak, .int (nI rl), .ref cr, .int (nI pg), .ref cb, .int held])), (ck, eI D 6 (nF kk)), (cv, eI D 6 (nF vv)), (vg, .inr (6, [.int (nI sh), .int (nI mo), .int (nI ov), .int (nI nr), .ref io, .ref am, .ref en, .int (nI nl), .ref sp]))]) 1 rfl (fun j hj => h1 j (by omega)) rfl ?_
      refine v_congI (g := nF vv) (ws' := [(wk, .inr (8, [.ref kn, .ref vl, .ref pt, .int wak, .ref fc, .ref ovr, .ref bkr, .int lf, .int dg, .int hd])), (kn, eI D 6 (nF kk)), (vl, eI D 6 (nF vv)), (pt, eI D 6 g3), (ca, .inr (1, [.int (nI men), .ref ck, .ref cv, .ref chd, .int heap, .int dogs, .int wak, .int (nI rl), .ref cr, .int (nI pg), .ref cb, .int held])), (ck, eI D 6 (nF kk)), (cv, eI D 6 (nF vv)), (vg, .inr (6, [.int (nI sh), .int (nI mo), .int (nI ov), .int (nI nr), .ref io, .ref am, .ref en, .int (nI nl), .ref sp]))]) 2 rfl (fun j hj => h2 j (by omega)) rfl ?_
      refine v_congI (g := nF (fun zj => partsN (kk zj) (vv zj) sh)) (ws' := [(wk, .inr (8, [.ref kn, .ref vl, .ref pt, .int wak, .ref fc, .ref ovr, .ref bkr, .int lf, .int dg, .int hd])), (kn, eI D 6 (nF kk)), (vl, eI D 6 (nF vv)), (pt, eI D 6 (nF (fun zj => partsN (kk zj) (vv zj) sh))), (ca, .inr (1, [.int (nI men), .ref ck, .ref cv, .ref chd, .int heap, .int dogs, .int wak, .int (nI rl), .ref cr, .int (nI pg), .ref cb, .int held])), (ck, eI D 6 (nF kk)), (cv, eI D 6 (nF vv)), (vg, .inr (6, [.int (nI sh), .int (nI mo), .int (nI ov), .int (nI nr), .ref io, .ref am, .ref en, .int (nI nl), .ref sp]))]) 3 rfl (fun j hj => h3 j (by omega)) rfl ?_
      exact v_return O T rfl (by decide) (by decide) dX8_begin_71 (⟨rfl, rfl⟩)
    · skip
      have z1 := (not_congr (c_le' (x := nI i) (y := 6) (a := i) (b := 6) rfl rfl (by omega) (by omega))).mp z1
      exact absurd z1 (by omega)
  | succ t ih =>
    intro i hi g1 g2 g3 h1 h2 h3
    refine v_iload_n O dX8_begin_10 3 rfl ?_
    refine v_bipush (v := 6) O dX8_begin_11 (by decide) ?_
    refine v_icmp_ge O 71 dX8_begin_13 (by decide) (fun z1 => ?_) (fun z1 => ?_)
    · skip
      have z1 := (c_le' (x := nI i) (y := 6) (a := i) (b := 6) rfl rfl (by omega) (by omega)).mp z1
      exact absurd z1 (by omega)
    · skip
      have z1 := (not_congr (c_le' (x := nI i) (y := 6) (a := i) (b := 6) rfl rfl (by omega) (by omega))).mp z1
      refine v_aload_n O dX8_begin_16 0 rfl ?_
      refine gf_X8_9 O rfl dX8_begin_17 0 rfl rfl ?_
      refine v_iload_n O dX8_begin_20 3 rfl ?_
      refine v_aload_n O dX8_begin_21 1 rfl ?_
      refine gf_X8_50 O rfl dX8_begin_22 4 rfl rfl ?_
      refine v_iload_n O dX8_begin_25 3 rfl ?_
      refine v_ialdk O dX8_begin_26 5 rfl i rfl (by omega) (by decide) ?_
      refine v_top (y := nI (kk i)) rfl ?_
      refine v_iastk (ws' := [(wk, .inr (8, [.ref kn, .ref vl, .ref pt, .int wak, .ref fc, .ref ovr, .ref bkr, .int lf, .int dg, .int hd])), (kn, eI D 6 (upd g1 i (nI (kk i)))), (vl, eI D 6 g2), (pt, eI D 6 g3), (ca, .inr (1, [.int (nI men), .ref ck, .ref cv, .ref chd, .int heap, .int dogs, .int wak, .int (nI rl), .ref cr, .int (nI pg), .ref cb, .int held])), (ck, eI D 6 (nF kk)), (cv, eI D 6 (nF vv)), (vg, .inr (6, [.int (nI sh), .int (nI mo), .int (nI ov), .int (nI nr), .ref io, .ref am, .ref en, .int (nI nl), .ref sp]))]) O dX8_begin_27 1 rfl i (rfl) (by omega) (by decide) (rfl) ?_
      refine v_aload_n O dX8_begin_28 0 rfl ?_
      refine gf_X8_15 O rfl dX8_begin_29 0 rfl rfl ?_
      refine v_iload_n O dX8_begin_32 3 rfl ?_
      refine v_aload_n O dX8_begin_33 1 rfl ?_
      refine gf_X8_51 O rfl dX8_begin_34 4 rfl rfl ?_
      refine v_iload_n O dX8_begin_37 3 rfl ?_
      refine v_ialdk O dX8_begin_38 6 rfl i rfl (by omega) (by decide) ?_
      refine v_top (y := nI (vv i)) rfl ?_
      refine v_iastk (ws' := [(wk, .inr (8, [.ref kn, .ref vl, .ref pt, .int wak, .ref fc, .ref ovr, .ref bkr, .int lf, .int dg, .int hd])), (kn, eI D 6 (upd g1 i (nI (kk i)))), (vl, eI D 6 (upd g2 i (nI (vv i)))), (pt, eI D 6 g3), (ca, .inr (1, [.int (nI men), .ref ck, .ref cv, .ref chd, .int heap, .int dogs, .int wak, .int (nI rl), .ref cr, .int (nI pg), .ref cb, .int held])), (ck, eI D 6 (nF kk)), (cv, eI D 6 (nF vv)), (vg, .inr (6, [.int (nI sh), .int (nI mo), .int (nI ov), .int (nI nr), .ref io, .ref am, .ref en, .int (nI nl), .ref sp]))]) O dX8_begin_39 2 rfl i (rfl) (by omega) (by decide) (rfl) ?_
      refine v_aload_n O dX8_begin_40 0 rfl ?_
      refine gf_X8_18 O rfl dX8_begin_41 0 rfl rfl ?_
      refine v_iload_n O dX8_begin_44 3 rfl ?_
      refine v_aload_n O dX8_begin_45 0 rfl ?_
      refine gf_X8_9 O rfl dX8_begin_46 0 rfl rfl ?_
      refine v_iload_n O dX8_begin_49 3 rfl ?_
      refine v_ialdk O dX8_begin_50 1 rfl i rfl (by omega) (by decide) ?_
      refine v_top (y := nI (kk i)) (pk_us) ?_
      refine v_aload_n O dX8_begin_51 0 rfl ?_
      refine gf_X8_15 O rfl dX8_begin_52 0 rfl rfl ?_
      refine v_iload_n O dX8_begin_55 3 rfl ?_
      refine v_ialdk O dX8_begin_56 2 rfl i rfl (by omega) (by decide) ?_
      refine v_top (y := nI (vv i)) (pk_us) ?_
      refine v_aload_n O dX8_begin_57 2 rfl ?_
      refine gf_X8_52 O rfl dX8_begin_58 7 rfl rfl ?_
      refine v_cS (As := [.int (nI (kk i)), .int (nI (vv i)), .int (nI sh)]) (wr := [(wk, .inr (8, [.ref kn, .ref vl, .ref pt, .int wak, .ref fc, .ref ovr, .ref bkr, .int lf, .int dg, .int hd])), (kn, eI D 6 (upd g1 i (nI (kk i)))), (vl, eI D 6 (upd g2 i (nI (vv i)))), (pt, eI D 6 g3), (ca, .inr (1, [.int (nI men), .ref ck, .ref cv, .ref chd, .int heap, .int dogs, .int wak, .int (nI rl), .ref cr, .int (nI pg), .ref cb, .int held])), (ck, eI D 6 (nF kk)), (cv, eI D 6 (nF vv)), (vg, .inr (6, [.int (nI sh), .int (nI mo), .int (nI ov), .int (nI nr), .ref io, .ref am, .ref en, .int (nI nl), .ref sp]))]) (st := [.int (nI i), .ref pt]) O cf_X8_55 (sp_X8_partsFor (k := (kk i)) (v := (vv i)) (sh := sh) (hk i (by omega))) dX8_begin_61 rfl rfl [] [0, 1, 2, 3, 4, 5, 6, 7] (by decide) rfl rfl (by decide) (by decide) (by decide) (Nat.le_of_ble_eq_true rfl) (by decide) (by decide) (fun r_2 w_3 h_1 => ?_)
      obtain ⟨rfl, rfl⟩ := h_1
      refine v_eq (st' := [.int (nI (partsN (kk i) (vv i) sh)), .int (nI i), .ref pt]) (ws' := [(wk, .inr (8, [.ref kn, .ref vl, .ref pt, .int wak, .ref fc, .ref ovr, .ref bkr, .int lf, .int dg, .int hd])), (kn, eI D 6 (upd g1 i (nI (kk i)))), (vl, eI D 6 (upd g2 i (nI (vv i)))), (pt, eI D 6 g3), (ca, .inr (1, [.int (nI men), .ref ck, .ref cv, .ref chd, .int heap, .int dogs, .int wak, .int (nI rl), .ref cr, .int (nI pg), .ref cb, .int held])), (ck, eI D 6 (nF kk)), (cv, eI D 6 (nF vv)), (vg, .inr (6, [.int (nI sh), .int (nI mo), .int (nI ov), .int (nI nr), .ref io, .ref am, .ref en, .int (nI nl), .ref sp]))]) rfl rfl rfl rfl ?_
      refine v_iastk (ws' := [(wk, .inr (8, [.ref kn, .ref vl, .ref pt, .int wak, .ref fc, .ref ovr, .ref bkr, .int lf, .int dg, .int hd])), (kn, eI D 6 (upd g1 i (nI (kk i)))), (vl, eI D 6 (upd g2 i (nI (vv i)))), (pt, eI D 6 (upd g3 i (nI (partsN (kk i) (vv i) sh)))), (ca, .inr (1, [.int (nI men), .ref ck, .ref cv, .ref chd, .int heap, .int dogs, .int wak, .int (nI rl), .ref cr, .int (nI pg), .ref cb, .int held])), (ck, eI D 6 (nF kk)), (cv, eI D 6 (nF vv)), (vg, .inr (6, [.int (nI sh), .int (nI mo), .int (nI ov), .int (nI nr), .ref io, .ref am, .ref en, .int (nI nl), .ref sp]))]) O dX8_begin_64 3 rfl i (rfl) (by omega) (by decide) (rfl) ?_
      refine v_iinc (v := nI (i + 1)) (lv' := [(0, .ref wk), (1, .ref ca), (2, .ref vg), (3, .int (nI (i + 1)))]) O dX8_begin_65 3 rfl (nI_1 i) (by decide) rfl ?_
      refine v_goto O 10 dX8_begin_68 (by decide) ?_
      exact ih (i + 1) (by omega) _ _ _ (upd_lt h1 rfl) (upd_lt h2 rfl) (upd_lt h3 rfl)
set_option maxRecDepth 100000 in
set_option maxHeartbeats 4000000 in
theorem sp_X8_begin {D : G} {wk : Nat} {kn : Nat} {vl : Nat} {pt : Nat} {fc : Nat} {ovr : Nat} {bkr : Nat} {g0 : Int32} {lf : Int32} {dg : Int32} {hd : Int32} {f1 : Nat → Int32} {f2 : Nat → Int32} {f3 : Nat → Int32} {kk : Nat → Nat} {vv : Nat → Nat} {ca : Nat} {men : Nat} {ck : Nat} {cv : Nat} {chd : Nat} {heap : Int32} {dogs : Int32} {wak : Int32} {rl : Nat} {cr : Nat} {pg : Nat} {cb : Nat} {held : Int32} {vg : Nat} {sh : Nat} {mo : Nat} {ov : Nat} {nr : Nat} {io : Nat} {am : Nat} {en : Nat} {nl : Nat} {sp : Nat} (hk : ∀ j, j < 6 → kk j < 7) : Sp D mX8_begin 1 0 0 [.ref wk, .ref ca, .ref vg] [(wk, .inr (8, [.ref kn, .ref vl, .ref pt, .int g0, .ref fc, .ref ovr, .ref bkr, .int lf, .int dg, .int hd])), (kn, eI D 6 f1), (vl, eI D 6 f2), (pt, eI D 6 f3), (ca, .inr (1, [.int (nI men), .ref ck, .ref cv, .ref chd, .int heap, .int dogs, .int wak, .int (nI rl), .ref cr, .int (nI pg), .ref cb, .int held])), (ck, eI D 6 (nF kk)), (cv, eI D 6 (nF vv)), (vg, .inr (6, [.int (nI sh), .int (nI mo), .int (nI ov), .int (nI nr), .ref io, .ref am, .ref en, .int (nI nl), .ref sp]))] (fun r w => r = none ∧ w = [(wk, .inr (8, [.ref kn, .ref vl, .ref pt, .int wak, .ref fc, .ref ovr, .ref bkr, .int lf, .int dg, .int hd])), (kn, eI D 6 (nF kk)), (vl, eI D 6 (nF vv)), (pt, eI D 6 (nF (fun zj => partsN (kk zj) (vv zj) sh))), (ca, .inr (1, [.int (nI men), .ref ck, .ref cv, .ref chd, .int heap, .int dogs, .int wak, .int (nI rl), .ref cr, .int (nI pg), .ref cb, .int held])), (ck, eI D 6 (nF kk)), (cv, eI D 6 (nF vv)), (vg, .inr (6, [.int (nI sh), .int (nI mo), .int (nI ov), .int (nI nr), .ref io, .ref am, .ref en, .int (nI nl), .ref sp]))]) := by
  refine Sp.of (by decide) (Nat.le_of_ble_eq_true rfl) (fun X O T => ?_)
  refine v_eq (lv' := [(0, .ref wk), (1, .ref ca), (2, .ref vg)]) rfl rfl rfl rfl ?_
  refine v_aload_n O dX8_begin_0 0 rfl ?_
  refine v_aload_n O dX8_begin_1 1 rfl ?_
  refine gf_X8_45 O rfl dX8_begin_2 4 rfl rfl ?_
  refine pf_X8_21 (fs' := [.ref kn, .ref vl, .ref pt, .int wak, .ref fc, .ref ovr, .ref bkr, .int lf, .int dg, .int hd]) (ws' := [(wk, .inr (8, [.ref kn, .ref vl, .ref pt, .int wak, .ref fc, .ref ovr, .ref bkr, .int lf, .int dg, .int hd])), (kn, eI D 6 f1), (vl, eI D 6 f2), (pt, eI D 6 f3), (ca, .inr (1, [.int (nI men), .ref ck, .ref cv, .ref chd, .int heap, .int dogs, .int wak, .int (nI rl), .ref cr, .int (nI pg), .ref cb, .int held])), (ck, eI D 6 (nF kk)), (cv, eI D 6 (nF vv)), (vg, .inr (6, [.int (nI sh), .int (nI mo), .int (nI ov), .int (nI nr), .ref io, .ref am, .ref en, .int (nI nl), .ref sp]))]) O rfl dX8_begin_5 0 rfl (Nat.le_of_ble_eq_true rfl) rfl rfl ?_
  refine v_iconst (v := 0) O dX8_begin_8 (by decide) ?_
  refine v_istore_n (lv' := [(0, .ref wk), (1, .ref ca), (2, .ref vg), (3, .int 0)]) O dX8_begin_9 (by decide) rfl ?_
  refine v_eq (lv' := [(0, .ref wk), (1, .ref ca), (2, .ref vg), (3, .int (nI 0))]) rfl rfl rfl rfl ?_
  exact l_X8_begin O hk T 6 0 (by omega) f1 f2 f3 (fun j hj => absurd hj (Nat.not_lt_zero j)) (fun j hj => absurd hj (Nat.not_lt_zero j)) (fun j hj => absurd hj (Nat.not_lt_zero j))
theorem tab_lt {f P : Nat → Nat} {m s i : Nat} (hs : s < 8) (hi : i < 10) (h : ∀ zd, zd < i → f (slotN m s zd) = P zd) : ∀ zd, zd < i + 1 → uN f (slotN m s i) (P i) (slotN m s zd) = P zd := fun zd hz => by
  by_cases e : zd = i
  · rw [e, uN_s]
  · rw [uN_n (fun q => e (slotN_inj hs (by omega) hs hi q).2.2)]
    exact h zd (by omega)
theorem tab_ne {f g : Nat → Nat} {m s i x : Nat} (hi : i < 10) (h : ∀ zj, (∀ zd, zd < 10 → zj ≠ slotN m s zd) → f zj = g zj) : ∀ zj, (∀ zd, zd < 10 → zj ≠ slotN m s zd) → uN f (slotN m s i) x zj = g zj := fun zj hz => by
  rw [uN_n (hz i hi)]
  exact h zj hz
set_option maxRecDepth 100000 in
set_option maxHeartbeats 4000000 in
theorem l_X8_reckon {D : G} {X : CX} {wk : Nat} {kn : Nat} {vl : Nat} {pt : Nat} {gone : Nat} {fc : Nat} {ovr : Nat} {bkr : Nat} {lf : Int32} {dg : Int32} {hd : Int32} {kk : Nat → Nat} {vv : Nat → Nat} {ot : Nat → Nat} {bt : Nat → Nat} {vg : Nat} {sh : Nat} {mo : Nat} {ov : Nat} {nr : Nat} {io : Nat} {am : Nat} {en : Nat} {nl : Nat} {sp : Nat} {fo : Nat → Int32} {fa : Nat → Int32} {fe : Nat → Int32} {fs : Nat → Int32} {E : Nat → Nat} {am9 : Nat → Nat} {m : Nat} {s : Nat} (O : Ok D X mX8_reckon 5 0 0) (hm : m < 6) (hs : s < 8) (hgo : gone < 1000000) (hnr : nr ≤ 10) (hov : ov ≤ 10) (hE : ∀ r, r < nr → fe r = nI (E r) ∧ E r ≤ 100) (hA : ∀ r, r < nr → fa r = nI (am9 r) ∧ am9 r ≤ 99) (T : Rt D X (fun r w => ∃ ff2 : Nat → Int32, ∃ ot2 : Nat → Nat, ∃ bt2 : Nat → Nat, r = none ∧ w = [(wk, .inr (8, [.ref kn, .ref vl, .ref pt, .int (nI gone), .ref fc, .ref ovr, .ref bkr, .int lf, .int dg, .int hd])), (kn, eI D 6 (nF kk)), (vl, eI D 6 (nF vv)), (fc, eI D 5 ff2), (ovr, eI D 480 (nF ot2)), (bkr, eI D 480 (nF bt2)), (vg, .inr (6, [.int (nI sh), .int (nI mo), .int (nI ov), .int (nI nr), .ref io, .ref am, .ref en, .int (nI nl), .ref sp])), (io, eZ D 10 fo), (am, eI D 10 fa), (en, eI D 10 fe), (sp, eI D 100 fs)] ∧ (∀ zd, zd < 10 → ot2 (slotN m s zd) = overN fo fs (factsF m (kk m) (vv m) (gone + s) zd) am9 E ov nr) ∧ (∀ zj, (∀ zd, zd < 10 → zj ≠ slotN m s zd) → ot2 zj = ot zj) ∧ (∀ zd, zd < 10 → bt2 (slotN m s zd) = sumN fo fs (factsF m (kk m) (vv m) (gone + s) zd) am9 E 0 nr) ∧ (∀ zj, (∀ zd, zd < 10 → zj ≠ slotN m s zd) → bt2 zj = bt zj)) 0 0) : ∀ (t i : Nat), i + t = 10 → ∀ (ff1 : Nat → Int32) (ot1 bt1 : Nat → Nat), (∀ zd, zd < i → ot1 (slotN m s zd) = overN fo fs (factsF m (kk m) (vv m) (gone + s) zd) am9 E ov nr) → (∀ zj, (∀ zd, zd < 10 → zj ≠ slotN m s zd) → ot1 zj = ot zj) → (∀ zd, zd < i → bt1 (slotN m s zd) = sumN fo fs (factsF m (kk m) (vv m) (gone + s) zd) am9 E 0 nr) → (∀ zj, (∀ zd, zd < 10 → zj ≠ slotN m s zd) → bt1 zj = bt zj) → V D X 0 0 3 [(0, .ref wk), (1, .ref vg), (2, .int (nI m)), (3, .int (nI s)), (4, .int (nI i))] [] [(wk, .inr (8, [.ref kn, .ref vl, .ref pt, .int (nI gone), .ref fc, .ref ovr, .ref bkr, .int lf, .int dg, .int hd])), (kn, eI D 6 (nF kk)), (vl, eI D 6 (nF vv)), (fc, eI D 5 ff1), (ovr, eI D 480 (nF ot1)), (bkr, eI D 480 (nF bt1)), (vg, .inr (6, [.int (nI sh), .int (nI mo), .int (nI ov), .int (nI nr), .ref io, .ref am, .ref en, .int (nI nl), .ref sp])), (io, eZ D 10 fo), (am, eI D 10 fa), (en, eI D 10 fe), (sp, eI D 100 fs)] := by
  intro t
  induction t with
  | zero =>
    intro i hi ff1 ot1 bt1 h1 h2 h3 h4
    refine v_iload O dX8_reckon_3 4 rfl ?_
    refine v_bipush (v := 10) O dX8_reckon_5 (by decide) ?_
    refine v_icmp_ge O 115 dX8_reckon_7 (by decide) (fun z1 => ?_) (fun z1 => ?_)
    · skip
      have z1 := (c_le' (x := nI i) (y := 10) (a := i) (b := 10) rfl rfl (by omega) (by omega)).mp z1
      exact v_return O T rfl (by decide) (by decide) dX8_reckon_115 (⟨_, _, _, rfl, rfl, fun zd hz => h1 zd (by omega), h2, fun zd hz => h3 zd (by omega), h4⟩)
    · skip
      have z1 := (not_congr (c_le' (x := nI i) (y := 10) (a := i) (b := 10) rfl rfl (by omega) (by omega))).mp z1
      exact absurd z1 (by omega)
  | succ t ih =>
    intro i hi ff1 ot1 bt1 h1 h2 h3 h4
    refine v_iload O dX8_reckon_3 4 rfl ?_
    refine v_bipush (v := 10) O dX8_reckon_5 (by decide) ?_
    refine v_icmp_ge O 115 dX8_reckon_7 (by decide) (fun z1 => ?_) (fun z1 => ?_)
    · skip
      have z1 := (c_le' (x := nI i) (y := 10) (a := i) (b := 10) rfl rfl (by omega) (by omega)).mp z1
      exact absurd z1 (by omega)
    · skip
      have z1 := (not_congr (c_le' (x := nI i) (y := 10) (a := i) (b := 10) rfl rfl (by omega) (by omega))).mp z1
      have z_sl := slotN_lt hm hs (show i < 10 by omega)
      refine v_iload_n O dX8_reckon_10 2 rfl ?_
      refine v_iload_n O dX8_reckon_11 3 rfl ?_
      refine v_iload O dX8_reckon_12 4 rfl ?_
      refine v_cS (As := [.int (nI m), .int (nI s), .int (nI i)]) (wr := [(wk, .inr (8, [.ref kn, .ref vl, .ref pt, .int (nI gone), .ref fc, .ref ovr, .ref bkr, .int lf, .int dg, .int hd])), (kn, eI D 6 (nF kk)), (vl, eI D 6 (nF vv)), (fc, eI D 5 ff1), (ovr, eI D 480 (nF ot1)), (bkr, eI D 480 (nF bt1)), (vg, .inr (6, [.int (nI sh), .int (nI mo), .int (nI ov), .int (nI nr), .ref io, .ref am, .ref en, .int (nI nl), .ref sp])), (io, eZ D 10 fo), (am, eI D 10 fa), (en, eI D 10 fe), (sp, eI D 100 fs)]) (st := []) O cf_X8_59 (sp_X8_slot (m := m) (s := s) (h := i) (hm) (hs) (by omega)) dX8_reckon_14 rfl rfl [] [0, 1, 2, 3, 4, 5, 6, 7, 8, 9, 10] (by decide) rfl rfl (by decide) (by decide) (by decide) (Nat.le_of_ble_eq_true rfl) (by decide) (by decide) (fun r_2 w_3 h_1 => ?_)
      obtain ⟨rfl, rfl⟩ := h_1
      refine v_eq (st' := [.int (nI (slotN m s (i % 10)))]) (ws' := [(wk, .inr (8, [.ref kn, .ref vl, .ref pt, .int (nI gone), .ref fc, .ref ovr, .ref bkr, .int lf, .int dg, .int hd])), (kn, eI D 6 (nF kk)), (vl, eI D 6 (nF vv)), (fc, eI D 5 ff1), (ovr, eI D 480 (nF ot1)), (bkr, eI D 480 (nF bt1)), (vg, .inr (6, [.int (nI sh), .int (nI mo), .int (nI ov), .int (nI nr), .ref io, .ref am, .ref en, .int (nI nl), .ref sp])), (io, eZ D 10 fo), (am, eI D 10 fa), (en, eI D 10 fe), (sp, eI D 100 fs)]) rfl rfl rfl rfl ?_
      refine v_top (y := nI (slotN m s i)) (by rw [Nat.mod_eq_of_lt (show i < 10 by omega)]) ?_
      refine v_istore (lv' := [(0, .ref wk), (1, .ref vg), (2, .int (nI m)), (3, .int (nI s)), (4, .int (nI i)), (5, .int (nI (slotN m s i)))]) O dX8_reckon_17 (by decide) rfl ?_
      refine v_iload O dX8_reckon_19 5 rfl ?_
      refine v_if_ge O 25 dX8_reckon_21 (by decide) (fun z2 => ?_) (fun z2 => ?_)
      · skip
        have z2 := (c_le' (x := nI (slotN m s i)) (y := 0) (a := slotN m s i) (b := 0) rfl rfl (by omega) (by omega)).mp z2
        refine v_aload_n O dX8_reckon_25 0 rfl ?_
        refine gf_X8_27 O rfl dX8_reckon_26 0 rfl rfl ?_
        refine v_iconst (v := 0) O dX8_reckon_29 (by decide) ?_
        refine v_iload_n O dX8_reckon_30 2 rfl ?_
        refine v_iastk (ws' := [(wk, .inr (8, [.ref kn, .ref vl, .ref pt, .int (nI gone), .ref fc, .ref ovr, .ref bkr, .int lf, .int dg, .int hd])), (kn, eI D 6 (nF kk)), (vl, eI D 6 (nF vv)), (fc, eI D 5 (upd ff1 0 (nI m))), (ovr, eI D 480 (nF ot1)), (bkr, eI D 480 (nF bt1)), (vg, .inr (6, [.int (nI sh), .int (nI mo), .int (nI ov), .int (nI nr), .ref io, .ref am, .ref en, .int (nI nl), .ref sp])), (io, eZ D 10 fo), (am, eI D 10 fa), (en, eI D 10 fe), (sp, eI D 100 fs)]) O dX8_reckon_31 3 rfl 0 (rfl) (by omega) (by decide) (rfl) ?_
        refine v_aload_n O dX8_reckon_32 0 rfl ?_
        refine gf_X8_27 O rfl dX8_reckon_33 0 rfl rfl ?_
        refine v_iconst (v := 1) O dX8_reckon_36 (by decide) ?_
        refine v_aload_n O dX8_reckon_37 0 rfl ?_
        refine gf_X8_9 O rfl dX8_reckon_38 0 rfl rfl ?_
        refine v_iload_n O dX8_reckon_41 2 rfl ?_
        refine v_ialdk O dX8_reckon_42 1 rfl m rfl (by omega) (by decide) ?_
        refine v_top (y := nI (kk m)) rfl ?_
        refine v_iastk (ws' := [(wk, .inr (8, [.ref kn, .ref vl, .ref pt, .int (nI gone), .ref fc, .ref ovr, .ref bkr, .int lf, .int dg, .int hd])), (kn, eI D 6 (nF kk)), (vl, eI D 6 (nF vv)), (fc, eI D 5 (upd (upd ff1 0 (nI m)) 1 (nI (kk m)))), (ovr, eI D 480 (nF ot1)), (bkr, eI D 480 (nF bt1)), (vg, .inr (6, [.int (nI sh), .int (nI mo), .int (nI ov), .int (nI nr), .ref io, .ref am, .ref en, .int (nI nl), .ref sp])), (io, eZ D 10 fo), (am, eI D 10 fa), (en, eI D 10 fe), (sp, eI D 100 fs)]) O dX8_reckon_43 3 rfl 1 (rfl) (by omega) (by decide) (rfl) ?_
        refine v_aload_n O dX8_reckon_44 0 rfl ?_
        refine gf_X8_27 O rfl dX8_reckon_45 0 rfl rfl ?_
        refine v_iconst (v := 2) O dX8_reckon_48 (by decide) ?_
        refine v_aload_n O dX8_reckon_49 0 rfl ?_
        refine gf_X8_15 O rfl dX8_reckon_50 0 rfl rfl ?_
        refine v_iload_n O dX8_reckon_53 2 rfl ?_
        refine v_ialdk O dX8_reckon_54 2 rfl m rfl (by omega) (by decide) ?_
        refine v_top (y := nI (vv m)) rfl ?_
        refine v_iastk (ws' := [(wk, .inr (8, [.ref kn, .ref vl, .ref pt, .int (nI gone), .ref fc, .ref ovr, .ref bkr, .int lf, .int dg, .int hd])), (kn, eI D 6 (nF kk)), (vl, eI D 6 (nF vv)), (fc, eI D 5 (upd (upd (upd ff1 0 (nI m)) 1 (nI (kk m))) 2 (nI (vv m)))), (ovr, eI D 480 (nF ot1)), (bkr, eI D 480 (nF bt1)), (vg, .inr (6, [.int (nI sh), .int (nI mo), .int (nI ov), .int (nI nr), .ref io, .ref am, .ref en, .int (nI nl), .ref sp])), (io, eZ D 10 fo), (am, eI D 10 fa), (en, eI D 10 fe), (sp, eI D 100 fs)]) O dX8_reckon_55 3 rfl 2 (rfl) (by omega) (by decide) (rfl) ?_
        refine v_aload_n O dX8_reckon_56 0 rfl ?_
        refine gf_X8_27 O rfl dX8_reckon_57 0 rfl rfl ?_
        refine v_iconst (v := 3) O dX8_reckon_60 (by decide) ?_
        refine v_aload_n O dX8_reckon_61 0 rfl ?_
        refine gf_X8_21 O rfl dX8_reckon_62 0 rfl rfl ?_
        refine v_iload_n O dX8_reckon_65 3 rfl ?_
        refine v_iadd O dX8_reckon_66 ?_
        refine v_top (y := nI (gone + s)) (nI_add gone s) ?_
        refine v_bipush (v := 60) O dX8_reckon_67 (by decide) ?_
        refine v_irem O dX8_reckon_69 (by decide) ?_
        refine v_top (y := nI ((gone + s) % 60)) (pk_rem (a := gone + s) (d := 60) (by omega) (by decide) (by decide)) ?_
        refine v_iastk (ws' := [(wk, .inr (8, [.ref kn, .ref vl, .ref pt, .int (nI gone), .ref fc, .ref ovr, .ref bkr, .int lf, .int dg, .int hd])), (kn, eI D 6 (nF kk)), (vl, eI D 6 (nF vv)), (fc, eI D 5 (upd (upd (upd (upd ff1 0 (nI m)) 1 (nI (kk m))) 2 (nI (vv m))) 3 (nI ((gone + s) % 60)))), (ovr, eI D 480 (nF ot1)), (bkr, eI D 480 (nF bt1)), (vg, .inr (6, [.int (nI sh), .int (nI mo), .int (nI ov), .int (nI nr), .ref io, .ref am, .ref en, .int (nI nl), .ref sp])), (io, eZ D 10 fo), (am, eI D 10 fa), (en, eI D 10 fe), (sp, eI D 100 fs)]) O dX8_reckon_70 3 rfl 3 (rfl) (by omega) (by decide) (rfl) ?_
        refine v_aload_n O dX8_reckon_71 0 rfl ?_
        refine gf_X8_27 O rfl dX8_reckon_72 0 rfl rfl ?_
        refine v_iconst (v := 4) O dX8_reckon_75 (by decide) ?_
        refine v_iload O dX8_reckon_76 4 rfl ?_
        refine v_iastk (ws' := [(wk, .inr (8, [.ref kn, .ref vl, .ref pt, .int (nI gone), .ref fc, .ref ovr, .ref bkr, .int lf, .int dg, .int hd])), (kn, eI D 6 (nF kk)), (vl, eI D 6 (nF vv)), (fc, eI D 5 (upd (upd (upd (upd (upd ff1 0 (nI m)) 1 (nI (kk m))) 2 (nI (vv m))) 3 (nI ((gone + s) % 60))) 4 (nI i))), (ovr, eI D 480 (nF ot1)), (bkr, eI D 480 (nF bt1)), (vg, .inr (6, [.int (nI sh), .int (nI mo), .int (nI ov), .int (nI nr), .ref io, .ref am, .ref en, .int (nI nl), .ref sp])), (io, eZ D 10 fo), (am, eI D 10 fa), (en, eI D 10 fe), (sp, eI D 100 fs)]) O dX8_reckon_78 3 rfl 4 (rfl) (by omega) (by decide) (rfl) ?_
        refine v_congI (g := factsF m (kk m) (vv m) (gone + s) i) (ws' := [(wk, .inr (8, [.ref kn, .ref vl, .ref pt, .int (nI gone), .ref fc, .ref ovr, .ref bkr, .int lf, .int dg, .int hd])), (kn, eI D 6 (nF kk)), (vl, eI D 6 (nF vv)), (fc, eI D 5 (factsF m (kk m) (vv m) (gone + s) i)), (ovr, eI D 480 (nF ot1)), (bkr, eI D 480 (nF bt1)), (vg, .inr (6, [.int (nI sh), .int (nI mo), .int (nI ov), .int (nI nr), .ref io, .ref am, .ref en, .int (nI nl), .ref sp])), (io, eZ D 10 fo), (am, eI D 10 fa), (en, eI D 10 fe), (sp, eI D 100 fs)]) 3 rfl (fun j hj => by rcases (show j = 0 ∨ j = 1 ∨ j = 2 ∨ j = 3 ∨ j = 4 by omega) with rfl | rfl | rfl | rfl | rfl <;> rfl) rfl ?_
        refine v_aload_n O dX8_reckon_79 0 rfl ?_
        refine gf_X8_30 O rfl dX8_reckon_80 0 rfl rfl ?_
        refine v_iload O dX8_reckon_83 5 rfl ?_
        refine v_aload_n O dX8_reckon_85 1 rfl ?_
        refine v_aload_n O dX8_reckon_86 0 rfl ?_
        refine gf_X8_27 O rfl dX8_reckon_87 0 rfl rfl ?_
        refine v_cV (T := TX6) (ci := 6) (As := [.ref fc]) (wr := [(wk, .inr (8, [.ref kn, .ref vl, .ref pt, .int (nI gone), .ref fc, .ref ovr, .ref bkr, .int lf, .int dg, .int hd])), (kn, eI D 6 (nF kk)), (vl, eI D 6 (nF vv)), (ovr, eI D 480 (nF ot1)), (bkr, eI D 480 (nF bt1))]) (st := [.int (nI (slotN m s i)), .ref ovr]) O cf_X8_62 rfl (sp_X6_over (vg := vg) (sh := sh) (mo := mo) (ov := ov) (nr := nr) (io := io) (am := am) (en := en) (nl := nl) (sp := sp) (fo := fo) (fa := fa) (fe := fe) (fs := fs) (fc := fc) (ff := (factsF m (kk m) (vv m) (gone + s) i)) (E := E) (am9 := am9) (hnr) (hov) (hE) (hA)) dX8_reckon_90 rfl rfl 6 rfl [6, 7, 8, 9, 10, 3] [0, 1, 2, 4, 5] (by decide) rfl rfl (by decide) (by decide) (by decide) (Nat.le_of_ble_eq_true rfl) (by decide) (by decide) (fun r_5 w_6 h_4 => ?_)
        obtain ⟨rfl, rfl⟩ := h_4
        refine v_eq (st' := [.int (nI (overN fo fs (factsF m (kk m) (vv m) (gone + s) i) am9 E ov nr)), .int (nI (slotN m s i)), .ref ovr]) (ws' := [(wk, .inr (8, [.ref kn, .ref vl, .ref pt, .int (nI gone), .ref fc, .ref ovr, .ref bkr, .int lf, .int dg, .int hd])), (kn, eI D 6 (nF kk)), (vl, eI D 6 (nF vv)), (ovr, eI D 480 (nF ot1)), (bkr, eI D 480 (nF bt1)), (vg, .inr (6, [.int (nI sh), .int (nI mo), .int (nI ov), .int (nI nr), .ref io, .ref am, .ref en, .int (nI nl), .ref sp])), (io, eZ D 10 fo), (am, eI D 10 fa), (en, eI D 10 fe), (sp, eI D 100 fs), (fc, eI D 5 (factsF m (kk m) (vv m) (gone + s) i))]) rfl rfl rfl rfl ?_
        refine v_iastk (ws' := [(wk, .inr (8, [.ref kn, .ref vl, .ref pt, .int (nI gone), .ref fc, .ref ovr, .ref bkr, .int lf, .int dg, .int hd])), (kn, eI D 6 (nF kk)), (vl, eI D 6 (nF vv)), (ovr, eI D 480 (nF (uN ot1 (slotN m s i) (overN fo fs (factsF m (kk m) (vv m) (gone + s) i) am9 E ov nr)))), (bkr, eI D 480 (nF bt1)), (vg, .inr (6, [.int (nI sh), .int (nI mo), .int (nI ov), .int (nI nr), .ref io, .ref am, .ref en, .int (nI nl), .ref sp])), (io, eZ D 10 fo), (am, eI D 10 fa), (en, eI D 10 fe), (sp, eI D 100 fs), (fc, eI D 5 (factsF m (kk m) (vv m) (gone + s) i))]) O dX8_reckon_93 3 rfl (slotN m s i) (rfl) (by omega) (by decide) (by rw [upd_nF]; rfl) ?_
        refine v_aload_n O dX8_reckon_94 0 rfl ?_
        refine gf_X8_33 O rfl dX8_reckon_95 0 rfl rfl ?_
        refine v_iload O dX8_reckon_98 5 rfl ?_
        refine v_aload_n O dX8_reckon_100 1 rfl ?_
        refine v_aload_n O dX8_reckon_101 0 rfl ?_
        refine gf_X8_27 O rfl dX8_reckon_102 0 rfl rfl ?_
        refine v_cV (T := TX6) (ci := 6) (As := [.ref fc]) (wr := [(wk, .inr (8, [.ref kn, .ref vl, .ref pt, .int (nI gone), .ref fc, .ref ovr, .ref bkr, .int lf, .int dg, .int hd])), (kn, eI D 6 (nF kk)), (vl, eI D 6 (nF vv)), (ovr, eI D 480 (nF (uN ot1 (slotN m s i) (overN fo fs (factsF m (kk m) (vv m) (gone + s) i) am9 E ov nr)))), (bkr, eI D 480 (nF bt1))]) (st := [.int (nI (slotN m s i)), .ref bkr]) O cf_X8_66 rfl (sp_X6_back (vg := vg) (sh := sh) (mo := mo) (ov := ov) (nr := nr) (io := io) (am := am) (en := en) (nl := nl) (sp := sp) (fo := fo) (fa := fa) (fe := fe) (fs := fs) (fc := fc) (ff := (factsF m (kk m) (vv m) (gone + s) i)) (E := E) (am9 := am9) (hnr) (hE) (hA)) dX8_reckon_105 rfl rfl 5 rfl [5, 6, 7, 8, 9, 10] [0, 1, 2, 3, 4] (by decide) rfl rfl (by decide) (by decide) (by decide) (Nat.le_of_ble_eq_true rfl) (by decide) (by decide) (fun r_8 w_9 h_7 => ?_)
        obtain ⟨rfl, rfl⟩ := h_7
        refine v_eq (st' := [.int (nI (sumN fo fs (factsF m (kk m) (vv m) (gone + s) i) am9 E 0 nr)), .int (nI (slotN m s i)), .ref bkr]) (ws' := [(wk, .inr (8, [.ref kn, .ref vl, .ref pt, .int (nI gone), .ref fc, .ref ovr, .ref bkr, .int lf, .int dg, .int hd])), (kn, eI D 6 (nF kk)), (vl, eI D 6 (nF vv)), (ovr, eI D 480 (nF (uN ot1 (slotN m s i) (overN fo fs (factsF m (kk m) (vv m) (gone + s) i) am9 E ov nr)))), (bkr, eI D 480 (nF bt1)), (vg, .inr (6, [.int (nI sh), .int (nI mo), .int (nI ov), .int (nI nr), .ref io, .ref am, .ref en, .int (nI nl), .ref sp])), (io, eZ D 10 fo), (am, eI D 10 fa), (en, eI D 10 fe), (sp, eI D 100 fs), (fc, eI D 5 (factsF m (kk m) (vv m) (gone + s) i))]) rfl rfl rfl rfl ?_
        refine v_iastk (ws' := [(wk, .inr (8, [.ref kn, .ref vl, .ref pt, .int (nI gone), .ref fc, .ref ovr, .ref bkr, .int lf, .int dg, .int hd])), (kn, eI D 6 (nF kk)), (vl, eI D 6 (nF vv)), (ovr, eI D 480 (nF (uN ot1 (slotN m s i) (overN fo fs (factsF m (kk m) (vv m) (gone + s) i) am9 E ov nr)))), (bkr, eI D 480 (nF (uN bt1 (slotN m s i) (sumN fo fs (factsF m (kk m) (vv m) (gone + s) i) am9 E 0 nr)))), (vg, .inr (6, [.int (nI sh), .int (nI mo), .int (nI ov), .int (nI nr), .ref io, .ref am, .ref en, .int (nI nl), .ref sp])), (io, eZ D 10 fo), (am, eI D 10 fa), (en, eI D 10 fe), (sp, eI D 100 fs), (fc, eI D 5 (factsF m (kk m) (vv m) (gone + s) i))]) O dX8_reckon_108 4 rfl (slotN m s i) (rfl) (by omega) (by decide) (by rw [upd_nF]; rfl) ?_
        refine v_iinc (v := nI (i + 1)) (lv' := [(0, .ref wk), (1, .ref vg), (2, .int (nI m)), (3, .int (nI s)), (4, .int (nI (i + 1))), (5, .int (nI (slotN m s i)))]) O dX8_reckon_109 4 rfl (nI_1 i) (by decide) rfl ?_
        refine v_goto O 3 dX8_reckon_112 (by decide) ?_
        refine v_lvp (lv' := [(0, .ref wk), (1, .ref vg), (2, .int (nI m)), (3, .int (nI s)), (4, .int (nI (i + 1)))]) [0, 1, 2, 3, 4] rfl ?_
        refine v_sub (ws' := [(wk, .inr (8, [.ref kn, .ref vl, .ref pt, .int (nI gone), .ref fc, .ref ovr, .ref bkr, .int lf, .int dg, .int hd])), (kn, eI D 6 (nF kk)), (vl, eI D 6 (nF vv)), (fc, eI D 5 (factsF m (kk m) (vv m) (gone + s) i)), (ovr, eI D 480 (nF (uN ot1 (slotN m s i) (overN fo fs (factsF m (kk m) (vv m) (gone + s) i) am9 E ov nr)))), (bkr, eI D 480 (nF (uN bt1 (slotN m s i) (sumN fo fs (factsF m (kk m) (vv m) (gone + s) i) am9 E 0 nr)))), (vg, .inr (6, [.int (nI sh), .int (nI mo), .int (nI ov), .int (nI nr), .ref io, .ref am, .ref en, .int (nI nl), .ref sp])), (io, eZ D 10 fo), (am, eI D 10 fa), (en, eI D 10 fe), (sp, eI D 100 fs)]) [0, 1, 2, 10, 3, 4, 5, 6, 7, 8, 9] (by decide) rfl ?_
        exact ih (i + 1) (by omega) _ _ _ (tab_lt hs (by omega) h1) (tab_ne (by omega) h2) (tab_lt hs (by omega) h3) (tab_ne (by omega) h4)
      · skip
        have z2 := (not_congr (c_le' (x := nI (slotN m s i)) (y := 0) (a := slotN m s i) (b := 0) rfl rfl (by omega) (by omega))).mp z2
        exact absurd z2 (by omega)
set_option maxRecDepth 100000 in
set_option maxHeartbeats 4000000 in
theorem sp_X8_reckon {D : G} {wk : Nat} {kn : Nat} {vl : Nat} {pt : Nat} {gone : Nat} {fc : Nat} {ovr : Nat} {bkr : Nat} {lf : Int32} {dg : Int32} {hd : Int32} {kk : Nat → Nat} {vv : Nat → Nat} {ff : Nat → Int32} {ot : Nat → Nat} {bt : Nat → Nat} {vg : Nat} {sh : Nat} {mo : Nat} {ov : Nat} {nr : Nat} {io : Nat} {am : Nat} {en : Nat} {nl : Nat} {sp : Nat} {fo : Nat → Int32} {fa : Nat → Int32} {fe : Nat → Int32} {fs : Nat → Int32} {E : Nat → Nat} {am9 : Nat → Nat} {m : Nat} {s : Nat} (hm : m < 6) (hs : s < 8) (hgo : gone < 1000000) (hnr : nr ≤ 10) (hov : ov ≤ 10) (hE : ∀ r, r < nr → fe r = nI (E r) ∧ E r ≤ 100) (hA : ∀ r, r < nr → fa r = nI (am9 r) ∧ am9 r ≤ 99) : Sp D mX8_reckon 5 0 0 [.ref wk, .ref vg, .int (nI m), .int (nI s)] [(wk, .inr (8, [.ref kn, .ref vl, .ref pt, .int (nI gone), .ref fc, .ref ovr, .ref bkr, .int lf, .int dg, .int hd])), (kn, eI D 6 (nF kk)), (vl, eI D 6 (nF vv)), (fc, eI D 5 ff), (ovr, eI D 480 (nF ot)), (bkr, eI D 480 (nF bt)), (vg, .inr (6, [.int (nI sh), .int (nI mo), .int (nI ov), .int (nI nr), .ref io, .ref am, .ref en, .int (nI nl), .ref sp])), (io, eZ D 10 fo), (am, eI D 10 fa), (en, eI D 10 fe), (sp, eI D 100 fs)] (fun r w => ∃ ff2 : Nat → Int32, ∃ ot2 : Nat → Nat, ∃ bt2 : Nat → Nat, r = none ∧ w = [(wk, .inr (8, [.ref kn, .ref vl, .ref pt, .int (nI gone), .ref fc, .ref ovr, .ref bkr, .int lf, .int dg, .int hd])), (kn, eI D 6 (nF kk)), (vl, eI D 6 (nF vv)), (fc, eI D 5 ff2), (ovr, eI D 480 (nF ot2)), (bkr, eI D 480 (nF bt2)), (vg, .inr (6, [.int (nI sh), .int (nI mo), .int (nI ov), .int (nI nr), .ref io, .ref am, .ref en, .int (nI nl), .ref sp])), (io, eZ D 10 fo), (am, eI D 10 fa), (en, eI D 10 fe), (sp, eI D 100 fs)] ∧ (∀ zd, zd < 10 → ot2 (slotN m s zd) = overN fo fs (factsF m (kk m) (vv m) (gone + s) zd) am9 E ov nr) ∧ (∀ zj, (∀ zd, zd < 10 → zj ≠ slotN m s zd) → ot2 zj = ot zj) ∧ (∀ zd, zd < 10 → bt2 (slotN m s zd) = sumN fo fs (factsF m (kk m) (vv m) (gone + s) zd) am9 E 0 nr) ∧ (∀ zj, (∀ zd, zd < 10 → zj ≠ slotN m s zd) → bt2 zj = bt zj)) := by
  refine Sp.of (by decide) (Nat.le_of_ble_eq_true rfl) (fun X O T => ?_)
  refine v_eq (lv' := [(0, .ref wk), (1, .ref vg), (2, .int (nI m)), (3, .int (nI s))]) rfl rfl rfl rfl ?_
  refine v_iconst (v := 0) O dX8_reckon_0 (by decide) ?_
  refine v_istore (lv' := [(0, .ref wk), (1, .ref vg), (2, .int (nI m)), (3, .int (nI s)), (4, .int 0)]) O dX8_reckon_1 (by decide) rfl ?_
  refine v_eq (lv' := [(0, .ref wk), (1, .ref vg), (2, .int (nI m)), (3, .int (nI s)), (4, .int (nI 0))]) rfl rfl rfl rfl ?_
  exact l_X8_reckon O hm hs hgo hnr hov hE hA T 10 0 (by omega) ff ot bt (fun j hj => absurd hj (Nat.not_lt_zero j)) (fun _ _ => rfl) (fun j hj => absurd hj (Nat.not_lt_zero j)) (fun _ _ => rfl)
