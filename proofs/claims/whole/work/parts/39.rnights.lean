-- the reference: nights
theorem wlk_n {c : CS} {v : VS} {h s n l g : Nat} {Q : Nat → Nat} (hn : s < n) (e : wlkA c v h s = some (l, g, Q)) (z : wakA c v (c.crf s) s l = none) : wlkA c v h n = none := by
  refine walkN_stop (s := s + 1) hn ?_
  show (walkN _ _ _ _ _ h s).bind _ = none
  rw [show walkN c.kk (ppA c v) (ovA c v) (bkA c v) c.crf h s = some (l, g, Q) from e]
  show (wakA c v (c.crf s) s l).map _ = none
  rw [z]
  rfl
theorem wlk_s {c : CS} {v : VS} {h s l g : Nat} {Q : Nat → Nat} (e : wlkA c v h s = some (l, g, Q)) (z : ¬ wakA c v (c.crf s) s l = none) : wlkA c v h (s + 1) = some (oL (wakA c v (c.crf s) s l) l, g + oG (wakA c v (c.crf s) s l) 0, uN Q (c.crf s) (Q (c.crf s) + oD (wakA c v (c.crf s) s l) 0)) := by
  show (walkN _ _ _ _ _ h s).bind _ = _
  rw [show walkN c.kk (ppA c v) (ovA c v) (bkA c v) c.crf h s = some (l, g, Q) from e]
  show (wakA c v (c.crf s) s l).map _ = _
  cases z2 : wakA c v (c.crf s) s l with
  | none => exact absurd z2 z
  | some y => simp only [Option.map_some, oL, oG, oD, Nat.zero_add]
theorem firstN_d {P : Nat → Prop} {n a : Nat} : firstN P (n + 1) a = iteP (P a) (nI a) (firstN P n (a + 1)) := rfl
theorem cntN_d {P : Nat → Prop} {n a : Nat} : cntN P (n + 1) a = iteP (P a) (cntN P n (a + 1) + 1) (cntN P n (a + 1)) := rfl
theorem lastN_d {P : Nat → Prop} {n : Nat} : lastN P (n + 1) = iteP (P n) (nI n) (lastN P n) := rfl
set_option maxRecDepth 100000 in
set_option maxHeartbeats 4000000 in
theorem l_X10_goesRow {D : G} {X : CX} {mo : Nat} {ma : Nat → Nat} {c : CS} {c2 : CS} {tk : Int32} {vc : Nat} {ln : Nat} {rn : Nat} {zs_10 : Int32} {zs_11 : Int32} {zs_20 : Int32} {zs_21 : Int32} {zs_22 : Int32} {wd : Nat → Int32} {nu : Nat → Int32} {fr : Nat → Int32} {tt9 : Nat → Int32} {sf : Nat → Int32} {cls : Nat → Int32} {bg : Nat} {bn : Nat} {v : VS} {h : Nat} (O : Ok D X mX10_goesRow 7 0 0) (hB9 : hB c.held cls bg bn) (hM : MR wd nu fr tt9 sf bg bn v) (hC : cOk c) (hva : vAsk v) (hh : h < 1000000) (T : Rt D X (fun r w => ∃ zs2_25 : Int32, ∃ zs2_26 : Int32, ∃ zs2_27 : Int32, ∃ zs2_29 : Int32, ∃ pf2 : Nat → Int32, ∃ hb2 : Nat → Int32, r = some (.int (b2i (¬ wlkA c v h c.rl = none))) ∧ w = [(mo, .inr (10, M1R ma (mZ c c2 tk vc ln rn zs_10 zs_11 zs_20 zs_21 zs_22 zs2_25 zs2_26 zs2_27 zs2_29))), ((ma 4), eI D 6 (nF c.kk)), ((ma 5), eI D 6 (nF c.vv)), ((ma 6), eI D 6 c.hd), ((ma 30), eI D 8 (nF c.crf)), ((ma 35), eI D 12 (nF c.bo)), ((ma 13), eI D 6 cls), ((ma 14), eI D 60 wd), ((ma 15), eI D 60 nu), ((ma 16), eI D 60 fr), ((ma 17), eI D 60 tt9), ((ma 18), eI D 600 sf), ((ma 24), eZ D 100 pf2), ((ma 31), eI D 6 hb2)] ∧ (∀ L T Q, wlkA c v h c.rl = some (L, T, Q) → zs2_25 = nI L ∧ zs2_29 = nI T ∧ ∀ j, j < 6 → hb2 j = nI (Q j))) 0 0) : ∀ (t k : Nat), k + t = c.rl → ∀ (l g : Nat) (Q : Nat → Nat) (y26 y27 : Int32) (pf : Nat → Int32), wlkA c v h k = some (l, g, Q) → V D X 0 0 33 [(0, .ref mo), (1, .int (nI h)), (2, .int (nI k))] [] [(mo, .inr (10, M1R ma (mZ c c2 tk vc ln rn zs_10 zs_11 zs_20 zs_21 zs_22 (nI l) y26 y27 (nI g)))), ((ma 4), eI D 6 (nF c.kk)), ((ma 5), eI D 6 (nF c.vv)), ((ma 6), eI D 6 c.hd), ((ma 30), eI D 8 (nF c.crf)), ((ma 35), eI D 12 (nF c.bo)), ((ma 13), eI D 6 cls), ((ma 14), eI D 60 wd), ((ma 15), eI D 60 nu), ((ma 16), eI D 60 fr), ((ma 17), eI D 60 tt9), ((ma 18), eI D 600 sf), ((ma 24), eZ D 100 pf), ((ma 31), eI D 6 (nF Q))] := by
  intro t
  induction t with
  | zero =>
    intro k hk l g Q y26 y27 pf hW
    have z_m := hC.1
    have z_hp := hC.2.2.2.1
    have z_wk := hC.2.2.2.2.1
    have z_rl := hC.2.2.2.2.2.1
    have z_pg := hC.2.2.2.2.2.2.2.1
    refine v_iload_n O dX10_goesRow_33 2 rfl ?_
    refine v_aload_n O dX10_goesRow_34 0 rfl ?_
    refine gf_X10_96 (v := .int (nI c.rl)) O rfl dX10_goesRow_35 0 rfl rfl ?_
    refine v_icmp_ge O 99 dX10_goesRow_38 (by decide) (fun z1 => ?_) (fun z1 => ?_)
    · skip
      have z1 := (c_le' (x := nI k) (y := nI c.rl) (a := k) (b := c.rl) rfl rfl (by omega) (by omega)).mp z1
      refine v_iconst (v := 1) O dX10_goesRow_99 (by decide) ?_
      exact v_ireturn O T rfl rfl (by decide) (by decide) dX10_goesRow_100 (⟨nI l, y26, y27, nI g, _, _, by rw [b2i_t (by rw [← show k = c.rl by omega, hW]; exact fun y => by cases y)], rfl, fun L T Q2 y => by
      rw [← show k = c.rl by omega, hW] at y
      obtain ⟨z_1, z_2, z_3⟩ : l = L ∧ g = T ∧ Q = Q2 := by have z8 := Option.some.inj y; simp only [Prod.mk.injEq] at z8; exact z8
      exact ⟨by rw [z_1], by rw [z_2], fun j _ => by rw [← z_3]; rfl⟩⟩)
    · skip
      have z1 := (not_congr (c_le' (x := nI k) (y := nI c.rl) (a := k) (b := c.rl) rfl rfl (by omega) (by omega))).mp z1
      exact absurd z1 (by omega)
  | succ t ih =>
    intro k hk l g Q y26 y27 pf hW
    have z_m := hC.1
    have z_hp := hC.2.2.2.1
    have z_wk := hC.2.2.2.2.1
    have z_rl := hC.2.2.2.2.2.1
    have z_pg := hC.2.2.2.2.2.2.2.1
    refine v_iload_n O dX10_goesRow_33 2 rfl ?_
    refine v_aload_n O dX10_goesRow_34 0 rfl ?_
    refine gf_X10_96 (v := .int (nI c.rl)) O rfl dX10_goesRow_35 0 rfl rfl ?_
    refine v_icmp_ge O 99 dX10_goesRow_38 (by decide) (fun z1 => ?_) (fun z1 => ?_)
    · skip
      have z1 := (c_le' (x := nI k) (y := nI c.rl) (a := k) (b := c.rl) rfl rfl (by omega) (by omega)).mp z1
      exact absurd z1 (by omega)
    · skip
      have z1 := (not_congr (c_le' (x := nI k) (y := nI c.rl) (a := k) (b := c.rl) rfl rfl (by omega) (by omega))).mp z1
      have z_kr : k < c.rl := by omega
      have z_cr := hC.2.2.2.2.2.2.1 k z_kr
      have z_le := (walkN_le (fun m => partsN_ge hva.2.2.1) hW).1
      refine v_aload_n O dX10_goesRow_41 0 rfl ?_
      refine v_aload_n O dX10_goesRow_42 0 rfl ?_
      refine gf_X10_102 (v := .ref (ma 30)) O rfl dX10_goesRow_43 0 rfl rfl ?_
      refine v_iload_n O dX10_goesRow_46 2 rfl ?_
      refine v_ialdk O dX10_goesRow_47 4 rfl k rfl (by omega) (by decide) ?_
      refine v_top (y := nI (c.crf k)) rfl ?_
      refine v_aload_n O dX10_goesRow_48 0 rfl ?_
      refine gf_X10_19 (v := .int (nI c.wak)) O rfl dX10_goesRow_49 0 rfl rfl ?_
      refine v_iload_n O dX10_goesRow_52 2 rfl ?_
      refine v_iadd O dX10_goesRow_53 ?_
      refine v_top (y := nI (c.wak + k)) (nI_add c.wak k) ?_
      refine v_cV (T := TX10) (ci := 10) (As := [.int (nI (c.crf k)), .int (nI (c.wak + k))]) (wr := [((ma 6), eI D 6 c.hd), ((ma 30), eI D 8 (nF c.crf)), ((ma 35), eI D 12 (nF c.bo)), ((ma 31), eI D 6 (nF Q))]) (st := []) O cf_X10_284 rfl (sp_X10_wakes (mo := mo) (ma := ma) (c := c) (c2 := c2) (tk := tk) (vc := vc) (ln := ln) (rn := rn) (zs_10 := zs_10) (zs_11 := zs_11) (zs_20 := zs_20) (zs_21 := zs_21) (zs_22 := zs_22) (zs_26 := y26) (zs_27 := y27) (zs_29 := (nI g)) (wd := wd) (nu := nu) (fr := fr) (tt9 := tt9) (sf := sf) (cls := cls) (pf := pf) (bg := bg) (bn := bn) (v := v) (i := (c.crf k)) (s := k) (h := l) (hB9) (hM) (hC) (hva) (by omega) (by omega) (by omega)) dX10_goesRow_54 rfl rfl 0 rfl [0, 1, 2, 6, 7, 8, 9, 10, 11, 12] [3, 4, 5, 13] (by decide) rfl rfl (by decide) (by decide) (by decide) (Nat.le_of_ble_eq_true rfl) (by decide) (by decide) (fun r_2 w_3 h_1 => ?_)
      obtain ⟨pf2_4, rfl, rfl⟩ := h_1
      refine v_eq (st' := [.int (b2i (¬ wakA c v (c.crf k) k l = none))]) (ws' := [((ma 6), eI D 6 c.hd), ((ma 30), eI D 8 (nF c.crf)), ((ma 35), eI D 12 (nF c.bo)), ((ma 31), eI D 6 (nF Q)), (mo, .inr (10, M1R ma (mZ c c2 tk vc ln rn zs_10 zs_11 zs_20 zs_21 zs_22 (nI (oL (wakA c v (c.crf k) k l) l)) (nI (oG (wakA c v (c.crf k) k l) 0)) (nI (oD (wakA c v (c.crf k) k l) 0)) (nI g)))), ((ma 4), eI D 6 (nF c.kk)), ((ma 5), eI D 6 (nF c.vv)), ((ma 13), eI D 6 cls), ((ma 14), eI D 60 wd), ((ma 15), eI D 60 nu), ((ma 16), eI D 60 fr), ((ma 17), eI D 60 tt9), ((ma 18), eI D 600 sf), ((ma 24), eZ D 100 pf2_4)]) rfl rfl rfl rfl ?_
      refine v_if_ne O 62 dX10_goesRow_57 (by decide) (fun z3 => ?_) (fun z3 => ?_)
      · skip
        have z3 := b2i_1.mp z3
        have hW2 := wlk_s hW z3
        refine v_aload_n O dX10_goesRow_62 0 rfl ?_
        refine v_dup O dX10_goesRow_63 rfl ?_
        refine gf_X10_99 (v := .int (nI g)) O rfl dX10_goesRow_64 4 rfl rfl ?_
        refine v_aload_n O dX10_goesRow_67 0 rfl ?_
        refine gf_X10_90 (v := .int (nI (oG (wakA c v (c.crf k) k l) 0))) O rfl dX10_goesRow_68 4 rfl rfl ?_
        refine v_iadd O dX10_goesRow_71 ?_
        refine v_top (y := nI (g + (oG (wakA c v (c.crf k) k l) 0))) (nI_add g (oG (wakA c v (c.crf k) k l) 0)) ?_
        refine pf_X10_99 (fs' := M1R ma (mZ c c2 tk vc ln rn zs_10 zs_11 zs_20 zs_21 zs_22 (nI (oL (wakA c v (c.crf k) k l) l)) (nI (oG (wakA c v (c.crf k) k l) 0)) (nI (oD (wakA c v (c.crf k) k l) 0)) (nI (g + (oG (wakA c v (c.crf k) k l) 0))))) (ws' := [((ma 6), eI D 6 c.hd), ((ma 30), eI D 8 (nF c.crf)), ((ma 35), eI D 12 (nF c.bo)), ((ma 31), eI D 6 (nF Q)), (mo, .inr (10, M1R ma (mZ c c2 tk vc ln rn zs_10 zs_11 zs_20 zs_21 zs_22 (nI (oL (wakA c v (c.crf k) k l) l)) (nI (oG (wakA c v (c.crf k) k l) 0)) (nI (oD (wakA c v (c.crf k) k l) 0)) (nI (g + (oG (wakA c v (c.crf k) k l) 0)))))), ((ma 4), eI D 6 (nF c.kk)), ((ma 5), eI D 6 (nF c.vv)), ((ma 13), eI D 6 cls), ((ma 14), eI D 60 wd), ((ma 15), eI D 60 nu), ((ma 16), eI D 60 fr), ((ma 17), eI D 60 tt9), ((ma 18), eI D 600 sf), ((ma 24), eZ D 100 pf2_4)]) O rfl dX10_goesRow_72 4 rfl (Nat.le_of_ble_eq_true rfl) rfl rfl ?_
        refine v_aload_n O dX10_goesRow_75 0 rfl ?_
        refine gf_X10_105 (v := .ref (ma 31)) O rfl dX10_goesRow_76 4 rfl rfl ?_
        refine v_aload_n O dX10_goesRow_79 0 rfl ?_
        refine gf_X10_102 (v := .ref (ma 30)) O rfl dX10_goesRow_80 4 rfl rfl ?_
        refine v_iload_n O dX10_goesRow_83 2 rfl ?_
        refine v_ialdk O dX10_goesRow_84 1 rfl k rfl (by omega) (by decide) ?_
        refine v_top (y := nI (c.crf k)) rfl ?_
        refine v_dup2 O dX10_goesRow_85 rfl rfl ?_
        refine v_ialdk O dX10_goesRow_86 3 rfl (c.crf k) rfl (by omega) (by decide) ?_
        refine v_top (y := nI (Q (c.crf k))) rfl ?_
        refine v_aload_n O dX10_goesRow_87 0 rfl ?_
        refine gf_X10_93 (v := .int (nI (oD (wakA c v (c.crf k) k l) 0))) O rfl dX10_goesRow_88 4 rfl rfl ?_
        refine v_iadd O dX10_goesRow_91 ?_
        refine v_top (y := nI ((Q (c.crf k)) + (oD (wakA c v (c.crf k) k l) 0))) (nI_add (Q (c.crf k)) (oD (wakA c v (c.crf k) k l) 0)) ?_
        refine v_iastk (ws' := [((ma 6), eI D 6 c.hd), ((ma 30), eI D 8 (nF c.crf)), ((ma 35), eI D 12 (nF c.bo)), ((ma 31), eI D 6 (nF (uN Q (c.crf k) ((Q (c.crf k)) + (oD (wakA c v (c.crf k) k l) 0))))), (mo, .inr (10, M1R ma (mZ c c2 tk vc ln rn zs_10 zs_11 zs_20 zs_21 zs_22 (nI (oL (wakA c v (c.crf k) k l) l)) (nI (oG (wakA c v (c.crf k) k l) 0)) (nI (oD (wakA c v (c.crf k) k l) 0)) (nI (g + (oG (wakA c v (c.crf k) k l) 0)))))), ((ma 4), eI D 6 (nF c.kk)), ((ma 5), eI D 6 (nF c.vv)), ((ma 13), eI D 6 cls), ((ma 14), eI D 60 wd), ((ma 15), eI D 60 nu), ((ma 16), eI D 60 fr), ((ma 17), eI D 60 tt9), ((ma 18), eI D 600 sf), ((ma 24), eZ D 100 pf2_4)]) O dX10_goesRow_92 3 rfl (c.crf k) (rfl) (by omega) (by decide) (by rw [upd_nF]; rfl) ?_
        refine v_iinc (v := nI (k + 1)) (lv' := [(0, .ref mo), (1, .int (nI h)), (2, .int (nI (k + 1)))]) O dX10_goesRow_93 2 rfl (nI_1 k) (by decide) rfl ?_
        refine v_goto O 33 dX10_goesRow_96 (by decide) ?_
        refine v_sub (ws' := [(mo, .inr (10, M1R ma (mZ c c2 tk vc ln rn zs_10 zs_11 zs_20 zs_21 zs_22 (nI (oL (wakA c v (c.crf k) k l) l)) (nI (oG (wakA c v (c.crf k) k l) 0)) (nI (oD (wakA c v (c.crf k) k l) 0)) (nI (g + (oG (wakA c v (c.crf k) k l) 0)))))), ((ma 4), eI D 6 (nF c.kk)), ((ma 5), eI D 6 (nF c.vv)), ((ma 6), eI D 6 c.hd), ((ma 30), eI D 8 (nF c.crf)), ((ma 35), eI D 12 (nF c.bo)), ((ma 13), eI D 6 cls), ((ma 14), eI D 60 wd), ((ma 15), eI D 60 nu), ((ma 16), eI D 60 fr), ((ma 17), eI D 60 tt9), ((ma 18), eI D 600 sf), ((ma 24), eZ D 100 pf2_4), ((ma 31), eI D 6 (nF (uN Q (c.crf k) ((Q (c.crf k)) + (oD (wakA c v (c.crf k) k l) 0)))))]) [4, 5, 6, 0, 1, 2, 7, 8, 9, 10, 11, 12, 13, 3] (by decide) rfl ?_
        exact ih (k + 1) (by omega) _ _ _ _ _ _ hW2
      · skip
        have z3 := b2i_0.mp z3
        have z3 : wakA c v (c.crf k) k l = none := Classical.not_not.mp z3
        refine v_iconst (v := 0) O dX10_goesRow_60 (by decide) ?_
        refine v_sub (ws' := [(mo, .inr (10, M1R ma (mZ c c2 tk vc ln rn zs_10 zs_11 zs_20 zs_21 zs_22 (nI (oL (wakA c v (c.crf k) k l) l)) (nI (oG (wakA c v (c.crf k) k l) 0)) (nI (oD (wakA c v (c.crf k) k l) 0)) (nI g)))), ((ma 4), eI D 6 (nF c.kk)), ((ma 5), eI D 6 (nF c.vv)), ((ma 6), eI D 6 c.hd), ((ma 30), eI D 8 (nF c.crf)), ((ma 35), eI D 12 (nF c.bo)), ((ma 13), eI D 6 cls), ((ma 14), eI D 60 wd), ((ma 15), eI D 60 nu), ((ma 16), eI D 60 fr), ((ma 17), eI D 60 tt9), ((ma 18), eI D 600 sf), ((ma 24), eZ D 100 pf2_4), ((ma 31), eI D 6 (nF Q))]) [4, 5, 6, 0, 1, 2, 7, 8, 9, 10, 11, 12, 13, 3] (by decide) rfl ?_
        exact v_ireturn O T rfl rfl (by decide) (by decide) dX10_goesRow_61 (⟨nI (oL (wakA c v (c.crf k) k l) l), nI (oG (wakA c v (c.crf k) k l) 0), nI (oD (wakA c v (c.crf k) k l) 0), (nI g), _, _, by rw [b2i_f (fun y => y (wlk_n z_kr hW z3))], rfl, fun L T Q2 y => by rw [wlk_n z_kr hW z3] at y; cases y⟩)
set_option maxRecDepth 100000 in
set_option maxHeartbeats 4000000 in
theorem sp_X10_goesRow {D : G} {mo : Nat} {ma : Nat → Nat} {c : CS} {c2 : CS} {tk : Int32} {vc : Nat} {ln : Nat} {rn : Nat} {zs_10 : Int32} {zs_11 : Int32} {zs_20 : Int32} {zs_21 : Int32} {zs_22 : Int32} {zs_25 : Int32} {zs_26 : Int32} {zs_27 : Int32} {zs_29 : Int32} {wd : Nat → Int32} {nu : Nat → Int32} {fr : Nat → Int32} {tt9 : Nat → Int32} {sf : Nat → Int32} {cls : Nat → Int32} {pf : Nat → Int32} {hb : Nat → Int32} {bg : Nat} {bn : Nat} {v : VS} {h : Nat} (hB9 : hB c.held cls bg bn) (hM : MR wd nu fr tt9 sf bg bn v) (hC : cOk c) (hva : vAsk v) (hh : h < 1000000) : Sp D mX10_goesRow 7 0 0 [.ref mo, .int (nI h)] [(mo, .inr (10, M1R ma (mZ c c2 tk vc ln rn zs_10 zs_11 zs_20 zs_21 zs_22 zs_25 zs_26 zs_27 zs_29))), ((ma 4), eI D 6 (nF c.kk)), ((ma 5), eI D 6 (nF c.vv)), ((ma 6), eI D 6 c.hd), ((ma 30), eI D 8 (nF c.crf)), ((ma 35), eI D 12 (nF c.bo)), ((ma 13), eI D 6 cls), ((ma 14), eI D 60 wd), ((ma 15), eI D 60 nu), ((ma 16), eI D 60 fr), ((ma 17), eI D 60 tt9), ((ma 18), eI D 600 sf), ((ma 24), eZ D 100 pf), ((ma 31), eI D 6 hb)] (fun r w => ∃ zs2_25 : Int32, ∃ zs2_26 : Int32, ∃ zs2_27 : Int32, ∃ zs2_29 : Int32, ∃ pf2 : Nat → Int32, ∃ hb2 : Nat → Int32, r = some (.int (b2i (¬ wlkA c v h c.rl = none))) ∧ w = [(mo, .inr (10, M1R ma (mZ c c2 tk vc ln rn zs_10 zs_11 zs_20 zs_21 zs_22 zs2_25 zs2_26 zs2_27 zs2_29))), ((ma 4), eI D 6 (nF c.kk)), ((ma 5), eI D 6 (nF c.vv)), ((ma 6), eI D 6 c.hd), ((ma 30), eI D 8 (nF c.crf)), ((ma 35), eI D 12 (nF c.bo)), ((ma 13), eI D 6 cls), ((ma 14), eI D 60 wd), ((ma 15), eI D 60 nu), ((ma 16), eI D 60 fr), ((ma 17), eI D 60 tt9), ((ma 18), eI D 600 sf), ((ma 24), eZ D 100 pf2), ((ma 31), eI D 6 hb2)] ∧ (∀ L T Q, wlkA c v h c.rl = some (L, T, Q) → zs2_25 = nI L ∧ zs2_29 = nI T ∧ ∀ j, j < 6 → hb2 j = nI (Q j))) := by
  refine Sp.of (by decide) (Nat.le_of_ble_eq_true rfl) (fun X O T => ?_)
  refine v_eq (lv' := [(0, .ref mo), (1, .int (nI h))]) rfl rfl rfl rfl ?_
  refine v_aload_n O dX10_goesRow_0 0 rfl ?_
  refine v_iload_n O dX10_goesRow_1 1 rfl ?_
  refine pf_X10_87 (fs' := M1R ma (mZ c c2 tk vc ln rn zs_10 zs_11 zs_20 zs_21 zs_22 (nI h) zs_26 zs_27 zs_29)) (ws' := [(mo, .inr (10, M1R ma (mZ c c2 tk vc ln rn zs_10 zs_11 zs_20 zs_21 zs_22 (nI h) zs_26 zs_27 zs_29))), ((ma 4), eI D 6 (nF c.kk)), ((ma 5), eI D 6 (nF c.vv)), ((ma 6), eI D 6 c.hd), ((ma 30), eI D 8 (nF c.crf)), ((ma 35), eI D 12 (nF c.bo)), ((ma 13), eI D 6 cls), ((ma 14), eI D 60 wd), ((ma 15), eI D 60 nu), ((ma 16), eI D 60 fr), ((ma 17), eI D 60 tt9), ((ma 18), eI D 600 sf), ((ma 24), eZ D 100 pf), ((ma 31), eI D 6 hb)]) O rfl dX10_goesRow_2 0 rfl (Nat.le_of_ble_eq_true rfl) rfl rfl ?_
  refine v_aload_n O dX10_goesRow_5 0 rfl ?_
  refine v_iconst (v := 0) O dX10_goesRow_6 (by decide) ?_
  refine pf_X10_99 (fs' := M1R ma (mZ c c2 tk vc ln rn zs_10 zs_11 zs_20 zs_21 zs_22 (nI h) zs_26 zs_27 0)) (ws' := [(mo, .inr (10, M1R ma (mZ c c2 tk vc ln rn zs_10 zs_11 zs_20 zs_21 zs_22 (nI h) zs_26 zs_27 0))), ((ma 4), eI D 6 (nF c.kk)), ((ma 5), eI D 6 (nF c.vv)), ((ma 6), eI D 6 c.hd), ((ma 30), eI D 8 (nF c.crf)), ((ma 35), eI D 12 (nF c.bo)), ((ma 13), eI D 6 cls), ((ma 14), eI D 60 wd), ((ma 15), eI D 60 nu), ((ma 16), eI D 60 fr), ((ma 17), eI D 60 tt9), ((ma 18), eI D 600 sf), ((ma 24), eZ D 100 pf), ((ma 31), eI D 6 hb)]) O rfl dX10_goesRow_7 0 rfl (Nat.le_of_ble_eq_true rfl) rfl rfl ?_
  refine v_iconst (v := 0) O dX10_goesRow_10 (by decide) ?_
  refine v_istore_n (lv' := [(0, .ref mo), (1, .int (nI h)), (2, .int 0)]) O dX10_goesRow_11 (by decide) rfl ?_
  refine v_iload_n O dX10_goesRow_12 2 rfl ?_
  refine v_bipush (v := 6) O dX10_goesRow_13 (by decide) ?_
  refine v_icmp_ge O 31 dX10_goesRow_15 (by decide) (fun c => absurd c (by decide)) (fun _ => ?_)
  refine v_aload_n O dX10_goesRow_18 0 rfl ?_
  refine gf_X10_105 (v := .ref (ma 31)) O rfl dX10_goesRow_19 0 rfl rfl ?_
  refine v_iload_n O dX10_goesRow_22 2 rfl ?_
  refine v_iconst (v := 0) O dX10_goesRow_23 (by decide) ?_
  refine v_iastk (ws' := [(mo, .inr (10, M1R ma (mZ c c2 tk vc ln rn zs_10 zs_11 zs_20 zs_21 zs_22 (nI h) zs_26 zs_27 0))), ((ma 4), eI D 6 (nF c.kk)), ((ma 5), eI D 6 (nF c.vv)), ((ma 6), eI D 6 c.hd), ((ma 30), eI D 8 (nF c.crf)), ((ma 35), eI D 12 (nF c.bo)), ((ma 13), eI D 6 cls), ((ma 14), eI D 60 wd), ((ma 15), eI D 60 nu), ((ma 16), eI D 60 fr), ((ma 17), eI D 60 tt9), ((ma 18), eI D 600 sf), ((ma 24), eZ D 100 pf), ((ma 31), eI D 6 (upd hb 0 0))]) O dX10_goesRow_24 13 rfl 0 (rfl) (by omega) (by decide) (rfl) ?_
  refine v_iinc (v := 1) (lv' := [(0, .ref mo), (1, .int (nI h)), (2, .int 1)]) O dX10_goesRow_25 2 rfl (by decide) (by decide) rfl ?_
  refine v_goto O 12 dX10_goesRow_28 (by decide) ?_
  refine v_iload_n O dX10_goesRow_12 2 rfl ?_
  refine v_bipush (v := 6) O dX10_goesRow_13 (by decide) ?_
  refine v_icmp_ge O 31 dX10_goesRow_15 (by decide) (fun c => absurd c (by decide)) (fun _ => ?_)
  refine v_aload_n O dX10_goesRow_18 0 rfl ?_
  refine gf_X10_105 (v := .ref (ma 31)) O rfl dX10_goesRow_19 0 rfl rfl ?_
  refine v_iload_n O dX10_goesRow_22 2 rfl ?_
  refine v_iconst (v := 0) O dX10_goesRow_23 (by decide) ?_
  refine v_iastk (ws' := [(mo, .inr (10, M1R ma (mZ c c2 tk vc ln rn zs_10 zs_11 zs_20 zs_21 zs_22 (nI h) zs_26 zs_27 0))), ((ma 4), eI D 6 (nF c.kk)), ((ma 5), eI D 6 (nF c.vv)), ((ma 6), eI D 6 c.hd), ((ma 30), eI D 8 (nF c.crf)), ((ma 35), eI D 12 (nF c.bo)), ((ma 13), eI D 6 cls), ((ma 14), eI D 60 wd), ((ma 15), eI D 60 nu), ((ma 16), eI D 60 fr), ((ma 17), eI D 60 tt9), ((ma 18), eI D 600 sf), ((ma 24), eZ D 100 pf), ((ma 31), eI D 6 (upd (upd hb 0 0) 1 0))]) O dX10_goesRow_24 13 rfl 1 (rfl) (by omega) (by decide) (rfl) ?_
  refine v_iinc (v := 2) (lv' := [(0, .ref mo), (1, .int (nI h)), (2, .int 2)]) O dX10_goesRow_25 2 rfl (by decide) (by decide) rfl ?_
  refine v_goto O 12 dX10_goesRow_28 (by decide) ?_
  refine v_iload_n O dX10_goesRow_12 2 rfl ?_
  refine v_bipush (v := 6) O dX10_goesRow_13 (by decide) ?_
  refine v_icmp_ge O 31 dX10_goesRow_15 (by decide) (fun c => absurd c (by decide)) (fun _ => ?_)
  refine v_aload_n O dX10_goesRow_18 0 rfl ?_
  refine gf_X10_105 (v := .ref (ma 31)) O rfl dX10_goesRow_19 0 rfl rfl ?_
  refine v_iload_n O dX10_goesRow_22 2 rfl ?_
  refine v_iconst (v := 0) O dX10_goesRow_23 (by decide) ?_
  refine v_iastk (ws' := [(mo, .inr (10, M1R ma (mZ c c2 tk vc ln rn zs_10 zs_11 zs_20 zs_21 zs_22 (nI h) zs_26 zs_27 0))), ((ma 4), eI D 6 (nF c.kk)), ((ma 5), eI D 6 (nF c.vv)), ((ma 6), eI D 6 c.hd), ((ma 30), eI D 8 (nF c.crf)), ((ma 35), eI D 12 (nF c.bo)), ((ma 13), eI D 6 cls), ((ma 14), eI D 60 wd), ((ma 15), eI D 60 nu), ((ma 16), eI D 60 fr), ((ma 17), eI D 60 tt9), ((ma 18), eI D 600 sf), ((ma 24), eZ D 100 pf), ((ma 31), eI D 6 (upd (upd (upd hb 0 0) 1 0) 2 0))]) O dX10_goesRow_24 13 rfl 2 (rfl) (by omega) (by decide) (rfl) ?_
  refine v_iinc (v := 3) (lv' := [(0, .ref mo), (1, .int (nI h)), (2, .int 3)]) O dX10_goesRow_25 2 rfl (by decide) (by decide) rfl ?_
  refine v_goto O 12 dX10_goesRow_28 (by decide) ?_
  refine v_iload_n O dX10_goesRow_12 2 rfl ?_
  refine v_bipush (v := 6) O dX10_goesRow_13 (by decide) ?_
  refine v_icmp_ge O 31 dX10_goesRow_15 (by decide) (fun c => absurd c (by decide)) (fun _ => ?_)
  refine v_aload_n O dX10_goesRow_18 0 rfl ?_
  refine gf_X10_105 (v := .ref (ma 31)) O rfl dX10_goesRow_19 0 rfl rfl ?_
  refine v_iload_n O dX10_goesRow_22 2 rfl ?_
  refine v_iconst (v := 0) O dX10_goesRow_23 (by decide) ?_
  refine v_iastk (ws' := [(mo, .inr (10, M1R ma (mZ c c2 tk vc ln rn zs_10 zs_11 zs_20 zs_21 zs_22 (nI h) zs_26 zs_27 0))), ((ma 4), eI D 6 (nF c.kk)), ((ma 5), eI D 6 (nF c.vv)), ((ma 6), eI D 6 c.hd), ((ma 30), eI D 8 (nF c.crf)), ((ma 35), eI D 12 (nF c.bo)), ((ma 13), eI D 6 cls), ((ma 14), eI D 60 wd), ((ma 15), eI D 60 nu), ((ma 16), eI D 60 fr), ((ma 17), eI D 60 tt9), ((ma 18), eI D 600 sf), ((ma 24), eZ D 100 pf), ((ma 31), eI D 6 (upd (upd (upd (upd hb 0 0) 1 0) 2 0) 3 0))]) O dX10_goesRow_24 13 rfl 3 (rfl) (by omega) (by decide) (rfl) ?_
  refine v_iinc (v := 4) (lv' := [(0, .ref mo), (1, .int (nI h)), (2, .int 4)]) O dX10_goesRow_25 2 rfl (by decide) (by decide) rfl ?_
  refine v_goto O 12 dX10_goesRow_28 (by decide) ?_
  refine v_iload_n O dX10_goesRow_12 2 rfl ?_
  refine v_bipush (v := 6) O dX10_goesRow_13 (by decide) ?_
  refine v_icmp_ge O 31 dX10_goesRow_15 (by decide) (fun c => absurd c (by decide)) (fun _ => ?_)
  refine v_aload_n O dX10_goesRow_18 0 rfl ?_
  refine gf_X10_105 (v := .ref (ma 31)) O rfl dX10_goesRow_19 0 rfl rfl ?_
  refine v_iload_n O dX10_goesRow_22 2 rfl ?_
  refine v_iconst (v := 0) O dX10_goesRow_23 (by decide) ?_
  refine v_iastk (ws' := [(mo, .inr (10, M1R ma (mZ c c2 tk vc ln rn zs_10 zs_11 zs_20 zs_21 zs_22 (nI h) zs_26 zs_27 0))), ((ma 4), eI D 6 (nF c.kk)), ((ma 5), eI D 6 (nF c.vv)), ((ma 6), eI D 6 c.hd), ((ma 30), eI D 8 (nF c.crf)), ((ma 35), eI D 12 (nF c.bo)), ((ma 13), eI D 6 cls), ((ma 14), eI D 60 wd), ((ma 15), eI D 60 nu), ((ma 16), eI D 60 fr), ((ma 17), eI D 60 tt9), ((ma 18), eI D 600 sf), ((ma 24), eZ D 100 pf), ((ma 31), eI D 6 (upd (upd (upd (upd (upd hb 0 0) 1 0) 2 0) 3 0) 4 0))]) O dX10_goesRow_24 13 rfl 4 (rfl) (by omega) (by decide) (rfl) ?_
  refine v_iinc (v := 5) (lv' := [(0, .ref mo), (1, .int (nI h)), (2, .int 5)]) O dX10_goesRow_25 2 rfl (by decide) (by decide) rfl ?_
  refine v_goto O 12 dX10_goesRow_28 (by decide) ?_
  refine v_iload_n O dX10_goesRow_12 2 rfl ?_
  refine v_bipush (v := 6) O dX10_goesRow_13 (by decide) ?_
  refine v_icmp_ge O 31 dX10_goesRow_15 (by decide) (fun c => absurd c (by decide)) (fun _ => ?_)
  refine v_aload_n O dX10_goesRow_18 0 rfl ?_
  refine gf_X10_105 (v := .ref (ma 31)) O rfl dX10_goesRow_19 0 rfl rfl ?_
  refine v_iload_n O dX10_goesRow_22 2 rfl ?_
  refine v_iconst (v := 0) O dX10_goesRow_23 (by decide) ?_
  refine v_iastk (ws' := [(mo, .inr (10, M1R ma (mZ c c2 tk vc ln rn zs_10 zs_11 zs_20 zs_21 zs_22 (nI h) zs_26 zs_27 0))), ((ma 4), eI D 6 (nF c.kk)), ((ma 5), eI D 6 (nF c.vv)), ((ma 6), eI D 6 c.hd), ((ma 30), eI D 8 (nF c.crf)), ((ma 35), eI D 12 (nF c.bo)), ((ma 13), eI D 6 cls), ((ma 14), eI D 60 wd), ((ma 15), eI D 60 nu), ((ma 16), eI D 60 fr), ((ma 17), eI D 60 tt9), ((ma 18), eI D 600 sf), ((ma 24), eZ D 100 pf), ((ma 31), eI D 6 (upd (upd (upd (upd (upd (upd hb 0 0) 1 0) 2 0) 3 0) 4 0) 5 0))]) O dX10_goesRow_24 13 rfl 5 (rfl) (by omega) (by decide) (rfl) ?_
  refine v_iinc (v := 6) (lv' := [(0, .ref mo), (1, .int (nI h)), (2, .int 6)]) O dX10_goesRow_25 2 rfl (by decide) (by decide) rfl ?_
  refine v_goto O 12 dX10_goesRow_28 (by decide) ?_
  refine v_iload_n O dX10_goesRow_12 2 rfl ?_
  refine v_bipush (v := 6) O dX10_goesRow_13 (by decide) ?_
  refine v_icmp_ge O 31 dX10_goesRow_15 (by decide) (fun _ => ?_) (fun c => absurd c (by decide))
  refine v_congI (g := nF (fun _ => 0)) (ws' := [(mo, .inr (10, M1R ma (mZ c c2 tk vc ln rn zs_10 zs_11 zs_20 zs_21 zs_22 (nI h) zs_26 zs_27 0))), ((ma 4), eI D 6 (nF c.kk)), ((ma 5), eI D 6 (nF c.vv)), ((ma 6), eI D 6 c.hd), ((ma 30), eI D 8 (nF c.crf)), ((ma 35), eI D 12 (nF c.bo)), ((ma 13), eI D 6 cls), ((ma 14), eI D 60 wd), ((ma 15), eI D 60 nu), ((ma 16), eI D 60 fr), ((ma 17), eI D 60 tt9), ((ma 18), eI D 600 sf), ((ma 24), eZ D 100 pf), ((ma 31), eI D 6 (nF (fun _ => 0)))]) 13 rfl (fun j hj => by rcases (show j = 0 ∨ j = 1 ∨ j = 2 ∨ j = 3 ∨ j = 4 ∨ j = 5 by omega) with rfl | rfl | rfl | rfl | rfl | rfl <;> rfl) rfl ?_
  refine v_iconst (v := 0) O dX10_goesRow_31 (by decide) ?_
  refine v_istore_n (lv' := [(0, .ref mo), (1, .int (nI h)), (2, .int 0)]) O dX10_goesRow_32 (by decide) rfl ?_
  refine v_eq (lv' := [(0, .ref mo), (1, .int (nI h)), (2, .int (nI 0))]) (ws' := [(mo, .inr (10, M1R ma (mZ c c2 tk vc ln rn zs_10 zs_11 zs_20 zs_21 zs_22 (nI h) zs_26 zs_27 (nI 0)))), ((ma 4), eI D 6 (nF c.kk)), ((ma 5), eI D 6 (nF c.vv)), ((ma 6), eI D 6 c.hd), ((ma 30), eI D 8 (nF c.crf)), ((ma 35), eI D 12 (nF c.bo)), ((ma 13), eI D 6 cls), ((ma 14), eI D 60 wd), ((ma 15), eI D 60 nu), ((ma 16), eI D 60 fr), ((ma 17), eI D 60 tt9), ((ma 18), eI D 600 sf), ((ma 24), eZ D 100 pf), ((ma 31), eI D 6 (nF (fun _ => 0)))]) rfl rfl rfl rfl ?_
  exact l_X10_goesRow O hB9 hM hC hva hh T c.rl 0 (by omega) h 0 (fun _ => 0) _ _ _ rfl
set_option maxRecDepth 100000 in
set_option maxHeartbeats 4000000 in
theorem sp_X10_isNight {D : G} {mo : Nat} {ma : Nat → Nat} {c : CS} {c2 : CS} {tk : Int32} {vc : Nat} {ln : Nat} {rn : Nat} {zs_10 : Int32} {zs_11 : Int32} {zs_20 : Int32} {zs_21 : Int32} {zs_22 : Int32} {zs_25 : Int32} {zs_26 : Int32} {zs_27 : Int32} {zs_29 : Int32} {wd : Nat → Int32} {nu : Nat → Int32} {fr : Nat → Int32} {tt9 : Nat → Int32} {sf : Nat → Int32} {cls : Nat → Int32} {pf : Nat → Int32} {hb : Nat → Int32} {bg : Nat} {bn : Nat} {v : VS} {h : Nat} (hB9 : hB c.held cls bg bn) (hM : MR wd nu fr tt9 sf bg bn v) (hC : cOk c) (hva : vAsk v) (hh : h < 1000000) : Sp D mX10_isNight 8 0 0 [.ref mo, .int (nI h)] [(mo, .inr (10, M1R ma (mZ c c2 tk vc ln rn zs_10 zs_11 zs_20 zs_21 zs_22 zs_25 zs_26 zs_27 zs_29))), ((ma 4), eI D 6 (nF c.kk)), ((ma 5), eI D 6 (nF c.vv)), ((ma 6), eI D 6 c.hd), ((ma 30), eI D 8 (nF c.crf)), ((ma 35), eI D 12 (nF c.bo)), ((ma 13), eI D 6 cls), ((ma 14), eI D 60 wd), ((ma 15), eI D 60 nu), ((ma 16), eI D 60 fr), ((ma 17), eI D 60 tt9), ((ma 18), eI D 600 sf), ((ma 24), eZ D 100 pf), ((ma 31), eI D 6 hb)] (fun r w => ∃ zs2_25 : Int32, ∃ zs2_26 : Int32, ∃ zs2_27 : Int32, ∃ zs2_29 : Int32, ∃ pf2 : Nat → Int32, ∃ hb2 : Nat → Int32, r = some (.int (b2i (ngtA c v h))) ∧ w = [(mo, .inr (10, M1R ma (mZ c c2 tk vc ln rn zs_10 zs_11 zs_20 zs_21 zs_22 zs2_25 zs2_26 zs2_27 zs2_29))), ((ma 4), eI D 6 (nF c.kk)), ((ma 5), eI D 6 (nF c.vv)), ((ma 6), eI D 6 c.hd), ((ma 30), eI D 8 (nF c.crf)), ((ma 35), eI D 12 (nF c.bo)), ((ma 13), eI D 6 cls), ((ma 14), eI D 60 wd), ((ma 15), eI D 60 nu), ((ma 16), eI D 60 fr), ((ma 17), eI D 60 tt9), ((ma 18), eI D 600 sf), ((ma 24), eZ D 100 pf2), ((ma 31), eI D 6 hb2)]) := by
  refine Sp.of (by decide) (Nat.le_of_ble_eq_true rfl) (fun X O T => ?_)
  refine v_eq (lv' := [(0, .ref mo), (1, .int (nI h))]) rfl rfl rfl rfl ?_
  refine v_aload_n O dX10_isNight_0 0 rfl ?_
  refine v_iload_n O dX10_isNight_1 1 rfl ?_
  refine v_cV (T := TX10) (ci := 10) (As := [.int (nI h)]) (wr := []) (st := []) O cf_X10_287 rfl (sp_X10_goesRow (mo := mo) (ma := ma) (c := c) (c2 := c2) (tk := tk) (vc := vc) (ln := ln) (rn := rn) (zs_10 := zs_10) (zs_11 := zs_11) (zs_20 := zs_20) (zs_21 := zs_21) (zs_22 := zs_22) (zs_25 := zs_25) (zs_26 := zs_26) (zs_27 := zs_27) (zs_29 := zs_29) (wd := wd) (nu := nu) (fr := fr) (tt9 := tt9) (sf := sf) (cls := cls) (pf := pf) (hb := hb) (bg := bg) (bn := bn) (v := v) (h := h) (hB9) (hM) (hC) (hva) (hh)) dX10_isNight_2 rfl rfl 0 rfl [0, 1, 2, 3, 4, 5, 6, 7, 8, 9, 10, 11, 12, 13] [] (by decide) rfl rfl (by decide) (by decide) (by decide) (Nat.le_of_ble_eq_true rfl) (by decide) (by decide) (fun r_2 w_3 h_1 => ?_)
  obtain ⟨zs2_25_4, zs2_26_5, zs2_27_6, zs2_29_7, pf2_8, hb2_9, rfl, rfl, h_g⟩ := h_1
  refine v_eq (st' := [.int (b2i (¬ wlkA c v h c.rl = none))]) (ws' := [(mo, .inr (10, M1R ma (mZ c c2 tk vc ln rn zs_10 zs_11 zs_20 zs_21 zs_22 zs2_25_4 zs2_26_5 zs2_27_6 zs2_29_7))), ((ma 4), eI D 6 (nF c.kk)), ((ma 5), eI D 6 (nF c.vv)), ((ma 6), eI D 6 c.hd), ((ma 30), eI D 8 (nF c.crf)), ((ma 35), eI D 12 (nF c.bo)), ((ma 13), eI D 6 cls), ((ma 14), eI D 60 wd), ((ma 15), eI D 60 nu), ((ma 16), eI D 60 fr), ((ma 17), eI D 60 tt9), ((ma 18), eI D 600 sf), ((ma 24), eZ D 100 pf2_8), ((ma 31), eI D 6 hb2_9)]) rfl rfl rfl rfl ?_
  refine v_if_eq O 44 dX10_isNight_5 (by decide) (fun z1 => ?_) (fun z1 => ?_)
  · skip
    have z1 := b2i_0.mp z1
    refine v_iconst (v := 0) O dX10_isNight_44 (by decide) ?_
    exact v_ireturn O T rfl rfl (by decide) (by decide) dX10_isNight_45 (⟨zs2_25_4, zs2_26_5, zs2_27_6, zs2_29_7, _, _, by rw [b2i_f (show ¬ ngtA c v h by unfold ngtA; rw [Classical.not_not.mp z1]; exact id)], rfl⟩)
  · skip
    have z1 := b2i_1.mp z1
    obtain ⟨⟨zL, zT, zQ⟩, zW⟩ := Option.ne_none_iff_exists'.mp z1
    obtain ⟨z_a, z_t, z_b⟩ := h_g zL zT zQ zW
    have z_le := (walkN_le (fun m => partsN_ge hva.2.2.1) zW).1
    have z_mo : v.mo ≤ 99 := hva.2.2.2.2.1
    have z_s2 : 2 ≤ v.sh := hva.2.2.1
    have z_s9 : v.sh ≤ 99 := hva.2.2.2.1
    refine v_aload_n O dX10_isNight_8 0 rfl ?_
    refine gf_X10_87 (v := .int zs2_25_4) O rfl dX10_isNight_9 0 rfl rfl ?_
    refine v_top (y := nI zL) (z_a) ?_
    refine v_aload_n O dX10_isNight_12 0 rfl ?_
    refine v_iconst (v := 3) O dX10_isNight_13 (by decide) ?_
    refine v_iconst (v := 1) O dX10_isNight_14 (by decide) ?_
    refine v_cV (T := TX10) (ci := 10) (As := [.int 3, .int 1]) (wr := [((ma 6), eI D 6 c.hd), ((ma 30), eI D 8 (nF c.crf)), ((ma 35), eI D 12 (nF c.bo)), ((ma 31), eI D 6 hb2_9)]) (st := [.int (nI zL)]) O cf_X10_244 rfl (sp_X10_lastOf (mo := mo) (ma := ma) (c := c) (c2 := c2) (tk := tk) (vc := vc) (ln := ln) (rn := rn) (zs_10 := zs_10) (zs_11 := zs_11) (zs_20 := zs_20) (zs_21 := zs_21) (zs_22 := zs_22) (zs_25 := zs2_25_4) (zs_26 := zs2_26_5) (zs_27 := zs2_27_6) (zs_29 := zs2_29_7) (wd := wd) (nu := nu) (fr := fr) (tt9 := tt9) (sf := sf) (cls := cls) (pf := pf2_8) (bg := bg) (bn := bn) (v := v) (x := 3) (y := 1) (hB9) (hM)) dX10_isNight_15 rfl rfl 0 rfl [0, 1, 2, 6, 7, 8, 9, 10, 11, 12] [3, 4, 5, 13] (by decide) rfl rfl (by decide) (by decide) (by decide) (Nat.le_of_ble_eq_true rfl) (by decide) (by decide) (fun r_11 w_12 h_10 => ?_)
    obtain ⟨rfl, rfl⟩ := h_10
    refine v_eq (st' := [.int (lastF wd nu 3 bg 1 bn), .int (nI zL)]) (ws' := [((ma 6), eI D 6 c.hd), ((ma 30), eI D 8 (nF c.crf)), ((ma 35), eI D 12 (nF c.bo)), ((ma 31), eI D 6 hb2_9), (mo, .inr (10, M1R ma (mZ c c2 tk vc ln rn zs_10 zs_11 zs_20 zs_21 zs_22 zs2_25_4 zs2_26_5 zs2_27_6 zs2_29_7))), ((ma 4), eI D 6 (nF c.kk)), ((ma 5), eI D 6 (nF c.vv)), ((ma 13), eI D 6 cls), ((ma 14), eI D 60 wd), ((ma 15), eI D 60 nu), ((ma 16), eI D 60 fr), ((ma 17), eI D 60 tt9), ((ma 18), eI D 600 sf), ((ma 24), eZ D 100 pf2_8)]) rfl rfl rfl rfl ?_
    refine v_top (y := nI v.mo) (hM.2.2.2.1) ?_
    refine v_icmp_lt O 44 dX10_isNight_18 (by decide) (fun z3 => ?_) (fun z3 => ?_)
    · skip
      have z3 := (c_lt (x := nI zL) (y := nI v.mo) (a := zL) (b := v.mo) rfl rfl (by omega) (by omega)).mp z3
      refine v_iconst (v := 0) O dX10_isNight_44 (by decide) ?_
      refine v_sub (ws' := [(mo, .inr (10, M1R ma (mZ c c2 tk vc ln rn zs_10 zs_11 zs_20 zs_21 zs_22 zs2_25_4 zs2_26_5 zs2_27_6 zs2_29_7))), ((ma 4), eI D 6 (nF c.kk)), ((ma 5), eI D 6 (nF c.vv)), ((ma 6), eI D 6 c.hd), ((ma 30), eI D 8 (nF c.crf)), ((ma 35), eI D 12 (nF c.bo)), ((ma 13), eI D 6 cls), ((ma 14), eI D 60 wd), ((ma 15), eI D 60 nu), ((ma 16), eI D 60 fr), ((ma 17), eI D 60 tt9), ((ma 18), eI D 600 sf), ((ma 24), eZ D 100 pf2_8), ((ma 31), eI D 6 hb2_9)]) [4, 5, 6, 0, 1, 2, 7, 8, 9, 10, 11, 12, 13, 3] (by decide) rfl ?_
      exact v_ireturn O T rfl rfl (by decide) (by decide) dX10_isNight_45 (⟨zs2_25_4, zs2_26_5, zs2_27_6, zs2_29_7, _, _, by rw [b2i_f (show ¬ ngtA c v h by unfold ngtA; rw [zW]; exact fun y => absurd (show v.mo ≤ zL from y.1) (by omega))], rfl⟩)
    · skip
      have z3 := (not_congr (c_lt (x := nI zL) (y := nI v.mo) (a := zL) (b := v.mo) rfl rfl (by omega) (by omega))).mp z3
      refine v_aload_n O dX10_isNight_21 0 rfl ?_
      refine gf_X10_87 (v := .int zs2_25_4) O rfl dX10_isNight_22 4 rfl rfl ?_
      refine v_top (y := nI zL) (z_a) ?_
      refine v_aload_n O dX10_isNight_25 0 rfl ?_
      refine v_iconst (v := 3) O dX10_isNight_26 (by decide) ?_
      refine v_iconst (v := 1) O dX10_isNight_27 (by decide) ?_
      refine v_cV (T := TX10) (ci := 10) (As := [.int 3, .int 1]) (wr := [((ma 6), eI D 6 c.hd), ((ma 30), eI D 8 (nF c.crf)), ((ma 35), eI D 12 (nF c.bo)), ((ma 31), eI D 6 hb2_9)]) (st := [.int (nI zL)]) O cf_X10_244 rfl (sp_X10_lastOf (mo := mo) (ma := ma) (c := c) (c2 := c2) (tk := tk) (vc := vc) (ln := ln) (rn := rn) (zs_10 := zs_10) (zs_11 := zs_11) (zs_20 := zs_20) (zs_21 := zs_21) (zs_22 := zs_22) (zs_25 := zs2_25_4) (zs_26 := zs2_26_5) (zs_27 := zs2_27_6) (zs_29 := zs2_29_7) (wd := wd) (nu := nu) (fr := fr) (tt9 := tt9) (sf := sf) (cls := cls) (pf := pf2_8) (bg := bg) (bn := bn) (v := v) (x := 3) (y := 1) (hB9) (hM)) dX10_isNight_28 rfl rfl 4 rfl [4, 5, 6, 7, 8, 9, 10, 11, 12, 13] [0, 1, 2, 3] (by decide) rfl rfl (by decide) (by decide) (by decide) (Nat.le_of_ble_eq_true rfl) (by decide) (by decide) (fun r_14 w_15 h_13 => ?_)
      obtain ⟨rfl, rfl⟩ := h_13
      refine v_eq (st' := [.int (lastF wd nu 3 bg 1 bn), .int (nI zL)]) (ws' := [((ma 6), eI D 6 c.hd), ((ma 30), eI D 8 (nF c.crf)), ((ma 35), eI D 12 (nF c.bo)), ((ma 31), eI D 6 hb2_9), (mo, .inr (10, M1R ma (mZ c c2 tk vc ln rn zs_10 zs_11 zs_20 zs_21 zs_22 zs2_25_4 zs2_26_5 zs2_27_6 zs2_29_7))), ((ma 4), eI D 6 (nF c.kk)), ((ma 5), eI D 6 (nF c.vv)), ((ma 13), eI D 6 cls), ((ma 14), eI D 60 wd), ((ma 15), eI D 60 nu), ((ma 16), eI D 60 fr), ((ma 17), eI D 60 tt9), ((ma 18), eI D 600 sf), ((ma 24), eZ D 100 pf2_8)]) rfl rfl rfl rfl ?_
      refine v_top (y := nI v.mo) (hM.2.2.2.1) ?_
      refine v_isub O dX10_isNight_31 ?_
      refine v_top (y := nI (zL - v.mo)) (pk_sub (by omega)) ?_
      refine v_aload_n O dX10_isNight_32 0 rfl ?_
      refine v_cV (T := TX10) (ci := 10) (As := []) (wr := [((ma 6), eI D 6 c.hd), ((ma 30), eI D 8 (nF c.crf)), ((ma 35), eI D 12 (nF c.bo)), ((ma 31), eI D 6 hb2_9)]) (st := [.int (nI (zL - v.mo))]) O cf_X10_262 rfl (sp_X10_shares (mo := mo) (ma := ma) (c := c) (c2 := c2) (tk := tk) (vc := vc) (ln := ln) (rn := rn) (zs_10 := zs_10) (zs_11 := zs_11) (zs_20 := zs_20) (zs_21 := zs_21) (zs_22 := zs_22) (zs_25 := zs2_25_4) (zs_26 := zs2_26_5) (zs_27 := zs2_27_6) (zs_29 := zs2_29_7) (wd := wd) (nu := nu) (fr := fr) (tt9 := tt9) (sf := sf) (cls := cls) (pf := pf2_8) (bg := bg) (bn := bn) (v := v) (hB9) (hM)) dX10_isNight_33 rfl rfl 4 rfl [4, 5, 6, 7, 8, 9, 10, 11, 12, 13] [0, 1, 2, 3] (by decide) rfl rfl (by decide) (by decide) (by decide) (Nat.le_of_ble_eq_true rfl) (by decide) (by decide) (fun r_17 w_18 h_16 => ?_)
      obtain ⟨rfl, rfl⟩ := h_16
      refine v_eq (st' := [.int (nI v.sh), .int (nI (zL - v.mo))]) (ws' := [((ma 6), eI D 6 c.hd), ((ma 30), eI D 8 (nF c.crf)), ((ma 35), eI D 12 (nF c.bo)), ((ma 31), eI D 6 hb2_9), (mo, .inr (10, M1R ma (mZ c c2 tk vc ln rn zs_10 zs_11 zs_20 zs_21 zs_22 zs2_25_4 zs2_26_5 zs2_27_6 zs2_29_7))), ((ma 4), eI D 6 (nF c.kk)), ((ma 5), eI D 6 (nF c.vv)), ((ma 13), eI D 6 cls), ((ma 14), eI D 60 wd), ((ma 15), eI D 60 nu), ((ma 16), eI D 60 fr), ((ma 17), eI D 60 tt9), ((ma 18), eI D 600 sf), ((ma 24), eZ D 100 pf2_8)]) rfl rfl rfl rfl ?_
      refine v_irem O dX10_isNight_36 (nI_ne0 (by omega) (by omega)) ?_
      refine v_top (y := nI ((zL - v.mo) % v.sh)) (pk_rem (by omega) (by omega) (by omega)) ?_
      have z_md : (zL - v.mo) % v.sh < v.sh := Nat.mod_lt _ (by omega)
      refine v_if_ne O 44 dX10_isNight_37 (by decide) (fun z4 => ?_) (fun z4 => ?_)
      · skip
        have z4 := (not_congr (c_eq (x := nI ((zL - v.mo) % v.sh)) (y := 0) (a := (zL - v.mo) % v.sh) (b := 0) rfl rfl (by omega) (by omega))).mp z4
        refine v_iconst (v := 0) O dX10_isNight_44 (by decide) ?_
        refine v_sub (ws' := [(mo, .inr (10, M1R ma (mZ c c2 tk vc ln rn zs_10 zs_11 zs_20 zs_21 zs_22 zs2_25_4 zs2_26_5 zs2_27_6 zs2_29_7))), ((ma 4), eI D 6 (nF c.kk)), ((ma 5), eI D 6 (nF c.vv)), ((ma 6), eI D 6 c.hd), ((ma 30), eI D 8 (nF c.crf)), ((ma 35), eI D 12 (nF c.bo)), ((ma 13), eI D 6 cls), ((ma 14), eI D 60 wd), ((ma 15), eI D 60 nu), ((ma 16), eI D 60 fr), ((ma 17), eI D 60 tt9), ((ma 18), eI D 600 sf), ((ma 24), eZ D 100 pf2_8), ((ma 31), eI D 6 hb2_9)]) [4, 5, 6, 0, 1, 2, 7, 8, 9, 10, 11, 12, 13, 3] (by decide) rfl ?_
        exact v_ireturn O T rfl rfl (by decide) (by decide) dX10_isNight_45 (⟨zs2_25_4, zs2_26_5, zs2_27_6, zs2_29_7, _, _, by rw [b2i_f (show ¬ ngtA c v h by unfold ngtA; rw [zW]; exact fun y => z4 y.2)], rfl⟩)
      · skip
        have z4 := (c_eq (x := nI ((zL - v.mo) % v.sh)) (y := 0) (a := (zL - v.mo) % v.sh) (b := 0) rfl rfl (by omega) (by omega)).mp z4
        refine v_iconst (v := 1) O dX10_isNight_40 (by decide) ?_
        refine v_goto O 45 dX10_isNight_41 (by decide) ?_
        refine v_sub (ws' := [(mo, .inr (10, M1R ma (mZ c c2 tk vc ln rn zs_10 zs_11 zs_20 zs_21 zs_22 zs2_25_4 zs2_26_5 zs2_27_6 zs2_29_7))), ((ma 4), eI D 6 (nF c.kk)), ((ma 5), eI D 6 (nF c.vv)), ((ma 6), eI D 6 c.hd), ((ma 30), eI D 8 (nF c.crf)), ((ma 35), eI D 12 (nF c.bo)), ((ma 13), eI D 6 cls), ((ma 14), eI D 60 wd), ((ma 15), eI D 60 nu), ((ma 16), eI D 60 fr), ((ma 17), eI D 60 tt9), ((ma 18), eI D 600 sf), ((ma 24), eZ D 100 pf2_8), ((ma 31), eI D 6 hb2_9)]) [4, 5, 6, 0, 1, 2, 7, 8, 9, 10, 11, 12, 13, 3] (by decide) rfl ?_
        exact v_ireturn O T rfl rfl (by decide) (by decide) dX10_isNight_45 (⟨zs2_25_4, zs2_26_5, zs2_27_6, zs2_29_7, _, _, by rw [b2i_t (show ngtA c v h by unfold ngtA; rw [zW]; exact ⟨Nat.not_lt.mp z3, z4⟩)], rfl⟩)
set_option maxRecDepth 100000 in
set_option maxHeartbeats 4000000 in
theorem sp_X10_of_6 {D : G} {mo : Nat} {ma : Nat → Nat} {c : CS} {c2 : CS} {tk : Int32} {vc : Nat} {ln : Nat} {rn : Nat} {zs_10 : Int32} {zs_11 : Int32} {zs_20 : Int32} {zs_21 : Int32} {zs_22 : Int32} {zs_25 : Int32} {zs_26 : Int32} {zs_27 : Int32} {zs_29 : Int32} {i : Nat} {wd : Nat → Int32} {nu : Nat → Int32} {fr : Nat → Int32} {tt9 : Nat → Int32} {sf : Nat → Int32} {cls : Nat → Int32} {pf : Nat → Int32} {bg : Nat} {bn : Nat} {v : VS} (hC : cOk c) (hB9 : hB c.held cls bg bn) (hM : MR wd nu fr tt9 sf bg bn v) (hva : vAsk v) (hi : i < c.men) : Sp D mX10_of 30 0 0 [.ref mo, .int (nI i), .int 3] [(mo, .inr (10, M1R ma (mZ c c2 tk vc ln rn zs_10 zs_11 zs_20 zs_21 zs_22 zs_25 zs_26 zs_27 zs_29))), ((ma 4), eI D 6 (nF c.kk)), ((ma 5), eI D 6 (nF c.vv)), ((ma 6), eI D 6 c.hd), ((ma 30), eI D 8 (nF c.crf)), ((ma 35), eI D 12 (nF c.bo)), ((ma 13), eI D 6 cls), ((ma 14), eI D 60 wd), ((ma 15), eI D 60 nu), ((ma 16), eI D 60 fr), ((ma 17), eI D 60 tt9), ((ma 18), eI D 600 sf), ((ma 24), eZ D 100 pf)] (fun r w => ∃ zs2_10 : Int32, ∃ zs2_11 : Int32, ∃ zs2_20 : Int32, ∃ zs2_21 : Int32, ∃ zs2_22 : Int32, ∃ zs2_25 : Int32, ∃ zs2_26 : Int32, ∃ zs2_27 : Int32, ∃ zs2_29 : Int32, ∃ pf2 : Nat → Int32, r = some (.int (nI (ppA c v i))) ∧ w = [(mo, .inr (10, M1R ma (mZ c c2 tk vc ln rn zs2_10 zs2_11 zs2_20 zs2_21 zs2_22 zs2_25 zs2_26 zs2_27 zs2_29))), ((ma 4), eI D 6 (nF c.kk)), ((ma 5), eI D 6 (nF c.vv)), ((ma 6), eI D 6 c.hd), ((ma 30), eI D 8 (nF c.crf)), ((ma 35), eI D 12 (nF c.bo)), ((ma 13), eI D 6 cls), ((ma 14), eI D 60 wd), ((ma 15), eI D 60 nu), ((ma 16), eI D 60 fr), ((ma 17), eI D 60 tt9), ((ma 18), eI D 600 sf), ((ma 24), eZ D 100 pf2)]) := by
  refine Sp.of (by decide) (Nat.le_of_ble_eq_true rfl) (fun X O T => ?_)
  refine v_eq (lv' := [(0, .ref mo), (1, .int (nI i)), (2, .int 3)]) rfl rfl rfl rfl ?_
  have z_m := hC.1
  have z_hp := hC.2.2.2.1
  have z_wk := hC.2.2.2.2.1
  have z_rl := hC.2.2.2.2.2.1
  have z_pg := hC.2.2.2.2.2.2.2.1
  refine v_aload_n O dX10_of_0 0 rfl ?_
  refine v_iload_n O dX10_of_1 1 rfl ?_
  refine v_cV (T := TX10) (ci := 10) (As := [.int (nI i)]) (wr := [((ma 4), eI D 6 (nF c.kk)), ((ma 5), eI D 6 (nF c.vv)), ((ma 6), eI D 6 c.hd), ((ma 30), eI D 8 (nF c.crf)), ((ma 35), eI D 12 (nF c.bo)), ((ma 13), eI D 6 cls), ((ma 14), eI D 60 wd), ((ma 15), eI D 60 nu), ((ma 16), eI D 60 fr), ((ma 17), eI D 60 tt9), ((ma 18), eI D 600 sf), ((ma 24), eZ D 100 pf)]) (st := []) O cf_X10_281 rfl (sp_X10_isMan (mo := mo) (ma := ma) (c := c) (c2 := c2) (tk := tk) (vc := vc) (ln := ln) (rn := rn) (zs_10 := zs_10) (zs_11 := zs_11) (zs_20 := zs_20) (zs_21 := zs_21) (zs_22 := zs_22) (zs_25 := zs_25) (zs_26 := zs_26) (zs_27 := zs_27) (zs_29 := zs_29) (i := (nI i)) (hC.1)) dX10_of_2 rfl rfl 0 rfl [0] [1, 2, 3, 4, 5, 6, 7, 8, 9, 10, 11, 12] (by decide) rfl rfl (by decide) (by decide) (by decide) (Nat.le_of_ble_eq_true rfl) (by decide) (by decide) (fun r_2 w_3 h_1 => ?_)
  obtain ⟨rfl, rfl⟩ := h_1
  refine v_eq (st' := [.int (b2i (isIx (nI i) c.men))]) (ws' := [((ma 4), eI D 6 (nF c.kk)), ((ma 5), eI D 6 (nF c.vv)), ((ma 6), eI D 6 c.hd), ((ma 30), eI D 8 (nF c.crf)), ((ma 35), eI D 12 (nF c.bo)), ((ma 13), eI D 6 cls), ((ma 14), eI D 60 wd), ((ma 15), eI D 60 nu), ((ma 16), eI D 60 fr), ((ma 17), eI D 60 tt9), ((ma 18), eI D 600 sf), ((ma 24), eZ D 100 pf), (mo, .inr (10, M1R ma (mZ c c2 tk vc ln rn zs_10 zs_11 zs_20 zs_21 zs_22 zs_25 zs_26 zs_27 zs_29)))]) rfl rfl rfl rfl ?_
  refine v_if_ne O 12 dX10_of_5 (by decide) (fun z1 => ?_) (fun z1 => ?_)
  · skip
    have z1 := b2i_1.mp z1
    refine v_iload_n O dX10_of_12 2 rfl ?_
    refine v_tsIn (off := 64) O 77 dX10_of_13 (by decide) (by decide) (by decide) (by decide) ?_
    refine v_aload_n O dX10_of_77 0 rfl ?_
    refine v_iload_n O dX10_of_78 1 rfl ?_
    refine v_cV (T := TX10) (ci := 10) (As := [.int (nI i)]) (wr := [((ma 6), eI D 6 c.hd), ((ma 30), eI D 8 (nF c.crf)), ((ma 35), eI D 12 (nF c.bo))]) (st := []) O cf_X10_269 rfl (sp_X10_partsOf (mo := mo) (ma := ma) (c := c) (c2 := c2) (tk := tk) (vc := vc) (ln := ln) (rn := rn) (zs_10 := zs_10) (zs_11 := zs_11) (zs_20 := zs_20) (zs_21 := zs_21) (zs_22 := zs_22) (zs_25 := zs_25) (zs_26 := zs_26) (zs_27 := zs_27) (zs_29 := zs_29) (wd := wd) (nu := nu) (fr := fr) (tt9 := tt9) (sf := sf) (cls := cls) (pf := pf) (bg := bg) (bn := bn) (v := v) (i := i) (hB9) (hM) (hC) (by omega)) dX10_of_79 rfl rfl 12 rfl [12, 0, 1, 5, 6, 7, 8, 9, 10, 11] [2, 3, 4] (by decide) rfl rfl (by decide) (by decide) (by decide) (Nat.le_of_ble_eq_true rfl) (by decide) (by decide) (fun r_5 w_6 h_4 => ?_)
    obtain ⟨rfl, rfl⟩ := h_4
    refine v_eq (st' := [.int (nI (ppA c v i))]) (ws' := [((ma 6), eI D 6 c.hd), ((ma 30), eI D 8 (nF c.crf)), ((ma 35), eI D 12 (nF c.bo)), (mo, .inr (10, M1R ma (mZ c c2 tk vc ln rn zs_10 zs_11 zs_20 zs_21 zs_22 zs_25 zs_26 zs_27 zs_29))), ((ma 4), eI D 6 (nF c.kk)), ((ma 5), eI D 6 (nF c.vv)), ((ma 13), eI D 6 cls), ((ma 14), eI D 60 wd), ((ma 15), eI D 60 nu), ((ma 16), eI D 60 fr), ((ma 17), eI D 60 tt9), ((ma 18), eI D 600 sf), ((ma 24), eZ D 100 pf)]) rfl rfl rfl rfl ?_
    refine v_sub (ws' := [(mo, .inr (10, M1R ma (mZ c c2 tk vc ln rn zs_10 zs_11 zs_20 zs_21 zs_22 zs_25 zs_26 zs_27 zs_29))), ((ma 4), eI D 6 (nF c.kk)), ((ma 5), eI D 6 (nF c.vv)), ((ma 6), eI D 6 c.hd), ((ma 30), eI D 8 (nF c.crf)), ((ma 35), eI D 12 (nF c.bo)), ((ma 13), eI D 6 cls), ((ma 14), eI D 60 wd), ((ma 15), eI D 60 nu), ((ma 16), eI D 60 fr), ((ma 17), eI D 60 tt9), ((ma 18), eI D 600 sf), ((ma 24), eZ D 100 pf)]) [3, 4, 5, 0, 1, 2, 6, 7, 8, 9, 10, 11, 12] (by decide) rfl ?_
    exact v_ireturn O T rfl rfl (by decide) (by decide) dX10_of_82 (⟨zs_10, zs_11, zs_20, zs_21, zs_22, zs_25, zs_26, zs_27, zs_29, _, rfl, rfl⟩)
  · skip
    have z1 := b2i_0.mp z1
    exact absurd ((isIx_nI (by omega) (by omega)).mpr hi) z1
set_option maxRecDepth 100000 in
set_option maxHeartbeats 4000000 in
theorem sp_X10_of_7 {D : G} {mo : Nat} {ma : Nat → Nat} {c : CS} {c2 : CS} {tk : Int32} {vc : Nat} {ln : Nat} {rn : Nat} {zs_10 : Int32} {zs_11 : Int32} {zs_20 : Int32} {zs_21 : Int32} {zs_22 : Int32} {zs_25 : Int32} {zs_26 : Int32} {zs_27 : Int32} {zs_29 : Int32} {i : Nat} {wd : Nat → Int32} {nu : Nat → Int32} {fr : Nat → Int32} {tt9 : Nat → Int32} {sf : Nat → Int32} {cls : Nat → Int32} {pf : Nat → Int32} {bg : Nat} {bn : Nat} {v : VS} (hC : cOk c) (hB9 : hB c.held cls bg bn) (hM : MR wd nu fr tt9 sf bg bn v) (hva : vAsk v) (hi : i < c.men) : Sp D mX10_of 30 0 0 [.ref mo, .int (nI i), .int 4] [(mo, .inr (10, M1R ma (mZ c c2 tk vc ln rn zs_10 zs_11 zs_20 zs_21 zs_22 zs_25 zs_26 zs_27 zs_29))), ((ma 4), eI D 6 (nF c.kk)), ((ma 5), eI D 6 (nF c.vv)), ((ma 6), eI D 6 c.hd), ((ma 30), eI D 8 (nF c.crf)), ((ma 35), eI D 12 (nF c.bo)), ((ma 13), eI D 6 cls), ((ma 14), eI D 60 wd), ((ma 15), eI D 60 nu), ((ma 16), eI D 60 fr), ((ma 17), eI D 60 tt9), ((ma 18), eI D 600 sf), ((ma 24), eZ D 100 pf)] (fun r w => ∃ zs2_10 : Int32, ∃ zs2_11 : Int32, ∃ zs2_20 : Int32, ∃ zs2_21 : Int32, ∃ zs2_22 : Int32, ∃ zs2_25 : Int32, ∃ zs2_26 : Int32, ∃ zs2_27 : Int32, ∃ zs2_29 : Int32, ∃ pf2 : Nat → Int32, r = some (.int (nI (ovA c v i 0 (c.heap % 10)))) ∧ w = [(mo, .inr (10, M1R ma (mZ c c2 tk vc ln rn zs2_10 zs2_11 zs2_20 zs2_21 zs2_22 zs2_25 zs2_26 zs2_27 zs2_29))), ((ma 4), eI D 6 (nF c.kk)), ((ma 5), eI D 6 (nF c.vv)), ((ma 6), eI D 6 c.hd), ((ma 30), eI D 8 (nF c.crf)), ((ma 35), eI D 12 (nF c.bo)), ((ma 13), eI D 6 cls), ((ma 14), eI D 60 wd), ((ma 15), eI D 60 nu), ((ma 16), eI D 60 fr), ((ma 17), eI D 60 tt9), ((ma 18), eI D 600 sf), ((ma 24), eZ D 100 pf2)]) := by
  refine Sp.of (by decide) (Nat.le_of_ble_eq_true rfl) (fun X O T => ?_)
  refine v_eq (lv' := [(0, .ref mo), (1, .int (nI i)), (2, .int 4)]) rfl rfl rfl rfl ?_
  have z_m := hC.1
  have z_hp := hC.2.2.2.1
  have z_wk := hC.2.2.2.2.1
  have z_rl := hC.2.2.2.2.2.1
  have z_pg := hC.2.2.2.2.2.2.2.1
  refine v_aload_n O dX10_of_0 0 rfl ?_
  refine v_iload_n O dX10_of_1 1 rfl ?_
  refine v_cV (T := TX10) (ci := 10) (As := [.int (nI i)]) (wr := [((ma 4), eI D 6 (nF c.kk)), ((ma 5), eI D 6 (nF c.vv)), ((ma 6), eI D 6 c.hd), ((ma 30), eI D 8 (nF c.crf)), ((ma 35), eI D 12 (nF c.bo)), ((ma 13), eI D 6 cls), ((ma 14), eI D 60 wd), ((ma 15), eI D 60 nu), ((ma 16), eI D 60 fr), ((ma 17), eI D 60 tt9), ((ma 18), eI D 600 sf), ((ma 24), eZ D 100 pf)]) (st := []) O cf_X10_281 rfl (sp_X10_isMan (mo := mo) (ma := ma) (c := c) (c2 := c2) (tk := tk) (vc := vc) (ln := ln) (rn := rn) (zs_10 := zs_10) (zs_11 := zs_11) (zs_20 := zs_20) (zs_21 := zs_21) (zs_22 := zs_22) (zs_25 := zs_25) (zs_26 := zs_26) (zs_27 := zs_27) (zs_29 := zs_29) (i := (nI i)) (hC.1)) dX10_of_2 rfl rfl 0 rfl [0] [1, 2, 3, 4, 5, 6, 7, 8, 9, 10, 11, 12] (by decide) rfl rfl (by decide) (by decide) (by decide) (Nat.le_of_ble_eq_true rfl) (by decide) (by decide) (fun r_2 w_3 h_1 => ?_)
  obtain ⟨rfl, rfl⟩ := h_1
  refine v_eq (st' := [.int (b2i (isIx (nI i) c.men))]) (ws' := [((ma 4), eI D 6 (nF c.kk)), ((ma 5), eI D 6 (nF c.vv)), ((ma 6), eI D 6 c.hd), ((ma 30), eI D 8 (nF c.crf)), ((ma 35), eI D 12 (nF c.bo)), ((ma 13), eI D 6 cls), ((ma 14), eI D 60 wd), ((ma 15), eI D 60 nu), ((ma 16), eI D 60 fr), ((ma 17), eI D 60 tt9), ((ma 18), eI D 600 sf), ((ma 24), eZ D 100 pf), (mo, .inr (10, M1R ma (mZ c c2 tk vc ln rn zs_10 zs_11 zs_20 zs_21 zs_22 zs_25 zs_26 zs_27 zs_29)))]) rfl rfl rfl rfl ?_
  refine v_if_ne O 12 dX10_of_5 (by decide) (fun z1 => ?_) (fun z1 => ?_)
  · skip
    have z1 := b2i_1.mp z1
    refine v_iload_n O dX10_of_12 2 rfl ?_
    refine v_tsIn (off := 70) O 83 dX10_of_13 (by decide) (by decide) (by decide) (by decide) ?_
    refine v_aload_n O dX10_of_83 0 rfl ?_
    refine v_iload_n O dX10_of_84 1 rfl ?_
    refine v_aload_n O dX10_of_85 0 rfl ?_
    refine gf_X10_19 (v := .int (nI c.wak)) O rfl dX10_of_86 12 rfl rfl ?_
    refine v_aload_n O dX10_of_89 0 rfl ?_
    refine gf_X10_13 (v := .int (nI c.heap)) O rfl dX10_of_90 12 rfl rfl ?_
    refine v_cV (T := TX10) (ci := 10) (As := [.int (nI i), .int (nI c.wak), .int (nI c.heap)]) (wr := [((ma 6), eI D 6 c.hd), ((ma 30), eI D 8 (nF c.crf)), ((ma 35), eI D 12 (nF c.bo))]) (st := []) O cf_X10_265 rfl (sp_X10_overOf (mo := mo) (ma := ma) (c := c) (c2 := c2) (tk := tk) (vc := vc) (ln := ln) (rn := rn) (zs_10 := zs_10) (zs_11 := zs_11) (zs_20 := zs_20) (zs_21 := zs_21) (zs_22 := zs_22) (zs_25 := zs_25) (zs_26 := zs_26) (zs_27 := zs_27) (zs_29 := zs_29) (wd := wd) (nu := nu) (fr := fr) (tt9 := tt9) (sf := sf) (cls := cls) (pf := pf) (bg := bg) (bn := bn) (v := v) (i := i) (s := 0) (h := c.heap) (hB9) (hM) (hC) (hva) (by omega) (by decide) (hC.2.2.2.1)) dX10_of_93 rfl rfl 12 rfl [12, 0, 1, 5, 6, 7, 8, 9, 10, 11] [2, 3, 4] (by decide) rfl rfl (by decide) (by decide) (by decide) (Nat.le_of_ble_eq_true rfl) (by decide) (by decide) (fun r_5 w_6 h_4 => ?_)
    obtain ⟨pf2_7, rfl, rfl⟩ := h_4
    refine v_eq (st' := [.int (nI (ovA c v i 0 (c.heap % 10)))]) (ws' := [((ma 6), eI D 6 c.hd), ((ma 30), eI D 8 (nF c.crf)), ((ma 35), eI D 12 (nF c.bo)), (mo, .inr (10, M1R ma (mZ c c2 tk vc ln rn zs_10 zs_11 zs_20 zs_21 zs_22 zs_25 zs_26 zs_27 zs_29))), ((ma 4), eI D 6 (nF c.kk)), ((ma 5), eI D 6 (nF c.vv)), ((ma 13), eI D 6 cls), ((ma 14), eI D 60 wd), ((ma 15), eI D 60 nu), ((ma 16), eI D 60 fr), ((ma 17), eI D 60 tt9), ((ma 18), eI D 600 sf), ((ma 24), eZ D 100 pf2_7)]) rfl rfl rfl rfl ?_
    refine v_sub (ws' := [(mo, .inr (10, M1R ma (mZ c c2 tk vc ln rn zs_10 zs_11 zs_20 zs_21 zs_22 zs_25 zs_26 zs_27 zs_29))), ((ma 4), eI D 6 (nF c.kk)), ((ma 5), eI D 6 (nF c.vv)), ((ma 6), eI D 6 c.hd), ((ma 30), eI D 8 (nF c.crf)), ((ma 35), eI D 12 (nF c.bo)), ((ma 13), eI D 6 cls), ((ma 14), eI D 60 wd), ((ma 15), eI D 60 nu), ((ma 16), eI D 60 fr), ((ma 17), eI D 60 tt9), ((ma 18), eI D 600 sf), ((ma 24), eZ D 100 pf2_7)]) [3, 4, 5, 0, 1, 2, 6, 7, 8, 9, 10, 11, 12] (by decide) rfl ?_
    exact v_ireturn O T rfl rfl (by decide) (by decide) dX10_of_96 (⟨zs_10, zs_11, zs_20, zs_21, zs_22, zs_25, zs_26, zs_27, zs_29, _, rfl, rfl⟩)
  · skip
    have z1 := b2i_0.mp z1
    exact absurd ((isIx_nI (by omega) (by omega)).mpr hi) z1
set_option maxRecDepth 100000 in
set_option maxHeartbeats 4000000 in
theorem sp_X10_of_8 {D : G} {mo : Nat} {ma : Nat → Nat} {c : CS} {c2 : CS} {tk : Int32} {vc : Nat} {ln : Nat} {rn : Nat} {zs_10 : Int32} {zs_11 : Int32} {zs_20 : Int32} {zs_21 : Int32} {zs_22 : Int32} {zs_25 : Int32} {zs_26 : Int32} {zs_27 : Int32} {zs_29 : Int32} {i : Nat} {wd : Nat → Int32} {nu : Nat → Int32} {fr : Nat → Int32} {tt9 : Nat → Int32} {sf : Nat → Int32} {cls : Nat → Int32} {pf : Nat → Int32} {bg : Nat} {bn : Nat} {v : VS} (hC : cOk c) (hB9 : hB c.held cls bg bn) (hM : MR wd nu fr tt9 sf bg bn v) (hva : vAsk v) (hi : i < c.men) : Sp D mX10_of 30 0 0 [.ref mo, .int (nI i), .int 5] [(mo, .inr (10, M1R ma (mZ c c2 tk vc ln rn zs_10 zs_11 zs_20 zs_21 zs_22 zs_25 zs_26 zs_27 zs_29))), ((ma 4), eI D 6 (nF c.kk)), ((ma 5), eI D 6 (nF c.vv)), ((ma 6), eI D 6 c.hd), ((ma 30), eI D 8 (nF c.crf)), ((ma 35), eI D 12 (nF c.bo)), ((ma 13), eI D 6 cls), ((ma 14), eI D 60 wd), ((ma 15), eI D 60 nu), ((ma 16), eI D 60 fr), ((ma 17), eI D 60 tt9), ((ma 18), eI D 600 sf), ((ma 24), eZ D 100 pf)] (fun r w => ∃ zs2_10 : Int32, ∃ zs2_11 : Int32, ∃ zs2_20 : Int32, ∃ zs2_21 : Int32, ∃ zs2_22 : Int32, ∃ zs2_25 : Int32, ∃ zs2_26 : Int32, ∃ zs2_27 : Int32, ∃ zs2_29 : Int32, ∃ pf2 : Nat → Int32, r = some (.int (nI (bkA c v i 0 (c.heap % 10)))) ∧ w = [(mo, .inr (10, M1R ma (mZ c c2 tk vc ln rn zs2_10 zs2_11 zs2_20 zs2_21 zs2_22 zs2_25 zs2_26 zs2_27 zs2_29))), ((ma 4), eI D 6 (nF c.kk)), ((ma 5), eI D 6 (nF c.vv)), ((ma 6), eI D 6 c.hd), ((ma 30), eI D 8 (nF c.crf)), ((ma 35), eI D 12 (nF c.bo)), ((ma 13), eI D 6 cls), ((ma 14), eI D 60 wd), ((ma 15), eI D 60 nu), ((ma 16), eI D 60 fr), ((ma 17), eI D 60 tt9), ((ma 18), eI D 600 sf), ((ma 24), eZ D 100 pf2)]) := by
  refine Sp.of (by decide) (Nat.le_of_ble_eq_true rfl) (fun X O T => ?_)
  refine v_eq (lv' := [(0, .ref mo), (1, .int (nI i)), (2, .int 5)]) rfl rfl rfl rfl ?_
  have z_m := hC.1
  have z_hp := hC.2.2.2.1
  have z_wk := hC.2.2.2.2.1
  have z_rl := hC.2.2.2.2.2.1
  have z_pg := hC.2.2.2.2.2.2.2.1
  refine v_aload_n O dX10_of_0 0 rfl ?_
  refine v_iload_n O dX10_of_1 1 rfl ?_
  refine v_cV (T := TX10) (ci := 10) (As := [.int (nI i)]) (wr := [((ma 4), eI D 6 (nF c.kk)), ((ma 5), eI D 6 (nF c.vv)), ((ma 6), eI D 6 c.hd), ((ma 30), eI D 8 (nF c.crf)), ((ma 35), eI D 12 (nF c.bo)), ((ma 13), eI D 6 cls), ((ma 14), eI D 60 wd), ((ma 15), eI D 60 nu), ((ma 16), eI D 60 fr), ((ma 17), eI D 60 tt9), ((ma 18), eI D 600 sf), ((ma 24), eZ D 100 pf)]) (st := []) O cf_X10_281 rfl (sp_X10_isMan (mo := mo) (ma := ma) (c := c) (c2 := c2) (tk := tk) (vc := vc) (ln := ln) (rn := rn) (zs_10 := zs_10) (zs_11 := zs_11) (zs_20 := zs_20) (zs_21 := zs_21) (zs_22 := zs_22) (zs_25 := zs_25) (zs_26 := zs_26) (zs_27 := zs_27) (zs_29 := zs_29) (i := (nI i)) (hC.1)) dX10_of_2 rfl rfl 0 rfl [0] [1, 2, 3, 4, 5, 6, 7, 8, 9, 10, 11, 12] (by decide) rfl rfl (by decide) (by decide) (by decide) (Nat.le_of_ble_eq_true rfl) (by decide) (by decide) (fun r_2 w_3 h_1 => ?_)
  obtain ⟨rfl, rfl⟩ := h_1
  refine v_eq (st' := [.int (b2i (isIx (nI i) c.men))]) (ws' := [((ma 4), eI D 6 (nF c.kk)), ((ma 5), eI D 6 (nF c.vv)), ((ma 6), eI D 6 c.hd), ((ma 30), eI D 8 (nF c.crf)), ((ma 35), eI D 12 (nF c.bo)), ((ma 13), eI D 6 cls), ((ma 14), eI D 60 wd), ((ma 15), eI D 60 nu), ((ma 16), eI D 60 fr), ((ma 17), eI D 60 tt9), ((ma 18), eI D 600 sf), ((ma 24), eZ D 100 pf), (mo, .inr (10, M1R ma (mZ c c2 tk vc ln rn zs_10 zs_11 zs_20 zs_21 zs_22 zs_25 zs_26 zs_27 zs_29)))]) rfl rfl rfl rfl ?_
  refine v_if_ne O 12 dX10_of_5 (by decide) (fun z1 => ?_) (fun z1 => ?_)
  · skip
    have z1 := b2i_1.mp z1
    refine v_iload_n O dX10_of_12 2 rfl ?_
    refine v_tsIn (off := 84) O 97 dX10_of_13 (by decide) (by decide) (by decide) (by decide) ?_
    refine v_aload_n O dX10_of_97 0 rfl ?_
    refine v_iconst (v := 2) O dX10_of_98 (by decide) ?_
    refine v_iload_n O dX10_of_99 1 rfl ?_
    refine v_aload_n O dX10_of_100 0 rfl ?_
    refine gf_X10_19 (v := .int (nI c.wak)) O rfl dX10_of_101 12 rfl rfl ?_
    refine v_aload_n O dX10_of_104 0 rfl ?_
    refine gf_X10_13 (v := .int (nI c.heap)) O rfl dX10_of_105 12 rfl rfl ?_
    refine v_cV (T := TX10) (ci := 10) (As := [.int 2, .int (nI i), .int (nI c.wak), .int (nI c.heap)]) (wr := [((ma 6), eI D 6 c.hd), ((ma 30), eI D 8 (nF c.crf)), ((ma 35), eI D 12 (nF c.bo))]) (st := []) O cf_X10_259 rfl (sp_X10_backOf (mo := mo) (ma := ma) (c := c) (c2 := c2) (tk := tk) (vc := vc) (ln := ln) (rn := rn) (zs_10 := zs_10) (zs_11 := zs_11) (zs_20 := zs_20) (zs_21 := zs_21) (zs_22 := zs_22) (zs_25 := zs_25) (zs_26 := zs_26) (zs_27 := zs_27) (zs_29 := zs_29) (wd := wd) (nu := nu) (fr := fr) (tt9 := tt9) (sf := sf) (cls := cls) (pf := pf) (bg := bg) (bn := bn) (v := v) (i := i) (s := 0) (h := c.heap) (hB9) (hM) (hC) (hva) (by omega) (by decide) (hC.2.2.2.1)) dX10_of_108 rfl rfl 12 rfl [12, 0, 1, 5, 6, 7, 8, 9, 10, 11] [2, 3, 4] (by decide) rfl rfl (by decide) (by decide) (by decide) (Nat.le_of_ble_eq_true rfl) (by decide) (by decide) (fun r_5 w_6 h_4 => ?_)
    obtain ⟨pf2_7, rfl, rfl⟩ := h_4
    refine v_eq (st' := [.int (nI (bkA c v i 0 (c.heap % 10)))]) (ws' := [((ma 6), eI D 6 c.hd), ((ma 30), eI D 8 (nF c.crf)), ((ma 35), eI D 12 (nF c.bo)), (mo, .inr (10, M1R ma (mZ c c2 tk vc ln rn zs_10 zs_11 zs_20 zs_21 zs_22 zs_25 zs_26 zs_27 zs_29))), ((ma 4), eI D 6 (nF c.kk)), ((ma 5), eI D 6 (nF c.vv)), ((ma 13), eI D 6 cls), ((ma 14), eI D 60 wd), ((ma 15), eI D 60 nu), ((ma 16), eI D 60 fr), ((ma 17), eI D 60 tt9), ((ma 18), eI D 600 sf), ((ma 24), eZ D 100 pf2_7)]) rfl rfl rfl rfl ?_
    refine v_sub (ws' := [(mo, .inr (10, M1R ma (mZ c c2 tk vc ln rn zs_10 zs_11 zs_20 zs_21 zs_22 zs_25 zs_26 zs_27 zs_29))), ((ma 4), eI D 6 (nF c.kk)), ((ma 5), eI D 6 (nF c.vv)), ((ma 6), eI D 6 c.hd), ((ma 30), eI D 8 (nF c.crf)), ((ma 35), eI D 12 (nF c.bo)), ((ma 13), eI D 6 cls), ((ma 14), eI D 60 wd), ((ma 15), eI D 60 nu), ((ma 16), eI D 60 fr), ((ma 17), eI D 60 tt9), ((ma 18), eI D 600 sf), ((ma 24), eZ D 100 pf2_7)]) [3, 4, 5, 0, 1, 2, 6, 7, 8, 9, 10, 11, 12] (by decide) rfl ?_
    exact v_ireturn O T rfl rfl (by decide) (by decide) dX10_of_111 (⟨zs_10, zs_11, zs_20, zs_21, zs_22, zs_25, zs_26, zs_27, zs_29, _, rfl, rfl⟩)
  · skip
    have z1 := b2i_0.mp z1
    exact absurd ((isIx_nI (by omega) (by omega)).mpr hi) z1
theorem wak_sh {c : CS} {v : VS} {i s h : Nat} : ¬ wakA c v i s h = none ↔ ¬ shareN (c.kk i) (ppA c v i) (ovA c v i s) (bkA c v i s) h = none := ⟨fun q z => q (wakeN_n z), wakeN_s⟩
set_option maxRecDepth 100000 in
set_option maxHeartbeats 4000000 in
theorem sp_X10_of_9 {D : G} {mo : Nat} {ma : Nat → Nat} {c : CS} {c2 : CS} {tk : Int32} {vc : Nat} {ln : Nat} {rn : Nat} {zs_10 : Int32} {zs_11 : Int32} {zs_20 : Int32} {zs_21 : Int32} {zs_22 : Int32} {zs_25 : Int32} {zs_26 : Int32} {zs_27 : Int32} {zs_29 : Int32} {i : Nat} {wd : Nat → Int32} {nu : Nat → Int32} {fr : Nat → Int32} {tt9 : Nat → Int32} {sf : Nat → Int32} {cls : Nat → Int32} {pf : Nat → Int32} {bg : Nat} {bn : Nat} {v : VS} (hC : cOk c) (hB9 : hB c.held cls bg bn) (hM : MR wd nu fr tt9 sf bg bn v) (hva : vAsk v) (hi : i < c.men) : Sp D mX10_of 30 0 0 [.ref mo, .int (nI i), .int 6] [(mo, .inr (10, M1R ma (mZ c c2 tk vc ln rn zs_10 zs_11 zs_20 zs_21 zs_22 zs_25 zs_26 zs_27 zs_29))), ((ma 4), eI D 6 (nF c.kk)), ((ma 5), eI D 6 (nF c.vv)), ((ma 6), eI D 6 c.hd), ((ma 30), eI D 8 (nF c.crf)), ((ma 35), eI D 12 (nF c.bo)), ((ma 13), eI D 6 cls), ((ma 14), eI D 60 wd), ((ma 15), eI D 60 nu), ((ma 16), eI D 60 fr), ((ma 17), eI D 60 tt9), ((ma 18), eI D 600 sf), ((ma 24), eZ D 100 pf)] (fun r w => ∃ zs2_10 : Int32, ∃ zs2_11 : Int32, ∃ zs2_20 : Int32, ∃ zs2_21 : Int32, ∃ zs2_22 : Int32, ∃ zs2_25 : Int32, ∃ zs2_26 : Int32, ∃ zs2_27 : Int32, ∃ zs2_29 : Int32, ∃ pf2 : Nat → Int32, r = some (.int (b2i (¬ wakA c v i 0 c.heap = none))) ∧ w = [(mo, .inr (10, M1R ma (mZ c c2 tk vc ln rn zs2_10 zs2_11 zs2_20 zs2_21 zs2_22 zs2_25 zs2_26 zs2_27 zs2_29))), ((ma 4), eI D 6 (nF c.kk)), ((ma 5), eI D 6 (nF c.vv)), ((ma 6), eI D 6 c.hd), ((ma 30), eI D 8 (nF c.crf)), ((ma 35), eI D 12 (nF c.bo)), ((ma 13), eI D 6 cls), ((ma 14), eI D 60 wd), ((ma 15), eI D 60 nu), ((ma 16), eI D 60 fr), ((ma 17), eI D 60 tt9), ((ma 18), eI D 600 sf), ((ma 24), eZ D 100 pf2)]) := by
  refine Sp.of (by decide) (Nat.le_of_ble_eq_true rfl) (fun X O T => ?_)
  refine v_eq (lv' := [(0, .ref mo), (1, .int (nI i)), (2, .int 6)]) rfl rfl rfl rfl ?_
  have z_m := hC.1
  have z_hp := hC.2.2.2.1
  have z_wk := hC.2.2.2.2.1
  have z_rl := hC.2.2.2.2.2.1
  have z_pg := hC.2.2.2.2.2.2.2.1
  refine v_aload_n O dX10_of_0 0 rfl ?_
  refine v_iload_n O dX10_of_1 1 rfl ?_
  refine v_cV (T := TX10) (ci := 10) (As := [.int (nI i)]) (wr := [((ma 4), eI D 6 (nF c.kk)), ((ma 5), eI D 6 (nF c.vv)), ((ma 6), eI D 6 c.hd), ((ma 30), eI D 8 (nF c.crf)), ((ma 35), eI D 12 (nF c.bo)), ((ma 13), eI D 6 cls), ((ma 14), eI D 60 wd), ((ma 15), eI D 60 nu), ((ma 16), eI D 60 fr), ((ma 17), eI D 60 tt9), ((ma 18), eI D 600 sf), ((ma 24), eZ D 100 pf)]) (st := []) O cf_X10_281 rfl (sp_X10_isMan (mo := mo) (ma := ma) (c := c) (c2 := c2) (tk := tk) (vc := vc) (ln := ln) (rn := rn) (zs_10 := zs_10) (zs_11 := zs_11) (zs_20 := zs_20) (zs_21 := zs_21) (zs_22 := zs_22) (zs_25 := zs_25) (zs_26 := zs_26) (zs_27 := zs_27) (zs_29 := zs_29) (i := (nI i)) (hC.1)) dX10_of_2 rfl rfl 0 rfl [0] [1, 2, 3, 4, 5, 6, 7, 8, 9, 10, 11, 12] (by decide) rfl rfl (by decide) (by decide) (by decide) (Nat.le_of_ble_eq_true rfl) (by decide) (by decide) (fun r_2 w_3 h_1 => ?_)
  obtain ⟨rfl, rfl⟩ := h_1
  refine v_eq (st' := [.int (b2i (isIx (nI i) c.men))]) (ws' := [((ma 4), eI D 6 (nF c.kk)), ((ma 5), eI D 6 (nF c.vv)), ((ma 6), eI D 6 c.hd), ((ma 30), eI D 8 (nF c.crf)), ((ma 35), eI D 12 (nF c.bo)), ((ma 13), eI D 6 cls), ((ma 14), eI D 60 wd), ((ma 15), eI D 60 nu), ((ma 16), eI D 60 fr), ((ma 17), eI D 60 tt9), ((ma 18), eI D 600 sf), ((ma 24), eZ D 100 pf), (mo, .inr (10, M1R ma (mZ c c2 tk vc ln rn zs_10 zs_11 zs_20 zs_21 zs_22 zs_25 zs_26 zs_27 zs_29)))]) rfl rfl rfl rfl ?_
  refine v_if_ne O 12 dX10_of_5 (by decide) (fun z1 => ?_) (fun z1 => ?_)
  · skip
    have z1 := b2i_1.mp z1
    refine v_iload_n O dX10_of_12 2 rfl ?_
    refine v_tsIn (off := 99) O 112 dX10_of_13 (by decide) (by decide) (by decide) (by decide) ?_
    refine v_aload_n O dX10_of_112 0 rfl ?_
    refine v_iload_n O dX10_of_113 1 rfl ?_
    refine v_aload_n O dX10_of_114 0 rfl ?_
    refine gf_X10_19 (v := .int (nI c.wak)) O rfl dX10_of_115 12 rfl rfl ?_
    refine v_aload_n O dX10_of_118 0 rfl ?_
    refine gf_X10_13 (v := .int (nI c.heap)) O rfl dX10_of_119 12 rfl rfl ?_
    refine v_cV (T := TX10) (ci := 10) (As := [.int (nI i), .int (nI c.wak), .int (nI c.heap)]) (wr := [((ma 6), eI D 6 c.hd), ((ma 30), eI D 8 (nF c.crf)), ((ma 35), eI D 12 (nF c.bo))]) (st := []) O cf_X10_272 rfl (sp_X10_comesOut (mo := mo) (ma := ma) (c := c) (c2 := c2) (tk := tk) (vc := vc) (ln := ln) (rn := rn) (zs_10 := zs_10) (zs_11 := zs_11) (zs_20 := zs_20) (zs_21 := zs_21) (zs_22 := zs_22) (zs_25 := zs_25) (zs_26 := zs_26) (zs_27 := zs_27) (zs_29 := zs_29) (wd := wd) (nu := nu) (fr := fr) (tt9 := tt9) (sf := sf) (cls := cls) (pf := pf) (bg := bg) (bn := bn) (v := v) (i := i) (s := 0) (h := c.heap) (hB9) (hM) (hC) (hva) (by omega) (by decide) (hC.2.2.2.1)) dX10_of_122 rfl rfl 12 rfl [12, 0, 1, 5, 6, 7, 8, 9, 10, 11] [2, 3, 4] (by decide) rfl rfl (by decide) (by decide) (by decide) (Nat.le_of_ble_eq_true rfl) (by decide) (by decide) (fun r_5 w_6 h_4 => ?_)
    obtain ⟨pf2_7, rfl, rfl⟩ := h_4
    refine v_eq (st' := [.int (b2i (¬ shareN (c.kk i) (ppA c v i) (ovA c v i 0) (bkA c v i 0) c.heap = none))]) (ws' := [((ma 6), eI D 6 c.hd), ((ma 30), eI D 8 (nF c.crf)), ((ma 35), eI D 12 (nF c.bo)), (mo, .inr (10, M1R ma (mZ c c2 tk vc ln rn zs_10 zs_11 zs_20 zs_21 zs_22 zs_25 zs_26 zs_27 zs_29))), ((ma 4), eI D 6 (nF c.kk)), ((ma 5), eI D 6 (nF c.vv)), ((ma 13), eI D 6 cls), ((ma 14), eI D 60 wd), ((ma 15), eI D 60 nu), ((ma 16), eI D 60 fr), ((ma 17), eI D 60 tt9), ((ma 18), eI D 600 sf), ((ma 24), eZ D 100 pf2_7)]) rfl rfl rfl rfl ?_
    refine v_if_eq O 132 dX10_of_125 (by decide) (fun z2 => ?_) (fun z2 => ?_)
    · skip
      have z2 := b2i_0.mp z2
      refine v_iconst (v := 0) O dX10_of_132 (by decide) ?_
      refine v_sub (ws' := [(mo, .inr (10, M1R ma (mZ c c2 tk vc ln rn zs_10 zs_11 zs_20 zs_21 zs_22 zs_25 zs_26 zs_27 zs_29))), ((ma 4), eI D 6 (nF c.kk)), ((ma 5), eI D 6 (nF c.vv)), ((ma 6), eI D 6 c.hd), ((ma 30), eI D 8 (nF c.crf)), ((ma 35), eI D 12 (nF c.bo)), ((ma 13), eI D 6 cls), ((ma 14), eI D 60 wd), ((ma 15), eI D 60 nu), ((ma 16), eI D 60 fr), ((ma 17), eI D 60 tt9), ((ma 18), eI D 600 sf), ((ma 24), eZ D 100 pf2_7)]) [3, 4, 5, 0, 1, 2, 6, 7, 8, 9, 10, 11, 12] (by decide) rfl ?_
      exact v_ireturn O T rfl rfl (by decide) (by decide) dX10_of_133 (⟨zs_10, zs_11, zs_20, zs_21, zs_22, zs_25, zs_26, zs_27, zs_29, _, by rw [b2i_f (fun q => z2 (wak_sh.mp q))], rfl⟩)
    · skip
      have z2 := b2i_1.mp z2
      refine v_iconst (v := 1) O dX10_of_128 (by decide) ?_
      refine v_goto O 133 dX10_of_129 (by decide) ?_
      refine v_sub (ws' := [(mo, .inr (10, M1R ma (mZ c c2 tk vc ln rn zs_10 zs_11 zs_20 zs_21 zs_22 zs_25 zs_26 zs_27 zs_29))), ((ma 4), eI D 6 (nF c.kk)), ((ma 5), eI D 6 (nF c.vv)), ((ma 6), eI D 6 c.hd), ((ma 30), eI D 8 (nF c.crf)), ((ma 35), eI D 12 (nF c.bo)), ((ma 13), eI D 6 cls), ((ma 14), eI D 60 wd), ((ma 15), eI D 60 nu), ((ma 16), eI D 60 fr), ((ma 17), eI D 60 tt9), ((ma 18), eI D 600 sf), ((ma 24), eZ D 100 pf2_7)]) [3, 4, 5, 0, 1, 2, 6, 7, 8, 9, 10, 11, 12] (by decide) rfl ?_
      exact v_ireturn O T rfl rfl (by decide) (by decide) dX10_of_133 (⟨zs_10, zs_11, zs_20, zs_21, zs_22, zs_25, zs_26, zs_27, zs_29, _, by rw [b2i_t (wak_sh.mpr z2)], rfl⟩)
  · skip
    have z1 := b2i_0.mp z1
    exact absurd ((isIx_nI (by omega) (by omega)).mpr hi) z1
set_option maxRecDepth 100000 in
set_option maxHeartbeats 4000000 in
theorem sp_X10_told_2 {D : G} {mo : Nat} {ma : Nat → Nat} {c : CS} {c2 : CS} {tk : Int32} {vc : Nat} {ln : Nat} {rn : Nat} {zs_10 : Int32} {zs_11 : Int32} {zs_20 : Int32} {zs_21 : Int32} {zs_22 : Int32} {zs_25 : Int32} {zs_26 : Int32} {zs_27 : Int32} {zs_29 : Int32} {wd : Nat → Int32} {nu : Nat → Int32} {fr : Nat → Int32} {tt9 : Nat → Int32} {sf : Nat → Int32} {cls : Nat → Int32} {pf : Nat → Int32} {bg : Nat} {bn : Nat} {v : VS} (hC : cOk c) (hB9 : hB c.held cls bg bn) (hM : MR wd nu fr tt9 sf bg bn v) (hva : vAsk v) : Sp D mX10_told 30 0 0 [.ref mo, .int 0] [(mo, .inr (10, M1R ma (mZ c c2 tk vc ln rn zs_10 zs_11 zs_20 zs_21 zs_22 zs_25 zs_26 zs_27 zs_29))), ((ma 4), eI D 6 (nF c.kk)), ((ma 5), eI D 6 (nF c.vv)), ((ma 6), eI D 6 c.hd), ((ma 30), eI D 8 (nF c.crf)), ((ma 35), eI D 12 (nF c.bo)), ((ma 13), eI D 6 cls), ((ma 14), eI D 60 wd), ((ma 15), eI D 60 nu), ((ma 16), eI D 60 fr), ((ma 17), eI D 60 tt9), ((ma 18), eI D 600 sf), ((ma 24), eZ D 100 pf)] (fun r w => ∃ zs2_10 : Int32, ∃ zs2_11 : Int32, ∃ zs2_20 : Int32, ∃ zs2_21 : Int32, ∃ zs2_22 : Int32, ∃ zs2_25 : Int32, ∃ zs2_26 : Int32, ∃ zs2_27 : Int32, ∃ zs2_29 : Int32, ∃ pf2 : Nat → Int32, r = some (.int (nI v.sh)) ∧ w = [(mo, .inr (10, M1R ma (mZ c c2 tk vc ln rn zs2_10 zs2_11 zs2_20 zs2_21 zs2_22 zs2_25 zs2_26 zs2_27 zs2_29))), ((ma 4), eI D 6 (nF c.kk)), ((ma 5), eI D 6 (nF c.vv)), ((ma 6), eI D 6 c.hd), ((ma 30), eI D 8 (nF c.crf)), ((ma 35), eI D 12 (nF c.bo)), ((ma 13), eI D 6 cls), ((ma 14), eI D 60 wd), ((ma 15), eI D 60 nu), ((ma 16), eI D 60 fr), ((ma 17), eI D 60 tt9), ((ma 18), eI D 600 sf), ((ma 24), eZ D 100 pf2)]) := by
  refine Sp.of (by decide) (Nat.le_of_ble_eq_true rfl) (fun X O T => ?_)
  refine v_eq (lv' := [(0, .ref mo), (1, .int 0)]) rfl rfl rfl rfl ?_
  have z_m := hC.1
  have z_hp := hC.2.2.2.1
  have z_wk := hC.2.2.2.2.1
  have z_rl := hC.2.2.2.2.2.1
  have z_pg := hC.2.2.2.2.2.2.2.1
  refine v_iload_n O dX10_told_0 1 rfl ?_
  refine v_tsIn (off := 35) O 36 dX10_told_1 (by decide) (by decide) (by decide) (by decide) ?_
  refine v_aload_n O dX10_told_36 0 rfl ?_
  refine v_cV (T := TX10) (ci := 10) (As := []) (wr := [((ma 6), eI D 6 c.hd), ((ma 30), eI D 8 (nF c.crf)), ((ma 35), eI D 12 (nF c.bo))]) (st := []) O cf_X10_262 rfl (sp_X10_shares (mo := mo) (ma := ma) (c := c) (c2 := c2) (tk := tk) (vc := vc) (ln := ln) (rn := rn) (zs_10 := zs_10) (zs_11 := zs_11) (zs_20 := zs_20) (zs_21 := zs_21) (zs_22 := zs_22) (zs_25 := zs_25) (zs_26 := zs_26) (zs_27 := zs_27) (zs_29 := zs_29) (wd := wd) (nu := nu) (fr := fr) (tt9 := tt9) (sf := sf) (cls := cls) (pf := pf) (bg := bg) (bn := bn) (v := v) (hB9) (hM)) dX10_told_37 rfl rfl 0 rfl [0, 1, 2, 6, 7, 8, 9, 10, 11, 12] [3, 4, 5] (by decide) rfl rfl (by decide) (by decide) (by decide) (Nat.le_of_ble_eq_true rfl) (by decide) (by decide) (fun r_2 w_3 h_1 => ?_)
  obtain ⟨rfl, rfl⟩ := h_1
  refine v_eq (st' := [.int (nI v.sh)]) (ws' := [((ma 6), eI D 6 c.hd), ((ma 30), eI D 8 (nF c.crf)), ((ma 35), eI D 12 (nF c.bo)), (mo, .inr (10, M1R ma (mZ c c2 tk vc ln rn zs_10 zs_11 zs_20 zs_21 zs_22 zs_25 zs_26 zs_27 zs_29))), ((ma 4), eI D 6 (nF c.kk)), ((ma 5), eI D 6 (nF c.vv)), ((ma 13), eI D 6 cls), ((ma 14), eI D 60 wd), ((ma 15), eI D 60 nu), ((ma 16), eI D 60 fr), ((ma 17), eI D 60 tt9), ((ma 18), eI D 600 sf), ((ma 24), eZ D 100 pf)]) rfl rfl rfl rfl ?_
  refine v_sub (ws' := [(mo, .inr (10, M1R ma (mZ c c2 tk vc ln rn zs_10 zs_11 zs_20 zs_21 zs_22 zs_25 zs_26 zs_27 zs_29))), ((ma 4), eI D 6 (nF c.kk)), ((ma 5), eI D 6 (nF c.vv)), ((ma 6), eI D 6 c.hd), ((ma 30), eI D 8 (nF c.crf)), ((ma 35), eI D 12 (nF c.bo)), ((ma 13), eI D 6 cls), ((ma 14), eI D 60 wd), ((ma 15), eI D 60 nu), ((ma 16), eI D 60 fr), ((ma 17), eI D 60 tt9), ((ma 18), eI D 600 sf), ((ma 24), eZ D 100 pf)]) [3, 4, 5, 0, 1, 2, 6, 7, 8, 9, 10, 11, 12] (by decide) rfl ?_
  exact v_ireturn O T rfl rfl (by decide) (by decide) dX10_told_40 (⟨zs_10, zs_11, zs_20, zs_21, zs_22, zs_25, zs_26, zs_27, zs_29, _, rfl, rfl⟩)
set_option maxRecDepth 100000 in
set_option maxHeartbeats 4000000 in
theorem sp_X10_told_3 {D : G} {mo : Nat} {ma : Nat → Nat} {c : CS} {c2 : CS} {tk : Int32} {vc : Nat} {ln : Nat} {rn : Nat} {zs_10 : Int32} {zs_11 : Int32} {zs_20 : Int32} {zs_21 : Int32} {zs_22 : Int32} {zs_25 : Int32} {zs_26 : Int32} {zs_27 : Int32} {zs_29 : Int32} {wd : Nat → Int32} {nu : Nat → Int32} {fr : Nat → Int32} {tt9 : Nat → Int32} {sf : Nat → Int32} {cls : Nat → Int32} {pf : Nat → Int32} {bg : Nat} {bn : Nat} {v : VS} (hC : cOk c) (hB9 : hB c.held cls bg bn) (hM : MR wd nu fr tt9 sf bg bn v) (hva : vAsk v) : Sp D mX10_told 30 0 0 [.ref mo, .int 1] [(mo, .inr (10, M1R ma (mZ c c2 tk vc ln rn zs_10 zs_11 zs_20 zs_21 zs_22 zs_25 zs_26 zs_27 zs_29))), ((ma 4), eI D 6 (nF c.kk)), ((ma 5), eI D 6 (nF c.vv)), ((ma 6), eI D 6 c.hd), ((ma 30), eI D 8 (nF c.crf)), ((ma 35), eI D 12 (nF c.bo)), ((ma 13), eI D 6 cls), ((ma 14), eI D 60 wd), ((ma 15), eI D 60 nu), ((ma 16), eI D 60 fr), ((ma 17), eI D 60 tt9), ((ma 18), eI D 600 sf), ((ma 24), eZ D 100 pf)] (fun r w => ∃ zs2_10 : Int32, ∃ zs2_11 : Int32, ∃ zs2_20 : Int32, ∃ zs2_21 : Int32, ∃ zs2_22 : Int32, ∃ zs2_25 : Int32, ∃ zs2_26 : Int32, ∃ zs2_27 : Int32, ∃ zs2_29 : Int32, ∃ pf2 : Nat → Int32, r = some (.int (nI v.mo)) ∧ w = [(mo, .inr (10, M1R ma (mZ c c2 tk vc ln rn zs2_10 zs2_11 zs2_20 zs2_21 zs2_22 zs2_25 zs2_26 zs2_27 zs2_29))), ((ma 4), eI D 6 (nF c.kk)), ((ma 5), eI D 6 (nF c.vv)), ((ma 6), eI D 6 c.hd), ((ma 30), eI D 8 (nF c.crf)), ((ma 35), eI D 12 (nF c.bo)), ((ma 13), eI D 6 cls), ((ma 14), eI D 60 wd), ((ma 15), eI D 60 nu), ((ma 16), eI D 60 fr), ((ma 17), eI D 60 tt9), ((ma 18), eI D 600 sf), ((ma 24), eZ D 100 pf2)]) := by
  refine Sp.of (by decide) (Nat.le_of_ble_eq_true rfl) (fun X O T => ?_)
  refine v_eq (lv' := [(0, .ref mo), (1, .int 1)]) rfl rfl rfl rfl ?_
  have z_m := hC.1
  have z_hp := hC.2.2.2.1
  have z_wk := hC.2.2.2.2.1
  have z_rl := hC.2.2.2.2.2.1
  have z_pg := hC.2.2.2.2.2.2.2.1
  refine v_iload_n O dX10_told_0 1 rfl ?_
  refine v_tsIn (off := 40) O 41 dX10_told_1 (by decide) (by decide) (by decide) (by decide) ?_
  refine v_aload_n O dX10_told_41 0 rfl ?_
  refine v_iconst (v := 3) O dX10_told_42 (by decide) ?_
  refine v_iconst (v := 1) O dX10_told_43 (by decide) ?_
  refine v_cV (T := TX10) (ci := 10) (As := [.int 3, .int 1]) (wr := [((ma 6), eI D 6 c.hd), ((ma 30), eI D 8 (nF c.crf)), ((ma 35), eI D 12 (nF c.bo))]) (st := []) O cf_X10_244 rfl (sp_X10_lastOf (mo := mo) (ma := ma) (c := c) (c2 := c2) (tk := tk) (vc := vc) (ln := ln) (rn := rn) (zs_10 := zs_10) (zs_11 := zs_11) (zs_20 := zs_20) (zs_21 := zs_21) (zs_22 := zs_22) (zs_25 := zs_25) (zs_26 := zs_26) (zs_27 := zs_27) (zs_29 := zs_29) (wd := wd) (nu := nu) (fr := fr) (tt9 := tt9) (sf := sf) (cls := cls) (pf := pf) (bg := bg) (bn := bn) (v := v) (x := 3) (y := 1) (hB9) (hM)) dX10_told_44 rfl rfl 0 rfl [0, 1, 2, 6, 7, 8, 9, 10, 11, 12] [3, 4, 5] (by decide) rfl rfl (by decide) (by decide) (by decide) (Nat.le_of_ble_eq_true rfl) (by decide) (by decide) (fun r_2 w_3 h_1 => ?_)
  obtain ⟨rfl, rfl⟩ := h_1
  refine v_eq (st' := [.int (lastF wd nu 3 bg 1 bn)]) (ws' := [((ma 6), eI D 6 c.hd), ((ma 30), eI D 8 (nF c.crf)), ((ma 35), eI D 12 (nF c.bo)), (mo, .inr (10, M1R ma (mZ c c2 tk vc ln rn zs_10 zs_11 zs_20 zs_21 zs_22 zs_25 zs_26 zs_27 zs_29))), ((ma 4), eI D 6 (nF c.kk)), ((ma 5), eI D 6 (nF c.vv)), ((ma 13), eI D 6 cls), ((ma 14), eI D 60 wd), ((ma 15), eI D 60 nu), ((ma 16), eI D 60 fr), ((ma 17), eI D 60 tt9), ((ma 18), eI D 600 sf), ((ma 24), eZ D 100 pf)]) rfl rfl rfl rfl ?_
  refine v_top (y := nI v.mo) (hM.2.2.2.1) ?_
  refine v_sub (ws' := [(mo, .inr (10, M1R ma (mZ c c2 tk vc ln rn zs_10 zs_11 zs_20 zs_21 zs_22 zs_25 zs_26 zs_27 zs_29))), ((ma 4), eI D 6 (nF c.kk)), ((ma 5), eI D 6 (nF c.vv)), ((ma 6), eI D 6 c.hd), ((ma 30), eI D 8 (nF c.crf)), ((ma 35), eI D 12 (nF c.bo)), ((ma 13), eI D 6 cls), ((ma 14), eI D 60 wd), ((ma 15), eI D 60 nu), ((ma 16), eI D 60 fr), ((ma 17), eI D 60 tt9), ((ma 18), eI D 600 sf), ((ma 24), eZ D 100 pf)]) [3, 4, 5, 0, 1, 2, 6, 7, 8, 9, 10, 11, 12] (by decide) rfl ?_
  exact v_ireturn O T rfl rfl (by decide) (by decide) dX10_told_47 (⟨zs_10, zs_11, zs_20, zs_21, zs_22, zs_25, zs_26, zs_27, zs_29, _, rfl, rfl⟩)
set_option maxRecDepth 100000 in
set_option maxHeartbeats 4000000 in
theorem sp_X10_wake_3 {D : G} {mo : Nat} {ma : Nat → Nat} {c : CS} {c2 : CS} {tk : Int32} {vc : Nat} {ln : Nat} {rn : Nat} {zs_10 : Int32} {zs_11 : Int32} {zs_20 : Int32} {zs_21 : Int32} {zs_22 : Int32} {zs_25 : Int32} {zs_26 : Int32} {zs_27 : Int32} {zs_29 : Int32} {i : Nat} {wd : Nat → Int32} {nu : Nat → Int32} {fr : Nat → Int32} {tt9 : Nat → Int32} {sf : Nat → Int32} {cls : Nat → Int32} {pf : Nat → Int32} {bg : Nat} {bn : Nat} {v : VS} (hC : cOk c) (hB9 : hB c.held cls bg bn) (hM : MR wd nu fr tt9 sf bg bn v) (hva : vAsk v) (hi : i < c.men) (hw : c.wak < 9999) (hn : wakA c v i 0 c.heap = none) : Sp D mX10_wake 30 0 0 [.ref mo, .int (nI i)] [(mo, .inr (10, M1R ma (mZ c c2 tk vc ln rn zs_10 zs_11 zs_20 zs_21 zs_22 zs_25 zs_26 zs_27 zs_29))), ((ma 4), eI D 6 (nF c.kk)), ((ma 5), eI D 6 (nF c.vv)), ((ma 6), eI D 6 c.hd), ((ma 30), eI D 8 (nF c.crf)), ((ma 35), eI D 12 (nF c.bo)), ((ma 13), eI D 6 cls), ((ma 14), eI D 60 wd), ((ma 15), eI D 60 nu), ((ma 16), eI D 60 fr), ((ma 17), eI D 60 tt9), ((ma 18), eI D 600 sf), ((ma 24), eZ D 100 pf)] (fun r w => ∃ zs2_10 : Int32, ∃ zs2_11 : Int32, ∃ zs2_20 : Int32, ∃ zs2_21 : Int32, ∃ zs2_22 : Int32, ∃ zs2_25 : Int32, ∃ zs2_26 : Int32, ∃ zs2_27 : Int32, ∃ zs2_29 : Int32, ∃ pf2 : Nat → Int32, r = some (.int (-3)) ∧ w = [(mo, .inr (10, M1R ma (mZ c c2 tk vc ln rn zs2_10 zs2_11 zs2_20 zs2_21 zs2_22 zs2_25 zs2_26 zs2_27 zs2_29))), ((ma 4), eI D 6 (nF c.kk)), ((ma 5), eI D 6 (nF c.vv)), ((ma 6), eI D 6 c.hd), ((ma 30), eI D 8 (nF c.crf)), ((ma 35), eI D 12 (nF c.bo)), ((ma 13), eI D 6 cls), ((ma 14), eI D 60 wd), ((ma 15), eI D 60 nu), ((ma 16), eI D 60 fr), ((ma 17), eI D 60 tt9), ((ma 18), eI D 600 sf), ((ma 24), eZ D 100 pf2)]) := by
  refine Sp.of (by decide) (Nat.le_of_ble_eq_true rfl) (fun X O T => ?_)
  refine v_eq (lv' := [(0, .ref mo), (1, .int (nI i))]) rfl rfl rfl rfl ?_
  have z_m := hC.1
  have z_hp := hC.2.2.2.1
  have z_wk := hC.2.2.2.2.1
  have z_rl := hC.2.2.2.2.2.1
  have z_pg := hC.2.2.2.2.2.2.2.1
  refine v_aload_n O dX10_wake_0 0 rfl ?_
  refine v_iload_n O dX10_wake_1 1 rfl ?_
  refine v_cV (T := TX10) (ci := 10) (As := [.int (nI i)]) (wr := [((ma 4), eI D 6 (nF c.kk)), ((ma 5), eI D 6 (nF c.vv)), ((ma 6), eI D 6 c.hd), ((ma 30), eI D 8 (nF c.crf)), ((ma 35), eI D 12 (nF c.bo)), ((ma 13), eI D 6 cls), ((ma 14), eI D 60 wd), ((ma 15), eI D 60 nu), ((ma 16), eI D 60 fr), ((ma 17), eI D 60 tt9), ((ma 18), eI D 600 sf), ((ma 24), eZ D 100 pf)]) (st := []) O cf_X10_281 rfl (sp_X10_isMan (mo := mo) (ma := ma) (c := c) (c2 := c2) (tk := tk) (vc := vc) (ln := ln) (rn := rn) (zs_10 := zs_10) (zs_11 := zs_11) (zs_20 := zs_20) (zs_21 := zs_21) (zs_22 := zs_22) (zs_25 := zs_25) (zs_26 := zs_26) (zs_27 := zs_27) (zs_29 := zs_29) (i := (nI i)) (hC.1)) dX10_wake_2 rfl rfl 0 rfl [0] [1, 2, 3, 4, 5, 6, 7, 8, 9, 10, 11, 12] (by decide) rfl rfl (by decide) (by decide) (by decide) (Nat.le_of_ble_eq_true rfl) (by decide) (by decide) (fun r_2 w_3 h_1 => ?_)
  obtain ⟨rfl, rfl⟩ := h_1
  refine v_eq (st' := [.int (b2i (isIx (nI i) c.men))]) (ws' := [((ma 4), eI D 6 (nF c.kk)), ((ma 5), eI D 6 (nF c.vv)), ((ma 6), eI D 6 c.hd), ((ma 30), eI D 8 (nF c.crf)), ((ma 35), eI D 12 (nF c.bo)), ((ma 13), eI D 6 cls), ((ma 14), eI D 60 wd), ((ma 15), eI D 60 nu), ((ma 16), eI D 60 fr), ((ma 17), eI D 60 tt9), ((ma 18), eI D 600 sf), ((ma 24), eZ D 100 pf), (mo, .inr (10, M1R ma (mZ c c2 tk vc ln rn zs_10 zs_11 zs_20 zs_21 zs_22 zs_25 zs_26 zs_27 zs_29)))]) rfl rfl rfl rfl ?_
  refine v_if_ne O 10 dX10_wake_5 (by decide) (fun z1 => ?_) (fun z1 => ?_)
  · skip
    have z1 := b2i_1.mp z1
    refine v_aload_n O dX10_wake_10 0 rfl ?_
    refine v_aload_n O dX10_wake_11 0 rfl ?_
    refine gf_X10_13 (v := .int (nI c.heap)) O rfl dX10_wake_12 12 rfl rfl ?_
    refine pf_X10_87 (fs' := M1R ma (mZ c c2 tk vc ln rn zs_10 zs_11 zs_20 zs_21 zs_22 (nI c.heap) zs_26 zs_27 zs_29)) (ws' := [((ma 4), eI D 6 (nF c.kk)), ((ma 5), eI D 6 (nF c.vv)), ((ma 6), eI D 6 c.hd), ((ma 30), eI D 8 (nF c.crf)), ((ma 35), eI D 12 (nF c.bo)), ((ma 13), eI D 6 cls), ((ma 14), eI D 60 wd), ((ma 15), eI D 60 nu), ((ma 16), eI D 60 fr), ((ma 17), eI D 60 tt9), ((ma 18), eI D 600 sf), ((ma 24), eZ D 100 pf), (mo, .inr (10, M1R ma (mZ c c2 tk vc ln rn zs_10 zs_11 zs_20 zs_21 zs_22 (nI c.heap) zs_26 zs_27 zs_29)))]) O rfl dX10_wake_15 12 rfl (Nat.le_of_ble_eq_true rfl) rfl rfl ?_
    refine v_aload_n O dX10_wake_18 0 rfl ?_
    refine gf_X10_19 (v := .int (nI c.wak)) O rfl dX10_wake_19 12 rfl rfl ?_
    refine v_sipush (v := 9999) O dX10_wake_22 (by decide) ?_
    refine v_icmp_eq O 40 dX10_wake_25 (by decide) (fun z2 => ?_) (fun z2 => ?_)
    · skip
      have z2 := (c_eq (x := nI c.wak) (y := 9999) (a := c.wak) (b := 9999) rfl rfl (by omega) (by omega)).mp z2
      exact absurd z2 (by omega)
    · skip
      have z2 := (not_congr (c_eq (x := nI c.wak) (y := 9999) (a := c.wak) (b := 9999) rfl rfl (by omega) (by omega))).mp z2
      refine v_aload_n O dX10_wake_28 0 rfl ?_
      refine v_iload_n O dX10_wake_29 1 rfl ?_
      refine v_aload_n O dX10_wake_30 0 rfl ?_
      refine gf_X10_19 (v := .int (nI c.wak)) O rfl dX10_wake_31 12 rfl rfl ?_
      refine v_cV (T := TX10) (ci := 10) (As := [.int (nI i), .int (nI c.wak)]) (wr := [((ma 6), eI D 6 c.hd), ((ma 30), eI D 8 (nF c.crf)), ((ma 35), eI D 12 (nF c.bo))]) (st := []) O cf_X10_284 rfl (sp_X10_wakes (mo := mo) (ma := ma) (c := c) (c2 := c2) (tk := tk) (vc := vc) (ln := ln) (rn := rn) (zs_10 := zs_10) (zs_11 := zs_11) (zs_20 := zs_20) (zs_21 := zs_21) (zs_22 := zs_22) (zs_26 := zs_26) (zs_27 := zs_27) (zs_29 := zs_29) (wd := wd) (nu := nu) (fr := fr) (tt9 := tt9) (sf := sf) (cls := cls) (pf := pf) (bg := bg) (bn := bn) (v := v) (i := i) (s := 0) (h := c.heap) (hB9) (hM) (hC) (hva) (by omega) (by decide) (hC.2.2.2.1)) dX10_wake_34 rfl rfl 12 rfl [12, 0, 1, 5, 6, 7, 8, 9, 10, 11] [2, 3, 4] (by decide) rfl rfl (by decide) (by decide) (by decide) (Nat.le_of_ble_eq_true rfl) (by decide) (by decide) (fun r_5 w_6 h_4 => ?_)
      obtain ⟨pf2_7, rfl, rfl⟩ := h_4
      refine v_eq (st' := [.int (b2i (¬ wakA c v i 0 c.heap = none))]) (ws' := [((ma 6), eI D 6 c.hd), ((ma 30), eI D 8 (nF c.crf)), ((ma 35), eI D 12 (nF c.bo)), (mo, .inr (10, M1R ma (mZ c c2 tk vc ln rn zs_10 zs_11 zs_20 zs_21 zs_22 (nI (oL (wakA c v i 0 c.heap) c.heap)) (nI (oG (wakA c v i 0 c.heap) 0)) (nI (oD (wakA c v i 0 c.heap) 0)) zs_29))), ((ma 4), eI D 6 (nF c.kk)), ((ma 5), eI D 6 (nF c.vv)), ((ma 13), eI D 6 cls), ((ma 14), eI D 60 wd), ((ma 15), eI D 60 nu), ((ma 16), eI D 60 fr), ((ma 17), eI D 60 tt9), ((ma 18), eI D 600 sf), ((ma 24), eZ D 100 pf2_7)]) rfl rfl rfl rfl ?_
      refine v_if_ne O 43 dX10_wake_37 (by decide) (fun z3 => ?_) (fun z3 => ?_)
      · skip
        have z3 := b2i_1.mp z3
        exact absurd hn z3
      · skip
        have z3 := b2i_0.mp z3
        refine v_bipush (v := -3) O dX10_wake_40 (by decide) ?_
        refine v_sub (ws' := [(mo, .inr (10, M1R ma (mZ c c2 tk vc ln rn zs_10 zs_11 zs_20 zs_21 zs_22 (nI (oL (wakA c v i 0 c.heap) c.heap)) (nI (oG (wakA c v i 0 c.heap) 0)) (nI (oD (wakA c v i 0 c.heap) 0)) zs_29))), ((ma 4), eI D 6 (nF c.kk)), ((ma 5), eI D 6 (nF c.vv)), ((ma 6), eI D 6 c.hd), ((ma 30), eI D 8 (nF c.crf)), ((ma 35), eI D 12 (nF c.bo)), ((ma 13), eI D 6 cls), ((ma 14), eI D 60 wd), ((ma 15), eI D 60 nu), ((ma 16), eI D 60 fr), ((ma 17), eI D 60 tt9), ((ma 18), eI D 600 sf), ((ma 24), eZ D 100 pf2_7)]) [3, 4, 5, 0, 1, 2, 6, 7, 8, 9, 10, 11, 12] (by decide) rfl ?_
        exact v_ireturn O T rfl rfl (by decide) (by decide) dX10_wake_42 (⟨zs_10, zs_11, zs_20, zs_21, zs_22, nI (oL (wakA c v i 0 c.heap) c.heap), nI (oG (wakA c v i 0 c.heap) 0), nI (oD (wakA c v i 0 c.heap) 0), zs_29, _, rfl, rfl⟩)
  · skip
    have z1 := b2i_0.mp z1
    exact absurd ((isIx_nI (by omega) (by omega)).mpr hi) z1
set_option maxRecDepth 100000 in
set_option maxHeartbeats 4000000 in
theorem sp_X10_wake_4 {D : G} {mo : Nat} {ma : Nat → Nat} {c : CS} {c2 : CS} {tk : Int32} {vc : Nat} {ln : Nat} {rn : Nat} {zs_10 : Int32} {zs_11 : Int32} {zs_20 : Int32} {zs_21 : Int32} {zs_22 : Int32} {zs_25 : Int32} {zs_26 : Int32} {zs_27 : Int32} {zs_29 : Int32} {i : Nat} {wd : Nat → Int32} {nu : Nat → Int32} {fr : Nat → Int32} {tt9 : Nat → Int32} {sf : Nat → Int32} {cls : Nat → Int32} {pf : Nat → Int32} {bg : Nat} {bn : Nat} {v : VS} (hC : cOk c) (hB9 : hB c.held cls bg bn) (hM : MR wd nu fr tt9 sf bg bn v) (hva : vAsk v) (hi : i < c.men) (hw : c.wak < 9999) (hn : ¬ wakA c v i 0 c.heap = none) : Sp D mX10_wake 30 0 0 [.ref mo, .int (nI i)] [(mo, .inr (10, M1R ma (mZ c c2 tk vc ln rn zs_10 zs_11 zs_20 zs_21 zs_22 zs_25 zs_26 zs_27 zs_29))), ((ma 4), eI D 6 (nF c.kk)), ((ma 5), eI D 6 (nF c.vv)), ((ma 6), eI D 6 c.hd), ((ma 30), eI D 8 (nF c.crf)), ((ma 35), eI D 12 (nF c.bo)), ((ma 13), eI D 6 cls), ((ma 14), eI D 60 wd), ((ma 15), eI D 60 nu), ((ma 16), eI D 60 fr), ((ma 17), eI D 60 tt9), ((ma 18), eI D 600 sf), ((ma 24), eZ D 100 pf)] (fun r w => ∃ zs2_10 : Int32, ∃ zs2_11 : Int32, ∃ zs2_20 : Int32, ∃ zs2_21 : Int32, ∃ zs2_22 : Int32, ∃ zs2_25 : Int32, ∃ zs2_26 : Int32, ∃ zs2_27 : Int32, ∃ zs2_29 : Int32, ∃ pf2 : Nat → Int32, r = some (.int (nI (oD (wakA c v i 0 c.heap) 0))) ∧ w = [(mo, .inr (10, M1R ma (mZ (cWake c i (wakA c v i 0 c.heap)) c2 tk vc ln rn zs2_10 zs2_11 zs2_20 zs2_21 zs2_22 zs2_25 zs2_26 zs2_27 zs2_29))), ((ma 4), eI D 6 (nF (cWake c i (wakA c v i 0 c.heap)).kk)), ((ma 5), eI D 6 (nF (cWake c i (wakA c v i 0 c.heap)).vv)), ((ma 6), eI D 6 ((cWake c i (wakA c v i 0 c.heap)).hd)), ((ma 30), eI D 8 (nF (cWake c i (wakA c v i 0 c.heap)).crf)), ((ma 35), eI D 12 (nF (cWake c i (wakA c v i 0 c.heap)).bo)), ((ma 13), eI D 6 cls), ((ma 14), eI D 60 wd), ((ma 15), eI D 60 nu), ((ma 16), eI D 60 fr), ((ma 17), eI D 60 tt9), ((ma 18), eI D 600 sf), ((ma 24), eZ D 100 pf2)]) := by
  refine Sp.of (by decide) (Nat.le_of_ble_eq_true rfl) (fun X O T => ?_)
  refine v_eq (lv' := [(0, .ref mo), (1, .int (nI i))]) rfl rfl rfl rfl ?_
  have z_m := hC.1
  have z_hp := hC.2.2.2.1
  have z_wk := hC.2.2.2.2.1
  have z_rl := hC.2.2.2.2.2.1
  have z_pg := hC.2.2.2.2.2.2.2.1
  refine v_aload_n O dX10_wake_0 0 rfl ?_
  refine v_iload_n O dX10_wake_1 1 rfl ?_
  refine v_cV (T := TX10) (ci := 10) (As := [.int (nI i)]) (wr := [((ma 4), eI D 6 (nF c.kk)), ((ma 5), eI D 6 (nF c.vv)), ((ma 6), eI D 6 c.hd), ((ma 30), eI D 8 (nF c.crf)), ((ma 35), eI D 12 (nF c.bo)), ((ma 13), eI D 6 cls), ((ma 14), eI D 60 wd), ((ma 15), eI D 60 nu), ((ma 16), eI D 60 fr), ((ma 17), eI D 60 tt9), ((ma 18), eI D 600 sf), ((ma 24), eZ D 100 pf)]) (st := []) O cf_X10_281 rfl (sp_X10_isMan (mo := mo) (ma := ma) (c := c) (c2 := c2) (tk := tk) (vc := vc) (ln := ln) (rn := rn) (zs_10 := zs_10) (zs_11 := zs_11) (zs_20 := zs_20) (zs_21 := zs_21) (zs_22 := zs_22) (zs_25 := zs_25) (zs_26 := zs_26) (zs_27 := zs_27) (zs_29 := zs_29) (i := (nI i)) (hC.1)) dX10_wake_2 rfl rfl 0 rfl [0] [1, 2, 3, 4, 5, 6, 7, 8, 9, 10, 11, 12] (by decide) rfl rfl (by decide) (by decide) (by decide) (Nat.le_of_ble_eq_true rfl) (by decide) (by decide) (fun r_2 w_3 h_1 => ?_)
  obtain ⟨rfl, rfl⟩ := h_1
  refine v_eq (st' := [.int (b2i (isIx (nI i) c.men))]) (ws' := [((ma 4), eI D 6 (nF c.kk)), ((ma 5), eI D 6 (nF c.vv)), ((ma 6), eI D 6 c.hd), ((ma 30), eI D 8 (nF c.crf)), ((ma 35), eI D 12 (nF c.bo)), ((ma 13), eI D 6 cls), ((ma 14), eI D 60 wd), ((ma 15), eI D 60 nu), ((ma 16), eI D 60 fr), ((ma 17), eI D 60 tt9), ((ma 18), eI D 600 sf), ((ma 24), eZ D 100 pf), (mo, .inr (10, M1R ma (mZ c c2 tk vc ln rn zs_10 zs_11 zs_20 zs_21 zs_22 zs_25 zs_26 zs_27 zs_29)))]) rfl rfl rfl rfl ?_
  refine v_if_ne O 10 dX10_wake_5 (by decide) (fun z1 => ?_) (fun z1 => ?_)
  · skip
    have z1 := b2i_1.mp z1
    refine v_aload_n O dX10_wake_10 0 rfl ?_
    refine v_aload_n O dX10_wake_11 0 rfl ?_
    refine gf_X10_13 (v := .int (nI c.heap)) O rfl dX10_wake_12 12 rfl rfl ?_
    refine pf_X10_87 (fs' := M1R ma (mZ c c2 tk vc ln rn zs_10 zs_11 zs_20 zs_21 zs_22 (nI c.heap) zs_26 zs_27 zs_29)) (ws' := [((ma 4), eI D 6 (nF c.kk)), ((ma 5), eI D 6 (nF c.vv)), ((ma 6), eI D 6 c.hd), ((ma 30), eI D 8 (nF c.crf)), ((ma 35), eI D 12 (nF c.bo)), ((ma 13), eI D 6 cls), ((ma 14), eI D 60 wd), ((ma 15), eI D 60 nu), ((ma 16), eI D 60 fr), ((ma 17), eI D 60 tt9), ((ma 18), eI D 600 sf), ((ma 24), eZ D 100 pf), (mo, .inr (10, M1R ma (mZ c c2 tk vc ln rn zs_10 zs_11 zs_20 zs_21 zs_22 (nI c.heap) zs_26 zs_27 zs_29)))]) O rfl dX10_wake_15 12 rfl (Nat.le_of_ble_eq_true rfl) rfl rfl ?_
    refine v_aload_n O dX10_wake_18 0 rfl ?_
    refine gf_X10_19 (v := .int (nI c.wak)) O rfl dX10_wake_19 12 rfl rfl ?_
    refine v_sipush (v := 9999) O dX10_wake_22 (by decide) ?_
    refine v_icmp_eq O 40 dX10_wake_25 (by decide) (fun z2 => ?_) (fun z2 => ?_)
    · skip
      have z2 := (c_eq (x := nI c.wak) (y := 9999) (a := c.wak) (b := 9999) rfl rfl (by omega) (by omega)).mp z2
      exact absurd z2 (by omega)
    · skip
      have z2 := (not_congr (c_eq (x := nI c.wak) (y := 9999) (a := c.wak) (b := 9999) rfl rfl (by omega) (by omega))).mp z2
      refine v_aload_n O dX10_wake_28 0 rfl ?_
      refine v_iload_n O dX10_wake_29 1 rfl ?_
      refine v_aload_n O dX10_wake_30 0 rfl ?_
      refine gf_X10_19 (v := .int (nI c.wak)) O rfl dX10_wake_31 12 rfl rfl ?_
      refine v_cV (T := TX10) (ci := 10) (As := [.int (nI i), .int (nI c.wak)]) (wr := [((ma 6), eI D 6 c.hd), ((ma 30), eI D 8 (nF c.crf)), ((ma 35), eI D 12 (nF c.bo))]) (st := []) O cf_X10_284 rfl (sp_X10_wakes (mo := mo) (ma := ma) (c := c) (c2 := c2) (tk := tk) (vc := vc) (ln := ln) (rn := rn) (zs_10 := zs_10) (zs_11 := zs_11) (zs_20 := zs_20) (zs_21 := zs_21) (zs_22 := zs_22) (zs_26 := zs_26) (zs_27 := zs_27) (zs_29 := zs_29) (wd := wd) (nu := nu) (fr := fr) (tt9 := tt9) (sf := sf) (cls := cls) (pf := pf) (bg := bg) (bn := bn) (v := v) (i := i) (s := 0) (h := c.heap) (hB9) (hM) (hC) (hva) (by omega) (by decide) (hC.2.2.2.1)) dX10_wake_34 rfl rfl 12 rfl [12, 0, 1, 5, 6, 7, 8, 9, 10, 11] [2, 3, 4] (by decide) rfl rfl (by decide) (by decide) (by decide) (Nat.le_of_ble_eq_true rfl) (by decide) (by decide) (fun r_5 w_6 h_4 => ?_)
      obtain ⟨pf2_7, rfl, rfl⟩ := h_4
      refine v_eq (st' := [.int (b2i (¬ wakA c v i 0 c.heap = none))]) (ws' := [((ma 6), eI D 6 c.hd), ((ma 30), eI D 8 (nF c.crf)), ((ma 35), eI D 12 (nF c.bo)), (mo, .inr (10, M1R ma (mZ c c2 tk vc ln rn zs_10 zs_11 zs_20 zs_21 zs_22 (nI (oL (wakA c v i 0 c.heap) c.heap)) (nI (oG (wakA c v i 0 c.heap) 0)) (nI (oD (wakA c v i 0 c.heap) 0)) zs_29))), ((ma 4), eI D 6 (nF c.kk)), ((ma 5), eI D 6 (nF c.vv)), ((ma 13), eI D 6 cls), ((ma 14), eI D 60 wd), ((ma 15), eI D 60 nu), ((ma 16), eI D 60 fr), ((ma 17), eI D 60 tt9), ((ma 18), eI D 600 sf), ((ma 24), eZ D 100 pf2_7)]) rfl rfl rfl rfl ?_
      refine v_if_ne O 43 dX10_wake_37 (by decide) (fun z3 => ?_) (fun z3 => ?_)
      · skip
        have z3 := b2i_1.mp z3
        refine v_aload_n O dX10_wake_43 0 rfl ?_
        refine v_aload_n O dX10_wake_44 0 rfl ?_
        refine gf_X10_87 (v := .int (nI (oL (wakA c v i 0 c.heap) c.heap))) O rfl dX10_wake_45 3 rfl rfl ?_
        refine pf_X10_13 (fs' := M1R ma (upd (mZ c c2 tk vc ln rn zs_10 zs_11 zs_20 zs_21 zs_22 (nI (oL (wakA c v i 0 c.heap) c.heap)) (nI (oG (wakA c v i 0 c.heap) 0)) (nI (oD (wakA c v i 0 c.heap) 0)) zs_29) 1 (nI (oL (wakA c v i 0 c.heap) c.heap)))) (ws' := [((ma 6), eI D 6 c.hd), ((ma 30), eI D 8 (nF c.crf)), ((ma 35), eI D 12 (nF c.bo)), (mo, .inr (10, M1R ma (upd (mZ c c2 tk vc ln rn zs_10 zs_11 zs_20 zs_21 zs_22 (nI (oL (wakA c v i 0 c.heap) c.heap)) (nI (oG (wakA c v i 0 c.heap) 0)) (nI (oD (wakA c v i 0 c.heap) 0)) zs_29) 1 (nI (oL (wakA c v i 0 c.heap) c.heap))))), ((ma 4), eI D 6 (nF c.kk)), ((ma 5), eI D 6 (nF c.vv)), ((ma 13), eI D 6 cls), ((ma 14), eI D 60 wd), ((ma 15), eI D 60 nu), ((ma 16), eI D 60 fr), ((ma 17), eI D 60 tt9), ((ma 18), eI D 600 sf), ((ma 24), eZ D 100 pf2_7)]) O rfl dX10_wake_48 3 rfl (Nat.le_of_ble_eq_true rfl) rfl rfl ?_
        refine v_aload_n O dX10_wake_51 0 rfl ?_
        refine v_dup O dX10_wake_52 rfl ?_
        refine gf_X10_16 (v := .int c.dogs) O rfl dX10_wake_53 3 rfl rfl ?_
        refine v_aload_n O dX10_wake_56 0 rfl ?_
        refine gf_X10_90 (v := .int (nI (oG (wakA c v i 0 c.heap) 0))) O rfl dX10_wake_57 3 rfl rfl ?_
        refine v_iadd O dX10_wake_60 ?_
        refine pf_X10_16 (fs' := M1R ma (upd (upd (mZ c c2 tk vc ln rn zs_10 zs_11 zs_20 zs_21 zs_22 (nI (oL (wakA c v i 0 c.heap) c.heap)) (nI (oG (wakA c v i 0 c.heap) 0)) (nI (oD (wakA c v i 0 c.heap) 0)) zs_29) 1 (nI (oL (wakA c v i 0 c.heap) c.heap))) 2 (c.dogs + (nI (oG (wakA c v i 0 c.heap) 0))))) (ws' := [((ma 6), eI D 6 c.hd), ((ma 30), eI D 8 (nF c.crf)), ((ma 35), eI D 12 (nF c.bo)), (mo, .inr (10, M1R ma (upd (upd (mZ c c2 tk vc ln rn zs_10 zs_11 zs_20 zs_21 zs_22 (nI (oL (wakA c v i 0 c.heap) c.heap)) (nI (oG (wakA c v i 0 c.heap) 0)) (nI (oD (wakA c v i 0 c.heap) 0)) zs_29) 1 (nI (oL (wakA c v i 0 c.heap) c.heap))) 2 (c.dogs + (nI (oG (wakA c v i 0 c.heap) 0)))))), ((ma 4), eI D 6 (nF c.kk)), ((ma 5), eI D 6 (nF c.vv)), ((ma 13), eI D 6 cls), ((ma 14), eI D 60 wd), ((ma 15), eI D 60 nu), ((ma 16), eI D 60 fr), ((ma 17), eI D 60 tt9), ((ma 18), eI D 600 sf), ((ma 24), eZ D 100 pf2_7)]) O rfl dX10_wake_61 3 rfl (Nat.le_of_ble_eq_true rfl) rfl rfl ?_
        refine v_aload_n O dX10_wake_64 0 rfl ?_
        refine gf_X10_29 (v := .ref (ma 6)) O rfl dX10_wake_65 3 rfl rfl ?_
        refine v_iload_n O dX10_wake_68 1 rfl ?_
        refine v_dup2 O dX10_wake_69 rfl rfl ?_
        refine v_ialdk O dX10_wake_70 0 rfl i rfl (by omega) (by decide) ?_
        refine v_aload_n O dX10_wake_71 0 rfl ?_
        refine gf_X10_93 (v := .int (nI (oD (wakA c v i 0 c.heap) 0))) O rfl dX10_wake_72 3 rfl rfl ?_
        refine v_iadd O dX10_wake_75 ?_
        refine v_iastk (ws' := [((ma 6), eI D 6 (upd c.hd i ((c.hd i) + (nI (oD (wakA c v i 0 c.heap) 0))))), ((ma 30), eI D 8 (nF c.crf)), ((ma 35), eI D 12 (nF c.bo)), (mo, .inr (10, M1R ma (upd (upd (mZ c c2 tk vc ln rn zs_10 zs_11 zs_20 zs_21 zs_22 (nI (oL (wakA c v i 0 c.heap) c.heap)) (nI (oG (wakA c v i 0 c.heap) 0)) (nI (oD (wakA c v i 0 c.heap) 0)) zs_29) 1 (nI (oL (wakA c v i 0 c.heap) c.heap))) 2 (c.dogs + (nI (oG (wakA c v i 0 c.heap) 0)))))), ((ma 4), eI D 6 (nF c.kk)), ((ma 5), eI D 6 (nF c.vv)), ((ma 13), eI D 6 cls), ((ma 14), eI D 60 wd), ((ma 15), eI D 60 nu), ((ma 16), eI D 60 fr), ((ma 17), eI D 60 tt9), ((ma 18), eI D 600 sf), ((ma 24), eZ D 100 pf2_7)]) O dX10_wake_76 0 rfl i (rfl) (by omega) (by decide) (rfl) ?_
        refine v_aload_n O dX10_wake_77 0 rfl ?_
        refine v_dup O dX10_wake_78 rfl ?_
        refine gf_X10_19 (v := .int (nI c.wak)) O rfl dX10_wake_79 3 rfl rfl ?_
        refine v_iconst (v := 1) O dX10_wake_82 (by decide) ?_
        refine v_iadd O dX10_wake_83 ?_
        refine v_top (y := nI (c.wak + 1)) (nI_add c.wak 1) ?_
        refine pf_X10_19 (fs' := M1R ma (upd (upd (upd (mZ c c2 tk vc ln rn zs_10 zs_11 zs_20 zs_21 zs_22 (nI (oL (wakA c v i 0 c.heap) c.heap)) (nI (oG (wakA c v i 0 c.heap) 0)) (nI (oD (wakA c v i 0 c.heap) 0)) zs_29) 1 (nI (oL (wakA c v i 0 c.heap) c.heap))) 2 (c.dogs + (nI (oG (wakA c v i 0 c.heap) 0)))) 3 (nI (c.wak + 1)))) (ws' := [((ma 6), eI D 6 (upd c.hd i ((c.hd i) + (nI (oD (wakA c v i 0 c.heap) 0))))), ((ma 30), eI D 8 (nF c.crf)), ((ma 35), eI D 12 (nF c.bo)), (mo, .inr (10, M1R ma (upd (upd (upd (mZ c c2 tk vc ln rn zs_10 zs_11 zs_20 zs_21 zs_22 (nI (oL (wakA c v i 0 c.heap) c.heap)) (nI (oG (wakA c v i 0 c.heap) 0)) (nI (oD (wakA c v i 0 c.heap) 0)) zs_29) 1 (nI (oL (wakA c v i 0 c.heap) c.heap))) 2 (c.dogs + (nI (oG (wakA c v i 0 c.heap) 0)))) 3 (nI (c.wak + 1))))), ((ma 4), eI D 6 (nF c.kk)), ((ma 5), eI D 6 (nF c.vv)), ((ma 13), eI D 6 cls), ((ma 14), eI D 60 wd), ((ma 15), eI D 60 nu), ((ma 16), eI D 60 fr), ((ma 17), eI D 60 tt9), ((ma 18), eI D 600 sf), ((ma 24), eZ D 100 pf2_7)]) O rfl dX10_wake_84 3 rfl (Nat.le_of_ble_eq_true rfl) rfl rfl ?_
        refine v_aload_n O dX10_wake_87 0 rfl ?_
        refine gf_X10_93 (v := .int (nI (oD (wakA c v i 0 c.heap) 0))) O rfl dX10_wake_88 3 rfl rfl ?_
        refine v_sub (ws' := [(mo, .inr (10, M1R ma (upd (upd (upd (mZ c c2 tk vc ln rn zs_10 zs_11 zs_20 zs_21 zs_22 (nI (oL (wakA c v i 0 c.heap) c.heap)) (nI (oG (wakA c v i 0 c.heap) 0)) (nI (oD (wakA c v i 0 c.heap) 0)) zs_29) 1 (nI (oL (wakA c v i 0 c.heap) c.heap))) 2 (c.dogs + (nI (oG (wakA c v i 0 c.heap) 0)))) 3 (nI (c.wak + 1))))), ((ma 4), eI D 6 (nF c.kk)), ((ma 5), eI D 6 (nF c.vv)), ((ma 6), eI D 6 (upd c.hd i ((c.hd i) + (nI (oD (wakA c v i 0 c.heap) 0))))), ((ma 30), eI D 8 (nF c.crf)), ((ma 35), eI D 12 (nF c.bo)), ((ma 13), eI D 6 cls), ((ma 14), eI D 60 wd), ((ma 15), eI D 60 nu), ((ma 16), eI D 60 fr), ((ma 17), eI D 60 tt9), ((ma 18), eI D 600 sf), ((ma 24), eZ D 100 pf2_7)]) [3, 4, 5, 0, 1, 2, 6, 7, 8, 9, 10, 11, 12] (by decide) rfl ?_
        exact v_ireturn O T rfl rfl (by decide) (by decide) dX10_wake_91 (⟨zs_10, zs_11, zs_20, zs_21, zs_22, nI (oL (wakA c v i 0 c.heap) c.heap), nI (oG (wakA c v i 0 c.heap) 0), nI (oD (wakA c v i 0 c.heap) 0), zs_29, _, rfl, rfl⟩)
      · skip
        have z3 := b2i_0.mp z3
        exact absurd (Classical.not_not.mp z3) hn
  · skip
    have z1 := b2i_0.mp z1
    exact absurd ((isIx_nI (by omega) (by omega)).mpr hi) z1
set_option maxRecDepth 100000 in
set_option maxHeartbeats 4000000 in
theorem sp_X10_night_1 {D : G} {mo : Nat} {ma : Nat → Nat} {c : CS} {c2 : CS} {tk : Int32} {vc : Nat} {ln : Nat} {rn : Nat} {zs_10 : Int32} {zs_11 : Int32} {zs_20 : Int32} {zs_21 : Int32} {zs_22 : Int32} {zs_25 : Int32} {zs_26 : Int32} {zs_27 : Int32} {zs_29 : Int32} {h : Int32} (hh : ¬ isIx h 1000000) : Sp D mX10_night 30 0 0 [.ref mo, .int h] [(mo, .inr (10, M1R ma (mZ c c2 tk vc ln rn zs_10 zs_11 zs_20 zs_21 zs_22 zs_25 zs_26 zs_27 zs_29)))] (fun r w => ∃ zs2_10 : Int32, ∃ zs2_11 : Int32, ∃ zs2_20 : Int32, ∃ zs2_21 : Int32, ∃ zs2_22 : Int32, ∃ zs2_25 : Int32, ∃ zs2_26 : Int32, ∃ zs2_27 : Int32, ∃ zs2_29 : Int32, r = some (.int (-2)) ∧ w = [(mo, .inr (10, M1R ma (mZ c c2 tk vc ln rn zs2_10 zs2_11 zs2_20 zs2_21 zs2_22 zs2_25 zs2_26 zs2_27 zs2_29)))]) := by
  refine Sp.of (by decide) (Nat.le_of_ble_eq_true rfl) (fun X O T => ?_)
  refine v_eq (lv' := [(0, .ref mo), (1, .int h)]) rfl rfl rfl rfl ?_
  refine v_aload_n O dX10_night_0 0 rfl ?_
  refine v_iload_n O dX10_night_1 1 rfl ?_
  refine v_cV (T := TX10) (ci := 10) (As := [.int h]) (wr := []) (st := []) O cf_X10_184 rfl (sp_X10_isHeap (mo := mo) (ma := ma) (c := c) (c2 := c2) (tk := tk) (vc := vc) (ln := ln) (rn := rn) (zs_10 := zs_10) (zs_11 := zs_11) (zs_20 := zs_20) (zs_21 := zs_21) (zs_22 := zs_22) (zs_25 := zs_25) (zs_26 := zs_26) (zs_27 := zs_27) (zs_29 := zs_29) (h := h) ) dX10_night_2 rfl rfl 0 rfl [0] [] (by decide) rfl rfl (by decide) (by decide) (by decide) (Nat.le_of_ble_eq_true rfl) (by decide) (by decide) (fun r_2 w_3 h_1 => ?_)
  obtain ⟨rfl, rfl⟩ := h_1
  refine v_eq (st' := [.int (b2i (isIx h 1000000))]) (ws' := [(mo, .inr (10, M1R ma (mZ c c2 tk vc ln rn zs_10 zs_11 zs_20 zs_21 zs_22 zs_25 zs_26 zs_27 zs_29)))]) rfl rfl rfl rfl ?_
  refine v_if_ne O 13 dX10_night_5 (by decide) (fun z1 => ?_) (fun z1 => ?_)
  · skip
    have z1 := b2i_1.mp z1
    exact absurd z1 hh
  · skip
    have z1 := b2i_0.mp z1
    refine v_bipush (v := -2) O dX10_night_8 (by decide) ?_
    refine v_goto O 26 dX10_night_10 (by decide) ?_
    exact v_ireturn O T rfl rfl (by decide) (by decide) dX10_night_26 (⟨zs_10, zs_11, zs_20, zs_21, zs_22, zs_25, zs_26, zs_27, zs_29, rfl, rfl⟩)
set_option maxRecDepth 100000 in
set_option maxHeartbeats 4000000 in
theorem sp_X10_night_2 {D : G} {mo : Nat} {ma : Nat → Nat} {c : CS} {c2 : CS} {tk : Int32} {vc : Nat} {ln : Nat} {rn : Nat} {zs_10 : Int32} {zs_11 : Int32} {zs_20 : Int32} {zs_21 : Int32} {zs_22 : Int32} {zs_25 : Int32} {zs_26 : Int32} {zs_27 : Int32} {zs_29 : Int32} {h : Nat} {wd : Nat → Int32} {nu : Nat → Int32} {fr : Nat → Int32} {tt9 : Nat → Int32} {sf : Nat → Int32} {cls : Nat → Int32} {pf : Nat → Int32} {hb : Nat → Int32} {bg : Nat} {bn : Nat} {v : VS} (hC : cOk c) (hB9 : hB c.held cls bg bn) (hM : MR wd nu fr tt9 sf bg bn v) (hva : vAsk v) (hh : h < 1000000) : Sp D mX10_night 30 0 0 [.ref mo, .int (nI h)] [(mo, .inr (10, M1R ma (mZ c c2 tk vc ln rn zs_10 zs_11 zs_20 zs_21 zs_22 zs_25 zs_26 zs_27 zs_29))), ((ma 4), eI D 6 (nF c.kk)), ((ma 5), eI D 6 (nF c.vv)), ((ma 6), eI D 6 c.hd), ((ma 30), eI D 8 (nF c.crf)), ((ma 35), eI D 12 (nF c.bo)), ((ma 13), eI D 6 cls), ((ma 14), eI D 60 wd), ((ma 15), eI D 60 nu), ((ma 16), eI D 60 fr), ((ma 17), eI D 60 tt9), ((ma 18), eI D 600 sf), ((ma 24), eZ D 100 pf), ((ma 31), eI D 6 hb)] (fun r w => ∃ zs2_10 : Int32, ∃ zs2_11 : Int32, ∃ zs2_20 : Int32, ∃ zs2_21 : Int32, ∃ zs2_22 : Int32, ∃ zs2_25 : Int32, ∃ zs2_26 : Int32, ∃ zs2_27 : Int32, ∃ zs2_29 : Int32, ∃ pf2 : Nat → Int32, ∃ hb2 : Nat → Int32, r = some (.int (b2i (ngtA c v h))) ∧ w = [(mo, .inr (10, M1R ma (mZ c c2 tk vc ln rn zs2_10 zs2_11 zs2_20 zs2_21 zs2_22 zs2_25 zs2_26 zs2_27 zs2_29))), ((ma 4), eI D 6 (nF c.kk)), ((ma 5), eI D 6 (nF c.vv)), ((ma 6), eI D 6 c.hd), ((ma 30), eI D 8 (nF c.crf)), ((ma 35), eI D 12 (nF c.bo)), ((ma 13), eI D 6 cls), ((ma 14), eI D 60 wd), ((ma 15), eI D 60 nu), ((ma 16), eI D 60 fr), ((ma 17), eI D 60 tt9), ((ma 18), eI D 600 sf), ((ma 24), eZ D 100 pf2), ((ma 31), eI D 6 hb2)]) := by
  refine Sp.of (by decide) (Nat.le_of_ble_eq_true rfl) (fun X O T => ?_)
  refine v_eq (lv' := [(0, .ref mo), (1, .int (nI h))]) rfl rfl rfl rfl ?_
  have z_m := hC.1
  have z_hp := hC.2.2.2.1
  have z_wk := hC.2.2.2.2.1
  have z_rl := hC.2.2.2.2.2.1
  have z_pg := hC.2.2.2.2.2.2.2.1
  refine v_aload_n O dX10_night_0 0 rfl ?_
  refine v_iload_n O dX10_night_1 1 rfl ?_
  refine v_cV (T := TX10) (ci := 10) (As := [.int (nI h)]) (wr := [((ma 4), eI D 6 (nF c.kk)), ((ma 5), eI D 6 (nF c.vv)), ((ma 6), eI D 6 c.hd), ((ma 30), eI D 8 (nF c.crf)), ((ma 35), eI D 12 (nF c.bo)), ((ma 13), eI D 6 cls), ((ma 14), eI D 60 wd), ((ma 15), eI D 60 nu), ((ma 16), eI D 60 fr), ((ma 17), eI D 60 tt9), ((ma 18), eI D 600 sf), ((ma 24), eZ D 100 pf), ((ma 31), eI D 6 hb)]) (st := []) O cf_X10_184 rfl (sp_X10_isHeap (mo := mo) (ma := ma) (c := c) (c2 := c2) (tk := tk) (vc := vc) (ln := ln) (rn := rn) (zs_10 := zs_10) (zs_11 := zs_11) (zs_20 := zs_20) (zs_21 := zs_21) (zs_22 := zs_22) (zs_25 := zs_25) (zs_26 := zs_26) (zs_27 := zs_27) (zs_29 := zs_29) (h := (nI h)) ) dX10_night_2 rfl rfl 0 rfl [0] [1, 2, 3, 4, 5, 6, 7, 8, 9, 10, 11, 12, 13] (by decide) rfl rfl (by decide) (by decide) (by decide) (Nat.le_of_ble_eq_true rfl) (by decide) (by decide) (fun r_2 w_3 h_1 => ?_)
  obtain ⟨rfl, rfl⟩ := h_1
  refine v_eq (st' := [.int (b2i (isIx (nI h) 1000000))]) (ws' := [((ma 4), eI D 6 (nF c.kk)), ((ma 5), eI D 6 (nF c.vv)), ((ma 6), eI D 6 c.hd), ((ma 30), eI D 8 (nF c.crf)), ((ma 35), eI D 12 (nF c.bo)), ((ma 13), eI D 6 cls), ((ma 14), eI D 60 wd), ((ma 15), eI D 60 nu), ((ma 16), eI D 60 fr), ((ma 17), eI D 60 tt9), ((ma 18), eI D 600 sf), ((ma 24), eZ D 100 pf), ((ma 31), eI D 6 hb), (mo, .inr (10, M1R ma (mZ c c2 tk vc ln rn zs_10 zs_11 zs_20 zs_21 zs_22 zs_25 zs_26 zs_27 zs_29)))]) rfl rfl rfl rfl ?_
  refine v_if_ne O 13 dX10_night_5 (by decide) (fun z1 => ?_) (fun z1 => ?_)
  · skip
    have z1 := b2i_1.mp z1
    refine v_aload_n O dX10_night_13 0 rfl ?_
    refine v_iload_n O dX10_night_14 1 rfl ?_
    refine v_cV (T := TX10) (ci := 10) (As := [.int (nI h)]) (wr := []) (st := []) O cf_X10_290 rfl (sp_X10_isNight (mo := mo) (ma := ma) (c := c) (c2 := c2) (tk := tk) (vc := vc) (ln := ln) (rn := rn) (zs_10 := zs_10) (zs_11 := zs_11) (zs_20 := zs_20) (zs_21 := zs_21) (zs_22 := zs_22) (zs_25 := zs_25) (zs_26 := zs_26) (zs_27 := zs_27) (zs_29 := zs_29) (wd := wd) (nu := nu) (fr := fr) (tt9 := tt9) (sf := sf) (cls := cls) (pf := pf) (hb := hb) (bg := bg) (bn := bn) (v := v) (h := h) (hB9) (hM) (hC) (hva) (hh)) dX10_night_15 rfl rfl 13 rfl [13, 0, 1, 2, 3, 4, 5, 6, 7, 8, 9, 10, 11, 12] [] (by decide) rfl rfl (by decide) (by decide) (by decide) (Nat.le_of_ble_eq_true rfl) (by decide) (by decide) (fun r_5 w_6 h_4 => ?_)
    obtain ⟨zs2_25_7, zs2_26_8, zs2_27_9, zs2_29_10, pf2_11, hb2_12, rfl, rfl⟩ := h_4
    refine v_eq (st' := [.int (b2i (ngtA c v h))]) (ws' := [(mo, .inr (10, M1R ma (mZ c c2 tk vc ln rn zs_10 zs_11 zs_20 zs_21 zs_22 zs2_25_7 zs2_26_8 zs2_27_9 zs2_29_10))), ((ma 4), eI D 6 (nF c.kk)), ((ma 5), eI D 6 (nF c.vv)), ((ma 6), eI D 6 c.hd), ((ma 30), eI D 8 (nF c.crf)), ((ma 35), eI D 12 (nF c.bo)), ((ma 13), eI D 6 cls), ((ma 14), eI D 60 wd), ((ma 15), eI D 60 nu), ((ma 16), eI D 60 fr), ((ma 17), eI D 60 tt9), ((ma 18), eI D 600 sf), ((ma 24), eZ D 100 pf2_11), ((ma 31), eI D 6 hb2_12)]) rfl rfl rfl rfl ?_
    refine v_if_eq O 25 dX10_night_18 (by decide) (fun z2 => ?_) (fun z2 => ?_)
    · skip
      have z2 := b2i_0.mp z2
      refine v_iconst (v := 0) O dX10_night_25 (by decide) ?_
      exact v_ireturn O T rfl rfl (by decide) (by decide) dX10_night_26 (⟨zs_10, zs_11, zs_20, zs_21, zs_22, zs2_25_7, zs2_26_8, zs2_27_9, zs2_29_10, _, _, by rw [b2i_f z2], rfl⟩)
    · skip
      have z2 := b2i_1.mp z2
      refine v_iconst (v := 1) O dX10_night_21 (by decide) ?_
      refine v_goto O 26 dX10_night_22 (by decide) ?_
      exact v_ireturn O T rfl rfl (by decide) (by decide) dX10_night_26 (⟨zs_10, zs_11, zs_20, zs_21, zs_22, zs2_25_7, zs2_26_8, zs2_27_9, zs2_29_10, _, _, by rw [b2i_t z2], rfl⟩)
  · skip
    have z1 := b2i_0.mp z1
    exact absurd ((isIx_nI (by omega) (by omega)).mpr hh) z1
set_option maxRecDepth 100000 in
set_option maxHeartbeats 4000000 in
theorem sp_X10_least_1 {D : G} {mo : Nat} {ma : Nat → Nat} {c : CS} {c2 : CS} {tk : Int32} {vc : Nat} {ln : Nat} {rn : Nat} {zs_10 : Int32} {zs_11 : Int32} {zs_20 : Int32} {zs_21 : Int32} {zs_22 : Int32} {zs_25 : Int32} {zs_26 : Int32} {zs_27 : Int32} {zs_29 : Int32} {n : Int32} (hn : ¬ isIx n 10000) : Sp D mX10_least 30 0 0 [.ref mo, .int n] [(mo, .inr (10, M1R ma (mZ c c2 tk vc ln rn zs_10 zs_11 zs_20 zs_21 zs_22 zs_25 zs_26 zs_27 zs_29)))] (fun r w => ∃ zs2_10 : Int32, ∃ zs2_11 : Int32, ∃ zs2_20 : Int32, ∃ zs2_21 : Int32, ∃ zs2_22 : Int32, ∃ zs2_25 : Int32, ∃ zs2_26 : Int32, ∃ zs2_27 : Int32, ∃ zs2_29 : Int32, r = some (.int (-2)) ∧ w = [(mo, .inr (10, M1R ma (mZ c c2 tk vc ln rn zs2_10 zs2_11 zs2_20 zs2_21 zs2_22 zs2_25 zs2_26 zs2_27 zs2_29)))]) := by
  refine Sp.of (by decide) (Nat.le_of_ble_eq_true rfl) (fun X O T => ?_)
  refine v_eq (lv' := [(0, .ref mo), (1, .int n)]) rfl rfl rfl rfl ?_
  refine v_aload_n O dX10_least_0 0 rfl ?_
  refine v_iload_n O dX10_least_1 1 rfl ?_
  refine v_iconst (v := 0) O dX10_least_2 (by decide) ?_
  refine v_sipush (v := 9999) O dX10_least_3 (by decide) ?_
  refine v_cV (T := TX10) (ci := 10) (As := [.int n, .int 0, .int 9999]) (wr := [(mo, .inr (10, M1R ma (mZ c c2 tk vc ln rn zs_10 zs_11 zs_20 zs_21 zs_22 zs_25 zs_26 zs_27 zs_29)))]) (st := []) O cf_X10_179 rfl (sp_X10_in_0 (mo := mo) (x := n) (h := 9999) (zn := 10000) (rfl) (by decide)) dX10_least_6 rfl rfl 0 rfl [] [0] (by decide) rfl rfl (by decide) (by decide) (by decide) (Nat.le_of_ble_eq_true rfl) (by decide) (by decide) (fun r_2 w_3 h_1 => ?_)
  obtain ⟨rfl, rfl⟩ := h_1
  refine v_eq (st' := [.int (b2i (isIx n 10000))]) (ws' := [(mo, .inr (10, M1R ma (mZ c c2 tk vc ln rn zs_10 zs_11 zs_20 zs_21 zs_22 zs_25 zs_26 zs_27 zs_29)))]) rfl rfl rfl rfl ?_
  refine v_if_ne O 15 dX10_least_9 (by decide) (fun z1 => ?_) (fun z1 => ?_)
  · skip
    have z1 := b2i_1.mp z1
    exact absurd z1 hn
  · skip
    have z1 := b2i_0.mp z1
    refine v_bipush (v := -2) O dX10_least_12 (by decide) ?_
    exact v_ireturn O T rfl rfl (by decide) (by decide) dX10_least_14 (⟨zs_10, zs_11, zs_20, zs_21, zs_22, zs_25, zs_26, zs_27, zs_29, rfl, rfl⟩)
set_option maxRecDepth 100000 in
set_option maxHeartbeats 4000000 in
theorem l_X10_least_2 {D : G} {X : CX} {mo : Nat} {ma : Nat → Nat} {c : CS} {c2 : CS} {tk : Int32} {vc : Nat} {ln : Nat} {rn : Nat} {zs_10 : Int32} {zs_11 : Int32} {zs_20 : Int32} {zs_21 : Int32} {zs_22 : Int32} {n : Nat} {wd : Nat → Int32} {nu : Nat → Int32} {fr : Nat → Int32} {tt9 : Nat → Int32} {sf : Nat → Int32} {cls : Nat → Int32} {bg : Nat} {bn : Nat} {v : VS} (O : Ok D X mX10_least 30 0 0) (hC : cOk c) (hB9 : hB c.held cls bg bn) (hM : MR wd nu fr tt9 sf bg bn v) (hva : vAsk v) (hn : n < 10000) (T : Rt D X (fun r w => ∃ zs2_10 : Int32, ∃ zs2_11 : Int32, ∃ zs2_20 : Int32, ∃ zs2_21 : Int32, ∃ zs2_22 : Int32, ∃ zs2_25 : Int32, ∃ zs2_26 : Int32, ∃ zs2_27 : Int32, ∃ zs2_29 : Int32, ∃ pf2 : Nat → Int32, ∃ hb2 : Nat → Int32, r = some (.int (firstN (ngtA c v) 10000 n)) ∧ w = [(mo, .inr (10, M1R ma (mZ c c2 tk vc ln rn zs2_10 zs2_11 zs2_20 zs2_21 zs2_22 zs2_25 zs2_26 zs2_27 zs2_29))), ((ma 4), eI D 6 (nF c.kk)), ((ma 5), eI D 6 (nF c.vv)), ((ma 6), eI D 6 c.hd), ((ma 30), eI D 8 (nF c.crf)), ((ma 35), eI D 12 (nF c.bo)), ((ma 13), eI D 6 cls), ((ma 14), eI D 60 wd), ((ma 15), eI D 60 nu), ((ma 16), eI D 60 fr), ((ma 17), eI D 60 tt9), ((ma 18), eI D 600 sf), ((ma 24), eZ D 100 pf2), ((ma 31), eI D 6 hb2)]) 0 0) : ∀ (t i : Nat), i + t = n + 10000 → ∀ (zs_25 zs_26 zs_27 zs_29 : Int32) (pf hb : Nat → Int32), firstN (ngtA c v) 10000 n = firstN (ngtA c v) t i → V D X 0 0 17 [(0, .ref mo), (1, .int (nI n)), (2, .int (nI i))] [] [(mo, .inr (10, M1R ma (mZ c c2 tk vc ln rn zs_10 zs_11 zs_20 zs_21 zs_22 zs_25 zs_26 zs_27 zs_29))), ((ma 4), eI D 6 (nF c.kk)), ((ma 5), eI D 6 (nF c.vv)), ((ma 6), eI D 6 c.hd), ((ma 30), eI D 8 (nF c.crf)), ((ma 35), eI D 12 (nF c.bo)), ((ma 13), eI D 6 cls), ((ma 14), eI D 60 wd), ((ma 15), eI D 60 nu), ((ma 16), eI D 60 fr), ((ma 17), eI D 60 tt9), ((ma 18), eI D 600 sf), ((ma 24), eZ D 100 pf), ((ma 31), eI D 6 hb)] := by
  intro t
  induction t with
  | zero =>
    intro i hi zs_25 zs_26 zs_27 zs_29 pf hb hF
    refine v_iload_n O dX10_least_17 2 rfl ?_
    refine v_iload_n O dX10_least_18 1 rfl ?_
    refine v_sipush (v := 10000) O dX10_least_19 (by decide) ?_
    refine v_iadd O dX10_least_22 ?_
    refine v_top (y := nI (n + 10000)) (nI_add n 10000) ?_
    refine v_icmp_ge O 42 dX10_least_23 (by decide) (fun z1 => ?_) (fun z1 => ?_)
    · skip
      have z1 := (c_le' (x := nI i) (y := nI (n + 10000)) (a := i) (b := n + 10000) rfl rfl (by omega) (by omega)).mp z1
      refine v_bipush (v := -5) O dX10_least_42 (by decide) ?_
      exact v_ireturn O T rfl rfl (by decide) (by decide) dX10_least_44 (⟨zs_10, zs_11, zs_20, zs_21, zs_22, zs_25, zs_26, zs_27, zs_29, _, _, by rw [hF]; rfl, rfl⟩)
    · skip
      have z1 := (not_congr (c_le' (x := nI i) (y := nI (n + 10000)) (a := i) (b := n + 10000) rfl rfl (by omega) (by omega))).mp z1
      exact absurd z1 (by omega)
  | succ t ih =>
    intro i hi zs_25 zs_26 zs_27 zs_29 pf hb hF
    refine v_iload_n O dX10_least_17 2 rfl ?_
    refine v_iload_n O dX10_least_18 1 rfl ?_
    refine v_sipush (v := 10000) O dX10_least_19 (by decide) ?_
    refine v_iadd O dX10_least_22 ?_
    refine v_top (y := nI (n + 10000)) (nI_add n 10000) ?_
    refine v_icmp_ge O 42 dX10_least_23 (by decide) (fun z1 => ?_) (fun z1 => ?_)
    · skip
      have z1 := (c_le' (x := nI i) (y := nI (n + 10000)) (a := i) (b := n + 10000) rfl rfl (by omega) (by omega)).mp z1
      exact absurd z1 (by omega)
    · skip
      have z1 := (not_congr (c_le' (x := nI i) (y := nI (n + 10000)) (a := i) (b := n + 10000) rfl rfl (by omega) (by omega))).mp z1
      refine v_aload_n O dX10_least_26 0 rfl ?_
      refine v_iload_n O dX10_least_27 2 rfl ?_
      refine v_cV (T := TX10) (ci := 10) (As := [.int (nI i)]) (wr := []) (st := []) O cf_X10_290 rfl (sp_X10_isNight (mo := mo) (ma := ma) (c := c) (c2 := c2) (tk := tk) (vc := vc) (ln := ln) (rn := rn) (zs_10 := zs_10) (zs_11 := zs_11) (zs_20 := zs_20) (zs_21 := zs_21) (zs_22 := zs_22) (zs_25 := zs_25) (zs_26 := zs_26) (zs_27 := zs_27) (zs_29 := zs_29) (wd := wd) (nu := nu) (fr := fr) (tt9 := tt9) (sf := sf) (cls := cls) (pf := pf) (hb := hb) (bg := bg) (bn := bn) (v := v) (h := i) (hB9) (hM) (hC) (hva) (by omega)) dX10_least_28 rfl rfl 0 rfl [0, 1, 2, 3, 4, 5, 6, 7, 8, 9, 10, 11, 12, 13] [] (by decide) rfl rfl (by decide) (by decide) (by decide) (Nat.le_of_ble_eq_true rfl) (by decide) (by decide) (fun r_2 w_3 h_1 => ?_)
      obtain ⟨zs2_25_4, zs2_26_5, zs2_27_6, zs2_29_7, pf2_8, hb2_9, rfl, rfl⟩ := h_1
      refine v_eq (st' := [.int (b2i (ngtA c v i))]) (ws' := [(mo, .inr (10, M1R ma (mZ c c2 tk vc ln rn zs_10 zs_11 zs_20 zs_21 zs_22 zs2_25_4 zs2_26_5 zs2_27_6 zs2_29_7))), ((ma 4), eI D 6 (nF c.kk)), ((ma 5), eI D 6 (nF c.vv)), ((ma 6), eI D 6 c.hd), ((ma 30), eI D 8 (nF c.crf)), ((ma 35), eI D 12 (nF c.bo)), ((ma 13), eI D 6 cls), ((ma 14), eI D 60 wd), ((ma 15), eI D 60 nu), ((ma 16), eI D 60 fr), ((ma 17), eI D 60 tt9), ((ma 18), eI D 600 sf), ((ma 24), eZ D 100 pf2_8), ((ma 31), eI D 6 hb2_9)]) rfl rfl rfl rfl ?_
      refine v_if_eq O 36 dX10_least_31 (by decide) (fun z2 => ?_) (fun z2 => ?_)
      · skip
        have z2 := b2i_0.mp z2
        refine v_iinc (v := nI (i + 1)) (lv' := [(0, .ref mo), (1, .int (nI n)), (2, .int (nI (i + 1)))]) O dX10_least_36 2 rfl (nI_1 i) (by decide) rfl ?_
        refine v_goto O 17 dX10_least_39 (by decide) ?_
        exact ih (i + 1) (by omega) _ _ _ _ _ _ (by rw [hF, firstN_d, iteP_f z2])
      · skip
        have z2 := b2i_1.mp z2
        refine v_iload_n O dX10_least_34 2 rfl ?_
        exact v_ireturn O T rfl rfl (by decide) (by decide) dX10_least_35 (⟨zs_10, zs_11, zs_20, zs_21, zs_22, zs2_25_4, zs2_26_5, zs2_27_6, zs2_29_7, _, _, by rw [hF, firstN_d, iteP_t z2], rfl⟩)
set_option maxRecDepth 100000 in
set_option maxHeartbeats 4000000 in
theorem sp_X10_least_2 {D : G} {mo : Nat} {ma : Nat → Nat} {c : CS} {c2 : CS} {tk : Int32} {vc : Nat} {ln : Nat} {rn : Nat} {zs_10 : Int32} {zs_11 : Int32} {zs_20 : Int32} {zs_21 : Int32} {zs_22 : Int32} {zs_25 : Int32} {zs_26 : Int32} {zs_27 : Int32} {zs_29 : Int32} {n : Nat} {wd : Nat → Int32} {nu : Nat → Int32} {fr : Nat → Int32} {tt9 : Nat → Int32} {sf : Nat → Int32} {cls : Nat → Int32} {pf : Nat → Int32} {hb : Nat → Int32} {bg : Nat} {bn : Nat} {v : VS} (hC : cOk c) (hB9 : hB c.held cls bg bn) (hM : MR wd nu fr tt9 sf bg bn v) (hva : vAsk v) (hn : n < 10000) : Sp D mX10_least 30 0 0 [.ref mo, .int (nI n)] [(mo, .inr (10, M1R ma (mZ c c2 tk vc ln rn zs_10 zs_11 zs_20 zs_21 zs_22 zs_25 zs_26 zs_27 zs_29))), ((ma 4), eI D 6 (nF c.kk)), ((ma 5), eI D 6 (nF c.vv)), ((ma 6), eI D 6 c.hd), ((ma 30), eI D 8 (nF c.crf)), ((ma 35), eI D 12 (nF c.bo)), ((ma 13), eI D 6 cls), ((ma 14), eI D 60 wd), ((ma 15), eI D 60 nu), ((ma 16), eI D 60 fr), ((ma 17), eI D 60 tt9), ((ma 18), eI D 600 sf), ((ma 24), eZ D 100 pf), ((ma 31), eI D 6 hb)] (fun r w => ∃ zs2_10 : Int32, ∃ zs2_11 : Int32, ∃ zs2_20 : Int32, ∃ zs2_21 : Int32, ∃ zs2_22 : Int32, ∃ zs2_25 : Int32, ∃ zs2_26 : Int32, ∃ zs2_27 : Int32, ∃ zs2_29 : Int32, ∃ pf2 : Nat → Int32, ∃ hb2 : Nat → Int32, r = some (.int (firstN (ngtA c v) 10000 n)) ∧ w = [(mo, .inr (10, M1R ma (mZ c c2 tk vc ln rn zs2_10 zs2_11 zs2_20 zs2_21 zs2_22 zs2_25 zs2_26 zs2_27 zs2_29))), ((ma 4), eI D 6 (nF c.kk)), ((ma 5), eI D 6 (nF c.vv)), ((ma 6), eI D 6 c.hd), ((ma 30), eI D 8 (nF c.crf)), ((ma 35), eI D 12 (nF c.bo)), ((ma 13), eI D 6 cls), ((ma 14), eI D 60 wd), ((ma 15), eI D 60 nu), ((ma 16), eI D 60 fr), ((ma 17), eI D 60 tt9), ((ma 18), eI D 600 sf), ((ma 24), eZ D 100 pf2), ((ma 31), eI D 6 hb2)]) := by
  refine Sp.of (by decide) (Nat.le_of_ble_eq_true rfl) (fun X O T => ?_)
  refine v_eq (lv' := [(0, .ref mo), (1, .int (nI n))]) rfl rfl rfl rfl ?_
  have z_m := hC.1
  have z_hp := hC.2.2.2.1
  have z_wk := hC.2.2.2.2.1
  have z_rl := hC.2.2.2.2.2.1
  have z_pg := hC.2.2.2.2.2.2.2.1
  refine v_aload_n O dX10_least_0 0 rfl ?_
  refine v_iload_n O dX10_least_1 1 rfl ?_
  refine v_iconst (v := 0) O dX10_least_2 (by decide) ?_
  refine v_sipush (v := 9999) O dX10_least_3 (by decide) ?_
  refine v_cV (T := TX10) (ci := 10) (As := [.int (nI n), .int 0, .int 9999]) (wr := [(mo, .inr (10, M1R ma (mZ c c2 tk vc ln rn zs_10 zs_11 zs_20 zs_21 zs_22 zs_25 zs_26 zs_27 zs_29))), ((ma 4), eI D 6 (nF c.kk)), ((ma 5), eI D 6 (nF c.vv)), ((ma 6), eI D 6 c.hd), ((ma 30), eI D 8 (nF c.crf)), ((ma 35), eI D 12 (nF c.bo)), ((ma 13), eI D 6 cls), ((ma 14), eI D 60 wd), ((ma 15), eI D 60 nu), ((ma 16), eI D 60 fr), ((ma 17), eI D 60 tt9), ((ma 18), eI D 600 sf), ((ma 24), eZ D 100 pf), ((ma 31), eI D 6 hb)]) (st := []) O cf_X10_179 rfl (sp_X10_in_0 (mo := mo) (x := (nI n)) (h := 9999) (zn := 10000) (rfl) (by decide)) dX10_least_6 rfl rfl 0 rfl [] [0, 1, 2, 3, 4, 5, 6, 7, 8, 9, 10, 11, 12, 13] (by decide) rfl rfl (by decide) (by decide) (by decide) (Nat.le_of_ble_eq_true rfl) (by decide) (by decide) (fun r_2 w_3 h_1 => ?_)
  obtain ⟨rfl, rfl⟩ := h_1
  refine v_eq (st' := [.int (b2i (isIx (nI n) 10000))]) (ws' := [(mo, .inr (10, M1R ma (mZ c c2 tk vc ln rn zs_10 zs_11 zs_20 zs_21 zs_22 zs_25 zs_26 zs_27 zs_29))), ((ma 4), eI D 6 (nF c.kk)), ((ma 5), eI D 6 (nF c.vv)), ((ma 6), eI D 6 c.hd), ((ma 30), eI D 8 (nF c.crf)), ((ma 35), eI D 12 (nF c.bo)), ((ma 13), eI D 6 cls), ((ma 14), eI D 60 wd), ((ma 15), eI D 60 nu), ((ma 16), eI D 60 fr), ((ma 17), eI D 60 tt9), ((ma 18), eI D 600 sf), ((ma 24), eZ D 100 pf), ((ma 31), eI D 6 hb)]) rfl rfl rfl rfl ?_
  refine v_if_ne O 15 dX10_least_9 (by decide) (fun z1 => ?_) (fun z1 => ?_)
  · skip
    have z1 := b2i_1.mp z1
    refine v_iload_n O dX10_least_15 1 rfl ?_
    refine v_istore_n (lv' := [(0, .ref mo), (1, .int (nI n)), (2, .int (nI n))]) O dX10_least_16 (by decide) rfl ?_
    exact l_X10_least_2 O hC hB9 hM hva hn T 10000 n (by omega) _ _ _ _ _ _ rfl
  · skip
    have z1 := b2i_0.mp z1
    exact absurd ((isIx_nI (by omega) (by omega)).mpr hn) z1
set_option maxRecDepth 100000 in
set_option maxHeartbeats 4000000 in
theorem sp_X10_all_1 {D : G} {mo : Nat} {ma : Nat → Nat} {c : CS} {c2 : CS} {tk : Int32} {vc : Nat} {ln : Nat} {rn : Nat} {zs_10 : Int32} {zs_11 : Int32} {zs_20 : Int32} {zs_21 : Int32} {zs_22 : Int32} {zs_25 : Int32} {zs_26 : Int32} {zs_27 : Int32} {zs_29 : Int32} {n : Int32} (hn : ¬ isIx n 10000) : Sp D mX10_all 30 0 0 [.ref mo, .int n] [(mo, .inr (10, M1R ma (mZ c c2 tk vc ln rn zs_10 zs_11 zs_20 zs_21 zs_22 zs_25 zs_26 zs_27 zs_29)))] (fun r w => ∃ zs2_10 : Int32, ∃ zs2_11 : Int32, ∃ zs2_20 : Int32, ∃ zs2_21 : Int32, ∃ zs2_22 : Int32, ∃ zs2_25 : Int32, ∃ zs2_26 : Int32, ∃ zs2_27 : Int32, ∃ zs2_29 : Int32, r = some (.int (-2)) ∧ w = [(mo, .inr (10, M1R ma (mZ c c2 tk vc ln rn zs2_10 zs2_11 zs2_20 zs2_21 zs2_22 zs2_25 zs2_26 zs2_27 zs2_29)))]) := by
  refine Sp.of (by decide) (Nat.le_of_ble_eq_true rfl) (fun X O T => ?_)
  refine v_eq (lv' := [(0, .ref mo), (1, .int n)]) rfl rfl rfl rfl ?_
  refine v_aload_n O dX10_all_0 0 rfl ?_
  refine v_iload_n O dX10_all_1 1 rfl ?_
  refine v_iconst (v := 1) O dX10_all_2 (by decide) ?_
  refine v_sipush (v := 9999) O dX10_all_3 (by decide) ?_
  refine v_cV (T := TX10) (ci := 10) (As := [.int n, .int 1, .int 9999]) (wr := [(mo, .inr (10, M1R ma (mZ c c2 tk vc ln rn zs_10 zs_11 zs_20 zs_21 zs_22 zs_25 zs_26 zs_27 zs_29)))]) (st := []) O cf_X10_179 rfl (sp_X10_in_1_9999 (mo := mo) (x := n) ) dX10_all_6 rfl rfl 0 rfl [] [0] (by decide) rfl rfl (by decide) (by decide) (by decide) (Nat.le_of_ble_eq_true rfl) (by decide) (by decide) (fun r_2 w_3 h_1 => ?_)
  obtain ⟨rfl, rfl⟩ := h_1
  refine v_eq (st' := [.int (b2i (1 ≤ n ∧ n ≤ 9999))]) (ws' := [(mo, .inr (10, M1R ma (mZ c c2 tk vc ln rn zs_10 zs_11 zs_20 zs_21 zs_22 zs_25 zs_26 zs_27 zs_29)))]) rfl rfl rfl rfl ?_
  refine v_if_ne O 15 dX10_all_9 (by decide) (fun z1 => ?_) (fun z1 => ?_)
  · skip
    have z1 := b2i_1.mp z1
    exact absurd (isIx_t' (n := 10000) (m := 9999) (by decide) rfl (fun q => absurd (Int32.lt_of_lt_of_le q (Int32.le_refl _)) (Int32.not_lt.mpr (Int32.le_trans (by decide) z1.1))) (Int32.not_lt.mpr z1.2)) hn
  · skip
    have z1 := b2i_0.mp z1
    refine v_bipush (v := -2) O dX10_all_12 (by decide) ?_
    exact v_ireturn O T rfl rfl (by decide) (by decide) dX10_all_14 (⟨zs_10, zs_11, zs_20, zs_21, zs_22, zs_25, zs_26, zs_27, zs_29, rfl, rfl⟩)
set_option maxRecDepth 100000 in
set_option maxHeartbeats 4000000 in
theorem sp_X10_all_2 {D : G} {mo : Nat} {ma : Nat → Nat} {c : CS} {c2 : CS} {tk : Int32} {vc : Nat} {ln : Nat} {rn : Nat} {zs_10 : Int32} {zs_11 : Int32} {zs_20 : Int32} {zs_21 : Int32} {zs_22 : Int32} {zs_25 : Int32} {zs_26 : Int32} {zs_27 : Int32} {zs_29 : Int32} : Sp D mX10_all 30 0 0 [.ref mo, .int 0] [(mo, .inr (10, M1R ma (mZ c c2 tk vc ln rn zs_10 zs_11 zs_20 zs_21 zs_22 zs_25 zs_26 zs_27 zs_29)))] (fun r w => ∃ zs2_10 : Int32, ∃ zs2_11 : Int32, ∃ zs2_20 : Int32, ∃ zs2_21 : Int32, ∃ zs2_22 : Int32, ∃ zs2_25 : Int32, ∃ zs2_26 : Int32, ∃ zs2_27 : Int32, ∃ zs2_29 : Int32, r = some (.int (-2)) ∧ w = [(mo, .inr (10, M1R ma (mZ c c2 tk vc ln rn zs2_10 zs2_11 zs2_20 zs2_21 zs2_22 zs2_25 zs2_26 zs2_27 zs2_29)))]) := by
  refine Sp.of (by decide) (Nat.le_of_ble_eq_true rfl) (fun X O T => ?_)
  refine v_eq (lv' := [(0, .ref mo), (1, .int 0)]) rfl rfl rfl rfl ?_
  refine v_aload_n O dX10_all_0 0 rfl ?_
  refine v_iload_n O dX10_all_1 1 rfl ?_
  refine v_iconst (v := 1) O dX10_all_2 (by decide) ?_
  refine v_sipush (v := 9999) O dX10_all_3 (by decide) ?_
  refine v_cV (T := TX10) (ci := 10) (As := [.int 0, .int 1, .int 9999]) (wr := [(mo, .inr (10, M1R ma (mZ c c2 tk vc ln rn zs_10 zs_11 zs_20 zs_21 zs_22 zs_25 zs_26 zs_27 zs_29)))]) (st := []) O cf_X10_179 rfl (sp_X10_in_1_9999 (mo := mo) (x := 0) ) dX10_all_6 rfl rfl 0 rfl [] [0] (by decide) rfl rfl (by decide) (by decide) (by decide) (Nat.le_of_ble_eq_true rfl) (by decide) (by decide) (fun r_2 w_3 h_1 => ?_)
  obtain ⟨rfl, rfl⟩ := h_1
  refine v_eq (st' := [.int (b2i (1 ≤ 0 ∧ 0 ≤ 9999))]) (ws' := [(mo, .inr (10, M1R ma (mZ c c2 tk vc ln rn zs_10 zs_11 zs_20 zs_21 zs_22 zs_25 zs_26 zs_27 zs_29)))]) rfl rfl rfl rfl ?_
  refine v_if_ne O 15 dX10_all_9 (by decide) (fun z1 => ?_) (fun z1 => ?_)
  · skip
    have z1 := b2i_1.mp z1
    exact absurd z1.1 (by decide)
  · skip
    have z1 := b2i_0.mp z1
    refine v_bipush (v := -2) O dX10_all_12 (by decide) ?_
    exact v_ireturn O T rfl rfl (by decide) (by decide) dX10_all_14 (⟨zs_10, zs_11, zs_20, zs_21, zs_22, zs_25, zs_26, zs_27, zs_29, rfl, rfl⟩)
set_option maxRecDepth 100000 in
set_option maxHeartbeats 4000000 in
theorem sp_X10_greatest_1 {D : G} {mo : Nat} {ma : Nat → Nat} {c : CS} {c2 : CS} {tk : Int32} {vc : Nat} {ln : Nat} {rn : Nat} {zs_10 : Int32} {zs_11 : Int32} {zs_20 : Int32} {zs_21 : Int32} {zs_22 : Int32} {zs_25 : Int32} {zs_26 : Int32} {zs_27 : Int32} {zs_29 : Int32} {n : Int32} (hn : ¬ isIx n 10000) : Sp D mX10_greatest 30 0 0 [.ref mo, .int n] [(mo, .inr (10, M1R ma (mZ c c2 tk vc ln rn zs_10 zs_11 zs_20 zs_21 zs_22 zs_25 zs_26 zs_27 zs_29)))] (fun r w => ∃ zs2_10 : Int32, ∃ zs2_11 : Int32, ∃ zs2_20 : Int32, ∃ zs2_21 : Int32, ∃ zs2_22 : Int32, ∃ zs2_25 : Int32, ∃ zs2_26 : Int32, ∃ zs2_27 : Int32, ∃ zs2_29 : Int32, r = some (.int (-2)) ∧ w = [(mo, .inr (10, M1R ma (mZ c c2 tk vc ln rn zs2_10 zs2_11 zs2_20 zs2_21 zs2_22 zs2_25 zs2_26 zs2_27 zs2_29)))]) := by
  refine Sp.of (by decide) (Nat.le_of_ble_eq_true rfl) (fun X O T => ?_)
  refine v_eq (lv' := [(0, .ref mo), (1, .int n)]) rfl rfl rfl rfl ?_
  refine v_aload_n O dX10_greatest_0 0 rfl ?_
  refine v_iload_n O dX10_greatest_1 1 rfl ?_
  refine v_iconst (v := 1) O dX10_greatest_2 (by decide) ?_
  refine v_sipush (v := 9999) O dX10_greatest_3 (by decide) ?_
  refine v_cV (T := TX10) (ci := 10) (As := [.int n, .int 1, .int 9999]) (wr := [(mo, .inr (10, M1R ma (mZ c c2 tk vc ln rn zs_10 zs_11 zs_20 zs_21 zs_22 zs_25 zs_26 zs_27 zs_29)))]) (st := []) O cf_X10_179 rfl (sp_X10_in_1_9999 (mo := mo) (x := n) ) dX10_greatest_6 rfl rfl 0 rfl [] [0] (by decide) rfl rfl (by decide) (by decide) (by decide) (Nat.le_of_ble_eq_true rfl) (by decide) (by decide) (fun r_2 w_3 h_1 => ?_)
  obtain ⟨rfl, rfl⟩ := h_1
  refine v_eq (st' := [.int (b2i (1 ≤ n ∧ n ≤ 9999))]) (ws' := [(mo, .inr (10, M1R ma (mZ c c2 tk vc ln rn zs_10 zs_11 zs_20 zs_21 zs_22 zs_25 zs_26 zs_27 zs_29)))]) rfl rfl rfl rfl ?_
  refine v_if_ne O 15 dX10_greatest_9 (by decide) (fun z1 => ?_) (fun z1 => ?_)
  · skip
    have z1 := b2i_1.mp z1
    exact absurd (isIx_t' (n := 10000) (m := 9999) (by decide) rfl (fun q => absurd (Int32.lt_of_lt_of_le q (Int32.le_refl _)) (Int32.not_lt.mpr (Int32.le_trans (by decide) z1.1))) (Int32.not_lt.mpr z1.2)) hn
  · skip
    have z1 := b2i_0.mp z1
    refine v_bipush (v := -2) O dX10_greatest_12 (by decide) ?_
    exact v_ireturn O T rfl rfl (by decide) (by decide) dX10_greatest_14 (⟨zs_10, zs_11, zs_20, zs_21, zs_22, zs_25, zs_26, zs_27, zs_29, rfl, rfl⟩)
set_option maxRecDepth 100000 in
set_option maxHeartbeats 4000000 in
theorem sp_X10_greatest_2 {D : G} {mo : Nat} {ma : Nat → Nat} {c : CS} {c2 : CS} {tk : Int32} {vc : Nat} {ln : Nat} {rn : Nat} {zs_10 : Int32} {zs_11 : Int32} {zs_20 : Int32} {zs_21 : Int32} {zs_22 : Int32} {zs_25 : Int32} {zs_26 : Int32} {zs_27 : Int32} {zs_29 : Int32} : Sp D mX10_greatest 30 0 0 [.ref mo, .int 0] [(mo, .inr (10, M1R ma (mZ c c2 tk vc ln rn zs_10 zs_11 zs_20 zs_21 zs_22 zs_25 zs_26 zs_27 zs_29)))] (fun r w => ∃ zs2_10 : Int32, ∃ zs2_11 : Int32, ∃ zs2_20 : Int32, ∃ zs2_21 : Int32, ∃ zs2_22 : Int32, ∃ zs2_25 : Int32, ∃ zs2_26 : Int32, ∃ zs2_27 : Int32, ∃ zs2_29 : Int32, r = some (.int (-2)) ∧ w = [(mo, .inr (10, M1R ma (mZ c c2 tk vc ln rn zs2_10 zs2_11 zs2_20 zs2_21 zs2_22 zs2_25 zs2_26 zs2_27 zs2_29)))]) := by
  refine Sp.of (by decide) (Nat.le_of_ble_eq_true rfl) (fun X O T => ?_)
  refine v_eq (lv' := [(0, .ref mo), (1, .int 0)]) rfl rfl rfl rfl ?_
  refine v_aload_n O dX10_greatest_0 0 rfl ?_
  refine v_iload_n O dX10_greatest_1 1 rfl ?_
  refine v_iconst (v := 1) O dX10_greatest_2 (by decide) ?_
  refine v_sipush (v := 9999) O dX10_greatest_3 (by decide) ?_
  refine v_cV (T := TX10) (ci := 10) (As := [.int 0, .int 1, .int 9999]) (wr := [(mo, .inr (10, M1R ma (mZ c c2 tk vc ln rn zs_10 zs_11 zs_20 zs_21 zs_22 zs_25 zs_26 zs_27 zs_29)))]) (st := []) O cf_X10_179 rfl (sp_X10_in_1_9999 (mo := mo) (x := 0) ) dX10_greatest_6 rfl rfl 0 rfl [] [0] (by decide) rfl rfl (by decide) (by decide) (by decide) (Nat.le_of_ble_eq_true rfl) (by decide) (by decide) (fun r_2 w_3 h_1 => ?_)
  obtain ⟨rfl, rfl⟩ := h_1
  refine v_eq (st' := [.int (b2i (1 ≤ 0 ∧ 0 ≤ 9999))]) (ws' := [(mo, .inr (10, M1R ma (mZ c c2 tk vc ln rn zs_10 zs_11 zs_20 zs_21 zs_22 zs_25 zs_26 zs_27 zs_29)))]) rfl rfl rfl rfl ?_
  refine v_if_ne O 15 dX10_greatest_9 (by decide) (fun z1 => ?_) (fun z1 => ?_)
  · skip
    have z1 := b2i_1.mp z1
    exact absurd z1.1 (by decide)
  · skip
    have z1 := b2i_0.mp z1
    refine v_bipush (v := -2) O dX10_greatest_12 (by decide) ?_
    exact v_ireturn O T rfl rfl (by decide) (by decide) dX10_greatest_14 (⟨zs_10, zs_11, zs_20, zs_21, zs_22, zs_25, zs_26, zs_27, zs_29, rfl, rfl⟩)
set_option maxRecDepth 100000 in
set_option maxHeartbeats 4000000 in
theorem l_X10_all_3 {D : G} {X : CX} {mo : Nat} {ma : Nat → Nat} {c : CS} {c2 : CS} {tk : Int32} {vc : Nat} {ln : Nat} {rn : Nat} {zs_10 : Int32} {zs_11 : Int32} {zs_20 : Int32} {zs_21 : Int32} {zs_22 : Int32} {n : Nat} {wd : Nat → Int32} {nu : Nat → Int32} {fr : Nat → Int32} {tt9 : Nat → Int32} {sf : Nat → Int32} {cls : Nat → Int32} {bg : Nat} {bn : Nat} {v : VS} (O : Ok D X mX10_all 30 0 0) (hC : cOk c) (hB9 : hB c.held cls bg bn) (hM : MR wd nu fr tt9 sf bg bn v) (hva : vAsk v) (hn1 : 1 ≤ n) (hn : n < 10000) (T : Rt D X (fun r w => ∃ zs2_10 : Int32, ∃ zs2_11 : Int32, ∃ zs2_20 : Int32, ∃ zs2_21 : Int32, ∃ zs2_22 : Int32, ∃ zs2_25 : Int32, ∃ zs2_26 : Int32, ∃ zs2_27 : Int32, ∃ zs2_29 : Int32, ∃ pf2 : Nat → Int32, ∃ hb2 : Nat → Int32, r = some (.int (nI (cntN (ngtA c v) n 0))) ∧ w = [(mo, .inr (10, M1R ma (mZ c c2 tk vc ln rn zs2_10 zs2_11 zs2_20 zs2_21 zs2_22 zs2_25 zs2_26 zs2_27 zs2_29))), ((ma 4), eI D 6 (nF c.kk)), ((ma 5), eI D 6 (nF c.vv)), ((ma 6), eI D 6 c.hd), ((ma 30), eI D 8 (nF c.crf)), ((ma 35), eI D 12 (nF c.bo)), ((ma 13), eI D 6 cls), ((ma 14), eI D 60 wd), ((ma 15), eI D 60 nu), ((ma 16), eI D 60 fr), ((ma 17), eI D 60 tt9), ((ma 18), eI D 600 sf), ((ma 24), eZ D 100 pf2), ((ma 31), eI D 6 hb2)]) 0 0) : ∀ (t i : Nat), i + t = n → ∀ x : Nat, ∀ (zs_25 zs_26 zs_27 zs_29 : Int32) (pf hb : Nat → Int32), cntN (ngtA c v) n 0 = x + cntN (ngtA c v) t i → V D X 0 0 19 [(0, .ref mo), (1, .int (nI n)), (2, .int (nI x)), (3, .int (nI i))] [] [(mo, .inr (10, M1R ma (mZ c c2 tk vc ln rn zs_10 zs_11 zs_20 zs_21 zs_22 zs_25 zs_26 zs_27 zs_29))), ((ma 4), eI D 6 (nF c.kk)), ((ma 5), eI D 6 (nF c.vv)), ((ma 6), eI D 6 c.hd), ((ma 30), eI D 8 (nF c.crf)), ((ma 35), eI D 12 (nF c.bo)), ((ma 13), eI D 6 cls), ((ma 14), eI D 60 wd), ((ma 15), eI D 60 nu), ((ma 16), eI D 60 fr), ((ma 17), eI D 60 tt9), ((ma 18), eI D 600 sf), ((ma 24), eZ D 100 pf), ((ma 31), eI D 6 hb)] := by
  intro t
  induction t with
  | zero =>
    intro i hi x zs_25 zs_26 zs_27 zs_29 pf hb hF
    refine v_iload_n O dX10_all_19 3 rfl ?_
    refine v_iload_n O dX10_all_20 1 rfl ?_
    refine v_icmp_ge O 46 dX10_all_21 (by decide) (fun z1 => ?_) (fun z1 => ?_)
    · skip
      have z1 := (c_le' (x := nI i) (y := nI n) (a := i) (b := n) rfl rfl (by omega) (by omega)).mp z1
      refine v_iload_n O dX10_all_46 2 rfl ?_
      exact v_ireturn O T rfl rfl (by decide) (by decide) dX10_all_47 (⟨zs_10, zs_11, zs_20, zs_21, zs_22, zs_25, zs_26, zs_27, zs_29, _, _, by rw [hF]; rfl, rfl⟩)
    · skip
      have z1 := (not_congr (c_le' (x := nI i) (y := nI n) (a := i) (b := n) rfl rfl (by omega) (by omega))).mp z1
      exact absurd z1 (by omega)
  | succ t ih =>
    intro i hi x zs_25 zs_26 zs_27 zs_29 pf hb hF
    refine v_iload_n O dX10_all_19 3 rfl ?_
    refine v_iload_n O dX10_all_20 1 rfl ?_
    refine v_icmp_ge O 46 dX10_all_21 (by decide) (fun z1 => ?_) (fun z1 => ?_)
    · skip
      have z1 := (c_le' (x := nI i) (y := nI n) (a := i) (b := n) rfl rfl (by omega) (by omega)).mp z1
      exact absurd z1 (by omega)
    · skip
      have z1 := (not_congr (c_le' (x := nI i) (y := nI n) (a := i) (b := n) rfl rfl (by omega) (by omega))).mp z1
      refine v_iload_n O dX10_all_24 2 rfl ?_
      refine v_aload_n O dX10_all_25 0 rfl ?_
      refine v_iload_n O dX10_all_26 3 rfl ?_
      refine v_cV (T := TX10) (ci := 10) (As := [.int (nI i)]) (wr := []) (st := [.int (nI x)]) O cf_X10_290 rfl (sp_X10_isNight (mo := mo) (ma := ma) (c := c) (c2 := c2) (tk := tk) (vc := vc) (ln := ln) (rn := rn) (zs_10 := zs_10) (zs_11 := zs_11) (zs_20 := zs_20) (zs_21 := zs_21) (zs_22 := zs_22) (zs_25 := zs_25) (zs_26 := zs_26) (zs_27 := zs_27) (zs_29 := zs_29) (wd := wd) (nu := nu) (fr := fr) (tt9 := tt9) (sf := sf) (cls := cls) (pf := pf) (hb := hb) (bg := bg) (bn := bn) (v := v) (h := i) (hB9) (hM) (hC) (hva) (by omega)) dX10_all_27 rfl rfl 0 rfl [0, 1, 2, 3, 4, 5, 6, 7, 8, 9, 10, 11, 12, 13] [] (by decide) rfl rfl (by decide) (by decide) (by decide) (Nat.le_of_ble_eq_true rfl) (by decide) (by decide) (fun r_2 w_3 h_1 => ?_)
      obtain ⟨zs2_25_4, zs2_26_5, zs2_27_6, zs2_29_7, pf2_8, hb2_9, rfl, rfl⟩ := h_1
      refine v_eq (st' := [.int (b2i (ngtA c v i)), .int (nI x)]) (ws' := [(mo, .inr (10, M1R ma (mZ c c2 tk vc ln rn zs_10 zs_11 zs_20 zs_21 zs_22 zs2_25_4 zs2_26_5 zs2_27_6 zs2_29_7))), ((ma 4), eI D 6 (nF c.kk)), ((ma 5), eI D 6 (nF c.vv)), ((ma 6), eI D 6 c.hd), ((ma 30), eI D 8 (nF c.crf)), ((ma 35), eI D 12 (nF c.bo)), ((ma 13), eI D 6 cls), ((ma 14), eI D 60 wd), ((ma 15), eI D 60 nu), ((ma 16), eI D 60 fr), ((ma 17), eI D 60 tt9), ((ma 18), eI D 600 sf), ((ma 24), eZ D 100 pf2_8), ((ma 31), eI D 6 hb2_9)]) rfl rfl rfl rfl ?_
      refine v_if_eq O 37 dX10_all_30 (by decide) (fun z2 => ?_) (fun z2 => ?_)
      · skip
        have z2 := b2i_0.mp z2
        refine v_iconst (v := 0) O dX10_all_37 (by decide) ?_
        refine v_iadd O dX10_all_38 ?_
        refine v_top (y := nI (x + 0)) (nI_add x 0) ?_
        refine v_istore_n (lv' := [(0, .ref mo), (1, .int (nI n)), (2, .int (nI (x + 0))), (3, .int (nI i))]) O dX10_all_39 (by decide) rfl ?_
        refine v_iinc (v := nI (i + 1)) (lv' := [(0, .ref mo), (1, .int (nI n)), (2, .int (nI (x + 0))), (3, .int (nI (i + 1)))]) O dX10_all_40 3 rfl (nI_1 i) (by decide) rfl ?_
        refine v_goto O 19 dX10_all_43 (by decide) ?_
        exact ih (i + 1) (by omega) _ _ _ _ _ _ _ (by rw [hF, cntN_d, iteP_f z2]; omega)
      · skip
        have z2 := b2i_1.mp z2
        refine v_iconst (v := 1) O dX10_all_33 (by decide) ?_
        refine v_goto O 38 dX10_all_34 (by decide) ?_
        refine v_iadd O dX10_all_38 ?_
        refine v_top (y := nI (x + 1)) (nI_add x 1) ?_
        refine v_istore_n (lv' := [(0, .ref mo), (1, .int (nI n)), (2, .int (nI (x + 1))), (3, .int (nI i))]) O dX10_all_39 (by decide) rfl ?_
        refine v_iinc (v := nI (i + 1)) (lv' := [(0, .ref mo), (1, .int (nI n)), (2, .int (nI (x + 1))), (3, .int (nI (i + 1)))]) O dX10_all_40 3 rfl (nI_1 i) (by decide) rfl ?_
        refine v_goto O 19 dX10_all_43 (by decide) ?_
        exact ih (i + 1) (by omega) _ _ _ _ _ _ _ (by rw [hF, cntN_d, iteP_t z2]; omega)
set_option maxRecDepth 100000 in
set_option maxHeartbeats 4000000 in
theorem sp_X10_all_3 {D : G} {mo : Nat} {ma : Nat → Nat} {c : CS} {c2 : CS} {tk : Int32} {vc : Nat} {ln : Nat} {rn : Nat} {zs_10 : Int32} {zs_11 : Int32} {zs_20 : Int32} {zs_21 : Int32} {zs_22 : Int32} {zs_25 : Int32} {zs_26 : Int32} {zs_27 : Int32} {zs_29 : Int32} {n : Nat} {wd : Nat → Int32} {nu : Nat → Int32} {fr : Nat → Int32} {tt9 : Nat → Int32} {sf : Nat → Int32} {cls : Nat → Int32} {pf : Nat → Int32} {hb : Nat → Int32} {bg : Nat} {bn : Nat} {v : VS} (hC : cOk c) (hB9 : hB c.held cls bg bn) (hM : MR wd nu fr tt9 sf bg bn v) (hva : vAsk v) (hn1 : 1 ≤ n) (hn : n < 10000) : Sp D mX10_all 30 0 0 [.ref mo, .int (nI n)] [(mo, .inr (10, M1R ma (mZ c c2 tk vc ln rn zs_10 zs_11 zs_20 zs_21 zs_22 zs_25 zs_26 zs_27 zs_29))), ((ma 4), eI D 6 (nF c.kk)), ((ma 5), eI D 6 (nF c.vv)), ((ma 6), eI D 6 c.hd), ((ma 30), eI D 8 (nF c.crf)), ((ma 35), eI D 12 (nF c.bo)), ((ma 13), eI D 6 cls), ((ma 14), eI D 60 wd), ((ma 15), eI D 60 nu), ((ma 16), eI D 60 fr), ((ma 17), eI D 60 tt9), ((ma 18), eI D 600 sf), ((ma 24), eZ D 100 pf), ((ma 31), eI D 6 hb)] (fun r w => ∃ zs2_10 : Int32, ∃ zs2_11 : Int32, ∃ zs2_20 : Int32, ∃ zs2_21 : Int32, ∃ zs2_22 : Int32, ∃ zs2_25 : Int32, ∃ zs2_26 : Int32, ∃ zs2_27 : Int32, ∃ zs2_29 : Int32, ∃ pf2 : Nat → Int32, ∃ hb2 : Nat → Int32, r = some (.int (nI (cntN (ngtA c v) n 0))) ∧ w = [(mo, .inr (10, M1R ma (mZ c c2 tk vc ln rn zs2_10 zs2_11 zs2_20 zs2_21 zs2_22 zs2_25 zs2_26 zs2_27 zs2_29))), ((ma 4), eI D 6 (nF c.kk)), ((ma 5), eI D 6 (nF c.vv)), ((ma 6), eI D 6 c.hd), ((ma 30), eI D 8 (nF c.crf)), ((ma 35), eI D 12 (nF c.bo)), ((ma 13), eI D 6 cls), ((ma 14), eI D 60 wd), ((ma 15), eI D 60 nu), ((ma 16), eI D 60 fr), ((ma 17), eI D 60 tt9), ((ma 18), eI D 600 sf), ((ma 24), eZ D 100 pf2), ((ma 31), eI D 6 hb2)]) := by
  refine Sp.of (by decide) (Nat.le_of_ble_eq_true rfl) (fun X O T => ?_)
  refine v_eq (lv' := [(0, .ref mo), (1, .int (nI n))]) rfl rfl rfl rfl ?_
  have z_m := hC.1
  have z_hp := hC.2.2.2.1
  have z_wk := hC.2.2.2.2.1
  have z_rl := hC.2.2.2.2.2.1
  have z_pg := hC.2.2.2.2.2.2.2.1
  refine v_aload_n O dX10_all_0 0 rfl ?_
  refine v_iload_n O dX10_all_1 1 rfl ?_
  refine v_iconst (v := 1) O dX10_all_2 (by decide) ?_
  refine v_sipush (v := 9999) O dX10_all_3 (by decide) ?_
  refine v_cV (T := TX10) (ci := 10) (As := [.int (nI n), .int 1, .int 9999]) (wr := [(mo, .inr (10, M1R ma (mZ c c2 tk vc ln rn zs_10 zs_11 zs_20 zs_21 zs_22 zs_25 zs_26 zs_27 zs_29))), ((ma 4), eI D 6 (nF c.kk)), ((ma 5), eI D 6 (nF c.vv)), ((ma 6), eI D 6 c.hd), ((ma 30), eI D 8 (nF c.crf)), ((ma 35), eI D 12 (nF c.bo)), ((ma 13), eI D 6 cls), ((ma 14), eI D 60 wd), ((ma 15), eI D 60 nu), ((ma 16), eI D 60 fr), ((ma 17), eI D 60 tt9), ((ma 18), eI D 600 sf), ((ma 24), eZ D 100 pf), ((ma 31), eI D 6 hb)]) (st := []) O cf_X10_179 rfl (sp_X10_in_1_9999 (mo := mo) (x := (nI n)) ) dX10_all_6 rfl rfl 0 rfl [] [0, 1, 2, 3, 4, 5, 6, 7, 8, 9, 10, 11, 12, 13] (by decide) rfl rfl (by decide) (by decide) (by decide) (Nat.le_of_ble_eq_true rfl) (by decide) (by decide) (fun r_2 w_3 h_1 => ?_)
  obtain ⟨rfl, rfl⟩ := h_1
  refine v_eq (st' := [.int (b2i (1 ≤ (nI n) ∧ (nI n) ≤ 9999))]) (ws' := [(mo, .inr (10, M1R ma (mZ c c2 tk vc ln rn zs_10 zs_11 zs_20 zs_21 zs_22 zs_25 zs_26 zs_27 zs_29))), ((ma 4), eI D 6 (nF c.kk)), ((ma 5), eI D 6 (nF c.vv)), ((ma 6), eI D 6 c.hd), ((ma 30), eI D 8 (nF c.crf)), ((ma 35), eI D 12 (nF c.bo)), ((ma 13), eI D 6 cls), ((ma 14), eI D 60 wd), ((ma 15), eI D 60 nu), ((ma 16), eI D 60 fr), ((ma 17), eI D 60 tt9), ((ma 18), eI D 600 sf), ((ma 24), eZ D 100 pf), ((ma 31), eI D 6 hb)]) rfl rfl rfl rfl ?_
  refine v_if_ne O 15 dX10_all_9 (by decide) (fun z1 => ?_) (fun z1 => ?_)
  · skip
    have z1 := b2i_1.mp z1
    refine v_iconst (v := 0) O dX10_all_15 (by decide) ?_
    refine v_istore_n (lv' := [(0, .ref mo), (1, .int (nI n)), (2, .int 0)]) O dX10_all_16 (by decide) rfl ?_
    refine v_iconst (v := 0) O dX10_all_17 (by decide) ?_
    refine v_istore_n (lv' := [(0, .ref mo), (1, .int (nI n)), (2, .int 0), (3, .int 0)]) O dX10_all_18 (by decide) rfl ?_
    refine v_eq (lv' := [(0, .ref mo), (1, .int (nI n)), (2, .int (nI 0)), (3, .int (nI 0))]) rfl rfl rfl rfl ?_
    exact l_X10_all_3 O hC hB9 hM hva hn1 hn T n 0 (by omega) 0 _ _ _ _ _ _ (Nat.zero_add _).symm
  · skip
    have z1 := b2i_0.mp z1
    exact absurd (⟨(c_le (x := 1) (y := nI n) (a := 1) rfl rfl (by omega) (by omega)).mpr (by omega), (c_le (x := nI n) (y := 9999) (b := 9999) rfl rfl (by omega) (by omega)).mpr (by omega)⟩) z1
set_option maxRecDepth 100000 in
set_option maxHeartbeats 4000000 in
theorem l_X10_greatest {D : G} {X : CX} {mo : Nat} {ma : Nat → Nat} {c : CS} {c2 : CS} {tk : Int32} {vc : Nat} {ln : Nat} {rn : Nat} {zs_10 : Int32} {zs_11 : Int32} {zs_20 : Int32} {zs_21 : Int32} {zs_22 : Int32} {n : Nat} {wd : Nat → Int32} {nu : Nat → Int32} {fr : Nat → Int32} {tt9 : Nat → Int32} {sf : Nat → Int32} {cls : Nat → Int32} {bg : Nat} {bn : Nat} {v : VS} (O : Ok D X mX10_greatest 30 0 0) (hC : cOk c) (hB9 : hB c.held cls bg bn) (hM : MR wd nu fr tt9 sf bg bn v) (hva : vAsk v) (hn1 : 1 ≤ n) (hn : n < 10000) (T : Rt D X (fun r w => ∃ zs2_10 : Int32, ∃ zs2_11 : Int32, ∃ zs2_20 : Int32, ∃ zs2_21 : Int32, ∃ zs2_22 : Int32, ∃ zs2_25 : Int32, ∃ zs2_26 : Int32, ∃ zs2_27 : Int32, ∃ zs2_29 : Int32, ∃ pf2 : Nat → Int32, ∃ hb2 : Nat → Int32, r = some (.int (lastN (ngtA c v) n)) ∧ w = [(mo, .inr (10, M1R ma (mZ c c2 tk vc ln rn zs2_10 zs2_11 zs2_20 zs2_21 zs2_22 zs2_25 zs2_26 zs2_27 zs2_29))), ((ma 4), eI D 6 (nF c.kk)), ((ma 5), eI D 6 (nF c.vv)), ((ma 6), eI D 6 c.hd), ((ma 30), eI D 8 (nF c.crf)), ((ma 35), eI D 12 (nF c.bo)), ((ma 13), eI D 6 cls), ((ma 14), eI D 60 wd), ((ma 15), eI D 60 nu), ((ma 16), eI D 60 fr), ((ma 17), eI D 60 tt9), ((ma 18), eI D 600 sf), ((ma 24), eZ D 100 pf2), ((ma 31), eI D 6 hb2)]) 0 0) : ∀ (t : Nat) (u : Int32), u = nI t - 1 → ∀ (zs_25 zs_26 zs_27 zs_29 : Int32) (pf hb : Nat → Int32), t ≤ n → lastN (ngtA c v) n = lastN (ngtA c v) t → V D X 0 0 19 [(0, .ref mo), (1, .int (nI n)), (2, .int u)] [] [(mo, .inr (10, M1R ma (mZ c c2 tk vc ln rn zs_10 zs_11 zs_20 zs_21 zs_22 zs_25 zs_26 zs_27 zs_29))), ((ma 4), eI D 6 (nF c.kk)), ((ma 5), eI D 6 (nF c.vv)), ((ma 6), eI D 6 c.hd), ((ma 30), eI D 8 (nF c.crf)), ((ma 35), eI D 12 (nF c.bo)), ((ma 13), eI D 6 cls), ((ma 14), eI D 60 wd), ((ma 15), eI D 60 nu), ((ma 16), eI D 60 fr), ((ma 17), eI D 60 tt9), ((ma 18), eI D 600 sf), ((ma 24), eZ D 100 pf), ((ma 31), eI D 6 hb)] := by
  intro t
  induction t with
  | zero =>
    intro u hu zs_25 zs_26 zs_27 zs_29 pf hb ht hF
    refine v_iload_n O dX10_greatest_19 2 rfl ?_
    refine v_if_lt O 39 dX10_greatest_20 (by decide) (fun z0 => ?_) (fun z0 => ?_)
    · skip
      refine v_bipush (v := -5) O dX10_greatest_39 (by decide) ?_
      exact v_ireturn O T rfl rfl (by decide) (by decide) dX10_greatest_41 (⟨zs_10, zs_11, zs_20, zs_21, zs_22, zs_25, zs_26, zs_27, zs_29, _, _, by rw [hF]; rfl, rfl⟩)
    · skip
      subst hu; exact absurd z0 (by decide)
  | succ t ih =>
    intro u hu zs_25 zs_26 zs_27 zs_29 pf hb ht hF
    refine v_iload_n O dX10_greatest_19 2 rfl ?_
    refine v_if_lt O 39 dX10_greatest_20 (by decide) (fun z0 => ?_) (fun z0 => ?_)
    · skip
      subst hu; rw [nI_p] at z0; exact absurd z0 (nI_pos (by omega))
    · skip
      have hu : u = nI t := hu.trans (nI_p t)
      subst hu
      refine v_aload_n O dX10_greatest_23 0 rfl ?_
      refine v_iload_n O dX10_greatest_24 2 rfl ?_
      refine v_cV (T := TX10) (ci := 10) (As := [.int (nI t)]) (wr := []) (st := []) O cf_X10_290 rfl (sp_X10_isNight (mo := mo) (ma := ma) (c := c) (c2 := c2) (tk := tk) (vc := vc) (ln := ln) (rn := rn) (zs_10 := zs_10) (zs_11 := zs_11) (zs_20 := zs_20) (zs_21 := zs_21) (zs_22 := zs_22) (zs_25 := zs_25) (zs_26 := zs_26) (zs_27 := zs_27) (zs_29 := zs_29) (wd := wd) (nu := nu) (fr := fr) (tt9 := tt9) (sf := sf) (cls := cls) (pf := pf) (hb := hb) (bg := bg) (bn := bn) (v := v) (h := t) (hB9) (hM) (hC) (hva) (by omega)) dX10_greatest_25 rfl rfl 0 rfl [0, 1, 2, 3, 4, 5, 6, 7, 8, 9, 10, 11, 12, 13] [] (by decide) rfl rfl (by decide) (by decide) (by decide) (Nat.le_of_ble_eq_true rfl) (by decide) (by decide) (fun r_2 w_3 h_1 => ?_)
      obtain ⟨zs2_25_4, zs2_26_5, zs2_27_6, zs2_29_7, pf2_8, hb2_9, rfl, rfl⟩ := h_1
      refine v_eq (st' := [.int (b2i (ngtA c v t))]) (ws' := [(mo, .inr (10, M1R ma (mZ c c2 tk vc ln rn zs_10 zs_11 zs_20 zs_21 zs_22 zs2_25_4 zs2_26_5 zs2_27_6 zs2_29_7))), ((ma 4), eI D 6 (nF c.kk)), ((ma 5), eI D 6 (nF c.vv)), ((ma 6), eI D 6 c.hd), ((ma 30), eI D 8 (nF c.crf)), ((ma 35), eI D 12 (nF c.bo)), ((ma 13), eI D 6 cls), ((ma 14), eI D 60 wd), ((ma 15), eI D 60 nu), ((ma 16), eI D 60 fr), ((ma 17), eI D 60 tt9), ((ma 18), eI D 600 sf), ((ma 24), eZ D 100 pf2_8), ((ma 31), eI D 6 hb2_9)]) rfl rfl rfl rfl ?_
      refine v_if_eq O 33 dX10_greatest_28 (by decide) (fun z2 => ?_) (fun z2 => ?_)
      · skip
        have z2 := b2i_0.mp z2
        refine v_iinc (v := (nI t) + (-1)) (lv' := [(0, .ref mo), (1, .int (nI n)), (2, .int ((nI t) + (-1)))]) O dX10_greatest_33 2 rfl (rfl) (by decide) rfl ?_
        refine v_goto O 19 dX10_greatest_36 (by decide) ?_
        exact ih _ (by rw [Int32.sub_eq_add_neg]) _ _ _ _ _ _ (by omega) (by rw [hF, lastN_d, iteP_f z2])
      · skip
        have z2 := b2i_1.mp z2
        refine v_iload_n O dX10_greatest_31 2 rfl ?_
        exact v_ireturn O T rfl rfl (by decide) (by decide) dX10_greatest_32 (⟨zs_10, zs_11, zs_20, zs_21, zs_22, zs2_25_4, zs2_26_5, zs2_27_6, zs2_29_7, _, _, by rw [hF, lastN_d, iteP_t z2], rfl⟩)
set_option maxRecDepth 100000 in
set_option maxHeartbeats 4000000 in
theorem sp_X10_greatest_3 {D : G} {mo : Nat} {ma : Nat → Nat} {c : CS} {c2 : CS} {tk : Int32} {vc : Nat} {ln : Nat} {rn : Nat} {zs_10 : Int32} {zs_11 : Int32} {zs_20 : Int32} {zs_21 : Int32} {zs_22 : Int32} {zs_25 : Int32} {zs_26 : Int32} {zs_27 : Int32} {zs_29 : Int32} {n : Nat} {wd : Nat → Int32} {nu : Nat → Int32} {fr : Nat → Int32} {tt9 : Nat → Int32} {sf : Nat → Int32} {cls : Nat → Int32} {pf : Nat → Int32} {hb : Nat → Int32} {bg : Nat} {bn : Nat} {v : VS} (hC : cOk c) (hB9 : hB c.held cls bg bn) (hM : MR wd nu fr tt9 sf bg bn v) (hva : vAsk v) (hn1 : 1 ≤ n) (hn : n < 10000) : Sp D mX10_greatest 30 0 0 [.ref mo, .int (nI n)] [(mo, .inr (10, M1R ma (mZ c c2 tk vc ln rn zs_10 zs_11 zs_20 zs_21 zs_22 zs_25 zs_26 zs_27 zs_29))), ((ma 4), eI D 6 (nF c.kk)), ((ma 5), eI D 6 (nF c.vv)), ((ma 6), eI D 6 c.hd), ((ma 30), eI D 8 (nF c.crf)), ((ma 35), eI D 12 (nF c.bo)), ((ma 13), eI D 6 cls), ((ma 14), eI D 60 wd), ((ma 15), eI D 60 nu), ((ma 16), eI D 60 fr), ((ma 17), eI D 60 tt9), ((ma 18), eI D 600 sf), ((ma 24), eZ D 100 pf), ((ma 31), eI D 6 hb)] (fun r w => ∃ zs2_10 : Int32, ∃ zs2_11 : Int32, ∃ zs2_20 : Int32, ∃ zs2_21 : Int32, ∃ zs2_22 : Int32, ∃ zs2_25 : Int32, ∃ zs2_26 : Int32, ∃ zs2_27 : Int32, ∃ zs2_29 : Int32, ∃ pf2 : Nat → Int32, ∃ hb2 : Nat → Int32, r = some (.int (lastN (ngtA c v) n)) ∧ w = [(mo, .inr (10, M1R ma (mZ c c2 tk vc ln rn zs2_10 zs2_11 zs2_20 zs2_21 zs2_22 zs2_25 zs2_26 zs2_27 zs2_29))), ((ma 4), eI D 6 (nF c.kk)), ((ma 5), eI D 6 (nF c.vv)), ((ma 6), eI D 6 c.hd), ((ma 30), eI D 8 (nF c.crf)), ((ma 35), eI D 12 (nF c.bo)), ((ma 13), eI D 6 cls), ((ma 14), eI D 60 wd), ((ma 15), eI D 60 nu), ((ma 16), eI D 60 fr), ((ma 17), eI D 60 tt9), ((ma 18), eI D 600 sf), ((ma 24), eZ D 100 pf2), ((ma 31), eI D 6 hb2)]) := by
  refine Sp.of (by decide) (Nat.le_of_ble_eq_true rfl) (fun X O T => ?_)
  refine v_eq (lv' := [(0, .ref mo), (1, .int (nI n))]) rfl rfl rfl rfl ?_
  have z_m := hC.1
  have z_hp := hC.2.2.2.1
  have z_wk := hC.2.2.2.2.1
  have z_rl := hC.2.2.2.2.2.1
  have z_pg := hC.2.2.2.2.2.2.2.1
  refine v_aload_n O dX10_greatest_0 0 rfl ?_
  refine v_iload_n O dX10_greatest_1 1 rfl ?_
  refine v_iconst (v := 1) O dX10_greatest_2 (by decide) ?_
  refine v_sipush (v := 9999) O dX10_greatest_3 (by decide) ?_
  refine v_cV (T := TX10) (ci := 10) (As := [.int (nI n), .int 1, .int 9999]) (wr := [(mo, .inr (10, M1R ma (mZ c c2 tk vc ln rn zs_10 zs_11 zs_20 zs_21 zs_22 zs_25 zs_26 zs_27 zs_29))), ((ma 4), eI D 6 (nF c.kk)), ((ma 5), eI D 6 (nF c.vv)), ((ma 6), eI D 6 c.hd), ((ma 30), eI D 8 (nF c.crf)), ((ma 35), eI D 12 (nF c.bo)), ((ma 13), eI D 6 cls), ((ma 14), eI D 60 wd), ((ma 15), eI D 60 nu), ((ma 16), eI D 60 fr), ((ma 17), eI D 60 tt9), ((ma 18), eI D 600 sf), ((ma 24), eZ D 100 pf), ((ma 31), eI D 6 hb)]) (st := []) O cf_X10_179 rfl (sp_X10_in_1_9999 (mo := mo) (x := (nI n)) ) dX10_greatest_6 rfl rfl 0 rfl [] [0, 1, 2, 3, 4, 5, 6, 7, 8, 9, 10, 11, 12, 13] (by decide) rfl rfl (by decide) (by decide) (by decide) (Nat.le_of_ble_eq_true rfl) (by decide) (by decide) (fun r_2 w_3 h_1 => ?_)
  obtain ⟨rfl, rfl⟩ := h_1
  refine v_eq (st' := [.int (b2i (1 ≤ (nI n) ∧ (nI n) ≤ 9999))]) (ws' := [(mo, .inr (10, M1R ma (mZ c c2 tk vc ln rn zs_10 zs_11 zs_20 zs_21 zs_22 zs_25 zs_26 zs_27 zs_29))), ((ma 4), eI D 6 (nF c.kk)), ((ma 5), eI D 6 (nF c.vv)), ((ma 6), eI D 6 c.hd), ((ma 30), eI D 8 (nF c.crf)), ((ma 35), eI D 12 (nF c.bo)), ((ma 13), eI D 6 cls), ((ma 14), eI D 60 wd), ((ma 15), eI D 60 nu), ((ma 16), eI D 60 fr), ((ma 17), eI D 60 tt9), ((ma 18), eI D 600 sf), ((ma 24), eZ D 100 pf), ((ma 31), eI D 6 hb)]) rfl rfl rfl rfl ?_
  refine v_if_ne O 15 dX10_greatest_9 (by decide) (fun z1 => ?_) (fun z1 => ?_)
  · skip
    have z1 := b2i_1.mp z1
    refine v_iload_n O dX10_greatest_15 1 rfl ?_
    refine v_iconst (v := 1) O dX10_greatest_16 (by decide) ?_
    refine v_isub O dX10_greatest_17 ?_
    refine v_istore_n (lv' := [(0, .ref mo), (1, .int (nI n)), (2, .int ((nI n) - 1))]) O dX10_greatest_18 (by decide) rfl ?_
    exact l_X10_greatest O hC hB9 hM hva hn1 hn T n _ rfl _ _ _ _ _ _ (Nat.le_refl _) rfl
  · skip
    have z1 := b2i_0.mp z1
    exact absurd (⟨(c_le (x := 1) (y := nI n) (a := 1) rfl rfl (by omega) (by omega)).mpr (by omega), (c_le (x := nI n) (y := 9999) (b := 9999) rfl rfl (by omega) (by omega)).mpr (by omega)⟩) z1
set_option maxRecDepth 100000 in
set_option maxHeartbeats 4000000 in
theorem sp_X10_was_1 {D : G} {mo : Nat} {ma : Nat → Nat} {c : CS} {c2 : CS} {tk : Int32} {vc : Nat} {ln : Nat} {rn : Nat} {zs_10 : Int32} {zs_11 : Int32} {zs_20 : Int32} {zs_21 : Int32} {zs_22 : Int32} {zs_25 : Int32} {zs_26 : Int32} {zs_27 : Int32} {zs_29 : Int32} {n : Int32} (hn : ¬ isIx n 10000) : Sp D mX10_was 30 0 0 [.ref mo, .int n] [(mo, .inr (10, M1R ma (mZ c c2 tk vc ln rn zs_10 zs_11 zs_20 zs_21 zs_22 zs_25 zs_26 zs_27 zs_29)))] (fun r w => ∃ zs2_10 : Int32, ∃ zs2_11 : Int32, ∃ zs2_20 : Int32, ∃ zs2_21 : Int32, ∃ zs2_22 : Int32, ∃ zs2_25 : Int32, ∃ zs2_26 : Int32, ∃ zs2_27 : Int32, ∃ zs2_29 : Int32, r = some (.int (-2)) ∧ w = [(mo, .inr (10, M1R ma (mZ c c2 tk vc ln rn zs2_10 zs2_11 zs2_20 zs2_21 zs2_22 zs2_25 zs2_26 zs2_27 zs2_29)))]) := by
  refine Sp.of (by decide) (Nat.le_of_ble_eq_true rfl) (fun X O T => ?_)
  refine v_eq (lv' := [(0, .ref mo), (1, .int n)]) rfl rfl rfl rfl ?_
  refine v_aload_n O dX10_was_0 0 rfl ?_
  refine v_iload_n O dX10_was_1 1 rfl ?_
  refine v_iconst (v := 0) O dX10_was_2 (by decide) ?_
  refine v_sipush (v := 9999) O dX10_was_3 (by decide) ?_
  refine v_cV (T := TX10) (ci := 10) (As := [.int n, .int 0, .int 9999]) (wr := [(mo, .inr (10, M1R ma (mZ c c2 tk vc ln rn zs_10 zs_11 zs_20 zs_21 zs_22 zs_25 zs_26 zs_27 zs_29)))]) (st := []) O cf_X10_179 rfl (sp_X10_in_0 (mo := mo) (x := n) (h := 9999) (zn := 10000) (rfl) (by decide)) dX10_was_6 rfl rfl 0 rfl [] [0] (by decide) rfl rfl (by decide) (by decide) (by decide) (Nat.le_of_ble_eq_true rfl) (by decide) (by decide) (fun r_2 w_3 h_1 => ?_)
  obtain ⟨rfl, rfl⟩ := h_1
  refine v_eq (st' := [.int (b2i (isIx n 10000))]) (ws' := [(mo, .inr (10, M1R ma (mZ c c2 tk vc ln rn zs_10 zs_11 zs_20 zs_21 zs_22 zs_25 zs_26 zs_27 zs_29)))]) rfl rfl rfl rfl ?_
  refine v_if_ne O 15 dX10_was_9 (by decide) (fun z1 => ?_) (fun z1 => ?_)
  · skip
    have z1 := b2i_1.mp z1
    exact absurd z1 hn
  · skip
    have z1 := b2i_0.mp z1
    refine v_bipush (v := -2) O dX10_was_12 (by decide) ?_
    exact v_ireturn O T rfl rfl (by decide) (by decide) dX10_was_14 (⟨zs_10, zs_11, zs_20, zs_21, zs_22, zs_25, zs_26, zs_27, zs_29, rfl, rfl⟩)
set_option maxRecDepth 100000 in
set_option maxHeartbeats 4000000 in
theorem l_X10_was_2 {D : G} {X : CX} {mo : Nat} {ma : Nat → Nat} {c : CS} {c2 : CS} {tk : Int32} {vc : Nat} {ln : Nat} {rn : Nat} {zs_10 : Int32} {zs_11 : Int32} {zs_20 : Int32} {zs_21 : Int32} {zs_22 : Int32} {n : Nat} {wd : Nat → Int32} {nu : Nat → Int32} {fr : Nat → Int32} {tt9 : Nat → Int32} {sf : Nat → Int32} {cls : Nat → Int32} {bg : Nat} {bn : Nat} {v : VS} (O : Ok D X mX10_was 30 0 0) (hC : cOk c) (hB9 : hB c.held cls bg bn) (hM : MR wd nu fr tt9 sf bg bn v) (hva : vAsk v) (hn : n < 10000) (T : Rt D X (fun r w => ∃ zs2_10 : Int32, ∃ zs2_11 : Int32, ∃ zs2_20 : Int32, ∃ zs2_21 : Int32, ∃ zs2_22 : Int32, ∃ zs2_25 : Int32, ∃ zs2_26 : Int32, ∃ zs2_27 : Int32, ∃ zs2_29 : Int32, ∃ pf2 : Nat → Int32, ∃ hb2 : Nat → Int32, r = some (.int (firstN (levA c v n) 10000 0)) ∧ w = [(mo, .inr (10, M1R ma (mZ c c2 tk vc ln rn zs2_10 zs2_11 zs2_20 zs2_21 zs2_22 zs2_25 zs2_26 zs2_27 zs2_29))), ((ma 4), eI D 6 (nF c.kk)), ((ma 5), eI D 6 (nF c.vv)), ((ma 6), eI D 6 c.hd), ((ma 30), eI D 8 (nF c.crf)), ((ma 35), eI D 12 (nF c.bo)), ((ma 13), eI D 6 cls), ((ma 14), eI D 60 wd), ((ma 15), eI D 60 nu), ((ma 16), eI D 60 fr), ((ma 17), eI D 60 tt9), ((ma 18), eI D 600 sf), ((ma 24), eZ D 100 pf2), ((ma 31), eI D 6 hb2)]) 0 0) : ∀ (t i : Nat), i + t = 10000 → ∀ (zs_25 zs_26 zs_27 zs_29 : Int32) (pf hb : Nat → Int32), firstN (levA c v n) 10000 0 = firstN (levA c v n) t i → V D X 0 0 17 [(0, .ref mo), (1, .int (nI n)), (2, .int (nI i))] [] [(mo, .inr (10, M1R ma (mZ c c2 tk vc ln rn zs_10 zs_11 zs_20 zs_21 zs_22 zs_25 zs_26 zs_27 zs_29))), ((ma 4), eI D 6 (nF c.kk)), ((ma 5), eI D 6 (nF c.vv)), ((ma 6), eI D 6 c.hd), ((ma 30), eI D 8 (nF c.crf)), ((ma 35), eI D 12 (nF c.bo)), ((ma 13), eI D 6 cls), ((ma 14), eI D 60 wd), ((ma 15), eI D 60 nu), ((ma 16), eI D 60 fr), ((ma 17), eI D 60 tt9), ((ma 18), eI D 600 sf), ((ma 24), eZ D 100 pf), ((ma 31), eI D 6 hb)] := by
  intro t
  induction t with
  | zero =>
    intro i hi zs_25 zs_26 zs_27 zs_29 pf hb hF
    refine v_iload_n O dX10_was_17 2 rfl ?_
    refine v_sipush (v := 10000) O dX10_was_18 (by decide) ?_
    refine v_icmp_ge O 48 dX10_was_21 (by decide) (fun z1 => ?_) (fun z1 => ?_)
    · skip
      have z1 := (c_le' (x := nI i) (y := 10000) (a := i) (b := 10000) rfl rfl (by omega) (by omega)).mp z1
      refine v_bipush (v := -5) O dX10_was_48 (by decide) ?_
      exact v_ireturn O T rfl rfl (by decide) (by decide) dX10_was_50 (⟨zs_10, zs_11, zs_20, zs_21, zs_22, zs_25, zs_26, zs_27, zs_29, _, _, by rw [hF]; rfl, rfl⟩)
    · skip
      have z1 := (not_congr (c_le' (x := nI i) (y := 10000) (a := i) (b := 10000) rfl rfl (by omega) (by omega))).mp z1
      exact absurd z1 (by omega)
  | succ t ih =>
    intro i hi zs_25 zs_26 zs_27 zs_29 pf hb hF
    refine v_iload_n O dX10_was_17 2 rfl ?_
    refine v_sipush (v := 10000) O dX10_was_18 (by decide) ?_
    refine v_icmp_ge O 48 dX10_was_21 (by decide) (fun z1 => ?_) (fun z1 => ?_)
    · skip
      have z1 := (c_le' (x := nI i) (y := 10000) (a := i) (b := 10000) rfl rfl (by omega) (by omega)).mp z1
      exact absurd z1 (by omega)
    · skip
      have z1 := (not_congr (c_le' (x := nI i) (y := 10000) (a := i) (b := 10000) rfl rfl (by omega) (by omega))).mp z1
      refine v_aload_n O dX10_was_24 0 rfl ?_
      refine v_iload_n O dX10_was_25 2 rfl ?_
      refine v_cV (T := TX10) (ci := 10) (As := [.int (nI i)]) (wr := []) (st := []) O cf_X10_287 rfl (sp_X10_goesRow (mo := mo) (ma := ma) (c := c) (c2 := c2) (tk := tk) (vc := vc) (ln := ln) (rn := rn) (zs_10 := zs_10) (zs_11 := zs_11) (zs_20 := zs_20) (zs_21 := zs_21) (zs_22 := zs_22) (zs_25 := zs_25) (zs_26 := zs_26) (zs_27 := zs_27) (zs_29 := zs_29) (wd := wd) (nu := nu) (fr := fr) (tt9 := tt9) (sf := sf) (cls := cls) (pf := pf) (hb := hb) (bg := bg) (bn := bn) (v := v) (h := i) (hB9) (hM) (hC) (hva) (by omega)) dX10_was_26 rfl rfl 0 rfl [0, 1, 2, 3, 4, 5, 6, 7, 8, 9, 10, 11, 12, 13] [] (by decide) rfl rfl (by decide) (by decide) (by decide) (Nat.le_of_ble_eq_true rfl) (by decide) (by decide) (fun r_2 w_3 h_1 => ?_)
      obtain ⟨zs2_25_4, zs2_26_5, zs2_27_6, zs2_29_7, pf2_8, hb2_9, rfl, rfl, h_g⟩ := h_1
      refine v_eq (st' := [.int (b2i (¬ wlkA c v i c.rl = none))]) (ws' := [(mo, .inr (10, M1R ma (mZ c c2 tk vc ln rn zs_10 zs_11 zs_20 zs_21 zs_22 zs2_25_4 zs2_26_5 zs2_27_6 zs2_29_7))), ((ma 4), eI D 6 (nF c.kk)), ((ma 5), eI D 6 (nF c.vv)), ((ma 6), eI D 6 c.hd), ((ma 30), eI D 8 (nF c.crf)), ((ma 35), eI D 12 (nF c.bo)), ((ma 13), eI D 6 cls), ((ma 14), eI D 60 wd), ((ma 15), eI D 60 nu), ((ma 16), eI D 60 fr), ((ma 17), eI D 60 tt9), ((ma 18), eI D 600 sf), ((ma 24), eZ D 100 pf2_8), ((ma 31), eI D 6 hb2_9)]) rfl rfl rfl rfl ?_
      refine v_if_eq O 42 dX10_was_29 (by decide) (fun z2 => ?_) (fun z2 => ?_)
      · skip
        have z2 := b2i_0.mp z2
        have z4 : ¬ levA c v n i := by unfold levA; rw [Classical.not_not.mp z2]; exact id
        refine v_iinc (v := nI (i + 1)) (lv' := [(0, .ref mo), (1, .int (nI n)), (2, .int (nI (i + 1)))]) O dX10_was_42 2 rfl (nI_1 i) (by decide) rfl ?_
        refine v_goto O 17 dX10_was_45 (by decide) ?_
        exact ih (i + 1) (by omega) _ _ _ _ _ _ (by rw [hF, firstN_d, iteP_f z4])
      · skip
        have z2 := b2i_1.mp z2
        obtain ⟨⟨zL, zT, zQ⟩, zW⟩ := Option.ne_none_iff_exists'.mp z2
        obtain ⟨z_a, z_t, z_b⟩ := h_g zL zT zQ zW
        have z_le := (walkN_le (fun m => partsN_ge hva.2.2.1) zW).1
        refine v_aload_n O dX10_was_32 0 rfl ?_
        refine gf_X10_87 (v := .int zs2_25_4) O rfl dX10_was_33 0 rfl rfl ?_
        refine v_top (y := nI zL) (z_a) ?_
        refine v_iload_n O dX10_was_36 1 rfl ?_
        refine v_icmp_ne O 42 dX10_was_37 (by decide) (fun z3 => ?_) (fun z3 => ?_)
        · skip
          have z3 := (not_congr (c_eq (x := nI zL) (y := nI n) (a := zL) (b := n) rfl rfl (by omega) (by omega))).mp z3
          have z4 : ¬ levA c v n i := by unfold levA; rw [zW]; exact z3
          refine v_iinc (v := nI (i + 1)) (lv' := [(0, .ref mo), (1, .int (nI n)), (2, .int (nI (i + 1)))]) O dX10_was_42 2 rfl (nI_1 i) (by decide) rfl ?_
          refine v_goto O 17 dX10_was_45 (by decide) ?_
          exact ih (i + 1) (by omega) _ _ _ _ _ _ (by rw [hF, firstN_d, iteP_f z4])
        · skip
          have z3 := (c_eq (x := nI zL) (y := nI n) (a := zL) (b := n) rfl rfl (by omega) (by omega)).mp z3
          have z4 : levA c v n i := by unfold levA; rw [zW]; exact z3
          refine v_iload_n O dX10_was_40 2 rfl ?_
          exact v_ireturn O T rfl rfl (by decide) (by decide) dX10_was_41 (⟨zs_10, zs_11, zs_20, zs_21, zs_22, zs2_25_4, zs2_26_5, zs2_27_6, zs2_29_7, _, _, by rw [hF, firstN_d, iteP_t z4], rfl⟩)
set_option maxRecDepth 100000 in
set_option maxHeartbeats 4000000 in
theorem sp_X10_was_2 {D : G} {mo : Nat} {ma : Nat → Nat} {c : CS} {c2 : CS} {tk : Int32} {vc : Nat} {ln : Nat} {rn : Nat} {zs_10 : Int32} {zs_11 : Int32} {zs_20 : Int32} {zs_21 : Int32} {zs_22 : Int32} {zs_25 : Int32} {zs_26 : Int32} {zs_27 : Int32} {zs_29 : Int32} {n : Nat} {wd : Nat → Int32} {nu : Nat → Int32} {fr : Nat → Int32} {tt9 : Nat → Int32} {sf : Nat → Int32} {cls : Nat → Int32} {pf : Nat → Int32} {hb : Nat → Int32} {bg : Nat} {bn : Nat} {v : VS} (hC : cOk c) (hB9 : hB c.held cls bg bn) (hM : MR wd nu fr tt9 sf bg bn v) (hva : vAsk v) (hn : n < 10000) : Sp D mX10_was 30 0 0 [.ref mo, .int (nI n)] [(mo, .inr (10, M1R ma (mZ c c2 tk vc ln rn zs_10 zs_11 zs_20 zs_21 zs_22 zs_25 zs_26 zs_27 zs_29))), ((ma 4), eI D 6 (nF c.kk)), ((ma 5), eI D 6 (nF c.vv)), ((ma 6), eI D 6 c.hd), ((ma 30), eI D 8 (nF c.crf)), ((ma 35), eI D 12 (nF c.bo)), ((ma 13), eI D 6 cls), ((ma 14), eI D 60 wd), ((ma 15), eI D 60 nu), ((ma 16), eI D 60 fr), ((ma 17), eI D 60 tt9), ((ma 18), eI D 600 sf), ((ma 24), eZ D 100 pf), ((ma 31), eI D 6 hb)] (fun r w => ∃ zs2_10 : Int32, ∃ zs2_11 : Int32, ∃ zs2_20 : Int32, ∃ zs2_21 : Int32, ∃ zs2_22 : Int32, ∃ zs2_25 : Int32, ∃ zs2_26 : Int32, ∃ zs2_27 : Int32, ∃ zs2_29 : Int32, ∃ pf2 : Nat → Int32, ∃ hb2 : Nat → Int32, r = some (.int (firstN (levA c v n) 10000 0)) ∧ w = [(mo, .inr (10, M1R ma (mZ c c2 tk vc ln rn zs2_10 zs2_11 zs2_20 zs2_21 zs2_22 zs2_25 zs2_26 zs2_27 zs2_29))), ((ma 4), eI D 6 (nF c.kk)), ((ma 5), eI D 6 (nF c.vv)), ((ma 6), eI D 6 c.hd), ((ma 30), eI D 8 (nF c.crf)), ((ma 35), eI D 12 (nF c.bo)), ((ma 13), eI D 6 cls), ((ma 14), eI D 60 wd), ((ma 15), eI D 60 nu), ((ma 16), eI D 60 fr), ((ma 17), eI D 60 tt9), ((ma 18), eI D 600 sf), ((ma 24), eZ D 100 pf2), ((ma 31), eI D 6 hb2)]) := by
  refine Sp.of (by decide) (Nat.le_of_ble_eq_true rfl) (fun X O T => ?_)
  refine v_eq (lv' := [(0, .ref mo), (1, .int (nI n))]) rfl rfl rfl rfl ?_
  have z_m := hC.1
  have z_hp := hC.2.2.2.1
  have z_wk := hC.2.2.2.2.1
  have z_rl := hC.2.2.2.2.2.1
  have z_pg := hC.2.2.2.2.2.2.2.1
  refine v_aload_n O dX10_was_0 0 rfl ?_
  refine v_iload_n O dX10_was_1 1 rfl ?_
  refine v_iconst (v := 0) O dX10_was_2 (by decide) ?_
  refine v_sipush (v := 9999) O dX10_was_3 (by decide) ?_
  refine v_cV (T := TX10) (ci := 10) (As := [.int (nI n), .int 0, .int 9999]) (wr := [(mo, .inr (10, M1R ma (mZ c c2 tk vc ln rn zs_10 zs_11 zs_20 zs_21 zs_22 zs_25 zs_26 zs_27 zs_29))), ((ma 4), eI D 6 (nF c.kk)), ((ma 5), eI D 6 (nF c.vv)), ((ma 6), eI D 6 c.hd), ((ma 30), eI D 8 (nF c.crf)), ((ma 35), eI D 12 (nF c.bo)), ((ma 13), eI D 6 cls), ((ma 14), eI D 60 wd), ((ma 15), eI D 60 nu), ((ma 16), eI D 60 fr), ((ma 17), eI D 60 tt9), ((ma 18), eI D 600 sf), ((ma 24), eZ D 100 pf), ((ma 31), eI D 6 hb)]) (st := []) O cf_X10_179 rfl (sp_X10_in_0 (mo := mo) (x := (nI n)) (h := 9999) (zn := 10000) (rfl) (by decide)) dX10_was_6 rfl rfl 0 rfl [] [0, 1, 2, 3, 4, 5, 6, 7, 8, 9, 10, 11, 12, 13] (by decide) rfl rfl (by decide) (by decide) (by decide) (Nat.le_of_ble_eq_true rfl) (by decide) (by decide) (fun r_2 w_3 h_1 => ?_)
  obtain ⟨rfl, rfl⟩ := h_1
  refine v_eq (st' := [.int (b2i (isIx (nI n) 10000))]) (ws' := [(mo, .inr (10, M1R ma (mZ c c2 tk vc ln rn zs_10 zs_11 zs_20 zs_21 zs_22 zs_25 zs_26 zs_27 zs_29))), ((ma 4), eI D 6 (nF c.kk)), ((ma 5), eI D 6 (nF c.vv)), ((ma 6), eI D 6 c.hd), ((ma 30), eI D 8 (nF c.crf)), ((ma 35), eI D 12 (nF c.bo)), ((ma 13), eI D 6 cls), ((ma 14), eI D 60 wd), ((ma 15), eI D 60 nu), ((ma 16), eI D 60 fr), ((ma 17), eI D 60 tt9), ((ma 18), eI D 600 sf), ((ma 24), eZ D 100 pf), ((ma 31), eI D 6 hb)]) rfl rfl rfl rfl ?_
  refine v_if_ne O 15 dX10_was_9 (by decide) (fun z1 => ?_) (fun z1 => ?_)
  · skip
    have z1 := b2i_1.mp z1
    refine v_iconst (v := 0) O dX10_was_15 (by decide) ?_
    refine v_istore_n (lv' := [(0, .ref mo), (1, .int (nI n)), (2, .int 0)]) O dX10_was_16 (by decide) rfl ?_
    refine v_eq (lv' := [(0, .ref mo), (1, .int (nI n)), (2, .int (nI 0))]) rfl rfl rfl rfl ?_
    exact l_X10_was_2 O hC hB9 hM hva hn T 10000 0 (by omega) _ _ _ _ _ _ rfl
  · skip
    have z1 := b2i_0.mp z1
    exact absurd ((isIx_nI (by omega) (by omega)).mpr hn) z1
theorem m21 {w : Int32} (h : (-2 : Int32) ≤ w ∧ w ≤ -1) : w = -1 ∨ w = -2 := by
  obtain ⟨h1, h2⟩ := h
  rw [fa_le] at h1 h2
  rw [fa_eq, fa_eq]
  have e1 : (-1 : Int32).toInt = -1 := by decide
  have e2 : (-2 : Int32).toInt = -2 := by decide
  omega
set_option maxRecDepth 100000 in
set_option maxHeartbeats 4000000 in
theorem sp_X10_left_1 {D : G} {mo : Nat} {ma : Nat → Nat} {c : CS} {c2 : CS} {tk : Int32} {vc : Nat} {ln : Nat} {rn : Nat} {zs_10 : Int32} {zs_11 : Int32} {zs_20 : Int32} {zs_21 : Int32} {zs_22 : Int32} {zs_25 : Int32} {zs_26 : Int32} {zs_27 : Int32} {zs_29 : Int32} {h : Int32} {zw : Int32} (hC : cOk c) (hw1 : ¬ zw = -1) (hw2 : ¬ zw = -2) (hw : ¬ isIx zw c.men) : Sp D mX10_left 30 0 0 [.ref mo, .int h, .int zw] [(mo, .inr (10, M1R ma (mZ c c2 tk vc ln rn zs_10 zs_11 zs_20 zs_21 zs_22 zs_25 zs_26 zs_27 zs_29))), ((ma 4), eI D 6 (nF c.kk)), ((ma 5), eI D 6 (nF c.vv)), ((ma 6), eI D 6 c.hd), ((ma 30), eI D 8 (nF c.crf)), ((ma 35), eI D 12 (nF c.bo))] (fun r w => ∃ zs2_10 : Int32, ∃ zs2_11 : Int32, ∃ zs2_20 : Int32, ∃ zs2_21 : Int32, ∃ zs2_22 : Int32, ∃ zs2_25 : Int32, ∃ zs2_26 : Int32, ∃ zs2_27 : Int32, ∃ zs2_29 : Int32, r = some (.int (-10001)) ∧ w = [(mo, .inr (10, M1R ma (mZ c c2 tk vc ln rn zs2_10 zs2_11 zs2_20 zs2_21 zs2_22 zs2_25 zs2_26 zs2_27 zs2_29))), ((ma 4), eI D 6 (nF c.kk)), ((ma 5), eI D 6 (nF c.vv)), ((ma 6), eI D 6 c.hd), ((ma 30), eI D 8 (nF c.crf)), ((ma 35), eI D 12 (nF c.bo))]) := by
  refine Sp.of (by decide) (Nat.le_of_ble_eq_true rfl) (fun X O T => ?_)
  refine v_eq (lv' := [(0, .ref mo), (1, .int h), (2, .int zw)]) rfl rfl rfl rfl ?_
  have z_m := hC.1
  have z_hp := hC.2.2.2.1
  have z_wk := hC.2.2.2.2.1
  have z_rl := hC.2.2.2.2.2.1
  have z_pg := hC.2.2.2.2.2.2.2.1
  refine v_aload_n O dX10_left_0 0 rfl ?_
  refine v_iload_n O dX10_left_1 2 rfl ?_
  refine v_bipush (v := -2) O dX10_left_2 (by decide) ?_
  refine v_iconst (v := -1) O dX10_left_4 (by decide) ?_
  refine v_cV (T := TX10) (ci := 10) (As := [.int zw, .int (-2), .int (-1)]) (wr := [(mo, .inr (10, M1R ma (mZ c c2 tk vc ln rn zs_10 zs_11 zs_20 zs_21 zs_22 zs_25 zs_26 zs_27 zs_29))), ((ma 4), eI D 6 (nF c.kk)), ((ma 5), eI D 6 (nF c.vv)), ((ma 6), eI D 6 c.hd), ((ma 30), eI D 8 (nF c.crf)), ((ma 35), eI D 12 (nF c.bo))]) (st := []) O cf_X10_179 rfl (sp_X10_in_m2_m1 (mo := mo) (x := zw) ) dX10_left_5 rfl rfl 0 rfl [] [0, 1, 2, 3, 4, 5] (by decide) rfl rfl (by decide) (by decide) (by decide) (Nat.le_of_ble_eq_true rfl) (by decide) (by decide) (fun r_2 w_3 h_1 => ?_)
  obtain ⟨rfl, rfl⟩ := h_1
  refine v_eq (st' := [.int (b2i (-2 ≤ zw ∧ zw ≤ -1))]) (ws' := [(mo, .inr (10, M1R ma (mZ c c2 tk vc ln rn zs_10 zs_11 zs_20 zs_21 zs_22 zs_25 zs_26 zs_27 zs_29))), ((ma 4), eI D 6 (nF c.kk)), ((ma 5), eI D 6 (nF c.vv)), ((ma 6), eI D 6 c.hd), ((ma 30), eI D 8 (nF c.crf)), ((ma 35), eI D 12 (nF c.bo))]) rfl rfl rfl rfl ?_
  refine v_if_ne O 23 dX10_left_8 (by decide) (fun y1 => ?_) (fun y1 => ?_)
  · skip
    have y1 := b2i_1.mp y1
    exact absurd (m21 y1) (fun q => q.elim hw1 hw2)
  · skip
    have y1 := b2i_0.mp y1
    refine v_aload_n O dX10_left_11 0 rfl ?_
    refine v_iload_n O dX10_left_12 2 rfl ?_
    refine v_cV (T := TX10) (ci := 10) (As := [.int zw]) (wr := [((ma 4), eI D 6 (nF c.kk)), ((ma 5), eI D 6 (nF c.vv)), ((ma 6), eI D 6 c.hd), ((ma 30), eI D 8 (nF c.crf)), ((ma 35), eI D 12 (nF c.bo))]) (st := []) O cf_X10_281 rfl (sp_X10_isMan (mo := mo) (ma := ma) (c := c) (c2 := c2) (tk := tk) (vc := vc) (ln := ln) (rn := rn) (zs_10 := zs_10) (zs_11 := zs_11) (zs_20 := zs_20) (zs_21 := zs_21) (zs_22 := zs_22) (zs_25 := zs_25) (zs_26 := zs_26) (zs_27 := zs_27) (zs_29 := zs_29) (i := zw) (hC.1)) dX10_left_13 rfl rfl 0 rfl [0] [1, 2, 3, 4, 5] (by decide) rfl rfl (by decide) (by decide) (by decide) (Nat.le_of_ble_eq_true rfl) (by decide) (by decide) (fun r_5 w_6 h_4 => ?_)
    obtain ⟨rfl, rfl⟩ := h_4
    refine v_eq (st' := [.int (b2i (isIx zw c.men))]) (ws' := [((ma 4), eI D 6 (nF c.kk)), ((ma 5), eI D 6 (nF c.vv)), ((ma 6), eI D 6 c.hd), ((ma 30), eI D 8 (nF c.crf)), ((ma 35), eI D 12 (nF c.bo)), (mo, .inr (10, M1R ma (mZ c c2 tk vc ln rn zs_10 zs_11 zs_20 zs_21 zs_22 zs_25 zs_26 zs_27 zs_29)))]) rfl rfl rfl rfl ?_
    refine v_if_ne O 23 dX10_left_16 (by decide) (fun y2 => ?_) (fun y2 => ?_)
    · skip
      have y2 := b2i_1.mp y2
      exact absurd y2 hw
    · skip
      have y2 := b2i_0.mp y2
      refine v_sipush (v := -10001) O dX10_left_19 (by decide) ?_
      refine v_sub (ws' := [(mo, .inr (10, M1R ma (mZ c c2 tk vc ln rn zs_10 zs_11 zs_20 zs_21 zs_22 zs_25 zs_26 zs_27 zs_29))), ((ma 4), eI D 6 (nF c.kk)), ((ma 5), eI D 6 (nF c.vv)), ((ma 6), eI D 6 c.hd), ((ma 30), eI D 8 (nF c.crf)), ((ma 35), eI D 12 (nF c.bo))]) [5, 0, 1, 2, 3, 4] (by decide) rfl ?_
      exact v_ireturn O T rfl rfl (by decide) (by decide) dX10_left_22 (⟨zs_10, zs_11, zs_20, zs_21, zs_22, zs_25, zs_26, zs_27, zs_29, rfl, rfl⟩)
set_option maxRecDepth 100000 in
set_option maxHeartbeats 4000000 in
theorem sp_X10_left_2 {D : G} {mo : Nat} {ma : Nat → Nat} {c : CS} {c2 : CS} {tk : Int32} {vc : Nat} {ln : Nat} {rn : Nat} {zs_10 : Int32} {zs_11 : Int32} {zs_20 : Int32} {zs_21 : Int32} {zs_22 : Int32} {zs_25 : Int32} {zs_26 : Int32} {zs_27 : Int32} {zs_29 : Int32} {h : Int32} (hC : cOk c) (hh : ¬ isIx h 1000000) : Sp D mX10_left 30 0 0 [.ref mo, .int h, .int (-1)] [(mo, .inr (10, M1R ma (mZ c c2 tk vc ln rn zs_10 zs_11 zs_20 zs_21 zs_22 zs_25 zs_26 zs_27 zs_29))), ((ma 4), eI D 6 (nF c.kk)), ((ma 5), eI D 6 (nF c.vv)), ((ma 6), eI D 6 c.hd), ((ma 30), eI D 8 (nF c.crf)), ((ma 35), eI D 12 (nF c.bo))] (fun r w => ∃ zs2_10 : Int32, ∃ zs2_11 : Int32, ∃ zs2_20 : Int32, ∃ zs2_21 : Int32, ∃ zs2_22 : Int32, ∃ zs2_25 : Int32, ∃ zs2_26 : Int32, ∃ zs2_27 : Int32, ∃ zs2_29 : Int32, r = some (.int (-10002)) ∧ w = [(mo, .inr (10, M1R ma (mZ c c2 tk vc ln rn zs2_10 zs2_11 zs2_20 zs2_21 zs2_22 zs2_25 zs2_26 zs2_27 zs2_29))), ((ma 4), eI D 6 (nF c.kk)), ((ma 5), eI D 6 (nF c.vv)), ((ma 6), eI D 6 c.hd), ((ma 30), eI D 8 (nF c.crf)), ((ma 35), eI D 12 (nF c.bo))]) := by
  refine Sp.of (by decide) (Nat.le_of_ble_eq_true rfl) (fun X O T => ?_)
  refine v_eq (lv' := [(0, .ref mo), (1, .int h), (2, .int (-1))]) rfl rfl rfl rfl ?_
  have z_m := hC.1
  have z_hp := hC.2.2.2.1
  have z_wk := hC.2.2.2.2.1
  have z_rl := hC.2.2.2.2.2.1
  have z_pg := hC.2.2.2.2.2.2.2.1
  refine v_aload_n O dX10_left_0 0 rfl ?_
  refine v_iload_n O dX10_left_1 2 rfl ?_
  refine v_bipush (v := -2) O dX10_left_2 (by decide) ?_
  refine v_iconst (v := -1) O dX10_left_4 (by decide) ?_
  refine v_cV (T := TX10) (ci := 10) (As := [.int (-1), .int (-2), .int (-1)]) (wr := [(mo, .inr (10, M1R ma (mZ c c2 tk vc ln rn zs_10 zs_11 zs_20 zs_21 zs_22 zs_25 zs_26 zs_27 zs_29))), ((ma 4), eI D 6 (nF c.kk)), ((ma 5), eI D 6 (nF c.vv)), ((ma 6), eI D 6 c.hd), ((ma 30), eI D 8 (nF c.crf)), ((ma 35), eI D 12 (nF c.bo))]) (st := []) O cf_X10_179 rfl (sp_X10_in_m2_m1 (mo := mo) (x := (-1)) ) dX10_left_5 rfl rfl 0 rfl [] [0, 1, 2, 3, 4, 5] (by decide) rfl rfl (by decide) (by decide) (by decide) (Nat.le_of_ble_eq_true rfl) (by decide) (by decide) (fun r_2 w_3 h_1 => ?_)
  obtain ⟨rfl, rfl⟩ := h_1
  refine v_eq (st' := [.int (b2i (-2 ≤ (-1) ∧ (-1) ≤ -1))]) (ws' := [(mo, .inr (10, M1R ma (mZ c c2 tk vc ln rn zs_10 zs_11 zs_20 zs_21 zs_22 zs_25 zs_26 zs_27 zs_29))), ((ma 4), eI D 6 (nF c.kk)), ((ma 5), eI D 6 (nF c.vv)), ((ma 6), eI D 6 c.hd), ((ma 30), eI D 8 (nF c.crf)), ((ma 35), eI D 12 (nF c.bo))]) rfl rfl rfl rfl ?_
  refine v_if_ne O 23 dX10_left_8 (by decide) (fun y1 => ?_) (fun y1 => ?_)
  · skip
    have y1 := b2i_1.mp y1
    refine v_aload_n O dX10_left_23 0 rfl ?_
    refine v_iload_n O dX10_left_24 1 rfl ?_
    refine v_cV (T := TX10) (ci := 10) (As := [.int h]) (wr := [((ma 4), eI D 6 (nF c.kk)), ((ma 5), eI D 6 (nF c.vv)), ((ma 6), eI D 6 c.hd), ((ma 30), eI D 8 (nF c.crf)), ((ma 35), eI D 12 (nF c.bo))]) (st := []) O cf_X10_184 rfl (sp_X10_isHeap (mo := mo) (ma := ma) (c := c) (c2 := c2) (tk := tk) (vc := vc) (ln := ln) (rn := rn) (zs_10 := zs_10) (zs_11 := zs_11) (zs_20 := zs_20) (zs_21 := zs_21) (zs_22 := zs_22) (zs_25 := zs_25) (zs_26 := zs_26) (zs_27 := zs_27) (zs_29 := zs_29) (h := h) ) dX10_left_25 rfl rfl 0 rfl [0] [1, 2, 3, 4, 5] (by decide) rfl rfl (by decide) (by decide) (by decide) (Nat.le_of_ble_eq_true rfl) (by decide) (by decide) (fun r_5 w_6 h_4 => ?_)
    obtain ⟨rfl, rfl⟩ := h_4
    refine v_eq (st' := [.int (b2i (isIx h 1000000))]) (ws' := [((ma 4), eI D 6 (nF c.kk)), ((ma 5), eI D 6 (nF c.vv)), ((ma 6), eI D 6 c.hd), ((ma 30), eI D 8 (nF c.crf)), ((ma 35), eI D 12 (nF c.bo)), (mo, .inr (10, M1R ma (mZ c c2 tk vc ln rn zs_10 zs_11 zs_20 zs_21 zs_22 zs_25 zs_26 zs_27 zs_29)))]) rfl rfl rfl rfl ?_
    refine v_if_ne O 35 dX10_left_28 (by decide) (fun z3 => ?_) (fun z3 => ?_)
    · skip
      have z3 := b2i_1.mp z3
      exact absurd z3 hh
    · skip
      have z3 := b2i_0.mp z3
      refine v_sipush (v := -10002) O dX10_left_31 (by decide) ?_
      refine v_sub (ws' := [(mo, .inr (10, M1R ma (mZ c c2 tk vc ln rn zs_10 zs_11 zs_20 zs_21 zs_22 zs_25 zs_26 zs_27 zs_29))), ((ma 4), eI D 6 (nF c.kk)), ((ma 5), eI D 6 (nF c.vv)), ((ma 6), eI D 6 c.hd), ((ma 30), eI D 8 (nF c.crf)), ((ma 35), eI D 12 (nF c.bo))]) [5, 0, 1, 2, 3, 4] (by decide) rfl ?_
      exact v_ireturn O T rfl rfl (by decide) (by decide) dX10_left_34 (⟨zs_10, zs_11, zs_20, zs_21, zs_22, zs_25, zs_26, zs_27, zs_29, rfl, rfl⟩)
  · skip
    have y1 := b2i_0.mp y1
    exact absurd (by decide) y1
set_option maxRecDepth 100000 in
set_option maxHeartbeats 4000000 in
theorem sp_X10_left_3 {D : G} {mo : Nat} {ma : Nat → Nat} {c : CS} {c2 : CS} {tk : Int32} {vc : Nat} {ln : Nat} {rn : Nat} {zs_10 : Int32} {zs_11 : Int32} {zs_20 : Int32} {zs_21 : Int32} {zs_22 : Int32} {zs_25 : Int32} {zs_26 : Int32} {zs_27 : Int32} {zs_29 : Int32} {h : Nat} {wd : Nat → Int32} {nu : Nat → Int32} {fr : Nat → Int32} {tt9 : Nat → Int32} {sf : Nat → Int32} {cls : Nat → Int32} {pf : Nat → Int32} {hb : Nat → Int32} {bg : Nat} {bn : Nat} {v : VS} (hC : cOk c) (hB9 : hB c.held cls bg bn) (hM : MR wd nu fr tt9 sf bg bn v) (hva : vAsk v) (hh : h < 1000000) (hn : wlkA c v h c.rl = none) : Sp D mX10_left 30 0 0 [.ref mo, .int (nI h), .int (-1)] [(mo, .inr (10, M1R ma (mZ c c2 tk vc ln rn zs_10 zs_11 zs_20 zs_21 zs_22 zs_25 zs_26 zs_27 zs_29))), ((ma 4), eI D 6 (nF c.kk)), ((ma 5), eI D 6 (nF c.vv)), ((ma 6), eI D 6 c.hd), ((ma 30), eI D 8 (nF c.crf)), ((ma 35), eI D 12 (nF c.bo)), ((ma 13), eI D 6 cls), ((ma 14), eI D 60 wd), ((ma 15), eI D 60 nu), ((ma 16), eI D 60 fr), ((ma 17), eI D 60 tt9), ((ma 18), eI D 600 sf), ((ma 24), eZ D 100 pf), ((ma 31), eI D 6 hb)] (fun r w => ∃ zs2_10 : Int32, ∃ zs2_11 : Int32, ∃ zs2_20 : Int32, ∃ zs2_21 : Int32, ∃ zs2_22 : Int32, ∃ zs2_25 : Int32, ∃ zs2_26 : Int32, ∃ zs2_27 : Int32, ∃ zs2_29 : Int32, ∃ pf2 : Nat → Int32, ∃ hb2 : Nat → Int32, r = some (.int (-5)) ∧ w = [(mo, .inr (10, M1R ma (mZ c c2 tk vc ln rn zs2_10 zs2_11 zs2_20 zs2_21 zs2_22 zs2_25 zs2_26 zs2_27 zs2_29))), ((ma 4), eI D 6 (nF c.kk)), ((ma 5), eI D 6 (nF c.vv)), ((ma 6), eI D 6 c.hd), ((ma 30), eI D 8 (nF c.crf)), ((ma 35), eI D 12 (nF c.bo)), ((ma 13), eI D 6 cls), ((ma 14), eI D 60 wd), ((ma 15), eI D 60 nu), ((ma 16), eI D 60 fr), ((ma 17), eI D 60 tt9), ((ma 18), eI D 600 sf), ((ma 24), eZ D 100 pf2), ((ma 31), eI D 6 hb2)]) := by
  refine Sp.of (by decide) (Nat.le_of_ble_eq_true rfl) (fun X O T => ?_)
  refine v_eq (lv' := [(0, .ref mo), (1, .int (nI h)), (2, .int (-1))]) rfl rfl rfl rfl ?_
  have z_m := hC.1
  have z_hp := hC.2.2.2.1
  have z_wk := hC.2.2.2.2.1
  have z_rl := hC.2.2.2.2.2.1
  have z_pg := hC.2.2.2.2.2.2.2.1
  refine v_aload_n O dX10_left_0 0 rfl ?_
  refine v_iload_n O dX10_left_1 2 rfl ?_
  refine v_bipush (v := -2) O dX10_left_2 (by decide) ?_
  refine v_iconst (v := -1) O dX10_left_4 (by decide) ?_
  refine v_cV (T := TX10) (ci := 10) (As := [.int (-1), .int (-2), .int (-1)]) (wr := [(mo, .inr (10, M1R ma (mZ c c2 tk vc ln rn zs_10 zs_11 zs_20 zs_21 zs_22 zs_25 zs_26 zs_27 zs_29))), ((ma 4), eI D 6 (nF c.kk)), ((ma 5), eI D 6 (nF c.vv)), ((ma 6), eI D 6 c.hd), ((ma 30), eI D 8 (nF c.crf)), ((ma 35), eI D 12 (nF c.bo)), ((ma 13), eI D 6 cls), ((ma 14), eI D 60 wd), ((ma 15), eI D 60 nu), ((ma 16), eI D 60 fr), ((ma 17), eI D 60 tt9), ((ma 18), eI D 600 sf), ((ma 24), eZ D 100 pf), ((ma 31), eI D 6 hb)]) (st := []) O cf_X10_179 rfl (sp_X10_in_m2_m1 (mo := mo) (x := (-1)) ) dX10_left_5 rfl rfl 0 rfl [] [0, 1, 2, 3, 4, 5, 6, 7, 8, 9, 10, 11, 12, 13] (by decide) rfl rfl (by decide) (by decide) (by decide) (Nat.le_of_ble_eq_true rfl) (by decide) (by decide) (fun r_2 w_3 h_1 => ?_)
  obtain ⟨rfl, rfl⟩ := h_1
  refine v_eq (st' := [.int (b2i (-2 ≤ (-1) ∧ (-1) ≤ -1))]) (ws' := [(mo, .inr (10, M1R ma (mZ c c2 tk vc ln rn zs_10 zs_11 zs_20 zs_21 zs_22 zs_25 zs_26 zs_27 zs_29))), ((ma 4), eI D 6 (nF c.kk)), ((ma 5), eI D 6 (nF c.vv)), ((ma 6), eI D 6 c.hd), ((ma 30), eI D 8 (nF c.crf)), ((ma 35), eI D 12 (nF c.bo)), ((ma 13), eI D 6 cls), ((ma 14), eI D 60 wd), ((ma 15), eI D 60 nu), ((ma 16), eI D 60 fr), ((ma 17), eI D 60 tt9), ((ma 18), eI D 600 sf), ((ma 24), eZ D 100 pf), ((ma 31), eI D 6 hb)]) rfl rfl rfl rfl ?_
  refine v_if_ne O 23 dX10_left_8 (by decide) (fun y1 => ?_) (fun y1 => ?_)
  · skip
    have y1 := b2i_1.mp y1
    refine v_aload_n O dX10_left_23 0 rfl ?_
    refine v_iload_n O dX10_left_24 1 rfl ?_
    refine v_cV (T := TX10) (ci := 10) (As := [.int (nI h)]) (wr := [((ma 4), eI D 6 (nF c.kk)), ((ma 5), eI D 6 (nF c.vv)), ((ma 6), eI D 6 c.hd), ((ma 30), eI D 8 (nF c.crf)), ((ma 35), eI D 12 (nF c.bo)), ((ma 13), eI D 6 cls), ((ma 14), eI D 60 wd), ((ma 15), eI D 60 nu), ((ma 16), eI D 60 fr), ((ma 17), eI D 60 tt9), ((ma 18), eI D 600 sf), ((ma 24), eZ D 100 pf), ((ma 31), eI D 6 hb)]) (st := []) O cf_X10_184 rfl (sp_X10_isHeap (mo := mo) (ma := ma) (c := c) (c2 := c2) (tk := tk) (vc := vc) (ln := ln) (rn := rn) (zs_10 := zs_10) (zs_11 := zs_11) (zs_20 := zs_20) (zs_21 := zs_21) (zs_22 := zs_22) (zs_25 := zs_25) (zs_26 := zs_26) (zs_27 := zs_27) (zs_29 := zs_29) (h := (nI h)) ) dX10_left_25 rfl rfl 0 rfl [0] [1, 2, 3, 4, 5, 6, 7, 8, 9, 10, 11, 12, 13] (by decide) rfl rfl (by decide) (by decide) (by decide) (Nat.le_of_ble_eq_true rfl) (by decide) (by decide) (fun r_5 w_6 h_4 => ?_)
    obtain ⟨rfl, rfl⟩ := h_4
    refine v_eq (st' := [.int (b2i (isIx (nI h) 1000000))]) (ws' := [((ma 4), eI D 6 (nF c.kk)), ((ma 5), eI D 6 (nF c.vv)), ((ma 6), eI D 6 c.hd), ((ma 30), eI D 8 (nF c.crf)), ((ma 35), eI D 12 (nF c.bo)), ((ma 13), eI D 6 cls), ((ma 14), eI D 60 wd), ((ma 15), eI D 60 nu), ((ma 16), eI D 60 fr), ((ma 17), eI D 60 tt9), ((ma 18), eI D 600 sf), ((ma 24), eZ D 100 pf), ((ma 31), eI D 6 hb), (mo, .inr (10, M1R ma (mZ c c2 tk vc ln rn zs_10 zs_11 zs_20 zs_21 zs_22 zs_25 zs_26 zs_27 zs_29)))]) rfl rfl rfl rfl ?_
    refine v_if_ne O 35 dX10_left_28 (by decide) (fun z3 => ?_) (fun z3 => ?_)
    · skip
      have z3 := b2i_1.mp z3
      refine v_aload_n O dX10_left_35 0 rfl ?_
      refine v_iload_n O dX10_left_36 1 rfl ?_
      refine v_cV (T := TX10) (ci := 10) (As := [.int (nI h)]) (wr := []) (st := []) O cf_X10_287 rfl (sp_X10_goesRow (mo := mo) (ma := ma) (c := c) (c2 := c2) (tk := tk) (vc := vc) (ln := ln) (rn := rn) (zs_10 := zs_10) (zs_11 := zs_11) (zs_20 := zs_20) (zs_21 := zs_21) (zs_22 := zs_22) (zs_25 := zs_25) (zs_26 := zs_26) (zs_27 := zs_27) (zs_29 := zs_29) (wd := wd) (nu := nu) (fr := fr) (tt9 := tt9) (sf := sf) (cls := cls) (pf := pf) (hb := hb) (bg := bg) (bn := bn) (v := v) (h := h) (hB9) (hM) (hC) (hva) (hh)) dX10_left_37 rfl rfl 13 rfl [13, 0, 1, 2, 3, 4, 5, 6, 7, 8, 9, 10, 11, 12] [] (by decide) rfl rfl (by decide) (by decide) (by decide) (Nat.le_of_ble_eq_true rfl) (by decide) (by decide) (fun r_8 w_9 h_7 => ?_)
      obtain ⟨zs2_25_10, zs2_26_11, zs2_27_12, zs2_29_13, pf2_14, hb2_15, rfl, rfl, h_g⟩ := h_7
      refine v_eq (st' := [.int (b2i (¬ wlkA c v h c.rl = none))]) (ws' := [(mo, .inr (10, M1R ma (mZ c c2 tk vc ln rn zs_10 zs_11 zs_20 zs_21 zs_22 zs2_25_10 zs2_26_11 zs2_27_12 zs2_29_13))), ((ma 4), eI D 6 (nF c.kk)), ((ma 5), eI D 6 (nF c.vv)), ((ma 6), eI D 6 c.hd), ((ma 30), eI D 8 (nF c.crf)), ((ma 35), eI D 12 (nF c.bo)), ((ma 13), eI D 6 cls), ((ma 14), eI D 60 wd), ((ma 15), eI D 60 nu), ((ma 16), eI D 60 fr), ((ma 17), eI D 60 tt9), ((ma 18), eI D 600 sf), ((ma 24), eZ D 100 pf2_14), ((ma 31), eI D 6 hb2_15)]) rfl rfl rfl rfl ?_
      refine v_if_ne O 46 dX10_left_40 (by decide) (fun z4 => ?_) (fun z4 => ?_)
      · skip
        have z4 := b2i_1.mp z4
        exact absurd hn z4
      · skip
        have z4 := b2i_0.mp z4
        refine v_bipush (v := -5) O dX10_left_43 (by decide) ?_
        exact v_ireturn O T rfl rfl (by decide) (by decide) dX10_left_45 (⟨zs_10, zs_11, zs_20, zs_21, zs_22, zs2_25_10, zs2_26_11, zs2_27_12, zs2_29_13, _, _, rfl, rfl⟩)
    · skip
      have z3 := b2i_0.mp z3
      exact absurd ((isIx_nI (by omega) (by omega)).mpr hh) z3
  · skip
    have y1 := b2i_0.mp y1
    exact absurd (by decide) y1
set_option maxRecDepth 100000 in
set_option maxHeartbeats 4000000 in
theorem sp_X10_left_4 {D : G} {mo : Nat} {ma : Nat → Nat} {c : CS} {c2 : CS} {tk : Int32} {vc : Nat} {ln : Nat} {rn : Nat} {zs_10 : Int32} {zs_11 : Int32} {zs_20 : Int32} {zs_21 : Int32} {zs_22 : Int32} {zs_25 : Int32} {zs_26 : Int32} {zs_27 : Int32} {zs_29 : Int32} {h : Nat} {zL : Nat} {zT : Nat} {zQ : Nat → Nat} {wd : Nat → Int32} {nu : Nat → Int32} {fr : Nat → Int32} {tt9 : Nat → Int32} {sf : Nat → Int32} {cls : Nat → Int32} {pf : Nat → Int32} {hb : Nat → Int32} {bg : Nat} {bn : Nat} {v : VS} (hC : cOk c) (hB9 : hB c.held cls bg bn) (hM : MR wd nu fr tt9 sf bg bn v) (hva : vAsk v) (hh : h < 1000000) (hn : wlkA c v h c.rl = some (zL, zT, zQ)) : Sp D mX10_left 30 0 0 [.ref mo, .int (nI h), .int (-1)] [(mo, .inr (10, M1R ma (mZ c c2 tk vc ln rn zs_10 zs_11 zs_20 zs_21 zs_22 zs_25 zs_26 zs_27 zs_29))), ((ma 4), eI D 6 (nF c.kk)), ((ma 5), eI D 6 (nF c.vv)), ((ma 6), eI D 6 c.hd), ((ma 30), eI D 8 (nF c.crf)), ((ma 35), eI D 12 (nF c.bo)), ((ma 13), eI D 6 cls), ((ma 14), eI D 60 wd), ((ma 15), eI D 60 nu), ((ma 16), eI D 60 fr), ((ma 17), eI D 60 tt9), ((ma 18), eI D 600 sf), ((ma 24), eZ D 100 pf), ((ma 31), eI D 6 hb)] (fun r w => ∃ zs2_10 : Int32, ∃ zs2_11 : Int32, ∃ zs2_20 : Int32, ∃ zs2_21 : Int32, ∃ zs2_22 : Int32, ∃ zs2_25 : Int32, ∃ zs2_26 : Int32, ∃ zs2_27 : Int32, ∃ zs2_29 : Int32, ∃ pf2 : Nat → Int32, ∃ hb2 : Nat → Int32, r = some (.int (nI zL)) ∧ w = [(mo, .inr (10, M1R ma (mZ c c2 tk vc ln rn zs2_10 zs2_11 zs2_20 zs2_21 zs2_22 zs2_25 zs2_26 zs2_27 zs2_29))), ((ma 4), eI D 6 (nF c.kk)), ((ma 5), eI D 6 (nF c.vv)), ((ma 6), eI D 6 c.hd), ((ma 30), eI D 8 (nF c.crf)), ((ma 35), eI D 12 (nF c.bo)), ((ma 13), eI D 6 cls), ((ma 14), eI D 60 wd), ((ma 15), eI D 60 nu), ((ma 16), eI D 60 fr), ((ma 17), eI D 60 tt9), ((ma 18), eI D 600 sf), ((ma 24), eZ D 100 pf2), ((ma 31), eI D 6 hb2)]) := by
  refine Sp.of (by decide) (Nat.le_of_ble_eq_true rfl) (fun X O T => ?_)
  refine v_eq (lv' := [(0, .ref mo), (1, .int (nI h)), (2, .int (-1))]) rfl rfl rfl rfl ?_
  have z_m := hC.1
  have z_hp := hC.2.2.2.1
  have z_wk := hC.2.2.2.2.1
  have z_rl := hC.2.2.2.2.2.1
  have z_pg := hC.2.2.2.2.2.2.2.1
  refine v_aload_n O dX10_left_0 0 rfl ?_
  refine v_iload_n O dX10_left_1 2 rfl ?_
  refine v_bipush (v := -2) O dX10_left_2 (by decide) ?_
  refine v_iconst (v := -1) O dX10_left_4 (by decide) ?_
  refine v_cV (T := TX10) (ci := 10) (As := [.int (-1), .int (-2), .int (-1)]) (wr := [(mo, .inr (10, M1R ma (mZ c c2 tk vc ln rn zs_10 zs_11 zs_20 zs_21 zs_22 zs_25 zs_26 zs_27 zs_29))), ((ma 4), eI D 6 (nF c.kk)), ((ma 5), eI D 6 (nF c.vv)), ((ma 6), eI D 6 c.hd), ((ma 30), eI D 8 (nF c.crf)), ((ma 35), eI D 12 (nF c.bo)), ((ma 13), eI D 6 cls), ((ma 14), eI D 60 wd), ((ma 15), eI D 60 nu), ((ma 16), eI D 60 fr), ((ma 17), eI D 60 tt9), ((ma 18), eI D 600 sf), ((ma 24), eZ D 100 pf), ((ma 31), eI D 6 hb)]) (st := []) O cf_X10_179 rfl (sp_X10_in_m2_m1 (mo := mo) (x := (-1)) ) dX10_left_5 rfl rfl 0 rfl [] [0, 1, 2, 3, 4, 5, 6, 7, 8, 9, 10, 11, 12, 13] (by decide) rfl rfl (by decide) (by decide) (by decide) (Nat.le_of_ble_eq_true rfl) (by decide) (by decide) (fun r_2 w_3 h_1 => ?_)
  obtain ⟨rfl, rfl⟩ := h_1
  refine v_eq (st' := [.int (b2i (-2 ≤ (-1) ∧ (-1) ≤ -1))]) (ws' := [(mo, .inr (10, M1R ma (mZ c c2 tk vc ln rn zs_10 zs_11 zs_20 zs_21 zs_22 zs_25 zs_26 zs_27 zs_29))), ((ma 4), eI D 6 (nF c.kk)), ((ma 5), eI D 6 (nF c.vv)), ((ma 6), eI D 6 c.hd), ((ma 30), eI D 8 (nF c.crf)), ((ma 35), eI D 12 (nF c.bo)), ((ma 13), eI D 6 cls), ((ma 14), eI D 60 wd), ((ma 15), eI D 60 nu), ((ma 16), eI D 60 fr), ((ma 17), eI D 60 tt9), ((ma 18), eI D 600 sf), ((ma 24), eZ D 100 pf), ((ma 31), eI D 6 hb)]) rfl rfl rfl rfl ?_
  refine v_if_ne O 23 dX10_left_8 (by decide) (fun y1 => ?_) (fun y1 => ?_)
  · skip
    have y1 := b2i_1.mp y1
    refine v_aload_n O dX10_left_23 0 rfl ?_
    refine v_iload_n O dX10_left_24 1 rfl ?_
    refine v_cV (T := TX10) (ci := 10) (As := [.int (nI h)]) (wr := [((ma 4), eI D 6 (nF c.kk)), ((ma 5), eI D 6 (nF c.vv)), ((ma 6), eI D 6 c.hd), ((ma 30), eI D 8 (nF c.crf)), ((ma 35), eI D 12 (nF c.bo)), ((ma 13), eI D 6 cls), ((ma 14), eI D 60 wd), ((ma 15), eI D 60 nu), ((ma 16), eI D 60 fr), ((ma 17), eI D 60 tt9), ((ma 18), eI D 600 sf), ((ma 24), eZ D 100 pf), ((ma 31), eI D 6 hb)]) (st := []) O cf_X10_184 rfl (sp_X10_isHeap (mo := mo) (ma := ma) (c := c) (c2 := c2) (tk := tk) (vc := vc) (ln := ln) (rn := rn) (zs_10 := zs_10) (zs_11 := zs_11) (zs_20 := zs_20) (zs_21 := zs_21) (zs_22 := zs_22) (zs_25 := zs_25) (zs_26 := zs_26) (zs_27 := zs_27) (zs_29 := zs_29) (h := (nI h)) ) dX10_left_25 rfl rfl 0 rfl [0] [1, 2, 3, 4, 5, 6, 7, 8, 9, 10, 11, 12, 13] (by decide) rfl rfl (by decide) (by decide) (by decide) (Nat.le_of_ble_eq_true rfl) (by decide) (by decide) (fun r_5 w_6 h_4 => ?_)
    obtain ⟨rfl, rfl⟩ := h_4
    refine v_eq (st' := [.int (b2i (isIx (nI h) 1000000))]) (ws' := [((ma 4), eI D 6 (nF c.kk)), ((ma 5), eI D 6 (nF c.vv)), ((ma 6), eI D 6 c.hd), ((ma 30), eI D 8 (nF c.crf)), ((ma 35), eI D 12 (nF c.bo)), ((ma 13), eI D 6 cls), ((ma 14), eI D 60 wd), ((ma 15), eI D 60 nu), ((ma 16), eI D 60 fr), ((ma 17), eI D 60 tt9), ((ma 18), eI D 600 sf), ((ma 24), eZ D 100 pf), ((ma 31), eI D 6 hb), (mo, .inr (10, M1R ma (mZ c c2 tk vc ln rn zs_10 zs_11 zs_20 zs_21 zs_22 zs_25 zs_26 zs_27 zs_29)))]) rfl rfl rfl rfl ?_
    refine v_if_ne O 35 dX10_left_28 (by decide) (fun z3 => ?_) (fun z3 => ?_)
    · skip
      have z3 := b2i_1.mp z3
      refine v_aload_n O dX10_left_35 0 rfl ?_
      refine v_iload_n O dX10_left_36 1 rfl ?_
      refine v_cV (T := TX10) (ci := 10) (As := [.int (nI h)]) (wr := []) (st := []) O cf_X10_287 rfl (sp_X10_goesRow (mo := mo) (ma := ma) (c := c) (c2 := c2) (tk := tk) (vc := vc) (ln := ln) (rn := rn) (zs_10 := zs_10) (zs_11 := zs_11) (zs_20 := zs_20) (zs_21 := zs_21) (zs_22 := zs_22) (zs_25 := zs_25) (zs_26 := zs_26) (zs_27 := zs_27) (zs_29 := zs_29) (wd := wd) (nu := nu) (fr := fr) (tt9 := tt9) (sf := sf) (cls := cls) (pf := pf) (hb := hb) (bg := bg) (bn := bn) (v := v) (h := h) (hB9) (hM) (hC) (hva) (hh)) dX10_left_37 rfl rfl 13 rfl [13, 0, 1, 2, 3, 4, 5, 6, 7, 8, 9, 10, 11, 12] [] (by decide) rfl rfl (by decide) (by decide) (by decide) (Nat.le_of_ble_eq_true rfl) (by decide) (by decide) (fun r_8 w_9 h_7 => ?_)
      obtain ⟨zs2_25_10, zs2_26_11, zs2_27_12, zs2_29_13, pf2_14, hb2_15, rfl, rfl, h_g⟩ := h_7
      refine v_eq (st' := [.int (b2i (¬ wlkA c v h c.rl = none))]) (ws' := [(mo, .inr (10, M1R ma (mZ c c2 tk vc ln rn zs_10 zs_11 zs_20 zs_21 zs_22 zs2_25_10 zs2_26_11 zs2_27_12 zs2_29_13))), ((ma 4), eI D 6 (nF c.kk)), ((ma 5), eI D 6 (nF c.vv)), ((ma 6), eI D 6 c.hd), ((ma 30), eI D 8 (nF c.crf)), ((ma 35), eI D 12 (nF c.bo)), ((ma 13), eI D 6 cls), ((ma 14), eI D 60 wd), ((ma 15), eI D 60 nu), ((ma 16), eI D 60 fr), ((ma 17), eI D 60 tt9), ((ma 18), eI D 600 sf), ((ma 24), eZ D 100 pf2_14), ((ma 31), eI D 6 hb2_15)]) rfl rfl rfl rfl ?_
      refine v_if_ne O 46 dX10_left_40 (by decide) (fun z4 => ?_) (fun z4 => ?_)
      · skip
        have z4 := b2i_1.mp z4
        refine v_iload_n O dX10_left_46 2 rfl ?_
        refine v_iconst (v := -1) O dX10_left_47 (by decide) ?_
        refine v_icmp_ne O 58 dX10_left_48 (by decide) (fun y4 => ?_) (fun y4 => ?_)
        · skip
          exact absurd rfl y4
        · skip
          refine v_aload_n O dX10_left_51 0 rfl ?_
          refine gf_X10_87 (v := .int zs2_25_10) O rfl dX10_left_52 0 rfl rfl ?_
          refine v_goto O 77 dX10_left_55 (by decide) ?_
          exact v_ireturn O T rfl rfl (by decide) (by decide) dX10_left_77 (⟨zs_10, zs_11, zs_20, zs_21, zs_22, zs2_25_10, zs2_26_11, zs2_27_12, zs2_29_13, _, _, by rw [(h_g zL zT zQ hn).1], rfl⟩)
      · skip
        have z4 := b2i_0.mp z4
        exact absurd (Classical.not_not.mp z4) (by rw [hn]; exact fun y => by cases y)
    · skip
      have z3 := b2i_0.mp z3
      exact absurd ((isIx_nI (by omega) (by omega)).mpr hh) z3
  · skip
    have y1 := b2i_0.mp y1
    exact absurd (by decide) y1
set_option maxRecDepth 100000 in
set_option maxHeartbeats 4000000 in
theorem sp_X10_left_5 {D : G} {mo : Nat} {ma : Nat → Nat} {c : CS} {c2 : CS} {tk : Int32} {vc : Nat} {ln : Nat} {rn : Nat} {zs_10 : Int32} {zs_11 : Int32} {zs_20 : Int32} {zs_21 : Int32} {zs_22 : Int32} {zs_25 : Int32} {zs_26 : Int32} {zs_27 : Int32} {zs_29 : Int32} {h : Int32} (hC : cOk c) (hh : ¬ isIx h 1000000) : Sp D mX10_left 30 0 0 [.ref mo, .int h, .int (-2)] [(mo, .inr (10, M1R ma (mZ c c2 tk vc ln rn zs_10 zs_11 zs_20 zs_21 zs_22 zs_25 zs_26 zs_27 zs_29))), ((ma 4), eI D 6 (nF c.kk)), ((ma 5), eI D 6 (nF c.vv)), ((ma 6), eI D 6 c.hd), ((ma 30), eI D 8 (nF c.crf)), ((ma 35), eI D 12 (nF c.bo))] (fun r w => ∃ zs2_10 : Int32, ∃ zs2_11 : Int32, ∃ zs2_20 : Int32, ∃ zs2_21 : Int32, ∃ zs2_22 : Int32, ∃ zs2_25 : Int32, ∃ zs2_26 : Int32, ∃ zs2_27 : Int32, ∃ zs2_29 : Int32, r = some (.int (-10002)) ∧ w = [(mo, .inr (10, M1R ma (mZ c c2 tk vc ln rn zs2_10 zs2_11 zs2_20 zs2_21 zs2_22 zs2_25 zs2_26 zs2_27 zs2_29))), ((ma 4), eI D 6 (nF c.kk)), ((ma 5), eI D 6 (nF c.vv)), ((ma 6), eI D 6 c.hd), ((ma 30), eI D 8 (nF c.crf)), ((ma 35), eI D 12 (nF c.bo))]) := by
  refine Sp.of (by decide) (Nat.le_of_ble_eq_true rfl) (fun X O T => ?_)
  refine v_eq (lv' := [(0, .ref mo), (1, .int h), (2, .int (-2))]) rfl rfl rfl rfl ?_
  have z_m := hC.1
  have z_hp := hC.2.2.2.1
  have z_wk := hC.2.2.2.2.1
  have z_rl := hC.2.2.2.2.2.1
  have z_pg := hC.2.2.2.2.2.2.2.1
  refine v_aload_n O dX10_left_0 0 rfl ?_
  refine v_iload_n O dX10_left_1 2 rfl ?_
  refine v_bipush (v := -2) O dX10_left_2 (by decide) ?_
  refine v_iconst (v := -1) O dX10_left_4 (by decide) ?_
  refine v_cV (T := TX10) (ci := 10) (As := [.int (-2), .int (-2), .int (-1)]) (wr := [(mo, .inr (10, M1R ma (mZ c c2 tk vc ln rn zs_10 zs_11 zs_20 zs_21 zs_22 zs_25 zs_26 zs_27 zs_29))), ((ma 4), eI D 6 (nF c.kk)), ((ma 5), eI D 6 (nF c.vv)), ((ma 6), eI D 6 c.hd), ((ma 30), eI D 8 (nF c.crf)), ((ma 35), eI D 12 (nF c.bo))]) (st := []) O cf_X10_179 rfl (sp_X10_in_m2_m1 (mo := mo) (x := (-2)) ) dX10_left_5 rfl rfl 0 rfl [] [0, 1, 2, 3, 4, 5] (by decide) rfl rfl (by decide) (by decide) (by decide) (Nat.le_of_ble_eq_true rfl) (by decide) (by decide) (fun r_2 w_3 h_1 => ?_)
  obtain ⟨rfl, rfl⟩ := h_1
  refine v_eq (st' := [.int (b2i (-2 ≤ (-2) ∧ (-2) ≤ -1))]) (ws' := [(mo, .inr (10, M1R ma (mZ c c2 tk vc ln rn zs_10 zs_11 zs_20 zs_21 zs_22 zs_25 zs_26 zs_27 zs_29))), ((ma 4), eI D 6 (nF c.kk)), ((ma 5), eI D 6 (nF c.vv)), ((ma 6), eI D 6 c.hd), ((ma 30), eI D 8 (nF c.crf)), ((ma 35), eI D 12 (nF c.bo))]) rfl rfl rfl rfl ?_
  refine v_if_ne O 23 dX10_left_8 (by decide) (fun y1 => ?_) (fun y1 => ?_)
  · skip
    have y1 := b2i_1.mp y1
    refine v_aload_n O dX10_left_23 0 rfl ?_
    refine v_iload_n O dX10_left_24 1 rfl ?_
    refine v_cV (T := TX10) (ci := 10) (As := [.int h]) (wr := [((ma 4), eI D 6 (nF c.kk)), ((ma 5), eI D 6 (nF c.vv)), ((ma 6), eI D 6 c.hd), ((ma 30), eI D 8 (nF c.crf)), ((ma 35), eI D 12 (nF c.bo))]) (st := []) O cf_X10_184 rfl (sp_X10_isHeap (mo := mo) (ma := ma) (c := c) (c2 := c2) (tk := tk) (vc := vc) (ln := ln) (rn := rn) (zs_10 := zs_10) (zs_11 := zs_11) (zs_20 := zs_20) (zs_21 := zs_21) (zs_22 := zs_22) (zs_25 := zs_25) (zs_26 := zs_26) (zs_27 := zs_27) (zs_29 := zs_29) (h := h) ) dX10_left_25 rfl rfl 0 rfl [0] [1, 2, 3, 4, 5] (by decide) rfl rfl (by decide) (by decide) (by decide) (Nat.le_of_ble_eq_true rfl) (by decide) (by decide) (fun r_5 w_6 h_4 => ?_)
    obtain ⟨rfl, rfl⟩ := h_4
    refine v_eq (st' := [.int (b2i (isIx h 1000000))]) (ws' := [((ma 4), eI D 6 (nF c.kk)), ((ma 5), eI D 6 (nF c.vv)), ((ma 6), eI D 6 c.hd), ((ma 30), eI D 8 (nF c.crf)), ((ma 35), eI D 12 (nF c.bo)), (mo, .inr (10, M1R ma (mZ c c2 tk vc ln rn zs_10 zs_11 zs_20 zs_21 zs_22 zs_25 zs_26 zs_27 zs_29)))]) rfl rfl rfl rfl ?_
    refine v_if_ne O 35 dX10_left_28 (by decide) (fun z3 => ?_) (fun z3 => ?_)
    · skip
      have z3 := b2i_1.mp z3
      exact absurd z3 hh
    · skip
      have z3 := b2i_0.mp z3
      refine v_sipush (v := -10002) O dX10_left_31 (by decide) ?_
      refine v_sub (ws' := [(mo, .inr (10, M1R ma (mZ c c2 tk vc ln rn zs_10 zs_11 zs_20 zs_21 zs_22 zs_25 zs_26 zs_27 zs_29))), ((ma 4), eI D 6 (nF c.kk)), ((ma 5), eI D 6 (nF c.vv)), ((ma 6), eI D 6 c.hd), ((ma 30), eI D 8 (nF c.crf)), ((ma 35), eI D 12 (nF c.bo))]) [5, 0, 1, 2, 3, 4] (by decide) rfl ?_
      exact v_ireturn O T rfl rfl (by decide) (by decide) dX10_left_34 (⟨zs_10, zs_11, zs_20, zs_21, zs_22, zs_25, zs_26, zs_27, zs_29, rfl, rfl⟩)
  · skip
    have y1 := b2i_0.mp y1
    exact absurd (by decide) y1
set_option maxRecDepth 100000 in
set_option maxHeartbeats 4000000 in
theorem sp_X10_left_6 {D : G} {mo : Nat} {ma : Nat → Nat} {c : CS} {c2 : CS} {tk : Int32} {vc : Nat} {ln : Nat} {rn : Nat} {zs_10 : Int32} {zs_11 : Int32} {zs_20 : Int32} {zs_21 : Int32} {zs_22 : Int32} {zs_25 : Int32} {zs_26 : Int32} {zs_27 : Int32} {zs_29 : Int32} {h : Nat} {wd : Nat → Int32} {nu : Nat → Int32} {fr : Nat → Int32} {tt9 : Nat → Int32} {sf : Nat → Int32} {cls : Nat → Int32} {pf : Nat → Int32} {hb : Nat → Int32} {bg : Nat} {bn : Nat} {v : VS} (hC : cOk c) (hB9 : hB c.held cls bg bn) (hM : MR wd nu fr tt9 sf bg bn v) (hva : vAsk v) (hh : h < 1000000) (hn : wlkA c v h c.rl = none) : Sp D mX10_left 30 0 0 [.ref mo, .int (nI h), .int (-2)] [(mo, .inr (10, M1R ma (mZ c c2 tk vc ln rn zs_10 zs_11 zs_20 zs_21 zs_22 zs_25 zs_26 zs_27 zs_29))), ((ma 4), eI D 6 (nF c.kk)), ((ma 5), eI D 6 (nF c.vv)), ((ma 6), eI D 6 c.hd), ((ma 30), eI D 8 (nF c.crf)), ((ma 35), eI D 12 (nF c.bo)), ((ma 13), eI D 6 cls), ((ma 14), eI D 60 wd), ((ma 15), eI D 60 nu), ((ma 16), eI D 60 fr), ((ma 17), eI D 60 tt9), ((ma 18), eI D 600 sf), ((ma 24), eZ D 100 pf), ((ma 31), eI D 6 hb)] (fun r w => ∃ zs2_10 : Int32, ∃ zs2_11 : Int32, ∃ zs2_20 : Int32, ∃ zs2_21 : Int32, ∃ zs2_22 : Int32, ∃ zs2_25 : Int32, ∃ zs2_26 : Int32, ∃ zs2_27 : Int32, ∃ zs2_29 : Int32, ∃ pf2 : Nat → Int32, ∃ hb2 : Nat → Int32, r = some (.int (-5)) ∧ w = [(mo, .inr (10, M1R ma (mZ c c2 tk vc ln rn zs2_10 zs2_11 zs2_20 zs2_21 zs2_22 zs2_25 zs2_26 zs2_27 zs2_29))), ((ma 4), eI D 6 (nF c.kk)), ((ma 5), eI D 6 (nF c.vv)), ((ma 6), eI D 6 c.hd), ((ma 30), eI D 8 (nF c.crf)), ((ma 35), eI D 12 (nF c.bo)), ((ma 13), eI D 6 cls), ((ma 14), eI D 60 wd), ((ma 15), eI D 60 nu), ((ma 16), eI D 60 fr), ((ma 17), eI D 60 tt9), ((ma 18), eI D 600 sf), ((ma 24), eZ D 100 pf2), ((ma 31), eI D 6 hb2)]) := by
  refine Sp.of (by decide) (Nat.le_of_ble_eq_true rfl) (fun X O T => ?_)
  refine v_eq (lv' := [(0, .ref mo), (1, .int (nI h)), (2, .int (-2))]) rfl rfl rfl rfl ?_
  have z_m := hC.1
  have z_hp := hC.2.2.2.1
  have z_wk := hC.2.2.2.2.1
  have z_rl := hC.2.2.2.2.2.1
  have z_pg := hC.2.2.2.2.2.2.2.1
  refine v_aload_n O dX10_left_0 0 rfl ?_
  refine v_iload_n O dX10_left_1 2 rfl ?_
  refine v_bipush (v := -2) O dX10_left_2 (by decide) ?_
  refine v_iconst (v := -1) O dX10_left_4 (by decide) ?_
  refine v_cV (T := TX10) (ci := 10) (As := [.int (-2), .int (-2), .int (-1)]) (wr := [(mo, .inr (10, M1R ma (mZ c c2 tk vc ln rn zs_10 zs_11 zs_20 zs_21 zs_22 zs_25 zs_26 zs_27 zs_29))), ((ma 4), eI D 6 (nF c.kk)), ((ma 5), eI D 6 (nF c.vv)), ((ma 6), eI D 6 c.hd), ((ma 30), eI D 8 (nF c.crf)), ((ma 35), eI D 12 (nF c.bo)), ((ma 13), eI D 6 cls), ((ma 14), eI D 60 wd), ((ma 15), eI D 60 nu), ((ma 16), eI D 60 fr), ((ma 17), eI D 60 tt9), ((ma 18), eI D 600 sf), ((ma 24), eZ D 100 pf), ((ma 31), eI D 6 hb)]) (st := []) O cf_X10_179 rfl (sp_X10_in_m2_m1 (mo := mo) (x := (-2)) ) dX10_left_5 rfl rfl 0 rfl [] [0, 1, 2, 3, 4, 5, 6, 7, 8, 9, 10, 11, 12, 13] (by decide) rfl rfl (by decide) (by decide) (by decide) (Nat.le_of_ble_eq_true rfl) (by decide) (by decide) (fun r_2 w_3 h_1 => ?_)
  obtain ⟨rfl, rfl⟩ := h_1
  refine v_eq (st' := [.int (b2i (-2 ≤ (-2) ∧ (-2) ≤ -1))]) (ws' := [(mo, .inr (10, M1R ma (mZ c c2 tk vc ln rn zs_10 zs_11 zs_20 zs_21 zs_22 zs_25 zs_26 zs_27 zs_29))), ((ma 4), eI D 6 (nF c.kk)), ((ma 5), eI D 6 (nF c.vv)), ((ma 6), eI D 6 c.hd), ((ma 30), eI D 8 (nF c.crf)), ((ma 35), eI D 12 (nF c.bo)), ((ma 13), eI D 6 cls), ((ma 14), eI D 60 wd), ((ma 15), eI D 60 nu), ((ma 16), eI D 60 fr), ((ma 17), eI D 60 tt9), ((ma 18), eI D 600 sf), ((ma 24), eZ D 100 pf), ((ma 31), eI D 6 hb)]) rfl rfl rfl rfl ?_
  refine v_if_ne O 23 dX10_left_8 (by decide) (fun y1 => ?_) (fun y1 => ?_)
  · skip
    have y1 := b2i_1.mp y1
    refine v_aload_n O dX10_left_23 0 rfl ?_
    refine v_iload_n O dX10_left_24 1 rfl ?_
    refine v_cV (T := TX10) (ci := 10) (As := [.int (nI h)]) (wr := [((ma 4), eI D 6 (nF c.kk)), ((ma 5), eI D 6 (nF c.vv)), ((ma 6), eI D 6 c.hd), ((ma 30), eI D 8 (nF c.crf)), ((ma 35), eI D 12 (nF c.bo)), ((ma 13), eI D 6 cls), ((ma 14), eI D 60 wd), ((ma 15), eI D 60 nu), ((ma 16), eI D 60 fr), ((ma 17), eI D 60 tt9), ((ma 18), eI D 600 sf), ((ma 24), eZ D 100 pf), ((ma 31), eI D 6 hb)]) (st := []) O cf_X10_184 rfl (sp_X10_isHeap (mo := mo) (ma := ma) (c := c) (c2 := c2) (tk := tk) (vc := vc) (ln := ln) (rn := rn) (zs_10 := zs_10) (zs_11 := zs_11) (zs_20 := zs_20) (zs_21 := zs_21) (zs_22 := zs_22) (zs_25 := zs_25) (zs_26 := zs_26) (zs_27 := zs_27) (zs_29 := zs_29) (h := (nI h)) ) dX10_left_25 rfl rfl 0 rfl [0] [1, 2, 3, 4, 5, 6, 7, 8, 9, 10, 11, 12, 13] (by decide) rfl rfl (by decide) (by decide) (by decide) (Nat.le_of_ble_eq_true rfl) (by decide) (by decide) (fun r_5 w_6 h_4 => ?_)
    obtain ⟨rfl, rfl⟩ := h_4
    refine v_eq (st' := [.int (b2i (isIx (nI h) 1000000))]) (ws' := [((ma 4), eI D 6 (nF c.kk)), ((ma 5), eI D 6 (nF c.vv)), ((ma 6), eI D 6 c.hd), ((ma 30), eI D 8 (nF c.crf)), ((ma 35), eI D 12 (nF c.bo)), ((ma 13), eI D 6 cls), ((ma 14), eI D 60 wd), ((ma 15), eI D 60 nu), ((ma 16), eI D 60 fr), ((ma 17), eI D 60 tt9), ((ma 18), eI D 600 sf), ((ma 24), eZ D 100 pf), ((ma 31), eI D 6 hb), (mo, .inr (10, M1R ma (mZ c c2 tk vc ln rn zs_10 zs_11 zs_20 zs_21 zs_22 zs_25 zs_26 zs_27 zs_29)))]) rfl rfl rfl rfl ?_
    refine v_if_ne O 35 dX10_left_28 (by decide) (fun z3 => ?_) (fun z3 => ?_)
    · skip
      have z3 := b2i_1.mp z3
      refine v_aload_n O dX10_left_35 0 rfl ?_
      refine v_iload_n O dX10_left_36 1 rfl ?_
      refine v_cV (T := TX10) (ci := 10) (As := [.int (nI h)]) (wr := []) (st := []) O cf_X10_287 rfl (sp_X10_goesRow (mo := mo) (ma := ma) (c := c) (c2 := c2) (tk := tk) (vc := vc) (ln := ln) (rn := rn) (zs_10 := zs_10) (zs_11 := zs_11) (zs_20 := zs_20) (zs_21 := zs_21) (zs_22 := zs_22) (zs_25 := zs_25) (zs_26 := zs_26) (zs_27 := zs_27) (zs_29 := zs_29) (wd := wd) (nu := nu) (fr := fr) (tt9 := tt9) (sf := sf) (cls := cls) (pf := pf) (hb := hb) (bg := bg) (bn := bn) (v := v) (h := h) (hB9) (hM) (hC) (hva) (hh)) dX10_left_37 rfl rfl 13 rfl [13, 0, 1, 2, 3, 4, 5, 6, 7, 8, 9, 10, 11, 12] [] (by decide) rfl rfl (by decide) (by decide) (by decide) (Nat.le_of_ble_eq_true rfl) (by decide) (by decide) (fun r_8 w_9 h_7 => ?_)
      obtain ⟨zs2_25_10, zs2_26_11, zs2_27_12, zs2_29_13, pf2_14, hb2_15, rfl, rfl, h_g⟩ := h_7
      refine v_eq (st' := [.int (b2i (¬ wlkA c v h c.rl = none))]) (ws' := [(mo, .inr (10, M1R ma (mZ c c2 tk vc ln rn zs_10 zs_11 zs_20 zs_21 zs_22 zs2_25_10 zs2_26_11 zs2_27_12 zs2_29_13))), ((ma 4), eI D 6 (nF c.kk)), ((ma 5), eI D 6 (nF c.vv)), ((ma 6), eI D 6 c.hd), ((ma 30), eI D 8 (nF c.crf)), ((ma 35), eI D 12 (nF c.bo)), ((ma 13), eI D 6 cls), ((ma 14), eI D 60 wd), ((ma 15), eI D 60 nu), ((ma 16), eI D 60 fr), ((ma 17), eI D 60 tt9), ((ma 18), eI D 600 sf), ((ma 24), eZ D 100 pf2_14), ((ma 31), eI D 6 hb2_15)]) rfl rfl rfl rfl ?_
      refine v_if_ne O 46 dX10_left_40 (by decide) (fun z4 => ?_) (fun z4 => ?_)
      · skip
        have z4 := b2i_1.mp z4
        exact absurd hn z4
      · skip
        have z4 := b2i_0.mp z4
        refine v_bipush (v := -5) O dX10_left_43 (by decide) ?_
        exact v_ireturn O T rfl rfl (by decide) (by decide) dX10_left_45 (⟨zs_10, zs_11, zs_20, zs_21, zs_22, zs2_25_10, zs2_26_11, zs2_27_12, zs2_29_13, _, _, rfl, rfl⟩)
    · skip
      have z3 := b2i_0.mp z3
      exact absurd ((isIx_nI (by omega) (by omega)).mpr hh) z3
  · skip
    have y1 := b2i_0.mp y1
    exact absurd (by decide) y1
set_option maxRecDepth 100000 in
set_option maxHeartbeats 4000000 in
theorem sp_X10_left_7 {D : G} {mo : Nat} {ma : Nat → Nat} {c : CS} {c2 : CS} {tk : Int32} {vc : Nat} {ln : Nat} {rn : Nat} {zs_10 : Int32} {zs_11 : Int32} {zs_20 : Int32} {zs_21 : Int32} {zs_22 : Int32} {zs_25 : Int32} {zs_26 : Int32} {zs_27 : Int32} {zs_29 : Int32} {h : Nat} {zL : Nat} {zT : Nat} {zQ : Nat → Nat} {wd : Nat → Int32} {nu : Nat → Int32} {fr : Nat → Int32} {tt9 : Nat → Int32} {sf : Nat → Int32} {cls : Nat → Int32} {pf : Nat → Int32} {hb : Nat → Int32} {bg : Nat} {bn : Nat} {v : VS} (hC : cOk c) (hB9 : hB c.held cls bg bn) (hM : MR wd nu fr tt9 sf bg bn v) (hva : vAsk v) (hh : h < 1000000) (hn : wlkA c v h c.rl = some (zL, zT, zQ)) : Sp D mX10_left 30 0 0 [.ref mo, .int (nI h), .int (-2)] [(mo, .inr (10, M1R ma (mZ c c2 tk vc ln rn zs_10 zs_11 zs_20 zs_21 zs_22 zs_25 zs_26 zs_27 zs_29))), ((ma 4), eI D 6 (nF c.kk)), ((ma 5), eI D 6 (nF c.vv)), ((ma 6), eI D 6 c.hd), ((ma 30), eI D 8 (nF c.crf)), ((ma 35), eI D 12 (nF c.bo)), ((ma 13), eI D 6 cls), ((ma 14), eI D 60 wd), ((ma 15), eI D 60 nu), ((ma 16), eI D 60 fr), ((ma 17), eI D 60 tt9), ((ma 18), eI D 600 sf), ((ma 24), eZ D 100 pf), ((ma 31), eI D 6 hb)] (fun r w => ∃ zs2_10 : Int32, ∃ zs2_11 : Int32, ∃ zs2_20 : Int32, ∃ zs2_21 : Int32, ∃ zs2_22 : Int32, ∃ zs2_25 : Int32, ∃ zs2_26 : Int32, ∃ zs2_27 : Int32, ∃ zs2_29 : Int32, ∃ pf2 : Nat → Int32, ∃ hb2 : Nat → Int32, r = some (.int (nI zT)) ∧ w = [(mo, .inr (10, M1R ma (mZ c c2 tk vc ln rn zs2_10 zs2_11 zs2_20 zs2_21 zs2_22 zs2_25 zs2_26 zs2_27 zs2_29))), ((ma 4), eI D 6 (nF c.kk)), ((ma 5), eI D 6 (nF c.vv)), ((ma 6), eI D 6 c.hd), ((ma 30), eI D 8 (nF c.crf)), ((ma 35), eI D 12 (nF c.bo)), ((ma 13), eI D 6 cls), ((ma 14), eI D 60 wd), ((ma 15), eI D 60 nu), ((ma 16), eI D 60 fr), ((ma 17), eI D 60 tt9), ((ma 18), eI D 600 sf), ((ma 24), eZ D 100 pf2), ((ma 31), eI D 6 hb2)]) := by
  refine Sp.of (by decide) (Nat.le_of_ble_eq_true rfl) (fun X O T => ?_)
  refine v_eq (lv' := [(0, .ref mo), (1, .int (nI h)), (2, .int (-2))]) rfl rfl rfl rfl ?_
  have z_m := hC.1
  have z_hp := hC.2.2.2.1
  have z_wk := hC.2.2.2.2.1
  have z_rl := hC.2.2.2.2.2.1
  have z_pg := hC.2.2.2.2.2.2.2.1
  refine v_aload_n O dX10_left_0 0 rfl ?_
  refine v_iload_n O dX10_left_1 2 rfl ?_
  refine v_bipush (v := -2) O dX10_left_2 (by decide) ?_
  refine v_iconst (v := -1) O dX10_left_4 (by decide) ?_
  refine v_cV (T := TX10) (ci := 10) (As := [.int (-2), .int (-2), .int (-1)]) (wr := [(mo, .inr (10, M1R ma (mZ c c2 tk vc ln rn zs_10 zs_11 zs_20 zs_21 zs_22 zs_25 zs_26 zs_27 zs_29))), ((ma 4), eI D 6 (nF c.kk)), ((ma 5), eI D 6 (nF c.vv)), ((ma 6), eI D 6 c.hd), ((ma 30), eI D 8 (nF c.crf)), ((ma 35), eI D 12 (nF c.bo)), ((ma 13), eI D 6 cls), ((ma 14), eI D 60 wd), ((ma 15), eI D 60 nu), ((ma 16), eI D 60 fr), ((ma 17), eI D 60 tt9), ((ma 18), eI D 600 sf), ((ma 24), eZ D 100 pf), ((ma 31), eI D 6 hb)]) (st := []) O cf_X10_179 rfl (sp_X10_in_m2_m1 (mo := mo) (x := (-2)) ) dX10_left_5 rfl rfl 0 rfl [] [0, 1, 2, 3, 4, 5, 6, 7, 8, 9, 10, 11, 12, 13] (by decide) rfl rfl (by decide) (by decide) (by decide) (Nat.le_of_ble_eq_true rfl) (by decide) (by decide) (fun r_2 w_3 h_1 => ?_)
  obtain ⟨rfl, rfl⟩ := h_1
  refine v_eq (st' := [.int (b2i (-2 ≤ (-2) ∧ (-2) ≤ -1))]) (ws' := [(mo, .inr (10, M1R ma (mZ c c2 tk vc ln rn zs_10 zs_11 zs_20 zs_21 zs_22 zs_25 zs_26 zs_27 zs_29))), ((ma 4), eI D 6 (nF c.kk)), ((ma 5), eI D 6 (nF c.vv)), ((ma 6), eI D 6 c.hd), ((ma 30), eI D 8 (nF c.crf)), ((ma 35), eI D 12 (nF c.bo)), ((ma 13), eI D 6 cls), ((ma 14), eI D 60 wd), ((ma 15), eI D 60 nu), ((ma 16), eI D 60 fr), ((ma 17), eI D 60 tt9), ((ma 18), eI D 600 sf), ((ma 24), eZ D 100 pf), ((ma 31), eI D 6 hb)]) rfl rfl rfl rfl ?_
  refine v_if_ne O 23 dX10_left_8 (by decide) (fun y1 => ?_) (fun y1 => ?_)
  · skip
    have y1 := b2i_1.mp y1
    refine v_aload_n O dX10_left_23 0 rfl ?_
    refine v_iload_n O dX10_left_24 1 rfl ?_
    refine v_cV (T := TX10) (ci := 10) (As := [.int (nI h)]) (wr := [((ma 4), eI D 6 (nF c.kk)), ((ma 5), eI D 6 (nF c.vv)), ((ma 6), eI D 6 c.hd), ((ma 30), eI D 8 (nF c.crf)), ((ma 35), eI D 12 (nF c.bo)), ((ma 13), eI D 6 cls), ((ma 14), eI D 60 wd), ((ma 15), eI D 60 nu), ((ma 16), eI D 60 fr), ((ma 17), eI D 60 tt9), ((ma 18), eI D 600 sf), ((ma 24), eZ D 100 pf), ((ma 31), eI D 6 hb)]) (st := []) O cf_X10_184 rfl (sp_X10_isHeap (mo := mo) (ma := ma) (c := c) (c2 := c2) (tk := tk) (vc := vc) (ln := ln) (rn := rn) (zs_10 := zs_10) (zs_11 := zs_11) (zs_20 := zs_20) (zs_21 := zs_21) (zs_22 := zs_22) (zs_25 := zs_25) (zs_26 := zs_26) (zs_27 := zs_27) (zs_29 := zs_29) (h := (nI h)) ) dX10_left_25 rfl rfl 0 rfl [0] [1, 2, 3, 4, 5, 6, 7, 8, 9, 10, 11, 12, 13] (by decide) rfl rfl (by decide) (by decide) (by decide) (Nat.le_of_ble_eq_true rfl) (by decide) (by decide) (fun r_5 w_6 h_4 => ?_)
    obtain ⟨rfl, rfl⟩ := h_4
    refine v_eq (st' := [.int (b2i (isIx (nI h) 1000000))]) (ws' := [((ma 4), eI D 6 (nF c.kk)), ((ma 5), eI D 6 (nF c.vv)), ((ma 6), eI D 6 c.hd), ((ma 30), eI D 8 (nF c.crf)), ((ma 35), eI D 12 (nF c.bo)), ((ma 13), eI D 6 cls), ((ma 14), eI D 60 wd), ((ma 15), eI D 60 nu), ((ma 16), eI D 60 fr), ((ma 17), eI D 60 tt9), ((ma 18), eI D 600 sf), ((ma 24), eZ D 100 pf), ((ma 31), eI D 6 hb), (mo, .inr (10, M1R ma (mZ c c2 tk vc ln rn zs_10 zs_11 zs_20 zs_21 zs_22 zs_25 zs_26 zs_27 zs_29)))]) rfl rfl rfl rfl ?_
    refine v_if_ne O 35 dX10_left_28 (by decide) (fun z3 => ?_) (fun z3 => ?_)
    · skip
      have z3 := b2i_1.mp z3
      refine v_aload_n O dX10_left_35 0 rfl ?_
      refine v_iload_n O dX10_left_36 1 rfl ?_
      refine v_cV (T := TX10) (ci := 10) (As := [.int (nI h)]) (wr := []) (st := []) O cf_X10_287 rfl (sp_X10_goesRow (mo := mo) (ma := ma) (c := c) (c2 := c2) (tk := tk) (vc := vc) (ln := ln) (rn := rn) (zs_10 := zs_10) (zs_11 := zs_11) (zs_20 := zs_20) (zs_21 := zs_21) (zs_22 := zs_22) (zs_25 := zs_25) (zs_26 := zs_26) (zs_27 := zs_27) (zs_29 := zs_29) (wd := wd) (nu := nu) (fr := fr) (tt9 := tt9) (sf := sf) (cls := cls) (pf := pf) (hb := hb) (bg := bg) (bn := bn) (v := v) (h := h) (hB9) (hM) (hC) (hva) (hh)) dX10_left_37 rfl rfl 13 rfl [13, 0, 1, 2, 3, 4, 5, 6, 7, 8, 9, 10, 11, 12] [] (by decide) rfl rfl (by decide) (by decide) (by decide) (Nat.le_of_ble_eq_true rfl) (by decide) (by decide) (fun r_8 w_9 h_7 => ?_)
      obtain ⟨zs2_25_10, zs2_26_11, zs2_27_12, zs2_29_13, pf2_14, hb2_15, rfl, rfl, h_g⟩ := h_7
      refine v_eq (st' := [.int (b2i (¬ wlkA c v h c.rl = none))]) (ws' := [(mo, .inr (10, M1R ma (mZ c c2 tk vc ln rn zs_10 zs_11 zs_20 zs_21 zs_22 zs2_25_10 zs2_26_11 zs2_27_12 zs2_29_13))), ((ma 4), eI D 6 (nF c.kk)), ((ma 5), eI D 6 (nF c.vv)), ((ma 6), eI D 6 c.hd), ((ma 30), eI D 8 (nF c.crf)), ((ma 35), eI D 12 (nF c.bo)), ((ma 13), eI D 6 cls), ((ma 14), eI D 60 wd), ((ma 15), eI D 60 nu), ((ma 16), eI D 60 fr), ((ma 17), eI D 60 tt9), ((ma 18), eI D 600 sf), ((ma 24), eZ D 100 pf2_14), ((ma 31), eI D 6 hb2_15)]) rfl rfl rfl rfl ?_
      refine v_if_ne O 46 dX10_left_40 (by decide) (fun z4 => ?_) (fun z4 => ?_)
      · skip
        have z4 := b2i_1.mp z4
        refine v_iload_n O dX10_left_46 2 rfl ?_
        refine v_iconst (v := -1) O dX10_left_47 (by decide) ?_
        refine v_icmp_ne O 58 dX10_left_48 (by decide) (fun y4 => ?_) (fun y4 => ?_)
        · skip
          refine v_iload_n O dX10_left_58 2 rfl ?_
          refine v_bipush (v := -2) O dX10_left_59 (by decide) ?_
          refine v_icmp_ne O 71 dX10_left_61 (by decide) (fun y5 => ?_) (fun y5 => ?_)
          · skip
            exact absurd rfl y5
          · skip
            refine v_aload_n O dX10_left_64 0 rfl ?_
            refine gf_X10_99 (v := .int zs2_29_13) O rfl dX10_left_65 0 rfl rfl ?_
            refine v_goto O 77 dX10_left_68 (by decide) ?_
            exact v_ireturn O T rfl rfl (by decide) (by decide) dX10_left_77 (⟨zs_10, zs_11, zs_20, zs_21, zs_22, zs2_25_10, zs2_26_11, zs2_27_12, zs2_29_13, _, _, by rw [(h_g zL zT zQ hn).2.1], rfl⟩)
        · skip
          exact absurd y4 (by decide)
      · skip
        have z4 := b2i_0.mp z4
        exact absurd (Classical.not_not.mp z4) (by rw [hn]; exact fun y => by cases y)
    · skip
      have z3 := b2i_0.mp z3
      exact absurd ((isIx_nI (by omega) (by omega)).mpr hh) z3
  · skip
    have y1 := b2i_0.mp y1
    exact absurd (by decide) y1
set_option maxRecDepth 100000 in
set_option maxHeartbeats 4000000 in
theorem sp_X10_left_8 {D : G} {mo : Nat} {ma : Nat → Nat} {c : CS} {c2 : CS} {tk : Int32} {vc : Nat} {ln : Nat} {rn : Nat} {zs_10 : Int32} {zs_11 : Int32} {zs_20 : Int32} {zs_21 : Int32} {zs_22 : Int32} {zs_25 : Int32} {zs_26 : Int32} {zs_27 : Int32} {zs_29 : Int32} {h : Int32} {zw : Nat} (hC : cOk c) (hw : zw < c.men) (hh : ¬ isIx h 1000000) : Sp D mX10_left 30 0 0 [.ref mo, .int h, .int (nI zw)] [(mo, .inr (10, M1R ma (mZ c c2 tk vc ln rn zs_10 zs_11 zs_20 zs_21 zs_22 zs_25 zs_26 zs_27 zs_29))), ((ma 4), eI D 6 (nF c.kk)), ((ma 5), eI D 6 (nF c.vv)), ((ma 6), eI D 6 c.hd), ((ma 30), eI D 8 (nF c.crf)), ((ma 35), eI D 12 (nF c.bo))] (fun r w => ∃ zs2_10 : Int32, ∃ zs2_11 : Int32, ∃ zs2_20 : Int32, ∃ zs2_21 : Int32, ∃ zs2_22 : Int32, ∃ zs2_25 : Int32, ∃ zs2_26 : Int32, ∃ zs2_27 : Int32, ∃ zs2_29 : Int32, r = some (.int (-10002)) ∧ w = [(mo, .inr (10, M1R ma (mZ c c2 tk vc ln rn zs2_10 zs2_11 zs2_20 zs2_21 zs2_22 zs2_25 zs2_26 zs2_27 zs2_29))), ((ma 4), eI D 6 (nF c.kk)), ((ma 5), eI D 6 (nF c.vv)), ((ma 6), eI D 6 c.hd), ((ma 30), eI D 8 (nF c.crf)), ((ma 35), eI D 12 (nF c.bo))]) := by
  refine Sp.of (by decide) (Nat.le_of_ble_eq_true rfl) (fun X O T => ?_)
  refine v_eq (lv' := [(0, .ref mo), (1, .int h), (2, .int (nI zw))]) rfl rfl rfl rfl ?_
  have z_m := hC.1
  have z_hp := hC.2.2.2.1
  have z_wk := hC.2.2.2.2.1
  have z_rl := hC.2.2.2.2.2.1
  have z_pg := hC.2.2.2.2.2.2.2.1
  refine v_aload_n O dX10_left_0 0 rfl ?_
  refine v_iload_n O dX10_left_1 2 rfl ?_
  refine v_bipush (v := -2) O dX10_left_2 (by decide) ?_
  refine v_iconst (v := -1) O dX10_left_4 (by decide) ?_
  refine v_cV (T := TX10) (ci := 10) (As := [.int (nI zw), .int (-2), .int (-1)]) (wr := [(mo, .inr (10, M1R ma (mZ c c2 tk vc ln rn zs_10 zs_11 zs_20 zs_21 zs_22 zs_25 zs_26 zs_27 zs_29))), ((ma 4), eI D 6 (nF c.kk)), ((ma 5), eI D 6 (nF c.vv)), ((ma 6), eI D 6 c.hd), ((ma 30), eI D 8 (nF c.crf)), ((ma 35), eI D 12 (nF c.bo))]) (st := []) O cf_X10_179 rfl (sp_X10_in_m2_m1 (mo := mo) (x := (nI zw)) ) dX10_left_5 rfl rfl 0 rfl [] [0, 1, 2, 3, 4, 5] (by decide) rfl rfl (by decide) (by decide) (by decide) (Nat.le_of_ble_eq_true rfl) (by decide) (by decide) (fun r_2 w_3 h_1 => ?_)
  obtain ⟨rfl, rfl⟩ := h_1
  refine v_eq (st' := [.int (b2i (-2 ≤ (nI zw) ∧ (nI zw) ≤ -1))]) (ws' := [(mo, .inr (10, M1R ma (mZ c c2 tk vc ln rn zs_10 zs_11 zs_20 zs_21 zs_22 zs_25 zs_26 zs_27 zs_29))), ((ma 4), eI D 6 (nF c.kk)), ((ma 5), eI D 6 (nF c.vv)), ((ma 6), eI D 6 c.hd), ((ma 30), eI D 8 (nF c.crf)), ((ma 35), eI D 12 (nF c.bo))]) rfl rfl rfl rfl ?_
  refine v_if_ne O 23 dX10_left_8 (by decide) (fun y1 => ?_) (fun y1 => ?_)
  · skip
    have y1 := b2i_1.mp y1
    exact absurd (m21 y1) (fun q => q.elim (zI_m1 (by omega)) (zI_m2 (by omega)))
  · skip
    have y1 := b2i_0.mp y1
    refine v_aload_n O dX10_left_11 0 rfl ?_
    refine v_iload_n O dX10_left_12 2 rfl ?_
    refine v_cV (T := TX10) (ci := 10) (As := [.int (nI zw)]) (wr := [((ma 4), eI D 6 (nF c.kk)), ((ma 5), eI D 6 (nF c.vv)), ((ma 6), eI D 6 c.hd), ((ma 30), eI D 8 (nF c.crf)), ((ma 35), eI D 12 (nF c.bo))]) (st := []) O cf_X10_281 rfl (sp_X10_isMan (mo := mo) (ma := ma) (c := c) (c2 := c2) (tk := tk) (vc := vc) (ln := ln) (rn := rn) (zs_10 := zs_10) (zs_11 := zs_11) (zs_20 := zs_20) (zs_21 := zs_21) (zs_22 := zs_22) (zs_25 := zs_25) (zs_26 := zs_26) (zs_27 := zs_27) (zs_29 := zs_29) (i := (nI zw)) (hC.1)) dX10_left_13 rfl rfl 0 rfl [0] [1, 2, 3, 4, 5] (by decide) rfl rfl (by decide) (by decide) (by decide) (Nat.le_of_ble_eq_true rfl) (by decide) (by decide) (fun r_5 w_6 h_4 => ?_)
    obtain ⟨rfl, rfl⟩ := h_4
    refine v_eq (st' := [.int (b2i (isIx (nI zw) c.men))]) (ws' := [((ma 4), eI D 6 (nF c.kk)), ((ma 5), eI D 6 (nF c.vv)), ((ma 6), eI D 6 c.hd), ((ma 30), eI D 8 (nF c.crf)), ((ma 35), eI D 12 (nF c.bo)), (mo, .inr (10, M1R ma (mZ c c2 tk vc ln rn zs_10 zs_11 zs_20 zs_21 zs_22 zs_25 zs_26 zs_27 zs_29)))]) rfl rfl rfl rfl ?_
    refine v_if_ne O 23 dX10_left_16 (by decide) (fun y2 => ?_) (fun y2 => ?_)
    · skip
      have y2 := b2i_1.mp y2
      refine v_aload_n O dX10_left_23 0 rfl ?_
      refine v_iload_n O dX10_left_24 1 rfl ?_
      refine v_cV (T := TX10) (ci := 10) (As := [.int h]) (wr := [((ma 4), eI D 6 (nF c.kk)), ((ma 5), eI D 6 (nF c.vv)), ((ma 6), eI D 6 c.hd), ((ma 30), eI D 8 (nF c.crf)), ((ma 35), eI D 12 (nF c.bo))]) (st := []) O cf_X10_184 rfl (sp_X10_isHeap (mo := mo) (ma := ma) (c := c) (c2 := c2) (tk := tk) (vc := vc) (ln := ln) (rn := rn) (zs_10 := zs_10) (zs_11 := zs_11) (zs_20 := zs_20) (zs_21 := zs_21) (zs_22 := zs_22) (zs_25 := zs_25) (zs_26 := zs_26) (zs_27 := zs_27) (zs_29 := zs_29) (h := h) ) dX10_left_25 rfl rfl 5 rfl [5] [0, 1, 2, 3, 4] (by decide) rfl rfl (by decide) (by decide) (by decide) (Nat.le_of_ble_eq_true rfl) (by decide) (by decide) (fun r_8 w_9 h_7 => ?_)
      obtain ⟨rfl, rfl⟩ := h_7
      refine v_eq (st' := [.int (b2i (isIx h 1000000))]) (ws' := [((ma 4), eI D 6 (nF c.kk)), ((ma 5), eI D 6 (nF c.vv)), ((ma 6), eI D 6 c.hd), ((ma 30), eI D 8 (nF c.crf)), ((ma 35), eI D 12 (nF c.bo)), (mo, .inr (10, M1R ma (mZ c c2 tk vc ln rn zs_10 zs_11 zs_20 zs_21 zs_22 zs_25 zs_26 zs_27 zs_29)))]) rfl rfl rfl rfl ?_
      refine v_if_ne O 35 dX10_left_28 (by decide) (fun z3 => ?_) (fun z3 => ?_)
      · skip
        have z3 := b2i_1.mp z3
        exact absurd z3 hh
      · skip
        have z3 := b2i_0.mp z3
        refine v_sipush (v := -10002) O dX10_left_31 (by decide) ?_
        refine v_sub (ws' := [(mo, .inr (10, M1R ma (mZ c c2 tk vc ln rn zs_10 zs_11 zs_20 zs_21 zs_22 zs_25 zs_26 zs_27 zs_29))), ((ma 4), eI D 6 (nF c.kk)), ((ma 5), eI D 6 (nF c.vv)), ((ma 6), eI D 6 c.hd), ((ma 30), eI D 8 (nF c.crf)), ((ma 35), eI D 12 (nF c.bo))]) [5, 0, 1, 2, 3, 4] (by decide) rfl ?_
        exact v_ireturn O T rfl rfl (by decide) (by decide) dX10_left_34 (⟨zs_10, zs_11, zs_20, zs_21, zs_22, zs_25, zs_26, zs_27, zs_29, rfl, rfl⟩)
    · skip
      have y2 := b2i_0.mp y2
      exact absurd ((isIx_nI (by omega) (by omega)).mpr hw) y2
set_option maxRecDepth 100000 in
set_option maxHeartbeats 4000000 in
theorem sp_X10_left_9 {D : G} {mo : Nat} {ma : Nat → Nat} {c : CS} {c2 : CS} {tk : Int32} {vc : Nat} {ln : Nat} {rn : Nat} {zs_10 : Int32} {zs_11 : Int32} {zs_20 : Int32} {zs_21 : Int32} {zs_22 : Int32} {zs_25 : Int32} {zs_26 : Int32} {zs_27 : Int32} {zs_29 : Int32} {h : Nat} {zw : Nat} {wd : Nat → Int32} {nu : Nat → Int32} {fr : Nat → Int32} {tt9 : Nat → Int32} {sf : Nat → Int32} {cls : Nat → Int32} {pf : Nat → Int32} {hb : Nat → Int32} {bg : Nat} {bn : Nat} {v : VS} (hC : cOk c) (hB9 : hB c.held cls bg bn) (hM : MR wd nu fr tt9 sf bg bn v) (hva : vAsk v) (hw : zw < c.men) (hh : h < 1000000) (hn : wlkA c v h c.rl = none) : Sp D mX10_left 30 0 0 [.ref mo, .int (nI h), .int (nI zw)] [(mo, .inr (10, M1R ma (mZ c c2 tk vc ln rn zs_10 zs_11 zs_20 zs_21 zs_22 zs_25 zs_26 zs_27 zs_29))), ((ma 4), eI D 6 (nF c.kk)), ((ma 5), eI D 6 (nF c.vv)), ((ma 6), eI D 6 c.hd), ((ma 30), eI D 8 (nF c.crf)), ((ma 35), eI D 12 (nF c.bo)), ((ma 13), eI D 6 cls), ((ma 14), eI D 60 wd), ((ma 15), eI D 60 nu), ((ma 16), eI D 60 fr), ((ma 17), eI D 60 tt9), ((ma 18), eI D 600 sf), ((ma 24), eZ D 100 pf), ((ma 31), eI D 6 hb)] (fun r w => ∃ zs2_10 : Int32, ∃ zs2_11 : Int32, ∃ zs2_20 : Int32, ∃ zs2_21 : Int32, ∃ zs2_22 : Int32, ∃ zs2_25 : Int32, ∃ zs2_26 : Int32, ∃ zs2_27 : Int32, ∃ zs2_29 : Int32, ∃ pf2 : Nat → Int32, ∃ hb2 : Nat → Int32, r = some (.int (-5)) ∧ w = [(mo, .inr (10, M1R ma (mZ c c2 tk vc ln rn zs2_10 zs2_11 zs2_20 zs2_21 zs2_22 zs2_25 zs2_26 zs2_27 zs2_29))), ((ma 4), eI D 6 (nF c.kk)), ((ma 5), eI D 6 (nF c.vv)), ((ma 6), eI D 6 c.hd), ((ma 30), eI D 8 (nF c.crf)), ((ma 35), eI D 12 (nF c.bo)), ((ma 13), eI D 6 cls), ((ma 14), eI D 60 wd), ((ma 15), eI D 60 nu), ((ma 16), eI D 60 fr), ((ma 17), eI D 60 tt9), ((ma 18), eI D 600 sf), ((ma 24), eZ D 100 pf2), ((ma 31), eI D 6 hb2)]) := by
  refine Sp.of (by decide) (Nat.le_of_ble_eq_true rfl) (fun X O T => ?_)
  refine v_eq (lv' := [(0, .ref mo), (1, .int (nI h)), (2, .int (nI zw))]) rfl rfl rfl rfl ?_
  have z_m := hC.1
  have z_hp := hC.2.2.2.1
  have z_wk := hC.2.2.2.2.1
  have z_rl := hC.2.2.2.2.2.1
  have z_pg := hC.2.2.2.2.2.2.2.1
  refine v_aload_n O dX10_left_0 0 rfl ?_
  refine v_iload_n O dX10_left_1 2 rfl ?_
  refine v_bipush (v := -2) O dX10_left_2 (by decide) ?_
  refine v_iconst (v := -1) O dX10_left_4 (by decide) ?_
  refine v_cV (T := TX10) (ci := 10) (As := [.int (nI zw), .int (-2), .int (-1)]) (wr := [(mo, .inr (10, M1R ma (mZ c c2 tk vc ln rn zs_10 zs_11 zs_20 zs_21 zs_22 zs_25 zs_26 zs_27 zs_29))), ((ma 4), eI D 6 (nF c.kk)), ((ma 5), eI D 6 (nF c.vv)), ((ma 6), eI D 6 c.hd), ((ma 30), eI D 8 (nF c.crf)), ((ma 35), eI D 12 (nF c.bo)), ((ma 13), eI D 6 cls), ((ma 14), eI D 60 wd), ((ma 15), eI D 60 nu), ((ma 16), eI D 60 fr), ((ma 17), eI D 60 tt9), ((ma 18), eI D 600 sf), ((ma 24), eZ D 100 pf), ((ma 31), eI D 6 hb)]) (st := []) O cf_X10_179 rfl (sp_X10_in_m2_m1 (mo := mo) (x := (nI zw)) ) dX10_left_5 rfl rfl 0 rfl [] [0, 1, 2, 3, 4, 5, 6, 7, 8, 9, 10, 11, 12, 13] (by decide) rfl rfl (by decide) (by decide) (by decide) (Nat.le_of_ble_eq_true rfl) (by decide) (by decide) (fun r_2 w_3 h_1 => ?_)
  obtain ⟨rfl, rfl⟩ := h_1
  refine v_eq (st' := [.int (b2i (-2 ≤ (nI zw) ∧ (nI zw) ≤ -1))]) (ws' := [(mo, .inr (10, M1R ma (mZ c c2 tk vc ln rn zs_10 zs_11 zs_20 zs_21 zs_22 zs_25 zs_26 zs_27 zs_29))), ((ma 4), eI D 6 (nF c.kk)), ((ma 5), eI D 6 (nF c.vv)), ((ma 6), eI D 6 c.hd), ((ma 30), eI D 8 (nF c.crf)), ((ma 35), eI D 12 (nF c.bo)), ((ma 13), eI D 6 cls), ((ma 14), eI D 60 wd), ((ma 15), eI D 60 nu), ((ma 16), eI D 60 fr), ((ma 17), eI D 60 tt9), ((ma 18), eI D 600 sf), ((ma 24), eZ D 100 pf), ((ma 31), eI D 6 hb)]) rfl rfl rfl rfl ?_
  refine v_if_ne O 23 dX10_left_8 (by decide) (fun y1 => ?_) (fun y1 => ?_)
  · skip
    have y1 := b2i_1.mp y1
    exact absurd (m21 y1) (fun q => q.elim (zI_m1 (by omega)) (zI_m2 (by omega)))
  · skip
    have y1 := b2i_0.mp y1
    refine v_aload_n O dX10_left_11 0 rfl ?_
    refine v_iload_n O dX10_left_12 2 rfl ?_
    refine v_cV (T := TX10) (ci := 10) (As := [.int (nI zw)]) (wr := [((ma 4), eI D 6 (nF c.kk)), ((ma 5), eI D 6 (nF c.vv)), ((ma 6), eI D 6 c.hd), ((ma 30), eI D 8 (nF c.crf)), ((ma 35), eI D 12 (nF c.bo)), ((ma 13), eI D 6 cls), ((ma 14), eI D 60 wd), ((ma 15), eI D 60 nu), ((ma 16), eI D 60 fr), ((ma 17), eI D 60 tt9), ((ma 18), eI D 600 sf), ((ma 24), eZ D 100 pf), ((ma 31), eI D 6 hb)]) (st := []) O cf_X10_281 rfl (sp_X10_isMan (mo := mo) (ma := ma) (c := c) (c2 := c2) (tk := tk) (vc := vc) (ln := ln) (rn := rn) (zs_10 := zs_10) (zs_11 := zs_11) (zs_20 := zs_20) (zs_21 := zs_21) (zs_22 := zs_22) (zs_25 := zs_25) (zs_26 := zs_26) (zs_27 := zs_27) (zs_29 := zs_29) (i := (nI zw)) (hC.1)) dX10_left_13 rfl rfl 0 rfl [0] [1, 2, 3, 4, 5, 6, 7, 8, 9, 10, 11, 12, 13] (by decide) rfl rfl (by decide) (by decide) (by decide) (Nat.le_of_ble_eq_true rfl) (by decide) (by decide) (fun r_5 w_6 h_4 => ?_)
    obtain ⟨rfl, rfl⟩ := h_4
    refine v_eq (st' := [.int (b2i (isIx (nI zw) c.men))]) (ws' := [((ma 4), eI D 6 (nF c.kk)), ((ma 5), eI D 6 (nF c.vv)), ((ma 6), eI D 6 c.hd), ((ma 30), eI D 8 (nF c.crf)), ((ma 35), eI D 12 (nF c.bo)), ((ma 13), eI D 6 cls), ((ma 14), eI D 60 wd), ((ma 15), eI D 60 nu), ((ma 16), eI D 60 fr), ((ma 17), eI D 60 tt9), ((ma 18), eI D 600 sf), ((ma 24), eZ D 100 pf), ((ma 31), eI D 6 hb), (mo, .inr (10, M1R ma (mZ c c2 tk vc ln rn zs_10 zs_11 zs_20 zs_21 zs_22 zs_25 zs_26 zs_27 zs_29)))]) rfl rfl rfl rfl ?_
    refine v_if_ne O 23 dX10_left_16 (by decide) (fun y2 => ?_) (fun y2 => ?_)
    · skip
      have y2 := b2i_1.mp y2
      refine v_aload_n O dX10_left_23 0 rfl ?_
      refine v_iload_n O dX10_left_24 1 rfl ?_
      refine v_cV (T := TX10) (ci := 10) (As := [.int (nI h)]) (wr := [((ma 4), eI D 6 (nF c.kk)), ((ma 5), eI D 6 (nF c.vv)), ((ma 6), eI D 6 c.hd), ((ma 30), eI D 8 (nF c.crf)), ((ma 35), eI D 12 (nF c.bo)), ((ma 13), eI D 6 cls), ((ma 14), eI D 60 wd), ((ma 15), eI D 60 nu), ((ma 16), eI D 60 fr), ((ma 17), eI D 60 tt9), ((ma 18), eI D 600 sf), ((ma 24), eZ D 100 pf), ((ma 31), eI D 6 hb)]) (st := []) O cf_X10_184 rfl (sp_X10_isHeap (mo := mo) (ma := ma) (c := c) (c2 := c2) (tk := tk) (vc := vc) (ln := ln) (rn := rn) (zs_10 := zs_10) (zs_11 := zs_11) (zs_20 := zs_20) (zs_21 := zs_21) (zs_22 := zs_22) (zs_25 := zs_25) (zs_26 := zs_26) (zs_27 := zs_27) (zs_29 := zs_29) (h := (nI h)) ) dX10_left_25 rfl rfl 13 rfl [13] [0, 1, 2, 3, 4, 5, 6, 7, 8, 9, 10, 11, 12] (by decide) rfl rfl (by decide) (by decide) (by decide) (Nat.le_of_ble_eq_true rfl) (by decide) (by decide) (fun r_8 w_9 h_7 => ?_)
      obtain ⟨rfl, rfl⟩ := h_7
      refine v_eq (st' := [.int (b2i (isIx (nI h) 1000000))]) (ws' := [((ma 4), eI D 6 (nF c.kk)), ((ma 5), eI D 6 (nF c.vv)), ((ma 6), eI D 6 c.hd), ((ma 30), eI D 8 (nF c.crf)), ((ma 35), eI D 12 (nF c.bo)), ((ma 13), eI D 6 cls), ((ma 14), eI D 60 wd), ((ma 15), eI D 60 nu), ((ma 16), eI D 60 fr), ((ma 17), eI D 60 tt9), ((ma 18), eI D 600 sf), ((ma 24), eZ D 100 pf), ((ma 31), eI D 6 hb), (mo, .inr (10, M1R ma (mZ c c2 tk vc ln rn zs_10 zs_11 zs_20 zs_21 zs_22 zs_25 zs_26 zs_27 zs_29)))]) rfl rfl rfl rfl ?_
      refine v_if_ne O 35 dX10_left_28 (by decide) (fun z3 => ?_) (fun z3 => ?_)
      · skip
        have z3 := b2i_1.mp z3
        refine v_aload_n O dX10_left_35 0 rfl ?_
        refine v_iload_n O dX10_left_36 1 rfl ?_
        refine v_cV (T := TX10) (ci := 10) (As := [.int (nI h)]) (wr := []) (st := []) O cf_X10_287 rfl (sp_X10_goesRow (mo := mo) (ma := ma) (c := c) (c2 := c2) (tk := tk) (vc := vc) (ln := ln) (rn := rn) (zs_10 := zs_10) (zs_11 := zs_11) (zs_20 := zs_20) (zs_21 := zs_21) (zs_22 := zs_22) (zs_25 := zs_25) (zs_26 := zs_26) (zs_27 := zs_27) (zs_29 := zs_29) (wd := wd) (nu := nu) (fr := fr) (tt9 := tt9) (sf := sf) (cls := cls) (pf := pf) (hb := hb) (bg := bg) (bn := bn) (v := v) (h := h) (hB9) (hM) (hC) (hva) (hh)) dX10_left_37 rfl rfl 13 rfl [13, 0, 1, 2, 3, 4, 5, 6, 7, 8, 9, 10, 11, 12] [] (by decide) rfl rfl (by decide) (by decide) (by decide) (Nat.le_of_ble_eq_true rfl) (by decide) (by decide) (fun r_11 w_12 h_10 => ?_)
        obtain ⟨zs2_25_13, zs2_26_14, zs2_27_15, zs2_29_16, pf2_17, hb2_18, rfl, rfl, h_g⟩ := h_10
        refine v_eq (st' := [.int (b2i (¬ wlkA c v h c.rl = none))]) (ws' := [(mo, .inr (10, M1R ma (mZ c c2 tk vc ln rn zs_10 zs_11 zs_20 zs_21 zs_22 zs2_25_13 zs2_26_14 zs2_27_15 zs2_29_16))), ((ma 4), eI D 6 (nF c.kk)), ((ma 5), eI D 6 (nF c.vv)), ((ma 6), eI D 6 c.hd), ((ma 30), eI D 8 (nF c.crf)), ((ma 35), eI D 12 (nF c.bo)), ((ma 13), eI D 6 cls), ((ma 14), eI D 60 wd), ((ma 15), eI D 60 nu), ((ma 16), eI D 60 fr), ((ma 17), eI D 60 tt9), ((ma 18), eI D 600 sf), ((ma 24), eZ D 100 pf2_17), ((ma 31), eI D 6 hb2_18)]) rfl rfl rfl rfl ?_
        refine v_if_ne O 46 dX10_left_40 (by decide) (fun z4 => ?_) (fun z4 => ?_)
        · skip
          have z4 := b2i_1.mp z4
          exact absurd hn z4
        · skip
          have z4 := b2i_0.mp z4
          refine v_bipush (v := -5) O dX10_left_43 (by decide) ?_
          exact v_ireturn O T rfl rfl (by decide) (by decide) dX10_left_45 (⟨zs_10, zs_11, zs_20, zs_21, zs_22, zs2_25_13, zs2_26_14, zs2_27_15, zs2_29_16, _, _, rfl, rfl⟩)
      · skip
        have z3 := b2i_0.mp z3
        exact absurd ((isIx_nI (by omega) (by omega)).mpr hh) z3
    · skip
      have y2 := b2i_0.mp y2
      exact absurd ((isIx_nI (by omega) (by omega)).mpr hw) y2
set_option maxRecDepth 100000 in
set_option maxHeartbeats 4000000 in
theorem sp_X10_left_10 {D : G} {mo : Nat} {ma : Nat → Nat} {c : CS} {c2 : CS} {tk : Int32} {vc : Nat} {ln : Nat} {rn : Nat} {zs_10 : Int32} {zs_11 : Int32} {zs_20 : Int32} {zs_21 : Int32} {zs_22 : Int32} {zs_25 : Int32} {zs_26 : Int32} {zs_27 : Int32} {zs_29 : Int32} {h : Nat} {zw : Nat} {zL : Nat} {zT : Nat} {zQ : Nat → Nat} {wd : Nat → Int32} {nu : Nat → Int32} {fr : Nat → Int32} {tt9 : Nat → Int32} {sf : Nat → Int32} {cls : Nat → Int32} {pf : Nat → Int32} {hb : Nat → Int32} {bg : Nat} {bn : Nat} {v : VS} (hC : cOk c) (hB9 : hB c.held cls bg bn) (hM : MR wd nu fr tt9 sf bg bn v) (hva : vAsk v) (hw : zw < c.men) (hh : h < 1000000) (hn : wlkA c v h c.rl = some (zL, zT, zQ)) : Sp D mX10_left 30 0 0 [.ref mo, .int (nI h), .int (nI zw)] [(mo, .inr (10, M1R ma (mZ c c2 tk vc ln rn zs_10 zs_11 zs_20 zs_21 zs_22 zs_25 zs_26 zs_27 zs_29))), ((ma 4), eI D 6 (nF c.kk)), ((ma 5), eI D 6 (nF c.vv)), ((ma 6), eI D 6 c.hd), ((ma 30), eI D 8 (nF c.crf)), ((ma 35), eI D 12 (nF c.bo)), ((ma 13), eI D 6 cls), ((ma 14), eI D 60 wd), ((ma 15), eI D 60 nu), ((ma 16), eI D 60 fr), ((ma 17), eI D 60 tt9), ((ma 18), eI D 600 sf), ((ma 24), eZ D 100 pf), ((ma 31), eI D 6 hb)] (fun r w => ∃ zs2_10 : Int32, ∃ zs2_11 : Int32, ∃ zs2_20 : Int32, ∃ zs2_21 : Int32, ∃ zs2_22 : Int32, ∃ zs2_25 : Int32, ∃ zs2_26 : Int32, ∃ zs2_27 : Int32, ∃ zs2_29 : Int32, ∃ pf2 : Nat → Int32, ∃ hb2 : Nat → Int32, r = some (.int (nI (zQ zw))) ∧ w = [(mo, .inr (10, M1R ma (mZ c c2 tk vc ln rn zs2_10 zs2_11 zs2_20 zs2_21 zs2_22 zs2_25 zs2_26 zs2_27 zs2_29))), ((ma 4), eI D 6 (nF c.kk)), ((ma 5), eI D 6 (nF c.vv)), ((ma 6), eI D 6 c.hd), ((ma 30), eI D 8 (nF c.crf)), ((ma 35), eI D 12 (nF c.bo)), ((ma 13), eI D 6 cls), ((ma 14), eI D 60 wd), ((ma 15), eI D 60 nu), ((ma 16), eI D 60 fr), ((ma 17), eI D 60 tt9), ((ma 18), eI D 600 sf), ((ma 24), eZ D 100 pf2), ((ma 31), eI D 6 hb2)]) := by
  refine Sp.of (by decide) (Nat.le_of_ble_eq_true rfl) (fun X O T => ?_)
  refine v_eq (lv' := [(0, .ref mo), (1, .int (nI h)), (2, .int (nI zw))]) rfl rfl rfl rfl ?_
  have z_m := hC.1
  have z_hp := hC.2.2.2.1
  have z_wk := hC.2.2.2.2.1
  have z_rl := hC.2.2.2.2.2.1
  have z_pg := hC.2.2.2.2.2.2.2.1
  refine v_aload_n O dX10_left_0 0 rfl ?_
  refine v_iload_n O dX10_left_1 2 rfl ?_
  refine v_bipush (v := -2) O dX10_left_2 (by decide) ?_
  refine v_iconst (v := -1) O dX10_left_4 (by decide) ?_
  refine v_cV (T := TX10) (ci := 10) (As := [.int (nI zw), .int (-2), .int (-1)]) (wr := [(mo, .inr (10, M1R ma (mZ c c2 tk vc ln rn zs_10 zs_11 zs_20 zs_21 zs_22 zs_25 zs_26 zs_27 zs_29))), ((ma 4), eI D 6 (nF c.kk)), ((ma 5), eI D 6 (nF c.vv)), ((ma 6), eI D 6 c.hd), ((ma 30), eI D 8 (nF c.crf)), ((ma 35), eI D 12 (nF c.bo)), ((ma 13), eI D 6 cls), ((ma 14), eI D 60 wd), ((ma 15), eI D 60 nu), ((ma 16), eI D 60 fr), ((ma 17), eI D 60 tt9), ((ma 18), eI D 600 sf), ((ma 24), eZ D 100 pf), ((ma 31), eI D 6 hb)]) (st := []) O cf_X10_179 rfl (sp_X10_in_m2_m1 (mo := mo) (x := (nI zw)) ) dX10_left_5 rfl rfl 0 rfl [] [0, 1, 2, 3, 4, 5, 6, 7, 8, 9, 10, 11, 12, 13] (by decide) rfl rfl (by decide) (by decide) (by decide) (Nat.le_of_ble_eq_true rfl) (by decide) (by decide) (fun r_2 w_3 h_1 => ?_)
  obtain ⟨rfl, rfl⟩ := h_1
  refine v_eq (st' := [.int (b2i (-2 ≤ (nI zw) ∧ (nI zw) ≤ -1))]) (ws' := [(mo, .inr (10, M1R ma (mZ c c2 tk vc ln rn zs_10 zs_11 zs_20 zs_21 zs_22 zs_25 zs_26 zs_27 zs_29))), ((ma 4), eI D 6 (nF c.kk)), ((ma 5), eI D 6 (nF c.vv)), ((ma 6), eI D 6 c.hd), ((ma 30), eI D 8 (nF c.crf)), ((ma 35), eI D 12 (nF c.bo)), ((ma 13), eI D 6 cls), ((ma 14), eI D 60 wd), ((ma 15), eI D 60 nu), ((ma 16), eI D 60 fr), ((ma 17), eI D 60 tt9), ((ma 18), eI D 600 sf), ((ma 24), eZ D 100 pf), ((ma 31), eI D 6 hb)]) rfl rfl rfl rfl ?_
  refine v_if_ne O 23 dX10_left_8 (by decide) (fun y1 => ?_) (fun y1 => ?_)
  · skip
    have y1 := b2i_1.mp y1
    exact absurd (m21 y1) (fun q => q.elim (zI_m1 (by omega)) (zI_m2 (by omega)))
  · skip
    have y1 := b2i_0.mp y1
    refine v_aload_n O dX10_left_11 0 rfl ?_
    refine v_iload_n O dX10_left_12 2 rfl ?_
    refine v_cV (T := TX10) (ci := 10) (As := [.int (nI zw)]) (wr := [((ma 4), eI D 6 (nF c.kk)), ((ma 5), eI D 6 (nF c.vv)), ((ma 6), eI D 6 c.hd), ((ma 30), eI D 8 (nF c.crf)), ((ma 35), eI D 12 (nF c.bo)), ((ma 13), eI D 6 cls), ((ma 14), eI D 60 wd), ((ma 15), eI D 60 nu), ((ma 16), eI D 60 fr), ((ma 17), eI D 60 tt9), ((ma 18), eI D 600 sf), ((ma 24), eZ D 100 pf), ((ma 31), eI D 6 hb)]) (st := []) O cf_X10_281 rfl (sp_X10_isMan (mo := mo) (ma := ma) (c := c) (c2 := c2) (tk := tk) (vc := vc) (ln := ln) (rn := rn) (zs_10 := zs_10) (zs_11 := zs_11) (zs_20 := zs_20) (zs_21 := zs_21) (zs_22 := zs_22) (zs_25 := zs_25) (zs_26 := zs_26) (zs_27 := zs_27) (zs_29 := zs_29) (i := (nI zw)) (hC.1)) dX10_left_13 rfl rfl 0 rfl [0] [1, 2, 3, 4, 5, 6, 7, 8, 9, 10, 11, 12, 13] (by decide) rfl rfl (by decide) (by decide) (by decide) (Nat.le_of_ble_eq_true rfl) (by decide) (by decide) (fun r_5 w_6 h_4 => ?_)
    obtain ⟨rfl, rfl⟩ := h_4
    refine v_eq (st' := [.int (b2i (isIx (nI zw) c.men))]) (ws' := [((ma 4), eI D 6 (nF c.kk)), ((ma 5), eI D 6 (nF c.vv)), ((ma 6), eI D 6 c.hd), ((ma 30), eI D 8 (nF c.crf)), ((ma 35), eI D 12 (nF c.bo)), ((ma 13), eI D 6 cls), ((ma 14), eI D 60 wd), ((ma 15), eI D 60 nu), ((ma 16), eI D 60 fr), ((ma 17), eI D 60 tt9), ((ma 18), eI D 600 sf), ((ma 24), eZ D 100 pf), ((ma 31), eI D 6 hb), (mo, .inr (10, M1R ma (mZ c c2 tk vc ln rn zs_10 zs_11 zs_20 zs_21 zs_22 zs_25 zs_26 zs_27 zs_29)))]) rfl rfl rfl rfl ?_
    refine v_if_ne O 23 dX10_left_16 (by decide) (fun y2 => ?_) (fun y2 => ?_)
    · skip
      have y2 := b2i_1.mp y2
      refine v_aload_n O dX10_left_23 0 rfl ?_
      refine v_iload_n O dX10_left_24 1 rfl ?_
      refine v_cV (T := TX10) (ci := 10) (As := [.int (nI h)]) (wr := [((ma 4), eI D 6 (nF c.kk)), ((ma 5), eI D 6 (nF c.vv)), ((ma 6), eI D 6 c.hd), ((ma 30), eI D 8 (nF c.crf)), ((ma 35), eI D 12 (nF c.bo)), ((ma 13), eI D 6 cls), ((ma 14), eI D 60 wd), ((ma 15), eI D 60 nu), ((ma 16), eI D 60 fr), ((ma 17), eI D 60 tt9), ((ma 18), eI D 600 sf), ((ma 24), eZ D 100 pf), ((ma 31), eI D 6 hb)]) (st := []) O cf_X10_184 rfl (sp_X10_isHeap (mo := mo) (ma := ma) (c := c) (c2 := c2) (tk := tk) (vc := vc) (ln := ln) (rn := rn) (zs_10 := zs_10) (zs_11 := zs_11) (zs_20 := zs_20) (zs_21 := zs_21) (zs_22 := zs_22) (zs_25 := zs_25) (zs_26 := zs_26) (zs_27 := zs_27) (zs_29 := zs_29) (h := (nI h)) ) dX10_left_25 rfl rfl 13 rfl [13] [0, 1, 2, 3, 4, 5, 6, 7, 8, 9, 10, 11, 12] (by decide) rfl rfl (by decide) (by decide) (by decide) (Nat.le_of_ble_eq_true rfl) (by decide) (by decide) (fun r_8 w_9 h_7 => ?_)
      obtain ⟨rfl, rfl⟩ := h_7
      refine v_eq (st' := [.int (b2i (isIx (nI h) 1000000))]) (ws' := [((ma 4), eI D 6 (nF c.kk)), ((ma 5), eI D 6 (nF c.vv)), ((ma 6), eI D 6 c.hd), ((ma 30), eI D 8 (nF c.crf)), ((ma 35), eI D 12 (nF c.bo)), ((ma 13), eI D 6 cls), ((ma 14), eI D 60 wd), ((ma 15), eI D 60 nu), ((ma 16), eI D 60 fr), ((ma 17), eI D 60 tt9), ((ma 18), eI D 600 sf), ((ma 24), eZ D 100 pf), ((ma 31), eI D 6 hb), (mo, .inr (10, M1R ma (mZ c c2 tk vc ln rn zs_10 zs_11 zs_20 zs_21 zs_22 zs_25 zs_26 zs_27 zs_29)))]) rfl rfl rfl rfl ?_
      refine v_if_ne O 35 dX10_left_28 (by decide) (fun z3 => ?_) (fun z3 => ?_)
      · skip
        have z3 := b2i_1.mp z3
        refine v_aload_n O dX10_left_35 0 rfl ?_
        refine v_iload_n O dX10_left_36 1 rfl ?_
        refine v_cV (T := TX10) (ci := 10) (As := [.int (nI h)]) (wr := []) (st := []) O cf_X10_287 rfl (sp_X10_goesRow (mo := mo) (ma := ma) (c := c) (c2 := c2) (tk := tk) (vc := vc) (ln := ln) (rn := rn) (zs_10 := zs_10) (zs_11 := zs_11) (zs_20 := zs_20) (zs_21 := zs_21) (zs_22 := zs_22) (zs_25 := zs_25) (zs_26 := zs_26) (zs_27 := zs_27) (zs_29 := zs_29) (wd := wd) (nu := nu) (fr := fr) (tt9 := tt9) (sf := sf) (cls := cls) (pf := pf) (hb := hb) (bg := bg) (bn := bn) (v := v) (h := h) (hB9) (hM) (hC) (hva) (hh)) dX10_left_37 rfl rfl 13 rfl [13, 0, 1, 2, 3, 4, 5, 6, 7, 8, 9, 10, 11, 12] [] (by decide) rfl rfl (by decide) (by decide) (by decide) (Nat.le_of_ble_eq_true rfl) (by decide) (by decide) (fun r_11 w_12 h_10 => ?_)
        obtain ⟨zs2_25_13, zs2_26_14, zs2_27_15, zs2_29_16, pf2_17, hb2_18, rfl, rfl, h_g⟩ := h_10
        refine v_eq (st' := [.int (b2i (¬ wlkA c v h c.rl = none))]) (ws' := [(mo, .inr (10, M1R ma (mZ c c2 tk vc ln rn zs_10 zs_11 zs_20 zs_21 zs_22 zs2_25_13 zs2_26_14 zs2_27_15 zs2_29_16))), ((ma 4), eI D 6 (nF c.kk)), ((ma 5), eI D 6 (nF c.vv)), ((ma 6), eI D 6 c.hd), ((ma 30), eI D 8 (nF c.crf)), ((ma 35), eI D 12 (nF c.bo)), ((ma 13), eI D 6 cls), ((ma 14), eI D 60 wd), ((ma 15), eI D 60 nu), ((ma 16), eI D 60 fr), ((ma 17), eI D 60 tt9), ((ma 18), eI D 600 sf), ((ma 24), eZ D 100 pf2_17), ((ma 31), eI D 6 hb2_18)]) rfl rfl rfl rfl ?_
        refine v_if_ne O 46 dX10_left_40 (by decide) (fun z4 => ?_) (fun z4 => ?_)
        · skip
          have z4 := b2i_1.mp z4
          refine v_iload_n O dX10_left_46 2 rfl ?_
          refine v_iconst (v := -1) O dX10_left_47 (by decide) ?_
          refine v_icmp_ne O 58 dX10_left_48 (by decide) (fun y4 => ?_) (fun y4 => ?_)
          · skip
            refine v_iload_n O dX10_left_58 2 rfl ?_
            refine v_bipush (v := -2) O dX10_left_59 (by decide) ?_
            refine v_icmp_ne O 71 dX10_left_61 (by decide) (fun y5 => ?_) (fun y5 => ?_)
            · skip
              refine v_aload_n O dX10_left_71 0 rfl ?_
              refine gf_X10_105 (v := .ref (ma 31)) O rfl dX10_left_72 0 rfl rfl ?_
              refine v_iload_n O dX10_left_75 2 rfl ?_
              refine v_ialdk O dX10_left_76 13 rfl zw rfl (by omega) (by decide) ?_
              exact v_ireturn O T rfl rfl (by decide) (by decide) dX10_left_77 (⟨zs_10, zs_11, zs_20, zs_21, zs_22, zs2_25_13, zs2_26_14, zs2_27_15, zs2_29_16, _, _, by rw [(h_g zL zT zQ hn).2.2 zw (by omega)], rfl⟩)
            · skip
              exact absurd y5 (zI_m2 (by omega))
          · skip
            exact absurd y4 (zI_m1 (by omega))
        · skip
          have z4 := b2i_0.mp z4
          exact absurd (Classical.not_not.mp z4) (by rw [hn]; exact fun y => by cases y)
      · skip
        have z3 := b2i_0.mp z3
        exact absurd ((isIx_nI (by omega) (by omega)).mpr hh) z3
    · skip
      have y2 := b2i_0.mp y2
      exact absurd ((isIx_nI (by omega) (by omega)).mpr hw) y2
set_option maxRecDepth 100000 in
set_option maxHeartbeats 4000000 in
theorem l_X10_looked {D : G} {X : CX} {mo : Nat} {ma : Nat → Nat} {c : CS} {c2 : CS} {tk : Int32} {vc : Nat} {ln : Nat} {rn : Nat} {zs_10 : Int32} {zs_11 : Int32} {zs_20 : Int32} {zs_21 : Int32} {zs_22 : Int32} {wd : Nat → Int32} {nu : Nat → Int32} {fr : Nat → Int32} {tt9 : Nat → Int32} {sf : Nat → Int32} {cls : Nat → Int32} {bg : Nat} {bn : Nat} {v : VS} {hb : Nat → Int32} {zs_29 : Int32} (O : Ok D X mX10_looked 30 0 0) (hC : cOk c) (hB9 : hB c.held cls bg bn) (hM : MR wd nu fr tt9 sf bg bn v) (hva : vAsk v) (T : Rt D X (fun r w => ∃ zs2_10 : Int32, ∃ zs2_11 : Int32, ∃ zs2_20 : Int32, ∃ zs2_21 : Int32, ∃ zs2_22 : Int32, ∃ zs2_25 : Int32, ∃ zs2_26 : Int32, ∃ zs2_27 : Int32, ∃ zs2_29 : Int32, ∃ pf2 : Nat → Int32, ∃ hb2 : Nat → Int32, r = some (.int (lookN (lokA c v) c.bo (min (c.pg - 1) c.rl) 0 (c.bo 0))) ∧ w = [(mo, .inr (10, M1R ma (mZ c c2 tk vc ln rn zs2_10 zs2_11 zs2_20 zs2_21 zs2_22 zs2_25 zs2_26 zs2_27 zs2_29))), ((ma 4), eI D 6 (nF c.kk)), ((ma 5), eI D 6 (nF c.vv)), ((ma 6), eI D 6 c.hd), ((ma 30), eI D 8 (nF c.crf)), ((ma 35), eI D 12 (nF c.bo)), ((ma 13), eI D 6 cls), ((ma 14), eI D 60 wd), ((ma 15), eI D 60 nu), ((ma 16), eI D 60 fr), ((ma 17), eI D 60 tt9), ((ma 18), eI D 600 sf), ((ma 24), eZ D 100 pf2), ((ma 31), eI D 6 hb2)]) 0 0) : ∀ (t i : Nat), i + t = min (c.pg - 1) c.rl → ∀ (h : Nat) (zs_26 zs_27 : Int32) (pf : Nat → Int32), h < 1000000 → lookN (lokA c v) c.bo (min (c.pg - 1) c.rl) 0 (c.bo 0) = lookN (lokA c v) c.bo t i h → V D X 0 0 12 [(0, .ref mo), (1, .int (nI (i + 1)))] [] [(mo, .inr (10, M1R ma (mZ c c2 tk vc ln rn zs_10 zs_11 zs_20 zs_21 zs_22 (nI h) zs_26 zs_27 zs_29))), ((ma 4), eI D 6 (nF c.kk)), ((ma 5), eI D 6 (nF c.vv)), ((ma 6), eI D 6 c.hd), ((ma 30), eI D 8 (nF c.crf)), ((ma 35), eI D 12 (nF c.bo)), ((ma 13), eI D 6 cls), ((ma 14), eI D 60 wd), ((ma 15), eI D 60 nu), ((ma 16), eI D 60 fr), ((ma 17), eI D 60 tt9), ((ma 18), eI D 600 sf), ((ma 24), eZ D 100 pf), ((ma 31), eI D 6 hb)] := by
  intro t
  induction t with
  | zero =>
    intro i hi h zs_26 zs_27 pf hh hF
    have z_m := hC.1
    have z_hp := hC.2.2.2.1
    have z_wk := hC.2.2.2.2.1
    have z_rl := hC.2.2.2.2.2.1
    have z_pg := hC.2.2.2.2.2.2.2.1
    refine v_iload_n O dX10_looked_12 1 rfl ?_
    refine v_aload_n O dX10_looked_13 0 rfl ?_
    refine gf_X10_114 (v := .int (nI c.pg)) O rfl dX10_looked_14 0 rfl rfl ?_
    refine v_icmp_ge O 75 dX10_looked_17 (by decide) (fun z1 => ?_) (fun z1 => ?_)
    · skip
      have z1 := (c_le' (x := nI (i + 1)) (y := nI c.pg) (a := i + 1) (b := c.pg) rfl rfl (by omega) (by omega)).mp z1
      refine v_bipush (v := -5) O dX10_looked_75 (by decide) ?_
      exact v_ireturn O T rfl rfl (by decide) (by decide) dX10_looked_77 (⟨zs_10, zs_11, zs_20, zs_21, zs_22, nI h, zs_26, zs_27, zs_29, _, _, by rw [hF]; rfl, rfl⟩)
    · skip
      have z1 := (not_congr (c_le' (x := nI (i + 1)) (y := nI c.pg) (a := i + 1) (b := c.pg) rfl rfl (by omega) (by omega))).mp z1
      refine v_iload_n O dX10_looked_20 1 rfl ?_
      refine v_aload_n O dX10_looked_21 0 rfl ?_
      refine gf_X10_96 (v := .int (nI c.rl)) O rfl dX10_looked_22 0 rfl rfl ?_
      refine v_icmp_gt O 75 dX10_looked_25 (by decide) (fun z2 => ?_) (fun z2 => ?_)
      · skip
        have z2 := (c_lt' (x := nI (i + 1)) (y := nI c.rl) (a := i + 1) (b := c.rl) rfl rfl (by omega) (by omega)).mp z2
        refine v_bipush (v := -5) O dX10_looked_75 (by decide) ?_
        exact v_ireturn O T rfl rfl (by decide) (by decide) dX10_looked_77 (⟨zs_10, zs_11, zs_20, zs_21, zs_22, nI h, zs_26, zs_27, zs_29, _, _, by rw [hF]; rfl, rfl⟩)
      · skip
        have z2 := (not_congr (c_lt' (x := nI (i + 1)) (y := nI c.rl) (a := i + 1) (b := c.rl) rfl rfl (by omega) (by omega))).mp z2
        exact absurd z2 (by omega)
  | succ t ih =>
    intro i hi h zs_26 zs_27 pf hh hF
    have z_m := hC.1
    have z_hp := hC.2.2.2.1
    have z_wk := hC.2.2.2.2.1
    have z_rl := hC.2.2.2.2.2.1
    have z_pg := hC.2.2.2.2.2.2.2.1
    refine v_iload_n O dX10_looked_12 1 rfl ?_
    refine v_aload_n O dX10_looked_13 0 rfl ?_
    refine gf_X10_114 (v := .int (nI c.pg)) O rfl dX10_looked_14 0 rfl rfl ?_
    refine v_icmp_ge O 75 dX10_looked_17 (by decide) (fun z1 => ?_) (fun z1 => ?_)
    · skip
      have z1 := (c_le' (x := nI (i + 1)) (y := nI c.pg) (a := i + 1) (b := c.pg) rfl rfl (by omega) (by omega)).mp z1
      exact absurd z1 (by omega)
    · skip
      have z1 := (not_congr (c_le' (x := nI (i + 1)) (y := nI c.pg) (a := i + 1) (b := c.pg) rfl rfl (by omega) (by omega))).mp z1
      refine v_iload_n O dX10_looked_20 1 rfl ?_
      refine v_aload_n O dX10_looked_21 0 rfl ?_
      refine gf_X10_96 (v := .int (nI c.rl)) O rfl dX10_looked_22 0 rfl rfl ?_
      refine v_icmp_gt O 75 dX10_looked_25 (by decide) (fun z2 => ?_) (fun z2 => ?_)
      · skip
        have z2 := (c_lt' (x := nI (i + 1)) (y := nI c.rl) (a := i + 1) (b := c.rl) rfl rfl (by omega) (by omega)).mp z2
        exact absurd z2 (by omega)
      · skip
        have z2 := (not_congr (c_lt' (x := nI (i + 1)) (y := nI c.rl) (a := i + 1) (b := c.rl) rfl rfl (by omega) (by omega))).mp z2
        have z_ir : i < c.rl := by omega
        have z_cr := hC.2.2.2.2.2.2.1 i z_ir
        have z_bo := hC.2.2.2.2.2.2.2.2 (i + 1) (by omega)
        refine v_aload_n O dX10_looked_28 0 rfl ?_
        refine v_aload_n O dX10_looked_29 0 rfl ?_
        refine gf_X10_102 (v := .ref (ma 30)) O rfl dX10_looked_30 0 rfl rfl ?_
        refine v_iload_n O dX10_looked_33 1 rfl ?_
        refine v_iconst (v := 1) O dX10_looked_34 (by decide) ?_
        refine v_isub O dX10_looked_35 ?_
        refine v_top (y := nI i) (nI_p _) ?_
        refine v_ialdk O dX10_looked_36 4 rfl i rfl (by omega) (by decide) ?_
        refine v_top (y := nI (c.crf i)) rfl ?_
        refine v_aload_n O dX10_looked_37 0 rfl ?_
        refine gf_X10_19 (v := .int (nI c.wak)) O rfl dX10_looked_38 0 rfl rfl ?_
        refine v_iload_n O dX10_looked_41 1 rfl ?_
        refine v_iadd O dX10_looked_42 ?_
        refine v_top (y := nI (c.wak + (i + 1))) (nI_add c.wak (i + 1)) ?_
        refine v_iconst (v := 1) O dX10_looked_43 (by decide) ?_
        refine v_isub O dX10_looked_44 ?_
        refine v_top (y := nI (c.wak + i)) (by rw [show c.wak + (i + 1) = c.wak + i + 1 by omega]; exact nI_p _) ?_
        refine v_cV (T := TX10) (ci := 10) (As := [.int (nI (c.crf i)), .int (nI (c.wak + i))]) (wr := [((ma 6), eI D 6 c.hd), ((ma 30), eI D 8 (nF c.crf)), ((ma 35), eI D 12 (nF c.bo)), ((ma 31), eI D 6 hb)]) (st := []) O cf_X10_284 rfl (sp_X10_wakes (mo := mo) (ma := ma) (c := c) (c2 := c2) (tk := tk) (vc := vc) (ln := ln) (rn := rn) (zs_10 := zs_10) (zs_11 := zs_11) (zs_20 := zs_20) (zs_21 := zs_21) (zs_22 := zs_22) (zs_26 := zs_26) (zs_27 := zs_27) (zs_29 := zs_29) (wd := wd) (nu := nu) (fr := fr) (tt9 := tt9) (sf := sf) (cls := cls) (pf := pf) (bg := bg) (bn := bn) (v := v) (i := (c.crf i)) (s := i) (h := h) (hB9) (hM) (hC) (hva) (by omega) (by omega) (by omega)) dX10_looked_45 rfl rfl 0 rfl [0, 1, 2, 6, 7, 8, 9, 10, 11, 12] [3, 4, 5, 13] (by decide) rfl rfl (by decide) (by decide) (by decide) (Nat.le_of_ble_eq_true rfl) (by decide) (by decide) (fun r_2 w_3 h_1 => ?_)
        obtain ⟨pf2_4, rfl, rfl⟩ := h_1
        refine v_eq (st' := [.int (b2i (¬ wakA c v (c.crf i) i h = none))]) (ws' := [((ma 6), eI D 6 c.hd), ((ma 30), eI D 8 (nF c.crf)), ((ma 35), eI D 12 (nF c.bo)), ((ma 31), eI D 6 hb), (mo, .inr (10, M1R ma (mZ c c2 tk vc ln rn zs_10 zs_11 zs_20 zs_21 zs_22 (nI (oL (wakA c v (c.crf i) i h) h)) (nI (oG (wakA c v (c.crf i) i h) 0)) (nI (oD (wakA c v (c.crf i) i h) 0)) zs_29))), ((ma 4), eI D 6 (nF c.kk)), ((ma 5), eI D 6 (nF c.vv)), ((ma 13), eI D 6 cls), ((ma 14), eI D 60 wd), ((ma 15), eI D 60 nu), ((ma 16), eI D 60 fr), ((ma 17), eI D 60 tt9), ((ma 18), eI D 600 sf), ((ma 24), eZ D 100 pf2_4)]) rfl rfl rfl rfl ?_
        refine v_if_ne O 54 dX10_looked_48 (by decide) (fun z5 => ?_) (fun z5 => ?_)
        · skip
          have z5 := b2i_1.mp z5
          have z5 : ¬ lokA c v i h = none := z5
          have z_hl : oL (wakA c v (c.crf i) i h) h ≤ h := oL_lew (partsN_ge hva.2.2.1)
          refine v_aload_n O dX10_looked_54 0 rfl ?_
          refine gf_X10_87 (v := .int (nI (oL (wakA c v (c.crf i) i h) h))) O rfl dX10_looked_55 4 rfl rfl ?_
          refine v_aload_n O dX10_looked_58 0 rfl ?_
          refine gf_X10_117 (v := .ref (ma 35)) O rfl dX10_looked_59 4 rfl rfl ?_
          refine v_iload_n O dX10_looked_62 1 rfl ?_
          refine v_ialdk O dX10_looked_63 2 rfl (i + 1) rfl (by omega) (by decide) ?_
          refine v_top (y := nI (c.bo (i + 1))) rfl ?_
          refine v_icmp_eq O 69 dX10_looked_64 (by decide) (fun z6 => ?_) (fun z6 => ?_)
          · skip
            have z6 := (c_eq (x := nI (oL (wakA c v (c.crf i) i h) h)) (y := nI (c.bo (i + 1))) (a := oL (wakA c v (c.crf i) i h) h) (b := c.bo (i + 1)) rfl rfl (by omega) (by omega)).mp z6
            have z6 : oL (lokA c v i h) h = c.bo (i + 1) := z6
            refine v_iinc (v := nI (i + 1 + 1)) (lv' := [(0, .ref mo), (1, .int (nI (i + 1 + 1)))]) O dX10_looked_69 1 rfl (nI_1 (i + 1)) (by decide) rfl ?_
            refine v_goto O 12 dX10_looked_72 (by decide) ?_
            refine v_sub (ws' := [(mo, .inr (10, M1R ma (mZ c c2 tk vc ln rn zs_10 zs_11 zs_20 zs_21 zs_22 (nI (oL (wakA c v (c.crf i) i h) h)) (nI (oG (wakA c v (c.crf i) i h) 0)) (nI (oD (wakA c v (c.crf i) i h) 0)) zs_29))), ((ma 4), eI D 6 (nF c.kk)), ((ma 5), eI D 6 (nF c.vv)), ((ma 6), eI D 6 c.hd), ((ma 30), eI D 8 (nF c.crf)), ((ma 35), eI D 12 (nF c.bo)), ((ma 13), eI D 6 cls), ((ma 14), eI D 60 wd), ((ma 15), eI D 60 nu), ((ma 16), eI D 60 fr), ((ma 17), eI D 60 tt9), ((ma 18), eI D 600 sf), ((ma 24), eZ D 100 pf2_4), ((ma 31), eI D 6 hb)]) [4, 5, 6, 0, 1, 2, 7, 8, 9, 10, 11, 12, 13, 3] (by decide) rfl ?_
            exact ih (i + 1) (by omega) _ _ _ _ (by show oL _ _ < _; exact Nat.lt_of_le_of_lt z_hl hh) (by rw [hF, lookN_s z5, iteP_t z6]; rfl)
          · skip
            have z6 := (not_congr (c_eq (x := nI (oL (wakA c v (c.crf i) i h) h)) (y := nI (c.bo (i + 1))) (a := oL (wakA c v (c.crf i) i h) h) (b := c.bo (i + 1)) rfl rfl (by omega) (by omega))).mp z6
            have z6 : ¬ oL (lokA c v i h) h = c.bo (i + 1) := z6
            refine v_iload_n O dX10_looked_67 1 rfl ?_
            refine v_sub (ws' := [(mo, .inr (10, M1R ma (mZ c c2 tk vc ln rn zs_10 zs_11 zs_20 zs_21 zs_22 (nI (oL (wakA c v (c.crf i) i h) h)) (nI (oG (wakA c v (c.crf i) i h) 0)) (nI (oD (wakA c v (c.crf i) i h) 0)) zs_29))), ((ma 4), eI D 6 (nF c.kk)), ((ma 5), eI D 6 (nF c.vv)), ((ma 6), eI D 6 c.hd), ((ma 30), eI D 8 (nF c.crf)), ((ma 35), eI D 12 (nF c.bo)), ((ma 13), eI D 6 cls), ((ma 14), eI D 60 wd), ((ma 15), eI D 60 nu), ((ma 16), eI D 60 fr), ((ma 17), eI D 60 tt9), ((ma 18), eI D 600 sf), ((ma 24), eZ D 100 pf2_4), ((ma 31), eI D 6 hb)]) [4, 5, 6, 0, 1, 2, 7, 8, 9, 10, 11, 12, 13, 3] (by decide) rfl ?_
            exact v_ireturn O T rfl rfl (by decide) (by decide) dX10_looked_68 (⟨zs_10, zs_11, zs_20, zs_21, zs_22, nI (oL (wakA c v (c.crf i) i h) h), nI (oG (wakA c v (c.crf i) i h) 0), nI (oD (wakA c v (c.crf i) i h) 0), zs_29, _, _, by rw [hF, lookN_s z5, iteP_f z6], rfl⟩)
        · skip
          have z5 := b2i_0.mp z5
          have z5 : lokA c v i h = none := Classical.not_not.mp z5
          refine v_bipush (v := -5) O dX10_looked_51 (by decide) ?_
          refine v_sub (ws' := [(mo, .inr (10, M1R ma (mZ c c2 tk vc ln rn zs_10 zs_11 zs_20 zs_21 zs_22 (nI (oL (wakA c v (c.crf i) i h) h)) (nI (oG (wakA c v (c.crf i) i h) 0)) (nI (oD (wakA c v (c.crf i) i h) 0)) zs_29))), ((ma 4), eI D 6 (nF c.kk)), ((ma 5), eI D 6 (nF c.vv)), ((ma 6), eI D 6 c.hd), ((ma 30), eI D 8 (nF c.crf)), ((ma 35), eI D 12 (nF c.bo)), ((ma 13), eI D 6 cls), ((ma 14), eI D 60 wd), ((ma 15), eI D 60 nu), ((ma 16), eI D 60 fr), ((ma 17), eI D 60 tt9), ((ma 18), eI D 600 sf), ((ma 24), eZ D 100 pf2_4), ((ma 31), eI D 6 hb)]) [4, 5, 6, 0, 1, 2, 7, 8, 9, 10, 11, 12, 13, 3] (by decide) rfl ?_
          exact v_ireturn O T rfl rfl (by decide) (by decide) dX10_looked_53 (⟨zs_10, zs_11, zs_20, zs_21, zs_22, nI (oL (wakA c v (c.crf i) i h) h), nI (oG (wakA c v (c.crf i) i h) 0), nI (oD (wakA c v (c.crf i) i h) 0), zs_29, _, _, by rw [hF, lookN_n z5], rfl⟩)
set_option maxRecDepth 100000 in
set_option maxHeartbeats 4000000 in
theorem sp_X10_looked_1 {D : G} {mo : Nat} {ma : Nat → Nat} {c : CS} {c2 : CS} {tk : Int32} {vc : Nat} {ln : Nat} {rn : Nat} {zs_10 : Int32} {zs_11 : Int32} {zs_20 : Int32} {zs_21 : Int32} {zs_22 : Int32} {zs_25 : Int32} {zs_26 : Int32} {zs_27 : Int32} {zs_29 : Int32} {wd : Nat → Int32} {nu : Nat → Int32} {fr : Nat → Int32} {tt9 : Nat → Int32} {sf : Nat → Int32} {cls : Nat → Int32} {pf : Nat → Int32} {hb : Nat → Int32} {bg : Nat} {bn : Nat} {v : VS} (hC : cOk c) (hB9 : hB c.held cls bg bn) (hM : MR wd nu fr tt9 sf bg bn v) (hva : vAsk v) : Sp D mX10_looked 30 0 0 [.ref mo] [(mo, .inr (10, M1R ma (mZ c c2 tk vc ln rn zs_10 zs_11 zs_20 zs_21 zs_22 zs_25 zs_26 zs_27 zs_29))), ((ma 4), eI D 6 (nF c.kk)), ((ma 5), eI D 6 (nF c.vv)), ((ma 6), eI D 6 c.hd), ((ma 30), eI D 8 (nF c.crf)), ((ma 35), eI D 12 (nF c.bo)), ((ma 13), eI D 6 cls), ((ma 14), eI D 60 wd), ((ma 15), eI D 60 nu), ((ma 16), eI D 60 fr), ((ma 17), eI D 60 tt9), ((ma 18), eI D 600 sf), ((ma 24), eZ D 100 pf), ((ma 31), eI D 6 hb)] (fun r w => ∃ zs2_10 : Int32, ∃ zs2_11 : Int32, ∃ zs2_20 : Int32, ∃ zs2_21 : Int32, ∃ zs2_22 : Int32, ∃ zs2_25 : Int32, ∃ zs2_26 : Int32, ∃ zs2_27 : Int32, ∃ zs2_29 : Int32, ∃ pf2 : Nat → Int32, ∃ hb2 : Nat → Int32, r = some (.int (lookN (lokA c v) c.bo (min (c.pg - 1) c.rl) 0 (c.bo 0))) ∧ w = [(mo, .inr (10, M1R ma (mZ c c2 tk vc ln rn zs2_10 zs2_11 zs2_20 zs2_21 zs2_22 zs2_25 zs2_26 zs2_27 zs2_29))), ((ma 4), eI D 6 (nF c.kk)), ((ma 5), eI D 6 (nF c.vv)), ((ma 6), eI D 6 c.hd), ((ma 30), eI D 8 (nF c.crf)), ((ma 35), eI D 12 (nF c.bo)), ((ma 13), eI D 6 cls), ((ma 14), eI D 60 wd), ((ma 15), eI D 60 nu), ((ma 16), eI D 60 fr), ((ma 17), eI D 60 tt9), ((ma 18), eI D 600 sf), ((ma 24), eZ D 100 pf2), ((ma 31), eI D 6 hb2)]) := by
  refine Sp.of (by decide) (Nat.le_of_ble_eq_true rfl) (fun X O T => ?_)
  refine v_eq (lv' := [(0, .ref mo)]) rfl rfl rfl rfl ?_
  have z_m := hC.1
  have z_hp := hC.2.2.2.1
  have z_wk := hC.2.2.2.2.1
  have z_rl := hC.2.2.2.2.2.1
  have z_pg := hC.2.2.2.2.2.2.2.1
  refine v_aload_n O dX10_looked_0 0 rfl ?_
  refine v_aload_n O dX10_looked_1 0 rfl ?_
  refine gf_X10_117 (v := .ref (ma 35)) O rfl dX10_looked_2 0 rfl rfl ?_
  refine v_iconst (v := 0) O dX10_looked_5 (by decide) ?_
  refine v_ialdk O dX10_looked_6 5 rfl 0 rfl (by omega) (by decide) ?_
  refine v_top (y := nI (c.bo 0)) rfl ?_
  refine pf_X10_87 (fs' := M1R ma (mZ c c2 tk vc ln rn zs_10 zs_11 zs_20 zs_21 zs_22 (nI (c.bo 0)) zs_26 zs_27 zs_29)) (ws' := [(mo, .inr (10, M1R ma (mZ c c2 tk vc ln rn zs_10 zs_11 zs_20 zs_21 zs_22 (nI (c.bo 0)) zs_26 zs_27 zs_29))), ((ma 4), eI D 6 (nF c.kk)), ((ma 5), eI D 6 (nF c.vv)), ((ma 6), eI D 6 c.hd), ((ma 30), eI D 8 (nF c.crf)), ((ma 35), eI D 12 (nF c.bo)), ((ma 13), eI D 6 cls), ((ma 14), eI D 60 wd), ((ma 15), eI D 60 nu), ((ma 16), eI D 60 fr), ((ma 17), eI D 60 tt9), ((ma 18), eI D 600 sf), ((ma 24), eZ D 100 pf), ((ma 31), eI D 6 hb)]) O rfl dX10_looked_7 0 rfl (Nat.le_of_ble_eq_true rfl) rfl rfl ?_
  refine v_iconst (v := 1) O dX10_looked_10 (by decide) ?_
  refine v_istore_n (lv' := [(0, .ref mo), (1, .int 1)]) O dX10_looked_11 (by decide) rfl ?_
  refine v_eq (lv' := [(0, .ref mo), (1, .int (nI (0 + 1)))]) rfl rfl rfl rfl ?_
  exact l_X10_looked O hC hB9 hM hva T (min (c.pg - 1) c.rl) 0 (by omega) (c.bo 0) _ _ _ (hC.2.2.2.2.2.2.2.2 0 (by decide)) rfl
set_option maxRecDepth 100000 in
set_option maxHeartbeats 4000000 in
theorem l_X10_div {D : G} {X : CX} {mo b : Nat} {z : Int} (O : Ok D X mX10_divisor 0 0 0) (T : Rt D X (fun r w => r = some (.long (lN (Nat.gcd z.natAbs b))) ∧ w = []) 0 0) : ∀ (t x y : Nat), y ≤ t → x < 1000000000000 → y < 10000 → Nat.gcd z.natAbs b = Nat.gcd x y → V D X 0 0 17 [(0, .ref mo), (1, .long (Int64.ofInt z)), (3, .long (lN b)), (5, .long (lN x)), (7, .long (lN y))] [] [] := by
  intro t
  induction t with
  | zero =>
    intro x y hy hx hy2 hF
    refine v_lload O dX10_divisor_17 4 rfl ?_
    refine v_lconst (v := 0) O dX10_divisor_19 rfl ?_
    refine v_lcmp O dX10_divisor_20 ?_
    refine v_if_eq O 42 dX10_divisor_21 (by decide) (fun z2 => ?_) (fun z2 => ?_)
    · skip
      have z2 := (lg_cmp_eq _ _).mp z2; have z2 := (cl_eq (x := lN y) (y := 0) (a := y) (b := 0) rfl rfl (by omega) (by omega)).mp z2
      refine v_lload O dX10_divisor_42 3 rfl ?_
      exact v_lreturn O T rfl (by decide) (by decide) dX10_divisor_44 (⟨by rw [hF, z2, Nat.gcd_zero_right], rfl⟩)
    · skip
      have z2 := (not_congr (lg_cmp_eq _ _)).mp z2; have z2 := (not_congr (cl_eq (x := lN y) (y := 0) (a := y) (b := 0) rfl rfl (by omega) (by omega))).mp z2
      exact absurd (by omega) z2
  | succ t ih =>
    intro x y hy hx hy2 hF
    refine v_lload O dX10_divisor_17 4 rfl ?_
    refine v_lconst (v := 0) O dX10_divisor_19 rfl ?_
    refine v_lcmp O dX10_divisor_20 ?_
    refine v_if_eq O 42 dX10_divisor_21 (by decide) (fun z2 => ?_) (fun z2 => ?_)
    · skip
      have z2 := (lg_cmp_eq _ _).mp z2; have z2 := (cl_eq (x := lN y) (y := 0) (a := y) (b := 0) rfl rfl (by omega) (by omega)).mp z2
      refine v_lload O dX10_divisor_42 3 rfl ?_
      exact v_lreturn O T rfl (by decide) (by decide) dX10_divisor_44 (⟨by rw [hF, z2, Nat.gcd_zero_right], rfl⟩)
    · skip
      have z2 := (not_congr (lg_cmp_eq _ _)).mp z2; have z2 := (not_congr (cl_eq (x := lN y) (y := 0) (a := y) (b := 0) rfl rfl (by omega) (by omega))).mp z2
      refine v_lload O dX10_divisor_24 3 rfl ?_
      refine v_lload O dX10_divisor_26 4 rfl ?_
      refine v_lrem O dX10_divisor_28 (fun z9 => z2 ((fb_lN_inj (b := 0) (by omega) (by decide)).mp z9)) ?_
      refine v_topx (y := lN (x % y)) (pk_lRem (by omega) (by omega) (by omega)) ?_
      have z_md : x % y < y := Nat.mod_lt _ (by omega)
      refine v_lstore (lv' := [(0, .ref mo), (1, .long (Int64.ofInt z)), (3, .long (lN b)), (5, .long (lN x)), (7, .long (lN y)), (9, .long (lN (x % y)))]) O dX10_divisor_29 (by decide) rfl ?_
      refine v_lload O dX10_divisor_31 4 rfl ?_
      refine v_lstore (lv' := [(0, .ref mo), (1, .long (Int64.ofInt z)), (3, .long (lN b)), (5, .long (lN y)), (7, .long (lN y)), (9, .long (lN (x % y)))]) O dX10_divisor_33 (by decide) rfl ?_
      refine v_lload O dX10_divisor_35 5 rfl ?_
      refine v_lstore (lv' := [(0, .ref mo), (1, .long (Int64.ofInt z)), (3, .long (lN b)), (5, .long (lN y)), (7, .long (lN (x % y))), (9, .long (lN (x % y)))]) O dX10_divisor_37 (by decide) rfl ?_
      refine v_goto O 17 dX10_divisor_39 (by decide) ?_
      refine v_lvp (lv' := [(0, .ref mo), (1, .long (Int64.ofInt z)), (3, .long (lN b)), (5, .long (lN y)), (7, .long (lN (x % y)))]) [0, 1, 2, 3, 4] rfl ?_
      exact ih _ _ (by omega) (by omega) (by omega) (by rw [hF, Nat.gcd_comm x y, Nat.gcd_rec y x, Nat.gcd_comm])
set_option maxRecDepth 100000 in
set_option maxHeartbeats 4000000 in
theorem sp_X10_divisor {D : G} {mo : Nat} {z : Int} {b : Nat} (hz1 : -1000000000000 < z) (hz2 : z < 1000000000000) (hb : b < 10000) : Sp D mX10_divisor 0 0 0 [.ref mo, .long (Int64.ofInt z), .long (lN b)] [] (fun r w => r = some (.long (lN (Nat.gcd z.natAbs b))) ∧ w = []) := by
  refine Sp.of (by decide) (Nat.le_of_ble_eq_true rfl) (fun X O T => ?_)
  refine v_eq (lv' := [(0, .ref mo), (1, .long (Int64.ofInt z)), (3, .long (lN b))]) rfl rfl rfl rfl ?_
  refine v_lload_n O dX10_divisor_0 1 rfl ?_
  refine v_lconst (v := 0) O dX10_divisor_1 rfl ?_
  refine v_lcmp O dX10_divisor_2 ?_
  refine v_if_ge O 11 dX10_divisor_3 (by decide) (fun z1 => ?_) (fun z1 => ?_)
  · skip
    have z1 := (lg_cmp_ge _ _).mp z1
    refine v_lload_n O dX10_divisor_11 1 rfl ?_
    refine v_topx (y := lN z.natAbs) (by have q := abs_fI hz1 hz2; unfold absL at q; rw [if_pos z1] at q; exact q) ?_
    refine v_lstore (lv' := [(0, .ref mo), (1, .long (Int64.ofInt z)), (3, .long (lN b)), (5, .long (lN z.natAbs))]) O dX10_divisor_12 (by decide) rfl ?_
    refine v_lload_n O dX10_divisor_14 2 rfl ?_
    refine v_lstore (lv' := [(0, .ref mo), (1, .long (Int64.ofInt z)), (3, .long (lN b)), (5, .long (lN z.natAbs)), (7, .long (lN b))]) O dX10_divisor_15 (by decide) rfl ?_
    exact l_X10_div O T b _ _ (Nat.le_refl _) (by omega) hb rfl
  · skip
    have z1 := (not_congr (lg_cmp_ge _ _)).mp z1
    refine v_lload_n O dX10_divisor_6 1 rfl ?_
    refine v_lneg O dX10_divisor_7 ?_
    refine v_goto O 12 dX10_divisor_8 (by decide) ?_
    refine v_topx (y := lN z.natAbs) (by have q := abs_fI hz1 hz2; unfold absL at q; rw [if_neg z1] at q; exact q) ?_
    refine v_lstore (lv' := [(0, .ref mo), (1, .long (Int64.ofInt z)), (3, .long (lN b)), (5, .long (lN z.natAbs))]) O dX10_divisor_12 (by decide) rfl ?_
    refine v_lload_n O dX10_divisor_14 2 rfl ?_
    refine v_lstore (lv' := [(0, .ref mo), (1, .long (Int64.ofInt z)), (3, .long (lN b)), (5, .long (lN z.natAbs)), (7, .long (lN b))]) O dX10_divisor_15 (by decide) rfl ?_
    exact l_X10_div O T b _ _ (Nat.le_refl _) (by omega) hb rfl
set_option maxRecDepth 100000 in
set_option maxHeartbeats 4000000 in
theorem sp_X10_fair_1 {D : G} {mo : Nat} {ma : Nat → Nat} {c : CS} {c2 : CS} {tk : Int32} {vc : Nat} {ln : Nat} {rn : Nat} {zs_10 : Int32} {zs_11 : Int32} {zs_20 : Int32} {zs_21 : Int32} {zs_22 : Int32} {zs_25 : Int32} {zs_26 : Int32} {zs_27 : Int32} {zs_29 : Int32} {h : Int32} {i : Int32} {p : Int32} (hC : cOk c) (hi : ¬ isIx i c.men) : Sp D mX10_fair 30 0 0 [.ref mo, .int h, .int i, .int p] [(mo, .inr (10, M1R ma (mZ c c2 tk vc ln rn zs_10 zs_11 zs_20 zs_21 zs_22 zs_25 zs_26 zs_27 zs_29))), ((ma 4), eI D 6 (nF c.kk)), ((ma 5), eI D 6 (nF c.vv)), ((ma 6), eI D 6 c.hd), ((ma 30), eI D 8 (nF c.crf)), ((ma 35), eI D 12 (nF c.bo))] (fun r w => ∃ zs2_10 : Int32, ∃ zs2_11 : Int32, ∃ zs2_20 : Int32, ∃ zs2_21 : Int32, ∃ zs2_22 : Int32, ∃ zs2_25 : Int32, ∃ zs2_26 : Int32, ∃ zs2_27 : Int32, ∃ zs2_29 : Int32, r = some (.long (-9223372036854775808 : Int64)) ∧ w = [(mo, .inr (10, M1R ma (mZ c c2 tk vc ln rn zs2_10 zs2_11 zs2_20 zs2_21 zs2_22 zs2_25 zs2_26 zs2_27 zs2_29))), ((ma 4), eI D 6 (nF c.kk)), ((ma 5), eI D 6 (nF c.vv)), ((ma 6), eI D 6 c.hd), ((ma 30), eI D 8 (nF c.crf)), ((ma 35), eI D 12 (nF c.bo))]) := by
  refine Sp.of (by decide) (Nat.le_of_ble_eq_true rfl) (fun X O T => ?_)
  refine v_eq (lv' := [(0, .ref mo), (1, .int h), (2, .int i), (3, .int p)]) rfl rfl rfl rfl ?_
  have z_m := hC.1
  have z_hp := hC.2.2.2.1
  have z_wk := hC.2.2.2.2.1
  have z_rl := hC.2.2.2.2.2.1
  have z_pg := hC.2.2.2.2.2.2.2.1
  refine v_aload_n O dX10_fair_0 0 rfl ?_
  refine v_iload_n O dX10_fair_1 1 rfl ?_
  refine v_cV (T := TX10) (ci := 10) (As := [.int h]) (wr := [((ma 4), eI D 6 (nF c.kk)), ((ma 5), eI D 6 (nF c.vv)), ((ma 6), eI D 6 c.hd), ((ma 30), eI D 8 (nF c.crf)), ((ma 35), eI D 12 (nF c.bo))]) (st := []) O cf_X10_184 rfl (sp_X10_isHeap (mo := mo) (ma := ma) (c := c) (c2 := c2) (tk := tk) (vc := vc) (ln := ln) (rn := rn) (zs_10 := zs_10) (zs_11 := zs_11) (zs_20 := zs_20) (zs_21 := zs_21) (zs_22 := zs_22) (zs_25 := zs_25) (zs_26 := zs_26) (zs_27 := zs_27) (zs_29 := zs_29) (h := h) ) dX10_fair_2 rfl rfl 0 rfl [0] [1, 2, 3, 4, 5] (by decide) rfl rfl (by decide) (by decide) (by decide) (Nat.le_of_ble_eq_true rfl) (by decide) (by decide) (fun r_2 w_3 h_1 => ?_)
  obtain ⟨rfl, rfl⟩ := h_1
  refine v_eq (st' := [.int (b2i (isIx h 1000000))]) (ws' := [((ma 4), eI D 6 (nF c.kk)), ((ma 5), eI D 6 (nF c.vv)), ((ma 6), eI D 6 c.hd), ((ma 30), eI D 8 (nF c.crf)), ((ma 35), eI D 12 (nF c.bo)), (mo, .inr (10, M1R ma (mZ c c2 tk vc ln rn zs_10 zs_11 zs_20 zs_21 zs_22 zs_25 zs_26 zs_27 zs_29)))]) rfl rfl rfl rfl ?_
  refine v_if_eq O 34 dX10_fair_5 (by decide) (fun y1 => ?_) (fun y1 => ?_)
  · skip
    have y1 := b2i_0.mp y1
    refine v_ldc2 (v := -9223372036854775808) O tw_1343 dX10_fair_34 ?_
    refine v_sub (ws' := [(mo, .inr (10, M1R ma (mZ c c2 tk vc ln rn zs_10 zs_11 zs_20 zs_21 zs_22 zs_25 zs_26 zs_27 zs_29))), ((ma 4), eI D 6 (nF c.kk)), ((ma 5), eI D 6 (nF c.vv)), ((ma 6), eI D 6 c.hd), ((ma 30), eI D 8 (nF c.crf)), ((ma 35), eI D 12 (nF c.bo))]) [5, 0, 1, 2, 3, 4] (by decide) rfl ?_
    exact v_lreturn O T rfl (by decide) (by decide) dX10_fair_37 (⟨zs_10, zs_11, zs_20, zs_21, zs_22, zs_25, zs_26, zs_27, zs_29, rfl, rfl⟩)
  · skip
    have y1 := b2i_1.mp y1
    refine v_aload_n O dX10_fair_8 0 rfl ?_
    refine v_iload_n O dX10_fair_9 2 rfl ?_
    refine v_cV (T := TX10) (ci := 10) (As := [.int i]) (wr := [((ma 4), eI D 6 (nF c.kk)), ((ma 5), eI D 6 (nF c.vv)), ((ma 6), eI D 6 c.hd), ((ma 30), eI D 8 (nF c.crf)), ((ma 35), eI D 12 (nF c.bo))]) (st := []) O cf_X10_281 rfl (sp_X10_isMan (mo := mo) (ma := ma) (c := c) (c2 := c2) (tk := tk) (vc := vc) (ln := ln) (rn := rn) (zs_10 := zs_10) (zs_11 := zs_11) (zs_20 := zs_20) (zs_21 := zs_21) (zs_22 := zs_22) (zs_25 := zs_25) (zs_26 := zs_26) (zs_27 := zs_27) (zs_29 := zs_29) (i := i) (hC.1)) dX10_fair_10 rfl rfl 5 rfl [5] [0, 1, 2, 3, 4] (by decide) rfl rfl (by decide) (by decide) (by decide) (Nat.le_of_ble_eq_true rfl) (by decide) (by decide) (fun r_5 w_6 h_4 => ?_)
    obtain ⟨rfl, rfl⟩ := h_4
    refine v_eq (st' := [.int (b2i (isIx i c.men))]) (ws' := [((ma 4), eI D 6 (nF c.kk)), ((ma 5), eI D 6 (nF c.vv)), ((ma 6), eI D 6 c.hd), ((ma 30), eI D 8 (nF c.crf)), ((ma 35), eI D 12 (nF c.bo)), (mo, .inr (10, M1R ma (mZ c c2 tk vc ln rn zs_10 zs_11 zs_20 zs_21 zs_22 zs_25 zs_26 zs_27 zs_29)))]) rfl rfl rfl rfl ?_
    refine v_if_eq O 34 dX10_fair_13 (by decide) (fun y2 => ?_) (fun y2 => ?_)
    · skip
      have y2 := b2i_0.mp y2
      refine v_ldc2 (v := -9223372036854775808) O tw_1343 dX10_fair_34 ?_
      refine v_sub (ws' := [(mo, .inr (10, M1R ma (mZ c c2 tk vc ln rn zs_10 zs_11 zs_20 zs_21 zs_22 zs_25 zs_26 zs_27 zs_29))), ((ma 4), eI D 6 (nF c.kk)), ((ma 5), eI D 6 (nF c.vv)), ((ma 6), eI D 6 c.hd), ((ma 30), eI D 8 (nF c.crf)), ((ma 35), eI D 12 (nF c.bo))]) [5, 0, 1, 2, 3, 4] (by decide) rfl ?_
      exact v_lreturn O T rfl (by decide) (by decide) dX10_fair_37 (⟨zs_10, zs_11, zs_20, zs_21, zs_22, zs_25, zs_26, zs_27, zs_29, rfl, rfl⟩)
    · skip
      have y2 := b2i_1.mp y2
      exact absurd y2 hi
set_option maxRecDepth 100000 in
set_option maxHeartbeats 4000000 in
theorem sp_X10_fair_2 {D : G} {mo : Nat} {ma : Nat → Nat} {c : CS} {c2 : CS} {tk : Int32} {vc : Nat} {ln : Nat} {rn : Nat} {zs_10 : Int32} {zs_11 : Int32} {zs_20 : Int32} {zs_21 : Int32} {zs_22 : Int32} {zs_25 : Int32} {zs_26 : Int32} {zs_27 : Int32} {zs_29 : Int32} {i : Nat} {h : Int32} {p : Int32} (hC : cOk c) (hi : i < c.men) (hh : ¬ isIx h 1000000) : Sp D mX10_fair 30 0 0 [.ref mo, .int h, .int (nI i), .int p] [(mo, .inr (10, M1R ma (mZ c c2 tk vc ln rn zs_10 zs_11 zs_20 zs_21 zs_22 zs_25 zs_26 zs_27 zs_29))), ((ma 4), eI D 6 (nF c.kk)), ((ma 5), eI D 6 (nF c.vv)), ((ma 6), eI D 6 c.hd), ((ma 30), eI D 8 (nF c.crf)), ((ma 35), eI D 12 (nF c.bo))] (fun r w => ∃ zs2_10 : Int32, ∃ zs2_11 : Int32, ∃ zs2_20 : Int32, ∃ zs2_21 : Int32, ∃ zs2_22 : Int32, ∃ zs2_25 : Int32, ∃ zs2_26 : Int32, ∃ zs2_27 : Int32, ∃ zs2_29 : Int32, r = some (.long (-9223372036854775808 : Int64)) ∧ w = [(mo, .inr (10, M1R ma (mZ c c2 tk vc ln rn zs2_10 zs2_11 zs2_20 zs2_21 zs2_22 zs2_25 zs2_26 zs2_27 zs2_29))), ((ma 4), eI D 6 (nF c.kk)), ((ma 5), eI D 6 (nF c.vv)), ((ma 6), eI D 6 c.hd), ((ma 30), eI D 8 (nF c.crf)), ((ma 35), eI D 12 (nF c.bo))]) := by
  refine Sp.of (by decide) (Nat.le_of_ble_eq_true rfl) (fun X O T => ?_)
  refine v_eq (lv' := [(0, .ref mo), (1, .int h), (2, .int (nI i)), (3, .int p)]) rfl rfl rfl rfl ?_
  have z_m := hC.1
  have z_hp := hC.2.2.2.1
  have z_wk := hC.2.2.2.2.1
  have z_rl := hC.2.2.2.2.2.1
  have z_pg := hC.2.2.2.2.2.2.2.1
  refine v_aload_n O dX10_fair_0 0 rfl ?_
  refine v_iload_n O dX10_fair_1 1 rfl ?_
  refine v_cV (T := TX10) (ci := 10) (As := [.int h]) (wr := [((ma 4), eI D 6 (nF c.kk)), ((ma 5), eI D 6 (nF c.vv)), ((ma 6), eI D 6 c.hd), ((ma 30), eI D 8 (nF c.crf)), ((ma 35), eI D 12 (nF c.bo))]) (st := []) O cf_X10_184 rfl (sp_X10_isHeap (mo := mo) (ma := ma) (c := c) (c2 := c2) (tk := tk) (vc := vc) (ln := ln) (rn := rn) (zs_10 := zs_10) (zs_11 := zs_11) (zs_20 := zs_20) (zs_21 := zs_21) (zs_22 := zs_22) (zs_25 := zs_25) (zs_26 := zs_26) (zs_27 := zs_27) (zs_29 := zs_29) (h := h) ) dX10_fair_2 rfl rfl 0 rfl [0] [1, 2, 3, 4, 5] (by decide) rfl rfl (by decide) (by decide) (by decide) (Nat.le_of_ble_eq_true rfl) (by decide) (by decide) (fun r_2 w_3 h_1 => ?_)
  obtain ⟨rfl, rfl⟩ := h_1
  refine v_eq (st' := [.int (b2i (isIx h 1000000))]) (ws' := [((ma 4), eI D 6 (nF c.kk)), ((ma 5), eI D 6 (nF c.vv)), ((ma 6), eI D 6 c.hd), ((ma 30), eI D 8 (nF c.crf)), ((ma 35), eI D 12 (nF c.bo)), (mo, .inr (10, M1R ma (mZ c c2 tk vc ln rn zs_10 zs_11 zs_20 zs_21 zs_22 zs_25 zs_26 zs_27 zs_29)))]) rfl rfl rfl rfl ?_
  refine v_if_eq O 34 dX10_fair_5 (by decide) (fun y1 => ?_) (fun y1 => ?_)
  · skip
    have y1 := b2i_0.mp y1
    refine v_ldc2 (v := -9223372036854775808) O tw_1343 dX10_fair_34 ?_
    refine v_sub (ws' := [(mo, .inr (10, M1R ma (mZ c c2 tk vc ln rn zs_10 zs_11 zs_20 zs_21 zs_22 zs_25 zs_26 zs_27 zs_29))), ((ma 4), eI D 6 (nF c.kk)), ((ma 5), eI D 6 (nF c.vv)), ((ma 6), eI D 6 c.hd), ((ma 30), eI D 8 (nF c.crf)), ((ma 35), eI D 12 (nF c.bo))]) [5, 0, 1, 2, 3, 4] (by decide) rfl ?_
    exact v_lreturn O T rfl (by decide) (by decide) dX10_fair_37 (⟨zs_10, zs_11, zs_20, zs_21, zs_22, zs_25, zs_26, zs_27, zs_29, rfl, rfl⟩)
  · skip
    have y1 := b2i_1.mp y1
    exact absurd y1 hh
set_option maxRecDepth 100000 in
set_option maxHeartbeats 4000000 in
theorem sp_X10_fair_3 {D : G} {mo : Nat} {ma : Nat → Nat} {c : CS} {c2 : CS} {tk : Int32} {vc : Nat} {ln : Nat} {rn : Nat} {zs_10 : Int32} {zs_11 : Int32} {zs_20 : Int32} {zs_21 : Int32} {zs_22 : Int32} {zs_25 : Int32} {zs_26 : Int32} {zs_27 : Int32} {zs_29 : Int32} {h : Nat} {i : Nat} {p : Int32} {wd : Nat → Int32} {nu : Nat → Int32} {fr : Nat → Int32} {tt9 : Nat → Int32} {sf : Nat → Int32} {cls : Nat → Int32} {pf : Nat → Int32} {hb : Nat → Int32} {bg : Nat} {bn : Nat} {v : VS} (hC : cOk c) (hB9 : hB c.held cls bg bn) (hM : MR wd nu fr tt9 sf bg bn v) (hva : vAsk v) (hi : i < c.men) (hh : h < 1000000) (hn : wlkA c v h c.rl = none) : Sp D mX10_fair 30 0 0 [.ref mo, .int (nI h), .int (nI i), .int p] [(mo, .inr (10, M1R ma (mZ c c2 tk vc ln rn zs_10 zs_11 zs_20 zs_21 zs_22 zs_25 zs_26 zs_27 zs_29))), ((ma 4), eI D 6 (nF c.kk)), ((ma 5), eI D 6 (nF c.vv)), ((ma 6), eI D 6 c.hd), ((ma 30), eI D 8 (nF c.crf)), ((ma 35), eI D 12 (nF c.bo)), ((ma 13), eI D 6 cls), ((ma 14), eI D 60 wd), ((ma 15), eI D 60 nu), ((ma 16), eI D 60 fr), ((ma 17), eI D 60 tt9), ((ma 18), eI D 600 sf), ((ma 24), eZ D 100 pf), ((ma 31), eI D 6 hb)] (fun r w => ∃ zs2_10 : Int32, ∃ zs2_11 : Int32, ∃ zs2_20 : Int32, ∃ zs2_21 : Int32, ∃ zs2_22 : Int32, ∃ zs2_25 : Int32, ∃ zs2_26 : Int32, ∃ zs2_27 : Int32, ∃ zs2_29 : Int32, ∃ pf2 : Nat → Int32, ∃ hb2 : Nat → Int32, r = some (.long (-9223372036854775808 : Int64)) ∧ w = [(mo, .inr (10, M1R ma (mZ c c2 tk vc ln rn zs2_10 zs2_11 zs2_20 zs2_21 zs2_22 zs2_25 zs2_26 zs2_27 zs2_29))), ((ma 4), eI D 6 (nF c.kk)), ((ma 5), eI D 6 (nF c.vv)), ((ma 6), eI D 6 c.hd), ((ma 30), eI D 8 (nF c.crf)), ((ma 35), eI D 12 (nF c.bo)), ((ma 13), eI D 6 cls), ((ma 14), eI D 60 wd), ((ma 15), eI D 60 nu), ((ma 16), eI D 60 fr), ((ma 17), eI D 60 tt9), ((ma 18), eI D 600 sf), ((ma 24), eZ D 100 pf2), ((ma 31), eI D 6 hb2)]) := by
  refine Sp.of (by decide) (Nat.le_of_ble_eq_true rfl) (fun X O T => ?_)
  refine v_eq (lv' := [(0, .ref mo), (1, .int (nI h)), (2, .int (nI i)), (3, .int p)]) rfl rfl rfl rfl ?_
  have z_m := hC.1
  have z_hp := hC.2.2.2.1
  have z_wk := hC.2.2.2.2.1
  have z_rl := hC.2.2.2.2.2.1
  have z_pg := hC.2.2.2.2.2.2.2.1
  refine v_aload_n O dX10_fair_0 0 rfl ?_
  refine v_iload_n O dX10_fair_1 1 rfl ?_
  refine v_cV (T := TX10) (ci := 10) (As := [.int (nI h)]) (wr := [((ma 4), eI D 6 (nF c.kk)), ((ma 5), eI D 6 (nF c.vv)), ((ma 6), eI D 6 c.hd), ((ma 30), eI D 8 (nF c.crf)), ((ma 35), eI D 12 (nF c.bo)), ((ma 13), eI D 6 cls), ((ma 14), eI D 60 wd), ((ma 15), eI D 60 nu), ((ma 16), eI D 60 fr), ((ma 17), eI D 60 tt9), ((ma 18), eI D 600 sf), ((ma 24), eZ D 100 pf), ((ma 31), eI D 6 hb)]) (st := []) O cf_X10_184 rfl (sp_X10_isHeap (mo := mo) (ma := ma) (c := c) (c2 := c2) (tk := tk) (vc := vc) (ln := ln) (rn := rn) (zs_10 := zs_10) (zs_11 := zs_11) (zs_20 := zs_20) (zs_21 := zs_21) (zs_22 := zs_22) (zs_25 := zs_25) (zs_26 := zs_26) (zs_27 := zs_27) (zs_29 := zs_29) (h := (nI h)) ) dX10_fair_2 rfl rfl 0 rfl [0] [1, 2, 3, 4, 5, 6, 7, 8, 9, 10, 11, 12, 13] (by decide) rfl rfl (by decide) (by decide) (by decide) (Nat.le_of_ble_eq_true rfl) (by decide) (by decide) (fun r_2 w_3 h_1 => ?_)
  obtain ⟨rfl, rfl⟩ := h_1
  refine v_eq (st' := [.int (b2i (isIx (nI h) 1000000))]) (ws' := [((ma 4), eI D 6 (nF c.kk)), ((ma 5), eI D 6 (nF c.vv)), ((ma 6), eI D 6 c.hd), ((ma 30), eI D 8 (nF c.crf)), ((ma 35), eI D 12 (nF c.bo)), ((ma 13), eI D 6 cls), ((ma 14), eI D 60 wd), ((ma 15), eI D 60 nu), ((ma 16), eI D 60 fr), ((ma 17), eI D 60 tt9), ((ma 18), eI D 600 sf), ((ma 24), eZ D 100 pf), ((ma 31), eI D 6 hb), (mo, .inr (10, M1R ma (mZ c c2 tk vc ln rn zs_10 zs_11 zs_20 zs_21 zs_22 zs_25 zs_26 zs_27 zs_29)))]) rfl rfl rfl rfl ?_
  refine v_if_eq O 34 dX10_fair_5 (by decide) (fun y1 => ?_) (fun y1 => ?_)
  · skip
    have y1 := b2i_0.mp y1
    exact absurd ((isIx_nI (by omega) (by omega)).mpr hh) y1
  · skip
    have y1 := b2i_1.mp y1
    refine v_aload_n O dX10_fair_8 0 rfl ?_
    refine v_iload_n O dX10_fair_9 2 rfl ?_
    refine v_cV (T := TX10) (ci := 10) (As := [.int (nI i)]) (wr := [((ma 4), eI D 6 (nF c.kk)), ((ma 5), eI D 6 (nF c.vv)), ((ma 6), eI D 6 c.hd), ((ma 30), eI D 8 (nF c.crf)), ((ma 35), eI D 12 (nF c.bo)), ((ma 13), eI D 6 cls), ((ma 14), eI D 60 wd), ((ma 15), eI D 60 nu), ((ma 16), eI D 60 fr), ((ma 17), eI D 60 tt9), ((ma 18), eI D 600 sf), ((ma 24), eZ D 100 pf), ((ma 31), eI D 6 hb)]) (st := []) O cf_X10_281 rfl (sp_X10_isMan (mo := mo) (ma := ma) (c := c) (c2 := c2) (tk := tk) (vc := vc) (ln := ln) (rn := rn) (zs_10 := zs_10) (zs_11 := zs_11) (zs_20 := zs_20) (zs_21 := zs_21) (zs_22 := zs_22) (zs_25 := zs_25) (zs_26 := zs_26) (zs_27 := zs_27) (zs_29 := zs_29) (i := (nI i)) (hC.1)) dX10_fair_10 rfl rfl 13 rfl [13] [0, 1, 2, 3, 4, 5, 6, 7, 8, 9, 10, 11, 12] (by decide) rfl rfl (by decide) (by decide) (by decide) (Nat.le_of_ble_eq_true rfl) (by decide) (by decide) (fun r_5 w_6 h_4 => ?_)
    obtain ⟨rfl, rfl⟩ := h_4
    refine v_eq (st' := [.int (b2i (isIx (nI i) c.men))]) (ws' := [((ma 4), eI D 6 (nF c.kk)), ((ma 5), eI D 6 (nF c.vv)), ((ma 6), eI D 6 c.hd), ((ma 30), eI D 8 (nF c.crf)), ((ma 35), eI D 12 (nF c.bo)), ((ma 13), eI D 6 cls), ((ma 14), eI D 60 wd), ((ma 15), eI D 60 nu), ((ma 16), eI D 60 fr), ((ma 17), eI D 60 tt9), ((ma 18), eI D 600 sf), ((ma 24), eZ D 100 pf), ((ma 31), eI D 6 hb), (mo, .inr (10, M1R ma (mZ c c2 tk vc ln rn zs_10 zs_11 zs_20 zs_21 zs_22 zs_25 zs_26 zs_27 zs_29)))]) rfl rfl rfl rfl ?_
    refine v_if_eq O 34 dX10_fair_13 (by decide) (fun y2 => ?_) (fun y2 => ?_)
    · skip
      have y2 := b2i_0.mp y2
      exact absurd ((isIx_nI (by omega) (by omega)).mpr hi) y2
    · skip
      have y2 := b2i_1.mp y2
      refine v_aload_n O dX10_fair_16 0 rfl ?_
      refine v_iload_n O dX10_fair_17 3 rfl ?_
      refine v_iconst (v := 0) O dX10_fair_18 (by decide) ?_
      refine v_iconst (v := 1) O dX10_fair_19 (by decide) ?_
      refine v_cV (T := TX10) (ci := 10) (As := [.int p, .int 0, .int 1]) (wr := [((ma 4), eI D 6 (nF c.kk)), ((ma 5), eI D 6 (nF c.vv)), ((ma 6), eI D 6 c.hd), ((ma 30), eI D 8 (nF c.crf)), ((ma 35), eI D 12 (nF c.bo)), ((ma 13), eI D 6 cls), ((ma 14), eI D 60 wd), ((ma 15), eI D 60 nu), ((ma 16), eI D 60 fr), ((ma 17), eI D 60 tt9), ((ma 18), eI D 600 sf), ((ma 24), eZ D 100 pf), ((ma 31), eI D 6 hb), (mo, .inr (10, M1R ma (mZ c c2 tk vc ln rn zs_10 zs_11 zs_20 zs_21 zs_22 zs_25 zs_26 zs_27 zs_29)))]) (st := []) O cf_X10_179 rfl (sp_X10_in_0 (mo := mo) (x := p) (h := 1) (zn := 2) (rfl) (by decide)) dX10_fair_20 rfl rfl 13 rfl [] [0, 1, 2, 3, 4, 5, 6, 7, 8, 9, 10, 11, 12, 13] (by decide) rfl rfl (by decide) (by decide) (by decide) (Nat.le_of_ble_eq_true rfl) (by decide) (by decide) (fun r_8 w_9 h_7 => ?_)
      obtain ⟨rfl, rfl⟩ := h_7
      refine v_eq (st' := [.int (b2i (isIx p 2))]) (ws' := [((ma 4), eI D 6 (nF c.kk)), ((ma 5), eI D 6 (nF c.vv)), ((ma 6), eI D 6 c.hd), ((ma 30), eI D 8 (nF c.crf)), ((ma 35), eI D 12 (nF c.bo)), ((ma 13), eI D 6 cls), ((ma 14), eI D 60 wd), ((ma 15), eI D 60 nu), ((ma 16), eI D 60 fr), ((ma 17), eI D 60 tt9), ((ma 18), eI D 600 sf), ((ma 24), eZ D 100 pf), ((ma 31), eI D 6 hb), (mo, .inr (10, M1R ma (mZ c c2 tk vc ln rn zs_10 zs_11 zs_20 zs_21 zs_22 zs_25 zs_26 zs_27 zs_29)))]) rfl rfl rfl rfl ?_
      refine v_if_eq O 34 dX10_fair_23 (by decide) (fun y3 => ?_) (fun y3 => ?_)
      · skip
        have y3 := b2i_0.mp y3
        refine v_ldc2 (v := -9223372036854775808) O tw_1343 dX10_fair_34 ?_
        refine v_sub (ws' := [(mo, .inr (10, M1R ma (mZ c c2 tk vc ln rn zs_10 zs_11 zs_20 zs_21 zs_22 zs_25 zs_26 zs_27 zs_29))), ((ma 4), eI D 6 (nF c.kk)), ((ma 5), eI D 6 (nF c.vv)), ((ma 6), eI D 6 c.hd), ((ma 30), eI D 8 (nF c.crf)), ((ma 35), eI D 12 (nF c.bo)), ((ma 13), eI D 6 cls), ((ma 14), eI D 60 wd), ((ma 15), eI D 60 nu), ((ma 16), eI D 60 fr), ((ma 17), eI D 60 tt9), ((ma 18), eI D 600 sf), ((ma 24), eZ D 100 pf), ((ma 31), eI D 6 hb)]) [13, 0, 1, 2, 3, 4, 5, 6, 7, 8, 9, 10, 11, 12] (by decide) rfl ?_
        exact v_lreturn O T rfl (by decide) (by decide) dX10_fair_37 (⟨zs_10, zs_11, zs_20, zs_21, zs_22, zs_25, zs_26, zs_27, zs_29, _, _, rfl, rfl⟩)
      · skip
        have y3 := b2i_1.mp y3
        refine v_aload_n O dX10_fair_26 0 rfl ?_
        refine v_iload_n O dX10_fair_27 1 rfl ?_
        refine v_cV (T := TX10) (ci := 10) (As := [.int (nI h)]) (wr := []) (st := []) O cf_X10_287 rfl (sp_X10_goesRow (mo := mo) (ma := ma) (c := c) (c2 := c2) (tk := tk) (vc := vc) (ln := ln) (rn := rn) (zs_10 := zs_10) (zs_11 := zs_11) (zs_20 := zs_20) (zs_21 := zs_21) (zs_22 := zs_22) (zs_25 := zs_25) (zs_26 := zs_26) (zs_27 := zs_27) (zs_29 := zs_29) (wd := wd) (nu := nu) (fr := fr) (tt9 := tt9) (sf := sf) (cls := cls) (pf := pf) (hb := hb) (bg := bg) (bn := bn) (v := v) (h := h) (hB9) (hM) (hC) (hva) (hh)) dX10_fair_28 rfl rfl 13 rfl [13, 0, 1, 2, 3, 4, 5, 6, 7, 8, 9, 10, 11, 12] [] (by decide) rfl rfl (by decide) (by decide) (by decide) (Nat.le_of_ble_eq_true rfl) (by decide) (by decide) (fun r_11 w_12 h_10 => ?_)
        obtain ⟨zs2_25_13, zs2_26_14, zs2_27_15, zs2_29_16, pf2_17, hb2_18, rfl, rfl, h_g⟩ := h_10
        refine v_eq (st' := [.int (b2i (¬ wlkA c v h c.rl = none))]) (ws' := [(mo, .inr (10, M1R ma (mZ c c2 tk vc ln rn zs_10 zs_11 zs_20 zs_21 zs_22 zs2_25_13 zs2_26_14 zs2_27_15 zs2_29_16))), ((ma 4), eI D 6 (nF c.kk)), ((ma 5), eI D 6 (nF c.vv)), ((ma 6), eI D 6 c.hd), ((ma 30), eI D 8 (nF c.crf)), ((ma 35), eI D 12 (nF c.bo)), ((ma 13), eI D 6 cls), ((ma 14), eI D 60 wd), ((ma 15), eI D 60 nu), ((ma 16), eI D 60 fr), ((ma 17), eI D 60 tt9), ((ma 18), eI D 600 sf), ((ma 24), eZ D 100 pf2_17), ((ma 31), eI D 6 hb2_18)]) rfl rfl rfl rfl ?_
        refine v_if_ne O 38 dX10_fair_31 (by decide) (fun z4 => ?_) (fun z4 => ?_)
        · skip
          have z4 := b2i_1.mp z4
          exact absurd hn z4
        · skip
          have z4 := b2i_0.mp z4
          refine v_ldc2 (v := -9223372036854775808) O tw_1343 dX10_fair_34 ?_
          exact v_lreturn O T rfl (by decide) (by decide) dX10_fair_37 (⟨zs_10, zs_11, zs_20, zs_21, zs_22, zs2_25_13, zs2_26_14, zs2_27_15, zs2_29_16, _, _, rfl, rfl⟩)
set_option maxRecDepth 100000 in
set_option maxHeartbeats 4000000 in
theorem sp_X10_fair_4 {D : G} {mo : Nat} {ma : Nat → Nat} {c : CS} {c2 : CS} {tk : Int32} {vc : Nat} {ln : Nat} {rn : Nat} {zs_10 : Int32} {zs_11 : Int32} {zs_20 : Int32} {zs_21 : Int32} {zs_22 : Int32} {zs_25 : Int32} {zs_26 : Int32} {zs_27 : Int32} {zs_29 : Int32} {h : Nat} {i : Nat} {p : Int32} {zL : Nat} {zT : Nat} {zQ : Nat → Nat} {wd : Nat → Int32} {nu : Nat → Int32} {fr : Nat → Int32} {tt9 : Nat → Int32} {sf : Nat → Int32} {cls : Nat → Int32} {pf : Nat → Int32} {hb : Nat → Int32} {bg : Nat} {bn : Nat} {v : VS} (hC : cOk c) (hB9 : hB c.held cls bg bn) (hM : MR wd nu fr tt9 sf bg bn v) (hva : vAsk v) (hi : i < c.men) (hh : h < 1000000) (hn : wlkA c v h c.rl = some (zL, zT, zQ)) (hp : ¬ isIx p 2) : Sp D mX10_fair 30 0 0 [.ref mo, .int (nI h), .int (nI i), .int p] [(mo, .inr (10, M1R ma (mZ c c2 tk vc ln rn zs_10 zs_11 zs_20 zs_21 zs_22 zs_25 zs_26 zs_27 zs_29))), ((ma 4), eI D 6 (nF c.kk)), ((ma 5), eI D 6 (nF c.vv)), ((ma 6), eI D 6 c.hd), ((ma 30), eI D 8 (nF c.crf)), ((ma 35), eI D 12 (nF c.bo)), ((ma 13), eI D 6 cls), ((ma 14), eI D 60 wd), ((ma 15), eI D 60 nu), ((ma 16), eI D 60 fr), ((ma 17), eI D 60 tt9), ((ma 18), eI D 600 sf), ((ma 24), eZ D 100 pf), ((ma 31), eI D 6 hb)] (fun r w => ∃ zs2_10 : Int32, ∃ zs2_11 : Int32, ∃ zs2_20 : Int32, ∃ zs2_21 : Int32, ∃ zs2_22 : Int32, ∃ zs2_25 : Int32, ∃ zs2_26 : Int32, ∃ zs2_27 : Int32, ∃ zs2_29 : Int32, ∃ pf2 : Nat → Int32, ∃ hb2 : Nat → Int32, r = some (.long (-9223372036854775808 : Int64)) ∧ w = [(mo, .inr (10, M1R ma (mZ c c2 tk vc ln rn zs2_10 zs2_11 zs2_20 zs2_21 zs2_22 zs2_25 zs2_26 zs2_27 zs2_29))), ((ma 4), eI D 6 (nF c.kk)), ((ma 5), eI D 6 (nF c.vv)), ((ma 6), eI D 6 c.hd), ((ma 30), eI D 8 (nF c.crf)), ((ma 35), eI D 12 (nF c.bo)), ((ma 13), eI D 6 cls), ((ma 14), eI D 60 wd), ((ma 15), eI D 60 nu), ((ma 16), eI D 60 fr), ((ma 17), eI D 60 tt9), ((ma 18), eI D 600 sf), ((ma 24), eZ D 100 pf2), ((ma 31), eI D 6 hb2)]) := by
  refine Sp.of (by decide) (Nat.le_of_ble_eq_true rfl) (fun X O T => ?_)
  refine v_eq (lv' := [(0, .ref mo), (1, .int (nI h)), (2, .int (nI i)), (3, .int p)]) rfl rfl rfl rfl ?_
  have z_m := hC.1
  have z_hp := hC.2.2.2.1
  have z_wk := hC.2.2.2.2.1
  have z_rl := hC.2.2.2.2.2.1
  have z_pg := hC.2.2.2.2.2.2.2.1
  refine v_aload_n O dX10_fair_0 0 rfl ?_
  refine v_iload_n O dX10_fair_1 1 rfl ?_
  refine v_cV (T := TX10) (ci := 10) (As := [.int (nI h)]) (wr := [((ma 4), eI D 6 (nF c.kk)), ((ma 5), eI D 6 (nF c.vv)), ((ma 6), eI D 6 c.hd), ((ma 30), eI D 8 (nF c.crf)), ((ma 35), eI D 12 (nF c.bo)), ((ma 13), eI D 6 cls), ((ma 14), eI D 60 wd), ((ma 15), eI D 60 nu), ((ma 16), eI D 60 fr), ((ma 17), eI D 60 tt9), ((ma 18), eI D 600 sf), ((ma 24), eZ D 100 pf), ((ma 31), eI D 6 hb)]) (st := []) O cf_X10_184 rfl (sp_X10_isHeap (mo := mo) (ma := ma) (c := c) (c2 := c2) (tk := tk) (vc := vc) (ln := ln) (rn := rn) (zs_10 := zs_10) (zs_11 := zs_11) (zs_20 := zs_20) (zs_21 := zs_21) (zs_22 := zs_22) (zs_25 := zs_25) (zs_26 := zs_26) (zs_27 := zs_27) (zs_29 := zs_29) (h := (nI h)) ) dX10_fair_2 rfl rfl 0 rfl [0] [1, 2, 3, 4, 5, 6, 7, 8, 9, 10, 11, 12, 13] (by decide) rfl rfl (by decide) (by decide) (by decide) (Nat.le_of_ble_eq_true rfl) (by decide) (by decide) (fun r_2 w_3 h_1 => ?_)
  obtain ⟨rfl, rfl⟩ := h_1
  refine v_eq (st' := [.int (b2i (isIx (nI h) 1000000))]) (ws' := [((ma 4), eI D 6 (nF c.kk)), ((ma 5), eI D 6 (nF c.vv)), ((ma 6), eI D 6 c.hd), ((ma 30), eI D 8 (nF c.crf)), ((ma 35), eI D 12 (nF c.bo)), ((ma 13), eI D 6 cls), ((ma 14), eI D 60 wd), ((ma 15), eI D 60 nu), ((ma 16), eI D 60 fr), ((ma 17), eI D 60 tt9), ((ma 18), eI D 600 sf), ((ma 24), eZ D 100 pf), ((ma 31), eI D 6 hb), (mo, .inr (10, M1R ma (mZ c c2 tk vc ln rn zs_10 zs_11 zs_20 zs_21 zs_22 zs_25 zs_26 zs_27 zs_29)))]) rfl rfl rfl rfl ?_
  refine v_if_eq O 34 dX10_fair_5 (by decide) (fun y1 => ?_) (fun y1 => ?_)
  · skip
    have y1 := b2i_0.mp y1
    exact absurd ((isIx_nI (by omega) (by omega)).mpr hh) y1
  · skip
    have y1 := b2i_1.mp y1
    refine v_aload_n O dX10_fair_8 0 rfl ?_
    refine v_iload_n O dX10_fair_9 2 rfl ?_
    refine v_cV (T := TX10) (ci := 10) (As := [.int (nI i)]) (wr := [((ma 4), eI D 6 (nF c.kk)), ((ma 5), eI D 6 (nF c.vv)), ((ma 6), eI D 6 c.hd), ((ma 30), eI D 8 (nF c.crf)), ((ma 35), eI D 12 (nF c.bo)), ((ma 13), eI D 6 cls), ((ma 14), eI D 60 wd), ((ma 15), eI D 60 nu), ((ma 16), eI D 60 fr), ((ma 17), eI D 60 tt9), ((ma 18), eI D 600 sf), ((ma 24), eZ D 100 pf), ((ma 31), eI D 6 hb)]) (st := []) O cf_X10_281 rfl (sp_X10_isMan (mo := mo) (ma := ma) (c := c) (c2 := c2) (tk := tk) (vc := vc) (ln := ln) (rn := rn) (zs_10 := zs_10) (zs_11 := zs_11) (zs_20 := zs_20) (zs_21 := zs_21) (zs_22 := zs_22) (zs_25 := zs_25) (zs_26 := zs_26) (zs_27 := zs_27) (zs_29 := zs_29) (i := (nI i)) (hC.1)) dX10_fair_10 rfl rfl 13 rfl [13] [0, 1, 2, 3, 4, 5, 6, 7, 8, 9, 10, 11, 12] (by decide) rfl rfl (by decide) (by decide) (by decide) (Nat.le_of_ble_eq_true rfl) (by decide) (by decide) (fun r_5 w_6 h_4 => ?_)
    obtain ⟨rfl, rfl⟩ := h_4
    refine v_eq (st' := [.int (b2i (isIx (nI i) c.men))]) (ws' := [((ma 4), eI D 6 (nF c.kk)), ((ma 5), eI D 6 (nF c.vv)), ((ma 6), eI D 6 c.hd), ((ma 30), eI D 8 (nF c.crf)), ((ma 35), eI D 12 (nF c.bo)), ((ma 13), eI D 6 cls), ((ma 14), eI D 60 wd), ((ma 15), eI D 60 nu), ((ma 16), eI D 60 fr), ((ma 17), eI D 60 tt9), ((ma 18), eI D 600 sf), ((ma 24), eZ D 100 pf), ((ma 31), eI D 6 hb), (mo, .inr (10, M1R ma (mZ c c2 tk vc ln rn zs_10 zs_11 zs_20 zs_21 zs_22 zs_25 zs_26 zs_27 zs_29)))]) rfl rfl rfl rfl ?_
    refine v_if_eq O 34 dX10_fair_13 (by decide) (fun y2 => ?_) (fun y2 => ?_)
    · skip
      have y2 := b2i_0.mp y2
      exact absurd ((isIx_nI (by omega) (by omega)).mpr hi) y2
    · skip
      have y2 := b2i_1.mp y2
      refine v_aload_n O dX10_fair_16 0 rfl ?_
      refine v_iload_n O dX10_fair_17 3 rfl ?_
      refine v_iconst (v := 0) O dX10_fair_18 (by decide) ?_
      refine v_iconst (v := 1) O dX10_fair_19 (by decide) ?_
      refine v_cV (T := TX10) (ci := 10) (As := [.int p, .int 0, .int 1]) (wr := [((ma 4), eI D 6 (nF c.kk)), ((ma 5), eI D 6 (nF c.vv)), ((ma 6), eI D 6 c.hd), ((ma 30), eI D 8 (nF c.crf)), ((ma 35), eI D 12 (nF c.bo)), ((ma 13), eI D 6 cls), ((ma 14), eI D 60 wd), ((ma 15), eI D 60 nu), ((ma 16), eI D 60 fr), ((ma 17), eI D 60 tt9), ((ma 18), eI D 600 sf), ((ma 24), eZ D 100 pf), ((ma 31), eI D 6 hb), (mo, .inr (10, M1R ma (mZ c c2 tk vc ln rn zs_10 zs_11 zs_20 zs_21 zs_22 zs_25 zs_26 zs_27 zs_29)))]) (st := []) O cf_X10_179 rfl (sp_X10_in_0 (mo := mo) (x := p) (h := 1) (zn := 2) (rfl) (by decide)) dX10_fair_20 rfl rfl 13 rfl [] [0, 1, 2, 3, 4, 5, 6, 7, 8, 9, 10, 11, 12, 13] (by decide) rfl rfl (by decide) (by decide) (by decide) (Nat.le_of_ble_eq_true rfl) (by decide) (by decide) (fun r_8 w_9 h_7 => ?_)
      obtain ⟨rfl, rfl⟩ := h_7
      refine v_eq (st' := [.int (b2i (isIx p 2))]) (ws' := [((ma 4), eI D 6 (nF c.kk)), ((ma 5), eI D 6 (nF c.vv)), ((ma 6), eI D 6 c.hd), ((ma 30), eI D 8 (nF c.crf)), ((ma 35), eI D 12 (nF c.bo)), ((ma 13), eI D 6 cls), ((ma 14), eI D 60 wd), ((ma 15), eI D 60 nu), ((ma 16), eI D 60 fr), ((ma 17), eI D 60 tt9), ((ma 18), eI D 600 sf), ((ma 24), eZ D 100 pf), ((ma 31), eI D 6 hb), (mo, .inr (10, M1R ma (mZ c c2 tk vc ln rn zs_10 zs_11 zs_20 zs_21 zs_22 zs_25 zs_26 zs_27 zs_29)))]) rfl rfl rfl rfl ?_
      refine v_if_eq O 34 dX10_fair_23 (by decide) (fun y3 => ?_) (fun y3 => ?_)
      · skip
        have y3 := b2i_0.mp y3
        refine v_ldc2 (v := -9223372036854775808) O tw_1343 dX10_fair_34 ?_
        refine v_sub (ws' := [(mo, .inr (10, M1R ma (mZ c c2 tk vc ln rn zs_10 zs_11 zs_20 zs_21 zs_22 zs_25 zs_26 zs_27 zs_29))), ((ma 4), eI D 6 (nF c.kk)), ((ma 5), eI D 6 (nF c.vv)), ((ma 6), eI D 6 c.hd), ((ma 30), eI D 8 (nF c.crf)), ((ma 35), eI D 12 (nF c.bo)), ((ma 13), eI D 6 cls), ((ma 14), eI D 60 wd), ((ma 15), eI D 60 nu), ((ma 16), eI D 60 fr), ((ma 17), eI D 60 tt9), ((ma 18), eI D 600 sf), ((ma 24), eZ D 100 pf), ((ma 31), eI D 6 hb)]) [13, 0, 1, 2, 3, 4, 5, 6, 7, 8, 9, 10, 11, 12] (by decide) rfl ?_
        exact v_lreturn O T rfl (by decide) (by decide) dX10_fair_37 (⟨zs_10, zs_11, zs_20, zs_21, zs_22, zs_25, zs_26, zs_27, zs_29, _, _, rfl, rfl⟩)
      · skip
        have y3 := b2i_1.mp y3
        exact absurd y3 hp
set_option maxRecDepth 100000 in
set_option maxHeartbeats 4000000 in
theorem sp_X10_fair_5 {D : G} {mo : Nat} {ma : Nat → Nat} {c : CS} {c2 : CS} {tk : Int32} {vc : Nat} {ln : Nat} {rn : Nat} {zs_10 : Int32} {zs_11 : Int32} {zs_20 : Int32} {zs_21 : Int32} {zs_22 : Int32} {zs_25 : Int32} {zs_26 : Int32} {zs_27 : Int32} {zs_29 : Int32} {h : Nat} {i : Nat} {zL : Nat} {zT : Nat} {zQ : Nat → Nat} {wd : Nat → Int32} {nu : Nat → Int32} {fr : Nat → Int32} {tt9 : Nat → Int32} {sf : Nat → Int32} {cls : Nat → Int32} {pf : Nat → Int32} {hb : Nat → Int32} {bg : Nat} {bn : Nat} {v : VS} (hC : cOk c) (hB9 : hB c.held cls bg bn) (hM : MR wd nu fr tt9 sf bg bn v) (hva : vAsk v) (hi : i < c.men) (hh : h < 1000000) (hn : wlkA c v h c.rl = some (zL, zT, zQ)) : Sp D mX10_fair 30 0 0 [.ref mo, .int (nI h), .int (nI i), .int 0] [(mo, .inr (10, M1R ma (mZ c c2 tk vc ln rn zs_10 zs_11 zs_20 zs_21 zs_22 zs_25 zs_26 zs_27 zs_29))), ((ma 4), eI D 6 (nF c.kk)), ((ma 5), eI D 6 (nF c.vv)), ((ma 6), eI D 6 c.hd), ((ma 30), eI D 8 (nF c.crf)), ((ma 35), eI D 12 (nF c.bo)), ((ma 13), eI D 6 cls), ((ma 14), eI D 60 wd), ((ma 15), eI D 60 nu), ((ma 16), eI D 60 fr), ((ma 17), eI D 60 tt9), ((ma 18), eI D 600 sf), ((ma 24), eZ D 100 pf), ((ma 31), eI D 6 hb)] (fun r w => ∃ zs2_10 : Int32, ∃ zs2_11 : Int32, ∃ zs2_20 : Int32, ∃ zs2_21 : Int32, ∃ zs2_22 : Int32, ∃ zs2_25 : Int32, ∃ zs2_26 : Int32, ∃ zs2_27 : Int32, ∃ zs2_29 : Int32, ∃ pf2 : Nat → Int32, ∃ hb2 : Nat → Int32, r = some (.long (fracA (((zQ i * c.men + zL + zT : Nat) : Int) - h) c.men)) ∧ w = [(mo, .inr (10, M1R ma (mZ c c2 tk vc ln rn zs2_10 zs2_11 zs2_20 zs2_21 zs2_22 zs2_25 zs2_26 zs2_27 zs2_29))), ((ma 4), eI D 6 (nF c.kk)), ((ma 5), eI D 6 (nF c.vv)), ((ma 6), eI D 6 c.hd), ((ma 30), eI D 8 (nF c.crf)), ((ma 35), eI D 12 (nF c.bo)), ((ma 13), eI D 6 cls), ((ma 14), eI D 60 wd), ((ma 15), eI D 60 nu), ((ma 16), eI D 60 fr), ((ma 17), eI D 60 tt9), ((ma 18), eI D 600 sf), ((ma 24), eZ D 100 pf2), ((ma 31), eI D 6 hb2)]) := by
  refine Sp.of (by decide) (Nat.le_of_ble_eq_true rfl) (fun X O T => ?_)
  refine v_eq (lv' := [(0, .ref mo), (1, .int (nI h)), (2, .int (nI i)), (3, .int 0)]) rfl rfl rfl rfl ?_
  have z_m := hC.1
  have z_hp := hC.2.2.2.1
  have z_wk := hC.2.2.2.2.1
  have z_rl := hC.2.2.2.2.2.1
  have z_pg := hC.2.2.2.2.2.2.2.1
  refine v_aload_n O dX10_fair_0 0 rfl ?_
  refine v_iload_n O dX10_fair_1 1 rfl ?_
  refine v_cV (T := TX10) (ci := 10) (As := [.int (nI h)]) (wr := [((ma 4), eI D 6 (nF c.kk)), ((ma 5), eI D 6 (nF c.vv)), ((ma 6), eI D 6 c.hd), ((ma 30), eI D 8 (nF c.crf)), ((ma 35), eI D 12 (nF c.bo)), ((ma 13), eI D 6 cls), ((ma 14), eI D 60 wd), ((ma 15), eI D 60 nu), ((ma 16), eI D 60 fr), ((ma 17), eI D 60 tt9), ((ma 18), eI D 600 sf), ((ma 24), eZ D 100 pf), ((ma 31), eI D 6 hb)]) (st := []) O cf_X10_184 rfl (sp_X10_isHeap (mo := mo) (ma := ma) (c := c) (c2 := c2) (tk := tk) (vc := vc) (ln := ln) (rn := rn) (zs_10 := zs_10) (zs_11 := zs_11) (zs_20 := zs_20) (zs_21 := zs_21) (zs_22 := zs_22) (zs_25 := zs_25) (zs_26 := zs_26) (zs_27 := zs_27) (zs_29 := zs_29) (h := (nI h)) ) dX10_fair_2 rfl rfl 0 rfl [0] [1, 2, 3, 4, 5, 6, 7, 8, 9, 10, 11, 12, 13] (by decide) rfl rfl (by decide) (by decide) (by decide) (Nat.le_of_ble_eq_true rfl) (by decide) (by decide) (fun r_2 w_3 h_1 => ?_)
  obtain ⟨rfl, rfl⟩ := h_1
  refine v_eq (st' := [.int (b2i (isIx (nI h) 1000000))]) (ws' := [((ma 4), eI D 6 (nF c.kk)), ((ma 5), eI D 6 (nF c.vv)), ((ma 6), eI D 6 c.hd), ((ma 30), eI D 8 (nF c.crf)), ((ma 35), eI D 12 (nF c.bo)), ((ma 13), eI D 6 cls), ((ma 14), eI D 60 wd), ((ma 15), eI D 60 nu), ((ma 16), eI D 60 fr), ((ma 17), eI D 60 tt9), ((ma 18), eI D 600 sf), ((ma 24), eZ D 100 pf), ((ma 31), eI D 6 hb), (mo, .inr (10, M1R ma (mZ c c2 tk vc ln rn zs_10 zs_11 zs_20 zs_21 zs_22 zs_25 zs_26 zs_27 zs_29)))]) rfl rfl rfl rfl ?_
  refine v_if_eq O 34 dX10_fair_5 (by decide) (fun y1 => ?_) (fun y1 => ?_)
  · skip
    have y1 := b2i_0.mp y1
    exact absurd ((isIx_nI (by omega) (by omega)).mpr hh) y1
  · skip
    have y1 := b2i_1.mp y1
    refine v_aload_n O dX10_fair_8 0 rfl ?_
    refine v_iload_n O dX10_fair_9 2 rfl ?_
    refine v_cV (T := TX10) (ci := 10) (As := [.int (nI i)]) (wr := [((ma 4), eI D 6 (nF c.kk)), ((ma 5), eI D 6 (nF c.vv)), ((ma 6), eI D 6 c.hd), ((ma 30), eI D 8 (nF c.crf)), ((ma 35), eI D 12 (nF c.bo)), ((ma 13), eI D 6 cls), ((ma 14), eI D 60 wd), ((ma 15), eI D 60 nu), ((ma 16), eI D 60 fr), ((ma 17), eI D 60 tt9), ((ma 18), eI D 600 sf), ((ma 24), eZ D 100 pf), ((ma 31), eI D 6 hb)]) (st := []) O cf_X10_281 rfl (sp_X10_isMan (mo := mo) (ma := ma) (c := c) (c2 := c2) (tk := tk) (vc := vc) (ln := ln) (rn := rn) (zs_10 := zs_10) (zs_11 := zs_11) (zs_20 := zs_20) (zs_21 := zs_21) (zs_22 := zs_22) (zs_25 := zs_25) (zs_26 := zs_26) (zs_27 := zs_27) (zs_29 := zs_29) (i := (nI i)) (hC.1)) dX10_fair_10 rfl rfl 13 rfl [13] [0, 1, 2, 3, 4, 5, 6, 7, 8, 9, 10, 11, 12] (by decide) rfl rfl (by decide) (by decide) (by decide) (Nat.le_of_ble_eq_true rfl) (by decide) (by decide) (fun r_5 w_6 h_4 => ?_)
    obtain ⟨rfl, rfl⟩ := h_4
    refine v_eq (st' := [.int (b2i (isIx (nI i) c.men))]) (ws' := [((ma 4), eI D 6 (nF c.kk)), ((ma 5), eI D 6 (nF c.vv)), ((ma 6), eI D 6 c.hd), ((ma 30), eI D 8 (nF c.crf)), ((ma 35), eI D 12 (nF c.bo)), ((ma 13), eI D 6 cls), ((ma 14), eI D 60 wd), ((ma 15), eI D 60 nu), ((ma 16), eI D 60 fr), ((ma 17), eI D 60 tt9), ((ma 18), eI D 600 sf), ((ma 24), eZ D 100 pf), ((ma 31), eI D 6 hb), (mo, .inr (10, M1R ma (mZ c c2 tk vc ln rn zs_10 zs_11 zs_20 zs_21 zs_22 zs_25 zs_26 zs_27 zs_29)))]) rfl rfl rfl rfl ?_
    refine v_if_eq O 34 dX10_fair_13 (by decide) (fun y2 => ?_) (fun y2 => ?_)
    · skip
      have y2 := b2i_0.mp y2
      exact absurd ((isIx_nI (by omega) (by omega)).mpr hi) y2
    · skip
      have y2 := b2i_1.mp y2
      refine v_aload_n O dX10_fair_16 0 rfl ?_
      refine v_iload_n O dX10_fair_17 3 rfl ?_
      refine v_iconst (v := 0) O dX10_fair_18 (by decide) ?_
      refine v_iconst (v := 1) O dX10_fair_19 (by decide) ?_
      refine v_cV (T := TX10) (ci := 10) (As := [.int 0, .int 0, .int 1]) (wr := [((ma 4), eI D 6 (nF c.kk)), ((ma 5), eI D 6 (nF c.vv)), ((ma 6), eI D 6 c.hd), ((ma 30), eI D 8 (nF c.crf)), ((ma 35), eI D 12 (nF c.bo)), ((ma 13), eI D 6 cls), ((ma 14), eI D 60 wd), ((ma 15), eI D 60 nu), ((ma 16), eI D 60 fr), ((ma 17), eI D 60 tt9), ((ma 18), eI D 600 sf), ((ma 24), eZ D 100 pf), ((ma 31), eI D 6 hb), (mo, .inr (10, M1R ma (mZ c c2 tk vc ln rn zs_10 zs_11 zs_20 zs_21 zs_22 zs_25 zs_26 zs_27 zs_29)))]) (st := []) O cf_X10_179 rfl (sp_X10_in_0 (mo := mo) (x := 0) (h := 1) (zn := 2) (rfl) (by decide)) dX10_fair_20 rfl rfl 13 rfl [] [0, 1, 2, 3, 4, 5, 6, 7, 8, 9, 10, 11, 12, 13] (by decide) rfl rfl (by decide) (by decide) (by decide) (Nat.le_of_ble_eq_true rfl) (by decide) (by decide) (fun r_8 w_9 h_7 => ?_)
      obtain ⟨rfl, rfl⟩ := h_7
      refine v_eq (st' := [.int (b2i (isIx 0 2))]) (ws' := [((ma 4), eI D 6 (nF c.kk)), ((ma 5), eI D 6 (nF c.vv)), ((ma 6), eI D 6 c.hd), ((ma 30), eI D 8 (nF c.crf)), ((ma 35), eI D 12 (nF c.bo)), ((ma 13), eI D 6 cls), ((ma 14), eI D 60 wd), ((ma 15), eI D 60 nu), ((ma 16), eI D 60 fr), ((ma 17), eI D 60 tt9), ((ma 18), eI D 600 sf), ((ma 24), eZ D 100 pf), ((ma 31), eI D 6 hb), (mo, .inr (10, M1R ma (mZ c c2 tk vc ln rn zs_10 zs_11 zs_20 zs_21 zs_22 zs_25 zs_26 zs_27 zs_29)))]) rfl rfl rfl rfl ?_
      refine v_if_eq O 34 dX10_fair_23 (by decide) (fun y3 => ?_) (fun y3 => ?_)
      · skip
        have y3 := b2i_0.mp y3
        exact absurd ⟨0, by decide, rfl⟩ y3
      · skip
        have y3 := b2i_1.mp y3
        refine v_aload_n O dX10_fair_26 0 rfl ?_
        refine v_iload_n O dX10_fair_27 1 rfl ?_
        refine v_cV (T := TX10) (ci := 10) (As := [.int (nI h)]) (wr := []) (st := []) O cf_X10_287 rfl (sp_X10_goesRow (mo := mo) (ma := ma) (c := c) (c2 := c2) (tk := tk) (vc := vc) (ln := ln) (rn := rn) (zs_10 := zs_10) (zs_11 := zs_11) (zs_20 := zs_20) (zs_21 := zs_21) (zs_22 := zs_22) (zs_25 := zs_25) (zs_26 := zs_26) (zs_27 := zs_27) (zs_29 := zs_29) (wd := wd) (nu := nu) (fr := fr) (tt9 := tt9) (sf := sf) (cls := cls) (pf := pf) (hb := hb) (bg := bg) (bn := bn) (v := v) (h := h) (hB9) (hM) (hC) (hva) (hh)) dX10_fair_28 rfl rfl 13 rfl [13, 0, 1, 2, 3, 4, 5, 6, 7, 8, 9, 10, 11, 12] [] (by decide) rfl rfl (by decide) (by decide) (by decide) (Nat.le_of_ble_eq_true rfl) (by decide) (by decide) (fun r_11 w_12 h_10 => ?_)
        obtain ⟨zs2_25_13, zs2_26_14, zs2_27_15, zs2_29_16, pf2_17, hb2_18, rfl, rfl, h_g⟩ := h_10
        refine v_eq (st' := [.int (b2i (¬ wlkA c v h c.rl = none))]) (ws' := [(mo, .inr (10, M1R ma (mZ c c2 tk vc ln rn zs_10 zs_11 zs_20 zs_21 zs_22 zs2_25_13 zs2_26_14 zs2_27_15 zs2_29_16))), ((ma 4), eI D 6 (nF c.kk)), ((ma 5), eI D 6 (nF c.vv)), ((ma 6), eI D 6 c.hd), ((ma 30), eI D 8 (nF c.crf)), ((ma 35), eI D 12 (nF c.bo)), ((ma 13), eI D 6 cls), ((ma 14), eI D 60 wd), ((ma 15), eI D 60 nu), ((ma 16), eI D 60 fr), ((ma 17), eI D 60 tt9), ((ma 18), eI D 600 sf), ((ma 24), eZ D 100 pf2_17), ((ma 31), eI D 6 hb2_18)]) rfl rfl rfl rfl ?_
        refine v_if_ne O 38 dX10_fair_31 (by decide) (fun z4 => ?_) (fun z4 => ?_)
        · skip
          have z4 := b2i_1.mp z4
          obtain ⟨z_a, z_t, z_q⟩ := h_g zL zT zQ hn
          have z_q := z_q i (by omega)
          have z_le := walkN_le (fun m => partsN_ge hva.2.2.1) hn
          have z_li := z_le.2 i
          have z_mu : zQ i * c.men ≤ 1000000 * 6 := Nat.mul_le_mul (by omega) hC.1
          refine v_aload_n O dX10_fair_38 0 rfl ?_
          refine gf_X10_105 (v := .ref (ma 31)) O rfl dX10_fair_39 0 rfl rfl ?_
          refine v_iload_n O dX10_fair_42 2 rfl ?_
          refine v_ialdk O dX10_fair_43 13 rfl i rfl (by omega) (by decide) ?_
          refine v_top (y := nI (zQ i)) (z_q) ?_
          refine v_i2l O dX10_fair_44 ?_
          refine v_topx (y := lN (zQ i)) (nI_l (by omega)) ?_
          refine v_aload_n O dX10_fair_45 0 rfl ?_
          refine gf_X10_7 (v := .int (nI c.men)) O rfl dX10_fair_46 0 rfl rfl ?_
          refine v_i2l O dX10_fair_49 ?_
          refine v_topx (y := lN c.men) (nI_l (by omega)) ?_
          refine v_lmul O dX10_fair_50 ?_
          refine v_topx (y := lN (zQ i * c.men)) (lN_mul _ _) ?_
          refine v_aload_n O dX10_fair_51 0 rfl ?_
          refine gf_X10_87 (v := .int zs2_25_13) O rfl dX10_fair_52 0 rfl rfl ?_
          refine v_top (y := nI zL) (z_a) ?_
          refine v_i2l O dX10_fair_55 ?_
          refine v_topx (y := lN zL) (nI_l (by omega)) ?_
          refine v_ladd O dX10_fair_56 ?_
          refine v_topx (y := lN ((zQ i * c.men) + zL)) (lN_add _ _) ?_
          refine v_iload_n O dX10_fair_57 1 rfl ?_
          refine v_i2l O dX10_fair_58 ?_
          refine v_topx (y := lN h) (nI_l (by omega)) ?_
          refine v_lsub O dX10_fair_59 ?_
          refine v_aload_n O dX10_fair_60 0 rfl ?_
          refine gf_X10_99 (v := .int zs2_29_16) O rfl dX10_fair_61 0 rfl rfl ?_
          refine v_top (y := nI zT) (z_t) ?_
          refine v_i2l O dX10_fair_64 ?_
          refine v_topx (y := lN zT) (nI_l (by omega)) ?_
          refine v_ladd O dX10_fair_65 ?_
          refine v_topx (y := Int64.ofInt (((zQ i * c.men + zL + zT : Nat) : Int) - h)) (by rw [fI_sub, ← fI_n zT, ← Int64.ofInt_add]; exact congrArg Int64.ofInt (by omega)) ?_
          refine v_lstore (lv' := [(0, .ref mo), (1, .int (nI h)), (2, .int (nI i)), (3, .int 0), (4, .long (Int64.ofInt (((zQ i * c.men + zL + zT : Nat) : Int) - h)))]) O dX10_fair_66 (by decide) rfl ?_
          refine v_aload_n O dX10_fair_68 0 rfl ?_
          refine v_lload O dX10_fair_69 4 rfl ?_
          refine v_aload_n O dX10_fair_71 0 rfl ?_
          refine gf_X10_7 (v := .int (nI c.men)) O rfl dX10_fair_72 0 rfl rfl ?_
          refine v_i2l O dX10_fair_75 ?_
          refine v_topx (y := lN c.men) (nI_l (by omega)) ?_
          refine v_cV (T := TX10) (ci := 10) (As := [.long (Int64.ofInt (((zQ i * c.men + zL + zT : Nat) : Int) - h)), .long (lN c.men)]) (wr := [(mo, .inr (10, M1R ma (mZ c c2 tk vc ln rn zs_10 zs_11 zs_20 zs_21 zs_22 zs2_25_13 zs2_26_14 zs2_27_15 zs2_29_16))), ((ma 4), eI D 6 (nF c.kk)), ((ma 5), eI D 6 (nF c.vv)), ((ma 6), eI D 6 c.hd), ((ma 30), eI D 8 (nF c.crf)), ((ma 35), eI D 12 (nF c.bo)), ((ma 13), eI D 6 cls), ((ma 14), eI D 60 wd), ((ma 15), eI D 60 nu), ((ma 16), eI D 60 fr), ((ma 17), eI D 60 tt9), ((ma 18), eI D 600 sf), ((ma 24), eZ D 100 pf2_17), ((ma 31), eI D 6 hb2_18)]) (st := []) O cf_X10_301 rfl (sp_X10_divisor (mo := mo) (z := (((zQ i * c.men + zL + zT : Nat) : Int) - h)) (b := c.men) (by omega) (by omega) (by omega)) dX10_fair_76 rfl rfl 0 rfl [] [0, 1, 2, 3, 4, 5, 6, 7, 8, 9, 10, 11, 12, 13] (by decide) rfl rfl (by decide) (by decide) (by decide) (Nat.le_of_ble_eq_true rfl) (by decide) (by decide) (fun r_20 w_21 h_19 => ?_)
          obtain ⟨rfl, rfl⟩ := h_19
          refine v_eq (st' := [.long (lN (Nat.gcd (((zQ i * c.men + zL + zT : Nat) : Int) - h).natAbs c.men))]) (ws' := [(mo, .inr (10, M1R ma (mZ c c2 tk vc ln rn zs_10 zs_11 zs_20 zs_21 zs_22 zs2_25_13 zs2_26_14 zs2_27_15 zs2_29_16))), ((ma 4), eI D 6 (nF c.kk)), ((ma 5), eI D 6 (nF c.vv)), ((ma 6), eI D 6 c.hd), ((ma 30), eI D 8 (nF c.crf)), ((ma 35), eI D 12 (nF c.bo)), ((ma 13), eI D 6 cls), ((ma 14), eI D 60 wd), ((ma 15), eI D 60 nu), ((ma 16), eI D 60 fr), ((ma 17), eI D 60 tt9), ((ma 18), eI D 600 sf), ((ma 24), eZ D 100 pf2_17), ((ma 31), eI D 6 hb2_18)]) rfl rfl rfl rfl ?_
          have z_gp : 0 < Nat.gcd (((zQ i * c.men + zL + zT : Nat) : Int) - h).natAbs c.men := Nat.gcd_pos_of_pos_right _ (by omega)
          have z_gl : Nat.gcd (((zQ i * c.men + zL + zT : Nat) : Int) - h).natAbs c.men ≤ c.men := Nat.gcd_le_right _ (by omega)
          refine v_lstore (lv' := [(0, .ref mo), (1, .int (nI h)), (2, .int (nI i)), (3, .int 0), (4, .long (Int64.ofInt (((zQ i * c.men + zL + zT : Nat) : Int) - h))), (6, .long (lN (Nat.gcd (((zQ i * c.men + zL + zT : Nat) : Int) - h).natAbs c.men)))]) O dX10_fair_79 (by decide) rfl ?_
          refine v_iload_n O dX10_fair_81 3 rfl ?_
          refine v_if_ne O 93 dX10_fair_82 (by decide) (fun c => absurd c (by decide)) (fun _ => ?_)
          refine v_lload O dX10_fair_85 4 rfl ?_
          refine v_lload O dX10_fair_87 5 rfl ?_
          refine v_ldiv O dX10_fair_89 (fun z9 => absurd ((fb_lN_inj (b := 0) (by omega) (by decide)).mp z9) (by omega)) ?_
          refine v_goto O 101 dX10_fair_90 (by decide) ?_
          exact v_lreturn O T rfl (by decide) (by decide) dX10_fair_101 (⟨zs_10, zs_11, zs_20, zs_21, zs_22, zs2_25_13, zs2_26_14, zs2_27_15, zs2_29_16, _, _, rfl, rfl⟩)
        · skip
          have z4 := b2i_0.mp z4
          exact absurd (Classical.not_not.mp z4) (by rw [hn]; exact fun y => by cases y)
set_option maxRecDepth 100000 in
set_option maxHeartbeats 4000000 in
theorem sp_X10_fair_6 {D : G} {mo : Nat} {ma : Nat → Nat} {c : CS} {c2 : CS} {tk : Int32} {vc : Nat} {ln : Nat} {rn : Nat} {zs_10 : Int32} {zs_11 : Int32} {zs_20 : Int32} {zs_21 : Int32} {zs_22 : Int32} {zs_25 : Int32} {zs_26 : Int32} {zs_27 : Int32} {zs_29 : Int32} {h : Nat} {i : Nat} {zL : Nat} {zT : Nat} {zQ : Nat → Nat} {wd : Nat → Int32} {nu : Nat → Int32} {fr : Nat → Int32} {tt9 : Nat → Int32} {sf : Nat → Int32} {cls : Nat → Int32} {pf : Nat → Int32} {hb : Nat → Int32} {bg : Nat} {bn : Nat} {v : VS} (hC : cOk c) (hB9 : hB c.held cls bg bn) (hM : MR wd nu fr tt9 sf bg bn v) (hva : vAsk v) (hi : i < c.men) (hh : h < 1000000) (hn : wlkA c v h c.rl = some (zL, zT, zQ)) : Sp D mX10_fair 30 0 0 [.ref mo, .int (nI h), .int (nI i), .int 1] [(mo, .inr (10, M1R ma (mZ c c2 tk vc ln rn zs_10 zs_11 zs_20 zs_21 zs_22 zs_25 zs_26 zs_27 zs_29))), ((ma 4), eI D 6 (nF c.kk)), ((ma 5), eI D 6 (nF c.vv)), ((ma 6), eI D 6 c.hd), ((ma 30), eI D 8 (nF c.crf)), ((ma 35), eI D 12 (nF c.bo)), ((ma 13), eI D 6 cls), ((ma 14), eI D 60 wd), ((ma 15), eI D 60 nu), ((ma 16), eI D 60 fr), ((ma 17), eI D 60 tt9), ((ma 18), eI D 600 sf), ((ma 24), eZ D 100 pf), ((ma 31), eI D 6 hb)] (fun r w => ∃ zs2_10 : Int32, ∃ zs2_11 : Int32, ∃ zs2_20 : Int32, ∃ zs2_21 : Int32, ∃ zs2_22 : Int32, ∃ zs2_25 : Int32, ∃ zs2_26 : Int32, ∃ zs2_27 : Int32, ∃ zs2_29 : Int32, ∃ pf2 : Nat → Int32, ∃ hb2 : Nat → Int32, r = some (.long (fracB (((zQ i * c.men + zL + zT : Nat) : Int) - h) c.men)) ∧ w = [(mo, .inr (10, M1R ma (mZ c c2 tk vc ln rn zs2_10 zs2_11 zs2_20 zs2_21 zs2_22 zs2_25 zs2_26 zs2_27 zs2_29))), ((ma 4), eI D 6 (nF c.kk)), ((ma 5), eI D 6 (nF c.vv)), ((ma 6), eI D 6 c.hd), ((ma 30), eI D 8 (nF c.crf)), ((ma 35), eI D 12 (nF c.bo)), ((ma 13), eI D 6 cls), ((ma 14), eI D 60 wd), ((ma 15), eI D 60 nu), ((ma 16), eI D 60 fr), ((ma 17), eI D 60 tt9), ((ma 18), eI D 600 sf), ((ma 24), eZ D 100 pf2), ((ma 31), eI D 6 hb2)]) := by
  refine Sp.of (by decide) (Nat.le_of_ble_eq_true rfl) (fun X O T => ?_)
  refine v_eq (lv' := [(0, .ref mo), (1, .int (nI h)), (2, .int (nI i)), (3, .int 1)]) rfl rfl rfl rfl ?_
  have z_m := hC.1
  have z_hp := hC.2.2.2.1
  have z_wk := hC.2.2.2.2.1
  have z_rl := hC.2.2.2.2.2.1
  have z_pg := hC.2.2.2.2.2.2.2.1
  refine v_aload_n O dX10_fair_0 0 rfl ?_
  refine v_iload_n O dX10_fair_1 1 rfl ?_
  refine v_cV (T := TX10) (ci := 10) (As := [.int (nI h)]) (wr := [((ma 4), eI D 6 (nF c.kk)), ((ma 5), eI D 6 (nF c.vv)), ((ma 6), eI D 6 c.hd), ((ma 30), eI D 8 (nF c.crf)), ((ma 35), eI D 12 (nF c.bo)), ((ma 13), eI D 6 cls), ((ma 14), eI D 60 wd), ((ma 15), eI D 60 nu), ((ma 16), eI D 60 fr), ((ma 17), eI D 60 tt9), ((ma 18), eI D 600 sf), ((ma 24), eZ D 100 pf), ((ma 31), eI D 6 hb)]) (st := []) O cf_X10_184 rfl (sp_X10_isHeap (mo := mo) (ma := ma) (c := c) (c2 := c2) (tk := tk) (vc := vc) (ln := ln) (rn := rn) (zs_10 := zs_10) (zs_11 := zs_11) (zs_20 := zs_20) (zs_21 := zs_21) (zs_22 := zs_22) (zs_25 := zs_25) (zs_26 := zs_26) (zs_27 := zs_27) (zs_29 := zs_29) (h := (nI h)) ) dX10_fair_2 rfl rfl 0 rfl [0] [1, 2, 3, 4, 5, 6, 7, 8, 9, 10, 11, 12, 13] (by decide) rfl rfl (by decide) (by decide) (by decide) (Nat.le_of_ble_eq_true rfl) (by decide) (by decide) (fun r_2 w_3 h_1 => ?_)
  obtain ⟨rfl, rfl⟩ := h_1
  refine v_eq (st' := [.int (b2i (isIx (nI h) 1000000))]) (ws' := [((ma 4), eI D 6 (nF c.kk)), ((ma 5), eI D 6 (nF c.vv)), ((ma 6), eI D 6 c.hd), ((ma 30), eI D 8 (nF c.crf)), ((ma 35), eI D 12 (nF c.bo)), ((ma 13), eI D 6 cls), ((ma 14), eI D 60 wd), ((ma 15), eI D 60 nu), ((ma 16), eI D 60 fr), ((ma 17), eI D 60 tt9), ((ma 18), eI D 600 sf), ((ma 24), eZ D 100 pf), ((ma 31), eI D 6 hb), (mo, .inr (10, M1R ma (mZ c c2 tk vc ln rn zs_10 zs_11 zs_20 zs_21 zs_22 zs_25 zs_26 zs_27 zs_29)))]) rfl rfl rfl rfl ?_
  refine v_if_eq O 34 dX10_fair_5 (by decide) (fun y1 => ?_) (fun y1 => ?_)
  · skip
    have y1 := b2i_0.mp y1
    exact absurd ((isIx_nI (by omega) (by omega)).mpr hh) y1
  · skip
    have y1 := b2i_1.mp y1
    refine v_aload_n O dX10_fair_8 0 rfl ?_
    refine v_iload_n O dX10_fair_9 2 rfl ?_
    refine v_cV (T := TX10) (ci := 10) (As := [.int (nI i)]) (wr := [((ma 4), eI D 6 (nF c.kk)), ((ma 5), eI D 6 (nF c.vv)), ((ma 6), eI D 6 c.hd), ((ma 30), eI D 8 (nF c.crf)), ((ma 35), eI D 12 (nF c.bo)), ((ma 13), eI D 6 cls), ((ma 14), eI D 60 wd), ((ma 15), eI D 60 nu), ((ma 16), eI D 60 fr), ((ma 17), eI D 60 tt9), ((ma 18), eI D 600 sf), ((ma 24), eZ D 100 pf), ((ma 31), eI D 6 hb)]) (st := []) O cf_X10_281 rfl (sp_X10_isMan (mo := mo) (ma := ma) (c := c) (c2 := c2) (tk := tk) (vc := vc) (ln := ln) (rn := rn) (zs_10 := zs_10) (zs_11 := zs_11) (zs_20 := zs_20) (zs_21 := zs_21) (zs_22 := zs_22) (zs_25 := zs_25) (zs_26 := zs_26) (zs_27 := zs_27) (zs_29 := zs_29) (i := (nI i)) (hC.1)) dX10_fair_10 rfl rfl 13 rfl [13] [0, 1, 2, 3, 4, 5, 6, 7, 8, 9, 10, 11, 12] (by decide) rfl rfl (by decide) (by decide) (by decide) (Nat.le_of_ble_eq_true rfl) (by decide) (by decide) (fun r_5 w_6 h_4 => ?_)
    obtain ⟨rfl, rfl⟩ := h_4
    refine v_eq (st' := [.int (b2i (isIx (nI i) c.men))]) (ws' := [((ma 4), eI D 6 (nF c.kk)), ((ma 5), eI D 6 (nF c.vv)), ((ma 6), eI D 6 c.hd), ((ma 30), eI D 8 (nF c.crf)), ((ma 35), eI D 12 (nF c.bo)), ((ma 13), eI D 6 cls), ((ma 14), eI D 60 wd), ((ma 15), eI D 60 nu), ((ma 16), eI D 60 fr), ((ma 17), eI D 60 tt9), ((ma 18), eI D 600 sf), ((ma 24), eZ D 100 pf), ((ma 31), eI D 6 hb), (mo, .inr (10, M1R ma (mZ c c2 tk vc ln rn zs_10 zs_11 zs_20 zs_21 zs_22 zs_25 zs_26 zs_27 zs_29)))]) rfl rfl rfl rfl ?_
    refine v_if_eq O 34 dX10_fair_13 (by decide) (fun y2 => ?_) (fun y2 => ?_)
    · skip
      have y2 := b2i_0.mp y2
      exact absurd ((isIx_nI (by omega) (by omega)).mpr hi) y2
    · skip
      have y2 := b2i_1.mp y2
      refine v_aload_n O dX10_fair_16 0 rfl ?_
      refine v_iload_n O dX10_fair_17 3 rfl ?_
      refine v_iconst (v := 0) O dX10_fair_18 (by decide) ?_
      refine v_iconst (v := 1) O dX10_fair_19 (by decide) ?_
      refine v_cV (T := TX10) (ci := 10) (As := [.int 1, .int 0, .int 1]) (wr := [((ma 4), eI D 6 (nF c.kk)), ((ma 5), eI D 6 (nF c.vv)), ((ma 6), eI D 6 c.hd), ((ma 30), eI D 8 (nF c.crf)), ((ma 35), eI D 12 (nF c.bo)), ((ma 13), eI D 6 cls), ((ma 14), eI D 60 wd), ((ma 15), eI D 60 nu), ((ma 16), eI D 60 fr), ((ma 17), eI D 60 tt9), ((ma 18), eI D 600 sf), ((ma 24), eZ D 100 pf), ((ma 31), eI D 6 hb), (mo, .inr (10, M1R ma (mZ c c2 tk vc ln rn zs_10 zs_11 zs_20 zs_21 zs_22 zs_25 zs_26 zs_27 zs_29)))]) (st := []) O cf_X10_179 rfl (sp_X10_in_0 (mo := mo) (x := 1) (h := 1) (zn := 2) (rfl) (by decide)) dX10_fair_20 rfl rfl 13 rfl [] [0, 1, 2, 3, 4, 5, 6, 7, 8, 9, 10, 11, 12, 13] (by decide) rfl rfl (by decide) (by decide) (by decide) (Nat.le_of_ble_eq_true rfl) (by decide) (by decide) (fun r_8 w_9 h_7 => ?_)
      obtain ⟨rfl, rfl⟩ := h_7
      refine v_eq (st' := [.int (b2i (isIx 1 2))]) (ws' := [((ma 4), eI D 6 (nF c.kk)), ((ma 5), eI D 6 (nF c.vv)), ((ma 6), eI D 6 c.hd), ((ma 30), eI D 8 (nF c.crf)), ((ma 35), eI D 12 (nF c.bo)), ((ma 13), eI D 6 cls), ((ma 14), eI D 60 wd), ((ma 15), eI D 60 nu), ((ma 16), eI D 60 fr), ((ma 17), eI D 60 tt9), ((ma 18), eI D 600 sf), ((ma 24), eZ D 100 pf), ((ma 31), eI D 6 hb), (mo, .inr (10, M1R ma (mZ c c2 tk vc ln rn zs_10 zs_11 zs_20 zs_21 zs_22 zs_25 zs_26 zs_27 zs_29)))]) rfl rfl rfl rfl ?_
      refine v_if_eq O 34 dX10_fair_23 (by decide) (fun y3 => ?_) (fun y3 => ?_)
      · skip
        have y3 := b2i_0.mp y3
        exact absurd ⟨1, by decide, rfl⟩ y3
      · skip
        have y3 := b2i_1.mp y3
        refine v_aload_n O dX10_fair_26 0 rfl ?_
        refine v_iload_n O dX10_fair_27 1 rfl ?_
        refine v_cV (T := TX10) (ci := 10) (As := [.int (nI h)]) (wr := []) (st := []) O cf_X10_287 rfl (sp_X10_goesRow (mo := mo) (ma := ma) (c := c) (c2 := c2) (tk := tk) (vc := vc) (ln := ln) (rn := rn) (zs_10 := zs_10) (zs_11 := zs_11) (zs_20 := zs_20) (zs_21 := zs_21) (zs_22 := zs_22) (zs_25 := zs_25) (zs_26 := zs_26) (zs_27 := zs_27) (zs_29 := zs_29) (wd := wd) (nu := nu) (fr := fr) (tt9 := tt9) (sf := sf) (cls := cls) (pf := pf) (hb := hb) (bg := bg) (bn := bn) (v := v) (h := h) (hB9) (hM) (hC) (hva) (hh)) dX10_fair_28 rfl rfl 13 rfl [13, 0, 1, 2, 3, 4, 5, 6, 7, 8, 9, 10, 11, 12] [] (by decide) rfl rfl (by decide) (by decide) (by decide) (Nat.le_of_ble_eq_true rfl) (by decide) (by decide) (fun r_11 w_12 h_10 => ?_)
        obtain ⟨zs2_25_13, zs2_26_14, zs2_27_15, zs2_29_16, pf2_17, hb2_18, rfl, rfl, h_g⟩ := h_10
        refine v_eq (st' := [.int (b2i (¬ wlkA c v h c.rl = none))]) (ws' := [(mo, .inr (10, M1R ma (mZ c c2 tk vc ln rn zs_10 zs_11 zs_20 zs_21 zs_22 zs2_25_13 zs2_26_14 zs2_27_15 zs2_29_16))), ((ma 4), eI D 6 (nF c.kk)), ((ma 5), eI D 6 (nF c.vv)), ((ma 6), eI D 6 c.hd), ((ma 30), eI D 8 (nF c.crf)), ((ma 35), eI D 12 (nF c.bo)), ((ma 13), eI D 6 cls), ((ma 14), eI D 60 wd), ((ma 15), eI D 60 nu), ((ma 16), eI D 60 fr), ((ma 17), eI D 60 tt9), ((ma 18), eI D 600 sf), ((ma 24), eZ D 100 pf2_17), ((ma 31), eI D 6 hb2_18)]) rfl rfl rfl rfl ?_
        refine v_if_ne O 38 dX10_fair_31 (by decide) (fun z4 => ?_) (fun z4 => ?_)
        · skip
          have z4 := b2i_1.mp z4
          obtain ⟨z_a, z_t, z_q⟩ := h_g zL zT zQ hn
          have z_q := z_q i (by omega)
          have z_le := walkN_le (fun m => partsN_ge hva.2.2.1) hn
          have z_li := z_le.2 i
          have z_mu : zQ i * c.men ≤ 1000000 * 6 := Nat.mul_le_mul (by omega) hC.1
          refine v_aload_n O dX10_fair_38 0 rfl ?_
          refine gf_X10_105 (v := .ref (ma 31)) O rfl dX10_fair_39 0 rfl rfl ?_
          refine v_iload_n O dX10_fair_42 2 rfl ?_
          refine v_ialdk O dX10_fair_43 13 rfl i rfl (by omega) (by decide) ?_
          refine v_top (y := nI (zQ i)) (z_q) ?_
          refine v_i2l O dX10_fair_44 ?_
          refine v_topx (y := lN (zQ i)) (nI_l (by omega)) ?_
          refine v_aload_n O dX10_fair_45 0 rfl ?_
          refine gf_X10_7 (v := .int (nI c.men)) O rfl dX10_fair_46 0 rfl rfl ?_
          refine v_i2l O dX10_fair_49 ?_
          refine v_topx (y := lN c.men) (nI_l (by omega)) ?_
          refine v_lmul O dX10_fair_50 ?_
          refine v_topx (y := lN (zQ i * c.men)) (lN_mul _ _) ?_
          refine v_aload_n O dX10_fair_51 0 rfl ?_
          refine gf_X10_87 (v := .int zs2_25_13) O rfl dX10_fair_52 0 rfl rfl ?_
          refine v_top (y := nI zL) (z_a) ?_
          refine v_i2l O dX10_fair_55 ?_
          refine v_topx (y := lN zL) (nI_l (by omega)) ?_
          refine v_ladd O dX10_fair_56 ?_
          refine v_topx (y := lN ((zQ i * c.men) + zL)) (lN_add _ _) ?_
          refine v_iload_n O dX10_fair_57 1 rfl ?_
          refine v_i2l O dX10_fair_58 ?_
          refine v_topx (y := lN h) (nI_l (by omega)) ?_
          refine v_lsub O dX10_fair_59 ?_
          refine v_aload_n O dX10_fair_60 0 rfl ?_
          refine gf_X10_99 (v := .int zs2_29_16) O rfl dX10_fair_61 0 rfl rfl ?_
          refine v_top (y := nI zT) (z_t) ?_
          refine v_i2l O dX10_fair_64 ?_
          refine v_topx (y := lN zT) (nI_l (by omega)) ?_
          refine v_ladd O dX10_fair_65 ?_
          refine v_topx (y := Int64.ofInt (((zQ i * c.men + zL + zT : Nat) : Int) - h)) (by rw [fI_sub, ← fI_n zT, ← Int64.ofInt_add]; exact congrArg Int64.ofInt (by omega)) ?_
          refine v_lstore (lv' := [(0, .ref mo), (1, .int (nI h)), (2, .int (nI i)), (3, .int 1), (4, .long (Int64.ofInt (((zQ i * c.men + zL + zT : Nat) : Int) - h)))]) O dX10_fair_66 (by decide) rfl ?_
          refine v_aload_n O dX10_fair_68 0 rfl ?_
          refine v_lload O dX10_fair_69 4 rfl ?_
          refine v_aload_n O dX10_fair_71 0 rfl ?_
          refine gf_X10_7 (v := .int (nI c.men)) O rfl dX10_fair_72 0 rfl rfl ?_
          refine v_i2l O dX10_fair_75 ?_
          refine v_topx (y := lN c.men) (nI_l (by omega)) ?_
          refine v_cV (T := TX10) (ci := 10) (As := [.long (Int64.ofInt (((zQ i * c.men + zL + zT : Nat) : Int) - h)), .long (lN c.men)]) (wr := [(mo, .inr (10, M1R ma (mZ c c2 tk vc ln rn zs_10 zs_11 zs_20 zs_21 zs_22 zs2_25_13 zs2_26_14 zs2_27_15 zs2_29_16))), ((ma 4), eI D 6 (nF c.kk)), ((ma 5), eI D 6 (nF c.vv)), ((ma 6), eI D 6 c.hd), ((ma 30), eI D 8 (nF c.crf)), ((ma 35), eI D 12 (nF c.bo)), ((ma 13), eI D 6 cls), ((ma 14), eI D 60 wd), ((ma 15), eI D 60 nu), ((ma 16), eI D 60 fr), ((ma 17), eI D 60 tt9), ((ma 18), eI D 600 sf), ((ma 24), eZ D 100 pf2_17), ((ma 31), eI D 6 hb2_18)]) (st := []) O cf_X10_301 rfl (sp_X10_divisor (mo := mo) (z := (((zQ i * c.men + zL + zT : Nat) : Int) - h)) (b := c.men) (by omega) (by omega) (by omega)) dX10_fair_76 rfl rfl 0 rfl [] [0, 1, 2, 3, 4, 5, 6, 7, 8, 9, 10, 11, 12, 13] (by decide) rfl rfl (by decide) (by decide) (by decide) (Nat.le_of_ble_eq_true rfl) (by decide) (by decide) (fun r_20 w_21 h_19 => ?_)
          obtain ⟨rfl, rfl⟩ := h_19
          refine v_eq (st' := [.long (lN (Nat.gcd (((zQ i * c.men + zL + zT : Nat) : Int) - h).natAbs c.men))]) (ws' := [(mo, .inr (10, M1R ma (mZ c c2 tk vc ln rn zs_10 zs_11 zs_20 zs_21 zs_22 zs2_25_13 zs2_26_14 zs2_27_15 zs2_29_16))), ((ma 4), eI D 6 (nF c.kk)), ((ma 5), eI D 6 (nF c.vv)), ((ma 6), eI D 6 c.hd), ((ma 30), eI D 8 (nF c.crf)), ((ma 35), eI D 12 (nF c.bo)), ((ma 13), eI D 6 cls), ((ma 14), eI D 60 wd), ((ma 15), eI D 60 nu), ((ma 16), eI D 60 fr), ((ma 17), eI D 60 tt9), ((ma 18), eI D 600 sf), ((ma 24), eZ D 100 pf2_17), ((ma 31), eI D 6 hb2_18)]) rfl rfl rfl rfl ?_
          have z_gp : 0 < Nat.gcd (((zQ i * c.men + zL + zT : Nat) : Int) - h).natAbs c.men := Nat.gcd_pos_of_pos_right _ (by omega)
          have z_gl : Nat.gcd (((zQ i * c.men + zL + zT : Nat) : Int) - h).natAbs c.men ≤ c.men := Nat.gcd_le_right _ (by omega)
          refine v_lstore (lv' := [(0, .ref mo), (1, .int (nI h)), (2, .int (nI i)), (3, .int 1), (4, .long (Int64.ofInt (((zQ i * c.men + zL + zT : Nat) : Int) - h))), (6, .long (lN (Nat.gcd (((zQ i * c.men + zL + zT : Nat) : Int) - h).natAbs c.men)))]) O dX10_fair_79 (by decide) rfl ?_
          refine v_iload_n O dX10_fair_81 3 rfl ?_
          refine v_if_ne O 93 dX10_fair_82 (by decide) (fun _ => ?_) (fun c => absurd c (by decide))
          refine v_aload_n O dX10_fair_93 0 rfl ?_
          refine gf_X10_7 (v := .int (nI c.men)) O rfl dX10_fair_94 0 rfl rfl ?_
          refine v_i2l O dX10_fair_97 ?_
          refine v_topx (y := lN c.men) (nI_l (by omega)) ?_
          refine v_lload O dX10_fair_98 5 rfl ?_
          refine v_ldiv O dX10_fair_100 (fun z9 => absurd ((fb_lN_inj (b := 0) (by omega) (by decide)).mp z9) (by omega)) ?_
          exact v_lreturn O T rfl (by decide) (by decide) dX10_fair_101 (⟨zs_10, zs_11, zs_20, zs_21, zs_22, zs2_25_13, zs2_26_14, zs2_27_15, zs2_29_16, _, _, rfl, rfl⟩)
        · skip
          have z4 := b2i_0.mp z4
          exact absurd (Classical.not_not.mp z4) (by rw [hn]; exact fun y => by cases y)
set_option maxRecDepth 100000 in
set_option maxHeartbeats 4000000 in
theorem sp_X10_chance_1 {D : G} {mo : Nat} {ma : Nat → Nat} {c : CS} {c2 : CS} {tk : Int32} {vc : Nat} {ln : Nat} {rn : Nat} {zs_10 : Int32} {zs_11 : Int32} {zs_20 : Int32} {zs_21 : Int32} {zs_22 : Int32} {zs_25 : Int32} {zs_26 : Int32} {zs_27 : Int32} {zs_29 : Int32} {n : Int32} {p : Int32} (hn : ¬ isIx n 10000) : Sp D mX10_chance 30 0 0 [.ref mo, .int n, .int p] [(mo, .inr (10, M1R ma (mZ c c2 tk vc ln rn zs_10 zs_11 zs_20 zs_21 zs_22 zs_25 zs_26 zs_27 zs_29)))] (fun r w => ∃ zs2_10 : Int32, ∃ zs2_11 : Int32, ∃ zs2_20 : Int32, ∃ zs2_21 : Int32, ∃ zs2_22 : Int32, ∃ zs2_25 : Int32, ∃ zs2_26 : Int32, ∃ zs2_27 : Int32, ∃ zs2_29 : Int32, r = some (.long (-9223372036854775808 : Int64)) ∧ w = [(mo, .inr (10, M1R ma (mZ c c2 tk vc ln rn zs2_10 zs2_11 zs2_20 zs2_21 zs2_22 zs2_25 zs2_26 zs2_27 zs2_29)))]) := by
  refine Sp.of (by decide) (Nat.le_of_ble_eq_true rfl) (fun X O T => ?_)
  refine v_eq (lv' := [(0, .ref mo), (1, .int n), (2, .int p)]) rfl rfl rfl rfl ?_
  refine v_aload_n O dX10_chance_0 0 rfl ?_
  refine v_iload_n O dX10_chance_1 1 rfl ?_
  refine v_iconst (v := 1) O dX10_chance_2 (by decide) ?_
  refine v_sipush (v := 9999) O dX10_chance_3 (by decide) ?_
  refine v_cV (T := TX10) (ci := 10) (As := [.int n, .int 1, .int 9999]) (wr := [(mo, .inr (10, M1R ma (mZ c c2 tk vc ln rn zs_10 zs_11 zs_20 zs_21 zs_22 zs_25 zs_26 zs_27 zs_29)))]) (st := []) O cf_X10_179 rfl (sp_X10_in_1_9999 (mo := mo) (x := n) ) dX10_chance_6 rfl rfl 0 rfl [] [0] (by decide) rfl rfl (by decide) (by decide) (by decide) (Nat.le_of_ble_eq_true rfl) (by decide) (by decide) (fun r_2 w_3 h_1 => ?_)
  obtain ⟨rfl, rfl⟩ := h_1
  refine v_eq (st' := [.int (b2i (1 ≤ n ∧ n ≤ 9999))]) (ws' := [(mo, .inr (10, M1R ma (mZ c c2 tk vc ln rn zs_10 zs_11 zs_20 zs_21 zs_22 zs_25 zs_26 zs_27 zs_29)))]) rfl rfl rfl rfl ?_
  refine v_if_eq O 22 dX10_chance_9 (by decide) (fun z1 => ?_) (fun z1 => ?_)
  · skip
    have z1 := b2i_0.mp z1
    refine v_ldc2 (v := -9223372036854775808) O tw_1343 dX10_chance_22 ?_
    exact v_lreturn O T rfl (by decide) (by decide) dX10_chance_25 (⟨zs_10, zs_11, zs_20, zs_21, zs_22, zs_25, zs_26, zs_27, zs_29, rfl, rfl⟩)
  · skip
    have z1 := b2i_1.mp z1
    exact absurd (isIx_t' (n := 10000) (m := 9999) (by decide) rfl (fun q => absurd q (Int32.not_lt.mpr (Int32.le_trans (by decide) z1.1))) (Int32.not_lt.mpr z1.2)) hn
set_option maxRecDepth 100000 in
set_option maxHeartbeats 4000000 in
theorem sp_X10_chance_2 {D : G} {mo : Nat} {ma : Nat → Nat} {c : CS} {c2 : CS} {tk : Int32} {vc : Nat} {ln : Nat} {rn : Nat} {zs_10 : Int32} {zs_11 : Int32} {zs_20 : Int32} {zs_21 : Int32} {zs_22 : Int32} {zs_25 : Int32} {zs_26 : Int32} {zs_27 : Int32} {zs_29 : Int32} {p : Int32} : Sp D mX10_chance 30 0 0 [.ref mo, .int 0, .int p] [(mo, .inr (10, M1R ma (mZ c c2 tk vc ln rn zs_10 zs_11 zs_20 zs_21 zs_22 zs_25 zs_26 zs_27 zs_29)))] (fun r w => ∃ zs2_10 : Int32, ∃ zs2_11 : Int32, ∃ zs2_20 : Int32, ∃ zs2_21 : Int32, ∃ zs2_22 : Int32, ∃ zs2_25 : Int32, ∃ zs2_26 : Int32, ∃ zs2_27 : Int32, ∃ zs2_29 : Int32, r = some (.long (-9223372036854775808 : Int64)) ∧ w = [(mo, .inr (10, M1R ma (mZ c c2 tk vc ln rn zs2_10 zs2_11 zs2_20 zs2_21 zs2_22 zs2_25 zs2_26 zs2_27 zs2_29)))]) := by
  refine Sp.of (by decide) (Nat.le_of_ble_eq_true rfl) (fun X O T => ?_)
  refine v_eq (lv' := [(0, .ref mo), (1, .int 0), (2, .int p)]) rfl rfl rfl rfl ?_
  refine v_aload_n O dX10_chance_0 0 rfl ?_
  refine v_iload_n O dX10_chance_1 1 rfl ?_
  refine v_iconst (v := 1) O dX10_chance_2 (by decide) ?_
  refine v_sipush (v := 9999) O dX10_chance_3 (by decide) ?_
  refine v_cV (T := TX10) (ci := 10) (As := [.int 0, .int 1, .int 9999]) (wr := [(mo, .inr (10, M1R ma (mZ c c2 tk vc ln rn zs_10 zs_11 zs_20 zs_21 zs_22 zs_25 zs_26 zs_27 zs_29)))]) (st := []) O cf_X10_179 rfl (sp_X10_in_1_9999 (mo := mo) (x := 0) ) dX10_chance_6 rfl rfl 0 rfl [] [0] (by decide) rfl rfl (by decide) (by decide) (by decide) (Nat.le_of_ble_eq_true rfl) (by decide) (by decide) (fun r_2 w_3 h_1 => ?_)
  obtain ⟨rfl, rfl⟩ := h_1
  refine v_eq (st' := [.int (b2i (1 ≤ 0 ∧ 0 ≤ 9999))]) (ws' := [(mo, .inr (10, M1R ma (mZ c c2 tk vc ln rn zs_10 zs_11 zs_20 zs_21 zs_22 zs_25 zs_26 zs_27 zs_29)))]) rfl rfl rfl rfl ?_
  refine v_if_eq O 22 dX10_chance_9 (by decide) (fun z1 => ?_) (fun z1 => ?_)
  · skip
    have z1 := b2i_0.mp z1
    refine v_ldc2 (v := -9223372036854775808) O tw_1343 dX10_chance_22 ?_
    exact v_lreturn O T rfl (by decide) (by decide) dX10_chance_25 (⟨zs_10, zs_11, zs_20, zs_21, zs_22, zs_25, zs_26, zs_27, zs_29, rfl, rfl⟩)
  · skip
    have z1 := b2i_1.mp z1
    exact absurd z1.1 (by decide)
set_option maxRecDepth 100000 in
set_option maxHeartbeats 4000000 in
theorem sp_X10_chance_3 {D : G} {mo : Nat} {ma : Nat → Nat} {c : CS} {c2 : CS} {tk : Int32} {vc : Nat} {ln : Nat} {rn : Nat} {zs_10 : Int32} {zs_11 : Int32} {zs_20 : Int32} {zs_21 : Int32} {zs_22 : Int32} {zs_25 : Int32} {zs_26 : Int32} {zs_27 : Int32} {zs_29 : Int32} {n : Nat} {p : Int32} {wd : Nat → Int32} {nu : Nat → Int32} {fr : Nat → Int32} {tt9 : Nat → Int32} {sf : Nat → Int32} {cls : Nat → Int32} {pf : Nat → Int32} {hb : Nat → Int32} {bg : Nat} {bn : Nat} {v : VS} (hC : cOk c) (hB9 : hB c.held cls bg bn) (hM : MR wd nu fr tt9 sf bg bn v) (hva : vAsk v) (hn1 : 1 ≤ n) (hn : n < 10000) (hp : ¬ isIx p 2) : Sp D mX10_chance 30 0 0 [.ref mo, .int (nI n), .int p] [(mo, .inr (10, M1R ma (mZ c c2 tk vc ln rn zs_10 zs_11 zs_20 zs_21 zs_22 zs_25 zs_26 zs_27 zs_29))), ((ma 4), eI D 6 (nF c.kk)), ((ma 5), eI D 6 (nF c.vv)), ((ma 6), eI D 6 c.hd), ((ma 30), eI D 8 (nF c.crf)), ((ma 35), eI D 12 (nF c.bo)), ((ma 13), eI D 6 cls), ((ma 14), eI D 60 wd), ((ma 15), eI D 60 nu), ((ma 16), eI D 60 fr), ((ma 17), eI D 60 tt9), ((ma 18), eI D 600 sf), ((ma 24), eZ D 100 pf), ((ma 31), eI D 6 hb)] (fun r w => ∃ zs2_10 : Int32, ∃ zs2_11 : Int32, ∃ zs2_20 : Int32, ∃ zs2_21 : Int32, ∃ zs2_22 : Int32, ∃ zs2_25 : Int32, ∃ zs2_26 : Int32, ∃ zs2_27 : Int32, ∃ zs2_29 : Int32, ∃ pf2 : Nat → Int32, ∃ hb2 : Nat → Int32, r = some (.long (-9223372036854775808 : Int64)) ∧ w = [(mo, .inr (10, M1R ma (mZ c c2 tk vc ln rn zs2_10 zs2_11 zs2_20 zs2_21 zs2_22 zs2_25 zs2_26 zs2_27 zs2_29))), ((ma 4), eI D 6 (nF c.kk)), ((ma 5), eI D 6 (nF c.vv)), ((ma 6), eI D 6 c.hd), ((ma 30), eI D 8 (nF c.crf)), ((ma 35), eI D 12 (nF c.bo)), ((ma 13), eI D 6 cls), ((ma 14), eI D 60 wd), ((ma 15), eI D 60 nu), ((ma 16), eI D 60 fr), ((ma 17), eI D 60 tt9), ((ma 18), eI D 600 sf), ((ma 24), eZ D 100 pf2), ((ma 31), eI D 6 hb2)]) := by
  refine Sp.of (by decide) (Nat.le_of_ble_eq_true rfl) (fun X O T => ?_)
  refine v_eq (lv' := [(0, .ref mo), (1, .int (nI n)), (2, .int p)]) rfl rfl rfl rfl ?_
  have z_m := hC.1
  have z_hp := hC.2.2.2.1
  have z_wk := hC.2.2.2.2.1
  have z_rl := hC.2.2.2.2.2.1
  have z_pg := hC.2.2.2.2.2.2.2.1
  refine v_aload_n O dX10_chance_0 0 rfl ?_
  refine v_iload_n O dX10_chance_1 1 rfl ?_
  refine v_iconst (v := 1) O dX10_chance_2 (by decide) ?_
  refine v_sipush (v := 9999) O dX10_chance_3 (by decide) ?_
  refine v_cV (T := TX10) (ci := 10) (As := [.int (nI n), .int 1, .int 9999]) (wr := [(mo, .inr (10, M1R ma (mZ c c2 tk vc ln rn zs_10 zs_11 zs_20 zs_21 zs_22 zs_25 zs_26 zs_27 zs_29))), ((ma 4), eI D 6 (nF c.kk)), ((ma 5), eI D 6 (nF c.vv)), ((ma 6), eI D 6 c.hd), ((ma 30), eI D 8 (nF c.crf)), ((ma 35), eI D 12 (nF c.bo)), ((ma 13), eI D 6 cls), ((ma 14), eI D 60 wd), ((ma 15), eI D 60 nu), ((ma 16), eI D 60 fr), ((ma 17), eI D 60 tt9), ((ma 18), eI D 600 sf), ((ma 24), eZ D 100 pf), ((ma 31), eI D 6 hb)]) (st := []) O cf_X10_179 rfl (sp_X10_in_1_9999 (mo := mo) (x := (nI n)) ) dX10_chance_6 rfl rfl 0 rfl [] [0, 1, 2, 3, 4, 5, 6, 7, 8, 9, 10, 11, 12, 13] (by decide) rfl rfl (by decide) (by decide) (by decide) (Nat.le_of_ble_eq_true rfl) (by decide) (by decide) (fun r_2 w_3 h_1 => ?_)
  obtain ⟨rfl, rfl⟩ := h_1
  refine v_eq (st' := [.int (b2i (1 ≤ (nI n) ∧ (nI n) ≤ 9999))]) (ws' := [(mo, .inr (10, M1R ma (mZ c c2 tk vc ln rn zs_10 zs_11 zs_20 zs_21 zs_22 zs_25 zs_26 zs_27 zs_29))), ((ma 4), eI D 6 (nF c.kk)), ((ma 5), eI D 6 (nF c.vv)), ((ma 6), eI D 6 c.hd), ((ma 30), eI D 8 (nF c.crf)), ((ma 35), eI D 12 (nF c.bo)), ((ma 13), eI D 6 cls), ((ma 14), eI D 60 wd), ((ma 15), eI D 60 nu), ((ma 16), eI D 60 fr), ((ma 17), eI D 60 tt9), ((ma 18), eI D 600 sf), ((ma 24), eZ D 100 pf), ((ma 31), eI D 6 hb)]) rfl rfl rfl rfl ?_
  refine v_if_eq O 22 dX10_chance_9 (by decide) (fun z1 => ?_) (fun z1 => ?_)
  · skip
    have z1 := b2i_0.mp z1
    exact absurd (⟨(c_le (x := 1) (y := nI n) (a := 1) rfl rfl (by omega) (by omega)).mpr (by omega), (c_le (x := nI n) (y := 9999) (b := 9999) rfl rfl (by omega) (by omega)).mpr (by omega)⟩) z1
  · skip
    have z1 := b2i_1.mp z1
    refine v_aload_n O dX10_chance_12 0 rfl ?_
    refine v_iload_n O dX10_chance_13 2 rfl ?_
    refine v_iconst (v := 0) O dX10_chance_14 (by decide) ?_
    refine v_iconst (v := 1) O dX10_chance_15 (by decide) ?_
    refine v_cV (T := TX10) (ci := 10) (As := [.int p, .int 0, .int 1]) (wr := [(mo, .inr (10, M1R ma (mZ c c2 tk vc ln rn zs_10 zs_11 zs_20 zs_21 zs_22 zs_25 zs_26 zs_27 zs_29))), ((ma 4), eI D 6 (nF c.kk)), ((ma 5), eI D 6 (nF c.vv)), ((ma 6), eI D 6 c.hd), ((ma 30), eI D 8 (nF c.crf)), ((ma 35), eI D 12 (nF c.bo)), ((ma 13), eI D 6 cls), ((ma 14), eI D 60 wd), ((ma 15), eI D 60 nu), ((ma 16), eI D 60 fr), ((ma 17), eI D 60 tt9), ((ma 18), eI D 600 sf), ((ma 24), eZ D 100 pf), ((ma 31), eI D 6 hb)]) (st := []) O cf_X10_179 rfl (sp_X10_in_0 (mo := mo) (x := p) (h := 1) (zn := 2) (rfl) (by decide)) dX10_chance_16 rfl rfl 0 rfl [] [0, 1, 2, 3, 4, 5, 6, 7, 8, 9, 10, 11, 12, 13] (by decide) rfl rfl (by decide) (by decide) (by decide) (Nat.le_of_ble_eq_true rfl) (by decide) (by decide) (fun r_5 w_6 h_4 => ?_)
    obtain ⟨rfl, rfl⟩ := h_4
    refine v_eq (st' := [.int (b2i (isIx p 2))]) (ws' := [(mo, .inr (10, M1R ma (mZ c c2 tk vc ln rn zs_10 zs_11 zs_20 zs_21 zs_22 zs_25 zs_26 zs_27 zs_29))), ((ma 4), eI D 6 (nF c.kk)), ((ma 5), eI D 6 (nF c.vv)), ((ma 6), eI D 6 c.hd), ((ma 30), eI D 8 (nF c.crf)), ((ma 35), eI D 12 (nF c.bo)), ((ma 13), eI D 6 cls), ((ma 14), eI D 60 wd), ((ma 15), eI D 60 nu), ((ma 16), eI D 60 fr), ((ma 17), eI D 60 tt9), ((ma 18), eI D 600 sf), ((ma 24), eZ D 100 pf), ((ma 31), eI D 6 hb)]) rfl rfl rfl rfl ?_
    refine v_if_ne O 26 dX10_chance_19 (by decide) (fun z2 => ?_) (fun z2 => ?_)
    · skip
      have z2 := b2i_1.mp z2
      exact absurd z2 hp
    · skip
      have z2 := b2i_0.mp z2
      refine v_ldc2 (v := -9223372036854775808) O tw_1343 dX10_chance_22 ?_
      exact v_lreturn O T rfl (by decide) (by decide) dX10_chance_25 (⟨zs_10, zs_11, zs_20, zs_21, zs_22, zs_25, zs_26, zs_27, zs_29, _, _, rfl, rfl⟩)
set_option maxRecDepth 100000 in
set_option maxHeartbeats 4000000 in
theorem l_X10_chance_4 {D : G} {X : CX} {mo : Nat} {ma : Nat → Nat} {c : CS} {c2 : CS} {tk : Int32} {vc : Nat} {ln : Nat} {rn : Nat} {zs_10 : Int32} {zs_11 : Int32} {zs_20 : Int32} {zs_21 : Int32} {zs_22 : Int32} {n : Nat} {wd : Nat → Int32} {nu : Nat → Int32} {fr : Nat → Int32} {tt9 : Nat → Int32} {sf : Nat → Int32} {cls : Nat → Int32} {bg : Nat} {bn : Nat} {v : VS} (O : Ok D X mX10_chance 30 0 0) (hC : cOk c) (hB9 : hB c.held cls bg bn) (hM : MR wd nu fr tt9 sf bg bn v) (hva : vAsk v) (hn1 : 1 ≤ n) (hn : n < 10000) (T : Rt D X (fun r w => ∃ zs2_10 : Int32, ∃ zs2_11 : Int32, ∃ zs2_20 : Int32, ∃ zs2_21 : Int32, ∃ zs2_22 : Int32, ∃ zs2_25 : Int32, ∃ zs2_26 : Int32, ∃ zs2_27 : Int32, ∃ zs2_29 : Int32, ∃ pf2 : Nat → Int32, ∃ hb2 : Nat → Int32, r = some (.long (fracA ((cntN (ngtA c v) n 1 : Nat) : Int) n)) ∧ w = [(mo, .inr (10, M1R ma (mZ c c2 tk vc ln rn zs2_10 zs2_11 zs2_20 zs2_21 zs2_22 zs2_25 zs2_26 zs2_27 zs2_29))), ((ma 4), eI D 6 (nF c.kk)), ((ma 5), eI D 6 (nF c.vv)), ((ma 6), eI D 6 c.hd), ((ma 30), eI D 8 (nF c.crf)), ((ma 35), eI D 12 (nF c.bo)), ((ma 13), eI D 6 cls), ((ma 14), eI D 60 wd), ((ma 15), eI D 60 nu), ((ma 16), eI D 60 fr), ((ma 17), eI D 60 tt9), ((ma 18), eI D 600 sf), ((ma 24), eZ D 100 pf2), ((ma 31), eI D 6 hb2)]) 0 0) : ∀ (t i : Nat), i + t = n + 1 → ∀ x : Nat, ∀ (zs_25 zs_26 zs_27 zs_29 : Int32) (pf hb : Nat → Int32), cntN (ngtA c v) n 1 = x + cntN (ngtA c v) t i → x ≤ i → V D X 0 0 31 [(0, .ref mo), (1, .int (nI n)), (2, .int 0), (3, .long (lN x)), (5, .int (nI i))] [] [(mo, .inr (10, M1R ma (mZ c c2 tk vc ln rn zs_10 zs_11 zs_20 zs_21 zs_22 zs_25 zs_26 zs_27 zs_29))), ((ma 4), eI D 6 (nF c.kk)), ((ma 5), eI D 6 (nF c.vv)), ((ma 6), eI D 6 c.hd), ((ma 30), eI D 8 (nF c.crf)), ((ma 35), eI D 12 (nF c.bo)), ((ma 13), eI D 6 cls), ((ma 14), eI D 60 wd), ((ma 15), eI D 60 nu), ((ma 16), eI D 60 fr), ((ma 17), eI D 60 tt9), ((ma 18), eI D 600 sf), ((ma 24), eZ D 100 pf), ((ma 31), eI D 6 hb)] := by
  intro t
  induction t with
  | zero =>
    intro i hi x zs_25 zs_26 zs_27 zs_29 pf hb hF hxi
    refine v_iload O dX10_chance_31 4 rfl ?_
    refine v_iload_n O dX10_chance_33 1 rfl ?_
    refine v_icmp_gt O 60 dX10_chance_34 (by decide) (fun z1 => ?_) (fun z1 => ?_)
    · skip
      have z1 := (c_lt' (x := nI i) (y := nI n) (a := i) (b := n) rfl rfl (by omega) (by omega)).mp z1
      have hX : x = cntN (ngtA c v) n 1 := by rw [hF]; exact (Nat.add_zero _).symm
      have z_kl : cntN (ngtA c v) n 1 ≤ n := cntN_le
      refine v_aload_n O dX10_chance_60 0 rfl ?_
      refine v_lload_n O dX10_chance_61 3 rfl ?_
      refine v_topx (y := Int64.ofInt ((cntN (ngtA c v) n 1 : Nat) : Int)) (by rw [fI_n, hX]) ?_
      refine v_iload_n O dX10_chance_62 1 rfl ?_
      refine v_i2l O dX10_chance_63 ?_
      refine v_topx (y := lN n) (nI_l (by omega)) ?_
      refine v_cV (T := TX10) (ci := 10) (As := [.long (Int64.ofInt ((cntN (ngtA c v) n 1 : Nat) : Int)), .long (lN n)]) (wr := [(mo, .inr (10, M1R ma (mZ c c2 tk vc ln rn zs_10 zs_11 zs_20 zs_21 zs_22 zs_25 zs_26 zs_27 zs_29))), ((ma 4), eI D 6 (nF c.kk)), ((ma 5), eI D 6 (nF c.vv)), ((ma 6), eI D 6 c.hd), ((ma 30), eI D 8 (nF c.crf)), ((ma 35), eI D 12 (nF c.bo)), ((ma 13), eI D 6 cls), ((ma 14), eI D 60 wd), ((ma 15), eI D 60 nu), ((ma 16), eI D 60 fr), ((ma 17), eI D 60 tt9), ((ma 18), eI D 600 sf), ((ma 24), eZ D 100 pf), ((ma 31), eI D 6 hb)]) (st := []) O cf_X10_301 rfl (sp_X10_divisor (mo := mo) (z := ((cntN (ngtA c v) n 1 : Nat) : Int)) (b := n) (by omega) (by omega) (by omega)) dX10_chance_64 rfl rfl 0 rfl [] [0, 1, 2, 3, 4, 5, 6, 7, 8, 9, 10, 11, 12, 13] (by decide) rfl rfl (by decide) (by decide) (by decide) (Nat.le_of_ble_eq_true rfl) (by decide) (by decide) (fun r_2 w_3 h_1 => ?_)
      obtain ⟨rfl, rfl⟩ := h_1
      refine v_eq (st' := [.long (lN (Nat.gcd ((cntN (ngtA c v) n 1 : Nat) : Int).natAbs n))]) (ws' := [(mo, .inr (10, M1R ma (mZ c c2 tk vc ln rn zs_10 zs_11 zs_20 zs_21 zs_22 zs_25 zs_26 zs_27 zs_29))), ((ma 4), eI D 6 (nF c.kk)), ((ma 5), eI D 6 (nF c.vv)), ((ma 6), eI D 6 c.hd), ((ma 30), eI D 8 (nF c.crf)), ((ma 35), eI D 12 (nF c.bo)), ((ma 13), eI D 6 cls), ((ma 14), eI D 60 wd), ((ma 15), eI D 60 nu), ((ma 16), eI D 60 fr), ((ma 17), eI D 60 tt9), ((ma 18), eI D 600 sf), ((ma 24), eZ D 100 pf), ((ma 31), eI D 6 hb)]) rfl rfl rfl rfl ?_
      have z_gp : 0 < Nat.gcd ((cntN (ngtA c v) n 1 : Nat) : Int).natAbs n := Nat.gcd_pos_of_pos_right _ (by omega)
      have z_gl : Nat.gcd ((cntN (ngtA c v) n 1 : Nat) : Int).natAbs n ≤ n := Nat.gcd_le_right _ (by omega)
      refine v_lstore (lv' := [(0, .ref mo), (1, .int (nI n)), (2, .int 0), (3, .long (lN x)), (5, .long (lN (Nat.gcd ((cntN (ngtA c v) n 1 : Nat) : Int).natAbs n)))]) O dX10_chance_67 (by decide) rfl ?_
      refine v_iload_n O dX10_chance_69 2 rfl ?_
      refine v_if_ne O 80 dX10_chance_70 (by decide) (fun c => absurd c (by decide)) (fun _ => ?_)
      refine v_lload_n O dX10_chance_73 3 rfl ?_
      refine v_lload O dX10_chance_74 4 rfl ?_
      refine v_ldiv O dX10_chance_76 (fun z9 => absurd ((fb_lN_inj (b := 0) (by omega) (by decide)).mp z9) (by omega)) ?_
      refine v_goto O 85 dX10_chance_77 (by decide) ?_
      exact v_lreturn O T rfl (by decide) (by decide) dX10_chance_85 (⟨zs_10, zs_11, zs_20, zs_21, zs_22, zs_25, zs_26, zs_27, zs_29, _, _, by unfold fracA; rw [fI_n, hX], rfl⟩)
    · skip
      have z1 := (not_congr (c_lt' (x := nI i) (y := nI n) (a := i) (b := n) rfl rfl (by omega) (by omega))).mp z1
      exact absurd z1 (by omega)
  | succ t ih =>
    intro i hi x zs_25 zs_26 zs_27 zs_29 pf hb hF hxi
    refine v_iload O dX10_chance_31 4 rfl ?_
    refine v_iload_n O dX10_chance_33 1 rfl ?_
    refine v_icmp_gt O 60 dX10_chance_34 (by decide) (fun z1 => ?_) (fun z1 => ?_)
    · skip
      have z1 := (c_lt' (x := nI i) (y := nI n) (a := i) (b := n) rfl rfl (by omega) (by omega)).mp z1
      exact absurd z1 (by omega)
    · skip
      have z1 := (not_congr (c_lt' (x := nI i) (y := nI n) (a := i) (b := n) rfl rfl (by omega) (by omega))).mp z1
      refine v_lload_n O dX10_chance_37 3 rfl ?_
      refine v_aload_n O dX10_chance_38 0 rfl ?_
      refine v_iload O dX10_chance_39 4 rfl ?_
      refine v_cV (T := TX10) (ci := 10) (As := [.int (nI i)]) (wr := []) (st := [.long (lN x)]) O cf_X10_290 rfl (sp_X10_isNight (mo := mo) (ma := ma) (c := c) (c2 := c2) (tk := tk) (vc := vc) (ln := ln) (rn := rn) (zs_10 := zs_10) (zs_11 := zs_11) (zs_20 := zs_20) (zs_21 := zs_21) (zs_22 := zs_22) (zs_25 := zs_25) (zs_26 := zs_26) (zs_27 := zs_27) (zs_29 := zs_29) (wd := wd) (nu := nu) (fr := fr) (tt9 := tt9) (sf := sf) (cls := cls) (pf := pf) (hb := hb) (bg := bg) (bn := bn) (v := v) (h := i) (hB9) (hM) (hC) (hva) (by omega)) dX10_chance_41 rfl rfl 0 rfl [0, 1, 2, 3, 4, 5, 6, 7, 8, 9, 10, 11, 12, 13] [] (by decide) rfl rfl (by decide) (by decide) (by decide) (Nat.le_of_ble_eq_true rfl) (by decide) (by decide) (fun r_2 w_3 h_1 => ?_)
      obtain ⟨zs2_25_4, zs2_26_5, zs2_27_6, zs2_29_7, pf2_8, hb2_9, rfl, rfl⟩ := h_1
      refine v_eq (st' := [.int (b2i (ngtA c v i)), .long (lN x)]) (ws' := [(mo, .inr (10, M1R ma (mZ c c2 tk vc ln rn zs_10 zs_11 zs_20 zs_21 zs_22 zs2_25_4 zs2_26_5 zs2_27_6 zs2_29_7))), ((ma 4), eI D 6 (nF c.kk)), ((ma 5), eI D 6 (nF c.vv)), ((ma 6), eI D 6 c.hd), ((ma 30), eI D 8 (nF c.crf)), ((ma 35), eI D 12 (nF c.bo)), ((ma 13), eI D 6 cls), ((ma 14), eI D 60 wd), ((ma 15), eI D 60 nu), ((ma 16), eI D 60 fr), ((ma 17), eI D 60 tt9), ((ma 18), eI D 600 sf), ((ma 24), eZ D 100 pf2_8), ((ma 31), eI D 6 hb2_9)]) rfl rfl rfl rfl ?_
      refine v_if_eq O 51 dX10_chance_44 (by decide) (fun z2 => ?_) (fun z2 => ?_)
      · skip
        have z2 := b2i_0.mp z2
        refine v_lconst (v := 0) O dX10_chance_51 rfl ?_
        refine v_ladd O dX10_chance_52 ?_
        refine v_topx (y := lN (x + 0)) (lN_add _ _) ?_
        refine v_lstore_n (lv' := [(0, .ref mo), (1, .int (nI n)), (2, .int 0), (3, .long (lN (x + 0))), (5, .int (nI i))]) O dX10_chance_53 (by decide) rfl ?_
        refine v_iinc (v := nI (i + 1)) (lv' := [(0, .ref mo), (1, .int (nI n)), (2, .int 0), (3, .long (lN (x + 0))), (5, .int (nI (i + 1)))]) O dX10_chance_54 4 rfl (nI_1 i) (by decide) rfl ?_
        refine v_goto O 31 dX10_chance_57 (by decide) ?_
        exact ih (i + 1) (by omega) _ _ _ _ _ _ _ (by rw [hF, cntN_d, iteP_f z2]; omega) (by omega)
      · skip
        have z2 := b2i_1.mp z2
        refine v_lconst (v := 1) O dX10_chance_47 rfl ?_
        refine v_goto O 52 dX10_chance_48 (by decide) ?_
        refine v_ladd O dX10_chance_52 ?_
        refine v_topx (y := lN (x + 1)) (lN_add _ _) ?_
        refine v_lstore_n (lv' := [(0, .ref mo), (1, .int (nI n)), (2, .int 0), (3, .long (lN (x + 1))), (5, .int (nI i))]) O dX10_chance_53 (by decide) rfl ?_
        refine v_iinc (v := nI (i + 1)) (lv' := [(0, .ref mo), (1, .int (nI n)), (2, .int 0), (3, .long (lN (x + 1))), (5, .int (nI (i + 1)))]) O dX10_chance_54 4 rfl (nI_1 i) (by decide) rfl ?_
        refine v_goto O 31 dX10_chance_57 (by decide) ?_
        exact ih (i + 1) (by omega) _ _ _ _ _ _ _ (by rw [hF, cntN_d, iteP_t z2]; omega) (by omega)
set_option maxRecDepth 100000 in
set_option maxHeartbeats 4000000 in
theorem sp_X10_chance_4 {D : G} {mo : Nat} {ma : Nat → Nat} {c : CS} {c2 : CS} {tk : Int32} {vc : Nat} {ln : Nat} {rn : Nat} {zs_10 : Int32} {zs_11 : Int32} {zs_20 : Int32} {zs_21 : Int32} {zs_22 : Int32} {zs_25 : Int32} {zs_26 : Int32} {zs_27 : Int32} {zs_29 : Int32} {n : Nat} {wd : Nat → Int32} {nu : Nat → Int32} {fr : Nat → Int32} {tt9 : Nat → Int32} {sf : Nat → Int32} {cls : Nat → Int32} {pf : Nat → Int32} {hb : Nat → Int32} {bg : Nat} {bn : Nat} {v : VS} (hC : cOk c) (hB9 : hB c.held cls bg bn) (hM : MR wd nu fr tt9 sf bg bn v) (hva : vAsk v) (hn1 : 1 ≤ n) (hn : n < 10000) : Sp D mX10_chance 30 0 0 [.ref mo, .int (nI n), .int 0] [(mo, .inr (10, M1R ma (mZ c c2 tk vc ln rn zs_10 zs_11 zs_20 zs_21 zs_22 zs_25 zs_26 zs_27 zs_29))), ((ma 4), eI D 6 (nF c.kk)), ((ma 5), eI D 6 (nF c.vv)), ((ma 6), eI D 6 c.hd), ((ma 30), eI D 8 (nF c.crf)), ((ma 35), eI D 12 (nF c.bo)), ((ma 13), eI D 6 cls), ((ma 14), eI D 60 wd), ((ma 15), eI D 60 nu), ((ma 16), eI D 60 fr), ((ma 17), eI D 60 tt9), ((ma 18), eI D 600 sf), ((ma 24), eZ D 100 pf), ((ma 31), eI D 6 hb)] (fun r w => ∃ zs2_10 : Int32, ∃ zs2_11 : Int32, ∃ zs2_20 : Int32, ∃ zs2_21 : Int32, ∃ zs2_22 : Int32, ∃ zs2_25 : Int32, ∃ zs2_26 : Int32, ∃ zs2_27 : Int32, ∃ zs2_29 : Int32, ∃ pf2 : Nat → Int32, ∃ hb2 : Nat → Int32, r = some (.long (fracA ((cntN (ngtA c v) n 1 : Nat) : Int) n)) ∧ w = [(mo, .inr (10, M1R ma (mZ c c2 tk vc ln rn zs2_10 zs2_11 zs2_20 zs2_21 zs2_22 zs2_25 zs2_26 zs2_27 zs2_29))), ((ma 4), eI D 6 (nF c.kk)), ((ma 5), eI D 6 (nF c.vv)), ((ma 6), eI D 6 c.hd), ((ma 30), eI D 8 (nF c.crf)), ((ma 35), eI D 12 (nF c.bo)), ((ma 13), eI D 6 cls), ((ma 14), eI D 60 wd), ((ma 15), eI D 60 nu), ((ma 16), eI D 60 fr), ((ma 17), eI D 60 tt9), ((ma 18), eI D 600 sf), ((ma 24), eZ D 100 pf2), ((ma 31), eI D 6 hb2)]) := by
  refine Sp.of (by decide) (Nat.le_of_ble_eq_true rfl) (fun X O T => ?_)
  refine v_eq (lv' := [(0, .ref mo), (1, .int (nI n)), (2, .int 0)]) rfl rfl rfl rfl ?_
  have z_m := hC.1
  have z_hp := hC.2.2.2.1
  have z_wk := hC.2.2.2.2.1
  have z_rl := hC.2.2.2.2.2.1
  have z_pg := hC.2.2.2.2.2.2.2.1
  refine v_aload_n O dX10_chance_0 0 rfl ?_
  refine v_iload_n O dX10_chance_1 1 rfl ?_
  refine v_iconst (v := 1) O dX10_chance_2 (by decide) ?_
  refine v_sipush (v := 9999) O dX10_chance_3 (by decide) ?_
  refine v_cV (T := TX10) (ci := 10) (As := [.int (nI n), .int 1, .int 9999]) (wr := [(mo, .inr (10, M1R ma (mZ c c2 tk vc ln rn zs_10 zs_11 zs_20 zs_21 zs_22 zs_25 zs_26 zs_27 zs_29))), ((ma 4), eI D 6 (nF c.kk)), ((ma 5), eI D 6 (nF c.vv)), ((ma 6), eI D 6 c.hd), ((ma 30), eI D 8 (nF c.crf)), ((ma 35), eI D 12 (nF c.bo)), ((ma 13), eI D 6 cls), ((ma 14), eI D 60 wd), ((ma 15), eI D 60 nu), ((ma 16), eI D 60 fr), ((ma 17), eI D 60 tt9), ((ma 18), eI D 600 sf), ((ma 24), eZ D 100 pf), ((ma 31), eI D 6 hb)]) (st := []) O cf_X10_179 rfl (sp_X10_in_1_9999 (mo := mo) (x := (nI n)) ) dX10_chance_6 rfl rfl 0 rfl [] [0, 1, 2, 3, 4, 5, 6, 7, 8, 9, 10, 11, 12, 13] (by decide) rfl rfl (by decide) (by decide) (by decide) (Nat.le_of_ble_eq_true rfl) (by decide) (by decide) (fun r_2 w_3 h_1 => ?_)
  obtain ⟨rfl, rfl⟩ := h_1
  refine v_eq (st' := [.int (b2i (1 ≤ (nI n) ∧ (nI n) ≤ 9999))]) (ws' := [(mo, .inr (10, M1R ma (mZ c c2 tk vc ln rn zs_10 zs_11 zs_20 zs_21 zs_22 zs_25 zs_26 zs_27 zs_29))), ((ma 4), eI D 6 (nF c.kk)), ((ma 5), eI D 6 (nF c.vv)), ((ma 6), eI D 6 c.hd), ((ma 30), eI D 8 (nF c.crf)), ((ma 35), eI D 12 (nF c.bo)), ((ma 13), eI D 6 cls), ((ma 14), eI D 60 wd), ((ma 15), eI D 60 nu), ((ma 16), eI D 60 fr), ((ma 17), eI D 60 tt9), ((ma 18), eI D 600 sf), ((ma 24), eZ D 100 pf), ((ma 31), eI D 6 hb)]) rfl rfl rfl rfl ?_
  refine v_if_eq O 22 dX10_chance_9 (by decide) (fun z1 => ?_) (fun z1 => ?_)
  · skip
    have z1 := b2i_0.mp z1
    exact absurd (⟨(c_le (x := 1) (y := nI n) (a := 1) rfl rfl (by omega) (by omega)).mpr (by omega), (c_le (x := nI n) (y := 9999) (b := 9999) rfl rfl (by omega) (by omega)).mpr (by omega)⟩) z1
  · skip
    have z1 := b2i_1.mp z1
    refine v_aload_n O dX10_chance_12 0 rfl ?_
    refine v_iload_n O dX10_chance_13 2 rfl ?_
    refine v_iconst (v := 0) O dX10_chance_14 (by decide) ?_
    refine v_iconst (v := 1) O dX10_chance_15 (by decide) ?_
    refine v_cV (T := TX10) (ci := 10) (As := [.int 0, .int 0, .int 1]) (wr := [(mo, .inr (10, M1R ma (mZ c c2 tk vc ln rn zs_10 zs_11 zs_20 zs_21 zs_22 zs_25 zs_26 zs_27 zs_29))), ((ma 4), eI D 6 (nF c.kk)), ((ma 5), eI D 6 (nF c.vv)), ((ma 6), eI D 6 c.hd), ((ma 30), eI D 8 (nF c.crf)), ((ma 35), eI D 12 (nF c.bo)), ((ma 13), eI D 6 cls), ((ma 14), eI D 60 wd), ((ma 15), eI D 60 nu), ((ma 16), eI D 60 fr), ((ma 17), eI D 60 tt9), ((ma 18), eI D 600 sf), ((ma 24), eZ D 100 pf), ((ma 31), eI D 6 hb)]) (st := []) O cf_X10_179 rfl (sp_X10_in_0 (mo := mo) (x := 0) (h := 1) (zn := 2) (rfl) (by decide)) dX10_chance_16 rfl rfl 0 rfl [] [0, 1, 2, 3, 4, 5, 6, 7, 8, 9, 10, 11, 12, 13] (by decide) rfl rfl (by decide) (by decide) (by decide) (Nat.le_of_ble_eq_true rfl) (by decide) (by decide) (fun r_5 w_6 h_4 => ?_)
    obtain ⟨rfl, rfl⟩ := h_4
    refine v_eq (st' := [.int (b2i (isIx 0 2))]) (ws' := [(mo, .inr (10, M1R ma (mZ c c2 tk vc ln rn zs_10 zs_11 zs_20 zs_21 zs_22 zs_25 zs_26 zs_27 zs_29))), ((ma 4), eI D 6 (nF c.kk)), ((ma 5), eI D 6 (nF c.vv)), ((ma 6), eI D 6 c.hd), ((ma 30), eI D 8 (nF c.crf)), ((ma 35), eI D 12 (nF c.bo)), ((ma 13), eI D 6 cls), ((ma 14), eI D 60 wd), ((ma 15), eI D 60 nu), ((ma 16), eI D 60 fr), ((ma 17), eI D 60 tt9), ((ma 18), eI D 600 sf), ((ma 24), eZ D 100 pf), ((ma 31), eI D 6 hb)]) rfl rfl rfl rfl ?_
    refine v_if_ne O 26 dX10_chance_19 (by decide) (fun z2 => ?_) (fun z2 => ?_)
    · skip
      have z2 := b2i_1.mp z2
      refine v_lconst (v := 0) O dX10_chance_26 rfl ?_
      refine v_lstore_n (lv' := [(0, .ref mo), (1, .int (nI n)), (2, .int 0), (3, .long 0)]) O dX10_chance_27 (by decide) rfl ?_
      refine v_iconst (v := 1) O dX10_chance_28 (by decide) ?_
      refine v_istore (lv' := [(0, .ref mo), (1, .int (nI n)), (2, .int 0), (3, .long 0), (5, .int 1)]) O dX10_chance_29 (by decide) rfl ?_
      refine v_eq (lv' := [(0, .ref mo), (1, .int (nI n)), (2, .int 0), (3, .long (lN 0)), (5, .int (nI 1))]) rfl rfl rfl rfl ?_
      exact l_X10_chance_4 O hC hB9 hM hva hn1 hn T n 1 (by omega) 0 _ _ _ _ _ _ (Nat.zero_add _).symm (by decide)
    · skip
      have z2 := b2i_0.mp z2
      exact absurd ⟨0, by decide, rfl⟩ z2
set_option maxRecDepth 100000 in
set_option maxHeartbeats 4000000 in
theorem l_X10_chance_5 {D : G} {X : CX} {mo : Nat} {ma : Nat → Nat} {c : CS} {c2 : CS} {tk : Int32} {vc : Nat} {ln : Nat} {rn : Nat} {zs_10 : Int32} {zs_11 : Int32} {zs_20 : Int32} {zs_21 : Int32} {zs_22 : Int32} {n : Nat} {wd : Nat → Int32} {nu : Nat → Int32} {fr : Nat → Int32} {tt9 : Nat → Int32} {sf : Nat → Int32} {cls : Nat → Int32} {bg : Nat} {bn : Nat} {v : VS} (O : Ok D X mX10_chance 30 0 0) (hC : cOk c) (hB9 : hB c.held cls bg bn) (hM : MR wd nu fr tt9 sf bg bn v) (hva : vAsk v) (hn1 : 1 ≤ n) (hn : n < 10000) (T : Rt D X (fun r w => ∃ zs2_10 : Int32, ∃ zs2_11 : Int32, ∃ zs2_20 : Int32, ∃ zs2_21 : Int32, ∃ zs2_22 : Int32, ∃ zs2_25 : Int32, ∃ zs2_26 : Int32, ∃ zs2_27 : Int32, ∃ zs2_29 : Int32, ∃ pf2 : Nat → Int32, ∃ hb2 : Nat → Int32, r = some (.long (fracB ((cntN (ngtA c v) n 1 : Nat) : Int) n)) ∧ w = [(mo, .inr (10, M1R ma (mZ c c2 tk vc ln rn zs2_10 zs2_11 zs2_20 zs2_21 zs2_22 zs2_25 zs2_26 zs2_27 zs2_29))), ((ma 4), eI D 6 (nF c.kk)), ((ma 5), eI D 6 (nF c.vv)), ((ma 6), eI D 6 c.hd), ((ma 30), eI D 8 (nF c.crf)), ((ma 35), eI D 12 (nF c.bo)), ((ma 13), eI D 6 cls), ((ma 14), eI D 60 wd), ((ma 15), eI D 60 nu), ((ma 16), eI D 60 fr), ((ma 17), eI D 60 tt9), ((ma 18), eI D 600 sf), ((ma 24), eZ D 100 pf2), ((ma 31), eI D 6 hb2)]) 0 0) : ∀ (t i : Nat), i + t = n + 1 → ∀ x : Nat, ∀ (zs_25 zs_26 zs_27 zs_29 : Int32) (pf hb : Nat → Int32), cntN (ngtA c v) n 1 = x + cntN (ngtA c v) t i → x ≤ i → V D X 0 0 31 [(0, .ref mo), (1, .int (nI n)), (2, .int 1), (3, .long (lN x)), (5, .int (nI i))] [] [(mo, .inr (10, M1R ma (mZ c c2 tk vc ln rn zs_10 zs_11 zs_20 zs_21 zs_22 zs_25 zs_26 zs_27 zs_29))), ((ma 4), eI D 6 (nF c.kk)), ((ma 5), eI D 6 (nF c.vv)), ((ma 6), eI D 6 c.hd), ((ma 30), eI D 8 (nF c.crf)), ((ma 35), eI D 12 (nF c.bo)), ((ma 13), eI D 6 cls), ((ma 14), eI D 60 wd), ((ma 15), eI D 60 nu), ((ma 16), eI D 60 fr), ((ma 17), eI D 60 tt9), ((ma 18), eI D 600 sf), ((ma 24), eZ D 100 pf), ((ma 31), eI D 6 hb)] := by
  intro t
  induction t with
  | zero =>
    intro i hi x zs_25 zs_26 zs_27 zs_29 pf hb hF hxi
    refine v_iload O dX10_chance_31 4 rfl ?_
    refine v_iload_n O dX10_chance_33 1 rfl ?_
    refine v_icmp_gt O 60 dX10_chance_34 (by decide) (fun z1 => ?_) (fun z1 => ?_)
    · skip
      have z1 := (c_lt' (x := nI i) (y := nI n) (a := i) (b := n) rfl rfl (by omega) (by omega)).mp z1
      have hX : x = cntN (ngtA c v) n 1 := by rw [hF]; exact (Nat.add_zero _).symm
      have z_kl : cntN (ngtA c v) n 1 ≤ n := cntN_le
      refine v_aload_n O dX10_chance_60 0 rfl ?_
      refine v_lload_n O dX10_chance_61 3 rfl ?_
      refine v_topx (y := Int64.ofInt ((cntN (ngtA c v) n 1 : Nat) : Int)) (by rw [fI_n, hX]) ?_
      refine v_iload_n O dX10_chance_62 1 rfl ?_
      refine v_i2l O dX10_chance_63 ?_
      refine v_topx (y := lN n) (nI_l (by omega)) ?_
      refine v_cV (T := TX10) (ci := 10) (As := [.long (Int64.ofInt ((cntN (ngtA c v) n 1 : Nat) : Int)), .long (lN n)]) (wr := [(mo, .inr (10, M1R ma (mZ c c2 tk vc ln rn zs_10 zs_11 zs_20 zs_21 zs_22 zs_25 zs_26 zs_27 zs_29))), ((ma 4), eI D 6 (nF c.kk)), ((ma 5), eI D 6 (nF c.vv)), ((ma 6), eI D 6 c.hd), ((ma 30), eI D 8 (nF c.crf)), ((ma 35), eI D 12 (nF c.bo)), ((ma 13), eI D 6 cls), ((ma 14), eI D 60 wd), ((ma 15), eI D 60 nu), ((ma 16), eI D 60 fr), ((ma 17), eI D 60 tt9), ((ma 18), eI D 600 sf), ((ma 24), eZ D 100 pf), ((ma 31), eI D 6 hb)]) (st := []) O cf_X10_301 rfl (sp_X10_divisor (mo := mo) (z := ((cntN (ngtA c v) n 1 : Nat) : Int)) (b := n) (by omega) (by omega) (by omega)) dX10_chance_64 rfl rfl 0 rfl [] [0, 1, 2, 3, 4, 5, 6, 7, 8, 9, 10, 11, 12, 13] (by decide) rfl rfl (by decide) (by decide) (by decide) (Nat.le_of_ble_eq_true rfl) (by decide) (by decide) (fun r_2 w_3 h_1 => ?_)
      obtain ⟨rfl, rfl⟩ := h_1
      refine v_eq (st' := [.long (lN (Nat.gcd ((cntN (ngtA c v) n 1 : Nat) : Int).natAbs n))]) (ws' := [(mo, .inr (10, M1R ma (mZ c c2 tk vc ln rn zs_10 zs_11 zs_20 zs_21 zs_22 zs_25 zs_26 zs_27 zs_29))), ((ma 4), eI D 6 (nF c.kk)), ((ma 5), eI D 6 (nF c.vv)), ((ma 6), eI D 6 c.hd), ((ma 30), eI D 8 (nF c.crf)), ((ma 35), eI D 12 (nF c.bo)), ((ma 13), eI D 6 cls), ((ma 14), eI D 60 wd), ((ma 15), eI D 60 nu), ((ma 16), eI D 60 fr), ((ma 17), eI D 60 tt9), ((ma 18), eI D 600 sf), ((ma 24), eZ D 100 pf), ((ma 31), eI D 6 hb)]) rfl rfl rfl rfl ?_
      have z_gp : 0 < Nat.gcd ((cntN (ngtA c v) n 1 : Nat) : Int).natAbs n := Nat.gcd_pos_of_pos_right _ (by omega)
      have z_gl : Nat.gcd ((cntN (ngtA c v) n 1 : Nat) : Int).natAbs n ≤ n := Nat.gcd_le_right _ (by omega)
      refine v_lstore (lv' := [(0, .ref mo), (1, .int (nI n)), (2, .int 1), (3, .long (lN x)), (5, .long (lN (Nat.gcd ((cntN (ngtA c v) n 1 : Nat) : Int).natAbs n)))]) O dX10_chance_67 (by decide) rfl ?_
      refine v_iload_n O dX10_chance_69 2 rfl ?_
      refine v_if_ne O 80 dX10_chance_70 (by decide) (fun _ => ?_) (fun c => absurd c (by decide))
      refine v_iload_n O dX10_chance_80 1 rfl ?_
      refine v_i2l O dX10_chance_81 ?_
      refine v_topx (y := lN n) (nI_l (by omega)) ?_
      refine v_lload O dX10_chance_82 4 rfl ?_
      refine v_ldiv O dX10_chance_84 (fun z9 => absurd ((fb_lN_inj (b := 0) (by omega) (by decide)).mp z9) (by omega)) ?_
      exact v_lreturn O T rfl (by decide) (by decide) dX10_chance_85 (⟨zs_10, zs_11, zs_20, zs_21, zs_22, zs_25, zs_26, zs_27, zs_29, _, _, rfl, rfl⟩)
    · skip
      have z1 := (not_congr (c_lt' (x := nI i) (y := nI n) (a := i) (b := n) rfl rfl (by omega) (by omega))).mp z1
      exact absurd z1 (by omega)
  | succ t ih =>
    intro i hi x zs_25 zs_26 zs_27 zs_29 pf hb hF hxi
    refine v_iload O dX10_chance_31 4 rfl ?_
    refine v_iload_n O dX10_chance_33 1 rfl ?_
    refine v_icmp_gt O 60 dX10_chance_34 (by decide) (fun z1 => ?_) (fun z1 => ?_)
    · skip
      have z1 := (c_lt' (x := nI i) (y := nI n) (a := i) (b := n) rfl rfl (by omega) (by omega)).mp z1
      exact absurd z1 (by omega)
    · skip
      have z1 := (not_congr (c_lt' (x := nI i) (y := nI n) (a := i) (b := n) rfl rfl (by omega) (by omega))).mp z1
      refine v_lload_n O dX10_chance_37 3 rfl ?_
      refine v_aload_n O dX10_chance_38 0 rfl ?_
      refine v_iload O dX10_chance_39 4 rfl ?_
      refine v_cV (T := TX10) (ci := 10) (As := [.int (nI i)]) (wr := []) (st := [.long (lN x)]) O cf_X10_290 rfl (sp_X10_isNight (mo := mo) (ma := ma) (c := c) (c2 := c2) (tk := tk) (vc := vc) (ln := ln) (rn := rn) (zs_10 := zs_10) (zs_11 := zs_11) (zs_20 := zs_20) (zs_21 := zs_21) (zs_22 := zs_22) (zs_25 := zs_25) (zs_26 := zs_26) (zs_27 := zs_27) (zs_29 := zs_29) (wd := wd) (nu := nu) (fr := fr) (tt9 := tt9) (sf := sf) (cls := cls) (pf := pf) (hb := hb) (bg := bg) (bn := bn) (v := v) (h := i) (hB9) (hM) (hC) (hva) (by omega)) dX10_chance_41 rfl rfl 0 rfl [0, 1, 2, 3, 4, 5, 6, 7, 8, 9, 10, 11, 12, 13] [] (by decide) rfl rfl (by decide) (by decide) (by decide) (Nat.le_of_ble_eq_true rfl) (by decide) (by decide) (fun r_2 w_3 h_1 => ?_)
      obtain ⟨zs2_25_4, zs2_26_5, zs2_27_6, zs2_29_7, pf2_8, hb2_9, rfl, rfl⟩ := h_1
      refine v_eq (st' := [.int (b2i (ngtA c v i)), .long (lN x)]) (ws' := [(mo, .inr (10, M1R ma (mZ c c2 tk vc ln rn zs_10 zs_11 zs_20 zs_21 zs_22 zs2_25_4 zs2_26_5 zs2_27_6 zs2_29_7))), ((ma 4), eI D 6 (nF c.kk)), ((ma 5), eI D 6 (nF c.vv)), ((ma 6), eI D 6 c.hd), ((ma 30), eI D 8 (nF c.crf)), ((ma 35), eI D 12 (nF c.bo)), ((ma 13), eI D 6 cls), ((ma 14), eI D 60 wd), ((ma 15), eI D 60 nu), ((ma 16), eI D 60 fr), ((ma 17), eI D 60 tt9), ((ma 18), eI D 600 sf), ((ma 24), eZ D 100 pf2_8), ((ma 31), eI D 6 hb2_9)]) rfl rfl rfl rfl ?_
      refine v_if_eq O 51 dX10_chance_44 (by decide) (fun z2 => ?_) (fun z2 => ?_)
      · skip
        have z2 := b2i_0.mp z2
        refine v_lconst (v := 0) O dX10_chance_51 rfl ?_
        refine v_ladd O dX10_chance_52 ?_
        refine v_topx (y := lN (x + 0)) (lN_add _ _) ?_
        refine v_lstore_n (lv' := [(0, .ref mo), (1, .int (nI n)), (2, .int 1), (3, .long (lN (x + 0))), (5, .int (nI i))]) O dX10_chance_53 (by decide) rfl ?_
        refine v_iinc (v := nI (i + 1)) (lv' := [(0, .ref mo), (1, .int (nI n)), (2, .int 1), (3, .long (lN (x + 0))), (5, .int (nI (i + 1)))]) O dX10_chance_54 4 rfl (nI_1 i) (by decide) rfl ?_
        refine v_goto O 31 dX10_chance_57 (by decide) ?_
        exact ih (i + 1) (by omega) _ _ _ _ _ _ _ (by rw [hF, cntN_d, iteP_f z2]; omega) (by omega)
      · skip
        have z2 := b2i_1.mp z2
        refine v_lconst (v := 1) O dX10_chance_47 rfl ?_
        refine v_goto O 52 dX10_chance_48 (by decide) ?_
        refine v_ladd O dX10_chance_52 ?_
        refine v_topx (y := lN (x + 1)) (lN_add _ _) ?_
        refine v_lstore_n (lv' := [(0, .ref mo), (1, .int (nI n)), (2, .int 1), (3, .long (lN (x + 1))), (5, .int (nI i))]) O dX10_chance_53 (by decide) rfl ?_
        refine v_iinc (v := nI (i + 1)) (lv' := [(0, .ref mo), (1, .int (nI n)), (2, .int 1), (3, .long (lN (x + 1))), (5, .int (nI (i + 1)))]) O dX10_chance_54 4 rfl (nI_1 i) (by decide) rfl ?_
        refine v_goto O 31 dX10_chance_57 (by decide) ?_
        exact ih (i + 1) (by omega) _ _ _ _ _ _ _ (by rw [hF, cntN_d, iteP_t z2]; omega) (by omega)
set_option maxRecDepth 100000 in
set_option maxHeartbeats 4000000 in
theorem sp_X10_chance_5 {D : G} {mo : Nat} {ma : Nat → Nat} {c : CS} {c2 : CS} {tk : Int32} {vc : Nat} {ln : Nat} {rn : Nat} {zs_10 : Int32} {zs_11 : Int32} {zs_20 : Int32} {zs_21 : Int32} {zs_22 : Int32} {zs_25 : Int32} {zs_26 : Int32} {zs_27 : Int32} {zs_29 : Int32} {n : Nat} {wd : Nat → Int32} {nu : Nat → Int32} {fr : Nat → Int32} {tt9 : Nat → Int32} {sf : Nat → Int32} {cls : Nat → Int32} {pf : Nat → Int32} {hb : Nat → Int32} {bg : Nat} {bn : Nat} {v : VS} (hC : cOk c) (hB9 : hB c.held cls bg bn) (hM : MR wd nu fr tt9 sf bg bn v) (hva : vAsk v) (hn1 : 1 ≤ n) (hn : n < 10000) : Sp D mX10_chance 30 0 0 [.ref mo, .int (nI n), .int 1] [(mo, .inr (10, M1R ma (mZ c c2 tk vc ln rn zs_10 zs_11 zs_20 zs_21 zs_22 zs_25 zs_26 zs_27 zs_29))), ((ma 4), eI D 6 (nF c.kk)), ((ma 5), eI D 6 (nF c.vv)), ((ma 6), eI D 6 c.hd), ((ma 30), eI D 8 (nF c.crf)), ((ma 35), eI D 12 (nF c.bo)), ((ma 13), eI D 6 cls), ((ma 14), eI D 60 wd), ((ma 15), eI D 60 nu), ((ma 16), eI D 60 fr), ((ma 17), eI D 60 tt9), ((ma 18), eI D 600 sf), ((ma 24), eZ D 100 pf), ((ma 31), eI D 6 hb)] (fun r w => ∃ zs2_10 : Int32, ∃ zs2_11 : Int32, ∃ zs2_20 : Int32, ∃ zs2_21 : Int32, ∃ zs2_22 : Int32, ∃ zs2_25 : Int32, ∃ zs2_26 : Int32, ∃ zs2_27 : Int32, ∃ zs2_29 : Int32, ∃ pf2 : Nat → Int32, ∃ hb2 : Nat → Int32, r = some (.long (fracB ((cntN (ngtA c v) n 1 : Nat) : Int) n)) ∧ w = [(mo, .inr (10, M1R ma (mZ c c2 tk vc ln rn zs2_10 zs2_11 zs2_20 zs2_21 zs2_22 zs2_25 zs2_26 zs2_27 zs2_29))), ((ma 4), eI D 6 (nF c.kk)), ((ma 5), eI D 6 (nF c.vv)), ((ma 6), eI D 6 c.hd), ((ma 30), eI D 8 (nF c.crf)), ((ma 35), eI D 12 (nF c.bo)), ((ma 13), eI D 6 cls), ((ma 14), eI D 60 wd), ((ma 15), eI D 60 nu), ((ma 16), eI D 60 fr), ((ma 17), eI D 60 tt9), ((ma 18), eI D 600 sf), ((ma 24), eZ D 100 pf2), ((ma 31), eI D 6 hb2)]) := by
  refine Sp.of (by decide) (Nat.le_of_ble_eq_true rfl) (fun X O T => ?_)
  refine v_eq (lv' := [(0, .ref mo), (1, .int (nI n)), (2, .int 1)]) rfl rfl rfl rfl ?_
  have z_m := hC.1
  have z_hp := hC.2.2.2.1
  have z_wk := hC.2.2.2.2.1
  have z_rl := hC.2.2.2.2.2.1
  have z_pg := hC.2.2.2.2.2.2.2.1
  refine v_aload_n O dX10_chance_0 0 rfl ?_
  refine v_iload_n O dX10_chance_1 1 rfl ?_
  refine v_iconst (v := 1) O dX10_chance_2 (by decide) ?_
  refine v_sipush (v := 9999) O dX10_chance_3 (by decide) ?_
  refine v_cV (T := TX10) (ci := 10) (As := [.int (nI n), .int 1, .int 9999]) (wr := [(mo, .inr (10, M1R ma (mZ c c2 tk vc ln rn zs_10 zs_11 zs_20 zs_21 zs_22 zs_25 zs_26 zs_27 zs_29))), ((ma 4), eI D 6 (nF c.kk)), ((ma 5), eI D 6 (nF c.vv)), ((ma 6), eI D 6 c.hd), ((ma 30), eI D 8 (nF c.crf)), ((ma 35), eI D 12 (nF c.bo)), ((ma 13), eI D 6 cls), ((ma 14), eI D 60 wd), ((ma 15), eI D 60 nu), ((ma 16), eI D 60 fr), ((ma 17), eI D 60 tt9), ((ma 18), eI D 600 sf), ((ma 24), eZ D 100 pf), ((ma 31), eI D 6 hb)]) (st := []) O cf_X10_179 rfl (sp_X10_in_1_9999 (mo := mo) (x := (nI n)) ) dX10_chance_6 rfl rfl 0 rfl [] [0, 1, 2, 3, 4, 5, 6, 7, 8, 9, 10, 11, 12, 13] (by decide) rfl rfl (by decide) (by decide) (by decide) (Nat.le_of_ble_eq_true rfl) (by decide) (by decide) (fun r_2 w_3 h_1 => ?_)
  obtain ⟨rfl, rfl⟩ := h_1
  refine v_eq (st' := [.int (b2i (1 ≤ (nI n) ∧ (nI n) ≤ 9999))]) (ws' := [(mo, .inr (10, M1R ma (mZ c c2 tk vc ln rn zs_10 zs_11 zs_20 zs_21 zs_22 zs_25 zs_26 zs_27 zs_29))), ((ma 4), eI D 6 (nF c.kk)), ((ma 5), eI D 6 (nF c.vv)), ((ma 6), eI D 6 c.hd), ((ma 30), eI D 8 (nF c.crf)), ((ma 35), eI D 12 (nF c.bo)), ((ma 13), eI D 6 cls), ((ma 14), eI D 60 wd), ((ma 15), eI D 60 nu), ((ma 16), eI D 60 fr), ((ma 17), eI D 60 tt9), ((ma 18), eI D 600 sf), ((ma 24), eZ D 100 pf), ((ma 31), eI D 6 hb)]) rfl rfl rfl rfl ?_
  refine v_if_eq O 22 dX10_chance_9 (by decide) (fun z1 => ?_) (fun z1 => ?_)
  · skip
    have z1 := b2i_0.mp z1
    exact absurd (⟨(c_le (x := 1) (y := nI n) (a := 1) rfl rfl (by omega) (by omega)).mpr (by omega), (c_le (x := nI n) (y := 9999) (b := 9999) rfl rfl (by omega) (by omega)).mpr (by omega)⟩) z1
  · skip
    have z1 := b2i_1.mp z1
    refine v_aload_n O dX10_chance_12 0 rfl ?_
    refine v_iload_n O dX10_chance_13 2 rfl ?_
    refine v_iconst (v := 0) O dX10_chance_14 (by decide) ?_
    refine v_iconst (v := 1) O dX10_chance_15 (by decide) ?_
    refine v_cV (T := TX10) (ci := 10) (As := [.int 1, .int 0, .int 1]) (wr := [(mo, .inr (10, M1R ma (mZ c c2 tk vc ln rn zs_10 zs_11 zs_20 zs_21 zs_22 zs_25 zs_26 zs_27 zs_29))), ((ma 4), eI D 6 (nF c.kk)), ((ma 5), eI D 6 (nF c.vv)), ((ma 6), eI D 6 c.hd), ((ma 30), eI D 8 (nF c.crf)), ((ma 35), eI D 12 (nF c.bo)), ((ma 13), eI D 6 cls), ((ma 14), eI D 60 wd), ((ma 15), eI D 60 nu), ((ma 16), eI D 60 fr), ((ma 17), eI D 60 tt9), ((ma 18), eI D 600 sf), ((ma 24), eZ D 100 pf), ((ma 31), eI D 6 hb)]) (st := []) O cf_X10_179 rfl (sp_X10_in_0 (mo := mo) (x := 1) (h := 1) (zn := 2) (rfl) (by decide)) dX10_chance_16 rfl rfl 0 rfl [] [0, 1, 2, 3, 4, 5, 6, 7, 8, 9, 10, 11, 12, 13] (by decide) rfl rfl (by decide) (by decide) (by decide) (Nat.le_of_ble_eq_true rfl) (by decide) (by decide) (fun r_5 w_6 h_4 => ?_)
    obtain ⟨rfl, rfl⟩ := h_4
    refine v_eq (st' := [.int (b2i (isIx 1 2))]) (ws' := [(mo, .inr (10, M1R ma (mZ c c2 tk vc ln rn zs_10 zs_11 zs_20 zs_21 zs_22 zs_25 zs_26 zs_27 zs_29))), ((ma 4), eI D 6 (nF c.kk)), ((ma 5), eI D 6 (nF c.vv)), ((ma 6), eI D 6 c.hd), ((ma 30), eI D 8 (nF c.crf)), ((ma 35), eI D 12 (nF c.bo)), ((ma 13), eI D 6 cls), ((ma 14), eI D 60 wd), ((ma 15), eI D 60 nu), ((ma 16), eI D 60 fr), ((ma 17), eI D 60 tt9), ((ma 18), eI D 600 sf), ((ma 24), eZ D 100 pf), ((ma 31), eI D 6 hb)]) rfl rfl rfl rfl ?_
    refine v_if_ne O 26 dX10_chance_19 (by decide) (fun z2 => ?_) (fun z2 => ?_)
    · skip
      have z2 := b2i_1.mp z2
      refine v_lconst (v := 0) O dX10_chance_26 rfl ?_
      refine v_lstore_n (lv' := [(0, .ref mo), (1, .int (nI n)), (2, .int 1), (3, .long 0)]) O dX10_chance_27 (by decide) rfl ?_
      refine v_iconst (v := 1) O dX10_chance_28 (by decide) ?_
      refine v_istore (lv' := [(0, .ref mo), (1, .int (nI n)), (2, .int 1), (3, .long 0), (5, .int 1)]) O dX10_chance_29 (by decide) rfl ?_
      refine v_eq (lv' := [(0, .ref mo), (1, .int (nI n)), (2, .int 1), (3, .long (lN 0)), (5, .int (nI 1))]) rfl rfl rfl rfl ?_
      exact l_X10_chance_5 O hC hB9 hM hva hn1 hn T n 1 (by omega) 0 _ _ _ _ _ _ (Nat.zero_add _).symm (by decide)
    · skip
      have z2 := b2i_0.mp z2
      exact absurd ⟨1, by decide, rfl⟩ z2
