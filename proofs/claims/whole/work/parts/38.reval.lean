-- the reference asks its village
def bI (b : Bool) : Int32 := if b = true then 1 else 0
theorem bI_0 {b : Bool} (h : bI b = 0) : b = false := by
  cases b
  · rfl
  · exact absurd h (by decide)
theorem bI_1 {b : Bool} (h : ¬ bI b = 0) : b = true := by
  cases b
  · exact absurd (by decide) h
  · rfl
theorem bI_b {b : Bool} : bI b = b2i (b = true) := by
  cases b
  · rw [b2i_f (by decide)]; rfl
  · rw [b2i_t rfl]; rfl
theorem cv_t {p : Prop} (h : p) : vp_nar .boolean 1 = bI (bitP p) := by rw [bitP_t.mpr h]; rfl
theorem cv_f {p : Prop} (h : ¬ p) : vp_nar .boolean 0 = bI (bitP p) := by rw [show bitP p = false from Bool.eq_false_iff.mpr (fun q => h (bitP_t.mp q))]; rfl
def pst (pf : Nat → Int32) : List Bool → Prop
  | [] => True
  | b :: s => pf s.length = bI b ∧ pst pf s
theorem pst_le {pf : Nat → Int32} {k : Nat} {x : Int32} : ∀ {s : List Bool}, s.length ≤ k → pst pf s → pst (upd pf k x) s
  | [], _, h => h
  | b :: s, hl, h => by
    rw [List.length_cons] at hl
    exact ⟨by rw [pk_un (by omega)]; exact h.1, pst_le (by omega) h.2⟩
theorem pst_up {pf : Nat → Int32} {x : Int32} {b : Bool} {s : List Bool} (h : pst pf s) (e : x = bI b) : pst (upd pf s.length x) (b :: s) := ⟨by rw [pk_us]; exact e, pst_le (Nat.le_refl _) h⟩
theorem strF_c {sf : Nat → Int32} {a k : Nat} : strF sf a (k + 1) = sf a :: strF sf (a + 1) k := by
  unfold strF
  rw [List.range_succ_eq_map, List.map_cons, List.map_map]
  refine congrArg _ (List.map_congr_left (fun j _ => ?_))
  show sf (a + (j + 1)) = sf (a + 1 + j)
  rw [show a + (j + 1) = a + 1 + j by omega]
theorem rn_not {ff : Nat → Int32} {s : List Bool} {x : List Bool} {g : List Bool → Option (List Bool)} (h : (runS ff (-33) s).bind g = some x) : ∃ b s', s = b :: s' ∧ g ((!b) :: s') = some x := by
  cases s with
  | nil => exact absurd h (by unfold runS; rw [if_pos rfl]; intro q; cases q)
  | cons b s => exact ⟨b, s, rfl, by unfold runS at h; rw [if_pos rfl] at h; exact h⟩
theorem rn_op {ff : Nat → Int32} {t : Int32} {s : List Bool} {x : List Bool} {g : List Bool → Option (List Bool)} (h : (runS ff t s).bind g = some x) (h1 : ¬ t = -33) (h2 : t < 0) : ∃ b a s', s = b :: a :: s' ∧ g ((if t = -38 then (a && b) else (a || b)) :: s') = some x := by
  unfold runS at h
  rw [if_neg h1, if_pos h2] at h
  cases s with
  | nil => cases h
  | cons b s =>
    cases s with
    | nil => cases h
    | cons a s => exact ⟨b, a, s, rfl, h⟩
theorem rn_tst {ff : Nat → Int32} {t : Int32} {k : Nat} {s : List Bool} {x : List Bool} {g : List Bool → Option (List Bool)} (h : (runS ff t s).bind g = some x) (h1 : ¬ t = -33) (h2 : ¬ t < 0) (e : t = nI k) (hk : k < 2147483648) : g (bitP (cmpF (ff (k / 1000)) (k / 100 % 10) (k % 100)) :: s) = some x := by
  unfold runS at h
  rw [if_neg h1, if_neg h2, ix_cl e hk] at h
  exact h
def ffR (i k v w h : Nat) : Nat → Int32 := fun j => nI ([i, k, v, w % 60].getD j (h % 10))
theorem hStep_ff {q : Int64} {t : Int32} {ff f2 : Nat → Int32} (h : ∀ j, j < 5 → ff j = f2 j) : hStep q t ff = hStep q t f2 := by
  have e : ∀ s, isSoP s ff = isSoP s f2 := fun s => by
    unfold isSoP
    by_cases z : s / 100 / 3 < 5
    · rw [h _ z]
    · exact propext ⟨fun q => absurd q.1 z, fun q => absurd q.1 z⟩
  unfold hStep
  rw [e]
theorem hF_ff {fs ff f2 : Nat → Int32} {a : Nat} (h : ∀ j, j < 5 → ff j = f2 j) : ∀ n, hF fs ff a n = hF fs f2 a n
  | 0 => rfl
  | n + 1 => by
    show hStep (hF fs ff a n) _ ff = hStep (hF fs f2 a n) _ f2
    rw [hF_ff h n, hStep_ff h]
theorem sumN_ff {fo fs ff f2 : Nat → Int32} {am E : Nat → Nat} {ob : Int32} (h : ∀ j, j < 5 → ff j = f2 j) : ∀ r, sumN fo fs ff am E ob r = sumN fo fs f2 am E ob r
  | 0 => rfl
  | r + 1 => by
    show iteP _ (sumN fo fs ff am E ob r + _) (sumN fo fs ff am E ob r) = iteP _ (sumN fo fs f2 am E ob r + _) (sumN fo fs f2 am E ob r)
    rw [sumN_ff h r]
    unfold hP
    rw [hF_ff h]
theorem ffR_f {i k v w h : Nat} : ∀ j, j < 5 → ffR i k v w h j = factsF i k v w (h % 10) j := fun j hj => by
  rcases (show j = 0 ∨ j = 1 ∨ j = 2 ∨ j = 3 ∨ j = 4 by omega) with rfl | rfl | rfl | rfl | rfl <;> rfl
def hB (held : Int32) (cls : Nat → Int32) (bg bn : Nat) : Prop := (held = -1 ∧ bg = 0 ∧ bn = 0) ∨ ∃ f : Nat, f < 6 ∧ held = nI f ∧ bg = 10 * f ∧ cls f = nI bn
set_option maxRecDepth 100000 in
set_option maxHeartbeats 4000000 in
theorem sp_X10_begin {D : G} {mo : Nat} {ma : Nat → Nat} {c : CS} {c2 : CS} {tk : Int32} {vc : Nat} {ln : Nat} {rn : Nat} {zs_10 : Int32} {zs_11 : Int32} {zs_20 : Int32} {zs_21 : Int32} {zs_22 : Int32} {zs_25 : Int32} {zs_26 : Int32} {zs_27 : Int32} {zs_29 : Int32} {wd : Nat → Int32} {nu : Nat → Int32} {fr : Nat → Int32} {tt9 : Nat → Int32} {sf : Nat → Int32} {cls : Nat → Int32} {pf : Nat → Int32} {bg : Nat} {bn : Nat} (hB9 : hB c.held cls bg bn) : Sp D mX10_begin 0 0 0 [.ref mo] [(mo, .inr (10, M1R ma (mZ c c2 tk vc ln rn zs_10 zs_11 zs_20 zs_21 zs_22 zs_25 zs_26 zs_27 zs_29))), ((ma 4), eI D 6 (nF c.kk)), ((ma 5), eI D 6 (nF c.vv)), ((ma 13), eI D 6 cls), ((ma 14), eI D 60 wd), ((ma 15), eI D 60 nu), ((ma 16), eI D 60 fr), ((ma 17), eI D 60 tt9), ((ma 18), eI D 600 sf), ((ma 24), eZ D 100 pf)] (fun r w => r = some (.int (nI bg)) ∧ w = [(mo, .inr (10, M1R ma (mZ c c2 tk vc ln rn zs_10 zs_11 zs_20 zs_21 zs_22 zs_25 zs_26 zs_27 zs_29))), ((ma 4), eI D 6 (nF c.kk)), ((ma 5), eI D 6 (nF c.vv)), ((ma 13), eI D 6 cls), ((ma 14), eI D 60 wd), ((ma 15), eI D 60 nu), ((ma 16), eI D 60 fr), ((ma 17), eI D 60 tt9), ((ma 18), eI D 600 sf), ((ma 24), eZ D 100 pf)]) := by
  refine Sp.of (by decide) (Nat.le_of_ble_eq_true rfl) (fun X O T => ?_)
  refine v_eq (lv' := [(0, .ref mo)]) rfl rfl rfl rfl ?_
  rcases hB9 with ⟨z_h, z_b, z_n⟩ | ⟨zf, z_l, z_h, z_b, z_n⟩
  · skip
    refine v_aload_n O dX10_begin_0 0 rfl ?_
    refine gf_X10_35 (v := .int c.held) O rfl dX10_begin_1 0 rfl rfl ?_
    refine v_if_ge O 11 dX10_begin_4 (by decide) (fun z1 => ?_) (fun z1 => ?_)
    · skip
      exact absurd (by rw [z_h]; decide) (Int32.not_lt.mpr z1)
    · skip
      refine v_iconst (v := 0) O dX10_begin_7 (by decide) ?_
      refine v_goto O 18 dX10_begin_8 (by decide) ?_
      exact v_ireturn O T rfl rfl (by decide) (by decide) dX10_begin_18 (⟨by rw [z_b]; rfl, rfl⟩)
  · skip
    refine v_aload_n O dX10_begin_0 0 rfl ?_
    refine gf_X10_35 (v := .int c.held) O rfl dX10_begin_1 0 rfl rfl ?_
    refine v_top (y := nI zf) (z_h) ?_
    refine v_if_ge O 11 dX10_begin_4 (by decide) (fun z1 => ?_) (fun z1 => ?_)
    · skip
      refine v_bipush (v := 10) O dX10_begin_11 (by decide) ?_
      refine v_aload_n O dX10_begin_13 0 rfl ?_
      refine gf_X10_35 (v := .int c.held) O rfl dX10_begin_14 0 rfl rfl ?_
      refine v_top (y := nI zf) (z_h) ?_
      refine v_imul O dX10_begin_17 ?_
      refine v_top (y := nI (10 * zf)) (pk_mul 10 zf) ?_
      exact v_ireturn O T rfl rfl (by decide) (by decide) dX10_begin_18 (⟨by rw [z_b], rfl⟩)
    · skip
      exact absurd (Int32.not_lt.mp (nI_pos (by omega))) z1
set_option maxRecDepth 100000 in
set_option maxHeartbeats 4000000 in
theorem sp_X10_behind {D : G} {mo : Nat} {ma : Nat → Nat} {c : CS} {c2 : CS} {tk : Int32} {vc : Nat} {ln : Nat} {rn : Nat} {zs_10 : Int32} {zs_11 : Int32} {zs_20 : Int32} {zs_21 : Int32} {zs_22 : Int32} {zs_25 : Int32} {zs_26 : Int32} {zs_27 : Int32} {zs_29 : Int32} {wd : Nat → Int32} {nu : Nat → Int32} {fr : Nat → Int32} {tt9 : Nat → Int32} {sf : Nat → Int32} {cls : Nat → Int32} {pf : Nat → Int32} {bg : Nat} {bn : Nat} (hB9 : hB c.held cls bg bn) : Sp D mX10_behind 0 0 0 [.ref mo] [(mo, .inr (10, M1R ma (mZ c c2 tk vc ln rn zs_10 zs_11 zs_20 zs_21 zs_22 zs_25 zs_26 zs_27 zs_29))), ((ma 4), eI D 6 (nF c.kk)), ((ma 5), eI D 6 (nF c.vv)), ((ma 13), eI D 6 cls), ((ma 14), eI D 60 wd), ((ma 15), eI D 60 nu), ((ma 16), eI D 60 fr), ((ma 17), eI D 60 tt9), ((ma 18), eI D 600 sf), ((ma 24), eZ D 100 pf)] (fun r w => r = some (.int (nI (bg + bn))) ∧ w = [(mo, .inr (10, M1R ma (mZ c c2 tk vc ln rn zs_10 zs_11 zs_20 zs_21 zs_22 zs_25 zs_26 zs_27 zs_29))), ((ma 4), eI D 6 (nF c.kk)), ((ma 5), eI D 6 (nF c.vv)), ((ma 13), eI D 6 cls), ((ma 14), eI D 60 wd), ((ma 15), eI D 60 nu), ((ma 16), eI D 60 fr), ((ma 17), eI D 60 tt9), ((ma 18), eI D 600 sf), ((ma 24), eZ D 100 pf)]) := by
  refine Sp.of (by decide) (Nat.le_of_ble_eq_true rfl) (fun X O T => ?_)
  refine v_eq (lv' := [(0, .ref mo)]) rfl rfl rfl rfl ?_
  rcases hB9 with ⟨z_h, z_b, z_n⟩ | ⟨zf, z_l, z_h, z_b, z_n⟩
  · skip
    refine v_aload_n O dX10_behind_0 0 rfl ?_
    refine gf_X10_35 (v := .int c.held) O rfl dX10_behind_1 0 rfl rfl ?_
    refine v_if_ge O 11 dX10_behind_4 (by decide) (fun z1 => ?_) (fun z1 => ?_)
    · skip
      exact absurd (by rw [z_h]; decide) (Int32.not_lt.mpr z1)
    · skip
      refine v_iconst (v := 0) O dX10_behind_7 (by decide) ?_
      refine v_goto O 28 dX10_behind_8 (by decide) ?_
      exact v_ireturn O T rfl rfl (by decide) (by decide) dX10_behind_28 (⟨by rw [z_b, z_n]; rfl, rfl⟩)
  · skip
    refine v_aload_n O dX10_behind_0 0 rfl ?_
    refine gf_X10_35 (v := .int c.held) O rfl dX10_behind_1 0 rfl rfl ?_
    refine v_top (y := nI zf) (z_h) ?_
    refine v_if_ge O 11 dX10_behind_4 (by decide) (fun z1 => ?_) (fun z1 => ?_)
    · skip
      refine v_bipush (v := 10) O dX10_behind_11 (by decide) ?_
      refine v_aload_n O dX10_behind_13 0 rfl ?_
      refine gf_X10_35 (v := .int c.held) O rfl dX10_behind_14 0 rfl rfl ?_
      refine v_top (y := nI zf) (z_h) ?_
      refine v_imul O dX10_behind_17 ?_
      refine v_top (y := nI (10 * zf)) (pk_mul 10 zf) ?_
      refine v_aload_n O dX10_behind_18 0 rfl ?_
      refine gf_X10_50 (v := .ref (ma 13)) O rfl dX10_behind_19 0 rfl rfl ?_
      refine v_aload_n O dX10_behind_22 0 rfl ?_
      refine gf_X10_35 (v := .int c.held) O rfl dX10_behind_23 0 rfl rfl ?_
      refine v_top (y := nI zf) (z_h) ?_
      refine v_ialdk O dX10_behind_26 3 rfl zf rfl (by omega) (by decide) ?_
      refine v_top (y := nI bn) (z_n) ?_
      refine v_iadd O dX10_behind_27 ?_
      refine v_top (y := nI ((10 * zf) + bn)) (nI_add (10 * zf) bn) ?_
      exact v_ireturn O T rfl rfl (by decide) (by decide) dX10_behind_28 (⟨by rw [z_b], rfl⟩)
    · skip
      exact absurd (Int32.not_lt.mp (nI_pos (by omega))) z1
set_option maxRecDepth 100000 in
set_option maxHeartbeats 4000000 in
theorem l_X10_lastOf {D : G} {X : CX} {mo : Nat} {ma : Nat → Nat} {c : CS} {c2 : CS} {tk : Int32} {vc : Nat} {ln : Nat} {rn : Nat} {zs_10 : Int32} {zs_11 : Int32} {zs_20 : Int32} {zs_21 : Int32} {zs_22 : Int32} {zs_25 : Int32} {zs_26 : Int32} {zs_27 : Int32} {zs_29 : Int32} {wd : Nat → Int32} {nu : Nat → Int32} {fr : Nat → Int32} {tt9 : Nat → Int32} {sf : Nat → Int32} {cls : Nat → Int32} {pf : Nat → Int32} {bg : Nat} {bn : Nat} {v : VS} {x : Int32} {y : Int32} (O : Ok D X mX10_lastOf 1 0 0) (hB9 : hB c.held cls bg bn) (hM : MR wd nu fr tt9 sf bg bn v) (T : Rt D X (fun r w => r = some (.int (lastF wd nu x bg y bn)) ∧ w = [(mo, .inr (10, M1R ma (mZ c c2 tk vc ln rn zs_10 zs_11 zs_20 zs_21 zs_22 zs_25 zs_26 zs_27 zs_29))), ((ma 4), eI D 6 (nF c.kk)), ((ma 5), eI D 6 (nF c.vv)), ((ma 13), eI D 6 cls), ((ma 14), eI D 60 wd), ((ma 15), eI D 60 nu), ((ma 16), eI D 60 fr), ((ma 17), eI D 60 tt9), ((ma 18), eI D 600 sf), ((ma 24), eZ D 100 pf)]) 0 0) : ∀ (t j : Nat), j + t = bn → V D X 0 0 8 [(0, .ref mo), (1, .int x), (2, .int y), (3, .int (lastF wd nu x bg y j)), (4, .int (nI (bg + j)))] [] [(mo, .inr (10, M1R ma (mZ c c2 tk vc ln rn zs_10 zs_11 zs_20 zs_21 zs_22 zs_25 zs_26 zs_27 zs_29))), ((ma 4), eI D 6 (nF c.kk)), ((ma 5), eI D 6 (nF c.vv)), ((ma 13), eI D 6 cls), ((ma 14), eI D 60 wd), ((ma 15), eI D 60 nu), ((ma 16), eI D 60 fr), ((ma 17), eI D 60 tt9), ((ma 18), eI D 600 sf), ((ma 24), eZ D 100 pf)] := by
  intro t
  induction t with
  | zero =>
    intro j hj
    have m2 := hM.2.1
    refine v_iload O dX10_lastOf_8 4 rfl ?_
    refine v_aload_n O dX10_lastOf_10 0 rfl ?_
    refine v_cV (T := TX10) (ci := 10) (As := []) (wr := []) (st := [.int (nI (bg + j))]) O cf_X10_241 rfl (sp_X10_behind (mo := mo) (ma := ma) (c := c) (c2 := c2) (tk := tk) (vc := vc) (ln := ln) (rn := rn) (zs_10 := zs_10) (zs_11 := zs_11) (zs_20 := zs_20) (zs_21 := zs_21) (zs_22 := zs_22) (zs_25 := zs_25) (zs_26 := zs_26) (zs_27 := zs_27) (zs_29 := zs_29) (wd := wd) (nu := nu) (fr := fr) (tt9 := tt9) (sf := sf) (cls := cls) (pf := pf) (bg := bg) (bn := bn) (hB9)) dX10_lastOf_11 rfl rfl 0 rfl [0, 1, 2, 3, 4, 5, 6, 7, 8, 9] [] (by decide) rfl rfl (by decide) (by decide) (by decide) (Nat.le_of_ble_eq_true rfl) (by decide) (by decide) (fun r_2 w_3 h_1 => ?_)
    obtain ⟨rfl, rfl⟩ := h_1
    refine v_eq (st' := [.int (nI (bg + bn)), .int (nI (bg + j))]) (ws' := [(mo, .inr (10, M1R ma (mZ c c2 tk vc ln rn zs_10 zs_11 zs_20 zs_21 zs_22 zs_25 zs_26 zs_27 zs_29))), ((ma 4), eI D 6 (nF c.kk)), ((ma 5), eI D 6 (nF c.vv)), ((ma 13), eI D 6 cls), ((ma 14), eI D 60 wd), ((ma 15), eI D 60 nu), ((ma 16), eI D 60 fr), ((ma 17), eI D 60 tt9), ((ma 18), eI D 600 sf), ((ma 24), eZ D 100 pf)]) rfl rfl rfl rfl ?_
    refine v_icmp_ge O 46 dX10_lastOf_14 (by decide) (fun z1 => ?_) (fun z1 => ?_)
    · skip
      have z1 := (c_le' (x := nI (bg + j)) (y := nI (bg + bn)) (a := bg + j) (b := bg + bn) rfl rfl (by omega) (by omega)).mp z1
      refine v_iload_n O dX10_lastOf_46 3 rfl ?_
      exact v_ireturn O T rfl rfl (by decide) (by decide) dX10_lastOf_47 (⟨by rw [show j = bn by omega], rfl⟩)
    · skip
      have z1 := (not_congr (c_le' (x := nI (bg + j)) (y := nI (bg + bn)) (a := bg + j) (b := bg + bn) rfl rfl (by omega) (by omega))).mp z1
      exact absurd z1 (by omega)
  | succ t ih =>
    intro j hj
    have m2 := hM.2.1
    refine v_iload O dX10_lastOf_8 4 rfl ?_
    refine v_aload_n O dX10_lastOf_10 0 rfl ?_
    refine v_cV (T := TX10) (ci := 10) (As := []) (wr := []) (st := [.int (nI (bg + j))]) O cf_X10_241 rfl (sp_X10_behind (mo := mo) (ma := ma) (c := c) (c2 := c2) (tk := tk) (vc := vc) (ln := ln) (rn := rn) (zs_10 := zs_10) (zs_11 := zs_11) (zs_20 := zs_20) (zs_21 := zs_21) (zs_22 := zs_22) (zs_25 := zs_25) (zs_26 := zs_26) (zs_27 := zs_27) (zs_29 := zs_29) (wd := wd) (nu := nu) (fr := fr) (tt9 := tt9) (sf := sf) (cls := cls) (pf := pf) (bg := bg) (bn := bn) (hB9)) dX10_lastOf_11 rfl rfl 0 rfl [0, 1, 2, 3, 4, 5, 6, 7, 8, 9] [] (by decide) rfl rfl (by decide) (by decide) (by decide) (Nat.le_of_ble_eq_true rfl) (by decide) (by decide) (fun r_2 w_3 h_1 => ?_)
    obtain ⟨rfl, rfl⟩ := h_1
    refine v_eq (st' := [.int (nI (bg + bn)), .int (nI (bg + j))]) (ws' := [(mo, .inr (10, M1R ma (mZ c c2 tk vc ln rn zs_10 zs_11 zs_20 zs_21 zs_22 zs_25 zs_26 zs_27 zs_29))), ((ma 4), eI D 6 (nF c.kk)), ((ma 5), eI D 6 (nF c.vv)), ((ma 13), eI D 6 cls), ((ma 14), eI D 60 wd), ((ma 15), eI D 60 nu), ((ma 16), eI D 60 fr), ((ma 17), eI D 60 tt9), ((ma 18), eI D 600 sf), ((ma 24), eZ D 100 pf)]) rfl rfl rfl rfl ?_
    refine v_icmp_ge O 46 dX10_lastOf_14 (by decide) (fun z1 => ?_) (fun z1 => ?_)
    · skip
      have z1 := (c_le' (x := nI (bg + j)) (y := nI (bg + bn)) (a := bg + j) (b := bg + bn) rfl rfl (by omega) (by omega)).mp z1
      exact absurd z1 (by omega)
    · skip
      have z1 := (not_congr (c_le' (x := nI (bg + j)) (y := nI (bg + bn)) (a := bg + j) (b := bg + bn) rfl rfl (by omega) (by omega))).mp z1
      refine v_aload_n O dX10_lastOf_17 0 rfl ?_
      refine gf_X10_53 (v := .ref (ma 14)) O rfl dX10_lastOf_18 0 rfl rfl ?_
      refine v_iload O dX10_lastOf_21 4 rfl ?_
      refine v_ialdk O dX10_lastOf_23 4 rfl (bg + j) rfl (by omega) (by decide) ?_
      refine v_iload_n O dX10_lastOf_24 1 rfl ?_
      refine v_icmp_ne O 38 dX10_lastOf_25 (by decide) (fun z2 => ?_) (fun z2 => ?_)
      · skip
        refine v_iload_n O dX10_lastOf_38 3 rfl ?_
        refine v_istore_n (lv' := [(0, .ref mo), (1, .int x), (2, .int y), (3, .int (lastF wd nu x bg y j)), (4, .int (nI (bg + j)))]) O dX10_lastOf_39 (by decide) rfl ?_
        refine v_iinc (v := nI (bg + j + 1)) (lv' := [(0, .ref mo), (1, .int x), (2, .int y), (3, .int (lastF wd nu x bg y j)), (4, .int (nI (bg + j + 1)))]) O dX10_lastOf_40 4 rfl (nI_1 (bg + j)) (by decide) rfl ?_
        refine v_goto O 8 dX10_lastOf_43 (by decide) ?_
        refine v_eq (lv' := [(0, .ref mo), (1, .int x), (2, .int y), (3, .int (lastF wd nu x bg y (j + 1))), (4, .int (nI (bg + (j + 1))))]) rfl (by rw [show lastF wd nu x bg y (j + 1) = _ from if_neg z2]; rfl) rfl rfl ?_
        exact ih (j + 1) (by omega)
      · skip
        refine v_aload_n O dX10_lastOf_28 0 rfl ?_
        refine gf_X10_56 (v := .ref (ma 15)) O rfl dX10_lastOf_29 0 rfl rfl ?_
        refine v_iload O dX10_lastOf_32 4 rfl ?_
        refine v_ialdk O dX10_lastOf_34 5 rfl (bg + j) rfl (by omega) (by decide) ?_
        refine v_goto O 39 dX10_lastOf_35 (by decide) ?_
        refine v_istore_n (lv' := [(0, .ref mo), (1, .int x), (2, .int y), (3, .int (nu (bg + j))), (4, .int (nI (bg + j)))]) O dX10_lastOf_39 (by decide) rfl ?_
        refine v_iinc (v := nI (bg + j + 1)) (lv' := [(0, .ref mo), (1, .int x), (2, .int y), (3, .int (nu (bg + j))), (4, .int (nI (bg + j + 1)))]) O dX10_lastOf_40 4 rfl (nI_1 (bg + j)) (by decide) rfl ?_
        refine v_goto O 8 dX10_lastOf_43 (by decide) ?_
        refine v_eq (lv' := [(0, .ref mo), (1, .int x), (2, .int y), (3, .int (lastF wd nu x bg y (j + 1))), (4, .int (nI (bg + (j + 1))))]) rfl (by rw [show lastF wd nu x bg y (j + 1) = _ from if_pos z2]; rfl) rfl rfl ?_
        exact ih (j + 1) (by omega)
set_option maxRecDepth 100000 in
set_option maxHeartbeats 4000000 in
theorem sp_X10_lastOf {D : G} {mo : Nat} {ma : Nat → Nat} {c : CS} {c2 : CS} {tk : Int32} {vc : Nat} {ln : Nat} {rn : Nat} {zs_10 : Int32} {zs_11 : Int32} {zs_20 : Int32} {zs_21 : Int32} {zs_22 : Int32} {zs_25 : Int32} {zs_26 : Int32} {zs_27 : Int32} {zs_29 : Int32} {wd : Nat → Int32} {nu : Nat → Int32} {fr : Nat → Int32} {tt9 : Nat → Int32} {sf : Nat → Int32} {cls : Nat → Int32} {pf : Nat → Int32} {bg : Nat} {bn : Nat} {v : VS} {x : Int32} {y : Int32} (hB9 : hB c.held cls bg bn) (hM : MR wd nu fr tt9 sf bg bn v) : Sp D mX10_lastOf 1 0 0 [.ref mo, .int x, .int y] [(mo, .inr (10, M1R ma (mZ c c2 tk vc ln rn zs_10 zs_11 zs_20 zs_21 zs_22 zs_25 zs_26 zs_27 zs_29))), ((ma 4), eI D 6 (nF c.kk)), ((ma 5), eI D 6 (nF c.vv)), ((ma 13), eI D 6 cls), ((ma 14), eI D 60 wd), ((ma 15), eI D 60 nu), ((ma 16), eI D 60 fr), ((ma 17), eI D 60 tt9), ((ma 18), eI D 600 sf), ((ma 24), eZ D 100 pf)] (fun r w => r = some (.int (lastF wd nu x bg y bn)) ∧ w = [(mo, .inr (10, M1R ma (mZ c c2 tk vc ln rn zs_10 zs_11 zs_20 zs_21 zs_22 zs_25 zs_26 zs_27 zs_29))), ((ma 4), eI D 6 (nF c.kk)), ((ma 5), eI D 6 (nF c.vv)), ((ma 13), eI D 6 cls), ((ma 14), eI D 60 wd), ((ma 15), eI D 60 nu), ((ma 16), eI D 60 fr), ((ma 17), eI D 60 tt9), ((ma 18), eI D 600 sf), ((ma 24), eZ D 100 pf)]) := by
  refine Sp.of (by decide) (Nat.le_of_ble_eq_true rfl) (fun X O T => ?_)
  refine v_eq (lv' := [(0, .ref mo), (1, .int x), (2, .int y)]) rfl rfl rfl rfl ?_
  refine v_iload_n O dX10_lastOf_0 2 rfl ?_
  refine v_istore_n (lv' := [(0, .ref mo), (1, .int x), (2, .int y), (3, .int y)]) O dX10_lastOf_1 (by decide) rfl ?_
  refine v_aload_n O dX10_lastOf_2 0 rfl ?_
  refine v_cV (T := TX10) (ci := 10) (As := []) (wr := []) (st := []) O cf_X10_238 rfl (sp_X10_begin (mo := mo) (ma := ma) (c := c) (c2 := c2) (tk := tk) (vc := vc) (ln := ln) (rn := rn) (zs_10 := zs_10) (zs_11 := zs_11) (zs_20 := zs_20) (zs_21 := zs_21) (zs_22 := zs_22) (zs_25 := zs_25) (zs_26 := zs_26) (zs_27 := zs_27) (zs_29 := zs_29) (wd := wd) (nu := nu) (fr := fr) (tt9 := tt9) (sf := sf) (cls := cls) (pf := pf) (bg := bg) (bn := bn) (hB9)) dX10_lastOf_3 rfl rfl 0 rfl [0, 1, 2, 3, 4, 5, 6, 7, 8, 9] [] (by decide) rfl rfl (by decide) (by decide) (by decide) (Nat.le_of_ble_eq_true rfl) (by decide) (by decide) (fun r_2 w_3 h_1 => ?_)
  obtain ⟨rfl, rfl⟩ := h_1
  refine v_eq (st' := [.int (nI bg)]) (ws' := [(mo, .inr (10, M1R ma (mZ c c2 tk vc ln rn zs_10 zs_11 zs_20 zs_21 zs_22 zs_25 zs_26 zs_27 zs_29))), ((ma 4), eI D 6 (nF c.kk)), ((ma 5), eI D 6 (nF c.vv)), ((ma 13), eI D 6 cls), ((ma 14), eI D 60 wd), ((ma 15), eI D 60 nu), ((ma 16), eI D 60 fr), ((ma 17), eI D 60 tt9), ((ma 18), eI D 600 sf), ((ma 24), eZ D 100 pf)]) rfl rfl rfl rfl ?_
  refine v_istore (lv' := [(0, .ref mo), (1, .int x), (2, .int y), (3, .int y), (4, .int (nI bg))]) O dX10_lastOf_6 (by decide) rfl ?_
  refine v_eq (lv' := [(0, .ref mo), (1, .int x), (2, .int y), (3, .int (lastF wd nu x bg y 0)), (4, .int (nI (bg + 0)))]) rfl rfl rfl rfl ?_
  exact l_X10_lastOf O hB9 hM T bn 0 (by omega)
set_option maxRecDepth 100000 in
set_option maxHeartbeats 4000000 in
theorem sp_X10_shares {D : G} {mo : Nat} {ma : Nat → Nat} {c : CS} {c2 : CS} {tk : Int32} {vc : Nat} {ln : Nat} {rn : Nat} {zs_10 : Int32} {zs_11 : Int32} {zs_20 : Int32} {zs_21 : Int32} {zs_22 : Int32} {zs_25 : Int32} {zs_26 : Int32} {zs_27 : Int32} {zs_29 : Int32} {wd : Nat → Int32} {nu : Nat → Int32} {fr : Nat → Int32} {tt9 : Nat → Int32} {sf : Nat → Int32} {cls : Nat → Int32} {pf : Nat → Int32} {bg : Nat} {bn : Nat} {v : VS} (hB9 : hB c.held cls bg bn) (hM : MR wd nu fr tt9 sf bg bn v) : Sp D mX10_shares 2 0 0 [.ref mo] [(mo, .inr (10, M1R ma (mZ c c2 tk vc ln rn zs_10 zs_11 zs_20 zs_21 zs_22 zs_25 zs_26 zs_27 zs_29))), ((ma 4), eI D 6 (nF c.kk)), ((ma 5), eI D 6 (nF c.vv)), ((ma 13), eI D 6 cls), ((ma 14), eI D 60 wd), ((ma 15), eI D 60 nu), ((ma 16), eI D 60 fr), ((ma 17), eI D 60 tt9), ((ma 18), eI D 600 sf), ((ma 24), eZ D 100 pf)] (fun r w => r = some (.int (nI v.sh)) ∧ w = [(mo, .inr (10, M1R ma (mZ c c2 tk vc ln rn zs_10 zs_11 zs_20 zs_21 zs_22 zs_25 zs_26 zs_27 zs_29))), ((ma 4), eI D 6 (nF c.kk)), ((ma 5), eI D 6 (nF c.vv)), ((ma 13), eI D 6 cls), ((ma 14), eI D 60 wd), ((ma 15), eI D 60 nu), ((ma 16), eI D 60 fr), ((ma 17), eI D 60 tt9), ((ma 18), eI D 600 sf), ((ma 24), eZ D 100 pf)]) := by
  refine Sp.of (by decide) (Nat.le_of_ble_eq_true rfl) (fun X O T => ?_)
  refine v_eq (lv' := [(0, .ref mo)]) rfl rfl rfl rfl ?_
  obtain ⟨z_s, z_9, z_q, z_v⟩ := hM.2.2.1
  refine v_aload_n O dX10_shares_0 0 rfl ?_
  refine v_iconst (v := 0) O dX10_shares_1 (by decide) ?_
  refine v_iconst (v := 3) O dX10_shares_2 (by decide) ?_
  refine v_cV (T := TX10) (ci := 10) (As := [.int 0, .int 3]) (wr := []) (st := []) O cf_X10_244 rfl (sp_X10_lastOf (mo := mo) (ma := ma) (c := c) (c2 := c2) (tk := tk) (vc := vc) (ln := ln) (rn := rn) (zs_10 := zs_10) (zs_11 := zs_11) (zs_20 := zs_20) (zs_21 := zs_21) (zs_22 := zs_22) (zs_25 := zs_25) (zs_26 := zs_26) (zs_27 := zs_27) (zs_29 := zs_29) (wd := wd) (nu := nu) (fr := fr) (tt9 := tt9) (sf := sf) (cls := cls) (pf := pf) (bg := bg) (bn := bn) (v := v) (x := 0) (y := 3) (hB9) (hM)) dX10_shares_3 rfl rfl 0 rfl [0, 1, 2, 3, 4, 5, 6, 7, 8, 9] [] (by decide) rfl rfl (by decide) (by decide) (by decide) (Nat.le_of_ble_eq_true rfl) (by decide) (by decide) (fun r_2 w_3 h_1 => ?_)
  obtain ⟨rfl, rfl⟩ := h_1
  refine v_eq (st' := [.int (lastF wd nu 0 bg 3 bn)]) (ws' := [(mo, .inr (10, M1R ma (mZ c c2 tk vc ln rn zs_10 zs_11 zs_20 zs_21 zs_22 zs_25 zs_26 zs_27 zs_29))), ((ma 4), eI D 6 (nF c.kk)), ((ma 5), eI D 6 (nF c.vv)), ((ma 13), eI D 6 cls), ((ma 14), eI D 60 wd), ((ma 15), eI D 60 nu), ((ma 16), eI D 60 fr), ((ma 17), eI D 60 tt9), ((ma 18), eI D 600 sf), ((ma 24), eZ D 100 pf)]) rfl rfl rfl rfl ?_
  refine v_top (y := nI z_s) (z_q) ?_
  refine v_istore_n (lv' := [(0, .ref mo), (1, .int (nI z_s))]) O dX10_shares_6 (by decide) rfl ?_
  refine v_iload_n O dX10_shares_7 1 rfl ?_
  refine v_iconst (v := 2) O dX10_shares_8 (by decide) ?_
  refine v_icmp_ge O 16 dX10_shares_9 (by decide) (fun z1 => ?_) (fun z1 => ?_)
  · skip
    have z1 := (c_le' (x := nI z_s) (y := 2) (a := z_s) (b := 2) rfl rfl (by omega) (by omega)).mp z1
    refine v_iload_n O dX10_shares_16 1 rfl ?_
    exact v_ireturn O T rfl rfl (by decide) (by decide) dX10_shares_17 (⟨by rw [z_v, show max z_s 2 = z_s by omega], rfl⟩)
  · skip
    have z1 := (not_congr (c_le' (x := nI z_s) (y := 2) (a := z_s) (b := 2) rfl rfl (by omega) (by omega))).mp z1
    refine v_iconst (v := 2) O dX10_shares_12 (by decide) ?_
    refine v_goto O 17 dX10_shares_13 (by decide) ?_
    exact v_ireturn O T rfl rfl (by decide) (by decide) dX10_shares_17 (⟨by rw [z_v, show max z_s 2 = 2 by omega]; rfl, rfl⟩)
set_option maxRecDepth 100000 in
set_option maxHeartbeats 4000000 in
theorem l_X10_hasOver {D : G} {X : CX} {mo : Nat} {ma : Nat → Nat} {c : CS} {c2 : CS} {tk : Int32} {vc : Nat} {ln : Nat} {rn : Nat} {zs_10 : Int32} {zs_11 : Int32} {zs_20 : Int32} {zs_21 : Int32} {zs_22 : Int32} {zs_25 : Int32} {zs_26 : Int32} {zs_27 : Int32} {zs_29 : Int32} {wd : Nat → Int32} {nu : Nat → Int32} {fr : Nat → Int32} {tt9 : Nat → Int32} {sf : Nat → Int32} {cls : Nat → Int32} {pf : Nat → Int32} {bg : Nat} {bn : Nat} {v : VS} (O : Ok D X mX10_hasOver 1 0 0) (hB9 : hB c.held cls bg bn) (hM : MR wd nu fr tt9 sf bg bn v) (T : Rt D X (fun r w => r = some (.int (b2i (hasF wd 1 bg bn))) ∧ w = [(mo, .inr (10, M1R ma (mZ c c2 tk vc ln rn zs_10 zs_11 zs_20 zs_21 zs_22 zs_25 zs_26 zs_27 zs_29))), ((ma 4), eI D 6 (nF c.kk)), ((ma 5), eI D 6 (nF c.vv)), ((ma 13), eI D 6 cls), ((ma 14), eI D 60 wd), ((ma 15), eI D 60 nu), ((ma 16), eI D 60 fr), ((ma 17), eI D 60 tt9), ((ma 18), eI D 600 sf), ((ma 24), eZ D 100 pf)]) 0 0) : ∀ (t j : Nat), j + t = bn → ¬ hasF wd 1 bg j → V D X 0 0 5 [(0, .ref mo), (1, .int (nI (bg + j)))] [] [(mo, .inr (10, M1R ma (mZ c c2 tk vc ln rn zs_10 zs_11 zs_20 zs_21 zs_22 zs_25 zs_26 zs_27 zs_29))), ((ma 4), eI D 6 (nF c.kk)), ((ma 5), eI D 6 (nF c.vv)), ((ma 13), eI D 6 cls), ((ma 14), eI D 60 wd), ((ma 15), eI D 60 nu), ((ma 16), eI D 60 fr), ((ma 17), eI D 60 tt9), ((ma 18), eI D 600 sf), ((ma 24), eZ D 100 pf)] := by
  intro t
  induction t with
  | zero =>
    intro j hj hn
    have m2 := hM.2.1
    refine v_iload_n O dX10_hasOver_5 1 rfl ?_
    refine v_aload_n O dX10_hasOver_6 0 rfl ?_
    refine v_cV (T := TX10) (ci := 10) (As := []) (wr := []) (st := [.int (nI (bg + j))]) O cf_X10_241 rfl (sp_X10_behind (mo := mo) (ma := ma) (c := c) (c2 := c2) (tk := tk) (vc := vc) (ln := ln) (rn := rn) (zs_10 := zs_10) (zs_11 := zs_11) (zs_20 := zs_20) (zs_21 := zs_21) (zs_22 := zs_22) (zs_25 := zs_25) (zs_26 := zs_26) (zs_27 := zs_27) (zs_29 := zs_29) (wd := wd) (nu := nu) (fr := fr) (tt9 := tt9) (sf := sf) (cls := cls) (pf := pf) (bg := bg) (bn := bn) (hB9)) dX10_hasOver_7 rfl rfl 0 rfl [0, 1, 2, 3, 4, 5, 6, 7, 8, 9] [] (by decide) rfl rfl (by decide) (by decide) (by decide) (Nat.le_of_ble_eq_true rfl) (by decide) (by decide) (fun r_2 w_3 h_1 => ?_)
    obtain ⟨rfl, rfl⟩ := h_1
    refine v_eq (st' := [.int (nI (bg + bn)), .int (nI (bg + j))]) (ws' := [(mo, .inr (10, M1R ma (mZ c c2 tk vc ln rn zs_10 zs_11 zs_20 zs_21 zs_22 zs_25 zs_26 zs_27 zs_29))), ((ma 4), eI D 6 (nF c.kk)), ((ma 5), eI D 6 (nF c.vv)), ((ma 13), eI D 6 cls), ((ma 14), eI D 60 wd), ((ma 15), eI D 60 nu), ((ma 16), eI D 60 fr), ((ma 17), eI D 60 tt9), ((ma 18), eI D 600 sf), ((ma 24), eZ D 100 pf)]) rfl rfl rfl rfl ?_
    refine v_icmp_ge O 31 dX10_hasOver_10 (by decide) (fun z1 => ?_) (fun z1 => ?_)
    · skip
      have z1 := (c_le' (x := nI (bg + j)) (y := nI (bg + bn)) (a := bg + j) (b := bg + bn) rfl rfl (by omega) (by omega)).mp z1
      refine v_iconst (v := 0) O dX10_hasOver_31 (by decide) ?_
      exact v_ireturn O T rfl rfl (by decide) (by decide) dX10_hasOver_32 (⟨by rw [b2i_f (by rw [← show j = bn by omega]; exact hn)], rfl⟩)
    · skip
      have z1 := (not_congr (c_le' (x := nI (bg + j)) (y := nI (bg + bn)) (a := bg + j) (b := bg + bn) rfl rfl (by omega) (by omega))).mp z1
      exact absurd z1 (by omega)
  | succ t ih =>
    intro j hj hn
    have m2 := hM.2.1
    refine v_iload_n O dX10_hasOver_5 1 rfl ?_
    refine v_aload_n O dX10_hasOver_6 0 rfl ?_
    refine v_cV (T := TX10) (ci := 10) (As := []) (wr := []) (st := [.int (nI (bg + j))]) O cf_X10_241 rfl (sp_X10_behind (mo := mo) (ma := ma) (c := c) (c2 := c2) (tk := tk) (vc := vc) (ln := ln) (rn := rn) (zs_10 := zs_10) (zs_11 := zs_11) (zs_20 := zs_20) (zs_21 := zs_21) (zs_22 := zs_22) (zs_25 := zs_25) (zs_26 := zs_26) (zs_27 := zs_27) (zs_29 := zs_29) (wd := wd) (nu := nu) (fr := fr) (tt9 := tt9) (sf := sf) (cls := cls) (pf := pf) (bg := bg) (bn := bn) (hB9)) dX10_hasOver_7 rfl rfl 0 rfl [0, 1, 2, 3, 4, 5, 6, 7, 8, 9] [] (by decide) rfl rfl (by decide) (by decide) (by decide) (Nat.le_of_ble_eq_true rfl) (by decide) (by decide) (fun r_2 w_3 h_1 => ?_)
    obtain ⟨rfl, rfl⟩ := h_1
    refine v_eq (st' := [.int (nI (bg + bn)), .int (nI (bg + j))]) (ws' := [(mo, .inr (10, M1R ma (mZ c c2 tk vc ln rn zs_10 zs_11 zs_20 zs_21 zs_22 zs_25 zs_26 zs_27 zs_29))), ((ma 4), eI D 6 (nF c.kk)), ((ma 5), eI D 6 (nF c.vv)), ((ma 13), eI D 6 cls), ((ma 14), eI D 60 wd), ((ma 15), eI D 60 nu), ((ma 16), eI D 60 fr), ((ma 17), eI D 60 tt9), ((ma 18), eI D 600 sf), ((ma 24), eZ D 100 pf)]) rfl rfl rfl rfl ?_
    refine v_icmp_ge O 31 dX10_hasOver_10 (by decide) (fun z1 => ?_) (fun z1 => ?_)
    · skip
      have z1 := (c_le' (x := nI (bg + j)) (y := nI (bg + bn)) (a := bg + j) (b := bg + bn) rfl rfl (by omega) (by omega)).mp z1
      exact absurd z1 (by omega)
    · skip
      have z1 := (not_congr (c_le' (x := nI (bg + j)) (y := nI (bg + bn)) (a := bg + j) (b := bg + bn) rfl rfl (by omega) (by omega))).mp z1
      refine v_aload_n O dX10_hasOver_13 0 rfl ?_
      refine gf_X10_53 (v := .ref (ma 14)) O rfl dX10_hasOver_14 0 rfl rfl ?_
      refine v_iload_n O dX10_hasOver_17 1 rfl ?_
      refine v_ialdk O dX10_hasOver_18 4 rfl (bg + j) rfl (by omega) (by decide) ?_
      refine v_iconst (v := 1) O dX10_hasOver_19 (by decide) ?_
      refine v_icmp_ne O 25 dX10_hasOver_20 (by decide) (fun z2 => ?_) (fun z2 => ?_)
      · skip
        refine v_iinc (v := nI (bg + j + 1)) (lv' := [(0, .ref mo), (1, .int (nI (bg + j + 1)))]) O dX10_hasOver_25 1 rfl (nI_1 (bg + j)) (by decide) rfl ?_
        refine v_goto O 5 dX10_hasOver_28 (by decide) ?_
        exact ih (j + 1) (by omega) (fun q => (hasF_s.mp q).elim hn z2)
      · skip
        refine v_iconst (v := 1) O dX10_hasOver_23 (by decide) ?_
        exact v_ireturn O T rfl rfl (by decide) (by decide) dX10_hasOver_24 (⟨by rw [b2i_t ⟨bg + j, by omega, by omega, z2⟩], rfl⟩)
set_option maxRecDepth 100000 in
set_option maxHeartbeats 4000000 in
theorem sp_X10_hasOver {D : G} {mo : Nat} {ma : Nat → Nat} {c : CS} {c2 : CS} {tk : Int32} {vc : Nat} {ln : Nat} {rn : Nat} {zs_10 : Int32} {zs_11 : Int32} {zs_20 : Int32} {zs_21 : Int32} {zs_22 : Int32} {zs_25 : Int32} {zs_26 : Int32} {zs_27 : Int32} {zs_29 : Int32} {wd : Nat → Int32} {nu : Nat → Int32} {fr : Nat → Int32} {tt9 : Nat → Int32} {sf : Nat → Int32} {cls : Nat → Int32} {pf : Nat → Int32} {bg : Nat} {bn : Nat} {v : VS} (hB9 : hB c.held cls bg bn) (hM : MR wd nu fr tt9 sf bg bn v) : Sp D mX10_hasOver 1 0 0 [.ref mo] [(mo, .inr (10, M1R ma (mZ c c2 tk vc ln rn zs_10 zs_11 zs_20 zs_21 zs_22 zs_25 zs_26 zs_27 zs_29))), ((ma 4), eI D 6 (nF c.kk)), ((ma 5), eI D 6 (nF c.vv)), ((ma 13), eI D 6 cls), ((ma 14), eI D 60 wd), ((ma 15), eI D 60 nu), ((ma 16), eI D 60 fr), ((ma 17), eI D 60 tt9), ((ma 18), eI D 600 sf), ((ma 24), eZ D 100 pf)] (fun r w => r = some (.int (b2i (hasF wd 1 bg bn))) ∧ w = [(mo, .inr (10, M1R ma (mZ c c2 tk vc ln rn zs_10 zs_11 zs_20 zs_21 zs_22 zs_25 zs_26 zs_27 zs_29))), ((ma 4), eI D 6 (nF c.kk)), ((ma 5), eI D 6 (nF c.vv)), ((ma 13), eI D 6 cls), ((ma 14), eI D 60 wd), ((ma 15), eI D 60 nu), ((ma 16), eI D 60 fr), ((ma 17), eI D 60 tt9), ((ma 18), eI D 600 sf), ((ma 24), eZ D 100 pf)]) := by
  refine Sp.of (by decide) (Nat.le_of_ble_eq_true rfl) (fun X O T => ?_)
  refine v_eq (lv' := [(0, .ref mo)]) rfl rfl rfl rfl ?_
  refine v_aload_n O dX10_hasOver_0 0 rfl ?_
  refine v_cV (T := TX10) (ci := 10) (As := []) (wr := []) (st := []) O cf_X10_238 rfl (sp_X10_begin (mo := mo) (ma := ma) (c := c) (c2 := c2) (tk := tk) (vc := vc) (ln := ln) (rn := rn) (zs_10 := zs_10) (zs_11 := zs_11) (zs_20 := zs_20) (zs_21 := zs_21) (zs_22 := zs_22) (zs_25 := zs_25) (zs_26 := zs_26) (zs_27 := zs_27) (zs_29 := zs_29) (wd := wd) (nu := nu) (fr := fr) (tt9 := tt9) (sf := sf) (cls := cls) (pf := pf) (bg := bg) (bn := bn) (hB9)) dX10_hasOver_1 rfl rfl 0 rfl [0, 1, 2, 3, 4, 5, 6, 7, 8, 9] [] (by decide) rfl rfl (by decide) (by decide) (by decide) (Nat.le_of_ble_eq_true rfl) (by decide) (by decide) (fun r_2 w_3 h_1 => ?_)
  obtain ⟨rfl, rfl⟩ := h_1
  refine v_eq (st' := [.int (nI bg)]) (ws' := [(mo, .inr (10, M1R ma (mZ c c2 tk vc ln rn zs_10 zs_11 zs_20 zs_21 zs_22 zs_25 zs_26 zs_27 zs_29))), ((ma 4), eI D 6 (nF c.kk)), ((ma 5), eI D 6 (nF c.vv)), ((ma 13), eI D 6 cls), ((ma 14), eI D 60 wd), ((ma 15), eI D 60 nu), ((ma 16), eI D 60 fr), ((ma 17), eI D 60 tt9), ((ma 18), eI D 600 sf), ((ma 24), eZ D 100 pf)]) rfl rfl rfl rfl ?_
  refine v_istore_n (lv' := [(0, .ref mo), (1, .int (nI bg))]) O dX10_hasOver_4 (by decide) rfl ?_
  exact l_X10_hasOver O hB9 hM T bn 0 (by omega) (fun ⟨z1, z2, z3, _⟩ => by omega)
set_option maxRecDepth 100000 in
set_option maxHeartbeats 4000000 in
theorem sp_X10_factOf {D : G} {mo : Nat} {ma : Nat → Nat} {c : CS} {c2 : CS} {tk : Int32} {vc : Nat} {ln : Nat} {rn : Nat} {zs_10 : Int32} {zs_11 : Int32} {zs_20 : Int32} {zs_21 : Int32} {zs_22 : Int32} {zs_25 : Int32} {zs_26 : Int32} {zs_27 : Int32} {zs_29 : Int32} {f : Nat} {i : Nat} {zw : Nat} {h : Nat} (hi : i < 6) (hw : zw < 1000000) (hh : h < 2000000) (hf : f < 2147483648) : Sp D mX10_factOf 0 0 0 [.ref mo, .int (nI f), .int (nI i), .int (nI zw), .int (nI h)] [(mo, .inr (10, M1R ma (mZ c c2 tk vc ln rn zs_10 zs_11 zs_20 zs_21 zs_22 zs_25 zs_26 zs_27 zs_29))), ((ma 4), eI D 6 (nF c.kk)), ((ma 5), eI D 6 (nF c.vv))] (fun r w => r = some (.int ((ffR i (c.kk i) (c.vv i) zw h) f)) ∧ w = [(mo, .inr (10, M1R ma (mZ c c2 tk vc ln rn zs_10 zs_11 zs_20 zs_21 zs_22 zs_25 zs_26 zs_27 zs_29))), ((ma 4), eI D 6 (nF c.kk)), ((ma 5), eI D 6 (nF c.vv))]) := by
  refine Sp.of (by decide) (Nat.le_of_ble_eq_true rfl) (fun X O T => ?_)
  refine v_eq (lv' := [(0, .ref mo), (1, .int (nI f)), (2, .int (nI i)), (3, .int (nI zw)), (4, .int (nI h))]) rfl rfl rfl rfl ?_
  refine v_iload_n O dX10_factOf_0 1 rfl ?_
  by_cases s_1 : nI f = 0
  · skip
    refine v_top s_1 ?_
    refine v_tsIn (off := 31) O 32 dX10_factOf_1 (by decide) (by decide) (by decide) (by decide) ?_
    have z_k0 := (c_eq (x := nI f) (y := 0) (a := f) (b := 0) rfl rfl (by omega) (by omega)).mp s_1
    refine v_iload_n O dX10_factOf_32 2 rfl ?_
    exact v_ireturn O T rfl rfl (by decide) (by decide) dX10_factOf_33 (⟨by rw [z_k0]; rfl, rfl⟩)
  by_cases s_2 : nI f = 1
  · skip
    refine v_top s_2 ?_
    refine v_tsIn (off := 33) O 34 dX10_factOf_1 (by decide) (by decide) (by decide) (by decide) ?_
    have z_k1 := (c_eq (x := nI f) (y := 1) (a := f) (b := 1) rfl rfl (by omega) (by omega)).mp s_2
    refine v_aload_n O dX10_factOf_34 0 rfl ?_
    refine gf_X10_22 (v := .ref (ma 4)) O rfl dX10_factOf_35 0 rfl rfl ?_
    refine v_iload_n O dX10_factOf_38 2 rfl ?_
    refine v_ialdk O dX10_factOf_39 1 rfl i rfl (by omega) (by decide) ?_
    refine v_top (y := nI (c.kk i)) rfl ?_
    exact v_ireturn O T rfl rfl (by decide) (by decide) dX10_factOf_40 (⟨by rw [z_k1]; rfl, rfl⟩)
  by_cases s_3 : nI f = 2
  · skip
    refine v_top s_3 ?_
    refine v_tsIn (off := 40) O 41 dX10_factOf_1 (by decide) (by decide) (by decide) (by decide) ?_
    have z_k2 := (c_eq (x := nI f) (y := 2) (a := f) (b := 2) rfl rfl (by omega) (by omega)).mp s_3
    refine v_aload_n O dX10_factOf_41 0 rfl ?_
    refine gf_X10_26 (v := .ref (ma 5)) O rfl dX10_factOf_42 0 rfl rfl ?_
    refine v_iload_n O dX10_factOf_45 2 rfl ?_
    refine v_ialdk O dX10_factOf_46 2 rfl i rfl (by omega) (by decide) ?_
    refine v_top (y := nI (c.vv i)) rfl ?_
    exact v_ireturn O T rfl rfl (by decide) (by decide) dX10_factOf_47 (⟨by rw [z_k2]; rfl, rfl⟩)
  by_cases s_4 : nI f = 3
  · skip
    refine v_top s_4 ?_
    refine v_tsIn (off := 47) O 48 dX10_factOf_1 (by decide) (by decide) (by decide) (by decide) ?_
    have z_k3 := (c_eq (x := nI f) (y := 3) (a := f) (b := 3) rfl rfl (by omega) (by omega)).mp s_4
    refine v_iload_n O dX10_factOf_48 3 rfl ?_
    refine v_bipush (v := 60) O dX10_factOf_49 (by decide) ?_
    refine v_irem O dX10_factOf_51 (by decide) ?_
    refine v_top (y := nI (zw % 60)) (pk_rem (a := zw) (d := 60) (by omega) (by decide) (by decide)) ?_
    exact v_ireturn O T rfl rfl (by decide) (by decide) dX10_factOf_52 (⟨by rw [z_k3]; rfl, rfl⟩)
  refine v_tsOut O 53 dX10_factOf_1 (ts_out (by decide) (by decide) (fun v h1 h2 => by rcases (show v = 0 ∨ v = 1 ∨ v = 2 ∨ v = 3 by omega) with rfl | rfl | rfl | rfl <;> assumption)) (by decide) ?_
  have z_n0 := (not_congr (c_eq (x := nI f) (y := 0) (a := f) (b := 0) rfl rfl (by omega) (by omega))).mp s_1
  have z_n1 := (not_congr (c_eq (x := nI f) (y := 1) (a := f) (b := 1) rfl rfl (by omega) (by omega))).mp s_2
  have z_n2 := (not_congr (c_eq (x := nI f) (y := 2) (a := f) (b := 2) rfl rfl (by omega) (by omega))).mp s_3
  have z_n3 := (not_congr (c_eq (x := nI f) (y := 3) (a := f) (b := 3) rfl rfl (by omega) (by omega))).mp s_4
  refine v_iload O dX10_factOf_53 4 rfl ?_
  refine v_bipush (v := 10) O dX10_factOf_55 (by decide) ?_
  refine v_irem O dX10_factOf_57 (by decide) ?_
  refine v_top (y := nI (h % 10)) (pk_rem (a := h) (d := 10) (by omega) (by decide) (by decide)) ?_
  exact v_ireturn O T rfl rfl (by decide) (by decide) dX10_factOf_58 (⟨by obtain ⟨z_q, rfl⟩ : ∃ q, f = q + 4 := ⟨f - 4, by omega⟩; rfl, rfl⟩)
set_option maxRecDepth 100000 in
set_option maxHeartbeats 4000000 in
theorem l_X10_holds {D : G} {X : CX} {mo : Nat} {ma : Nat → Nat} {c : CS} {c2 : CS} {tk : Int32} {vc : Nat} {ln : Nat} {rn : Nat} {zs_10 : Int32} {zs_11 : Int32} {zs_20 : Int32} {zs_21 : Int32} {zs_22 : Int32} {zs_25 : Int32} {zs_26 : Int32} {zs_27 : Int32} {zs_29 : Int32} {wd : Nat → Int32} {nu : Nat → Int32} {fr : Nat → Int32} {tt9 : Nat → Int32} {sf : Nat → Int32} {cls : Nat → Int32} {cl : Nat} {i : Nat} {zw : Nat} {h : Nat} {a : Nat} {k : Nat} {b : Bool} (O : Ok D X mX10_holds 1 0 0) (hi : i < 6) (hw : zw < 1000000) (hh : h < 2000000) (hc : cl < 60) (ha : fr cl = nI a) (hk : tt9 cl = nI (a + k)) (hk1 : k ≤ 100) (hk2 : a + k ≤ 600) (hr : runR (ffR i (c.kk i) (c.vv i) zw h) (strF sf a k) [] = some [b]) (T : Rt D X (fun r w => ∃ pf2 : Nat → Int32, r = some (.int (b2i (b = true))) ∧ w = [(mo, .inr (10, M1R ma (mZ c c2 tk vc ln rn zs_10 zs_11 zs_20 zs_21 zs_22 zs_25 zs_26 zs_27 zs_29))), ((ma 4), eI D 6 (nF c.kk)), ((ma 5), eI D 6 (nF c.vv)), ((ma 13), eI D 6 cls), ((ma 14), eI D 60 wd), ((ma 15), eI D 60 nu), ((ma 16), eI D 60 fr), ((ma 17), eI D 60 tt9), ((ma 18), eI D 600 sf), ((ma 24), eZ D 100 pf2)]) 0 0) : ∀ (r m : Nat), m + r = k → ∀ (s : List Bool) (pf : Nat → Int32), pst pf s → s.length ≤ m → runR (ffR i (c.kk i) (c.vv i) zw h) (strF sf (a + m) r) s = some [b] → V D X 0 0 11 [(0, .ref mo), (1, .int (nI cl)), (2, .int (nI i)), (3, .int (nI zw)), (4, .int (nI h)), (5, .int (nI s.length)), (6, .int (nI (a + m)))] [] [(mo, .inr (10, M1R ma (mZ c c2 tk vc ln rn zs_10 zs_11 zs_20 zs_21 zs_22 zs_25 zs_26 zs_27 zs_29))), ((ma 4), eI D 6 (nF c.kk)), ((ma 5), eI D 6 (nF c.vv)), ((ma 13), eI D 6 cls), ((ma 14), eI D 60 wd), ((ma 15), eI D 60 nu), ((ma 16), eI D 60 fr), ((ma 17), eI D 60 tt9), ((ma 18), eI D 600 sf), ((ma 24), eZ D 100 pf)] := by
  intro r
  induction r with
  | zero =>
    intro m hm s pf h1 h2 h3
    refine v_iload O dX10_holds_11 6 rfl ?_
    refine v_aload_n O dX10_holds_13 0 rfl ?_
    refine gf_X10_62 (v := .ref (ma 17)) O rfl dX10_holds_14 0 rfl rfl ?_
    refine v_iload_n O dX10_holds_17 1 rfl ?_
    refine v_ialdk O dX10_holds_18 7 rfl cl rfl (by omega) (by decide) ?_
    refine v_top (y := nI (a + k)) (hk) ?_
    refine v_icmp_ge O 255 dX10_holds_19 (by decide) (fun z0 => ?_) (fun z0 => ?_)
    · skip
      have z0 := (c_le' (x := nI (a + m)) (y := nI (a + k)) (a := a + m) (b := a + k) rfl rfl (by omega) (by omega)).mp z0
      have z_s : s = [b] := Option.some.inj h3
      subst z_s
      refine v_aload_n O dX10_holds_255 0 rfl ?_
      refine gf_X10_83 (v := .ref (ma 24)) O rfl dX10_holds_256 0 rfl rfl ?_
      refine v_iconst (v := 0) O dX10_holds_259 (by decide) ?_
      refine v_zaldk O dX10_holds_260 9 rfl 0 rfl (by omega) (by decide) ?_
      refine v_top (y := b2i (b = true)) (h1.1.trans bI_b) ?_
      exact v_ireturn O T rfl (nrb _) (by decide) (by decide) dX10_holds_261 (⟨_, rfl, rfl⟩)
    · skip
      have z0 := (not_congr (c_le' (x := nI (a + m)) (y := nI (a + k)) (a := a + m) (b := a + k) rfl rfl (by omega) (by omega))).mp z0
      exact absurd z0 (by omega)
  | succ r ih =>
    intro m hm s pf h1 h2 h3
    refine v_iload O dX10_holds_11 6 rfl ?_
    refine v_aload_n O dX10_holds_13 0 rfl ?_
    refine gf_X10_62 (v := .ref (ma 17)) O rfl dX10_holds_14 0 rfl rfl ?_
    refine v_iload_n O dX10_holds_17 1 rfl ?_
    refine v_ialdk O dX10_holds_18 7 rfl cl rfl (by omega) (by decide) ?_
    refine v_top (y := nI (a + k)) (hk) ?_
    refine v_icmp_ge O 255 dX10_holds_19 (by decide) (fun z0 => ?_) (fun z0 => ?_)
    · skip
      have z0 := (c_le' (x := nI (a + m)) (y := nI (a + k)) (a := a + m) (b := a + k) rfl rfl (by omega) (by omega)).mp z0
      exact absurd z0 (by omega)
    · skip
      have z0 := (not_congr (c_le' (x := nI (a + m)) (y := nI (a + k)) (a := a + m) (b := a + k) rfl rfl (by omega) (by omega))).mp z0
      refine v_aload_n O dX10_holds_22 0 rfl ?_
      refine gf_X10_65 (v := .ref (ma 18)) O rfl dX10_holds_23 0 rfl rfl ?_
      refine v_iload O dX10_holds_26 6 rfl ?_
      refine v_ialdk O dX10_holds_28 8 rfl (a + m) rfl (by omega) (by decide) ?_
      refine v_topi (fun t9 e_t9 => ?_)
      refine v_istore (lv' := [(0, .ref mo), (1, .int (nI cl)), (2, .int (nI i)), (3, .int (nI zw)), (4, .int (nI h)), (5, .int (nI s.length)), (6, .int (nI (a + m))), (7, .int t9)]) O dX10_holds_29 (by decide) rfl ?_
      refine v_iload O dX10_holds_31 7 rfl ?_
      refine v_bipush (v := -33) O dX10_holds_33 (by decide) ?_
      refine v_icmp_ne O 67 dX10_holds_35 (by decide) (fun z1 => ?_) (fun z1 => ?_)
      · skip
        refine v_iload O dX10_holds_67 7 rfl ?_
        refine v_if_ge O 151 dX10_holds_69 (by decide) (fun z2 => ?_) (fun z2 => ?_)
        · skip
          rw [strF_c] at h3
          have h4 : (runS _ (sf (a + m)) s).bind _ = some [b] := h3
          rw [← e_t9] at h4
          obtain ⟨k9, hk9, e9⟩ := nI_of (Int32.not_lt.mpr z2)
          have h5 := rn_tst h4 z1 (Int32.not_lt.mpr z2) e9 hk9
          have z_r5 : k9 / 100 % 10 < 10 := Nat.mod_lt _ (by decide)
          refine v_aload_n O dX10_holds_151 0 rfl ?_
          refine v_iload O dX10_holds_152 7 rfl ?_
          refine v_top (y := nI k9) (e9) ?_
          refine v_sipush (v := 1000) O dX10_holds_154 (by decide) ?_
          refine v_idiv O dX10_holds_157 (by decide) ?_
          refine v_top (y := nI (k9 / 1000)) (pk_div (a := k9) (d := 1000) (by omega) (by decide) (by decide)) ?_
          refine v_iload_n O dX10_holds_158 2 rfl ?_
          refine v_iload_n O dX10_holds_159 3 rfl ?_
          refine v_iload O dX10_holds_160 4 rfl ?_
          refine v_cV (T := TX10) (ci := 10) (As := [.int (nI (k9 / 1000)), .int (nI i), .int (nI zw), .int (nI h)]) (wr := [((ma 13), eI D 6 cls), ((ma 14), eI D 60 wd), ((ma 15), eI D 60 nu), ((ma 16), eI D 60 fr), ((ma 17), eI D 60 tt9), ((ma 18), eI D 600 sf), ((ma 24), eZ D 100 pf)]) (st := []) O cf_X10_248 rfl (sp_X10_factOf (mo := mo) (ma := ma) (c := c) (c2 := c2) (tk := tk) (vc := vc) (ln := ln) (rn := rn) (zs_10 := zs_10) (zs_11 := zs_11) (zs_20 := zs_20) (zs_21 := zs_21) (zs_22 := zs_22) (zs_25 := zs_25) (zs_26 := zs_26) (zs_27 := zs_27) (zs_29 := zs_29) (f := (k9 / 1000)) (i := i) (zw := zw) (h := h) (hi) (hw) (hh) (by omega)) dX10_holds_162 rfl rfl 0 rfl [0, 1, 2] [3, 4, 5, 6, 7, 8, 9] (by decide) rfl rfl (by decide) (by decide) (by decide) (Nat.le_of_ble_eq_true rfl) (by decide) (by decide) (fun r_2 w_3 h_1 => ?_)
          obtain ⟨rfl, rfl⟩ := h_1
          refine v_eq (st' := [.int ((ffR i (c.kk i) (c.vv i) zw h) (k9 / 1000))]) (ws' := [((ma 13), eI D 6 cls), ((ma 14), eI D 60 wd), ((ma 15), eI D 60 nu), ((ma 16), eI D 60 fr), ((ma 17), eI D 60 tt9), ((ma 18), eI D 600 sf), ((ma 24), eZ D 100 pf), (mo, .inr (10, M1R ma (mZ c c2 tk vc ln rn zs_10 zs_11 zs_20 zs_21 zs_22 zs_25 zs_26 zs_27 zs_29))), ((ma 4), eI D 6 (nF c.kk)), ((ma 5), eI D 6 (nF c.vv))]) rfl rfl rfl rfl ?_
          refine v_istore (lv' := [(0, .ref mo), (1, .int (nI cl)), (2, .int (nI i)), (3, .int (nI zw)), (4, .int (nI h)), (5, .int (nI s.length)), (6, .int (nI (a + m))), (7, .int t9), (8, .int ((ffR i (c.kk i) (c.vv i) zw h) (k9 / 1000)))]) O dX10_holds_165 (by decide) rfl ?_
          refine v_iload O dX10_holds_167 7 rfl ?_
          refine v_top (y := nI k9) (e9) ?_
          refine v_bipush (v := 100) O dX10_holds_169 (by decide) ?_
          refine v_idiv O dX10_holds_171 (by decide) ?_
          refine v_top (y := nI (k9 / 100)) (pk_div (a := k9) (d := 100) (by omega) (by decide) (by decide)) ?_
          refine v_bipush (v := 10) O dX10_holds_172 (by decide) ?_
          refine v_irem O dX10_holds_174 (by decide) ?_
          refine v_top (y := nI ((k9 / 100) % 10)) (pk_rem (a := k9 / 100) (d := 10) (by omega) (by decide) (by decide)) ?_
          refine v_istore (lv' := [(0, .ref mo), (1, .int (nI cl)), (2, .int (nI i)), (3, .int (nI zw)), (4, .int (nI h)), (5, .int (nI s.length)), (6, .int (nI (a + m))), (7, .int t9), (8, .int ((ffR i (c.kk i) (c.vv i) zw h) (k9 / 1000))), (9, .int (nI ((k9 / 100) % 10)))]) O dX10_holds_175 (by decide) rfl ?_
          refine v_aload_n O dX10_holds_177 0 rfl ?_
          refine gf_X10_83 (v := .ref (ma 24)) O rfl dX10_holds_178 7 rfl rfl ?_
          refine v_iload O dX10_holds_181 5 rfl ?_
          refine v_iload O dX10_holds_183 9 rfl ?_
          refine v_if_ne O 206 dX10_holds_185 (by decide) (fun z5 => ?_) (fun z5 => ?_)
          · skip
            have z5 := (not_congr (c_eq (x := nI ((k9 / 100) % 10)) (y := 0) (a := (k9 / 100) % 10) (b := 0) rfl rfl (by omega) (by omega))).mp z5
            refine v_iload O dX10_holds_206 9 rfl ?_
            refine v_iconst (v := 1) O dX10_holds_208 (by decide) ?_
            refine v_icmp_ne O 230 dX10_holds_209 (by decide) (fun z7 => ?_) (fun z7 => ?_)
            · skip
              have z7 := (not_congr (c_eq (x := nI ((k9 / 100) % 10)) (y := 1) (a := (k9 / 100) % 10) (b := 1) rfl rfl (by omega) (by omega))).mp z7
              refine v_iload O dX10_holds_230 8 rfl ?_
              refine v_iload O dX10_holds_232 7 rfl ?_
              refine v_top (y := nI k9) (e9) ?_
              refine v_bipush (v := 100) O dX10_holds_234 (by decide) ?_
              refine v_irem O dX10_holds_236 (by decide) ?_
              refine v_top (y := nI (k9 % 100)) (pk_rem (a := k9) (d := 100) (by omega) (by decide) (by decide)) ?_
              refine v_icmp_le O 244 dX10_holds_237 (by decide) (fun z6 => ?_) (fun z6 => ?_)
              · skip
                refine v_iconst (v := 0) O dX10_holds_244 (by decide) ?_
                refine v_zastk (ws' := [((ma 13), eI D 6 cls), ((ma 14), eI D 60 wd), ((ma 15), eI D 60 nu), ((ma 16), eI D 60 fr), ((ma 17), eI D 60 tt9), ((ma 18), eI D 600 sf), ((ma 24), eZ D 100 (upd pf s.length (vp_nar .boolean 0))), (mo, .inr (10, M1R ma (mZ c c2 tk vc ln rn zs_10 zs_11 zs_20 zs_21 zs_22 zs_25 zs_26 zs_27 zs_29))), ((ma 4), eI D 6 (nF c.kk)), ((ma 5), eI D 6 (nF c.vv))]) O dX10_holds_245 6 rfl s.length (rfl) (by omega) (by decide) (rfl) ?_
                refine v_iinc (v := nI (s.length + 1)) (lv' := [(0, .ref mo), (1, .int (nI cl)), (2, .int (nI i)), (3, .int (nI zw)), (4, .int (nI h)), (5, .int (nI (s.length + 1))), (6, .int (nI (a + m))), (7, .int t9), (8, .int ((ffR i (c.kk i) (c.vv i) zw h) (k9 / 1000))), (9, .int (nI ((k9 / 100) % 10)))]) O dX10_holds_246 5 rfl (nI_1 s.length) (by decide) rfl ?_
                refine v_iinc (v := nI (a + m + 1)) (lv' := [(0, .ref mo), (1, .int (nI cl)), (2, .int (nI i)), (3, .int (nI zw)), (4, .int (nI h)), (5, .int (nI (s.length + 1))), (6, .int (nI (a + m + 1))), (7, .int t9), (8, .int ((ffR i (c.kk i) (c.vv i) zw h) (k9 / 1000))), (9, .int (nI ((k9 / 100) % 10)))]) O dX10_holds_249 6 rfl (nI_1 (a + m)) (by decide) rfl ?_
                refine v_goto O 11 dX10_holds_252 (by decide) ?_
                refine v_lvp (lv' := [(0, .ref mo), (1, .int (nI cl)), (2, .int (nI i)), (3, .int (nI zw)), (4, .int (nI h)), (5, .int (nI (s.length + 1))), (6, .int (nI (a + m + 1)))]) [0, 1, 2, 3, 4, 5, 6] rfl ?_
                refine v_sub (ws' := [(mo, .inr (10, M1R ma (mZ c c2 tk vc ln rn zs_10 zs_11 zs_20 zs_21 zs_22 zs_25 zs_26 zs_27 zs_29))), ((ma 4), eI D 6 (nF c.kk)), ((ma 5), eI D 6 (nF c.vv)), ((ma 13), eI D 6 cls), ((ma 14), eI D 60 wd), ((ma 15), eI D 60 nu), ((ma 16), eI D 60 fr), ((ma 17), eI D 60 tt9), ((ma 18), eI D 600 sf), ((ma 24), eZ D 100 (upd pf s.length (vp_nar .boolean 0)))]) [7, 8, 9, 0, 1, 2, 3, 4, 5, 6] (by decide) rfl ?_
                exact ih (m + 1) (by omega) (_ :: s) _ (pst_up h1 (cv_f (by unfold cmpF; rw [if_neg z5, if_neg z7]; exact fun q => absurd q (Int32.not_lt.mpr z6)))) (by rw [List.length_cons]; omega) h5
              · skip
                refine v_iconst (v := 1) O dX10_holds_240 (by decide) ?_
                refine v_goto O 245 dX10_holds_241 (by decide) ?_
                refine v_zastk (ws' := [((ma 13), eI D 6 cls), ((ma 14), eI D 60 wd), ((ma 15), eI D 60 nu), ((ma 16), eI D 60 fr), ((ma 17), eI D 60 tt9), ((ma 18), eI D 600 sf), ((ma 24), eZ D 100 (upd pf s.length (vp_nar .boolean 1))), (mo, .inr (10, M1R ma (mZ c c2 tk vc ln rn zs_10 zs_11 zs_20 zs_21 zs_22 zs_25 zs_26 zs_27 zs_29))), ((ma 4), eI D 6 (nF c.kk)), ((ma 5), eI D 6 (nF c.vv))]) O dX10_holds_245 6 rfl s.length (rfl) (by omega) (by decide) (rfl) ?_
                refine v_iinc (v := nI (s.length + 1)) (lv' := [(0, .ref mo), (1, .int (nI cl)), (2, .int (nI i)), (3, .int (nI zw)), (4, .int (nI h)), (5, .int (nI (s.length + 1))), (6, .int (nI (a + m))), (7, .int t9), (8, .int ((ffR i (c.kk i) (c.vv i) zw h) (k9 / 1000))), (9, .int (nI ((k9 / 100) % 10)))]) O dX10_holds_246 5 rfl (nI_1 s.length) (by decide) rfl ?_
                refine v_iinc (v := nI (a + m + 1)) (lv' := [(0, .ref mo), (1, .int (nI cl)), (2, .int (nI i)), (3, .int (nI zw)), (4, .int (nI h)), (5, .int (nI (s.length + 1))), (6, .int (nI (a + m + 1))), (7, .int t9), (8, .int ((ffR i (c.kk i) (c.vv i) zw h) (k9 / 1000))), (9, .int (nI ((k9 / 100) % 10)))]) O dX10_holds_249 6 rfl (nI_1 (a + m)) (by decide) rfl ?_
                refine v_goto O 11 dX10_holds_252 (by decide) ?_
                refine v_lvp (lv' := [(0, .ref mo), (1, .int (nI cl)), (2, .int (nI i)), (3, .int (nI zw)), (4, .int (nI h)), (5, .int (nI (s.length + 1))), (6, .int (nI (a + m + 1)))]) [0, 1, 2, 3, 4, 5, 6] rfl ?_
                refine v_sub (ws' := [(mo, .inr (10, M1R ma (mZ c c2 tk vc ln rn zs_10 zs_11 zs_20 zs_21 zs_22 zs_25 zs_26 zs_27 zs_29))), ((ma 4), eI D 6 (nF c.kk)), ((ma 5), eI D 6 (nF c.vv)), ((ma 13), eI D 6 cls), ((ma 14), eI D 60 wd), ((ma 15), eI D 60 nu), ((ma 16), eI D 60 fr), ((ma 17), eI D 60 tt9), ((ma 18), eI D 600 sf), ((ma 24), eZ D 100 (upd pf s.length (vp_nar .boolean 1)))]) [7, 8, 9, 0, 1, 2, 3, 4, 5, 6] (by decide) rfl ?_
                exact ih (m + 1) (by omega) (_ :: s) _ (pst_up h1 (cv_t (by unfold cmpF; rw [if_neg z5, if_neg z7]; exact Int32.not_le.mp z6))) (by rw [List.length_cons]; omega) h5
            · skip
              have z7 := (c_eq (x := nI ((k9 / 100) % 10)) (y := 1) (a := (k9 / 100) % 10) (b := 1) rfl rfl (by omega) (by omega)).mp z7
              refine v_iload O dX10_holds_212 8 rfl ?_
              refine v_iload O dX10_holds_214 7 rfl ?_
              refine v_top (y := nI k9) (e9) ?_
              refine v_bipush (v := 100) O dX10_holds_216 (by decide) ?_
              refine v_irem O dX10_holds_218 (by decide) ?_
              refine v_top (y := nI (k9 % 100)) (pk_rem (a := k9) (d := 100) (by omega) (by decide) (by decide)) ?_
              refine v_icmp_ne O 226 dX10_holds_219 (by decide) (fun z6 => ?_) (fun z6 => ?_)
              · skip
                refine v_iconst (v := 0) O dX10_holds_226 (by decide) ?_
                refine v_goto O 245 dX10_holds_227 (by decide) ?_
                refine v_zastk (ws' := [((ma 13), eI D 6 cls), ((ma 14), eI D 60 wd), ((ma 15), eI D 60 nu), ((ma 16), eI D 60 fr), ((ma 17), eI D 60 tt9), ((ma 18), eI D 600 sf), ((ma 24), eZ D 100 (upd pf s.length (vp_nar .boolean 0))), (mo, .inr (10, M1R ma (mZ c c2 tk vc ln rn zs_10 zs_11 zs_20 zs_21 zs_22 zs_25 zs_26 zs_27 zs_29))), ((ma 4), eI D 6 (nF c.kk)), ((ma 5), eI D 6 (nF c.vv))]) O dX10_holds_245 6 rfl s.length (rfl) (by omega) (by decide) (rfl) ?_
                refine v_iinc (v := nI (s.length + 1)) (lv' := [(0, .ref mo), (1, .int (nI cl)), (2, .int (nI i)), (3, .int (nI zw)), (4, .int (nI h)), (5, .int (nI (s.length + 1))), (6, .int (nI (a + m))), (7, .int t9), (8, .int ((ffR i (c.kk i) (c.vv i) zw h) (k9 / 1000))), (9, .int (nI ((k9 / 100) % 10)))]) O dX10_holds_246 5 rfl (nI_1 s.length) (by decide) rfl ?_
                refine v_iinc (v := nI (a + m + 1)) (lv' := [(0, .ref mo), (1, .int (nI cl)), (2, .int (nI i)), (3, .int (nI zw)), (4, .int (nI h)), (5, .int (nI (s.length + 1))), (6, .int (nI (a + m + 1))), (7, .int t9), (8, .int ((ffR i (c.kk i) (c.vv i) zw h) (k9 / 1000))), (9, .int (nI ((k9 / 100) % 10)))]) O dX10_holds_249 6 rfl (nI_1 (a + m)) (by decide) rfl ?_
                refine v_goto O 11 dX10_holds_252 (by decide) ?_
                refine v_lvp (lv' := [(0, .ref mo), (1, .int (nI cl)), (2, .int (nI i)), (3, .int (nI zw)), (4, .int (nI h)), (5, .int (nI (s.length + 1))), (6, .int (nI (a + m + 1)))]) [0, 1, 2, 3, 4, 5, 6] rfl ?_
                refine v_sub (ws' := [(mo, .inr (10, M1R ma (mZ c c2 tk vc ln rn zs_10 zs_11 zs_20 zs_21 zs_22 zs_25 zs_26 zs_27 zs_29))), ((ma 4), eI D 6 (nF c.kk)), ((ma 5), eI D 6 (nF c.vv)), ((ma 13), eI D 6 cls), ((ma 14), eI D 60 wd), ((ma 15), eI D 60 nu), ((ma 16), eI D 60 fr), ((ma 17), eI D 60 tt9), ((ma 18), eI D 600 sf), ((ma 24), eZ D 100 (upd pf s.length (vp_nar .boolean 0)))]) [7, 8, 9, 0, 1, 2, 3, 4, 5, 6] (by decide) rfl ?_
                exact ih (m + 1) (by omega) (_ :: s) _ (pst_up h1 (cv_f (by unfold cmpF; rw [if_neg z5, if_pos z7]; exact z6))) (by rw [List.length_cons]; omega) h5
              · skip
                refine v_iconst (v := 1) O dX10_holds_222 (by decide) ?_
                refine v_goto O 245 dX10_holds_223 (by decide) ?_
                refine v_zastk (ws' := [((ma 13), eI D 6 cls), ((ma 14), eI D 60 wd), ((ma 15), eI D 60 nu), ((ma 16), eI D 60 fr), ((ma 17), eI D 60 tt9), ((ma 18), eI D 600 sf), ((ma 24), eZ D 100 (upd pf s.length (vp_nar .boolean 1))), (mo, .inr (10, M1R ma (mZ c c2 tk vc ln rn zs_10 zs_11 zs_20 zs_21 zs_22 zs_25 zs_26 zs_27 zs_29))), ((ma 4), eI D 6 (nF c.kk)), ((ma 5), eI D 6 (nF c.vv))]) O dX10_holds_245 6 rfl s.length (rfl) (by omega) (by decide) (rfl) ?_
                refine v_iinc (v := nI (s.length + 1)) (lv' := [(0, .ref mo), (1, .int (nI cl)), (2, .int (nI i)), (3, .int (nI zw)), (4, .int (nI h)), (5, .int (nI (s.length + 1))), (6, .int (nI (a + m))), (7, .int t9), (8, .int ((ffR i (c.kk i) (c.vv i) zw h) (k9 / 1000))), (9, .int (nI ((k9 / 100) % 10)))]) O dX10_holds_246 5 rfl (nI_1 s.length) (by decide) rfl ?_
                refine v_iinc (v := nI (a + m + 1)) (lv' := [(0, .ref mo), (1, .int (nI cl)), (2, .int (nI i)), (3, .int (nI zw)), (4, .int (nI h)), (5, .int (nI (s.length + 1))), (6, .int (nI (a + m + 1))), (7, .int t9), (8, .int ((ffR i (c.kk i) (c.vv i) zw h) (k9 / 1000))), (9, .int (nI ((k9 / 100) % 10)))]) O dX10_holds_249 6 rfl (nI_1 (a + m)) (by decide) rfl ?_
                refine v_goto O 11 dX10_holds_252 (by decide) ?_
                refine v_lvp (lv' := [(0, .ref mo), (1, .int (nI cl)), (2, .int (nI i)), (3, .int (nI zw)), (4, .int (nI h)), (5, .int (nI (s.length + 1))), (6, .int (nI (a + m + 1)))]) [0, 1, 2, 3, 4, 5, 6] rfl ?_
                refine v_sub (ws' := [(mo, .inr (10, M1R ma (mZ c c2 tk vc ln rn zs_10 zs_11 zs_20 zs_21 zs_22 zs_25 zs_26 zs_27 zs_29))), ((ma 4), eI D 6 (nF c.kk)), ((ma 5), eI D 6 (nF c.vv)), ((ma 13), eI D 6 cls), ((ma 14), eI D 60 wd), ((ma 15), eI D 60 nu), ((ma 16), eI D 60 fr), ((ma 17), eI D 60 tt9), ((ma 18), eI D 600 sf), ((ma 24), eZ D 100 (upd pf s.length (vp_nar .boolean 1)))]) [7, 8, 9, 0, 1, 2, 3, 4, 5, 6] (by decide) rfl ?_
                exact ih (m + 1) (by omega) (_ :: s) _ (pst_up h1 (cv_t (by unfold cmpF; rw [if_neg z5, if_pos z7]; exact z6))) (by rw [List.length_cons]; omega) h5
          · skip
            have z5 := (c_eq (x := nI ((k9 / 100) % 10)) (y := 0) (a := (k9 / 100) % 10) (b := 0) rfl rfl (by omega) (by omega)).mp z5
            refine v_iload O dX10_holds_188 8 rfl ?_
            refine v_iload O dX10_holds_190 7 rfl ?_
            refine v_top (y := nI k9) (e9) ?_
            refine v_bipush (v := 100) O dX10_holds_192 (by decide) ?_
            refine v_irem O dX10_holds_194 (by decide) ?_
            refine v_top (y := nI (k9 % 100)) (pk_rem (a := k9) (d := 100) (by omega) (by decide) (by decide)) ?_
            refine v_icmp_ge O 202 dX10_holds_195 (by decide) (fun z6 => ?_) (fun z6 => ?_)
            · skip
              refine v_iconst (v := 0) O dX10_holds_202 (by decide) ?_
              refine v_goto O 245 dX10_holds_203 (by decide) ?_
              refine v_zastk (ws' := [((ma 13), eI D 6 cls), ((ma 14), eI D 60 wd), ((ma 15), eI D 60 nu), ((ma 16), eI D 60 fr), ((ma 17), eI D 60 tt9), ((ma 18), eI D 600 sf), ((ma 24), eZ D 100 (upd pf s.length (vp_nar .boolean 0))), (mo, .inr (10, M1R ma (mZ c c2 tk vc ln rn zs_10 zs_11 zs_20 zs_21 zs_22 zs_25 zs_26 zs_27 zs_29))), ((ma 4), eI D 6 (nF c.kk)), ((ma 5), eI D 6 (nF c.vv))]) O dX10_holds_245 6 rfl s.length (rfl) (by omega) (by decide) (rfl) ?_
              refine v_iinc (v := nI (s.length + 1)) (lv' := [(0, .ref mo), (1, .int (nI cl)), (2, .int (nI i)), (3, .int (nI zw)), (4, .int (nI h)), (5, .int (nI (s.length + 1))), (6, .int (nI (a + m))), (7, .int t9), (8, .int ((ffR i (c.kk i) (c.vv i) zw h) (k9 / 1000))), (9, .int (nI ((k9 / 100) % 10)))]) O dX10_holds_246 5 rfl (nI_1 s.length) (by decide) rfl ?_
              refine v_iinc (v := nI (a + m + 1)) (lv' := [(0, .ref mo), (1, .int (nI cl)), (2, .int (nI i)), (3, .int (nI zw)), (4, .int (nI h)), (5, .int (nI (s.length + 1))), (6, .int (nI (a + m + 1))), (7, .int t9), (8, .int ((ffR i (c.kk i) (c.vv i) zw h) (k9 / 1000))), (9, .int (nI ((k9 / 100) % 10)))]) O dX10_holds_249 6 rfl (nI_1 (a + m)) (by decide) rfl ?_
              refine v_goto O 11 dX10_holds_252 (by decide) ?_
              refine v_lvp (lv' := [(0, .ref mo), (1, .int (nI cl)), (2, .int (nI i)), (3, .int (nI zw)), (4, .int (nI h)), (5, .int (nI (s.length + 1))), (6, .int (nI (a + m + 1)))]) [0, 1, 2, 3, 4, 5, 6] rfl ?_
              refine v_sub (ws' := [(mo, .inr (10, M1R ma (mZ c c2 tk vc ln rn zs_10 zs_11 zs_20 zs_21 zs_22 zs_25 zs_26 zs_27 zs_29))), ((ma 4), eI D 6 (nF c.kk)), ((ma 5), eI D 6 (nF c.vv)), ((ma 13), eI D 6 cls), ((ma 14), eI D 60 wd), ((ma 15), eI D 60 nu), ((ma 16), eI D 60 fr), ((ma 17), eI D 60 tt9), ((ma 18), eI D 600 sf), ((ma 24), eZ D 100 (upd pf s.length (vp_nar .boolean 0)))]) [7, 8, 9, 0, 1, 2, 3, 4, 5, 6] (by decide) rfl ?_
              exact ih (m + 1) (by omega) (_ :: s) _ (pst_up h1 (cv_f (by unfold cmpF; rw [if_pos z5]; exact fun q => absurd q (Int32.not_lt.mpr z6)))) (by rw [List.length_cons]; omega) h5
            · skip
              refine v_iconst (v := 1) O dX10_holds_198 (by decide) ?_
              refine v_goto O 245 dX10_holds_199 (by decide) ?_
              refine v_zastk (ws' := [((ma 13), eI D 6 cls), ((ma 14), eI D 60 wd), ((ma 15), eI D 60 nu), ((ma 16), eI D 60 fr), ((ma 17), eI D 60 tt9), ((ma 18), eI D 600 sf), ((ma 24), eZ D 100 (upd pf s.length (vp_nar .boolean 1))), (mo, .inr (10, M1R ma (mZ c c2 tk vc ln rn zs_10 zs_11 zs_20 zs_21 zs_22 zs_25 zs_26 zs_27 zs_29))), ((ma 4), eI D 6 (nF c.kk)), ((ma 5), eI D 6 (nF c.vv))]) O dX10_holds_245 6 rfl s.length (rfl) (by omega) (by decide) (rfl) ?_
              refine v_iinc (v := nI (s.length + 1)) (lv' := [(0, .ref mo), (1, .int (nI cl)), (2, .int (nI i)), (3, .int (nI zw)), (4, .int (nI h)), (5, .int (nI (s.length + 1))), (6, .int (nI (a + m))), (7, .int t9), (8, .int ((ffR i (c.kk i) (c.vv i) zw h) (k9 / 1000))), (9, .int (nI ((k9 / 100) % 10)))]) O dX10_holds_246 5 rfl (nI_1 s.length) (by decide) rfl ?_
              refine v_iinc (v := nI (a + m + 1)) (lv' := [(0, .ref mo), (1, .int (nI cl)), (2, .int (nI i)), (3, .int (nI zw)), (4, .int (nI h)), (5, .int (nI (s.length + 1))), (6, .int (nI (a + m + 1))), (7, .int t9), (8, .int ((ffR i (c.kk i) (c.vv i) zw h) (k9 / 1000))), (9, .int (nI ((k9 / 100) % 10)))]) O dX10_holds_249 6 rfl (nI_1 (a + m)) (by decide) rfl ?_
              refine v_goto O 11 dX10_holds_252 (by decide) ?_
              refine v_lvp (lv' := [(0, .ref mo), (1, .int (nI cl)), (2, .int (nI i)), (3, .int (nI zw)), (4, .int (nI h)), (5, .int (nI (s.length + 1))), (6, .int (nI (a + m + 1)))]) [0, 1, 2, 3, 4, 5, 6] rfl ?_
              refine v_sub (ws' := [(mo, .inr (10, M1R ma (mZ c c2 tk vc ln rn zs_10 zs_11 zs_20 zs_21 zs_22 zs_25 zs_26 zs_27 zs_29))), ((ma 4), eI D 6 (nF c.kk)), ((ma 5), eI D 6 (nF c.vv)), ((ma 13), eI D 6 cls), ((ma 14), eI D 60 wd), ((ma 15), eI D 60 nu), ((ma 16), eI D 60 fr), ((ma 17), eI D 60 tt9), ((ma 18), eI D 600 sf), ((ma 24), eZ D 100 (upd pf s.length (vp_nar .boolean 1)))]) [7, 8, 9, 0, 1, 2, 3, 4, 5, 6] (by decide) rfl ?_
              exact ih (m + 1) (by omega) (_ :: s) _ (pst_up h1 (cv_t (by unfold cmpF; rw [if_pos z5]; exact Int32.not_le.mp z6))) (by rw [List.length_cons]; omega) h5
        · skip
          rw [strF_c] at h3
          have h4 : (runS _ (sf (a + m)) s).bind _ = some [b] := h3
          rw [← e_t9] at h4
          obtain ⟨b9, a9, s9, e9, h5⟩ := rn_op h4 z1 (Int32.not_le.mp z2)
          subst e9
          rw [List.length_cons, List.length_cons] at h2
          refine v_eq (lv' := [(0, .ref mo), (1, .int (nI cl)), (2, .int (nI i)), (3, .int (nI zw)), (4, .int (nI h)), (5, .int (nI (s9.length + 1 + 1))), (6, .int (nI (a + m))), (7, .int t9)]) rfl rfl rfl rfl ?_
          refine v_iinc (v := nI (s9.length + 1)) (lv' := [(0, .ref mo), (1, .int (nI cl)), (2, .int (nI i)), (3, .int (nI zw)), (4, .int (nI h)), (5, .int (nI (s9.length + 1))), (6, .int (nI (a + m))), (7, .int t9)]) O dX10_holds_72 5 rfl (pk_m1 _) (by decide) rfl ?_
          refine v_aload_n O dX10_holds_75 0 rfl ?_
          refine gf_X10_83 (v := .ref (ma 24)) O rfl dX10_holds_76 0 rfl rfl ?_
          refine v_iload O dX10_holds_79 5 rfl ?_
          refine v_iconst (v := 1) O dX10_holds_81 (by decide) ?_
          refine v_isub O dX10_holds_82 ?_
          refine v_top (y := nI s9.length) (nI_p _) ?_
          refine v_iload O dX10_holds_83 7 rfl ?_
          refine v_bipush (v := -38) O dX10_holds_85 (by decide) ?_
          refine v_icmp_ne O 120 dX10_holds_87 (by decide) (fun z3 => ?_) (fun z3 => ?_)
          · skip
            refine v_aload_n O dX10_holds_120 0 rfl ?_
            refine gf_X10_83 (v := .ref (ma 24)) O rfl dX10_holds_121 0 rfl rfl ?_
            refine v_iload O dX10_holds_124 5 rfl ?_
            refine v_iconst (v := 1) O dX10_holds_126 (by decide) ?_
            refine v_isub O dX10_holds_127 ?_
            refine v_top (y := nI s9.length) (nI_p _) ?_
            refine v_zaldk O dX10_holds_128 9 rfl s9.length rfl (by omega) (by decide) ?_
            refine v_top (y := bI a9) (h1.2.1) ?_
            refine v_if_ne O 142 dX10_holds_129 (by decide) (fun z4 => ?_) (fun z4 => ?_)
            · skip
              refine v_iconst (v := 1) O dX10_holds_142 (by decide) ?_
              refine v_goto O 147 dX10_holds_143 (by decide) ?_
              refine v_zastk (ws' := [(mo, .inr (10, M1R ma (mZ c c2 tk vc ln rn zs_10 zs_11 zs_20 zs_21 zs_22 zs_25 zs_26 zs_27 zs_29))), ((ma 4), eI D 6 (nF c.kk)), ((ma 5), eI D 6 (nF c.vv)), ((ma 13), eI D 6 cls), ((ma 14), eI D 60 wd), ((ma 15), eI D 60 nu), ((ma 16), eI D 60 fr), ((ma 17), eI D 60 tt9), ((ma 18), eI D 600 sf), ((ma 24), eZ D 100 (upd pf s9.length (vp_nar .boolean 1)))]) O dX10_holds_147 9 rfl s9.length (rfl) (by omega) (by decide) (rfl) ?_
              refine v_goto O 249 dX10_holds_148 (by decide) ?_
              refine v_iinc (v := nI (a + m + 1)) (lv' := [(0, .ref mo), (1, .int (nI cl)), (2, .int (nI i)), (3, .int (nI zw)), (4, .int (nI h)), (5, .int (nI (s9.length + 1))), (6, .int (nI (a + m + 1))), (7, .int t9)]) O dX10_holds_249 6 rfl (nI_1 (a + m)) (by decide) rfl ?_
              refine v_goto O 11 dX10_holds_252 (by decide) ?_
              refine v_lvp (lv' := [(0, .ref mo), (1, .int (nI cl)), (2, .int (nI i)), (3, .int (nI zw)), (4, .int (nI h)), (5, .int (nI (s9.length + 1))), (6, .int (nI (a + m + 1)))]) [0, 1, 2, 3, 4, 5, 6] rfl ?_
              exact ih (m + 1) (by omega) ((if t9 = -38 then (a9 && b9) else (a9 || b9)) :: s9) _ (pst_up h1.2.2 (by rw [if_neg z3, bI_1 z4]; cases b9 <;> rfl)) (by rw [List.length_cons]; omega) h5
            · skip
              refine v_aload_n O dX10_holds_132 0 rfl ?_
              refine gf_X10_83 (v := .ref (ma 24)) O rfl dX10_holds_133 0 rfl rfl ?_
              refine v_iload O dX10_holds_136 5 rfl ?_
              refine v_zaldk O dX10_holds_138 9 rfl (s9.length + 1) rfl (by omega) (by decide) ?_
              refine v_top (y := bI b9) (h1.1) ?_
              refine v_if_eq O 146 dX10_holds_139 (by decide) (fun z5 => ?_) (fun z5 => ?_)
              · skip
                refine v_iconst (v := 0) O dX10_holds_146 (by decide) ?_
                refine v_zastk (ws' := [(mo, .inr (10, M1R ma (mZ c c2 tk vc ln rn zs_10 zs_11 zs_20 zs_21 zs_22 zs_25 zs_26 zs_27 zs_29))), ((ma 4), eI D 6 (nF c.kk)), ((ma 5), eI D 6 (nF c.vv)), ((ma 13), eI D 6 cls), ((ma 14), eI D 60 wd), ((ma 15), eI D 60 nu), ((ma 16), eI D 60 fr), ((ma 17), eI D 60 tt9), ((ma 18), eI D 600 sf), ((ma 24), eZ D 100 (upd pf s9.length (vp_nar .boolean 0)))]) O dX10_holds_147 9 rfl s9.length (rfl) (by omega) (by decide) (rfl) ?_
                refine v_goto O 249 dX10_holds_148 (by decide) ?_
                refine v_iinc (v := nI (a + m + 1)) (lv' := [(0, .ref mo), (1, .int (nI cl)), (2, .int (nI i)), (3, .int (nI zw)), (4, .int (nI h)), (5, .int (nI (s9.length + 1))), (6, .int (nI (a + m + 1))), (7, .int t9)]) O dX10_holds_249 6 rfl (nI_1 (a + m)) (by decide) rfl ?_
                refine v_goto O 11 dX10_holds_252 (by decide) ?_
                refine v_lvp (lv' := [(0, .ref mo), (1, .int (nI cl)), (2, .int (nI i)), (3, .int (nI zw)), (4, .int (nI h)), (5, .int (nI (s9.length + 1))), (6, .int (nI (a + m + 1)))]) [0, 1, 2, 3, 4, 5, 6] rfl ?_
                exact ih (m + 1) (by omega) ((if t9 = -38 then (a9 && b9) else (a9 || b9)) :: s9) _ (pst_up h1.2.2 (by rw [if_neg z3, bI_0 z4, bI_0 z5]; rfl)) (by rw [List.length_cons]; omega) h5
              · skip
                refine v_iconst (v := 1) O dX10_holds_142 (by decide) ?_
                refine v_goto O 147 dX10_holds_143 (by decide) ?_
                refine v_zastk (ws' := [(mo, .inr (10, M1R ma (mZ c c2 tk vc ln rn zs_10 zs_11 zs_20 zs_21 zs_22 zs_25 zs_26 zs_27 zs_29))), ((ma 4), eI D 6 (nF c.kk)), ((ma 5), eI D 6 (nF c.vv)), ((ma 13), eI D 6 cls), ((ma 14), eI D 60 wd), ((ma 15), eI D 60 nu), ((ma 16), eI D 60 fr), ((ma 17), eI D 60 tt9), ((ma 18), eI D 600 sf), ((ma 24), eZ D 100 (upd pf s9.length (vp_nar .boolean 1)))]) O dX10_holds_147 9 rfl s9.length (rfl) (by omega) (by decide) (rfl) ?_
                refine v_goto O 249 dX10_holds_148 (by decide) ?_
                refine v_iinc (v := nI (a + m + 1)) (lv' := [(0, .ref mo), (1, .int (nI cl)), (2, .int (nI i)), (3, .int (nI zw)), (4, .int (nI h)), (5, .int (nI (s9.length + 1))), (6, .int (nI (a + m + 1))), (7, .int t9)]) O dX10_holds_249 6 rfl (nI_1 (a + m)) (by decide) rfl ?_
                refine v_goto O 11 dX10_holds_252 (by decide) ?_
                refine v_lvp (lv' := [(0, .ref mo), (1, .int (nI cl)), (2, .int (nI i)), (3, .int (nI zw)), (4, .int (nI h)), (5, .int (nI (s9.length + 1))), (6, .int (nI (a + m + 1)))]) [0, 1, 2, 3, 4, 5, 6] rfl ?_
                exact ih (m + 1) (by omega) ((if t9 = -38 then (a9 && b9) else (a9 || b9)) :: s9) _ (pst_up h1.2.2 (by rw [if_neg z3, bI_0 z4, bI_1 z5]; rfl)) (by rw [List.length_cons]; omega) h5
          · skip
            refine v_aload_n O dX10_holds_90 0 rfl ?_
            refine gf_X10_83 (v := .ref (ma 24)) O rfl dX10_holds_91 0 rfl rfl ?_
            refine v_iload O dX10_holds_94 5 rfl ?_
            refine v_iconst (v := 1) O dX10_holds_96 (by decide) ?_
            refine v_isub O dX10_holds_97 ?_
            refine v_top (y := nI s9.length) (nI_p _) ?_
            refine v_zaldk O dX10_holds_98 9 rfl s9.length rfl (by omega) (by decide) ?_
            refine v_top (y := bI a9) (h1.2.1) ?_
            refine v_if_eq O 116 dX10_holds_99 (by decide) (fun z4 => ?_) (fun z4 => ?_)
            · skip
              refine v_iconst (v := 0) O dX10_holds_116 (by decide) ?_
              refine v_goto O 147 dX10_holds_117 (by decide) ?_
              refine v_zastk (ws' := [(mo, .inr (10, M1R ma (mZ c c2 tk vc ln rn zs_10 zs_11 zs_20 zs_21 zs_22 zs_25 zs_26 zs_27 zs_29))), ((ma 4), eI D 6 (nF c.kk)), ((ma 5), eI D 6 (nF c.vv)), ((ma 13), eI D 6 cls), ((ma 14), eI D 60 wd), ((ma 15), eI D 60 nu), ((ma 16), eI D 60 fr), ((ma 17), eI D 60 tt9), ((ma 18), eI D 600 sf), ((ma 24), eZ D 100 (upd pf s9.length (vp_nar .boolean 0)))]) O dX10_holds_147 9 rfl s9.length (rfl) (by omega) (by decide) (rfl) ?_
              refine v_goto O 249 dX10_holds_148 (by decide) ?_
              refine v_iinc (v := nI (a + m + 1)) (lv' := [(0, .ref mo), (1, .int (nI cl)), (2, .int (nI i)), (3, .int (nI zw)), (4, .int (nI h)), (5, .int (nI (s9.length + 1))), (6, .int (nI (a + m + 1))), (7, .int t9)]) O dX10_holds_249 6 rfl (nI_1 (a + m)) (by decide) rfl ?_
              refine v_goto O 11 dX10_holds_252 (by decide) ?_
              refine v_lvp (lv' := [(0, .ref mo), (1, .int (nI cl)), (2, .int (nI i)), (3, .int (nI zw)), (4, .int (nI h)), (5, .int (nI (s9.length + 1))), (6, .int (nI (a + m + 1)))]) [0, 1, 2, 3, 4, 5, 6] rfl ?_
              exact ih (m + 1) (by omega) ((if t9 = -38 then (a9 && b9) else (a9 || b9)) :: s9) _ (pst_up h1.2.2 (by rw [if_pos z3, bI_0 z4]; cases b9 <;> rfl)) (by rw [List.length_cons]; omega) h5
            · skip
              refine v_aload_n O dX10_holds_102 0 rfl ?_
              refine gf_X10_83 (v := .ref (ma 24)) O rfl dX10_holds_103 0 rfl rfl ?_
              refine v_iload O dX10_holds_106 5 rfl ?_
              refine v_zaldk O dX10_holds_108 9 rfl (s9.length + 1) rfl (by omega) (by decide) ?_
              refine v_top (y := bI b9) (h1.1) ?_
              refine v_if_eq O 116 dX10_holds_109 (by decide) (fun z5 => ?_) (fun z5 => ?_)
              · skip
                refine v_iconst (v := 0) O dX10_holds_116 (by decide) ?_
                refine v_goto O 147 dX10_holds_117 (by decide) ?_
                refine v_zastk (ws' := [(mo, .inr (10, M1R ma (mZ c c2 tk vc ln rn zs_10 zs_11 zs_20 zs_21 zs_22 zs_25 zs_26 zs_27 zs_29))), ((ma 4), eI D 6 (nF c.kk)), ((ma 5), eI D 6 (nF c.vv)), ((ma 13), eI D 6 cls), ((ma 14), eI D 60 wd), ((ma 15), eI D 60 nu), ((ma 16), eI D 60 fr), ((ma 17), eI D 60 tt9), ((ma 18), eI D 600 sf), ((ma 24), eZ D 100 (upd pf s9.length (vp_nar .boolean 0)))]) O dX10_holds_147 9 rfl s9.length (rfl) (by omega) (by decide) (rfl) ?_
                refine v_goto O 249 dX10_holds_148 (by decide) ?_
                refine v_iinc (v := nI (a + m + 1)) (lv' := [(0, .ref mo), (1, .int (nI cl)), (2, .int (nI i)), (3, .int (nI zw)), (4, .int (nI h)), (5, .int (nI (s9.length + 1))), (6, .int (nI (a + m + 1))), (7, .int t9)]) O dX10_holds_249 6 rfl (nI_1 (a + m)) (by decide) rfl ?_
                refine v_goto O 11 dX10_holds_252 (by decide) ?_
                refine v_lvp (lv' := [(0, .ref mo), (1, .int (nI cl)), (2, .int (nI i)), (3, .int (nI zw)), (4, .int (nI h)), (5, .int (nI (s9.length + 1))), (6, .int (nI (a + m + 1)))]) [0, 1, 2, 3, 4, 5, 6] rfl ?_
                exact ih (m + 1) (by omega) ((if t9 = -38 then (a9 && b9) else (a9 || b9)) :: s9) _ (pst_up h1.2.2 (by rw [if_pos z3, bI_1 z4, bI_0 z5]; rfl)) (by rw [List.length_cons]; omega) h5
              · skip
                refine v_iconst (v := 1) O dX10_holds_112 (by decide) ?_
                refine v_goto O 147 dX10_holds_113 (by decide) ?_
                refine v_zastk (ws' := [(mo, .inr (10, M1R ma (mZ c c2 tk vc ln rn zs_10 zs_11 zs_20 zs_21 zs_22 zs_25 zs_26 zs_27 zs_29))), ((ma 4), eI D 6 (nF c.kk)), ((ma 5), eI D 6 (nF c.vv)), ((ma 13), eI D 6 cls), ((ma 14), eI D 60 wd), ((ma 15), eI D 60 nu), ((ma 16), eI D 60 fr), ((ma 17), eI D 60 tt9), ((ma 18), eI D 600 sf), ((ma 24), eZ D 100 (upd pf s9.length (vp_nar .boolean 1)))]) O dX10_holds_147 9 rfl s9.length (rfl) (by omega) (by decide) (rfl) ?_
                refine v_goto O 249 dX10_holds_148 (by decide) ?_
                refine v_iinc (v := nI (a + m + 1)) (lv' := [(0, .ref mo), (1, .int (nI cl)), (2, .int (nI i)), (3, .int (nI zw)), (4, .int (nI h)), (5, .int (nI (s9.length + 1))), (6, .int (nI (a + m + 1))), (7, .int t9)]) O dX10_holds_249 6 rfl (nI_1 (a + m)) (by decide) rfl ?_
                refine v_goto O 11 dX10_holds_252 (by decide) ?_
                refine v_lvp (lv' := [(0, .ref mo), (1, .int (nI cl)), (2, .int (nI i)), (3, .int (nI zw)), (4, .int (nI h)), (5, .int (nI (s9.length + 1))), (6, .int (nI (a + m + 1)))]) [0, 1, 2, 3, 4, 5, 6] rfl ?_
                exact ih (m + 1) (by omega) ((if t9 = -38 then (a9 && b9) else (a9 || b9)) :: s9) _ (pst_up h1.2.2 (by rw [if_pos z3, bI_1 z4, bI_1 z5]; rfl)) (by rw [List.length_cons]; omega) h5
      · skip
        rw [strF_c] at h3
        have h4 : (runS _ (sf (a + m)) s).bind _ = some [b] := h3
        rw [← e_t9, z1] at h4
        obtain ⟨b9, s9, e9, h5⟩ := rn_not h4
        subst e9
        rw [List.length_cons] at h2
        refine v_eq (lv' := [(0, .ref mo), (1, .int (nI cl)), (2, .int (nI i)), (3, .int (nI zw)), (4, .int (nI h)), (5, .int (nI (s9.length + 1))), (6, .int (nI (a + m))), (7, .int t9)]) rfl rfl rfl rfl ?_
        refine v_aload_n O dX10_holds_38 0 rfl ?_
        refine gf_X10_83 (v := .ref (ma 24)) O rfl dX10_holds_39 0 rfl rfl ?_
        refine v_iload O dX10_holds_42 5 rfl ?_
        refine v_iconst (v := 1) O dX10_holds_44 (by decide) ?_
        refine v_isub O dX10_holds_45 ?_
        refine v_top (y := nI s9.length) (nI_p _) ?_
        refine v_aload_n O dX10_holds_46 0 rfl ?_
        refine gf_X10_83 (v := .ref (ma 24)) O rfl dX10_holds_47 0 rfl rfl ?_
        refine v_iload O dX10_holds_50 5 rfl ?_
        refine v_iconst (v := 1) O dX10_holds_52 (by decide) ?_
        refine v_isub O dX10_holds_53 ?_
        refine v_top (y := nI s9.length) (nI_p _) ?_
        refine v_zaldk O dX10_holds_54 9 rfl s9.length rfl (by omega) (by decide) ?_
        refine v_top (y := bI b9) (h1.1) ?_
        refine v_if_ne O 62 dX10_holds_55 (by decide) (fun z3 => ?_) (fun z3 => ?_)
        · skip
          refine v_iconst (v := 0) O dX10_holds_62 (by decide) ?_
          refine v_zastk (ws' := [(mo, .inr (10, M1R ma (mZ c c2 tk vc ln rn zs_10 zs_11 zs_20 zs_21 zs_22 zs_25 zs_26 zs_27 zs_29))), ((ma 4), eI D 6 (nF c.kk)), ((ma 5), eI D 6 (nF c.vv)), ((ma 13), eI D 6 cls), ((ma 14), eI D 60 wd), ((ma 15), eI D 60 nu), ((ma 16), eI D 60 fr), ((ma 17), eI D 60 tt9), ((ma 18), eI D 600 sf), ((ma 24), eZ D 100 (upd pf s9.length (vp_nar .boolean 0)))]) O dX10_holds_63 9 rfl s9.length (rfl) (by omega) (by decide) (rfl) ?_
          refine v_goto O 249 dX10_holds_64 (by decide) ?_
          refine v_iinc (v := nI (a + m + 1)) (lv' := [(0, .ref mo), (1, .int (nI cl)), (2, .int (nI i)), (3, .int (nI zw)), (4, .int (nI h)), (5, .int (nI (s9.length + 1))), (6, .int (nI (a + m + 1))), (7, .int t9)]) O dX10_holds_249 6 rfl (nI_1 (a + m)) (by decide) rfl ?_
          refine v_goto O 11 dX10_holds_252 (by decide) ?_
          refine v_lvp (lv' := [(0, .ref mo), (1, .int (nI cl)), (2, .int (nI i)), (3, .int (nI zw)), (4, .int (nI h)), (5, .int (nI (s9.length + 1))), (6, .int (nI (a + m + 1)))]) [0, 1, 2, 3, 4, 5, 6] rfl ?_
          exact ih (m + 1) (by omega) ((!b9) :: s9) _ (pst_up h1.2 (by rw [bI_1 z3]; rfl)) (by rw [List.length_cons]; omega) h5
        · skip
          refine v_iconst (v := 1) O dX10_holds_58 (by decide) ?_
          refine v_goto O 63 dX10_holds_59 (by decide) ?_
          refine v_zastk (ws' := [(mo, .inr (10, M1R ma (mZ c c2 tk vc ln rn zs_10 zs_11 zs_20 zs_21 zs_22 zs_25 zs_26 zs_27 zs_29))), ((ma 4), eI D 6 (nF c.kk)), ((ma 5), eI D 6 (nF c.vv)), ((ma 13), eI D 6 cls), ((ma 14), eI D 60 wd), ((ma 15), eI D 60 nu), ((ma 16), eI D 60 fr), ((ma 17), eI D 60 tt9), ((ma 18), eI D 600 sf), ((ma 24), eZ D 100 (upd pf s9.length (vp_nar .boolean 1)))]) O dX10_holds_63 9 rfl s9.length (rfl) (by omega) (by decide) (rfl) ?_
          refine v_goto O 249 dX10_holds_64 (by decide) ?_
          refine v_iinc (v := nI (a + m + 1)) (lv' := [(0, .ref mo), (1, .int (nI cl)), (2, .int (nI i)), (3, .int (nI zw)), (4, .int (nI h)), (5, .int (nI (s9.length + 1))), (6, .int (nI (a + m + 1))), (7, .int t9)]) O dX10_holds_249 6 rfl (nI_1 (a + m)) (by decide) rfl ?_
          refine v_goto O 11 dX10_holds_252 (by decide) ?_
          refine v_lvp (lv' := [(0, .ref mo), (1, .int (nI cl)), (2, .int (nI i)), (3, .int (nI zw)), (4, .int (nI h)), (5, .int (nI (s9.length + 1))), (6, .int (nI (a + m + 1)))]) [0, 1, 2, 3, 4, 5, 6] rfl ?_
          exact ih (m + 1) (by omega) ((!b9) :: s9) _ (pst_up h1.2 (by rw [bI_0 z3]; rfl)) (by rw [List.length_cons]; omega) h5
set_option maxRecDepth 100000 in
set_option maxHeartbeats 4000000 in
theorem sp_X10_holds {D : G} {mo : Nat} {ma : Nat → Nat} {c : CS} {c2 : CS} {tk : Int32} {vc : Nat} {ln : Nat} {rn : Nat} {zs_10 : Int32} {zs_11 : Int32} {zs_20 : Int32} {zs_21 : Int32} {zs_22 : Int32} {zs_25 : Int32} {zs_26 : Int32} {zs_27 : Int32} {zs_29 : Int32} {wd : Nat → Int32} {nu : Nat → Int32} {fr : Nat → Int32} {tt9 : Nat → Int32} {sf : Nat → Int32} {cls : Nat → Int32} {pf : Nat → Int32} {cl : Nat} {i : Nat} {zw : Nat} {h : Nat} {a : Nat} {k : Nat} {b : Bool} (hi : i < 6) (hw : zw < 1000000) (hh : h < 2000000) (hc : cl < 60) (ha : fr cl = nI a) (hk : tt9 cl = nI (a + k)) (hk1 : k ≤ 100) (hk2 : a + k ≤ 600) (hr : runR (ffR i (c.kk i) (c.vv i) zw h) (strF sf a k) [] = some [b]) : Sp D mX10_holds 1 0 0 [.ref mo, .int (nI cl), .int (nI i), .int (nI zw), .int (nI h)] [(mo, .inr (10, M1R ma (mZ c c2 tk vc ln rn zs_10 zs_11 zs_20 zs_21 zs_22 zs_25 zs_26 zs_27 zs_29))), ((ma 4), eI D 6 (nF c.kk)), ((ma 5), eI D 6 (nF c.vv)), ((ma 13), eI D 6 cls), ((ma 14), eI D 60 wd), ((ma 15), eI D 60 nu), ((ma 16), eI D 60 fr), ((ma 17), eI D 60 tt9), ((ma 18), eI D 600 sf), ((ma 24), eZ D 100 pf)] (fun r w => ∃ pf2 : Nat → Int32, r = some (.int (b2i (b = true))) ∧ w = [(mo, .inr (10, M1R ma (mZ c c2 tk vc ln rn zs_10 zs_11 zs_20 zs_21 zs_22 zs_25 zs_26 zs_27 zs_29))), ((ma 4), eI D 6 (nF c.kk)), ((ma 5), eI D 6 (nF c.vv)), ((ma 13), eI D 6 cls), ((ma 14), eI D 60 wd), ((ma 15), eI D 60 nu), ((ma 16), eI D 60 fr), ((ma 17), eI D 60 tt9), ((ma 18), eI D 600 sf), ((ma 24), eZ D 100 pf2)]) := by
  refine Sp.of (by decide) (Nat.le_of_ble_eq_true rfl) (fun X O T => ?_)
  refine v_eq (lv' := [(0, .ref mo), (1, .int (nI cl)), (2, .int (nI i)), (3, .int (nI zw)), (4, .int (nI h))]) rfl rfl rfl rfl ?_
  refine v_iconst (v := 0) O dX10_holds_0 (by decide) ?_
  refine v_istore (lv' := [(0, .ref mo), (1, .int (nI cl)), (2, .int (nI i)), (3, .int (nI zw)), (4, .int (nI h)), (5, .int 0)]) O dX10_holds_1 (by decide) rfl ?_
  refine v_aload_n O dX10_holds_3 0 rfl ?_
  refine gf_X10_59 (v := .ref (ma 16)) O rfl dX10_holds_4 0 rfl rfl ?_
  refine v_iload_n O dX10_holds_7 1 rfl ?_
  refine v_ialdk O dX10_holds_8 6 rfl cl rfl (by omega) (by decide) ?_
  refine v_top (y := nI a) (ha) ?_
  refine v_istore (lv' := [(0, .ref mo), (1, .int (nI cl)), (2, .int (nI i)), (3, .int (nI zw)), (4, .int (nI h)), (5, .int 0), (6, .int (nI a))]) O dX10_holds_9 (by decide) rfl ?_
  refine v_eq (lv' := [(0, .ref mo), (1, .int (nI cl)), (2, .int (nI i)), (3, .int (nI zw)), (4, .int (nI h)), (5, .int (nI (([] : List Bool).length))), (6, .int (nI (a + 0)))]) rfl rfl rfl rfl ?_
  exact l_X10_holds O hi hw hh hc ha hk hk1 hk2 hr T k 0 (by omega) [] pf trivial (Nat.le_refl _) hr
set_option maxRecDepth 100000 in
set_option maxHeartbeats 4000000 in
theorem l_X10_sumOf1 {D : G} {X : CX} {mo : Nat} {ma : Nat → Nat} {c : CS} {c2 : CS} {tk : Int32} {vc : Nat} {ln : Nat} {rn : Nat} {zs_10 : Int32} {zs_11 : Int32} {zs_20 : Int32} {zs_21 : Int32} {zs_22 : Int32} {zs_25 : Int32} {zs_26 : Int32} {zs_27 : Int32} {zs_29 : Int32} {wd : Nat → Int32} {nu : Nat → Int32} {fr : Nat → Int32} {tt9 : Nat → Int32} {sf : Nat → Int32} {cls : Nat → Int32} {bg : Nat} {bn : Nat} {v : VS} {i : Nat} {zw : Nat} {h : Nat} (O : Ok D X mX10_sumOf 2 0 0) (hB9 : hB c.held cls bg bn) (hM : MR wd nu fr tt9 sf bg bn v) (hi : i < 6) (hw : zw < 1000000) (hh : h < 2000000) (T : Rt D X (fun r w => ∃ pf2 : Nat → Int32, r = some (.int (nI (sumR wd nu fr tt9 sf (ffR i (c.kk i) (c.vv i) zw h) 1 bg bn))) ∧ w = [(mo, .inr (10, M1R ma (mZ c c2 tk vc ln rn zs_10 zs_11 zs_20 zs_21 zs_22 zs_25 zs_26 zs_27 zs_29))), ((ma 4), eI D 6 (nF c.kk)), ((ma 5), eI D 6 (nF c.vv)), ((ma 13), eI D 6 cls), ((ma 14), eI D 60 wd), ((ma 15), eI D 60 nu), ((ma 16), eI D 60 fr), ((ma 17), eI D 60 tt9), ((ma 18), eI D 600 sf), ((ma 24), eZ D 100 pf2)]) 0 0) : ∀ (t j : Nat), j + t = bn → ∀ (x : Nat) (pf : Nat → Int32), x = sumR wd nu fr tt9 sf (ffR i (c.kk i) (c.vv i) zw h) 1 bg j → V D X 0 0 9 [(0, .ref mo), (1, .int 1), (2, .int (nI i)), (3, .int (nI zw)), (4, .int (nI h)), (5, .int (nI x)), (6, .int (nI (bg + j)))] [] [(mo, .inr (10, M1R ma (mZ c c2 tk vc ln rn zs_10 zs_11 zs_20 zs_21 zs_22 zs_25 zs_26 zs_27 zs_29))), ((ma 4), eI D 6 (nF c.kk)), ((ma 5), eI D 6 (nF c.vv)), ((ma 13), eI D 6 cls), ((ma 14), eI D 60 wd), ((ma 15), eI D 60 nu), ((ma 16), eI D 60 fr), ((ma 17), eI D 60 tt9), ((ma 18), eI D 600 sf), ((ma 24), eZ D 100 pf)] := by
  intro t
  induction t with
  | zero =>
    intro j hj x pf hx
    have m2 := hM.2.1
    refine v_iload O dX10_sumOf_9 6 rfl ?_
    refine v_aload_n O dX10_sumOf_11 0 rfl ?_
    refine v_cV (T := TX10) (ci := 10) (As := []) (wr := []) (st := [.int (nI (bg + j))]) O cf_X10_241 rfl (sp_X10_behind (mo := mo) (ma := ma) (c := c) (c2 := c2) (tk := tk) (vc := vc) (ln := ln) (rn := rn) (zs_10 := zs_10) (zs_11 := zs_11) (zs_20 := zs_20) (zs_21 := zs_21) (zs_22 := zs_22) (zs_25 := zs_25) (zs_26 := zs_26) (zs_27 := zs_27) (zs_29 := zs_29) (wd := wd) (nu := nu) (fr := fr) (tt9 := tt9) (sf := sf) (cls := cls) (pf := pf) (bg := bg) (bn := bn) (hB9)) dX10_sumOf_12 rfl rfl 0 rfl [0, 1, 2, 3, 4, 5, 6, 7, 8, 9] [] (by decide) rfl rfl (by decide) (by decide) (by decide) (Nat.le_of_ble_eq_true rfl) (by decide) (by decide) (fun r_2 w_3 h_1 => ?_)
    obtain ⟨rfl, rfl⟩ := h_1
    refine v_eq (st' := [.int (nI (bg + bn)), .int (nI (bg + j))]) (ws' := [(mo, .inr (10, M1R ma (mZ c c2 tk vc ln rn zs_10 zs_11 zs_20 zs_21 zs_22 zs_25 zs_26 zs_27 zs_29))), ((ma 4), eI D 6 (nF c.kk)), ((ma 5), eI D 6 (nF c.vv)), ((ma 13), eI D 6 cls), ((ma 14), eI D 60 wd), ((ma 15), eI D 60 nu), ((ma 16), eI D 60 fr), ((ma 17), eI D 60 tt9), ((ma 18), eI D 600 sf), ((ma 24), eZ D 100 pf)]) rfl rfl rfl rfl ?_
    refine v_icmp_ge O 64 dX10_sumOf_15 (by decide) (fun z1 => ?_) (fun z1 => ?_)
    · skip
      have z1 := (c_le' (x := nI (bg + j)) (y := nI (bg + bn)) (a := bg + j) (b := bg + bn) rfl rfl (by omega) (by omega)).mp z1
      refine v_iload O dX10_sumOf_64 5 rfl ?_
      exact v_ireturn O T rfl rfl (by decide) (by decide) dX10_sumOf_66 (⟨_, by rw [hx, show j = bn by omega], rfl⟩)
    · skip
      have z1 := (not_congr (c_le' (x := nI (bg + j)) (y := nI (bg + bn)) (a := bg + j) (b := bg + bn) rfl rfl (by omega) (by omega))).mp z1
      exact absurd z1 (by omega)
  | succ t ih =>
    intro j hj x pf hx
    have m2 := hM.2.1
    refine v_iload O dX10_sumOf_9 6 rfl ?_
    refine v_aload_n O dX10_sumOf_11 0 rfl ?_
    refine v_cV (T := TX10) (ci := 10) (As := []) (wr := []) (st := [.int (nI (bg + j))]) O cf_X10_241 rfl (sp_X10_behind (mo := mo) (ma := ma) (c := c) (c2 := c2) (tk := tk) (vc := vc) (ln := ln) (rn := rn) (zs_10 := zs_10) (zs_11 := zs_11) (zs_20 := zs_20) (zs_21 := zs_21) (zs_22 := zs_22) (zs_25 := zs_25) (zs_26 := zs_26) (zs_27 := zs_27) (zs_29 := zs_29) (wd := wd) (nu := nu) (fr := fr) (tt9 := tt9) (sf := sf) (cls := cls) (pf := pf) (bg := bg) (bn := bn) (hB9)) dX10_sumOf_12 rfl rfl 0 rfl [0, 1, 2, 3, 4, 5, 6, 7, 8, 9] [] (by decide) rfl rfl (by decide) (by decide) (by decide) (Nat.le_of_ble_eq_true rfl) (by decide) (by decide) (fun r_2 w_3 h_1 => ?_)
    obtain ⟨rfl, rfl⟩ := h_1
    refine v_eq (st' := [.int (nI (bg + bn)), .int (nI (bg + j))]) (ws' := [(mo, .inr (10, M1R ma (mZ c c2 tk vc ln rn zs_10 zs_11 zs_20 zs_21 zs_22 zs_25 zs_26 zs_27 zs_29))), ((ma 4), eI D 6 (nF c.kk)), ((ma 5), eI D 6 (nF c.vv)), ((ma 13), eI D 6 cls), ((ma 14), eI D 60 wd), ((ma 15), eI D 60 nu), ((ma 16), eI D 60 fr), ((ma 17), eI D 60 tt9), ((ma 18), eI D 600 sf), ((ma 24), eZ D 100 pf)]) rfl rfl rfl rfl ?_
    refine v_icmp_ge O 64 dX10_sumOf_15 (by decide) (fun z1 => ?_) (fun z1 => ?_)
    · skip
      have z1 := (c_le' (x := nI (bg + j)) (y := nI (bg + bn)) (a := bg + j) (b := bg + bn) rfl rfl (by omega) (by omega)).mp z1
      exact absurd z1 (by omega)
    · skip
      have z1 := (not_congr (c_le' (x := nI (bg + j)) (y := nI (bg + bn)) (a := bg + j) (b := bg + bn) rfl rfl (by omega) (by omega))).mp z1
      refine v_iload O dX10_sumOf_18 5 rfl ?_
      refine v_aload_n O dX10_sumOf_20 0 rfl ?_
      refine gf_X10_53 (v := .ref (ma 14)) O rfl dX10_sumOf_21 0 rfl rfl ?_
      refine v_iload O dX10_sumOf_24 6 rfl ?_
      refine v_ialdk O dX10_sumOf_26 4 rfl (bg + j) rfl (by omega) (by decide) ?_
      refine v_iload_n O dX10_sumOf_27 1 rfl ?_
      refine v_icmp_ne O 54 dX10_sumOf_28 (by decide) (fun z2 => ?_) (fun z2 => ?_)
      · skip
        refine v_iconst (v := 0) O dX10_sumOf_54 (by decide) ?_
        refine v_iadd O dX10_sumOf_55 ?_
        refine v_top (y := nI (x + 0)) (nI_add x 0) ?_
        refine v_istore (lv' := [(0, .ref mo), (1, .int 1), (2, .int (nI i)), (3, .int (nI zw)), (4, .int (nI h)), (5, .int (nI (x + 0))), (6, .int (nI (bg + j)))]) O dX10_sumOf_56 (by decide) rfl ?_
        refine v_iinc (v := nI (bg + j + 1)) (lv' := [(0, .ref mo), (1, .int 1), (2, .int (nI i)), (3, .int (nI zw)), (4, .int (nI h)), (5, .int (nI (x + 0))), (6, .int (nI (bg + j + 1)))]) O dX10_sumOf_58 6 rfl (nI_1 (bg + j)) (by decide) rfl ?_
        refine v_goto O 9 dX10_sumOf_61 (by decide) ?_
        exact ih (j + 1) (by omega) _ _ (by rw [hx, show sumR wd nu fr tt9 sf (ffR i (c.kk i) (c.vv i) zw h) 1 bg (j + 1) = _ from iteP_f (fun y => z2 y.1), Nat.add_zero])
      · skip
        obtain ⟨⟨z_m, z_m9, z_nu⟩, z_sf⟩ := hM.2.2.2.2.2.2.1 (bg + j) (by omega) (by omega)
        obtain ⟨z_a, z_k, z_fr, z_tt, z_k1, z_k2, z_ev⟩ := z_sf (Or.inl z2)
        obtain ⟨z_b, z_bb⟩ := z_ev (ffR i (c.kk i) (c.vv i) zw h)
        have z_hp : hR9 fr tt9 sf (ffR i (c.kk i) (c.vv i) zw h) (bg + j) ↔ z_b = true := by
          unfold hR9
          rw [z_fr, z_tt, nI_clamp (by omega), nI_clamp (by omega), Nat.add_sub_cancel_left, z_bb]
          exact ⟨fun y => (List.cons.inj (Option.some.inj y)).1, fun y => by rw [y]⟩
        refine v_aload_n O dX10_sumOf_31 0 rfl ?_
        refine v_iload O dX10_sumOf_32 6 rfl ?_
        refine v_iload_n O dX10_sumOf_34 2 rfl ?_
        refine v_iload_n O dX10_sumOf_35 3 rfl ?_
        refine v_iload O dX10_sumOf_36 4 rfl ?_
        refine v_cV (T := TX10) (ci := 10) (As := [.int (nI (bg + j)), .int (nI i), .int (nI zw), .int (nI h)]) (wr := []) (st := [.int (nI x)]) O cf_X10_252 rfl (sp_X10_holds (mo := mo) (ma := ma) (c := c) (c2 := c2) (tk := tk) (vc := vc) (ln := ln) (rn := rn) (zs_10 := zs_10) (zs_11 := zs_11) (zs_20 := zs_20) (zs_21 := zs_21) (zs_22 := zs_22) (zs_25 := zs_25) (zs_26 := zs_26) (zs_27 := zs_27) (zs_29 := zs_29) (wd := wd) (nu := nu) (fr := fr) (tt9 := tt9) (sf := sf) (cls := cls) (pf := pf) (cl := (bg + j)) (i := i) (zw := zw) (h := h) (a := z_a) (k := z_k) (b := z_b) (hi) (hw) (hh) (by omega) (z_fr) (z_tt) (z_k1) (z_k2) (z_bb)) dX10_sumOf_38 rfl rfl 0 rfl [0, 1, 2, 3, 4, 5, 6, 7, 8, 9] [] (by decide) rfl rfl (by decide) (by decide) (by decide) (Nat.le_of_ble_eq_true rfl) (by decide) (by decide) (fun r_5 w_6 h_4 => ?_)
        obtain ⟨pf2_7, rfl, rfl⟩ := h_4
        refine v_eq (st' := [.int (b2i (z_b = true)), .int (nI x)]) (ws' := [(mo, .inr (10, M1R ma (mZ c c2 tk vc ln rn zs_10 zs_11 zs_20 zs_21 zs_22 zs_25 zs_26 zs_27 zs_29))), ((ma 4), eI D 6 (nF c.kk)), ((ma 5), eI D 6 (nF c.vv)), ((ma 13), eI D 6 cls), ((ma 14), eI D 60 wd), ((ma 15), eI D 60 nu), ((ma 16), eI D 60 fr), ((ma 17), eI D 60 tt9), ((ma 18), eI D 600 sf), ((ma 24), eZ D 100 pf2_7)]) rfl rfl rfl rfl ?_
        refine v_if_eq O 54 dX10_sumOf_41 (by decide) (fun z3 => ?_) (fun z3 => ?_)
        · skip
          have z3 := b2i_0.mp z3
          refine v_iconst (v := 0) O dX10_sumOf_54 (by decide) ?_
          refine v_iadd O dX10_sumOf_55 ?_
          refine v_top (y := nI (x + 0)) (nI_add x 0) ?_
          refine v_istore (lv' := [(0, .ref mo), (1, .int 1), (2, .int (nI i)), (3, .int (nI zw)), (4, .int (nI h)), (5, .int (nI (x + 0))), (6, .int (nI (bg + j)))]) O dX10_sumOf_56 (by decide) rfl ?_
          refine v_iinc (v := nI (bg + j + 1)) (lv' := [(0, .ref mo), (1, .int 1), (2, .int (nI i)), (3, .int (nI zw)), (4, .int (nI h)), (5, .int (nI (x + 0))), (6, .int (nI (bg + j + 1)))]) O dX10_sumOf_58 6 rfl (nI_1 (bg + j)) (by decide) rfl ?_
          refine v_goto O 9 dX10_sumOf_61 (by decide) ?_
          exact ih (j + 1) (by omega) _ _ (by rw [hx, show sumR wd nu fr tt9 sf (ffR i (c.kk i) (c.vv i) zw h) 1 bg (j + 1) = _ from iteP_f (fun y => z3 (z_hp.mp y.2)), Nat.add_zero])
        · skip
          have z3 := b2i_1.mp z3
          refine v_aload_n O dX10_sumOf_44 0 rfl ?_
          refine gf_X10_56 (v := .ref (ma 15)) O rfl dX10_sumOf_45 0 rfl rfl ?_
          refine v_iload O dX10_sumOf_48 6 rfl ?_
          refine v_ialdk O dX10_sumOf_50 5 rfl (bg + j) rfl (by omega) (by decide) ?_
          refine v_top (y := nI z_m) (z_nu) ?_
          refine v_goto O 55 dX10_sumOf_51 (by decide) ?_
          refine v_iadd O dX10_sumOf_55 ?_
          refine v_top (y := nI (x + z_m)) (nI_add x z_m) ?_
          refine v_istore (lv' := [(0, .ref mo), (1, .int 1), (2, .int (nI i)), (3, .int (nI zw)), (4, .int (nI h)), (5, .int (nI (x + z_m))), (6, .int (nI (bg + j)))]) O dX10_sumOf_56 (by decide) rfl ?_
          refine v_iinc (v := nI (bg + j + 1)) (lv' := [(0, .ref mo), (1, .int 1), (2, .int (nI i)), (3, .int (nI zw)), (4, .int (nI h)), (5, .int (nI (x + z_m))), (6, .int (nI (bg + j + 1)))]) O dX10_sumOf_58 6 rfl (nI_1 (bg + j)) (by decide) rfl ?_
          refine v_goto O 9 dX10_sumOf_61 (by decide) ?_
          exact ih (j + 1) (by omega) _ _ (by rw [hx, show sumR wd nu fr tt9 sf (ffR i (c.kk i) (c.vv i) zw h) 1 bg (j + 1) = _ from iteP_t ⟨z2, z_hp.mpr z3⟩, z_nu, nI_clamp (by omega)])
set_option maxRecDepth 100000 in
set_option maxHeartbeats 4000000 in
theorem sp_X10_sumOf_1 {D : G} {mo : Nat} {ma : Nat → Nat} {c : CS} {c2 : CS} {tk : Int32} {vc : Nat} {ln : Nat} {rn : Nat} {zs_10 : Int32} {zs_11 : Int32} {zs_20 : Int32} {zs_21 : Int32} {zs_22 : Int32} {zs_25 : Int32} {zs_26 : Int32} {zs_27 : Int32} {zs_29 : Int32} {wd : Nat → Int32} {nu : Nat → Int32} {fr : Nat → Int32} {tt9 : Nat → Int32} {sf : Nat → Int32} {cls : Nat → Int32} {pf : Nat → Int32} {bg : Nat} {bn : Nat} {v : VS} {i : Nat} {zw : Nat} {h : Nat} (hB9 : hB c.held cls bg bn) (hM : MR wd nu fr tt9 sf bg bn v) (hi : i < 6) (hw : zw < 1000000) (hh : h < 2000000) : Sp D mX10_sumOf 2 0 0 [.ref mo, .int 1, .int (nI i), .int (nI zw), .int (nI h)] [(mo, .inr (10, M1R ma (mZ c c2 tk vc ln rn zs_10 zs_11 zs_20 zs_21 zs_22 zs_25 zs_26 zs_27 zs_29))), ((ma 4), eI D 6 (nF c.kk)), ((ma 5), eI D 6 (nF c.vv)), ((ma 13), eI D 6 cls), ((ma 14), eI D 60 wd), ((ma 15), eI D 60 nu), ((ma 16), eI D 60 fr), ((ma 17), eI D 60 tt9), ((ma 18), eI D 600 sf), ((ma 24), eZ D 100 pf)] (fun r w => ∃ pf2 : Nat → Int32, r = some (.int (nI (sumR wd nu fr tt9 sf (ffR i (c.kk i) (c.vv i) zw h) 1 bg bn))) ∧ w = [(mo, .inr (10, M1R ma (mZ c c2 tk vc ln rn zs_10 zs_11 zs_20 zs_21 zs_22 zs_25 zs_26 zs_27 zs_29))), ((ma 4), eI D 6 (nF c.kk)), ((ma 5), eI D 6 (nF c.vv)), ((ma 13), eI D 6 cls), ((ma 14), eI D 60 wd), ((ma 15), eI D 60 nu), ((ma 16), eI D 60 fr), ((ma 17), eI D 60 tt9), ((ma 18), eI D 600 sf), ((ma 24), eZ D 100 pf2)]) := by
  refine Sp.of (by decide) (Nat.le_of_ble_eq_true rfl) (fun X O T => ?_)
  refine v_eq (lv' := [(0, .ref mo), (1, .int 1), (2, .int (nI i)), (3, .int (nI zw)), (4, .int (nI h))]) rfl rfl rfl rfl ?_
  refine v_iconst (v := 0) O dX10_sumOf_0 (by decide) ?_
  refine v_istore (lv' := [(0, .ref mo), (1, .int 1), (2, .int (nI i)), (3, .int (nI zw)), (4, .int (nI h)), (5, .int 0)]) O dX10_sumOf_1 (by decide) rfl ?_
  refine v_aload_n O dX10_sumOf_3 0 rfl ?_
  refine v_cV (T := TX10) (ci := 10) (As := []) (wr := []) (st := []) O cf_X10_238 rfl (sp_X10_begin (mo := mo) (ma := ma) (c := c) (c2 := c2) (tk := tk) (vc := vc) (ln := ln) (rn := rn) (zs_10 := zs_10) (zs_11 := zs_11) (zs_20 := zs_20) (zs_21 := zs_21) (zs_22 := zs_22) (zs_25 := zs_25) (zs_26 := zs_26) (zs_27 := zs_27) (zs_29 := zs_29) (wd := wd) (nu := nu) (fr := fr) (tt9 := tt9) (sf := sf) (cls := cls) (pf := pf) (bg := bg) (bn := bn) (hB9)) dX10_sumOf_4 rfl rfl 0 rfl [0, 1, 2, 3, 4, 5, 6, 7, 8, 9] [] (by decide) rfl rfl (by decide) (by decide) (by decide) (Nat.le_of_ble_eq_true rfl) (by decide) (by decide) (fun r_2 w_3 h_1 => ?_)
  obtain ⟨rfl, rfl⟩ := h_1
  refine v_eq (st' := [.int (nI bg)]) (ws' := [(mo, .inr (10, M1R ma (mZ c c2 tk vc ln rn zs_10 zs_11 zs_20 zs_21 zs_22 zs_25 zs_26 zs_27 zs_29))), ((ma 4), eI D 6 (nF c.kk)), ((ma 5), eI D 6 (nF c.vv)), ((ma 13), eI D 6 cls), ((ma 14), eI D 60 wd), ((ma 15), eI D 60 nu), ((ma 16), eI D 60 fr), ((ma 17), eI D 60 tt9), ((ma 18), eI D 600 sf), ((ma 24), eZ D 100 pf)]) rfl rfl rfl rfl ?_
  refine v_istore (lv' := [(0, .ref mo), (1, .int 1), (2, .int (nI i)), (3, .int (nI zw)), (4, .int (nI h)), (5, .int 0), (6, .int (nI bg))]) O dX10_sumOf_7 (by decide) rfl ?_
  refine v_eq (lv' := [(0, .ref mo), (1, .int 1), (2, .int (nI i)), (3, .int (nI zw)), (4, .int (nI h)), (5, .int (nI 0)), (6, .int (nI (bg + 0)))]) rfl rfl rfl rfl ?_
  exact l_X10_sumOf1 O hB9 hM hi hw hh T bn 0 (by omega) 0 pf rfl
set_option maxRecDepth 100000 in
set_option maxHeartbeats 4000000 in
theorem l_X10_sumOf2 {D : G} {X : CX} {mo : Nat} {ma : Nat → Nat} {c : CS} {c2 : CS} {tk : Int32} {vc : Nat} {ln : Nat} {rn : Nat} {zs_10 : Int32} {zs_11 : Int32} {zs_20 : Int32} {zs_21 : Int32} {zs_22 : Int32} {zs_25 : Int32} {zs_26 : Int32} {zs_27 : Int32} {zs_29 : Int32} {wd : Nat → Int32} {nu : Nat → Int32} {fr : Nat → Int32} {tt9 : Nat → Int32} {sf : Nat → Int32} {cls : Nat → Int32} {bg : Nat} {bn : Nat} {v : VS} {i : Nat} {zw : Nat} {h : Nat} (O : Ok D X mX10_sumOf 2 0 0) (hB9 : hB c.held cls bg bn) (hM : MR wd nu fr tt9 sf bg bn v) (hi : i < 6) (hw : zw < 1000000) (hh : h < 2000000) (T : Rt D X (fun r w => ∃ pf2 : Nat → Int32, r = some (.int (nI (sumR wd nu fr tt9 sf (ffR i (c.kk i) (c.vv i) zw h) 2 bg bn))) ∧ w = [(mo, .inr (10, M1R ma (mZ c c2 tk vc ln rn zs_10 zs_11 zs_20 zs_21 zs_22 zs_25 zs_26 zs_27 zs_29))), ((ma 4), eI D 6 (nF c.kk)), ((ma 5), eI D 6 (nF c.vv)), ((ma 13), eI D 6 cls), ((ma 14), eI D 60 wd), ((ma 15), eI D 60 nu), ((ma 16), eI D 60 fr), ((ma 17), eI D 60 tt9), ((ma 18), eI D 600 sf), ((ma 24), eZ D 100 pf2)]) 0 0) : ∀ (t j : Nat), j + t = bn → ∀ (x : Nat) (pf : Nat → Int32), x = sumR wd nu fr tt9 sf (ffR i (c.kk i) (c.vv i) zw h) 2 bg j → V D X 0 0 9 [(0, .ref mo), (1, .int 2), (2, .int (nI i)), (3, .int (nI zw)), (4, .int (nI h)), (5, .int (nI x)), (6, .int (nI (bg + j)))] [] [(mo, .inr (10, M1R ma (mZ c c2 tk vc ln rn zs_10 zs_11 zs_20 zs_21 zs_22 zs_25 zs_26 zs_27 zs_29))), ((ma 4), eI D 6 (nF c.kk)), ((ma 5), eI D 6 (nF c.vv)), ((ma 13), eI D 6 cls), ((ma 14), eI D 60 wd), ((ma 15), eI D 60 nu), ((ma 16), eI D 60 fr), ((ma 17), eI D 60 tt9), ((ma 18), eI D 600 sf), ((ma 24), eZ D 100 pf)] := by
  intro t
  induction t with
  | zero =>
    intro j hj x pf hx
    have m2 := hM.2.1
    refine v_iload O dX10_sumOf_9 6 rfl ?_
    refine v_aload_n O dX10_sumOf_11 0 rfl ?_
    refine v_cV (T := TX10) (ci := 10) (As := []) (wr := []) (st := [.int (nI (bg + j))]) O cf_X10_241 rfl (sp_X10_behind (mo := mo) (ma := ma) (c := c) (c2 := c2) (tk := tk) (vc := vc) (ln := ln) (rn := rn) (zs_10 := zs_10) (zs_11 := zs_11) (zs_20 := zs_20) (zs_21 := zs_21) (zs_22 := zs_22) (zs_25 := zs_25) (zs_26 := zs_26) (zs_27 := zs_27) (zs_29 := zs_29) (wd := wd) (nu := nu) (fr := fr) (tt9 := tt9) (sf := sf) (cls := cls) (pf := pf) (bg := bg) (bn := bn) (hB9)) dX10_sumOf_12 rfl rfl 0 rfl [0, 1, 2, 3, 4, 5, 6, 7, 8, 9] [] (by decide) rfl rfl (by decide) (by decide) (by decide) (Nat.le_of_ble_eq_true rfl) (by decide) (by decide) (fun r_2 w_3 h_1 => ?_)
    obtain ⟨rfl, rfl⟩ := h_1
    refine v_eq (st' := [.int (nI (bg + bn)), .int (nI (bg + j))]) (ws' := [(mo, .inr (10, M1R ma (mZ c c2 tk vc ln rn zs_10 zs_11 zs_20 zs_21 zs_22 zs_25 zs_26 zs_27 zs_29))), ((ma 4), eI D 6 (nF c.kk)), ((ma 5), eI D 6 (nF c.vv)), ((ma 13), eI D 6 cls), ((ma 14), eI D 60 wd), ((ma 15), eI D 60 nu), ((ma 16), eI D 60 fr), ((ma 17), eI D 60 tt9), ((ma 18), eI D 600 sf), ((ma 24), eZ D 100 pf)]) rfl rfl rfl rfl ?_
    refine v_icmp_ge O 64 dX10_sumOf_15 (by decide) (fun z1 => ?_) (fun z1 => ?_)
    · skip
      have z1 := (c_le' (x := nI (bg + j)) (y := nI (bg + bn)) (a := bg + j) (b := bg + bn) rfl rfl (by omega) (by omega)).mp z1
      refine v_iload O dX10_sumOf_64 5 rfl ?_
      exact v_ireturn O T rfl rfl (by decide) (by decide) dX10_sumOf_66 (⟨_, by rw [hx, show j = bn by omega], rfl⟩)
    · skip
      have z1 := (not_congr (c_le' (x := nI (bg + j)) (y := nI (bg + bn)) (a := bg + j) (b := bg + bn) rfl rfl (by omega) (by omega))).mp z1
      exact absurd z1 (by omega)
  | succ t ih =>
    intro j hj x pf hx
    have m2 := hM.2.1
    refine v_iload O dX10_sumOf_9 6 rfl ?_
    refine v_aload_n O dX10_sumOf_11 0 rfl ?_
    refine v_cV (T := TX10) (ci := 10) (As := []) (wr := []) (st := [.int (nI (bg + j))]) O cf_X10_241 rfl (sp_X10_behind (mo := mo) (ma := ma) (c := c) (c2 := c2) (tk := tk) (vc := vc) (ln := ln) (rn := rn) (zs_10 := zs_10) (zs_11 := zs_11) (zs_20 := zs_20) (zs_21 := zs_21) (zs_22 := zs_22) (zs_25 := zs_25) (zs_26 := zs_26) (zs_27 := zs_27) (zs_29 := zs_29) (wd := wd) (nu := nu) (fr := fr) (tt9 := tt9) (sf := sf) (cls := cls) (pf := pf) (bg := bg) (bn := bn) (hB9)) dX10_sumOf_12 rfl rfl 0 rfl [0, 1, 2, 3, 4, 5, 6, 7, 8, 9] [] (by decide) rfl rfl (by decide) (by decide) (by decide) (Nat.le_of_ble_eq_true rfl) (by decide) (by decide) (fun r_2 w_3 h_1 => ?_)
    obtain ⟨rfl, rfl⟩ := h_1
    refine v_eq (st' := [.int (nI (bg + bn)), .int (nI (bg + j))]) (ws' := [(mo, .inr (10, M1R ma (mZ c c2 tk vc ln rn zs_10 zs_11 zs_20 zs_21 zs_22 zs_25 zs_26 zs_27 zs_29))), ((ma 4), eI D 6 (nF c.kk)), ((ma 5), eI D 6 (nF c.vv)), ((ma 13), eI D 6 cls), ((ma 14), eI D 60 wd), ((ma 15), eI D 60 nu), ((ma 16), eI D 60 fr), ((ma 17), eI D 60 tt9), ((ma 18), eI D 600 sf), ((ma 24), eZ D 100 pf)]) rfl rfl rfl rfl ?_
    refine v_icmp_ge O 64 dX10_sumOf_15 (by decide) (fun z1 => ?_) (fun z1 => ?_)
    · skip
      have z1 := (c_le' (x := nI (bg + j)) (y := nI (bg + bn)) (a := bg + j) (b := bg + bn) rfl rfl (by omega) (by omega)).mp z1
      exact absurd z1 (by omega)
    · skip
      have z1 := (not_congr (c_le' (x := nI (bg + j)) (y := nI (bg + bn)) (a := bg + j) (b := bg + bn) rfl rfl (by omega) (by omega))).mp z1
      refine v_iload O dX10_sumOf_18 5 rfl ?_
      refine v_aload_n O dX10_sumOf_20 0 rfl ?_
      refine gf_X10_53 (v := .ref (ma 14)) O rfl dX10_sumOf_21 0 rfl rfl ?_
      refine v_iload O dX10_sumOf_24 6 rfl ?_
      refine v_ialdk O dX10_sumOf_26 4 rfl (bg + j) rfl (by omega) (by decide) ?_
      refine v_iload_n O dX10_sumOf_27 1 rfl ?_
      refine v_icmp_ne O 54 dX10_sumOf_28 (by decide) (fun z2 => ?_) (fun z2 => ?_)
      · skip
        refine v_iconst (v := 0) O dX10_sumOf_54 (by decide) ?_
        refine v_iadd O dX10_sumOf_55 ?_
        refine v_top (y := nI (x + 0)) (nI_add x 0) ?_
        refine v_istore (lv' := [(0, .ref mo), (1, .int 2), (2, .int (nI i)), (3, .int (nI zw)), (4, .int (nI h)), (5, .int (nI (x + 0))), (6, .int (nI (bg + j)))]) O dX10_sumOf_56 (by decide) rfl ?_
        refine v_iinc (v := nI (bg + j + 1)) (lv' := [(0, .ref mo), (1, .int 2), (2, .int (nI i)), (3, .int (nI zw)), (4, .int (nI h)), (5, .int (nI (x + 0))), (6, .int (nI (bg + j + 1)))]) O dX10_sumOf_58 6 rfl (nI_1 (bg + j)) (by decide) rfl ?_
        refine v_goto O 9 dX10_sumOf_61 (by decide) ?_
        exact ih (j + 1) (by omega) _ _ (by rw [hx, show sumR wd nu fr tt9 sf (ffR i (c.kk i) (c.vv i) zw h) 2 bg (j + 1) = _ from iteP_f (fun y => z2 y.1), Nat.add_zero])
      · skip
        obtain ⟨⟨z_m, z_m9, z_nu⟩, z_sf⟩ := hM.2.2.2.2.2.2.1 (bg + j) (by omega) (by omega)
        obtain ⟨z_a, z_k, z_fr, z_tt, z_k1, z_k2, z_ev⟩ := z_sf (Or.inr z2)
        obtain ⟨z_b, z_bb⟩ := z_ev (ffR i (c.kk i) (c.vv i) zw h)
        have z_hp : hR9 fr tt9 sf (ffR i (c.kk i) (c.vv i) zw h) (bg + j) ↔ z_b = true := by
          unfold hR9
          rw [z_fr, z_tt, nI_clamp (by omega), nI_clamp (by omega), Nat.add_sub_cancel_left, z_bb]
          exact ⟨fun y => (List.cons.inj (Option.some.inj y)).1, fun y => by rw [y]⟩
        refine v_aload_n O dX10_sumOf_31 0 rfl ?_
        refine v_iload O dX10_sumOf_32 6 rfl ?_
        refine v_iload_n O dX10_sumOf_34 2 rfl ?_
        refine v_iload_n O dX10_sumOf_35 3 rfl ?_
        refine v_iload O dX10_sumOf_36 4 rfl ?_
        refine v_cV (T := TX10) (ci := 10) (As := [.int (nI (bg + j)), .int (nI i), .int (nI zw), .int (nI h)]) (wr := []) (st := [.int (nI x)]) O cf_X10_252 rfl (sp_X10_holds (mo := mo) (ma := ma) (c := c) (c2 := c2) (tk := tk) (vc := vc) (ln := ln) (rn := rn) (zs_10 := zs_10) (zs_11 := zs_11) (zs_20 := zs_20) (zs_21 := zs_21) (zs_22 := zs_22) (zs_25 := zs_25) (zs_26 := zs_26) (zs_27 := zs_27) (zs_29 := zs_29) (wd := wd) (nu := nu) (fr := fr) (tt9 := tt9) (sf := sf) (cls := cls) (pf := pf) (cl := (bg + j)) (i := i) (zw := zw) (h := h) (a := z_a) (k := z_k) (b := z_b) (hi) (hw) (hh) (by omega) (z_fr) (z_tt) (z_k1) (z_k2) (z_bb)) dX10_sumOf_38 rfl rfl 0 rfl [0, 1, 2, 3, 4, 5, 6, 7, 8, 9] [] (by decide) rfl rfl (by decide) (by decide) (by decide) (Nat.le_of_ble_eq_true rfl) (by decide) (by decide) (fun r_5 w_6 h_4 => ?_)
        obtain ⟨pf2_7, rfl, rfl⟩ := h_4
        refine v_eq (st' := [.int (b2i (z_b = true)), .int (nI x)]) (ws' := [(mo, .inr (10, M1R ma (mZ c c2 tk vc ln rn zs_10 zs_11 zs_20 zs_21 zs_22 zs_25 zs_26 zs_27 zs_29))), ((ma 4), eI D 6 (nF c.kk)), ((ma 5), eI D 6 (nF c.vv)), ((ma 13), eI D 6 cls), ((ma 14), eI D 60 wd), ((ma 15), eI D 60 nu), ((ma 16), eI D 60 fr), ((ma 17), eI D 60 tt9), ((ma 18), eI D 600 sf), ((ma 24), eZ D 100 pf2_7)]) rfl rfl rfl rfl ?_
        refine v_if_eq O 54 dX10_sumOf_41 (by decide) (fun z3 => ?_) (fun z3 => ?_)
        · skip
          have z3 := b2i_0.mp z3
          refine v_iconst (v := 0) O dX10_sumOf_54 (by decide) ?_
          refine v_iadd O dX10_sumOf_55 ?_
          refine v_top (y := nI (x + 0)) (nI_add x 0) ?_
          refine v_istore (lv' := [(0, .ref mo), (1, .int 2), (2, .int (nI i)), (3, .int (nI zw)), (4, .int (nI h)), (5, .int (nI (x + 0))), (6, .int (nI (bg + j)))]) O dX10_sumOf_56 (by decide) rfl ?_
          refine v_iinc (v := nI (bg + j + 1)) (lv' := [(0, .ref mo), (1, .int 2), (2, .int (nI i)), (3, .int (nI zw)), (4, .int (nI h)), (5, .int (nI (x + 0))), (6, .int (nI (bg + j + 1)))]) O dX10_sumOf_58 6 rfl (nI_1 (bg + j)) (by decide) rfl ?_
          refine v_goto O 9 dX10_sumOf_61 (by decide) ?_
          exact ih (j + 1) (by omega) _ _ (by rw [hx, show sumR wd nu fr tt9 sf (ffR i (c.kk i) (c.vv i) zw h) 2 bg (j + 1) = _ from iteP_f (fun y => z3 (z_hp.mp y.2)), Nat.add_zero])
        · skip
          have z3 := b2i_1.mp z3
          refine v_aload_n O dX10_sumOf_44 0 rfl ?_
          refine gf_X10_56 (v := .ref (ma 15)) O rfl dX10_sumOf_45 0 rfl rfl ?_
          refine v_iload O dX10_sumOf_48 6 rfl ?_
          refine v_ialdk O dX10_sumOf_50 5 rfl (bg + j) rfl (by omega) (by decide) ?_
          refine v_top (y := nI z_m) (z_nu) ?_
          refine v_goto O 55 dX10_sumOf_51 (by decide) ?_
          refine v_iadd O dX10_sumOf_55 ?_
          refine v_top (y := nI (x + z_m)) (nI_add x z_m) ?_
          refine v_istore (lv' := [(0, .ref mo), (1, .int 2), (2, .int (nI i)), (3, .int (nI zw)), (4, .int (nI h)), (5, .int (nI (x + z_m))), (6, .int (nI (bg + j)))]) O dX10_sumOf_56 (by decide) rfl ?_
          refine v_iinc (v := nI (bg + j + 1)) (lv' := [(0, .ref mo), (1, .int 2), (2, .int (nI i)), (3, .int (nI zw)), (4, .int (nI h)), (5, .int (nI (x + z_m))), (6, .int (nI (bg + j + 1)))]) O dX10_sumOf_58 6 rfl (nI_1 (bg + j)) (by decide) rfl ?_
          refine v_goto O 9 dX10_sumOf_61 (by decide) ?_
          exact ih (j + 1) (by omega) _ _ (by rw [hx, show sumR wd nu fr tt9 sf (ffR i (c.kk i) (c.vv i) zw h) 2 bg (j + 1) = _ from iteP_t ⟨z2, z_hp.mpr z3⟩, z_nu, nI_clamp (by omega)])
set_option maxRecDepth 100000 in
set_option maxHeartbeats 4000000 in
theorem sp_X10_sumOf_2 {D : G} {mo : Nat} {ma : Nat → Nat} {c : CS} {c2 : CS} {tk : Int32} {vc : Nat} {ln : Nat} {rn : Nat} {zs_10 : Int32} {zs_11 : Int32} {zs_20 : Int32} {zs_21 : Int32} {zs_22 : Int32} {zs_25 : Int32} {zs_26 : Int32} {zs_27 : Int32} {zs_29 : Int32} {wd : Nat → Int32} {nu : Nat → Int32} {fr : Nat → Int32} {tt9 : Nat → Int32} {sf : Nat → Int32} {cls : Nat → Int32} {pf : Nat → Int32} {bg : Nat} {bn : Nat} {v : VS} {i : Nat} {zw : Nat} {h : Nat} (hB9 : hB c.held cls bg bn) (hM : MR wd nu fr tt9 sf bg bn v) (hi : i < 6) (hw : zw < 1000000) (hh : h < 2000000) : Sp D mX10_sumOf 2 0 0 [.ref mo, .int 2, .int (nI i), .int (nI zw), .int (nI h)] [(mo, .inr (10, M1R ma (mZ c c2 tk vc ln rn zs_10 zs_11 zs_20 zs_21 zs_22 zs_25 zs_26 zs_27 zs_29))), ((ma 4), eI D 6 (nF c.kk)), ((ma 5), eI D 6 (nF c.vv)), ((ma 13), eI D 6 cls), ((ma 14), eI D 60 wd), ((ma 15), eI D 60 nu), ((ma 16), eI D 60 fr), ((ma 17), eI D 60 tt9), ((ma 18), eI D 600 sf), ((ma 24), eZ D 100 pf)] (fun r w => ∃ pf2 : Nat → Int32, r = some (.int (nI (sumR wd nu fr tt9 sf (ffR i (c.kk i) (c.vv i) zw h) 2 bg bn))) ∧ w = [(mo, .inr (10, M1R ma (mZ c c2 tk vc ln rn zs_10 zs_11 zs_20 zs_21 zs_22 zs_25 zs_26 zs_27 zs_29))), ((ma 4), eI D 6 (nF c.kk)), ((ma 5), eI D 6 (nF c.vv)), ((ma 13), eI D 6 cls), ((ma 14), eI D 60 wd), ((ma 15), eI D 60 nu), ((ma 16), eI D 60 fr), ((ma 17), eI D 60 tt9), ((ma 18), eI D 600 sf), ((ma 24), eZ D 100 pf2)]) := by
  refine Sp.of (by decide) (Nat.le_of_ble_eq_true rfl) (fun X O T => ?_)
  refine v_eq (lv' := [(0, .ref mo), (1, .int 2), (2, .int (nI i)), (3, .int (nI zw)), (4, .int (nI h))]) rfl rfl rfl rfl ?_
  refine v_iconst (v := 0) O dX10_sumOf_0 (by decide) ?_
  refine v_istore (lv' := [(0, .ref mo), (1, .int 2), (2, .int (nI i)), (3, .int (nI zw)), (4, .int (nI h)), (5, .int 0)]) O dX10_sumOf_1 (by decide) rfl ?_
  refine v_aload_n O dX10_sumOf_3 0 rfl ?_
  refine v_cV (T := TX10) (ci := 10) (As := []) (wr := []) (st := []) O cf_X10_238 rfl (sp_X10_begin (mo := mo) (ma := ma) (c := c) (c2 := c2) (tk := tk) (vc := vc) (ln := ln) (rn := rn) (zs_10 := zs_10) (zs_11 := zs_11) (zs_20 := zs_20) (zs_21 := zs_21) (zs_22 := zs_22) (zs_25 := zs_25) (zs_26 := zs_26) (zs_27 := zs_27) (zs_29 := zs_29) (wd := wd) (nu := nu) (fr := fr) (tt9 := tt9) (sf := sf) (cls := cls) (pf := pf) (bg := bg) (bn := bn) (hB9)) dX10_sumOf_4 rfl rfl 0 rfl [0, 1, 2, 3, 4, 5, 6, 7, 8, 9] [] (by decide) rfl rfl (by decide) (by decide) (by decide) (Nat.le_of_ble_eq_true rfl) (by decide) (by decide) (fun r_2 w_3 h_1 => ?_)
  obtain ⟨rfl, rfl⟩ := h_1
  refine v_eq (st' := [.int (nI bg)]) (ws' := [(mo, .inr (10, M1R ma (mZ c c2 tk vc ln rn zs_10 zs_11 zs_20 zs_21 zs_22 zs_25 zs_26 zs_27 zs_29))), ((ma 4), eI D 6 (nF c.kk)), ((ma 5), eI D 6 (nF c.vv)), ((ma 13), eI D 6 cls), ((ma 14), eI D 60 wd), ((ma 15), eI D 60 nu), ((ma 16), eI D 60 fr), ((ma 17), eI D 60 tt9), ((ma 18), eI D 600 sf), ((ma 24), eZ D 100 pf)]) rfl rfl rfl rfl ?_
  refine v_istore (lv' := [(0, .ref mo), (1, .int 2), (2, .int (nI i)), (3, .int (nI zw)), (4, .int (nI h)), (5, .int 0), (6, .int (nI bg))]) O dX10_sumOf_7 (by decide) rfl ?_
  refine v_eq (lv' := [(0, .ref mo), (1, .int 2), (2, .int (nI i)), (3, .int (nI zw)), (4, .int (nI h)), (5, .int (nI 0)), (6, .int (nI (bg + 0)))]) rfl rfl rfl rfl ?_
  exact l_X10_sumOf2 O hB9 hM hi hw hh T bn 0 (by omega) 0 pf rfl
theorem sp_X10_backOf {D : G} {mo : Nat} {ma : Nat → Nat} {c : CS} {c2 : CS} {tk : Int32} {vc : Nat} {ln : Nat} {rn : Nat} {zs_10 : Int32} {zs_11 : Int32} {zs_20 : Int32} {zs_21 : Int32} {zs_22 : Int32} {zs_25 : Int32} {zs_26 : Int32} {zs_27 : Int32} {zs_29 : Int32} {wd : Nat → Int32} {nu : Nat → Int32} {fr : Nat → Int32} {tt9 : Nat → Int32} {sf : Nat → Int32} {cls : Nat → Int32} {pf : Nat → Int32} {bg : Nat} {bn : Nat} {v : VS} {i : Nat} {s : Nat} {h : Nat} (hB9 : hB c.held cls bg bn) (hM : MR wd nu fr tt9 sf bg bn v) (hC : cOk c) (hva : vAsk v) (hi : i < 6) (hs : s < 20) (hh : h < 1000000) : Sp D mX10_sumOf 2 0 0 [.ref mo, .int 2, .int (nI i), .int (nI (c.wak + s)), .int (nI h)] [(mo, .inr (10, M1R ma (mZ c c2 tk vc ln rn zs_10 zs_11 zs_20 zs_21 zs_22 zs_25 zs_26 zs_27 zs_29))), ((ma 4), eI D 6 (nF c.kk)), ((ma 5), eI D 6 (nF c.vv)), ((ma 13), eI D 6 cls), ((ma 14), eI D 60 wd), ((ma 15), eI D 60 nu), ((ma 16), eI D 60 fr), ((ma 17), eI D 60 tt9), ((ma 18), eI D 600 sf), ((ma 24), eZ D 100 pf)] (fun r w => ∃ pf2 : Nat → Int32, r = some (.int (nI (bkA c v i s (h % 10)))) ∧ w = [(mo, .inr (10, M1R ma (mZ c c2 tk vc ln rn zs_10 zs_11 zs_20 zs_21 zs_22 zs_25 zs_26 zs_27 zs_29))), ((ma 4), eI D 6 (nF c.kk)), ((ma 5), eI D 6 (nF c.vv)), ((ma 13), eI D 6 cls), ((ma 14), eI D 60 wd), ((ma 15), eI D 60 nu), ((ma 16), eI D 60 fr), ((ma 17), eI D 60 tt9), ((ma 18), eI D 600 sf), ((ma 24), eZ D 100 pf2)]) := by
  refine Sp.post (sp_X10_sumOf_2 hB9 hM hi (by have := hC.2.2.2.2.1; omega) (by omega)) ?_
  rintro r w ⟨p2, rfl, rfl⟩
  refine ⟨p2, ?_, rfl⟩
  rw [(hM.2.2.2.2.2.1 _).2, sumN_ff ffR_f]
  rfl
set_option maxRecDepth 100000 in
set_option maxHeartbeats 4000000 in
theorem sp_X10_overOf {D : G} {mo : Nat} {ma : Nat → Nat} {c : CS} {c2 : CS} {tk : Int32} {vc : Nat} {ln : Nat} {rn : Nat} {zs_10 : Int32} {zs_11 : Int32} {zs_20 : Int32} {zs_21 : Int32} {zs_22 : Int32} {zs_25 : Int32} {zs_26 : Int32} {zs_27 : Int32} {zs_29 : Int32} {wd : Nat → Int32} {nu : Nat → Int32} {fr : Nat → Int32} {tt9 : Nat → Int32} {sf : Nat → Int32} {cls : Nat → Int32} {pf : Nat → Int32} {bg : Nat} {bn : Nat} {v : VS} {i : Nat} {s : Nat} {h : Nat} (hB9 : hB c.held cls bg bn) (hM : MR wd nu fr tt9 sf bg bn v) (hC : cOk c) (hva : vAsk v) (hi : i < 6) (hs : s < 20) (hh : h < 1000000) : Sp D mX10_overOf 3 0 0 [.ref mo, .int (nI i), .int (nI (c.wak + s)), .int (nI h)] [(mo, .inr (10, M1R ma (mZ c c2 tk vc ln rn zs_10 zs_11 zs_20 zs_21 zs_22 zs_25 zs_26 zs_27 zs_29))), ((ma 4), eI D 6 (nF c.kk)), ((ma 5), eI D 6 (nF c.vv)), ((ma 13), eI D 6 cls), ((ma 14), eI D 60 wd), ((ma 15), eI D 60 nu), ((ma 16), eI D 60 fr), ((ma 17), eI D 60 tt9), ((ma 18), eI D 600 sf), ((ma 24), eZ D 100 pf)] (fun r w => ∃ pf2 : Nat → Int32, r = some (.int (nI (ovA c v i s (h % 10)))) ∧ w = [(mo, .inr (10, M1R ma (mZ c c2 tk vc ln rn zs_10 zs_11 zs_20 zs_21 zs_22 zs_25 zs_26 zs_27 zs_29))), ((ma 4), eI D 6 (nF c.kk)), ((ma 5), eI D 6 (nF c.vv)), ((ma 13), eI D 6 cls), ((ma 14), eI D 60 wd), ((ma 15), eI D 60 nu), ((ma 16), eI D 60 fr), ((ma 17), eI D 60 tt9), ((ma 18), eI D 600 sf), ((ma 24), eZ D 100 pf2)]) := by
  refine Sp.of (by decide) (Nat.le_of_ble_eq_true rfl) (fun X O T => ?_)
  refine v_eq (lv' := [(0, .ref mo), (1, .int (nI i)), (2, .int (nI (c.wak + s))), (3, .int (nI h))]) rfl rfl rfl rfl ?_
  refine v_aload_n O dX10_overOf_0 0 rfl ?_
  refine v_cV (T := TX10) (ci := 10) (As := []) (wr := []) (st := []) O cf_X10_256 rfl (sp_X10_hasOver (mo := mo) (ma := ma) (c := c) (c2 := c2) (tk := tk) (vc := vc) (ln := ln) (rn := rn) (zs_10 := zs_10) (zs_11 := zs_11) (zs_20 := zs_20) (zs_21 := zs_21) (zs_22 := zs_22) (zs_25 := zs_25) (zs_26 := zs_26) (zs_27 := zs_27) (zs_29 := zs_29) (wd := wd) (nu := nu) (fr := fr) (tt9 := tt9) (sf := sf) (cls := cls) (pf := pf) (bg := bg) (bn := bn) (v := v) (hB9) (hM)) dX10_overOf_1 rfl rfl 0 rfl [0, 1, 2, 3, 4, 5, 6, 7, 8, 9] [] (by decide) rfl rfl (by decide) (by decide) (by decide) (Nat.le_of_ble_eq_true rfl) (by decide) (by decide) (fun r_2 w_3 h_1 => ?_)
  obtain ⟨rfl, rfl⟩ := h_1
  refine v_eq (st' := [.int (b2i (hasF wd 1 bg bn))]) (ws' := [(mo, .inr (10, M1R ma (mZ c c2 tk vc ln rn zs_10 zs_11 zs_20 zs_21 zs_22 zs_25 zs_26 zs_27 zs_29))), ((ma 4), eI D 6 (nF c.kk)), ((ma 5), eI D 6 (nF c.vv)), ((ma 13), eI D 6 cls), ((ma 14), eI D 60 wd), ((ma 15), eI D 60 nu), ((ma 16), eI D 60 fr), ((ma 17), eI D 60 tt9), ((ma 18), eI D 600 sf), ((ma 24), eZ D 100 pf)]) rfl rfl rfl rfl ?_
  refine v_if_eq O 18 dX10_overOf_4 (by decide) (fun z1 => ?_) (fun z1 => ?_)
  · skip
    have z1 := b2i_0.mp z1
    refine v_iconst (v := 1) O dX10_overOf_18 (by decide) ?_
    exact v_ireturn O T rfl rfl (by decide) (by decide) dX10_overOf_19 (⟨_, by rw [show ovA c v i s (h % 10) = 1 from if_pos (Classical.not_not.mp (fun q => z1 (hM.2.2.2.2.1.mpr q)))]; rfl, rfl⟩)
  · skip
    have z1 := b2i_1.mp z1
    refine v_aload_n O dX10_overOf_7 0 rfl ?_
    refine v_iconst (v := 1) O dX10_overOf_8 (by decide) ?_
    refine v_iload_n O dX10_overOf_9 1 rfl ?_
    refine v_iload_n O dX10_overOf_10 2 rfl ?_
    refine v_iload_n O dX10_overOf_11 3 rfl ?_
    refine v_cV (T := TX10) (ci := 10) (As := [.int 1, .int (nI i), .int (nI (c.wak + s)), .int (nI h)]) (wr := []) (st := []) O cf_X10_259 rfl (sp_X10_sumOf_1 (mo := mo) (ma := ma) (c := c) (c2 := c2) (tk := tk) (vc := vc) (ln := ln) (rn := rn) (zs_10 := zs_10) (zs_11 := zs_11) (zs_20 := zs_20) (zs_21 := zs_21) (zs_22 := zs_22) (zs_25 := zs_25) (zs_26 := zs_26) (zs_27 := zs_27) (zs_29 := zs_29) (wd := wd) (nu := nu) (fr := fr) (tt9 := tt9) (sf := sf) (cls := cls) (pf := pf) (bg := bg) (bn := bn) (v := v) (i := i) (zw := (c.wak + s)) (h := h) (hB9) (hM) (hi) (by have := hC.2.2.2.2.1; omega) (by omega)) dX10_overOf_12 rfl rfl 0 rfl [0, 1, 2, 3, 4, 5, 6, 7, 8, 9] [] (by decide) rfl rfl (by decide) (by decide) (by decide) (Nat.le_of_ble_eq_true rfl) (by decide) (by decide) (fun r_5 w_6 h_4 => ?_)
    obtain ⟨pf2_7, rfl, rfl⟩ := h_4
    refine v_eq (st' := [.int (nI (sumR wd nu fr tt9 sf (ffR i (c.kk i) (c.vv i) (c.wak + s) h) 1 bg bn))]) (ws' := [(mo, .inr (10, M1R ma (mZ c c2 tk vc ln rn zs_10 zs_11 zs_20 zs_21 zs_22 zs_25 zs_26 zs_27 zs_29))), ((ma 4), eI D 6 (nF c.kk)), ((ma 5), eI D 6 (nF c.vv)), ((ma 13), eI D 6 cls), ((ma 14), eI D 60 wd), ((ma 15), eI D 60 nu), ((ma 16), eI D 60 fr), ((ma 17), eI D 60 tt9), ((ma 18), eI D 600 sf), ((ma 24), eZ D 100 pf2_7)]) rfl rfl rfl rfl ?_
    refine v_goto O 19 dX10_overOf_15 (by decide) ?_
    exact v_ireturn O T rfl rfl (by decide) (by decide) dX10_overOf_19 (⟨_, by rw [(hM.2.2.2.2.2.1 _).1, sumN_ff ffR_f, show ovA c v i s (h % 10) = _ from if_neg (hM.2.2.2.2.1.mp z1)], rfl⟩)
set_option maxRecDepth 100000 in
set_option maxHeartbeats 4000000 in
theorem sp_X10_partsOf {D : G} {mo : Nat} {ma : Nat → Nat} {c : CS} {c2 : CS} {tk : Int32} {vc : Nat} {ln : Nat} {rn : Nat} {zs_10 : Int32} {zs_11 : Int32} {zs_20 : Int32} {zs_21 : Int32} {zs_22 : Int32} {zs_25 : Int32} {zs_26 : Int32} {zs_27 : Int32} {zs_29 : Int32} {wd : Nat → Int32} {nu : Nat → Int32} {fr : Nat → Int32} {tt9 : Nat → Int32} {sf : Nat → Int32} {cls : Nat → Int32} {pf : Nat → Int32} {bg : Nat} {bn : Nat} {v : VS} {i : Nat} (hB9 : hB c.held cls bg bn) (hM : MR wd nu fr tt9 sf bg bn v) (hC : cOk c) (hi : i < 6) : Sp D mX10_partsOf 3 0 0 [.ref mo, .int (nI i)] [(mo, .inr (10, M1R ma (mZ c c2 tk vc ln rn zs_10 zs_11 zs_20 zs_21 zs_22 zs_25 zs_26 zs_27 zs_29))), ((ma 4), eI D 6 (nF c.kk)), ((ma 5), eI D 6 (nF c.vv)), ((ma 13), eI D 6 cls), ((ma 14), eI D 60 wd), ((ma 15), eI D 60 nu), ((ma 16), eI D 60 fr), ((ma 17), eI D 60 tt9), ((ma 18), eI D 600 sf), ((ma 24), eZ D 100 pf)] (fun r w => r = some (.int (nI (ppA c v i))) ∧ w = [(mo, .inr (10, M1R ma (mZ c c2 tk vc ln rn zs_10 zs_11 zs_20 zs_21 zs_22 zs_25 zs_26 zs_27 zs_29))), ((ma 4), eI D 6 (nF c.kk)), ((ma 5), eI D 6 (nF c.vv)), ((ma 13), eI D 6 cls), ((ma 14), eI D 60 wd), ((ma 15), eI D 60 nu), ((ma 16), eI D 60 fr), ((ma 17), eI D 60 tt9), ((ma 18), eI D 600 sf), ((ma 24), eZ D 100 pf)]) := by
  refine Sp.of (by decide) (Nat.le_of_ble_eq_true rfl) (fun X O T => ?_)
  refine v_eq (lv' := [(0, .ref mo), (1, .int (nI i))]) rfl rfl rfl rfl ?_
  have z_kk := hC.2.1 i hi
  have z_vv := hC.2.2.1 i hi
  refine v_aload_n O dX10_partsOf_0 0 rfl ?_
  refine gf_X10_22 (v := .ref (ma 4)) O rfl dX10_partsOf_1 0 rfl rfl ?_
  refine v_iload_n O dX10_partsOf_4 1 rfl ?_
  refine v_ialdk O dX10_partsOf_5 1 rfl i rfl (by omega) (by decide) ?_
  refine v_top (y := nI (c.kk i)) rfl ?_
  by_cases s_1 : nI (c.kk i) = 1
  · skip
    refine v_top s_1 ?_
    refine v_tsIn (off := 38) O 44 dX10_partsOf_6 (by decide) (by decide) (by decide) (by decide) ?_
    have z_k1 := (c_eq (x := nI (c.kk i)) (y := 1) (a := (c.kk i)) (b := 1) rfl rfl (by omega) (by omega)).mp s_1
    refine v_aload_n O dX10_partsOf_44 0 rfl ?_
    refine gf_X10_26 (v := .ref (ma 5)) O rfl dX10_partsOf_45 0 rfl rfl ?_
    refine v_iload_n O dX10_partsOf_48 1 rfl ?_
    refine v_ialdk O dX10_partsOf_49 2 rfl i rfl (by omega) (by decide) ?_
    refine v_top (y := nI (c.vv i)) rfl ?_
    refine v_iconst (v := 2) O dX10_partsOf_50 (by decide) ?_
    refine v_iadd O dX10_partsOf_51 ?_
    refine v_top (y := nI ((c.vv i) + 2)) (nI_add (c.vv i) 2) ?_
    exact v_ireturn O T rfl rfl (by decide) (by decide) dX10_partsOf_52 (⟨by rw [show ppA c v i = c.vv i + 2 from by show partsN _ _ _ = _; unfold partsN; rw [if_pos (by omega)]], rfl⟩)
  by_cases s_2 : nI (c.kk i) = 2
  · skip
    refine v_top s_2 ?_
    refine v_tsIn (off := 49) O 55 dX10_partsOf_6 (by decide) (by decide) (by decide) (by decide) ?_
    have z_k2 := (c_eq (x := nI (c.kk i)) (y := 2) (a := (c.kk i)) (b := 2) rfl rfl (by omega) (by omega)).mp s_2
    refine v_aload_n O dX10_partsOf_55 0 rfl ?_
    refine v_cV (T := TX10) (ci := 10) (As := []) (wr := []) (st := []) O cf_X10_262 rfl (sp_X10_shares (mo := mo) (ma := ma) (c := c) (c2 := c2) (tk := tk) (vc := vc) (ln := ln) (rn := rn) (zs_10 := zs_10) (zs_11 := zs_11) (zs_20 := zs_20) (zs_21 := zs_21) (zs_22 := zs_22) (zs_25 := zs_25) (zs_26 := zs_26) (zs_27 := zs_27) (zs_29 := zs_29) (wd := wd) (nu := nu) (fr := fr) (tt9 := tt9) (sf := sf) (cls := cls) (pf := pf) (bg := bg) (bn := bn) (v := v) (hB9) (hM)) dX10_partsOf_56 rfl rfl 0 rfl [0, 1, 2, 3, 4, 5, 6, 7, 8, 9] [] (by decide) rfl rfl (by decide) (by decide) (by decide) (Nat.le_of_ble_eq_true rfl) (by decide) (by decide) (fun r_4 w_5 h_3 => ?_)
    obtain ⟨rfl, rfl⟩ := h_3
    refine v_eq (st' := [.int (nI v.sh)]) (ws' := [(mo, .inr (10, M1R ma (mZ c c2 tk vc ln rn zs_10 zs_11 zs_20 zs_21 zs_22 zs_25 zs_26 zs_27 zs_29))), ((ma 4), eI D 6 (nF c.kk)), ((ma 5), eI D 6 (nF c.vv)), ((ma 13), eI D 6 cls), ((ma 14), eI D 60 wd), ((ma 15), eI D 60 nu), ((ma 16), eI D 60 fr), ((ma 17), eI D 60 tt9), ((ma 18), eI D 600 sf), ((ma 24), eZ D 100 pf)]) rfl rfl rfl rfl ?_
    exact v_ireturn O T rfl rfl (by decide) (by decide) dX10_partsOf_59 (⟨by rw [show ppA c v i = v.sh from by show partsN _ _ _ = _; unfold partsN; rw [if_neg (by omega), if_neg (by omega)]], rfl⟩)
  by_cases s_6 : nI (c.kk i) = 3
  · skip
    refine v_top s_6 ?_
    refine v_tsIn (off := 47) O 53 dX10_partsOf_6 (by decide) (by decide) (by decide) (by decide) ?_
    have z_k3 := (c_eq (x := nI (c.kk i)) (y := 3) (a := (c.kk i)) (b := 3) rfl rfl (by omega) (by omega)).mp s_6
    refine v_iconst (v := 2) O dX10_partsOf_53 (by decide) ?_
    exact v_ireturn O T rfl rfl (by decide) (by decide) dX10_partsOf_54 (⟨by rw [show ppA c v i = 2 from by show partsN _ _ _ = _; unfold partsN; rw [if_neg (by omega), if_pos (by omega)]]; rfl, rfl⟩)
  by_cases s_7 : nI (c.kk i) = 4
  · skip
    refine v_top s_7 ?_
    refine v_tsIn (off := 38) O 44 dX10_partsOf_6 (by decide) (by decide) (by decide) (by decide) ?_
    have z_k4 := (c_eq (x := nI (c.kk i)) (y := 4) (a := (c.kk i)) (b := 4) rfl rfl (by omega) (by omega)).mp s_7
    refine v_aload_n O dX10_partsOf_44 0 rfl ?_
    refine gf_X10_26 (v := .ref (ma 5)) O rfl dX10_partsOf_45 0 rfl rfl ?_
    refine v_iload_n O dX10_partsOf_48 1 rfl ?_
    refine v_ialdk O dX10_partsOf_49 2 rfl i rfl (by omega) (by decide) ?_
    refine v_top (y := nI (c.vv i)) rfl ?_
    refine v_iconst (v := 2) O dX10_partsOf_50 (by decide) ?_
    refine v_iadd O dX10_partsOf_51 ?_
    refine v_top (y := nI ((c.vv i) + 2)) (nI_add (c.vv i) 2) ?_
    exact v_ireturn O T rfl rfl (by decide) (by decide) dX10_partsOf_52 (⟨by rw [show ppA c v i = c.vv i + 2 from by show partsN _ _ _ = _; unfold partsN; rw [if_pos (by omega)]], rfl⟩)
  by_cases s_8 : nI (c.kk i) = 5
  · skip
    refine v_top s_8 ?_
    refine v_tsIn (off := 49) O 55 dX10_partsOf_6 (by decide) (by decide) (by decide) (by decide) ?_
    have z_k5 := (c_eq (x := nI (c.kk i)) (y := 5) (a := (c.kk i)) (b := 5) rfl rfl (by omega) (by omega)).mp s_8
    refine v_aload_n O dX10_partsOf_55 0 rfl ?_
    refine v_cV (T := TX10) (ci := 10) (As := []) (wr := []) (st := []) O cf_X10_262 rfl (sp_X10_shares (mo := mo) (ma := ma) (c := c) (c2 := c2) (tk := tk) (vc := vc) (ln := ln) (rn := rn) (zs_10 := zs_10) (zs_11 := zs_11) (zs_20 := zs_20) (zs_21 := zs_21) (zs_22 := zs_22) (zs_25 := zs_25) (zs_26 := zs_26) (zs_27 := zs_27) (zs_29 := zs_29) (wd := wd) (nu := nu) (fr := fr) (tt9 := tt9) (sf := sf) (cls := cls) (pf := pf) (bg := bg) (bn := bn) (v := v) (hB9) (hM)) dX10_partsOf_56 rfl rfl 0 rfl [0, 1, 2, 3, 4, 5, 6, 7, 8, 9] [] (by decide) rfl rfl (by decide) (by decide) (by decide) (Nat.le_of_ble_eq_true rfl) (by decide) (by decide) (fun r_10 w_11 h_9 => ?_)
    obtain ⟨rfl, rfl⟩ := h_9
    refine v_eq (st' := [.int (nI v.sh)]) (ws' := [(mo, .inr (10, M1R ma (mZ c c2 tk vc ln rn zs_10 zs_11 zs_20 zs_21 zs_22 zs_25 zs_26 zs_27 zs_29))), ((ma 4), eI D 6 (nF c.kk)), ((ma 5), eI D 6 (nF c.vv)), ((ma 13), eI D 6 cls), ((ma 14), eI D 60 wd), ((ma 15), eI D 60 nu), ((ma 16), eI D 60 fr), ((ma 17), eI D 60 tt9), ((ma 18), eI D 600 sf), ((ma 24), eZ D 100 pf)]) rfl rfl rfl rfl ?_
    exact v_ireturn O T rfl rfl (by decide) (by decide) dX10_partsOf_59 (⟨by rw [show ppA c v i = v.sh from by show partsN _ _ _ = _; unfold partsN; rw [if_neg (by omega), if_neg (by omega)]], rfl⟩)
  by_cases s_12 : nI (c.kk i) = 6
  · skip
    refine v_top s_12 ?_
    refine v_tsIn (off := 47) O 53 dX10_partsOf_6 (by decide) (by decide) (by decide) (by decide) ?_
    have z_k6 := (c_eq (x := nI (c.kk i)) (y := 6) (a := (c.kk i)) (b := 6) rfl rfl (by omega) (by omega)).mp s_12
    refine v_iconst (v := 2) O dX10_partsOf_53 (by decide) ?_
    exact v_ireturn O T rfl rfl (by decide) (by decide) dX10_partsOf_54 (⟨by rw [show ppA c v i = 2 from by show partsN _ _ _ = _; unfold partsN; rw [if_neg (by omega), if_pos (by omega)]]; rfl, rfl⟩)
  refine v_tsOut O 55 dX10_partsOf_6 (ts_out (by decide) (by decide) (fun v h1 h2 => by rcases (show v = 1 ∨ v = 2 ∨ v = 3 ∨ v = 4 ∨ v = 5 ∨ v = 6 by omega) with rfl | rfl | rfl | rfl | rfl | rfl <;> assumption)) (by decide) ?_
  have z_n1 := (not_congr (c_eq (x := nI (c.kk i)) (y := 1) (a := (c.kk i)) (b := 1) rfl rfl (by omega) (by omega))).mp s_1
  have z_n2 := (not_congr (c_eq (x := nI (c.kk i)) (y := 2) (a := (c.kk i)) (b := 2) rfl rfl (by omega) (by omega))).mp s_2
  have z_n3 := (not_congr (c_eq (x := nI (c.kk i)) (y := 3) (a := (c.kk i)) (b := 3) rfl rfl (by omega) (by omega))).mp s_6
  have z_n4 := (not_congr (c_eq (x := nI (c.kk i)) (y := 4) (a := (c.kk i)) (b := 4) rfl rfl (by omega) (by omega))).mp s_7
  have z_n5 := (not_congr (c_eq (x := nI (c.kk i)) (y := 5) (a := (c.kk i)) (b := 5) rfl rfl (by omega) (by omega))).mp s_8
  have z_n6 := (not_congr (c_eq (x := nI (c.kk i)) (y := 6) (a := (c.kk i)) (b := 6) rfl rfl (by omega) (by omega))).mp s_12
  refine v_aload_n O dX10_partsOf_55 0 rfl ?_
  refine v_cV (T := TX10) (ci := 10) (As := []) (wr := []) (st := []) O cf_X10_262 rfl (sp_X10_shares (mo := mo) (ma := ma) (c := c) (c2 := c2) (tk := tk) (vc := vc) (ln := ln) (rn := rn) (zs_10 := zs_10) (zs_11 := zs_11) (zs_20 := zs_20) (zs_21 := zs_21) (zs_22 := zs_22) (zs_25 := zs_25) (zs_26 := zs_26) (zs_27 := zs_27) (zs_29 := zs_29) (wd := wd) (nu := nu) (fr := fr) (tt9 := tt9) (sf := sf) (cls := cls) (pf := pf) (bg := bg) (bn := bn) (v := v) (hB9) (hM)) dX10_partsOf_56 rfl rfl 0 rfl [0, 1, 2, 3, 4, 5, 6, 7, 8, 9] [] (by decide) rfl rfl (by decide) (by decide) (by decide) (Nat.le_of_ble_eq_true rfl) (by decide) (by decide) (fun r_14 w_15 h_13 => ?_)
  obtain ⟨rfl, rfl⟩ := h_13
  refine v_eq (st' := [.int (nI v.sh)]) (ws' := [(mo, .inr (10, M1R ma (mZ c c2 tk vc ln rn zs_10 zs_11 zs_20 zs_21 zs_22 zs_25 zs_26 zs_27 zs_29))), ((ma 4), eI D 6 (nF c.kk)), ((ma 5), eI D 6 (nF c.vv)), ((ma 13), eI D 6 cls), ((ma 14), eI D 60 wd), ((ma 15), eI D 60 nu), ((ma 16), eI D 60 fr), ((ma 17), eI D 60 tt9), ((ma 18), eI D 600 sf), ((ma 24), eZ D 100 pf)]) rfl rfl rfl rfl ?_
  exact v_ireturn O T rfl rfl (by decide) (by decide) dX10_partsOf_59 (⟨by rw [show ppA c v i = v.sh from by show partsN _ _ _ = _; unfold partsN; rw [if_neg (by omega), if_neg (by omega)]], rfl⟩)
set_option maxRecDepth 100000 in
set_option maxHeartbeats 4000000 in
theorem sp_X10_comesOut {D : G} {mo : Nat} {ma : Nat → Nat} {c : CS} {c2 : CS} {tk : Int32} {vc : Nat} {ln : Nat} {rn : Nat} {zs_10 : Int32} {zs_11 : Int32} {zs_20 : Int32} {zs_21 : Int32} {zs_22 : Int32} {zs_25 : Int32} {zs_26 : Int32} {zs_27 : Int32} {zs_29 : Int32} {wd : Nat → Int32} {nu : Nat → Int32} {fr : Nat → Int32} {tt9 : Nat → Int32} {sf : Nat → Int32} {cls : Nat → Int32} {pf : Nat → Int32} {bg : Nat} {bn : Nat} {v : VS} {i : Nat} {s : Nat} {h : Nat} (hB9 : hB c.held cls bg bn) (hM : MR wd nu fr tt9 sf bg bn v) (hC : cOk c) (hva : vAsk v) (hi : i < 6) (hs : s < 20) (hh : h < 1000000) : Sp D mX10_comesOut 4 0 0 [.ref mo, .int (nI i), .int (nI (c.wak + s)), .int (nI h)] [(mo, .inr (10, M1R ma (mZ c c2 tk vc ln rn zs_10 zs_11 zs_20 zs_21 zs_22 zs_25 zs_26 zs_27 zs_29))), ((ma 4), eI D 6 (nF c.kk)), ((ma 5), eI D 6 (nF c.vv)), ((ma 13), eI D 6 cls), ((ma 14), eI D 60 wd), ((ma 15), eI D 60 nu), ((ma 16), eI D 60 fr), ((ma 17), eI D 60 tt9), ((ma 18), eI D 600 sf), ((ma 24), eZ D 100 pf)] (fun r w => ∃ pf2 : Nat → Int32, r = some (.int (b2i (¬ shareN (c.kk i) (ppA c v i) (ovA c v i s) (bkA c v i s) h = none))) ∧ w = [(mo, .inr (10, M1R ma (mZ c c2 tk vc ln rn zs_10 zs_11 zs_20 zs_21 zs_22 zs_25 zs_26 zs_27 zs_29))), ((ma 4), eI D 6 (nF c.kk)), ((ma 5), eI D 6 (nF c.vv)), ((ma 13), eI D 6 cls), ((ma 14), eI D 60 wd), ((ma 15), eI D 60 nu), ((ma 16), eI D 60 fr), ((ma 17), eI D 60 tt9), ((ma 18), eI D 600 sf), ((ma 24), eZ D 100 pf2)]) := by
  refine Sp.of (by decide) (Nat.le_of_ble_eq_true rfl) (fun X O T => ?_)
  refine v_eq (lv' := [(0, .ref mo), (1, .int (nI i)), (2, .int (nI (c.wak + s))), (3, .int (nI h))]) rfl rfl rfl rfl ?_
  have z_o := ovA_lt hva (c := c) (m := i) (s := s) (d := h % 10)
  have z_b := bkA_lt hva (c := c) (m := i) (s := s) (d := h % 10)
  have z_p2 : 2 ≤ ppA c v i := partsN_ge hva.2.2.1
  have z_p9 : ppA c v i ≤ 99 := partsN_le hva.2.2.2.1 (hC.2.2.1 i hi)
  refine v_aload_n O dX10_comesOut_0 0 rfl ?_
  refine v_iload_n O dX10_comesOut_1 1 rfl ?_
  refine v_iload_n O dX10_comesOut_2 2 rfl ?_
  refine v_iload_n O dX10_comesOut_3 3 rfl ?_
  refine v_cV (T := TX10) (ci := 10) (As := [.int (nI i), .int (nI (c.wak + s)), .int (nI h)]) (wr := []) (st := []) O cf_X10_265 rfl (sp_X10_overOf (mo := mo) (ma := ma) (c := c) (c2 := c2) (tk := tk) (vc := vc) (ln := ln) (rn := rn) (zs_10 := zs_10) (zs_11 := zs_11) (zs_20 := zs_20) (zs_21 := zs_21) (zs_22 := zs_22) (zs_25 := zs_25) (zs_26 := zs_26) (zs_27 := zs_27) (zs_29 := zs_29) (wd := wd) (nu := nu) (fr := fr) (tt9 := tt9) (sf := sf) (cls := cls) (pf := pf) (bg := bg) (bn := bn) (v := v) (i := i) (s := s) (h := h) (hB9) (hM) (hC) (hva) (hi) (hs) (hh)) dX10_comesOut_4 rfl rfl 0 rfl [0, 1, 2, 3, 4, 5, 6, 7, 8, 9] [] (by decide) rfl rfl (by decide) (by decide) (by decide) (Nat.le_of_ble_eq_true rfl) (by decide) (by decide) (fun r_2 w_3 h_1 => ?_)
  obtain ⟨pf2_4, rfl, rfl⟩ := h_1
  refine v_eq (st' := [.int (nI (ovA c v i s (h % 10)))]) (ws' := [(mo, .inr (10, M1R ma (mZ c c2 tk vc ln rn zs_10 zs_11 zs_20 zs_21 zs_22 zs_25 zs_26 zs_27 zs_29))), ((ma 4), eI D 6 (nF c.kk)), ((ma 5), eI D 6 (nF c.vv)), ((ma 13), eI D 6 cls), ((ma 14), eI D 60 wd), ((ma 15), eI D 60 nu), ((ma 16), eI D 60 fr), ((ma 17), eI D 60 tt9), ((ma 18), eI D 600 sf), ((ma 24), eZ D 100 pf2_4)]) rfl rfl rfl rfl ?_
  refine v_istore (lv' := [(0, .ref mo), (1, .int (nI i)), (2, .int (nI (c.wak + s))), (3, .int (nI h)), (4, .int (nI (ovA c v i s (h % 10))))]) O dX10_comesOut_7 (by decide) rfl ?_
  refine v_iload_n O dX10_comesOut_9 3 rfl ?_
  refine v_iload O dX10_comesOut_10 4 rfl ?_
  refine v_icmp_lt O 32 dX10_comesOut_12 (by decide) (fun z1 => ?_) (fun z1 => ?_)
  · skip
    have z1 := (c_lt (x := nI h) (y := nI (ovA c v i s (h % 10))) (a := h) (b := ovA c v i s (h % 10)) rfl rfl (by omega) (by omega)).mp z1
    refine v_iconst (v := 0) O dX10_comesOut_32 (by decide) ?_
    exact v_ireturn O T rfl rfl (by decide) (by decide) dX10_comesOut_33 (⟨_, by rw [b2i_f (fun q => q (shareN_n1 z1))], rfl⟩)
  · skip
    have z1 := (not_congr (c_lt (x := nI h) (y := nI (ovA c v i s (h % 10))) (a := h) (b := ovA c v i s (h % 10)) rfl rfl (by omega) (by omega))).mp z1
    refine v_iload_n O dX10_comesOut_15 3 rfl ?_
    refine v_iload O dX10_comesOut_16 4 rfl ?_
    refine v_isub O dX10_comesOut_18 ?_
    refine v_top (y := nI (h - ovA c v i s (h % 10))) (pk_sub (by omega)) ?_
    refine v_aload_n O dX10_comesOut_19 0 rfl ?_
    refine v_iload_n O dX10_comesOut_20 1 rfl ?_
    refine v_cV (T := TX10) (ci := 10) (As := [.int (nI i)]) (wr := []) (st := [.int (nI (h - ovA c v i s (h % 10)))]) O cf_X10_269 rfl (sp_X10_partsOf (mo := mo) (ma := ma) (c := c) (c2 := c2) (tk := tk) (vc := vc) (ln := ln) (rn := rn) (zs_10 := zs_10) (zs_11 := zs_11) (zs_20 := zs_20) (zs_21 := zs_21) (zs_22 := zs_22) (zs_25 := zs_25) (zs_26 := zs_26) (zs_27 := zs_27) (zs_29 := zs_29) (wd := wd) (nu := nu) (fr := fr) (tt9 := tt9) (sf := sf) (cls := cls) (pf := pf2_4) (bg := bg) (bn := bn) (v := v) (i := i) (hB9) (hM) (hC) (hi)) dX10_comesOut_21 rfl rfl 0 rfl [0, 1, 2, 3, 4, 5, 6, 7, 8, 9] [] (by decide) rfl rfl (by decide) (by decide) (by decide) (Nat.le_of_ble_eq_true rfl) (by decide) (by decide) (fun r_6 w_7 h_5 => ?_)
    obtain ⟨rfl, rfl⟩ := h_5
    refine v_eq (st' := [.int (nI (ppA c v i)), .int (nI (h - ovA c v i s (h % 10)))]) (ws' := [(mo, .inr (10, M1R ma (mZ c c2 tk vc ln rn zs_10 zs_11 zs_20 zs_21 zs_22 zs_25 zs_26 zs_27 zs_29))), ((ma 4), eI D 6 (nF c.kk)), ((ma 5), eI D 6 (nF c.vv)), ((ma 13), eI D 6 cls), ((ma 14), eI D 60 wd), ((ma 15), eI D 60 nu), ((ma 16), eI D 60 fr), ((ma 17), eI D 60 tt9), ((ma 18), eI D 600 sf), ((ma 24), eZ D 100 pf2_4)]) rfl rfl rfl rfl ?_
    refine v_irem O dX10_comesOut_24 (nI_ne0 (by omega) (by omega)) ?_
    refine v_top (y := nI ((h - ovA c v i s (h % 10)) % ppA c v i)) (pk_rem (by omega) (by omega) (by omega)) ?_
    have z_md : (h - ovA c v i s (h % 10)) % ppA c v i < ppA c v i := Nat.mod_lt _ (by omega)
    refine v_if_ne O 32 dX10_comesOut_25 (by decide) (fun z2 => ?_) (fun z2 => ?_)
    · skip
      have z2 := (not_congr (c_eq (x := nI ((h - ovA c v i s (h % 10)) % ppA c v i)) (y := 0) (a := (h - ovA c v i s (h % 10)) % ppA c v i) (b := 0) rfl rfl (by omega) (by omega))).mp z2
      refine v_iconst (v := 0) O dX10_comesOut_32 (by decide) ?_
      exact v_ireturn O T rfl rfl (by decide) (by decide) dX10_comesOut_33 (⟨_, by rw [b2i_f (fun q => q (shareN_n2 z2))], rfl⟩)
    · skip
      have z2 := (c_eq (x := nI ((h - ovA c v i s (h % 10)) % ppA c v i)) (y := 0) (a := (h - ovA c v i s (h % 10)) % ppA c v i) (b := 0) rfl rfl (by omega) (by omega)).mp z2
      refine v_iconst (v := 1) O dX10_comesOut_28 (by decide) ?_
      refine v_goto O 33 dX10_comesOut_29 (by decide) ?_
      exact v_ireturn O T rfl rfl (by decide) (by decide) dX10_comesOut_33 (⟨_, by rw [b2i_t (by rw [shareN_some (Nat.not_lt.mp z1) z2]; exact fun q => by cases q)], rfl⟩)
set_option maxRecDepth 100000 in
set_option maxHeartbeats 4000000 in
theorem sp_X10_hidesOf {D : G} {mo : Nat} {ma : Nat → Nat} {c : CS} {c2 : CS} {tk : Int32} {vc : Nat} {ln : Nat} {rn : Nat} {zs_10 : Int32} {zs_11 : Int32} {zs_20 : Int32} {zs_21 : Int32} {zs_22 : Int32} {zs_25 : Int32} {zs_26 : Int32} {zs_27 : Int32} {zs_29 : Int32} {wd : Nat → Int32} {nu : Nat → Int32} {fr : Nat → Int32} {tt9 : Nat → Int32} {sf : Nat → Int32} {cls : Nat → Int32} {pf : Nat → Int32} {bg : Nat} {bn : Nat} {v : VS} {i : Nat} {q : Nat} {b : Nat} (hB9 : hB c.held cls bg bn) (hM : MR wd nu fr tt9 sf bg bn v) (hC : cOk c) (hva : vAsk v) (hi : i < 6) (hq : ppA c v i * q < 1000000) (hq2 : q < 1000000) (hb : b < 1000) : Sp D mX10_hidesOf 4 0 0 [.ref mo, .int (nI i), .int (nI q), .int (nI b)] [(mo, .inr (10, M1R ma (mZ c c2 tk vc ln rn zs_10 zs_11 zs_20 zs_21 zs_22 zs_25 zs_26 zs_27 zs_29))), ((ma 4), eI D 6 (nF c.kk)), ((ma 5), eI D 6 (nF c.vv)), ((ma 13), eI D 6 cls), ((ma 14), eI D 60 wd), ((ma 15), eI D 60 nu), ((ma 16), eI D 60 fr), ((ma 17), eI D 60 tt9), ((ma 18), eI D 600 sf), ((ma 24), eZ D 100 pf)] (fun r w => r = some (.int (nI (hidN (c.kk i) (ppA c v i * q) q b))) ∧ w = [(mo, .inr (10, M1R ma (mZ c c2 tk vc ln rn zs_10 zs_11 zs_20 zs_21 zs_22 zs_25 zs_26 zs_27 zs_29))), ((ma 4), eI D 6 (nF c.kk)), ((ma 5), eI D 6 (nF c.vv)), ((ma 13), eI D 6 cls), ((ma 14), eI D 60 wd), ((ma 15), eI D 60 nu), ((ma 16), eI D 60 fr), ((ma 17), eI D 60 tt9), ((ma 18), eI D 600 sf), ((ma 24), eZ D 100 pf)]) := by
  refine Sp.of (by decide) (Nat.le_of_ble_eq_true rfl) (fun X O T => ?_)
  refine v_eq (lv' := [(0, .ref mo), (1, .int (nI i)), (2, .int (nI q)), (3, .int (nI b))]) rfl rfl rfl rfl ?_
  have z_kk := hC.2.1 i hi
  have z_qb : q < 1000000 := hq2
  refine v_iload_n O dX10_hidesOf_0 2 rfl ?_
  refine v_iload_n O dX10_hidesOf_1 3 rfl ?_
  refine v_isub O dX10_hidesOf_2 ?_
  refine v_istore (lv' := [(0, .ref mo), (1, .int (nI i)), (2, .int (nI q)), (3, .int (nI b)), (4, .int ((nI q) - (nI b)))]) O dX10_hidesOf_3 (by decide) rfl ?_
  refine v_iconst (v := 2) O dX10_hidesOf_5 (by decide) ?_
  refine v_iload_n O dX10_hidesOf_6 2 rfl ?_
  refine v_imul O dX10_hidesOf_7 ?_
  refine v_top (y := nI (2 * q)) (pk_mul 2 q) ?_
  refine v_iload_n O dX10_hidesOf_8 3 rfl ?_
  refine v_isub O dX10_hidesOf_9 ?_
  refine v_istore (lv' := [(0, .ref mo), (1, .int (nI i)), (2, .int (nI q)), (3, .int (nI b)), (4, .int ((nI q) - (nI b))), (5, .int ((nI (2 * q)) - (nI b)))]) O dX10_hidesOf_10 (by decide) rfl ?_
  refine v_aload_n O dX10_hidesOf_12 0 rfl ?_
  refine gf_X10_22 (v := .ref (ma 4)) O rfl dX10_hidesOf_13 0 rfl rfl ?_
  refine v_iload_n O dX10_hidesOf_16 1 rfl ?_
  refine v_ialdk O dX10_hidesOf_17 1 rfl i rfl (by omega) (by decide) ?_
  refine v_top (y := nI (c.kk i)) rfl ?_
  by_cases s_1 : nI (c.kk i) = 2
  · skip
    refine v_top s_1 ?_
    refine v_tsIn (off := 36) O 54 dX10_hidesOf_18 (by decide) (by decide) (by decide) (by decide) ?_
    have z_k2 := (c_eq (x := nI (c.kk i)) (y := 2) (a := (c.kk i)) (b := 2) rfl rfl (by omega) (by omega)).mp s_1
    refine v_iload O dX10_hidesOf_54 5 rfl ?_
    refine v_if_ge O 63 dX10_hidesOf_56 (by decide) (fun z4 => ?_) (fun z4 => ?_)
    · skip
      have z_ge : b ≤ 2 * q := by
        rcases Nat.lt_or_ge (2 * q) b with y | y
        · exact absurd (pk_sneg (by omega) y) (Int32.not_lt.mpr z4)
        · exact y
      refine v_iload O dX10_hidesOf_63 5 rfl ?_
      refine v_top (y := nI (2 * q - b)) (pk_sub z_ge) ?_
      exact v_ireturn O T rfl rfl (by decide) (by decide) dX10_hidesOf_65 (⟨by unfold hidN; rw [if_neg (by omega), if_pos (by omega)], rfl⟩)
    · skip
      have z_lt : 2 * q < b := by
        rcases Nat.lt_or_ge (2 * q) b with y | y
        · exact y
        · rw [pk_sub y] at z4; exact absurd (Int32.not_lt.mp (nI_pos (by omega))) z4
      refine v_iconst (v := 0) O dX10_hidesOf_59 (by decide) ?_
      refine v_goto O 65 dX10_hidesOf_60 (by decide) ?_
      exact v_ireturn O T rfl rfl (by decide) (by decide) dX10_hidesOf_65 (⟨by unfold hidN; rw [if_neg (by omega), if_pos (by omega), show 2 * q - b = 0 by omega]; rfl, rfl⟩)
  by_cases s_2 : nI (c.kk i) = 3
  · skip
    refine v_top s_2 ?_
    refine v_tsIn (off := 75) O 93 dX10_hidesOf_18 (by decide) (by decide) (by decide) (by decide) ?_
    have z_k3 := (c_eq (x := nI (c.kk i)) (y := 3) (a := (c.kk i)) (b := 3) rfl rfl (by omega) (by omega)).mp s_2
    refine v_iload O dX10_hidesOf_93 4 rfl ?_
    refine v_if_ge O 102 dX10_hidesOf_95 (by decide) (fun z4 => ?_) (fun z4 => ?_)
    · skip
      have z_ge : b ≤ q := by
        rcases Nat.lt_or_ge (q) b with y | y
        · exact absurd (pk_sneg (by omega) y) (Int32.not_lt.mpr z4)
        · exact y
      refine v_iload O dX10_hidesOf_102 4 rfl ?_
      refine v_top (y := nI (q - b)) (pk_sub z_ge) ?_
      exact v_ireturn O T rfl rfl (by decide) (by decide) dX10_hidesOf_104 (⟨by unfold hidN; rw [if_neg (by omega), if_neg (by omega), if_neg (by omega)], rfl⟩)
    · skip
      have z_lt : q < b := by
        rcases Nat.lt_or_ge (q) b with y | y
        · exact y
        · rw [pk_sub y] at z4; exact absurd (Int32.not_lt.mp (nI_pos (by omega))) z4
      refine v_iconst (v := 0) O dX10_hidesOf_98 (by decide) ?_
      refine v_goto O 104 dX10_hidesOf_99 (by decide) ?_
      exact v_ireturn O T rfl rfl (by decide) (by decide) dX10_hidesOf_104 (⟨by unfold hidN; rw [if_neg (by omega), if_neg (by omega), if_neg (by omega), show q - b = 0 by omega]; rfl, rfl⟩)
  by_cases s_3 : nI (c.kk i) = 4
  · skip
    refine v_top s_3 ?_
    refine v_tsIn (off := 34) O 52 dX10_hidesOf_18 (by decide) (by decide) (by decide) (by decide) ?_
    have z_k4 := (c_eq (x := nI (c.kk i)) (y := 4) (a := (c.kk i)) (b := 4) rfl rfl (by omega) (by omega)).mp s_3
    refine v_iconst (v := 0) O dX10_hidesOf_52 (by decide) ?_
    exact v_ireturn O T rfl rfl (by decide) (by decide) dX10_hidesOf_53 (⟨by unfold hidN; rw [if_pos (by omega)]; rfl, rfl⟩)
  by_cases s_4 : nI (c.kk i) = 5
  · skip
    refine v_top s_4 ?_
    refine v_tsIn (off := 36) O 54 dX10_hidesOf_18 (by decide) (by decide) (by decide) (by decide) ?_
    have z_k5 := (c_eq (x := nI (c.kk i)) (y := 5) (a := (c.kk i)) (b := 5) rfl rfl (by omega) (by omega)).mp s_4
    refine v_iload O dX10_hidesOf_54 5 rfl ?_
    refine v_if_ge O 63 dX10_hidesOf_56 (by decide) (fun z4 => ?_) (fun z4 => ?_)
    · skip
      have z_ge : b ≤ 2 * q := by
        rcases Nat.lt_or_ge (2 * q) b with y | y
        · exact absurd (pk_sneg (by omega) y) (Int32.not_lt.mpr z4)
        · exact y
      refine v_iload O dX10_hidesOf_63 5 rfl ?_
      refine v_top (y := nI (2 * q - b)) (pk_sub z_ge) ?_
      exact v_ireturn O T rfl rfl (by decide) (by decide) dX10_hidesOf_65 (⟨by unfold hidN; rw [if_neg (by omega), if_pos (by omega)], rfl⟩)
    · skip
      have z_lt : 2 * q < b := by
        rcases Nat.lt_or_ge (2 * q) b with y | y
        · exact y
        · rw [pk_sub y] at z4; exact absurd (Int32.not_lt.mp (nI_pos (by omega))) z4
      refine v_iconst (v := 0) O dX10_hidesOf_59 (by decide) ?_
      refine v_goto O 65 dX10_hidesOf_60 (by decide) ?_
      exact v_ireturn O T rfl rfl (by decide) (by decide) dX10_hidesOf_65 (⟨by unfold hidN; rw [if_neg (by omega), if_pos (by omega), show 2 * q - b = 0 by omega]; rfl, rfl⟩)
  by_cases s_5 : nI (c.kk i) = 6
  · skip
    refine v_top s_5 ?_
    refine v_tsIn (off := 48) O 66 dX10_hidesOf_18 (by decide) (by decide) (by decide) (by decide) ?_
    have z_k6 := (c_eq (x := nI (c.kk i)) (y := 6) (a := (c.kk i)) (b := 6) rfl rfl (by omega) (by omega)).mp s_5
    refine v_iload_n O dX10_hidesOf_66 2 rfl ?_
    refine v_iload_n O dX10_hidesOf_67 3 rfl ?_
    refine v_iadd O dX10_hidesOf_68 ?_
    refine v_top (y := nI (q + b)) (nI_add q b) ?_
    refine v_aload_n O dX10_hidesOf_69 0 rfl ?_
    refine v_iload_n O dX10_hidesOf_70 1 rfl ?_
    refine v_cV (T := TX10) (ci := 10) (As := [.int (nI i)]) (wr := []) (st := [.int (nI (q + b))]) O cf_X10_269 rfl (sp_X10_partsOf (mo := mo) (ma := ma) (c := c) (c2 := c2) (tk := tk) (vc := vc) (ln := ln) (rn := rn) (zs_10 := zs_10) (zs_11 := zs_11) (zs_20 := zs_20) (zs_21 := zs_21) (zs_22 := zs_22) (zs_25 := zs_25) (zs_26 := zs_26) (zs_27 := zs_27) (zs_29 := zs_29) (wd := wd) (nu := nu) (fr := fr) (tt9 := tt9) (sf := sf) (cls := cls) (pf := pf) (bg := bg) (bn := bn) (v := v) (i := i) (hB9) (hM) (hC) (hi)) dX10_hidesOf_71 rfl rfl 0 rfl [0, 1, 2, 3, 4, 5, 6, 7, 8, 9] [] (by decide) rfl rfl (by decide) (by decide) (by decide) (Nat.le_of_ble_eq_true rfl) (by decide) (by decide) (fun r_7 w_8 h_6 => ?_)
    obtain ⟨rfl, rfl⟩ := h_6
    refine v_eq (st' := [.int (nI (ppA c v i)), .int (nI (q + b))]) (ws' := [(mo, .inr (10, M1R ma (mZ c c2 tk vc ln rn zs_10 zs_11 zs_20 zs_21 zs_22 zs_25 zs_26 zs_27 zs_29))), ((ma 4), eI D 6 (nF c.kk)), ((ma 5), eI D 6 (nF c.vv)), ((ma 13), eI D 6 cls), ((ma 14), eI D 60 wd), ((ma 15), eI D 60 nu), ((ma 16), eI D 60 fr), ((ma 17), eI D 60 tt9), ((ma 18), eI D 600 sf), ((ma 24), eZ D 100 pf)]) rfl rfl rfl rfl ?_
    refine v_iload_n O dX10_hidesOf_74 2 rfl ?_
    refine v_imul O dX10_hidesOf_75 ?_
    refine v_top (y := nI ((ppA c v i) * q)) (pk_mul (ppA c v i) q) ?_
    refine v_icmp_le O 89 dX10_hidesOf_76 (by decide) (fun z5 => ?_) (fun z5 => ?_)
    · skip
      have z5 := (c_le (x := nI (q + b)) (y := nI ((ppA c v i) * q)) (a := q + b) (b := (ppA c v i) * q) rfl rfl (by omega) (by omega)).mp z5
      refine v_iload_n O dX10_hidesOf_89 2 rfl ?_
      refine v_iload_n O dX10_hidesOf_90 3 rfl ?_
      refine v_iadd O dX10_hidesOf_91 ?_
      refine v_top (y := nI (q + b)) (nI_add q b) ?_
      exact v_ireturn O T rfl rfl (by decide) (by decide) dX10_hidesOf_92 (⟨by unfold hidN; rw [if_neg (by omega), if_neg (by omega), if_pos (by omega), show min (q + b) (ppA c v i * q) = q + b by omega], rfl⟩)
    · skip
      have z5 := (not_congr (c_le (x := nI (q + b)) (y := nI ((ppA c v i) * q)) (a := q + b) (b := (ppA c v i) * q) rfl rfl (by omega) (by omega))).mp z5
      refine v_aload_n O dX10_hidesOf_79 0 rfl ?_
      refine v_iload_n O dX10_hidesOf_80 1 rfl ?_
      refine v_cV (T := TX10) (ci := 10) (As := [.int (nI i)]) (wr := []) (st := []) O cf_X10_269 rfl (sp_X10_partsOf (mo := mo) (ma := ma) (c := c) (c2 := c2) (tk := tk) (vc := vc) (ln := ln) (rn := rn) (zs_10 := zs_10) (zs_11 := zs_11) (zs_20 := zs_20) (zs_21 := zs_21) (zs_22 := zs_22) (zs_25 := zs_25) (zs_26 := zs_26) (zs_27 := zs_27) (zs_29 := zs_29) (wd := wd) (nu := nu) (fr := fr) (tt9 := tt9) (sf := sf) (cls := cls) (pf := pf) (bg := bg) (bn := bn) (v := v) (i := i) (hB9) (hM) (hC) (hi)) dX10_hidesOf_81 rfl rfl 0 rfl [0, 1, 2, 3, 4, 5, 6, 7, 8, 9] [] (by decide) rfl rfl (by decide) (by decide) (by decide) (Nat.le_of_ble_eq_true rfl) (by decide) (by decide) (fun r_10 w_11 h_9 => ?_)
      obtain ⟨rfl, rfl⟩ := h_9
      refine v_eq (st' := [.int (nI (ppA c v i))]) (ws' := [(mo, .inr (10, M1R ma (mZ c c2 tk vc ln rn zs_10 zs_11 zs_20 zs_21 zs_22 zs_25 zs_26 zs_27 zs_29))), ((ma 4), eI D 6 (nF c.kk)), ((ma 5), eI D 6 (nF c.vv)), ((ma 13), eI D 6 cls), ((ma 14), eI D 60 wd), ((ma 15), eI D 60 nu), ((ma 16), eI D 60 fr), ((ma 17), eI D 60 tt9), ((ma 18), eI D 600 sf), ((ma 24), eZ D 100 pf)]) rfl rfl rfl rfl ?_
      refine v_iload_n O dX10_hidesOf_84 2 rfl ?_
      refine v_imul O dX10_hidesOf_85 ?_
      refine v_top (y := nI ((ppA c v i) * q)) (pk_mul (ppA c v i) q) ?_
      refine v_goto O 92 dX10_hidesOf_86 (by decide) ?_
      exact v_ireturn O T rfl rfl (by decide) (by decide) dX10_hidesOf_92 (⟨by unfold hidN; rw [if_neg (by omega), if_neg (by omega), if_pos (by omega), show min (q + b) (ppA c v i * q) = (ppA c v i) * q by omega], rfl⟩)
  refine v_tsOut O 93 dX10_hidesOf_18 (ts_out (by decide) (by decide) (fun v h1 h2 => by rcases (show v = 2 ∨ v = 3 ∨ v = 4 ∨ v = 5 ∨ v = 6 by omega) with rfl | rfl | rfl | rfl | rfl <;> assumption)) (by decide) ?_
  have z_n2 := (not_congr (c_eq (x := nI (c.kk i)) (y := 2) (a := (c.kk i)) (b := 2) rfl rfl (by omega) (by omega))).mp s_1
  have z_n3 := (not_congr (c_eq (x := nI (c.kk i)) (y := 3) (a := (c.kk i)) (b := 3) rfl rfl (by omega) (by omega))).mp s_2
  have z_n4 := (not_congr (c_eq (x := nI (c.kk i)) (y := 4) (a := (c.kk i)) (b := 4) rfl rfl (by omega) (by omega))).mp s_3
  have z_n5 := (not_congr (c_eq (x := nI (c.kk i)) (y := 5) (a := (c.kk i)) (b := 5) rfl rfl (by omega) (by omega))).mp s_4
  have z_n6 := (not_congr (c_eq (x := nI (c.kk i)) (y := 6) (a := (c.kk i)) (b := 6) rfl rfl (by omega) (by omega))).mp s_5
  refine v_iload O dX10_hidesOf_93 4 rfl ?_
  refine v_if_ge O 102 dX10_hidesOf_95 (by decide) (fun z4 => ?_) (fun z4 => ?_)
  · skip
    have z_ge : b ≤ q := by
      rcases Nat.lt_or_ge (q) b with y | y
      · exact absurd (pk_sneg (by omega) y) (Int32.not_lt.mpr z4)
      · exact y
    refine v_iload O dX10_hidesOf_102 4 rfl ?_
    refine v_top (y := nI (q - b)) (pk_sub z_ge) ?_
    exact v_ireturn O T rfl rfl (by decide) (by decide) dX10_hidesOf_104 (⟨by unfold hidN; rw [if_neg (by omega), if_neg (by omega), if_neg (by omega)], rfl⟩)
  · skip
    have z_lt : q < b := by
      rcases Nat.lt_or_ge (q) b with y | y
      · exact y
      · rw [pk_sub y] at z4; exact absurd (Int32.not_lt.mp (nI_pos (by omega))) z4
    refine v_iconst (v := 0) O dX10_hidesOf_98 (by decide) ?_
    refine v_goto O 104 dX10_hidesOf_99 (by decide) ?_
    exact v_ireturn O T rfl rfl (by decide) (by decide) dX10_hidesOf_104 (⟨by unfold hidN; rw [if_neg (by omega), if_neg (by omega), if_neg (by omega), show q - b = 0 by omega]; rfl, rfl⟩)
set_option maxRecDepth 100000 in
set_option maxHeartbeats 4000000 in
theorem sp_X10_shared {D : G} {mo : Nat} {ma : Nat → Nat} {c : CS} {c2 : CS} {tk : Int32} {vc : Nat} {ln : Nat} {rn : Nat} {zs_10 : Int32} {zs_11 : Int32} {zs_20 : Int32} {zs_21 : Int32} {zs_22 : Int32} {zs_29 : Int32} {wd : Nat → Int32} {nu : Nat → Int32} {fr : Nat → Int32} {tt9 : Nat → Int32} {sf : Nat → Int32} {cls : Nat → Int32} {pf : Nat → Int32} {bg : Nat} {bn : Nat} {v : VS} {i : Nat} {s : Nat} {h : Nat} {g : Nat} {d9 : Nat} (hB9 : hB c.held cls bg bn) (hM : MR wd nu fr tt9 sf bg bn v) (hC : cOk c) (hva : vAsk v) (hi : i < 6) (hs : s < 20) (hh : h < 1000000) (hg : g < 1000000) (hd : d9 < 1000000) : Sp D mX10_shared 5 0 0 [.ref mo, .int (nI i), .int (nI (c.wak + s))] [(mo, .inr (10, M1R ma (mZ c c2 tk vc ln rn zs_10 zs_11 zs_20 zs_21 zs_22 (nI h) (nI g) (nI d9) zs_29))), ((ma 4), eI D 6 (nF c.kk)), ((ma 5), eI D 6 (nF c.vv)), ((ma 13), eI D 6 cls), ((ma 14), eI D 60 wd), ((ma 15), eI D 60 nu), ((ma 16), eI D 60 fr), ((ma 17), eI D 60 tt9), ((ma 18), eI D 600 sf), ((ma 24), eZ D 100 pf)] (fun r w => ∃ pf2 : Nat → Int32, r = some (.int (b2i (¬ shareN (c.kk i) (ppA c v i) (ovA c v i s) (bkA c v i s) h = none))) ∧ w = [(mo, .inr (10, M1R ma (mZ c c2 tk vc ln rn zs_10 zs_11 zs_20 zs_21 zs_22 (nI (oL (shareN (c.kk i) (ppA c v i) (ovA c v i s) (bkA c v i s) h) h)) (nI (oG (shareN (c.kk i) (ppA c v i) (ovA c v i s) (bkA c v i s) h) g)) (nI (oD (shareN (c.kk i) (ppA c v i) (ovA c v i s) (bkA c v i s) h) d9)) zs_29))), ((ma 4), eI D 6 (nF c.kk)), ((ma 5), eI D 6 (nF c.vv)), ((ma 13), eI D 6 cls), ((ma 14), eI D 60 wd), ((ma 15), eI D 60 nu), ((ma 16), eI D 60 fr), ((ma 17), eI D 60 tt9), ((ma 18), eI D 600 sf), ((ma 24), eZ D 100 pf2)]) := by
  refine Sp.of (by decide) (Nat.le_of_ble_eq_true rfl) (fun X O T => ?_)
  refine v_eq (lv' := [(0, .ref mo), (1, .int (nI i)), (2, .int (nI (c.wak + s)))]) rfl rfl rfl rfl ?_
  have z_o := ovA_lt hva (c := c) (m := i) (s := s) (d := h % 10)
  have z_b := bkA_lt hva (c := c) (m := i) (s := s) (d := h % 10)
  have z_p2 : 2 ≤ ppA c v i := partsN_ge hva.2.2.1
  have z_p9 : ppA c v i ≤ 99 := partsN_le hva.2.2.2.1 (hC.2.2.1 i hi)
  refine v_aload_n O dX10_shared_0 0 rfl ?_
  refine v_iload_n O dX10_shared_1 1 rfl ?_
  refine v_iload_n O dX10_shared_2 2 rfl ?_
  refine v_aload_n O dX10_shared_3 0 rfl ?_
  refine gf_X10_87 (v := .int (nI h)) O rfl dX10_shared_4 0 rfl rfl ?_
  refine v_cV (T := TX10) (ci := 10) (As := [.int (nI i), .int (nI (c.wak + s)), .int (nI h)]) (wr := []) (st := []) O cf_X10_272 rfl (sp_X10_comesOut (mo := mo) (ma := ma) (c := c) (c2 := c2) (tk := tk) (vc := vc) (ln := ln) (rn := rn) (zs_10 := zs_10) (zs_11 := zs_11) (zs_20 := zs_20) (zs_21 := zs_21) (zs_22 := zs_22) (zs_25 := (nI h)) (zs_26 := (nI g)) (zs_27 := (nI d9)) (zs_29 := zs_29) (wd := wd) (nu := nu) (fr := fr) (tt9 := tt9) (sf := sf) (cls := cls) (pf := pf) (bg := bg) (bn := bn) (v := v) (i := i) (s := s) (h := h) (hB9) (hM) (hC) (hva) (hi) (hs) (hh)) dX10_shared_7 rfl rfl 0 rfl [0, 1, 2, 3, 4, 5, 6, 7, 8, 9] [] (by decide) rfl rfl (by decide) (by decide) (by decide) (Nat.le_of_ble_eq_true rfl) (by decide) (by decide) (fun r_2 w_3 h_1 => ?_)
  obtain ⟨pf2_4, rfl, rfl⟩ := h_1
  refine v_eq (st' := [.int (b2i (¬ shareN (c.kk i) (ppA c v i) (ovA c v i s) (bkA c v i s) h = none))]) (ws' := [(mo, .inr (10, M1R ma (mZ c c2 tk vc ln rn zs_10 zs_11 zs_20 zs_21 zs_22 (nI h) (nI g) (nI d9) zs_29))), ((ma 4), eI D 6 (nF c.kk)), ((ma 5), eI D 6 (nF c.vv)), ((ma 13), eI D 6 cls), ((ma 14), eI D 60 wd), ((ma 15), eI D 60 nu), ((ma 16), eI D 60 fr), ((ma 17), eI D 60 tt9), ((ma 18), eI D 600 sf), ((ma 24), eZ D 100 pf2_4)]) rfl rfl rfl rfl ?_
  refine v_if_ne O 15 dX10_shared_10 (by decide) (fun z1 => ?_) (fun z1 => ?_)
  · skip
    have z1 := b2i_1.mp z1
    have z_ge : ovA c v i s (h % 10) ≤ h := by
      rcases Nat.lt_or_ge h (ovA c v i s (h % 10)) with y | y
      · exact absurd (shareN_n1 y) z1
      · exact y
    have z_dv0 : (h - ovA c v i s (h % 10)) % ppA c v i = 0 := Classical.byContradiction (fun y => z1 (shareN_n2 y))
    have z_some := shareN_some (k := c.kk i) (p := ppA c v i) (o := ovA c v i s) (b := bkA c v i s) z_ge z_dv0
    have z_ml : ppA c v i * ((h - ovA c v i s (h % 10)) / ppA c v i) = h - ovA c v i s (h % 10) := by have := Nat.div_add_mod (h - ovA c v i s (h % 10)) (ppA c v i); omega
    have z_dv : (h - ovA c v i s (h % 10)) / ppA c v i ≤ h - ovA c v i s (h % 10) := Nat.div_le_self _ _
    have z_hd := hidN_le (k := c.kk i) (sh := h - ovA c v i s (h % 10)) (b := bkA c v i s (h % 10)) z_p2
    refine v_aload_n O dX10_shared_15 0 rfl ?_
    refine v_iload_n O dX10_shared_16 1 rfl ?_
    refine v_iload_n O dX10_shared_17 2 rfl ?_
    refine v_aload_n O dX10_shared_18 0 rfl ?_
    refine gf_X10_87 (v := .int (nI h)) O rfl dX10_shared_19 0 rfl rfl ?_
    refine v_cV (T := TX10) (ci := 10) (As := [.int (nI i), .int (nI (c.wak + s)), .int (nI h)]) (wr := []) (st := []) O cf_X10_265 rfl (sp_X10_overOf (mo := mo) (ma := ma) (c := c) (c2 := c2) (tk := tk) (vc := vc) (ln := ln) (rn := rn) (zs_10 := zs_10) (zs_11 := zs_11) (zs_20 := zs_20) (zs_21 := zs_21) (zs_22 := zs_22) (zs_25 := (nI h)) (zs_26 := (nI g)) (zs_27 := (nI d9)) (zs_29 := zs_29) (wd := wd) (nu := nu) (fr := fr) (tt9 := tt9) (sf := sf) (cls := cls) (pf := pf2_4) (bg := bg) (bn := bn) (v := v) (i := i) (s := s) (h := h) (hB9) (hM) (hC) (hva) (hi) (hs) (hh)) dX10_shared_22 rfl rfl 0 rfl [0, 1, 2, 3, 4, 5, 6, 7, 8, 9] [] (by decide) rfl rfl (by decide) (by decide) (by decide) (Nat.le_of_ble_eq_true rfl) (by decide) (by decide) (fun r_6 w_7 h_5 => ?_)
    obtain ⟨pf2_8, rfl, rfl⟩ := h_5
    refine v_eq (st' := [.int (nI (ovA c v i s (h % 10)))]) (ws' := [(mo, .inr (10, M1R ma (mZ c c2 tk vc ln rn zs_10 zs_11 zs_20 zs_21 zs_22 (nI h) (nI g) (nI d9) zs_29))), ((ma 4), eI D 6 (nF c.kk)), ((ma 5), eI D 6 (nF c.vv)), ((ma 13), eI D 6 cls), ((ma 14), eI D 60 wd), ((ma 15), eI D 60 nu), ((ma 16), eI D 60 fr), ((ma 17), eI D 60 tt9), ((ma 18), eI D 600 sf), ((ma 24), eZ D 100 pf2_8)]) rfl rfl rfl rfl ?_
    refine v_istore_n (lv' := [(0, .ref mo), (1, .int (nI i)), (2, .int (nI (c.wak + s))), (3, .int (nI (ovA c v i s (h % 10))))]) O dX10_shared_25 (by decide) rfl ?_
    refine v_aload_n O dX10_shared_26 0 rfl ?_
    refine v_iload_n O dX10_shared_27 1 rfl ?_
    refine v_aload_n O dX10_shared_28 0 rfl ?_
    refine gf_X10_87 (v := .int (nI h)) O rfl dX10_shared_29 0 rfl rfl ?_
    refine v_iload_n O dX10_shared_32 3 rfl ?_
    refine v_isub O dX10_shared_33 ?_
    refine v_top (y := nI (h - ovA c v i s (h % 10))) (pk_sub (by omega)) ?_
    refine v_aload_n O dX10_shared_34 0 rfl ?_
    refine v_iload_n O dX10_shared_35 1 rfl ?_
    refine v_cV (T := TX10) (ci := 10) (As := [.int (nI i)]) (wr := []) (st := [.int (nI (h - ovA c v i s (h % 10))), .int (nI i), .ref mo]) O cf_X10_269 rfl (sp_X10_partsOf (mo := mo) (ma := ma) (c := c) (c2 := c2) (tk := tk) (vc := vc) (ln := ln) (rn := rn) (zs_10 := zs_10) (zs_11 := zs_11) (zs_20 := zs_20) (zs_21 := zs_21) (zs_22 := zs_22) (zs_25 := (nI h)) (zs_26 := (nI g)) (zs_27 := (nI d9)) (zs_29 := zs_29) (wd := wd) (nu := nu) (fr := fr) (tt9 := tt9) (sf := sf) (cls := cls) (pf := pf2_8) (bg := bg) (bn := bn) (v := v) (i := i) (hB9) (hM) (hC) (hi)) dX10_shared_36 rfl rfl 0 rfl [0, 1, 2, 3, 4, 5, 6, 7, 8, 9] [] (by decide) rfl rfl (by decide) (by decide) (by decide) (Nat.le_of_ble_eq_true rfl) (by decide) (by decide) (fun r_10 w_11 h_9 => ?_)
    obtain ⟨rfl, rfl⟩ := h_9
    refine v_eq (st' := [.int (nI (ppA c v i)), .int (nI (h - ovA c v i s (h % 10))), .int (nI i), .ref mo]) (ws' := [(mo, .inr (10, M1R ma (mZ c c2 tk vc ln rn zs_10 zs_11 zs_20 zs_21 zs_22 (nI h) (nI g) (nI d9) zs_29))), ((ma 4), eI D 6 (nF c.kk)), ((ma 5), eI D 6 (nF c.vv)), ((ma 13), eI D 6 cls), ((ma 14), eI D 60 wd), ((ma 15), eI D 60 nu), ((ma 16), eI D 60 fr), ((ma 17), eI D 60 tt9), ((ma 18), eI D 600 sf), ((ma 24), eZ D 100 pf2_8)]) rfl rfl rfl rfl ?_
    refine v_idiv O dX10_shared_39 (nI_ne0 (by omega) (by omega)) ?_
    refine v_top (y := nI ((h - ovA c v i s (h % 10)) / ppA c v i)) (pk_div (by omega) (by omega) (by omega)) ?_
    refine v_aload_n O dX10_shared_40 0 rfl ?_
    refine v_iconst (v := 2) O dX10_shared_41 (by decide) ?_
    refine v_iload_n O dX10_shared_42 1 rfl ?_
    refine v_iload_n O dX10_shared_43 2 rfl ?_
    refine v_aload_n O dX10_shared_44 0 rfl ?_
    refine gf_X10_87 (v := .int (nI h)) O rfl dX10_shared_45 0 rfl rfl ?_
    refine v_cV (T := TX10) (ci := 10) (As := [.int 2, .int (nI i), .int (nI (c.wak + s)), .int (nI h)]) (wr := []) (st := [.int (nI ((h - ovA c v i s (h % 10)) / ppA c v i)), .int (nI i), .ref mo]) O cf_X10_259 rfl (sp_X10_backOf (mo := mo) (ma := ma) (c := c) (c2 := c2) (tk := tk) (vc := vc) (ln := ln) (rn := rn) (zs_10 := zs_10) (zs_11 := zs_11) (zs_20 := zs_20) (zs_21 := zs_21) (zs_22 := zs_22) (zs_25 := (nI h)) (zs_26 := (nI g)) (zs_27 := (nI d9)) (zs_29 := zs_29) (wd := wd) (nu := nu) (fr := fr) (tt9 := tt9) (sf := sf) (cls := cls) (pf := pf2_8) (bg := bg) (bn := bn) (v := v) (i := i) (s := s) (h := h) (hB9) (hM) (hC) (hva) (hi) (hs) (hh)) dX10_shared_48 rfl rfl 0 rfl [0, 1, 2, 3, 4, 5, 6, 7, 8, 9] [] (by decide) rfl rfl (by decide) (by decide) (by decide) (Nat.le_of_ble_eq_true rfl) (by decide) (by decide) (fun r_13 w_14 h_12 => ?_)
    obtain ⟨pf2_15, rfl, rfl⟩ := h_12
    refine v_eq (st' := [.int (nI (bkA c v i s (h % 10))), .int (nI ((h - ovA c v i s (h % 10)) / ppA c v i)), .int (nI i), .ref mo]) (ws' := [(mo, .inr (10, M1R ma (mZ c c2 tk vc ln rn zs_10 zs_11 zs_20 zs_21 zs_22 (nI h) (nI g) (nI d9) zs_29))), ((ma 4), eI D 6 (nF c.kk)), ((ma 5), eI D 6 (nF c.vv)), ((ma 13), eI D 6 cls), ((ma 14), eI D 60 wd), ((ma 15), eI D 60 nu), ((ma 16), eI D 60 fr), ((ma 17), eI D 60 tt9), ((ma 18), eI D 600 sf), ((ma 24), eZ D 100 pf2_15)]) rfl rfl rfl rfl ?_
    refine v_cV (T := TX10) (ci := 10) (As := [.int (nI i), .int (nI ((h - ovA c v i s (h % 10)) / ppA c v i)), .int (nI (bkA c v i s (h % 10)))]) (wr := []) (st := []) O cf_X10_275 rfl (sp_X10_hidesOf (mo := mo) (ma := ma) (c := c) (c2 := c2) (tk := tk) (vc := vc) (ln := ln) (rn := rn) (zs_10 := zs_10) (zs_11 := zs_11) (zs_20 := zs_20) (zs_21 := zs_21) (zs_22 := zs_22) (zs_25 := (nI h)) (zs_26 := (nI g)) (zs_27 := (nI d9)) (zs_29 := zs_29) (wd := wd) (nu := nu) (fr := fr) (tt9 := tt9) (sf := sf) (cls := cls) (pf := pf2_15) (bg := bg) (bn := bn) (v := v) (i := i) (q := ((h - ovA c v i s (h % 10)) / ppA c v i)) (b := (bkA c v i s (h % 10))) (hB9) (hM) (hC) (hva) (hi) (by omega) (by omega) (by omega)) dX10_shared_51 rfl rfl 0 rfl [0, 1, 2, 3, 4, 5, 6, 7, 8, 9] [] (by decide) rfl rfl (by decide) (by decide) (by decide) (Nat.le_of_ble_eq_true rfl) (by decide) (by decide) (fun r_17 w_18 h_16 => ?_)
    obtain ⟨rfl, rfl⟩ := h_16
    refine v_eq (st' := [.int (nI (hidN (c.kk i) (ppA c v i * ((h - ovA c v i s (h % 10)) / ppA c v i)) ((h - ovA c v i s (h % 10)) / ppA c v i) (bkA c v i s (h % 10))))]) (ws' := [(mo, .inr (10, M1R ma (mZ c c2 tk vc ln rn zs_10 zs_11 zs_20 zs_21 zs_22 (nI h) (nI g) (nI d9) zs_29))), ((ma 4), eI D 6 (nF c.kk)), ((ma 5), eI D 6 (nF c.vv)), ((ma 13), eI D 6 cls), ((ma 14), eI D 60 wd), ((ma 15), eI D 60 nu), ((ma 16), eI D 60 fr), ((ma 17), eI D 60 tt9), ((ma 18), eI D 600 sf), ((ma 24), eZ D 100 pf2_15)]) rfl rfl rfl rfl ?_
    refine v_top (y := nI (hidN (c.kk i) (h - ovA c v i s (h % 10)) ((h - ovA c v i s (h % 10)) / ppA c v i) (bkA c v i s (h % 10)))) (by rw [z_ml]) ?_
    refine v_istore (lv' := [(0, .ref mo), (1, .int (nI i)), (2, .int (nI (c.wak + s))), (3, .int (nI (ovA c v i s (h % 10)))), (4, .int (nI (hidN (c.kk i) (h - ovA c v i s (h % 10)) ((h - ovA c v i s (h % 10)) / ppA c v i) (bkA c v i s (h % 10)))))]) O dX10_shared_54 (by decide) rfl ?_
    refine v_aload_n O dX10_shared_56 0 rfl ?_
    refine v_dup O dX10_shared_57 rfl ?_
    refine gf_X10_87 (v := .int (nI h)) O rfl dX10_shared_58 0 rfl rfl ?_
    refine v_iload_n O dX10_shared_61 3 rfl ?_
    refine v_iload O dX10_shared_62 4 rfl ?_
    refine v_iadd O dX10_shared_64 ?_
    refine v_top (y := nI ((ovA c v i s (h % 10)) + (hidN (c.kk i) (h - ovA c v i s (h % 10)) ((h - ovA c v i s (h % 10)) / ppA c v i) (bkA c v i s (h % 10))))) (nI_add (ovA c v i s (h % 10)) (hidN (c.kk i) (h - ovA c v i s (h % 10)) ((h - ovA c v i s (h % 10)) / ppA c v i) (bkA c v i s (h % 10)))) ?_
    refine v_isub O dX10_shared_65 ?_
    refine v_top (y := nI (h - ovA c v i s (h % 10) - hidN (c.kk i) (h - ovA c v i s (h % 10)) ((h - ovA c v i s (h % 10)) / ppA c v i) (bkA c v i s (h % 10)))) ((pk_sub (by omega)).trans (congrArg nI (by omega))) ?_
    refine pf_X10_87 (fs' := M1R ma (mZ c c2 tk vc ln rn zs_10 zs_11 zs_20 zs_21 zs_22 (nI (h - ovA c v i s (h % 10) - hidN (c.kk i) (h - ovA c v i s (h % 10)) ((h - ovA c v i s (h % 10)) / ppA c v i) (bkA c v i s (h % 10)))) (nI g) (nI d9) zs_29)) (ws' := [(mo, .inr (10, M1R ma (mZ c c2 tk vc ln rn zs_10 zs_11 zs_20 zs_21 zs_22 (nI (h - ovA c v i s (h % 10) - hidN (c.kk i) (h - ovA c v i s (h % 10)) ((h - ovA c v i s (h % 10)) / ppA c v i) (bkA c v i s (h % 10)))) (nI g) (nI d9) zs_29))), ((ma 4), eI D 6 (nF c.kk)), ((ma 5), eI D 6 (nF c.vv)), ((ma 13), eI D 6 cls), ((ma 14), eI D 60 wd), ((ma 15), eI D 60 nu), ((ma 16), eI D 60 fr), ((ma 17), eI D 60 tt9), ((ma 18), eI D 600 sf), ((ma 24), eZ D 100 pf2_15)]) O rfl dX10_shared_66 0 rfl (Nat.le_of_ble_eq_true rfl) rfl rfl ?_
    refine v_aload_n O dX10_shared_69 0 rfl ?_
    refine v_dup O dX10_shared_70 rfl ?_
    refine gf_X10_90 (v := .int (nI g)) O rfl dX10_shared_71 0 rfl rfl ?_
    refine v_iload_n O dX10_shared_74 3 rfl ?_
    refine v_iadd O dX10_shared_75 ?_
    refine v_top (y := nI (g + (ovA c v i s (h % 10)))) (nI_add g (ovA c v i s (h % 10))) ?_
    refine pf_X10_90 (fs' := M1R ma (mZ c c2 tk vc ln rn zs_10 zs_11 zs_20 zs_21 zs_22 (nI (h - ovA c v i s (h % 10) - hidN (c.kk i) (h - ovA c v i s (h % 10)) ((h - ovA c v i s (h % 10)) / ppA c v i) (bkA c v i s (h % 10)))) (nI (g + (ovA c v i s (h % 10)))) (nI d9) zs_29)) (ws' := [(mo, .inr (10, M1R ma (mZ c c2 tk vc ln rn zs_10 zs_11 zs_20 zs_21 zs_22 (nI (h - ovA c v i s (h % 10) - hidN (c.kk i) (h - ovA c v i s (h % 10)) ((h - ovA c v i s (h % 10)) / ppA c v i) (bkA c v i s (h % 10)))) (nI (g + (ovA c v i s (h % 10)))) (nI d9) zs_29))), ((ma 4), eI D 6 (nF c.kk)), ((ma 5), eI D 6 (nF c.vv)), ((ma 13), eI D 6 cls), ((ma 14), eI D 60 wd), ((ma 15), eI D 60 nu), ((ma 16), eI D 60 fr), ((ma 17), eI D 60 tt9), ((ma 18), eI D 600 sf), ((ma 24), eZ D 100 pf2_15)]) O rfl dX10_shared_76 0 rfl (Nat.le_of_ble_eq_true rfl) rfl rfl ?_
    refine v_aload_n O dX10_shared_79 0 rfl ?_
    refine v_dup O dX10_shared_80 rfl ?_
    refine gf_X10_93 (v := .int (nI d9)) O rfl dX10_shared_81 0 rfl rfl ?_
    refine v_iload O dX10_shared_84 4 rfl ?_
    refine v_iadd O dX10_shared_86 ?_
    refine v_top (y := nI (d9 + (hidN (c.kk i) (h - ovA c v i s (h % 10)) ((h - ovA c v i s (h % 10)) / ppA c v i) (bkA c v i s (h % 10))))) (nI_add d9 (hidN (c.kk i) (h - ovA c v i s (h % 10)) ((h - ovA c v i s (h % 10)) / ppA c v i) (bkA c v i s (h % 10)))) ?_
    refine pf_X10_93 (fs' := M1R ma (mZ c c2 tk vc ln rn zs_10 zs_11 zs_20 zs_21 zs_22 (nI (h - ovA c v i s (h % 10) - hidN (c.kk i) (h - ovA c v i s (h % 10)) ((h - ovA c v i s (h % 10)) / ppA c v i) (bkA c v i s (h % 10)))) (nI (g + (ovA c v i s (h % 10)))) (nI (d9 + (hidN (c.kk i) (h - ovA c v i s (h % 10)) ((h - ovA c v i s (h % 10)) / ppA c v i) (bkA c v i s (h % 10))))) zs_29)) (ws' := [(mo, .inr (10, M1R ma (mZ c c2 tk vc ln rn zs_10 zs_11 zs_20 zs_21 zs_22 (nI (h - ovA c v i s (h % 10) - hidN (c.kk i) (h - ovA c v i s (h % 10)) ((h - ovA c v i s (h % 10)) / ppA c v i) (bkA c v i s (h % 10)))) (nI (g + (ovA c v i s (h % 10)))) (nI (d9 + (hidN (c.kk i) (h - ovA c v i s (h % 10)) ((h - ovA c v i s (h % 10)) / ppA c v i) (bkA c v i s (h % 10))))) zs_29))), ((ma 4), eI D 6 (nF c.kk)), ((ma 5), eI D 6 (nF c.vv)), ((ma 13), eI D 6 cls), ((ma 14), eI D 60 wd), ((ma 15), eI D 60 nu), ((ma 16), eI D 60 fr), ((ma 17), eI D 60 tt9), ((ma 18), eI D 600 sf), ((ma 24), eZ D 100 pf2_15)]) O rfl dX10_shared_87 0 rfl (Nat.le_of_ble_eq_true rfl) rfl rfl ?_
    refine v_iconst (v := 1) O dX10_shared_90 (by decide) ?_
    exact v_ireturn O T rfl rfl (by decide) (by decide) dX10_shared_91 (⟨pf2_15, by rw [b2i_t (by rw [z_some]; exact fun y => by cases y)], by rw [z_some]; simp only [oL, oG, oD]⟩)
  · skip
    have z1 := b2i_0.mp z1
    have z1 := Classical.not_not.mp z1
    refine v_iconst (v := 0) O dX10_shared_13 (by decide) ?_
    exact v_ireturn O T rfl rfl (by decide) (by decide) dX10_shared_14 (⟨_, by rw [b2i_f (fun y => y z1)], by rw [z1]; rfl⟩)
set_option maxRecDepth 100000 in
set_option maxHeartbeats 4000000 in
theorem sp_X10_wakes {D : G} {mo : Nat} {ma : Nat → Nat} {c : CS} {c2 : CS} {tk : Int32} {vc : Nat} {ln : Nat} {rn : Nat} {zs_10 : Int32} {zs_11 : Int32} {zs_20 : Int32} {zs_21 : Int32} {zs_22 : Int32} {zs_26 : Int32} {zs_27 : Int32} {zs_29 : Int32} {wd : Nat → Int32} {nu : Nat → Int32} {fr : Nat → Int32} {tt9 : Nat → Int32} {sf : Nat → Int32} {cls : Nat → Int32} {pf : Nat → Int32} {bg : Nat} {bn : Nat} {v : VS} {i : Nat} {s : Nat} {h : Nat} (hB9 : hB c.held cls bg bn) (hM : MR wd nu fr tt9 sf bg bn v) (hC : cOk c) (hva : vAsk v) (hi : i < 6) (hs : s < 20) (hh : h < 1000000) : Sp D mX10_wakes 6 0 0 [.ref mo, .int (nI i), .int (nI (c.wak + s))] [(mo, .inr (10, M1R ma (mZ c c2 tk vc ln rn zs_10 zs_11 zs_20 zs_21 zs_22 (nI h) zs_26 zs_27 zs_29))), ((ma 4), eI D 6 (nF c.kk)), ((ma 5), eI D 6 (nF c.vv)), ((ma 13), eI D 6 cls), ((ma 14), eI D 60 wd), ((ma 15), eI D 60 nu), ((ma 16), eI D 60 fr), ((ma 17), eI D 60 tt9), ((ma 18), eI D 600 sf), ((ma 24), eZ D 100 pf)] (fun r w => ∃ pf2 : Nat → Int32, r = some (.int (b2i (¬ wakA c v i s h = none))) ∧ w = [(mo, .inr (10, M1R ma (mZ c c2 tk vc ln rn zs_10 zs_11 zs_20 zs_21 zs_22 (nI (oL (wakA c v i s h) h)) (nI (oG (wakA c v i s h) 0)) (nI (oD (wakA c v i s h) 0)) zs_29))), ((ma 4), eI D 6 (nF c.kk)), ((ma 5), eI D 6 (nF c.vv)), ((ma 13), eI D 6 cls), ((ma 14), eI D 60 wd), ((ma 15), eI D 60 nu), ((ma 16), eI D 60 fr), ((ma 17), eI D 60 tt9), ((ma 18), eI D 600 sf), ((ma 24), eZ D 100 pf2)]) := by
  refine Sp.of (by decide) (Nat.le_of_ble_eq_true rfl) (fun X O T => ?_)
  refine v_eq (lv' := [(0, .ref mo), (1, .int (nI i)), (2, .int (nI (c.wak + s)))]) rfl rfl rfl rfl ?_
  have z_kk := hC.2.1 i hi
  have z_p2 : 2 ≤ ppA c v i := partsN_ge hva.2.2.1
  refine v_aload_n O dX10_wakes_0 0 rfl ?_
  refine v_iconst (v := 0) O dX10_wakes_1 (by decide) ?_
  refine pf_X10_90 (fs' := M1R ma (mZ c c2 tk vc ln rn zs_10 zs_11 zs_20 zs_21 zs_22 (nI h) 0 zs_27 zs_29)) (ws' := [(mo, .inr (10, M1R ma (mZ c c2 tk vc ln rn zs_10 zs_11 zs_20 zs_21 zs_22 (nI h) 0 zs_27 zs_29))), ((ma 4), eI D 6 (nF c.kk)), ((ma 5), eI D 6 (nF c.vv)), ((ma 13), eI D 6 cls), ((ma 14), eI D 60 wd), ((ma 15), eI D 60 nu), ((ma 16), eI D 60 fr), ((ma 17), eI D 60 tt9), ((ma 18), eI D 600 sf), ((ma 24), eZ D 100 pf)]) O rfl dX10_wakes_2 0 rfl (Nat.le_of_ble_eq_true rfl) rfl rfl ?_
  refine v_aload_n O dX10_wakes_5 0 rfl ?_
  refine v_iconst (v := 0) O dX10_wakes_6 (by decide) ?_
  refine pf_X10_93 (fs' := M1R ma (mZ c c2 tk vc ln rn zs_10 zs_11 zs_20 zs_21 zs_22 (nI h) 0 0 zs_29)) (ws' := [(mo, .inr (10, M1R ma (mZ c c2 tk vc ln rn zs_10 zs_11 zs_20 zs_21 zs_22 (nI h) 0 0 zs_29))), ((ma 4), eI D 6 (nF c.kk)), ((ma 5), eI D 6 (nF c.vv)), ((ma 13), eI D 6 cls), ((ma 14), eI D 60 wd), ((ma 15), eI D 60 nu), ((ma 16), eI D 60 fr), ((ma 17), eI D 60 tt9), ((ma 18), eI D 600 sf), ((ma 24), eZ D 100 pf)]) O rfl dX10_wakes_7 0 rfl (Nat.le_of_ble_eq_true rfl) rfl rfl ?_
  refine v_aload_n O dX10_wakes_10 0 rfl ?_
  refine v_iload_n O dX10_wakes_11 1 rfl ?_
  refine v_iload_n O dX10_wakes_12 2 rfl ?_
  refine v_cV (T := TX10) (ci := 10) (As := [.int (nI i), .int (nI (c.wak + s))]) (wr := []) (st := []) O cf_X10_278 rfl (sp_X10_shared (mo := mo) (ma := ma) (c := c) (c2 := c2) (tk := tk) (vc := vc) (ln := ln) (rn := rn) (zs_10 := zs_10) (zs_11 := zs_11) (zs_20 := zs_20) (zs_21 := zs_21) (zs_22 := zs_22) (zs_29 := zs_29) (wd := wd) (nu := nu) (fr := fr) (tt9 := tt9) (sf := sf) (cls := cls) (pf := pf) (bg := bg) (bn := bn) (v := v) (i := i) (s := s) (h := h) (g := 0) (d9 := 0) (hB9) (hM) (hC) (hva) (hi) (hs) (hh) (by omega) (by omega)) dX10_wakes_13 rfl rfl 0 rfl [0, 1, 2, 3, 4, 5, 6, 7, 8, 9] [] (by decide) rfl rfl (by decide) (by decide) (by decide) (Nat.le_of_ble_eq_true rfl) (by decide) (by decide) (fun r_2 w_3 h_1 => ?_)
  obtain ⟨pf2_4, rfl, rfl⟩ := h_1
  refine v_eq (st' := [.int (b2i (¬ shareN (c.kk i) (ppA c v i) (ovA c v i s) (bkA c v i s) h = none))]) (ws' := [(mo, .inr (10, M1R ma (mZ c c2 tk vc ln rn zs_10 zs_11 zs_20 zs_21 zs_22 (nI (oL (shareN (c.kk i) (ppA c v i) (ovA c v i s) (bkA c v i s) h) h)) (nI (oG (shareN (c.kk i) (ppA c v i) (ovA c v i s) (bkA c v i s) h) 0)) (nI (oD (shareN (c.kk i) (ppA c v i) (ovA c v i s) (bkA c v i s) h) 0)) zs_29))), ((ma 4), eI D 6 (nF c.kk)), ((ma 5), eI D 6 (nF c.vv)), ((ma 13), eI D 6 cls), ((ma 14), eI D 60 wd), ((ma 15), eI D 60 nu), ((ma 16), eI D 60 fr), ((ma 17), eI D 60 tt9), ((ma 18), eI D 600 sf), ((ma 24), eZ D 100 pf2_4)]) rfl rfl rfl rfl ?_
  refine v_if_ne O 21 dX10_wakes_16 (by decide) (fun z2 => ?_) (fun z2 => ?_)
  · skip
    have z2 := b2i_1.mp z2
    have z_le := oL_le (k := c.kk i) (h := h) (o := ovA c v i s) (b := bkA c v i s) z_p2
    refine v_aload_n O dX10_wakes_21 0 rfl ?_
    refine gf_X10_22 (v := .ref (ma 4)) O rfl dX10_wakes_22 0 rfl rfl ?_
    refine v_iload_n O dX10_wakes_25 1 rfl ?_
    refine v_ialdk O dX10_wakes_26 1 rfl i rfl (by omega) (by decide) ?_
    refine v_top (y := nI (c.kk i)) rfl ?_
    refine v_iconst (v := 5) O dX10_wakes_27 (by decide) ?_
    refine v_icmp_ne O 44 dX10_wakes_28 (by decide) (fun z3 => ?_) (fun z3 => ?_)
    · skip
      have z3 := (not_congr (c_eq (x := nI (c.kk i)) (y := 5) (a := c.kk i) (b := 5) rfl rfl (by omega) (by omega))).mp z3
      refine v_iconst (v := 0) O dX10_wakes_44 (by decide) ?_
      refine v_istore_n (lv' := [(0, .ref mo), (1, .int (nI i)), (2, .int (nI (c.wak + s))), (3, .int 0)]) O dX10_wakes_45 (by decide) rfl ?_
      refine v_iconst (v := 1) O dX10_wakes_46 (by decide) ?_
      exact v_ireturn O T rfl rfl (by decide) (by decide) dX10_wakes_47 (⟨_, by rw [b2i_t (show ¬ wakA c v i s h = none from wakeN_s z2)], by rw [show wakA c v i s h = _ from wakeN_o z3]⟩)
    · skip
      have z3 := (c_eq (x := nI (c.kk i)) (y := 5) (a := c.kk i) (b := 5) rfl rfl (by omega) (by omega)).mp z3
      refine v_aload_n O dX10_wakes_31 0 rfl ?_
      refine v_iload_n O dX10_wakes_32 1 rfl ?_
      refine v_iload_n O dX10_wakes_33 2 rfl ?_
      refine v_cV (T := TX10) (ci := 10) (As := [.int (nI i), .int (nI (c.wak + s))]) (wr := []) (st := []) O cf_X10_278 rfl (sp_X10_shared (mo := mo) (ma := ma) (c := c) (c2 := c2) (tk := tk) (vc := vc) (ln := ln) (rn := rn) (zs_10 := zs_10) (zs_11 := zs_11) (zs_20 := zs_20) (zs_21 := zs_21) (zs_22 := zs_22) (zs_29 := zs_29) (wd := wd) (nu := nu) (fr := fr) (tt9 := tt9) (sf := sf) (cls := cls) (pf := pf2_4) (bg := bg) (bn := bn) (v := v) (i := i) (s := s) (h := (oL (shareN (c.kk i) (ppA c v i) (ovA c v i s) (bkA c v i s) h) h)) (g := (oG (shareN (c.kk i) (ppA c v i) (ovA c v i s) (bkA c v i s) h) 0)) (d9 := (oD (shareN (c.kk i) (ppA c v i) (ovA c v i s) (bkA c v i s) h) 0)) (hB9) (hM) (hC) (hva) (hi) (hs) (by omega) (by omega) (by omega)) dX10_wakes_34 rfl rfl 0 rfl [0, 1, 2, 3, 4, 5, 6, 7, 8, 9] [] (by decide) rfl rfl (by decide) (by decide) (by decide) (Nat.le_of_ble_eq_true rfl) (by decide) (by decide) (fun r_6 w_7 h_5 => ?_)
      obtain ⟨pf2_8, rfl, rfl⟩ := h_5
      refine v_eq (st' := [.int (b2i (¬ shareN (c.kk i) (ppA c v i) (ovA c v i s) (bkA c v i s) (oL (shareN (c.kk i) (ppA c v i) (ovA c v i s) (bkA c v i s) h) h) = none))]) (ws' := [(mo, .inr (10, M1R ma (mZ c c2 tk vc ln rn zs_10 zs_11 zs_20 zs_21 zs_22 (nI (oL (shareN (c.kk i) (ppA c v i) (ovA c v i s) (bkA c v i s) (oL (shareN (c.kk i) (ppA c v i) (ovA c v i s) (bkA c v i s) h) h)) (oL (shareN (c.kk i) (ppA c v i) (ovA c v i s) (bkA c v i s) h) h))) (nI (oG (shareN (c.kk i) (ppA c v i) (ovA c v i s) (bkA c v i s) (oL (shareN (c.kk i) (ppA c v i) (ovA c v i s) (bkA c v i s) h) h)) (oG (shareN (c.kk i) (ppA c v i) (ovA c v i s) (bkA c v i s) h) 0))) (nI (oD (shareN (c.kk i) (ppA c v i) (ovA c v i s) (bkA c v i s) (oL (shareN (c.kk i) (ppA c v i) (ovA c v i s) (bkA c v i s) h) h)) (oD (shareN (c.kk i) (ppA c v i) (ovA c v i s) (bkA c v i s) h) 0))) zs_29))), ((ma 4), eI D 6 (nF c.kk)), ((ma 5), eI D 6 (nF c.vv)), ((ma 13), eI D 6 cls), ((ma 14), eI D 60 wd), ((ma 15), eI D 60 nu), ((ma 16), eI D 60 fr), ((ma 17), eI D 60 tt9), ((ma 18), eI D 600 sf), ((ma 24), eZ D 100 pf2_8)]) rfl rfl rfl rfl ?_
      refine v_if_eq O 44 dX10_wakes_37 (by decide) (fun z4 => ?_) (fun z4 => ?_)
      · skip
        have z4 := b2i_0.mp z4
        refine v_iconst (v := 0) O dX10_wakes_44 (by decide) ?_
        refine v_istore_n (lv' := [(0, .ref mo), (1, .int (nI i)), (2, .int (nI (c.wak + s))), (3, .int 0)]) O dX10_wakes_45 (by decide) rfl ?_
        refine v_iconst (v := 1) O dX10_wakes_46 (by decide) ?_
        exact v_ireturn O T rfl rfl (by decide) (by decide) dX10_wakes_47 (⟨_, by rw [b2i_t (show ¬ wakA c v i s h = none from wakeN_s z2)], by rw [(show oL (wakA c v i s h) h = _ ∧ oG (wakA c v i s h) 0 = _ ∧ oD (wakA c v i s h) 0 = _ from wakeN_5 z3 z2).1, (show oL (wakA c v i s h) h = _ ∧ oG (wakA c v i s h) 0 = _ ∧ oD (wakA c v i s h) 0 = _ from wakeN_5 z3 z2).2.1, (show oL (wakA c v i s h) h = _ ∧ oG (wakA c v i s h) 0 = _ ∧ oD (wakA c v i s h) 0 = _ from wakeN_5 z3 z2).2.2]⟩)
      · skip
        have z4 := b2i_1.mp z4
        refine v_iconst (v := 1) O dX10_wakes_40 (by decide) ?_
        refine v_goto O 45 dX10_wakes_41 (by decide) ?_
        refine v_istore_n (lv' := [(0, .ref mo), (1, .int (nI i)), (2, .int (nI (c.wak + s))), (3, .int 1)]) O dX10_wakes_45 (by decide) rfl ?_
        refine v_iconst (v := 1) O dX10_wakes_46 (by decide) ?_
        exact v_ireturn O T rfl rfl (by decide) (by decide) dX10_wakes_47 (⟨_, by rw [b2i_t (show ¬ wakA c v i s h = none from wakeN_s z2)], by rw [(show oL (wakA c v i s h) h = _ ∧ oG (wakA c v i s h) 0 = _ ∧ oD (wakA c v i s h) 0 = _ from wakeN_5 z3 z2).1, (show oL (wakA c v i s h) h = _ ∧ oG (wakA c v i s h) 0 = _ ∧ oD (wakA c v i s h) 0 = _ from wakeN_5 z3 z2).2.1, (show oL (wakA c v i s h) h = _ ∧ oG (wakA c v i s h) 0 = _ ∧ oD (wakA c v i s h) 0 = _ from wakeN_5 z3 z2).2.2]⟩)
  · skip
    have z2 := b2i_0.mp z2
    have z2 : shareN (c.kk i) (ppA c v i) (ovA c v i s) (bkA c v i s) h = none := Classical.not_not.mp z2
    refine v_iconst (v := 0) O dX10_wakes_19 (by decide) ?_
    exact v_ireturn O T rfl rfl (by decide) (by decide) dX10_wakes_20 (⟨_, by rw [b2i_f (fun y => y (wakeN_n z2))], by rw [show wakA c v i s h = none from wakeN_n z2, z2]⟩)
