-- the reference reads a condition
def ltF (j : Nat) : Int32 := ([109, 101, 110, 111, 118, 101, 114, 98, 97, 99, 107, 109, 111, 114, 110, 105, 110, 103] : List Int32).getD j 0
def cntO : List Int32 → Nat
  | [] => 0
  | x :: W => if x = 33 ∨ x = 40 then cntO W + 1 else cntO W
def wok (W : List Int32) : Prop := ∀ x, x ∈ W → x = 33 ∨ x = 40 ∨ x = 38 ∨ x = 124
theorem whl_c : ∀ (W : List Int32), whlN W + cntO (whlW W) = cntO W ∧ (whlW W).length + whlN W = W.length
  | [] => ⟨rfl, rfl⟩
  | x :: W => by
    by_cases h : x = 33
    · have := whl_c W
      rw [whlN, whlW, cntO, if_pos h, if_pos h, if_pos (Or.inl h), List.length_cons]
      omega
    · rw [(whl_o h).1, (whl_o h).2]
      exact ⟨Nat.zero_add _, rfl⟩
theorem whl_k {wf : Nat → Int32} : ∀ {W : List Int32}, stk wf W → stk wf (whlW W)
  | [], h => h
  | x :: W, h => by
    by_cases z : x = 33
    · rw [whlW, if_pos z]; exact whl_k h.2
    · rw [(whl_o z).1]; exact h
theorem whl_w : ∀ {W : List Int32}, wok W → wok (whlW W)
  | [], h => h
  | x :: W, h => by
    by_cases z : x = 33
    · rw [whlW, if_pos z]; exact whl_w (fun y hy => h y (List.mem_cons_of_mem _ hy))
    · rw [(whl_o z).1]; exact h
theorem stl_o {s x : Int32} {W : List Int32} (h : ¬ (x = 38 ∨ (x = 124 ∧ ¬ s = 38))) : stlW s (x :: W) = x :: W ∧ stlL s (x :: W) = [] := by
  constructor
  · rw [stlW, if_neg h]
  · rw [stlL, if_neg h]
theorem stl_i {s x : Int32} {W : List Int32} (h : x = 38 ∨ (x = 124 ∧ ¬ s = 38)) : stlW s (x :: W) = stlW s W ∧ stlL s (x :: W) = (-x) :: stlL s W := by
  constructor
  · rw [stlW, if_pos h]
  · rw [stlL, if_pos h]
theorem stl_c {s : Int32} : ∀ (W : List Int32), cntO (stlW s W) = cntO W ∧ (stlW s W).length + (stlL s W).length = W.length
  | [] => ⟨rfl, rfl⟩
  | x :: W => by
    by_cases h : x = 38 ∨ (x = 124 ∧ ¬ s = 38)
    · have := stl_c (s := s) W
      rw [(stl_i h).1, (stl_i h).2, cntO, if_neg (by rcases h with h | h; (· rw [h]; decide); (· rw [h.1]; decide)), List.length_cons, List.length_cons]
      omega
    · rw [(stl_o h).1, (stl_o h).2]
      exact ⟨rfl, rfl⟩
theorem stl_k {wf : Nat → Int32} {s : Int32} : ∀ {W : List Int32}, stk wf W → stk wf (stlW s W)
  | [], h => h
  | x :: W, h => by
    by_cases z : x = 38 ∨ (x = 124 ∧ ¬ s = 38)
    · rw [(stl_i z).1]; exact stl_k h.2
    · rw [(stl_o z).1]; exact h
theorem stl_w {s : Int32} : ∀ {W : List Int32}, wok W → wok (stlW s W)
  | [], h => h
  | x :: W, h => by
    by_cases z : x = 38 ∨ (x = 124 ∧ ¬ s = 38)
    · rw [(stl_i z).1]; exact stl_w (fun y hy => h y (List.mem_cons_of_mem _ hy))
    · rw [(stl_o z).1]; exact h
theorem stl_t : ∀ {W : List Int32} {x : Int32} {V : List Int32}, wok W → stlW 124 W = x :: V → cntO (x :: V) = cntO V + 1
  | [], x, V, _, e => by cases e
  | y :: W, x, V, h, e => by
    by_cases z : y = 38 ∨ (y = 124 ∧ ¬ (124 : Int32) = 38)
    · rw [(stl_i z).1] at e
      exact stl_t (fun u hu => h u (List.mem_cons_of_mem _ hu)) e
    · rw [(stl_o z).1] at e
      obtain ⟨rfl, rfl⟩ := List.cons.inj e
      rw [cntO, if_pos]
      rcases h y List.mem_cons_self with q | q | q | q
      · exact Or.inl q
      · exact Or.inr q
      · exact absurd (Or.inl q) z
      · exact absurd (Or.inr ⟨q, by decide⟩) z
theorem stk_le {wf : Nat → Int32} {k : Nat} {x : Int32} : ∀ {W : List Int32}, W.length ≤ k → stk wf W → stk (upd wf k x) W
  | [], _, h => h
  | y :: W, hl, h => by
    rw [List.length_cons] at hl
    exact ⟨by rw [pk_un (by omega)]; exact h.1, stk_le (by omega) h.2⟩
theorem stk_up {wf : Nat → Int32} {x : Int32} {W : List Int32} (h : stk wf W) : stk (upd wf W.length x) (x :: W) := ⟨pk_us, stk_le (Nat.le_refl _) h⟩
theorem wok_up {x : Int32} {W : List Int32} (h : wok W) (hx : x = 33 ∨ x = 40 ∨ x = 38 ∨ x = 124) : wok (x :: W) := fun y hy => by
  rcases List.mem_cons.mp hy with rfl | h2
  · exact hx
  · exact h y h2
theorem wr_a2 {l k : List Int32} {f : Nat → Int32} {n : Nat} : wr (wr f n l) (n + l.length) k = wr f n (l ++ k) := wr_app.symm
theorem len_b {k l : List Int32} {n : Nat} : n + k.length + l.length = n + (k ++ l).length := len_a.symm
theorem tst_b {tb : Nat → Int32} {ln p : Nat} (h : okT (sgT tb ln) p) : p + 1 + 1 < numE (sgT tb ln) (p + 1 + 1) ∧ numE (sgT tb ln) (p + 1 + 1) ≤ ln := numE_le h.2.2
set_option maxRecDepth 100000 in
set_option maxHeartbeats 4000000 in
theorem sp_X10_next {D : G} {mo : Nat} {ma : Nat → Nat} {c : CS} {c2 : CS} {tk : Int32} {vc : Nat} {ln : Nat} {rn : Nat} {zs_11 : Int32} {zs_20 : Int32} {zs_21 : Int32} {zs_22 : Int32} {zs_25 : Int32} {zs_26 : Int32} {zs_27 : Int32} {zs_29 : Int32} {tb : Nat → Int32} {p : Nat} (hln : ln ≤ 100) (hp : p < 1000) : Sp D mX10_next 0 0 0 [.ref mo] [(mo, .inr (10, M1R ma (mZ c c2 tk vc ln rn (nI p) zs_11 zs_20 zs_21 zs_22 zs_25 zs_26 zs_27 zs_29))), ((ma 12), eI D 100 tb)] (fun r w => r = some (.int (sgT tb ln p)) ∧ w = [(mo, .inr (10, M1R ma (mZ c c2 tk vc ln rn (nI p) zs_11 zs_20 zs_21 zs_22 zs_25 zs_26 zs_27 zs_29))), ((ma 12), eI D 100 tb)]) := by
  refine Sp.of (by decide) (Nat.le_of_ble_eq_true rfl) (fun X O T => ?_)
  refine v_eq (lv' := [(0, .ref mo)]) rfl rfl rfl rfl ?_
  refine v_aload_n O dX10_next_0 0 rfl ?_
  refine gf_X10_41 (v := .int (nI p)) O rfl dX10_next_1 0 rfl rfl ?_
  refine v_aload_n O dX10_next_4 0 rfl ?_
  refine gf_X10_38 (v := .int (nI ln)) O rfl dX10_next_5 0 rfl rfl ?_
  refine v_icmp_ge O 23 dX10_next_8 (by decide) (fun z1 => ?_) (fun z1 => ?_)
  · skip
    have z1 := (c_le' (x := nI p) (y := nI ln) (a := p) (b := ln) rfl rfl (by omega) (by omega)).mp z1
    refine v_iconst (v := -1) O dX10_next_23 (by decide) ?_
    exact v_ireturn O T rfl rfl (by decide) (by decide) dX10_next_24 (⟨by rw [sgT_o (by omega)], rfl⟩)
  · skip
    have z1 := (not_congr (c_le' (x := nI p) (y := nI ln) (a := p) (b := ln) rfl rfl (by omega) (by omega))).mp z1
    refine v_aload_n O dX10_next_11 0 rfl ?_
    refine gf_X10_47 (v := .ref (ma 12)) O rfl dX10_next_12 0 rfl rfl ?_
    refine v_aload_n O dX10_next_15 0 rfl ?_
    refine gf_X10_41 (v := .int (nI p)) O rfl dX10_next_16 0 rfl rfl ?_
    refine v_ialdk O dX10_next_19 1 rfl p rfl (by omega) (by decide) ?_
    refine v_goto O 24 dX10_next_20 (by decide) ?_
    exact v_ireturn O T rfl rfl (by decide) (by decide) dX10_next_24 (⟨by rw [sgT_i (by omega)], rfl⟩)
set_option maxRecDepth 100000 in
set_option maxHeartbeats 4000000 in
theorem sp_X10_second {D : G} {mo : Nat} {ma : Nat → Nat} {c : CS} {c2 : CS} {tk : Int32} {vc : Nat} {ln : Nat} {rn : Nat} {zs_11 : Int32} {zs_20 : Int32} {zs_21 : Int32} {zs_22 : Int32} {zs_25 : Int32} {zs_26 : Int32} {zs_27 : Int32} {zs_29 : Int32} {tb : Nat → Int32} {p : Nat} (hln : ln ≤ 100) (hp : p < 1000) : Sp D mX10_second 0 0 0 [.ref mo] [(mo, .inr (10, M1R ma (mZ c c2 tk vc ln rn (nI p) zs_11 zs_20 zs_21 zs_22 zs_25 zs_26 zs_27 zs_29))), ((ma 12), eI D 100 tb)] (fun r w => r = some (.int (sgT tb ln (p + 1))) ∧ w = [(mo, .inr (10, M1R ma (mZ c c2 tk vc ln rn (nI p) zs_11 zs_20 zs_21 zs_22 zs_25 zs_26 zs_27 zs_29))), ((ma 12), eI D 100 tb)]) := by
  refine Sp.of (by decide) (Nat.le_of_ble_eq_true rfl) (fun X O T => ?_)
  refine v_eq (lv' := [(0, .ref mo)]) rfl rfl rfl rfl ?_
  refine v_aload_n O dX10_second_0 0 rfl ?_
  refine gf_X10_41 (v := .int (nI p)) O rfl dX10_second_1 0 rfl rfl ?_
  refine v_iconst (v := 1) O dX10_second_4 (by decide) ?_
  refine v_iadd O dX10_second_5 ?_
  refine v_top (y := nI (p + 1)) (nI_add p 1) ?_
  refine v_aload_n O dX10_second_6 0 rfl ?_
  refine gf_X10_38 (v := .int (nI ln)) O rfl dX10_second_7 0 rfl rfl ?_
  refine v_icmp_ge O 27 dX10_second_10 (by decide) (fun z1 => ?_) (fun z1 => ?_)
  · skip
    have z1 := (c_le' (x := nI (p + 1)) (y := nI ln) (a := p + 1) (b := ln) rfl rfl (by omega) (by omega)).mp z1
    refine v_iconst (v := -1) O dX10_second_27 (by decide) ?_
    exact v_ireturn O T rfl rfl (by decide) (by decide) dX10_second_28 (⟨by rw [sgT_o (by omega)], rfl⟩)
  · skip
    have z1 := (not_congr (c_le' (x := nI (p + 1)) (y := nI ln) (a := p + 1) (b := ln) rfl rfl (by omega) (by omega))).mp z1
    refine v_aload_n O dX10_second_13 0 rfl ?_
    refine gf_X10_47 (v := .ref (ma 12)) O rfl dX10_second_14 0 rfl rfl ?_
    refine v_aload_n O dX10_second_17 0 rfl ?_
    refine gf_X10_41 (v := .int (nI p)) O rfl dX10_second_18 0 rfl rfl ?_
    refine v_iconst (v := 1) O dX10_second_21 (by decide) ?_
    refine v_iadd O dX10_second_22 ?_
    refine v_top (y := nI (p + 1)) (nI_add p 1) ?_
    refine v_ialdk O dX10_second_23 1 rfl (p + 1) rfl (by omega) (by decide) ?_
    refine v_goto O 28 dX10_second_24 (by decide) ?_
    exact v_ireturn O T rfl rfl (by decide) (by decide) dX10_second_28 (⟨by rw [sgT_i (by omega)], rfl⟩)
set_option maxRecDepth 100000 in
set_option maxHeartbeats 4000000 in
theorem sp_X10_takes_t {D : G} {mo : Nat} {ma : Nat → Nat} {c : CS} {c2 : CS} {tk : Int32} {vc : Nat} {ln : Nat} {rn : Nat} {zs_11 : Int32} {zs_20 : Int32} {zs_21 : Int32} {zs_22 : Int32} {zs_25 : Int32} {zs_26 : Int32} {zs_27 : Int32} {zs_29 : Int32} {tb : Nat → Int32} {p : Nat} {x : Int32} (hln : ln ≤ 100) (hp : p ≤ ln) (hx : sgT tb ln p = x) : Sp D mX10_takes 1 0 0 [.ref mo, .int x] [(mo, .inr (10, M1R ma (mZ c c2 tk vc ln rn (nI p) zs_11 zs_20 zs_21 zs_22 zs_25 zs_26 zs_27 zs_29))), ((ma 12), eI D 100 tb)] (fun r w => r = some (.int 1) ∧ w = [(mo, .inr (10, M1R ma (mZ c c2 tk vc ln rn (nI (p + 1)) zs_11 zs_20 zs_21 zs_22 zs_25 zs_26 zs_27 zs_29))), ((ma 12), eI D 100 tb)]) := by
  refine Sp.of (by decide) (Nat.le_of_ble_eq_true rfl) (fun X O T => ?_)
  refine v_eq (lv' := [(0, .ref mo), (1, .int x)]) rfl rfl rfl rfl ?_
  refine v_aload_n O dX10_takes_0 0 rfl ?_
  refine v_cV (T := TX10) (ci := 10) (As := []) (wr := []) (st := []) O cf_X10_188 rfl (sp_X10_next (mo := mo) (ma := ma) (c := c) (c2 := c2) (tk := tk) (vc := vc) (ln := ln) (rn := rn) (zs_11 := zs_11) (zs_20 := zs_20) (zs_21 := zs_21) (zs_22 := zs_22) (zs_25 := zs_25) (zs_26 := zs_26) (zs_27 := zs_27) (zs_29 := zs_29) (tb := tb) (p := p) (hln) (by omega)) dX10_takes_1 rfl rfl 0 rfl [0, 1] [] (by decide) rfl rfl (by decide) (by decide) (by decide) (Nat.le_of_ble_eq_true rfl) (by decide) (by decide) (fun r_2 w_3 h_1 => ?_)
  obtain ⟨rfl, rfl⟩ := h_1
  refine v_eq (st' := [.int (sgT tb ln p)]) (ws' := [(mo, .inr (10, M1R ma (mZ c c2 tk vc ln rn (nI p) zs_11 zs_20 zs_21 zs_22 zs_25 zs_26 zs_27 zs_29))), ((ma 12), eI D 100 tb)]) rfl rfl rfl rfl ?_
  refine v_iload_n O dX10_takes_4 1 rfl ?_
  refine v_icmp_eq O 10 dX10_takes_5 (by decide) (fun z1 => ?_) (fun z1 => ?_)
  · skip
    refine v_aload_n O dX10_takes_10 0 rfl ?_
    refine v_dup O dX10_takes_11 rfl ?_
    refine gf_X10_41 (v := .int (nI p)) O rfl dX10_takes_12 0 rfl rfl ?_
    refine v_iconst (v := 1) O dX10_takes_15 (by decide) ?_
    refine v_iadd O dX10_takes_16 ?_
    refine v_top (y := nI (p + 1)) (nI_add p 1) ?_
    refine pf_X10_41 (fs' := M1R ma (mZ c c2 tk vc ln rn (nI (p + 1)) zs_11 zs_20 zs_21 zs_22 zs_25 zs_26 zs_27 zs_29)) (ws' := [(mo, .inr (10, M1R ma (mZ c c2 tk vc ln rn (nI (p + 1)) zs_11 zs_20 zs_21 zs_22 zs_25 zs_26 zs_27 zs_29))), ((ma 12), eI D 100 tb)]) O rfl dX10_takes_17 0 rfl (Nat.le_of_ble_eq_true rfl) rfl rfl ?_
    refine v_iconst (v := 1) O dX10_takes_20 (by decide) ?_
    exact v_ireturn O T rfl rfl (by decide) (by decide) dX10_takes_21 (⟨rfl, rfl⟩)
  · skip
    exact absurd hx z1
set_option maxRecDepth 100000 in
set_option maxHeartbeats 4000000 in
theorem sp_X10_takes_f {D : G} {mo : Nat} {ma : Nat → Nat} {c : CS} {c2 : CS} {tk : Int32} {vc : Nat} {ln : Nat} {rn : Nat} {zs_11 : Int32} {zs_20 : Int32} {zs_21 : Int32} {zs_22 : Int32} {zs_25 : Int32} {zs_26 : Int32} {zs_27 : Int32} {zs_29 : Int32} {tb : Nat → Int32} {p : Nat} {x : Int32} (hln : ln ≤ 100) (hp : p ≤ ln) (hx : ¬ sgT tb ln p = x) : Sp D mX10_takes 1 0 0 [.ref mo, .int x] [(mo, .inr (10, M1R ma (mZ c c2 tk vc ln rn (nI p) zs_11 zs_20 zs_21 zs_22 zs_25 zs_26 zs_27 zs_29))), ((ma 12), eI D 100 tb)] (fun r w => r = some (.int 0) ∧ w = [(mo, .inr (10, M1R ma (mZ c c2 tk vc ln rn (nI p) zs_11 zs_20 zs_21 zs_22 zs_25 zs_26 zs_27 zs_29))), ((ma 12), eI D 100 tb)]) := by
  refine Sp.of (by decide) (Nat.le_of_ble_eq_true rfl) (fun X O T => ?_)
  refine v_eq (lv' := [(0, .ref mo), (1, .int x)]) rfl rfl rfl rfl ?_
  refine v_aload_n O dX10_takes_0 0 rfl ?_
  refine v_cV (T := TX10) (ci := 10) (As := []) (wr := []) (st := []) O cf_X10_188 rfl (sp_X10_next (mo := mo) (ma := ma) (c := c) (c2 := c2) (tk := tk) (vc := vc) (ln := ln) (rn := rn) (zs_11 := zs_11) (zs_20 := zs_20) (zs_21 := zs_21) (zs_22 := zs_22) (zs_25 := zs_25) (zs_26 := zs_26) (zs_27 := zs_27) (zs_29 := zs_29) (tb := tb) (p := p) (hln) (by omega)) dX10_takes_1 rfl rfl 0 rfl [0, 1] [] (by decide) rfl rfl (by decide) (by decide) (by decide) (Nat.le_of_ble_eq_true rfl) (by decide) (by decide) (fun r_2 w_3 h_1 => ?_)
  obtain ⟨rfl, rfl⟩ := h_1
  refine v_eq (st' := [.int (sgT tb ln p)]) (ws' := [(mo, .inr (10, M1R ma (mZ c c2 tk vc ln rn (nI p) zs_11 zs_20 zs_21 zs_22 zs_25 zs_26 zs_27 zs_29))), ((ma 12), eI D 100 tb)]) rfl rfl rfl rfl ?_
  refine v_iload_n O dX10_takes_4 1 rfl ?_
  refine v_icmp_eq O 10 dX10_takes_5 (by decide) (fun z1 => ?_) (fun z1 => ?_)
  · skip
    exact absurd z1 hx
  · skip
    refine v_iconst (v := 0) O dX10_takes_8 (by decide) ?_
    exact v_ireturn O T rfl rfl (by decide) (by decide) dX10_takes_9 (⟨rfl, rfl⟩)
set_option maxRecDepth 100000 in
set_option maxHeartbeats 4000000 in
theorem sp_X10_word_over {D : G} {mo : Nat} {ma : Nat → Nat} {c : CS} {c2 : CS} {tk : Int32} {vc : Nat} {ln : Nat} {rn : Nat} {zs_11 : Int32} {zs_20 : Int32} {zs_21 : Int32} {zs_22 : Int32} {zs_25 : Int32} {zs_26 : Int32} {zs_27 : Int32} {zs_29 : Int32} {tb : Nat → Int32} {p : Nat} (hln : ln ≤ 100) (hp : p ≤ ln) : Sp D mX10_takesWord 2 0 0 [.ref mo, .int 3, .int 4] [(mo, .inr (10, M1R ma (mZ c c2 tk vc ln rn (nI p) zs_11 zs_20 zs_21 zs_22 zs_25 zs_26 zs_27 zs_29))), ((ma 12), eI D 100 tb), ((ma 23), eI D 18 ltF)] (fun r w => r = some (.int (b2i ((spl (sgT tb ln) [111, 118, 101, 114, 32] p).2 = true))) ∧ w = [(mo, .inr (10, M1R ma (mZ c c2 tk vc ln rn (nI ((spl (sgT tb ln) [111, 118, 101, 114, 32] p).1)) zs_11 zs_20 zs_21 zs_22 zs_25 zs_26 zs_27 zs_29))), ((ma 12), eI D 100 tb), ((ma 23), eI D 18 ltF)]) := by
  refine Sp.of (by decide) (Nat.le_of_ble_eq_true rfl) (fun X O T => ?_)
  refine v_eq (lv' := [(0, .ref mo), (1, .int 3), (2, .int 4)]) rfl rfl rfl rfl ?_
  refine v_iconst (v := 0) O dX10_takesWord_0 (by decide) ?_
  refine v_istore_n (lv' := [(0, .ref mo), (1, .int 3), (2, .int 4), (3, .int 0)]) O dX10_takesWord_1 (by decide) rfl ?_
  refine v_iload_n O dX10_takesWord_2 3 rfl ?_
  refine v_iload_n O dX10_takesWord_3 2 rfl ?_
  refine v_icmp_ge O 30 dX10_takesWord_4 (by decide) (fun c => absurd c (by decide)) (fun _ => ?_)
  refine v_aload_n O dX10_takesWord_7 0 rfl ?_
  refine v_aload_n O dX10_takesWord_8 0 rfl ?_
  refine gf_X10_80 (v := .ref (ma 23)) O rfl dX10_takesWord_9 0 rfl rfl ?_
  refine v_iload_n O dX10_takesWord_12 1 rfl ?_
  refine v_iload_n O dX10_takesWord_13 3 rfl ?_
  refine v_iadd O dX10_takesWord_14 ?_
  refine v_top (y := nI 3) rfl ?_
  refine v_ialdk O dX10_takesWord_15 2 rfl 3 rfl (by omega) (by decide) ?_
  refine v_top (y := 111) (rfl) ?_
  by_cases y0 : sgT tb ln p = 111
  · skip
    have x0 := sgT_lt y0 (by decide)
    refine v_cV (T := TX10) (ci := 10) (As := [.int 111]) (wr := [((ma 23), eI D 18 ltF)]) (st := []) O cf_X10_192 rfl (sp_X10_takes_t (mo := mo) (ma := ma) (c := c) (c2 := c2) (tk := tk) (vc := vc) (ln := ln) (rn := rn) (zs_11 := zs_11) (zs_20 := zs_20) (zs_21 := zs_21) (zs_22 := zs_22) (zs_25 := zs_25) (zs_26 := zs_26) (zs_27 := zs_27) (zs_29 := zs_29) (tb := tb) (p := p) (x := 111) (hln) (by omega) (y0)) dX10_takesWord_16 rfl rfl 0 rfl [0, 1] [2] (by decide) rfl rfl (by decide) (by decide) (by decide) (Nat.le_of_ble_eq_true rfl) (by decide) (by decide) (fun r_3 w_4 h_2 => ?_)
    obtain ⟨rfl, rfl⟩ := h_2
    refine v_eq (st' := [.int 1]) (ws' := [((ma 23), eI D 18 ltF), (mo, .inr (10, M1R ma (mZ c c2 tk vc ln rn (nI (p + 1)) zs_11 zs_20 zs_21 zs_22 zs_25 zs_26 zs_27 zs_29))), ((ma 12), eI D 100 tb)]) rfl rfl rfl rfl ?_
    refine v_if_ne O 24 dX10_takesWord_19 (by decide) (fun _ => ?_) (fun c => absurd c (by decide))
    refine v_iinc (v := 1) (lv' := [(0, .ref mo), (1, .int 3), (2, .int 4), (3, .int 1)]) O dX10_takesWord_24 3 rfl (by decide) (by decide) rfl ?_
    refine v_goto O 2 dX10_takesWord_27 (by decide) ?_
    refine v_iload_n O dX10_takesWord_2 3 rfl ?_
    refine v_iload_n O dX10_takesWord_3 2 rfl ?_
    refine v_icmp_ge O 30 dX10_takesWord_4 (by decide) (fun c => absurd c (by decide)) (fun _ => ?_)
    refine v_aload_n O dX10_takesWord_7 0 rfl ?_
    refine v_aload_n O dX10_takesWord_8 0 rfl ?_
    refine gf_X10_80 (v := .ref (ma 23)) O rfl dX10_takesWord_9 1 rfl rfl ?_
    refine v_iload_n O dX10_takesWord_12 1 rfl ?_
    refine v_iload_n O dX10_takesWord_13 3 rfl ?_
    refine v_iadd O dX10_takesWord_14 ?_
    refine v_top (y := nI 4) rfl ?_
    refine v_ialdk O dX10_takesWord_15 0 rfl 4 rfl (by omega) (by decide) ?_
    refine v_top (y := 118) (rfl) ?_
    by_cases y1 : sgT tb ln (p + 1) = 118
    · skip
      have x1 := sgT_lt y1 (by decide)
      refine v_cV (T := TX10) (ci := 10) (As := [.int 118]) (wr := [((ma 23), eI D 18 ltF)]) (st := []) O cf_X10_192 rfl (sp_X10_takes_t (mo := mo) (ma := ma) (c := c) (c2 := c2) (tk := tk) (vc := vc) (ln := ln) (rn := rn) (zs_11 := zs_11) (zs_20 := zs_20) (zs_21 := zs_21) (zs_22 := zs_22) (zs_25 := zs_25) (zs_26 := zs_26) (zs_27 := zs_27) (zs_29 := zs_29) (tb := tb) (p := (p + 1)) (x := 118) (hln) (by omega) (y1)) dX10_takesWord_16 rfl rfl 1 rfl [1, 2] [0] (by decide) rfl rfl (by decide) (by decide) (by decide) (Nat.le_of_ble_eq_true rfl) (by decide) (by decide) (fun r_8 w_9 h_7 => ?_)
      obtain ⟨rfl, rfl⟩ := h_7
      refine v_eq (st' := [.int 1]) (ws' := [((ma 23), eI D 18 ltF), (mo, .inr (10, M1R ma (mZ c c2 tk vc ln rn (nI ((p + 1) + 1)) zs_11 zs_20 zs_21 zs_22 zs_25 zs_26 zs_27 zs_29))), ((ma 12), eI D 100 tb)]) rfl rfl rfl rfl ?_
      refine v_if_ne O 24 dX10_takesWord_19 (by decide) (fun _ => ?_) (fun c => absurd c (by decide))
      refine v_iinc (v := 2) (lv' := [(0, .ref mo), (1, .int 3), (2, .int 4), (3, .int 2)]) O dX10_takesWord_24 3 rfl (by decide) (by decide) rfl ?_
      refine v_goto O 2 dX10_takesWord_27 (by decide) ?_
      refine v_iload_n O dX10_takesWord_2 3 rfl ?_
      refine v_iload_n O dX10_takesWord_3 2 rfl ?_
      refine v_icmp_ge O 30 dX10_takesWord_4 (by decide) (fun c => absurd c (by decide)) (fun _ => ?_)
      refine v_aload_n O dX10_takesWord_7 0 rfl ?_
      refine v_aload_n O dX10_takesWord_8 0 rfl ?_
      refine gf_X10_80 (v := .ref (ma 23)) O rfl dX10_takesWord_9 1 rfl rfl ?_
      refine v_iload_n O dX10_takesWord_12 1 rfl ?_
      refine v_iload_n O dX10_takesWord_13 3 rfl ?_
      refine v_iadd O dX10_takesWord_14 ?_
      refine v_top (y := nI 5) rfl ?_
      refine v_ialdk O dX10_takesWord_15 0 rfl 5 rfl (by omega) (by decide) ?_
      refine v_top (y := 101) (rfl) ?_
      by_cases y2 : sgT tb ln ((p + 1) + 1) = 101
      · skip
        have x2 := sgT_lt y2 (by decide)
        refine v_cV (T := TX10) (ci := 10) (As := [.int 101]) (wr := [((ma 23), eI D 18 ltF)]) (st := []) O cf_X10_192 rfl (sp_X10_takes_t (mo := mo) (ma := ma) (c := c) (c2 := c2) (tk := tk) (vc := vc) (ln := ln) (rn := rn) (zs_11 := zs_11) (zs_20 := zs_20) (zs_21 := zs_21) (zs_22 := zs_22) (zs_25 := zs_25) (zs_26 := zs_26) (zs_27 := zs_27) (zs_29 := zs_29) (tb := tb) (p := ((p + 1) + 1)) (x := 101) (hln) (by omega) (y2)) dX10_takesWord_16 rfl rfl 1 rfl [1, 2] [0] (by decide) rfl rfl (by decide) (by decide) (by decide) (Nat.le_of_ble_eq_true rfl) (by decide) (by decide) (fun r_13 w_14 h_12 => ?_)
        obtain ⟨rfl, rfl⟩ := h_12
        refine v_eq (st' := [.int 1]) (ws' := [((ma 23), eI D 18 ltF), (mo, .inr (10, M1R ma (mZ c c2 tk vc ln rn (nI (((p + 1) + 1) + 1)) zs_11 zs_20 zs_21 zs_22 zs_25 zs_26 zs_27 zs_29))), ((ma 12), eI D 100 tb)]) rfl rfl rfl rfl ?_
        refine v_if_ne O 24 dX10_takesWord_19 (by decide) (fun _ => ?_) (fun c => absurd c (by decide))
        refine v_iinc (v := 3) (lv' := [(0, .ref mo), (1, .int 3), (2, .int 4), (3, .int 3)]) O dX10_takesWord_24 3 rfl (by decide) (by decide) rfl ?_
        refine v_goto O 2 dX10_takesWord_27 (by decide) ?_
        refine v_iload_n O dX10_takesWord_2 3 rfl ?_
        refine v_iload_n O dX10_takesWord_3 2 rfl ?_
        refine v_icmp_ge O 30 dX10_takesWord_4 (by decide) (fun c => absurd c (by decide)) (fun _ => ?_)
        refine v_aload_n O dX10_takesWord_7 0 rfl ?_
        refine v_aload_n O dX10_takesWord_8 0 rfl ?_
        refine gf_X10_80 (v := .ref (ma 23)) O rfl dX10_takesWord_9 1 rfl rfl ?_
        refine v_iload_n O dX10_takesWord_12 1 rfl ?_
        refine v_iload_n O dX10_takesWord_13 3 rfl ?_
        refine v_iadd O dX10_takesWord_14 ?_
        refine v_top (y := nI 6) rfl ?_
        refine v_ialdk O dX10_takesWord_15 0 rfl 6 rfl (by omega) (by decide) ?_
        refine v_top (y := 114) (rfl) ?_
        by_cases y3 : sgT tb ln (((p + 1) + 1) + 1) = 114
        · skip
          have x3 := sgT_lt y3 (by decide)
          refine v_cV (T := TX10) (ci := 10) (As := [.int 114]) (wr := [((ma 23), eI D 18 ltF)]) (st := []) O cf_X10_192 rfl (sp_X10_takes_t (mo := mo) (ma := ma) (c := c) (c2 := c2) (tk := tk) (vc := vc) (ln := ln) (rn := rn) (zs_11 := zs_11) (zs_20 := zs_20) (zs_21 := zs_21) (zs_22 := zs_22) (zs_25 := zs_25) (zs_26 := zs_26) (zs_27 := zs_27) (zs_29 := zs_29) (tb := tb) (p := (((p + 1) + 1) + 1)) (x := 114) (hln) (by omega) (y3)) dX10_takesWord_16 rfl rfl 1 rfl [1, 2] [0] (by decide) rfl rfl (by decide) (by decide) (by decide) (Nat.le_of_ble_eq_true rfl) (by decide) (by decide) (fun r_18 w_19 h_17 => ?_)
          obtain ⟨rfl, rfl⟩ := h_17
          refine v_eq (st' := [.int 1]) (ws' := [((ma 23), eI D 18 ltF), (mo, .inr (10, M1R ma (mZ c c2 tk vc ln rn (nI ((((p + 1) + 1) + 1) + 1)) zs_11 zs_20 zs_21 zs_22 zs_25 zs_26 zs_27 zs_29))), ((ma 12), eI D 100 tb)]) rfl rfl rfl rfl ?_
          refine v_if_ne O 24 dX10_takesWord_19 (by decide) (fun _ => ?_) (fun c => absurd c (by decide))
          refine v_iinc (v := 4) (lv' := [(0, .ref mo), (1, .int 3), (2, .int 4), (3, .int 4)]) O dX10_takesWord_24 3 rfl (by decide) (by decide) rfl ?_
          refine v_goto O 2 dX10_takesWord_27 (by decide) ?_
          refine v_iload_n O dX10_takesWord_2 3 rfl ?_
          refine v_iload_n O dX10_takesWord_3 2 rfl ?_
          refine v_icmp_ge O 30 dX10_takesWord_4 (by decide) (fun _ => ?_) (fun c => absurd c (by decide))
          refine v_aload_n O dX10_takesWord_30 0 rfl ?_
          refine v_bipush (v := 32) O dX10_takesWord_31 (by decide) ?_
          by_cases y4 : sgT tb ln ((((p + 1) + 1) + 1) + 1) = 32
          · skip
            have x4 := sgT_lt y4 (by decide)
            refine v_cV (T := TX10) (ci := 10) (As := [.int 32]) (wr := [((ma 23), eI D 18 ltF)]) (st := []) O cf_X10_192 rfl (sp_X10_takes_t (mo := mo) (ma := ma) (c := c) (c2 := c2) (tk := tk) (vc := vc) (ln := ln) (rn := rn) (zs_11 := zs_11) (zs_20 := zs_20) (zs_21 := zs_21) (zs_22 := zs_22) (zs_25 := zs_25) (zs_26 := zs_26) (zs_27 := zs_27) (zs_29 := zs_29) (tb := tb) (p := ((((p + 1) + 1) + 1) + 1)) (x := 32) (hln) (by omega) (y4)) dX10_takesWord_33 rfl rfl 1 rfl [1, 2] [0] (by decide) rfl rfl (by decide) (by decide) (by decide) (Nat.le_of_ble_eq_true rfl) (by decide) (by decide) (fun r_23 w_24 h_22 => ?_)
            obtain ⟨rfl, rfl⟩ := h_22
            refine v_eq (st' := [.int 1]) (ws' := [((ma 23), eI D 18 ltF), (mo, .inr (10, M1R ma (mZ c c2 tk vc ln rn (nI (((((p + 1) + 1) + 1) + 1) + 1)) zs_11 zs_20 zs_21 zs_22 zs_25 zs_26 zs_27 zs_29))), ((ma 12), eI D 100 tb)]) rfl rfl rfl rfl ?_
            refine v_sub (ws' := [(mo, .inr (10, M1R ma (mZ c c2 tk vc ln rn (nI (((((p + 1) + 1) + 1) + 1) + 1)) zs_11 zs_20 zs_21 zs_22 zs_25 zs_26 zs_27 zs_29))), ((ma 12), eI D 100 tb), ((ma 23), eI D 18 ltF)]) [1, 2, 0] (by decide) rfl ?_
            exact v_ireturn O T rfl rfl (by decide) (by decide) dX10_takesWord_36 (⟨by rw [b2i_t (by simp only [spl, if_pos y0, if_pos y1, if_pos y2, if_pos y3, if_pos y4])], by simp only [spl, if_pos y0, if_pos y1, if_pos y2, if_pos y3, if_pos y4]⟩)
          · skip
            refine v_cV (T := TX10) (ci := 10) (As := [.int 32]) (wr := [((ma 23), eI D 18 ltF)]) (st := []) O cf_X10_192 rfl (sp_X10_takes_f (mo := mo) (ma := ma) (c := c) (c2 := c2) (tk := tk) (vc := vc) (ln := ln) (rn := rn) (zs_11 := zs_11) (zs_20 := zs_20) (zs_21 := zs_21) (zs_22 := zs_22) (zs_25 := zs_25) (zs_26 := zs_26) (zs_27 := zs_27) (zs_29 := zs_29) (tb := tb) (p := ((((p + 1) + 1) + 1) + 1)) (x := 32) (hln) (by omega) (y4)) dX10_takesWord_33 rfl rfl 1 rfl [1, 2] [0] (by decide) rfl rfl (by decide) (by decide) (by decide) (Nat.le_of_ble_eq_true rfl) (by decide) (by decide) (fun r_26 w_27 h_25 => ?_)
            obtain ⟨rfl, rfl⟩ := h_25
            refine v_eq (st' := [.int 0]) (ws' := [((ma 23), eI D 18 ltF), (mo, .inr (10, M1R ma (mZ c c2 tk vc ln rn (nI ((((p + 1) + 1) + 1) + 1)) zs_11 zs_20 zs_21 zs_22 zs_25 zs_26 zs_27 zs_29))), ((ma 12), eI D 100 tb)]) rfl rfl rfl rfl ?_
            refine v_sub (ws' := [(mo, .inr (10, M1R ma (mZ c c2 tk vc ln rn (nI ((((p + 1) + 1) + 1) + 1)) zs_11 zs_20 zs_21 zs_22 zs_25 zs_26 zs_27 zs_29))), ((ma 12), eI D 100 tb), ((ma 23), eI D 18 ltF)]) [1, 2, 0] (by decide) rfl ?_
            exact v_ireturn O T rfl rfl (by decide) (by decide) dX10_takesWord_36 (⟨by rw [b2i_f (by simp only [spl, if_pos y0, if_pos y1, if_pos y2, if_pos y3, if_neg y4]; decide)], by simp only [spl, if_pos y0, if_pos y1, if_pos y2, if_pos y3, if_neg y4]⟩)
        · skip
          refine v_cV (T := TX10) (ci := 10) (As := [.int 114]) (wr := [((ma 23), eI D 18 ltF)]) (st := []) O cf_X10_192 rfl (sp_X10_takes_f (mo := mo) (ma := ma) (c := c) (c2 := c2) (tk := tk) (vc := vc) (ln := ln) (rn := rn) (zs_11 := zs_11) (zs_20 := zs_20) (zs_21 := zs_21) (zs_22 := zs_22) (zs_25 := zs_25) (zs_26 := zs_26) (zs_27 := zs_27) (zs_29 := zs_29) (tb := tb) (p := (((p + 1) + 1) + 1)) (x := 114) (hln) (by omega) (y3)) dX10_takesWord_16 rfl rfl 1 rfl [1, 2] [0] (by decide) rfl rfl (by decide) (by decide) (by decide) (Nat.le_of_ble_eq_true rfl) (by decide) (by decide) (fun r_29 w_30 h_28 => ?_)
          obtain ⟨rfl, rfl⟩ := h_28
          refine v_eq (st' := [.int 0]) (ws' := [((ma 23), eI D 18 ltF), (mo, .inr (10, M1R ma (mZ c c2 tk vc ln rn (nI (((p + 1) + 1) + 1)) zs_11 zs_20 zs_21 zs_22 zs_25 zs_26 zs_27 zs_29))), ((ma 12), eI D 100 tb)]) rfl rfl rfl rfl ?_
          refine v_if_ne O 24 dX10_takesWord_19 (by decide) (fun c => absurd c (by decide)) (fun _ => ?_)
          refine v_iconst (v := 0) O dX10_takesWord_22 (by decide) ?_
          refine v_sub (ws' := [(mo, .inr (10, M1R ma (mZ c c2 tk vc ln rn (nI (((p + 1) + 1) + 1)) zs_11 zs_20 zs_21 zs_22 zs_25 zs_26 zs_27 zs_29))), ((ma 12), eI D 100 tb), ((ma 23), eI D 18 ltF)]) [1, 2, 0] (by decide) rfl ?_
          exact v_ireturn O T rfl rfl (by decide) (by decide) dX10_takesWord_23 (⟨by rw [b2i_f (by simp only [spl, if_pos y0, if_pos y1, if_pos y2, if_neg y3]; decide)], by simp only [spl, if_pos y0, if_pos y1, if_pos y2, if_neg y3]⟩)
      · skip
        refine v_cV (T := TX10) (ci := 10) (As := [.int 101]) (wr := [((ma 23), eI D 18 ltF)]) (st := []) O cf_X10_192 rfl (sp_X10_takes_f (mo := mo) (ma := ma) (c := c) (c2 := c2) (tk := tk) (vc := vc) (ln := ln) (rn := rn) (zs_11 := zs_11) (zs_20 := zs_20) (zs_21 := zs_21) (zs_22 := zs_22) (zs_25 := zs_25) (zs_26 := zs_26) (zs_27 := zs_27) (zs_29 := zs_29) (tb := tb) (p := ((p + 1) + 1)) (x := 101) (hln) (by omega) (y2)) dX10_takesWord_16 rfl rfl 1 rfl [1, 2] [0] (by decide) rfl rfl (by decide) (by decide) (by decide) (Nat.le_of_ble_eq_true rfl) (by decide) (by decide) (fun r_33 w_34 h_32 => ?_)
        obtain ⟨rfl, rfl⟩ := h_32
        refine v_eq (st' := [.int 0]) (ws' := [((ma 23), eI D 18 ltF), (mo, .inr (10, M1R ma (mZ c c2 tk vc ln rn (nI ((p + 1) + 1)) zs_11 zs_20 zs_21 zs_22 zs_25 zs_26 zs_27 zs_29))), ((ma 12), eI D 100 tb)]) rfl rfl rfl rfl ?_
        refine v_if_ne O 24 dX10_takesWord_19 (by decide) (fun c => absurd c (by decide)) (fun _ => ?_)
        refine v_iconst (v := 0) O dX10_takesWord_22 (by decide) ?_
        refine v_sub (ws' := [(mo, .inr (10, M1R ma (mZ c c2 tk vc ln rn (nI ((p + 1) + 1)) zs_11 zs_20 zs_21 zs_22 zs_25 zs_26 zs_27 zs_29))), ((ma 12), eI D 100 tb), ((ma 23), eI D 18 ltF)]) [1, 2, 0] (by decide) rfl ?_
        exact v_ireturn O T rfl rfl (by decide) (by decide) dX10_takesWord_23 (⟨by rw [b2i_f (by simp only [spl, if_pos y0, if_pos y1, if_neg y2]; decide)], by simp only [spl, if_pos y0, if_pos y1, if_neg y2]⟩)
    · skip
      refine v_cV (T := TX10) (ci := 10) (As := [.int 118]) (wr := [((ma 23), eI D 18 ltF)]) (st := []) O cf_X10_192 rfl (sp_X10_takes_f (mo := mo) (ma := ma) (c := c) (c2 := c2) (tk := tk) (vc := vc) (ln := ln) (rn := rn) (zs_11 := zs_11) (zs_20 := zs_20) (zs_21 := zs_21) (zs_22 := zs_22) (zs_25 := zs_25) (zs_26 := zs_26) (zs_27 := zs_27) (zs_29 := zs_29) (tb := tb) (p := (p + 1)) (x := 118) (hln) (by omega) (y1)) dX10_takesWord_16 rfl rfl 1 rfl [1, 2] [0] (by decide) rfl rfl (by decide) (by decide) (by decide) (Nat.le_of_ble_eq_true rfl) (by decide) (by decide) (fun r_37 w_38 h_36 => ?_)
      obtain ⟨rfl, rfl⟩ := h_36
      refine v_eq (st' := [.int 0]) (ws' := [((ma 23), eI D 18 ltF), (mo, .inr (10, M1R ma (mZ c c2 tk vc ln rn (nI (p + 1)) zs_11 zs_20 zs_21 zs_22 zs_25 zs_26 zs_27 zs_29))), ((ma 12), eI D 100 tb)]) rfl rfl rfl rfl ?_
      refine v_if_ne O 24 dX10_takesWord_19 (by decide) (fun c => absurd c (by decide)) (fun _ => ?_)
      refine v_iconst (v := 0) O dX10_takesWord_22 (by decide) ?_
      refine v_sub (ws' := [(mo, .inr (10, M1R ma (mZ c c2 tk vc ln rn (nI (p + 1)) zs_11 zs_20 zs_21 zs_22 zs_25 zs_26 zs_27 zs_29))), ((ma 12), eI D 100 tb), ((ma 23), eI D 18 ltF)]) [1, 2, 0] (by decide) rfl ?_
      exact v_ireturn O T rfl rfl (by decide) (by decide) dX10_takesWord_23 (⟨by rw [b2i_f (by simp only [spl, if_pos y0, if_neg y1]; decide)], by simp only [spl, if_pos y0, if_neg y1]⟩)
  · skip
    refine v_cV (T := TX10) (ci := 10) (As := [.int 111]) (wr := [((ma 23), eI D 18 ltF)]) (st := []) O cf_X10_192 rfl (sp_X10_takes_f (mo := mo) (ma := ma) (c := c) (c2 := c2) (tk := tk) (vc := vc) (ln := ln) (rn := rn) (zs_11 := zs_11) (zs_20 := zs_20) (zs_21 := zs_21) (zs_22 := zs_22) (zs_25 := zs_25) (zs_26 := zs_26) (zs_27 := zs_27) (zs_29 := zs_29) (tb := tb) (p := p) (x := 111) (hln) (by omega) (y0)) dX10_takesWord_16 rfl rfl 0 rfl [0, 1] [2] (by decide) rfl rfl (by decide) (by decide) (by decide) (Nat.le_of_ble_eq_true rfl) (by decide) (by decide) (fun r_41 w_42 h_40 => ?_)
    obtain ⟨rfl, rfl⟩ := h_40
    refine v_eq (st' := [.int 0]) (ws' := [((ma 23), eI D 18 ltF), (mo, .inr (10, M1R ma (mZ c c2 tk vc ln rn (nI p) zs_11 zs_20 zs_21 zs_22 zs_25 zs_26 zs_27 zs_29))), ((ma 12), eI D 100 tb)]) rfl rfl rfl rfl ?_
    refine v_if_ne O 24 dX10_takesWord_19 (by decide) (fun c => absurd c (by decide)) (fun _ => ?_)
    refine v_iconst (v := 0) O dX10_takesWord_22 (by decide) ?_
    refine v_sub (ws' := [(mo, .inr (10, M1R ma (mZ c c2 tk vc ln rn (nI p) zs_11 zs_20 zs_21 zs_22 zs_25 zs_26 zs_27 zs_29))), ((ma 12), eI D 100 tb), ((ma 23), eI D 18 ltF)]) [1, 2, 0] (by decide) rfl ?_
    exact v_ireturn O T rfl rfl (by decide) (by decide) dX10_takesWord_23 (⟨by rw [b2i_f (by simp only [spl, if_neg y0]; decide)], by simp only [spl, if_neg y0]⟩)
set_option maxRecDepth 100000 in
set_option maxHeartbeats 4000000 in
theorem sp_X10_word_back {D : G} {mo : Nat} {ma : Nat → Nat} {c : CS} {c2 : CS} {tk : Int32} {vc : Nat} {ln : Nat} {rn : Nat} {zs_11 : Int32} {zs_20 : Int32} {zs_21 : Int32} {zs_22 : Int32} {zs_25 : Int32} {zs_26 : Int32} {zs_27 : Int32} {zs_29 : Int32} {tb : Nat → Int32} {p : Nat} (hln : ln ≤ 100) (hp : p ≤ ln) : Sp D mX10_takesWord 2 0 0 [.ref mo, .int 7, .int 4] [(mo, .inr (10, M1R ma (mZ c c2 tk vc ln rn (nI p) zs_11 zs_20 zs_21 zs_22 zs_25 zs_26 zs_27 zs_29))), ((ma 12), eI D 100 tb), ((ma 23), eI D 18 ltF)] (fun r w => r = some (.int (b2i ((spl (sgT tb ln) [98, 97, 99, 107, 32] p).2 = true))) ∧ w = [(mo, .inr (10, M1R ma (mZ c c2 tk vc ln rn (nI ((spl (sgT tb ln) [98, 97, 99, 107, 32] p).1)) zs_11 zs_20 zs_21 zs_22 zs_25 zs_26 zs_27 zs_29))), ((ma 12), eI D 100 tb), ((ma 23), eI D 18 ltF)]) := by
  refine Sp.of (by decide) (Nat.le_of_ble_eq_true rfl) (fun X O T => ?_)
  refine v_eq (lv' := [(0, .ref mo), (1, .int 7), (2, .int 4)]) rfl rfl rfl rfl ?_
  refine v_iconst (v := 0) O dX10_takesWord_0 (by decide) ?_
  refine v_istore_n (lv' := [(0, .ref mo), (1, .int 7), (2, .int 4), (3, .int 0)]) O dX10_takesWord_1 (by decide) rfl ?_
  refine v_iload_n O dX10_takesWord_2 3 rfl ?_
  refine v_iload_n O dX10_takesWord_3 2 rfl ?_
  refine v_icmp_ge O 30 dX10_takesWord_4 (by decide) (fun c => absurd c (by decide)) (fun _ => ?_)
  refine v_aload_n O dX10_takesWord_7 0 rfl ?_
  refine v_aload_n O dX10_takesWord_8 0 rfl ?_
  refine gf_X10_80 (v := .ref (ma 23)) O rfl dX10_takesWord_9 0 rfl rfl ?_
  refine v_iload_n O dX10_takesWord_12 1 rfl ?_
  refine v_iload_n O dX10_takesWord_13 3 rfl ?_
  refine v_iadd O dX10_takesWord_14 ?_
  refine v_top (y := nI 7) rfl ?_
  refine v_ialdk O dX10_takesWord_15 2 rfl 7 rfl (by omega) (by decide) ?_
  refine v_top (y := 98) (rfl) ?_
  by_cases y0 : sgT tb ln p = 98
  · skip
    have x0 := sgT_lt y0 (by decide)
    refine v_cV (T := TX10) (ci := 10) (As := [.int 98]) (wr := [((ma 23), eI D 18 ltF)]) (st := []) O cf_X10_192 rfl (sp_X10_takes_t (mo := mo) (ma := ma) (c := c) (c2 := c2) (tk := tk) (vc := vc) (ln := ln) (rn := rn) (zs_11 := zs_11) (zs_20 := zs_20) (zs_21 := zs_21) (zs_22 := zs_22) (zs_25 := zs_25) (zs_26 := zs_26) (zs_27 := zs_27) (zs_29 := zs_29) (tb := tb) (p := p) (x := 98) (hln) (by omega) (y0)) dX10_takesWord_16 rfl rfl 0 rfl [0, 1] [2] (by decide) rfl rfl (by decide) (by decide) (by decide) (Nat.le_of_ble_eq_true rfl) (by decide) (by decide) (fun r_3 w_4 h_2 => ?_)
    obtain ⟨rfl, rfl⟩ := h_2
    refine v_eq (st' := [.int 1]) (ws' := [((ma 23), eI D 18 ltF), (mo, .inr (10, M1R ma (mZ c c2 tk vc ln rn (nI (p + 1)) zs_11 zs_20 zs_21 zs_22 zs_25 zs_26 zs_27 zs_29))), ((ma 12), eI D 100 tb)]) rfl rfl rfl rfl ?_
    refine v_if_ne O 24 dX10_takesWord_19 (by decide) (fun _ => ?_) (fun c => absurd c (by decide))
    refine v_iinc (v := 1) (lv' := [(0, .ref mo), (1, .int 7), (2, .int 4), (3, .int 1)]) O dX10_takesWord_24 3 rfl (by decide) (by decide) rfl ?_
    refine v_goto O 2 dX10_takesWord_27 (by decide) ?_
    refine v_iload_n O dX10_takesWord_2 3 rfl ?_
    refine v_iload_n O dX10_takesWord_3 2 rfl ?_
    refine v_icmp_ge O 30 dX10_takesWord_4 (by decide) (fun c => absurd c (by decide)) (fun _ => ?_)
    refine v_aload_n O dX10_takesWord_7 0 rfl ?_
    refine v_aload_n O dX10_takesWord_8 0 rfl ?_
    refine gf_X10_80 (v := .ref (ma 23)) O rfl dX10_takesWord_9 1 rfl rfl ?_
    refine v_iload_n O dX10_takesWord_12 1 rfl ?_
    refine v_iload_n O dX10_takesWord_13 3 rfl ?_
    refine v_iadd O dX10_takesWord_14 ?_
    refine v_top (y := nI 8) rfl ?_
    refine v_ialdk O dX10_takesWord_15 0 rfl 8 rfl (by omega) (by decide) ?_
    refine v_top (y := 97) (rfl) ?_
    by_cases y1 : sgT tb ln (p + 1) = 97
    · skip
      have x1 := sgT_lt y1 (by decide)
      refine v_cV (T := TX10) (ci := 10) (As := [.int 97]) (wr := [((ma 23), eI D 18 ltF)]) (st := []) O cf_X10_192 rfl (sp_X10_takes_t (mo := mo) (ma := ma) (c := c) (c2 := c2) (tk := tk) (vc := vc) (ln := ln) (rn := rn) (zs_11 := zs_11) (zs_20 := zs_20) (zs_21 := zs_21) (zs_22 := zs_22) (zs_25 := zs_25) (zs_26 := zs_26) (zs_27 := zs_27) (zs_29 := zs_29) (tb := tb) (p := (p + 1)) (x := 97) (hln) (by omega) (y1)) dX10_takesWord_16 rfl rfl 1 rfl [1, 2] [0] (by decide) rfl rfl (by decide) (by decide) (by decide) (Nat.le_of_ble_eq_true rfl) (by decide) (by decide) (fun r_8 w_9 h_7 => ?_)
      obtain ⟨rfl, rfl⟩ := h_7
      refine v_eq (st' := [.int 1]) (ws' := [((ma 23), eI D 18 ltF), (mo, .inr (10, M1R ma (mZ c c2 tk vc ln rn (nI ((p + 1) + 1)) zs_11 zs_20 zs_21 zs_22 zs_25 zs_26 zs_27 zs_29))), ((ma 12), eI D 100 tb)]) rfl rfl rfl rfl ?_
      refine v_if_ne O 24 dX10_takesWord_19 (by decide) (fun _ => ?_) (fun c => absurd c (by decide))
      refine v_iinc (v := 2) (lv' := [(0, .ref mo), (1, .int 7), (2, .int 4), (3, .int 2)]) O dX10_takesWord_24 3 rfl (by decide) (by decide) rfl ?_
      refine v_goto O 2 dX10_takesWord_27 (by decide) ?_
      refine v_iload_n O dX10_takesWord_2 3 rfl ?_
      refine v_iload_n O dX10_takesWord_3 2 rfl ?_
      refine v_icmp_ge O 30 dX10_takesWord_4 (by decide) (fun c => absurd c (by decide)) (fun _ => ?_)
      refine v_aload_n O dX10_takesWord_7 0 rfl ?_
      refine v_aload_n O dX10_takesWord_8 0 rfl ?_
      refine gf_X10_80 (v := .ref (ma 23)) O rfl dX10_takesWord_9 1 rfl rfl ?_
      refine v_iload_n O dX10_takesWord_12 1 rfl ?_
      refine v_iload_n O dX10_takesWord_13 3 rfl ?_
      refine v_iadd O dX10_takesWord_14 ?_
      refine v_top (y := nI 9) rfl ?_
      refine v_ialdk O dX10_takesWord_15 0 rfl 9 rfl (by omega) (by decide) ?_
      refine v_top (y := 99) (rfl) ?_
      by_cases y2 : sgT tb ln ((p + 1) + 1) = 99
      · skip
        have x2 := sgT_lt y2 (by decide)
        refine v_cV (T := TX10) (ci := 10) (As := [.int 99]) (wr := [((ma 23), eI D 18 ltF)]) (st := []) O cf_X10_192 rfl (sp_X10_takes_t (mo := mo) (ma := ma) (c := c) (c2 := c2) (tk := tk) (vc := vc) (ln := ln) (rn := rn) (zs_11 := zs_11) (zs_20 := zs_20) (zs_21 := zs_21) (zs_22 := zs_22) (zs_25 := zs_25) (zs_26 := zs_26) (zs_27 := zs_27) (zs_29 := zs_29) (tb := tb) (p := ((p + 1) + 1)) (x := 99) (hln) (by omega) (y2)) dX10_takesWord_16 rfl rfl 1 rfl [1, 2] [0] (by decide) rfl rfl (by decide) (by decide) (by decide) (Nat.le_of_ble_eq_true rfl) (by decide) (by decide) (fun r_13 w_14 h_12 => ?_)
        obtain ⟨rfl, rfl⟩ := h_12
        refine v_eq (st' := [.int 1]) (ws' := [((ma 23), eI D 18 ltF), (mo, .inr (10, M1R ma (mZ c c2 tk vc ln rn (nI (((p + 1) + 1) + 1)) zs_11 zs_20 zs_21 zs_22 zs_25 zs_26 zs_27 zs_29))), ((ma 12), eI D 100 tb)]) rfl rfl rfl rfl ?_
        refine v_if_ne O 24 dX10_takesWord_19 (by decide) (fun _ => ?_) (fun c => absurd c (by decide))
        refine v_iinc (v := 3) (lv' := [(0, .ref mo), (1, .int 7), (2, .int 4), (3, .int 3)]) O dX10_takesWord_24 3 rfl (by decide) (by decide) rfl ?_
        refine v_goto O 2 dX10_takesWord_27 (by decide) ?_
        refine v_iload_n O dX10_takesWord_2 3 rfl ?_
        refine v_iload_n O dX10_takesWord_3 2 rfl ?_
        refine v_icmp_ge O 30 dX10_takesWord_4 (by decide) (fun c => absurd c (by decide)) (fun _ => ?_)
        refine v_aload_n O dX10_takesWord_7 0 rfl ?_
        refine v_aload_n O dX10_takesWord_8 0 rfl ?_
        refine gf_X10_80 (v := .ref (ma 23)) O rfl dX10_takesWord_9 1 rfl rfl ?_
        refine v_iload_n O dX10_takesWord_12 1 rfl ?_
        refine v_iload_n O dX10_takesWord_13 3 rfl ?_
        refine v_iadd O dX10_takesWord_14 ?_
        refine v_top (y := nI 10) rfl ?_
        refine v_ialdk O dX10_takesWord_15 0 rfl 10 rfl (by omega) (by decide) ?_
        refine v_top (y := 107) (rfl) ?_
        by_cases y3 : sgT tb ln (((p + 1) + 1) + 1) = 107
        · skip
          have x3 := sgT_lt y3 (by decide)
          refine v_cV (T := TX10) (ci := 10) (As := [.int 107]) (wr := [((ma 23), eI D 18 ltF)]) (st := []) O cf_X10_192 rfl (sp_X10_takes_t (mo := mo) (ma := ma) (c := c) (c2 := c2) (tk := tk) (vc := vc) (ln := ln) (rn := rn) (zs_11 := zs_11) (zs_20 := zs_20) (zs_21 := zs_21) (zs_22 := zs_22) (zs_25 := zs_25) (zs_26 := zs_26) (zs_27 := zs_27) (zs_29 := zs_29) (tb := tb) (p := (((p + 1) + 1) + 1)) (x := 107) (hln) (by omega) (y3)) dX10_takesWord_16 rfl rfl 1 rfl [1, 2] [0] (by decide) rfl rfl (by decide) (by decide) (by decide) (Nat.le_of_ble_eq_true rfl) (by decide) (by decide) (fun r_18 w_19 h_17 => ?_)
          obtain ⟨rfl, rfl⟩ := h_17
          refine v_eq (st' := [.int 1]) (ws' := [((ma 23), eI D 18 ltF), (mo, .inr (10, M1R ma (mZ c c2 tk vc ln rn (nI ((((p + 1) + 1) + 1) + 1)) zs_11 zs_20 zs_21 zs_22 zs_25 zs_26 zs_27 zs_29))), ((ma 12), eI D 100 tb)]) rfl rfl rfl rfl ?_
          refine v_if_ne O 24 dX10_takesWord_19 (by decide) (fun _ => ?_) (fun c => absurd c (by decide))
          refine v_iinc (v := 4) (lv' := [(0, .ref mo), (1, .int 7), (2, .int 4), (3, .int 4)]) O dX10_takesWord_24 3 rfl (by decide) (by decide) rfl ?_
          refine v_goto O 2 dX10_takesWord_27 (by decide) ?_
          refine v_iload_n O dX10_takesWord_2 3 rfl ?_
          refine v_iload_n O dX10_takesWord_3 2 rfl ?_
          refine v_icmp_ge O 30 dX10_takesWord_4 (by decide) (fun _ => ?_) (fun c => absurd c (by decide))
          refine v_aload_n O dX10_takesWord_30 0 rfl ?_
          refine v_bipush (v := 32) O dX10_takesWord_31 (by decide) ?_
          by_cases y4 : sgT tb ln ((((p + 1) + 1) + 1) + 1) = 32
          · skip
            have x4 := sgT_lt y4 (by decide)
            refine v_cV (T := TX10) (ci := 10) (As := [.int 32]) (wr := [((ma 23), eI D 18 ltF)]) (st := []) O cf_X10_192 rfl (sp_X10_takes_t (mo := mo) (ma := ma) (c := c) (c2 := c2) (tk := tk) (vc := vc) (ln := ln) (rn := rn) (zs_11 := zs_11) (zs_20 := zs_20) (zs_21 := zs_21) (zs_22 := zs_22) (zs_25 := zs_25) (zs_26 := zs_26) (zs_27 := zs_27) (zs_29 := zs_29) (tb := tb) (p := ((((p + 1) + 1) + 1) + 1)) (x := 32) (hln) (by omega) (y4)) dX10_takesWord_33 rfl rfl 1 rfl [1, 2] [0] (by decide) rfl rfl (by decide) (by decide) (by decide) (Nat.le_of_ble_eq_true rfl) (by decide) (by decide) (fun r_23 w_24 h_22 => ?_)
            obtain ⟨rfl, rfl⟩ := h_22
            refine v_eq (st' := [.int 1]) (ws' := [((ma 23), eI D 18 ltF), (mo, .inr (10, M1R ma (mZ c c2 tk vc ln rn (nI (((((p + 1) + 1) + 1) + 1) + 1)) zs_11 zs_20 zs_21 zs_22 zs_25 zs_26 zs_27 zs_29))), ((ma 12), eI D 100 tb)]) rfl rfl rfl rfl ?_
            refine v_sub (ws' := [(mo, .inr (10, M1R ma (mZ c c2 tk vc ln rn (nI (((((p + 1) + 1) + 1) + 1) + 1)) zs_11 zs_20 zs_21 zs_22 zs_25 zs_26 zs_27 zs_29))), ((ma 12), eI D 100 tb), ((ma 23), eI D 18 ltF)]) [1, 2, 0] (by decide) rfl ?_
            exact v_ireturn O T rfl rfl (by decide) (by decide) dX10_takesWord_36 (⟨by rw [b2i_t (by simp only [spl, if_pos y0, if_pos y1, if_pos y2, if_pos y3, if_pos y4])], by simp only [spl, if_pos y0, if_pos y1, if_pos y2, if_pos y3, if_pos y4]⟩)
          · skip
            refine v_cV (T := TX10) (ci := 10) (As := [.int 32]) (wr := [((ma 23), eI D 18 ltF)]) (st := []) O cf_X10_192 rfl (sp_X10_takes_f (mo := mo) (ma := ma) (c := c) (c2 := c2) (tk := tk) (vc := vc) (ln := ln) (rn := rn) (zs_11 := zs_11) (zs_20 := zs_20) (zs_21 := zs_21) (zs_22 := zs_22) (zs_25 := zs_25) (zs_26 := zs_26) (zs_27 := zs_27) (zs_29 := zs_29) (tb := tb) (p := ((((p + 1) + 1) + 1) + 1)) (x := 32) (hln) (by omega) (y4)) dX10_takesWord_33 rfl rfl 1 rfl [1, 2] [0] (by decide) rfl rfl (by decide) (by decide) (by decide) (Nat.le_of_ble_eq_true rfl) (by decide) (by decide) (fun r_26 w_27 h_25 => ?_)
            obtain ⟨rfl, rfl⟩ := h_25
            refine v_eq (st' := [.int 0]) (ws' := [((ma 23), eI D 18 ltF), (mo, .inr (10, M1R ma (mZ c c2 tk vc ln rn (nI ((((p + 1) + 1) + 1) + 1)) zs_11 zs_20 zs_21 zs_22 zs_25 zs_26 zs_27 zs_29))), ((ma 12), eI D 100 tb)]) rfl rfl rfl rfl ?_
            refine v_sub (ws' := [(mo, .inr (10, M1R ma (mZ c c2 tk vc ln rn (nI ((((p + 1) + 1) + 1) + 1)) zs_11 zs_20 zs_21 zs_22 zs_25 zs_26 zs_27 zs_29))), ((ma 12), eI D 100 tb), ((ma 23), eI D 18 ltF)]) [1, 2, 0] (by decide) rfl ?_
            exact v_ireturn O T rfl rfl (by decide) (by decide) dX10_takesWord_36 (⟨by rw [b2i_f (by simp only [spl, if_pos y0, if_pos y1, if_pos y2, if_pos y3, if_neg y4]; decide)], by simp only [spl, if_pos y0, if_pos y1, if_pos y2, if_pos y3, if_neg y4]⟩)
        · skip
          refine v_cV (T := TX10) (ci := 10) (As := [.int 107]) (wr := [((ma 23), eI D 18 ltF)]) (st := []) O cf_X10_192 rfl (sp_X10_takes_f (mo := mo) (ma := ma) (c := c) (c2 := c2) (tk := tk) (vc := vc) (ln := ln) (rn := rn) (zs_11 := zs_11) (zs_20 := zs_20) (zs_21 := zs_21) (zs_22 := zs_22) (zs_25 := zs_25) (zs_26 := zs_26) (zs_27 := zs_27) (zs_29 := zs_29) (tb := tb) (p := (((p + 1) + 1) + 1)) (x := 107) (hln) (by omega) (y3)) dX10_takesWord_16 rfl rfl 1 rfl [1, 2] [0] (by decide) rfl rfl (by decide) (by decide) (by decide) (Nat.le_of_ble_eq_true rfl) (by decide) (by decide) (fun r_29 w_30 h_28 => ?_)
          obtain ⟨rfl, rfl⟩ := h_28
          refine v_eq (st' := [.int 0]) (ws' := [((ma 23), eI D 18 ltF), (mo, .inr (10, M1R ma (mZ c c2 tk vc ln rn (nI (((p + 1) + 1) + 1)) zs_11 zs_20 zs_21 zs_22 zs_25 zs_26 zs_27 zs_29))), ((ma 12), eI D 100 tb)]) rfl rfl rfl rfl ?_
          refine v_if_ne O 24 dX10_takesWord_19 (by decide) (fun c => absurd c (by decide)) (fun _ => ?_)
          refine v_iconst (v := 0) O dX10_takesWord_22 (by decide) ?_
          refine v_sub (ws' := [(mo, .inr (10, M1R ma (mZ c c2 tk vc ln rn (nI (((p + 1) + 1) + 1)) zs_11 zs_20 zs_21 zs_22 zs_25 zs_26 zs_27 zs_29))), ((ma 12), eI D 100 tb), ((ma 23), eI D 18 ltF)]) [1, 2, 0] (by decide) rfl ?_
          exact v_ireturn O T rfl rfl (by decide) (by decide) dX10_takesWord_23 (⟨by rw [b2i_f (by simp only [spl, if_pos y0, if_pos y1, if_pos y2, if_neg y3]; decide)], by simp only [spl, if_pos y0, if_pos y1, if_pos y2, if_neg y3]⟩)
      · skip
        refine v_cV (T := TX10) (ci := 10) (As := [.int 99]) (wr := [((ma 23), eI D 18 ltF)]) (st := []) O cf_X10_192 rfl (sp_X10_takes_f (mo := mo) (ma := ma) (c := c) (c2 := c2) (tk := tk) (vc := vc) (ln := ln) (rn := rn) (zs_11 := zs_11) (zs_20 := zs_20) (zs_21 := zs_21) (zs_22 := zs_22) (zs_25 := zs_25) (zs_26 := zs_26) (zs_27 := zs_27) (zs_29 := zs_29) (tb := tb) (p := ((p + 1) + 1)) (x := 99) (hln) (by omega) (y2)) dX10_takesWord_16 rfl rfl 1 rfl [1, 2] [0] (by decide) rfl rfl (by decide) (by decide) (by decide) (Nat.le_of_ble_eq_true rfl) (by decide) (by decide) (fun r_33 w_34 h_32 => ?_)
        obtain ⟨rfl, rfl⟩ := h_32
        refine v_eq (st' := [.int 0]) (ws' := [((ma 23), eI D 18 ltF), (mo, .inr (10, M1R ma (mZ c c2 tk vc ln rn (nI ((p + 1) + 1)) zs_11 zs_20 zs_21 zs_22 zs_25 zs_26 zs_27 zs_29))), ((ma 12), eI D 100 tb)]) rfl rfl rfl rfl ?_
        refine v_if_ne O 24 dX10_takesWord_19 (by decide) (fun c => absurd c (by decide)) (fun _ => ?_)
        refine v_iconst (v := 0) O dX10_takesWord_22 (by decide) ?_
        refine v_sub (ws' := [(mo, .inr (10, M1R ma (mZ c c2 tk vc ln rn (nI ((p + 1) + 1)) zs_11 zs_20 zs_21 zs_22 zs_25 zs_26 zs_27 zs_29))), ((ma 12), eI D 100 tb), ((ma 23), eI D 18 ltF)]) [1, 2, 0] (by decide) rfl ?_
        exact v_ireturn O T rfl rfl (by decide) (by decide) dX10_takesWord_23 (⟨by rw [b2i_f (by simp only [spl, if_pos y0, if_pos y1, if_neg y2]; decide)], by simp only [spl, if_pos y0, if_pos y1, if_neg y2]⟩)
    · skip
      refine v_cV (T := TX10) (ci := 10) (As := [.int 97]) (wr := [((ma 23), eI D 18 ltF)]) (st := []) O cf_X10_192 rfl (sp_X10_takes_f (mo := mo) (ma := ma) (c := c) (c2 := c2) (tk := tk) (vc := vc) (ln := ln) (rn := rn) (zs_11 := zs_11) (zs_20 := zs_20) (zs_21 := zs_21) (zs_22 := zs_22) (zs_25 := zs_25) (zs_26 := zs_26) (zs_27 := zs_27) (zs_29 := zs_29) (tb := tb) (p := (p + 1)) (x := 97) (hln) (by omega) (y1)) dX10_takesWord_16 rfl rfl 1 rfl [1, 2] [0] (by decide) rfl rfl (by decide) (by decide) (by decide) (Nat.le_of_ble_eq_true rfl) (by decide) (by decide) (fun r_37 w_38 h_36 => ?_)
      obtain ⟨rfl, rfl⟩ := h_36
      refine v_eq (st' := [.int 0]) (ws' := [((ma 23), eI D 18 ltF), (mo, .inr (10, M1R ma (mZ c c2 tk vc ln rn (nI (p + 1)) zs_11 zs_20 zs_21 zs_22 zs_25 zs_26 zs_27 zs_29))), ((ma 12), eI D 100 tb)]) rfl rfl rfl rfl ?_
      refine v_if_ne O 24 dX10_takesWord_19 (by decide) (fun c => absurd c (by decide)) (fun _ => ?_)
      refine v_iconst (v := 0) O dX10_takesWord_22 (by decide) ?_
      refine v_sub (ws' := [(mo, .inr (10, M1R ma (mZ c c2 tk vc ln rn (nI (p + 1)) zs_11 zs_20 zs_21 zs_22 zs_25 zs_26 zs_27 zs_29))), ((ma 12), eI D 100 tb), ((ma 23), eI D 18 ltF)]) [1, 2, 0] (by decide) rfl ?_
      exact v_ireturn O T rfl rfl (by decide) (by decide) dX10_takesWord_23 (⟨by rw [b2i_f (by simp only [spl, if_pos y0, if_neg y1]; decide)], by simp only [spl, if_pos y0, if_neg y1]⟩)
  · skip
    refine v_cV (T := TX10) (ci := 10) (As := [.int 98]) (wr := [((ma 23), eI D 18 ltF)]) (st := []) O cf_X10_192 rfl (sp_X10_takes_f (mo := mo) (ma := ma) (c := c) (c2 := c2) (tk := tk) (vc := vc) (ln := ln) (rn := rn) (zs_11 := zs_11) (zs_20 := zs_20) (zs_21 := zs_21) (zs_22 := zs_22) (zs_25 := zs_25) (zs_26 := zs_26) (zs_27 := zs_27) (zs_29 := zs_29) (tb := tb) (p := p) (x := 98) (hln) (by omega) (y0)) dX10_takesWord_16 rfl rfl 0 rfl [0, 1] [2] (by decide) rfl rfl (by decide) (by decide) (by decide) (Nat.le_of_ble_eq_true rfl) (by decide) (by decide) (fun r_41 w_42 h_40 => ?_)
    obtain ⟨rfl, rfl⟩ := h_40
    refine v_eq (st' := [.int 0]) (ws' := [((ma 23), eI D 18 ltF), (mo, .inr (10, M1R ma (mZ c c2 tk vc ln rn (nI p) zs_11 zs_20 zs_21 zs_22 zs_25 zs_26 zs_27 zs_29))), ((ma 12), eI D 100 tb)]) rfl rfl rfl rfl ?_
    refine v_if_ne O 24 dX10_takesWord_19 (by decide) (fun c => absurd c (by decide)) (fun _ => ?_)
    refine v_iconst (v := 0) O dX10_takesWord_22 (by decide) ?_
    refine v_sub (ws' := [(mo, .inr (10, M1R ma (mZ c c2 tk vc ln rn (nI p) zs_11 zs_20 zs_21 zs_22 zs_25 zs_26 zs_27 zs_29))), ((ma 12), eI D 100 tb), ((ma 23), eI D 18 ltF)]) [1, 2, 0] (by decide) rfl ?_
    exact v_ireturn O T rfl rfl (by decide) (by decide) dX10_takesWord_23 (⟨by rw [b2i_f (by simp only [spl, if_neg y0]; decide)], by simp only [spl, if_neg y0]⟩)
set_option maxRecDepth 100000 in
set_option maxHeartbeats 4000000 in
theorem sp_X10_word_morning {D : G} {mo : Nat} {ma : Nat → Nat} {c : CS} {c2 : CS} {tk : Int32} {vc : Nat} {ln : Nat} {rn : Nat} {zs_11 : Int32} {zs_20 : Int32} {zs_21 : Int32} {zs_22 : Int32} {zs_25 : Int32} {zs_26 : Int32} {zs_27 : Int32} {zs_29 : Int32} {tb : Nat → Int32} {p : Nat} (hln : ln ≤ 100) (hp : p ≤ ln) : Sp D mX10_takesWord 2 0 0 [.ref mo, .int 11, .int 7] [(mo, .inr (10, M1R ma (mZ c c2 tk vc ln rn (nI p) zs_11 zs_20 zs_21 zs_22 zs_25 zs_26 zs_27 zs_29))), ((ma 12), eI D 100 tb), ((ma 23), eI D 18 ltF)] (fun r w => r = some (.int (b2i ((spl (sgT tb ln) [109, 111, 114, 110, 105, 110, 103, 32] p).2 = true))) ∧ w = [(mo, .inr (10, M1R ma (mZ c c2 tk vc ln rn (nI ((spl (sgT tb ln) [109, 111, 114, 110, 105, 110, 103, 32] p).1)) zs_11 zs_20 zs_21 zs_22 zs_25 zs_26 zs_27 zs_29))), ((ma 12), eI D 100 tb), ((ma 23), eI D 18 ltF)]) := by
  refine Sp.of (by decide) (Nat.le_of_ble_eq_true rfl) (fun X O T => ?_)
  refine v_eq (lv' := [(0, .ref mo), (1, .int 11), (2, .int 7)]) rfl rfl rfl rfl ?_
  refine v_iconst (v := 0) O dX10_takesWord_0 (by decide) ?_
  refine v_istore_n (lv' := [(0, .ref mo), (1, .int 11), (2, .int 7), (3, .int 0)]) O dX10_takesWord_1 (by decide) rfl ?_
  refine v_iload_n O dX10_takesWord_2 3 rfl ?_
  refine v_iload_n O dX10_takesWord_3 2 rfl ?_
  refine v_icmp_ge O 30 dX10_takesWord_4 (by decide) (fun c => absurd c (by decide)) (fun _ => ?_)
  refine v_aload_n O dX10_takesWord_7 0 rfl ?_
  refine v_aload_n O dX10_takesWord_8 0 rfl ?_
  refine gf_X10_80 (v := .ref (ma 23)) O rfl dX10_takesWord_9 0 rfl rfl ?_
  refine v_iload_n O dX10_takesWord_12 1 rfl ?_
  refine v_iload_n O dX10_takesWord_13 3 rfl ?_
  refine v_iadd O dX10_takesWord_14 ?_
  refine v_top (y := nI 11) rfl ?_
  refine v_ialdk O dX10_takesWord_15 2 rfl 11 rfl (by omega) (by decide) ?_
  refine v_top (y := 109) (rfl) ?_
  by_cases y0 : sgT tb ln p = 109
  · skip
    have x0 := sgT_lt y0 (by decide)
    refine v_cV (T := TX10) (ci := 10) (As := [.int 109]) (wr := [((ma 23), eI D 18 ltF)]) (st := []) O cf_X10_192 rfl (sp_X10_takes_t (mo := mo) (ma := ma) (c := c) (c2 := c2) (tk := tk) (vc := vc) (ln := ln) (rn := rn) (zs_11 := zs_11) (zs_20 := zs_20) (zs_21 := zs_21) (zs_22 := zs_22) (zs_25 := zs_25) (zs_26 := zs_26) (zs_27 := zs_27) (zs_29 := zs_29) (tb := tb) (p := p) (x := 109) (hln) (by omega) (y0)) dX10_takesWord_16 rfl rfl 0 rfl [0, 1] [2] (by decide) rfl rfl (by decide) (by decide) (by decide) (Nat.le_of_ble_eq_true rfl) (by decide) (by decide) (fun r_3 w_4 h_2 => ?_)
    obtain ⟨rfl, rfl⟩ := h_2
    refine v_eq (st' := [.int 1]) (ws' := [((ma 23), eI D 18 ltF), (mo, .inr (10, M1R ma (mZ c c2 tk vc ln rn (nI (p + 1)) zs_11 zs_20 zs_21 zs_22 zs_25 zs_26 zs_27 zs_29))), ((ma 12), eI D 100 tb)]) rfl rfl rfl rfl ?_
    refine v_if_ne O 24 dX10_takesWord_19 (by decide) (fun _ => ?_) (fun c => absurd c (by decide))
    refine v_iinc (v := 1) (lv' := [(0, .ref mo), (1, .int 11), (2, .int 7), (3, .int 1)]) O dX10_takesWord_24 3 rfl (by decide) (by decide) rfl ?_
    refine v_goto O 2 dX10_takesWord_27 (by decide) ?_
    refine v_iload_n O dX10_takesWord_2 3 rfl ?_
    refine v_iload_n O dX10_takesWord_3 2 rfl ?_
    refine v_icmp_ge O 30 dX10_takesWord_4 (by decide) (fun c => absurd c (by decide)) (fun _ => ?_)
    refine v_aload_n O dX10_takesWord_7 0 rfl ?_
    refine v_aload_n O dX10_takesWord_8 0 rfl ?_
    refine gf_X10_80 (v := .ref (ma 23)) O rfl dX10_takesWord_9 1 rfl rfl ?_
    refine v_iload_n O dX10_takesWord_12 1 rfl ?_
    refine v_iload_n O dX10_takesWord_13 3 rfl ?_
    refine v_iadd O dX10_takesWord_14 ?_
    refine v_top (y := nI 12) rfl ?_
    refine v_ialdk O dX10_takesWord_15 0 rfl 12 rfl (by omega) (by decide) ?_
    refine v_top (y := 111) (rfl) ?_
    by_cases y1 : sgT tb ln (p + 1) = 111
    · skip
      have x1 := sgT_lt y1 (by decide)
      refine v_cV (T := TX10) (ci := 10) (As := [.int 111]) (wr := [((ma 23), eI D 18 ltF)]) (st := []) O cf_X10_192 rfl (sp_X10_takes_t (mo := mo) (ma := ma) (c := c) (c2 := c2) (tk := tk) (vc := vc) (ln := ln) (rn := rn) (zs_11 := zs_11) (zs_20 := zs_20) (zs_21 := zs_21) (zs_22 := zs_22) (zs_25 := zs_25) (zs_26 := zs_26) (zs_27 := zs_27) (zs_29 := zs_29) (tb := tb) (p := (p + 1)) (x := 111) (hln) (by omega) (y1)) dX10_takesWord_16 rfl rfl 1 rfl [1, 2] [0] (by decide) rfl rfl (by decide) (by decide) (by decide) (Nat.le_of_ble_eq_true rfl) (by decide) (by decide) (fun r_8 w_9 h_7 => ?_)
      obtain ⟨rfl, rfl⟩ := h_7
      refine v_eq (st' := [.int 1]) (ws' := [((ma 23), eI D 18 ltF), (mo, .inr (10, M1R ma (mZ c c2 tk vc ln rn (nI ((p + 1) + 1)) zs_11 zs_20 zs_21 zs_22 zs_25 zs_26 zs_27 zs_29))), ((ma 12), eI D 100 tb)]) rfl rfl rfl rfl ?_
      refine v_if_ne O 24 dX10_takesWord_19 (by decide) (fun _ => ?_) (fun c => absurd c (by decide))
      refine v_iinc (v := 2) (lv' := [(0, .ref mo), (1, .int 11), (2, .int 7), (3, .int 2)]) O dX10_takesWord_24 3 rfl (by decide) (by decide) rfl ?_
      refine v_goto O 2 dX10_takesWord_27 (by decide) ?_
      refine v_iload_n O dX10_takesWord_2 3 rfl ?_
      refine v_iload_n O dX10_takesWord_3 2 rfl ?_
      refine v_icmp_ge O 30 dX10_takesWord_4 (by decide) (fun c => absurd c (by decide)) (fun _ => ?_)
      refine v_aload_n O dX10_takesWord_7 0 rfl ?_
      refine v_aload_n O dX10_takesWord_8 0 rfl ?_
      refine gf_X10_80 (v := .ref (ma 23)) O rfl dX10_takesWord_9 1 rfl rfl ?_
      refine v_iload_n O dX10_takesWord_12 1 rfl ?_
      refine v_iload_n O dX10_takesWord_13 3 rfl ?_
      refine v_iadd O dX10_takesWord_14 ?_
      refine v_top (y := nI 13) rfl ?_
      refine v_ialdk O dX10_takesWord_15 0 rfl 13 rfl (by omega) (by decide) ?_
      refine v_top (y := 114) (rfl) ?_
      by_cases y2 : sgT tb ln ((p + 1) + 1) = 114
      · skip
        have x2 := sgT_lt y2 (by decide)
        refine v_cV (T := TX10) (ci := 10) (As := [.int 114]) (wr := [((ma 23), eI D 18 ltF)]) (st := []) O cf_X10_192 rfl (sp_X10_takes_t (mo := mo) (ma := ma) (c := c) (c2 := c2) (tk := tk) (vc := vc) (ln := ln) (rn := rn) (zs_11 := zs_11) (zs_20 := zs_20) (zs_21 := zs_21) (zs_22 := zs_22) (zs_25 := zs_25) (zs_26 := zs_26) (zs_27 := zs_27) (zs_29 := zs_29) (tb := tb) (p := ((p + 1) + 1)) (x := 114) (hln) (by omega) (y2)) dX10_takesWord_16 rfl rfl 1 rfl [1, 2] [0] (by decide) rfl rfl (by decide) (by decide) (by decide) (Nat.le_of_ble_eq_true rfl) (by decide) (by decide) (fun r_13 w_14 h_12 => ?_)
        obtain ⟨rfl, rfl⟩ := h_12
        refine v_eq (st' := [.int 1]) (ws' := [((ma 23), eI D 18 ltF), (mo, .inr (10, M1R ma (mZ c c2 tk vc ln rn (nI (((p + 1) + 1) + 1)) zs_11 zs_20 zs_21 zs_22 zs_25 zs_26 zs_27 zs_29))), ((ma 12), eI D 100 tb)]) rfl rfl rfl rfl ?_
        refine v_if_ne O 24 dX10_takesWord_19 (by decide) (fun _ => ?_) (fun c => absurd c (by decide))
        refine v_iinc (v := 3) (lv' := [(0, .ref mo), (1, .int 11), (2, .int 7), (3, .int 3)]) O dX10_takesWord_24 3 rfl (by decide) (by decide) rfl ?_
        refine v_goto O 2 dX10_takesWord_27 (by decide) ?_
        refine v_iload_n O dX10_takesWord_2 3 rfl ?_
        refine v_iload_n O dX10_takesWord_3 2 rfl ?_
        refine v_icmp_ge O 30 dX10_takesWord_4 (by decide) (fun c => absurd c (by decide)) (fun _ => ?_)
        refine v_aload_n O dX10_takesWord_7 0 rfl ?_
        refine v_aload_n O dX10_takesWord_8 0 rfl ?_
        refine gf_X10_80 (v := .ref (ma 23)) O rfl dX10_takesWord_9 1 rfl rfl ?_
        refine v_iload_n O dX10_takesWord_12 1 rfl ?_
        refine v_iload_n O dX10_takesWord_13 3 rfl ?_
        refine v_iadd O dX10_takesWord_14 ?_
        refine v_top (y := nI 14) rfl ?_
        refine v_ialdk O dX10_takesWord_15 0 rfl 14 rfl (by omega) (by decide) ?_
        refine v_top (y := 110) (rfl) ?_
        by_cases y3 : sgT tb ln (((p + 1) + 1) + 1) = 110
        · skip
          have x3 := sgT_lt y3 (by decide)
          refine v_cV (T := TX10) (ci := 10) (As := [.int 110]) (wr := [((ma 23), eI D 18 ltF)]) (st := []) O cf_X10_192 rfl (sp_X10_takes_t (mo := mo) (ma := ma) (c := c) (c2 := c2) (tk := tk) (vc := vc) (ln := ln) (rn := rn) (zs_11 := zs_11) (zs_20 := zs_20) (zs_21 := zs_21) (zs_22 := zs_22) (zs_25 := zs_25) (zs_26 := zs_26) (zs_27 := zs_27) (zs_29 := zs_29) (tb := tb) (p := (((p + 1) + 1) + 1)) (x := 110) (hln) (by omega) (y3)) dX10_takesWord_16 rfl rfl 1 rfl [1, 2] [0] (by decide) rfl rfl (by decide) (by decide) (by decide) (Nat.le_of_ble_eq_true rfl) (by decide) (by decide) (fun r_18 w_19 h_17 => ?_)
          obtain ⟨rfl, rfl⟩ := h_17
          refine v_eq (st' := [.int 1]) (ws' := [((ma 23), eI D 18 ltF), (mo, .inr (10, M1R ma (mZ c c2 tk vc ln rn (nI ((((p + 1) + 1) + 1) + 1)) zs_11 zs_20 zs_21 zs_22 zs_25 zs_26 zs_27 zs_29))), ((ma 12), eI D 100 tb)]) rfl rfl rfl rfl ?_
          refine v_if_ne O 24 dX10_takesWord_19 (by decide) (fun _ => ?_) (fun c => absurd c (by decide))
          refine v_iinc (v := 4) (lv' := [(0, .ref mo), (1, .int 11), (2, .int 7), (3, .int 4)]) O dX10_takesWord_24 3 rfl (by decide) (by decide) rfl ?_
          refine v_goto O 2 dX10_takesWord_27 (by decide) ?_
          refine v_iload_n O dX10_takesWord_2 3 rfl ?_
          refine v_iload_n O dX10_takesWord_3 2 rfl ?_
          refine v_icmp_ge O 30 dX10_takesWord_4 (by decide) (fun c => absurd c (by decide)) (fun _ => ?_)
          refine v_aload_n O dX10_takesWord_7 0 rfl ?_
          refine v_aload_n O dX10_takesWord_8 0 rfl ?_
          refine gf_X10_80 (v := .ref (ma 23)) O rfl dX10_takesWord_9 1 rfl rfl ?_
          refine v_iload_n O dX10_takesWord_12 1 rfl ?_
          refine v_iload_n O dX10_takesWord_13 3 rfl ?_
          refine v_iadd O dX10_takesWord_14 ?_
          refine v_top (y := nI 15) rfl ?_
          refine v_ialdk O dX10_takesWord_15 0 rfl 15 rfl (by omega) (by decide) ?_
          refine v_top (y := 105) (rfl) ?_
          by_cases y4 : sgT tb ln ((((p + 1) + 1) + 1) + 1) = 105
          · skip
            have x4 := sgT_lt y4 (by decide)
            refine v_cV (T := TX10) (ci := 10) (As := [.int 105]) (wr := [((ma 23), eI D 18 ltF)]) (st := []) O cf_X10_192 rfl (sp_X10_takes_t (mo := mo) (ma := ma) (c := c) (c2 := c2) (tk := tk) (vc := vc) (ln := ln) (rn := rn) (zs_11 := zs_11) (zs_20 := zs_20) (zs_21 := zs_21) (zs_22 := zs_22) (zs_25 := zs_25) (zs_26 := zs_26) (zs_27 := zs_27) (zs_29 := zs_29) (tb := tb) (p := ((((p + 1) + 1) + 1) + 1)) (x := 105) (hln) (by omega) (y4)) dX10_takesWord_16 rfl rfl 1 rfl [1, 2] [0] (by decide) rfl rfl (by decide) (by decide) (by decide) (Nat.le_of_ble_eq_true rfl) (by decide) (by decide) (fun r_23 w_24 h_22 => ?_)
            obtain ⟨rfl, rfl⟩ := h_22
            refine v_eq (st' := [.int 1]) (ws' := [((ma 23), eI D 18 ltF), (mo, .inr (10, M1R ma (mZ c c2 tk vc ln rn (nI (((((p + 1) + 1) + 1) + 1) + 1)) zs_11 zs_20 zs_21 zs_22 zs_25 zs_26 zs_27 zs_29))), ((ma 12), eI D 100 tb)]) rfl rfl rfl rfl ?_
            refine v_if_ne O 24 dX10_takesWord_19 (by decide) (fun _ => ?_) (fun c => absurd c (by decide))
            refine v_iinc (v := 5) (lv' := [(0, .ref mo), (1, .int 11), (2, .int 7), (3, .int 5)]) O dX10_takesWord_24 3 rfl (by decide) (by decide) rfl ?_
            refine v_goto O 2 dX10_takesWord_27 (by decide) ?_
            refine v_iload_n O dX10_takesWord_2 3 rfl ?_
            refine v_iload_n O dX10_takesWord_3 2 rfl ?_
            refine v_icmp_ge O 30 dX10_takesWord_4 (by decide) (fun c => absurd c (by decide)) (fun _ => ?_)
            refine v_aload_n O dX10_takesWord_7 0 rfl ?_
            refine v_aload_n O dX10_takesWord_8 0 rfl ?_
            refine gf_X10_80 (v := .ref (ma 23)) O rfl dX10_takesWord_9 1 rfl rfl ?_
            refine v_iload_n O dX10_takesWord_12 1 rfl ?_
            refine v_iload_n O dX10_takesWord_13 3 rfl ?_
            refine v_iadd O dX10_takesWord_14 ?_
            refine v_top (y := nI 16) rfl ?_
            refine v_ialdk O dX10_takesWord_15 0 rfl 16 rfl (by omega) (by decide) ?_
            refine v_top (y := 110) (rfl) ?_
            by_cases y5 : sgT tb ln (((((p + 1) + 1) + 1) + 1) + 1) = 110
            · skip
              have x5 := sgT_lt y5 (by decide)
              refine v_cV (T := TX10) (ci := 10) (As := [.int 110]) (wr := [((ma 23), eI D 18 ltF)]) (st := []) O cf_X10_192 rfl (sp_X10_takes_t (mo := mo) (ma := ma) (c := c) (c2 := c2) (tk := tk) (vc := vc) (ln := ln) (rn := rn) (zs_11 := zs_11) (zs_20 := zs_20) (zs_21 := zs_21) (zs_22 := zs_22) (zs_25 := zs_25) (zs_26 := zs_26) (zs_27 := zs_27) (zs_29 := zs_29) (tb := tb) (p := (((((p + 1) + 1) + 1) + 1) + 1)) (x := 110) (hln) (by omega) (y5)) dX10_takesWord_16 rfl rfl 1 rfl [1, 2] [0] (by decide) rfl rfl (by decide) (by decide) (by decide) (Nat.le_of_ble_eq_true rfl) (by decide) (by decide) (fun r_28 w_29 h_27 => ?_)
              obtain ⟨rfl, rfl⟩ := h_27
              refine v_eq (st' := [.int 1]) (ws' := [((ma 23), eI D 18 ltF), (mo, .inr (10, M1R ma (mZ c c2 tk vc ln rn (nI ((((((p + 1) + 1) + 1) + 1) + 1) + 1)) zs_11 zs_20 zs_21 zs_22 zs_25 zs_26 zs_27 zs_29))), ((ma 12), eI D 100 tb)]) rfl rfl rfl rfl ?_
              refine v_if_ne O 24 dX10_takesWord_19 (by decide) (fun _ => ?_) (fun c => absurd c (by decide))
              refine v_iinc (v := 6) (lv' := [(0, .ref mo), (1, .int 11), (2, .int 7), (3, .int 6)]) O dX10_takesWord_24 3 rfl (by decide) (by decide) rfl ?_
              refine v_goto O 2 dX10_takesWord_27 (by decide) ?_
              refine v_iload_n O dX10_takesWord_2 3 rfl ?_
              refine v_iload_n O dX10_takesWord_3 2 rfl ?_
              refine v_icmp_ge O 30 dX10_takesWord_4 (by decide) (fun c => absurd c (by decide)) (fun _ => ?_)
              refine v_aload_n O dX10_takesWord_7 0 rfl ?_
              refine v_aload_n O dX10_takesWord_8 0 rfl ?_
              refine gf_X10_80 (v := .ref (ma 23)) O rfl dX10_takesWord_9 1 rfl rfl ?_
              refine v_iload_n O dX10_takesWord_12 1 rfl ?_
              refine v_iload_n O dX10_takesWord_13 3 rfl ?_
              refine v_iadd O dX10_takesWord_14 ?_
              refine v_top (y := nI 17) rfl ?_
              refine v_ialdk O dX10_takesWord_15 0 rfl 17 rfl (by omega) (by decide) ?_
              refine v_top (y := 103) (rfl) ?_
              by_cases y6 : sgT tb ln ((((((p + 1) + 1) + 1) + 1) + 1) + 1) = 103
              · skip
                have x6 := sgT_lt y6 (by decide)
                refine v_cV (T := TX10) (ci := 10) (As := [.int 103]) (wr := [((ma 23), eI D 18 ltF)]) (st := []) O cf_X10_192 rfl (sp_X10_takes_t (mo := mo) (ma := ma) (c := c) (c2 := c2) (tk := tk) (vc := vc) (ln := ln) (rn := rn) (zs_11 := zs_11) (zs_20 := zs_20) (zs_21 := zs_21) (zs_22 := zs_22) (zs_25 := zs_25) (zs_26 := zs_26) (zs_27 := zs_27) (zs_29 := zs_29) (tb := tb) (p := ((((((p + 1) + 1) + 1) + 1) + 1) + 1)) (x := 103) (hln) (by omega) (y6)) dX10_takesWord_16 rfl rfl 1 rfl [1, 2] [0] (by decide) rfl rfl (by decide) (by decide) (by decide) (Nat.le_of_ble_eq_true rfl) (by decide) (by decide) (fun r_33 w_34 h_32 => ?_)
                obtain ⟨rfl, rfl⟩ := h_32
                refine v_eq (st' := [.int 1]) (ws' := [((ma 23), eI D 18 ltF), (mo, .inr (10, M1R ma (mZ c c2 tk vc ln rn (nI (((((((p + 1) + 1) + 1) + 1) + 1) + 1) + 1)) zs_11 zs_20 zs_21 zs_22 zs_25 zs_26 zs_27 zs_29))), ((ma 12), eI D 100 tb)]) rfl rfl rfl rfl ?_
                refine v_if_ne O 24 dX10_takesWord_19 (by decide) (fun _ => ?_) (fun c => absurd c (by decide))
                refine v_iinc (v := 7) (lv' := [(0, .ref mo), (1, .int 11), (2, .int 7), (3, .int 7)]) O dX10_takesWord_24 3 rfl (by decide) (by decide) rfl ?_
                refine v_goto O 2 dX10_takesWord_27 (by decide) ?_
                refine v_iload_n O dX10_takesWord_2 3 rfl ?_
                refine v_iload_n O dX10_takesWord_3 2 rfl ?_
                refine v_icmp_ge O 30 dX10_takesWord_4 (by decide) (fun _ => ?_) (fun c => absurd c (by decide))
                refine v_aload_n O dX10_takesWord_30 0 rfl ?_
                refine v_bipush (v := 32) O dX10_takesWord_31 (by decide) ?_
                by_cases y7 : sgT tb ln (((((((p + 1) + 1) + 1) + 1) + 1) + 1) + 1) = 32
                · skip
                  have x7 := sgT_lt y7 (by decide)
                  refine v_cV (T := TX10) (ci := 10) (As := [.int 32]) (wr := [((ma 23), eI D 18 ltF)]) (st := []) O cf_X10_192 rfl (sp_X10_takes_t (mo := mo) (ma := ma) (c := c) (c2 := c2) (tk := tk) (vc := vc) (ln := ln) (rn := rn) (zs_11 := zs_11) (zs_20 := zs_20) (zs_21 := zs_21) (zs_22 := zs_22) (zs_25 := zs_25) (zs_26 := zs_26) (zs_27 := zs_27) (zs_29 := zs_29) (tb := tb) (p := (((((((p + 1) + 1) + 1) + 1) + 1) + 1) + 1)) (x := 32) (hln) (by omega) (y7)) dX10_takesWord_33 rfl rfl 1 rfl [1, 2] [0] (by decide) rfl rfl (by decide) (by decide) (by decide) (Nat.le_of_ble_eq_true rfl) (by decide) (by decide) (fun r_38 w_39 h_37 => ?_)
                  obtain ⟨rfl, rfl⟩ := h_37
                  refine v_eq (st' := [.int 1]) (ws' := [((ma 23), eI D 18 ltF), (mo, .inr (10, M1R ma (mZ c c2 tk vc ln rn (nI ((((((((p + 1) + 1) + 1) + 1) + 1) + 1) + 1) + 1)) zs_11 zs_20 zs_21 zs_22 zs_25 zs_26 zs_27 zs_29))), ((ma 12), eI D 100 tb)]) rfl rfl rfl rfl ?_
                  refine v_sub (ws' := [(mo, .inr (10, M1R ma (mZ c c2 tk vc ln rn (nI ((((((((p + 1) + 1) + 1) + 1) + 1) + 1) + 1) + 1)) zs_11 zs_20 zs_21 zs_22 zs_25 zs_26 zs_27 zs_29))), ((ma 12), eI D 100 tb), ((ma 23), eI D 18 ltF)]) [1, 2, 0] (by decide) rfl ?_
                  exact v_ireturn O T rfl rfl (by decide) (by decide) dX10_takesWord_36 (⟨by rw [b2i_t (by simp only [spl, if_pos y0, if_pos y1, if_pos y2, if_pos y3, if_pos y4, if_pos y5, if_pos y6, if_pos y7])], by simp only [spl, if_pos y0, if_pos y1, if_pos y2, if_pos y3, if_pos y4, if_pos y5, if_pos y6, if_pos y7]⟩)
                · skip
                  refine v_cV (T := TX10) (ci := 10) (As := [.int 32]) (wr := [((ma 23), eI D 18 ltF)]) (st := []) O cf_X10_192 rfl (sp_X10_takes_f (mo := mo) (ma := ma) (c := c) (c2 := c2) (tk := tk) (vc := vc) (ln := ln) (rn := rn) (zs_11 := zs_11) (zs_20 := zs_20) (zs_21 := zs_21) (zs_22 := zs_22) (zs_25 := zs_25) (zs_26 := zs_26) (zs_27 := zs_27) (zs_29 := zs_29) (tb := tb) (p := (((((((p + 1) + 1) + 1) + 1) + 1) + 1) + 1)) (x := 32) (hln) (by omega) (y7)) dX10_takesWord_33 rfl rfl 1 rfl [1, 2] [0] (by decide) rfl rfl (by decide) (by decide) (by decide) (Nat.le_of_ble_eq_true rfl) (by decide) (by decide) (fun r_41 w_42 h_40 => ?_)
                  obtain ⟨rfl, rfl⟩ := h_40
                  refine v_eq (st' := [.int 0]) (ws' := [((ma 23), eI D 18 ltF), (mo, .inr (10, M1R ma (mZ c c2 tk vc ln rn (nI (((((((p + 1) + 1) + 1) + 1) + 1) + 1) + 1)) zs_11 zs_20 zs_21 zs_22 zs_25 zs_26 zs_27 zs_29))), ((ma 12), eI D 100 tb)]) rfl rfl rfl rfl ?_
                  refine v_sub (ws' := [(mo, .inr (10, M1R ma (mZ c c2 tk vc ln rn (nI (((((((p + 1) + 1) + 1) + 1) + 1) + 1) + 1)) zs_11 zs_20 zs_21 zs_22 zs_25 zs_26 zs_27 zs_29))), ((ma 12), eI D 100 tb), ((ma 23), eI D 18 ltF)]) [1, 2, 0] (by decide) rfl ?_
                  exact v_ireturn O T rfl rfl (by decide) (by decide) dX10_takesWord_36 (⟨by rw [b2i_f (by simp only [spl, if_pos y0, if_pos y1, if_pos y2, if_pos y3, if_pos y4, if_pos y5, if_pos y6, if_neg y7]; decide)], by simp only [spl, if_pos y0, if_pos y1, if_pos y2, if_pos y3, if_pos y4, if_pos y5, if_pos y6, if_neg y7]⟩)
              · skip
                refine v_cV (T := TX10) (ci := 10) (As := [.int 103]) (wr := [((ma 23), eI D 18 ltF)]) (st := []) O cf_X10_192 rfl (sp_X10_takes_f (mo := mo) (ma := ma) (c := c) (c2 := c2) (tk := tk) (vc := vc) (ln := ln) (rn := rn) (zs_11 := zs_11) (zs_20 := zs_20) (zs_21 := zs_21) (zs_22 := zs_22) (zs_25 := zs_25) (zs_26 := zs_26) (zs_27 := zs_27) (zs_29 := zs_29) (tb := tb) (p := ((((((p + 1) + 1) + 1) + 1) + 1) + 1)) (x := 103) (hln) (by omega) (y6)) dX10_takesWord_16 rfl rfl 1 rfl [1, 2] [0] (by decide) rfl rfl (by decide) (by decide) (by decide) (Nat.le_of_ble_eq_true rfl) (by decide) (by decide) (fun r_44 w_45 h_43 => ?_)
                obtain ⟨rfl, rfl⟩ := h_43
                refine v_eq (st' := [.int 0]) (ws' := [((ma 23), eI D 18 ltF), (mo, .inr (10, M1R ma (mZ c c2 tk vc ln rn (nI ((((((p + 1) + 1) + 1) + 1) + 1) + 1)) zs_11 zs_20 zs_21 zs_22 zs_25 zs_26 zs_27 zs_29))), ((ma 12), eI D 100 tb)]) rfl rfl rfl rfl ?_
                refine v_if_ne O 24 dX10_takesWord_19 (by decide) (fun c => absurd c (by decide)) (fun _ => ?_)
                refine v_iconst (v := 0) O dX10_takesWord_22 (by decide) ?_
                refine v_sub (ws' := [(mo, .inr (10, M1R ma (mZ c c2 tk vc ln rn (nI ((((((p + 1) + 1) + 1) + 1) + 1) + 1)) zs_11 zs_20 zs_21 zs_22 zs_25 zs_26 zs_27 zs_29))), ((ma 12), eI D 100 tb), ((ma 23), eI D 18 ltF)]) [1, 2, 0] (by decide) rfl ?_
                exact v_ireturn O T rfl rfl (by decide) (by decide) dX10_takesWord_23 (⟨by rw [b2i_f (by simp only [spl, if_pos y0, if_pos y1, if_pos y2, if_pos y3, if_pos y4, if_pos y5, if_neg y6]; decide)], by simp only [spl, if_pos y0, if_pos y1, if_pos y2, if_pos y3, if_pos y4, if_pos y5, if_neg y6]⟩)
            · skip
              refine v_cV (T := TX10) (ci := 10) (As := [.int 110]) (wr := [((ma 23), eI D 18 ltF)]) (st := []) O cf_X10_192 rfl (sp_X10_takes_f (mo := mo) (ma := ma) (c := c) (c2 := c2) (tk := tk) (vc := vc) (ln := ln) (rn := rn) (zs_11 := zs_11) (zs_20 := zs_20) (zs_21 := zs_21) (zs_22 := zs_22) (zs_25 := zs_25) (zs_26 := zs_26) (zs_27 := zs_27) (zs_29 := zs_29) (tb := tb) (p := (((((p + 1) + 1) + 1) + 1) + 1)) (x := 110) (hln) (by omega) (y5)) dX10_takesWord_16 rfl rfl 1 rfl [1, 2] [0] (by decide) rfl rfl (by decide) (by decide) (by decide) (Nat.le_of_ble_eq_true rfl) (by decide) (by decide) (fun r_48 w_49 h_47 => ?_)
              obtain ⟨rfl, rfl⟩ := h_47
              refine v_eq (st' := [.int 0]) (ws' := [((ma 23), eI D 18 ltF), (mo, .inr (10, M1R ma (mZ c c2 tk vc ln rn (nI (((((p + 1) + 1) + 1) + 1) + 1)) zs_11 zs_20 zs_21 zs_22 zs_25 zs_26 zs_27 zs_29))), ((ma 12), eI D 100 tb)]) rfl rfl rfl rfl ?_
              refine v_if_ne O 24 dX10_takesWord_19 (by decide) (fun c => absurd c (by decide)) (fun _ => ?_)
              refine v_iconst (v := 0) O dX10_takesWord_22 (by decide) ?_
              refine v_sub (ws' := [(mo, .inr (10, M1R ma (mZ c c2 tk vc ln rn (nI (((((p + 1) + 1) + 1) + 1) + 1)) zs_11 zs_20 zs_21 zs_22 zs_25 zs_26 zs_27 zs_29))), ((ma 12), eI D 100 tb), ((ma 23), eI D 18 ltF)]) [1, 2, 0] (by decide) rfl ?_
              exact v_ireturn O T rfl rfl (by decide) (by decide) dX10_takesWord_23 (⟨by rw [b2i_f (by simp only [spl, if_pos y0, if_pos y1, if_pos y2, if_pos y3, if_pos y4, if_neg y5]; decide)], by simp only [spl, if_pos y0, if_pos y1, if_pos y2, if_pos y3, if_pos y4, if_neg y5]⟩)
          · skip
            refine v_cV (T := TX10) (ci := 10) (As := [.int 105]) (wr := [((ma 23), eI D 18 ltF)]) (st := []) O cf_X10_192 rfl (sp_X10_takes_f (mo := mo) (ma := ma) (c := c) (c2 := c2) (tk := tk) (vc := vc) (ln := ln) (rn := rn) (zs_11 := zs_11) (zs_20 := zs_20) (zs_21 := zs_21) (zs_22 := zs_22) (zs_25 := zs_25) (zs_26 := zs_26) (zs_27 := zs_27) (zs_29 := zs_29) (tb := tb) (p := ((((p + 1) + 1) + 1) + 1)) (x := 105) (hln) (by omega) (y4)) dX10_takesWord_16 rfl rfl 1 rfl [1, 2] [0] (by decide) rfl rfl (by decide) (by decide) (by decide) (Nat.le_of_ble_eq_true rfl) (by decide) (by decide) (fun r_52 w_53 h_51 => ?_)
            obtain ⟨rfl, rfl⟩ := h_51
            refine v_eq (st' := [.int 0]) (ws' := [((ma 23), eI D 18 ltF), (mo, .inr (10, M1R ma (mZ c c2 tk vc ln rn (nI ((((p + 1) + 1) + 1) + 1)) zs_11 zs_20 zs_21 zs_22 zs_25 zs_26 zs_27 zs_29))), ((ma 12), eI D 100 tb)]) rfl rfl rfl rfl ?_
            refine v_if_ne O 24 dX10_takesWord_19 (by decide) (fun c => absurd c (by decide)) (fun _ => ?_)
            refine v_iconst (v := 0) O dX10_takesWord_22 (by decide) ?_
            refine v_sub (ws' := [(mo, .inr (10, M1R ma (mZ c c2 tk vc ln rn (nI ((((p + 1) + 1) + 1) + 1)) zs_11 zs_20 zs_21 zs_22 zs_25 zs_26 zs_27 zs_29))), ((ma 12), eI D 100 tb), ((ma 23), eI D 18 ltF)]) [1, 2, 0] (by decide) rfl ?_
            exact v_ireturn O T rfl rfl (by decide) (by decide) dX10_takesWord_23 (⟨by rw [b2i_f (by simp only [spl, if_pos y0, if_pos y1, if_pos y2, if_pos y3, if_neg y4]; decide)], by simp only [spl, if_pos y0, if_pos y1, if_pos y2, if_pos y3, if_neg y4]⟩)
        · skip
          refine v_cV (T := TX10) (ci := 10) (As := [.int 110]) (wr := [((ma 23), eI D 18 ltF)]) (st := []) O cf_X10_192 rfl (sp_X10_takes_f (mo := mo) (ma := ma) (c := c) (c2 := c2) (tk := tk) (vc := vc) (ln := ln) (rn := rn) (zs_11 := zs_11) (zs_20 := zs_20) (zs_21 := zs_21) (zs_22 := zs_22) (zs_25 := zs_25) (zs_26 := zs_26) (zs_27 := zs_27) (zs_29 := zs_29) (tb := tb) (p := (((p + 1) + 1) + 1)) (x := 110) (hln) (by omega) (y3)) dX10_takesWord_16 rfl rfl 1 rfl [1, 2] [0] (by decide) rfl rfl (by decide) (by decide) (by decide) (Nat.le_of_ble_eq_true rfl) (by decide) (by decide) (fun r_56 w_57 h_55 => ?_)
          obtain ⟨rfl, rfl⟩ := h_55
          refine v_eq (st' := [.int 0]) (ws' := [((ma 23), eI D 18 ltF), (mo, .inr (10, M1R ma (mZ c c2 tk vc ln rn (nI (((p + 1) + 1) + 1)) zs_11 zs_20 zs_21 zs_22 zs_25 zs_26 zs_27 zs_29))), ((ma 12), eI D 100 tb)]) rfl rfl rfl rfl ?_
          refine v_if_ne O 24 dX10_takesWord_19 (by decide) (fun c => absurd c (by decide)) (fun _ => ?_)
          refine v_iconst (v := 0) O dX10_takesWord_22 (by decide) ?_
          refine v_sub (ws' := [(mo, .inr (10, M1R ma (mZ c c2 tk vc ln rn (nI (((p + 1) + 1) + 1)) zs_11 zs_20 zs_21 zs_22 zs_25 zs_26 zs_27 zs_29))), ((ma 12), eI D 100 tb), ((ma 23), eI D 18 ltF)]) [1, 2, 0] (by decide) rfl ?_
          exact v_ireturn O T rfl rfl (by decide) (by decide) dX10_takesWord_23 (⟨by rw [b2i_f (by simp only [spl, if_pos y0, if_pos y1, if_pos y2, if_neg y3]; decide)], by simp only [spl, if_pos y0, if_pos y1, if_pos y2, if_neg y3]⟩)
      · skip
        refine v_cV (T := TX10) (ci := 10) (As := [.int 114]) (wr := [((ma 23), eI D 18 ltF)]) (st := []) O cf_X10_192 rfl (sp_X10_takes_f (mo := mo) (ma := ma) (c := c) (c2 := c2) (tk := tk) (vc := vc) (ln := ln) (rn := rn) (zs_11 := zs_11) (zs_20 := zs_20) (zs_21 := zs_21) (zs_22 := zs_22) (zs_25 := zs_25) (zs_26 := zs_26) (zs_27 := zs_27) (zs_29 := zs_29) (tb := tb) (p := ((p + 1) + 1)) (x := 114) (hln) (by omega) (y2)) dX10_takesWord_16 rfl rfl 1 rfl [1, 2] [0] (by decide) rfl rfl (by decide) (by decide) (by decide) (Nat.le_of_ble_eq_true rfl) (by decide) (by decide) (fun r_60 w_61 h_59 => ?_)
        obtain ⟨rfl, rfl⟩ := h_59
        refine v_eq (st' := [.int 0]) (ws' := [((ma 23), eI D 18 ltF), (mo, .inr (10, M1R ma (mZ c c2 tk vc ln rn (nI ((p + 1) + 1)) zs_11 zs_20 zs_21 zs_22 zs_25 zs_26 zs_27 zs_29))), ((ma 12), eI D 100 tb)]) rfl rfl rfl rfl ?_
        refine v_if_ne O 24 dX10_takesWord_19 (by decide) (fun c => absurd c (by decide)) (fun _ => ?_)
        refine v_iconst (v := 0) O dX10_takesWord_22 (by decide) ?_
        refine v_sub (ws' := [(mo, .inr (10, M1R ma (mZ c c2 tk vc ln rn (nI ((p + 1) + 1)) zs_11 zs_20 zs_21 zs_22 zs_25 zs_26 zs_27 zs_29))), ((ma 12), eI D 100 tb), ((ma 23), eI D 18 ltF)]) [1, 2, 0] (by decide) rfl ?_
        exact v_ireturn O T rfl rfl (by decide) (by decide) dX10_takesWord_23 (⟨by rw [b2i_f (by simp only [spl, if_pos y0, if_pos y1, if_neg y2]; decide)], by simp only [spl, if_pos y0, if_pos y1, if_neg y2]⟩)
    · skip
      refine v_cV (T := TX10) (ci := 10) (As := [.int 111]) (wr := [((ma 23), eI D 18 ltF)]) (st := []) O cf_X10_192 rfl (sp_X10_takes_f (mo := mo) (ma := ma) (c := c) (c2 := c2) (tk := tk) (vc := vc) (ln := ln) (rn := rn) (zs_11 := zs_11) (zs_20 := zs_20) (zs_21 := zs_21) (zs_22 := zs_22) (zs_25 := zs_25) (zs_26 := zs_26) (zs_27 := zs_27) (zs_29 := zs_29) (tb := tb) (p := (p + 1)) (x := 111) (hln) (by omega) (y1)) dX10_takesWord_16 rfl rfl 1 rfl [1, 2] [0] (by decide) rfl rfl (by decide) (by decide) (by decide) (Nat.le_of_ble_eq_true rfl) (by decide) (by decide) (fun r_64 w_65 h_63 => ?_)
      obtain ⟨rfl, rfl⟩ := h_63
      refine v_eq (st' := [.int 0]) (ws' := [((ma 23), eI D 18 ltF), (mo, .inr (10, M1R ma (mZ c c2 tk vc ln rn (nI (p + 1)) zs_11 zs_20 zs_21 zs_22 zs_25 zs_26 zs_27 zs_29))), ((ma 12), eI D 100 tb)]) rfl rfl rfl rfl ?_
      refine v_if_ne O 24 dX10_takesWord_19 (by decide) (fun c => absurd c (by decide)) (fun _ => ?_)
      refine v_iconst (v := 0) O dX10_takesWord_22 (by decide) ?_
      refine v_sub (ws' := [(mo, .inr (10, M1R ma (mZ c c2 tk vc ln rn (nI (p + 1)) zs_11 zs_20 zs_21 zs_22 zs_25 zs_26 zs_27 zs_29))), ((ma 12), eI D 100 tb), ((ma 23), eI D 18 ltF)]) [1, 2, 0] (by decide) rfl ?_
      exact v_ireturn O T rfl rfl (by decide) (by decide) dX10_takesWord_23 (⟨by rw [b2i_f (by simp only [spl, if_pos y0, if_neg y1]; decide)], by simp only [spl, if_pos y0, if_neg y1]⟩)
  · skip
    refine v_cV (T := TX10) (ci := 10) (As := [.int 109]) (wr := [((ma 23), eI D 18 ltF)]) (st := []) O cf_X10_192 rfl (sp_X10_takes_f (mo := mo) (ma := ma) (c := c) (c2 := c2) (tk := tk) (vc := vc) (ln := ln) (rn := rn) (zs_11 := zs_11) (zs_20 := zs_20) (zs_21 := zs_21) (zs_22 := zs_22) (zs_25 := zs_25) (zs_26 := zs_26) (zs_27 := zs_27) (zs_29 := zs_29) (tb := tb) (p := p) (x := 109) (hln) (by omega) (y0)) dX10_takesWord_16 rfl rfl 0 rfl [0, 1] [2] (by decide) rfl rfl (by decide) (by decide) (by decide) (Nat.le_of_ble_eq_true rfl) (by decide) (by decide) (fun r_68 w_69 h_67 => ?_)
    obtain ⟨rfl, rfl⟩ := h_67
    refine v_eq (st' := [.int 0]) (ws' := [((ma 23), eI D 18 ltF), (mo, .inr (10, M1R ma (mZ c c2 tk vc ln rn (nI p) zs_11 zs_20 zs_21 zs_22 zs_25 zs_26 zs_27 zs_29))), ((ma 12), eI D 100 tb)]) rfl rfl rfl rfl ?_
    refine v_if_ne O 24 dX10_takesWord_19 (by decide) (fun c => absurd c (by decide)) (fun _ => ?_)
    refine v_iconst (v := 0) O dX10_takesWord_22 (by decide) ?_
    refine v_sub (ws' := [(mo, .inr (10, M1R ma (mZ c c2 tk vc ln rn (nI p) zs_11 zs_20 zs_21 zs_22 zs_25 zs_26 zs_27 zs_29))), ((ma 12), eI D 100 tb), ((ma 23), eI D 18 ltF)]) [1, 2, 0] (by decide) rfl ?_
    exact v_ireturn O T rfl rfl (by decide) (by decide) dX10_takesWord_23 (⟨by rw [b2i_f (by simp only [spl, if_neg y0]; decide)], by simp only [spl, if_neg y0]⟩)
set_option maxRecDepth 100000 in
set_option maxHeartbeats 4000000 in
theorem sp_X10_word_men {D : G} {mo : Nat} {ma : Nat → Nat} {c : CS} {c2 : CS} {tk : Int32} {vc : Nat} {ln : Nat} {rn : Nat} {zs_11 : Int32} {zs_20 : Int32} {zs_21 : Int32} {zs_22 : Int32} {zs_25 : Int32} {zs_26 : Int32} {zs_27 : Int32} {zs_29 : Int32} {tb : Nat → Int32} {p : Nat} (hln : ln ≤ 100) (hp : p ≤ ln) : Sp D mX10_takesWord 2 0 0 [.ref mo, .int 0, .int 3] [(mo, .inr (10, M1R ma (mZ c c2 tk vc ln rn (nI p) zs_11 zs_20 zs_21 zs_22 zs_25 zs_26 zs_27 zs_29))), ((ma 12), eI D 100 tb), ((ma 23), eI D 18 ltF)] (fun r w => r = some (.int (b2i ((spl (sgT tb ln) [109, 101, 110, 32] p).2 = true))) ∧ w = [(mo, .inr (10, M1R ma (mZ c c2 tk vc ln rn (nI ((spl (sgT tb ln) [109, 101, 110, 32] p).1)) zs_11 zs_20 zs_21 zs_22 zs_25 zs_26 zs_27 zs_29))), ((ma 12), eI D 100 tb), ((ma 23), eI D 18 ltF)]) := by
  refine Sp.of (by decide) (Nat.le_of_ble_eq_true rfl) (fun X O T => ?_)
  refine v_eq (lv' := [(0, .ref mo), (1, .int 0), (2, .int 3)]) rfl rfl rfl rfl ?_
  refine v_iconst (v := 0) O dX10_takesWord_0 (by decide) ?_
  refine v_istore_n (lv' := [(0, .ref mo), (1, .int 0), (2, .int 3), (3, .int 0)]) O dX10_takesWord_1 (by decide) rfl ?_
  refine v_iload_n O dX10_takesWord_2 3 rfl ?_
  refine v_iload_n O dX10_takesWord_3 2 rfl ?_
  refine v_icmp_ge O 30 dX10_takesWord_4 (by decide) (fun c => absurd c (by decide)) (fun _ => ?_)
  refine v_aload_n O dX10_takesWord_7 0 rfl ?_
  refine v_aload_n O dX10_takesWord_8 0 rfl ?_
  refine gf_X10_80 (v := .ref (ma 23)) O rfl dX10_takesWord_9 0 rfl rfl ?_
  refine v_iload_n O dX10_takesWord_12 1 rfl ?_
  refine v_iload_n O dX10_takesWord_13 3 rfl ?_
  refine v_iadd O dX10_takesWord_14 ?_
  refine v_top (y := nI 0) rfl ?_
  refine v_ialdk O dX10_takesWord_15 2 rfl 0 rfl (by omega) (by decide) ?_
  refine v_top (y := 109) (rfl) ?_
  by_cases y0 : sgT tb ln p = 109
  · skip
    have x0 := sgT_lt y0 (by decide)
    refine v_cV (T := TX10) (ci := 10) (As := [.int 109]) (wr := [((ma 23), eI D 18 ltF)]) (st := []) O cf_X10_192 rfl (sp_X10_takes_t (mo := mo) (ma := ma) (c := c) (c2 := c2) (tk := tk) (vc := vc) (ln := ln) (rn := rn) (zs_11 := zs_11) (zs_20 := zs_20) (zs_21 := zs_21) (zs_22 := zs_22) (zs_25 := zs_25) (zs_26 := zs_26) (zs_27 := zs_27) (zs_29 := zs_29) (tb := tb) (p := p) (x := 109) (hln) (by omega) (y0)) dX10_takesWord_16 rfl rfl 0 rfl [0, 1] [2] (by decide) rfl rfl (by decide) (by decide) (by decide) (Nat.le_of_ble_eq_true rfl) (by decide) (by decide) (fun r_3 w_4 h_2 => ?_)
    obtain ⟨rfl, rfl⟩ := h_2
    refine v_eq (st' := [.int 1]) (ws' := [((ma 23), eI D 18 ltF), (mo, .inr (10, M1R ma (mZ c c2 tk vc ln rn (nI (p + 1)) zs_11 zs_20 zs_21 zs_22 zs_25 zs_26 zs_27 zs_29))), ((ma 12), eI D 100 tb)]) rfl rfl rfl rfl ?_
    refine v_if_ne O 24 dX10_takesWord_19 (by decide) (fun _ => ?_) (fun c => absurd c (by decide))
    refine v_iinc (v := 1) (lv' := [(0, .ref mo), (1, .int 0), (2, .int 3), (3, .int 1)]) O dX10_takesWord_24 3 rfl (by decide) (by decide) rfl ?_
    refine v_goto O 2 dX10_takesWord_27 (by decide) ?_
    refine v_iload_n O dX10_takesWord_2 3 rfl ?_
    refine v_iload_n O dX10_takesWord_3 2 rfl ?_
    refine v_icmp_ge O 30 dX10_takesWord_4 (by decide) (fun c => absurd c (by decide)) (fun _ => ?_)
    refine v_aload_n O dX10_takesWord_7 0 rfl ?_
    refine v_aload_n O dX10_takesWord_8 0 rfl ?_
    refine gf_X10_80 (v := .ref (ma 23)) O rfl dX10_takesWord_9 1 rfl rfl ?_
    refine v_iload_n O dX10_takesWord_12 1 rfl ?_
    refine v_iload_n O dX10_takesWord_13 3 rfl ?_
    refine v_iadd O dX10_takesWord_14 ?_
    refine v_top (y := nI 1) rfl ?_
    refine v_ialdk O dX10_takesWord_15 0 rfl 1 rfl (by omega) (by decide) ?_
    refine v_top (y := 101) (rfl) ?_
    by_cases y1 : sgT tb ln (p + 1) = 101
    · skip
      have x1 := sgT_lt y1 (by decide)
      refine v_cV (T := TX10) (ci := 10) (As := [.int 101]) (wr := [((ma 23), eI D 18 ltF)]) (st := []) O cf_X10_192 rfl (sp_X10_takes_t (mo := mo) (ma := ma) (c := c) (c2 := c2) (tk := tk) (vc := vc) (ln := ln) (rn := rn) (zs_11 := zs_11) (zs_20 := zs_20) (zs_21 := zs_21) (zs_22 := zs_22) (zs_25 := zs_25) (zs_26 := zs_26) (zs_27 := zs_27) (zs_29 := zs_29) (tb := tb) (p := (p + 1)) (x := 101) (hln) (by omega) (y1)) dX10_takesWord_16 rfl rfl 1 rfl [1, 2] [0] (by decide) rfl rfl (by decide) (by decide) (by decide) (Nat.le_of_ble_eq_true rfl) (by decide) (by decide) (fun r_8 w_9 h_7 => ?_)
      obtain ⟨rfl, rfl⟩ := h_7
      refine v_eq (st' := [.int 1]) (ws' := [((ma 23), eI D 18 ltF), (mo, .inr (10, M1R ma (mZ c c2 tk vc ln rn (nI ((p + 1) + 1)) zs_11 zs_20 zs_21 zs_22 zs_25 zs_26 zs_27 zs_29))), ((ma 12), eI D 100 tb)]) rfl rfl rfl rfl ?_
      refine v_if_ne O 24 dX10_takesWord_19 (by decide) (fun _ => ?_) (fun c => absurd c (by decide))
      refine v_iinc (v := 2) (lv' := [(0, .ref mo), (1, .int 0), (2, .int 3), (3, .int 2)]) O dX10_takesWord_24 3 rfl (by decide) (by decide) rfl ?_
      refine v_goto O 2 dX10_takesWord_27 (by decide) ?_
      refine v_iload_n O dX10_takesWord_2 3 rfl ?_
      refine v_iload_n O dX10_takesWord_3 2 rfl ?_
      refine v_icmp_ge O 30 dX10_takesWord_4 (by decide) (fun c => absurd c (by decide)) (fun _ => ?_)
      refine v_aload_n O dX10_takesWord_7 0 rfl ?_
      refine v_aload_n O dX10_takesWord_8 0 rfl ?_
      refine gf_X10_80 (v := .ref (ma 23)) O rfl dX10_takesWord_9 1 rfl rfl ?_
      refine v_iload_n O dX10_takesWord_12 1 rfl ?_
      refine v_iload_n O dX10_takesWord_13 3 rfl ?_
      refine v_iadd O dX10_takesWord_14 ?_
      refine v_top (y := nI 2) rfl ?_
      refine v_ialdk O dX10_takesWord_15 0 rfl 2 rfl (by omega) (by decide) ?_
      refine v_top (y := 110) (rfl) ?_
      by_cases y2 : sgT tb ln ((p + 1) + 1) = 110
      · skip
        have x2 := sgT_lt y2 (by decide)
        refine v_cV (T := TX10) (ci := 10) (As := [.int 110]) (wr := [((ma 23), eI D 18 ltF)]) (st := []) O cf_X10_192 rfl (sp_X10_takes_t (mo := mo) (ma := ma) (c := c) (c2 := c2) (tk := tk) (vc := vc) (ln := ln) (rn := rn) (zs_11 := zs_11) (zs_20 := zs_20) (zs_21 := zs_21) (zs_22 := zs_22) (zs_25 := zs_25) (zs_26 := zs_26) (zs_27 := zs_27) (zs_29 := zs_29) (tb := tb) (p := ((p + 1) + 1)) (x := 110) (hln) (by omega) (y2)) dX10_takesWord_16 rfl rfl 1 rfl [1, 2] [0] (by decide) rfl rfl (by decide) (by decide) (by decide) (Nat.le_of_ble_eq_true rfl) (by decide) (by decide) (fun r_13 w_14 h_12 => ?_)
        obtain ⟨rfl, rfl⟩ := h_12
        refine v_eq (st' := [.int 1]) (ws' := [((ma 23), eI D 18 ltF), (mo, .inr (10, M1R ma (mZ c c2 tk vc ln rn (nI (((p + 1) + 1) + 1)) zs_11 zs_20 zs_21 zs_22 zs_25 zs_26 zs_27 zs_29))), ((ma 12), eI D 100 tb)]) rfl rfl rfl rfl ?_
        refine v_if_ne O 24 dX10_takesWord_19 (by decide) (fun _ => ?_) (fun c => absurd c (by decide))
        refine v_iinc (v := 3) (lv' := [(0, .ref mo), (1, .int 0), (2, .int 3), (3, .int 3)]) O dX10_takesWord_24 3 rfl (by decide) (by decide) rfl ?_
        refine v_goto O 2 dX10_takesWord_27 (by decide) ?_
        refine v_iload_n O dX10_takesWord_2 3 rfl ?_
        refine v_iload_n O dX10_takesWord_3 2 rfl ?_
        refine v_icmp_ge O 30 dX10_takesWord_4 (by decide) (fun _ => ?_) (fun c => absurd c (by decide))
        refine v_aload_n O dX10_takesWord_30 0 rfl ?_
        refine v_bipush (v := 32) O dX10_takesWord_31 (by decide) ?_
        by_cases y3 : sgT tb ln (((p + 1) + 1) + 1) = 32
        · skip
          have x3 := sgT_lt y3 (by decide)
          refine v_cV (T := TX10) (ci := 10) (As := [.int 32]) (wr := [((ma 23), eI D 18 ltF)]) (st := []) O cf_X10_192 rfl (sp_X10_takes_t (mo := mo) (ma := ma) (c := c) (c2 := c2) (tk := tk) (vc := vc) (ln := ln) (rn := rn) (zs_11 := zs_11) (zs_20 := zs_20) (zs_21 := zs_21) (zs_22 := zs_22) (zs_25 := zs_25) (zs_26 := zs_26) (zs_27 := zs_27) (zs_29 := zs_29) (tb := tb) (p := (((p + 1) + 1) + 1)) (x := 32) (hln) (by omega) (y3)) dX10_takesWord_33 rfl rfl 1 rfl [1, 2] [0] (by decide) rfl rfl (by decide) (by decide) (by decide) (Nat.le_of_ble_eq_true rfl) (by decide) (by decide) (fun r_18 w_19 h_17 => ?_)
          obtain ⟨rfl, rfl⟩ := h_17
          refine v_eq (st' := [.int 1]) (ws' := [((ma 23), eI D 18 ltF), (mo, .inr (10, M1R ma (mZ c c2 tk vc ln rn (nI ((((p + 1) + 1) + 1) + 1)) zs_11 zs_20 zs_21 zs_22 zs_25 zs_26 zs_27 zs_29))), ((ma 12), eI D 100 tb)]) rfl rfl rfl rfl ?_
          refine v_sub (ws' := [(mo, .inr (10, M1R ma (mZ c c2 tk vc ln rn (nI ((((p + 1) + 1) + 1) + 1)) zs_11 zs_20 zs_21 zs_22 zs_25 zs_26 zs_27 zs_29))), ((ma 12), eI D 100 tb), ((ma 23), eI D 18 ltF)]) [1, 2, 0] (by decide) rfl ?_
          exact v_ireturn O T rfl rfl (by decide) (by decide) dX10_takesWord_36 (⟨by rw [b2i_t (by simp only [spl, if_pos y0, if_pos y1, if_pos y2, if_pos y3])], by simp only [spl, if_pos y0, if_pos y1, if_pos y2, if_pos y3]⟩)
        · skip
          refine v_cV (T := TX10) (ci := 10) (As := [.int 32]) (wr := [((ma 23), eI D 18 ltF)]) (st := []) O cf_X10_192 rfl (sp_X10_takes_f (mo := mo) (ma := ma) (c := c) (c2 := c2) (tk := tk) (vc := vc) (ln := ln) (rn := rn) (zs_11 := zs_11) (zs_20 := zs_20) (zs_21 := zs_21) (zs_22 := zs_22) (zs_25 := zs_25) (zs_26 := zs_26) (zs_27 := zs_27) (zs_29 := zs_29) (tb := tb) (p := (((p + 1) + 1) + 1)) (x := 32) (hln) (by omega) (y3)) dX10_takesWord_33 rfl rfl 1 rfl [1, 2] [0] (by decide) rfl rfl (by decide) (by decide) (by decide) (Nat.le_of_ble_eq_true rfl) (by decide) (by decide) (fun r_21 w_22 h_20 => ?_)
          obtain ⟨rfl, rfl⟩ := h_20
          refine v_eq (st' := [.int 0]) (ws' := [((ma 23), eI D 18 ltF), (mo, .inr (10, M1R ma (mZ c c2 tk vc ln rn (nI (((p + 1) + 1) + 1)) zs_11 zs_20 zs_21 zs_22 zs_25 zs_26 zs_27 zs_29))), ((ma 12), eI D 100 tb)]) rfl rfl rfl rfl ?_
          refine v_sub (ws' := [(mo, .inr (10, M1R ma (mZ c c2 tk vc ln rn (nI (((p + 1) + 1) + 1)) zs_11 zs_20 zs_21 zs_22 zs_25 zs_26 zs_27 zs_29))), ((ma 12), eI D 100 tb), ((ma 23), eI D 18 ltF)]) [1, 2, 0] (by decide) rfl ?_
          exact v_ireturn O T rfl rfl (by decide) (by decide) dX10_takesWord_36 (⟨by rw [b2i_f (by simp only [spl, if_pos y0, if_pos y1, if_pos y2, if_neg y3]; decide)], by simp only [spl, if_pos y0, if_pos y1, if_pos y2, if_neg y3]⟩)
      · skip
        refine v_cV (T := TX10) (ci := 10) (As := [.int 110]) (wr := [((ma 23), eI D 18 ltF)]) (st := []) O cf_X10_192 rfl (sp_X10_takes_f (mo := mo) (ma := ma) (c := c) (c2 := c2) (tk := tk) (vc := vc) (ln := ln) (rn := rn) (zs_11 := zs_11) (zs_20 := zs_20) (zs_21 := zs_21) (zs_22 := zs_22) (zs_25 := zs_25) (zs_26 := zs_26) (zs_27 := zs_27) (zs_29 := zs_29) (tb := tb) (p := ((p + 1) + 1)) (x := 110) (hln) (by omega) (y2)) dX10_takesWord_16 rfl rfl 1 rfl [1, 2] [0] (by decide) rfl rfl (by decide) (by decide) (by decide) (Nat.le_of_ble_eq_true rfl) (by decide) (by decide) (fun r_24 w_25 h_23 => ?_)
        obtain ⟨rfl, rfl⟩ := h_23
        refine v_eq (st' := [.int 0]) (ws' := [((ma 23), eI D 18 ltF), (mo, .inr (10, M1R ma (mZ c c2 tk vc ln rn (nI ((p + 1) + 1)) zs_11 zs_20 zs_21 zs_22 zs_25 zs_26 zs_27 zs_29))), ((ma 12), eI D 100 tb)]) rfl rfl rfl rfl ?_
        refine v_if_ne O 24 dX10_takesWord_19 (by decide) (fun c => absurd c (by decide)) (fun _ => ?_)
        refine v_iconst (v := 0) O dX10_takesWord_22 (by decide) ?_
        refine v_sub (ws' := [(mo, .inr (10, M1R ma (mZ c c2 tk vc ln rn (nI ((p + 1) + 1)) zs_11 zs_20 zs_21 zs_22 zs_25 zs_26 zs_27 zs_29))), ((ma 12), eI D 100 tb), ((ma 23), eI D 18 ltF)]) [1, 2, 0] (by decide) rfl ?_
        exact v_ireturn O T rfl rfl (by decide) (by decide) dX10_takesWord_23 (⟨by rw [b2i_f (by simp only [spl, if_pos y0, if_pos y1, if_neg y2]; decide)], by simp only [spl, if_pos y0, if_pos y1, if_neg y2]⟩)
    · skip
      refine v_cV (T := TX10) (ci := 10) (As := [.int 101]) (wr := [((ma 23), eI D 18 ltF)]) (st := []) O cf_X10_192 rfl (sp_X10_takes_f (mo := mo) (ma := ma) (c := c) (c2 := c2) (tk := tk) (vc := vc) (ln := ln) (rn := rn) (zs_11 := zs_11) (zs_20 := zs_20) (zs_21 := zs_21) (zs_22 := zs_22) (zs_25 := zs_25) (zs_26 := zs_26) (zs_27 := zs_27) (zs_29 := zs_29) (tb := tb) (p := (p + 1)) (x := 101) (hln) (by omega) (y1)) dX10_takesWord_16 rfl rfl 1 rfl [1, 2] [0] (by decide) rfl rfl (by decide) (by decide) (by decide) (Nat.le_of_ble_eq_true rfl) (by decide) (by decide) (fun r_28 w_29 h_27 => ?_)
      obtain ⟨rfl, rfl⟩ := h_27
      refine v_eq (st' := [.int 0]) (ws' := [((ma 23), eI D 18 ltF), (mo, .inr (10, M1R ma (mZ c c2 tk vc ln rn (nI (p + 1)) zs_11 zs_20 zs_21 zs_22 zs_25 zs_26 zs_27 zs_29))), ((ma 12), eI D 100 tb)]) rfl rfl rfl rfl ?_
      refine v_if_ne O 24 dX10_takesWord_19 (by decide) (fun c => absurd c (by decide)) (fun _ => ?_)
      refine v_iconst (v := 0) O dX10_takesWord_22 (by decide) ?_
      refine v_sub (ws' := [(mo, .inr (10, M1R ma (mZ c c2 tk vc ln rn (nI (p + 1)) zs_11 zs_20 zs_21 zs_22 zs_25 zs_26 zs_27 zs_29))), ((ma 12), eI D 100 tb), ((ma 23), eI D 18 ltF)]) [1, 2, 0] (by decide) rfl ?_
      exact v_ireturn O T rfl rfl (by decide) (by decide) dX10_takesWord_23 (⟨by rw [b2i_f (by simp only [spl, if_pos y0, if_neg y1]; decide)], by simp only [spl, if_pos y0, if_neg y1]⟩)
  · skip
    refine v_cV (T := TX10) (ci := 10) (As := [.int 109]) (wr := [((ma 23), eI D 18 ltF)]) (st := []) O cf_X10_192 rfl (sp_X10_takes_f (mo := mo) (ma := ma) (c := c) (c2 := c2) (tk := tk) (vc := vc) (ln := ln) (rn := rn) (zs_11 := zs_11) (zs_20 := zs_20) (zs_21 := zs_21) (zs_22 := zs_22) (zs_25 := zs_25) (zs_26 := zs_26) (zs_27 := zs_27) (zs_29 := zs_29) (tb := tb) (p := p) (x := 109) (hln) (by omega) (y0)) dX10_takesWord_16 rfl rfl 0 rfl [0, 1] [2] (by decide) rfl rfl (by decide) (by decide) (by decide) (Nat.le_of_ble_eq_true rfl) (by decide) (by decide) (fun r_32 w_33 h_31 => ?_)
    obtain ⟨rfl, rfl⟩ := h_31
    refine v_eq (st' := [.int 0]) (ws' := [((ma 23), eI D 18 ltF), (mo, .inr (10, M1R ma (mZ c c2 tk vc ln rn (nI p) zs_11 zs_20 zs_21 zs_22 zs_25 zs_26 zs_27 zs_29))), ((ma 12), eI D 100 tb)]) rfl rfl rfl rfl ?_
    refine v_if_ne O 24 dX10_takesWord_19 (by decide) (fun c => absurd c (by decide)) (fun _ => ?_)
    refine v_iconst (v := 0) O dX10_takesWord_22 (by decide) ?_
    refine v_sub (ws' := [(mo, .inr (10, M1R ma (mZ c c2 tk vc ln rn (nI p) zs_11 zs_20 zs_21 zs_22 zs_25 zs_26 zs_27 zs_29))), ((ma 12), eI D 100 tb), ((ma 23), eI D 18 ltF)]) [1, 2, 0] (by decide) rfl ?_
    exact v_ireturn O T rfl rfl (by decide) (by decide) dX10_takesWord_23 (⟨by rw [b2i_f (by simp only [spl, if_neg y0]; decide)], by simp only [spl, if_neg y0]⟩)
set_option maxRecDepth 100000 in
set_option maxHeartbeats 4000000 in
theorem sp_X10_isDigit {D : G} {mo : Nat} {ma : Nat → Nat} {c : CS} {c2 : CS} {tk : Int32} {vc : Nat} {ln : Nat} {rn : Nat} {zs_11 : Int32} {zs_20 : Int32} {zs_21 : Int32} {zs_22 : Int32} {zs_25 : Int32} {zs_26 : Int32} {zs_27 : Int32} {zs_29 : Int32} {tb : Nat → Int32} {p : Nat} (hln : ln ≤ 100) (hp : p < 1000) : Sp D mX10_isDigit 1 0 0 [.ref mo] [(mo, .inr (10, M1R ma (mZ c c2 tk vc ln rn (nI p) zs_11 zs_20 zs_21 zs_22 zs_25 zs_26 zs_27 zs_29))), ((ma 12), eI D 100 tb)] (fun r w => r = some (.int (b2i (isd (sgT tb ln p)))) ∧ w = [(mo, .inr (10, M1R ma (mZ c c2 tk vc ln rn (nI p) zs_11 zs_20 zs_21 zs_22 zs_25 zs_26 zs_27 zs_29))), ((ma 12), eI D 100 tb)]) := by
  refine Sp.of (by decide) (Nat.le_of_ble_eq_true rfl) (fun X O T => ?_)
  refine v_eq (lv' := [(0, .ref mo)]) rfl rfl rfl rfl ?_
  refine v_aload_n O dX10_isDigit_0 0 rfl ?_
  refine v_aload_n O dX10_isDigit_1 0 rfl ?_
  refine v_cV (T := TX10) (ci := 10) (As := []) (wr := []) (st := [.ref mo]) O cf_X10_188 rfl (sp_X10_next (mo := mo) (ma := ma) (c := c) (c2 := c2) (tk := tk) (vc := vc) (ln := ln) (rn := rn) (zs_11 := zs_11) (zs_20 := zs_20) (zs_21 := zs_21) (zs_22 := zs_22) (zs_25 := zs_25) (zs_26 := zs_26) (zs_27 := zs_27) (zs_29 := zs_29) (tb := tb) (p := p) (hln) (by omega)) dX10_isDigit_2 rfl rfl 0 rfl [0, 1] [] (by decide) rfl rfl (by decide) (by decide) (by decide) (Nat.le_of_ble_eq_true rfl) (by decide) (by decide) (fun r_2 w_3 h_1 => ?_)
  obtain ⟨rfl, rfl⟩ := h_1
  refine v_eq (st' := [.int (sgT tb ln p), .ref mo]) (ws' := [(mo, .inr (10, M1R ma (mZ c c2 tk vc ln rn (nI p) zs_11 zs_20 zs_21 zs_22 zs_25 zs_26 zs_27 zs_29))), ((ma 12), eI D 100 tb)]) rfl rfl rfl rfl ?_
  refine v_bipush (v := 48) O dX10_isDigit_5 (by decide) ?_
  refine v_bipush (v := 57) O dX10_isDigit_7 (by decide) ?_
  refine v_cV (T := TX10) (ci := 10) (As := [.int (sgT tb ln p), .int 48, .int 57]) (wr := [(mo, .inr (10, M1R ma (mZ c c2 tk vc ln rn (nI p) zs_11 zs_20 zs_21 zs_22 zs_25 zs_26 zs_27 zs_29))), ((ma 12), eI D 100 tb)]) (st := []) O cf_X10_179 rfl (sp_X10_in_48_57 (mo := mo) (x := (sgT tb ln p)) ) dX10_isDigit_9 rfl rfl 0 rfl [] [0, 1] (by decide) rfl rfl (by decide) (by decide) (by decide) (Nat.le_of_ble_eq_true rfl) (by decide) (by decide) (fun r_5 w_6 h_4 => ?_)
  obtain ⟨rfl, rfl⟩ := h_4
  refine v_eq (st' := [.int (b2i (48 ≤ (sgT tb ln p) ∧ (sgT tb ln p) ≤ 57))]) (ws' := [(mo, .inr (10, M1R ma (mZ c c2 tk vc ln rn (nI p) zs_11 zs_20 zs_21 zs_22 zs_25 zs_26 zs_27 zs_29))), ((ma 12), eI D 100 tb)]) rfl rfl rfl rfl ?_
  exact v_ireturn O T rfl (nrb _) (by decide) (by decide) dX10_isDigit_12 (⟨rfl, rfl⟩)
set_option maxRecDepth 100000 in
set_option maxHeartbeats 4000000 in
theorem sp_X10_num_t {D : G} {mo : Nat} {ma : Nat → Nat} {c : CS} {c2 : CS} {tk : Int32} {vc : Nat} {ln : Nat} {rn : Nat} {zs_11 : Int32} {zs_20 : Int32} {zs_21 : Int32} {zs_22 : Int32} {zs_25 : Int32} {zs_26 : Int32} {zs_27 : Int32} {zs_29 : Int32} {tb : Nat → Int32} {p : Nat} (hln : ln ≤ 100) (hp : p ≤ ln) (hd : isd (sgT tb ln p)) : Sp D mX10_takesNumber 2 0 0 [.ref mo] [(mo, .inr (10, M1R ma (mZ c c2 tk vc ln rn (nI p) zs_11 zs_20 zs_21 zs_22 zs_25 zs_26 zs_27 zs_29))), ((ma 12), eI D 100 tb)] (fun r w => r = some (.int 1) ∧ w = [(mo, .inr (10, M1R ma (mZ c c2 tk vc ln rn (nI (numE (sgT tb ln) p)) (nI (numN (sgT tb ln) p)) zs_20 zs_21 zs_22 zs_25 zs_26 zs_27 zs_29))), ((ma 12), eI D 100 tb)]) := by
  refine Sp.of (by decide) (Nat.le_of_ble_eq_true rfl) (fun X O T => ?_)
  refine v_eq (lv' := [(0, .ref mo)]) rfl rfl rfl rfl ?_
  have z_l := isd_lt hd
  refine v_aload_n O dX10_takesNumber_0 0 rfl ?_
  refine v_cV (T := TX10) (ci := 10) (As := []) (wr := []) (st := []) O cf_X10_195 rfl (sp_X10_isDigit (mo := mo) (ma := ma) (c := c) (c2 := c2) (tk := tk) (vc := vc) (ln := ln) (rn := rn) (zs_11 := zs_11) (zs_20 := zs_20) (zs_21 := zs_21) (zs_22 := zs_22) (zs_25 := zs_25) (zs_26 := zs_26) (zs_27 := zs_27) (zs_29 := zs_29) (tb := tb) (p := p) (hln) (by omega)) dX10_takesNumber_1 rfl rfl 0 rfl [0, 1] [] (by decide) rfl rfl (by decide) (by decide) (by decide) (Nat.le_of_ble_eq_true rfl) (by decide) (by decide) (fun r_2 w_3 h_1 => ?_)
  obtain ⟨rfl, rfl⟩ := h_1
  refine v_eq (st' := [.int (b2i (isd (sgT tb ln p)))]) (ws' := [(mo, .inr (10, M1R ma (mZ c c2 tk vc ln rn (nI p) zs_11 zs_20 zs_21 zs_22 zs_25 zs_26 zs_27 zs_29))), ((ma 12), eI D 100 tb)]) rfl rfl rfl rfl ?_
  refine v_if_ne O 9 dX10_takesNumber_4 (by decide) (fun z1 => ?_) (fun z1 => ?_)
  · skip
    have z1 := b2i_1.mp z1
    refine v_aload_n O dX10_takesNumber_9 0 rfl ?_
    refine v_iconst (v := 0) O dX10_takesNumber_10 (by decide) ?_
    refine pf_X10_44 (fs' := M1R ma (mZ c c2 tk vc ln rn (nI p) 0 zs_20 zs_21 zs_22 zs_25 zs_26 zs_27 zs_29)) (ws' := [(mo, .inr (10, M1R ma (mZ c c2 tk vc ln rn (nI p) 0 zs_20 zs_21 zs_22 zs_25 zs_26 zs_27 zs_29))), ((ma 12), eI D 100 tb)]) O rfl dX10_takesNumber_11 0 rfl (Nat.le_of_ble_eq_true rfl) rfl rfl ?_
    refine v_iconst (v := 0) O dX10_takesNumber_14 (by decide) ?_
    refine v_istore_n (lv' := [(0, .ref mo), (1, .int 0)]) O dX10_takesNumber_15 (by decide) rfl ?_
    refine v_iload_n O dX10_takesNumber_16 1 rfl ?_
    refine v_iconst (v := 2) O dX10_takesNumber_17 (by decide) ?_
    refine v_icmp_ge O 63 dX10_takesNumber_18 (by decide) (fun c => absurd c (by decide)) (fun _ => ?_)
    refine v_aload_n O dX10_takesNumber_21 0 rfl ?_
    refine v_cV (T := TX10) (ci := 10) (As := []) (wr := []) (st := []) O cf_X10_195 rfl (sp_X10_isDigit (mo := mo) (ma := ma) (c := c) (c2 := c2) (tk := tk) (vc := vc) (ln := ln) (rn := rn) (zs_11 := 0) (zs_20 := zs_20) (zs_21 := zs_21) (zs_22 := zs_22) (zs_25 := zs_25) (zs_26 := zs_26) (zs_27 := zs_27) (zs_29 := zs_29) (tb := tb) (p := p) (hln) (by omega)) dX10_takesNumber_22 rfl rfl 0 rfl [0, 1] [] (by decide) rfl rfl (by decide) (by decide) (by decide) (Nat.le_of_ble_eq_true rfl) (by decide) (by decide) (fun r_6 w_7 h_5 => ?_)
    obtain ⟨rfl, rfl⟩ := h_5
    refine v_eq (st' := [.int (b2i (isd (sgT tb ln p)))]) (ws' := [(mo, .inr (10, M1R ma (mZ c c2 tk vc ln rn (nI p) 0 zs_20 zs_21 zs_22 zs_25 zs_26 zs_27 zs_29))), ((ma 12), eI D 100 tb)]) rfl rfl rfl rfl ?_
    refine v_if_eq O 63 dX10_takesNumber_25 (by decide) (fun z4 => ?_) (fun z4 => ?_)
    · skip
      have z4 := b2i_0.mp z4
      exact absurd hd z4
    · skip
      have z4 := b2i_1.mp z4
      refine v_aload_n O dX10_takesNumber_28 0 rfl ?_
      refine v_bipush (v := 10) O dX10_takesNumber_29 (by decide) ?_
      refine v_aload_n O dX10_takesNumber_31 0 rfl ?_
      refine gf_X10_44 (v := .int 0) O rfl dX10_takesNumber_32 0 rfl rfl ?_
      refine v_imul O dX10_takesNumber_35 ?_
      refine v_aload_n O dX10_takesNumber_36 0 rfl ?_
      refine v_cV (T := TX10) (ci := 10) (As := []) (wr := []) (st := [.int (10 * 0), .ref mo]) O cf_X10_188 rfl (sp_X10_next (mo := mo) (ma := ma) (c := c) (c2 := c2) (tk := tk) (vc := vc) (ln := ln) (rn := rn) (zs_11 := 0) (zs_20 := zs_20) (zs_21 := zs_21) (zs_22 := zs_22) (zs_25 := zs_25) (zs_26 := zs_26) (zs_27 := zs_27) (zs_29 := zs_29) (tb := tb) (p := p) (hln) (by omega)) dX10_takesNumber_37 rfl rfl 0 rfl [0, 1] [] (by decide) rfl rfl (by decide) (by decide) (by decide) (Nat.le_of_ble_eq_true rfl) (by decide) (by decide) (fun r_9 w_10 h_8 => ?_)
      obtain ⟨rfl, rfl⟩ := h_8
      refine v_eq (st' := [.int (sgT tb ln p), .int (10 * 0), .ref mo]) (ws' := [(mo, .inr (10, M1R ma (mZ c c2 tk vc ln rn (nI p) 0 zs_20 zs_21 zs_22 zs_25 zs_26 zs_27 zs_29))), ((ma 12), eI D 100 tb)]) rfl rfl rfl rfl ?_
      refine v_iadd O dX10_takesNumber_40 ?_
      refine v_bipush (v := 48) O dX10_takesNumber_41 (by decide) ?_
      refine v_isub O dX10_takesNumber_43 ?_
      refine v_top (y := nI (dgN (sgT tb ln p))) ((num_c (a := 0) hd).trans (by rw [Nat.zero_add])) ?_
      refine pf_X10_44 (fs' := M1R ma (mZ c c2 tk vc ln rn (nI p) (nI (dgN (sgT tb ln p))) zs_20 zs_21 zs_22 zs_25 zs_26 zs_27 zs_29)) (ws' := [(mo, .inr (10, M1R ma (mZ c c2 tk vc ln rn (nI p) (nI (dgN (sgT tb ln p))) zs_20 zs_21 zs_22 zs_25 zs_26 zs_27 zs_29))), ((ma 12), eI D 100 tb)]) O rfl dX10_takesNumber_44 0 rfl (Nat.le_of_ble_eq_true rfl) rfl rfl ?_
      refine v_aload_n O dX10_takesNumber_47 0 rfl ?_
      refine v_dup O dX10_takesNumber_48 rfl ?_
      refine gf_X10_41 (v := .int (nI p)) O rfl dX10_takesNumber_49 0 rfl rfl ?_
      refine v_iconst (v := 1) O dX10_takesNumber_52 (by decide) ?_
      refine v_iadd O dX10_takesNumber_53 ?_
      refine v_top (y := nI (p + 1)) (nI_add p 1) ?_
      refine pf_X10_41 (fs' := M1R ma (mZ c c2 tk vc ln rn (nI (p + 1)) (nI (dgN (sgT tb ln p))) zs_20 zs_21 zs_22 zs_25 zs_26 zs_27 zs_29)) (ws' := [(mo, .inr (10, M1R ma (mZ c c2 tk vc ln rn (nI (p + 1)) (nI (dgN (sgT tb ln p))) zs_20 zs_21 zs_22 zs_25 zs_26 zs_27 zs_29))), ((ma 12), eI D 100 tb)]) O rfl dX10_takesNumber_54 0 rfl (Nat.le_of_ble_eq_true rfl) rfl rfl ?_
      refine v_iinc (v := 1) (lv' := [(0, .ref mo), (1, .int 1)]) O dX10_takesNumber_57 1 rfl (by decide) (by decide) rfl ?_
      refine v_goto O 16 dX10_takesNumber_60 (by decide) ?_
      refine v_iload_n O dX10_takesNumber_16 1 rfl ?_
      refine v_iconst (v := 2) O dX10_takesNumber_17 (by decide) ?_
      refine v_icmp_ge O 63 dX10_takesNumber_18 (by decide) (fun c => absurd c (by decide)) (fun _ => ?_)
      refine v_aload_n O dX10_takesNumber_21 0 rfl ?_
      refine v_cV (T := TX10) (ci := 10) (As := []) (wr := []) (st := []) O cf_X10_195 rfl (sp_X10_isDigit (mo := mo) (ma := ma) (c := c) (c2 := c2) (tk := tk) (vc := vc) (ln := ln) (rn := rn) (zs_11 := (nI (dgN (sgT tb ln p)))) (zs_20 := zs_20) (zs_21 := zs_21) (zs_22 := zs_22) (zs_25 := zs_25) (zs_26 := zs_26) (zs_27 := zs_27) (zs_29 := zs_29) (tb := tb) (p := (p + 1)) (hln) (by omega)) dX10_takesNumber_22 rfl rfl 0 rfl [0, 1] [] (by decide) rfl rfl (by decide) (by decide) (by decide) (Nat.le_of_ble_eq_true rfl) (by decide) (by decide) (fun r_13 w_14 h_12 => ?_)
      obtain ⟨rfl, rfl⟩ := h_12
      refine v_eq (st' := [.int (b2i (isd (sgT tb ln (p + 1))))]) (ws' := [(mo, .inr (10, M1R ma (mZ c c2 tk vc ln rn (nI (p + 1)) (nI (dgN (sgT tb ln p))) zs_20 zs_21 zs_22 zs_25 zs_26 zs_27 zs_29))), ((ma 12), eI D 100 tb)]) rfl rfl rfl rfl ?_
      refine v_if_eq O 63 dX10_takesNumber_25 (by decide) (fun z5 => ?_) (fun z5 => ?_)
      · skip
        have z5 := b2i_0.mp z5
        refine v_iconst (v := 1) O dX10_takesNumber_63 (by decide) ?_
        exact v_ireturn O T rfl rfl (by decide) (by decide) dX10_takesNumber_64 (⟨rfl, by unfold numE numN; rw [if_neg z5, if_neg z5]⟩)
      · skip
        have z5 := b2i_1.mp z5
        have z6 := isd_lt z5
        refine v_aload_n O dX10_takesNumber_28 0 rfl ?_
        refine v_bipush (v := 10) O dX10_takesNumber_29 (by decide) ?_
        refine v_aload_n O dX10_takesNumber_31 0 rfl ?_
        refine gf_X10_44 (v := .int (nI (dgN (sgT tb ln p)))) O rfl dX10_takesNumber_32 0 rfl rfl ?_
        refine v_imul O dX10_takesNumber_35 ?_
        refine v_top (y := nI (10 * (dgN (sgT tb ln p)))) (pk_mul 10 (dgN (sgT tb ln p))) ?_
        refine v_aload_n O dX10_takesNumber_36 0 rfl ?_
        refine v_cV (T := TX10) (ci := 10) (As := []) (wr := []) (st := [.int (nI (10 * (dgN (sgT tb ln p)))), .ref mo]) O cf_X10_188 rfl (sp_X10_next (mo := mo) (ma := ma) (c := c) (c2 := c2) (tk := tk) (vc := vc) (ln := ln) (rn := rn) (zs_11 := (nI (dgN (sgT tb ln p)))) (zs_20 := zs_20) (zs_21 := zs_21) (zs_22 := zs_22) (zs_25 := zs_25) (zs_26 := zs_26) (zs_27 := zs_27) (zs_29 := zs_29) (tb := tb) (p := (p + 1)) (hln) (by omega)) dX10_takesNumber_37 rfl rfl 0 rfl [0, 1] [] (by decide) rfl rfl (by decide) (by decide) (by decide) (Nat.le_of_ble_eq_true rfl) (by decide) (by decide) (fun r_16 w_17 h_15 => ?_)
        obtain ⟨rfl, rfl⟩ := h_15
        refine v_eq (st' := [.int (sgT tb ln (p + 1)), .int (nI (10 * (dgN (sgT tb ln p)))), .ref mo]) (ws' := [(mo, .inr (10, M1R ma (mZ c c2 tk vc ln rn (nI (p + 1)) (nI (dgN (sgT tb ln p))) zs_20 zs_21 zs_22 zs_25 zs_26 zs_27 zs_29))), ((ma 12), eI D 100 tb)]) rfl rfl rfl rfl ?_
        refine v_iadd O dX10_takesNumber_40 ?_
        refine v_bipush (v := 48) O dX10_takesNumber_41 (by decide) ?_
        refine v_isub O dX10_takesNumber_43 ?_
        refine v_top (y := nI (dgN (sgT tb ln p) * 10 + dgN (sgT tb ln (p + 1)))) ((num_c z5).trans (by rw [Nat.mul_comm 10])) ?_
        refine pf_X10_44 (fs' := M1R ma (mZ c c2 tk vc ln rn (nI (p + 1)) (nI (dgN (sgT tb ln p) * 10 + dgN (sgT tb ln (p + 1)))) zs_20 zs_21 zs_22 zs_25 zs_26 zs_27 zs_29)) (ws' := [(mo, .inr (10, M1R ma (mZ c c2 tk vc ln rn (nI (p + 1)) (nI (dgN (sgT tb ln p) * 10 + dgN (sgT tb ln (p + 1)))) zs_20 zs_21 zs_22 zs_25 zs_26 zs_27 zs_29))), ((ma 12), eI D 100 tb)]) O rfl dX10_takesNumber_44 0 rfl (Nat.le_of_ble_eq_true rfl) rfl rfl ?_
        refine v_aload_n O dX10_takesNumber_47 0 rfl ?_
        refine v_dup O dX10_takesNumber_48 rfl ?_
        refine gf_X10_41 (v := .int (nI (p + 1))) O rfl dX10_takesNumber_49 0 rfl rfl ?_
        refine v_iconst (v := 1) O dX10_takesNumber_52 (by decide) ?_
        refine v_iadd O dX10_takesNumber_53 ?_
        refine v_top (y := nI ((p + 1) + 1)) (nI_add (p + 1) 1) ?_
        refine pf_X10_41 (fs' := M1R ma (mZ c c2 tk vc ln rn (nI ((p + 1) + 1)) (nI (dgN (sgT tb ln p) * 10 + dgN (sgT tb ln (p + 1)))) zs_20 zs_21 zs_22 zs_25 zs_26 zs_27 zs_29)) (ws' := [(mo, .inr (10, M1R ma (mZ c c2 tk vc ln rn (nI ((p + 1) + 1)) (nI (dgN (sgT tb ln p) * 10 + dgN (sgT tb ln (p + 1)))) zs_20 zs_21 zs_22 zs_25 zs_26 zs_27 zs_29))), ((ma 12), eI D 100 tb)]) O rfl dX10_takesNumber_54 0 rfl (Nat.le_of_ble_eq_true rfl) rfl rfl ?_
        refine v_iinc (v := 2) (lv' := [(0, .ref mo), (1, .int 2)]) O dX10_takesNumber_57 1 rfl (by decide) (by decide) rfl ?_
        refine v_goto O 16 dX10_takesNumber_60 (by decide) ?_
        refine v_iload_n O dX10_takesNumber_16 1 rfl ?_
        refine v_iconst (v := 2) O dX10_takesNumber_17 (by decide) ?_
        refine v_icmp_ge O 63 dX10_takesNumber_18 (by decide) (fun _ => ?_) (fun c => absurd c (by decide))
        refine v_iconst (v := 1) O dX10_takesNumber_63 (by decide) ?_
        exact v_ireturn O T rfl rfl (by decide) (by decide) dX10_takesNumber_64 (⟨rfl, by unfold numE numN; rw [if_pos z5, if_pos z5]⟩)
  · skip
    have z1 := b2i_0.mp z1
    exact absurd hd z1
set_option maxRecDepth 100000 in
set_option maxHeartbeats 4000000 in
theorem sp_X10_num_f {D : G} {mo : Nat} {ma : Nat → Nat} {c : CS} {c2 : CS} {tk : Int32} {vc : Nat} {ln : Nat} {rn : Nat} {zs_11 : Int32} {zs_20 : Int32} {zs_21 : Int32} {zs_22 : Int32} {zs_25 : Int32} {zs_26 : Int32} {zs_27 : Int32} {zs_29 : Int32} {tb : Nat → Int32} {p : Nat} (hln : ln ≤ 100) (hp : p ≤ ln) (hd : ¬ isd (sgT tb ln p)) : Sp D mX10_takesNumber 2 0 0 [.ref mo] [(mo, .inr (10, M1R ma (mZ c c2 tk vc ln rn (nI p) zs_11 zs_20 zs_21 zs_22 zs_25 zs_26 zs_27 zs_29))), ((ma 12), eI D 100 tb)] (fun r w => r = some (.int 0) ∧ w = [(mo, .inr (10, M1R ma (mZ c c2 tk vc ln rn (nI p) zs_11 zs_20 zs_21 zs_22 zs_25 zs_26 zs_27 zs_29))), ((ma 12), eI D 100 tb)]) := by
  refine Sp.of (by decide) (Nat.le_of_ble_eq_true rfl) (fun X O T => ?_)
  refine v_eq (lv' := [(0, .ref mo)]) rfl rfl rfl rfl ?_
  refine v_aload_n O dX10_takesNumber_0 0 rfl ?_
  refine v_cV (T := TX10) (ci := 10) (As := []) (wr := []) (st := []) O cf_X10_195 rfl (sp_X10_isDigit (mo := mo) (ma := ma) (c := c) (c2 := c2) (tk := tk) (vc := vc) (ln := ln) (rn := rn) (zs_11 := zs_11) (zs_20 := zs_20) (zs_21 := zs_21) (zs_22 := zs_22) (zs_25 := zs_25) (zs_26 := zs_26) (zs_27 := zs_27) (zs_29 := zs_29) (tb := tb) (p := p) (hln) (by omega)) dX10_takesNumber_1 rfl rfl 0 rfl [0, 1] [] (by decide) rfl rfl (by decide) (by decide) (by decide) (Nat.le_of_ble_eq_true rfl) (by decide) (by decide) (fun r_2 w_3 h_1 => ?_)
  obtain ⟨rfl, rfl⟩ := h_1
  refine v_eq (st' := [.int (b2i (isd (sgT tb ln p)))]) (ws' := [(mo, .inr (10, M1R ma (mZ c c2 tk vc ln rn (nI p) zs_11 zs_20 zs_21 zs_22 zs_25 zs_26 zs_27 zs_29))), ((ma 12), eI D 100 tb)]) rfl rfl rfl rfl ?_
  refine v_if_ne O 9 dX10_takesNumber_4 (by decide) (fun z1 => ?_) (fun z1 => ?_)
  · skip
    have z1 := b2i_1.mp z1
    exact absurd z1 hd
  · skip
    have z1 := b2i_0.mp z1
    refine v_iconst (v := 0) O dX10_takesNumber_7 (by decide) ?_
    exact v_ireturn O T rfl rfl (by decide) (by decide) dX10_takesNumber_8 (⟨rfl, rfl⟩)
set_option maxRecDepth 100000 in
set_option maxHeartbeats 4000000 in
theorem sp_X10_put {D : G} {mo : Nat} {ma : Nat → Nat} {c : CS} {c2 : CS} {tk : Int32} {vc : Nat} {ln : Nat} {rn : Nat} {zs_10 : Int32} {zs_11 : Int32} {zs_21 : Int32} {zs_22 : Int32} {zs_25 : Int32} {zs_26 : Int32} {zs_27 : Int32} {zs_29 : Int32} {sf : Nat → Int32} {g : Nat} {x : Int32} (hg : g < 600) : Sp D mX10_put 0 0 0 [.ref mo, .int x] [(mo, .inr (10, M1R ma (mZ c c2 tk vc ln rn zs_10 zs_11 (nI g) zs_21 zs_22 zs_25 zs_26 zs_27 zs_29))), ((ma 18), eI D 600 sf)] (fun r w => r = none ∧ w = [(mo, .inr (10, M1R ma (mZ c c2 tk vc ln rn zs_10 zs_11 (nI (g + 1)) zs_21 zs_22 zs_25 zs_26 zs_27 zs_29))), ((ma 18), eI D 600 (upd sf g x))]) := by
  refine Sp.of (by decide) (Nat.le_of_ble_eq_true rfl) (fun X O T => ?_)
  refine v_eq (lv' := [(0, .ref mo), (1, .int x)]) rfl rfl rfl rfl ?_
  refine v_aload_n O dX10_put_0 0 rfl ?_
  refine gf_X10_65 (v := .ref (ma 18)) O rfl dX10_put_1 0 rfl rfl ?_
  refine v_aload_n O dX10_put_4 0 rfl ?_
  refine gf_X10_71 (v := .int (nI g)) O rfl dX10_put_5 0 rfl rfl ?_
  refine v_iload_n O dX10_put_8 1 rfl ?_
  refine v_iastk (ws' := [(mo, .inr (10, M1R ma (mZ c c2 tk vc ln rn zs_10 zs_11 (nI g) zs_21 zs_22 zs_25 zs_26 zs_27 zs_29))), ((ma 18), eI D 600 (upd sf g x))]) O dX10_put_9 1 rfl g (rfl) (by omega) (by decide) (rfl) ?_
  refine v_aload_n O dX10_put_10 0 rfl ?_
  refine v_dup O dX10_put_11 rfl ?_
  refine gf_X10_71 (v := .int (nI g)) O rfl dX10_put_12 0 rfl rfl ?_
  refine v_iconst (v := 1) O dX10_put_15 (by decide) ?_
  refine v_iadd O dX10_put_16 ?_
  refine v_top (y := nI (g + 1)) (nI_add g 1) ?_
  refine pf_X10_71 (fs' := M1R ma (mZ c c2 tk vc ln rn zs_10 zs_11 (nI (g + 1)) zs_21 zs_22 zs_25 zs_26 zs_27 zs_29)) (ws' := [(mo, .inr (10, M1R ma (mZ c c2 tk vc ln rn zs_10 zs_11 (nI (g + 1)) zs_21 zs_22 zs_25 zs_26 zs_27 zs_29))), ((ma 18), eI D 600 (upd sf g x))]) O rfl dX10_put_17 0 rfl (Nat.le_of_ble_eq_true rfl) rfl rfl ?_
  exact v_return O T rfl (by decide) (by decide) dX10_put_20 (⟨rfl, rfl⟩)
set_option maxRecDepth 100000 in
set_option maxHeartbeats 4000000 in
theorem l_X10_whole {D : G} {X : CX} {mo : Nat} {ma : Nat → Nat} {c : CS} {c2 : CS} {tk : Int32} {vc : Nat} {ln : Nat} {rn : Nat} {zs_10 : Int32} {zs_11 : Int32} {zs_25 : Int32} {zs_26 : Int32} {zs_27 : Int32} {zs_29 : Int32} {wf : Nat → Int32} {P : Option Value → va_W → Prop} (O : Ok D X mX10_whole 1 0 0) (T : Rt D X P 0 0) : ∀ (W : List Int32) (g op : Nat) (sf : Nat → Int32), stk wf W → W.length ≤ 101 → g + W.length ≤ 600 → whlN W ≤ op → op ≤ 200 → P none [(mo, .inr (10, M1R ma (mZ c c2 tk vc ln rn zs_10 zs_11 (nI (g + whlN W)) (nI ((whlW W).length)) (nI (op - whlN W)) zs_25 zs_26 zs_27 zs_29))), ((ma 18), eI D 600 (wr sf g (List.replicate (whlN W) (-33)))), ((ma 19), eI D 101 wf)] → V D X 0 0 0 [(0, .ref mo)] [] [(mo, .inr (10, M1R ma (mZ c c2 tk vc ln rn zs_10 zs_11 (nI g) (nI W.length) (nI op) zs_25 zs_26 zs_27 zs_29))), ((ma 18), eI D 600 sf), ((ma 19), eI D 101 wf)] := by
  intro W
  induction W with
  | nil =>
    intro g op sf h1 h2 h3 h4 h5 hP
    refine v_eq (ws' := [(mo, .inr (10, M1R ma (mZ c c2 tk vc ln rn zs_10 zs_11 (nI g) 0 (nI op) zs_25 zs_26 zs_27 zs_29))), ((ma 18), eI D 600 sf), ((ma 19), eI D 101 wf)]) rfl rfl rfl rfl ?_
    refine v_aload_n O dX10_whole_0 0 rfl ?_
    refine gf_X10_74 (v := .int 0) O rfl dX10_whole_1 0 rfl rfl ?_
    refine v_if_le O 52 dX10_whole_4 (by decide) (fun _ => ?_) (fun c => absurd c (by decide))
    exact v_return O T rfl (by decide) (by decide) dX10_whole_52 (by exact hP)
  | cons x W ih =>
    intro g op sf h1 h2 h3 h4 h5 hP
    rw [List.length_cons] at h2 h3
    refine v_eq (ws' := [(mo, .inr (10, M1R ma (mZ c c2 tk vc ln rn zs_10 zs_11 (nI g) (nI (W.length + 1)) (nI op) zs_25 zs_26 zs_27 zs_29))), ((ma 18), eI D 600 sf), ((ma 19), eI D 101 wf)]) rfl rfl rfl rfl ?_
    refine v_aload_n O dX10_whole_0 0 rfl ?_
    refine gf_X10_74 (v := .int (nI (W.length + 1))) O rfl dX10_whole_1 0 rfl rfl ?_
    refine v_if_le O 52 dX10_whole_4 (by decide) (fun z1 => ?_) (fun z1 => ?_)
    · skip
      have z1 := (c_le (x := nI (W.length + 1)) (y := 0) (a := W.length + 1) (b := 0) rfl rfl (by omega) (by omega)).mp z1
      exact absurd z1 (by omega)
    · skip
      have z1 := (not_congr (c_le (x := nI (W.length + 1)) (y := 0) (a := W.length + 1) (b := 0) rfl rfl (by omega) (by omega))).mp z1
      refine v_aload_n O dX10_whole_7 0 rfl ?_
      refine gf_X10_68 (v := .ref (ma 19)) O rfl dX10_whole_8 0 rfl rfl ?_
      refine v_aload_n O dX10_whole_11 0 rfl ?_
      refine gf_X10_74 (v := .int (nI (W.length + 1))) O rfl dX10_whole_12 0 rfl rfl ?_
      refine v_iconst (v := 1) O dX10_whole_15 (by decide) ?_
      refine v_isub O dX10_whole_16 ?_
      refine v_top (y := nI W.length) (nI_p _) ?_
      refine v_ialdk O dX10_whole_17 2 rfl W.length rfl (by omega) (by decide) ?_
      refine v_top (y := x) (h1.1) ?_
      refine v_bipush (v := 33) O dX10_whole_18 (by decide) ?_
      refine v_icmp_ne O 52 dX10_whole_20 (by decide) (fun z2 => ?_) (fun z2 => ?_)
      · skip
        rw [(whl_o z2).1, (whl_o z2).2] at hP
        exact v_return O T rfl (by decide) (by decide) dX10_whole_52 (by exact hP)
      · skip
        refine v_aload_n O dX10_whole_23 0 rfl ?_
        refine v_bipush (v := -33) O dX10_whole_24 (by decide) ?_
        refine v_cV (T := TX10) (ci := 10) (As := [.int (-33)]) (wr := [((ma 19), eI D 101 wf)]) (st := []) O cf_X10_199 rfl (sp_X10_put (mo := mo) (ma := ma) (c := c) (c2 := c2) (tk := tk) (vc := vc) (ln := ln) (rn := rn) (zs_10 := zs_10) (zs_11 := zs_11) (zs_21 := (nI (W.length + 1))) (zs_22 := (nI op)) (zs_25 := zs_25) (zs_26 := zs_26) (zs_27 := zs_27) (zs_29 := zs_29) (sf := sf) (g := g) (x := (-33)) (by omega)) dX10_whole_26 rfl rfl 0 rfl [0, 1] [2] (by decide) rfl rfl (by decide) (by decide) (by decide) (Nat.le_of_ble_eq_true rfl) (by decide) (by decide) (fun r_2 w_3 h_1 => ?_)
        obtain ⟨rfl, rfl⟩ := h_1
        refine v_eq (st' := []) (ws' := [((ma 19), eI D 101 wf), (mo, .inr (10, M1R ma (mZ c c2 tk vc ln rn zs_10 zs_11 (nI (g + 1)) (nI (W.length + 1)) (nI op) zs_25 zs_26 zs_27 zs_29))), ((ma 18), eI D 600 (upd sf g (-33)))]) rfl rfl rfl rfl ?_
        refine v_aload_n O dX10_whole_29 0 rfl ?_
        refine v_dup O dX10_whole_30 rfl ?_
        refine gf_X10_74 (v := .int (nI (W.length + 1))) O rfl dX10_whole_31 1 rfl rfl ?_
        refine v_iconst (v := 1) O dX10_whole_34 (by decide) ?_
        refine v_isub O dX10_whole_35 ?_
        refine v_top (y := nI W.length) (nI_p _) ?_
        refine pf_X10_74 (fs' := M1R ma (mZ c c2 tk vc ln rn zs_10 zs_11 (nI (g + 1)) (nI W.length) (nI op) zs_25 zs_26 zs_27 zs_29)) (ws' := [((ma 19), eI D 101 wf), (mo, .inr (10, M1R ma (mZ c c2 tk vc ln rn zs_10 zs_11 (nI (g + 1)) (nI W.length) (nI op) zs_25 zs_26 zs_27 zs_29))), ((ma 18), eI D 600 (upd sf g (-33)))]) O rfl dX10_whole_36 1 rfl (Nat.le_of_ble_eq_true rfl) rfl rfl ?_
        refine v_aload_n O dX10_whole_39 0 rfl ?_
        refine v_dup O dX10_whole_40 rfl ?_
        refine gf_X10_77 (v := .int (nI op)) O rfl dX10_whole_41 1 rfl rfl ?_
        refine v_iconst (v := 1) O dX10_whole_44 (by decide) ?_
        have h4b : 1 ≤ op := by rw [whlN, if_pos z2] at h4; omega
        refine v_isub O dX10_whole_45 ?_
        refine v_top (y := nI (op - 1)) ((show nI op - nI 1 = nI (op - 1) from pk_sub (by omega))) ?_
        refine pf_X10_77 (fs' := M1R ma (mZ c c2 tk vc ln rn zs_10 zs_11 (nI (g + 1)) (nI W.length) (nI (op - 1)) zs_25 zs_26 zs_27 zs_29)) (ws' := [((ma 19), eI D 101 wf), (mo, .inr (10, M1R ma (mZ c c2 tk vc ln rn zs_10 zs_11 (nI (g + 1)) (nI W.length) (nI (op - 1)) zs_25 zs_26 zs_27 zs_29))), ((ma 18), eI D 600 (upd sf g (-33)))]) O rfl dX10_whole_46 1 rfl (Nat.le_of_ble_eq_true rfl) rfl rfl ?_
        refine v_goto O 0 dX10_whole_49 (by decide) ?_
        refine v_sub (ws' := [(mo, .inr (10, M1R ma (mZ c c2 tk vc ln rn zs_10 zs_11 (nI (g + 1)) (nI W.length) (nI (op - 1)) zs_25 zs_26 zs_27 zs_29))), ((ma 18), eI D 600 (upd sf g (-33))), ((ma 19), eI D 101 wf)]) [1, 2, 0] (by decide) rfl ?_
        exact ih (g + 1) (op - 1) _ h1.2 (by omega) (by omega) (by rw [whlN, if_pos z2] at h4; omega) (by omega) (by rw [whlN, whlW, if_pos z2, if_pos z2, List.replicate_succ, show g + (whlN W + 1) = g + 1 + whlN W by omega, show op - (whlN W + 1) = op - 1 - whlN W by omega] at hP; exact hP)
theorem sp_X10_whole {D : G} {mo : Nat} {ma : Nat → Nat} {c : CS} {c2 : CS} {tk : Int32} {vc : Nat} {ln : Nat} {rn : Nat} {zs_10 : Int32} {zs_11 : Int32} {zs_25 : Int32} {zs_26 : Int32} {zs_27 : Int32} {zs_29 : Int32} {sf : Nat → Int32} {wf : Nat → Int32} {g : Nat} {op : Nat} {W : List Int32} (hst : stk wf W) (hwl : W.length ≤ 101) (hg : g + W.length ≤ 600) (ho : whlN W ≤ op) (ho2 : op ≤ 200) : Sp D mX10_whole 1 0 0 [.ref mo] [(mo, .inr (10, M1R ma (mZ c c2 tk vc ln rn zs_10 zs_11 (nI g) (nI W.length) (nI op) zs_25 zs_26 zs_27 zs_29))), ((ma 18), eI D 600 sf), ((ma 19), eI D 101 wf)] (fun r w => r = none ∧ w = [(mo, .inr (10, M1R ma (mZ c c2 tk vc ln rn zs_10 zs_11 (nI (g + whlN W)) (nI ((whlW W).length)) (nI (op - whlN W)) zs_25 zs_26 zs_27 zs_29))), ((ma 18), eI D 600 (wr sf g (List.replicate (whlN W) (-33)))), ((ma 19), eI D 101 wf)]) := by
  refine Sp.of (by decide) (Nat.le_of_ble_eq_true rfl) (fun X O T => ?_)
  refine v_eq (lv' := [(0, .ref mo)]) rfl rfl rfl rfl ?_
  exact l_X10_whole O T W g op sf hst hwl hg ho ho2 ⟨rfl, rfl⟩
set_option maxRecDepth 100000 in
set_option maxHeartbeats 4000000 in
theorem l_X10_settle {D : G} {X : CX} {mo : Nat} {ma : Nat → Nat} {c : CS} {c2 : CS} {tk : Int32} {vc : Nat} {ln : Nat} {rn : Nat} {zs_10 : Int32} {zs_11 : Int32} {zs_22 : Int32} {zs_25 : Int32} {zs_26 : Int32} {zs_27 : Int32} {zs_29 : Int32} {wf : Nat → Int32} {s : Int32} {P : Option Value → va_W → Prop} (O : Ok D X mX10_settle 1 0 0) (T : Rt D X P 0 0) : ∀ (W : List Int32) (g : Nat) (sf : Nat → Int32), stk wf W → W.length ≤ 101 → g + W.length ≤ 600 → P none [(mo, .inr (10, M1R ma (mZ c c2 tk vc ln rn zs_10 zs_11 (nI (g + (stlL s W).length)) (nI ((stlW s W).length)) zs_22 zs_25 zs_26 zs_27 zs_29))), ((ma 18), eI D 600 (wr sf g (stlL s W))), ((ma 19), eI D 101 wf)] → V D X 0 0 0 [(0, .ref mo), (1, .int s)] [] [(mo, .inr (10, M1R ma (mZ c c2 tk vc ln rn zs_10 zs_11 (nI g) (nI W.length) zs_22 zs_25 zs_26 zs_27 zs_29))), ((ma 18), eI D 600 sf), ((ma 19), eI D 101 wf)] := by
  intro W
  induction W with
  | nil =>
    intro g sf h1 h2 h3 hP
    refine v_eq (ws' := [(mo, .inr (10, M1R ma (mZ c c2 tk vc ln rn zs_10 zs_11 (nI g) 0 zs_22 zs_25 zs_26 zs_27 zs_29))), ((ma 18), eI D 600 sf), ((ma 19), eI D 101 wf)]) rfl rfl rfl rfl ?_
    refine v_aload_n O dX10_settle_0 0 rfl ?_
    refine gf_X10_74 (v := .int 0) O rfl dX10_settle_1 0 rfl rfl ?_
    refine v_if_le O 72 dX10_settle_4 (by decide) (fun _ => ?_) (fun c => absurd c (by decide))
    exact v_return O T rfl (by decide) (by decide) dX10_settle_72 (by exact hP)
  | cons x W ih =>
    intro g sf h1 h2 h3 hP
    rw [List.length_cons] at h2 h3
    refine v_eq (ws' := [(mo, .inr (10, M1R ma (mZ c c2 tk vc ln rn zs_10 zs_11 (nI g) (nI (W.length + 1)) zs_22 zs_25 zs_26 zs_27 zs_29))), ((ma 18), eI D 600 sf), ((ma 19), eI D 101 wf)]) rfl rfl rfl rfl ?_
    refine v_aload_n O dX10_settle_0 0 rfl ?_
    refine gf_X10_74 (v := .int (nI (W.length + 1))) O rfl dX10_settle_1 0 rfl rfl ?_
    refine v_if_le O 72 dX10_settle_4 (by decide) (fun z1 => ?_) (fun z1 => ?_)
    · skip
      have z1 := (c_le (x := nI (W.length + 1)) (y := 0) (a := W.length + 1) (b := 0) rfl rfl (by omega) (by omega)).mp z1
      exact absurd z1 (by omega)
    · skip
      have z1 := (not_congr (c_le (x := nI (W.length + 1)) (y := 0) (a := W.length + 1) (b := 0) rfl rfl (by omega) (by omega))).mp z1
      refine v_aload_n O dX10_settle_7 0 rfl ?_
      refine gf_X10_68 (v := .ref (ma 19)) O rfl dX10_settle_8 0 rfl rfl ?_
      refine v_aload_n O dX10_settle_11 0 rfl ?_
      refine gf_X10_74 (v := .int (nI (W.length + 1))) O rfl dX10_settle_12 0 rfl rfl ?_
      refine v_iconst (v := 1) O dX10_settle_15 (by decide) ?_
      refine v_isub O dX10_settle_16 ?_
      refine v_top (y := nI W.length) (nI_p _) ?_
      refine v_ialdk O dX10_settle_17 2 rfl W.length rfl (by omega) (by decide) ?_
      refine v_top (y := x) (h1.1) ?_
      refine v_bipush (v := 38) O dX10_settle_18 (by decide) ?_
      refine v_icmp_eq O 45 dX10_settle_20 (by decide) (fun z2 => ?_) (fun z2 => ?_)
      · skip
        refine v_aload_n O dX10_settle_45 0 rfl ?_
        refine v_dup O dX10_settle_46 rfl ?_
        refine gf_X10_74 (v := .int (nI (W.length + 1))) O rfl dX10_settle_47 0 rfl rfl ?_
        refine v_iconst (v := 1) O dX10_settle_50 (by decide) ?_
        refine v_isub O dX10_settle_51 ?_
        refine v_top (y := nI W.length) (nI_p _) ?_
        refine pf_X10_74 (fs' := M1R ma (mZ c c2 tk vc ln rn zs_10 zs_11 (nI g) (nI W.length) zs_22 zs_25 zs_26 zs_27 zs_29)) (ws' := [(mo, .inr (10, M1R ma (mZ c c2 tk vc ln rn zs_10 zs_11 (nI g) (nI W.length) zs_22 zs_25 zs_26 zs_27 zs_29))), ((ma 18), eI D 600 sf), ((ma 19), eI D 101 wf)]) O rfl dX10_settle_52 0 rfl (Nat.le_of_ble_eq_true rfl) rfl rfl ?_
        refine v_aload_n O dX10_settle_55 0 rfl ?_
        refine v_aload_n O dX10_settle_56 0 rfl ?_
        refine gf_X10_68 (v := .ref (ma 19)) O rfl dX10_settle_57 0 rfl rfl ?_
        refine v_aload_n O dX10_settle_60 0 rfl ?_
        refine gf_X10_74 (v := .int (nI W.length)) O rfl dX10_settle_61 0 rfl rfl ?_
        refine v_ialdk O dX10_settle_64 2 rfl W.length rfl (by omega) (by decide) ?_
        refine v_top (y := x) (h1.1) ?_
        refine v_ineg O dX10_settle_65 ?_
        refine v_cV (T := TX10) (ci := 10) (As := [.int (-x)]) (wr := [((ma 19), eI D 101 wf)]) (st := []) O cf_X10_199 rfl (sp_X10_put (mo := mo) (ma := ma) (c := c) (c2 := c2) (tk := tk) (vc := vc) (ln := ln) (rn := rn) (zs_10 := zs_10) (zs_11 := zs_11) (zs_21 := (nI W.length)) (zs_22 := zs_22) (zs_25 := zs_25) (zs_26 := zs_26) (zs_27 := zs_27) (zs_29 := zs_29) (sf := sf) (g := g) (x := (-x)) (by omega)) dX10_settle_66 rfl rfl 0 rfl [0, 1] [2] (by decide) rfl rfl (by decide) (by decide) (by decide) (Nat.le_of_ble_eq_true rfl) (by decide) (by decide) (fun r_2 w_3 h_1 => ?_)
        obtain ⟨rfl, rfl⟩ := h_1
        refine v_eq (st' := []) (ws' := [((ma 19), eI D 101 wf), (mo, .inr (10, M1R ma (mZ c c2 tk vc ln rn zs_10 zs_11 (nI (g + 1)) (nI W.length) zs_22 zs_25 zs_26 zs_27 zs_29))), ((ma 18), eI D 600 (upd sf g (-x)))]) rfl rfl rfl rfl ?_
        refine v_goto O 0 dX10_settle_69 (by decide) ?_
        refine v_sub (ws' := [(mo, .inr (10, M1R ma (mZ c c2 tk vc ln rn zs_10 zs_11 (nI (g + 1)) (nI W.length) zs_22 zs_25 zs_26 zs_27 zs_29))), ((ma 18), eI D 600 (upd sf g (-x))), ((ma 19), eI D 101 wf)]) [1, 2, 0] (by decide) rfl ?_
        exact ih (g + 1) _ h1.2 (by omega) (by omega) (by rw [(stl_i (Or.inl z2)).1, (stl_i (Or.inl z2)).2, len_c] at hP; exact hP)
      · skip
        refine v_aload_n O dX10_settle_23 0 rfl ?_
        refine gf_X10_68 (v := .ref (ma 19)) O rfl dX10_settle_24 0 rfl rfl ?_
        refine v_aload_n O dX10_settle_27 0 rfl ?_
        refine gf_X10_74 (v := .int (nI (W.length + 1))) O rfl dX10_settle_28 0 rfl rfl ?_
        refine v_iconst (v := 1) O dX10_settle_31 (by decide) ?_
        refine v_isub O dX10_settle_32 ?_
        refine v_top (y := nI W.length) (nI_p _) ?_
        refine v_ialdk O dX10_settle_33 2 rfl W.length rfl (by omega) (by decide) ?_
        refine v_top (y := x) (h1.1) ?_
        refine v_bipush (v := 124) O dX10_settle_34 (by decide) ?_
        refine v_icmp_ne O 72 dX10_settle_36 (by decide) (fun z3 => ?_) (fun z3 => ?_)
        · skip
          rw [(stl_o (fun q => q.elim (fun q => z2 q) (fun q => z3 q.1))).1, (stl_o (fun q => q.elim (fun q => z2 q) (fun q => z3 q.1))).2] at hP
          exact v_return O T rfl (by decide) (by decide) dX10_settle_72 (by exact hP)
        · skip
          refine v_iload_n O dX10_settle_39 1 rfl ?_
          refine v_bipush (v := 38) O dX10_settle_40 (by decide) ?_
          refine v_icmp_eq O 72 dX10_settle_42 (by decide) (fun z4 => ?_) (fun z4 => ?_)
          · skip
            rw [(stl_o (fun q => q.elim (fun q => z2 q) (fun q => q.2 z4))).1, (stl_o (fun q => q.elim (fun q => z2 q) (fun q => q.2 z4))).2] at hP
            exact v_return O T rfl (by decide) (by decide) dX10_settle_72 (by exact hP)
          · skip
            refine v_aload_n O dX10_settle_45 0 rfl ?_
            refine v_dup O dX10_settle_46 rfl ?_
            refine gf_X10_74 (v := .int (nI (W.length + 1))) O rfl dX10_settle_47 0 rfl rfl ?_
            refine v_iconst (v := 1) O dX10_settle_50 (by decide) ?_
            refine v_isub O dX10_settle_51 ?_
            refine v_top (y := nI W.length) (nI_p _) ?_
            refine pf_X10_74 (fs' := M1R ma (mZ c c2 tk vc ln rn zs_10 zs_11 (nI g) (nI W.length) zs_22 zs_25 zs_26 zs_27 zs_29)) (ws' := [(mo, .inr (10, M1R ma (mZ c c2 tk vc ln rn zs_10 zs_11 (nI g) (nI W.length) zs_22 zs_25 zs_26 zs_27 zs_29))), ((ma 18), eI D 600 sf), ((ma 19), eI D 101 wf)]) O rfl dX10_settle_52 0 rfl (Nat.le_of_ble_eq_true rfl) rfl rfl ?_
            refine v_aload_n O dX10_settle_55 0 rfl ?_
            refine v_aload_n O dX10_settle_56 0 rfl ?_
            refine gf_X10_68 (v := .ref (ma 19)) O rfl dX10_settle_57 0 rfl rfl ?_
            refine v_aload_n O dX10_settle_60 0 rfl ?_
            refine gf_X10_74 (v := .int (nI W.length)) O rfl dX10_settle_61 0 rfl rfl ?_
            refine v_ialdk O dX10_settle_64 2 rfl W.length rfl (by omega) (by decide) ?_
            refine v_top (y := x) (h1.1) ?_
            refine v_ineg O dX10_settle_65 ?_
            refine v_cV (T := TX10) (ci := 10) (As := [.int (-x)]) (wr := [((ma 19), eI D 101 wf)]) (st := []) O cf_X10_199 rfl (sp_X10_put (mo := mo) (ma := ma) (c := c) (c2 := c2) (tk := tk) (vc := vc) (ln := ln) (rn := rn) (zs_10 := zs_10) (zs_11 := zs_11) (zs_21 := (nI W.length)) (zs_22 := zs_22) (zs_25 := zs_25) (zs_26 := zs_26) (zs_27 := zs_27) (zs_29 := zs_29) (sf := sf) (g := g) (x := (-x)) (by omega)) dX10_settle_66 rfl rfl 0 rfl [0, 1] [2] (by decide) rfl rfl (by decide) (by decide) (by decide) (Nat.le_of_ble_eq_true rfl) (by decide) (by decide) (fun r_5 w_6 h_4 => ?_)
            obtain ⟨rfl, rfl⟩ := h_4
            refine v_eq (st' := []) (ws' := [((ma 19), eI D 101 wf), (mo, .inr (10, M1R ma (mZ c c2 tk vc ln rn zs_10 zs_11 (nI (g + 1)) (nI W.length) zs_22 zs_25 zs_26 zs_27 zs_29))), ((ma 18), eI D 600 (upd sf g (-x)))]) rfl rfl rfl rfl ?_
            refine v_goto O 0 dX10_settle_69 (by decide) ?_
            refine v_sub (ws' := [(mo, .inr (10, M1R ma (mZ c c2 tk vc ln rn zs_10 zs_11 (nI (g + 1)) (nI W.length) zs_22 zs_25 zs_26 zs_27 zs_29))), ((ma 18), eI D 600 (upd sf g (-x))), ((ma 19), eI D 101 wf)]) [1, 2, 0] (by decide) rfl ?_
            exact ih (g + 1) _ h1.2 (by omega) (by omega) (by rw [(stl_i (Or.inr ⟨z3, z4⟩)).1, (stl_i (Or.inr ⟨z3, z4⟩)).2, len_c] at hP; exact hP)
theorem sp_X10_settle {D : G} {mo : Nat} {ma : Nat → Nat} {c : CS} {c2 : CS} {tk : Int32} {vc : Nat} {ln : Nat} {rn : Nat} {zs_10 : Int32} {zs_11 : Int32} {zs_22 : Int32} {zs_25 : Int32} {zs_26 : Int32} {zs_27 : Int32} {zs_29 : Int32} {sf : Nat → Int32} {wf : Nat → Int32} {g : Nat} {W : List Int32} {s : Int32} (hst : stk wf W) (hwl : W.length ≤ 101) (hg : g + W.length ≤ 600) : Sp D mX10_settle 1 0 0 [.ref mo, .int s] [(mo, .inr (10, M1R ma (mZ c c2 tk vc ln rn zs_10 zs_11 (nI g) (nI W.length) zs_22 zs_25 zs_26 zs_27 zs_29))), ((ma 18), eI D 600 sf), ((ma 19), eI D 101 wf)] (fun r w => r = none ∧ w = [(mo, .inr (10, M1R ma (mZ c c2 tk vc ln rn zs_10 zs_11 (nI (g + (stlL s W).length)) (nI ((stlW s W).length)) zs_22 zs_25 zs_26 zs_27 zs_29))), ((ma 18), eI D 600 (wr sf g (stlL s W))), ((ma 19), eI D 101 wf)]) := by
  refine Sp.of (by decide) (Nat.le_of_ble_eq_true rfl) (fun X O T => ?_)
  refine v_eq (lv' := [(0, .ref mo), (1, .int s)]) rfl rfl rfl rfl ?_
  exact l_X10_settle O T W g sf hst hwl hg ⟨rfl, rfl⟩
set_option maxRecDepth 100000 in
set_option maxHeartbeats 4000000 in
theorem sp_X10_place {D : G} {mo : Nat} {x : Int32} : Sp D mX10_place 0 0 0 [.ref mo, .int x] [] (fun r w => r = some (.int (ixL x)) ∧ w = []) := by
  refine Sp.of (by decide) (Nat.le_of_ble_eq_true rfl) (fun X O T => ?_)
  refine v_eq (lv' := [(0, .ref mo), (1, .int x)]) rfl rfl rfl rfl ?_
  refine v_iload_n O dX10_place_0 1 rfl ?_
  by_cases s_1 : x = 104
  · skip
    refine v_top s_1 ?_
    refine v_lks (off := 59) O 60 dX10_place_1 (by decide) (by decide) (by decide) ?_
    have z_104 := s_1
    refine v_iconst (v := 4) O dX10_place_60 (by decide) ?_
    exact v_ireturn O T rfl rfl (by decide) (by decide) dX10_place_61 (⟨by rw [z_104]; rfl, rfl⟩)
  by_cases s_2 : x = 105
  · skip
    refine v_top s_2 ?_
    refine v_lks (off := 51) O 52 dX10_place_1 (by decide) (by decide) (by decide) ?_
    have z_105 := s_2
    refine v_iconst (v := 0) O dX10_place_52 (by decide) ?_
    exact v_ireturn O T rfl rfl (by decide) (by decide) dX10_place_53 (⟨by rw [z_105]; rfl, rfl⟩)
  by_cases s_3 : x = 107
  · skip
    refine v_top s_3 ?_
    refine v_lks (off := 53) O 54 dX10_place_1 (by decide) (by decide) (by decide) ?_
    have z_107 := s_3
    refine v_iconst (v := 1) O dX10_place_54 (by decide) ?_
    exact v_ireturn O T rfl rfl (by decide) (by decide) dX10_place_55 (⟨by rw [z_107]; rfl, rfl⟩)
  by_cases s_4 : x = 118
  · skip
    refine v_top s_4 ?_
    refine v_lks (off := 55) O 56 dX10_place_1 (by decide) (by decide) (by decide) ?_
    have z_118 := s_4
    refine v_iconst (v := 2) O dX10_place_56 (by decide) ?_
    exact v_ireturn O T rfl rfl (by decide) (by decide) dX10_place_57 (⟨by rw [z_118]; rfl, rfl⟩)
  by_cases s_5 : x = 119
  · skip
    refine v_top s_5 ?_
    refine v_lks (off := 57) O 58 dX10_place_1 (by decide) (by decide) (by decide) ?_
    have z_119 := s_5
    refine v_iconst (v := 3) O dX10_place_58 (by decide) ?_
    exact v_ireturn O T rfl rfl (by decide) (by decide) dX10_place_59 (⟨by rw [z_119]; rfl, rfl⟩)
  refine v_lks (off := 61) O 62 dX10_place_1 (by decide) (lks_out (fun p hp => by simp at hp; rcases hp with rfl | rfl | rfl | rfl | rfl <;> exact i32_ne (by assumption) (by decide))) (by decide) ?_
  have z_104 := s_1
  have z_105 := s_2
  have z_107 := s_3
  have z_118 := s_4
  have z_119 := s_5
  refine v_iconst (v := -1) O dX10_place_62 (by decide) ?_
  exact v_ireturn O T rfl rfl (by decide) (by decide) dX10_place_63 (⟨by unfold ixL; rw [if_neg (fun e => z_105 e.symm), if_neg (fun e => z_107 e.symm), if_neg (fun e => z_118 e.symm), if_neg (fun e => z_119 e.symm), if_neg (fun e => z_104 e.symm)], rfl⟩)
set_option maxRecDepth 100000 in
set_option maxHeartbeats 4000000 in
theorem sp_X10_test_t {D : G} {mo : Nat} {ma : Nat → Nat} {c : CS} {c2 : CS} {tk : Int32} {vc : Nat} {ln : Nat} {rn : Nat} {zs_11 : Int32} {zs_25 : Int32} {zs_26 : Int32} {zs_27 : Int32} {zs_29 : Int32} {tb : Nat → Int32} {p : Nat} {sf : Nat → Int32} {wf : Nat → Int32} {g : Nat} {op : Nat} {W : List Int32} (hln : ln ≤ 100) (hp : p ≤ ln) (hst : stk wf W) (hwl : W.length ≤ 101) (hg : g + W.length ≤ 600) (ho : whlN W ≤ op) (ho2 : op ≤ 200) (hg1 : g + W.length < 600) (hk : okT (sgT tb ln) p) : Sp D mX10_takesTest 3 0 0 [.ref mo] [(mo, .inr (10, M1R ma (mZ c c2 tk vc ln rn (nI p) zs_11 (nI g) (nI W.length) (nI op) zs_25 zs_26 zs_27 zs_29))), ((ma 12), eI D 100 tb), ((ma 18), eI D 600 sf), ((ma 19), eI D 101 wf)] (fun r w => r = some (.int 1) ∧ w = [(mo, .inr (10, M1R ma (mZ c c2 tk vc ln rn (nI (numE (sgT tb ln) (p + 1 + 1))) (nI (numN (sgT tb ln) (p + 1 + 1))) (nI (g + ([cdR (sgT tb ln) p] ++ List.replicate (whlN W) (-33)).length)) (nI ((whlW W).length)) (nI (op - whlN W)) zs_25 zs_26 zs_27 zs_29))), ((ma 12), eI D 100 tb), ((ma 18), eI D 600 (wr sf g ([cdR (sgT tb ln) p] ++ List.replicate (whlN W) (-33)))), ((ma 19), eI D 101 wf)]) := by
  refine Sp.of (by decide) (Nat.le_of_ble_eq_true rfl) (fun X O T => ?_)
  refine v_eq (lv' := [(0, .ref mo)]) rfl rfl rfl rfl ?_
  have z_t := tst_b hk
  refine v_aload_n O dX10_takesTest_0 0 rfl ?_
  refine v_aload_n O dX10_takesTest_1 0 rfl ?_
  refine v_cV (T := TX10) (ci := 10) (As := []) (wr := [((ma 18), eI D 600 sf), ((ma 19), eI D 101 wf)]) (st := [.ref mo]) O cf_X10_188 rfl (sp_X10_next (mo := mo) (ma := ma) (c := c) (c2 := c2) (tk := tk) (vc := vc) (ln := ln) (rn := rn) (zs_11 := zs_11) (zs_20 := (nI g)) (zs_21 := (nI W.length)) (zs_22 := (nI op)) (zs_25 := zs_25) (zs_26 := zs_26) (zs_27 := zs_27) (zs_29 := zs_29) (tb := tb) (p := p) (hln) (by omega)) dX10_takesTest_2 rfl rfl 0 rfl [0, 1] [2, 3] (by decide) rfl rfl (by decide) (by decide) (by decide) (Nat.le_of_ble_eq_true rfl) (by decide) (by decide) (fun r_2 w_3 h_1 => ?_)
  obtain ⟨rfl, rfl⟩ := h_1
  refine v_eq (st' := [.int (sgT tb ln p), .ref mo]) (ws' := [((ma 18), eI D 600 sf), ((ma 19), eI D 101 wf), (mo, .inr (10, M1R ma (mZ c c2 tk vc ln rn (nI p) zs_11 (nI g) (nI W.length) (nI op) zs_25 zs_26 zs_27 zs_29))), ((ma 12), eI D 100 tb)]) rfl rfl rfl rfl ?_
  refine v_cV (T := TX10) (ci := 10) (As := [.int (sgT tb ln p)]) (wr := [((ma 18), eI D 600 sf), ((ma 19), eI D 101 wf), (mo, .inr (10, M1R ma (mZ c c2 tk vc ln rn (nI p) zs_11 (nI g) (nI W.length) (nI op) zs_25 zs_26 zs_27 zs_29))), ((ma 12), eI D 100 tb)]) (st := []) O cf_X10_203 rfl (sp_X10_place (mo := mo) (x := (sgT tb ln p)) ) dX10_takesTest_5 rfl rfl 2 rfl [] [0, 1, 2, 3] (by decide) rfl rfl (by decide) (by decide) (by decide) (Nat.le_of_ble_eq_true rfl) (by decide) (by decide) (fun r_5 w_6 h_4 => ?_)
  obtain ⟨rfl, rfl⟩ := h_4
  refine v_eq (st' := [.int (ixL (sgT tb ln p))]) (ws' := [((ma 18), eI D 600 sf), ((ma 19), eI D 101 wf), (mo, .inr (10, M1R ma (mZ c c2 tk vc ln rn (nI p) zs_11 (nI g) (nI W.length) (nI op) zs_25 zs_26 zs_27 zs_29))), ((ma 12), eI D 100 tb)]) rfl rfl rfl rfl ?_
  refine v_istore_n (lv' := [(0, .ref mo), (1, .int (ixL (sgT tb ln p)))]) O dX10_takesTest_8 (by decide) rfl ?_
  refine v_iload_n O dX10_takesTest_9 1 rfl ?_
  refine v_if_ge O 15 dX10_takesTest_10 (by decide) (fun z1 => ?_) (fun z1 => ?_)
  · skip
    refine v_aload_n O dX10_takesTest_15 0 rfl ?_
    refine v_dup O dX10_takesTest_16 rfl ?_
    refine gf_X10_41 (v := .int (nI p)) O rfl dX10_takesTest_17 2 rfl rfl ?_
    refine v_iconst (v := 1) O dX10_takesTest_20 (by decide) ?_
    refine v_iadd O dX10_takesTest_21 ?_
    refine v_top (y := nI (p + 1)) (nI_add p 1) ?_
    refine pf_X10_41 (fs' := M1R ma (mZ c c2 tk vc ln rn (nI (p + 1)) zs_11 (nI g) (nI W.length) (nI op) zs_25 zs_26 zs_27 zs_29)) (ws' := [((ma 18), eI D 600 sf), ((ma 19), eI D 101 wf), (mo, .inr (10, M1R ma (mZ c c2 tk vc ln rn (nI (p + 1)) zs_11 (nI g) (nI W.length) (nI op) zs_25 zs_26 zs_27 zs_29))), ((ma 12), eI D 100 tb)]) O rfl dX10_takesTest_22 2 rfl (Nat.le_of_ble_eq_true rfl) rfl rfl ?_
    refine v_aload_n O dX10_takesTest_25 0 rfl ?_
    refine v_cV (T := TX10) (ci := 10) (As := []) (wr := [((ma 18), eI D 600 sf), ((ma 19), eI D 101 wf)]) (st := []) O cf_X10_188 rfl (sp_X10_next (mo := mo) (ma := ma) (c := c) (c2 := c2) (tk := tk) (vc := vc) (ln := ln) (rn := rn) (zs_11 := zs_11) (zs_20 := (nI g)) (zs_21 := (nI W.length)) (zs_22 := (nI op)) (zs_25 := zs_25) (zs_26 := zs_26) (zs_27 := zs_27) (zs_29 := zs_29) (tb := tb) (p := (p + 1)) (hln) (by omega)) dX10_takesTest_26 rfl rfl 2 rfl [2, 3] [0, 1] (by decide) rfl rfl (by decide) (by decide) (by decide) (Nat.le_of_ble_eq_true rfl) (by decide) (by decide) (fun r_8 w_9 h_7 => ?_)
    obtain ⟨rfl, rfl⟩ := h_7
    refine v_eq (st' := [.int (sgT tb ln (p + 1))]) (ws' := [((ma 18), eI D 600 sf), ((ma 19), eI D 101 wf), (mo, .inr (10, M1R ma (mZ c c2 tk vc ln rn (nI (p + 1)) zs_11 (nI g) (nI W.length) (nI op) zs_25 zs_26 zs_27 zs_29))), ((ma 12), eI D 100 tb)]) rfl rfl rfl rfl ?_
    refine v_istore_n (lv' := [(0, .ref mo), (1, .int (ixL (sgT tb ln p))), (2, .int (sgT tb ln (p + 1)))]) O dX10_takesTest_29 (by decide) rfl ?_
    refine v_aload_n O dX10_takesTest_30 0 rfl ?_
    refine v_iload_n O dX10_takesTest_31 2 rfl ?_
    refine v_bipush (v := 60) O dX10_takesTest_32 (by decide) ?_
    refine v_bipush (v := 62) O dX10_takesTest_34 (by decide) ?_
    refine v_cV (T := TX10) (ci := 10) (As := [.int (sgT tb ln (p + 1)), .int 60, .int 62]) (wr := [((ma 18), eI D 600 sf), ((ma 19), eI D 101 wf), (mo, .inr (10, M1R ma (mZ c c2 tk vc ln rn (nI (p + 1)) zs_11 (nI g) (nI W.length) (nI op) zs_25 zs_26 zs_27 zs_29))), ((ma 12), eI D 100 tb)]) (st := []) O cf_X10_179 rfl (sp_X10_in_60_62 (mo := mo) (x := (sgT tb ln (p + 1))) ) dX10_takesTest_36 rfl rfl 2 rfl [] [0, 1, 2, 3] (by decide) rfl rfl (by decide) (by decide) (by decide) (Nat.le_of_ble_eq_true rfl) (by decide) (by decide) (fun r_11 w_12 h_10 => ?_)
    obtain ⟨rfl, rfl⟩ := h_10
    refine v_eq (st' := [.int (b2i (60 ≤ (sgT tb ln (p + 1)) ∧ (sgT tb ln (p + 1)) ≤ 62))]) (ws' := [((ma 18), eI D 600 sf), ((ma 19), eI D 101 wf), (mo, .inr (10, M1R ma (mZ c c2 tk vc ln rn (nI (p + 1)) zs_11 (nI g) (nI W.length) (nI op) zs_25 zs_26 zs_27 zs_29))), ((ma 12), eI D 100 tb)]) rfl rfl rfl rfl ?_
    refine v_if_ne O 44 dX10_takesTest_39 (by decide) (fun z2 => ?_) (fun z2 => ?_)
    · skip
      have z2 := b2i_1.mp z2
      refine v_aload_n O dX10_takesTest_44 0 rfl ?_
      refine v_dup O dX10_takesTest_45 rfl ?_
      refine gf_X10_41 (v := .int (nI (p + 1))) O rfl dX10_takesTest_46 2 rfl rfl ?_
      refine v_iconst (v := 1) O dX10_takesTest_49 (by decide) ?_
      refine v_iadd O dX10_takesTest_50 ?_
      refine v_top (y := nI ((p + 1) + 1)) (nI_add (p + 1) 1) ?_
      refine pf_X10_41 (fs' := M1R ma (mZ c c2 tk vc ln rn (nI ((p + 1) + 1)) zs_11 (nI g) (nI W.length) (nI op) zs_25 zs_26 zs_27 zs_29)) (ws' := [((ma 18), eI D 600 sf), ((ma 19), eI D 101 wf), (mo, .inr (10, M1R ma (mZ c c2 tk vc ln rn (nI ((p + 1) + 1)) zs_11 (nI g) (nI W.length) (nI op) zs_25 zs_26 zs_27 zs_29))), ((ma 12), eI D 100 tb)]) O rfl dX10_takesTest_51 2 rfl (Nat.le_of_ble_eq_true rfl) rfl rfl ?_
      refine v_aload_n O dX10_takesTest_54 0 rfl ?_
      refine v_cV (T := TX10) (ci := 10) (As := []) (wr := [((ma 18), eI D 600 sf), ((ma 19), eI D 101 wf)]) (st := []) O cf_X10_207 rfl (sp_X10_num_t (mo := mo) (ma := ma) (c := c) (c2 := c2) (tk := tk) (vc := vc) (ln := ln) (rn := rn) (zs_11 := zs_11) (zs_20 := (nI g)) (zs_21 := (nI W.length)) (zs_22 := (nI op)) (zs_25 := zs_25) (zs_26 := zs_26) (zs_27 := zs_27) (zs_29 := zs_29) (tb := tb) (p := ((p + 1) + 1)) (hln) (by omega) (hk.2.2)) dX10_takesTest_55 rfl rfl 2 rfl [2, 3] [0, 1] (by decide) rfl rfl (by decide) (by decide) (by decide) (Nat.le_of_ble_eq_true rfl) (by decide) (by decide) (fun r_14 w_15 h_13 => ?_)
      obtain ⟨rfl, rfl⟩ := h_13
      refine v_eq (st' := [.int 1]) (ws' := [((ma 18), eI D 600 sf), ((ma 19), eI D 101 wf), (mo, .inr (10, M1R ma (mZ c c2 tk vc ln rn (nI (numE (sgT tb ln) ((p + 1) + 1))) (nI (numN (sgT tb ln) ((p + 1) + 1))) (nI g) (nI W.length) (nI op) zs_25 zs_26 zs_27 zs_29))), ((ma 12), eI D 100 tb)]) rfl rfl rfl rfl ?_
      refine v_if_ne O 63 dX10_takesTest_58 (by decide) (fun _ => ?_) (fun c => absurd c (by decide))
      refine v_aload_n O dX10_takesTest_63 0 rfl ?_
      refine v_sipush (v := 1000) O dX10_takesTest_64 (by decide) ?_
      refine v_iload_n O dX10_takesTest_67 1 rfl ?_
      refine v_imul O dX10_takesTest_68 ?_
      refine v_bipush (v := 100) O dX10_takesTest_69 (by decide) ?_
      refine v_iload_n O dX10_takesTest_71 2 rfl ?_
      refine v_bipush (v := 60) O dX10_takesTest_72 (by decide) ?_
      refine v_isub O dX10_takesTest_74 ?_
      refine v_imul O dX10_takesTest_75 ?_
      refine v_iadd O dX10_takesTest_76 ?_
      refine v_aload_n O dX10_takesTest_77 0 rfl ?_
      refine gf_X10_44 (v := .int (nI (numN (sgT tb ln) ((p + 1) + 1)))) O rfl dX10_takesTest_78 2 rfl rfl ?_
      refine v_iadd O dX10_takesTest_81 ?_
      refine v_cV (T := TX10) (ci := 10) (As := [.int (((1000 * (ixL (sgT tb ln p))) + (100 * ((sgT tb ln (p + 1)) - 60))) + (nI (numN (sgT tb ln) ((p + 1) + 1))))]) (wr := [((ma 19), eI D 101 wf), ((ma 12), eI D 100 tb)]) (st := []) O cf_X10_199 rfl (sp_X10_put (mo := mo) (ma := ma) (c := c) (c2 := c2) (tk := tk) (vc := vc) (ln := ln) (rn := rn) (zs_10 := (nI (numE (sgT tb ln) ((p + 1) + 1)))) (zs_11 := (nI (numN (sgT tb ln) ((p + 1) + 1)))) (zs_21 := (nI W.length)) (zs_22 := (nI op)) (zs_25 := zs_25) (zs_26 := zs_26) (zs_27 := zs_27) (zs_29 := zs_29) (sf := sf) (g := g) (x := (((1000 * (ixL (sgT tb ln p))) + (100 * ((sgT tb ln (p + 1)) - 60))) + (nI (numN (sgT tb ln) ((p + 1) + 1))))) (by omega)) dX10_takesTest_82 rfl rfl 2 rfl [2, 0] [1, 3] (by decide) rfl rfl (by decide) (by decide) (by decide) (Nat.le_of_ble_eq_true rfl) (by decide) (by decide) (fun r_18 w_19 h_17 => ?_)
      obtain ⟨rfl, rfl⟩ := h_17
      refine v_eq (st' := []) (ws' := [((ma 19), eI D 101 wf), ((ma 12), eI D 100 tb), (mo, .inr (10, M1R ma (mZ c c2 tk vc ln rn (nI (numE (sgT tb ln) ((p + 1) + 1))) (nI (numN (sgT tb ln) ((p + 1) + 1))) (nI (g + 1)) (nI W.length) (nI op) zs_25 zs_26 zs_27 zs_29))), ((ma 18), eI D 600 (upd sf g (((1000 * (ixL (sgT tb ln p))) + (100 * ((sgT tb ln (p + 1)) - 60))) + (nI (numN (sgT tb ln) ((p + 1) + 1))))))]) rfl rfl rfl rfl ?_
      refine v_aload_n O dX10_takesTest_85 0 rfl ?_
      refine v_cV (T := TX10) (ci := 10) (As := []) (wr := [((ma 12), eI D 100 tb)]) (st := []) O cf_X10_210 rfl (sp_X10_whole (mo := mo) (ma := ma) (c := c) (c2 := c2) (tk := tk) (vc := vc) (ln := ln) (rn := rn) (zs_10 := (nI (numE (sgT tb ln) ((p + 1) + 1)))) (zs_11 := (nI (numN (sgT tb ln) ((p + 1) + 1)))) (zs_25 := zs_25) (zs_26 := zs_26) (zs_27 := zs_27) (zs_29 := zs_29) (sf := (upd sf g (((1000 * (ixL (sgT tb ln p))) + (100 * ((sgT tb ln (p + 1)) - 60))) + (nI (numN (sgT tb ln) ((p + 1) + 1)))))) (wf := wf) (g := (g + 1)) (op := op) (W := W) (hst) (hwl) (by omega) (ho) (ho2)) dX10_takesTest_86 rfl rfl 2 rfl [2, 3, 0] [1] (by decide) rfl rfl (by decide) (by decide) (by decide) (Nat.le_of_ble_eq_true rfl) (by decide) (by decide) (fun r_21 w_22 h_20 => ?_)
      obtain ⟨rfl, rfl⟩ := h_20
      refine v_eq (st' := []) (ws' := [((ma 12), eI D 100 tb), (mo, .inr (10, M1R ma (mZ c c2 tk vc ln rn (nI (numE (sgT tb ln) ((p + 1) + 1))) (nI (numN (sgT tb ln) ((p + 1) + 1))) (nI ((g + 1) + whlN W)) (nI ((whlW W).length)) (nI (op - whlN W)) zs_25 zs_26 zs_27 zs_29))), ((ma 18), eI D 600 (wr (upd sf g (((1000 * (ixL (sgT tb ln p))) + (100 * ((sgT tb ln (p + 1)) - 60))) + (nI (numN (sgT tb ln) ((p + 1) + 1))))) (g + 1) (List.replicate (whlN W) (-33)))), ((ma 19), eI D 101 wf)]) rfl rfl rfl rfl ?_
      refine v_iconst (v := 1) O dX10_takesTest_89 (by decide) ?_
      refine v_sub (ws' := [(mo, .inr (10, M1R ma (mZ c c2 tk vc ln rn (nI (numE (sgT tb ln) ((p + 1) + 1))) (nI (numN (sgT tb ln) ((p + 1) + 1))) (nI ((g + 1) + whlN W)) (nI ((whlW W).length)) (nI (op - whlN W)) zs_25 zs_26 zs_27 zs_29))), ((ma 12), eI D 100 tb), ((ma 18), eI D 600 (wr (upd sf g (((1000 * (ixL (sgT tb ln p))) + (100 * ((sgT tb ln (p + 1)) - 60))) + (nI (numN (sgT tb ln) ((p + 1) + 1))))) (g + 1) (List.replicate (whlN W) (-33)))), ((ma 19), eI D 101 wf)]) [1, 0, 2, 3] (by decide) rfl ?_
      exact v_ireturn O T rfl rfl (by decide) (by decide) dX10_takesTest_90 (⟨rfl, by rw [List.length_append, show g + ([cdR (sgT tb ln) p].length + (List.replicate (whlN W) (-33 : Int32)).length) = g + 1 + whlN W by rw [List.length_replicate]; show g + (1 + whlN W) = _; omega]; rfl⟩)
    · skip
      have z2 := b2i_0.mp z2
      exact absurd (ixR_b.mpr z2) hk.2.1
  · skip
    exact absurd (Int32.not_lt.mp hk.1) z1
set_option maxRecDepth 100000 in
set_option maxHeartbeats 4000000 in
theorem sp_X10_test_f {D : G} {mo : Nat} {ma : Nat → Nat} {c : CS} {c2 : CS} {tk : Int32} {vc : Nat} {ln : Nat} {rn : Nat} {zs_11 : Int32} {zs_25 : Int32} {zs_26 : Int32} {zs_27 : Int32} {zs_29 : Int32} {tb : Nat → Int32} {p : Nat} {sf : Nat → Int32} {wf : Nat → Int32} {g : Nat} {op : Nat} {W : List Int32} (hln : ln ≤ 100) (hp : p ≤ ln) (hk : ¬ okT (sgT tb ln) p) : Sp D mX10_takesTest 3 0 0 [.ref mo] [(mo, .inr (10, M1R ma (mZ c c2 tk vc ln rn (nI p) zs_11 (nI g) (nI W.length) (nI op) zs_25 zs_26 zs_27 zs_29))), ((ma 12), eI D 100 tb), ((ma 18), eI D 600 sf), ((ma 19), eI D 101 wf)] (fun r w => r = some (.int 0) ∧ w = [(mo, .inr (10, M1R ma (mZ c c2 tk vc ln rn (nI ((tstP (sgT tb ln) p).1)) zs_11 (nI g) (nI W.length) (nI op) zs_25 zs_26 zs_27 zs_29))), ((ma 12), eI D 100 tb), ((ma 18), eI D 600 sf), ((ma 19), eI D 101 wf)]) := by
  refine Sp.of (by decide) (Nat.le_of_ble_eq_true rfl) (fun X O T => ?_)
  refine v_eq (lv' := [(0, .ref mo)]) rfl rfl rfl rfl ?_
  refine v_aload_n O dX10_takesTest_0 0 rfl ?_
  refine v_aload_n O dX10_takesTest_1 0 rfl ?_
  refine v_cV (T := TX10) (ci := 10) (As := []) (wr := [((ma 18), eI D 600 sf), ((ma 19), eI D 101 wf)]) (st := [.ref mo]) O cf_X10_188 rfl (sp_X10_next (mo := mo) (ma := ma) (c := c) (c2 := c2) (tk := tk) (vc := vc) (ln := ln) (rn := rn) (zs_11 := zs_11) (zs_20 := (nI g)) (zs_21 := (nI W.length)) (zs_22 := (nI op)) (zs_25 := zs_25) (zs_26 := zs_26) (zs_27 := zs_27) (zs_29 := zs_29) (tb := tb) (p := p) (hln) (by omega)) dX10_takesTest_2 rfl rfl 0 rfl [0, 1] [2, 3] (by decide) rfl rfl (by decide) (by decide) (by decide) (Nat.le_of_ble_eq_true rfl) (by decide) (by decide) (fun r_2 w_3 h_1 => ?_)
  obtain ⟨rfl, rfl⟩ := h_1
  refine v_eq (st' := [.int (sgT tb ln p), .ref mo]) (ws' := [((ma 18), eI D 600 sf), ((ma 19), eI D 101 wf), (mo, .inr (10, M1R ma (mZ c c2 tk vc ln rn (nI p) zs_11 (nI g) (nI W.length) (nI op) zs_25 zs_26 zs_27 zs_29))), ((ma 12), eI D 100 tb)]) rfl rfl rfl rfl ?_
  refine v_cV (T := TX10) (ci := 10) (As := [.int (sgT tb ln p)]) (wr := [((ma 18), eI D 600 sf), ((ma 19), eI D 101 wf), (mo, .inr (10, M1R ma (mZ c c2 tk vc ln rn (nI p) zs_11 (nI g) (nI W.length) (nI op) zs_25 zs_26 zs_27 zs_29))), ((ma 12), eI D 100 tb)]) (st := []) O cf_X10_203 rfl (sp_X10_place (mo := mo) (x := (sgT tb ln p)) ) dX10_takesTest_5 rfl rfl 2 rfl [] [0, 1, 2, 3] (by decide) rfl rfl (by decide) (by decide) (by decide) (Nat.le_of_ble_eq_true rfl) (by decide) (by decide) (fun r_5 w_6 h_4 => ?_)
  obtain ⟨rfl, rfl⟩ := h_4
  refine v_eq (st' := [.int (ixL (sgT tb ln p))]) (ws' := [((ma 18), eI D 600 sf), ((ma 19), eI D 101 wf), (mo, .inr (10, M1R ma (mZ c c2 tk vc ln rn (nI p) zs_11 (nI g) (nI W.length) (nI op) zs_25 zs_26 zs_27 zs_29))), ((ma 12), eI D 100 tb)]) rfl rfl rfl rfl ?_
  refine v_istore_n (lv' := [(0, .ref mo), (1, .int (ixL (sgT tb ln p)))]) O dX10_takesTest_8 (by decide) rfl ?_
  refine v_iload_n O dX10_takesTest_9 1 rfl ?_
  refine v_if_ge O 15 dX10_takesTest_10 (by decide) (fun z1 => ?_) (fun z1 => ?_)
  · skip
    have z_p : p < ln := by
      rcases Nat.lt_or_ge p ln with q | q
      · exact q
      · rw [sgT_o (by omega)] at z1; exact absurd z1 (by decide)
    refine v_aload_n O dX10_takesTest_15 0 rfl ?_
    refine v_dup O dX10_takesTest_16 rfl ?_
    refine gf_X10_41 (v := .int (nI p)) O rfl dX10_takesTest_17 2 rfl rfl ?_
    refine v_iconst (v := 1) O dX10_takesTest_20 (by decide) ?_
    refine v_iadd O dX10_takesTest_21 ?_
    refine v_top (y := nI (p + 1)) (nI_add p 1) ?_
    refine pf_X10_41 (fs' := M1R ma (mZ c c2 tk vc ln rn (nI (p + 1)) zs_11 (nI g) (nI W.length) (nI op) zs_25 zs_26 zs_27 zs_29)) (ws' := [((ma 18), eI D 600 sf), ((ma 19), eI D 101 wf), (mo, .inr (10, M1R ma (mZ c c2 tk vc ln rn (nI (p + 1)) zs_11 (nI g) (nI W.length) (nI op) zs_25 zs_26 zs_27 zs_29))), ((ma 12), eI D 100 tb)]) O rfl dX10_takesTest_22 2 rfl (Nat.le_of_ble_eq_true rfl) rfl rfl ?_
    refine v_aload_n O dX10_takesTest_25 0 rfl ?_
    refine v_cV (T := TX10) (ci := 10) (As := []) (wr := [((ma 18), eI D 600 sf), ((ma 19), eI D 101 wf)]) (st := []) O cf_X10_188 rfl (sp_X10_next (mo := mo) (ma := ma) (c := c) (c2 := c2) (tk := tk) (vc := vc) (ln := ln) (rn := rn) (zs_11 := zs_11) (zs_20 := (nI g)) (zs_21 := (nI W.length)) (zs_22 := (nI op)) (zs_25 := zs_25) (zs_26 := zs_26) (zs_27 := zs_27) (zs_29 := zs_29) (tb := tb) (p := (p + 1)) (hln) (by omega)) dX10_takesTest_26 rfl rfl 2 rfl [2, 3] [0, 1] (by decide) rfl rfl (by decide) (by decide) (by decide) (Nat.le_of_ble_eq_true rfl) (by decide) (by decide) (fun r_8 w_9 h_7 => ?_)
    obtain ⟨rfl, rfl⟩ := h_7
    refine v_eq (st' := [.int (sgT tb ln (p + 1))]) (ws' := [((ma 18), eI D 600 sf), ((ma 19), eI D 101 wf), (mo, .inr (10, M1R ma (mZ c c2 tk vc ln rn (nI (p + 1)) zs_11 (nI g) (nI W.length) (nI op) zs_25 zs_26 zs_27 zs_29))), ((ma 12), eI D 100 tb)]) rfl rfl rfl rfl ?_
    refine v_istore_n (lv' := [(0, .ref mo), (1, .int (ixL (sgT tb ln p))), (2, .int (sgT tb ln (p + 1)))]) O dX10_takesTest_29 (by decide) rfl ?_
    refine v_aload_n O dX10_takesTest_30 0 rfl ?_
    refine v_iload_n O dX10_takesTest_31 2 rfl ?_
    refine v_bipush (v := 60) O dX10_takesTest_32 (by decide) ?_
    refine v_bipush (v := 62) O dX10_takesTest_34 (by decide) ?_
    refine v_cV (T := TX10) (ci := 10) (As := [.int (sgT tb ln (p + 1)), .int 60, .int 62]) (wr := [((ma 18), eI D 600 sf), ((ma 19), eI D 101 wf), (mo, .inr (10, M1R ma (mZ c c2 tk vc ln rn (nI (p + 1)) zs_11 (nI g) (nI W.length) (nI op) zs_25 zs_26 zs_27 zs_29))), ((ma 12), eI D 100 tb)]) (st := []) O cf_X10_179 rfl (sp_X10_in_60_62 (mo := mo) (x := (sgT tb ln (p + 1))) ) dX10_takesTest_36 rfl rfl 2 rfl [] [0, 1, 2, 3] (by decide) rfl rfl (by decide) (by decide) (by decide) (Nat.le_of_ble_eq_true rfl) (by decide) (by decide) (fun r_11 w_12 h_10 => ?_)
    obtain ⟨rfl, rfl⟩ := h_10
    refine v_eq (st' := [.int (b2i (60 ≤ (sgT tb ln (p + 1)) ∧ (sgT tb ln (p + 1)) ≤ 62))]) (ws' := [((ma 18), eI D 600 sf), ((ma 19), eI D 101 wf), (mo, .inr (10, M1R ma (mZ c c2 tk vc ln rn (nI (p + 1)) zs_11 (nI g) (nI W.length) (nI op) zs_25 zs_26 zs_27 zs_29))), ((ma 12), eI D 100 tb)]) rfl rfl rfl rfl ?_
    refine v_if_ne O 44 dX10_takesTest_39 (by decide) (fun z2 => ?_) (fun z2 => ?_)
    · skip
      have z2 := b2i_1.mp z2
      have z_p2 : p + 1 < ln := by
        rcases Nat.lt_or_ge (p + 1) ln with q | q
        · exact q
        · rw [sgT_o (by omega)] at z2; exact absurd z2.1 (by decide)
      have z3 : ¬ isd (sgT tb ln (p + 1 + 1)) := fun q => hk ⟨Int32.not_lt.mpr z1, fun q2 => ixR_b.mp q2 z2, q⟩
      refine v_aload_n O dX10_takesTest_44 0 rfl ?_
      refine v_dup O dX10_takesTest_45 rfl ?_
      refine gf_X10_41 (v := .int (nI (p + 1))) O rfl dX10_takesTest_46 2 rfl rfl ?_
      refine v_iconst (v := 1) O dX10_takesTest_49 (by decide) ?_
      refine v_iadd O dX10_takesTest_50 ?_
      refine v_top (y := nI ((p + 1) + 1)) (nI_add (p + 1) 1) ?_
      refine pf_X10_41 (fs' := M1R ma (mZ c c2 tk vc ln rn (nI ((p + 1) + 1)) zs_11 (nI g) (nI W.length) (nI op) zs_25 zs_26 zs_27 zs_29)) (ws' := [((ma 18), eI D 600 sf), ((ma 19), eI D 101 wf), (mo, .inr (10, M1R ma (mZ c c2 tk vc ln rn (nI ((p + 1) + 1)) zs_11 (nI g) (nI W.length) (nI op) zs_25 zs_26 zs_27 zs_29))), ((ma 12), eI D 100 tb)]) O rfl dX10_takesTest_51 2 rfl (Nat.le_of_ble_eq_true rfl) rfl rfl ?_
      refine v_aload_n O dX10_takesTest_54 0 rfl ?_
      refine v_cV (T := TX10) (ci := 10) (As := []) (wr := [((ma 18), eI D 600 sf), ((ma 19), eI D 101 wf)]) (st := []) O cf_X10_207 rfl (sp_X10_num_f (mo := mo) (ma := ma) (c := c) (c2 := c2) (tk := tk) (vc := vc) (ln := ln) (rn := rn) (zs_11 := zs_11) (zs_20 := (nI g)) (zs_21 := (nI W.length)) (zs_22 := (nI op)) (zs_25 := zs_25) (zs_26 := zs_26) (zs_27 := zs_27) (zs_29 := zs_29) (tb := tb) (p := ((p + 1) + 1)) (hln) (by omega) (z3)) dX10_takesTest_55 rfl rfl 2 rfl [2, 3] [0, 1] (by decide) rfl rfl (by decide) (by decide) (by decide) (Nat.le_of_ble_eq_true rfl) (by decide) (by decide) (fun r_14 w_15 h_13 => ?_)
      obtain ⟨rfl, rfl⟩ := h_13
      refine v_eq (st' := [.int 0]) (ws' := [((ma 18), eI D 600 sf), ((ma 19), eI D 101 wf), (mo, .inr (10, M1R ma (mZ c c2 tk vc ln rn (nI ((p + 1) + 1)) zs_11 (nI g) (nI W.length) (nI op) zs_25 zs_26 zs_27 zs_29))), ((ma 12), eI D 100 tb)]) rfl rfl rfl rfl ?_
      refine v_if_ne O 63 dX10_takesTest_58 (by decide) (fun c => absurd c (by decide)) (fun _ => ?_)
      refine v_iconst (v := 0) O dX10_takesTest_61 (by decide) ?_
      refine v_sub (ws' := [(mo, .inr (10, M1R ma (mZ c c2 tk vc ln rn (nI ((p + 1) + 1)) zs_11 (nI g) (nI W.length) (nI op) zs_25 zs_26 zs_27 zs_29))), ((ma 12), eI D 100 tb), ((ma 18), eI D 600 sf), ((ma 19), eI D 101 wf)]) [2, 3, 0, 1] (by decide) rfl ?_
      exact v_ireturn O T rfl rfl (by decide) (by decide) dX10_takesTest_62 (⟨rfl, by unfold tstP; rw [if_neg (Int32.not_lt.mpr z1), if_neg (fun q => ixR_b.mp q z2), if_neg z3]⟩)
    · skip
      have z2 := b2i_0.mp z2
      refine v_iconst (v := 0) O dX10_takesTest_42 (by decide) ?_
      refine v_sub (ws' := [(mo, .inr (10, M1R ma (mZ c c2 tk vc ln rn (nI (p + 1)) zs_11 (nI g) (nI W.length) (nI op) zs_25 zs_26 zs_27 zs_29))), ((ma 12), eI D 100 tb), ((ma 18), eI D 600 sf), ((ma 19), eI D 101 wf)]) [2, 3, 0, 1] (by decide) rfl ?_
      exact v_ireturn O T rfl rfl (by decide) (by decide) dX10_takesTest_43 (⟨rfl, by unfold tstP; rw [if_neg (Int32.not_lt.mpr z1), if_pos (ixR_b.mpr z2)]⟩)
  · skip
    refine v_iconst (v := 0) O dX10_takesTest_13 (by decide) ?_
    refine v_sub (ws' := [(mo, .inr (10, M1R ma (mZ c c2 tk vc ln rn (nI p) zs_11 (nI g) (nI W.length) (nI op) zs_25 zs_26 zs_27 zs_29))), ((ma 12), eI D 100 tb), ((ma 18), eI D 600 sf), ((ma 19), eI D 101 wf)]) [2, 3, 0, 1] (by decide) rfl ?_
    exact v_ireturn O T rfl rfl (by decide) (by decide) dX10_takesTest_14 (⟨rfl, by unfold tstP; rw [if_pos (Int32.not_le.mp z1)]⟩)
set_option maxRecDepth 100000 in
set_option maxHeartbeats 4000000 in
theorem l_X10_E {D : G} {X : CX} {mo : Nat} {ma : Nat → Nat} {c : CS} {c2 : CS} {tk : Int32} {vc : Nat} {ln : Nat} {rn : Nat} {tb : Nat → Int32} {sf : Nat → Int32} {fr : Nat → Int32} {tt9 : Nat → Int32} {g : Nat} {cl : Nat} {p0 : Nat} (O : Ok D X mX10_takesE 4 0 0) (hln : ln ≤ 100) (hc : cl < 60) (hg : g ≤ 500 + p0) (T : Rt D X (fun r w => ∃ zs2_11 : Int32, ∃ zs2_21 : Int32, ∃ zs2_22 : Int32, ∃ zs2_25 : Int32, ∃ zs2_26 : Int32, ∃ zs2_27 : Int32, ∃ zs2_29 : Int32, ∃ wf2 : Nat → Int32, ∃ tt2 : Nat → Int32, r = some (.int (b2i ((yd (sgT tb ln) 110 p0 true [] 0 []).2.1 = true))) ∧ w = [(mo, .inr (10, M1R ma (mZ c c2 tk vc ln rn (nI ((yd (sgT tb ln) 110 p0 true [] 0 []).1)) zs2_11 (nI (g + (yd (sgT tb ln) 110 p0 true [] 0 []).2.2.length)) zs2_21 zs2_22 zs2_25 zs2_26 zs2_27 zs2_29))), ((ma 12), eI D 100 tb), ((ma 18), eI D 600 (wr sf g (yd (sgT tb ln) 110 p0 true [] 0 []).2.2)), ((ma 19), eI D 101 wf2), ((ma 16), eI D 60 (upd fr cl (nI g))), ((ma 17), eI D 60 tt2)] ∧ (∀ j, ¬ j = cl → tt2 j = tt9 j) ∧ ((yd (sgT tb ln) 110 p0 true [] 0 []).2.1 = true → tt2 cl = nI (g + (yd (sgT tb ln) 110 p0 true [] 0 []).2.2.length))) 0 0) : ∀ t : Nat, (∀ (p : Nat) (W out : List Int32) (op : Nat) (zs9_11 zs9_25 zs9_26 zs9_27 zs9_29 : Int32) (wf9 tt8 : Nat → Int32), stk wf9 W → wok W → cntO W = op → op ≤ 4 → out.length + W.length + p0 ≤ p → p ≤ ln → ln + 2 ≤ p + t → (∀ j, ¬ j = cl → tt8 j = tt9 j) → (yd (sgT tb ln) 110 p0 true [] 0 []) = yd (sgT tb ln) t p true W op out → V D X 0 0 22 [(0, .ref mo), (1, .int (nI cl)), (2, .int 1)] [] [(mo, .inr (10, M1R ma (mZ c c2 tk vc ln rn (nI p) zs9_11 (nI (g + out.length)) (nI W.length) (nI op) zs9_25 zs9_26 zs9_27 zs9_29))), ((ma 12), eI D 100 tb), ((ma 18), eI D 600 (wr sf g out)), ((ma 19), eI D 101 wf9), ((ma 16), eI D 60 (upd fr cl (nI g))), ((ma 17), eI D 60 tt8)]) ∧ (∀ (p : Nat) (W out : List Int32) (op : Nat) (zs9_11 zs9_25 zs9_26 zs9_27 zs9_29 : Int32) (wf9 tt8 : Nat → Int32), stk wf9 W → wok W → cntO W = op → op ≤ 4 → out.length + W.length + p0 ≤ p → p ≤ ln → ln + 2 ≤ p + t → (∀ j, ¬ j = cl → tt8 j = tt9 j) → (yd (sgT tb ln) 110 p0 true [] 0 []) = yd (sgT tb ln) t p false W op out → V D X 0 0 22 [(0, .ref mo), (1, .int (nI cl)), (2, .int 0)] [] [(mo, .inr (10, M1R ma (mZ c c2 tk vc ln rn (nI p) zs9_11 (nI (g + out.length)) (nI W.length) (nI op) zs9_25 zs9_26 zs9_27 zs9_29))), ((ma 12), eI D 100 tb), ((ma 18), eI D 600 (wr sf g out)), ((ma 19), eI D 101 wf9), ((ma 16), eI D 60 (upd fr cl (nI g))), ((ma 17), eI D 60 tt8)]) := by
  intro t
  induction t with
  | zero => exact ⟨fun p W out op _ _ _ _ _ wf9 tt8 _ _ _ _ h0 h1 h2 => by omega, fun p W out op _ _ _ _ _ wf9 tt8 _ _ _ _ h0 h1 h2 => by omega⟩
  | succ t ih =>
    refine ⟨?_, ?_⟩
    · intro p W out op zs9_11 zs9_25 zs9_26 zs9_27 zs9_29 wf9 tt8 h1 h2 h3 h4 h5 h6 h7 h8 hF
      have z_wc := whl_c W
      refine v_aload_n O dX10_takesE_22 0 rfl ?_
      refine v_cV (T := TX10) (ci := 10) (As := []) (wr := [((ma 18), eI D 600 (wr sf g out)), ((ma 19), eI D 101 wf9), ((ma 16), eI D 60 (upd fr cl (nI g))), ((ma 17), eI D 60 tt8)]) (st := []) O cf_X10_188 rfl (sp_X10_next (mo := mo) (ma := ma) (c := c) (c2 := c2) (tk := tk) (vc := vc) (ln := ln) (rn := rn) (zs_11 := zs9_11) (zs_20 := (nI (g + out.length))) (zs_21 := (nI W.length)) (zs_22 := (nI op)) (zs_25 := zs9_25) (zs_26 := zs9_26) (zs_27 := zs9_27) (zs_29 := zs9_29) (tb := tb) (p := p) (hln) (by omega)) dX10_takesE_23 rfl rfl 0 rfl [0, 1] [2, 3, 4, 5] (by decide) rfl rfl (by decide) (by decide) (by decide) (Nat.le_of_ble_eq_true rfl) (by decide) (by decide) (fun r_2 w_3 h_1 => ?_)
      obtain ⟨rfl, rfl⟩ := h_1
      refine v_eq (st' := [.int (sgT tb ln p)]) (ws' := [((ma 18), eI D 600 (wr sf g out)), ((ma 19), eI D 101 wf9), ((ma 16), eI D 60 (upd fr cl (nI g))), ((ma 17), eI D 60 tt8), (mo, .inr (10, M1R ma (mZ c c2 tk vc ln rn (nI p) zs9_11 (nI (g + out.length)) (nI W.length) (nI op) zs9_25 zs9_26 zs9_27 zs9_29))), ((ma 12), eI D 100 tb)]) rfl rfl rfl rfl ?_
      refine v_istore_n (lv' := [(0, .ref mo), (1, .int (nI cl)), (2, .int 1), (3, .int (sgT tb ln p))]) O dX10_takesE_26 (by decide) rfl ?_
      refine v_iload_n O dX10_takesE_27 2 rfl ?_
      refine v_if_eq O 110 dX10_takesE_28 (by decide) (fun c => absurd c (by decide)) (fun _ => ?_)
      refine v_iload_n O dX10_takesE_31 3 rfl ?_
      refine v_bipush (v := 33) O dX10_takesE_32 (by decide) ?_
      refine v_icmp_eq O 43 dX10_takesE_34 (by decide) (fun z1 => ?_) (fun z1 => ?_)
      · skip
        have z_p := sgT_lt (c := 33) z1 (by decide)
        have z9 : sgT tb ln p = 33 ∨ sgT tb ln p = 40 := Or.inl z1
        refine v_aload_n O dX10_takesE_43 0 rfl ?_
        refine gf_X10_77 (v := .int (nI op)) O rfl dX10_takesE_44 4 rfl rfl ?_
        refine v_iconst (v := 4) O dX10_takesE_47 (by decide) ?_
        refine v_icmp_ne O 53 dX10_takesE_48 (by decide) (fun z3 => ?_) (fun z3 => ?_)
        · skip
          have z3 := (not_congr (c_eq (x := (nI op)) (y := 4) (a := op) (b := 4) rfl rfl (by omega) (by omega))).mp z3
          refine v_aload_n O dX10_takesE_53 0 rfl ?_
          refine v_dup O dX10_takesE_54 rfl ?_
          refine gf_X10_77 (v := .int (nI op)) O rfl dX10_takesE_55 4 rfl rfl ?_
          refine v_iconst (v := 1) O dX10_takesE_58 (by decide) ?_
          refine v_iadd O dX10_takesE_59 ?_
          refine v_top (y := nI (op + 1)) (nI_add op 1) ?_
          refine pf_X10_77 (fs' := M1R ma (mZ c c2 tk vc ln rn (nI p) zs9_11 (nI (g + out.length)) (nI W.length) (nI (op + 1)) zs9_25 zs9_26 zs9_27 zs9_29)) (ws' := [((ma 18), eI D 600 (wr sf g out)), ((ma 19), eI D 101 wf9), ((ma 16), eI D 60 (upd fr cl (nI g))), ((ma 17), eI D 60 tt8), (mo, .inr (10, M1R ma (mZ c c2 tk vc ln rn (nI p) zs9_11 (nI (g + out.length)) (nI W.length) (nI (op + 1)) zs9_25 zs9_26 zs9_27 zs9_29))), ((ma 12), eI D 100 tb)]) O rfl dX10_takesE_60 4 rfl (Nat.le_of_ble_eq_true rfl) rfl rfl ?_
          refine v_aload_n O dX10_takesE_63 0 rfl ?_
          refine gf_X10_68 (v := .ref (ma 19)) O rfl dX10_takesE_64 4 rfl rfl ?_
          refine v_aload_n O dX10_takesE_67 0 rfl ?_
          refine gf_X10_74 (v := .int (nI W.length)) O rfl dX10_takesE_68 4 rfl rfl ?_
          refine v_iload_n O dX10_takesE_71 3 rfl ?_
          refine v_iastk (ws' := [((ma 18), eI D 600 (wr sf g out)), ((ma 19), eI D 101 (upd wf9 W.length (sgT tb ln p))), ((ma 16), eI D 60 (upd fr cl (nI g))), ((ma 17), eI D 60 tt8), (mo, .inr (10, M1R ma (mZ c c2 tk vc ln rn (nI p) zs9_11 (nI (g + out.length)) (nI W.length) (nI (op + 1)) zs9_25 zs9_26 zs9_27 zs9_29))), ((ma 12), eI D 100 tb)]) O dX10_takesE_72 1 rfl W.length (rfl) (by omega) (by decide) (rfl) ?_
          refine v_aload_n O dX10_takesE_73 0 rfl ?_
          refine v_dup O dX10_takesE_74 rfl ?_
          refine gf_X10_74 (v := .int (nI W.length)) O rfl dX10_takesE_75 4 rfl rfl ?_
          refine v_iconst (v := 1) O dX10_takesE_78 (by decide) ?_
          refine v_iadd O dX10_takesE_79 ?_
          refine v_top (y := nI (W.length + 1)) (nI_add W.length 1) ?_
          refine pf_X10_74 (fs' := M1R ma (mZ c c2 tk vc ln rn (nI p) zs9_11 (nI (g + out.length)) (nI (W.length + 1)) (nI (op + 1)) zs9_25 zs9_26 zs9_27 zs9_29)) (ws' := [((ma 18), eI D 600 (wr sf g out)), ((ma 19), eI D 101 (upd wf9 W.length (sgT tb ln p))), ((ma 16), eI D 60 (upd fr cl (nI g))), ((ma 17), eI D 60 tt8), (mo, .inr (10, M1R ma (mZ c c2 tk vc ln rn (nI p) zs9_11 (nI (g + out.length)) (nI (W.length + 1)) (nI (op + 1)) zs9_25 zs9_26 zs9_27 zs9_29))), ((ma 12), eI D 100 tb)]) O rfl dX10_takesE_80 4 rfl (Nat.le_of_ble_eq_true rfl) rfl rfl ?_
          refine v_aload_n O dX10_takesE_83 0 rfl ?_
          refine v_dup O dX10_takesE_84 rfl ?_
          refine gf_X10_41 (v := .int (nI p)) O rfl dX10_takesE_85 4 rfl rfl ?_
          refine v_iconst (v := 1) O dX10_takesE_88 (by decide) ?_
          refine v_iadd O dX10_takesE_89 ?_
          refine v_top (y := nI (p + 1)) (nI_add p 1) ?_
          refine pf_X10_41 (fs' := M1R ma (mZ c c2 tk vc ln rn (nI (p + 1)) zs9_11 (nI (g + out.length)) (nI (W.length + 1)) (nI (op + 1)) zs9_25 zs9_26 zs9_27 zs9_29)) (ws' := [((ma 18), eI D 600 (wr sf g out)), ((ma 19), eI D 101 (upd wf9 W.length (sgT tb ln p))), ((ma 16), eI D 60 (upd fr cl (nI g))), ((ma 17), eI D 60 tt8), (mo, .inr (10, M1R ma (mZ c c2 tk vc ln rn (nI (p + 1)) zs9_11 (nI (g + out.length)) (nI (W.length + 1)) (nI (op + 1)) zs9_25 zs9_26 zs9_27 zs9_29))), ((ma 12), eI D 100 tb)]) O rfl dX10_takesE_90 4 rfl (Nat.le_of_ble_eq_true rfl) rfl rfl ?_
          refine v_goto O 22 dX10_takesE_93 (by decide) ?_
          refine v_lvp (lv' := [(0, .ref mo), (1, .int (nI cl)), (2, .int 1)]) [0, 1, 2] rfl ?_
          refine v_sub (ws' := [(mo, .inr (10, M1R ma (mZ c c2 tk vc ln rn (nI (p + 1)) zs9_11 (nI (g + out.length)) (nI (W.length + 1)) (nI (op + 1)) zs9_25 zs9_26 zs9_27 zs9_29))), ((ma 12), eI D 100 tb), ((ma 18), eI D 600 (wr sf g out)), ((ma 19), eI D 101 (upd wf9 W.length (sgT tb ln p))), ((ma 16), eI D 60 (upd fr cl (nI g))), ((ma 17), eI D 60 tt8)]) [4, 5, 0, 1, 2, 3] (by decide) rfl ?_
          exact ih.1 (p + 1) (sgT tb ln p :: W) out (op + 1) _ _ _ _ _ _ _ (stk_up h1) (wok_up h2 (z9.elim Or.inl (fun q => Or.inr (Or.inl q)))) (by rw [cntO, if_pos z9, h3]) (by omega) (by rw [List.length_cons]; omega) (by omega) (by omega) h8 (by rw [hF, yd, iteP_t z9, iteP_f z3])
        · skip
          have z3 := (c_eq (x := (nI op)) (y := 4) (a := op) (b := 4) rfl rfl (by omega) (by omega)).mp z3
          refine v_iconst (v := 0) O dX10_takesE_51 (by decide) ?_
          refine v_sub (ws' := [(mo, .inr (10, M1R ma (mZ c c2 tk vc ln rn (nI p) zs9_11 (nI (g + out.length)) (nI W.length) (nI op) zs9_25 zs9_26 zs9_27 zs9_29))), ((ma 12), eI D 100 tb), ((ma 18), eI D 600 (wr sf g out)), ((ma 19), eI D 101 wf9), ((ma 16), eI D 60 (upd fr cl (nI g))), ((ma 17), eI D 60 tt8)]) [4, 5, 0, 1, 2, 3] (by decide) rfl ?_
          exact v_ireturn O T rfl rfl (by decide) (by decide) dX10_takesE_52 (⟨zs9_11, (nI W.length), (nI op), zs9_25, zs9_26, zs9_27, zs9_29, _, _, by rw [hF, yd, iteP_t z9, iteP_t z3]; exact bF, by rw [hF, yd, iteP_t z9, iteP_t z3], h8, fun q => by rw [hF, yd, iteP_t z9, iteP_t z3] at q; exact absurd (show false = true from q) (by decide)⟩)
      · skip
        refine v_iload_n O dX10_takesE_37 3 rfl ?_
        refine v_bipush (v := 40) O dX10_takesE_38 (by decide) ?_
        refine v_icmp_ne O 96 dX10_takesE_40 (by decide) (fun z2 => ?_) (fun z2 => ?_)
        · skip
          refine v_aload_n O dX10_takesE_96 0 rfl ?_
          by_cases z4 : okT (sgT tb ln) p
          · skip
            have z_t := tst_b z4
            refine v_cV (T := TX10) (ci := 10) (As := []) (wr := [((ma 16), eI D 60 (upd fr cl (nI g))), ((ma 17), eI D 60 tt8)]) (st := []) O cf_X10_213 rfl (sp_X10_test_t (mo := mo) (ma := ma) (c := c) (c2 := c2) (tk := tk) (vc := vc) (ln := ln) (rn := rn) (zs_11 := zs9_11) (zs_25 := zs9_25) (zs_26 := zs9_26) (zs_27 := zs9_27) (zs_29 := zs9_29) (tb := tb) (p := p) (sf := (wr sf g out)) (wf := wf9) (g := (g + out.length)) (op := op) (W := W) (hln) (by omega) (h1) (by omega) (by omega) (by omega) (by omega) (by omega) (z4)) dX10_takesE_97 rfl rfl 4 rfl [4, 5, 0, 1] [2, 3] (by decide) rfl rfl (by decide) (by decide) (by decide) (Nat.le_of_ble_eq_true rfl) (by decide) (by decide) (fun r_6 w_7 h_5 => ?_)
            obtain ⟨rfl, rfl⟩ := h_5
            refine v_eq (st' := [.int 1]) (ws' := [((ma 16), eI D 60 (upd fr cl (nI g))), ((ma 17), eI D 60 tt8), (mo, .inr (10, M1R ma (mZ c c2 tk vc ln rn (nI (numE (sgT tb ln) (p + 1 + 1))) (nI (numN (sgT tb ln) (p + 1 + 1))) (nI ((g + out.length) + ([cdR (sgT tb ln) p] ++ List.replicate (whlN W) (-33)).length)) (nI ((whlW W).length)) (nI (op - whlN W)) zs9_25 zs9_26 zs9_27 zs9_29))), ((ma 12), eI D 100 tb), ((ma 18), eI D 600 (wr (wr sf g out) (g + out.length) ([cdR (sgT tb ln) p] ++ List.replicate (whlN W) (-33)))), ((ma 19), eI D 101 wf9)]) rfl rfl rfl rfl ?_
            refine v_if_eq O 108 dX10_takesE_100 (by decide) (fun c => absurd c (by decide)) (fun _ => ?_)
            refine v_eq (ws' := [((ma 16), eI D 60 (upd fr cl (nI g))), ((ma 17), eI D 60 tt8), (mo, .inr (10, M1R ma (mZ c c2 tk vc ln rn (nI (numE (sgT tb ln) (p + 1 + 1))) (nI (numN (sgT tb ln) (p + 1 + 1))) (nI (g + (out ++ ([cdR (sgT tb ln) p] ++ List.replicate (whlN W) (-33))).length)) (nI ((whlW W).length)) (nI (op - whlN W)) zs9_25 zs9_26 zs9_27 zs9_29))), ((ma 12), eI D 100 tb), ((ma 18), eI D 600 (wr sf g (out ++ ([cdR (sgT tb ln) p] ++ List.replicate (whlN W) (-33))))), ((ma 19), eI D 101 wf9)]) rfl rfl rfl (by rw [wr_a2, len_b]) ?_
            refine v_iconst (v := 0) O dX10_takesE_103 (by decide) ?_
            refine v_istore_n (lv' := [(0, .ref mo), (1, .int (nI cl)), (2, .int 0), (3, .int (sgT tb ln p))]) O dX10_takesE_104 (by decide) rfl ?_
            refine v_goto O 22 dX10_takesE_105 (by decide) ?_
            refine v_lvp (lv' := [(0, .ref mo), (1, .int (nI cl)), (2, .int 0)]) [0, 1, 2] rfl ?_
            refine v_sub (ws' := [(mo, .inr (10, M1R ma (mZ c c2 tk vc ln rn (nI (numE (sgT tb ln) (p + 1 + 1))) (nI (numN (sgT tb ln) (p + 1 + 1))) (nI (g + (out ++ ([cdR (sgT tb ln) p] ++ List.replicate (whlN W) (-33))).length)) (nI ((whlW W).length)) (nI (op - whlN W)) zs9_25 zs9_26 zs9_27 zs9_29))), ((ma 12), eI D 100 tb), ((ma 18), eI D 600 (wr sf g (out ++ ([cdR (sgT tb ln) p] ++ List.replicate (whlN W) (-33))))), ((ma 19), eI D 101 wf9), ((ma 16), eI D 60 (upd fr cl (nI g))), ((ma 17), eI D 60 tt8)]) [2, 3, 4, 5, 0, 1] (by decide) rfl ?_
            exact ih.2 _ (whlW W) _ (op - whlN W) _ _ _ _ _ _ _ (whl_k h1) (whl_w h2) (by omega) (by omega) (by rw [List.length_append, List.length_append, List.length_replicate]; show out.length + (1 + whlN W) + (whlW W).length + p0 ≤ _; omega) (by omega) (by omega) h8 (by rw [hF, yd, iteP_f (fun q => q.elim z1 z2), iteP_t z4])
          · skip
            refine v_cV (T := TX10) (ci := 10) (As := []) (wr := [((ma 16), eI D 60 (upd fr cl (nI g))), ((ma 17), eI D 60 tt8)]) (st := []) O cf_X10_213 rfl (sp_X10_test_f (mo := mo) (ma := ma) (c := c) (c2 := c2) (tk := tk) (vc := vc) (ln := ln) (rn := rn) (zs_11 := zs9_11) (zs_25 := zs9_25) (zs_26 := zs9_26) (zs_27 := zs9_27) (zs_29 := zs9_29) (tb := tb) (p := p) (sf := (wr sf g out)) (wf := wf9) (g := (g + out.length)) (op := op) (W := W) (hln) (by omega) (z4)) dX10_takesE_97 rfl rfl 4 rfl [4, 5, 0, 1] [2, 3] (by decide) rfl rfl (by decide) (by decide) (by decide) (Nat.le_of_ble_eq_true rfl) (by decide) (by decide) (fun r_10 w_11 h_9 => ?_)
            obtain ⟨rfl, rfl⟩ := h_9
            refine v_eq (st' := [.int 0]) (ws' := [((ma 16), eI D 60 (upd fr cl (nI g))), ((ma 17), eI D 60 tt8), (mo, .inr (10, M1R ma (mZ c c2 tk vc ln rn (nI ((tstP (sgT tb ln) p).1)) zs9_11 (nI (g + out.length)) (nI W.length) (nI op) zs9_25 zs9_26 zs9_27 zs9_29))), ((ma 12), eI D 100 tb), ((ma 18), eI D 600 (wr sf g out)), ((ma 19), eI D 101 wf9)]) rfl rfl rfl rfl ?_
            refine v_if_eq O 108 dX10_takesE_100 (by decide) (fun _ => ?_) (fun c => absurd c (by decide))
            refine v_iconst (v := 0) O dX10_takesE_108 (by decide) ?_
            refine v_sub (ws' := [(mo, .inr (10, M1R ma (mZ c c2 tk vc ln rn (nI ((tstP (sgT tb ln) p).1)) zs9_11 (nI (g + out.length)) (nI W.length) (nI op) zs9_25 zs9_26 zs9_27 zs9_29))), ((ma 12), eI D 100 tb), ((ma 18), eI D 600 (wr sf g out)), ((ma 19), eI D 101 wf9), ((ma 16), eI D 60 (upd fr cl (nI g))), ((ma 17), eI D 60 tt8)]) [2, 3, 4, 5, 0, 1] (by decide) rfl ?_
            exact v_ireturn O T rfl rfl (by decide) (by decide) dX10_takesE_109 (⟨zs9_11, nI W.length, nI op, zs9_25, zs9_26, zs9_27, zs9_29, _, _, by rw [hF, yd, iteP_f (fun q => q.elim z1 z2), iteP_f z4]; exact bF, by rw [hF, yd, iteP_f (fun q => q.elim z1 z2), iteP_f z4], h8, fun q => by rw [hF, yd, iteP_f (fun q => q.elim z1 z2), iteP_f z4] at q; exact absurd (show false = true from q) (by decide)⟩)
        · skip
          have z_p := sgT_lt (c := 40) z2 (by decide)
          have z9 : sgT tb ln p = 33 ∨ sgT tb ln p = 40 := Or.inr z2
          refine v_aload_n O dX10_takesE_43 0 rfl ?_
          refine gf_X10_77 (v := .int (nI op)) O rfl dX10_takesE_44 4 rfl rfl ?_
          refine v_iconst (v := 4) O dX10_takesE_47 (by decide) ?_
          refine v_icmp_ne O 53 dX10_takesE_48 (by decide) (fun z3 => ?_) (fun z3 => ?_)
          · skip
            have z3 := (not_congr (c_eq (x := (nI op)) (y := 4) (a := op) (b := 4) rfl rfl (by omega) (by omega))).mp z3
            refine v_aload_n O dX10_takesE_53 0 rfl ?_
            refine v_dup O dX10_takesE_54 rfl ?_
            refine gf_X10_77 (v := .int (nI op)) O rfl dX10_takesE_55 4 rfl rfl ?_
            refine v_iconst (v := 1) O dX10_takesE_58 (by decide) ?_
            refine v_iadd O dX10_takesE_59 ?_
            refine v_top (y := nI (op + 1)) (nI_add op 1) ?_
            refine pf_X10_77 (fs' := M1R ma (mZ c c2 tk vc ln rn (nI p) zs9_11 (nI (g + out.length)) (nI W.length) (nI (op + 1)) zs9_25 zs9_26 zs9_27 zs9_29)) (ws' := [((ma 18), eI D 600 (wr sf g out)), ((ma 19), eI D 101 wf9), ((ma 16), eI D 60 (upd fr cl (nI g))), ((ma 17), eI D 60 tt8), (mo, .inr (10, M1R ma (mZ c c2 tk vc ln rn (nI p) zs9_11 (nI (g + out.length)) (nI W.length) (nI (op + 1)) zs9_25 zs9_26 zs9_27 zs9_29))), ((ma 12), eI D 100 tb)]) O rfl dX10_takesE_60 4 rfl (Nat.le_of_ble_eq_true rfl) rfl rfl ?_
            refine v_aload_n O dX10_takesE_63 0 rfl ?_
            refine gf_X10_68 (v := .ref (ma 19)) O rfl dX10_takesE_64 4 rfl rfl ?_
            refine v_aload_n O dX10_takesE_67 0 rfl ?_
            refine gf_X10_74 (v := .int (nI W.length)) O rfl dX10_takesE_68 4 rfl rfl ?_
            refine v_iload_n O dX10_takesE_71 3 rfl ?_
            refine v_iastk (ws' := [((ma 18), eI D 600 (wr sf g out)), ((ma 19), eI D 101 (upd wf9 W.length (sgT tb ln p))), ((ma 16), eI D 60 (upd fr cl (nI g))), ((ma 17), eI D 60 tt8), (mo, .inr (10, M1R ma (mZ c c2 tk vc ln rn (nI p) zs9_11 (nI (g + out.length)) (nI W.length) (nI (op + 1)) zs9_25 zs9_26 zs9_27 zs9_29))), ((ma 12), eI D 100 tb)]) O dX10_takesE_72 1 rfl W.length (rfl) (by omega) (by decide) (rfl) ?_
            refine v_aload_n O dX10_takesE_73 0 rfl ?_
            refine v_dup O dX10_takesE_74 rfl ?_
            refine gf_X10_74 (v := .int (nI W.length)) O rfl dX10_takesE_75 4 rfl rfl ?_
            refine v_iconst (v := 1) O dX10_takesE_78 (by decide) ?_
            refine v_iadd O dX10_takesE_79 ?_
            refine v_top (y := nI (W.length + 1)) (nI_add W.length 1) ?_
            refine pf_X10_74 (fs' := M1R ma (mZ c c2 tk vc ln rn (nI p) zs9_11 (nI (g + out.length)) (nI (W.length + 1)) (nI (op + 1)) zs9_25 zs9_26 zs9_27 zs9_29)) (ws' := [((ma 18), eI D 600 (wr sf g out)), ((ma 19), eI D 101 (upd wf9 W.length (sgT tb ln p))), ((ma 16), eI D 60 (upd fr cl (nI g))), ((ma 17), eI D 60 tt8), (mo, .inr (10, M1R ma (mZ c c2 tk vc ln rn (nI p) zs9_11 (nI (g + out.length)) (nI (W.length + 1)) (nI (op + 1)) zs9_25 zs9_26 zs9_27 zs9_29))), ((ma 12), eI D 100 tb)]) O rfl dX10_takesE_80 4 rfl (Nat.le_of_ble_eq_true rfl) rfl rfl ?_
            refine v_aload_n O dX10_takesE_83 0 rfl ?_
            refine v_dup O dX10_takesE_84 rfl ?_
            refine gf_X10_41 (v := .int (nI p)) O rfl dX10_takesE_85 4 rfl rfl ?_
            refine v_iconst (v := 1) O dX10_takesE_88 (by decide) ?_
            refine v_iadd O dX10_takesE_89 ?_
            refine v_top (y := nI (p + 1)) (nI_add p 1) ?_
            refine pf_X10_41 (fs' := M1R ma (mZ c c2 tk vc ln rn (nI (p + 1)) zs9_11 (nI (g + out.length)) (nI (W.length + 1)) (nI (op + 1)) zs9_25 zs9_26 zs9_27 zs9_29)) (ws' := [((ma 18), eI D 600 (wr sf g out)), ((ma 19), eI D 101 (upd wf9 W.length (sgT tb ln p))), ((ma 16), eI D 60 (upd fr cl (nI g))), ((ma 17), eI D 60 tt8), (mo, .inr (10, M1R ma (mZ c c2 tk vc ln rn (nI (p + 1)) zs9_11 (nI (g + out.length)) (nI (W.length + 1)) (nI (op + 1)) zs9_25 zs9_26 zs9_27 zs9_29))), ((ma 12), eI D 100 tb)]) O rfl dX10_takesE_90 4 rfl (Nat.le_of_ble_eq_true rfl) rfl rfl ?_
            refine v_goto O 22 dX10_takesE_93 (by decide) ?_
            refine v_lvp (lv' := [(0, .ref mo), (1, .int (nI cl)), (2, .int 1)]) [0, 1, 2] rfl ?_
            refine v_sub (ws' := [(mo, .inr (10, M1R ma (mZ c c2 tk vc ln rn (nI (p + 1)) zs9_11 (nI (g + out.length)) (nI (W.length + 1)) (nI (op + 1)) zs9_25 zs9_26 zs9_27 zs9_29))), ((ma 12), eI D 100 tb), ((ma 18), eI D 600 (wr sf g out)), ((ma 19), eI D 101 (upd wf9 W.length (sgT tb ln p))), ((ma 16), eI D 60 (upd fr cl (nI g))), ((ma 17), eI D 60 tt8)]) [4, 5, 0, 1, 2, 3] (by decide) rfl ?_
            exact ih.1 (p + 1) (sgT tb ln p :: W) out (op + 1) _ _ _ _ _ _ _ (stk_up h1) (wok_up h2 (z9.elim Or.inl (fun q => Or.inr (Or.inl q)))) (by rw [cntO, if_pos z9, h3]) (by omega) (by rw [List.length_cons]; omega) (by omega) (by omega) h8 (by rw [hF, yd, iteP_t z9, iteP_f z3])
          · skip
            have z3 := (c_eq (x := (nI op)) (y := 4) (a := op) (b := 4) rfl rfl (by omega) (by omega)).mp z3
            refine v_iconst (v := 0) O dX10_takesE_51 (by decide) ?_
            refine v_sub (ws' := [(mo, .inr (10, M1R ma (mZ c c2 tk vc ln rn (nI p) zs9_11 (nI (g + out.length)) (nI W.length) (nI op) zs9_25 zs9_26 zs9_27 zs9_29))), ((ma 12), eI D 100 tb), ((ma 18), eI D 600 (wr sf g out)), ((ma 19), eI D 101 wf9), ((ma 16), eI D 60 (upd fr cl (nI g))), ((ma 17), eI D 60 tt8)]) [4, 5, 0, 1, 2, 3] (by decide) rfl ?_
            exact v_ireturn O T rfl rfl (by decide) (by decide) dX10_takesE_52 (⟨zs9_11, (nI W.length), (nI op), zs9_25, zs9_26, zs9_27, zs9_29, _, _, by rw [hF, yd, iteP_t z9, iteP_t z3]; exact bF, by rw [hF, yd, iteP_t z9, iteP_t z3], h8, fun q => by rw [hF, yd, iteP_t z9, iteP_t z3] at q; exact absurd (show false = true from q) (by decide)⟩)
    · intro p W out op zs9_11 zs9_25 zs9_26 zs9_27 zs9_29 wf9 tt8 h1 h2 h3 h4 h5 h6 h7 h8 hF
      have z_sc := stl_c (s := sgT tb ln p) W
      have z_sd := stl_c (s := 124) W
      refine v_aload_n O dX10_takesE_22 0 rfl ?_
      refine v_cV (T := TX10) (ci := 10) (As := []) (wr := [((ma 18), eI D 600 (wr sf g out)), ((ma 19), eI D 101 wf9), ((ma 16), eI D 60 (upd fr cl (nI g))), ((ma 17), eI D 60 tt8)]) (st := []) O cf_X10_188 rfl (sp_X10_next (mo := mo) (ma := ma) (c := c) (c2 := c2) (tk := tk) (vc := vc) (ln := ln) (rn := rn) (zs_11 := zs9_11) (zs_20 := (nI (g + out.length))) (zs_21 := (nI W.length)) (zs_22 := (nI op)) (zs_25 := zs9_25) (zs_26 := zs9_26) (zs_27 := zs9_27) (zs_29 := zs9_29) (tb := tb) (p := p) (hln) (by omega)) dX10_takesE_23 rfl rfl 0 rfl [0, 1] [2, 3, 4, 5] (by decide) rfl rfl (by decide) (by decide) (by decide) (Nat.le_of_ble_eq_true rfl) (by decide) (by decide) (fun r_2 w_3 h_1 => ?_)
      obtain ⟨rfl, rfl⟩ := h_1
      refine v_eq (st' := [.int (sgT tb ln p)]) (ws' := [((ma 18), eI D 600 (wr sf g out)), ((ma 19), eI D 101 wf9), ((ma 16), eI D 60 (upd fr cl (nI g))), ((ma 17), eI D 60 tt8), (mo, .inr (10, M1R ma (mZ c c2 tk vc ln rn (nI p) zs9_11 (nI (g + out.length)) (nI W.length) (nI op) zs9_25 zs9_26 zs9_27 zs9_29))), ((ma 12), eI D 100 tb)]) rfl rfl rfl rfl ?_
      refine v_istore_n (lv' := [(0, .ref mo), (1, .int (nI cl)), (2, .int 0), (3, .int (sgT tb ln p))]) O dX10_takesE_26 (by decide) rfl ?_
      refine v_iload_n O dX10_takesE_27 2 rfl ?_
      refine v_if_eq O 110 dX10_takesE_28 (by decide) (fun _ => ?_) (fun c => absurd c (by decide))
      refine v_iload_n O dX10_takesE_110 3 rfl ?_
      refine v_bipush (v := 38) O dX10_takesE_111 (by decide) ?_
      refine v_icmp_eq O 122 dX10_takesE_113 (by decide) (fun z1 => ?_) (fun z1 => ?_)
      · skip
        have z_p := sgT_lt (c := 38) z1 (by decide)
        have z9 : sgT tb ln p = 38 ∨ sgT tb ln p = 124 := Or.inl z1
        refine v_aload_n O dX10_takesE_122 0 rfl ?_
        refine v_iload_n O dX10_takesE_123 3 rfl ?_
        refine v_cV (T := TX10) (ci := 10) (As := [.int (sgT tb ln p)]) (wr := [((ma 16), eI D 60 (upd fr cl (nI g))), ((ma 17), eI D 60 tt8), ((ma 12), eI D 100 tb)]) (st := []) O cf_X10_216 rfl (sp_X10_settle (mo := mo) (ma := ma) (c := c) (c2 := c2) (tk := tk) (vc := vc) (ln := ln) (rn := rn) (zs_10 := (nI p)) (zs_11 := zs9_11) (zs_22 := (nI op)) (zs_25 := zs9_25) (zs_26 := zs9_26) (zs_27 := zs9_27) (zs_29 := zs9_29) (sf := (wr sf g out)) (wf := wf9) (g := (g + out.length)) (W := W) (s := (sgT tb ln p)) (h1) (by omega) (by omega)) dX10_takesE_124 rfl rfl 4 rfl [4, 0, 1] [2, 3, 5] (by decide) rfl rfl (by decide) (by decide) (by decide) (Nat.le_of_ble_eq_true rfl) (by decide) (by decide) (fun r_6 w_7 h_5 => ?_)
        obtain ⟨rfl, rfl⟩ := h_5
        refine v_eq (st' := []) (ws' := [((ma 16), eI D 60 (upd fr cl (nI g))), ((ma 17), eI D 60 tt8), ((ma 12), eI D 100 tb), (mo, .inr (10, M1R ma (mZ c c2 tk vc ln rn (nI p) zs9_11 (nI ((g + out.length) + (stlL (sgT tb ln p) W).length)) (nI ((stlW (sgT tb ln p) W).length)) (nI op) zs9_25 zs9_26 zs9_27 zs9_29))), ((ma 18), eI D 600 (wr (wr sf g out) (g + out.length) (stlL (sgT tb ln p) W))), ((ma 19), eI D 101 wf9)]) rfl rfl rfl rfl ?_
        refine v_eq (ws' := [((ma 16), eI D 60 (upd fr cl (nI g))), ((ma 17), eI D 60 tt8), ((ma 12), eI D 100 tb), (mo, .inr (10, M1R ma (mZ c c2 tk vc ln rn (nI p) zs9_11 (nI (g + (out ++ stlL (sgT tb ln p) W).length)) (nI ((stlW (sgT tb ln p) W).length)) (nI op) zs9_25 zs9_26 zs9_27 zs9_29))), ((ma 18), eI D 600 (wr sf g (out ++ stlL (sgT tb ln p) W))), ((ma 19), eI D 101 wf9)]) rfl rfl rfl (by rw [wr_a2, len_b]) ?_
        refine v_aload_n O dX10_takesE_127 0 rfl ?_
        refine gf_X10_68 (v := .ref (ma 19)) O rfl dX10_takesE_128 3 rfl rfl ?_
        refine v_aload_n O dX10_takesE_131 0 rfl ?_
        refine gf_X10_74 (v := .int (nI ((stlW (sgT tb ln p) W).length))) O rfl dX10_takesE_132 3 rfl rfl ?_
        refine v_iload_n O dX10_takesE_135 3 rfl ?_
        refine v_iastk (ws' := [((ma 16), eI D 60 (upd fr cl (nI g))), ((ma 17), eI D 60 tt8), ((ma 12), eI D 100 tb), (mo, .inr (10, M1R ma (mZ c c2 tk vc ln rn (nI p) zs9_11 (nI (g + (out ++ stlL (sgT tb ln p) W).length)) (nI ((stlW (sgT tb ln p) W).length)) (nI op) zs9_25 zs9_26 zs9_27 zs9_29))), ((ma 18), eI D 600 (wr sf g (out ++ stlL (sgT tb ln p) W))), ((ma 19), eI D 101 (upd wf9 ((stlW (sgT tb ln p) W).length) (sgT tb ln p)))]) O dX10_takesE_136 5 rfl ((stlW (sgT tb ln p) W).length) (rfl) (by omega) (by decide) (rfl) ?_
        refine v_aload_n O dX10_takesE_137 0 rfl ?_
        refine v_dup O dX10_takesE_138 rfl ?_
        refine gf_X10_74 (v := .int (nI ((stlW (sgT tb ln p) W).length))) O rfl dX10_takesE_139 3 rfl rfl ?_
        refine v_iconst (v := 1) O dX10_takesE_142 (by decide) ?_
        refine v_iadd O dX10_takesE_143 ?_
        refine v_top (y := nI (((stlW (sgT tb ln p) W).length) + 1)) (nI_add ((stlW (sgT tb ln p) W).length) 1) ?_
        refine pf_X10_74 (fs' := M1R ma (mZ c c2 tk vc ln rn (nI p) zs9_11 (nI (g + (out ++ stlL (sgT tb ln p) W).length)) (nI (((stlW (sgT tb ln p) W).length) + 1)) (nI op) zs9_25 zs9_26 zs9_27 zs9_29)) (ws' := [((ma 16), eI D 60 (upd fr cl (nI g))), ((ma 17), eI D 60 tt8), ((ma 12), eI D 100 tb), (mo, .inr (10, M1R ma (mZ c c2 tk vc ln rn (nI p) zs9_11 (nI (g + (out ++ stlL (sgT tb ln p) W).length)) (nI (((stlW (sgT tb ln p) W).length) + 1)) (nI op) zs9_25 zs9_26 zs9_27 zs9_29))), ((ma 18), eI D 600 (wr sf g (out ++ stlL (sgT tb ln p) W))), ((ma 19), eI D 101 (upd wf9 ((stlW (sgT tb ln p) W).length) (sgT tb ln p)))]) O rfl dX10_takesE_144 3 rfl (Nat.le_of_ble_eq_true rfl) rfl rfl ?_
        refine v_iconst (v := 1) O dX10_takesE_147 (by decide) ?_
        refine v_istore_n (lv' := [(0, .ref mo), (1, .int (nI cl)), (2, .int 1), (3, .int (sgT tb ln p))]) O dX10_takesE_148 (by decide) rfl ?_
        refine v_aload_n O dX10_takesE_149 0 rfl ?_
        refine v_dup O dX10_takesE_150 rfl ?_
        refine gf_X10_41 (v := .int (nI p)) O rfl dX10_takesE_151 3 rfl rfl ?_
        refine v_iconst (v := 1) O dX10_takesE_154 (by decide) ?_
        refine v_iadd O dX10_takesE_155 ?_
        refine v_top (y := nI (p + 1)) (nI_add p 1) ?_
        refine pf_X10_41 (fs' := M1R ma (mZ c c2 tk vc ln rn (nI (p + 1)) zs9_11 (nI (g + (out ++ stlL (sgT tb ln p) W).length)) (nI (((stlW (sgT tb ln p) W).length) + 1)) (nI op) zs9_25 zs9_26 zs9_27 zs9_29)) (ws' := [((ma 16), eI D 60 (upd fr cl (nI g))), ((ma 17), eI D 60 tt8), ((ma 12), eI D 100 tb), (mo, .inr (10, M1R ma (mZ c c2 tk vc ln rn (nI (p + 1)) zs9_11 (nI (g + (out ++ stlL (sgT tb ln p) W).length)) (nI (((stlW (sgT tb ln p) W).length) + 1)) (nI op) zs9_25 zs9_26 zs9_27 zs9_29))), ((ma 18), eI D 600 (wr sf g (out ++ stlL (sgT tb ln p) W))), ((ma 19), eI D 101 (upd wf9 ((stlW (sgT tb ln p) W).length) (sgT tb ln p)))]) O rfl dX10_takesE_156 3 rfl (Nat.le_of_ble_eq_true rfl) rfl rfl ?_
        refine v_goto O 22 dX10_takesE_159 (by decide) ?_
        refine v_lvp (lv' := [(0, .ref mo), (1, .int (nI cl)), (2, .int 1)]) [0, 1, 2] rfl ?_
        refine v_sub (ws' := [(mo, .inr (10, M1R ma (mZ c c2 tk vc ln rn (nI (p + 1)) zs9_11 (nI (g + (out ++ stlL (sgT tb ln p) W).length)) (nI (((stlW (sgT tb ln p) W).length) + 1)) (nI op) zs9_25 zs9_26 zs9_27 zs9_29))), ((ma 12), eI D 100 tb), ((ma 18), eI D 600 (wr sf g (out ++ stlL (sgT tb ln p) W))), ((ma 19), eI D 101 (upd wf9 ((stlW (sgT tb ln p) W).length) (sgT tb ln p))), ((ma 16), eI D 60 (upd fr cl (nI g))), ((ma 17), eI D 60 tt8)]) [3, 2, 4, 5, 0, 1] (by decide) rfl ?_
        exact ih.1 (p + 1) (sgT tb ln p :: stlW (sgT tb ln p) W) _ op _ _ _ _ _ _ _ (stk_up (stl_k h1)) (wok_up (stl_w h2) (Or.inr (Or.inr z9))) (by rw [cntO, if_neg (by rcases z9 with q | q <;> rw [q] <;> decide), z_sc.1, h3]) h4 (by rw [List.length_append, List.length_cons]; omega) (by omega) (by omega) h8 (by rw [hF, yd, iteP_t z9])
      · skip
        refine v_iload_n O dX10_takesE_116 3 rfl ?_
        refine v_bipush (v := 124) O dX10_takesE_117 (by decide) ?_
        refine v_icmp_ne O 162 dX10_takesE_119 (by decide) (fun z2 => ?_) (fun z2 => ?_)
        · skip
          refine v_aload_n O dX10_takesE_162 0 rfl ?_
          refine v_bipush (v := 124) O dX10_takesE_163 (by decide) ?_
          refine v_cV (T := TX10) (ci := 10) (As := [.int 124]) (wr := [((ma 16), eI D 60 (upd fr cl (nI g))), ((ma 17), eI D 60 tt8), ((ma 12), eI D 100 tb)]) (st := []) O cf_X10_216 rfl (sp_X10_settle (mo := mo) (ma := ma) (c := c) (c2 := c2) (tk := tk) (vc := vc) (ln := ln) (rn := rn) (zs_10 := (nI p)) (zs_11 := zs9_11) (zs_22 := (nI op)) (zs_25 := zs9_25) (zs_26 := zs9_26) (zs_27 := zs9_27) (zs_29 := zs9_29) (sf := (wr sf g out)) (wf := wf9) (g := (g + out.length)) (W := W) (s := 124) (h1) (by omega) (by omega)) dX10_takesE_165 rfl rfl 4 rfl [4, 0, 1] [2, 3, 5] (by decide) rfl rfl (by decide) (by decide) (by decide) (Nat.le_of_ble_eq_true rfl) (by decide) (by decide) (fun r_9 w_10 h_8 => ?_)
          obtain ⟨rfl, rfl⟩ := h_8
          refine v_eq (st' := []) (ws' := [((ma 16), eI D 60 (upd fr cl (nI g))), ((ma 17), eI D 60 tt8), ((ma 12), eI D 100 tb), (mo, .inr (10, M1R ma (mZ c c2 tk vc ln rn (nI p) zs9_11 (nI ((g + out.length) + (stlL 124 W).length)) (nI ((stlW 124 W).length)) (nI op) zs9_25 zs9_26 zs9_27 zs9_29))), ((ma 18), eI D 600 (wr (wr sf g out) (g + out.length) (stlL 124 W))), ((ma 19), eI D 101 wf9)]) rfl rfl rfl rfl ?_
          refine v_eq (ws' := [((ma 16), eI D 60 (upd fr cl (nI g))), ((ma 17), eI D 60 tt8), ((ma 12), eI D 100 tb), (mo, .inr (10, M1R ma (mZ c c2 tk vc ln rn (nI p) zs9_11 (nI (g + (out ++ stlL 124 W).length)) (nI ((stlW 124 W).length)) (nI op) zs9_25 zs9_26 zs9_27 zs9_29))), ((ma 18), eI D 600 (wr sf g (out ++ stlL 124 W))), ((ma 19), eI D 101 wf9)]) rfl rfl rfl (by rw [wr_a2, len_b]) ?_
          refine v_aload_n O dX10_takesE_168 0 rfl ?_
          refine gf_X10_62 (v := .ref (ma 17)) O rfl dX10_takesE_169 3 rfl rfl ?_
          refine v_iload_n O dX10_takesE_172 1 rfl ?_
          refine v_aload_n O dX10_takesE_173 0 rfl ?_
          refine gf_X10_71 (v := .int (nI (g + (out ++ stlL 124 W).length))) O rfl dX10_takesE_174 3 rfl rfl ?_
          refine v_iastk (ws' := [((ma 16), eI D 60 (upd fr cl (nI g))), ((ma 17), eI D 60 (upd tt8 cl (nI (g + (out ++ stlL 124 W).length)))), ((ma 12), eI D 100 tb), (mo, .inr (10, M1R ma (mZ c c2 tk vc ln rn (nI p) zs9_11 (nI (g + (out ++ stlL 124 W).length)) (nI ((stlW 124 W).length)) (nI op) zs9_25 zs9_26 zs9_27 zs9_29))), ((ma 18), eI D 600 (wr sf g (out ++ stlL 124 W))), ((ma 19), eI D 101 wf9)]) O dX10_takesE_177 1 rfl cl (rfl) (by omega) (by decide) (rfl) ?_
          refine v_aload_n O dX10_takesE_178 0 rfl ?_
          refine gf_X10_74 (v := .int (nI ((stlW 124 W).length))) O rfl dX10_takesE_179 3 rfl rfl ?_
          refine v_if_ne O 187 dX10_takesE_182 (by decide) (fun z5 => ?_) (fun z5 => ?_)
          · skip
            have z5 := (not_congr (c_eq (x := nI ((stlW 124 W).length)) (y := 0) (a := (stlW 124 W).length) (b := 0) rfl rfl (by omega) (by omega))).mp z5
            have z5 : ¬ (stlW 124 W) = [] := fun q => z5 (by rw [q]; rfl)
            refine v_iload_n O dX10_takesE_187 3 rfl ?_
            refine v_bipush (v := 41) O dX10_takesE_188 (by decide) ?_
            refine v_icmp_eq O 195 dX10_takesE_190 (by decide) (fun z6 => ?_) (fun z6 => ?_)
            · skip
              have z_p := sgT_lt z6 (by decide)
              obtain ⟨x9, V9, e9⟩ : ∃ x V, (stlW 124 W) = x :: V := by
                cases q : (stlW 124 W) with
                | nil => exact absurd q z5
                | cons x V => exact ⟨x, V, rfl⟩
              have z_ct := stl_t h2 e9
              rw [← e9, z_sd.1] at z_ct
              have z_tl : (stlW 124 W).tail = V9 := by rw [e9]; rfl
              rw [← z_tl] at z_ct
              have z_ln : (stlW 124 W).length = (stlW 124 W).tail.length + 1 := by rw [e9]; rfl
              have z_k : stk wf9 (stlW 124 W).tail := by have q := stl_k (s := 124) h1; rw [e9] at q ⊢; exact q.2
              have z_w : wok (stlW 124 W).tail := by have q := stl_w (s := 124) h2; rw [e9] at q ⊢; exact fun y hy => q y (List.mem_cons_of_mem _ hy)
              have z_wc := whl_c (stlW 124 W).tail
              refine v_aload_n O dX10_takesE_195 0 rfl ?_
              refine v_dup O dX10_takesE_196 rfl ?_
              refine gf_X10_74 (v := .int (nI ((stlW 124 W).length))) O rfl dX10_takesE_197 3 rfl rfl ?_
              refine v_iconst (v := 1) O dX10_takesE_200 (by decide) ?_
              refine v_isub O dX10_takesE_201 ?_
              refine v_top (y := nI (stlW 124 W).tail.length) (by rw [z_ln]; exact nI_p _) ?_
              refine pf_X10_74 (fs' := M1R ma (mZ c c2 tk vc ln rn (nI p) zs9_11 (nI (g + (out ++ stlL 124 W).length)) (nI (stlW 124 W).tail.length) (nI op) zs9_25 zs9_26 zs9_27 zs9_29)) (ws' := [((ma 16), eI D 60 (upd fr cl (nI g))), ((ma 17), eI D 60 (upd tt8 cl (nI (g + (out ++ stlL 124 W).length)))), ((ma 12), eI D 100 tb), (mo, .inr (10, M1R ma (mZ c c2 tk vc ln rn (nI p) zs9_11 (nI (g + (out ++ stlL 124 W).length)) (nI (stlW 124 W).tail.length) (nI op) zs9_25 zs9_26 zs9_27 zs9_29))), ((ma 18), eI D 600 (wr sf g (out ++ stlL 124 W))), ((ma 19), eI D 101 wf9)]) O rfl dX10_takesE_202 3 rfl (Nat.le_of_ble_eq_true rfl) rfl rfl ?_
              refine v_aload_n O dX10_takesE_205 0 rfl ?_
              refine v_dup O dX10_takesE_206 rfl ?_
              refine gf_X10_77 (v := .int (nI op)) O rfl dX10_takesE_207 3 rfl rfl ?_
              refine v_iconst (v := 1) O dX10_takesE_210 (by decide) ?_
              refine v_isub O dX10_takesE_211 ?_
              refine v_top (y := nI (op - 1)) ((show nI op - nI 1 = nI (op - 1) from pk_sub (by omega))) ?_
              refine pf_X10_77 (fs' := M1R ma (mZ c c2 tk vc ln rn (nI p) zs9_11 (nI (g + (out ++ stlL 124 W).length)) (nI (stlW 124 W).tail.length) (nI (op - 1)) zs9_25 zs9_26 zs9_27 zs9_29)) (ws' := [((ma 16), eI D 60 (upd fr cl (nI g))), ((ma 17), eI D 60 (upd tt8 cl (nI (g + (out ++ stlL 124 W).length)))), ((ma 12), eI D 100 tb), (mo, .inr (10, M1R ma (mZ c c2 tk vc ln rn (nI p) zs9_11 (nI (g + (out ++ stlL 124 W).length)) (nI (stlW 124 W).tail.length) (nI (op - 1)) zs9_25 zs9_26 zs9_27 zs9_29))), ((ma 18), eI D 600 (wr sf g (out ++ stlL 124 W))), ((ma 19), eI D 101 wf9)]) O rfl dX10_takesE_212 3 rfl (Nat.le_of_ble_eq_true rfl) rfl rfl ?_
              refine v_aload_n O dX10_takesE_215 0 rfl ?_
              refine v_dup O dX10_takesE_216 rfl ?_
              refine gf_X10_41 (v := .int (nI p)) O rfl dX10_takesE_217 3 rfl rfl ?_
              refine v_iconst (v := 1) O dX10_takesE_220 (by decide) ?_
              refine v_iadd O dX10_takesE_221 ?_
              refine v_top (y := nI (p + 1)) (nI_add p 1) ?_
              refine pf_X10_41 (fs' := M1R ma (mZ c c2 tk vc ln rn (nI (p + 1)) zs9_11 (nI (g + (out ++ stlL 124 W).length)) (nI (stlW 124 W).tail.length) (nI (op - 1)) zs9_25 zs9_26 zs9_27 zs9_29)) (ws' := [((ma 16), eI D 60 (upd fr cl (nI g))), ((ma 17), eI D 60 (upd tt8 cl (nI (g + (out ++ stlL 124 W).length)))), ((ma 12), eI D 100 tb), (mo, .inr (10, M1R ma (mZ c c2 tk vc ln rn (nI (p + 1)) zs9_11 (nI (g + (out ++ stlL 124 W).length)) (nI (stlW 124 W).tail.length) (nI (op - 1)) zs9_25 zs9_26 zs9_27 zs9_29))), ((ma 18), eI D 600 (wr sf g (out ++ stlL 124 W))), ((ma 19), eI D 101 wf9)]) O rfl dX10_takesE_222 3 rfl (Nat.le_of_ble_eq_true rfl) rfl rfl ?_
              refine v_aload_n O dX10_takesE_225 0 rfl ?_
              refine v_cV (T := TX10) (ci := 10) (As := []) (wr := [((ma 16), eI D 60 (upd fr cl (nI g))), ((ma 17), eI D 60 (upd tt8 cl (nI (g + (out ++ stlL 124 W).length)))), ((ma 12), eI D 100 tb)]) (st := []) O cf_X10_210 rfl (sp_X10_whole (mo := mo) (ma := ma) (c := c) (c2 := c2) (tk := tk) (vc := vc) (ln := ln) (rn := rn) (zs_10 := (nI (p + 1))) (zs_11 := zs9_11) (zs_25 := zs9_25) (zs_26 := zs9_26) (zs_27 := zs9_27) (zs_29 := zs9_29) (sf := (wr sf g (out ++ stlL 124 W))) (wf := wf9) (g := (g + (out ++ stlL 124 W).length)) (op := (op - 1)) (W := (stlW 124 W).tail) (z_k) (by omega) (by rw [List.length_append]; omega) (by omega) (by omega)) dX10_takesE_226 rfl rfl 3 rfl [3, 4, 5] [0, 1, 2] (by decide) rfl rfl (by decide) (by decide) (by decide) (Nat.le_of_ble_eq_true rfl) (by decide) (by decide) (fun r_12 w_13 h_11 => ?_)
              obtain ⟨rfl, rfl⟩ := h_11
              refine v_eq (st' := []) (ws' := [((ma 16), eI D 60 (upd fr cl (nI g))), ((ma 17), eI D 60 (upd tt8 cl (nI (g + (out ++ stlL 124 W).length)))), ((ma 12), eI D 100 tb), (mo, .inr (10, M1R ma (mZ c c2 tk vc ln rn (nI (p + 1)) zs9_11 (nI ((g + (out ++ stlL 124 W).length) + whlN (stlW 124 W).tail)) (nI ((whlW (stlW 124 W).tail).length)) (nI ((op - 1) - whlN (stlW 124 W).tail)) zs9_25 zs9_26 zs9_27 zs9_29))), ((ma 18), eI D 600 (wr (wr sf g (out ++ stlL 124 W)) (g + (out ++ stlL 124 W).length) (List.replicate (whlN (stlW 124 W).tail) (-33)))), ((ma 19), eI D 101 wf9)]) rfl rfl rfl rfl ?_
              refine v_eq (ws' := [((ma 16), eI D 60 (upd fr cl (nI g))), ((ma 17), eI D 60 (upd tt8 cl (nI (g + (out ++ stlL 124 W).length)))), ((ma 12), eI D 100 tb), (mo, .inr (10, M1R ma (mZ c c2 tk vc ln rn (nI (p + 1)) zs9_11 (nI (g + (out ++ (stlL 124 W ++ List.replicate (whlN (stlW 124 W).tail) (-33))).length)) (nI ((whlW (stlW 124 W).tail).length)) (nI ((op - 1) - whlN (stlW 124 W).tail)) zs9_25 zs9_26 zs9_27 zs9_29))), ((ma 18), eI D 600 (wr sf g (out ++ (stlL 124 W ++ List.replicate (whlN (stlW 124 W).tail) (-33))))), ((ma 19), eI D 101 wf9)]) rfl rfl rfl (by rw [wr_a2, show g + (out ++ stlL 124 W).length + whlN (stlW 124 W).tail = g + (out ++ (stlL 124 W ++ List.replicate (whlN (stlW 124 W).tail) (-33))).length by rw [List.length_append, List.length_append, List.length_append, List.length_replicate]; omega, List.append_assoc]) ?_
              refine v_goto O 22 dX10_takesE_229 (by decide) ?_
              refine v_lvp (lv' := [(0, .ref mo), (1, .int (nI cl)), (2, .int 0)]) [0, 1, 2] rfl ?_
              refine v_sub (ws' := [(mo, .inr (10, M1R ma (mZ c c2 tk vc ln rn (nI (p + 1)) zs9_11 (nI (g + (out ++ (stlL 124 W ++ List.replicate (whlN (stlW 124 W).tail) (-33))).length)) (nI ((whlW (stlW 124 W).tail).length)) (nI ((op - 1) - whlN (stlW 124 W).tail)) zs9_25 zs9_26 zs9_27 zs9_29))), ((ma 12), eI D 100 tb), ((ma 18), eI D 600 (wr sf g (out ++ (stlL 124 W ++ List.replicate (whlN (stlW 124 W).tail) (-33))))), ((ma 19), eI D 101 wf9), ((ma 16), eI D 60 (upd fr cl (nI g))), ((ma 17), eI D 60 (upd tt8 cl (nI (g + (out ++ stlL 124 W).length))))]) [3, 2, 4, 5, 0, 1] (by decide) rfl ?_
              exact ih.2 (p + 1) _ _ _ _ _ _ _ _ _ _ (whl_k z_k) (whl_w z_w) (by omega) (by omega) (by rw [List.length_append, List.length_append, List.length_replicate]; omega) (by omega) (by omega) (fun j hj => by rw [pk_un hj]; exact h8 j hj) (by rw [hF, yd, iteP_f (fun q => q.elim z1 z2), iteP_f z5, iteP_t z6])
            · skip
              refine v_iconst (v := 0) O dX10_takesE_193 (by decide) ?_
              refine v_sub (ws' := [(mo, .inr (10, M1R ma (mZ c c2 tk vc ln rn (nI p) zs9_11 (nI (g + (out ++ stlL 124 W).length)) (nI ((stlW 124 W).length)) (nI op) zs9_25 zs9_26 zs9_27 zs9_29))), ((ma 12), eI D 100 tb), ((ma 18), eI D 600 (wr sf g (out ++ stlL 124 W))), ((ma 19), eI D 101 wf9), ((ma 16), eI D 60 (upd fr cl (nI g))), ((ma 17), eI D 60 (upd tt8 cl (nI (g + (out ++ stlL 124 W).length))))]) [3, 2, 4, 5, 0, 1] (by decide) rfl ?_
              exact v_ireturn O T rfl rfl (by decide) (by decide) dX10_takesE_194 (⟨zs9_11, nI ((stlW 124 W).length), (nI op), zs9_25, zs9_26, zs9_27, zs9_29, _, _, by rw [hF, yd, iteP_f (fun q => q.elim z1 z2), iteP_f z5, iteP_f z6]; exact bF, by rw [hF, yd, iteP_f (fun q => q.elim z1 z2), iteP_f z5, iteP_f z6], fun j hj => by rw [pk_un hj]; exact h8 j hj, fun q => by rw [hF, yd, iteP_f (fun q => q.elim z1 z2), iteP_f z5, iteP_f z6] at q; exact absurd (show false = true from q) (by decide)⟩)
          · skip
            have z5 := (c_eq (x := nI ((stlW 124 W).length)) (y := 0) (a := (stlW 124 W).length) (b := 0) rfl rfl (by omega) (by omega)).mp z5
            have z5 : (stlW 124 W) = [] := List.length_eq_zero_iff.mp z5
            refine v_iconst (v := 1) O dX10_takesE_185 (by decide) ?_
            refine v_sub (ws' := [(mo, .inr (10, M1R ma (mZ c c2 tk vc ln rn (nI p) zs9_11 (nI (g + (out ++ stlL 124 W).length)) (nI ((stlW 124 W).length)) (nI op) zs9_25 zs9_26 zs9_27 zs9_29))), ((ma 12), eI D 100 tb), ((ma 18), eI D 600 (wr sf g (out ++ stlL 124 W))), ((ma 19), eI D 101 wf9), ((ma 16), eI D 60 (upd fr cl (nI g))), ((ma 17), eI D 60 (upd tt8 cl (nI (g + (out ++ stlL 124 W).length))))]) [3, 2, 4, 5, 0, 1] (by decide) rfl ?_
            exact v_ireturn O T rfl rfl (by decide) (by decide) dX10_takesE_186 (⟨zs9_11, nI ((stlW 124 W).length), (nI op), zs9_25, zs9_26, zs9_27, zs9_29, _, _, by rw [hF, yd, iteP_f (fun q => q.elim z1 z2), iteP_t z5]; exact bT, by rw [hF, yd, iteP_f (fun q => q.elim z1 z2), iteP_t z5], fun j hj => by rw [pk_un hj]; exact h8 j hj, fun _ => by rw [hF, yd, iteP_f (fun q => q.elim z1 z2), iteP_t z5]; exact pk_us⟩)
        · skip
          have z_p := sgT_lt (c := 124) z2 (by decide)
          have z9 : sgT tb ln p = 38 ∨ sgT tb ln p = 124 := Or.inr z2
          refine v_aload_n O dX10_takesE_122 0 rfl ?_
          refine v_iload_n O dX10_takesE_123 3 rfl ?_
          refine v_cV (T := TX10) (ci := 10) (As := [.int (sgT tb ln p)]) (wr := [((ma 16), eI D 60 (upd fr cl (nI g))), ((ma 17), eI D 60 tt8), ((ma 12), eI D 100 tb)]) (st := []) O cf_X10_216 rfl (sp_X10_settle (mo := mo) (ma := ma) (c := c) (c2 := c2) (tk := tk) (vc := vc) (ln := ln) (rn := rn) (zs_10 := (nI p)) (zs_11 := zs9_11) (zs_22 := (nI op)) (zs_25 := zs9_25) (zs_26 := zs9_26) (zs_27 := zs9_27) (zs_29 := zs9_29) (sf := (wr sf g out)) (wf := wf9) (g := (g + out.length)) (W := W) (s := (sgT tb ln p)) (h1) (by omega) (by omega)) dX10_takesE_124 rfl rfl 4 rfl [4, 0, 1] [2, 3, 5] (by decide) rfl rfl (by decide) (by decide) (by decide) (Nat.le_of_ble_eq_true rfl) (by decide) (by decide) (fun r_15 w_16 h_14 => ?_)
          obtain ⟨rfl, rfl⟩ := h_14
          refine v_eq (st' := []) (ws' := [((ma 16), eI D 60 (upd fr cl (nI g))), ((ma 17), eI D 60 tt8), ((ma 12), eI D 100 tb), (mo, .inr (10, M1R ma (mZ c c2 tk vc ln rn (nI p) zs9_11 (nI ((g + out.length) + (stlL (sgT tb ln p) W).length)) (nI ((stlW (sgT tb ln p) W).length)) (nI op) zs9_25 zs9_26 zs9_27 zs9_29))), ((ma 18), eI D 600 (wr (wr sf g out) (g + out.length) (stlL (sgT tb ln p) W))), ((ma 19), eI D 101 wf9)]) rfl rfl rfl rfl ?_
          refine v_eq (ws' := [((ma 16), eI D 60 (upd fr cl (nI g))), ((ma 17), eI D 60 tt8), ((ma 12), eI D 100 tb), (mo, .inr (10, M1R ma (mZ c c2 tk vc ln rn (nI p) zs9_11 (nI (g + (out ++ stlL (sgT tb ln p) W).length)) (nI ((stlW (sgT tb ln p) W).length)) (nI op) zs9_25 zs9_26 zs9_27 zs9_29))), ((ma 18), eI D 600 (wr sf g (out ++ stlL (sgT tb ln p) W))), ((ma 19), eI D 101 wf9)]) rfl rfl rfl (by rw [wr_a2, len_b]) ?_
          refine v_aload_n O dX10_takesE_127 0 rfl ?_
          refine gf_X10_68 (v := .ref (ma 19)) O rfl dX10_takesE_128 3 rfl rfl ?_
          refine v_aload_n O dX10_takesE_131 0 rfl ?_
          refine gf_X10_74 (v := .int (nI ((stlW (sgT tb ln p) W).length))) O rfl dX10_takesE_132 3 rfl rfl ?_
          refine v_iload_n O dX10_takesE_135 3 rfl ?_
          refine v_iastk (ws' := [((ma 16), eI D 60 (upd fr cl (nI g))), ((ma 17), eI D 60 tt8), ((ma 12), eI D 100 tb), (mo, .inr (10, M1R ma (mZ c c2 tk vc ln rn (nI p) zs9_11 (nI (g + (out ++ stlL (sgT tb ln p) W).length)) (nI ((stlW (sgT tb ln p) W).length)) (nI op) zs9_25 zs9_26 zs9_27 zs9_29))), ((ma 18), eI D 600 (wr sf g (out ++ stlL (sgT tb ln p) W))), ((ma 19), eI D 101 (upd wf9 ((stlW (sgT tb ln p) W).length) (sgT tb ln p)))]) O dX10_takesE_136 5 rfl ((stlW (sgT tb ln p) W).length) (rfl) (by omega) (by decide) (rfl) ?_
          refine v_aload_n O dX10_takesE_137 0 rfl ?_
          refine v_dup O dX10_takesE_138 rfl ?_
          refine gf_X10_74 (v := .int (nI ((stlW (sgT tb ln p) W).length))) O rfl dX10_takesE_139 3 rfl rfl ?_
          refine v_iconst (v := 1) O dX10_takesE_142 (by decide) ?_
          refine v_iadd O dX10_takesE_143 ?_
          refine v_top (y := nI (((stlW (sgT tb ln p) W).length) + 1)) (nI_add ((stlW (sgT tb ln p) W).length) 1) ?_
          refine pf_X10_74 (fs' := M1R ma (mZ c c2 tk vc ln rn (nI p) zs9_11 (nI (g + (out ++ stlL (sgT tb ln p) W).length)) (nI (((stlW (sgT tb ln p) W).length) + 1)) (nI op) zs9_25 zs9_26 zs9_27 zs9_29)) (ws' := [((ma 16), eI D 60 (upd fr cl (nI g))), ((ma 17), eI D 60 tt8), ((ma 12), eI D 100 tb), (mo, .inr (10, M1R ma (mZ c c2 tk vc ln rn (nI p) zs9_11 (nI (g + (out ++ stlL (sgT tb ln p) W).length)) (nI (((stlW (sgT tb ln p) W).length) + 1)) (nI op) zs9_25 zs9_26 zs9_27 zs9_29))), ((ma 18), eI D 600 (wr sf g (out ++ stlL (sgT tb ln p) W))), ((ma 19), eI D 101 (upd wf9 ((stlW (sgT tb ln p) W).length) (sgT tb ln p)))]) O rfl dX10_takesE_144 3 rfl (Nat.le_of_ble_eq_true rfl) rfl rfl ?_
          refine v_iconst (v := 1) O dX10_takesE_147 (by decide) ?_
          refine v_istore_n (lv' := [(0, .ref mo), (1, .int (nI cl)), (2, .int 1), (3, .int (sgT tb ln p))]) O dX10_takesE_148 (by decide) rfl ?_
          refine v_aload_n O dX10_takesE_149 0 rfl ?_
          refine v_dup O dX10_takesE_150 rfl ?_
          refine gf_X10_41 (v := .int (nI p)) O rfl dX10_takesE_151 3 rfl rfl ?_
          refine v_iconst (v := 1) O dX10_takesE_154 (by decide) ?_
          refine v_iadd O dX10_takesE_155 ?_
          refine v_top (y := nI (p + 1)) (nI_add p 1) ?_
          refine pf_X10_41 (fs' := M1R ma (mZ c c2 tk vc ln rn (nI (p + 1)) zs9_11 (nI (g + (out ++ stlL (sgT tb ln p) W).length)) (nI (((stlW (sgT tb ln p) W).length) + 1)) (nI op) zs9_25 zs9_26 zs9_27 zs9_29)) (ws' := [((ma 16), eI D 60 (upd fr cl (nI g))), ((ma 17), eI D 60 tt8), ((ma 12), eI D 100 tb), (mo, .inr (10, M1R ma (mZ c c2 tk vc ln rn (nI (p + 1)) zs9_11 (nI (g + (out ++ stlL (sgT tb ln p) W).length)) (nI (((stlW (sgT tb ln p) W).length) + 1)) (nI op) zs9_25 zs9_26 zs9_27 zs9_29))), ((ma 18), eI D 600 (wr sf g (out ++ stlL (sgT tb ln p) W))), ((ma 19), eI D 101 (upd wf9 ((stlW (sgT tb ln p) W).length) (sgT tb ln p)))]) O rfl dX10_takesE_156 3 rfl (Nat.le_of_ble_eq_true rfl) rfl rfl ?_
          refine v_goto O 22 dX10_takesE_159 (by decide) ?_
          refine v_lvp (lv' := [(0, .ref mo), (1, .int (nI cl)), (2, .int 1)]) [0, 1, 2] rfl ?_
          refine v_sub (ws' := [(mo, .inr (10, M1R ma (mZ c c2 tk vc ln rn (nI (p + 1)) zs9_11 (nI (g + (out ++ stlL (sgT tb ln p) W).length)) (nI (((stlW (sgT tb ln p) W).length) + 1)) (nI op) zs9_25 zs9_26 zs9_27 zs9_29))), ((ma 12), eI D 100 tb), ((ma 18), eI D 600 (wr sf g (out ++ stlL (sgT tb ln p) W))), ((ma 19), eI D 101 (upd wf9 ((stlW (sgT tb ln p) W).length) (sgT tb ln p))), ((ma 16), eI D 60 (upd fr cl (nI g))), ((ma 17), eI D 60 tt8)]) [3, 2, 4, 5, 0, 1] (by decide) rfl ?_
          exact ih.1 (p + 1) (sgT tb ln p :: stlW (sgT tb ln p) W) _ op _ _ _ _ _ _ _ (stk_up (stl_k h1)) (wok_up (stl_w h2) (Or.inr (Or.inr z9))) (by rw [cntO, if_neg (by rcases z9 with q | q <;> rw [q] <;> decide), z_sc.1, h3]) h4 (by rw [List.length_append, List.length_cons]; omega) (by omega) (by omega) h8 (by rw [hF, yd, iteP_t z9])
set_option maxRecDepth 100000 in
set_option maxHeartbeats 4000000 in
theorem sp_X10_takesE {D : G} {mo : Nat} {ma : Nat → Nat} {c : CS} {c2 : CS} {tk : Int32} {vc : Nat} {ln : Nat} {rn : Nat} {zs_11 : Int32} {zs_21 : Int32} {zs_22 : Int32} {zs_25 : Int32} {zs_26 : Int32} {zs_27 : Int32} {zs_29 : Int32} {tb : Nat → Int32} {p : Nat} {sf : Nat → Int32} {wf : Nat → Int32} {fr : Nat → Int32} {tt9 : Nat → Int32} {g : Nat} {cl : Nat} (hln : ln ≤ 100) (hp : p ≤ ln) (hc : cl < 60) (hg : g ≤ 500 + p) : Sp D mX10_takesE 4 0 0 [.ref mo, .int (nI cl)] [(mo, .inr (10, M1R ma (mZ c c2 tk vc ln rn (nI p) zs_11 (nI g) zs_21 zs_22 zs_25 zs_26 zs_27 zs_29))), ((ma 12), eI D 100 tb), ((ma 18), eI D 600 sf), ((ma 19), eI D 101 wf), ((ma 16), eI D 60 fr), ((ma 17), eI D 60 tt9)] (fun r w => ∃ zs2_11 : Int32, ∃ zs2_21 : Int32, ∃ zs2_22 : Int32, ∃ zs2_25 : Int32, ∃ zs2_26 : Int32, ∃ zs2_27 : Int32, ∃ zs2_29 : Int32, ∃ wf2 : Nat → Int32, ∃ tt2 : Nat → Int32, r = some (.int (b2i ((yd (sgT tb ln) 110 p true [] 0 []).2.1 = true))) ∧ w = [(mo, .inr (10, M1R ma (mZ c c2 tk vc ln rn (nI ((yd (sgT tb ln) 110 p true [] 0 []).1)) zs2_11 (nI (g + (yd (sgT tb ln) 110 p true [] 0 []).2.2.length)) zs2_21 zs2_22 zs2_25 zs2_26 zs2_27 zs2_29))), ((ma 12), eI D 100 tb), ((ma 18), eI D 600 (wr sf g (yd (sgT tb ln) 110 p true [] 0 []).2.2)), ((ma 19), eI D 101 wf2), ((ma 16), eI D 60 (upd fr cl (nI g))), ((ma 17), eI D 60 tt2)] ∧ (∀ j, ¬ j = cl → tt2 j = tt9 j) ∧ ((yd (sgT tb ln) 110 p true [] 0 []).2.1 = true → tt2 cl = nI (g + (yd (sgT tb ln) 110 p true [] 0 []).2.2.length))) := by
  refine Sp.of (by decide) (Nat.le_of_ble_eq_true rfl) (fun X O T => ?_)
  refine v_eq (lv' := [(0, .ref mo), (1, .int (nI cl))]) rfl rfl rfl rfl ?_
  refine v_aload_n O dX10_takesE_0 0 rfl ?_
  refine v_iconst (v := 0) O dX10_takesE_1 (by decide) ?_
  refine pf_X10_74 (fs' := M1R ma (mZ c c2 tk vc ln rn (nI p) zs_11 (nI g) 0 zs_22 zs_25 zs_26 zs_27 zs_29)) (ws' := [(mo, .inr (10, M1R ma (mZ c c2 tk vc ln rn (nI p) zs_11 (nI g) 0 zs_22 zs_25 zs_26 zs_27 zs_29))), ((ma 12), eI D 100 tb), ((ma 18), eI D 600 sf), ((ma 19), eI D 101 wf), ((ma 16), eI D 60 fr), ((ma 17), eI D 60 tt9)]) O rfl dX10_takesE_2 0 rfl (Nat.le_of_ble_eq_true rfl) rfl rfl ?_
  refine v_aload_n O dX10_takesE_5 0 rfl ?_
  refine v_iconst (v := 0) O dX10_takesE_6 (by decide) ?_
  refine pf_X10_77 (fs' := M1R ma (mZ c c2 tk vc ln rn (nI p) zs_11 (nI g) 0 0 zs_25 zs_26 zs_27 zs_29)) (ws' := [(mo, .inr (10, M1R ma (mZ c c2 tk vc ln rn (nI p) zs_11 (nI g) 0 0 zs_25 zs_26 zs_27 zs_29))), ((ma 12), eI D 100 tb), ((ma 18), eI D 600 sf), ((ma 19), eI D 101 wf), ((ma 16), eI D 60 fr), ((ma 17), eI D 60 tt9)]) O rfl dX10_takesE_7 0 rfl (Nat.le_of_ble_eq_true rfl) rfl rfl ?_
  refine v_aload_n O dX10_takesE_10 0 rfl ?_
  refine gf_X10_59 (v := .ref (ma 16)) O rfl dX10_takesE_11 0 rfl rfl ?_
  refine v_iload_n O dX10_takesE_14 1 rfl ?_
  refine v_aload_n O dX10_takesE_15 0 rfl ?_
  refine gf_X10_71 (v := .int (nI g)) O rfl dX10_takesE_16 0 rfl rfl ?_
  refine v_iastk (ws' := [(mo, .inr (10, M1R ma (mZ c c2 tk vc ln rn (nI p) zs_11 (nI g) 0 0 zs_25 zs_26 zs_27 zs_29))), ((ma 12), eI D 100 tb), ((ma 18), eI D 600 sf), ((ma 19), eI D 101 wf), ((ma 16), eI D 60 (upd fr cl (nI g))), ((ma 17), eI D 60 tt9)]) O dX10_takesE_19 4 rfl cl (rfl) (by omega) (by decide) (rfl) ?_
  refine v_iconst (v := 1) O dX10_takesE_20 (by decide) ?_
  refine v_istore_n (lv' := [(0, .ref mo), (1, .int (nI cl)), (2, .int 1)]) O dX10_takesE_21 (by decide) rfl ?_
  exact (l_X10_E (p0 := p) (tt9 := tt9) (sf := sf) (g := g) O hln hc hg T 110).1 p [] [] 0 _ _ _ _ _ _ _ trivial (fun x hx => nomatch hx) rfl (by decide) (by show 0 + 0 + p ≤ p; omega) hp (by omega) (fun j _ => rfl) rfl
