-- the reference reads a text
def cdW (k : Int32) : Int32 := if k = 0 then 0 else if k = 1 then 3 else if k = 2 then 1 else 2
theorem hd_b {x : Bool} {k : Int32} (hk : ¬ k = -1) : some (Value.int (b2i (x = true))) = some (Value.int (b2i (¬ (if x = true then k else -1) = -1))) := by
  by_cases h : x = true
  · rw [b2i_t h, b2i_t (by rw [if_pos h]; exact hk)]
  · rw [b2i_f h, b2i_f (by rw [if_neg h]; exact fun z => z rfl)]
theorem hd_k {x : Bool} {k : Int32} (h : ¬ (if x = true then k else -1) = -1) : (if x = true then k else (-1 : Int32)) = k := by
  by_cases z : x = true
  · rw [if_pos z]
  · rw [if_neg z] at h; exact absurd rfl h
theorem spl_c {sg : Nat → Int32} {c : Int32} {w : List Int32} {p : Nat} (h : sg p = c) : spl sg (c :: w) p = spl sg w (p + 1) := by rw [spl, if_pos h]
theorem spl_x {sg : Nat → Int32} {c : Int32} {w : List Int32} {p : Nat} (h : ¬ sg p = c) : spl sg (c :: w) p = (p, false) := by rw [spl, if_neg h]
-- a clause in the reference's rows: what it does to the village told by the class's rows
def R1 (wd nu fr tt sf : Nat → Int32) (c g g2 : Nat) (v v2 : VS) : Prop := ∃ n : Nat, n ≤ 99 ∧ nu c = nI n ∧
  ((wd c = 0 ∧ v2 = vSh v n ∧ g2 = g) ∨ (wd c = 3 ∧ v2 = vMo v n ∧ g2 = g) ∨
   ∃ (tb : Nat → Int32) (ln q : Nat), ln ≤ 100 ∧ q ≤ ln ∧ (conP (sgT tb ln) q).2.1 = true ∧ g2 = g + (conP (sgT tb ln) q).2.2.length ∧ fr c = nI g ∧ tt c = nI g2 ∧ (∀ j, j < (conP (sgT tb ln) q).2.2.length → sf (g + j) = enc ((conP (sgT tb ln) q).2.2.getD j 0)) ∧
     ((wd c = 1 ∧ v2 = vRo (vSt v (conP (sgT tb ln) q).2.2) n) ∨ (wd c = 2 ∧ v2 = vRb (vSt v (conP (sgT tb ln) q).2.2) n)))
def cRep (wd nu fr tt sf : Nat → Int32) (f : Nat) (u : VS) : Nat → Nat → VS → Prop
  | 0, g, v => g = 100 * f ∧ v = v0 u
  | n + 1, g2, v2 => ∃ (g : Nat) (v : VS), cRep wd nu fr tt sf f u n g v ∧ R1 wd nu fr tt sf (10 * f + n) g g2 v v2
theorem R1_le {wd nu fr tt sf : Nat → Int32} {c g g2 : Nat} {v v2 : VS} (h : R1 wd nu fr tt sf c g g2 v v2) : g ≤ g2 := by
  obtain ⟨n, _, _, h | h | ⟨tb, ln, q, _, _, _, h, _⟩⟩ := h
  · omega
  · omega
  · omega
theorem R1_cg {wd nu fr tt sf wd2 nu2 fr2 tt2 sf2 : Nat → Int32} {c g g2 : Nat} {v v2 : VS} (h : R1 wd nu fr tt sf c g g2 v v2) (e1 : wd2 c = wd c) (e2 : nu2 c = nu c) (e3 : fr2 c = fr c) (e4 : tt2 c = tt c) (e5 : ∀ j, j < g2 → sf2 j = sf j) : R1 wd2 nu2 fr2 tt2 sf2 c g g2 v v2 := by
  obtain ⟨n, h1, h2, h3⟩ := h
  refine ⟨n, h1, by rw [e2]; exact h2, ?_⟩
  rw [e1]
  rcases h3 with h | h | ⟨tb, ln, q, a0, a1, a2, a3, a4, a5, a6, a7⟩
  · exact Or.inl h
  · exact Or.inr (Or.inl h)
  · exact Or.inr (Or.inr ⟨tb, ln, q, a0, a1, a2, a3, by rw [e3]; exact a4, by rw [e4]; exact a5, fun j hj => by rw [e5 _ (by omega)]; exact a6 j hj, a7⟩)
theorem cRep_cg {wd nu fr tt sf wd2 nu2 fr2 tt2 sf2 : Nat → Int32} {f : Nat} {u : VS} : ∀ {n g : Nat} {v : VS}, cRep wd nu fr tt sf f u n g v → (∀ c, 10 * f ≤ c → c < 10 * f + n → wd2 c = wd c ∧ nu2 c = nu c ∧ fr2 c = fr c ∧ tt2 c = tt c) → (∀ j, j < g → sf2 j = sf j) → cRep wd2 nu2 fr2 tt2 sf2 f u n g v
  | 0, g, v, h, _, _ => h
  | n + 1, g2, v2, h, e, es => by
    obtain ⟨g, v, h1, h2⟩ := h
    have hl := R1_le h2
    obtain ⟨a, b, c, d⟩ := e (10 * f + n) (by omega) (by omega)
    exact ⟨g, v, cRep_cg h1 (fun c h3 h4 => e c h3 (by omega)) (fun j hj => es j (by omega)), R1_cg h2 a b c d es⟩
theorem wr_lo : ∀ {l : List Int32} {f : Nat → Int32} {n j : Nat}, j < n → wr f n l j = f j
  | [], f, n, j, _ => rfl
  | x :: l, f, n, j, h => by
    show wr (upd f n x) (n + 1) l j = f j
    rw [wr_lo (by omega), pk_un (by omega)]
theorem wr_at {l : List Int32} : ∀ {f : Nat → Int32} {n j : Nat}, j < l.length → wr f n l (n + j) = l.getD j 0 := by
  induction l with
  | nil => intro f n j h; exact absurd h (Nat.not_lt_zero _)
  | cons x l ih =>
    intro f n j h
    cases j with
    | zero =>
      show wr (upd f n x) (n + 1) l (n + 0) = x
      rw [wr_lo (by omega)]
      exact pk_us
    | succ j =>
      show wr (upd f n x) (n + 1) l (n + (j + 1)) = l.getD j 0
      rw [show n + (j + 1) = n + 1 + j by omega]
      exact ih (by rw [List.length_cons] at h; omega)
set_option maxRecDepth 100000 in
set_option maxHeartbeats 4000000 in
theorem sp_X10_takesHead {D : G} {mo : Nat} {ma : Nat → Nat} {c : CS} {c2 : CS} {tk : Int32} {vc : Nat} {ln : Nat} {rn : Nat} {zs_11 : Int32} {zs_20 : Int32} {zs_21 : Int32} {zs_22 : Int32} {zs_25 : Int32} {zs_26 : Int32} {zs_27 : Int32} {zs_29 : Int32} {tb : Nat → Int32} {p : Nat} {wd : Nat → Int32} {cl : Nat} (hln : ln ≤ 100) (hp : p ≤ ln) (hc : cl < 60) : Sp D mX10_takesHead 3 0 0 [.ref mo, .int (nI cl)] [(mo, .inr (10, M1R ma (mZ c c2 tk vc ln rn (nI p) zs_11 zs_20 zs_21 zs_22 zs_25 zs_26 zs_27 zs_29))), ((ma 12), eI D 100 tb), ((ma 14), eI D 60 wd), ((ma 23), eI D 18 ltF)] (fun r w => ∃ wd2 : Nat → Int32, r = some (.int (b2i (¬ (wrdP (sgT tb ln) p).2 = -1))) ∧ w = [(mo, .inr (10, M1R ma (mZ c c2 tk vc ln rn (nI ((wrdP (sgT tb ln) p).1)) zs_11 zs_20 zs_21 zs_22 zs_25 zs_26 zs_27 zs_29))), ((ma 12), eI D 100 tb), ((ma 14), eI D 60 wd2), ((ma 23), eI D 18 ltF)] ∧ (∀ j, ¬ j = cl → wd2 j = wd j) ∧ (¬ (wrdP (sgT tb ln) p).2 = -1 → wd2 cl = cdW (wrdP (sgT tb ln) p).2)) := by
  refine Sp.of (by decide) (Nat.le_of_ble_eq_true rfl) (fun X O T => ?_)
  refine v_eq (lv' := [(0, .ref mo), (1, .int (nI cl))]) rfl rfl rfl rfl ?_
  refine v_aload_n O dX10_takesHead_0 0 rfl ?_
  refine v_cV (T := TX10) (ci := 10) (As := []) (wr := [((ma 14), eI D 60 wd), ((ma 23), eI D 18 ltF)]) (st := []) O cf_X10_219 rfl (sp_X10_second (mo := mo) (ma := ma) (c := c) (c2 := c2) (tk := tk) (vc := vc) (ln := ln) (rn := rn) (zs_11 := zs_11) (zs_20 := zs_20) (zs_21 := zs_21) (zs_22 := zs_22) (zs_25 := zs_25) (zs_26 := zs_26) (zs_27 := zs_27) (zs_29 := zs_29) (tb := tb) (p := p) (hln) (by omega)) dX10_takesHead_1 rfl rfl 0 rfl [0, 1] [2, 3] (by decide) rfl rfl (by decide) (by decide) (by decide) (Nat.le_of_ble_eq_true rfl) (by decide) (by decide) (fun r_2 w_3 h_1 => ?_)
  obtain ⟨rfl, rfl⟩ := h_1
  refine v_eq (st' := [.int (sgT tb ln (p + 1))]) (ws' := [((ma 14), eI D 60 wd), ((ma 23), eI D 18 ltF), (mo, .inr (10, M1R ma (mZ c c2 tk vc ln rn (nI p) zs_11 zs_20 zs_21 zs_22 zs_25 zs_26 zs_27 zs_29))), ((ma 12), eI D 100 tb)]) rfl rfl rfl rfl ?_
  refine v_istore_n (lv' := [(0, .ref mo), (1, .int (nI cl)), (2, .int (sgT tb ln (p + 1)))]) O dX10_takesHead_4 (by decide) rfl ?_
  refine v_aload_n O dX10_takesHead_5 0 rfl ?_
  refine v_cV (T := TX10) (ci := 10) (As := []) (wr := [((ma 14), eI D 60 wd), ((ma 23), eI D 18 ltF)]) (st := []) O cf_X10_188 rfl (sp_X10_next (mo := mo) (ma := ma) (c := c) (c2 := c2) (tk := tk) (vc := vc) (ln := ln) (rn := rn) (zs_11 := zs_11) (zs_20 := zs_20) (zs_21 := zs_21) (zs_22 := zs_22) (zs_25 := zs_25) (zs_26 := zs_26) (zs_27 := zs_27) (zs_29 := zs_29) (tb := tb) (p := p) (hln) (by omega)) dX10_takesHead_6 rfl rfl 2 rfl [2, 3] [0, 1] (by decide) rfl rfl (by decide) (by decide) (by decide) (Nat.le_of_ble_eq_true rfl) (by decide) (by decide) (fun r_5 w_6 h_4 => ?_)
  obtain ⟨rfl, rfl⟩ := h_4
  refine v_eq (st' := [.int (sgT tb ln p)]) (ws' := [((ma 14), eI D 60 wd), ((ma 23), eI D 18 ltF), (mo, .inr (10, M1R ma (mZ c c2 tk vc ln rn (nI p) zs_11 zs_20 zs_21 zs_22 zs_25 zs_26 zs_27 zs_29))), ((ma 12), eI D 100 tb)]) rfl rfl rfl rfl ?_
  by_cases s_7 : sgT tb ln p = 98
  · skip
    refine v_top s_7 ?_
    refine v_lks (off := 41) O 50 dX10_takesHead_9 (by decide) (by decide) (by decide) ?_
    have z_98 := s_7
    refine v_aload_n O dX10_takesHead_50 0 rfl ?_
    refine gf_X10_53 (v := .ref (ma 14)) O rfl dX10_takesHead_51 2 rfl rfl ?_
    refine v_iload_n O dX10_takesHead_54 1 rfl ?_
    refine v_iconst (v := 2) O dX10_takesHead_55 (by decide) ?_
    refine v_iastk (ws' := [((ma 14), eI D 60 (upd wd cl 2)), ((ma 23), eI D 18 ltF), (mo, .inr (10, M1R ma (mZ c c2 tk vc ln rn (nI p) zs_11 zs_20 zs_21 zs_22 zs_25 zs_26 zs_27 zs_29))), ((ma 12), eI D 100 tb)]) O dX10_takesHead_56 0 rfl cl (rfl) (by omega) (by decide) (rfl) ?_
    refine v_aload_n O dX10_takesHead_57 0 rfl ?_
    refine v_bipush (v := 7) O dX10_takesHead_58 (by decide) ?_
    refine v_iconst (v := 4) O dX10_takesHead_60 (by decide) ?_
    refine v_cV (T := TX10) (ci := 10) (As := [.int 7, .int 4]) (wr := [((ma 14), eI D 60 (upd wd cl 2))]) (st := []) O cf_X10_222 rfl (sp_X10_word_back (mo := mo) (ma := ma) (c := c) (c2 := c2) (tk := tk) (vc := vc) (ln := ln) (rn := rn) (zs_11 := zs_11) (zs_20 := zs_20) (zs_21 := zs_21) (zs_22 := zs_22) (zs_25 := zs_25) (zs_26 := zs_26) (zs_27 := zs_27) (zs_29 := zs_29) (tb := tb) (p := p) (hln) (hp)) dX10_takesHead_61 rfl rfl 2 rfl [2, 3, 1] [0] (by decide) rfl rfl (by decide) (by decide) (by decide) (Nat.le_of_ble_eq_true rfl) (by decide) (by decide) (fun r_9 w_10 h_8 => ?_)
    obtain ⟨rfl, rfl⟩ := h_8
    refine v_eq (st' := [.int (b2i ((spl (sgT tb ln) [98, 97, 99, 107, 32] p).2 = true))]) (ws' := [((ma 14), eI D 60 (upd wd cl 2)), (mo, .inr (10, M1R ma (mZ c c2 tk vc ln rn (nI ((spl (sgT tb ln) [98, 97, 99, 107, 32] p).1)) zs_11 zs_20 zs_21 zs_22 zs_25 zs_26 zs_27 zs_29))), ((ma 12), eI D 100 tb), ((ma 23), eI D 18 ltF)]) rfl rfl rfl rfl ?_
    have z_e : wrdP (sgT tb ln) p = ((spl (sgT tb ln) [98, 97, 99, 107, 32] p).1, if (spl (sgT tb ln) [98, 97, 99, 107, 32] p).2 = true then 3 else -1) := by unfold wrdP; rw [if_pos z_98]
    refine v_sub (ws' := [(mo, .inr (10, M1R ma (mZ c c2 tk vc ln rn (nI ((spl (sgT tb ln) [98, 97, 99, 107, 32] p).1)) zs_11 zs_20 zs_21 zs_22 zs_25 zs_26 zs_27 zs_29))), ((ma 12), eI D 100 tb), ((ma 14), eI D 60 (upd wd cl 2)), ((ma 23), eI D 18 ltF)]) [1, 2, 0, 3] (by decide) rfl ?_
    exact v_ireturn O T rfl (nrb _) (by decide) (by decide) dX10_takesHead_64 (⟨_, by rw [z_e]; exact hd_b (by decide), by rw [z_e], fun j hj => pk_un hj, fun q => by rw [z_e] at q ⊢; rw [hd_k q]; exact pk_us.trans (show (_ : Int32) = cdW 3 by decide)⟩)
  by_cases s_11 : sgT tb ln p = 111
  · skip
    refine v_top s_11 ?_
    refine v_lks (off := 27) O 36 dX10_takesHead_9 (by decide) (by decide) (by decide) ?_
    have z_111 := s_11
    refine v_aload_n O dX10_takesHead_36 0 rfl ?_
    refine gf_X10_53 (v := .ref (ma 14)) O rfl dX10_takesHead_37 2 rfl rfl ?_
    refine v_iload_n O dX10_takesHead_40 1 rfl ?_
    refine v_iconst (v := 1) O dX10_takesHead_41 (by decide) ?_
    refine v_iastk (ws' := [((ma 14), eI D 60 (upd wd cl 1)), ((ma 23), eI D 18 ltF), (mo, .inr (10, M1R ma (mZ c c2 tk vc ln rn (nI p) zs_11 zs_20 zs_21 zs_22 zs_25 zs_26 zs_27 zs_29))), ((ma 12), eI D 100 tb)]) O dX10_takesHead_42 0 rfl cl (rfl) (by omega) (by decide) (rfl) ?_
    refine v_aload_n O dX10_takesHead_43 0 rfl ?_
    refine v_iconst (v := 3) O dX10_takesHead_44 (by decide) ?_
    refine v_iconst (v := 4) O dX10_takesHead_45 (by decide) ?_
    refine v_cV (T := TX10) (ci := 10) (As := [.int 3, .int 4]) (wr := [((ma 14), eI D 60 (upd wd cl 1))]) (st := []) O cf_X10_222 rfl (sp_X10_word_over (mo := mo) (ma := ma) (c := c) (c2 := c2) (tk := tk) (vc := vc) (ln := ln) (rn := rn) (zs_11 := zs_11) (zs_20 := zs_20) (zs_21 := zs_21) (zs_22 := zs_22) (zs_25 := zs_25) (zs_26 := zs_26) (zs_27 := zs_27) (zs_29 := zs_29) (tb := tb) (p := p) (hln) (hp)) dX10_takesHead_46 rfl rfl 2 rfl [2, 3, 1] [0] (by decide) rfl rfl (by decide) (by decide) (by decide) (Nat.le_of_ble_eq_true rfl) (by decide) (by decide) (fun r_13 w_14 h_12 => ?_)
    obtain ⟨rfl, rfl⟩ := h_12
    refine v_eq (st' := [.int (b2i ((spl (sgT tb ln) [111, 118, 101, 114, 32] p).2 = true))]) (ws' := [((ma 14), eI D 60 (upd wd cl 1)), (mo, .inr (10, M1R ma (mZ c c2 tk vc ln rn (nI ((spl (sgT tb ln) [111, 118, 101, 114, 32] p).1)) zs_11 zs_20 zs_21 zs_22 zs_25 zs_26 zs_27 zs_29))), ((ma 12), eI D 100 tb), ((ma 23), eI D 18 ltF)]) rfl rfl rfl rfl ?_
    have z_e : wrdP (sgT tb ln) p = ((spl (sgT tb ln) [111, 118, 101, 114, 32] p).1, if (spl (sgT tb ln) [111, 118, 101, 114, 32] p).2 = true then 2 else -1) := by unfold wrdP; rw [if_neg (by rw [z_111]; decide), if_neg (by rw [z_111]; decide), if_pos z_111]
    refine v_sub (ws' := [(mo, .inr (10, M1R ma (mZ c c2 tk vc ln rn (nI ((spl (sgT tb ln) [111, 118, 101, 114, 32] p).1)) zs_11 zs_20 zs_21 zs_22 zs_25 zs_26 zs_27 zs_29))), ((ma 12), eI D 100 tb), ((ma 14), eI D 60 (upd wd cl 1)), ((ma 23), eI D 18 ltF)]) [1, 2, 0, 3] (by decide) rfl ?_
    exact v_ireturn O T rfl (nrb _) (by decide) (by decide) dX10_takesHead_49 (⟨_, by rw [z_e]; exact hd_b (by decide), by rw [z_e], fun j hj => pk_un hj, fun q => by rw [z_e] at q ⊢; rw [hd_k q]; exact pk_us.trans (show (_ : Int32) = cdW 2 by decide)⟩)
  refine v_lks (off := 56) O 65 dX10_takesHead_9 (by decide) (lks_out (fun p hp => by simp at hp; rcases hp with rfl | rfl <;> exact i32_ne (by assumption) (by decide))) (by decide) ?_
  have z_98 := s_7
  have z_111 := s_11
  refine v_aload_n O dX10_takesHead_65 0 rfl ?_
  refine gf_X10_53 (v := .ref (ma 14)) O rfl dX10_takesHead_66 2 rfl rfl ?_
  refine v_iload_n O dX10_takesHead_69 1 rfl ?_
  refine v_iload_n O dX10_takesHead_70 2 rfl ?_
  refine v_bipush (v := 111) O dX10_takesHead_71 (by decide) ?_
  refine v_icmp_ne O 80 dX10_takesHead_73 (by decide) (fun z_s => ?_) (fun z_s => ?_)
  · skip
    refine v_iconst (v := 0) O dX10_takesHead_80 (by decide) ?_
    refine v_iastk (ws' := [((ma 14), eI D 60 (upd wd cl 0)), ((ma 23), eI D 18 ltF), (mo, .inr (10, M1R ma (mZ c c2 tk vc ln rn (nI p) zs_11 zs_20 zs_21 zs_22 zs_25 zs_26 zs_27 zs_29))), ((ma 12), eI D 100 tb)]) O dX10_takesHead_81 0 rfl cl (rfl) (by omega) (by decide) (rfl) ?_
    refine v_iload_n O dX10_takesHead_82 2 rfl ?_
    refine v_bipush (v := 111) O dX10_takesHead_83 (by decide) ?_
    refine v_icmp_ne O 99 dX10_takesHead_85 (by decide) (fun z_q => ?_) (fun z_q => ?_)
    · skip
      refine v_aload_n O dX10_takesHead_99 0 rfl ?_
      refine v_iconst (v := 0) O dX10_takesHead_100 (by decide) ?_
      refine v_iconst (v := 3) O dX10_takesHead_101 (by decide) ?_
      refine v_cV (T := TX10) (ci := 10) (As := [.int 0, .int 3]) (wr := [((ma 14), eI D 60 (upd wd cl 0))]) (st := []) O cf_X10_222 rfl (sp_X10_word_men (mo := mo) (ma := ma) (c := c) (c2 := c2) (tk := tk) (vc := vc) (ln := ln) (rn := rn) (zs_11 := zs_11) (zs_20 := zs_20) (zs_21 := zs_21) (zs_22 := zs_22) (zs_25 := zs_25) (zs_26 := zs_26) (zs_27 := zs_27) (zs_29 := zs_29) (tb := tb) (p := p) (hln) (hp)) dX10_takesHead_102 rfl rfl 2 rfl [2, 3, 1] [0] (by decide) rfl rfl (by decide) (by decide) (by decide) (Nat.le_of_ble_eq_true rfl) (by decide) (by decide) (fun r_16 w_17 h_15 => ?_)
      obtain ⟨rfl, rfl⟩ := h_15
      refine v_eq (st' := [.int (b2i ((spl (sgT tb ln) [109, 101, 110, 32] p).2 = true))]) (ws' := [((ma 14), eI D 60 (upd wd cl 0)), (mo, .inr (10, M1R ma (mZ c c2 tk vc ln rn (nI ((spl (sgT tb ln) [109, 101, 110, 32] p).1)) zs_11 zs_20 zs_21 zs_22 zs_25 zs_26 zs_27 zs_29))), ((ma 12), eI D 100 tb), ((ma 23), eI D 18 ltF)]) rfl rfl rfl rfl ?_
      have z_e : wrdP (sgT tb ln) p = ((spl (sgT tb ln) [109, 101, 110, 32] p).1, if (spl (sgT tb ln) [109, 101, 110, 32] p).2 = true then 0 else -1) := by
        by_cases z_109 : (sgT tb ln) p = 109
        · unfold wrdP; rw [if_neg z_98, if_pos z_109, if_neg z_s, spl_c z_109]
        · unfold wrdP; rw [if_neg z_98, if_neg z_109, if_neg z_111, spl_x z_109, if_neg (fun q => absurd (show false = true from q) (by decide))]
      refine v_sub (ws' := [(mo, .inr (10, M1R ma (mZ c c2 tk vc ln rn (nI ((spl (sgT tb ln) [109, 101, 110, 32] p).1)) zs_11 zs_20 zs_21 zs_22 zs_25 zs_26 zs_27 zs_29))), ((ma 12), eI D 100 tb), ((ma 14), eI D 60 (upd wd cl 0)), ((ma 23), eI D 18 ltF)]) [1, 2, 0, 3] (by decide) rfl ?_
      exact v_ireturn O T rfl (nrb _) (by decide) (by decide) dX10_takesHead_105 (⟨_, by rw [z_e]; exact hd_b (by decide), by rw [z_e], fun j hj => pk_un hj, fun q => by rw [z_e] at q ⊢; rw [hd_k q]; exact pk_us.trans (show (_ : Int32) = cdW 0 by decide)⟩)
    · skip
      exact absurd z_q z_s
  · skip
    refine v_iconst (v := 3) O dX10_takesHead_76 (by decide) ?_
    refine v_goto O 81 dX10_takesHead_77 (by decide) ?_
    refine v_iastk (ws' := [((ma 14), eI D 60 (upd wd cl 3)), ((ma 23), eI D 18 ltF), (mo, .inr (10, M1R ma (mZ c c2 tk vc ln rn (nI p) zs_11 zs_20 zs_21 zs_22 zs_25 zs_26 zs_27 zs_29))), ((ma 12), eI D 100 tb)]) O dX10_takesHead_81 0 rfl cl (rfl) (by omega) (by decide) (rfl) ?_
    refine v_iload_n O dX10_takesHead_82 2 rfl ?_
    refine v_bipush (v := 111) O dX10_takesHead_83 (by decide) ?_
    refine v_icmp_ne O 99 dX10_takesHead_85 (by decide) (fun z_q => ?_) (fun z_q => ?_)
    · skip
      exact absurd z_s z_q
    · skip
      refine v_aload_n O dX10_takesHead_88 0 rfl ?_
      refine v_bipush (v := 11) O dX10_takesHead_89 (by decide) ?_
      refine v_bipush (v := 7) O dX10_takesHead_91 (by decide) ?_
      refine v_cV (T := TX10) (ci := 10) (As := [.int 11, .int 7]) (wr := [((ma 14), eI D 60 (upd wd cl 3))]) (st := []) O cf_X10_222 rfl (sp_X10_word_morning (mo := mo) (ma := ma) (c := c) (c2 := c2) (tk := tk) (vc := vc) (ln := ln) (rn := rn) (zs_11 := zs_11) (zs_20 := zs_20) (zs_21 := zs_21) (zs_22 := zs_22) (zs_25 := zs_25) (zs_26 := zs_26) (zs_27 := zs_27) (zs_29 := zs_29) (tb := tb) (p := p) (hln) (hp)) dX10_takesHead_93 rfl rfl 2 rfl [2, 3, 1] [0] (by decide) rfl rfl (by decide) (by decide) (by decide) (Nat.le_of_ble_eq_true rfl) (by decide) (by decide) (fun r_19 w_20 h_18 => ?_)
      obtain ⟨rfl, rfl⟩ := h_18
      refine v_eq (st' := [.int (b2i ((spl (sgT tb ln) [109, 111, 114, 110, 105, 110, 103, 32] p).2 = true))]) (ws' := [((ma 14), eI D 60 (upd wd cl 3)), (mo, .inr (10, M1R ma (mZ c c2 tk vc ln rn (nI ((spl (sgT tb ln) [109, 111, 114, 110, 105, 110, 103, 32] p).1)) zs_11 zs_20 zs_21 zs_22 zs_25 zs_26 zs_27 zs_29))), ((ma 12), eI D 100 tb), ((ma 23), eI D 18 ltF)]) rfl rfl rfl rfl ?_
      refine v_goto O 105 dX10_takesHead_96 (by decide) ?_
      have z_e : wrdP (sgT tb ln) p = ((spl (sgT tb ln) [109, 111, 114, 110, 105, 110, 103, 32] p).1, if (spl (sgT tb ln) [109, 111, 114, 110, 105, 110, 103, 32] p).2 = true then 1 else -1) := by
        by_cases z_109 : (sgT tb ln) p = 109
        · unfold wrdP; rw [if_neg z_98, if_pos z_109, if_pos z_s, spl_c z_109]
        · unfold wrdP; rw [if_neg z_98, if_neg z_109, if_neg z_111, spl_x z_109, if_neg (fun q => absurd (show false = true from q) (by decide))]
      refine v_sub (ws' := [(mo, .inr (10, M1R ma (mZ c c2 tk vc ln rn (nI ((spl (sgT tb ln) [109, 111, 114, 110, 105, 110, 103, 32] p).1)) zs_11 zs_20 zs_21 zs_22 zs_25 zs_26 zs_27 zs_29))), ((ma 12), eI D 100 tb), ((ma 14), eI D 60 (upd wd cl 3)), ((ma 23), eI D 18 ltF)]) [1, 2, 0, 3] (by decide) rfl ?_
      exact v_ireturn O T rfl (nrb _) (by decide) (by decide) dX10_takesHead_105 (⟨_, by rw [z_e]; exact hd_b (by decide), by rw [z_e], fun j hj => pk_un hj, fun q => by rw [z_e] at q ⊢; rw [hd_k q]; exact pk_us.trans (show (_ : Int32) = cdW 1 by decide)⟩)
theorem wrd_c {sg : Nat → Int32} {p : Nat} : (wrdP sg p).2 = -1 ∨ (wrdP sg p).2 = 0 ∨ (wrdP sg p).2 = 1 ∨ (wrdP sg p).2 = 2 ∨ (wrdP sg p).2 = 3 := by
  unfold wrdP
  split
  · show (if _ then (3 : Int32) else -1) = -1 ∨ _; split <;> simp
  · split
    · split
      · show (if _ then (1 : Int32) else -1) = -1 ∨ _; split <;> simp
      · show (if _ then (0 : Int32) else -1) = -1 ∨ _; split <;> simp
    · split
      · show (if _ then (2 : Int32) else -1) = -1 ∨ _; split <;> simp
      · exact Or.inl rfl
theorem cdW_0 {k : Int32} (h : k = -1 ∨ k = 0 ∨ k = 1 ∨ k = 2 ∨ k = 3) (h1 : ¬ k = -1) : (cdW k = 0 ↔ k = 0) ∧ (cdW k = 3 ↔ k = 1) := by
  rcases h with h | h | h | h | h
  · exact absurd h h1
  all_goals (rw [h]; decide)
set_option maxRecDepth 100000 in
set_option maxHeartbeats 4000000 in
theorem sp_X10_takesClause {D : G} {mo : Nat} {ma : Nat → Nat} {c : CS} {c2 : CS} {tk : Int32} {vc : Nat} {ln : Nat} {rn : Nat} {zs_11 : Int32} {zs_21 : Int32} {zs_22 : Int32} {zs_25 : Int32} {zs_26 : Int32} {zs_27 : Int32} {zs_29 : Int32} {tb : Nat → Int32} {p : Nat} {wd : Nat → Int32} {nu : Nat → Int32} {fr : Nat → Int32} {tt9 : Nat → Int32} {sf : Nat → Int32} {wf : Nat → Int32} {g : Nat} {cl : Nat} {v : VS} (hln : ln ≤ 100) (hp : p ≤ ln) (hc : cl < 60) (hg : g ≤ 500 + p) (hvl : VOk v) (hnl : v.nl ≤ p) : Sp D mX10_takesClause 5 0 0 [.ref mo, .int (nI cl)] [(mo, .inr (10, M1R ma (mZ c c2 tk vc ln rn (nI p) zs_11 (nI g) zs_21 zs_22 zs_25 zs_26 zs_27 zs_29))), ((ma 12), eI D 100 tb), ((ma 14), eI D 60 wd), ((ma 15), eI D 60 nu), ((ma 16), eI D 60 fr), ((ma 17), eI D 60 tt9), ((ma 18), eI D 600 sf), ((ma 19), eI D 101 wf), ((ma 23), eI D 18 ltF)] (fun r w => ∃ zs2_11 : Int32, ∃ zs2_20 : Int32, ∃ zs2_21 : Int32, ∃ zs2_22 : Int32, ∃ zs2_25 : Int32, ∃ zs2_26 : Int32, ∃ zs2_27 : Int32, ∃ zs2_29 : Int32, ∃ wd2 : Nat → Int32, ∃ nu2 : Nat → Int32, ∃ fr2 : Nat → Int32, ∃ tt2 : Nat → Int32, ∃ sf2 : Nat → Int32, ∃ wf2 : Nat → Int32, r = some (.int (b2i ((clsP (sgT tb ln) p v).2.1 = true))) ∧ w = [(mo, .inr (10, M1R ma (mZ c c2 tk vc ln rn (nI ((clsP (sgT tb ln) p v).1)) zs2_11 zs2_20 zs2_21 zs2_22 zs2_25 zs2_26 zs2_27 zs2_29))), ((ma 12), eI D 100 tb), ((ma 14), eI D 60 wd2), ((ma 15), eI D 60 nu2), ((ma 16), eI D 60 fr2), ((ma 17), eI D 60 tt2), ((ma 18), eI D 600 sf2), ((ma 19), eI D 101 wf2), ((ma 23), eI D 18 ltF)] ∧ (∀ j, ¬ j = cl → wd2 j = wd j ∧ nu2 j = nu j ∧ fr2 j = fr j ∧ tt2 j = tt9 j) ∧ (∀ j, j < g → sf2 j = sf j) ∧ ((clsP (sgT tb ln) p v).2.1 = true → ∃ g2 : Nat, zs2_20 = nI g2 ∧ g2 + p ≤ g + (clsP (sgT tb ln) p v).1 ∧ R1 wd2 nu2 fr2 tt2 sf2 cl g g2 v (clsP (sgT tb ln) p v).2.2)) := by
  refine Sp.of (by decide) (Nat.le_of_ble_eq_true rfl) (fun X O T => ?_)
  refine v_eq (lv' := [(0, .ref mo), (1, .int (nI cl))]) rfl rfl rfl rfl ?_
  have z_w := wrd_le (tb := tb) hp
  refine v_aload_n O dX10_takesClause_0 0 rfl ?_
  refine v_iload_n O dX10_takesClause_1 1 rfl ?_
  refine v_cV (T := TX10) (ci := 10) (As := [.int (nI cl)]) (wr := [((ma 15), eI D 60 nu), ((ma 16), eI D 60 fr), ((ma 17), eI D 60 tt9), ((ma 18), eI D 600 sf), ((ma 19), eI D 101 wf)]) (st := []) O cf_X10_226 rfl (sp_X10_takesHead (mo := mo) (ma := ma) (c := c) (c2 := c2) (tk := tk) (vc := vc) (ln := ln) (rn := rn) (zs_11 := zs_11) (zs_20 := (nI g)) (zs_21 := zs_21) (zs_22 := zs_22) (zs_25 := zs_25) (zs_26 := zs_26) (zs_27 := zs_27) (zs_29 := zs_29) (tb := tb) (p := p) (wd := wd) (cl := cl) (hln) (hp) (hc)) dX10_takesClause_2 rfl rfl 0 rfl [0, 1, 2, 8] [3, 4, 5, 6, 7] (by decide) rfl rfl (by decide) (by decide) (by decide) (Nat.le_of_ble_eq_true rfl) (by decide) (by decide) (fun r_2 w_3 h_1 => ?_)
  obtain ⟨wd2_4, rfl, rfl, h_wo, h_wc⟩ := h_1
  refine v_eq (st' := [.int (b2i (¬ (wrdP (sgT tb ln) p).2 = -1))]) (ws' := [((ma 15), eI D 60 nu), ((ma 16), eI D 60 fr), ((ma 17), eI D 60 tt9), ((ma 18), eI D 600 sf), ((ma 19), eI D 101 wf), (mo, .inr (10, M1R ma (mZ c c2 tk vc ln rn (nI ((wrdP (sgT tb ln) p).1)) zs_11 (nI g) zs_21 zs_22 zs_25 zs_26 zs_27 zs_29))), ((ma 12), eI D 100 tb), ((ma 14), eI D 60 wd2_4), ((ma 23), eI D 18 ltF)]) rfl rfl rfl rfl ?_
  refine v_if_eq O 15 dX10_takesClause_5 (by decide) (fun z1 => ?_) (fun z1 => ?_)
  · skip
    have z1 := b2i_0.mp z1
    have z1 := Classical.not_not.mp z1
    refine v_iconst (v := 0) O dX10_takesClause_15 (by decide) ?_
    refine v_sub (ws' := [(mo, .inr (10, M1R ma (mZ c c2 tk vc ln rn (nI ((wrdP (sgT tb ln) p).1)) zs_11 (nI g) zs_21 zs_22 zs_25 zs_26 zs_27 zs_29))), ((ma 12), eI D 100 tb), ((ma 14), eI D 60 wd2_4), ((ma 15), eI D 60 nu), ((ma 16), eI D 60 fr), ((ma 17), eI D 60 tt9), ((ma 18), eI D 600 sf), ((ma 19), eI D 101 wf), ((ma 23), eI D 18 ltF)]) [5, 6, 7, 0, 1, 2, 3, 4, 8] (by decide) rfl ?_
    exact v_ireturn O T rfl rfl (by decide) (by decide) dX10_takesClause_16 (⟨zs_11, (nI g), zs_21, zs_22, zs_25, zs_26, zs_27, zs_29, _, _, _, _, _, _, by rw [cls_0 (Or.inl z1)]; exact bF, by rw [cls_0 (Or.inl z1)], fun j hj => ⟨h_wo j hj, rfl, rfl, rfl⟩, fun j hj => rfl, fun q => by rw [cls_0 (Or.inl z1)] at q; exact absurd (show false = true from q) (by decide)⟩)
  · skip
    have z1 := b2i_1.mp z1
    refine v_aload_n O dX10_takesClause_8 0 rfl ?_
    by_cases z2 : isd ((sgT tb ln) (wrdP (sgT tb ln) p).1)
    · skip
      have z_le := numN_le z2
      have z_ne := numE_le z2
      refine v_cV (T := TX10) (ci := 10) (As := []) (wr := [((ma 15), eI D 60 nu), ((ma 16), eI D 60 fr), ((ma 17), eI D 60 tt9), ((ma 18), eI D 600 sf), ((ma 19), eI D 101 wf), ((ma 14), eI D 60 wd2_4), ((ma 23), eI D 18 ltF)]) (st := []) O cf_X10_207 rfl (sp_X10_num_t (mo := mo) (ma := ma) (c := c) (c2 := c2) (tk := tk) (vc := vc) (ln := ln) (rn := rn) (zs_11 := zs_11) (zs_20 := (nI g)) (zs_21 := zs_21) (zs_22 := zs_22) (zs_25 := zs_25) (zs_26 := zs_26) (zs_27 := zs_27) (zs_29 := zs_29) (tb := tb) (p := ((wrdP (sgT tb ln) p).1)) (hln) (by omega) (z2)) dX10_takesClause_9 rfl rfl 5 rfl [5, 6] [0, 1, 2, 3, 4, 7, 8] (by decide) rfl rfl (by decide) (by decide) (by decide) (Nat.le_of_ble_eq_true rfl) (by decide) (by decide) (fun r_6 w_7 h_5 => ?_)
      obtain ⟨rfl, rfl⟩ := h_5
      refine v_eq (st' := [.int 1]) (ws' := [((ma 15), eI D 60 nu), ((ma 16), eI D 60 fr), ((ma 17), eI D 60 tt9), ((ma 18), eI D 600 sf), ((ma 19), eI D 101 wf), ((ma 14), eI D 60 wd2_4), ((ma 23), eI D 18 ltF), (mo, .inr (10, M1R ma (mZ c c2 tk vc ln rn (nI (numE (sgT tb ln) ((wrdP (sgT tb ln) p).1))) (nI (numN (sgT tb ln) ((wrdP (sgT tb ln) p).1))) (nI g) zs_21 zs_22 zs_25 zs_26 zs_27 zs_29))), ((ma 12), eI D 100 tb)]) rfl rfl rfl rfl ?_
      refine v_if_ne O 17 dX10_takesClause_12 (by decide) (fun _ => ?_) (fun c => absurd c (by decide))
      refine v_aload_n O dX10_takesClause_17 0 rfl ?_
      refine gf_X10_56 (v := .ref (ma 15)) O rfl dX10_takesClause_18 7 rfl rfl ?_
      refine v_iload_n O dX10_takesClause_21 1 rfl ?_
      refine v_aload_n O dX10_takesClause_22 0 rfl ?_
      refine gf_X10_44 (v := .int (nI (numN (sgT tb ln) ((wrdP (sgT tb ln) p).1)))) O rfl dX10_takesClause_23 7 rfl rfl ?_
      refine v_iastk (ws' := [((ma 15), eI D 60 (upd nu cl (nI (numN (sgT tb ln) ((wrdP (sgT tb ln) p).1))))), ((ma 16), eI D 60 fr), ((ma 17), eI D 60 tt9), ((ma 18), eI D 600 sf), ((ma 19), eI D 101 wf), ((ma 14), eI D 60 wd2_4), ((ma 23), eI D 18 ltF), (mo, .inr (10, M1R ma (mZ c c2 tk vc ln rn (nI (numE (sgT tb ln) ((wrdP (sgT tb ln) p).1))) (nI (numN (sgT tb ln) ((wrdP (sgT tb ln) p).1))) (nI g) zs_21 zs_22 zs_25 zs_26 zs_27 zs_29))), ((ma 12), eI D 100 tb)]) O dX10_takesClause_26 0 rfl cl (rfl) (by omega) (by decide) (rfl) ?_
      refine v_aload_n O dX10_takesClause_27 0 rfl ?_
      refine gf_X10_53 (v := .ref (ma 14)) O rfl dX10_takesClause_28 7 rfl rfl ?_
      refine v_iload_n O dX10_takesClause_31 1 rfl ?_
      refine v_ialdk O dX10_takesClause_32 5 rfl cl rfl (by omega) (by decide) ?_
      refine v_top (y := cdW (wrdP (sgT tb ln) p).2) (h_wc z1) ?_
      refine v_if_eq O 63 dX10_takesClause_33 (by decide) (fun z3 => ?_) (fun z3 => ?_)
      · skip
        have z3 := (cdW_0 wrd_c z1).1.mp z3
        refine v_iconst (v := 1) O dX10_takesClause_63 (by decide) ?_
        refine v_goto O 68 dX10_takesClause_64 (by decide) ?_
        refine v_sub (ws' := [(mo, .inr (10, M1R ma (mZ c c2 tk vc ln rn (nI (numE (sgT tb ln) ((wrdP (sgT tb ln) p).1))) (nI (numN (sgT tb ln) ((wrdP (sgT tb ln) p).1))) (nI g) zs_21 zs_22 zs_25 zs_26 zs_27 zs_29))), ((ma 12), eI D 100 tb), ((ma 14), eI D 60 wd2_4), ((ma 15), eI D 60 (upd nu cl (nI (numN (sgT tb ln) ((wrdP (sgT tb ln) p).1))))), ((ma 16), eI D 60 fr), ((ma 17), eI D 60 tt9), ((ma 18), eI D 600 sf), ((ma 19), eI D 101 wf), ((ma 23), eI D 18 ltF)]) [7, 8, 5, 0, 1, 2, 3, 4, 6] (by decide) rfl ?_
        exact v_ireturn O T rfl rfl (by decide) (by decide) dX10_takesClause_68 (⟨nI (numN (sgT tb ln) ((wrdP (sgT tb ln) p).1)), (nI g), zs_21, zs_22, zs_25, zs_26, zs_27, zs_29, _, _, _, _, _, _, by rw [cls_1 z1 z2 z3]; exact bT, by rw [cls_1 z1 z2 z3], fun j hj => ⟨h_wo j hj, pk_un hj, rfl, rfl⟩, fun j hj => rfl, fun _ => by rw [cls_1 z1 z2 z3]; exact ⟨g, rfl, by show g + p ≤ g + numE _ _; omega, ⟨numN _ _, z_le, pk_us, Or.inl ⟨by rw [h_wc z1, z3]; decide, rfl, rfl⟩⟩⟩⟩)
      · skip
        have z3 : ¬ (wrdP (sgT tb ln) p).2 = 0 := fun q => z3 ((cdW_0 wrd_c z1).1.mpr q)
        refine v_aload_n O dX10_takesClause_36 0 rfl ?_
        refine gf_X10_53 (v := .ref (ma 14)) O rfl dX10_takesClause_37 7 rfl rfl ?_
        refine v_iload_n O dX10_takesClause_40 1 rfl ?_
        refine v_ialdk O dX10_takesClause_41 5 rfl cl rfl (by omega) (by decide) ?_
        refine v_top (y := cdW (wrdP (sgT tb ln) p).2) (h_wc z1) ?_
        refine v_iconst (v := 3) O dX10_takesClause_42 (by decide) ?_
        refine v_icmp_eq O 63 dX10_takesClause_43 (by decide) (fun z4 => ?_) (fun z4 => ?_)
        · skip
          have z4 := (cdW_0 wrd_c z1).2.mp z4
          refine v_iconst (v := 1) O dX10_takesClause_63 (by decide) ?_
          refine v_goto O 68 dX10_takesClause_64 (by decide) ?_
          refine v_sub (ws' := [(mo, .inr (10, M1R ma (mZ c c2 tk vc ln rn (nI (numE (sgT tb ln) ((wrdP (sgT tb ln) p).1))) (nI (numN (sgT tb ln) ((wrdP (sgT tb ln) p).1))) (nI g) zs_21 zs_22 zs_25 zs_26 zs_27 zs_29))), ((ma 12), eI D 100 tb), ((ma 14), eI D 60 wd2_4), ((ma 15), eI D 60 (upd nu cl (nI (numN (sgT tb ln) ((wrdP (sgT tb ln) p).1))))), ((ma 16), eI D 60 fr), ((ma 17), eI D 60 tt9), ((ma 18), eI D 600 sf), ((ma 19), eI D 101 wf), ((ma 23), eI D 18 ltF)]) [7, 8, 5, 0, 1, 2, 3, 4, 6] (by decide) rfl ?_
          exact v_ireturn O T rfl rfl (by decide) (by decide) dX10_takesClause_68 (⟨nI (numN (sgT tb ln) ((wrdP (sgT tb ln) p).1)), (nI g), zs_21, zs_22, zs_25, zs_26, zs_27, zs_29, _, _, _, _, _, _, by rw [cls_2 z1 z2 z3 z4]; exact bT, by rw [cls_2 z1 z2 z3 z4], fun j hj => ⟨h_wo j hj, pk_un hj, rfl, rfl⟩, fun j hj => rfl, fun _ => by rw [cls_2 z1 z2 z3 z4]; exact ⟨g, rfl, by show g + p ≤ g + numE _ _; omega, ⟨numN _ _, z_le, pk_us, Or.inr (Or.inl ⟨by rw [h_wc z1, z4]; decide, rfl, rfl⟩)⟩⟩⟩)
        · skip
          have z4 : ¬ (wrdP (sgT tb ln) p).2 = 1 := fun q => z4 ((cdW_0 wrd_c z1).2.mpr q)
          refine v_aload_n O dX10_takesClause_46 0 rfl ?_
          refine v_bipush (v := 32) O dX10_takesClause_47 (by decide) ?_
          by_cases z5 : (sgT tb ln) (numE (sgT tb ln) (wrdP (sgT tb ln) p).1) = 32
          · skip
            have z_sx := sgT_lt z5 (by decide)
            refine v_cV (T := TX10) (ci := 10) (As := [.int 32]) (wr := [((ma 15), eI D 60 (upd nu cl (nI (numN (sgT tb ln) ((wrdP (sgT tb ln) p).1))))), ((ma 16), eI D 60 fr), ((ma 17), eI D 60 tt9), ((ma 18), eI D 600 sf), ((ma 19), eI D 101 wf), ((ma 14), eI D 60 wd2_4), ((ma 23), eI D 18 ltF)]) (st := []) O cf_X10_192 rfl (sp_X10_takes_t (mo := mo) (ma := ma) (c := c) (c2 := c2) (tk := tk) (vc := vc) (ln := ln) (rn := rn) (zs_11 := (nI (numN (sgT tb ln) ((wrdP (sgT tb ln) p).1)))) (zs_20 := (nI g)) (zs_21 := zs_21) (zs_22 := zs_22) (zs_25 := zs_25) (zs_26 := zs_26) (zs_27 := zs_27) (zs_29 := zs_29) (tb := tb) (p := (numE (sgT tb ln) ((wrdP (sgT tb ln) p).1))) (x := 32) (hln) (by omega) (z5)) dX10_takesClause_49 rfl rfl 7 rfl [7, 8] [0, 1, 2, 3, 4, 5, 6] (by decide) rfl rfl (by decide) (by decide) (by decide) (Nat.le_of_ble_eq_true rfl) (by decide) (by decide) (fun r_10 w_11 h_9 => ?_)
            obtain ⟨rfl, rfl⟩ := h_9
            refine v_eq (st' := [.int 1]) (ws' := [((ma 15), eI D 60 (upd nu cl (nI (numN (sgT tb ln) ((wrdP (sgT tb ln) p).1))))), ((ma 16), eI D 60 fr), ((ma 17), eI D 60 tt9), ((ma 18), eI D 600 sf), ((ma 19), eI D 101 wf), ((ma 14), eI D 60 wd2_4), ((ma 23), eI D 18 ltF), (mo, .inr (10, M1R ma (mZ c c2 tk vc ln rn (nI ((numE (sgT tb ln) ((wrdP (sgT tb ln) p).1)) + 1)) (nI (numN (sgT tb ln) ((wrdP (sgT tb ln) p).1))) (nI g) zs_21 zs_22 zs_25 zs_26 zs_27 zs_29))), ((ma 12), eI D 100 tb)]) rfl rfl rfl rfl ?_
            refine v_if_eq O 67 dX10_takesClause_52 (by decide) (fun c => absurd c (by decide)) (fun _ => ?_)
            refine v_aload_n O dX10_takesClause_55 0 rfl ?_
            refine v_iload_n O dX10_takesClause_56 1 rfl ?_
            refine v_cV (T := TX10) (ci := 10) (As := [.int (nI cl)]) (wr := [((ma 15), eI D 60 (upd nu cl (nI (numN (sgT tb ln) ((wrdP (sgT tb ln) p).1))))), ((ma 14), eI D 60 wd2_4), ((ma 23), eI D 18 ltF)]) (st := []) O cf_X10_229 rfl (sp_X10_takesE (mo := mo) (ma := ma) (c := c) (c2 := c2) (tk := tk) (vc := vc) (ln := ln) (rn := rn) (zs_11 := (nI (numN (sgT tb ln) ((wrdP (sgT tb ln) p).1)))) (zs_21 := zs_21) (zs_22 := zs_22) (zs_25 := zs_25) (zs_26 := zs_26) (zs_27 := zs_27) (zs_29 := zs_29) (tb := tb) (p := ((numE (sgT tb ln) ((wrdP (sgT tb ln) p).1)) + 1)) (sf := sf) (wf := wf) (fr := fr) (tt9 := tt9) (g := g) (cl := cl) (hln) (by omega) (hc) (by omega)) dX10_takesClause_57 rfl rfl 7 rfl [7, 8, 3, 4, 1, 2] [0, 5, 6] (by decide) rfl rfl (by decide) (by decide) (by decide) (Nat.le_of_ble_eq_true rfl) (by decide) (by decide) (fun r_14 w_15 h_13 => ?_)
            obtain ⟨zs2_11_16, zs2_21_17, zs2_22_18, zs2_25_19, zs2_26_20, zs2_27_21, zs2_29_22, wf2_23, tt2_24, rfl, rfl, h_to, h_ok⟩ := h_13
            refine v_eq (st' := [.int (b2i ((yd (sgT tb ln) 110 ((numE (sgT tb ln) ((wrdP (sgT tb ln) p).1)) + 1) true [] 0 []).2.1 = true))]) (ws' := [((ma 15), eI D 60 (upd nu cl (nI (numN (sgT tb ln) ((wrdP (sgT tb ln) p).1))))), ((ma 14), eI D 60 wd2_4), ((ma 23), eI D 18 ltF), (mo, .inr (10, M1R ma (mZ c c2 tk vc ln rn (nI ((yd (sgT tb ln) 110 ((numE (sgT tb ln) ((wrdP (sgT tb ln) p).1)) + 1) true [] 0 []).1)) zs2_11_16 (nI (g + (yd (sgT tb ln) 110 ((numE (sgT tb ln) ((wrdP (sgT tb ln) p).1)) + 1) true [] 0 []).2.2.length)) zs2_21_17 zs2_22_18 zs2_25_19 zs2_26_20 zs2_27_21 zs2_29_22))), ((ma 12), eI D 100 tb), ((ma 18), eI D 600 (wr sf g (yd (sgT tb ln) 110 ((numE (sgT tb ln) ((wrdP (sgT tb ln) p).1)) + 1) true [] 0 []).2.2)), ((ma 19), eI D 101 wf2_23), ((ma 16), eI D 60 (upd fr cl (nI g))), ((ma 17), eI D 60 tt2_24)]) rfl rfl rfl rfl ?_
            obtain ⟨z_y1, z_y2, z_y3⟩ := yd_con (tb := tb) (ln := ln) (p := (numE (sgT tb ln) (wrdP (sgT tb ln) p).1) + 1) hln (by omega)
            have z_co := con_ok (tb := tb) (ln := ln) ((numE (sgT tb ln) (wrdP (sgT tb ln) p).1) + 1) (by omega)
            have z_ps : (spl (sgT tb ln) [32] (numE (sgT tb ln) (wrdP (sgT tb ln) p).1)).1 = (numE (sgT tb ln) (wrdP (sgT tb ln) p).1) + 1 := by rw [spl, if_pos z5]; rfl
            have z_sv : (spl (sgT tb ln) [32] (numE (sgT tb ln) (wrdP (sgT tb ln) p).1)).2 = true := by rw [spl, if_pos z5]; rfl
            refine v_if_eq O 67 dX10_takesClause_60 (by decide) (fun z6 => ?_) (fun z6 => ?_)
            · skip
              have z6 := b2i_0.mp z6
              have z6 : ¬ (conP (sgT tb ln) (spl (sgT tb ln) [32] (numE (sgT tb ln) (wrdP (sgT tb ln) p).1)).1).2.1 = true := by rw [z_ps]; exact fun q => z6 (z_y2.mpr q)
              have z5 : (spl (sgT tb ln) [32] (numE (sgT tb ln) (wrdP (sgT tb ln) p).1)).2 = true := z_sv
              refine v_iconst (v := 0) O dX10_takesClause_67 (by decide) ?_
              refine v_sub (ws' := [(mo, .inr (10, M1R ma (mZ c c2 tk vc ln rn (nI ((yd (sgT tb ln) 110 ((numE (sgT tb ln) ((wrdP (sgT tb ln) p).1)) + 1) true [] 0 []).1)) zs2_11_16 (nI (g + (yd (sgT tb ln) 110 ((numE (sgT tb ln) ((wrdP (sgT tb ln) p).1)) + 1) true [] 0 []).2.2.length)) zs2_21_17 zs2_22_18 zs2_25_19 zs2_26_20 zs2_27_21 zs2_29_22))), ((ma 12), eI D 100 tb), ((ma 14), eI D 60 wd2_4), ((ma 15), eI D 60 (upd nu cl (nI (numN (sgT tb ln) ((wrdP (sgT tb ln) p).1))))), ((ma 16), eI D 60 (upd fr cl (nI g))), ((ma 17), eI D 60 tt2_24), ((ma 18), eI D 600 (wr sf g (yd (sgT tb ln) 110 ((numE (sgT tb ln) ((wrdP (sgT tb ln) p).1)) + 1) true [] 0 []).2.2)), ((ma 19), eI D 101 wf2_23), ((ma 23), eI D 18 ltF)]) [3, 4, 1, 0, 7, 8, 5, 6, 2] (by decide) rfl ?_
              exact v_ireturn O T rfl rfl (by decide) (by decide) dX10_takesClause_68 (⟨zs2_11_16, nI (g + (yd (sgT tb ln) 110 ((numE (sgT tb ln) ((wrdP (sgT tb ln) p).1)) + 1) true [] 0 []).2.2.length), zs2_21_17, zs2_22_18, zs2_25_19, zs2_26_20, zs2_27_21, zs2_29_22, _, _, _, _, _, _, by rw [cls_4 z1 z2 z3 z4 z5 z6]; exact bF, by rw [cls_4 z1 z2 z3 z4 z5 z6, z_ps, z_y1], fun j hj => ⟨h_wo j hj, pk_un hj, pk_un hj, h_to j hj⟩, fun j hj => wr_lo hj, fun q => by rw [cls_4 z1 z2 z3 z4 z5 z6] at q; exact absurd (show false = true from q) (by decide)⟩)
            · skip
              have z6 := b2i_1.mp z6
              have z6 : (conP (sgT tb ln) (spl (sgT tb ln) [32] (numE (sgT tb ln) (wrdP (sgT tb ln) p).1)).1).2.1 = true := by rw [z_ps]; exact z_y2.mp z6
              have z6b : (conP (sgT tb ln) ((numE (sgT tb ln) (wrdP (sgT tb ln) p).1) + 1)).2.1 = true := by rw [← z_ps]; exact z6
              have z_yl : g + (yd (sgT tb ln) 110 ((numE (sgT tb ln) (wrdP (sgT tb ln) p).1) + 1) true [] 0 []).2.2.length = g + (conP (sgT tb ln) ((numE (sgT tb ln) (wrdP (sgT tb ln) p).1) + 1)).2.2.length := by rw [z_y3 z6b, List.length_map]
              have z5b : ¬ (sgT tb ln) (numE (sgT tb ln) (wrdP (sgT tb ln) p).1) = 32 → False := fun q => q z5
              have z5 : (spl (sgT tb ln) [32] (numE (sgT tb ln) (wrdP (sgT tb ln) p).1)).2 = true := z_sv
              have z7 : (wrdP (sgT tb ln) p).2 = 2 ∨ (wrdP (sgT tb ln) p).2 = 3 := (wrd_c (sg := (sgT tb ln)) (p := p)).resolve_left z1 |>.resolve_left z3 |>.resolve_left z4
              have z_R1 : R1 (wd2_4) (upd nu cl (nI (numN (sgT tb ln) ((wrdP (sgT tb ln) p).1)))) (upd fr cl (nI g)) (tt2_24) (wr sf g (yd (sgT tb ln) 110 ((numE (sgT tb ln) ((wrdP (sgT tb ln) p).1)) + 1) true [] 0 []).2.2) cl g (g + (conP (sgT tb ln) ((numE (sgT tb ln) (wrdP (sgT tb ln) p).1) + 1)).2.2.length) v (clsP (sgT tb ln) p v).2.2 := by
                refine ⟨numN (sgT tb ln) (wrdP (sgT tb ln) p).1, z_le, pk_us, Or.inr (Or.inr ⟨tb, ln, (numE (sgT tb ln) (wrdP (sgT tb ln) p).1) + 1, hln, by omega, z6b, rfl, pk_us, by rw [h_ok (z_y2.mpr z6b), z_yl], fun j hj => ?_, ?_⟩)⟩
                · rw [z_y3 z6b, wr_at (by rw [List.length_map]; exact hj)]
                  simp only [List.getD_eq_getElem?_getD, List.getElem?_map]
                  rw [List.getElem?_eq_getElem hj]
                  rfl
                · rcases z7 with z7 | z7
                  · exact Or.inl ⟨by rw [h_wc z1, z7]; decide, by rw [cls_5 z1 z2 z3 z4 z5 z6 z7, z_ps]⟩
                  · exact Or.inr ⟨by rw [h_wc z1, z7]; decide, by rw [cls_6 z1 z2 z3 z4 z5 z6 (by rw [z7]; decide), z_ps]⟩
              refine v_iconst (v := 1) O dX10_takesClause_63 (by decide) ?_
              refine v_goto O 68 dX10_takesClause_64 (by decide) ?_
              refine v_sub (ws' := [(mo, .inr (10, M1R ma (mZ c c2 tk vc ln rn (nI ((yd (sgT tb ln) 110 ((numE (sgT tb ln) ((wrdP (sgT tb ln) p).1)) + 1) true [] 0 []).1)) zs2_11_16 (nI (g + (yd (sgT tb ln) 110 ((numE (sgT tb ln) ((wrdP (sgT tb ln) p).1)) + 1) true [] 0 []).2.2.length)) zs2_21_17 zs2_22_18 zs2_25_19 zs2_26_20 zs2_27_21 zs2_29_22))), ((ma 12), eI D 100 tb), ((ma 14), eI D 60 wd2_4), ((ma 15), eI D 60 (upd nu cl (nI (numN (sgT tb ln) ((wrdP (sgT tb ln) p).1))))), ((ma 16), eI D 60 (upd fr cl (nI g))), ((ma 17), eI D 60 tt2_24), ((ma 18), eI D 600 (wr sf g (yd (sgT tb ln) 110 ((numE (sgT tb ln) ((wrdP (sgT tb ln) p).1)) + 1) true [] 0 []).2.2)), ((ma 19), eI D 101 wf2_23), ((ma 23), eI D 18 ltF)]) [3, 4, 1, 0, 7, 8, 5, 6, 2] (by decide) rfl ?_
              exact v_ireturn O T rfl rfl (by decide) (by decide) dX10_takesClause_68 (⟨zs2_11_16, nI (g + (yd (sgT tb ln) 110 ((numE (sgT tb ln) ((wrdP (sgT tb ln) p).1)) + 1) true [] 0 []).2.2.length), zs2_21_17, zs2_22_18, zs2_25_19, zs2_26_20, zs2_27_21, zs2_29_22, _, _, _, _, _, _, by rcases z7 with z7 | z7; (· rw [cls_5 z1 z2 z3 z4 z5 z6 z7]; exact bT); (· rw [cls_6 z1 z2 z3 z4 z5 z6 (by rw [z7]; decide)]; exact bT), by rcases z7 with z7 | z7; (· rw [cls_5 z1 z2 z3 z4 z5 z6 z7, z_ps, z_y1]); (· rw [cls_6 z1 z2 z3 z4 z5 z6 (by rw [z7]; decide), z_ps, z_y1]), fun j hj => ⟨h_wo j hj, pk_un hj, pk_un hj, h_to j hj⟩, fun j hj => wr_lo hj, fun _ => by
  have z_r : R1 _ _ _ _ _ cl g _ v (clsP (sgT tb ln) p v).2.2 := z_R1
  refine ⟨_, congrArg nI z_yl, ?_, z_r⟩
  have z_cq : (clsP (sgT tb ln) p v).1 = (conP (sgT tb ln) (spl (sgT tb ln) [32] (numE (sgT tb ln) (wrdP (sgT tb ln) p).1)).1).1 := by rcases z7 with z7 | z7; (· rw [cls_5 z1 z2 z3 z4 z5 z6 z7]); (· rw [cls_6 z1 z2 z3 z4 z5 z6 (by rw [z7]; decide)])
  rw [z_cq, z_ps]
  omega⟩)
          · skip
            refine v_cV (T := TX10) (ci := 10) (As := [.int 32]) (wr := [((ma 15), eI D 60 (upd nu cl (nI (numN (sgT tb ln) ((wrdP (sgT tb ln) p).1))))), ((ma 16), eI D 60 fr), ((ma 17), eI D 60 tt9), ((ma 18), eI D 600 sf), ((ma 19), eI D 101 wf), ((ma 14), eI D 60 wd2_4), ((ma 23), eI D 18 ltF)]) (st := []) O cf_X10_192 rfl (sp_X10_takes_f (mo := mo) (ma := ma) (c := c) (c2 := c2) (tk := tk) (vc := vc) (ln := ln) (rn := rn) (zs_11 := (nI (numN (sgT tb ln) ((wrdP (sgT tb ln) p).1)))) (zs_20 := (nI g)) (zs_21 := zs_21) (zs_22 := zs_22) (zs_25 := zs_25) (zs_26 := zs_26) (zs_27 := zs_27) (zs_29 := zs_29) (tb := tb) (p := (numE (sgT tb ln) ((wrdP (sgT tb ln) p).1))) (x := 32) (hln) (by omega) (z5)) dX10_takesClause_49 rfl rfl 7 rfl [7, 8] [0, 1, 2, 3, 4, 5, 6] (by decide) rfl rfl (by decide) (by decide) (by decide) (Nat.le_of_ble_eq_true rfl) (by decide) (by decide) (fun r_26 w_27 h_25 => ?_)
            obtain ⟨rfl, rfl⟩ := h_25
            refine v_eq (st' := [.int 0]) (ws' := [((ma 15), eI D 60 (upd nu cl (nI (numN (sgT tb ln) ((wrdP (sgT tb ln) p).1))))), ((ma 16), eI D 60 fr), ((ma 17), eI D 60 tt9), ((ma 18), eI D 600 sf), ((ma 19), eI D 101 wf), ((ma 14), eI D 60 wd2_4), ((ma 23), eI D 18 ltF), (mo, .inr (10, M1R ma (mZ c c2 tk vc ln rn (nI (numE (sgT tb ln) ((wrdP (sgT tb ln) p).1))) (nI (numN (sgT tb ln) ((wrdP (sgT tb ln) p).1))) (nI g) zs_21 zs_22 zs_25 zs_26 zs_27 zs_29))), ((ma 12), eI D 100 tb)]) rfl rfl rfl rfl ?_
            refine v_if_eq O 67 dX10_takesClause_52 (by decide) (fun _ => ?_) (fun c => absurd c (by decide))
            have z5b := z5
            have z5 : ¬ (spl (sgT tb ln) [32] (numE (sgT tb ln) (wrdP (sgT tb ln) p).1)).2 = true := by rw [spl, if_neg z5b]; exact fun q => absurd (show false = true from q) (by decide)
            refine v_iconst (v := 0) O dX10_takesClause_67 (by decide) ?_
            refine v_sub (ws' := [(mo, .inr (10, M1R ma (mZ c c2 tk vc ln rn (nI (numE (sgT tb ln) ((wrdP (sgT tb ln) p).1))) (nI (numN (sgT tb ln) ((wrdP (sgT tb ln) p).1))) (nI g) zs_21 zs_22 zs_25 zs_26 zs_27 zs_29))), ((ma 12), eI D 100 tb), ((ma 14), eI D 60 wd2_4), ((ma 15), eI D 60 (upd nu cl (nI (numN (sgT tb ln) ((wrdP (sgT tb ln) p).1))))), ((ma 16), eI D 60 fr), ((ma 17), eI D 60 tt9), ((ma 18), eI D 600 sf), ((ma 19), eI D 101 wf), ((ma 23), eI D 18 ltF)]) [7, 8, 5, 0, 1, 2, 3, 4, 6] (by decide) rfl ?_
            exact v_ireturn O T rfl rfl (by decide) (by decide) dX10_takesClause_68 (⟨(nI (numN (sgT tb ln) ((wrdP (sgT tb ln) p).1))), (nI g), zs_21, zs_22, zs_25, zs_26, zs_27, zs_29, _, _, _, _, _, _, by rw [cls_3 z1 z2 z3 z4 z5]; exact bF, by rw [cls_3 z1 z2 z3 z4 z5, spl, if_neg z5b], fun j hj => ⟨h_wo j hj, pk_un hj, rfl, rfl⟩, fun j hj => rfl, fun q => by rw [cls_3 z1 z2 z3 z4 z5] at q; exact absurd (show false = true from q) (by decide)⟩)
    · skip
      refine v_cV (T := TX10) (ci := 10) (As := []) (wr := [((ma 15), eI D 60 nu), ((ma 16), eI D 60 fr), ((ma 17), eI D 60 tt9), ((ma 18), eI D 600 sf), ((ma 19), eI D 101 wf), ((ma 14), eI D 60 wd2_4), ((ma 23), eI D 18 ltF)]) (st := []) O cf_X10_207 rfl (sp_X10_num_f (mo := mo) (ma := ma) (c := c) (c2 := c2) (tk := tk) (vc := vc) (ln := ln) (rn := rn) (zs_11 := zs_11) (zs_20 := (nI g)) (zs_21 := zs_21) (zs_22 := zs_22) (zs_25 := zs_25) (zs_26 := zs_26) (zs_27 := zs_27) (zs_29 := zs_29) (tb := tb) (p := ((wrdP (sgT tb ln) p).1)) (hln) (by omega) (z2)) dX10_takesClause_9 rfl rfl 5 rfl [5, 6] [0, 1, 2, 3, 4, 7, 8] (by decide) rfl rfl (by decide) (by decide) (by decide) (Nat.le_of_ble_eq_true rfl) (by decide) (by decide) (fun r_30 w_31 h_29 => ?_)
      obtain ⟨rfl, rfl⟩ := h_29
      refine v_eq (st' := [.int 0]) (ws' := [((ma 15), eI D 60 nu), ((ma 16), eI D 60 fr), ((ma 17), eI D 60 tt9), ((ma 18), eI D 600 sf), ((ma 19), eI D 101 wf), ((ma 14), eI D 60 wd2_4), ((ma 23), eI D 18 ltF), (mo, .inr (10, M1R ma (mZ c c2 tk vc ln rn (nI ((wrdP (sgT tb ln) p).1)) zs_11 (nI g) zs_21 zs_22 zs_25 zs_26 zs_27 zs_29))), ((ma 12), eI D 100 tb)]) rfl rfl rfl rfl ?_
      refine v_if_ne O 17 dX10_takesClause_12 (by decide) (fun c => absurd c (by decide)) (fun _ => ?_)
      refine v_iconst (v := 0) O dX10_takesClause_15 (by decide) ?_
      refine v_sub (ws' := [(mo, .inr (10, M1R ma (mZ c c2 tk vc ln rn (nI ((wrdP (sgT tb ln) p).1)) zs_11 (nI g) zs_21 zs_22 zs_25 zs_26 zs_27 zs_29))), ((ma 12), eI D 100 tb), ((ma 14), eI D 60 wd2_4), ((ma 15), eI D 60 nu), ((ma 16), eI D 60 fr), ((ma 17), eI D 60 tt9), ((ma 18), eI D 600 sf), ((ma 19), eI D 101 wf), ((ma 23), eI D 18 ltF)]) [7, 8, 5, 0, 1, 2, 3, 4, 6] (by decide) rfl ?_
      exact v_ireturn O T rfl rfl (by decide) (by decide) dX10_takesClause_16 (⟨zs_11, (nI g), zs_21, zs_22, zs_25, zs_26, zs_27, zs_29, _, _, _, _, _, _, by rw [cls_0 (Or.inr z2)]; exact bF, by rw [cls_0 (Or.inr z2)], fun j hj => ⟨h_wo j hj, rfl, rfl, rfl⟩, fun j hj => rfl, fun q => by rw [cls_0 (Or.inr z2)] at q; exact absurd (show false = true from q) (by decide)⟩)
theorem cRep_ge {wd nu fr tt sf : Nat → Int32} {f : Nat} {u : VS} : ∀ {n g : Nat} {v : VS}, cRep wd nu fr tt sf f u n g v → 100 * f ≤ g
  | 0, g, v, h => by rw [h.1]; exact Nat.le_refl _
  | n + 1, g2, v2, h => by
    obtain ⟨g, v, h1, h2⟩ := h
    exact Nat.le_trans (cRep_ge h1) (R1_le h2)
set_option maxRecDepth 100000 in
set_option maxHeartbeats 4000000 in
theorem l_X10_text {D : G} {X : CX} {mo : Nat} {ma : Nat → Nat} {c : CS} {c2 : CS} {tk : Int32} {vc : Nat} {ln : Nat} {rn : Nat} {tb : Nat → Int32} {wd : Nat → Int32} {nu : Nat → Int32} {fr : Nat → Int32} {tt9 : Nat → Int32} {sf : Nat → Int32} {wf : Nat → Int32} {cls : Nat → Int32} {f : Nat} {u : VS} (O : Ok D X mX10_goesText 6 0 0) (hln : ln ≤ 100) (hf : f < 6) (htb : ∀ j, j < ln → ¬ tb j = -1) (T : Rt D X (fun r w => ∃ zs2_11 : Int32, ∃ zs2_20 : Int32, ∃ zs2_21 : Int32, ∃ zs2_22 : Int32, ∃ zs2_25 : Int32, ∃ zs2_26 : Int32, ∃ zs2_27 : Int32, ∃ zs2_29 : Int32, ∃ wd2 : Nat → Int32, ∃ nu2 : Nat → Int32, ∃ fr2 : Nat → Int32, ∃ tt2 : Nat → Int32, ∃ sf2 : Nat → Int32, ∃ wf2 : Nat → Int32, ∃ cls2 : Nat → Int32, r = some (.int (b2i (((redP (sgT tb ln) u).2.1 = true ∧ (sgT tb ln) (redP (sgT tb ln) u).1 = -1)))) ∧ w = [(mo, .inr (10, M1R ma (mZ c c2 tk vc ln rn (nI ((redP (sgT tb ln) u).1)) zs2_11 zs2_20 zs2_21 zs2_22 zs2_25 zs2_26 zs2_27 zs2_29))), ((ma 12), eI D 100 tb), ((ma 14), eI D 60 wd2), ((ma 15), eI D 60 nu2), ((ma 16), eI D 60 fr2), ((ma 17), eI D 60 tt2), ((ma 18), eI D 600 sf2), ((ma 19), eI D 101 wf2), ((ma 13), eI D 6 cls2), ((ma 23), eI D 18 ltF)] ∧ (∀ j, ¬ (10 * f ≤ j ∧ j < 10 * f + 10) → wd2 j = wd j ∧ nu2 j = nu j ∧ fr2 j = fr j ∧ tt2 j = tt9 j) ∧ (∀ j, j < 100 * f → sf2 j = sf j) ∧ (∀ j, ¬ j = f → cls2 j = cls j) ∧ (((redP (sgT tb ln) u).2.1 = true ∧ (sgT tb ln) (redP (sgT tb ln) u).1 = -1) → ∃ n g : Nat, 1 ≤ n ∧ n ≤ 10 ∧ cls2 f = nI n ∧ g ≤ 100 * f + 100 ∧ cRep wd2 nu2 fr2 tt2 sf2 f u n g (redP (sgT tb ln) u).2.2)) 0 0) : ∀ (t n : Nat), n + t = 9 → ∀ (p g : Nat) (v : VS) (zs9_11 zs9_21 zs9_22 zs9_25 zs9_26 zs9_27 zs9_29 : Int32) (wd9 nu9 fr9 tt8 sf9 wf9 cls9 : Nat → Int32), (∀ j, ¬ (10 * f ≤ j ∧ j < 10 * f + 10) → wd9 j = wd j ∧ nu9 j = nu j ∧ fr9 j = fr j ∧ tt8 j = tt9 j) → (∀ j, j < 100 * f → sf9 j = sf j) → (∀ j, ¬ j = f → cls9 j = cls j) → cRep wd9 nu9 fr9 tt8 sf9 f u n g v → VOk v → v.nl ≤ p → p ≤ ln → g ≤ 100 * f + p → (redP (sgT tb ln) u) = rdL (sgT tb ln) t (clsP (sgT tb ln) p v) → V D X 0 0 15 [(0, .ref mo), (1, .int (nI f)), (2, .int (nI n))] [] [(mo, .inr (10, M1R ma (mZ c c2 tk vc ln rn (nI p) zs9_11 (nI g) zs9_21 zs9_22 zs9_25 zs9_26 zs9_27 zs9_29))), ((ma 12), eI D 100 tb), ((ma 14), eI D 60 wd9), ((ma 15), eI D 60 nu9), ((ma 16), eI D 60 fr9), ((ma 17), eI D 60 tt8), ((ma 18), eI D 600 sf9), ((ma 19), eI D 101 wf9), ((ma 13), eI D 6 cls9), ((ma 23), eI D 18 ltF)] := by
  intro t
  induction t with
  | zero =>
    intro n hn p g v zs9_11 zs9_21 zs9_22 zs9_25 zs9_26 zs9_27 zs9_29 wd9 nu9 fr9 tt8 sf9 wf9 cls9 i1 i2 i3 i4 i5 i6 i7 i8 hF
    have z_c := cls_ok (tb := tb) hln i7 i5 i6
    refine v_aload_n O dX10_goesText_15 0 rfl ?_
    refine v_bipush (v := 10) O dX10_goesText_16 (by decide) ?_
    refine v_iload_n O dX10_goesText_18 1 rfl ?_
    refine v_imul O dX10_goesText_19 ?_
    refine v_top (y := nI (10 * f)) (pk_mul 10 f) ?_
    refine v_iload_n O dX10_goesText_20 2 rfl ?_
    refine v_iadd O dX10_goesText_21 ?_
    refine v_top (y := nI ((10 * f) + n)) (nI_add (10 * f) n) ?_
    refine v_cV (T := TX10) (ci := 10) (As := [.int (nI ((10 * f) + n))]) (wr := [((ma 13), eI D 6 cls9)]) (st := []) O cf_X10_232 rfl (sp_X10_takesClause (mo := mo) (ma := ma) (c := c) (c2 := c2) (tk := tk) (vc := vc) (ln := ln) (rn := rn) (zs_11 := zs9_11) (zs_21 := zs9_21) (zs_22 := zs9_22) (zs_25 := zs9_25) (zs_26 := zs9_26) (zs_27 := zs9_27) (zs_29 := zs9_29) (tb := tb) (p := p) (wd := wd9) (nu := nu9) (fr := fr9) (tt9 := tt8) (sf := sf9) (wf := wf9) (g := g) (cl := ((10 * f) + n)) (v := v) (hln) (i7) (by omega) (by omega) (i5) (i6)) dX10_goesText_22 rfl rfl 0 rfl [0, 1, 2, 3, 4, 5, 6, 7, 9] [8] (by decide) rfl rfl (by decide) (by decide) (by decide) (Nat.le_of_ble_eq_true rfl) (by decide) (by decide) (fun r_2 w_3 h_1 => ?_)
    obtain ⟨zs2_11_4, zs2_20_5, zs2_21_6, zs2_22_7, zs2_25_8, zs2_26_9, zs2_27_10, zs2_29_11, wd2_12, nu2_13, fr2_14, tt2_15, sf2_16, wf2_17, rfl, rfl, h_to, h_tf, h_tk⟩ := h_1
    refine v_eq (st' := [.int (b2i ((clsP (sgT tb ln) p v).2.1 = true))]) (ws' := [((ma 13), eI D 6 cls9), (mo, .inr (10, M1R ma (mZ c c2 tk vc ln rn (nI ((clsP (sgT tb ln) p v).1)) zs2_11_4 zs2_20_5 zs2_21_6 zs2_22_7 zs2_25_8 zs2_26_9 zs2_27_10 zs2_29_11))), ((ma 12), eI D 100 tb), ((ma 14), eI D 60 wd2_12), ((ma 15), eI D 60 nu2_13), ((ma 16), eI D 60 fr2_14), ((ma 17), eI D 60 tt2_15), ((ma 18), eI D 600 sf2_16), ((ma 19), eI D 101 wf2_17), ((ma 23), eI D 18 ltF)]) rfl rfl rfl rfl ?_
    refine v_if_ne O 30 dX10_goesText_25 (by decide) (fun z1 => ?_) (fun z1 => ?_)
    · skip
      have z1 := b2i_1.mp z1
      obtain ⟨z_g2, z_20, z_gb, z_R1⟩ := h_tk z1
      have z_rep : cRep wd2_12 nu2_13 fr2_14 tt2_15 sf2_16 f u (n + 1) z_g2 (clsP (sgT tb ln) p v).2.2 := ⟨g, v, cRep_cg i4 (fun c9 q1 q2 => h_to c9 (by omega)) (fun j hj => h_tf j hj), z_R1⟩
      refine v_eq (ws' := [((ma 13), eI D 6 cls9), (mo, .inr (10, M1R ma (mZ c c2 tk vc ln rn (nI ((clsP (sgT tb ln) p v).1)) zs2_11_4 (nI z_g2) zs2_21_6 zs2_22_7 zs2_25_8 zs2_26_9 zs2_27_10 zs2_29_11))), ((ma 12), eI D 100 tb), ((ma 14), eI D 60 wd2_12), ((ma 15), eI D 60 nu2_13), ((ma 16), eI D 60 fr2_14), ((ma 17), eI D 60 tt2_15), ((ma 18), eI D 600 sf2_16), ((ma 19), eI D 101 wf2_17), ((ma 23), eI D 18 ltF)]) rfl rfl rfl (by rw [z_20]) ?_
      refine v_iinc (v := nI (n + 1)) (lv' := [(0, .ref mo), (1, .int (nI f)), (2, .int (nI (n + 1)))]) O dX10_goesText_30 2 rfl (nI_1 n) (by decide) rfl ?_
      refine v_aload_n O dX10_goesText_33 0 rfl ?_
      refine gf_X10_50 (v := .ref (ma 13)) O rfl dX10_goesText_34 1 rfl rfl ?_
      refine v_iload_n O dX10_goesText_37 1 rfl ?_
      refine v_iload_n O dX10_goesText_38 2 rfl ?_
      refine v_iastk (ws' := [((ma 13), eI D 6 (upd cls9 f (nI (n + 1)))), (mo, .inr (10, M1R ma (mZ c c2 tk vc ln rn (nI ((clsP (sgT tb ln) p v).1)) zs2_11_4 (nI z_g2) zs2_21_6 zs2_22_7 zs2_25_8 zs2_26_9 zs2_27_10 zs2_29_11))), ((ma 12), eI D 100 tb), ((ma 14), eI D 60 wd2_12), ((ma 15), eI D 60 nu2_13), ((ma 16), eI D 60 fr2_14), ((ma 17), eI D 60 tt2_15), ((ma 18), eI D 600 sf2_16), ((ma 19), eI D 101 wf2_17), ((ma 23), eI D 18 ltF)]) O dX10_goesText_39 0 rfl f (rfl) (by omega) (by decide) (rfl) ?_
      refine v_aload_n O dX10_goesText_40 0 rfl ?_
      refine gf_X10_41 (v := .int (nI ((clsP (sgT tb ln) p v).1))) O rfl dX10_goesText_41 1 rfl rfl ?_
      refine v_aload_n O dX10_goesText_44 0 rfl ?_
      refine gf_X10_38 (v := .int (nI ln)) O rfl dX10_goesText_45 1 rfl rfl ?_
      refine v_icmp_ne O 53 dX10_goesText_48 (by decide) (fun z2 => ?_) (fun z2 => ?_)
      · skip
        have z2 := (not_congr (c_eq (x := nI ((clsP (sgT tb ln) p v).1)) (y := nI ln) (a := (clsP (sgT tb ln) p v).1) (b := ln) rfl rfl (by omega) (by omega))).mp z2
        have z_ne : ¬ (sgT tb ln) (clsP (sgT tb ln) p v).1 = -1 := by rw [sgT_i (show (clsP (sgT tb ln) p v).1 < ln by omega)]; exact htb _ (by omega)
        refine v_iload_n O dX10_goesText_53 2 rfl ?_
        refine v_bipush (v := 10) O dX10_goesText_54 (by decide) ?_
        refine v_icmp_eq O 68 dX10_goesText_56 (by decide) (fun z3 => ?_) (fun z3 => ?_)
        · skip
          have z3 := (c_eq (x := nI (n + 1)) (y := 10) (a := n + 1) (b := 10) rfl rfl (by omega) (by omega)).mp z3
          have z_rn : rdL (sgT tb ln) 0 (clsP (sgT tb ln) p v) = (clsP (sgT tb ln) p v) := rfl
          refine v_iconst (v := 0) O dX10_goesText_68 (by decide) ?_
          refine v_sub (ws' := [(mo, .inr (10, M1R ma (mZ c c2 tk vc ln rn (nI ((clsP (sgT tb ln) p v).1)) zs2_11_4 (nI z_g2) zs2_21_6 zs2_22_7 zs2_25_8 zs2_26_9 zs2_27_10 zs2_29_11))), ((ma 12), eI D 100 tb), ((ma 14), eI D 60 wd2_12), ((ma 15), eI D 60 nu2_13), ((ma 16), eI D 60 fr2_14), ((ma 17), eI D 60 tt2_15), ((ma 18), eI D 600 sf2_16), ((ma 19), eI D 101 wf2_17), ((ma 13), eI D 6 (upd cls9 f (nI (n + 1)))), ((ma 23), eI D 18 ltF)]) [1, 2, 3, 4, 5, 6, 7, 8, 0, 9] (by decide) rfl ?_
          exact v_ireturn O T rfl rfl (by decide) (by decide) dX10_goesText_69 (⟨zs2_11_4, nI z_g2, zs2_21_6, zs2_22_7, zs2_25_8, zs2_26_9, zs2_27_10, zs2_29_11, _, _, _, _, _, _, _, by rw [hF, z_rn, b2i_f (fun q => z_ne q.2)], by rw [hF, z_rn], fun j hj => ⟨((h_to j (by omega)).1).trans (i1 j hj).1, ((h_to j (by omega)).2.1).trans (i1 j hj).2.1, ((h_to j (by omega)).2.2.1).trans (i1 j hj).2.2.1, ((h_to j (by omega)).2.2.2).trans (i1 j hj).2.2.2⟩, fun j hj => (h_tf j (by have := cRep_ge i4; omega)).trans (i2 j hj), fun j hj => (pk_un hj).trans (i3 j hj), fun q => by rw [hF, z_rn] at q; exact absurd q.2 z_ne⟩)
        · skip
          have z3 := (not_congr (c_eq (x := nI (n + 1)) (y := 10) (a := n + 1) (b := 10) rfl rfl (by omega) (by omega))).mp z3
          exact absurd z3 (by omega)
      · skip
        have z2 := (c_eq (x := nI ((clsP (sgT tb ln) p v).1)) (y := nI ln) (a := (clsP (sgT tb ln) p v).1) (b := ln) rfl rfl (by omega) (by omega)).mp z2
        have z_end : (sgT tb ln) (clsP (sgT tb ln) p v).1 = -1 := sgT_o (by omega)
        have z_rn : rdL (sgT tb ln) 0 (clsP (sgT tb ln) p v) = (clsP (sgT tb ln) p v) := rdL_n (fun q => absurd (z_end.symm.trans q.2) (by decide))
        refine v_iconst (v := 1) O dX10_goesText_51 (by decide) ?_
        refine v_sub (ws' := [(mo, .inr (10, M1R ma (mZ c c2 tk vc ln rn (nI ((clsP (sgT tb ln) p v).1)) zs2_11_4 (nI z_g2) zs2_21_6 zs2_22_7 zs2_25_8 zs2_26_9 zs2_27_10 zs2_29_11))), ((ma 12), eI D 100 tb), ((ma 14), eI D 60 wd2_12), ((ma 15), eI D 60 nu2_13), ((ma 16), eI D 60 fr2_14), ((ma 17), eI D 60 tt2_15), ((ma 18), eI D 600 sf2_16), ((ma 19), eI D 101 wf2_17), ((ma 13), eI D 6 (upd cls9 f (nI (n + 1)))), ((ma 23), eI D 18 ltF)]) [1, 2, 3, 4, 5, 6, 7, 8, 0, 9] (by decide) rfl ?_
        exact v_ireturn O T rfl rfl (by decide) (by decide) dX10_goesText_52 (⟨zs2_11_4, nI z_g2, zs2_21_6, zs2_22_7, zs2_25_8, zs2_26_9, zs2_27_10, zs2_29_11, _, _, _, _, _, _, _, by rw [hF, z_rn, b2i_t ⟨z1, z_end⟩], by rw [hF, z_rn], fun j hj => ⟨((h_to j (by omega)).1).trans (i1 j hj).1, ((h_to j (by omega)).2.1).trans (i1 j hj).2.1, ((h_to j (by omega)).2.2.1).trans (i1 j hj).2.2.1, ((h_to j (by omega)).2.2.2).trans (i1 j hj).2.2.2⟩, fun j hj => (h_tf j (by have := cRep_ge i4; omega)).trans (i2 j hj), fun j hj => (pk_un hj).trans (i3 j hj), fun _ => by rw [hF, z_rn]; exact ⟨n + 1, z_g2, by omega, by omega, pk_us, by omega, z_rep⟩⟩)
    · skip
      have z1 := b2i_0.mp z1
      have z_rn : rdL (sgT tb ln) 0 (clsP (sgT tb ln) p v) = (clsP (sgT tb ln) p v) := rdL_n (fun q => z1 q.1)
      refine v_iconst (v := 0) O dX10_goesText_28 (by decide) ?_
      refine v_sub (ws' := [(mo, .inr (10, M1R ma (mZ c c2 tk vc ln rn (nI ((clsP (sgT tb ln) p v).1)) zs2_11_4 zs2_20_5 zs2_21_6 zs2_22_7 zs2_25_8 zs2_26_9 zs2_27_10 zs2_29_11))), ((ma 12), eI D 100 tb), ((ma 14), eI D 60 wd2_12), ((ma 15), eI D 60 nu2_13), ((ma 16), eI D 60 fr2_14), ((ma 17), eI D 60 tt2_15), ((ma 18), eI D 600 sf2_16), ((ma 19), eI D 101 wf2_17), ((ma 13), eI D 6 cls9), ((ma 23), eI D 18 ltF)]) [1, 2, 3, 4, 5, 6, 7, 8, 0, 9] (by decide) rfl ?_
      exact v_ireturn O T rfl rfl (by decide) (by decide) dX10_goesText_29 (⟨zs2_11_4, zs2_20_5, zs2_21_6, zs2_22_7, zs2_25_8, zs2_26_9, zs2_27_10, zs2_29_11, _, _, _, _, _, _, _, by rw [hF, z_rn, b2i_f (fun q => z1 q.1)], by rw [hF, z_rn], fun j hj => ⟨((h_to j (by omega)).1).trans (i1 j hj).1, ((h_to j (by omega)).2.1).trans (i1 j hj).2.1, ((h_to j (by omega)).2.2.1).trans (i1 j hj).2.2.1, ((h_to j (by omega)).2.2.2).trans (i1 j hj).2.2.2⟩, fun j hj => (h_tf j (by have := cRep_ge i4; omega)).trans (i2 j hj), i3, fun q => by rw [hF, z_rn] at q; exact absurd q.1 z1⟩)
  | succ t ih =>
    intro n hn p g v zs9_11 zs9_21 zs9_22 zs9_25 zs9_26 zs9_27 zs9_29 wd9 nu9 fr9 tt8 sf9 wf9 cls9 i1 i2 i3 i4 i5 i6 i7 i8 hF
    have z_c := cls_ok (tb := tb) hln i7 i5 i6
    refine v_aload_n O dX10_goesText_15 0 rfl ?_
    refine v_bipush (v := 10) O dX10_goesText_16 (by decide) ?_
    refine v_iload_n O dX10_goesText_18 1 rfl ?_
    refine v_imul O dX10_goesText_19 ?_
    refine v_top (y := nI (10 * f)) (pk_mul 10 f) ?_
    refine v_iload_n O dX10_goesText_20 2 rfl ?_
    refine v_iadd O dX10_goesText_21 ?_
    refine v_top (y := nI ((10 * f) + n)) (nI_add (10 * f) n) ?_
    refine v_cV (T := TX10) (ci := 10) (As := [.int (nI ((10 * f) + n))]) (wr := [((ma 13), eI D 6 cls9)]) (st := []) O cf_X10_232 rfl (sp_X10_takesClause (mo := mo) (ma := ma) (c := c) (c2 := c2) (tk := tk) (vc := vc) (ln := ln) (rn := rn) (zs_11 := zs9_11) (zs_21 := zs9_21) (zs_22 := zs9_22) (zs_25 := zs9_25) (zs_26 := zs9_26) (zs_27 := zs9_27) (zs_29 := zs9_29) (tb := tb) (p := p) (wd := wd9) (nu := nu9) (fr := fr9) (tt9 := tt8) (sf := sf9) (wf := wf9) (g := g) (cl := ((10 * f) + n)) (v := v) (hln) (i7) (by omega) (by omega) (i5) (i6)) dX10_goesText_22 rfl rfl 0 rfl [0, 1, 2, 3, 4, 5, 6, 7, 9] [8] (by decide) rfl rfl (by decide) (by decide) (by decide) (Nat.le_of_ble_eq_true rfl) (by decide) (by decide) (fun r_2 w_3 h_1 => ?_)
    obtain ⟨zs2_11_4, zs2_20_5, zs2_21_6, zs2_22_7, zs2_25_8, zs2_26_9, zs2_27_10, zs2_29_11, wd2_12, nu2_13, fr2_14, tt2_15, sf2_16, wf2_17, rfl, rfl, h_to, h_tf, h_tk⟩ := h_1
    refine v_eq (st' := [.int (b2i ((clsP (sgT tb ln) p v).2.1 = true))]) (ws' := [((ma 13), eI D 6 cls9), (mo, .inr (10, M1R ma (mZ c c2 tk vc ln rn (nI ((clsP (sgT tb ln) p v).1)) zs2_11_4 zs2_20_5 zs2_21_6 zs2_22_7 zs2_25_8 zs2_26_9 zs2_27_10 zs2_29_11))), ((ma 12), eI D 100 tb), ((ma 14), eI D 60 wd2_12), ((ma 15), eI D 60 nu2_13), ((ma 16), eI D 60 fr2_14), ((ma 17), eI D 60 tt2_15), ((ma 18), eI D 600 sf2_16), ((ma 19), eI D 101 wf2_17), ((ma 23), eI D 18 ltF)]) rfl rfl rfl rfl ?_
    refine v_if_ne O 30 dX10_goesText_25 (by decide) (fun z1 => ?_) (fun z1 => ?_)
    · skip
      have z1 := b2i_1.mp z1
      obtain ⟨z_g2, z_20, z_gb, z_R1⟩ := h_tk z1
      have z_rep : cRep wd2_12 nu2_13 fr2_14 tt2_15 sf2_16 f u (n + 1) z_g2 (clsP (sgT tb ln) p v).2.2 := ⟨g, v, cRep_cg i4 (fun c9 q1 q2 => h_to c9 (by omega)) (fun j hj => h_tf j hj), z_R1⟩
      refine v_eq (ws' := [((ma 13), eI D 6 cls9), (mo, .inr (10, M1R ma (mZ c c2 tk vc ln rn (nI ((clsP (sgT tb ln) p v).1)) zs2_11_4 (nI z_g2) zs2_21_6 zs2_22_7 zs2_25_8 zs2_26_9 zs2_27_10 zs2_29_11))), ((ma 12), eI D 100 tb), ((ma 14), eI D 60 wd2_12), ((ma 15), eI D 60 nu2_13), ((ma 16), eI D 60 fr2_14), ((ma 17), eI D 60 tt2_15), ((ma 18), eI D 600 sf2_16), ((ma 19), eI D 101 wf2_17), ((ma 23), eI D 18 ltF)]) rfl rfl rfl (by rw [z_20]) ?_
      refine v_iinc (v := nI (n + 1)) (lv' := [(0, .ref mo), (1, .int (nI f)), (2, .int (nI (n + 1)))]) O dX10_goesText_30 2 rfl (nI_1 n) (by decide) rfl ?_
      refine v_aload_n O dX10_goesText_33 0 rfl ?_
      refine gf_X10_50 (v := .ref (ma 13)) O rfl dX10_goesText_34 1 rfl rfl ?_
      refine v_iload_n O dX10_goesText_37 1 rfl ?_
      refine v_iload_n O dX10_goesText_38 2 rfl ?_
      refine v_iastk (ws' := [((ma 13), eI D 6 (upd cls9 f (nI (n + 1)))), (mo, .inr (10, M1R ma (mZ c c2 tk vc ln rn (nI ((clsP (sgT tb ln) p v).1)) zs2_11_4 (nI z_g2) zs2_21_6 zs2_22_7 zs2_25_8 zs2_26_9 zs2_27_10 zs2_29_11))), ((ma 12), eI D 100 tb), ((ma 14), eI D 60 wd2_12), ((ma 15), eI D 60 nu2_13), ((ma 16), eI D 60 fr2_14), ((ma 17), eI D 60 tt2_15), ((ma 18), eI D 600 sf2_16), ((ma 19), eI D 101 wf2_17), ((ma 23), eI D 18 ltF)]) O dX10_goesText_39 0 rfl f (rfl) (by omega) (by decide) (rfl) ?_
      refine v_aload_n O dX10_goesText_40 0 rfl ?_
      refine gf_X10_41 (v := .int (nI ((clsP (sgT tb ln) p v).1))) O rfl dX10_goesText_41 1 rfl rfl ?_
      refine v_aload_n O dX10_goesText_44 0 rfl ?_
      refine gf_X10_38 (v := .int (nI ln)) O rfl dX10_goesText_45 1 rfl rfl ?_
      refine v_icmp_ne O 53 dX10_goesText_48 (by decide) (fun z2 => ?_) (fun z2 => ?_)
      · skip
        have z2 := (not_congr (c_eq (x := nI ((clsP (sgT tb ln) p v).1)) (y := nI ln) (a := (clsP (sgT tb ln) p v).1) (b := ln) rfl rfl (by omega) (by omega))).mp z2
        have z_ne : ¬ (sgT tb ln) (clsP (sgT tb ln) p v).1 = -1 := by rw [sgT_i (show (clsP (sgT tb ln) p v).1 < ln by omega)]; exact htb _ (by omega)
        refine v_iload_n O dX10_goesText_53 2 rfl ?_
        refine v_bipush (v := 10) O dX10_goesText_54 (by decide) ?_
        refine v_icmp_eq O 68 dX10_goesText_56 (by decide) (fun z3 => ?_) (fun z3 => ?_)
        · skip
          have z3 := (c_eq (x := nI (n + 1)) (y := 10) (a := n + 1) (b := 10) rfl rfl (by omega) (by omega)).mp z3
          exact absurd z3 (by omega)
        · skip
          have z3 := (not_congr (c_eq (x := nI (n + 1)) (y := 10) (a := n + 1) (b := 10) rfl rfl (by omega) (by omega))).mp z3
          refine v_aload_n O dX10_goesText_59 0 rfl ?_
          refine v_bipush (v := 59) O dX10_goesText_60 (by decide) ?_
          by_cases z4 : (sgT tb ln) (clsP (sgT tb ln) p v).1 = 59
          · skip
            refine v_cV (T := TX10) (ci := 10) (As := [.int 59]) (wr := [((ma 13), eI D 6 (upd cls9 f (nI (n + 1)))), ((ma 14), eI D 60 wd2_12), ((ma 15), eI D 60 nu2_13), ((ma 16), eI D 60 fr2_14), ((ma 17), eI D 60 tt2_15), ((ma 18), eI D 600 sf2_16), ((ma 19), eI D 101 wf2_17), ((ma 23), eI D 18 ltF)]) (st := []) O cf_X10_192 rfl (sp_X10_takes_t (mo := mo) (ma := ma) (c := c) (c2 := c2) (tk := tk) (vc := vc) (ln := ln) (rn := rn) (zs_11 := zs2_11_4) (zs_20 := (nI z_g2)) (zs_21 := zs2_21_6) (zs_22 := zs2_22_7) (zs_25 := zs2_25_8) (zs_26 := zs2_26_9) (zs_27 := zs2_27_10) (zs_29 := zs2_29_11) (tb := tb) (p := ((clsP (sgT tb ln) p v).1)) (x := 59) (hln) (by omega) (z4)) dX10_goesText_62 rfl rfl 1 rfl [1, 2] [0, 3, 4, 5, 6, 7, 8, 9] (by decide) rfl rfl (by decide) (by decide) (by decide) (Nat.le_of_ble_eq_true rfl) (by decide) (by decide) (fun r_19 w_20 h_18 => ?_)
            obtain ⟨rfl, rfl⟩ := h_18
            refine v_eq (st' := [.int 1]) (ws' := [((ma 13), eI D 6 (upd cls9 f (nI (n + 1)))), ((ma 14), eI D 60 wd2_12), ((ma 15), eI D 60 nu2_13), ((ma 16), eI D 60 fr2_14), ((ma 17), eI D 60 tt2_15), ((ma 18), eI D 600 sf2_16), ((ma 19), eI D 101 wf2_17), ((ma 23), eI D 18 ltF), (mo, .inr (10, M1R ma (mZ c c2 tk vc ln rn (nI (((clsP (sgT tb ln) p v).1) + 1)) zs2_11_4 (nI z_g2) zs2_21_6 zs2_22_7 zs2_25_8 zs2_26_9 zs2_27_10 zs2_29_11))), ((ma 12), eI D 100 tb)]) rfl rfl rfl rfl ?_
            refine v_if_ne O 15 dX10_goesText_65 (by decide) (fun _ => ?_) (fun c => absurd c (by decide))
            refine v_sub (ws' := [(mo, .inr (10, M1R ma (mZ c c2 tk vc ln rn (nI (((clsP (sgT tb ln) p v).1) + 1)) zs2_11_4 (nI z_g2) zs2_21_6 zs2_22_7 zs2_25_8 zs2_26_9 zs2_27_10 zs2_29_11))), ((ma 12), eI D 100 tb), ((ma 14), eI D 60 wd2_12), ((ma 15), eI D 60 nu2_13), ((ma 16), eI D 60 fr2_14), ((ma 17), eI D 60 tt2_15), ((ma 18), eI D 600 sf2_16), ((ma 19), eI D 101 wf2_17), ((ma 13), eI D 6 (upd cls9 f (nI (n + 1)))), ((ma 23), eI D 18 ltF)]) [8, 9, 1, 2, 3, 4, 5, 6, 0, 7] (by decide) rfl ?_
            exact ih (n + 1) (by omega) ((clsP (sgT tb ln) p v).1 + 1) z_g2 (clsP (sgT tb ln) p v).2.2 _ _ _ _ _ _ _ _ _ _ _ _ _ _ (fun j hj => ⟨((h_to j (by omega)).1).trans (i1 j hj).1, ((h_to j (by omega)).2.1).trans (i1 j hj).2.1, ((h_to j (by omega)).2.2.1).trans (i1 j hj).2.2.1, ((h_to j (by omega)).2.2.2).trans (i1 j hj).2.2.2⟩) (fun j hj => (h_tf j (by have := cRep_ge i4; omega)).trans (i2 j hj)) (fun j hj => (pk_un hj).trans (i3 j hj)) z_rep z_c.2.2.2.2 (by omega) (sgT_lt z4 (by decide)) (by omega) (by rw [hF, rdL_s ⟨z1, z4⟩])
          · skip
            refine v_cV (T := TX10) (ci := 10) (As := [.int 59]) (wr := [((ma 13), eI D 6 (upd cls9 f (nI (n + 1)))), ((ma 14), eI D 60 wd2_12), ((ma 15), eI D 60 nu2_13), ((ma 16), eI D 60 fr2_14), ((ma 17), eI D 60 tt2_15), ((ma 18), eI D 600 sf2_16), ((ma 19), eI D 101 wf2_17), ((ma 23), eI D 18 ltF)]) (st := []) O cf_X10_192 rfl (sp_X10_takes_f (mo := mo) (ma := ma) (c := c) (c2 := c2) (tk := tk) (vc := vc) (ln := ln) (rn := rn) (zs_11 := zs2_11_4) (zs_20 := (nI z_g2)) (zs_21 := zs2_21_6) (zs_22 := zs2_22_7) (zs_25 := zs2_25_8) (zs_26 := zs2_26_9) (zs_27 := zs2_27_10) (zs_29 := zs2_29_11) (tb := tb) (p := ((clsP (sgT tb ln) p v).1)) (x := 59) (hln) (by omega) (z4)) dX10_goesText_62 rfl rfl 1 rfl [1, 2] [0, 3, 4, 5, 6, 7, 8, 9] (by decide) rfl rfl (by decide) (by decide) (by decide) (Nat.le_of_ble_eq_true rfl) (by decide) (by decide) (fun r_23 w_24 h_22 => ?_)
            obtain ⟨rfl, rfl⟩ := h_22
            refine v_eq (st' := [.int 0]) (ws' := [((ma 13), eI D 6 (upd cls9 f (nI (n + 1)))), ((ma 14), eI D 60 wd2_12), ((ma 15), eI D 60 nu2_13), ((ma 16), eI D 60 fr2_14), ((ma 17), eI D 60 tt2_15), ((ma 18), eI D 600 sf2_16), ((ma 19), eI D 101 wf2_17), ((ma 23), eI D 18 ltF), (mo, .inr (10, M1R ma (mZ c c2 tk vc ln rn (nI ((clsP (sgT tb ln) p v).1)) zs2_11_4 (nI z_g2) zs2_21_6 zs2_22_7 zs2_25_8 zs2_26_9 zs2_27_10 zs2_29_11))), ((ma 12), eI D 100 tb)]) rfl rfl rfl rfl ?_
            refine v_if_ne O 15 dX10_goesText_65 (by decide) (fun c => absurd c (by decide)) (fun _ => ?_)
            have z_rn : rdL (sgT tb ln) (t + 1) (clsP (sgT tb ln) p v) = (clsP (sgT tb ln) p v) := rdL_n (fun q => z4 q.2)
            refine v_iconst (v := 0) O dX10_goesText_68 (by decide) ?_
            refine v_sub (ws' := [(mo, .inr (10, M1R ma (mZ c c2 tk vc ln rn (nI ((clsP (sgT tb ln) p v).1)) zs2_11_4 (nI z_g2) zs2_21_6 zs2_22_7 zs2_25_8 zs2_26_9 zs2_27_10 zs2_29_11))), ((ma 12), eI D 100 tb), ((ma 14), eI D 60 wd2_12), ((ma 15), eI D 60 nu2_13), ((ma 16), eI D 60 fr2_14), ((ma 17), eI D 60 tt2_15), ((ma 18), eI D 600 sf2_16), ((ma 19), eI D 101 wf2_17), ((ma 13), eI D 6 (upd cls9 f (nI (n + 1)))), ((ma 23), eI D 18 ltF)]) [8, 9, 1, 2, 3, 4, 5, 6, 0, 7] (by decide) rfl ?_
            exact v_ireturn O T rfl rfl (by decide) (by decide) dX10_goesText_69 (⟨zs2_11_4, (nI z_g2), zs2_21_6, zs2_22_7, zs2_25_8, zs2_26_9, zs2_27_10, zs2_29_11, _, _, _, _, _, _, _, by rw [hF, z_rn, b2i_f (fun q => z_ne q.2)], by rw [hF, z_rn], fun j hj => ⟨((h_to j (by omega)).1).trans (i1 j hj).1, ((h_to j (by omega)).2.1).trans (i1 j hj).2.1, ((h_to j (by omega)).2.2.1).trans (i1 j hj).2.2.1, ((h_to j (by omega)).2.2.2).trans (i1 j hj).2.2.2⟩, fun j hj => (h_tf j (by have := cRep_ge i4; omega)).trans (i2 j hj), fun j hj => (pk_un hj).trans (i3 j hj), fun q => by rw [hF, z_rn] at q; exact absurd q.2 z_ne⟩)
      · skip
        have z2 := (c_eq (x := nI ((clsP (sgT tb ln) p v).1)) (y := nI ln) (a := (clsP (sgT tb ln) p v).1) (b := ln) rfl rfl (by omega) (by omega)).mp z2
        have z_end : (sgT tb ln) (clsP (sgT tb ln) p v).1 = -1 := sgT_o (by omega)
        have z_rn : rdL (sgT tb ln) (t + 1) (clsP (sgT tb ln) p v) = (clsP (sgT tb ln) p v) := rdL_n (fun q => absurd (z_end.symm.trans q.2) (by decide))
        refine v_iconst (v := 1) O dX10_goesText_51 (by decide) ?_
        refine v_sub (ws' := [(mo, .inr (10, M1R ma (mZ c c2 tk vc ln rn (nI ((clsP (sgT tb ln) p v).1)) zs2_11_4 (nI z_g2) zs2_21_6 zs2_22_7 zs2_25_8 zs2_26_9 zs2_27_10 zs2_29_11))), ((ma 12), eI D 100 tb), ((ma 14), eI D 60 wd2_12), ((ma 15), eI D 60 nu2_13), ((ma 16), eI D 60 fr2_14), ((ma 17), eI D 60 tt2_15), ((ma 18), eI D 600 sf2_16), ((ma 19), eI D 101 wf2_17), ((ma 13), eI D 6 (upd cls9 f (nI (n + 1)))), ((ma 23), eI D 18 ltF)]) [1, 2, 3, 4, 5, 6, 7, 8, 0, 9] (by decide) rfl ?_
        exact v_ireturn O T rfl rfl (by decide) (by decide) dX10_goesText_52 (⟨zs2_11_4, nI z_g2, zs2_21_6, zs2_22_7, zs2_25_8, zs2_26_9, zs2_27_10, zs2_29_11, _, _, _, _, _, _, _, by rw [hF, z_rn, b2i_t ⟨z1, z_end⟩], by rw [hF, z_rn], fun j hj => ⟨((h_to j (by omega)).1).trans (i1 j hj).1, ((h_to j (by omega)).2.1).trans (i1 j hj).2.1, ((h_to j (by omega)).2.2.1).trans (i1 j hj).2.2.1, ((h_to j (by omega)).2.2.2).trans (i1 j hj).2.2.2⟩, fun j hj => (h_tf j (by have := cRep_ge i4; omega)).trans (i2 j hj), fun j hj => (pk_un hj).trans (i3 j hj), fun _ => by rw [hF, z_rn]; exact ⟨n + 1, z_g2, by omega, by omega, pk_us, by omega, z_rep⟩⟩)
    · skip
      have z1 := b2i_0.mp z1
      have z_rn : rdL (sgT tb ln) (t + 1) (clsP (sgT tb ln) p v) = (clsP (sgT tb ln) p v) := rdL_n (fun q => z1 q.1)
      refine v_iconst (v := 0) O dX10_goesText_28 (by decide) ?_
      refine v_sub (ws' := [(mo, .inr (10, M1R ma (mZ c c2 tk vc ln rn (nI ((clsP (sgT tb ln) p v).1)) zs2_11_4 zs2_20_5 zs2_21_6 zs2_22_7 zs2_25_8 zs2_26_9 zs2_27_10 zs2_29_11))), ((ma 12), eI D 100 tb), ((ma 14), eI D 60 wd2_12), ((ma 15), eI D 60 nu2_13), ((ma 16), eI D 60 fr2_14), ((ma 17), eI D 60 tt2_15), ((ma 18), eI D 600 sf2_16), ((ma 19), eI D 101 wf2_17), ((ma 13), eI D 6 cls9), ((ma 23), eI D 18 ltF)]) [1, 2, 3, 4, 5, 6, 7, 8, 0, 9] (by decide) rfl ?_
      exact v_ireturn O T rfl rfl (by decide) (by decide) dX10_goesText_29 (⟨zs2_11_4, zs2_20_5, zs2_21_6, zs2_22_7, zs2_25_8, zs2_26_9, zs2_27_10, zs2_29_11, _, _, _, _, _, _, _, by rw [hF, z_rn, b2i_f (fun q => z1 q.1)], by rw [hF, z_rn], fun j hj => ⟨((h_to j (by omega)).1).trans (i1 j hj).1, ((h_to j (by omega)).2.1).trans (i1 j hj).2.1, ((h_to j (by omega)).2.2.1).trans (i1 j hj).2.2.1, ((h_to j (by omega)).2.2.2).trans (i1 j hj).2.2.2⟩, fun j hj => (h_tf j (by have := cRep_ge i4; omega)).trans (i2 j hj), i3, fun q => by rw [hF, z_rn] at q; exact absurd q.1 z1⟩)
set_option maxRecDepth 100000 in
set_option maxHeartbeats 4000000 in
theorem sp_X10_goesText {D : G} {mo : Nat} {ma : Nat → Nat} {c : CS} {c2 : CS} {tk : Int32} {vc : Nat} {ln : Nat} {rn : Nat} {zs_10 : Int32} {zs_11 : Int32} {zs_20 : Int32} {zs_21 : Int32} {zs_22 : Int32} {zs_25 : Int32} {zs_26 : Int32} {zs_27 : Int32} {zs_29 : Int32} {tb : Nat → Int32} {wd : Nat → Int32} {nu : Nat → Int32} {fr : Nat → Int32} {tt9 : Nat → Int32} {sf : Nat → Int32} {wf : Nat → Int32} {cls : Nat → Int32} {f : Nat} {u : VS} (hln : ln ≤ 100) (hf : f < 6) (htb : ∀ j, j < ln → ¬ tb j = -1) : Sp D mX10_goesText 6 0 0 [.ref mo, .int (nI f)] [(mo, .inr (10, M1R ma (mZ c c2 tk vc ln rn zs_10 zs_11 zs_20 zs_21 zs_22 zs_25 zs_26 zs_27 zs_29))), ((ma 12), eI D 100 tb), ((ma 14), eI D 60 wd), ((ma 15), eI D 60 nu), ((ma 16), eI D 60 fr), ((ma 17), eI D 60 tt9), ((ma 18), eI D 600 sf), ((ma 19), eI D 101 wf), ((ma 13), eI D 6 cls), ((ma 23), eI D 18 ltF)] (fun r w => ∃ zs2_11 : Int32, ∃ zs2_20 : Int32, ∃ zs2_21 : Int32, ∃ zs2_22 : Int32, ∃ zs2_25 : Int32, ∃ zs2_26 : Int32, ∃ zs2_27 : Int32, ∃ zs2_29 : Int32, ∃ wd2 : Nat → Int32, ∃ nu2 : Nat → Int32, ∃ fr2 : Nat → Int32, ∃ tt2 : Nat → Int32, ∃ sf2 : Nat → Int32, ∃ wf2 : Nat → Int32, ∃ cls2 : Nat → Int32, r = some (.int (b2i (((redP (sgT tb ln) u).2.1 = true ∧ (sgT tb ln) (redP (sgT tb ln) u).1 = -1)))) ∧ w = [(mo, .inr (10, M1R ma (mZ c c2 tk vc ln rn (nI ((redP (sgT tb ln) u).1)) zs2_11 zs2_20 zs2_21 zs2_22 zs2_25 zs2_26 zs2_27 zs2_29))), ((ma 12), eI D 100 tb), ((ma 14), eI D 60 wd2), ((ma 15), eI D 60 nu2), ((ma 16), eI D 60 fr2), ((ma 17), eI D 60 tt2), ((ma 18), eI D 600 sf2), ((ma 19), eI D 101 wf2), ((ma 13), eI D 6 cls2), ((ma 23), eI D 18 ltF)] ∧ (∀ j, ¬ (10 * f ≤ j ∧ j < 10 * f + 10) → wd2 j = wd j ∧ nu2 j = nu j ∧ fr2 j = fr j ∧ tt2 j = tt9 j) ∧ (∀ j, j < 100 * f → sf2 j = sf j) ∧ (∀ j, ¬ j = f → cls2 j = cls j) ∧ (((redP (sgT tb ln) u).2.1 = true ∧ (sgT tb ln) (redP (sgT tb ln) u).1 = -1) → ∃ n g : Nat, 1 ≤ n ∧ n ≤ 10 ∧ cls2 f = nI n ∧ g ≤ 100 * f + 100 ∧ cRep wd2 nu2 fr2 tt2 sf2 f u n g (redP (sgT tb ln) u).2.2)) := by
  refine Sp.of (by decide) (Nat.le_of_ble_eq_true rfl) (fun X O T => ?_)
  refine v_eq (lv' := [(0, .ref mo), (1, .int (nI f))]) rfl rfl rfl rfl ?_
  refine v_aload_n O dX10_goesText_0 0 rfl ?_
  refine v_iconst (v := 0) O dX10_goesText_1 (by decide) ?_
  refine pf_X10_41 (fs' := M1R ma (mZ c c2 tk vc ln rn 0 zs_11 zs_20 zs_21 zs_22 zs_25 zs_26 zs_27 zs_29)) (ws' := [(mo, .inr (10, M1R ma (mZ c c2 tk vc ln rn 0 zs_11 zs_20 zs_21 zs_22 zs_25 zs_26 zs_27 zs_29))), ((ma 12), eI D 100 tb), ((ma 14), eI D 60 wd), ((ma 15), eI D 60 nu), ((ma 16), eI D 60 fr), ((ma 17), eI D 60 tt9), ((ma 18), eI D 600 sf), ((ma 19), eI D 101 wf), ((ma 13), eI D 6 cls), ((ma 23), eI D 18 ltF)]) O rfl dX10_goesText_2 0 rfl (Nat.le_of_ble_eq_true rfl) rfl rfl ?_
  refine v_aload_n O dX10_goesText_5 0 rfl ?_
  refine v_bipush (v := 100) O dX10_goesText_6 (by decide) ?_
  refine v_iload_n O dX10_goesText_8 1 rfl ?_
  refine v_imul O dX10_goesText_9 ?_
  refine v_top (y := nI (100 * f)) (pk_mul 100 f) ?_
  refine pf_X10_71 (fs' := M1R ma (mZ c c2 tk vc ln rn 0 zs_11 (nI (100 * f)) zs_21 zs_22 zs_25 zs_26 zs_27 zs_29)) (ws' := [(mo, .inr (10, M1R ma (mZ c c2 tk vc ln rn 0 zs_11 (nI (100 * f)) zs_21 zs_22 zs_25 zs_26 zs_27 zs_29))), ((ma 12), eI D 100 tb), ((ma 14), eI D 60 wd), ((ma 15), eI D 60 nu), ((ma 16), eI D 60 fr), ((ma 17), eI D 60 tt9), ((ma 18), eI D 600 sf), ((ma 19), eI D 101 wf), ((ma 13), eI D 6 cls), ((ma 23), eI D 18 ltF)]) O rfl dX10_goesText_10 0 rfl (Nat.le_of_ble_eq_true rfl) rfl rfl ?_
  refine v_iconst (v := 0) O dX10_goesText_13 (by decide) ?_
  refine v_istore_n (lv' := [(0, .ref mo), (1, .int (nI f)), (2, .int 0)]) O dX10_goesText_14 (by decide) rfl ?_
  refine v_eq (lv' := [(0, .ref mo), (1, .int (nI f)), (2, .int (nI 0))]) (ws' := [(mo, .inr (10, M1R ma (mZ c c2 tk vc ln rn (nI 0) zs_11 (nI (100 * f)) zs_21 zs_22 zs_25 zs_26 zs_27 zs_29))), ((ma 12), eI D 100 tb), ((ma 14), eI D 60 wd), ((ma 15), eI D 60 nu), ((ma 16), eI D 60 fr), ((ma 17), eI D 60 tt9), ((ma 18), eI D 600 sf), ((ma 19), eI D 101 wf), ((ma 13), eI D 6 cls), ((ma 23), eI D 18 ltF)]) rfl rfl rfl rfl ?_
  exact l_X10_text (wd := wd) (nu := nu) (fr := fr) (tt9 := tt9) (sf := sf) (wf := wf) (cls := cls) O hln hf htb T 9 0 (by omega) 0 (100 * f) (v0 u) _ _ _ _ _ _ _ _ _ _ _ _ _ _ (fun j _ => ⟨rfl, rfl, rfl, rfl⟩) (fun j _ => rfl) (fun j _ => rfl) ⟨rfl, rfl⟩ vok_0 (Nat.le_refl _) (Nat.zero_le _) (by omega) rfl
set_option maxRecDepth 100000 in
set_option maxHeartbeats 4000000 in
theorem sp_X10_village_1 {D : G} {mo : Nat} {ma : Nat → Nat} {c : CS} {c2 : CS} {tk : Int32} {vc : Nat} {ln : Nat} {rn : Nat} {zs_10 : Int32} {zs_11 : Int32} {zs_20 : Int32} {zs_21 : Int32} {zs_22 : Int32} {zs_25 : Int32} {zs_26 : Int32} {zs_27 : Int32} {zs_29 : Int32} (hf : vc = 6) : Sp D mX10_village 30 0 0 [.ref mo] [(mo, .inr (10, M1R ma (mZ c c2 tk vc ln rn zs_10 zs_11 zs_20 zs_21 zs_22 zs_25 zs_26 zs_27 zs_29)))] (fun r w => ∃ zs2_10 : Int32, ∃ zs2_11 : Int32, ∃ zs2_20 : Int32, ∃ zs2_21 : Int32, ∃ zs2_22 : Int32, ∃ zs2_25 : Int32, ∃ zs2_26 : Int32, ∃ zs2_27 : Int32, ∃ zs2_29 : Int32, r = some (.int (-4)) ∧ w = [(mo, .inr (10, M1R ma (mZ c c2 tk vc ln rn zs2_10 zs2_11 zs2_20 zs2_21 zs2_22 zs2_25 zs2_26 zs2_27 zs2_29)))]) := by
  refine Sp.of (by decide) (Nat.le_of_ble_eq_true rfl) (fun X O T => ?_)
  refine v_eq (lv' := [(0, .ref mo)]) rfl rfl rfl rfl ?_
  refine v_aload_n O dX10_village_0 0 rfl ?_
  refine gf_X10_32 (v := .int (nI vc)) O rfl dX10_village_1 0 rfl rfl ?_
  refine v_bipush (v := 6) O dX10_village_4 (by decide) ?_
  refine v_icmp_ne O 12 dX10_village_6 (by decide) (fun z1 => ?_) (fun z1 => ?_)
  · skip
    have z1 := (not_congr (c_eq (x := nI vc) (y := 6) (a := vc) (b := 6) rfl rfl (by omega) (by omega))).mp z1
    exact absurd z1 (by omega)
  · skip
    have z1 := (c_eq (x := nI vc) (y := 6) (a := vc) (b := 6) rfl rfl (by omega) (by omega)).mp z1
    refine v_bipush (v := -4) O dX10_village_9 (by decide) ?_
    exact v_ireturn O T rfl rfl (by decide) (by decide) dX10_village_11 (⟨zs_10, zs_11, zs_20, zs_21, zs_22, zs_25, zs_26, zs_27, zs_29, rfl, rfl⟩)
set_option maxRecDepth 100000 in
set_option maxHeartbeats 4000000 in
theorem sp_X10_village_2 {D : G} {mo : Nat} {ma : Nat → Nat} {c : CS} {c2 : CS} {tk : Int32} {vc : Nat} {ln : Nat} {rn : Nat} {zs_10 : Int32} {zs_11 : Int32} {zs_20 : Int32} {zs_21 : Int32} {zs_22 : Int32} {zs_25 : Int32} {zs_26 : Int32} {zs_27 : Int32} {zs_29 : Int32} {tb : Nat → Int32} {wd : Nat → Int32} {nu : Nat → Int32} {fr : Nat → Int32} {tt9 : Nat → Int32} {sf : Nat → Int32} {wf : Nat → Int32} {cls : Nat → Int32} {v : VS} (hf : vc < 6) (hln : ln ≤ 100) (hg : ¬ ((redP (sgT tb ln) v).2.1 = true ∧ sgT tb ln (redP (sgT tb ln) v).1 = -1)) (htb : ∀ j, j < ln → ¬ tb j = -1) : Sp D mX10_village 30 0 0 [.ref mo] [(mo, .inr (10, M1R ma (mZ c c2 tk vc ln rn zs_10 zs_11 zs_20 zs_21 zs_22 zs_25 zs_26 zs_27 zs_29))), ((ma 12), eI D 100 tb), ((ma 14), eI D 60 wd), ((ma 15), eI D 60 nu), ((ma 16), eI D 60 fr), ((ma 17), eI D 60 tt9), ((ma 18), eI D 600 sf), ((ma 19), eI D 101 wf), ((ma 13), eI D 6 cls), ((ma 23), eI D 18 ltF)] (fun r w => ∃ zs2_10 : Int32, ∃ zs2_11 : Int32, ∃ zs2_20 : Int32, ∃ zs2_21 : Int32, ∃ zs2_22 : Int32, ∃ zs2_25 : Int32, ∃ zs2_26 : Int32, ∃ zs2_27 : Int32, ∃ zs2_29 : Int32, ∃ wd2 : Nat → Int32, ∃ nu2 : Nat → Int32, ∃ fr2 : Nat → Int32, ∃ tt2 : Nat → Int32, ∃ sf2 : Nat → Int32, ∃ wf2 : Nat → Int32, ∃ cls2 : Nat → Int32, r = some (.int (-10 - nI (redP (sgT tb ln) v).1)) ∧ w = [(mo, .inr (10, M1R ma (mZ c c2 tk vc 0 rn zs2_10 zs2_11 zs2_20 zs2_21 zs2_22 zs2_25 zs2_26 zs2_27 zs2_29))), ((ma 12), eI D 100 tb), ((ma 14), eI D 60 wd2), ((ma 15), eI D 60 nu2), ((ma 16), eI D 60 fr2), ((ma 17), eI D 60 tt2), ((ma 18), eI D 600 sf2), ((ma 19), eI D 101 wf2), ((ma 13), eI D 6 cls2), ((ma 23), eI D 18 ltF)] ∧ (∀ j, ¬ (10 * vc ≤ j ∧ j < 10 * vc + 10) → wd2 j = wd j ∧ nu2 j = nu j ∧ fr2 j = fr j ∧ tt2 j = tt9 j) ∧ (∀ j, j < 100 * vc → sf2 j = sf j) ∧ (∀ j, ¬ j = vc → cls2 j = cls j)) := by
  refine Sp.of (by decide) (Nat.le_of_ble_eq_true rfl) (fun X O T => ?_)
  refine v_eq (lv' := [(0, .ref mo)]) rfl rfl rfl rfl ?_
  refine v_aload_n O dX10_village_0 0 rfl ?_
  refine gf_X10_32 (v := .int (nI vc)) O rfl dX10_village_1 0 rfl rfl ?_
  refine v_bipush (v := 6) O dX10_village_4 (by decide) ?_
  refine v_icmp_ne O 12 dX10_village_6 (by decide) (fun z1 => ?_) (fun z1 => ?_)
  · skip
    have z1 := (not_congr (c_eq (x := nI vc) (y := 6) (a := vc) (b := 6) rfl rfl (by omega) (by omega))).mp z1
    refine v_aload_n O dX10_village_12 0 rfl ?_
    refine v_aload_n O dX10_village_13 0 rfl ?_
    refine gf_X10_32 (v := .int (nI vc)) O rfl dX10_village_14 0 rfl rfl ?_
    refine v_cV (T := TX10) (ci := 10) (As := [.int (nI vc)]) (wr := []) (st := []) O cf_X10_235 rfl (sp_X10_goesText (mo := mo) (ma := ma) (c := c) (c2 := c2) (tk := tk) (vc := vc) (ln := ln) (rn := rn) (zs_10 := zs_10) (zs_11 := zs_11) (zs_20 := zs_20) (zs_21 := zs_21) (zs_22 := zs_22) (zs_25 := zs_25) (zs_26 := zs_26) (zs_27 := zs_27) (zs_29 := zs_29) (tb := tb) (wd := wd) (nu := nu) (fr := fr) (tt9 := tt9) (sf := sf) (wf := wf) (cls := cls) (f := vc) (u := v) (hln) (by omega) (htb)) dX10_village_17 rfl rfl 0 rfl [0, 1, 2, 3, 4, 5, 6, 7, 8, 9] [] (by decide) rfl rfl (by decide) (by decide) (by decide) (Nat.le_of_ble_eq_true rfl) (by decide) (by decide) (fun r_2 w_3 h_1 => ?_)
    obtain ⟨zs2_11_4, zs2_20_5, zs2_21_6, zs2_22_7, zs2_25_8, zs2_26_9, zs2_27_10, zs2_29_11, wd2_12, nu2_13, fr2_14, tt2_15, sf2_16, wf2_17, cls2_18, rfl, rfl, h_go, h_gf, h_gc, h_gk⟩ := h_1
    refine v_eq (st' := [.int (b2i (((redP (sgT tb ln) v).2.1 = true ∧ (sgT tb ln) (redP (sgT tb ln) v).1 = -1)))]) (ws' := [(mo, .inr (10, M1R ma (mZ c c2 tk vc ln rn (nI ((redP (sgT tb ln) v).1)) zs2_11_4 zs2_20_5 zs2_21_6 zs2_22_7 zs2_25_8 zs2_26_9 zs2_27_10 zs2_29_11))), ((ma 12), eI D 100 tb), ((ma 14), eI D 60 wd2_12), ((ma 15), eI D 60 nu2_13), ((ma 16), eI D 60 fr2_14), ((ma 17), eI D 60 tt2_15), ((ma 18), eI D 600 sf2_16), ((ma 19), eI D 101 wf2_17), ((ma 13), eI D 6 cls2_18), ((ma 23), eI D 18 ltF)]) rfl rfl rfl rfl ?_
    refine v_istore_n (lv' := [(0, .ref mo), (1, .int (b2i (((redP (sgT tb ln) v).2.1 = true ∧ (sgT tb ln) (redP (sgT tb ln) v).1 = -1))))]) O dX10_village_20 (by decide) rfl ?_
    refine v_aload_n O dX10_village_21 0 rfl ?_
    refine v_iconst (v := 0) O dX10_village_22 (by decide) ?_
    refine pf_X10_38 (fs' := M1R ma (mZ c c2 tk vc 0 rn (nI ((redP (sgT tb ln) v).1)) zs2_11_4 zs2_20_5 zs2_21_6 zs2_22_7 zs2_25_8 zs2_26_9 zs2_27_10 zs2_29_11)) (ws' := [(mo, .inr (10, M1R ma (mZ c c2 tk vc 0 rn (nI ((redP (sgT tb ln) v).1)) zs2_11_4 zs2_20_5 zs2_21_6 zs2_22_7 zs2_25_8 zs2_26_9 zs2_27_10 zs2_29_11))), ((ma 12), eI D 100 tb), ((ma 14), eI D 60 wd2_12), ((ma 15), eI D 60 nu2_13), ((ma 16), eI D 60 fr2_14), ((ma 17), eI D 60 tt2_15), ((ma 18), eI D 600 sf2_16), ((ma 19), eI D 101 wf2_17), ((ma 13), eI D 6 cls2_18), ((ma 23), eI D 18 ltF)]) O rfl dX10_village_23 0 rfl (Nat.le_of_ble_eq_true rfl) rfl rfl ?_
    refine v_iload_n O dX10_village_26 1 rfl ?_
    refine v_if_ne O 38 dX10_village_27 (by decide) (fun z2 => ?_) (fun z2 => ?_)
    · skip
      have z2 := b2i_1.mp z2
      exact absurd z2 hg
    · skip
      have z2 := b2i_0.mp z2
      refine v_bipush (v := -10) O dX10_village_30 (by decide) ?_
      refine v_aload_n O dX10_village_32 0 rfl ?_
      refine gf_X10_41 (v := .int (nI ((redP (sgT tb ln) v).1))) O rfl dX10_village_33 0 rfl rfl ?_
      refine v_isub O dX10_village_36 ?_
      exact v_ireturn O T rfl rfl (by decide) (by decide) dX10_village_37 (⟨nI ((redP (sgT tb ln) v).1), zs2_11_4, zs2_20_5, zs2_21_6, zs2_22_7, zs2_25_8, zs2_26_9, zs2_27_10, zs2_29_11, _, _, _, _, _, _, _, rfl, rfl, h_go, h_gf, h_gc⟩)
  · skip
    have z1 := (c_eq (x := nI vc) (y := 6) (a := vc) (b := 6) rfl rfl (by omega) (by omega)).mp z1
    exact absurd z1 (by omega)
set_option maxRecDepth 100000 in
set_option maxHeartbeats 4000000 in
theorem sp_X10_village_3 {D : G} {mo : Nat} {ma : Nat → Nat} {c : CS} {c2 : CS} {tk : Int32} {vc : Nat} {ln : Nat} {rn : Nat} {zs_10 : Int32} {zs_11 : Int32} {zs_20 : Int32} {zs_21 : Int32} {zs_22 : Int32} {zs_25 : Int32} {zs_26 : Int32} {zs_27 : Int32} {zs_29 : Int32} {tb : Nat → Int32} {wd : Nat → Int32} {nu : Nat → Int32} {fr : Nat → Int32} {tt9 : Nat → Int32} {sf : Nat → Int32} {wf : Nat → Int32} {cls : Nat → Int32} {v : VS} (hC : cOk c) (hf : vc < 6) (hln : ln ≤ 100) (hg : ((redP (sgT tb ln) v).2.1 = true ∧ sgT tb ln (redP (sgT tb ln) v).1 = -1)) (htb : ∀ j, j < ln → ¬ tb j = -1) : Sp D mX10_village 30 0 0 [.ref mo] [(mo, .inr (10, M1R ma (mZ c c2 tk vc ln rn zs_10 zs_11 zs_20 zs_21 zs_22 zs_25 zs_26 zs_27 zs_29))), ((ma 4), eI D 6 (nF c.kk)), ((ma 5), eI D 6 (nF c.vv)), ((ma 6), eI D 6 c.hd), ((ma 30), eI D 8 (nF c.crf)), ((ma 35), eI D 12 (nF c.bo)), ((ma 12), eI D 100 tb), ((ma 14), eI D 60 wd), ((ma 15), eI D 60 nu), ((ma 16), eI D 60 fr), ((ma 17), eI D 60 tt9), ((ma 18), eI D 600 sf), ((ma 19), eI D 101 wf), ((ma 13), eI D 6 cls), ((ma 23), eI D 18 ltF)] (fun r w => ∃ zs2_10 : Int32, ∃ zs2_11 : Int32, ∃ zs2_20 : Int32, ∃ zs2_21 : Int32, ∃ zs2_22 : Int32, ∃ zs2_25 : Int32, ∃ zs2_26 : Int32, ∃ zs2_27 : Int32, ∃ zs2_29 : Int32, ∃ wd2 : Nat → Int32, ∃ nu2 : Nat → Int32, ∃ fr2 : Nat → Int32, ∃ tt2 : Nat → Int32, ∃ sf2 : Nat → Int32, ∃ wf2 : Nat → Int32, ∃ cls2 : Nat → Int32, r = some (.int (nI vc)) ∧ w = [(mo, .inr (10, M1R ma (mZ (cHeld c vc) c2 tk (vc + 1) 0 rn zs2_10 zs2_11 zs2_20 zs2_21 zs2_22 zs2_25 zs2_26 zs2_27 zs2_29))), ((ma 4), eI D 6 (nF (cHeld c vc).kk)), ((ma 5), eI D 6 (nF (cHeld c vc).vv)), ((ma 6), eI D 6 ((cHeld c vc).hd)), ((ma 30), eI D 8 (nF (cHeld c vc).crf)), ((ma 35), eI D 12 (nF (cHeld c vc).bo)), ((ma 12), eI D 100 tb), ((ma 14), eI D 60 wd2), ((ma 15), eI D 60 nu2), ((ma 16), eI D 60 fr2), ((ma 17), eI D 60 tt2), ((ma 18), eI D 600 sf2), ((ma 19), eI D 101 wf2), ((ma 13), eI D 6 cls2), ((ma 23), eI D 18 ltF)] ∧ (∀ j, ¬ (10 * vc ≤ j ∧ j < 10 * vc + 10) → wd2 j = wd j ∧ nu2 j = nu j ∧ fr2 j = fr j ∧ tt2 j = tt9 j) ∧ (∀ j, j < 100 * vc → sf2 j = sf j) ∧ (∀ j, ¬ j = vc → cls2 j = cls j) ∧ (∃ n g : Nat, 1 ≤ n ∧ n ≤ 10 ∧ cls2 vc = nI n ∧ g ≤ 100 * vc + 100 ∧ cRep wd2 nu2 fr2 tt2 sf2 vc v n g (redP (sgT tb ln) v).2.2)) := by
  refine Sp.of (by decide) (Nat.le_of_ble_eq_true rfl) (fun X O T => ?_)
  refine v_eq (lv' := [(0, .ref mo)]) rfl rfl rfl rfl ?_
  refine v_aload_n O dX10_village_0 0 rfl ?_
  refine gf_X10_32 (v := .int (nI vc)) O rfl dX10_village_1 0 rfl rfl ?_
  refine v_bipush (v := 6) O dX10_village_4 (by decide) ?_
  refine v_icmp_ne O 12 dX10_village_6 (by decide) (fun z1 => ?_) (fun z1 => ?_)
  · skip
    have z1 := (not_congr (c_eq (x := nI vc) (y := 6) (a := vc) (b := 6) rfl rfl (by omega) (by omega))).mp z1
    refine v_aload_n O dX10_village_12 0 rfl ?_
    refine v_aload_n O dX10_village_13 0 rfl ?_
    refine gf_X10_32 (v := .int (nI vc)) O rfl dX10_village_14 0 rfl rfl ?_
    refine v_cV (T := TX10) (ci := 10) (As := [.int (nI vc)]) (wr := [((ma 4), eI D 6 (nF c.kk)), ((ma 5), eI D 6 (nF c.vv)), ((ma 6), eI D 6 c.hd), ((ma 30), eI D 8 (nF c.crf)), ((ma 35), eI D 12 (nF c.bo))]) (st := []) O cf_X10_235 rfl (sp_X10_goesText (mo := mo) (ma := ma) (c := c) (c2 := c2) (tk := tk) (vc := vc) (ln := ln) (rn := rn) (zs_10 := zs_10) (zs_11 := zs_11) (zs_20 := zs_20) (zs_21 := zs_21) (zs_22 := zs_22) (zs_25 := zs_25) (zs_26 := zs_26) (zs_27 := zs_27) (zs_29 := zs_29) (tb := tb) (wd := wd) (nu := nu) (fr := fr) (tt9 := tt9) (sf := sf) (wf := wf) (cls := cls) (f := vc) (u := v) (hln) (by omega) (htb)) dX10_village_17 rfl rfl 0 rfl [0, 6, 7, 8, 9, 10, 11, 12, 13, 14] [1, 2, 3, 4, 5] (by decide) rfl rfl (by decide) (by decide) (by decide) (Nat.le_of_ble_eq_true rfl) (by decide) (by decide) (fun r_2 w_3 h_1 => ?_)
    obtain ⟨zs2_11_4, zs2_20_5, zs2_21_6, zs2_22_7, zs2_25_8, zs2_26_9, zs2_27_10, zs2_29_11, wd2_12, nu2_13, fr2_14, tt2_15, sf2_16, wf2_17, cls2_18, rfl, rfl, h_go, h_gf, h_gc, h_gk⟩ := h_1
    refine v_eq (st' := [.int (b2i (((redP (sgT tb ln) v).2.1 = true ∧ (sgT tb ln) (redP (sgT tb ln) v).1 = -1)))]) (ws' := [((ma 4), eI D 6 (nF c.kk)), ((ma 5), eI D 6 (nF c.vv)), ((ma 6), eI D 6 c.hd), ((ma 30), eI D 8 (nF c.crf)), ((ma 35), eI D 12 (nF c.bo)), (mo, .inr (10, M1R ma (mZ c c2 tk vc ln rn (nI ((redP (sgT tb ln) v).1)) zs2_11_4 zs2_20_5 zs2_21_6 zs2_22_7 zs2_25_8 zs2_26_9 zs2_27_10 zs2_29_11))), ((ma 12), eI D 100 tb), ((ma 14), eI D 60 wd2_12), ((ma 15), eI D 60 nu2_13), ((ma 16), eI D 60 fr2_14), ((ma 17), eI D 60 tt2_15), ((ma 18), eI D 600 sf2_16), ((ma 19), eI D 101 wf2_17), ((ma 13), eI D 6 cls2_18), ((ma 23), eI D 18 ltF)]) rfl rfl rfl rfl ?_
    refine v_istore_n (lv' := [(0, .ref mo), (1, .int (b2i (((redP (sgT tb ln) v).2.1 = true ∧ (sgT tb ln) (redP (sgT tb ln) v).1 = -1))))]) O dX10_village_20 (by decide) rfl ?_
    refine v_aload_n O dX10_village_21 0 rfl ?_
    refine v_iconst (v := 0) O dX10_village_22 (by decide) ?_
    refine pf_X10_38 (fs' := M1R ma (mZ c c2 tk vc 0 rn (nI ((redP (sgT tb ln) v).1)) zs2_11_4 zs2_20_5 zs2_21_6 zs2_22_7 zs2_25_8 zs2_26_9 zs2_27_10 zs2_29_11)) (ws' := [((ma 4), eI D 6 (nF c.kk)), ((ma 5), eI D 6 (nF c.vv)), ((ma 6), eI D 6 c.hd), ((ma 30), eI D 8 (nF c.crf)), ((ma 35), eI D 12 (nF c.bo)), (mo, .inr (10, M1R ma (mZ c c2 tk vc 0 rn (nI ((redP (sgT tb ln) v).1)) zs2_11_4 zs2_20_5 zs2_21_6 zs2_22_7 zs2_25_8 zs2_26_9 zs2_27_10 zs2_29_11))), ((ma 12), eI D 100 tb), ((ma 14), eI D 60 wd2_12), ((ma 15), eI D 60 nu2_13), ((ma 16), eI D 60 fr2_14), ((ma 17), eI D 60 tt2_15), ((ma 18), eI D 600 sf2_16), ((ma 19), eI D 101 wf2_17), ((ma 13), eI D 6 cls2_18), ((ma 23), eI D 18 ltF)]) O rfl dX10_village_23 5 rfl (Nat.le_of_ble_eq_true rfl) rfl rfl ?_
    refine v_iload_n O dX10_village_26 1 rfl ?_
    refine v_if_ne O 38 dX10_village_27 (by decide) (fun z2 => ?_) (fun z2 => ?_)
    · skip
      have z2 := b2i_1.mp z2
      refine v_aload_n O dX10_village_38 0 rfl ?_
      refine v_aload_n O dX10_village_39 0 rfl ?_
      refine gf_X10_32 (v := .int (nI vc)) O rfl dX10_village_40 5 rfl rfl ?_
      refine pf_X10_35 (fs' := M1R ma (upd (mZ c c2 tk vc 0 rn (nI ((redP (sgT tb ln) v).1)) zs2_11_4 zs2_20_5 zs2_21_6 zs2_22_7 zs2_25_8 zs2_26_9 zs2_27_10 zs2_29_11) 8 (nI vc))) (ws' := [((ma 4), eI D 6 (nF c.kk)), ((ma 5), eI D 6 (nF c.vv)), ((ma 6), eI D 6 c.hd), ((ma 30), eI D 8 (nF c.crf)), ((ma 35), eI D 12 (nF c.bo)), (mo, .inr (10, M1R ma (upd (mZ c c2 tk vc 0 rn (nI ((redP (sgT tb ln) v).1)) zs2_11_4 zs2_20_5 zs2_21_6 zs2_22_7 zs2_25_8 zs2_26_9 zs2_27_10 zs2_29_11) 8 (nI vc)))), ((ma 12), eI D 100 tb), ((ma 14), eI D 60 wd2_12), ((ma 15), eI D 60 nu2_13), ((ma 16), eI D 60 fr2_14), ((ma 17), eI D 60 tt2_15), ((ma 18), eI D 600 sf2_16), ((ma 19), eI D 101 wf2_17), ((ma 13), eI D 6 cls2_18), ((ma 23), eI D 18 ltF)]) O rfl dX10_village_43 5 rfl (Nat.le_of_ble_eq_true rfl) rfl rfl ?_
      refine v_aload_n O dX10_village_46 0 rfl ?_
      refine v_dup O dX10_village_47 rfl ?_
      refine gf_X10_32 (v := .int (nI vc)) O rfl dX10_village_48 5 rfl rfl ?_
      refine v_iconst (v := 1) O dX10_village_51 (by decide) ?_
      refine v_iadd O dX10_village_52 ?_
      refine v_top (y := nI (vc + 1)) (nI_add vc 1) ?_
      refine pf_X10_32 (fs' := M1R ma (upd (mZ c c2 tk (vc + 1) 0 rn (nI ((redP (sgT tb ln) v).1)) zs2_11_4 zs2_20_5 zs2_21_6 zs2_22_7 zs2_25_8 zs2_26_9 zs2_27_10 zs2_29_11) 8 (nI vc))) (ws' := [((ma 4), eI D 6 (nF c.kk)), ((ma 5), eI D 6 (nF c.vv)), ((ma 6), eI D 6 c.hd), ((ma 30), eI D 8 (nF c.crf)), ((ma 35), eI D 12 (nF c.bo)), (mo, .inr (10, M1R ma (upd (mZ c c2 tk (vc + 1) 0 rn (nI ((redP (sgT tb ln) v).1)) zs2_11_4 zs2_20_5 zs2_21_6 zs2_22_7 zs2_25_8 zs2_26_9 zs2_27_10 zs2_29_11) 8 (nI vc)))), ((ma 12), eI D 100 tb), ((ma 14), eI D 60 wd2_12), ((ma 15), eI D 60 nu2_13), ((ma 16), eI D 60 fr2_14), ((ma 17), eI D 60 tt2_15), ((ma 18), eI D 600 sf2_16), ((ma 19), eI D 101 wf2_17), ((ma 13), eI D 6 cls2_18), ((ma 23), eI D 18 ltF)]) O rfl dX10_village_53 5 rfl (Nat.le_of_ble_eq_true rfl) rfl rfl ?_
      refine v_aload_n O dX10_village_56 0 rfl ?_
      refine gf_X10_35 (v := .int (nI vc)) O rfl dX10_village_57 5 rfl rfl ?_
      refine v_sub (ws' := [(mo, .inr (10, M1R ma (upd (mZ c c2 tk (vc + 1) 0 rn (nI ((redP (sgT tb ln) v).1)) zs2_11_4 zs2_20_5 zs2_21_6 zs2_22_7 zs2_25_8 zs2_26_9 zs2_27_10 zs2_29_11) 8 (nI vc)))), ((ma 4), eI D 6 (nF c.kk)), ((ma 5), eI D 6 (nF c.vv)), ((ma 6), eI D 6 c.hd), ((ma 30), eI D 8 (nF c.crf)), ((ma 35), eI D 12 (nF c.bo)), ((ma 12), eI D 100 tb), ((ma 14), eI D 60 wd2_12), ((ma 15), eI D 60 nu2_13), ((ma 16), eI D 60 fr2_14), ((ma 17), eI D 60 tt2_15), ((ma 18), eI D 600 sf2_16), ((ma 19), eI D 101 wf2_17), ((ma 13), eI D 6 cls2_18), ((ma 23), eI D 18 ltF)]) [5, 0, 1, 2, 3, 4, 6, 7, 8, 9, 10, 11, 12, 13, 14] (by decide) rfl ?_
      exact v_ireturn O T rfl rfl (by decide) (by decide) dX10_village_60 (⟨nI ((redP (sgT tb ln) v).1), zs2_11_4, zs2_20_5, zs2_21_6, zs2_22_7, zs2_25_8, zs2_26_9, zs2_27_10, zs2_29_11, _, _, _, _, _, _, _, rfl, rfl, h_go, h_gf, h_gc, h_gk hg⟩)
    · skip
      have z2 := b2i_0.mp z2
      exact absurd hg z2
  · skip
    have z1 := (c_eq (x := nI vc) (y := 6) (a := vc) (b := 6) rfl rfl (by omega) (by omega)).mp z1
    exact absurd z1 (by omega)
