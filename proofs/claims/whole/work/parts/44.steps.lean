-- each branch of each call: both sides answer alike
def HZ (xa : Nat → Nat) (vt : Nat → Option Nat) (c : CS) (vc : Nat) (vs : Nat → VS) (hz : Nat) : Prop := hz < 7 ∧ vAsk (vs hz) ∧ ((c.held = -1 ∧ xa (16 + 5 * hz) = xa 46) ∨ (∃ zh : Nat, zh < 6 ∧ c.held = nI zh ∧ vt zh = some (xa (16 + 5 * hz)))) ∧
    ∀ (wd : Nat → Int32) (nu : Nat → Int32) (fr : Nat → Int32) (tt9 : Nat → Int32) (sf : Nat → Int32) (cls : Nat → Int32), RV vc vs wd nu fr tt9 sf cls → ∃ bg bn : Nat, hB c.held cls bg bn ∧ MR wd nu fr tt9 sf bg bn (vs hz)
set_option maxRecDepth 100000 in
set_option maxHeartbeats 4000000 in
theorem st_man_4 {D : G} {xa : Nat → Nat} {vt tt : Nat → Option Nat} {c : CS} {c2 : CS} {tk : Int32} {ln : Nat} {tb : Nat → Int32} {vc : Nat} {vs : Nat → VS} {ts : Nat → Int32} {tl : Nat → Nat} {ti : Nat → Nat → Int64} {rn : Nat} {f : Nat → Int32} {mo : Nat} {ma : Nat → Nat} {bx bm : Nat → va_W} {k : Nat} {v : Nat} (hvt : ∀ k, k < 6 → vt k = some (xa (16 + 5 * k))) (htt : ∀ k, k < 6 → tt k = some (xa (82 + 2 * k))) (hA : AOk c c2 tk ln tb vc vs ts tl rn) (hX : IX D xa vt tt c c2 tk ln tb vc vs ts tl ti rn f bx) (hM9 : IM D mo ma c c2 tk ln tb vc vs ts tl ti rn f bm) (hk : k < 7) (hv : v < 10) (hm : c.men < 6) : StQ D xa vt tt mo ma mX9_man mX10_man [.int (nI k), .int (nI v)] bx bm := by
  refine ⟨.int (nI c.men), (cMan c k v), c2, tk, ln, tb, vc, vs, ts, tl, ti, rn, f, ok_man hk hv hm hA, ?_, ?_⟩
  · skip
    refine Sp.fL (l := [(0, O9 xa tk vc), (1, C9 D xa 1 c)]) (B := BX D xa vt tt c c2 tk ln tb vc vs ts tl ti rn f) (sp_X9_man_4 (D := D) (o := xa 0) (ca := xa 1) (im := xa 7) (tk := tk) (txo := xa 13) (ba := xa 46) (va := xa 15) (vc := vc) (nwk := xa 51) (nt := xa 58) (ro := xa 67) (lo := xa 77) (bd := xa 79) (ta := xa 81) (ck := xa 2) (cv := xa 3) (chd := xa 4) (cr := xa 5) (cb := xa 6) (c := c) (k := k) (v := v) hA.1 hk hv hm) ⟨x_0 hX, x_1 hX, trivial⟩ (by decide) (by decide) hX ?_
    rintro r w1 ⟨hr, hw⟩
    exact ⟨hr, [(0, O9 xa tk vc), (1, C9 D xa 1 (cMan c k v))], rfl, hw, _, ⟨k_0, k_1, trivial⟩, fun i w hi h => BX_c (fun z => hi (by rw [z]; simp [kyL])) h, fun _ h => h⟩
  · obtain ⟨wd, nu, fr, tt9, sf, cls, hR, hM⟩ := hM9
    obtain ⟨zs_10, zs_11, zs_20, zs_21, zs_22, zs_25, zs_26, zs_27, zs_29, e0⟩ := m_0 hM
    refine Sp.fL (l := [(0, [(mo, .inr (10, M1R ma (mZ c c2 tk vc ln rn zs_10 zs_11 zs_20 zs_21 zs_22 zs_25 zs_26 zs_27 zs_29)))]), (4, [((ma 4), eI D 6 (nF c.kk))]), (5, [((ma 5), eI D 6 (nF c.vv))]), (6, [((ma 6), eI D 6 c.hd)]), (30, [((ma 30), eI D 8 (nF c.crf))]), (35, [((ma 35), eI D 12 (nF c.bo))])]) (B := BM D mo ma c c2 tk ln tb vc ts tl ti rn f wd nu fr tt9 sf cls) (sp_X10_man_4 (D := D) (mo := mo) (ma := ma) (c := c) (c2 := c2) (tk := tk) (vc := vc) (ln := ln) (rn := rn) (zs_10 := zs_10) (zs_11 := zs_11) (zs_20 := zs_20) (zs_21 := zs_21) (zs_22 := zs_22) (zs_25 := zs_25) (zs_26 := zs_26) (zs_27 := zs_27) (zs_29 := zs_29) (k := k) (v := v) hA.1 hk hv hm) ⟨e0, m_4 hM, m_5 hM, m_6 hM, m_30 hM, m_35 hM, trivial⟩ (by decide) (by decide) hM ?_
    rintro r w1 ⟨zs2_10, zs2_11, zs2_20, zs2_21, zs2_22, zs2_25, zs2_26, zs2_27, zs2_29, hr, hw⟩
    refine ⟨hr, [(0, [(mo, .inr (10, M1R ma (mZ (cMan c k v) c2 tk vc ln rn zs2_10 zs2_11 zs2_20 zs2_21 zs2_22 zs2_25 zs2_26 zs2_27 zs2_29)))]), (4, [((ma 4), eI D 6 (nF (cMan c k v).kk))]), (5, [((ma 5), eI D 6 (nF (cMan c k v).vv))]), (6, [((ma 6), eI D 6 (cMan c k v).hd)]), (30, [((ma 30), eI D 8 (nF (cMan c k v).crf))]), (35, [((ma 35), eI D 12 (nF (cMan c k v).bo))])], rfl, hw, BM D mo ma (cMan c k v) c2 tk ln tb vc ts tl ti rn f wd nu fr tt9 sf cls, ⟨j_0, j_4, j_5, j_6, j_30, j_35, trivial⟩, ?_, fun _ h => ⟨_, _, _, _, _, _, hR, h⟩⟩
    exact fun i w hi h => by
      have h0 : ¬ i = 0 := fun z => hi (by rw [z]; decide)
      have h4 : ¬ i = 4 := fun z => hi (by rw [z]; decide)
      have h5 : ¬ i = 5 := fun z => hi (by rw [z]; decide)
      have h6 : ¬ i = 6 := fun z => hi (by rw [z]; decide)
      have h30 : ¬ i = 30 := fun z => hi (by rw [z]; decide)
      have h35 : ¬ i = 35 := fun z => hi (by rw [z]; decide)
      unfold BM at h ⊢
      simp only [if_neg h0, if_neg h4, if_neg h5, if_neg h6, if_neg h30, if_neg h35] at h ⊢
      exact h
set_option maxRecDepth 100000 in
set_option maxHeartbeats 4000000 in
theorem st_of_6 {D : G} {xa : Nat → Nat} {vt tt : Nat → Option Nat} {c : CS} {c2 : CS} {tk : Int32} {ln : Nat} {tb : Nat → Int32} {vc : Nat} {vs : Nat → VS} {ts : Nat → Int32} {tl : Nat → Nat} {ti : Nat → Nat → Int64} {rn : Nat} {f : Nat → Int32} {mo : Nat} {ma : Nat → Nat} {bx bm : Nat → va_W} {i : Nat} {hz : Nat} (hvt : ∀ k, k < 6 → vt k = some (xa (16 + 5 * k))) (htt : ∀ k, k < 6 → tt k = some (xa (82 + 2 * k))) (hA : AOk c c2 tk ln tb vc vs ts tl rn) (hX : IX D xa vt tt c c2 tk ln tb vc vs ts tl ti rn f bx) (hM9 : IM D mo ma c c2 tk ln tb vc vs ts tl ti rn f bm) (hZ : HZ xa vt c vc vs hz) (hi : i < c.men) : StQ D xa vt tt mo ma mX9_of mX10_of [.int (nI i), .int 3] bx bm := by
  refine ⟨.int (nI (ppA c (vs hz) i)), c, c2, tk, ln, tb, vc, vs, ts, tl, ti, rn, f, hA, ?_, ?_⟩
  · skip
    obtain ⟨gz9, lf9, dg9, hd9, f19, f29, f39, ff9, ot9, bt9, e12⟩ := x_12 hX
    refine Sp.fL (l := [(0, O9 xa tk vc), (1, C9 D xa 1 c), (4, [(xa 15, eV D 6 vt)]), (5 + hz, VB D xa hz (vs hz)), (12, W9 D xa 51 gz9 lf9 dg9 hd9 f19 f29 f39 ff9 ot9 bt9)]) (B := BX D xa vt tt c c2 tk ln tb vc vs ts tl ti rn f) (sp_X9_of_6 (D := D) (o := xa 0) (ca := xa 1) (im := xa 7) (tk := tk) (txo := xa 13) (ba := xa 46) (va := xa 15) (vc := vc) (nt := xa 58) (ro := xa 67) (lo := xa 77) (bd := xa 79) (ta := xa 81) (ck := xa 2) (cv := xa 3) (chd := xa 4) (cr := xa 5) (cb := xa 6) (c := c) (vt := vt) (vg := xa (16 + 5 * hz)) (io := xa (17 + 5 * hz)) (am := xa (18 + 5 * hz)) (en := xa (19 + 5 * hz)) (sp := xa (20 + 5 * hz)) (v := vs hz) (wk := xa 51) (kn := xa 52) (vl := xa 53) (pt := xa 54) (fc := xa 55) (ovr := xa 56) (bkr := xa 57) (gz := gz9) (lf := lf9) (dg := dg9) (hd := hd9) (f1 := f19) (f2 := f29) (f3 := f39) (ff := ff9) (ot := ot9) (bt := bt9) (i := i) hA.1 hZ.2.1 hZ.2.2.1 hi) ⟨x_0 hX, x_1 hX, x_4 hX, x_V hX hZ.1, e12, trivial⟩ (by simp [kyL] <;> omega) (fun x z => by simp only [kyL, List.map_cons, List.map_nil, List.mem_cons, List.not_mem_nil, or_false] at z; omega) hX ?_
    rintro r w1 ⟨gz1, l2, g2, d2, f11, f21, f31, ff1, ot1, bt1, hr, hw⟩
    exact ⟨hr, [(0, O9 xa tk vc), (1, C9 D xa 1 c), (4, [(xa 15, eV D 6 vt)]), (5 + hz, VB D xa hz (vs hz)), (12, W9 D xa 51 gz1 l2 g2 d2 f11 f21 f31 ff1 ot1 bt1)], rfl, hw, _, ⟨k_0, k_1, k_4, k_V hZ.1, k_12, trivial⟩, fun _ _ _ h => h, fun _ h => h⟩
  · obtain ⟨wd, nu, fr, tt9, sf, cls, hR, hM⟩ := hM9
    obtain ⟨bg, bn, hB9, hMR⟩ := hZ.2.2.2 wd nu fr tt9 sf cls hR
    obtain ⟨zs_10, zs_11, zs_20, zs_21, zs_22, zs_25, zs_26, zs_27, zs_29, e0⟩ := m_0 hM
    obtain ⟨y24, e24⟩ := m_24 hM
    refine Sp.fL (l := [(0, [(mo, .inr (10, M1R ma (mZ c c2 tk vc ln rn zs_10 zs_11 zs_20 zs_21 zs_22 zs_25 zs_26 zs_27 zs_29)))]), (4, [((ma 4), eI D 6 (nF c.kk))]), (5, [((ma 5), eI D 6 (nF c.vv))]), (6, [((ma 6), eI D 6 c.hd)]), (30, [((ma 30), eI D 8 (nF c.crf))]), (35, [((ma 35), eI D 12 (nF c.bo))]), (13, [((ma 13), eI D 6 cls)]), (14, [((ma 14), eI D 60 wd)]), (15, [((ma 15), eI D 60 nu)]), (16, [((ma 16), eI D 60 fr)]), (17, [((ma 17), eI D 60 tt9)]), (18, [((ma 18), eI D 600 sf)]), (24, [((ma 24), eZ D 100 y24)])]) (B := BM D mo ma c c2 tk ln tb vc ts tl ti rn f wd nu fr tt9 sf cls) (sp_X10_of_6 (D := D) (mo := mo) (ma := ma) (c := c) (c2 := c2) (tk := tk) (vc := vc) (ln := ln) (rn := rn) (zs_10 := zs_10) (zs_11 := zs_11) (zs_20 := zs_20) (zs_21 := zs_21) (zs_22 := zs_22) (zs_25 := zs_25) (zs_26 := zs_26) (zs_27 := zs_27) (zs_29 := zs_29) (i := i) (wd := wd) (nu := nu) (fr := fr) (tt9 := tt9) (sf := sf) (cls := cls) (pf := y24) (bg := bg) (bn := bn) (v := vs hz) hA.1 hB9 hMR hZ.2.1 hi) ⟨e0, m_4 hM, m_5 hM, m_6 hM, m_30 hM, m_35 hM, m_13 hM, m_14 hM, m_15 hM, m_16 hM, m_17 hM, m_18 hM, e24, trivial⟩ (by decide) (by decide) hM ?_
    rintro r w1 ⟨zs2_10, zs2_11, zs2_20, zs2_21, zs2_22, zs2_25, zs2_26, zs2_27, zs2_29, pf2, hr, hw⟩
    refine ⟨hr, [(0, [(mo, .inr (10, M1R ma (mZ c c2 tk vc ln rn zs2_10 zs2_11 zs2_20 zs2_21 zs2_22 zs2_25 zs2_26 zs2_27 zs2_29)))]), (4, [((ma 4), eI D 6 (nF c.kk))]), (5, [((ma 5), eI D 6 (nF c.vv))]), (6, [((ma 6), eI D 6 c.hd)]), (30, [((ma 30), eI D 8 (nF c.crf))]), (35, [((ma 35), eI D 12 (nF c.bo))]), (13, [((ma 13), eI D 6 cls)]), (14, [((ma 14), eI D 60 wd)]), (15, [((ma 15), eI D 60 nu)]), (16, [((ma 16), eI D 60 fr)]), (17, [((ma 17), eI D 60 tt9)]), (18, [((ma 18), eI D 600 sf)]), (24, [((ma 24), eZ D 100 pf2)])], rfl, hw, BM D mo ma c c2 tk ln tb vc ts tl ti rn f wd nu fr tt9 sf cls, ⟨j_0, j_4, j_5, j_6, j_30, j_35, j_13, j_14, j_15, j_16, j_17, j_18, j_24, trivial⟩, fun _ _ _ h => h, fun _ h => ⟨_, _, _, _, _, _, hR, h⟩⟩
set_option maxRecDepth 100000 in
set_option maxHeartbeats 4000000 in
theorem st_village_3 {D : G} {xa : Nat → Nat} {vt tt : Nat → Option Nat} {c : CS} {c2 : CS} {tk : Int32} {ln : Nat} {tb : Nat → Int32} {vc : Nat} {vs : Nat → VS} {ts : Nat → Int32} {tl : Nat → Nat} {ti : Nat → Nat → Int64} {rn : Nat} {f : Nat → Int32} {mo : Nat} {ma : Nat → Nat} {bx bm : Nat → va_W}  (hvt : ∀ k, k < 6 → vt k = some (xa (16 + 5 * k))) (htt : ∀ k, k < 6 → tt k = some (xa (82 + 2 * k))) (hA : AOk c c2 tk ln tb vc vs ts tl rn) (hX : IX D xa vt tt c c2 tk ln tb vc vs ts tl ti rn f bx) (hM9 : IM D mo ma c c2 tk ln tb vc vs ts tl ti rn f bm) (hf : vc < 6) (hg : ((redP (sgT tb ln) (vs vc)).2.1 = true ∧ sgT tb ln (redP (sgT tb ln) (vs vc)).1 = -1)) : StQ D xa vt tt mo ma mX9_village mX10_village [] bx bm := by
  have hln := hA.2.2.2.2.2.1.1
  have hvk : vAsk (redP (sgT tb ln) (vs vc)).2.2 := ⟨(red_ok hln).2.2.1, (red_ok hln).2.2.2⟩
  refine ⟨.int (nI vc), (cHeld c vc), c2, tk, 0, tb, (vc + 1), (uV vs vc ((redP (sgT tb ln) (vs vc)).2.2)), ts, tl, ti, rn, f, ok_v3 hf hvk hA, ?_, ?_⟩
  · skip
    obtain ⟨pl9, si9, e3⟩ := x_3 hX
    refine Sp.fL (l := [(0, O9 xa tk vc), (1, C9 D xa 1 c), (3, T9 D xa ln tb pl9 si9), (4, [(xa 15, eV D 6 vt)]), (5 + vc, VB D xa vc (vs vc))]) (B := BX D xa vt tt c c2 tk ln tb vc vs ts tl ti rn f) (sp_X9_village_3 (D := D) (o := xa 0) (ca := xa 1) (im := xa 7) (tk := tk) (txo := xa 13) (ba := xa 46) (va := xa 15) (vc := vc) (nwk := xa 51) (nt := xa 58) (ro := xa 67) (lo := xa 77) (bd := xa 79) (ta := xa 81) (ck := xa 2) (cv := xa 3) (chd := xa 4) (cr := xa 5) (cb := xa 6) (c := c) (tsg := xa 14) (ln := ln) (tb := tb) (pl := pl9) (si := si9) (vt := vt) (vg := xa (16 + 5 * vc)) (io := xa (17 + 5 * vc)) (am := xa (18 + 5 * vc)) (en := xa (19 + 5 * vc)) (sp := xa (20 + 5 * vc)) (v := vs vc) hA.1 hf (hvt vc hf) hln hg) ⟨x_0 hX, x_1 hX, e3, x_4 hX, x_V hX (by omega), trivial⟩ (by simp [kyL] <;> omega) (fun x z => by simp only [kyL, List.map_cons, List.map_nil, List.mem_cons, List.not_mem_nil, or_false] at z; omega) hX ?_
    rintro r w1 ⟨pl1, si1, hr, hw⟩
    exact ⟨hr, [(0, O9 xa tk (vc + 1)), (1, C9 D xa 1 (cHeld c vc)), (3, T9 D xa 0 tb pl1 si1), (4, [(xa 15, eV D 6 vt)]), (5 + vc, VB D xa vc ((redP (sgT tb ln) (vs vc)).2.2))], rfl, hw, _, ⟨k_0, k_1, k_3, k_4, kV_u (by omega), trivial⟩, fun i w hi h => BX_vc (fun z => hi (by rw [z]; simp [kyL])) (BX_tx (fun z => hi (by rw [z]; simp [kyL])) (BX_c (fun z => hi (by rw [z]; simp [kyL])) (BX_vs (fun z => hi (by rw [z]; simp [kyL])) h))), fun _ h => h⟩
  · obtain ⟨wd, nu, fr, tt9, sf, cls, hR, hM⟩ := hM9
    obtain ⟨zs_10, zs_11, zs_20, zs_21, zs_22, zs_25, zs_26, zs_27, zs_29, e0⟩ := m_0 hM
    obtain ⟨y19, e19⟩ := m_19 hM
    refine Sp.fL (l := [(0, [(mo, .inr (10, M1R ma (mZ c c2 tk vc ln rn zs_10 zs_11 zs_20 zs_21 zs_22 zs_25 zs_26 zs_27 zs_29)))]), (4, [((ma 4), eI D 6 (nF c.kk))]), (5, [((ma 5), eI D 6 (nF c.vv))]), (6, [((ma 6), eI D 6 c.hd)]), (30, [((ma 30), eI D 8 (nF c.crf))]), (35, [((ma 35), eI D 12 (nF c.bo))]), (12, [((ma 12), eI D 100 tb)]), (14, [((ma 14), eI D 60 wd)]), (15, [((ma 15), eI D 60 nu)]), (16, [((ma 16), eI D 60 fr)]), (17, [((ma 17), eI D 60 tt9)]), (18, [((ma 18), eI D 600 sf)]), (19, [((ma 19), eI D 101 y19)]), (13, [((ma 13), eI D 6 cls)]), (23, [((ma 23), eI D 18 ltF)])]) (B := BM D mo ma c c2 tk ln tb vc ts tl ti rn f wd nu fr tt9 sf cls) (sp_X10_village_3 (D := D) (mo := mo) (ma := ma) (c := c) (c2 := c2) (tk := tk) (vc := vc) (ln := ln) (rn := rn) (zs_10 := zs_10) (zs_11 := zs_11) (zs_20 := zs_20) (zs_21 := zs_21) (zs_22 := zs_22) (zs_25 := zs_25) (zs_26 := zs_26) (zs_27 := zs_27) (zs_29 := zs_29) (tb := tb) (wd := wd) (nu := nu) (fr := fr) (tt9 := tt9) (sf := sf) (wf := y19) (cls := cls) (v := vs vc) hA.1 hf hln hg hA.2.2.2.2.2.1.2) ⟨e0, m_4 hM, m_5 hM, m_6 hM, m_30 hM, m_35 hM, m_12 hM, m_14 hM, m_15 hM, m_16 hM, m_17 hM, m_18 hM, e19, m_13 hM, m_23 hM, trivial⟩ (by decide) (by decide) hM ?_
    rintro r w1 ⟨zs2_10, zs2_11, zs2_20, zs2_21, zs2_22, zs2_25, zs2_26, zs2_27, zs2_29, wd2, nu2, fr2, tt2, sf2, wf2, cls2, hr, hw, p1, p2, p3, p4⟩
    refine ⟨hr, [(0, [(mo, .inr (10, M1R ma (mZ (cHeld c vc) c2 tk (vc + 1) 0 rn zs2_10 zs2_11 zs2_20 zs2_21 zs2_22 zs2_25 zs2_26 zs2_27 zs2_29)))]), (4, [((ma 4), eI D 6 (nF (cHeld c vc).kk))]), (5, [((ma 5), eI D 6 (nF (cHeld c vc).vv))]), (6, [((ma 6), eI D 6 (cHeld c vc).hd)]), (30, [((ma 30), eI D 8 (nF (cHeld c vc).crf))]), (35, [((ma 35), eI D 12 (nF (cHeld c vc).bo))]), (12, [((ma 12), eI D 100 tb)]), (14, [((ma 14), eI D 60 wd2)]), (15, [((ma 15), eI D 60 nu2)]), (16, [((ma 16), eI D 60 fr2)]), (17, [((ma 17), eI D 60 tt2)]), (18, [((ma 18), eI D 600 sf2)]), (19, [((ma 19), eI D 101 wf2)]), (13, [((ma 13), eI D 6 cls2)]), (23, [((ma 23), eI D 18 ltF)])], rfl, hw, BM D mo ma (cHeld c vc) c2 tk 0 tb (vc + 1) ts tl ti rn f wd2 nu2 fr2 tt2 sf2 cls2, ⟨j_0, j_4, j_5, j_6, j_30, j_35, j_12, j_14, j_15, j_16, j_17, j_18, j_19, j_13, j_23, trivial⟩, ?_, fun _ h => ⟨_, _, _, _, _, _, RV_3 hR p1 p2 p3 p4, h⟩⟩
    exact fun i w hi h => by
      have h0 : ¬ i = 0 := fun z => hi (by rw [z]; decide)
      have h4 : ¬ i = 4 := fun z => hi (by rw [z]; decide)
      have h5 : ¬ i = 5 := fun z => hi (by rw [z]; decide)
      have h6 : ¬ i = 6 := fun z => hi (by rw [z]; decide)
      have h30 : ¬ i = 30 := fun z => hi (by rw [z]; decide)
      have h35 : ¬ i = 35 := fun z => hi (by rw [z]; decide)
      have h12 : ¬ i = 12 := fun z => hi (by rw [z]; decide)
      have h14 : ¬ i = 14 := fun z => hi (by rw [z]; decide)
      have h15 : ¬ i = 15 := fun z => hi (by rw [z]; decide)
      have h16 : ¬ i = 16 := fun z => hi (by rw [z]; decide)
      have h17 : ¬ i = 17 := fun z => hi (by rw [z]; decide)
      have h18 : ¬ i = 18 := fun z => hi (by rw [z]; decide)
      have h19 : ¬ i = 19 := fun z => hi (by rw [z]; decide)
      have h13 : ¬ i = 13 := fun z => hi (by rw [z]; decide)
      have h23 : ¬ i = 23 := fun z => hi (by rw [z]; decide)
      unfold BM at h ⊢
      simp only [if_neg h0, if_neg h4, if_neg h5, if_neg h6, if_neg h30, if_neg h35, if_neg h12, if_neg h14, if_neg h15, if_neg h16, if_neg h17, if_neg h18, if_neg h19, if_neg h13, if_neg h23] at h ⊢
      exact h
set_option maxRecDepth 100000 in
set_option maxHeartbeats 4000000 in
theorem st_night_2 {D : G} {xa : Nat → Nat} {vt tt : Nat → Option Nat} {c : CS} {c2 : CS} {tk : Int32} {ln : Nat} {tb : Nat → Int32} {vc : Nat} {vs : Nat → VS} {ts : Nat → Int32} {tl : Nat → Nat} {ti : Nat → Nat → Int64} {rn : Nat} {f : Nat → Int32} {mo : Nat} {ma : Nat → Nat} {bx bm : Nat → va_W} {h : Nat} {hz : Nat} (hvt : ∀ k, k < 6 → vt k = some (xa (16 + 5 * k))) (htt : ∀ k, k < 6 → tt k = some (xa (82 + 2 * k))) (hA : AOk c c2 tk ln tb vc vs ts tl rn) (hX : IX D xa vt tt c c2 tk ln tb vc vs ts tl ti rn f bx) (hM9 : IM D mo ma c c2 tk ln tb vc vs ts tl ti rn f bm) (hZ : HZ xa vt c vc vs hz) (hh : h < 1000000) : StQ D xa vt tt mo ma mX9_night mX10_night [.int (nI h)] bx bm := by
  refine ⟨.int (b2i (ngtA c (vs hz) h)), c, c2, tk, ln, tb, vc, vs, ts, tl, ti, rn, f, hA, ?_, ?_⟩
  · skip
    obtain ⟨n09, s09, m09, l09, g09, d09, rw9, gz9, lf9, dg9, hd9, f19, f29, f39, ff9, ot9, bt9, e13⟩ := x_13 hX
    refine Sp.fL (l := [(0, O9 xa tk vc), (1, C9 D xa 1 c), (4, [(xa 15, eV D 6 vt)]), (5 + hz, VB D xa hz (vs hz)), (13, N9 D xa n09 s09 m09 l09 g09 d09 rw9 ++ W9 D xa 60 gz9 lf9 dg9 hd9 f19 f29 f39 ff9 ot9 bt9)]) (B := BX D xa vt tt c c2 tk ln tb vc vs ts tl ti rn f) (sp_X9_night_2 (D := D) (o := xa 0) (ca := xa 1) (im := xa 7) (tk := tk) (txo := xa 13) (ba := xa 46) (va := xa 15) (vc := vc) (nwk := xa 51) (nt := xa 58) (ro := xa 67) (lo := xa 77) (bd := xa 79) (ta := xa 81) (ck := xa 2) (cv := xa 3) (chd := xa 4) (cr := xa 5) (cb := xa 6) (c := c) (vt := vt) (vg := xa (16 + 5 * hz)) (io := xa (17 + 5 * hz)) (am := xa (18 + 5 * hz)) (en := xa (19 + 5 * hz)) (sp := xa (20 + 5 * hz)) (v := vs hz) (nrw := xa 59) (n0 := n09) (s0 := s09) (m0 := m09) (l0 := l09) (g0 := g09) (d0 := d09) (rw := rw9) (wk := xa 60) (kn := xa 61) (vl := xa 62) (pt := xa 63) (fc := xa 64) (ovr := xa 65) (bkr := xa 66) (gz := gz9) (lf := lf9) (dg := dg9) (hd := hd9) (f1 := f19) (f2 := f29) (f3 := f39) (ff := ff9) (ot := ot9) (bt := bt9) (h := h) hA.1 hZ.2.1 hZ.2.2.1 hh) ⟨x_0 hX, x_1 hX, x_4 hX, x_V hX hZ.1, e13, trivial⟩ (by simp [kyL] <;> omega) (fun x z => by simp only [kyL, List.map_cons, List.map_nil, List.mem_cons, List.not_mem_nil, or_false] at z; omega) hX ?_
    rintro r w1 ⟨n1, s1, m1, l1, g1, d1, rw1, gz1, l2, g2, d2, f11, f21, f31, ff1, ot1, bt1, hr, hw⟩
    exact ⟨hr, [(0, O9 xa tk vc), (1, C9 D xa 1 c), (4, [(xa 15, eV D 6 vt)]), (5 + hz, VB D xa hz (vs hz)), (13, N9 D xa n1 s1 m1 l1 g1 d1 rw1 ++ W9 D xa 60 gz1 l2 g2 d2 f11 f21 f31 ff1 ot1 bt1)], rfl, hw, _, ⟨k_0, k_1, k_4, k_V hZ.1, k_13, trivial⟩, fun _ _ _ h => h, fun _ h => h⟩
  · obtain ⟨wd, nu, fr, tt9, sf, cls, hR, hM⟩ := hM9
    obtain ⟨bg, bn, hB9, hMR⟩ := hZ.2.2.2 wd nu fr tt9 sf cls hR
    obtain ⟨zs_10, zs_11, zs_20, zs_21, zs_22, zs_25, zs_26, zs_27, zs_29, e0⟩ := m_0 hM
    obtain ⟨y24, e24⟩ := m_24 hM
    obtain ⟨y31, e31⟩ := m_31 hM
    refine Sp.fL (l := [(0, [(mo, .inr (10, M1R ma (mZ c c2 tk vc ln rn zs_10 zs_11 zs_20 zs_21 zs_22 zs_25 zs_26 zs_27 zs_29)))]), (4, [((ma 4), eI D 6 (nF c.kk))]), (5, [((ma 5), eI D 6 (nF c.vv))]), (6, [((ma 6), eI D 6 c.hd)]), (30, [((ma 30), eI D 8 (nF c.crf))]), (35, [((ma 35), eI D 12 (nF c.bo))]), (13, [((ma 13), eI D 6 cls)]), (14, [((ma 14), eI D 60 wd)]), (15, [((ma 15), eI D 60 nu)]), (16, [((ma 16), eI D 60 fr)]), (17, [((ma 17), eI D 60 tt9)]), (18, [((ma 18), eI D 600 sf)]), (24, [((ma 24), eZ D 100 y24)]), (31, [((ma 31), eI D 6 y31)])]) (B := BM D mo ma c c2 tk ln tb vc ts tl ti rn f wd nu fr tt9 sf cls) (sp_X10_night_2 (D := D) (mo := mo) (ma := ma) (c := c) (c2 := c2) (tk := tk) (vc := vc) (ln := ln) (rn := rn) (zs_10 := zs_10) (zs_11 := zs_11) (zs_20 := zs_20) (zs_21 := zs_21) (zs_22 := zs_22) (zs_25 := zs_25) (zs_26 := zs_26) (zs_27 := zs_27) (zs_29 := zs_29) (h := h) (wd := wd) (nu := nu) (fr := fr) (tt9 := tt9) (sf := sf) (cls := cls) (pf := y24) (hb := y31) (bg := bg) (bn := bn) (v := vs hz) hA.1 hB9 hMR hZ.2.1 hh) ⟨e0, m_4 hM, m_5 hM, m_6 hM, m_30 hM, m_35 hM, m_13 hM, m_14 hM, m_15 hM, m_16 hM, m_17 hM, m_18 hM, e24, e31, trivial⟩ (by decide) (by decide) hM ?_
    rintro r w1 ⟨zs2_10, zs2_11, zs2_20, zs2_21, zs2_22, zs2_25, zs2_26, zs2_27, zs2_29, pf2, hb2, hr, hw⟩
    refine ⟨hr, [(0, [(mo, .inr (10, M1R ma (mZ c c2 tk vc ln rn zs2_10 zs2_11 zs2_20 zs2_21 zs2_22 zs2_25 zs2_26 zs2_27 zs2_29)))]), (4, [((ma 4), eI D 6 (nF c.kk))]), (5, [((ma 5), eI D 6 (nF c.vv))]), (6, [((ma 6), eI D 6 c.hd)]), (30, [((ma 30), eI D 8 (nF c.crf))]), (35, [((ma 35), eI D 12 (nF c.bo))]), (13, [((ma 13), eI D 6 cls)]), (14, [((ma 14), eI D 60 wd)]), (15, [((ma 15), eI D 60 nu)]), (16, [((ma 16), eI D 60 fr)]), (17, [((ma 17), eI D 60 tt9)]), (18, [((ma 18), eI D 600 sf)]), (24, [((ma 24), eZ D 100 pf2)]), (31, [((ma 31), eI D 6 hb2)])], rfl, hw, BM D mo ma c c2 tk ln tb vc ts tl ti rn f wd nu fr tt9 sf cls, ⟨j_0, j_4, j_5, j_6, j_30, j_35, j_13, j_14, j_15, j_16, j_17, j_18, j_24, j_31, trivial⟩, fun _ _ _ h => h, fun _ h => ⟨_, _, _, _, _, _, hR, h⟩⟩
set_option maxRecDepth 100000 in
set_option maxHeartbeats 4000000 in
theorem st_big_5 {D : G} {xa : Nat → Nat} {vt tt : Nat → Option Nat} {c : CS} {c2 : CS} {tk : Int32} {ln : Nat} {tb : Nat → Int32} {vc : Nat} {vs : Nat → VS} {ts : Nat → Int32} {tl : Nat → Nat} {ti : Nat → Nat → Int64} {rn : Nat} {f : Nat → Int32} {mo : Nat} {ma : Nat → Nat} {bx bm : Nat → va_W} {d : Nat} {m : Nat} {q : Nat} {zw : Nat} (hvt : ∀ k, k < 6 → vt k = some (xa (16 + 5 * k))) (htt : ∀ k, k < 6 → tt k = some (xa (82 + 2 * k))) (hA : AOk c c2 tk ln tb vc vs ts tl rn) (hX : IX D xa vt tt c c2 tk ln tb vc vs ts tl ti rn f bx) (hM9 : IM D mo ma c c2 tk ln tb vc vs ts tl ti rn f bm) (hw : zw < 40) (hd0 : 2 ≤ d) (hd : d ≤ 12) (hm0 : 1 ≤ m) (hm : m ≤ 30) (ho : q ≤ 9) : StQ D xa vt tt mo ma mX9_big mX10_big [.int (nI d), .int (nI m), .int (nI q), .int (nI zw)] bx bm := by
  refine ⟨.int (nI (bigN d m q / 10 ^ zw % 10)), c, c2, tk, ln, tb, vc, vs, ts, tl, ti, rn, f, hA, ?_, ?_⟩
  · skip
    obtain ⟨y9, e15⟩ := x_15 hX
    refine Sp.fL (l := [(0, O9 xa tk vc), (15, L9 D xa y9)]) (B := BX D xa vt tt c c2 tk ln tb vc vs ts tl ti rn f) (sp_X9_big_5 (D := D) (o := xa 0) (ca := xa 1) (im := xa 7) (tk := tk) (txo := xa 13) (ba := xa 46) (va := xa 15) (vc := vc) (nwk := xa 51) (nt := xa 58) (ro := xa 67) (lo := xa 77) (bd := xa 79) (ta := xa 81) (dg := xa 78) (f := y9) (d := d) (m := m) (q := q) (zw := zw) hw hd0 hd hm0 hm ho) ⟨x_0 hX, e15, trivial⟩ (by decide) (by decide) hX ?_
    rintro r w1 ⟨f1, hr, hw⟩
    exact ⟨hr, [(0, O9 xa tk vc), (15, L9 D xa f1)], rfl, hw, _, ⟨k_0, k_15, trivial⟩, fun _ _ _ h => h, fun _ h => h⟩
  · obtain ⟨wd, nu, fr, tt9, sf, cls, hR, hM⟩ := hM9
    obtain ⟨zs_10, zs_11, zs_20, zs_21, zs_22, zs_25, zs_26, zs_27, zs_29, e0⟩ := m_0 hM
    obtain ⟨y33, e33⟩ := m_33 hM
    refine Sp.fL (l := [(0, [(mo, .inr (10, M1R ma (mZ c c2 tk vc ln rn zs_10 zs_11 zs_20 zs_21 zs_22 zs_25 zs_26 zs_27 zs_29)))]), (33, [((ma 33), eI D 42 y33)])]) (B := BM D mo ma c c2 tk ln tb vc ts tl ti rn f wd nu fr tt9 sf cls) (sp_X10_big_5 (D := D) (mo := mo) (ma := ma) (c := c) (c2 := c2) (tk := tk) (vc := vc) (ln := ln) (rn := rn) (zs_10 := zs_10) (zs_11 := zs_11) (zs_20 := zs_20) (zs_21 := zs_21) (zs_22 := zs_22) (zs_25 := zs_25) (zs_26 := zs_26) (zs_27 := zs_27) (zs_29 := zs_29) (d := d) (m := m) (q := q) (zw := zw) (f := y33) hw hd0 hd hm0 hm ho) ⟨e0, e33, trivial⟩ (by decide) (by decide) hM ?_
    rintro r w1 ⟨zs2_10, zs2_11, zs2_20, zs2_21, zs2_22, zs2_25, zs2_26, zs2_27, zs2_29, f1, hr, hw⟩
    refine ⟨hr, [(0, [(mo, .inr (10, M1R ma (mZ c c2 tk vc ln rn zs2_10 zs2_11 zs2_20 zs2_21 zs2_22 zs2_25 zs2_26 zs2_27 zs2_29)))]), (33, [((ma 33), eI D 42 f1)])], rfl, hw, BM D mo ma c c2 tk ln tb vc ts tl ti rn f wd nu fr tt9 sf cls, ⟨j_0, j_33, trivial⟩, fun _ _ _ h => h, fun _ h => ⟨_, _, _, _, _, _, hR, h⟩⟩
set_option maxRecDepth 100000 in
set_option maxHeartbeats 4000000 in
theorem st_image_1 {D : G} {xa : Nat → Nat} {vt tt : Nat → Option Nat} {c : CS} {c2 : CS} {tk : Int32} {ln : Nat} {tb : Nat → Int32} {vc : Nat} {vs : Nat → VS} {ts : Nat → Int32} {tl : Nat → Nat} {ti : Nat → Nat → Int64} {rn : Nat} {f : Nat → Int32} {mo : Nat} {ma : Nat → Nat} {bx bm : Nat → va_W}  (hvt : ∀ k, k < 6 → vt k = some (xa (16 + 5 * k))) (htt : ∀ k, k < 6 → tt k = some (xa (82 + 2 * k))) (hA : AOk c c2 tk ln tb vc vs ts tl rn) (hX : IX D xa vt tt c c2 tk ln tb vc vs ts tl ti rn f bx) (hM9 : IM D mo ma c c2 tk ln tb vc vs ts tl ti rn f bm)  : StQ D xa vt tt mo ma mX9_image mX10_image [] bx bm := by
  refine ⟨.int (nI c.men), c, c, 1, ln, tb, vc, vs, ts, tl, ti, rn, f, ok_image hA, ?_, ?_⟩
  · skip
    refine Sp.fL (l := [(0, O9 xa tk vc), (1, C9 D xa 1 c), (2, C9 D xa 7 c2)]) (B := BX D xa vt tt c c2 tk ln tb vc vs ts tl ti rn f) (sp_X9_image_1 (D := D) (o := xa 0) (ca := xa 1) (im := xa 7) (tk := tk) (txo := xa 13) (ba := xa 46) (va := xa 15) (vc := vc) (nwk := xa 51) (nt := xa 58) (ro := xa 67) (lo := xa 77) (bd := xa 79) (ta := xa 81) (ck := xa 2) (cv := xa 3) (chd := xa 4) (cr := xa 5) (cb := xa 6) (c := c) (ik := xa 8) (iv := xa 9) (ih := xa 10) (ir := xa 11) (ib := xa 12) (c2 := c2) hA.1) ⟨x_0 hX, x_1 hX, x_2 hX, trivial⟩ (by decide) (by decide) hX ?_
    rintro r w1 ⟨hr, hw⟩
    exact ⟨hr, [(0, O9 xa 1 vc), (1, C9 D xa 1 c), (2, C9 D xa 7 c)], rfl, hw, _, ⟨k_0, k_1, k_2, trivial⟩, fun i w hi h => BX_i (fun z => hi (by rw [z]; simp [kyL])) (fun z => hi (by rw [z]; simp [kyL])) h, fun _ h => h⟩
  · obtain ⟨wd, nu, fr, tt9, sf, cls, hR, hM⟩ := hM9
    obtain ⟨zs_10, zs_11, zs_20, zs_21, zs_22, zs_25, zs_26, zs_27, zs_29, e0⟩ := m_0 hM
    refine Sp.fL (l := [(0, [(mo, .inr (10, M1R ma (mZ c c2 tk vc ln rn zs_10 zs_11 zs_20 zs_21 zs_22 zs_25 zs_26 zs_27 zs_29)))]), (4, [((ma 4), eI D 6 (nF c.kk))]), (5, [((ma 5), eI D 6 (nF c.vv))]), (6, [((ma 6), eI D 6 c.hd)]), (30, [((ma 30), eI D 8 (nF c.crf))]), (35, [((ma 35), eI D 12 (nF c.bo))]), (44, [((ma 44), eI D 6 (nF c2.kk))]), (45, [((ma 45), eI D 6 (nF c2.vv))]), (46, [((ma 46), eI D 6 c2.hd)]), (47, [((ma 47), eI D 8 (nF c2.crf))]), (48, [((ma 48), eI D 12 (nF c2.bo))])]) (B := BM D mo ma c c2 tk ln tb vc ts tl ti rn f wd nu fr tt9 sf cls) (sp_X10_image_1 (D := D) (mo := mo) (ma := ma) (c := c) (c2 := c2) (tk := tk) (vc := vc) (ln := ln) (rn := rn) (zs_10 := zs_10) (zs_11 := zs_11) (zs_20 := zs_20) (zs_21 := zs_21) (zs_22 := zs_22) (zs_25 := zs_25) (zs_26 := zs_26) (zs_27 := zs_27) (zs_29 := zs_29) hA.1) ⟨e0, m_4 hM, m_5 hM, m_6 hM, m_30 hM, m_35 hM, m_44 hM, m_45 hM, m_46 hM, m_47 hM, m_48 hM, trivial⟩ (by decide) (by decide) hM ?_
    rintro r w1 ⟨zs2_10, zs2_11, zs2_20, zs2_21, zs2_22, zs2_25, zs2_26, zs2_27, zs2_29, hr, hw⟩
    refine ⟨hr, [(0, [(mo, .inr (10, M1R ma (mZ c c 1 vc ln rn zs2_10 zs2_11 zs2_20 zs2_21 zs2_22 zs2_25 zs2_26 zs2_27 zs2_29)))]), (4, [((ma 4), eI D 6 (nF c.kk))]), (5, [((ma 5), eI D 6 (nF c.vv))]), (6, [((ma 6), eI D 6 c.hd)]), (30, [((ma 30), eI D 8 (nF c.crf))]), (35, [((ma 35), eI D 12 (nF c.bo))]), (44, [((ma 44), eI D 6 (nF c.kk))]), (45, [((ma 45), eI D 6 (nF c.vv))]), (46, [((ma 46), eI D 6 c.hd)]), (47, [((ma 47), eI D 8 (nF c.crf))]), (48, [((ma 48), eI D 12 (nF c.bo))])], rfl, hw, BM D mo ma c c 1 ln tb vc ts tl ti rn f wd nu fr tt9 sf cls, ⟨j_0, j_4, j_5, j_6, j_30, j_35, j_44, j_45, j_46, j_47, j_48, trivial⟩, ?_, fun _ h => ⟨_, _, _, _, _, _, hR, h⟩⟩
    exact fun i w hi h => by
      have h0 : ¬ i = 0 := fun z => hi (by rw [z]; decide)
      have h4 : ¬ i = 4 := fun z => hi (by rw [z]; decide)
      have h5 : ¬ i = 5 := fun z => hi (by rw [z]; decide)
      have h6 : ¬ i = 6 := fun z => hi (by rw [z]; decide)
      have h30 : ¬ i = 30 := fun z => hi (by rw [z]; decide)
      have h35 : ¬ i = 35 := fun z => hi (by rw [z]; decide)
      have h44 : ¬ i = 44 := fun z => hi (by rw [z]; decide)
      have h45 : ¬ i = 45 := fun z => hi (by rw [z]; decide)
      have h46 : ¬ i = 46 := fun z => hi (by rw [z]; decide)
      have h47 : ¬ i = 47 := fun z => hi (by rw [z]; decide)
      have h48 : ¬ i = 48 := fun z => hi (by rw [z]; decide)
      unfold BM at h ⊢
      simp only [if_neg h0, if_neg h4, if_neg h5, if_neg h6, if_neg h30, if_neg h35, if_neg h44, if_neg h45, if_neg h46, if_neg h47, if_neg h48] at h ⊢
      exact h
set_option maxRecDepth 100000 in
set_option maxHeartbeats 4000000 in
theorem st_act_5 {D : G} {xa : Nat → Nat} {vt tt : Nat → Option Nat} {c : CS} {c2 : CS} {tk : Int32} {ln : Nat} {tb : Nat → Int32} {vc : Nat} {vs : Nat → VS} {ts : Nat → Int32} {tl : Nat → Nat} {ti : Nat → Nat → Int64} {rn : Nat} {f : Nat → Int32} {mo : Nat} {ma : Nat → Nat} {bx bm : Nat → va_W} {i : Nat} {x : Int32} (hvt : ∀ k, k < 6 → vt k = some (xa (16 + 5 * k))) (htt : ∀ k, k < 6 → tt k = some (xa (82 + 2 * k))) (hA : AOk c c2 tk ln tb vc vs ts tl rn) (hX : IX D xa vt tt c c2 tk ln tb vc vs ts tl ti rn f bx) (hM9 : IM D mo ma c c2 tk ln tb vc vs ts tl ti rn f bm) (hi : i < c.men) : StQ D xa vt tt mo ma mX9_act mX10_act [.int (nI i), .int 2, .int x] bx bm := by
  refine ⟨.int (tV (nI i) (nI (c.vv i)) (c.kk i) x (c.kk i)), c, c2, tk, ln, tb, vc, vs, ts, tl, ti, ((tL (c.kk i) (c.kk i)).length), (trW f 0 (tL (c.kk i) (c.kk i))), ok_rn (by have z := hA.1.2.1 i (by have := hA.1.1; omega); have z2 := hL_len _ z _ z; have z4 : (tL (c.kk i)).length = (hL (c.kk i) (c.kk i)).length + 1 := rfl; omega) hA, ?_, ?_⟩
  · skip
    obtain ⟨y1, y2, y3, e16⟩ := x_16 hX
    refine Sp.fL (l := [(0, O9 xa tk vc), (1, C9 D xa 1 c), (16, B9 D xa rn f y1 y2 y3)]) (B := BX D xa vt tt c c2 tk ln tb vc vs ts tl ti rn f) (sp_X9_act_5 (D := D) (o := xa 0) (ca := xa 1) (im := xa 7) (tk := tk) (txo := xa 13) (ba := xa 46) (va := xa 15) (vc := vc) (nwk := xa 51) (nt := xa 58) (ro := xa 67) (lo := xa 77) (bd := xa 79) (ta := xa 81) (ck := xa 2) (cv := xa 3) (chd := xa 4) (cr := xa 5) (cb := xa 6) (c := c) (tr := xa 80) (rn := rn) (bi := y1) (bk9 := y2) (bv := y3) (f := f) (i := i) (x := x) hA.1 hi) ⟨x_0 hX, x_1 hX, e16, trivial⟩ (by decide) (by decide) hX ?_
    rintro r w1 ⟨bi1, bk1, bv1, hr, hw⟩
    exact ⟨hr, [(0, O9 xa tk vc), (1, C9 D xa 1 c), (16, B9 D xa ((tL (c.kk i) (c.kk i)).length) (trW f 0 (tL (c.kk i) (c.kk i))) bi1 bk1 bv1)], rfl, hw, _, ⟨k_0, k_1, k_16, trivial⟩, fun i w hi h => BX_bd (fun z => hi (by rw [z]; simp [kyL])) h, fun _ h => h⟩
  · obtain ⟨wd, nu, fr, tt9, sf, cls, hR, hM⟩ := hM9
    obtain ⟨zs_10, zs_11, zs_20, zs_21, zs_22, zs_25, zs_26, zs_27, zs_29, e0⟩ := m_0 hM
    refine Sp.fL (l := [(0, [(mo, .inr (10, M1R ma (mZ c c2 tk vc ln rn zs_10 zs_11 zs_20 zs_21 zs_22 zs_25 zs_26 zs_27 zs_29)))]), (4, [((ma 4), eI D 6 (nF c.kk))]), (5, [((ma 5), eI D 6 (nF c.vv))]), (6, [((ma 6), eI D 6 c.hd)]), (30, [((ma 30), eI D 8 (nF c.crf))]), (35, [((ma 35), eI D 12 (nF c.bo))]), (50, [((ma 50), eI D 20 f)])]) (B := BM D mo ma c c2 tk ln tb vc ts tl ti rn f wd nu fr tt9 sf cls) (sp_X10_act_5 (D := D) (mo := mo) (ma := ma) (c := c) (c2 := c2) (tk := tk) (vc := vc) (ln := ln) (rn := rn) (zs_10 := zs_10) (zs_11 := zs_11) (zs_20 := zs_20) (zs_21 := zs_21) (zs_22 := zs_22) (zs_25 := zs_25) (zs_26 := zs_26) (zs_27 := zs_27) (zs_29 := zs_29) (f := f) (i := i) (x := x) hA.1 hi) ⟨e0, m_4 hM, m_5 hM, m_6 hM, m_30 hM, m_35 hM, m_50 hM, trivial⟩ (by decide) (by decide) hM ?_
    rintro r w1 ⟨zs2_10, zs2_11, zs2_20, zs2_21, zs2_22, zs2_25, zs2_26, zs2_27, zs2_29, hr, hw⟩
    refine ⟨hr, [(0, [(mo, .inr (10, M1R ma (mZ c c2 tk vc ln ((tL (c.kk i) (c.kk i)).length) zs2_10 zs2_11 zs2_20 zs2_21 zs2_22 zs2_25 zs2_26 zs2_27 zs2_29)))]), (4, [((ma 4), eI D 6 (nF c.kk))]), (5, [((ma 5), eI D 6 (nF c.vv))]), (6, [((ma 6), eI D 6 c.hd)]), (30, [((ma 30), eI D 8 (nF c.crf))]), (35, [((ma 35), eI D 12 (nF c.bo))]), (50, [((ma 50), eI D 20 (trW f 0 (tL (c.kk i) (c.kk i))))])], rfl, hw, BM D mo ma c c2 tk ln tb vc ts tl ti ((tL (c.kk i) (c.kk i)).length) (trW f 0 (tL (c.kk i) (c.kk i))) wd nu fr tt9 sf cls, ⟨j_0, j_4, j_5, j_6, j_30, j_35, j_50, trivial⟩, ?_, fun _ h => ⟨_, _, _, _, _, _, hR, h⟩⟩
    exact fun i w hi h => by
      have h0 : ¬ i = 0 := fun z => hi (by rw [z]; decide)
      have h4 : ¬ i = 4 := fun z => hi (by rw [z]; decide)
      have h5 : ¬ i = 5 := fun z => hi (by rw [z]; decide)
      have h6 : ¬ i = 6 := fun z => hi (by rw [z]; decide)
      have h30 : ¬ i = 30 := fun z => hi (by rw [z]; decide)
      have h35 : ¬ i = 35 := fun z => hi (by rw [z]; decide)
      have h50 : ¬ i = 50 := fun z => hi (by rw [z]; decide)
      unfold BM at h ⊢
      simp only [if_neg h0, if_neg h4, if_neg h5, if_neg h6, if_neg h30, if_neg h35, if_neg h50] at h ⊢
      exact h
set_option maxRecDepth 100000 in
set_option maxHeartbeats 4000000 in
theorem st_tape_6 {D : G} {xa : Nat → Nat} {vt tt : Nat → Option Nat} {c : CS} {c2 : CS} {tk : Int32} {ln : Nat} {tb : Nat → Int32} {vc : Nat} {vs : Nat → VS} {ts : Nat → Int32} {tl : Nat → Nat} {ti : Nat → Nat → Int64} {rn : Nat} {f : Nat → Int32} {mo : Nat} {ma : Nat → Nat} {bx bm : Nat → va_W} {t : Nat} {s : Nat} {n : Nat} (hvt : ∀ k, k < 6 → vt k = some (xa (16 + 5 * k))) (htt : ∀ k, k < 6 → tt k = some (xa (82 + 2 * k))) (hA : AOk c c2 tk ln tb vc vs ts tl rn) (hX : IX D xa vt tt c c2 tk ln tb vc vs ts tl ti rn f bx) (hM9 : IM D mo ma c c2 tk ln tb vc vs ts tl ti rn f bm) (hk : t < 6) (hs : s < 5) (hn : n ≤ 60) : StQ D xa vt tt mo ma mX9_tape mX10_tape [.int (nI t), .int (nI s), .int (nI n)] bx bm := by
  have hT9 := hA.2.2.2.2.2.2.2.2.2.1
  refine ⟨.int 1, c, c2, tk, ln, tb, vc, vs, (upd ts t (nI s)), (uN tl t n), (updT ti t (fun _ => 0)), rn, f, ok_tp hn (fun z => absurd z (zI_m1 (by omega))) (Or.inr ⟨s, hs, rfl⟩) hA, ?_, ?_⟩
  · skip
    refine Sp.fL (l := [(0, O9 xa tk vc), (17, [(xa 81, eT D 6 tt)]), (18 + t, TB D xa t (ts t) (tl t) (ti t))]) (B := BX D xa vt tt c c2 tk ln tb vc vs ts tl ti rn f) (sp_X9_tape_6 (D := D) (o := xa 0) (ca := xa 1) (im := xa 7) (tk := tk) (txo := xa 13) (ba := xa 46) (va := xa 15) (vc := vc) (nwk := xa 51) (nt := xa 58) (ro := xa 67) (lo := xa 77) (bd := xa 79) (ta := xa 81) (tt := tt) (ti := xa (82 + 2 * t)) (sort := ts t) (len := tl t) (it := xa (83 + 2 * t)) (f := ti t) (t := t) (s := s) (n := n) hk (htt t hk) (hT9 t hk).1 (hT9 t hk).2.1 (hT9 t hk).2.2 hs hn) ⟨x_0 hX, x_17 hX, x_T hX hk, trivial⟩ (by simp [kyL] <;> omega) (fun x z => by simp only [kyL, List.map_cons, List.map_nil, List.mem_cons, List.not_mem_nil, or_false] at z; omega) hX ?_
    rintro r w1 ⟨hr, hw⟩
    exact ⟨hr, [(0, O9 xa tk vc), (17, [(xa 81, eT D 6 tt)]), (18 + t, TB D xa t (nI s) n (fun _ => 0))], rfl, hw, _, ⟨k_0, k_17, kT_u hk, trivial⟩, fun i w hi h => BX_tp (fun z => hi (by rw [z]; simp [kyL])) h, fun _ h => h⟩
  · obtain ⟨wd, nu, fr, tt9, sf, cls, hR, hM⟩ := hM9
    obtain ⟨zs_10, zs_11, zs_20, zs_21, zs_22, zs_25, zs_26, zs_27, zs_29, e0⟩ := m_0 hM
    refine Sp.fL (l := [(0, [(mo, .inr (10, M1R ma (mZ c c2 tk vc ln rn zs_10 zs_11 zs_20 zs_21 zs_22 zs_25 zs_26 zs_27 zs_29)))]), (51, [((ma 51), eI D 6 ts)]), (52, [((ma 52), eI D 6 (nF tl))]), (53, [((ma 53), eJ D 360 (itm ti))])]) (B := BM D mo ma c c2 tk ln tb vc ts tl ti rn f wd nu fr tt9 sf cls) (sp_X10_tape_6 (D := D) (mo := mo) (ma := ma) (c := c) (c2 := c2) (tk := tk) (vc := vc) (ln := ln) (rn := rn) (zs_10 := zs_10) (zs_11 := zs_11) (zs_20 := zs_20) (zs_21 := zs_21) (zs_22 := zs_22) (zs_25 := zs_25) (zs_26 := zs_26) (zs_27 := zs_27) (zs_29 := zs_29) (ts := ts) (tl := tl) (ti := ti) (t := t) (s := s) (n := n) hk (hT9 t hk).1 (hT9 t hk).2.1 (hT9 t hk).2.2 hs hn) ⟨e0, m_51 hM, m_52 hM, m_53 hM, trivial⟩ (by decide) (by decide) hM ?_
    rintro r w1 ⟨zs2_10, zs2_11, zs2_20, zs2_21, zs2_22, zs2_25, zs2_26, zs2_27, zs2_29, hr, hw⟩
    refine ⟨hr, [(0, [(mo, .inr (10, M1R ma (mZ c c2 tk vc ln rn zs2_10 zs2_11 zs2_20 zs2_21 zs2_22 zs2_25 zs2_26 zs2_27 zs2_29)))]), (51, [((ma 51), eI D 6 (upd ts t (nI s)))]), (52, [((ma 52), eI D 6 (nF (uN tl t n)))]), (53, [((ma 53), eJ D 360 (itm (updT ti t (fun _ => 0))))])], rfl, hw, BM D mo ma c c2 tk ln tb vc (upd ts t (nI s)) (uN tl t n) (updT ti t (fun _ => 0)) rn f wd nu fr tt9 sf cls, ⟨j_0, j_51, j_52, j_53, trivial⟩, ?_, fun _ h => ⟨_, _, _, _, _, _, hR, h⟩⟩
    exact fun i w hi h => by
      have h0 : ¬ i = 0 := fun z => hi (by rw [z]; decide)
      have h51 : ¬ i = 51 := fun z => hi (by rw [z]; decide)
      have h52 : ¬ i = 52 := fun z => hi (by rw [z]; decide)
      have h53 : ¬ i = 53 := fun z => hi (by rw [z]; decide)
      unfold BM at h ⊢
      simp only [if_neg h0, if_neg h51, if_neg h52, if_neg h53] at h ⊢
      exact h
set_option maxRecDepth 100000 in
set_option maxHeartbeats 4000000 in
theorem st_shift_12 {D : G} {xa : Nat → Nat} {vt tt : Nat → Option Nat} {c : CS} {c2 : CS} {tk : Int32} {ln : Nat} {tb : Nat → Int32} {vc : Nat} {vs : Nat → VS} {ts : Nat → Int32} {tl : Nat → Nat} {ti : Nat → Nat → Int64} {rn : Nat} {f : Nat → Int32} {mo : Nat} {ma : Nat → Nat} {bx bm : Nat → va_W} {t : Nat} {u : Nat} {i : Nat} {j : Nat} {n : Nat} (hvt : ∀ k, k < 6 → vt k = some (xa (16 + 5 * k))) (htt : ∀ k, k < 6 → tt k = some (xa (82 + 2 * k))) (hA : AOk c c2 tk ln tb vc vs ts tl rn) (hX : IX D xa vt tt c c2 tk ln tb vc vs ts tl ti rn f bx) (hM9 : IM D mo ma c c2 tk ln tb vc vs ts tl ti rn f bm) (hk : t < 6) (hk2 : u < 6) (hs : ¬ (ts t) = -1) (hs2 : ¬ (ts u) = -1) (heq : (ts t) = (ts u)) (hn : i + n ≤ (tl t)) (hm : j + n ≤ (tl u)) (hne0 : ¬ t = u) : StQ D xa vt tt mo ma mX9_shift mX10_shift [.int (nI t), .int (nI i), .int (nI u), .int (nI j), .int (nI n)] bx bm := by
  have hT9 := hA.2.2.2.2.2.2.2.2.2.1
  refine ⟨.int (nI n), c, c2, tk, ln, tb, vc, vs, ts, tl, (updT ti u (va_cpy (ti t) (ti u) i j n)), rn, f, hA, ?_, ?_⟩
  · have hne9 : ¬ t = u := hne0
    refine Sp.fL (l := [(0, O9 xa tk vc), (17, [(xa 81, eT D 6 tt)]), (18 + t, TB D xa t (ts t) (tl t) (ti t)), (18 + u, TB D xa u (ts u) (tl u) (ti u))]) (B := BX D xa vt tt c c2 tk ln tb vc vs ts tl ti rn f) (sp_X9_shift_12 (D := D) (o := xa 0) (ca := xa 1) (im := xa 7) (tk := tk) (txo := xa 13) (ba := xa 46) (va := xa 15) (vc := vc) (nwk := xa 51) (nt := xa 58) (ro := xa 67) (lo := xa 77) (bd := xa 79) (ta := xa 81) (tt := tt) (ti := xa (82 + 2 * t)) (sort := ts t) (len := tl t) (it := xa (83 + 2 * t)) (f := ti t) (ti2 := xa (82 + 2 * u)) (sort2 := ts u) (len2 := tl u) (it2 := xa (83 + 2 * u)) (f2 := ti u) (t := t) (u := u) (i := i) (j := j) (n := n) hk (htt t hk) (hT9 t hk).1 (hT9 t hk).2.1 (hT9 t hk).2.2 hk2 (htt u hk2) (hT9 u hk2).1 (hT9 u hk2).2.1 (hT9 u hk2).2.2 hs hs2 heq hn hm) ⟨x_0 hX, x_17 hX, x_T hX hk, x_T hX hk2, trivial⟩ (by simp [kyL] <;> omega) (fun x z => by simp only [kyL, List.map_cons, List.map_nil, List.mem_cons, List.not_mem_nil, or_false] at z; omega) hX ?_
    rintro r w1 ⟨hr, hw⟩
    exact ⟨hr, [(0, O9 xa tk vc), (17, [(xa 81, eT D 6 tt)]), (18 + t, TB D xa t (ts t) (tl t) (ti t)), (18 + u, TB D xa u (ts u) (tl u) (va_cpy (ti t) (ti u) i j n))], rfl, hw, _, ⟨k_0, k_17, kT_n hk hne9, kT_i hk2, trivial⟩, fun i w hi h => BX_ti (fun z => hi (by rw [z]; simp [kyL])) h, fun _ h => h⟩
  · obtain ⟨wd, nu, fr, tt9, sf, cls, hR, hM⟩ := hM9
    obtain ⟨zs_10, zs_11, zs_20, zs_21, zs_22, zs_25, zs_26, zs_27, zs_29, e0⟩ := m_0 hM
    obtain ⟨y54, e54⟩ := m_54 hM
    refine Sp.fL (l := [(0, [(mo, .inr (10, M1R ma (mZ c c2 tk vc ln rn zs_10 zs_11 zs_20 zs_21 zs_22 zs_25 zs_26 zs_27 zs_29)))]), (51, [((ma 51), eI D 6 ts)]), (52, [((ma 52), eI D 6 (nF tl))]), (53, [((ma 53), eJ D 360 (itm ti))]), (54, [((ma 54), eJ D 60 y54)])]) (B := BM D mo ma c c2 tk ln tb vc ts tl ti rn f wd nu fr tt9 sf cls) (sp_X10_shift_12 (D := D) (mo := mo) (ma := ma) (c := c) (c2 := c2) (tk := tk) (vc := vc) (ln := ln) (rn := rn) (zs_10 := zs_10) (zs_11 := zs_11) (zs_20 := zs_20) (zs_21 := zs_21) (zs_22 := zs_22) (zs_25 := zs_25) (zs_26 := zs_26) (zs_27 := zs_27) (zs_29 := zs_29) (ts := ts) (tl := tl) (ti := ti) (t := t) (u := u) (i := i) (j := j) (n := n) (ad := y54) hk (hT9 t hk).1 (hT9 t hk).2.1 (hT9 t hk).2.2 hk2 (hT9 u hk2).1 (hT9 u hk2).2.1 (hT9 u hk2).2.2 hs hs2 heq hn hm) ⟨e0, m_51 hM, m_52 hM, m_53 hM, e54, trivial⟩ (by decide) (by decide) hM ?_
    rintro r w1 ⟨zs2_10, zs2_11, zs2_20, zs2_21, zs2_22, zs2_25, zs2_26, zs2_27, zs2_29, ad2, hr, hw⟩
    refine ⟨hr, [(0, [(mo, .inr (10, M1R ma (mZ c c2 tk vc ln rn zs2_10 zs2_11 zs2_20 zs2_21 zs2_22 zs2_25 zs2_26 zs2_27 zs2_29)))]), (51, [((ma 51), eI D 6 ts)]), (52, [((ma 52), eI D 6 (nF tl))]), (53, [((ma 53), eJ D 360 (itm (updT ti u (va_cpy (ti t) (ti u) i j n))))]), (54, [((ma 54), eJ D 60 ad2)])], rfl, hw, BM D mo ma c c2 tk ln tb vc ts tl (updT ti u (va_cpy (ti t) (ti u) i j n)) rn f wd nu fr tt9 sf cls, ⟨j_0, j_51, j_52, j_53, j_54, trivial⟩, ?_, fun _ h => ⟨_, _, _, _, _, _, hR, h⟩⟩
    exact fun i w hi h => by
      have h0 : ¬ i = 0 := fun z => hi (by rw [z]; decide)
      have h51 : ¬ i = 51 := fun z => hi (by rw [z]; decide)
      have h52 : ¬ i = 52 := fun z => hi (by rw [z]; decide)
      have h53 : ¬ i = 53 := fun z => hi (by rw [z]; decide)
      have h54 : ¬ i = 54 := fun z => hi (by rw [z]; decide)
      unfold BM at h ⊢
      simp only [if_neg h0, if_neg h51, if_neg h52, if_neg h53, if_neg h54] at h ⊢
      exact h
