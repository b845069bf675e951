-- each branch of each call, on
set_option maxRecDepth 100000 in
set_option maxHeartbeats 4000000 in
theorem st_big_4 {D : G} {xa : Nat → Nat} {vt tt : Nat → Option Nat} {c : CS} {c2 : CS} {tk : Int32} {ln : Nat} {tb : Nat → Int32} {vc : Nat} {vs : Nat → VS} {ts : Nat → Int32} {tl : Nat → Nat} {ti : Nat → Nat → Int64} {rn : Nat} {f : Nat → Int32} {mo : Nat} {ma : Nat → Nat} {bx bm : Nat → va_W} {d : Int32} {m : Int32} {q : Int32} {zw : Nat} (hvt : ∀ k, k < 6 → vt k = some (xa (16 + 5 * k))) (htt : ∀ k, k < 6 → tt k = some (xa (82 + 2 * k))) (hA : AOk c c2 tk ln tb vc vs ts tl rn) (hX : IX D xa vt tt c c2 tk ln tb vc vs ts tl ti rn f bx) (hM9 : IM D mo ma c c2 tk ln tb vc vs ts tl ti rn f bm) (hw : zw < 40) (hb : ¬ (2 ≤ d ∧ d ≤ 12 ∧ 1 ≤ m ∧ m ≤ 30 ∧ 0 ≤ q ∧ q ≤ 9)) : StR D xa vt tt mo ma mX9_big mX10_big [.int d, .int m, .int q, .int (nI zw)] bx bm (.int (-2)) := by
  refine ⟨c, c2, tk, ln, tb, vc, vs, ts, tl, ti, rn, f, hA, ?_, ?_⟩
  · skip
    refine Sp.fL (l := [(0, O9 xa tk vc)]) (B := BX D xa vt tt c c2 tk ln tb vc vs ts tl ti rn f) (sp_X9_big_4 (D := D) (o := xa 0) (ca := xa 1) (im := xa 7) (tk := tk) (txo := xa 13) (ba := xa 46) (va := xa 15) (vc := vc) (nwk := xa 51) (nt := xa 58) (ro := xa 67) (lo := xa 77) (bd := xa 79) (ta := xa 81) (d := d) (m := m) (q := q) (zw := zw) hw hb) ⟨x_0 hX, trivial⟩ (by decide) (by decide) hX ?_
    rintro r w1 ⟨hr, hw⟩
    exact ⟨hr, [(0, O9 xa tk vc)], rfl, hw, _, ⟨k_0, trivial⟩, fun _ _ _ h => h, fun _ h => h⟩
  · obtain ⟨wd, nu, fr, tt9, sf, cls, hR, hM⟩ := hM9
    obtain ⟨zs_10, zs_11, zs_20, zs_21, zs_22, zs_25, zs_26, zs_27, zs_29, e0⟩ := m_0 hM
    refine Sp.fL (l := [(0, [(mo, .inr (10, M1R ma (mZ c c2 tk vc ln rn zs_10 zs_11 zs_20 zs_21 zs_22 zs_25 zs_26 zs_27 zs_29)))])]) (B := BM D mo ma c c2 tk ln tb vc ts tl ti rn f wd nu fr tt9 sf cls) (sp_X10_big_4 (D := D) (mo := mo) (ma := ma) (c := c) (c2 := c2) (tk := tk) (vc := vc) (ln := ln) (rn := rn) (zs_10 := zs_10) (zs_11 := zs_11) (zs_20 := zs_20) (zs_21 := zs_21) (zs_22 := zs_22) (zs_25 := zs_25) (zs_26 := zs_26) (zs_27 := zs_27) (zs_29 := zs_29) (d := d) (m := m) (q := q) (zw := zw) hw hb) ⟨e0, trivial⟩ (by decide) (by decide) hM ?_
    rintro r w1 ⟨zs2_10, zs2_11, zs2_20, zs2_21, zs2_22, zs2_25, zs2_26, zs2_27, zs2_29, hr, hw⟩
    refine ⟨hr, [(0, [(mo, .inr (10, M1R ma (mZ c c2 tk vc ln rn zs2_10 zs2_11 zs2_20 zs2_21 zs2_22 zs2_25 zs2_26 zs2_27 zs2_29)))])], rfl, hw, BM D mo ma c c2 tk ln tb vc ts tl ti rn f wd nu fr tt9 sf cls, ⟨j_0, trivial⟩, fun _ _ _ h => h, fun _ h => ⟨_, _, _, _, _, _, hR, h⟩⟩
set_option maxRecDepth 100000 in
set_option maxHeartbeats 4000000 in
theorem st_big_5 {D : G} {xa : Nat → Nat} {vt tt : Nat → Option Nat} {c : CS} {c2 : CS} {tk : Int32} {ln : Nat} {tb : Nat → Int32} {vc : Nat} {vs : Nat → VS} {ts : Nat → Int32} {tl : Nat → Nat} {ti : Nat → Nat → Int64} {rn : Nat} {f : Nat → Int32} {mo : Nat} {ma : Nat → Nat} {bx bm : Nat → va_W} {d : Nat} {m : Nat} {q : Nat} {zw : Nat} (hvt : ∀ k, k < 6 → vt k = some (xa (16 + 5 * k))) (htt : ∀ k, k < 6 → tt k = some (xa (82 + 2 * k))) (hA : AOk c c2 tk ln tb vc vs ts tl rn) (hX : IX D xa vt tt c c2 tk ln tb vc vs ts tl ti rn f bx) (hM9 : IM D mo ma c c2 tk ln tb vc vs ts tl ti rn f bm) (hw : zw < 40) (hd0 : 2 ≤ d) (hd : d ≤ 12) (hm0 : 1 ≤ m) (hm : m ≤ 30) (ho : q ≤ 9) : StR D xa vt tt mo ma mX9_big mX10_big [.int (nI d), .int (nI m), .int (nI q), .int (nI zw)] bx bm (.int (nI (bigN d m q / 10 ^ zw % 10))) := by
  refine ⟨c, c2, tk, ln, tb, vc, vs, ts, tl, ti, rn, f, hA, ?_, ?_⟩
  · skip
    obtain ⟨y9, e15⟩ := x_15 hX
    refine Sp.fL (l := [(0, O9 xa tk vc), (15, L9 D xa y9)]) (B := BX D xa vt tt c c2 tk ln tb vc vs ts tl ti rn f) (sp_X9_big_5 (D := D) (o := xa 0) (ca := xa 1) (im := xa 7) (tk := tk) (txo := xa 13) (ba := xa 46) (va := xa 15) (vc := vc) (nwk := xa 51) (nt := xa 58) (ro := xa 67) (lo := xa 77) (bd := xa 79) (ta := xa 81) (dg := xa 78) (f := y9) (d := d) (m := m) (q := q) (zw := zw) hw hd0 hd hm0 hm ho) ⟨x_0 hX, e15, trivial⟩ (by decide) (by decide) hX ?_
    rintro r w1 ⟨f1, hr, hw⟩
    exact ⟨hr, [(0, O9 xa tk vc), (15, L9 D xa f1)], rfl, hw, _, ⟨k_0, k_15, trivial⟩, fun _ _ _ h => h, fun _ h => h⟩
  · obtain ⟨wd, nu, fr, tt9, sf, cls, hR, hM⟩ := hM9
    obtain ⟨zs_10, zs_11, zs_20, zs_21, zs_22, zs_25, zs_26, zs_27, zs_29, e0⟩ := m_0 hM
    obtain ⟨y33, e33⟩ := m_33 hM
    refine Sp.fL (l := [(0, [(mo, .inr (10, M1R ma (mZ c c2 tk vc ln rn zs_10 zs_11 zs_20 zs_21 zs_22 zs_25 zs_26 zs_27 zs_29)))]), (33, [((ma 33), eI D 42 y33)])]) (B := BM D mo ma c c2 tk ln tb vc ts tl ti rn f wd nu fr tt9 sf cls) (sp_X10_big_5 (D := D) (mo := mo) (ma := ma) (c := c) (c2 := c2) (tk := tk) (vc := vc) (ln := ln) (rn := rn) (zs_10 := zs_10) (zs_11 := zs_11) (zs_20 := zs_20) (zs_21 := zs_21) (zs_22 := zs_22) (zs_25 := zs_25) (zs_26 := zs_26) (zs_27 := zs_27) (zs_29 := zs_29) (d := d) (m := m) (q := q) (zw := zw) (f := y33) hw hd0 hd hm0 hm ho) ⟨e0, e33, trivial⟩ (by decide) (by decide) hM ?_
    rintro r w1 ⟨zs2_10, zs2_11, zs2_20, zs2_21, zs2_22, zs2_25, zs2_26, zs2_27, zs2_29, f1, hr, hw⟩
    refine ⟨hr, [(0, [(mo, .inr (10, M1R ma (mZ c c2 tk vc ln rn zs2_10 zs2_11 zs2_20 zs2_21 zs2_22 zs2_25 zs2_26 zs2_27 zs2_29)))]), (33, [((ma 33), eI D 42 f1)])], rfl, hw, BM D mo ma c c2 tk ln tb vc ts tl ti rn f wd nu fr tt9 sf cls, ⟨j_0, j_33, trivial⟩, fun _ _ _ h => h, fun _ h => ⟨_, _, _, _, _, _, hR, h⟩⟩
set_option maxRecDepth 100000 in
set_option maxHeartbeats 4000000 in
theorem st_big_6 {D : G} {xa : Nat → Nat} {vt tt : Nat → Option Nat} {c : CS} {c2 : CS} {tk : Int32} {ln : Nat} {tb : Nat → Int32} {vc : Nat} {vs : Nat → VS} {ts : Nat → Int32} {tl : Nat → Nat} {ti : Nat → Nat → Int64} {rn : Nat} {f : Nat → Int32} {mo : Nat} {ma : Nat → Nat} {bx bm : Nat → va_W} {d : Int32} {m : Int32} {q : Int32} {zw : Nat} (hvt : ∀ k, k < 6 → vt k = some (xa (16 + 5 * k))) (htt : ∀ k, k < 6 → tt k = some (xa (82 + 2 * k))) (hA : AOk c c2 tk ln tb vc vs ts tl rn) (hX : IX D xa vt tt c c2 tk ln tb vc vs ts tl ti rn f bx) (hM9 : IM D mo ma c c2 tk ln tb vc vs ts tl ti rn f bm) (hw1 : 2 ≤ zw) (hw : zw < 100) (hb : ¬ (2 ≤ d ∧ d ≤ 12 ∧ 1 ≤ m ∧ m ≤ 30 ∧ 0 ≤ q ∧ q ≤ 9)) : StR D xa vt tt mo ma mX9_big mX10_big [.int d, .int m, .int q, .int (nI (zw + 100))] bx bm (.int (-2)) := by
  refine ⟨c, c2, tk, ln, tb, vc, vs, ts, tl, ti, rn, f, hA, ?_, ?_⟩
  · skip
    refine Sp.fL (l := [(0, O9 xa tk vc)]) (B := BX D xa vt tt c c2 tk ln tb vc vs ts tl ti rn f) (sp_X9_big_6 (D := D) (o := xa 0) (ca := xa 1) (im := xa 7) (tk := tk) (txo := xa 13) (ba := xa 46) (va := xa 15) (vc := vc) (nwk := xa 51) (nt := xa 58) (ro := xa 67) (lo := xa 77) (bd := xa 79) (ta := xa 81) (d := d) (m := m) (q := q) (zw := zw) hw1 hw hb) ⟨x_0 hX, trivial⟩ (by decide) (by decide) hX ?_
    rintro r w1 ⟨hr, hw⟩
    exact ⟨hr, [(0, O9 xa tk vc)], rfl, hw, _, ⟨k_0, trivial⟩, fun _ _ _ h => h, fun _ h => h⟩
  · obtain ⟨wd, nu, fr, tt9, sf, cls, hR, hM⟩ := hM9
    obtain ⟨zs_10, zs_11, zs_20, zs_21, zs_22, zs_25, zs_26, zs_27, zs_29, e0⟩ := m_0 hM
    refine Sp.fL (l := [(0, [(mo, .inr (10, M1R ma (mZ c c2 tk vc ln rn zs_10 zs_11 zs_20 zs_21 zs_22 zs_25 zs_26 zs_27 zs_29)))])]) (B := BM D mo ma c c2 tk ln tb vc ts tl ti rn f wd nu fr tt9 sf cls) (sp_X10_big_6 (D := D) (mo := mo) (ma := ma) (c := c) (c2 := c2) (tk := tk) (vc := vc) (ln := ln) (rn := rn) (zs_10 := zs_10) (zs_11 := zs_11) (zs_20 := zs_20) (zs_21 := zs_21) (zs_22 := zs_22) (zs_25 := zs_25) (zs_26 := zs_26) (zs_27 := zs_27) (zs_29 := zs_29) (d := d) (m := m) (q := q) (zw := zw) hw1 hw hb) ⟨e0, trivial⟩ (by decide) (by decide) hM ?_
    rintro r w1 ⟨zs2_10, zs2_11, zs2_20, zs2_21, zs2_22, zs2_25, zs2_26, zs2_27, zs2_29, hr, hw⟩
    refine ⟨hr, [(0, [(mo, .inr (10, M1R ma (mZ c c2 tk vc ln rn zs2_10 zs2_11 zs2_20 zs2_21 zs2_22 zs2_25 zs2_26 zs2_27 zs2_29)))])], rfl, hw, BM D mo ma c c2 tk ln tb vc ts tl ti rn f wd nu fr tt9 sf cls, ⟨j_0, trivial⟩, fun _ _ _ h => h, fun _ h => ⟨_, _, _, _, _, _, hR, h⟩⟩
set_option maxRecDepth 100000 in
set_option maxHeartbeats 4000000 in
theorem st_big_7 {D : G} {xa : Nat → Nat} {vt tt : Nat → Option Nat} {c : CS} {c2 : CS} {tk : Int32} {ln : Nat} {tb : Nat → Int32} {vc : Nat} {vs : Nat → VS} {ts : Nat → Int32} {tl : Nat → Nat} {ti : Nat → Nat → Int64} {rn : Nat} {f : Nat → Int32} {mo : Nat} {ma : Nat → Nat} {bx bm : Nat → va_W} {d : Nat} {m : Nat} {q : Nat} {zw : Nat} (hvt : ∀ k, k < 6 → vt k = some (xa (16 + 5 * k))) (htt : ∀ k, k < 6 → tt k = some (xa (82 + 2 * k))) (hA : AOk c c2 tk ln tb vc vs ts tl rn) (hX : IX D xa vt tt c c2 tk ln tb vc vs ts tl ti rn f bx) (hM9 : IM D mo ma c c2 tk ln tb vc vs ts tl ti rn f bm) (hw1 : 2 ≤ zw) (hw : zw < 100) (hd0 : 2 ≤ d) (hd : d ≤ 12) (hm0 : 1 ≤ m) (hm : m ≤ 30) (ho : q ≤ 9) : StR D xa vt tt mo ma mX9_big mX10_big [.int (nI d), .int (nI m), .int (nI q), .int (nI (zw + 100))] bx bm (.int (nI (hrn (fun zi => bigN d m q / 10 ^ zi % 10) zw 40 0))) := by
  refine ⟨c, c2, tk, ln, tb, vc, vs, ts, tl, ti, rn, f, hA, ?_, ?_⟩
  · skip
    obtain ⟨y9, e15⟩ := x_15 hX
    refine Sp.fL (l := [(0, O9 xa tk vc), (15, L9 D xa y9)]) (B := BX D xa vt tt c c2 tk ln tb vc vs ts tl ti rn f) (sp_X9_big_7 (D := D) (o := xa 0) (ca := xa 1) (im := xa 7) (tk := tk) (txo := xa 13) (ba := xa 46) (va := xa 15) (vc := vc) (nwk := xa 51) (nt := xa 58) (ro := xa 67) (lo := xa 77) (bd := xa 79) (ta := xa 81) (dg := xa 78) (f := y9) (d := d) (m := m) (q := q) (zw := zw) hw1 hw hd0 hd hm0 hm ho) ⟨x_0 hX, e15, trivial⟩ (by decide) (by decide) hX ?_
    rintro r w1 ⟨f1, hr, hw⟩
    exact ⟨hr, [(0, O9 xa tk vc), (15, L9 D xa f1)], rfl, hw, _, ⟨k_0, k_15, trivial⟩, fun _ _ _ h => h, fun _ h => h⟩
  · obtain ⟨wd, nu, fr, tt9, sf, cls, hR, hM⟩ := hM9
    obtain ⟨zs_10, zs_11, zs_20, zs_21, zs_22, zs_25, zs_26, zs_27, zs_29, e0⟩ := m_0 hM
    obtain ⟨y33, e33⟩ := m_33 hM
    refine Sp.fL (l := [(0, [(mo, .inr (10, M1R ma (mZ c c2 tk vc ln rn zs_10 zs_11 zs_20 zs_21 zs_22 zs_25 zs_26 zs_27 zs_29)))]), (33, [((ma 33), eI D 42 y33)])]) (B := BM D mo ma c c2 tk ln tb vc ts tl ti rn f wd nu fr tt9 sf cls) (sp_X10_big_7 (D := D) (mo := mo) (ma := ma) (c := c) (c2 := c2) (tk := tk) (vc := vc) (ln := ln) (rn := rn) (zs_10 := zs_10) (zs_11 := zs_11) (zs_20 := zs_20) (zs_21 := zs_21) (zs_22 := zs_22) (zs_25 := zs_25) (zs_26 := zs_26) (zs_27 := zs_27) (zs_29 := zs_29) (d := d) (m := m) (q := q) (zw := zw) (f := y33) hw1 hw hd0 hd hm0 hm ho) ⟨e0, e33, trivial⟩ (by decide) (by decide) hM ?_
    rintro r w1 ⟨zs2_10, zs2_11, zs2_20, zs2_21, zs2_22, zs2_25, zs2_26, zs2_27, zs2_29, f1, hr, hw⟩
    refine ⟨hr, [(0, [(mo, .inr (10, M1R ma (mZ c c2 tk vc ln rn zs2_10 zs2_11 zs2_20 zs2_21 zs2_22 zs2_25 zs2_26 zs2_27 zs2_29)))]), (33, [((ma 33), eI D 42 f1)])], rfl, hw, BM D mo ma c c2 tk ln tb vc ts tl ti rn f wd nu fr tt9 sf cls, ⟨j_0, j_33, trivial⟩, fun _ _ _ h => h, fun _ h => ⟨_, _, _, _, _, _, hR, h⟩⟩
set_option maxRecDepth 100000 in
set_option maxHeartbeats 4000000 in
theorem st_book_1 {D : G} {xa : Nat → Nat} {vt tt : Nat → Option Nat} {c : CS} {c2 : CS} {tk : Int32} {ln : Nat} {tb : Nat → Int32} {vc : Nat} {vs : Nat → VS} {ts : Nat → Int32} {tl : Nat → Nat} {ti : Nat → Nat → Int64} {rn : Nat} {f : Nat → Int32} {mo : Nat} {ma : Nat → Nat} {bx bm : Nat → va_W}  (hvt : ∀ k, k < 6 → vt k = some (xa (16 + 5 * k))) (htt : ∀ k, k < 6 → tt k = some (xa (82 + 2 * k))) (hA : AOk c c2 tk ln tb vc vs ts tl rn) (hX : IX D xa vt tt c c2 tk ln tb vc vs ts tl ti rn f bx) (hM9 : IM D mo ma c c2 tk ln tb vc vs ts tl ti rn f bm)  : StR D xa vt tt mo ma mX9_book mX10_book [.int (-1)] bx bm (.int 0) := by
  refine ⟨(cBook0 c), c2, tk, ln, tb, vc, vs, ts, tl, ti, rn, f, ok_book0 hA, ?_, ?_⟩
  · skip
    refine Sp.fL (l := [(0, O9 xa tk vc), (1, C9 D xa 1 c)]) (B := BX D xa vt tt c c2 tk ln tb vc vs ts tl ti rn f) (sp_X9_book_1 (D := D) (o := xa 0) (ca := xa 1) (im := xa 7) (tk := tk) (txo := xa 13) (ba := xa 46) (va := xa 15) (vc := vc) (nwk := xa 51) (nt := xa 58) (ro := xa 67) (lo := xa 77) (bd := xa 79) (ta := xa 81) (ck := xa 2) (cv := xa 3) (chd := xa 4) (cr := xa 5) (cb := xa 6) (c := c) hA.1) ⟨x_0 hX, x_1 hX, trivial⟩ (by decide) (by decide) hX ?_
    rintro r w1 ⟨hr, hw⟩
    exact ⟨hr, [(0, O9 xa tk vc), (1, C9 D xa 1 (cBook0 c))], rfl, hw, _, ⟨k_0, k_1, trivial⟩, fun i w hi h => BX_c (fun z => hi (by rw [z]; simp [kyL])) h, fun _ h => h⟩
  · obtain ⟨wd, nu, fr, tt9, sf, cls, hR, hM⟩ := hM9
    obtain ⟨zs_10, zs_11, zs_20, zs_21, zs_22, zs_25, zs_26, zs_27, zs_29, e0⟩ := m_0 hM
    refine Sp.fL (l := [(0, [(mo, .inr (10, M1R ma (mZ c c2 tk vc ln rn zs_10 zs_11 zs_20 zs_21 zs_22 zs_25 zs_26 zs_27 zs_29)))]), (4, [((ma 4), eI D 6 (nF c.kk))]), (5, [((ma 5), eI D 6 (nF c.vv))]), (6, [((ma 6), eI D 6 c.hd)]), (30, [((ma 30), eI D 8 (nF c.crf))]), (35, [((ma 35), eI D 12 (nF c.bo))])]) (B := BM D mo ma c c2 tk ln tb vc ts tl ti rn f wd nu fr tt9 sf cls) (sp_X10_book_1 (D := D) (mo := mo) (ma := ma) (c := c) (c2 := c2) (tk := tk) (vc := vc) (ln := ln) (rn := rn) (zs_10 := zs_10) (zs_11 := zs_11) (zs_20 := zs_20) (zs_21 := zs_21) (zs_22 := zs_22) (zs_25 := zs_25) (zs_26 := zs_26) (zs_27 := zs_27) (zs_29 := zs_29) hA.1) ⟨e0, m_4 hM, m_5 hM, m_6 hM, m_30 hM, m_35 hM, trivial⟩ (by decide) (by decide) hM ?_
    rintro r w1 ⟨zs2_10, zs2_11, zs2_20, zs2_21, zs2_22, zs2_25, zs2_26, zs2_27, zs2_29, hr, hw⟩
    refine ⟨hr, [(0, [(mo, .inr (10, M1R ma (mZ (cBook0 c) c2 tk vc ln rn zs2_10 zs2_11 zs2_20 zs2_21 zs2_22 zs2_25 zs2_26 zs2_27 zs2_29)))]), (4, [((ma 4), eI D 6 (nF (cBook0 c).kk))]), (5, [((ma 5), eI D 6 (nF (cBook0 c).vv))]), (6, [((ma 6), eI D 6 (cBook0 c).hd)]), (30, [((ma 30), eI D 8 (nF (cBook0 c).crf))]), (35, [((ma 35), eI D 12 (nF (cBook0 c).bo))])], rfl, hw, BM D mo ma (cBook0 c) c2 tk ln tb vc ts tl ti rn f wd nu fr tt9 sf cls, ⟨j_0, j_4, j_5, j_6, j_30, j_35, trivial⟩, ?_, fun _ h => ⟨_, _, _, _, _, _, hR, h⟩⟩
    exact fun i w hi h => by
      have h0 : ¬ i = 0 := fun z => hi (by rw [z]; decide)
      have h4 : ¬ i = 4 := fun z => hi (by rw [z]; decide)
      have h5 : ¬ i = 5 := fun z => hi (by rw [z]; decide)
      have h6 : ¬ i = 6 := fun z => hi (by rw [z]; decide)
      have h30 : ¬ i = 30 := fun z => hi (by rw [z]; decide)
      have h35 : ¬ i = 35 := fun z => hi (by rw [z]; decide)
      unfold BM at h ⊢
      simp only [if_neg h0, if_neg h4, if_neg h5, if_neg h6, if_neg h30, if_neg h35] at h ⊢
      exact h
set_option maxRecDepth 100000 in
set_option maxHeartbeats 4000000 in
theorem st_book_2 {D : G} {xa : Nat → Nat} {vt tt : Nat → Option Nat} {c : CS} {c2 : CS} {tk : Int32} {ln : Nat} {tb : Nat → Int32} {vc : Nat} {vs : Nat → VS} {ts : Nat → Int32} {tl : Nat → Nat} {ti : Nat → Nat → Int64} {rn : Nat} {f : Nat → Int32} {mo : Nat} {ma : Nat → Nat} {bx bm : Nat → va_W} {h : Int32} (hvt : ∀ k, k < 6 → vt k = some (xa (16 + 5 * k))) (htt : ∀ k, k < 6 → tt k = some (xa (82 + 2 * k))) (hA : AOk c c2 tk ln tb vc vs ts tl rn) (hX : IX D xa vt tt c c2 tk ln tb vc vs ts tl ti rn f bx) (hM9 : IM D mo ma c c2 tk ln tb vc vs ts tl ti rn f bm) (hh0 : ¬ h = -1) (hh : ¬ isIx h 1000000) : StR D xa vt tt mo ma mX9_book mX10_book [.int h] bx bm (.int (-2)) := by
  refine ⟨c, c2, tk, ln, tb, vc, vs, ts, tl, ti, rn, f, hA, ?_, ?_⟩
  · skip
    refine Sp.fL (l := [(0, O9 xa tk vc), (1, C9 D xa 1 c)]) (B := BX D xa vt tt c c2 tk ln tb vc vs ts tl ti rn f) (sp_X9_book_2 (D := D) (o := xa 0) (ca := xa 1) (im := xa 7) (tk := tk) (txo := xa 13) (ba := xa 46) (va := xa 15) (vc := vc) (nwk := xa 51) (nt := xa 58) (ro := xa 67) (lo := xa 77) (bd := xa 79) (ta := xa 81) (ck := xa 2) (cv := xa 3) (chd := xa 4) (cr := xa 5) (cb := xa 6) (c := c) (h := h) hA.1 hh0 hh) ⟨x_0 hX, x_1 hX, trivial⟩ (by decide) (by decide) hX ?_
    rintro r w1 ⟨hr, hw⟩
    exact ⟨hr, [(0, O9 xa tk vc), (1, C9 D xa 1 c)], rfl, hw, _, ⟨k_0, k_1, trivial⟩, fun _ _ _ h => h, fun _ h => h⟩
  · obtain ⟨wd, nu, fr, tt9, sf, cls, hR, hM⟩ := hM9
    obtain ⟨zs_10, zs_11, zs_20, zs_21, zs_22, zs_25, zs_26, zs_27, zs_29, e0⟩ := m_0 hM
    refine Sp.fL (l := [(0, [(mo, .inr (10, M1R ma (mZ c c2 tk vc ln rn zs_10 zs_11 zs_20 zs_21 zs_22 zs_25 zs_26 zs_27 zs_29)))]), (4, [((ma 4), eI D 6 (nF c.kk))]), (5, [((ma 5), eI D 6 (nF c.vv))]), (6, [((ma 6), eI D 6 c.hd)]), (30, [((ma 30), eI D 8 (nF c.crf))]), (35, [((ma 35), eI D 12 (nF c.bo))])]) (B := BM D mo ma c c2 tk ln tb vc ts tl ti rn f wd nu fr tt9 sf cls) (sp_X10_book_2 (D := D) (mo := mo) (ma := ma) (c := c) (c2 := c2) (tk := tk) (vc := vc) (ln := ln) (rn := rn) (zs_10 := zs_10) (zs_11 := zs_11) (zs_20 := zs_20) (zs_21 := zs_21) (zs_22 := zs_22) (zs_25 := zs_25) (zs_26 := zs_26) (zs_27 := zs_27) (zs_29 := zs_29) (h := h) hA.1 hh0 hh) ⟨e0, m_4 hM, m_5 hM, m_6 hM, m_30 hM, m_35 hM, trivial⟩ (by decide) (by decide) hM ?_
    rintro r w1 ⟨zs2_10, zs2_11, zs2_20, zs2_21, zs2_22, zs2_25, zs2_26, zs2_27, zs2_29, hr, hw⟩
    refine ⟨hr, [(0, [(mo, .inr (10, M1R ma (mZ c c2 tk vc ln rn zs2_10 zs2_11 zs2_20 zs2_21 zs2_22 zs2_25 zs2_26 zs2_27 zs2_29)))]), (4, [((ma 4), eI D 6 (nF c.kk))]), (5, [((ma 5), eI D 6 (nF c.vv))]), (6, [((ma 6), eI D 6 c.hd)]), (30, [((ma 30), eI D 8 (nF c.crf))]), (35, [((ma 35), eI D 12 (nF c.bo))])], rfl, hw, BM D mo ma c c2 tk ln tb vc ts tl ti rn f wd nu fr tt9 sf cls, ⟨j_0, j_4, j_5, j_6, j_30, j_35, trivial⟩, fun _ _ _ h => h, fun _ h => ⟨_, _, _, _, _, _, hR, h⟩⟩
set_option maxRecDepth 100000 in
set_option maxHeartbeats 4000000 in
theorem st_book_3 {D : G} {xa : Nat → Nat} {vt tt : Nat → Option Nat} {c : CS} {c2 : CS} {tk : Int32} {ln : Nat} {tb : Nat → Int32} {vc : Nat} {vs : Nat → VS} {ts : Nat → Int32} {tl : Nat → Nat} {ti : Nat → Nat → Int64} {rn : Nat} {f : Nat → Int32} {mo : Nat} {ma : Nat → Nat} {bx bm : Nat → va_W} {h : Nat} (hvt : ∀ k, k < 6 → vt k = some (xa (16 + 5 * k))) (htt : ∀ k, k < 6 → tt k = some (xa (82 + 2 * k))) (hA : AOk c c2 tk ln tb vc vs ts tl rn) (hX : IX D xa vt tt c c2 tk ln tb vc vs ts tl ti rn f bx) (hM9 : IM D mo ma c c2 tk ln tb vc vs ts tl ti rn f bm) (hh : h < 1000000) (hp : c.pg = 12) : StR D xa vt tt mo ma mX9_book mX10_book [.int (nI h)] bx bm (.int (-4)) := by
  refine ⟨c, c2, tk, ln, tb, vc, vs, ts, tl, ti, rn, f, hA, ?_, ?_⟩
  · skip
    refine Sp.fL (l := [(0, O9 xa tk vc), (1, C9 D xa 1 c)]) (B := BX D xa vt tt c c2 tk ln tb vc vs ts tl ti rn f) (sp_X9_book_3 (D := D) (o := xa 0) (ca := xa 1) (im := xa 7) (tk := tk) (txo := xa 13) (ba := xa 46) (va := xa 15) (vc := vc) (nwk := xa 51) (nt := xa 58) (ro := xa 67) (lo := xa 77) (bd := xa 79) (ta := xa 81) (ck := xa 2) (cv := xa 3) (chd := xa 4) (cr := xa 5) (cb := xa 6) (c := c) (h := h) hA.1 hh hp) ⟨x_0 hX, x_1 hX, trivial⟩ (by decide) (by decide) hX ?_
    rintro r w1 ⟨hr, hw⟩
    exact ⟨hr, [(0, O9 xa tk vc), (1, C9 D xa 1 c)], rfl, hw, _, ⟨k_0, k_1, trivial⟩, fun _ _ _ h => h, fun _ h => h⟩
  · obtain ⟨wd, nu, fr, tt9, sf, cls, hR, hM⟩ := hM9
    obtain ⟨zs_10, zs_11, zs_20, zs_21, zs_22, zs_25, zs_26, zs_27, zs_29, e0⟩ := m_0 hM
    refine Sp.fL (l := [(0, [(mo, .inr (10, M1R ma (mZ c c2 tk vc ln rn zs_10 zs_11 zs_20 zs_21 zs_22 zs_25 zs_26 zs_27 zs_29)))]), (4, [((ma 4), eI D 6 (nF c.kk))]), (5, [((ma 5), eI D 6 (nF c.vv))]), (6, [((ma 6), eI D 6 c.hd)]), (30, [((ma 30), eI D 8 (nF c.crf))]), (35, [((ma 35), eI D 12 (nF c.bo))])]) (B := BM D mo ma c c2 tk ln tb vc ts tl ti rn f wd nu fr tt9 sf cls) (sp_X10_book_3 (D := D) (mo := mo) (ma := ma) (c := c) (c2 := c2) (tk := tk) (vc := vc) (ln := ln) (rn := rn) (zs_10 := zs_10) (zs_11 := zs_11) (zs_20 := zs_20) (zs_21 := zs_21) (zs_22 := zs_22) (zs_25 := zs_25) (zs_26 := zs_26) (zs_27 := zs_27) (zs_29 := zs_29) (h := h) hA.1 hh hp) ⟨e0, m_4 hM, m_5 hM, m_6 hM, m_30 hM, m_35 hM, trivial⟩ (by decide) (by decide) hM ?_
    rintro r w1 ⟨zs2_10, zs2_11, zs2_20, zs2_21, zs2_22, zs2_25, zs2_26, zs2_27, zs2_29, hr, hw⟩
    refine ⟨hr, [(0, [(mo, .inr (10, M1R ma (mZ c c2 tk vc ln rn zs2_10 zs2_11 zs2_20 zs2_21 zs2_22 zs2_25 zs2_26 zs2_27 zs2_29)))]), (4, [((ma 4), eI D 6 (nF c.kk))]), (5, [((ma 5), eI D 6 (nF c.vv))]), (6, [((ma 6), eI D 6 c.hd)]), (30, [((ma 30), eI D 8 (nF c.crf))]), (35, [((ma 35), eI D 12 (nF c.bo))])], rfl, hw, BM D mo ma c c2 tk ln tb vc ts tl ti rn f wd nu fr tt9 sf cls, ⟨j_0, j_4, j_5, j_6, j_30, j_35, trivial⟩, fun _ _ _ h => h, fun _ h => ⟨_, _, _, _, _, _, hR, h⟩⟩
set_option maxRecDepth 100000 in
set_option maxHeartbeats 4000000 in
theorem st_book_4 {D : G} {xa : Nat → Nat} {vt tt : Nat → Option Nat} {c : CS} {c2 : CS} {tk : Int32} {ln : Nat} {tb : Nat → Int32} {vc : Nat} {vs : Nat → VS} {ts : Nat → Int32} {tl : Nat → Nat} {ti : Nat → Nat → Int64} {rn : Nat} {f : Nat → Int32} {mo : Nat} {ma : Nat → Nat} {bx bm : Nat → va_W} {h : Nat} (hvt : ∀ k, k < 6 → vt k = some (xa (16 + 5 * k))) (htt : ∀ k, k < 6 → tt k = some (xa (82 + 2 * k))) (hA : AOk c c2 tk ln tb vc vs ts tl rn) (hX : IX D xa vt tt c c2 tk ln tb vc vs ts tl ti rn f bx) (hM9 : IM D mo ma c c2 tk ln tb vc vs ts tl ti rn f bm) (hh : h < 1000000) (hp : c.pg < 12) : StR D xa vt tt mo ma mX9_book mX10_book [.int (nI h)] bx bm (.int (nI (c.pg + 1))) := by
  refine ⟨(cBook c h), c2, tk, ln, tb, vc, vs, ts, tl, ti, rn, f, ok_book hh hp hA, ?_, ?_⟩
  · skip
    refine Sp.fL (l := [(0, O9 xa tk vc), (1, C9 D xa 1 c)]) (B := BX D xa vt tt c c2 tk ln tb vc vs ts tl ti rn f) (sp_X9_book_4 (D := D) (o := xa 0) (ca := xa 1) (im := xa 7) (tk := tk) (txo := xa 13) (ba := xa 46) (va := xa 15) (vc := vc) (nwk := xa 51) (nt := xa 58) (ro := xa 67) (lo := xa 77) (bd := xa 79) (ta := xa 81) (ck := xa 2) (cv := xa 3) (chd := xa 4) (cr := xa 5) (cb := xa 6) (c := c) (h := h) hA.1 hh hp) ⟨x_0 hX, x_1 hX, trivial⟩ (by decide) (by decide) hX ?_
    rintro r w1 ⟨hr, hw⟩
    exact ⟨hr, [(0, O9 xa tk vc), (1, C9 D xa 1 (cBook c h))], rfl, hw, _, ⟨k_0, k_1, trivial⟩, fun i w hi h => BX_c (fun z => hi (by rw [z]; simp [kyL])) h, fun _ h => h⟩
  · obtain ⟨wd, nu, fr, tt9, sf, cls, hR, hM⟩ := hM9
    obtain ⟨zs_10, zs_11, zs_20, zs_21, zs_22, zs_25, zs_26, zs_27, zs_29, e0⟩ := m_0 hM
    refine Sp.fL (l := [(0, [(mo, .inr (10, M1R ma (mZ c c2 tk vc ln rn zs_10 zs_11 zs_20 zs_21 zs_22 zs_25 zs_26 zs_27 zs_29)))]), (4, [((ma 4), eI D 6 (nF c.kk))]), (5, [((ma 5), eI D 6 (nF c.vv))]), (6, [((ma 6), eI D 6 c.hd)]), (30, [((ma 30), eI D 8 (nF c.crf))]), (35, [((ma 35), eI D 12 (nF c.bo))])]) (B := BM D mo ma c c2 tk ln tb vc ts tl ti rn f wd nu fr tt9 sf cls) (sp_X10_book_4 (D := D) (mo := mo) (ma := ma) (c := c) (c2 := c2) (tk := tk) (vc := vc) (ln := ln) (rn := rn) (zs_10 := zs_10) (zs_11 := zs_11) (zs_20 := zs_20) (zs_21 := zs_21) (zs_22 := zs_22) (zs_25 := zs_25) (zs_26 := zs_26) (zs_27 := zs_27) (zs_29 := zs_29) (h := h) hA.1 hh hp) ⟨e0, m_4 hM, m_5 hM, m_6 hM, m_30 hM, m_35 hM, trivial⟩ (by decide) (by decide) hM ?_
    rintro r w1 ⟨zs2_10, zs2_11, zs2_20, zs2_21, zs2_22, zs2_25, zs2_26, zs2_27, zs2_29, hr, hw⟩
    refine ⟨hr, [(0, [(mo, .inr (10, M1R ma (mZ (cBook c h) c2 tk vc ln rn zs2_10 zs2_11 zs2_20 zs2_21 zs2_22 zs2_25 zs2_26 zs2_27 zs2_29)))]), (4, [((ma 4), eI D 6 (nF (cBook c h).kk))]), (5, [((ma 5), eI D 6 (nF (cBook c h).vv))]), (6, [((ma 6), eI D 6 (cBook c h).hd)]), (30, [((ma 30), eI D 8 (nF (cBook c h).crf))]), (35, [((ma 35), eI D 12 (nF (cBook c h).bo))])], rfl, hw, BM D mo ma (cBook c h) c2 tk ln tb vc ts tl ti rn f wd nu fr tt9 sf cls, ⟨j_0, j_4, j_5, j_6, j_30, j_35, trivial⟩, ?_, fun _ h => ⟨_, _, _, _, _, _, hR, h⟩⟩
    exact fun i w hi h => by
      have h0 : ¬ i = 0 := fun z => hi (by rw [z]; decide)
      have h4 : ¬ i = 4 := fun z => hi (by rw [z]; decide)
      have h5 : ¬ i = 5 := fun z => hi (by rw [z]; decide)
      have h6 : ¬ i = 6 := fun z => hi (by rw [z]; decide)
      have h30 : ¬ i = 30 := fun z => hi (by rw [z]; decide)
      have h35 : ¬ i = 35 := fun z => hi (by rw [z]; decide)
      unfold BM at h ⊢
      simp only [if_neg h0, if_neg h4, if_neg h5, if_neg h6, if_neg h30, if_neg h35] at h ⊢
      exact h
set_option maxRecDepth 100000 in
set_option maxHeartbeats 4000000 in
theorem st_judge_1 {D : G} {xa : Nat → Nat} {vt tt : Nat → Option Nat} {c : CS} {c2 : CS} {tk : Int32} {ln : Nat} {tb : Nat → Int32} {vc : Nat} {vs : Nat → VS} {ts : Nat → Int32} {tl : Nat → Nat} {ti : Nat → Nat → Int64} {rn : Nat} {f : Nat → Int32} {mo : Nat} {ma : Nat → Nat} {bx bm : Nat → va_W} {t : Int32} {i : Int32} (hvt : ∀ k, k < 6 → vt k = some (xa (16 + 5 * k))) (htt : ∀ k, k < 6 → tt k = some (xa (82 + 2 * k))) (hA : AOk c c2 tk ln tb vc vs ts tl rn) (hX : IX D xa vt tt c c2 tk ln tb vc vs ts tl ti rn f bx) (hM9 : IM D mo ma c c2 tk ln tb vc vs ts tl ti rn f bm) (hk : ¬ isIx t 6) : StR D xa vt tt mo ma mX9_judge mX10_judge [.int t, .int i] bx bm (.int (-1)) := by
  refine ⟨c, c2, tk, ln, tb, vc, vs, ts, tl, ti, rn, f, hA, ?_, ?_⟩
  · skip
    refine Sp.fL (l := [(0, O9 xa tk vc), (17, [(xa 81, eT D 6 tt)])]) (B := BX D xa vt tt c c2 tk ln tb vc vs ts tl ti rn f) (sp_X9_judge_1 (D := D) (o := xa 0) (ca := xa 1) (im := xa 7) (tk := tk) (txo := xa 13) (ba := xa 46) (va := xa 15) (vc := vc) (nwk := xa 51) (nt := xa 58) (ro := xa 67) (lo := xa 77) (bd := xa 79) (ta := xa 81) (tt := tt) (t := t) (i := i) hk) ⟨x_0 hX, x_17 hX, trivial⟩ (by decide) (by decide) hX ?_
    rintro r w1 ⟨hr, hw⟩
    exact ⟨hr, [(0, O9 xa tk vc), (17, [(xa 81, eT D 6 tt)])], rfl, hw, _, ⟨k_0, k_17, trivial⟩, fun _ _ _ h => h, fun _ h => h⟩
  · obtain ⟨wd, nu, fr, tt9, sf, cls, hR, hM⟩ := hM9
    obtain ⟨zs_10, zs_11, zs_20, zs_21, zs_22, zs_25, zs_26, zs_27, zs_29, e0⟩ := m_0 hM
    refine Sp.fL (l := [(0, [(mo, .inr (10, M1R ma (mZ c c2 tk vc ln rn zs_10 zs_11 zs_20 zs_21 zs_22 zs_25 zs_26 zs_27 zs_29)))]), (51, [((ma 51), eI D 6 ts)]), (52, [((ma 52), eI D 6 (nF tl))]), (53, [((ma 53), eJ D 360 (itm ti))])]) (B := BM D mo ma c c2 tk ln tb vc ts tl ti rn f wd nu fr tt9 sf cls) (sp_X10_judge_1 (D := D) (mo := mo) (ma := ma) (c := c) (c2 := c2) (tk := tk) (vc := vc) (ln := ln) (rn := rn) (zs_10 := zs_10) (zs_11 := zs_11) (zs_20 := zs_20) (zs_21 := zs_21) (zs_22 := zs_22) (zs_25 := zs_25) (zs_26 := zs_26) (zs_27 := zs_27) (zs_29 := zs_29) (ts := ts) (tl := tl) (ti := ti) (t := t) (i := i) hk) ⟨e0, m_51 hM, m_52 hM, m_53 hM, trivial⟩ (by decide) (by decide) hM ?_
    rintro r w1 ⟨zs2_10, zs2_11, zs2_20, zs2_21, zs2_22, zs2_25, zs2_26, zs2_27, zs2_29, hr, hw⟩
    refine ⟨hr, [(0, [(mo, .inr (10, M1R ma (mZ c c2 tk vc ln rn zs2_10 zs2_11 zs2_20 zs2_21 zs2_22 zs2_25 zs2_26 zs2_27 zs2_29)))]), (51, [((ma 51), eI D 6 ts)]), (52, [((ma 52), eI D 6 (nF tl))]), (53, [((ma 53), eJ D 360 (itm ti))])], rfl, hw, BM D mo ma c c2 tk ln tb vc ts tl ti rn f wd nu fr tt9 sf cls, ⟨j_0, j_51, j_52, j_53, trivial⟩, fun _ _ _ h => h, fun _ h => ⟨_, _, _, _, _, _, hR, h⟩⟩
set_option maxRecDepth 100000 in
set_option maxHeartbeats 4000000 in
theorem st_judge_2 {D : G} {xa : Nat → Nat} {vt tt : Nat → Option Nat} {c : CS} {c2 : CS} {tk : Int32} {ln : Nat} {tb : Nat → Int32} {vc : Nat} {vs : Nat → VS} {ts : Nat → Int32} {tl : Nat → Nat} {ti : Nat → Nat → Int64} {rn : Nat} {f : Nat → Int32} {mo : Nat} {ma : Nat → Nat} {bx bm : Nat → va_W} {t : Nat} {i : Int32} (hvt : ∀ k, k < 6 → vt k = some (xa (16 + 5 * k))) (htt : ∀ k, k < 6 → tt k = some (xa (82 + 2 * k))) (hA : AOk c c2 tk ln tb vc vs ts tl rn) (hX : IX D xa vt tt c c2 tk ln tb vc vs ts tl ti rn f bx) (hM9 : IM D mo ma c c2 tk ln tb vc vs ts tl ti rn f bm) (hk : t < 6) (hs1 : ¬ (ts t) = -1) (hs3 : ¬ (ts t) = 3) : StR D xa vt tt mo ma mX9_judge mX10_judge [.int (nI t), .int i] bx bm (.int (-12)) := by
  have hT9 := hA.2.2.2.2.2.2.2.2.2.1
  refine ⟨c, c2, tk, ln, tb, vc, vs, ts, tl, ti, rn, f, hA, ?_, ?_⟩
  · skip
    refine Sp.fL (l := [(0, O9 xa tk vc), (1, C9 D xa 1 c), (17, [(xa 81, eT D 6 tt)]), (18 + t, TB D xa t (ts t) (tl t) (ti t))]) (B := BX D xa vt tt c c2 tk ln tb vc vs ts tl ti rn f) (sp_X9_judge_2 (D := D) (o := xa 0) (ca := xa 1) (im := xa 7) (tk := tk) (txo := xa 13) (ba := xa 46) (va := xa 15) (vc := vc) (nwk := xa 51) (nt := xa 58) (ro := xa 67) (lo := xa 77) (bd := xa 79) (ta := xa 81) (ck := xa 2) (cv := xa 3) (chd := xa 4) (cr := xa 5) (cb := xa 6) (c := c) (tt := tt) (ti := xa (82 + 2 * t)) (sort := ts t) (len := tl t) (it := xa (83 + 2 * t)) (f := ti t) (t := t) (i := i) hA.1 hk (htt t hk) (hT9 t hk).1 (hT9 t hk).2.1 (hT9 t hk).2.2 hs1 hs3) ⟨x_0 hX, x_1 hX, x_17 hX, x_T hX hk, trivial⟩ (by simp [kyL] <;> omega) (fun x z => by simp only [kyL, List.map_cons, List.map_nil, List.mem_cons, List.not_mem_nil, or_false] at z; omega) hX ?_
    rintro r w1 ⟨hr, hw⟩
    exact ⟨hr, [(0, O9 xa tk vc), (1, C9 D xa 1 c), (17, [(xa 81, eT D 6 tt)]), (18 + t, TB D xa t (ts t) (tl t) (ti t))], rfl, hw, _, ⟨k_0, k_1, k_17, k_T hk, trivial⟩, fun _ _ _ h => h, fun _ h => h⟩
  · obtain ⟨wd, nu, fr, tt9, sf, cls, hR, hM⟩ := hM9
    obtain ⟨zs_10, zs_11, zs_20, zs_21, zs_22, zs_25, zs_26, zs_27, zs_29, e0⟩ := m_0 hM
    refine Sp.fL (l := [(0, [(mo, .inr (10, M1R ma (mZ c c2 tk vc ln rn zs_10 zs_11 zs_20 zs_21 zs_22 zs_25 zs_26 zs_27 zs_29)))]), (4, [((ma 4), eI D 6 (nF c.kk))]), (5, [((ma 5), eI D 6 (nF c.vv))]), (6, [((ma 6), eI D 6 c.hd)]), (30, [((ma 30), eI D 8 (nF c.crf))]), (35, [((ma 35), eI D 12 (nF c.bo))]), (51, [((ma 51), eI D 6 ts)]), (52, [((ma 52), eI D 6 (nF tl))]), (53, [((ma 53), eJ D 360 (itm ti))])]) (B := BM D mo ma c c2 tk ln tb vc ts tl ti rn f wd nu fr tt9 sf cls) (sp_X10_judge_2 (D := D) (mo := mo) (ma := ma) (c := c) (c2 := c2) (tk := tk) (vc := vc) (ln := ln) (rn := rn) (zs_10 := zs_10) (zs_11 := zs_11) (zs_20 := zs_20) (zs_21 := zs_21) (zs_22 := zs_22) (zs_25 := zs_25) (zs_26 := zs_26) (zs_27 := zs_27) (zs_29 := zs_29) (ts := ts) (tl := tl) (ti := ti) (t := t) (i := i) hA.1 hk (hT9 t hk).1 (hT9 t hk).2.1 (hT9 t hk).2.2 hs1 hs3) ⟨e0, m_4 hM, m_5 hM, m_6 hM, m_30 hM, m_35 hM, m_51 hM, m_52 hM, m_53 hM, trivial⟩ (by decide) (by decide) hM ?_
    rintro r w1 ⟨zs2_10, zs2_11, zs2_20, zs2_21, zs2_22, zs2_25, zs2_26, zs2_27, zs2_29, hr, hw⟩
    refine ⟨hr, [(0, [(mo, .inr (10, M1R ma (mZ c c2 tk vc ln rn zs2_10 zs2_11 zs2_20 zs2_21 zs2_22 zs2_25 zs2_26 zs2_27 zs2_29)))]), (4, [((ma 4), eI D 6 (nF c.kk))]), (5, [((ma 5), eI D 6 (nF c.vv))]), (6, [((ma 6), eI D 6 c.hd)]), (30, [((ma 30), eI D 8 (nF c.crf))]), (35, [((ma 35), eI D 12 (nF c.bo))]), (51, [((ma 51), eI D 6 ts)]), (52, [((ma 52), eI D 6 (nF tl))]), (53, [((ma 53), eJ D 360 (itm ti))])], rfl, hw, BM D mo ma c c2 tk ln tb vc ts tl ti rn f wd nu fr tt9 sf cls, ⟨j_0, j_4, j_5, j_6, j_30, j_35, j_51, j_52, j_53, trivial⟩, fun _ _ _ h => h, fun _ h => ⟨_, _, _, _, _, _, hR, h⟩⟩
set_option maxRecDepth 100000 in
set_option maxHeartbeats 4000000 in
theorem st_judge_3 {D : G} {xa : Nat → Nat} {vt tt : Nat → Option Nat} {c : CS} {c2 : CS} {tk : Int32} {ln : Nat} {tb : Nat → Int32} {vc : Nat} {vs : Nat → VS} {ts : Nat → Int32} {tl : Nat → Nat} {ti : Nat → Nat → Int64} {rn : Nat} {f : Nat → Int32} {mo : Nat} {ma : Nat → Nat} {bx bm : Nat → va_W} {t : Nat} {i : Int32} (hvt : ∀ k, k < 6 → vt k = some (xa (16 + 5 * k))) (htt : ∀ k, k < 6 → tt k = some (xa (82 + 2 * k))) (hA : AOk c c2 tk ln tb vc vs ts tl rn) (hX : IX D xa vt tt c c2 tk ln tb vc vs ts tl ti rn f bx) (hM9 : IM D mo ma c c2 tk ln tb vc vs ts tl ti rn f bm) (hk : t < 6) (hs : (ts t) = -1 ∨ (ts t) = 3) (hm : c.men = 0) : StR D xa vt tt mo ma mX9_judge mX10_judge [.int (nI t), .int i] bx bm (.int (-5)) := by
  have hT9 := hA.2.2.2.2.2.2.2.2.2.1
  refine ⟨c, c2, tk, ln, tb, vc, vs, ts, tl, ti, rn, f, hA, ?_, ?_⟩
  · skip
    refine Sp.fL (l := [(0, O9 xa tk vc), (1, C9 D xa 1 c), (17, [(xa 81, eT D 6 tt)]), (18 + t, TB D xa t (ts t) (tl t) (ti t))]) (B := BX D xa vt tt c c2 tk ln tb vc vs ts tl ti rn f) (sp_X9_judge_3 (D := D) (o := xa 0) (ca := xa 1) (im := xa 7) (tk := tk) (txo := xa 13) (ba := xa 46) (va := xa 15) (vc := vc) (nwk := xa 51) (nt := xa 58) (ro := xa 67) (lo := xa 77) (bd := xa 79) (ta := xa 81) (ck := xa 2) (cv := xa 3) (chd := xa 4) (cr := xa 5) (cb := xa 6) (c := c) (tt := tt) (ti := xa (82 + 2 * t)) (sort := ts t) (len := tl t) (it := xa (83 + 2 * t)) (f := ti t) (t := t) (i := i) hA.1 hk (htt t hk) (hT9 t hk).1 (hT9 t hk).2.1 (hT9 t hk).2.2 hs hm) ⟨x_0 hX, x_1 hX, x_17 hX, x_T hX hk, trivial⟩ (by simp [kyL] <;> omega) (fun x z => by simp only [kyL, List.map_cons, List.map_nil, List.mem_cons, List.not_mem_nil, or_false] at z; omega) hX ?_
    rintro r w1 ⟨hr, hw⟩
    exact ⟨hr, [(0, O9 xa tk vc), (1, C9 D xa 1 c), (17, [(xa 81, eT D 6 tt)]), (18 + t, TB D xa t (ts t) (tl t) (ti t))], rfl, hw, _, ⟨k_0, k_1, k_17, k_T hk, trivial⟩, fun _ _ _ h => h, fun _ h => h⟩
  · obtain ⟨wd, nu, fr, tt9, sf, cls, hR, hM⟩ := hM9
    obtain ⟨zs_10, zs_11, zs_20, zs_21, zs_22, zs_25, zs_26, zs_27, zs_29, e0⟩ := m_0 hM
    refine Sp.fL (l := [(0, [(mo, .inr (10, M1R ma (mZ c c2 tk vc ln rn zs_10 zs_11 zs_20 zs_21 zs_22 zs_25 zs_26 zs_27 zs_29)))]), (4, [((ma 4), eI D 6 (nF c.kk))]), (5, [((ma 5), eI D 6 (nF c.vv))]), (6, [((ma 6), eI D 6 c.hd)]), (30, [((ma 30), eI D 8 (nF c.crf))]), (35, [((ma 35), eI D 12 (nF c.bo))]), (51, [((ma 51), eI D 6 ts)]), (52, [((ma 52), eI D 6 (nF tl))]), (53, [((ma 53), eJ D 360 (itm ti))])]) (B := BM D mo ma c c2 tk ln tb vc ts tl ti rn f wd nu fr tt9 sf cls) (sp_X10_judge_3 (D := D) (mo := mo) (ma := ma) (c := c) (c2 := c2) (tk := tk) (vc := vc) (ln := ln) (rn := rn) (zs_10 := zs_10) (zs_11 := zs_11) (zs_20 := zs_20) (zs_21 := zs_21) (zs_22 := zs_22) (zs_25 := zs_25) (zs_26 := zs_26) (zs_27 := zs_27) (zs_29 := zs_29) (ts := ts) (tl := tl) (ti := ti) (t := t) (i := i) hA.1 hk (hT9 t hk).1 (hT9 t hk).2.1 (hT9 t hk).2.2 hs hm) ⟨e0, m_4 hM, m_5 hM, m_6 hM, m_30 hM, m_35 hM, m_51 hM, m_52 hM, m_53 hM, trivial⟩ (by decide) (by decide) hM ?_
    rintro r w1 ⟨zs2_10, zs2_11, zs2_20, zs2_21, zs2_22, zs2_25, zs2_26, zs2_27, zs2_29, hr, hw⟩
    refine ⟨hr, [(0, [(mo, .inr (10, M1R ma (mZ c c2 tk vc ln rn zs2_10 zs2_11 zs2_20 zs2_21 zs2_22 zs2_25 zs2_26 zs2_27 zs2_29)))]), (4, [((ma 4), eI D 6 (nF c.kk))]), (5, [((ma 5), eI D 6 (nF c.vv))]), (6, [((ma 6), eI D 6 c.hd)]), (30, [((ma 30), eI D 8 (nF c.crf))]), (35, [((ma 35), eI D 12 (nF c.bo))]), (51, [((ma 51), eI D 6 ts)]), (52, [((ma 52), eI D 6 (nF tl))]), (53, [((ma 53), eJ D 360 (itm ti))])], rfl, hw, BM D mo ma c c2 tk ln tb vc ts tl ti rn f wd nu fr tt9 sf cls, ⟨j_0, j_4, j_5, j_6, j_30, j_35, j_51, j_52, j_53, trivial⟩, fun _ _ _ h => h, fun _ h => ⟨_, _, _, _, _, _, hR, h⟩⟩
set_option maxRecDepth 100000 in
set_option maxHeartbeats 4000000 in
theorem st_judge_4 {D : G} {xa : Nat → Nat} {vt tt : Nat → Option Nat} {c : CS} {c2 : CS} {tk : Int32} {ln : Nat} {tb : Nat → Int32} {vc : Nat} {vs : Nat → VS} {ts : Nat → Int32} {tl : Nat → Nat} {ti : Nat → Nat → Int64} {rn : Nat} {f : Nat → Int32} {mo : Nat} {ma : Nat → Nat} {bx bm : Nat → va_W} {t : Nat} {i : Int32} (hvt : ∀ k, k < 6 → vt k = some (xa (16 + 5 * k))) (htt : ∀ k, k < 6 → tt k = some (xa (82 + 2 * k))) (hA : AOk c c2 tk ln tb vc vs ts tl rn) (hX : IX D xa vt tt c c2 tk ln tb vc vs ts tl ti rn f bx) (hM9 : IM D mo ma c c2 tk ln tb vc vs ts tl ti rn f bm) (hk : t < 6) (hs : (ts t) = -1 ∨ (ts t) = 3) (hm : 0 < c.men) (hi : i < 0) : StR D xa vt tt mo ma mX9_judge mX10_judge [.int (nI t), .int i] bx bm (.int 100) := by
  have hT9 := hA.2.2.2.2.2.2.2.2.2.1
  refine ⟨c, c2, tk, ln, tb, vc, vs, ts, tl, ti, rn, f, hA, ?_, ?_⟩
  · skip
    refine Sp.fL (l := [(0, O9 xa tk vc), (1, C9 D xa 1 c), (17, [(xa 81, eT D 6 tt)]), (18 + t, TB D xa t (ts t) (tl t) (ti t))]) (B := BX D xa vt tt c c2 tk ln tb vc vs ts tl ti rn f) (sp_X9_judge_4 (D := D) (o := xa 0) (ca := xa 1) (im := xa 7) (tk := tk) (txo := xa 13) (ba := xa 46) (va := xa 15) (vc := vc) (nwk := xa 51) (nt := xa 58) (ro := xa 67) (lo := xa 77) (bd := xa 79) (ta := xa 81) (ck := xa 2) (cv := xa 3) (chd := xa 4) (cr := xa 5) (cb := xa 6) (c := c) (tt := tt) (ti := xa (82 + 2 * t)) (sort := ts t) (len := tl t) (it := xa (83 + 2 * t)) (f := ti t) (t := t) (i := i) hA.1 hk (htt t hk) (hT9 t hk).1 (hT9 t hk).2.1 (hT9 t hk).2.2 hs hm hi) ⟨x_0 hX, x_1 hX, x_17 hX, x_T hX hk, trivial⟩ (by simp [kyL] <;> omega) (fun x z => by simp only [kyL, List.map_cons, List.map_nil, List.mem_cons, List.not_mem_nil, or_false] at z; omega) hX ?_
    rintro r w1 ⟨hr, hw⟩
    exact ⟨hr, [(0, O9 xa tk vc), (1, C9 D xa 1 c), (17, [(xa 81, eT D 6 tt)]), (18 + t, TB D xa t (ts t) (tl t) (ti t))], rfl, hw, _, ⟨k_0, k_1, k_17, k_T hk, trivial⟩, fun _ _ _ h => h, fun _ h => h⟩
  · obtain ⟨wd, nu, fr, tt9, sf, cls, hR, hM⟩ := hM9
    obtain ⟨zs_10, zs_11, zs_20, zs_21, zs_22, zs_25, zs_26, zs_27, zs_29, e0⟩ := m_0 hM
    refine Sp.fL (l := [(0, [(mo, .inr (10, M1R ma (mZ c c2 tk vc ln rn zs_10 zs_11 zs_20 zs_21 zs_22 zs_25 zs_26 zs_27 zs_29)))]), (4, [((ma 4), eI D 6 (nF c.kk))]), (5, [((ma 5), eI D 6 (nF c.vv))]), (6, [((ma 6), eI D 6 c.hd)]), (30, [((ma 30), eI D 8 (nF c.crf))]), (35, [((ma 35), eI D 12 (nF c.bo))]), (51, [((ma 51), eI D 6 ts)]), (52, [((ma 52), eI D 6 (nF tl))]), (53, [((ma 53), eJ D 360 (itm ti))])]) (B := BM D mo ma c c2 tk ln tb vc ts tl ti rn f wd nu fr tt9 sf cls) (sp_X10_judge_4 (D := D) (mo := mo) (ma := ma) (c := c) (c2 := c2) (tk := tk) (vc := vc) (ln := ln) (rn := rn) (zs_10 := zs_10) (zs_11 := zs_11) (zs_20 := zs_20) (zs_21 := zs_21) (zs_22 := zs_22) (zs_25 := zs_25) (zs_26 := zs_26) (zs_27 := zs_27) (zs_29 := zs_29) (ts := ts) (tl := tl) (ti := ti) (t := t) (i := i) hA.1 hk (hT9 t hk).1 (hT9 t hk).2.1 (hT9 t hk).2.2 hs hm hi) ⟨e0, m_4 hM, m_5 hM, m_6 hM, m_30 hM, m_35 hM, m_51 hM, m_52 hM, m_53 hM, trivial⟩ (by decide) (by decide) hM ?_
    rintro r w1 ⟨zs2_10, zs2_11, zs2_20, zs2_21, zs2_22, zs2_25, zs2_26, zs2_27, zs2_29, hr, hw⟩
    refine ⟨hr, [(0, [(mo, .inr (10, M1R ma (mZ c c2 tk vc ln rn zs2_10 zs2_11 zs2_20 zs2_21 zs2_22 zs2_25 zs2_26 zs2_27 zs2_29)))]), (4, [((ma 4), eI D 6 (nF c.kk))]), (5, [((ma 5), eI D 6 (nF c.vv))]), (6, [((ma 6), eI D 6 c.hd)]), (30, [((ma 30), eI D 8 (nF c.crf))]), (35, [((ma 35), eI D 12 (nF c.bo))]), (51, [((ma 51), eI D 6 ts)]), (52, [((ma 52), eI D 6 (nF tl))]), (53, [((ma 53), eJ D 360 (itm ti))])], rfl, hw, BM D mo ma c c2 tk ln tb vc ts tl ti rn f wd nu fr tt9 sf cls, ⟨j_0, j_4, j_5, j_6, j_30, j_35, j_51, j_52, j_53, trivial⟩, fun _ _ _ h => h, fun _ h => ⟨_, _, _, _, _, _, hR, h⟩⟩
set_option maxRecDepth 100000 in
set_option maxHeartbeats 4000000 in
theorem st_judge_5 {D : G} {xa : Nat → Nat} {vt tt : Nat → Option Nat} {c : CS} {c2 : CS} {tk : Int32} {ln : Nat} {tb : Nat → Int32} {vc : Nat} {vs : Nat → VS} {ts : Nat → Int32} {tl : Nat → Nat} {ti : Nat → Nat → Int64} {rn : Nat} {f : Nat → Int32} {mo : Nat} {ma : Nat → Nat} {bx bm : Nat → va_W} {t : Nat} {i : Nat} (hvt : ∀ k, k < 6 → vt k = some (xa (16 + 5 * k))) (htt : ∀ k, k < 6 → tt k = some (xa (82 + 2 * k))) (hA : AOk c c2 tk ln tb vc vs ts tl rn) (hX : IX D xa vt tt c c2 tk ln tb vc vs ts tl ti rn f bx) (hM9 : IM D mo ma c c2 tk ln tb vc vs ts tl ti rn f bm) (hk : t < 6) (hs : (ts t) = -1 ∨ (ts t) = 3) (hi : i < 2147483648) : StR D xa vt tt mo ma mX9_judge mX10_judge [.int (nI t), .int (nI i)] bx bm (.int (judN c.hd (ti t) (tl t) i c.men 0)) := by
  have hT9 := hA.2.2.2.2.2.2.2.2.2.1
  refine ⟨c, c2, tk, ln, tb, vc, vs, ts, tl, ti, rn, f, hA, ?_, ?_⟩
  · skip
    refine Sp.fL (l := [(0, O9 xa tk vc), (1, C9 D xa 1 c), (17, [(xa 81, eT D 6 tt)]), (18 + t, TB D xa t (ts t) (tl t) (ti t))]) (B := BX D xa vt tt c c2 tk ln tb vc vs ts tl ti rn f) (sp_X9_judge_5 (D := D) (o := xa 0) (ca := xa 1) (im := xa 7) (tk := tk) (txo := xa 13) (ba := xa 46) (va := xa 15) (vc := vc) (nwk := xa 51) (nt := xa 58) (ro := xa 67) (lo := xa 77) (bd := xa 79) (ta := xa 81) (ck := xa 2) (cv := xa 3) (chd := xa 4) (cr := xa 5) (cb := xa 6) (c := c) (tt := tt) (ti := xa (82 + 2 * t)) (sort := ts t) (len := tl t) (it := xa (83 + 2 * t)) (f := ti t) (t := t) (i := i) hA.1 hk (htt t hk) (hT9 t hk).1 (hT9 t hk).2.1 (hT9 t hk).2.2 hs hi) ⟨x_0 hX, x_1 hX, x_17 hX, x_T hX hk, trivial⟩ (by simp [kyL] <;> omega) (fun x z => by simp only [kyL, List.map_cons, List.map_nil, List.mem_cons, List.not_mem_nil, or_false] at z; omega) hX ?_
    rintro r w1 ⟨hr, hw⟩
    exact ⟨hr, [(0, O9 xa tk vc), (1, C9 D xa 1 c), (17, [(xa 81, eT D 6 tt)]), (18 + t, TB D xa t (ts t) (tl t) (ti t))], rfl, hw, _, ⟨k_0, k_1, k_17, k_T hk, trivial⟩, fun _ _ _ h => h, fun _ h => h⟩
  · obtain ⟨wd, nu, fr, tt9, sf, cls, hR, hM⟩ := hM9
    obtain ⟨zs_10, zs_11, zs_20, zs_21, zs_22, zs_25, zs_26, zs_27, zs_29, e0⟩ := m_0 hM
    refine Sp.fL (l := [(0, [(mo, .inr (10, M1R ma (mZ c c2 tk vc ln rn zs_10 zs_11 zs_20 zs_21 zs_22 zs_25 zs_26 zs_27 zs_29)))]), (4, [((ma 4), eI D 6 (nF c.kk))]), (5, [((ma 5), eI D 6 (nF c.vv))]), (6, [((ma 6), eI D 6 c.hd)]), (30, [((ma 30), eI D 8 (nF c.crf))]), (35, [((ma 35), eI D 12 (nF c.bo))]), (51, [((ma 51), eI D 6 ts)]), (52, [((ma 52), eI D 6 (nF tl))]), (53, [((ma 53), eJ D 360 (itm ti))])]) (B := BM D mo ma c c2 tk ln tb vc ts tl ti rn f wd nu fr tt9 sf cls) (sp_X10_judge_5 (D := D) (mo := mo) (ma := ma) (c := c) (c2 := c2) (tk := tk) (vc := vc) (ln := ln) (rn := rn) (zs_10 := zs_10) (zs_11 := zs_11) (zs_20 := zs_20) (zs_21 := zs_21) (zs_22 := zs_22) (zs_25 := zs_25) (zs_26 := zs_26) (zs_27 := zs_27) (zs_29 := zs_29) (ts := ts) (tl := tl) (ti := ti) (t := t) (i := i) hA.1 hk (hT9 t hk).1 (hT9 t hk).2.1 (hT9 t hk).2.2 hs hi) ⟨e0, m_4 hM, m_5 hM, m_6 hM, m_30 hM, m_35 hM, m_51 hM, m_52 hM, m_53 hM, trivial⟩ (by decide) (by decide) hM ?_
    rintro r w1 ⟨zs2_10, zs2_11, zs2_20, zs2_21, zs2_22, zs2_25, zs2_26, zs2_27, zs2_29, hr, hw⟩
    refine ⟨hr, [(0, [(mo, .inr (10, M1R ma (mZ c c2 tk vc ln rn zs2_10 zs2_11 zs2_20 zs2_21 zs2_22 zs2_25 zs2_26 zs2_27 zs2_29)))]), (4, [((ma 4), eI D 6 (nF c.kk))]), (5, [((ma 5), eI D 6 (nF c.vv))]), (6, [((ma 6), eI D 6 c.hd)]), (30, [((ma 30), eI D 8 (nF c.crf))]), (35, [((ma 35), eI D 12 (nF c.bo))]), (51, [((ma 51), eI D 6 ts)]), (52, [((ma 52), eI D 6 (nF tl))]), (53, [((ma 53), eJ D 360 (itm ti))])], rfl, hw, BM D mo ma c c2 tk ln tb vc ts tl ti rn f wd nu fr tt9 sf cls, ⟨j_0, j_4, j_5, j_6, j_30, j_35, j_51, j_52, j_53, trivial⟩, fun _ _ _ h => h, fun _ h => ⟨_, _, _, _, _, _, hR, h⟩⟩
set_option maxRecDepth 100000 in
set_option maxHeartbeats 4000000 in
theorem st_image_1 {D : G} {xa : Nat → Nat} {vt tt : Nat → Option Nat} {c : CS} {c2 : CS} {tk : Int32} {ln : Nat} {tb : Nat → Int32} {vc : Nat} {vs : Nat → VS} {ts : Nat → Int32} {tl : Nat → Nat} {ti : Nat → Nat → Int64} {rn : Nat} {f : Nat → Int32} {mo : Nat} {ma : Nat → Nat} {bx bm : Nat → va_W}  (hvt : ∀ k, k < 6 → vt k = some (xa (16 + 5 * k))) (htt : ∀ k, k < 6 → tt k = some (xa (82 + 2 * k))) (hA : AOk c c2 tk ln tb vc vs ts tl rn) (hX : IX D xa vt tt c c2 tk ln tb vc vs ts tl ti rn f bx) (hM9 : IM D mo ma c c2 tk ln tb vc vs ts tl ti rn f bm)  : StR D xa vt tt mo ma mX9_image mX10_image [] bx bm (.int (nI c.men)) := by
  refine ⟨c, c, 1, ln, tb, vc, vs, ts, tl, ti, rn, f, ok_image hA, ?_, ?_⟩
  · skip
    refine Sp.fL (l := [(0, O9 xa tk vc), (1, C9 D xa 1 c), (2, C9 D xa 7 c2)]) (B := BX D xa vt tt c c2 tk ln tb vc vs ts tl ti rn f) (sp_X9_image_1 (D := D) (o := xa 0) (ca := xa 1) (im := xa 7) (tk := tk) (txo := xa 13) (ba := xa 46) (va := xa 15) (vc := vc) (nwk := xa 51) (nt := xa 58) (ro := xa 67) (lo := xa 77) (bd := xa 79) (ta := xa 81) (ck := xa 2) (cv := xa 3) (chd := xa 4) (cr := xa 5) (cb := xa 6) (c := c) (ik := xa 8) (iv := xa 9) (ih := xa 10) (ir := xa 11) (ib := xa 12) (c2 := c2) hA.1) ⟨x_0 hX, x_1 hX, x_2 hX, trivial⟩ (by decide) (by decide) hX ?_
    rintro r w1 ⟨hr, hw⟩
    exact ⟨hr, [(0, O9 xa 1 vc), (1, C9 D xa 1 c), (2, C9 D xa 7 c)], rfl, hw, _, ⟨k_0, k_1, k_2, trivial⟩, fun i w hi h => BX_i (fun z => hi (by rw [z]; simp [kyL])) (fun z => hi (by rw [z]; simp [kyL])) h, fun _ h => h⟩
  · obtain ⟨wd, nu, fr, tt9, sf, cls, hR, hM⟩ := hM9
    obtain ⟨zs_10, zs_11, zs_20, zs_21, zs_22, zs_25, zs_26, zs_27, zs_29, e0⟩ := m_0 hM
    refine Sp.fL (l := [(0, [(mo, .inr (10, M1R ma (mZ c c2 tk vc ln rn zs_10 zs_11 zs_20 zs_21 zs_22 zs_25 zs_26 zs_27 zs_29)))]), (4, [((ma 4), eI D 6 (nF c.kk))]), (5, [((ma 5), eI D 6 (nF c.vv))]), (6, [((ma 6), eI D 6 c.hd)]), (30, [((ma 30), eI D 8 (nF c.crf))]), (35, [((ma 35), eI D 12 (nF c.bo))]), (44, [((ma 44), eI D 6 (nF c2.kk))]), (45, [((ma 45), eI D 6 (nF c2.vv))]), (46, [((ma 46), eI D 6 c2.hd)]), (47, [((ma 47), eI D 8 (nF c2.crf))]), (48, [((ma 48), eI D 12 (nF c2.bo))])]) (B := BM D mo ma c c2 tk ln tb vc ts tl ti rn f wd nu fr tt9 sf cls) (sp_X10_image_1 (D := D) (mo := mo) (ma := ma) (c := c) (c2 := c2) (tk := tk) (vc := vc) (ln := ln) (rn := rn) (zs_10 := zs_10) (zs_11 := zs_11) (zs_20 := zs_20) (zs_21 := zs_21) (zs_22 := zs_22) (zs_25 := zs_25) (zs_26 := zs_26) (zs_27 := zs_27) (zs_29 := zs_29) hA.1) ⟨e0, m_4 hM, m_5 hM, m_6 hM, m_30 hM, m_35 hM, m_44 hM, m_45 hM, m_46 hM, m_47 hM, m_48 hM, trivial⟩ (by decide) (by decide) hM ?_
    rintro r w1 ⟨zs2_10, zs2_11, zs2_20, zs2_21, zs2_22, zs2_25, zs2_26, zs2_27, zs2_29, hr, hw⟩
    refine ⟨hr, [(0, [(mo, .inr (10, M1R ma (mZ c c 1 vc ln rn zs2_10 zs2_11 zs2_20 zs2_21 zs2_22 zs2_25 zs2_26 zs2_27 zs2_29)))]), (4, [((ma 4), eI D 6 (nF c.kk))]), (5, [((ma 5), eI D 6 (nF c.vv))]), (6, [((ma 6), eI D 6 c.hd)]), (30, [((ma 30), eI D 8 (nF c.crf))]), (35, [((ma 35), eI D 12 (nF c.bo))]), (44, [((ma 44), eI D 6 (nF c.kk))]), (45, [((ma 45), eI D 6 (nF c.vv))]), (46, [((ma 46), eI D 6 c.hd)]), (47, [((ma 47), eI D 8 (nF c.crf))]), (48, [((ma 48), eI D 12 (nF c.bo))])], rfl, hw, BM D mo ma c c 1 ln tb vc ts tl ti rn f wd nu fr tt9 sf cls, ⟨j_0, j_4, j_5, j_6, j_30, j_35, j_44, j_45, j_46, j_47, j_48, trivial⟩, ?_, fun _ h => ⟨_, _, _, _, _, _, hR, h⟩⟩
    exact fun i w hi h => by
      have h0 : ¬ i = 0 := fun z => hi (by rw [z]; decide)
      have h4 : ¬ i = 4 := fun z => hi (by rw [z]; decide)
      have h5 : ¬ i = 5 := fun z => hi (by rw [z]; decide)
      have h6 : ¬ i = 6 := fun z => hi (by rw [z]; decide)
      have h30 : ¬ i = 30 := fun z => hi (by rw [z]; decide)
      have h35 : ¬ i = 35 := fun z => hi (by rw [z]; decide)
      have h44 : ¬ i = 44 := fun z => hi (by rw [z]; decide)
      have h45 : ¬ i = 45 := fun z => hi (by rw [z]; decide)
      have h46 : ¬ i = 46 := fun z => hi (by rw [z]; decide)
      have h47 : ¬ i = 47 := fun z => hi (by rw [z]; decide)
      have h48 : ¬ i = 48 := fun z => hi (by rw [z]; decide)
      unfold BM at h ⊢
      simp only [if_neg h0, if_neg h4, if_neg h5, if_neg h6, if_neg h30, if_neg h35, if_neg h44, if_neg h45, if_neg h46, if_neg h47, if_neg h48] at h ⊢
      exact h
set_option maxRecDepth 100000 in
set_option maxHeartbeats 4000000 in
theorem st_undo_1 {D : G} {xa : Nat → Nat} {vt tt : Nat → Option Nat} {c : CS} {c2 : CS} {tk : Int32} {ln : Nat} {tb : Nat → Int32} {vc : Nat} {vs : Nat → VS} {ts : Nat → Int32} {tl : Nat → Nat} {ti : Nat → Nat → Int64} {rn : Nat} {f : Nat → Int32} {mo : Nat} {ma : Nat → Nat} {bx bm : Nat → va_W}  (hvt : ∀ k, k < 6 → vt k = some (xa (16 + 5 * k))) (htt : ∀ k, k < 6 → tt k = some (xa (82 + 2 * k))) (hA : AOk c c2 tk ln tb vc vs ts tl rn) (hX : IX D xa vt tt c c2 tk ln tb vc vs ts tl ti rn f bx) (hM9 : IM D mo ma c c2 tk ln tb vc vs ts tl ti rn f bm) (ht : tk = 0) : StR D xa vt tt mo ma mX9_undo mX10_undo [] bx bm (.int (-3)) := by
  refine ⟨c, c2, tk, ln, tb, vc, vs, ts, tl, ti, rn, f, hA, ?_, ?_⟩
  · skip
    refine Sp.fL (l := [(0, O9 xa tk vc)]) (B := BX D xa vt tt c c2 tk ln tb vc vs ts tl ti rn f) (sp_X9_undo_1 (D := D) (o := xa 0) (ca := xa 1) (im := xa 7) (tk := tk) (txo := xa 13) (ba := xa 46) (va := xa 15) (vc := vc) (nwk := xa 51) (nt := xa 58) (ro := xa 67) (lo := xa 77) (bd := xa 79) (ta := xa 81) ht) ⟨x_0 hX, trivial⟩ (by decide) (by decide) hX ?_
    rintro r w1 ⟨hr, hw⟩
    exact ⟨hr, [(0, O9 xa tk vc)], rfl, hw, _, ⟨k_0, trivial⟩, fun _ _ _ h => h, fun _ h => h⟩
  · obtain ⟨wd, nu, fr, tt9, sf, cls, hR, hM⟩ := hM9
    obtain ⟨zs_10, zs_11, zs_20, zs_21, zs_22, zs_25, zs_26, zs_27, zs_29, e0⟩ := m_0 hM
    refine Sp.fL (l := [(0, [(mo, .inr (10, M1R ma (mZ c c2 tk vc ln rn zs_10 zs_11 zs_20 zs_21 zs_22 zs_25 zs_26 zs_27 zs_29)))])]) (B := BM D mo ma c c2 tk ln tb vc ts tl ti rn f wd nu fr tt9 sf cls) (sp_X10_undo_1 (D := D) (mo := mo) (ma := ma) (c := c) (c2 := c2) (tk := tk) (vc := vc) (ln := ln) (rn := rn) (zs_10 := zs_10) (zs_11 := zs_11) (zs_20 := zs_20) (zs_21 := zs_21) (zs_22 := zs_22) (zs_25 := zs_25) (zs_26 := zs_26) (zs_27 := zs_27) (zs_29 := zs_29) ht) ⟨e0, trivial⟩ (by decide) (by decide) hM ?_
    rintro r w1 ⟨zs2_10, zs2_11, zs2_20, zs2_21, zs2_22, zs2_25, zs2_26, zs2_27, zs2_29, hr, hw⟩
    refine ⟨hr, [(0, [(mo, .inr (10, M1R ma (mZ c c2 tk vc ln rn zs2_10 zs2_11 zs2_20 zs2_21 zs2_22 zs2_25 zs2_26 zs2_27 zs2_29)))])], rfl, hw, BM D mo ma c c2 tk ln tb vc ts tl ti rn f wd nu fr tt9 sf cls, ⟨j_0, trivial⟩, fun _ _ _ h => h, fun _ h => ⟨_, _, _, _, _, _, hR, h⟩⟩
set_option maxRecDepth 100000 in
set_option maxHeartbeats 4000000 in
theorem st_undo_2 {D : G} {xa : Nat → Nat} {vt tt : Nat → Option Nat} {c : CS} {c2 : CS} {tk : Int32} {ln : Nat} {tb : Nat → Int32} {vc : Nat} {vs : Nat → VS} {ts : Nat → Int32} {tl : Nat → Nat} {ti : Nat → Nat → Int64} {rn : Nat} {f : Nat → Int32} {mo : Nat} {ma : Nat → Nat} {bx bm : Nat → va_W}  (hvt : ∀ k, k < 6 → vt k = some (xa (16 + 5 * k))) (htt : ∀ k, k < 6 → tt k = some (xa (82 + 2 * k))) (hA : AOk c c2 tk ln tb vc vs ts tl rn) (hX : IX D xa vt tt c c2 tk ln tb vc vs ts tl ti rn f bx) (hM9 : IM D mo ma c c2 tk ln tb vc vs ts tl ti rn f bm) (ht : tk = 1) : StR D xa vt tt mo ma mX9_undo mX10_undo [] bx bm (.int (nI c2.men)) := by
  refine ⟨c2, c2, tk, ln, tb, vc, vs, ts, tl, ti, rn, f, ok_undo hA, ?_, ?_⟩
  · skip
    refine Sp.fL (l := [(0, O9 xa tk vc), (1, C9 D xa 1 c), (2, C9 D xa 7 c2)]) (B := BX D xa vt tt c c2 tk ln tb vc vs ts tl ti rn f) (sp_X9_undo_2 (D := D) (o := xa 0) (ca := xa 1) (im := xa 7) (tk := tk) (txo := xa 13) (ba := xa 46) (va := xa 15) (vc := vc) (nwk := xa 51) (nt := xa 58) (ro := xa 67) (lo := xa 77) (bd := xa 79) (ta := xa 81) (ck := xa 2) (cv := xa 3) (chd := xa 4) (cr := xa 5) (cb := xa 6) (c := c) (ik := xa 8) (iv := xa 9) (ih := xa 10) (ir := xa 11) (ib := xa 12) (c2 := c2) hA.1 ht) ⟨x_0 hX, x_1 hX, x_2 hX, trivial⟩ (by decide) (by decide) hX ?_
    rintro r w1 ⟨hr, hw⟩
    exact ⟨hr, [(0, O9 xa tk vc), (1, C9 D xa 1 c2), (2, C9 D xa 7 c2)], rfl, hw, _, ⟨k_0, k_1, k_2, trivial⟩, fun i w hi h => BX_c (fun z => hi (by rw [z]; simp [kyL])) h, fun _ h => h⟩
  · obtain ⟨wd, nu, fr, tt9, sf, cls, hR, hM⟩ := hM9
    obtain ⟨zs_10, zs_11, zs_20, zs_21, zs_22, zs_25, zs_26, zs_27, zs_29, e0⟩ := m_0 hM
    refine Sp.fL (l := [(0, [(mo, .inr (10, M1R ma (mZ c c2 tk vc ln rn zs_10 zs_11 zs_20 zs_21 zs_22 zs_25 zs_26 zs_27 zs_29)))]), (4, [((ma 4), eI D 6 (nF c.kk))]), (5, [((ma 5), eI D 6 (nF c.vv))]), (6, [((ma 6), eI D 6 c.hd)]), (30, [((ma 30), eI D 8 (nF c.crf))]), (35, [((ma 35), eI D 12 (nF c.bo))]), (44, [((ma 44), eI D 6 (nF c2.kk))]), (45, [((ma 45), eI D 6 (nF c2.vv))]), (46, [((ma 46), eI D 6 c2.hd)]), (47, [((ma 47), eI D 8 (nF c2.crf))]), (48, [((ma 48), eI D 12 (nF c2.bo))])]) (B := BM D mo ma c c2 tk ln tb vc ts tl ti rn f wd nu fr tt9 sf cls) (sp_X10_undo_2 (D := D) (mo := mo) (ma := ma) (c := c) (c2 := c2) (tk := tk) (vc := vc) (ln := ln) (rn := rn) (zs_10 := zs_10) (zs_11 := zs_11) (zs_20 := zs_20) (zs_21 := zs_21) (zs_22 := zs_22) (zs_25 := zs_25) (zs_26 := zs_26) (zs_27 := zs_27) (zs_29 := zs_29) hA.1 ht) ⟨e0, m_4 hM, m_5 hM, m_6 hM, m_30 hM, m_35 hM, m_44 hM, m_45 hM, m_46 hM, m_47 hM, m_48 hM, trivial⟩ (by decide) (by decide) hM ?_
    rintro r w1 ⟨zs2_10, zs2_11, zs2_20, zs2_21, zs2_22, zs2_25, zs2_26, zs2_27, zs2_29, hr, hw⟩
    refine ⟨hr, [(0, [(mo, .inr (10, M1R ma (mZ c2 c2 tk vc ln rn zs2_10 zs2_11 zs2_20 zs2_21 zs2_22 zs2_25 zs2_26 zs2_27 zs2_29)))]), (4, [((ma 4), eI D 6 (nF c2.kk))]), (5, [((ma 5), eI D 6 (nF c2.vv))]), (6, [((ma 6), eI D 6 c2.hd)]), (30, [((ma 30), eI D 8 (nF c2.crf))]), (35, [((ma 35), eI D 12 (nF c2.bo))]), (44, [((ma 44), eI D 6 (nF c2.kk))]), (45, [((ma 45), eI D 6 (nF c2.vv))]), (46, [((ma 46), eI D 6 c2.hd)]), (47, [((ma 47), eI D 8 (nF c2.crf))]), (48, [((ma 48), eI D 12 (nF c2.bo))])], rfl, hw, BM D mo ma c2 c2 tk ln tb vc ts tl ti rn f wd nu fr tt9 sf cls, ⟨j_0, j_4, j_5, j_6, j_30, j_35, j_44, j_45, j_46, j_47, j_48, trivial⟩, ?_, fun _ h => ⟨_, _, _, _, _, _, hR, h⟩⟩
    exact fun i w hi h => by
      have h0 : ¬ i = 0 := fun z => hi (by rw [z]; decide)
      have h4 : ¬ i = 4 := fun z => hi (by rw [z]; decide)
      have h5 : ¬ i = 5 := fun z => hi (by rw [z]; decide)
      have h6 : ¬ i = 6 := fun z => hi (by rw [z]; decide)
      have h30 : ¬ i = 30 := fun z => hi (by rw [z]; decide)
      have h35 : ¬ i = 35 := fun z => hi (by rw [z]; decide)
      have h44 : ¬ i = 44 := fun z => hi (by rw [z]; decide)
      have h45 : ¬ i = 45 := fun z => hi (by rw [z]; decide)
      have h46 : ¬ i = 46 := fun z => hi (by rw [z]; decide)
      have h47 : ¬ i = 47 := fun z => hi (by rw [z]; decide)
      have h48 : ¬ i = 48 := fun z => hi (by rw [z]; decide)
      unfold BM at h ⊢
      simp only [if_neg h0, if_neg h4, if_neg h5, if_neg h6, if_neg h30, if_neg h35, if_neg h44, if_neg h45, if_neg h46, if_neg h47, if_neg h48] at h ⊢
      exact h
set_option maxRecDepth 100000 in
set_option maxHeartbeats 4000000 in
theorem st_act_1 {D : G} {xa : Nat → Nat} {vt tt : Nat → Option Nat} {c : CS} {c2 : CS} {tk : Int32} {ln : Nat} {tb : Nat → Int32} {vc : Nat} {vs : Nat → VS} {ts : Nat → Int32} {tl : Nat → Nat} {ti : Nat → Nat → Int64} {rn : Nat} {f : Nat → Int32} {mo : Nat} {ma : Nat → Nat} {bx bm : Nat → va_W} {i : Int32} {a : Int32} {x : Int32} (hvt : ∀ k, k < 6 → vt k = some (xa (16 + 5 * k))) (htt : ∀ k, k < 6 → tt k = some (xa (82 + 2 * k))) (hA : AOk c c2 tk ln tb vc vs ts tl rn) (hX : IX D xa vt tt c c2 tk ln tb vc vs ts tl ti rn f bx) (hM9 : IM D mo ma c c2 tk ln tb vc vs ts tl ti rn f bm) (hi : ¬ isIx i c.men) : StR D xa vt tt mo ma mX9_act mX10_act [.int i, .int a, .int x] bx bm (.int 0) := by
  refine ⟨c, c2, tk, ln, tb, vc, vs, ts, tl, ti, 0, f, ok_rn (by decide) hA, ?_, ?_⟩
  · skip
    obtain ⟨y1, y2, y3, e16⟩ := x_16 hX
    refine Sp.fL (l := [(0, O9 xa tk vc), (1, C9 D xa 1 c), (16, B9 D xa rn f y1 y2 y3)]) (B := BX D xa vt tt c c2 tk ln tb vc vs ts tl ti rn f) (sp_X9_act_1 (D := D) (o := xa 0) (ca := xa 1) (im := xa 7) (tk := tk) (txo := xa 13) (ba := xa 46) (va := xa 15) (vc := vc) (nwk := xa 51) (nt := xa 58) (ro := xa 67) (lo := xa 77) (bd := xa 79) (ta := xa 81) (ck := xa 2) (cv := xa 3) (chd := xa 4) (cr := xa 5) (cb := xa 6) (c := c) (tr := xa 80) (rn := rn) (bi := y1) (bk9 := y2) (bv := y3) (f := f) (i := i) (a := a) (x := x) hA.1 hi) ⟨x_0 hX, x_1 hX, e16, trivial⟩ (by decide) (by decide) hX ?_
    rintro r w1 ⟨bi1, bk1, bv1, hr, hw⟩
    exact ⟨hr, [(0, O9 xa tk vc), (1, C9 D xa 1 c), (16, B9 D xa 0 f bi1 bk1 bv1)], rfl, hw, _, ⟨k_0, k_1, k_16, trivial⟩, fun i w hi h => BX_bd (fun z => hi (by rw [z]; simp [kyL])) h, fun _ h => h⟩
  · obtain ⟨wd, nu, fr, tt9, sf, cls, hR, hM⟩ := hM9
    obtain ⟨zs_10, zs_11, zs_20, zs_21, zs_22, zs_25, zs_26, zs_27, zs_29, e0⟩ := m_0 hM
    refine Sp.fL (l := [(0, [(mo, .inr (10, M1R ma (mZ c c2 tk vc ln rn zs_10 zs_11 zs_20 zs_21 zs_22 zs_25 zs_26 zs_27 zs_29)))]), (4, [((ma 4), eI D 6 (nF c.kk))]), (5, [((ma 5), eI D 6 (nF c.vv))]), (6, [((ma 6), eI D 6 c.hd)]), (30, [((ma 30), eI D 8 (nF c.crf))]), (35, [((ma 35), eI D 12 (nF c.bo))]), (50, [((ma 50), eI D 20 f)])]) (B := BM D mo ma c c2 tk ln tb vc ts tl ti rn f wd nu fr tt9 sf cls) (sp_X10_act_1 (D := D) (mo := mo) (ma := ma) (c := c) (c2 := c2) (tk := tk) (vc := vc) (ln := ln) (rn := rn) (zs_10 := zs_10) (zs_11 := zs_11) (zs_20 := zs_20) (zs_21 := zs_21) (zs_22 := zs_22) (zs_25 := zs_25) (zs_26 := zs_26) (zs_27 := zs_27) (zs_29 := zs_29) (f := f) (i := i) (a := a) (x := x) hA.1 hi) ⟨e0, m_4 hM, m_5 hM, m_6 hM, m_30 hM, m_35 hM, m_50 hM, trivial⟩ (by decide) (by decide) hM ?_
    rintro r w1 ⟨zs2_10, zs2_11, zs2_20, zs2_21, zs2_22, zs2_25, zs2_26, zs2_27, zs2_29, hr, hw⟩
    refine ⟨hr, [(0, [(mo, .inr (10, M1R ma (mZ c c2 tk vc ln 0 zs2_10 zs2_11 zs2_20 zs2_21 zs2_22 zs2_25 zs2_26 zs2_27 zs2_29)))]), (4, [((ma 4), eI D 6 (nF c.kk))]), (5, [((ma 5), eI D 6 (nF c.vv))]), (6, [((ma 6), eI D 6 c.hd)]), (30, [((ma 30), eI D 8 (nF c.crf))]), (35, [((ma 35), eI D 12 (nF c.bo))]), (50, [((ma 50), eI D 20 f)])], rfl, hw, BM D mo ma c c2 tk ln tb vc ts tl ti 0 f wd nu fr tt9 sf cls, ⟨j_0, j_4, j_5, j_6, j_30, j_35, j_50, trivial⟩, ?_, fun _ h => ⟨_, _, _, _, _, _, hR, h⟩⟩
    exact fun i w hi h => by
      have h0 : ¬ i = 0 := fun z => hi (by rw [z]; decide)
      have h4 : ¬ i = 4 := fun z => hi (by rw [z]; decide)
      have h5 : ¬ i = 5 := fun z => hi (by rw [z]; decide)
      have h6 : ¬ i = 6 := fun z => hi (by rw [z]; decide)
      have h30 : ¬ i = 30 := fun z => hi (by rw [z]; decide)
      have h35 : ¬ i = 35 := fun z => hi (by rw [z]; decide)
      have h50 : ¬ i = 50 := fun z => hi (by rw [z]; decide)
      unfold BM at h ⊢
      simp only [if_neg h0, if_neg h4, if_neg h5, if_neg h6, if_neg h30, if_neg h35, if_neg h50] at h ⊢
      exact h
set_option maxRecDepth 100000 in
set_option maxHeartbeats 4000000 in
theorem st_act_2 {D : G} {xa : Nat → Nat} {vt tt : Nat → Option Nat} {c : CS} {c2 : CS} {tk : Int32} {ln : Nat} {tb : Nat → Int32} {vc : Nat} {vs : Nat → VS} {ts : Nat → Int32} {tl : Nat → Nat} {ti : Nat → Nat → Int64} {rn : Nat} {f : Nat → Int32} {mo : Nat} {ma : Nat → Nat} {bx bm : Nat → va_W} {i : Nat} {a : Int32} {x : Int32} (hvt : ∀ k, k < 6 → vt k = some (xa (16 + 5 * k))) (htt : ∀ k, k < 6 → tt k = some (xa (82 + 2 * k))) (hA : AOk c c2 tk ln tb vc vs ts tl rn) (hX : IX D xa vt tt c c2 tk ln tb vc vs ts tl ti rn f bx) (hM9 : IM D mo ma c c2 tk ln tb vc vs ts tl ti rn f bm) (hi : i < c.men) (ha : ¬ isIx a 3) : StR D xa vt tt mo ma mX9_act mX10_act [.int (nI i), .int a, .int x] bx bm (.int 0) := by
  refine ⟨c, c2, tk, ln, tb, vc, vs, ts, tl, ti, 0, f, ok_rn (by decide) hA, ?_, ?_⟩
  · skip
    obtain ⟨y1, y2, y3, e16⟩ := x_16 hX
    refine Sp.fL (l := [(0, O9 xa tk vc), (1, C9 D xa 1 c), (16, B9 D xa rn f y1 y2 y3)]) (B := BX D xa vt tt c c2 tk ln tb vc vs ts tl ti rn f) (sp_X9_act_2 (D := D) (o := xa 0) (ca := xa 1) (im := xa 7) (tk := tk) (txo := xa 13) (ba := xa 46) (va := xa 15) (vc := vc) (nwk := xa 51) (nt := xa 58) (ro := xa 67) (lo := xa 77) (bd := xa 79) (ta := xa 81) (ck := xa 2) (cv := xa 3) (chd := xa 4) (cr := xa 5) (cb := xa 6) (c := c) (tr := xa 80) (rn := rn) (bi := y1) (bk9 := y2) (bv := y3) (f := f) (i := i) (a := a) (x := x) hA.1 hi ha) ⟨x_0 hX, x_1 hX, e16, trivial⟩ (by decide) (by decide) hX ?_
    rintro r w1 ⟨bi1, bk1, bv1, hr, hw⟩
    exact ⟨hr, [(0, O9 xa tk vc), (1, C9 D xa 1 c), (16, B9 D xa 0 f bi1 bk1 bv1)], rfl, hw, _, ⟨k_0, k_1, k_16, trivial⟩, fun i w hi h => BX_bd (fun z => hi (by rw [z]; simp [kyL])) h, fun _ h => h⟩
  · obtain ⟨wd, nu, fr, tt9, sf, cls, hR, hM⟩ := hM9
    obtain ⟨zs_10, zs_11, zs_20, zs_21, zs_22, zs_25, zs_26, zs_27, zs_29, e0⟩ := m_0 hM
    refine Sp.fL (l := [(0, [(mo, .inr (10, M1R ma (mZ c c2 tk vc ln rn zs_10 zs_11 zs_20 zs_21 zs_22 zs_25 zs_26 zs_27 zs_29)))]), (4, [((ma 4), eI D 6 (nF c.kk))]), (5, [((ma 5), eI D 6 (nF c.vv))]), (6, [((ma 6), eI D 6 c.hd)]), (30, [((ma 30), eI D 8 (nF c.crf))]), (35, [((ma 35), eI D 12 (nF c.bo))]), (50, [((ma 50), eI D 20 f)])]) (B := BM D mo ma c c2 tk ln tb vc ts tl ti rn f wd nu fr tt9 sf cls) (sp_X10_act_2 (D := D) (mo := mo) (ma := ma) (c := c) (c2 := c2) (tk := tk) (vc := vc) (ln := ln) (rn := rn) (zs_10 := zs_10) (zs_11 := zs_11) (zs_20 := zs_20) (zs_21 := zs_21) (zs_22 := zs_22) (zs_25 := zs_25) (zs_26 := zs_26) (zs_27 := zs_27) (zs_29 := zs_29) (f := f) (i := i) (a := a) (x := x) hA.1 hi ha) ⟨e0, m_4 hM, m_5 hM, m_6 hM, m_30 hM, m_35 hM, m_50 hM, trivial⟩ (by decide) (by decide) hM ?_
    rintro r w1 ⟨zs2_10, zs2_11, zs2_20, zs2_21, zs2_22, zs2_25, zs2_26, zs2_27, zs2_29, hr, hw⟩
    refine ⟨hr, [(0, [(mo, .inr (10, M1R ma (mZ c c2 tk vc ln 0 zs2_10 zs2_11 zs2_20 zs2_21 zs2_22 zs2_25 zs2_26 zs2_27 zs2_29)))]), (4, [((ma 4), eI D 6 (nF c.kk))]), (5, [((ma 5), eI D 6 (nF c.vv))]), (6, [((ma 6), eI D 6 c.hd)]), (30, [((ma 30), eI D 8 (nF c.crf))]), (35, [((ma 35), eI D 12 (nF c.bo))]), (50, [((ma 50), eI D 20 f)])], rfl, hw, BM D mo ma c c2 tk ln tb vc ts tl ti 0 f wd nu fr tt9 sf cls, ⟨j_0, j_4, j_5, j_6, j_30, j_35, j_50, trivial⟩, ?_, fun _ h => ⟨_, _, _, _, _, _, hR, h⟩⟩
    exact fun i w hi h => by
      have h0 : ¬ i = 0 := fun z => hi (by rw [z]; decide)
      have h4 : ¬ i = 4 := fun z => hi (by rw [z]; decide)
      have h5 : ¬ i = 5 := fun z => hi (by rw [z]; decide)
      have h6 : ¬ i = 6 := fun z => hi (by rw [z]; decide)
      have h30 : ¬ i = 30 := fun z => hi (by rw [z]; decide)
      have h35 : ¬ i = 35 := fun z => hi (by rw [z]; decide)
      have h50 : ¬ i = 50 := fun z => hi (by rw [z]; decide)
      unfold BM at h ⊢
      simp only [if_neg h0, if_neg h4, if_neg h5, if_neg h6, if_neg h30, if_neg h35, if_neg h50] at h ⊢
      exact h
set_option maxRecDepth 100000 in
set_option maxHeartbeats 4000000 in
theorem st_act_3 {D : G} {xa : Nat → Nat} {vt tt : Nat → Option Nat} {c : CS} {c2 : CS} {tk : Int32} {ln : Nat} {tb : Nat → Int32} {vc : Nat} {vs : Nat → VS} {ts : Nat → Int32} {tl : Nat → Nat} {ti : Nat → Nat → Int64} {rn : Nat} {f : Nat → Int32} {mo : Nat} {ma : Nat → Nat} {bx bm : Nat → va_W} {i : Nat} {x : Int32} (hvt : ∀ k, k < 6 → vt k = some (xa (16 + 5 * k))) (htt : ∀ k, k < 6 → tt k = some (xa (82 + 2 * k))) (hA : AOk c c2 tk ln tb vc vs ts tl rn) (hX : IX D xa vt tt c c2 tk ln tb vc vs ts tl ti rn f bx) (hM9 : IM D mo ma c c2 tk ln tb vc vs ts tl ti rn f bm) (hi : i < c.men) : StR D xa vt tt mo ma mX9_act mX10_act [.int (nI i), .int 0, .int x] bx bm (.int (wV (nI i) (nI (c.vv i)) x (c.kk i))) := by
  refine ⟨c, c2, tk, ln, tb, vc, vs, ts, tl, ti, ((wL (c.kk i)).length), (trW f 0 (wL (c.kk i))), ok_rn (by have := wL_len _ (hA.1.2.1 i (by have := hA.1.1; omega)); omega) hA, ?_, ?_⟩
  · skip
    obtain ⟨y1, y2, y3, e16⟩ := x_16 hX
    refine Sp.fL (l := [(0, O9 xa tk vc), (1, C9 D xa 1 c), (16, B9 D xa rn f y1 y2 y3)]) (B := BX D xa vt tt c c2 tk ln tb vc vs ts tl ti rn f) (sp_X9_act_3 (D := D) (o := xa 0) (ca := xa 1) (im := xa 7) (tk := tk) (txo := xa 13) (ba := xa 46) (va := xa 15) (vc := vc) (nwk := xa 51) (nt := xa 58) (ro := xa 67) (lo := xa 77) (bd := xa 79) (ta := xa 81) (ck := xa 2) (cv := xa 3) (chd := xa 4) (cr := xa 5) (cb := xa 6) (c := c) (tr := xa 80) (rn := rn) (bi := y1) (bk9 := y2) (bv := y3) (f := f) (i := i) (x := x) hA.1 hi) ⟨x_0 hX, x_1 hX, e16, trivial⟩ (by decide) (by decide) hX ?_
    rintro r w1 ⟨bi1, bk1, bv1, hr, hw⟩
    exact ⟨hr, [(0, O9 xa tk vc), (1, C9 D xa 1 c), (16, B9 D xa ((wL (c.kk i)).length) (trW f 0 (wL (c.kk i))) bi1 bk1 bv1)], rfl, hw, _, ⟨k_0, k_1, k_16, trivial⟩, fun i w hi h => BX_bd (fun z => hi (by rw [z]; simp [kyL])) h, fun _ h => h⟩
  · obtain ⟨wd, nu, fr, tt9, sf, cls, hR, hM⟩ := hM9
    obtain ⟨zs_10, zs_11, zs_20, zs_21, zs_22, zs_25, zs_26, zs_27, zs_29, e0⟩ := m_0 hM
    refine Sp.fL (l := [(0, [(mo, .inr (10, M1R ma (mZ c c2 tk vc ln rn zs_10 zs_11 zs_20 zs_21 zs_22 zs_25 zs_26 zs_27 zs_29)))]), (4, [((ma 4), eI D 6 (nF c.kk))]), (5, [((ma 5), eI D 6 (nF c.vv))]), (6, [((ma 6), eI D 6 c.hd)]), (30, [((ma 30), eI D 8 (nF c.crf))]), (35, [((ma 35), eI D 12 (nF c.bo))]), (50, [((ma 50), eI D 20 f)])]) (B := BM D mo ma c c2 tk ln tb vc ts tl ti rn f wd nu fr tt9 sf cls) (sp_X10_act_3 (D := D) (mo := mo) (ma := ma) (c := c) (c2 := c2) (tk := tk) (vc := vc) (ln := ln) (rn := rn) (zs_10 := zs_10) (zs_11 := zs_11) (zs_20 := zs_20) (zs_21 := zs_21) (zs_22 := zs_22) (zs_25 := zs_25) (zs_26 := zs_26) (zs_27 := zs_27) (zs_29 := zs_29) (f := f) (i := i) (x := x) hA.1 hi) ⟨e0, m_4 hM, m_5 hM, m_6 hM, m_30 hM, m_35 hM, m_50 hM, trivial⟩ (by decide) (by decide) hM ?_
    rintro r w1 ⟨zs2_10, zs2_11, zs2_20, zs2_21, zs2_22, zs2_25, zs2_26, zs2_27, zs2_29, hr, hw⟩
    refine ⟨hr, [(0, [(mo, .inr (10, M1R ma (mZ c c2 tk vc ln ((wL (c.kk i)).length) zs2_10 zs2_11 zs2_20 zs2_21 zs2_22 zs2_25 zs2_26 zs2_27 zs2_29)))]), (4, [((ma 4), eI D 6 (nF c.kk))]), (5, [((ma 5), eI D 6 (nF c.vv))]), (6, [((ma 6), eI D 6 c.hd)]), (30, [((ma 30), eI D 8 (nF c.crf))]), (35, [((ma 35), eI D 12 (nF c.bo))]), (50, [((ma 50), eI D 20 (trW f 0 (wL (c.kk i))))])], rfl, hw, BM D mo ma c c2 tk ln tb vc ts tl ti ((wL (c.kk i)).length) (trW f 0 (wL (c.kk i))) wd nu fr tt9 sf cls, ⟨j_0, j_4, j_5, j_6, j_30, j_35, j_50, trivial⟩, ?_, fun _ h => ⟨_, _, _, _, _, _, hR, h⟩⟩
    exact fun i w hi h => by
      have h0 : ¬ i = 0 := fun z => hi (by rw [z]; decide)
      have h4 : ¬ i = 4 := fun z => hi (by rw [z]; decide)
      have h5 : ¬ i = 5 := fun z => hi (by rw [z]; decide)
      have h6 : ¬ i = 6 := fun z => hi (by rw [z]; decide)
      have h30 : ¬ i = 30 := fun z => hi (by rw [z]; decide)
      have h35 : ¬ i = 35 := fun z => hi (by rw [z]; decide)
      have h50 : ¬ i = 50 := fun z => hi (by rw [z]; decide)
      unfold BM at h ⊢
      simp only [if_neg h0, if_neg h4, if_neg h5, if_neg h6, if_neg h30, if_neg h35, if_neg h50] at h ⊢
      exact h
set_option maxRecDepth 100000 in
set_option maxHeartbeats 4000000 in
theorem st_act_4 {D : G} {xa : Nat → Nat} {vt tt : Nat → Option Nat} {c : CS} {c2 : CS} {tk : Int32} {ln : Nat} {tb : Nat → Int32} {vc : Nat} {vs : Nat → VS} {ts : Nat → Int32} {tl : Nat → Nat} {ti : Nat → Nat → Int64} {rn : Nat} {f : Nat → Int32} {mo : Nat} {ma : Nat → Nat} {bx bm : Nat → va_W} {i : Nat} {x : Int32} (hvt : ∀ k, k < 6 → vt k = some (xa (16 + 5 * k))) (htt : ∀ k, k < 6 → tt k = some (xa (82 + 2 * k))) (hA : AOk c c2 tk ln tb vc vs ts tl rn) (hX : IX D xa vt tt c c2 tk ln tb vc vs ts tl ti rn f bx) (hM9 : IM D mo ma c c2 tk ln tb vc vs ts tl ti rn f bm) (hi : i < c.men) : StR D xa vt tt mo ma mX9_act mX10_act [.int (nI i), .int 1, .int x] bx bm (.int (hV (nI i) (nI (c.vv i)) (c.kk i) x (c.kk i))) := by
  refine ⟨c, c2, tk, ln, tb, vc, vs, ts, tl, ti, ((hL (c.kk i) (c.kk i)).length), (trW f 0 (hL (c.kk i) (c.kk i))), ok_rn (by have z := hA.1.2.1 i (by have := hA.1.1; omega); have := hL_len _ z _ z; omega) hA, ?_, ?_⟩
  · skip
    obtain ⟨y1, y2, y3, e16⟩ := x_16 hX
    refine Sp.fL (l := [(0, O9 xa tk vc), (1, C9 D xa 1 c), (16, B9 D xa rn f y1 y2 y3)]) (B := BX D xa vt tt c c2 tk ln tb vc vs ts tl ti rn f) (sp_X9_act_4 (D := D) (o := xa 0) (ca := xa 1) (im := xa 7) (tk := tk) (txo := xa 13) (ba := xa 46) (va := xa 15) (vc := vc) (nwk := xa 51) (nt := xa 58) (ro := xa 67) (lo := xa 77) (bd := xa 79) (ta := xa 81) (ck := xa 2) (cv := xa 3) (chd := xa 4) (cr := xa 5) (cb := xa 6) (c := c) (tr := xa 80) (rn := rn) (bi := y1) (bk9 := y2) (bv := y3) (f := f) (i := i) (x := x) hA.1 hi) ⟨x_0 hX, x_1 hX, e16, trivial⟩ (by decide) (by decide) hX ?_
    rintro r w1 ⟨bi1, bk1, bv1, hr, hw⟩
    exact ⟨hr, [(0, O9 xa tk vc), (1, C9 D xa 1 c), (16, B9 D xa ((hL (c.kk i) (c.kk i)).length) (trW f 0 (hL (c.kk i) (c.kk i))) bi1 bk1 bv1)], rfl, hw, _, ⟨k_0, k_1, k_16, trivial⟩, fun i w hi h => BX_bd (fun z => hi (by rw [z]; simp [kyL])) h, fun _ h => h⟩
  · obtain ⟨wd, nu, fr, tt9, sf, cls, hR, hM⟩ := hM9
    obtain ⟨zs_10, zs_11, zs_20, zs_21, zs_22, zs_25, zs_26, zs_27, zs_29, e0⟩ := m_0 hM
    refine Sp.fL (l := [(0, [(mo, .inr (10, M1R ma (mZ c c2 tk vc ln rn zs_10 zs_11 zs_20 zs_21 zs_22 zs_25 zs_26 zs_27 zs_29)))]), (4, [((ma 4), eI D 6 (nF c.kk))]), (5, [((ma 5), eI D 6 (nF c.vv))]), (6, [((ma 6), eI D 6 c.hd)]), (30, [((ma 30), eI D 8 (nF c.crf))]), (35, [((ma 35), eI D 12 (nF c.bo))]), (50, [((ma 50), eI D 20 f)])]) (B := BM D mo ma c c2 tk ln tb vc ts tl ti rn f wd nu fr tt9 sf cls) (sp_X10_act_4 (D := D) (mo := mo) (ma := ma) (c := c) (c2 := c2) (tk := tk) (vc := vc) (ln := ln) (rn := rn) (zs_10 := zs_10) (zs_11 := zs_11) (zs_20 := zs_20) (zs_21 := zs_21) (zs_22 := zs_22) (zs_25 := zs_25) (zs_26 := zs_26) (zs_27 := zs_27) (zs_29 := zs_29) (f := f) (i := i) (x := x) hA.1 hi) ⟨e0, m_4 hM, m_5 hM, m_6 hM, m_30 hM, m_35 hM, m_50 hM, trivial⟩ (by decide) (by decide) hM ?_
    rintro r w1 ⟨zs2_10, zs2_11, zs2_20, zs2_21, zs2_22, zs2_25, zs2_26, zs2_27, zs2_29, hr, hw⟩
    refine ⟨hr, [(0, [(mo, .inr (10, M1R ma (mZ c c2 tk vc ln ((hL (c.kk i) (c.kk i)).length) zs2_10 zs2_11 zs2_20 zs2_21 zs2_22 zs2_25 zs2_26 zs2_27 zs2_29)))]), (4, [((ma 4), eI D 6 (nF c.kk))]), (5, [((ma 5), eI D 6 (nF c.vv))]), (6, [((ma 6), eI D 6 c.hd)]), (30, [((ma 30), eI D 8 (nF c.crf))]), (35, [((ma 35), eI D 12 (nF c.bo))]), (50, [((ma 50), eI D 20 (trW f 0 (hL (c.kk i) (c.kk i))))])], rfl, hw, BM D mo ma c c2 tk ln tb vc ts tl ti ((hL (c.kk i) (c.kk i)).length) (trW f 0 (hL (c.kk i) (c.kk i))) wd nu fr tt9 sf cls, ⟨j_0, j_4, j_5, j_6, j_30, j_35, j_50, trivial⟩, ?_, fun _ h => ⟨_, _, _, _, _, _, hR, h⟩⟩
    exact fun i w hi h => by
      have h0 : ¬ i = 0 := fun z => hi (by rw [z]; decide)
      have h4 : ¬ i = 4 := fun z => hi (by rw [z]; decide)
      have h5 : ¬ i = 5 := fun z => hi (by rw [z]; decide)
      have h6 : ¬ i = 6 := fun z => hi (by rw [z]; decide)
      have h30 : ¬ i = 30 := fun z => hi (by rw [z]; decide)
      have h35 : ¬ i = 35 := fun z => hi (by rw [z]; decide)
      have h50 : ¬ i = 50 := fun z => hi (by rw [z]; decide)
      unfold BM at h ⊢
      simp only [if_neg h0, if_neg h4, if_neg h5, if_neg h6, if_neg h30, if_neg h35, if_neg h50] at h ⊢
      exact h
set_option maxRecDepth 100000 in
set_option maxHeartbeats 4000000 in
theorem st_act_5 {D : G} {xa : Nat → Nat} {vt tt : Nat → Option Nat} {c : CS} {c2 : CS} {tk : Int32} {ln : Nat} {tb : Nat → Int32} {vc : Nat} {vs : Nat → VS} {ts : Nat → Int32} {tl : Nat → Nat} {ti : Nat → Nat → Int64} {rn : Nat} {f : Nat → Int32} {mo : Nat} {ma : Nat → Nat} {bx bm : Nat → va_W} {i : Nat} {x : Int32} (hvt : ∀ k, k < 6 → vt k = some (xa (16 + 5 * k))) (htt : ∀ k, k < 6 → tt k = some (xa (82 + 2 * k))) (hA : AOk c c2 tk ln tb vc vs ts tl rn) (hX : IX D xa vt tt c c2 tk ln tb vc vs ts tl ti rn f bx) (hM9 : IM D mo ma c c2 tk ln tb vc vs ts tl ti rn f bm) (hi : i < c.men) : StR D xa vt tt mo ma mX9_act mX10_act [.int (nI i), .int 2, .int x] bx bm (.int (tV (nI i) (nI (c.vv i)) (c.kk i) x (c.kk i))) := by
  refine ⟨c, c2, tk, ln, tb, vc, vs, ts, tl, ti, ((tL (c.kk i) (c.kk i)).length), (trW f 0 (tL (c.kk i) (c.kk i))), ok_rn (by have z := hA.1.2.1 i (by have := hA.1.1; omega); have z2 := hL_len _ z _ z; have z4 : (tL (c.kk i)).length = (hL (c.kk i) (c.kk i)).length + 1 := rfl; omega) hA, ?_, ?_⟩
  · skip
    obtain ⟨y1, y2, y3, e16⟩ := x_16 hX
    refine Sp.fL (l := [(0, O9 xa tk vc), (1, C9 D xa 1 c), (16, B9 D xa rn f y1 y2 y3)]) (B := BX D xa vt tt c c2 tk ln tb vc vs ts tl ti rn f) (sp_X9_act_5 (D := D) (o := xa 0) (ca := xa 1) (im := xa 7) (tk := tk) (txo := xa 13) (ba := xa 46) (va := xa 15) (vc := vc) (nwk := xa 51) (nt := xa 58) (ro := xa 67) (lo := xa 77) (bd := xa 79) (ta := xa 81) (ck := xa 2) (cv := xa 3) (chd := xa 4) (cr := xa 5) (cb := xa 6) (c := c) (tr := xa 80) (rn := rn) (bi := y1) (bk9 := y2) (bv := y3) (f := f) (i := i) (x := x) hA.1 hi) ⟨x_0 hX, x_1 hX, e16, trivial⟩ (by decide) (by decide) hX ?_
    rintro r w1 ⟨bi1, bk1, bv1, hr, hw⟩
    exact ⟨hr, [(0, O9 xa tk vc), (1, C9 D xa 1 c), (16, B9 D xa ((tL (c.kk i) (c.kk i)).length) (trW f 0 (tL (c.kk i) (c.kk i))) bi1 bk1 bv1)], rfl, hw, _, ⟨k_0, k_1, k_16, trivial⟩, fun i w hi h => BX_bd (fun z => hi (by rw [z]; simp [kyL])) h, fun _ h => h⟩
  · obtain ⟨wd, nu, fr, tt9, sf, cls, hR, hM⟩ := hM9
    obtain ⟨zs_10, zs_11, zs_20, zs_21, zs_22, zs_25, zs_26, zs_27, zs_29, e0⟩ := m_0 hM
    refine Sp.fL (l := [(0, [(mo, .inr (10, M1R ma (mZ c c2 tk vc ln rn zs_10 zs_11 zs_20 zs_21 zs_22 zs_25 zs_26 zs_27 zs_29)))]), (4, [((ma 4), eI D 6 (nF c.kk))]), (5, [((ma 5), eI D 6 (nF c.vv))]), (6, [((ma 6), eI D 6 c.hd)]), (30, [((ma 30), eI D 8 (nF c.crf))]), (35, [((ma 35), eI D 12 (nF c.bo))]), (50, [((ma 50), eI D 20 f)])]) (B := BM D mo ma c c2 tk ln tb vc ts tl ti rn f wd nu fr tt9 sf cls) (sp_X10_act_5 (D := D) (mo := mo) (ma := ma) (c := c) (c2 := c2) (tk := tk) (vc := vc) (ln := ln) (rn := rn) (zs_10 := zs_10) (zs_11 := zs_11) (zs_20 := zs_20) (zs_21 := zs_21) (zs_22 := zs_22) (zs_25 := zs_25) (zs_26 := zs_26) (zs_27 := zs_27) (zs_29 := zs_29) (f := f) (i := i) (x := x) hA.1 hi) ⟨e0, m_4 hM, m_5 hM, m_6 hM, m_30 hM, m_35 hM, m_50 hM, trivial⟩ (by decide) (by decide) hM ?_
    rintro r w1 ⟨zs2_10, zs2_11, zs2_20, zs2_21, zs2_22, zs2_25, zs2_26, zs2_27, zs2_29, hr, hw⟩
    refine ⟨hr, [(0, [(mo, .inr (10, M1R ma (mZ c c2 tk vc ln ((tL (c.kk i) (c.kk i)).length) zs2_10 zs2_11 zs2_20 zs2_21 zs2_22 zs2_25 zs2_26 zs2_27 zs2_29)))]), (4, [((ma 4), eI D 6 (nF c.kk))]), (5, [((ma 5), eI D 6 (nF c.vv))]), (6, [((ma 6), eI D 6 c.hd)]), (30, [((ma 30), eI D 8 (nF c.crf))]), (35, [((ma 35), eI D 12 (nF c.bo))]), (50, [((ma 50), eI D 20 (trW f 0 (tL (c.kk i) (c.kk i))))])], rfl, hw, BM D mo ma c c2 tk ln tb vc ts tl ti ((tL (c.kk i) (c.kk i)).length) (trW f 0 (tL (c.kk i) (c.kk i))) wd nu fr tt9 sf cls, ⟨j_0, j_4, j_5, j_6, j_30, j_35, j_50, trivial⟩, ?_, fun _ h => ⟨_, _, _, _, _, _, hR, h⟩⟩
    exact fun i w hi h => by
      have h0 : ¬ i = 0 := fun z => hi (by rw [z]; decide)
      have h4 : ¬ i = 4 := fun z => hi (by rw [z]; decide)
      have h5 : ¬ i = 5 := fun z => hi (by rw [z]; decide)
      have h6 : ¬ i = 6 := fun z => hi (by rw [z]; decide)
      have h30 : ¬ i = 30 := fun z => hi (by rw [z]; decide)
      have h35 : ¬ i = 35 := fun z => hi (by rw [z]; decide)
      have h50 : ¬ i = 50 := fun z => hi (by rw [z]; decide)
      unfold BM at h ⊢
      simp only [if_neg h0, if_neg h4, if_neg h5, if_neg h6, if_neg h30, if_neg h35, if_neg h50] at h ⊢
      exact h
set_option maxRecDepth 100000 in
set_option maxHeartbeats 4000000 in
theorem st_trace_1 {D : G} {xa : Nat → Nat} {vt tt : Nat → Option Nat} {c : CS} {c2 : CS} {tk : Int32} {ln : Nat} {tb : Nat → Int32} {vc : Nat} {vs : Nat → VS} {ts : Nat → Int32} {tl : Nat → Nat} {ti : Nat → Nat → Int64} {rn : Nat} {f : Nat → Int32} {mo : Nat} {ma : Nat → Nat} {bx bm : Nat → va_W} {i : Int32} (hvt : ∀ k, k < 6 → vt k = some (xa (16 + 5 * k))) (htt : ∀ k, k < 6 → tt k = some (xa (82 + 2 * k))) (hA : AOk c c2 tk ln tb vc vs ts tl rn) (hX : IX D xa vt tt c c2 tk ln tb vc vs ts tl ti rn f bx) (hM9 : IM D mo ma c c2 tk ln tb vc vs ts tl ti rn f bm) (hi : ¬ isIx i rn) : StR D xa vt tt mo ma mX9_trace mX10_trace [.int i] bx bm (.int (-1)) := by
  refine ⟨c, c2, tk, ln, tb, vc, vs, ts, tl, ti, rn, f, hA, ?_, ?_⟩
  · skip
    obtain ⟨y1, y2, y3, e16⟩ := x_16 hX
    refine Sp.fL (l := [(0, O9 xa tk vc), (16, B9 D xa rn f y1 y2 y3)]) (B := BX D xa vt tt c c2 tk ln tb vc vs ts tl ti rn f) (sp_X9_trace_1 (D := D) (o := xa 0) (ca := xa 1) (im := xa 7) (tk := tk) (txo := xa 13) (ba := xa 46) (va := xa 15) (vc := vc) (nwk := xa 51) (nt := xa 58) (ro := xa 67) (lo := xa 77) (bd := xa 79) (ta := xa 81) (tr := xa 80) (rn := rn) (bi := y1) (bk9 := y2) (bv := y3) (f := f) (i := i) hi hA.2.2.2.2.2.2.2.2.2.2) ⟨x_0 hX, e16, trivial⟩ (by decide) (by decide) hX ?_
    rintro r w1 ⟨hr, hw⟩
    exact ⟨hr, [(0, O9 xa tk vc), (16, B9 D xa rn f y1 y2 y3)], rfl, hw, _, ⟨k_0, k_16, trivial⟩, fun _ _ _ h => h, fun _ h => h⟩
  · obtain ⟨wd, nu, fr, tt9, sf, cls, hR, hM⟩ := hM9
    obtain ⟨zs_10, zs_11, zs_20, zs_21, zs_22, zs_25, zs_26, zs_27, zs_29, e0⟩ := m_0 hM
    refine Sp.fL (l := [(0, [(mo, .inr (10, M1R ma (mZ c c2 tk vc ln rn zs_10 zs_11 zs_20 zs_21 zs_22 zs_25 zs_26 zs_27 zs_29)))]), (50, [((ma 50), eI D 20 f)])]) (B := BM D mo ma c c2 tk ln tb vc ts tl ti rn f wd nu fr tt9 sf cls) (sp_X10_trace_1 (D := D) (mo := mo) (ma := ma) (c := c) (c2 := c2) (tk := tk) (vc := vc) (ln := ln) (rn := rn) (zs_10 := zs_10) (zs_11 := zs_11) (zs_20 := zs_20) (zs_21 := zs_21) (zs_22 := zs_22) (zs_25 := zs_25) (zs_26 := zs_26) (zs_27 := zs_27) (zs_29 := zs_29) (f := f) (i := i) hi hA.2.2.2.2.2.2.2.2.2.2) ⟨e0, m_50 hM, trivial⟩ (by decide) (by decide) hM ?_
    rintro r w1 ⟨zs2_10, zs2_11, zs2_20, zs2_21, zs2_22, zs2_25, zs2_26, zs2_27, zs2_29, hr, hw⟩
    refine ⟨hr, [(0, [(mo, .inr (10, M1R ma (mZ c c2 tk vc ln rn zs2_10 zs2_11 zs2_20 zs2_21 zs2_22 zs2_25 zs2_26 zs2_27 zs2_29)))]), (50, [((ma 50), eI D 20 f)])], rfl, hw, BM D mo ma c c2 tk ln tb vc ts tl ti rn f wd nu fr tt9 sf cls, ⟨j_0, j_50, trivial⟩, fun _ _ _ h => h, fun _ h => ⟨_, _, _, _, _, _, hR, h⟩⟩
set_option maxRecDepth 100000 in
set_option maxHeartbeats 4000000 in
theorem st_trace_2 {D : G} {xa : Nat → Nat} {vt tt : Nat → Option Nat} {c : CS} {c2 : CS} {tk : Int32} {ln : Nat} {tb : Nat → Int32} {vc : Nat} {vs : Nat → VS} {ts : Nat → Int32} {tl : Nat → Nat} {ti : Nat → Nat → Int64} {rn : Nat} {f : Nat → Int32} {mo : Nat} {ma : Nat → Nat} {bx bm : Nat → va_W} {i : Nat} (hvt : ∀ k, k < 6 → vt k = some (xa (16 + 5 * k))) (htt : ∀ k, k < 6 → tt k = some (xa (82 + 2 * k))) (hA : AOk c c2 tk ln tb vc vs ts tl rn) (hX : IX D xa vt tt c c2 tk ln tb vc vs ts tl ti rn f bx) (hM9 : IM D mo ma c c2 tk ln tb vc vs ts tl ti rn f bm) (hi : i < rn) : StR D xa vt tt mo ma mX9_trace mX10_trace [.int (nI i)] bx bm (.int (f i)) := by
  refine ⟨c, c2, tk, ln, tb, vc, vs, ts, tl, ti, rn, f, hA, ?_, ?_⟩
  · skip
    obtain ⟨y1, y2, y3, e16⟩ := x_16 hX
    refine Sp.fL (l := [(0, O9 xa tk vc), (16, B9 D xa rn f y1 y2 y3)]) (B := BX D xa vt tt c c2 tk ln tb vc vs ts tl ti rn f) (sp_X9_trace_2 (D := D) (o := xa 0) (ca := xa 1) (im := xa 7) (tk := tk) (txo := xa 13) (ba := xa 46) (va := xa 15) (vc := vc) (nwk := xa 51) (nt := xa 58) (ro := xa 67) (lo := xa 77) (bd := xa 79) (ta := xa 81) (tr := xa 80) (rn := rn) (bi := y1) (bk9 := y2) (bv := y3) (f := f) (i := i) hi hA.2.2.2.2.2.2.2.2.2.2) ⟨x_0 hX, e16, trivial⟩ (by decide) (by decide) hX ?_
    rintro r w1 ⟨hr, hw⟩
    exact ⟨hr, [(0, O9 xa tk vc), (16, B9 D xa rn f y1 y2 y3)], rfl, hw, _, ⟨k_0, k_16, trivial⟩, fun _ _ _ h => h, fun _ h => h⟩
  · obtain ⟨wd, nu, fr, tt9, sf, cls, hR, hM⟩ := hM9
    obtain ⟨zs_10, zs_11, zs_20, zs_21, zs_22, zs_25, zs_26, zs_27, zs_29, e0⟩ := m_0 hM
    refine Sp.fL (l := [(0, [(mo, .inr (10, M1R ma (mZ c c2 tk vc ln rn zs_10 zs_11 zs_20 zs_21 zs_22 zs_25 zs_26 zs_27 zs_29)))]), (50, [((ma 50), eI D 20 f)])]) (B := BM D mo ma c c2 tk ln tb vc ts tl ti rn f wd nu fr tt9 sf cls) (sp_X10_trace_2 (D := D) (mo := mo) (ma := ma) (c := c) (c2 := c2) (tk := tk) (vc := vc) (ln := ln) (rn := rn) (zs_10 := zs_10) (zs_11 := zs_11) (zs_20 := zs_20) (zs_21 := zs_21) (zs_22 := zs_22) (zs_25 := zs_25) (zs_26 := zs_26) (zs_27 := zs_27) (zs_29 := zs_29) (f := f) (i := i) hi hA.2.2.2.2.2.2.2.2.2.2) ⟨e0, m_50 hM, trivial⟩ (by decide) (by decide) hM ?_
    rintro r w1 ⟨zs2_10, zs2_11, zs2_20, zs2_21, zs2_22, zs2_25, zs2_26, zs2_27, zs2_29, hr, hw⟩
    refine ⟨hr, [(0, [(mo, .inr (10, M1R ma (mZ c c2 tk vc ln rn zs2_10 zs2_11 zs2_20 zs2_21 zs2_22 zs2_25 zs2_26 zs2_27 zs2_29)))]), (50, [((ma 50), eI D 20 f)])], rfl, hw, BM D mo ma c c2 tk ln tb vc ts tl ti rn f wd nu fr tt9 sf cls, ⟨j_0, j_50, trivial⟩, fun _ _ _ h => h, fun _ h => ⟨_, _, _, _, _, _, hR, h⟩⟩
set_option maxRecDepth 100000 in
set_option maxHeartbeats 4000000 in
theorem st_taken_1 {D : G} {xa : Nat → Nat} {vt tt : Nat → Option Nat} {c : CS} {c2 : CS} {tk : Int32} {ln : Nat} {tb : Nat → Int32} {vc : Nat} {vs : Nat → VS} {ts : Nat → Int32} {tl : Nat → Nat} {ti : Nat → Nat → Int64} {rn : Nat} {f : Nat → Int32} {mo : Nat} {ma : Nat → Nat} {bx bm : Nat → va_W} {i : Int32} {k : Int32} (hvt : ∀ k, k < 6 → vt k = some (xa (16 + 5 * k))) (htt : ∀ k, k < 6 → tt k = some (xa (82 + 2 * k))) (hA : AOk c c2 tk ln tb vc vs ts tl rn) (hX : IX D xa vt tt c c2 tk ln tb vc vs ts tl ti rn f bx) (hM9 : IM D mo ma c c2 tk ln tb vc vs ts tl ti rn f bm) (hk : ¬ isIx k 7) : StR D xa vt tt mo ma mX9_taken mX10_taken [.int i, .int k] bx bm (.int (-2)) := by
  refine ⟨c, c2, tk, ln, tb, vc, vs, ts, tl, ti, rn, f, hA, ?_, ?_⟩
  · skip
    refine Sp.fL (l := [(0, O9 xa tk vc), (1, C9 D xa 1 c)]) (B := BX D xa vt tt c c2 tk ln tb vc vs ts tl ti rn f) (sp_X9_taken_1 (D := D) (o := xa 0) (ca := xa 1) (im := xa 7) (tk := tk) (txo := xa 13) (ba := xa 46) (va := xa 15) (vc := vc) (nwk := xa 51) (nt := xa 58) (ro := xa 67) (lo := xa 77) (bd := xa 79) (ta := xa 81) (ck := xa 2) (cv := xa 3) (chd := xa 4) (cr := xa 5) (cb := xa 6) (c := c) (i := i) (k := k) hA.1 hk) ⟨x_0 hX, x_1 hX, trivial⟩ (by decide) (by decide) hX ?_
    rintro r w1 ⟨hr, hw⟩
    exact ⟨hr, [(0, O9 xa tk vc), (1, C9 D xa 1 c)], rfl, hw, _, ⟨k_0, k_1, trivial⟩, fun _ _ _ h => h, fun _ h => h⟩
  · obtain ⟨wd, nu, fr, tt9, sf, cls, hR, hM⟩ := hM9
    obtain ⟨zs_10, zs_11, zs_20, zs_21, zs_22, zs_25, zs_26, zs_27, zs_29, e0⟩ := m_0 hM
    refine Sp.fL (l := [(0, [(mo, .inr (10, M1R ma (mZ c c2 tk vc ln rn zs_10 zs_11 zs_20 zs_21 zs_22 zs_25 zs_26 zs_27 zs_29)))]), (4, [((ma 4), eI D 6 (nF c.kk))]), (5, [((ma 5), eI D 6 (nF c.vv))]), (6, [((ma 6), eI D 6 c.hd)]), (30, [((ma 30), eI D 8 (nF c.crf))]), (35, [((ma 35), eI D 12 (nF c.bo))])]) (B := BM D mo ma c c2 tk ln tb vc ts tl ti rn f wd nu fr tt9 sf cls) (sp_X10_taken_1 (D := D) (mo := mo) (ma := ma) (c := c) (c2 := c2) (tk := tk) (vc := vc) (ln := ln) (rn := rn) (zs_10 := zs_10) (zs_11 := zs_11) (zs_20 := zs_20) (zs_21 := zs_21) (zs_22 := zs_22) (zs_25 := zs_25) (zs_26 := zs_26) (zs_27 := zs_27) (zs_29 := zs_29) (i := i) (k := k) hA.1 hk) ⟨e0, m_4 hM, m_5 hM, m_6 hM, m_30 hM, m_35 hM, trivial⟩ (by decide) (by decide) hM ?_
    rintro r w1 ⟨zs2_10, zs2_11, zs2_20, zs2_21, zs2_22, zs2_25, zs2_26, zs2_27, zs2_29, hr, hw⟩
    refine ⟨hr, [(0, [(mo, .inr (10, M1R ma (mZ c c2 tk vc ln rn zs2_10 zs2_11 zs2_20 zs2_21 zs2_22 zs2_25 zs2_26 zs2_27 zs2_29)))]), (4, [((ma 4), eI D 6 (nF c.kk))]), (5, [((ma 5), eI D 6 (nF c.vv))]), (6, [((ma 6), eI D 6 c.hd)]), (30, [((ma 30), eI D 8 (nF c.crf))]), (35, [((ma 35), eI D 12 (nF c.bo))])], rfl, hw, BM D mo ma c c2 tk ln tb vc ts tl ti rn f wd nu fr tt9 sf cls, ⟨j_0, j_4, j_5, j_6, j_30, j_35, trivial⟩, fun _ _ _ h => h, fun _ h => ⟨_, _, _, _, _, _, hR, h⟩⟩
