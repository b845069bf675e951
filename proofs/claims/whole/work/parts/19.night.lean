-- OneForDog$Night
def nW (kk pp ov bk rw : Nat → Nat) (h s : Nat) : Option (Nat × Nat × (Nat → Nat)) := walkN kk pp (fun m s d => ov (slotN m s d)) (fun m s d => bk (slotN m s d)) rw h s
def nE (kk pp ov bk rw : Nat → Nat) (s h : Nat) : Option (Nat × Nat × Nat) := wakeN (kk (rw s)) (pp (rw s)) (fun zd => ov (slotN (rw s) s zd)) (fun zd => bk (slotN (rw s) s zd)) h
def nOk (kk pp ov bk rw : Nat → Nat) (nn : Nat) : Prop := nn ≤ 8 ∧ (∀ s, s < nn → rw s < 6) ∧ (∀ m, m < 6 → kk m < 7) ∧ (∀ m, 2 ≤ pp m) ∧ (∀ m, m < 6 → pp m ≤ 99) ∧ (∀ s, s < nn → ∀ d, d < 10 → ov (slotN (rw s) s d) < 1000) ∧ (∀ s, s < nn → ∀ d, d < 10 → bk (slotN (rw s) s d) < 1000)
theorem nW_none {kk pp ov bk rw : Nat → Nat} {h s n l g : Nat} {Q : Nat → Nat} (hn : s < n) (e : nW kk pp ov bk rw h s = some (l, g, Q)) (z : nE kk pp ov bk rw s l = none) : nW kk pp ov bk rw h n = none := by
  refine walkN_stop (s := s + 1) hn ?_
  show (walkN kk pp _ _ rw h s).bind _ = none
  rw [show walkN kk pp (fun m s d => ov (slotN m s d)) (fun m s d => bk (slotN m s d)) rw h s = some (l, g, Q) from e]
  show (nE kk pp ov bk rw s l).map _ = none
  rw [z]
  rfl
theorem nW_some {kk pp ov bk rw : Nat → Nat} {h s l g : Nat} {Q : Nat → Nat} (e : nW kk pp ov bk rw h s = some (l, g, Q)) (z : ¬ nE kk pp ov bk rw s l = none) : nW kk pp ov bk rw h (s + 1) = some (oL (nE kk pp ov bk rw s l) l, g + oG (nE kk pp ov bk rw s l) 0, uN Q (rw s) (Q (rw s) + oD (nE kk pp ov bk rw s l) 0)) := by
  show (walkN kk pp _ _ rw h s).bind _ = _
  rw [show walkN kk pp (fun m s d => ov (slotN m s d)) (fun m s d => bk (slotN m s d)) rw h s = some (l, g, Q) from e]
  show (nE kk pp ov bk rw s l).map _ = _
  cases z2 : nE kk pp ov bk rw s l with
  | none => exact absurd z2 z
  | some y => simp only [Option.map_some, oL, oG, oD, Nat.zero_add]
theorem nW_le {kk pp ov bk rw : Nat → Nat} {nn h s l g : Nat} {Q : Nat → Nat} (hN : nOk kk pp ov bk rw nn) (e : nW kk pp ov bk rw h s = some (l, g, Q)) : l + g ≤ h ∧ ∀ m, l + g + Q m ≤ h := walkN_le hN.2.2.2.1 e
def nightP (sh mo : Nat) : Option (Nat × Nat × (Nat → Nat)) → Prop
  | none => False
  | some x => mo ≤ x.1 ∧ (x.1 - mo) % sh = 0
def leaveP (n : Nat) : Option (Nat × Nat × (Nat → Nat)) → Prop
  | none => False
  | some x => x.1 = n
noncomputable def firstN (P : Nat → Prop) : Nat → Nat → Int32
  | 0, _ => -5
  | n + 1, a => iteP (P a) (nI a) (firstN P n (a + 1))
noncomputable def lastN (P : Nat → Prop) : Nat → Int32
  | 0 => -5
  | n + 1 => iteP (P n) (nI n) (lastN P n)
noncomputable def cntN (P : Nat → Prop) : Nat → Nat → Nat
  | 0, _ => 0
  | n + 1, a => iteP (P a) (cntN P n (a + 1) + 1) (cntN P n (a + 1))
theorem cntN_le {P : Nat → Prop} : ∀ {n a : Nat}, cntN P n a ≤ n
  | 0, _ => Nat.le_refl 0
  | n + 1, a => by
    have := cntN_le (P := P) (n := n) (a := a + 1)
    unfold cntN
    by_cases z : P a
    · rw [iteP_t z]; omega
    · rw [iteP_f z]; omega
noncomputable def lookN (E : Nat → Nat → Option (Nat × Nat × Nat)) (b : Nat → Nat) : Nat → Nat → Nat → Int32
  | 0, _, _ => -5
  | n + 1, k, h => match E k h with
    | none => -5
    | some x => iteP (x.1 = b (k + 1)) (lookN E b n (k + 1) x.1) (nI (k + 1))
theorem lookN_n {E : Nat → Nat → Option (Nat × Nat × Nat)} {b : Nat → Nat} {n k h : Nat} (z : E k h = none) : lookN E b (n + 1) k h = -5 := by
  rw [lookN, z]
theorem lookN_s {E : Nat → Nat → Option (Nat × Nat × Nat)} {b : Nat → Nat} {n k h : Nat} (z : ¬ E k h = none) : lookN E b (n + 1) k h = iteP (oL (E k h) h = b (k + 1)) (lookN E b n (k + 1) (oL (E k h) h)) (nI (k + 1)) := by
  rw [lookN]
  cases z2 : E k h with
  | none => exact absurd z2 z
  | some y => rfl
set_option maxRecDepth 100000 in
set_option maxHeartbeats 4000000 in
theorem l_X3_walks {D : G} {X : CX} {nt : Nat} {nrw : Nat} {nn : Nat} {nsh : Nat} {nmo : Nat} {wk : Nat} {kn : Nat} {vl : Nat} {pt : Nat} {gone : Nat} {fc : Nat} {ovr : Nat} {bkr : Nat} {kk : Nat → Nat} {pp : Nat → Nat} {ov : Nat → Nat} {bk : Nat → Nat} {rw : Nat → Nat} {h : Nat} {x : Int32} (O : Ok D X mX3_walks 4 0 0) (hN : nOk kk pp ov bk rw nn) (hh : h < 1000000) (T : Rt D X (fun r w => ∃ l1 : Int32, ∃ g1 : Int32, ∃ d1 : Int32, ∃ l2 : Int32, ∃ g2 : Int32, ∃ d2 : Int32, r = some (.int (b2i (¬ nW kk pp ov bk rw h nn = none))) ∧ w = [(nt, .inr (3, [.ref wk, .ref nrw, .int (nI nn), .int (nI nsh), .int (nI nmo), .int l1, .int g1, .int d1])), (nrw, eI D 8 (nF rw)), (wk, .inr (8, [.ref kn, .ref vl, .ref pt, .int (nI gone), .ref fc, .ref ovr, .ref bkr, .int l2, .int g2, .int d2])), (kn, eI D 6 (nF kk)), (pt, eI D 6 (nF pp)), (ovr, eI D 480 (nF ov)), (bkr, eI D 480 (nF bk))] ∧ (∀ L T Q, nW kk pp ov bk rw h nn = some (L, T, Q) → l1 = nI L ∧ g1 = nI T ∧ ∀ m, m < 6 → x = nI m → d1 = nI (Q m))) 0 0) : ∀ (t i : Nat), i + t = nn → ∀ (l g : Nat) (Q : Nat → Nat) (d lf dg hd : Int32), nW kk pp ov bk rw h i = some (l, g, Q) → (∀ m, m < 6 → x = nI m → d = nI (Q m)) → V D X 0 0 17 [(0, .ref nt), (1, .int (nI h)), (2, .int x), (3, .int (nI i))] [] [(nt, .inr (3, [.ref wk, .ref nrw, .int (nI nn), .int (nI nsh), .int (nI nmo), .int (nI l), .int (nI g), .int d])), (nrw, eI D 8 (nF rw)), (wk, .inr (8, [.ref kn, .ref vl, .ref pt, .int (nI gone), .ref fc, .ref ovr, .ref bkr, .int lf, .int dg, .int hd])), (kn, eI D 6 (nF kk)), (pt, eI D 6 (nF pp)), (ovr, eI D 480 (nF ov)), (bkr, eI D 480 (nF bk))] := by
  intro t
  induction t with
  | zero =>
    intro i hi l g Q d lf dg hd hW hQ
    have z_n8 := hN.1
    refine v_iload_n O dX3_walks_17 3 rfl ?_
    refine v_aload_n O dX3_walks_18 0 rfl ?_
    refine gf_X3_22 O rfl dX3_walks_19 0 rfl rfl ?_
    refine v_icmp_ge O 113 dX3_walks_22 (by decide) (fun z1 => ?_) (fun z1 => ?_)
    · skip
      have z1 := (c_le' (x := nI i) (y := nI nn) (a := i) (b := nn) rfl rfl (by omega) (by omega)).mp z1
      refine v_iconst (v := 1) O dX3_walks_113 (by decide) ?_
      exact v_ireturn O T rfl rfl (by decide) (by decide) dX3_walks_114 (⟨_, _, _, _, _, _, by rw [b2i_t (by rw [← (show i = nn by omega), hW]; exact fun z9 => by cases z9)], rfl, fun L T Q2 z9 => by
      rw [← (show i = nn by omega), hW] at z9
      obtain ⟨z_1, z_2, z_3⟩ : l = L ∧ g = T ∧ Q = Q2 := by have z8 := Option.some.inj z9; simp only [Prod.mk.injEq] at z8; exact z8
      exact ⟨by rw [z_1], by rw [z_2], by rw [← z_3]; exact hQ⟩⟩)
    · skip
      have z1 := (not_congr (c_le' (x := nI i) (y := nI nn) (a := i) (b := nn) rfl rfl (by omega) (by omega))).mp z1
      exact absurd z1 (by omega)
  | succ t ih =>
    intro i hi l g Q d lf dg hd hW hQ
    have z_n8 := hN.1
    refine v_iload_n O dX3_walks_17 3 rfl ?_
    refine v_aload_n O dX3_walks_18 0 rfl ?_
    refine gf_X3_22 O rfl dX3_walks_19 0 rfl rfl ?_
    refine v_icmp_ge O 113 dX3_walks_22 (by decide) (fun z1 => ?_) (fun z1 => ?_)
    · skip
      have z1 := (c_le' (x := nI i) (y := nI nn) (a := i) (b := nn) rfl rfl (by omega) (by omega)).mp z1
      exact absurd z1 (by omega)
    · skip
      have z1 := (not_congr (c_le' (x := nI i) (y := nI nn) (a := i) (b := nn) rfl rfl (by omega) (by omega))).mp z1
      refine v_iload_n O dX3_walks_25 3 rfl ?_
      refine v_bipush (v := 8) O dX3_walks_26 (by decide) ?_
      refine v_icmp_ge O 113 dX3_walks_28 (by decide) (fun z2 => ?_) (fun z2 => ?_)
      · skip
        have z2 := (c_le' (x := nI i) (y := 8) (a := i) (b := 8) rfl rfl (by omega) (by omega)).mp z2
        exact absurd z2 (by omega)
      · skip
        have z2 := (not_congr (c_le' (x := nI i) (y := 8) (a := i) (b := 8) rfl rfl (by omega) (by omega))).mp z2
        have hi9 : i < nn := by omega
        have z_le := (nW_le hN hW).1
        have z_rw := hN.2.1 i hi9
        refine v_aload_n O dX3_walks_31 0 rfl ?_
        refine gf_X3_18 O rfl dX3_walks_32 0 rfl rfl ?_
        refine v_iload_n O dX3_walks_35 3 rfl ?_
        refine v_ialdk O dX3_walks_36 1 rfl i rfl (by omega) (by decide) ?_
        refine v_top (y := nI (rw i)) rfl ?_
        refine v_istore (lv' := [(0, .ref nt), (1, .int (nI h)), (2, .int x), (3, .int (nI i)), (4, .int (nI (rw i)))]) O dX3_walks_37 (by decide) rfl ?_
        refine v_aload_n O dX3_walks_39 0 rfl ?_
        refine gf_X3_12 O rfl dX3_walks_40 0 rfl rfl ?_
        refine v_iload O dX3_walks_43 4 rfl ?_
        refine v_iload_n O dX3_walks_45 3 rfl ?_
        refine v_aload_n O dX3_walks_46 0 rfl ?_
        refine gf_X3_32 O rfl dX3_walks_47 0 rfl rfl ?_
        refine v_cV (T := TX8) (ci := 8) (As := [.int (nI (rw i)), .int (nI i), .int (nI l)]) (wr := [(nt, .inr (3, [.ref wk, .ref nrw, .int (nI nn), .int (nI nsh), .int (nI nmo), .int (nI l), .int (nI g), .int d])), (nrw, eI D 8 (nF rw))]) (st := []) O cf_X3_65 rfl (sp_X8_comesOut (wk := wk) (kn := kn) (vl := vl) (pt := pt) (gone := gone) (fc := fc) (ovr := ovr) (bkr := bkr) (lf := lf) (dg := dg) (hd := hd) (kk := kk) (pp := pp) (ov := ov) (bk := bk) (m := (rw i)) (s := i) (h := l) (z_rw) (by omega) (by omega) (hN.2.2.1 _ z_rw) (hN.2.2.2.1 _) (hN.2.2.2.2.1 _ z_rw) (hN.2.2.2.2.2.1 i hi9) (hN.2.2.2.2.2.2 i hi9)) dX3_walks_50 rfl rfl 2 rfl [2, 3, 4, 5, 6] [0, 1] (by decide) rfl rfl (by decide) (by decide) (by decide) (Nat.le_of_ble_eq_true rfl) (by decide) (by decide) (fun r_2 w_3 h_1 => ?_)
        obtain ⟨rfl, rfl⟩ := h_1
        refine v_eq (st' := [.int (b2i (¬ wakeN (kk (rw i)) (pp (rw i)) (fun zd => ov (slotN (rw i) i zd)) (fun zd => bk (slotN (rw i) i zd)) l = none))]) (ws' := [(nt, .inr (3, [.ref wk, .ref nrw, .int (nI nn), .int (nI nsh), .int (nI nmo), .int (nI l), .int (nI g), .int d])), (nrw, eI D 8 (nF rw)), (wk, .inr (8, [.ref kn, .ref vl, .ref pt, .int (nI gone), .ref fc, .ref ovr, .ref bkr, .int (nI (oL (wakeN (kk (rw i)) (pp (rw i)) (fun zd => ov (slotN (rw i) i zd)) (fun zd => bk (slotN (rw i) i zd)) l) l)), .int (nI (oG (wakeN (kk (rw i)) (pp (rw i)) (fun zd => ov (slotN (rw i) i zd)) (fun zd => bk (slotN (rw i) i zd)) l) 0)), .int (nI (oD (wakeN (kk (rw i)) (pp (rw i)) (fun zd => ov (slotN (rw i) i zd)) (fun zd => bk (slotN (rw i) i zd)) l) 0))])), (kn, eI D 6 (nF kk)), (pt, eI D 6 (nF pp)), (ovr, eI D 480 (nF ov)), (bkr, eI D 480 (nF bk))]) rfl rfl rfl rfl ?_
        refine v_if_ne O 58 dX3_walks_53 (by decide) (fun z3 => ?_) (fun z3 => ?_)
        · skip
          have z3 := b2i_1.mp z3
          have z3 : ¬ nE kk pp ov bk rw i l = none := z3
          have hW2 := nW_some hW z3
          refine v_aload_n O dX3_walks_58 0 rfl ?_
          refine v_aload_n O dX3_walks_59 0 rfl ?_
          refine gf_X3_12 O rfl dX3_walks_60 0 rfl rfl ?_
          refine gf_X3_69 O rfl dX3_walks_63 2 rfl rfl ?_
          refine pf_X3_32 (fs' := [.ref wk, .ref nrw, .int (nI nn), .int (nI nsh), .int (nI nmo), .int (nI (oL (wakeN (kk (rw i)) (pp (rw i)) (fun zd => ov (slotN (rw i) i zd)) (fun zd => bk (slotN (rw i) i zd)) l) l)), .int (nI g), .int d]) (ws' := [(nt, .inr (3, [.ref wk, .ref nrw, .int (nI nn), .int (nI nsh), .int (nI nmo), .int (nI (oL (wakeN (kk (rw i)) (pp (rw i)) (fun zd => ov (slotN (rw i) i zd)) (fun zd => bk (slotN (rw i) i zd)) l) l)), .int (nI g), .int d])), (nrw, eI D 8 (nF rw)), (wk, .inr (8, [.ref kn, .ref vl, .ref pt, .int (nI gone), .ref fc, .ref ovr, .ref bkr, .int (nI (oL (wakeN (kk (rw i)) (pp (rw i)) (fun zd => ov (slotN (rw i) i zd)) (fun zd => bk (slotN (rw i) i zd)) l) l)), .int (nI (oG (wakeN (kk (rw i)) (pp (rw i)) (fun zd => ov (slotN (rw i) i zd)) (fun zd => bk (slotN (rw i) i zd)) l) 0)), .int (nI (oD (wakeN (kk (rw i)) (pp (rw i)) (fun zd => ov (slotN (rw i) i zd)) (fun zd => bk (slotN (rw i) i zd)) l) 0))])), (kn, eI D 6 (nF kk)), (pt, eI D 6 (nF pp)), (ovr, eI D 480 (nF ov)), (bkr, eI D 480 (nF bk))]) O rfl dX3_walks_66 0 rfl (Nat.le_of_ble_eq_true rfl) rfl rfl ?_
          refine v_aload_n O dX3_walks_69 0 rfl ?_
          refine v_dup O dX3_walks_70 rfl ?_
          refine gf_X3_35 O rfl dX3_walks_71 0 rfl rfl ?_
          refine v_aload_n O dX3_walks_74 0 rfl ?_
          refine gf_X3_12 O rfl dX3_walks_75 0 rfl rfl ?_
          refine gf_X3_70 O rfl dX3_walks_78 2 rfl rfl ?_
          refine v_iadd O dX3_walks_81 ?_
          refine v_top (y := nI (g + (oG (wakeN (kk (rw i)) (pp (rw i)) (fun zd => ov (slotN (rw i) i zd)) (fun zd => bk (slotN (rw i) i zd)) l) 0))) (nI_add g (oG (wakeN (kk (rw i)) (pp (rw i)) (fun zd => ov (slotN (rw i) i zd)) (fun zd => bk (slotN (rw i) i zd)) l) 0)) ?_
          refine pf_X3_35 (fs' := [.ref wk, .ref nrw, .int (nI nn), .int (nI nsh), .int (nI nmo), .int (nI (oL (wakeN (kk (rw i)) (pp (rw i)) (fun zd => ov (slotN (rw i) i zd)) (fun zd => bk (slotN (rw i) i zd)) l) l)), .int (nI (g + (oG (wakeN (kk (rw i)) (pp (rw i)) (fun zd => ov (slotN (rw i) i zd)) (fun zd => bk (slotN (rw i) i zd)) l) 0))), .int d]) (ws' := [(nt, .inr (3, [.ref wk, .ref nrw, .int (nI nn), .int (nI nsh), .int (nI nmo), .int (nI (oL (wakeN (kk (rw i)) (pp (rw i)) (fun zd => ov (slotN (rw i) i zd)) (fun zd => bk (slotN (rw i) i zd)) l) l)), .int (nI (g + (oG (wakeN (kk (rw i)) (pp (rw i)) (fun zd => ov (slotN (rw i) i zd)) (fun zd => bk (slotN (rw i) i zd)) l) 0))), .int d])), (nrw, eI D 8 (nF rw)), (wk, .inr (8, [.ref kn, .ref vl, .ref pt, .int (nI gone), .ref fc, .ref ovr, .ref bkr, .int (nI (oL (wakeN (kk (rw i)) (pp (rw i)) (fun zd => ov (slotN (rw i) i zd)) (fun zd => bk (slotN (rw i) i zd)) l) l)), .int (nI (oG (wakeN (kk (rw i)) (pp (rw i)) (fun zd => ov (slotN (rw i) i zd)) (fun zd => bk (slotN (rw i) i zd)) l) 0)), .int (nI (oD (wakeN (kk (rw i)) (pp (rw i)) (fun zd => ov (slotN (rw i) i zd)) (fun zd => bk (slotN (rw i) i zd)) l) 0))])), (kn, eI D 6 (nF kk)), (pt, eI D 6 (nF pp)), (ovr, eI D 480 (nF ov)), (bkr, eI D 480 (nF bk))]) O rfl dX3_walks_82 0 rfl (Nat.le_of_ble_eq_true rfl) rfl rfl ?_
          refine v_iload O dX3_walks_85 4 rfl ?_
          refine v_iload_n O dX3_walks_87 2 rfl ?_
          refine v_icmp_ne O 107 dX3_walks_88 (by decide) (fun z4 => ?_) (fun z4 => ?_)
          · skip
            refine v_iinc (v := nI (i + 1)) (lv' := [(0, .ref nt), (1, .int (nI h)), (2, .int x), (3, .int (nI (i + 1))), (4, .int (nI (rw i)))]) O dX3_walks_107 3 rfl (nI_1 i) (by decide) rfl ?_
            refine v_goto O 17 dX3_walks_110 (by decide) ?_
            refine v_lvp (lv' := [(0, .ref nt), (1, .int (nI h)), (2, .int x), (3, .int (nI (i + 1)))]) [0, 1, 2, 3] rfl ?_
            exact ih (i + 1) (by omega) _ _ _ _ _ _ _ hW2 (fun m hm z9 => by rw [uN_n (fun z8 => z4 (by rw [z9, z8]))]; exact hQ m hm z9)
          · skip
            refine v_aload_n O dX3_walks_91 0 rfl ?_
            refine v_dup O dX3_walks_92 rfl ?_
            refine gf_X3_38 O rfl dX3_walks_93 0 rfl rfl ?_
            refine v_aload_n O dX3_walks_96 0 rfl ?_
            refine gf_X3_12 O rfl dX3_walks_97 0 rfl rfl ?_
            refine gf_X3_71 O rfl dX3_walks_100 2 rfl rfl ?_
            refine v_iadd O dX3_walks_103 ?_
            refine pf_X3_38 (fs' := [.ref wk, .ref nrw, .int (nI nn), .int (nI nsh), .int (nI nmo), .int (nI (oL (wakeN (kk (rw i)) (pp (rw i)) (fun zd => ov (slotN (rw i) i zd)) (fun zd => bk (slotN (rw i) i zd)) l) l)), .int (nI (g + (oG (wakeN (kk (rw i)) (pp (rw i)) (fun zd => ov (slotN (rw i) i zd)) (fun zd => bk (slotN (rw i) i zd)) l) 0))), .int (d + (nI (oD (wakeN (kk (rw i)) (pp (rw i)) (fun zd => ov (slotN (rw i) i zd)) (fun zd => bk (slotN (rw i) i zd)) l) 0)))]) (ws' := [(nt, .inr (3, [.ref wk, .ref nrw, .int (nI nn), .int (nI nsh), .int (nI nmo), .int (nI (oL (wakeN (kk (rw i)) (pp (rw i)) (fun zd => ov (slotN (rw i) i zd)) (fun zd => bk (slotN (rw i) i zd)) l) l)), .int (nI (g + (oG (wakeN (kk (rw i)) (pp (rw i)) (fun zd => ov (slotN (rw i) i zd)) (fun zd => bk (slotN (rw i) i zd)) l) 0))), .int (d + (nI (oD (wakeN (kk (rw i)) (pp (rw i)) (fun zd => ov (slotN (rw i) i zd)) (fun zd => bk (slotN (rw i) i zd)) l) 0)))])), (nrw, eI D 8 (nF rw)), (wk, .inr (8, [.ref kn, .ref vl, .ref pt, .int (nI gone), .ref fc, .ref ovr, .ref bkr, .int (nI (oL (wakeN (kk (rw i)) (pp (rw i)) (fun zd => ov (slotN (rw i) i zd)) (fun zd => bk (slotN (rw i) i zd)) l) l)), .int (nI (oG (wakeN (kk (rw i)) (pp (rw i)) (fun zd => ov (slotN (rw i) i zd)) (fun zd => bk (slotN (rw i) i zd)) l) 0)), .int (nI (oD (wakeN (kk (rw i)) (pp (rw i)) (fun zd => ov (slotN (rw i) i zd)) (fun zd => bk (slotN (rw i) i zd)) l) 0))])), (kn, eI D 6 (nF kk)), (pt, eI D 6 (nF pp)), (ovr, eI D 480 (nF ov)), (bkr, eI D 480 (nF bk))]) O rfl dX3_walks_104 0 rfl (Nat.le_of_ble_eq_true rfl) rfl rfl ?_
            refine v_iinc (v := nI (i + 1)) (lv' := [(0, .ref nt), (1, .int (nI h)), (2, .int x), (3, .int (nI (i + 1))), (4, .int (nI (rw i)))]) O dX3_walks_107 3 rfl (nI_1 i) (by decide) rfl ?_
            refine v_goto O 17 dX3_walks_110 (by decide) ?_
            refine v_lvp (lv' := [(0, .ref nt), (1, .int (nI h)), (2, .int x), (3, .int (nI (i + 1)))]) [0, 1, 2, 3] rfl ?_
            exact ih (i + 1) (by omega) _ _ _ _ _ _ _ hW2 (fun m hm z9 => by
              have z8 : m = rw i := (c_eq rfl rfl (by omega) (by omega)).mp (z9.symm.trans z4.symm)
              subst z8
              rw [uN_s, hQ _ hm z9]
              exact nI_add _ _)
        · skip
          have z3 := b2i_0.mp z3
          have z3 : nE kk pp ov bk rw i l = none := Classical.not_not.mp z3
          refine v_iconst (v := 0) O dX3_walks_56 (by decide) ?_
          exact v_ireturn O T rfl rfl (by decide) (by decide) dX3_walks_57 (⟨_, _, _, _, _, _, by rw [b2i_f (fun z9 => z9 (nW_none hi9 hW z3))], rfl, fun L T Q2 z9 => by rw [nW_none hi9 hW z3] at z9; cases z9⟩)
set_option maxRecDepth 100000 in
set_option maxHeartbeats 4000000 in
theorem sp_X3_walks {D : G} {nt : Nat} {nrw : Nat} {nn : Nat} {nsh : Nat} {nmo : Nat} {wk : Nat} {kn : Nat} {vl : Nat} {pt : Nat} {gone : Nat} {fc : Nat} {ovr : Nat} {bkr : Nat} {kk : Nat → Nat} {pp : Nat → Nat} {ov : Nat → Nat} {bk : Nat → Nat} {rw : Nat → Nat} {l0 : Int32} {g0 : Int32} {d0 : Int32} {lf : Int32} {dg : Int32} {hd : Int32} {h : Nat} {x : Int32} (hN : nOk kk pp ov bk rw nn) (hh : h < 1000000) : Sp D mX3_walks 4 0 0 [.ref nt, .int (nI h), .int x] [(nt, .inr (3, [.ref wk, .ref nrw, .int (nI nn), .int (nI nsh), .int (nI nmo), .int l0, .int g0, .int d0])), (nrw, eI D 8 (nF rw)), (wk, .inr (8, [.ref kn, .ref vl, .ref pt, .int (nI gone), .ref fc, .ref ovr, .ref bkr, .int lf, .int dg, .int hd])), (kn, eI D 6 (nF kk)), (pt, eI D 6 (nF pp)), (ovr, eI D 480 (nF ov)), (bkr, eI D 480 (nF bk))] (fun r w => ∃ l1 : Int32, ∃ g1 : Int32, ∃ d1 : Int32, ∃ l2 : Int32, ∃ g2 : Int32, ∃ d2 : Int32, r = some (.int (b2i (¬ nW kk pp ov bk rw h nn = none))) ∧ w = [(nt, .inr (3, [.ref wk, .ref nrw, .int (nI nn), .int (nI nsh), .int (nI nmo), .int l1, .int g1, .int d1])), (nrw, eI D 8 (nF rw)), (wk, .inr (8, [.ref kn, .ref vl, .ref pt, .int (nI gone), .ref fc, .ref ovr, .ref bkr, .int l2, .int g2, .int d2])), (kn, eI D 6 (nF kk)), (pt, eI D 6 (nF pp)), (ovr, eI D 480 (nF ov)), (bkr, eI D 480 (nF bk))] ∧ (∀ L T Q, nW kk pp ov bk rw h nn = some (L, T, Q) → l1 = nI L ∧ g1 = nI T ∧ ∀ m, m < 6 → x = nI m → d1 = nI (Q m))) := by
  refine Sp.of (by decide) (Nat.le_of_ble_eq_true rfl) (fun X O T => ?_)
  refine v_eq (lv' := [(0, .ref nt), (1, .int (nI h)), (2, .int x)]) rfl rfl rfl rfl ?_
  refine v_aload_n O dX3_walks_0 0 rfl ?_
  refine v_iload_n O dX3_walks_1 1 rfl ?_
  refine pf_X3_32 (fs' := [.ref wk, .ref nrw, .int (nI nn), .int (nI nsh), .int (nI nmo), .int (nI h), .int g0, .int d0]) (ws' := [(nt, .inr (3, [.ref wk, .ref nrw, .int (nI nn), .int (nI nsh), .int (nI nmo), .int (nI h), .int g0, .int d0])), (nrw, eI D 8 (nF rw)), (wk, .inr (8, [.ref kn, .ref vl, .ref pt, .int (nI gone), .ref fc, .ref ovr, .ref bkr, .int lf, .int dg, .int hd])), (kn, eI D 6 (nF kk)), (pt, eI D 6 (nF pp)), (ovr, eI D 480 (nF ov)), (bkr, eI D 480 (nF bk))]) O rfl dX3_walks_2 0 rfl (Nat.le_of_ble_eq_true rfl) rfl rfl ?_
  refine v_aload_n O dX3_walks_5 0 rfl ?_
  refine v_iconst (v := 0) O dX3_walks_6 (by decide) ?_
  refine pf_X3_35 (fs' := [.ref wk, .ref nrw, .int (nI nn), .int (nI nsh), .int (nI nmo), .int (nI h), .int 0, .int d0]) (ws' := [(nt, .inr (3, [.ref wk, .ref nrw, .int (nI nn), .int (nI nsh), .int (nI nmo), .int (nI h), .int 0, .int d0])), (nrw, eI D 8 (nF rw)), (wk, .inr (8, [.ref kn, .ref vl, .ref pt, .int (nI gone), .ref fc, .ref ovr, .ref bkr, .int lf, .int dg, .int hd])), (kn, eI D 6 (nF kk)), (pt, eI D 6 (nF pp)), (ovr, eI D 480 (nF ov)), (bkr, eI D 480 (nF bk))]) O rfl dX3_walks_7 0 rfl (Nat.le_of_ble_eq_true rfl) rfl rfl ?_
  refine v_aload_n O dX3_walks_10 0 rfl ?_
  refine v_iconst (v := 0) O dX3_walks_11 (by decide) ?_
  refine pf_X3_38 (fs' := [.ref wk, .ref nrw, .int (nI nn), .int (nI nsh), .int (nI nmo), .int (nI h), .int 0, .int 0]) (ws' := [(nt, .inr (3, [.ref wk, .ref nrw, .int (nI nn), .int (nI nsh), .int (nI nmo), .int (nI h), .int 0, .int 0])), (nrw, eI D 8 (nF rw)), (wk, .inr (8, [.ref kn, .ref vl, .ref pt, .int (nI gone), .ref fc, .ref ovr, .ref bkr, .int lf, .int dg, .int hd])), (kn, eI D 6 (nF kk)), (pt, eI D 6 (nF pp)), (ovr, eI D 480 (nF ov)), (bkr, eI D 480 (nF bk))]) O rfl dX3_walks_12 0 rfl (Nat.le_of_ble_eq_true rfl) rfl rfl ?_
  refine v_iconst (v := 0) O dX3_walks_15 (by decide) ?_
  refine v_istore_n (lv' := [(0, .ref nt), (1, .int (nI h)), (2, .int x), (3, .int 0)]) O dX3_walks_16 (by decide) rfl ?_
  refine v_eq (lv' := [(0, .ref nt), (1, .int (nI h)), (2, .int x), (3, .int (nI 0))]) (ws' := [(nt, .inr (3, [.ref wk, .ref nrw, .int (nI nn), .int (nI nsh), .int (nI nmo), .int (nI h), .int (nI 0), .int (nI 0)])), (nrw, eI D 8 (nF rw)), (wk, .inr (8, [.ref kn, .ref vl, .ref pt, .int (nI gone), .ref fc, .ref ovr, .ref bkr, .int lf, .int dg, .int hd])), (kn, eI D 6 (nF kk)), (pt, eI D 6 (nF pp)), (ovr, eI D 480 (nF ov)), (bkr, eI D 480 (nF bk))]) rfl rfl rfl rfl ?_
  exact l_X3_walks O hN hh T nn 0 (by omega) h 0 (fun _ => 0) _ _ _ _ rfl (fun _ _ _ => rfl)
set_option maxRecDepth 100000 in
set_option maxHeartbeats 4000000 in
theorem sp_X3_comesOut {D : G} {nt : Nat} {nrw : Nat} {nn : Nat} {nsh : Nat} {nmo : Nat} {wk : Nat} {kn : Nat} {vl : Nat} {pt : Nat} {gone : Nat} {fc : Nat} {ovr : Nat} {bkr : Nat} {kk : Nat → Nat} {pp : Nat → Nat} {ov : Nat → Nat} {bk : Nat → Nat} {rw : Nat → Nat} {l0 : Int32} {g0 : Int32} {d0 : Int32} {lf : Int32} {dg : Int32} {hd : Int32} {h : Nat} (hN : nOk kk pp ov bk rw nn) (hsh : 2 ≤ nsh) (hs9 : nsh ≤ 99) (hmo : nmo ≤ 99) (hh : h < 1000000) : Sp D mX3_comesOut 5 0 0 [.ref nt, .int (nI h)] [(nt, .inr (3, [.ref wk, .ref nrw, .int (nI nn), .int (nI nsh), .int (nI nmo), .int l0, .int g0, .int d0])), (nrw, eI D 8 (nF rw)), (wk, .inr (8, [.ref kn, .ref vl, .ref pt, .int (nI gone), .ref fc, .ref ovr, .ref bkr, .int lf, .int dg, .int hd])), (kn, eI D 6 (nF kk)), (pt, eI D 6 (nF pp)), (ovr, eI D 480 (nF ov)), (bkr, eI D 480 (nF bk))] (fun r w => ∃ l1 : Int32, ∃ g1 : Int32, ∃ d1 : Int32, ∃ l2 : Int32, ∃ g2 : Int32, ∃ d2 : Int32, r = some (.int (b2i (nightP nsh nmo (nW kk pp ov bk rw h nn)))) ∧ w = [(nt, .inr (3, [.ref wk, .ref nrw, .int (nI nn), .int (nI nsh), .int (nI nmo), .int l1, .int g1, .int d1])), (nrw, eI D 8 (nF rw)), (wk, .inr (8, [.ref kn, .ref vl, .ref pt, .int (nI gone), .ref fc, .ref ovr, .ref bkr, .int l2, .int g2, .int d2])), (kn, eI D 6 (nF kk)), (pt, eI D 6 (nF pp)), (ovr, eI D 480 (nF ov)), (bkr, eI D 480 (nF bk))]) := by
  refine Sp.of (by decide) (Nat.le_of_ble_eq_true rfl) (fun X O T => ?_)
  refine v_eq (lv' := [(0, .ref nt), (1, .int (nI h))]) rfl rfl rfl rfl ?_
  refine v_aload_n O dX3_comesOut_0 0 rfl ?_
  refine v_iload_n O dX3_comesOut_1 1 rfl ?_
  refine v_iconst (v := -1) O dX3_comesOut_2 (by decide) ?_
  refine v_cV (T := TX3) (ci := 3) (As := [.int (nI h), .int (-1)]) (wr := []) (st := []) O cf_X3_72 rfl (sp_X3_walks (nt := nt) (nrw := nrw) (nn := nn) (nsh := nsh) (nmo := nmo) (wk := wk) (kn := kn) (vl := vl) (pt := pt) (gone := gone) (fc := fc) (ovr := ovr) (bkr := bkr) (kk := kk) (pp := pp) (ov := ov) (bk := bk) (rw := rw) (l0 := l0) (g0 := g0) (d0 := d0) (lf := lf) (dg := dg) (hd := hd) (h := h) (x := (-1)) (hN) (hh)) dX3_comesOut_3 rfl rfl 0 rfl [0, 1, 2, 3, 4, 5, 6] [] (by decide) rfl rfl (by decide) (by decide) (by decide) (Nat.le_of_ble_eq_true rfl) (by decide) (by decide) (fun r_2 w_3 h_1 => ?_)
  obtain ⟨l1_4, g1_5, d1_6, l2_7, g2_8, d2_9, rfl, rfl, hw_9⟩ := h_1
  refine v_eq (st' := [.int (b2i (¬ nW kk pp ov bk rw h nn = none))]) (ws' := [(nt, .inr (3, [.ref wk, .ref nrw, .int (nI nn), .int (nI nsh), .int (nI nmo), .int l1_4, .int g1_5, .int d1_6])), (nrw, eI D 8 (nF rw)), (wk, .inr (8, [.ref kn, .ref vl, .ref pt, .int (nI gone), .ref fc, .ref ovr, .ref bkr, .int l2_7, .int g2_8, .int d2_9])), (kn, eI D 6 (nF kk)), (pt, eI D 6 (nF pp)), (ovr, eI D 480 (nF ov)), (bkr, eI D 480 (nF bk))]) rfl rfl rfl rfl ?_
  refine v_if_eq O 17 dX3_comesOut_6 (by decide) (fun z1 => ?_) (fun z1 => ?_)
  · skip
    have z1 := b2i_0.mp z1
    refine v_iconst (v := 0) O dX3_comesOut_17 (by decide) ?_
    exact v_ireturn O T rfl rfl (by decide) (by decide) dX3_comesOut_18 (⟨_, _, _, _, _, _, by rw [b2i_f (by rw [Classical.not_not.mp z1]; exact id)], rfl⟩)
  · skip
    have z1 := b2i_1.mp z1
    obtain ⟨⟨zL, zT, zQ⟩, zW⟩ := Option.ne_none_iff_exists'.mp z1
    obtain ⟨z_a, z_b, _⟩ := hw_9 zL zT zQ zW
    subst z_a
    have z_le := (nW_le hN zW).1
    refine v_aload_n O dX3_comesOut_9 0 rfl ?_
    refine gf_X3_26 O rfl dX3_comesOut_10 0 rfl rfl ?_
    refine v_iconst (v := 1) O dX3_comesOut_13 (by decide) ?_
    refine v_icmp_ge O 19 dX3_comesOut_14 (by decide) (fun z2 => ?_) (fun z2 => ?_)
    · skip
      have z2 := (c_le' (x := nI nsh) (y := 1) (a := nsh) (b := 1) rfl rfl (by omega) (by omega)).mp z2
      refine v_aload_n O dX3_comesOut_19 0 rfl ?_
      refine gf_X3_32 O rfl dX3_comesOut_20 0 rfl rfl ?_
      refine v_aload_n O dX3_comesOut_23 0 rfl ?_
      refine gf_X3_29 O rfl dX3_comesOut_24 0 rfl rfl ?_
      refine v_icmp_lt O 51 dX3_comesOut_27 (by decide) (fun z3 => ?_) (fun z3 => ?_)
      · skip
        have z3 := (c_lt (x := nI zL) (y := nI nmo) (a := zL) (b := nmo) rfl rfl (by omega) (by omega)).mp z3
        refine v_iconst (v := 0) O dX3_comesOut_51 (by decide) ?_
        exact v_ireturn O T rfl rfl (by decide) (by decide) dX3_comesOut_52 (⟨_, _, _, _, _, _, by rw [b2i_f (by rw [zW]; exact fun z9 => absurd z9.1 (by show ¬ nmo ≤ zL; omega))], rfl⟩)
      · skip
        have z3 := (not_congr (c_lt (x := nI zL) (y := nI nmo) (a := zL) (b := nmo) rfl rfl (by omega) (by omega))).mp z3
        refine v_aload_n O dX3_comesOut_30 0 rfl ?_
        refine gf_X3_32 O rfl dX3_comesOut_31 0 rfl rfl ?_
        refine v_aload_n O dX3_comesOut_34 0 rfl ?_
        refine gf_X3_29 O rfl dX3_comesOut_35 0 rfl rfl ?_
        refine v_isub O dX3_comesOut_38 ?_
        refine v_top (y := nI (zL - nmo)) (pk_sub (by omega)) ?_
        refine v_aload_n O dX3_comesOut_39 0 rfl ?_
        refine gf_X3_26 O rfl dX3_comesOut_40 0 rfl rfl ?_
        refine v_irem O dX3_comesOut_43 (nI_ne0 (by omega) (by omega)) ?_
        refine v_top (y := nI ((zL - nmo) % nsh)) (pk_rem (by omega) (by omega) (by omega)) ?_
        have z5 : (zL - nmo) % nsh < nsh := Nat.mod_lt _ (by omega)
        refine v_if_ne O 51 dX3_comesOut_44 (by decide) (fun z4 => ?_) (fun z4 => ?_)
        · skip
          have z4 := (not_congr (c_eq (x := nI ((zL - nmo) % nsh)) (y := 0) (a := (zL - nmo) % nsh) (b := 0) rfl rfl (by omega) (by omega))).mp z4
          refine v_iconst (v := 0) O dX3_comesOut_51 (by decide) ?_
          exact v_ireturn O T rfl rfl (by decide) (by decide) dX3_comesOut_52 (⟨_, _, _, _, _, _, by rw [b2i_f (by rw [zW]; exact fun z9 => z4 z9.2)], rfl⟩)
        · skip
          have z4 := (c_eq (x := nI ((zL - nmo) % nsh)) (y := 0) (a := (zL - nmo) % nsh) (b := 0) rfl rfl (by omega) (by omega)).mp z4
          refine v_iconst (v := 1) O dX3_comesOut_47 (by decide) ?_
          refine v_goto O 52 dX3_comesOut_48 (by decide) ?_
          exact v_ireturn O T rfl rfl (by decide) (by decide) dX3_comesOut_52 (⟨_, _, _, _, _, _, by rw [b2i_t (by rw [zW]; exact ⟨Nat.not_lt.mp z3, z4⟩)], rfl⟩)
    · skip
      have z2 := (not_congr (c_le' (x := nI nsh) (y := 1) (a := nsh) (b := 1) rfl rfl (by omega) (by omega))).mp z2
      exact absurd z2 (by omega)
set_option maxRecDepth 100000 in
set_option maxHeartbeats 4000000 in
theorem l_X3_first {D : G} {X : CX} {nt : Nat} {nrw : Nat} {nn : Nat} {nsh : Nat} {nmo : Nat} {wk : Nat} {kn : Nat} {vl : Nat} {pt : Nat} {gone : Nat} {fc : Nat} {ovr : Nat} {bkr : Nat} {kk : Nat → Nat} {pp : Nat → Nat} {ov : Nat → Nat} {bk : Nat → Nat} {rw : Nat → Nat} {a : Nat} {b : Nat} (O : Ok D X mX3_first 6 0 0) (hN : nOk kk pp ov bk rw nn) (hsh : 2 ≤ nsh) (hs9 : nsh ≤ 99) (hmo : nmo ≤ 99) (hab : a ≤ b) (hb : b < 100000) (T : Rt D X (fun r w => ∃ l1 : Int32, ∃ g1 : Int32, ∃ d1 : Int32, ∃ l2 : Int32, ∃ g2 : Int32, ∃ d2 : Int32, r = some (.int (firstN (fun zh => nightP nsh nmo (nW kk pp ov bk rw zh nn)) (b + 1 - a) a)) ∧ w = [(nt, .inr (3, [.ref wk, .ref nrw, .int (nI nn), .int (nI nsh), .int (nI nmo), .int l1, .int g1, .int d1])), (nrw, eI D 8 (nF rw)), (wk, .inr (8, [.ref kn, .ref vl, .ref pt, .int (nI gone), .ref fc, .ref ovr, .ref bkr, .int l2, .int g2, .int d2])), (kn, eI D 6 (nF kk)), (pt, eI D 6 (nF pp)), (ovr, eI D 480 (nF ov)), (bkr, eI D 480 (nF bk))]) 0 0) : ∀ (t i : Nat), i + t = b + 1 → ∀ (l0 g0 d0 lf dg hd : Int32), firstN (fun zh => nightP nsh nmo (nW kk pp ov bk rw zh nn)) (b + 1 - a) a = firstN (fun zh => nightP nsh nmo (nW kk pp ov bk rw zh nn)) t i → V D X 0 0 2 [(0, .ref nt), (1, .int (nI a)), (2, .int (nI b)), (3, .int (nI i))] [] [(nt, .inr (3, [.ref wk, .ref nrw, .int (nI nn), .int (nI nsh), .int (nI nmo), .int l0, .int g0, .int d0])), (nrw, eI D 8 (nF rw)), (wk, .inr (8, [.ref kn, .ref vl, .ref pt, .int (nI gone), .ref fc, .ref ovr, .ref bkr, .int lf, .int dg, .int hd])), (kn, eI D 6 (nF kk)), (pt, eI D 6 (nF pp)), (ovr, eI D 480 (nF ov)), (bkr, eI D 480 (nF bk))] := by
  intro t
  induction t with
  | zero =>
    intro i hi l0 g0 d0 lf dg hd hF
    refine v_iload_n O dX3_first_2 3 rfl ?_
    refine v_iload_n O dX3_first_3 2 rfl ?_
    refine v_icmp_gt O 23 dX3_first_4 (by decide) (fun z0 => ?_) (fun z0 => ?_)
    · skip
      have z0 := (c_lt' (x := nI i) (y := nI b) (a := i) (b := b) rfl rfl (by omega) (by omega)).mp z0
      refine v_bipush (v := -5) O dX3_first_23 (by decide) ?_
      exact v_ireturn O T rfl rfl (by decide) (by decide) dX3_first_25 (⟨_, _, _, _, _, _, by rw [hF]; rfl, rfl⟩)
    · skip
      have z0 := (not_congr (c_lt' (x := nI i) (y := nI b) (a := i) (b := b) rfl rfl (by omega) (by omega))).mp z0
      exact absurd z0 (by omega)
  | succ t ih =>
    intro i hi l0 g0 d0 lf dg hd hF
    refine v_iload_n O dX3_first_2 3 rfl ?_
    refine v_iload_n O dX3_first_3 2 rfl ?_
    refine v_icmp_gt O 23 dX3_first_4 (by decide) (fun z0 => ?_) (fun z0 => ?_)
    · skip
      have z0 := (c_lt' (x := nI i) (y := nI b) (a := i) (b := b) rfl rfl (by omega) (by omega)).mp z0
      exact absurd z0 (by omega)
    · skip
      have z0 := (not_congr (c_lt' (x := nI i) (y := nI b) (a := i) (b := b) rfl rfl (by omega) (by omega))).mp z0
      refine v_aload_n O dX3_first_7 0 rfl ?_
      refine v_iload_n O dX3_first_8 3 rfl ?_
      refine v_cV (T := TX3) (ci := 3) (As := [.int (nI i)]) (wr := []) (st := []) O cf_X3_76 rfl (sp_X3_comesOut (nt := nt) (nrw := nrw) (nn := nn) (nsh := nsh) (nmo := nmo) (wk := wk) (kn := kn) (vl := vl) (pt := pt) (gone := gone) (fc := fc) (ovr := ovr) (bkr := bkr) (kk := kk) (pp := pp) (ov := ov) (bk := bk) (rw := rw) (l0 := l0) (g0 := g0) (d0 := d0) (lf := lf) (dg := dg) (hd := hd) (h := i) (hN) (hsh) (hs9) (hmo) (by omega)) dX3_first_9 rfl rfl 0 rfl [0, 1, 2, 3, 4, 5, 6] [] (by decide) rfl rfl (by decide) (by decide) (by decide) (Nat.le_of_ble_eq_true rfl) (by decide) (by decide) (fun r_2 w_3 h_1 => ?_)
      obtain ⟨l1_4, g1_5, d1_6, l2_7, g2_8, d2_9, rfl, rfl⟩ := h_1
      refine v_eq (st' := [.int (b2i (nightP nsh nmo (nW kk pp ov bk rw i nn)))]) (ws' := [(nt, .inr (3, [.ref wk, .ref nrw, .int (nI nn), .int (nI nsh), .int (nI nmo), .int l1_4, .int g1_5, .int d1_6])), (nrw, eI D 8 (nF rw)), (wk, .inr (8, [.ref kn, .ref vl, .ref pt, .int (nI gone), .ref fc, .ref ovr, .ref bkr, .int l2_7, .int g2_8, .int d2_9])), (kn, eI D 6 (nF kk)), (pt, eI D 6 (nF pp)), (ovr, eI D 480 (nF ov)), (bkr, eI D 480 (nF bk))]) rfl rfl rfl rfl ?_
      refine v_if_eq O 17 dX3_first_12 (by decide) (fun z2 => ?_) (fun z2 => ?_)
      · skip
        have z2 := b2i_0.mp z2
        refine v_iinc (v := nI (i + 1)) (lv' := [(0, .ref nt), (1, .int (nI a)), (2, .int (nI b)), (3, .int (nI (i + 1)))]) O dX3_first_17 3 rfl (nI_1 i) (by decide) rfl ?_
        refine v_goto O 2 dX3_first_20 (by decide) ?_
        exact ih (i + 1) (by omega) _ _ _ _ _ _ (by rw [hF, firstN, iteP_f z2])
      · skip
        have z2 := b2i_1.mp z2
        refine v_iload_n O dX3_first_15 3 rfl ?_
        exact v_ireturn O T rfl rfl (by decide) (by decide) dX3_first_16 (⟨_, _, _, _, _, _, by rw [hF, firstN, iteP_t z2], rfl⟩)
set_option maxRecDepth 100000 in
set_option maxHeartbeats 4000000 in
theorem sp_X3_first {D : G} {nt : Nat} {nrw : Nat} {nn : Nat} {nsh : Nat} {nmo : Nat} {wk : Nat} {kn : Nat} {vl : Nat} {pt : Nat} {gone : Nat} {fc : Nat} {ovr : Nat} {bkr : Nat} {kk : Nat → Nat} {pp : Nat → Nat} {ov : Nat → Nat} {bk : Nat → Nat} {rw : Nat → Nat} {l0 : Int32} {g0 : Int32} {d0 : Int32} {lf : Int32} {dg : Int32} {hd : Int32} {a : Nat} {b : Nat} (hN : nOk kk pp ov bk rw nn) (hsh : 2 ≤ nsh) (hs9 : nsh ≤ 99) (hmo : nmo ≤ 99) (hab : a ≤ b) (hb : b < 100000) : Sp D mX3_first 6 0 0 [.ref nt, .int (nI a), .int (nI b)] [(nt, .inr (3, [.ref wk, .ref nrw, .int (nI nn), .int (nI nsh), .int (nI nmo), .int l0, .int g0, .int d0])), (nrw, eI D 8 (nF rw)), (wk, .inr (8, [.ref kn, .ref vl, .ref pt, .int (nI gone), .ref fc, .ref ovr, .ref bkr, .int lf, .int dg, .int hd])), (kn, eI D 6 (nF kk)), (pt, eI D 6 (nF pp)), (ovr, eI D 480 (nF ov)), (bkr, eI D 480 (nF bk))] (fun r w => ∃ l1 : Int32, ∃ g1 : Int32, ∃ d1 : Int32, ∃ l2 : Int32, ∃ g2 : Int32, ∃ d2 : Int32, r = some (.int (firstN (fun zh => nightP nsh nmo (nW kk pp ov bk rw zh nn)) (b + 1 - a) a)) ∧ w = [(nt, .inr (3, [.ref wk, .ref nrw, .int (nI nn), .int (nI nsh), .int (nI nmo), .int l1, .int g1, .int d1])), (nrw, eI D 8 (nF rw)), (wk, .inr (8, [.ref kn, .ref vl, .ref pt, .int (nI gone), .ref fc, .ref ovr, .ref bkr, .int l2, .int g2, .int d2])), (kn, eI D 6 (nF kk)), (pt, eI D 6 (nF pp)), (ovr, eI D 480 (nF ov)), (bkr, eI D 480 (nF bk))]) := by
  refine Sp.of (by decide) (Nat.le_of_ble_eq_true rfl) (fun X O T => ?_)
  refine v_eq (lv' := [(0, .ref nt), (1, .int (nI a)), (2, .int (nI b))]) rfl rfl rfl rfl ?_
  refine v_iload_n O dX3_first_0 1 rfl ?_
  refine v_istore_n (lv' := [(0, .ref nt), (1, .int (nI a)), (2, .int (nI b)), (3, .int (nI a))]) O dX3_first_1 (by decide) rfl ?_
  exact l_X3_first O hN hsh hs9 hmo hab hb T (b + 1 - a) a (by omega) _ _ _ _ _ _ rfl
set_option maxRecDepth 100000 in
set_option maxHeartbeats 4000000 in
theorem l_X3_firstThatLeaves {D : G} {X : CX} {nt : Nat} {nrw : Nat} {nn : Nat} {nsh : Nat} {nmo : Nat} {wk : Nat} {kn : Nat} {vl : Nat} {pt : Nat} {gone : Nat} {fc : Nat} {ovr : Nat} {bkr : Nat} {kk : Nat → Nat} {pp : Nat → Nat} {ov : Nat → Nat} {bk : Nat → Nat} {rw : Nat → Nat} {a : Nat} {b : Nat} (O : Ok D X mX3_firstThatLeaves 6 0 0) (hN : nOk kk pp ov bk rw nn) (hab : a ≤ b) (hb : b < 100000) (T : Rt D X (fun r w => ∃ l1 : Int32, ∃ g1 : Int32, ∃ d1 : Int32, ∃ l2 : Int32, ∃ g2 : Int32, ∃ d2 : Int32, r = some (.int (firstN (fun zh => leaveP a (nW kk pp ov bk rw zh nn)) (b + 1 - a) a)) ∧ w = [(nt, .inr (3, [.ref wk, .ref nrw, .int (nI nn), .int (nI nsh), .int (nI nmo), .int l1, .int g1, .int d1])), (nrw, eI D 8 (nF rw)), (wk, .inr (8, [.ref kn, .ref vl, .ref pt, .int (nI gone), .ref fc, .ref ovr, .ref bkr, .int l2, .int g2, .int d2])), (kn, eI D 6 (nF kk)), (pt, eI D 6 (nF pp)), (ovr, eI D 480 (nF ov)), (bkr, eI D 480 (nF bk))]) 0 0) : ∀ (t i : Nat), i + t = b + 1 → ∀ (l0 g0 d0 lf dg hd : Int32), firstN (fun zh => leaveP a (nW kk pp ov bk rw zh nn)) (b + 1 - a) a = firstN (fun zh => leaveP a (nW kk pp ov bk rw zh nn)) t i → V D X 0 0 2 [(0, .ref nt), (1, .int (nI a)), (2, .int (nI b)), (3, .int (nI i))] [] [(nt, .inr (3, [.ref wk, .ref nrw, .int (nI nn), .int (nI nsh), .int (nI nmo), .int l0, .int g0, .int d0])), (nrw, eI D 8 (nF rw)), (wk, .inr (8, [.ref kn, .ref vl, .ref pt, .int (nI gone), .ref fc, .ref ovr, .ref bkr, .int lf, .int dg, .int hd])), (kn, eI D 6 (nF kk)), (pt, eI D 6 (nF pp)), (ovr, eI D 480 (nF ov)), (bkr, eI D 480 (nF bk))] := by
  intro t
  induction t with
  | zero =>
    intro i hi l0 g0 d0 lf dg hd hF
    refine v_iload_n O dX3_firstThatLeaves_2 3 rfl ?_
    refine v_iload_n O dX3_firstThatLeaves_3 2 rfl ?_
    refine v_icmp_gt O 32 dX3_firstThatLeaves_4 (by decide) (fun z0 => ?_) (fun z0 => ?_)
    · skip
      have z0 := (c_lt' (x := nI i) (y := nI b) (a := i) (b := b) rfl rfl (by omega) (by omega)).mp z0
      refine v_bipush (v := -5) O dX3_firstThatLeaves_32 (by decide) ?_
      exact v_ireturn O T rfl rfl (by decide) (by decide) dX3_firstThatLeaves_34 (⟨_, _, _, _, _, _, by rw [hF]; rfl, rfl⟩)
    · skip
      have z0 := (not_congr (c_lt' (x := nI i) (y := nI b) (a := i) (b := b) rfl rfl (by omega) (by omega))).mp z0
      exact absurd z0 (by omega)
  | succ t ih =>
    intro i hi l0 g0 d0 lf dg hd hF
    refine v_iload_n O dX3_firstThatLeaves_2 3 rfl ?_
    refine v_iload_n O dX3_firstThatLeaves_3 2 rfl ?_
    refine v_icmp_gt O 32 dX3_firstThatLeaves_4 (by decide) (fun z0 => ?_) (fun z0 => ?_)
    · skip
      have z0 := (c_lt' (x := nI i) (y := nI b) (a := i) (b := b) rfl rfl (by omega) (by omega)).mp z0
      exact absurd z0 (by omega)
    · skip
      have z0 := (not_congr (c_lt' (x := nI i) (y := nI b) (a := i) (b := b) rfl rfl (by omega) (by omega))).mp z0
      refine v_aload_n O dX3_firstThatLeaves_7 0 rfl ?_
      refine v_iload_n O dX3_firstThatLeaves_8 3 rfl ?_
      refine v_iconst (v := -1) O dX3_firstThatLeaves_9 (by decide) ?_
      refine v_cV (T := TX3) (ci := 3) (As := [.int (nI i), .int (-1)]) (wr := []) (st := []) O cf_X3_72 rfl (sp_X3_walks (nt := nt) (nrw := nrw) (nn := nn) (nsh := nsh) (nmo := nmo) (wk := wk) (kn := kn) (vl := vl) (pt := pt) (gone := gone) (fc := fc) (ovr := ovr) (bkr := bkr) (kk := kk) (pp := pp) (ov := ov) (bk := bk) (rw := rw) (l0 := l0) (g0 := g0) (d0 := d0) (lf := lf) (dg := dg) (hd := hd) (h := i) (x := (-1)) (hN) (by omega)) dX3_firstThatLeaves_10 rfl rfl 0 rfl [0, 1, 2, 3, 4, 5, 6] [] (by decide) rfl rfl (by decide) (by decide) (by decide) (Nat.le_of_ble_eq_true rfl) (by decide) (by decide) (fun r_2 w_3 h_1 => ?_)
      obtain ⟨l1_4, g1_5, d1_6, l2_7, g2_8, d2_9, rfl, rfl, hw_9⟩ := h_1
      refine v_eq (st' := [.int (b2i (¬ nW kk pp ov bk rw i nn = none))]) (ws' := [(nt, .inr (3, [.ref wk, .ref nrw, .int (nI nn), .int (nI nsh), .int (nI nmo), .int l1_4, .int g1_5, .int d1_6])), (nrw, eI D 8 (nF rw)), (wk, .inr (8, [.ref kn, .ref vl, .ref pt, .int (nI gone), .ref fc, .ref ovr, .ref bkr, .int l2_7, .int g2_8, .int d2_9])), (kn, eI D 6 (nF kk)), (pt, eI D 6 (nF pp)), (ovr, eI D 480 (nF ov)), (bkr, eI D 480 (nF bk))]) rfl rfl rfl rfl ?_
      refine v_if_eq O 26 dX3_firstThatLeaves_13 (by decide) (fun z1 => ?_) (fun z1 => ?_)
      · skip
        have z1 := b2i_0.mp z1
        have z2 : ¬ (fun zh => leaveP a (nW kk pp ov bk rw zh nn)) i := by show ¬ leaveP a (nW kk pp ov bk rw i nn); rw [Classical.not_not.mp z1]; exact id
        refine v_iinc (v := nI (i + 1)) (lv' := [(0, .ref nt), (1, .int (nI a)), (2, .int (nI b)), (3, .int (nI (i + 1)))]) O dX3_firstThatLeaves_26 3 rfl (nI_1 i) (by decide) rfl ?_
        refine v_goto O 2 dX3_firstThatLeaves_29 (by decide) ?_
        exact ih (i + 1) (by omega) _ _ _ _ _ _ (by rw [hF, firstN, iteP_f z2])
      · skip
        have z1 := b2i_1.mp z1
        obtain ⟨⟨zL, zT, zQ⟩, zW⟩ := Option.ne_none_iff_exists'.mp z1
        obtain ⟨z_a, z_b, _⟩ := hw_9 zL zT zQ zW
        subst z_a
        have z_le := (nW_le hN zW).1
        refine v_aload_n O dX3_firstThatLeaves_16 0 rfl ?_
        refine gf_X3_32 O rfl dX3_firstThatLeaves_17 0 rfl rfl ?_
        refine v_iload_n O dX3_firstThatLeaves_20 1 rfl ?_
        refine v_icmp_ne O 26 dX3_firstThatLeaves_21 (by decide) (fun z3 => ?_) (fun z3 => ?_)
        · skip
          have z3 := (not_congr (c_eq (x := nI zL) (y := nI a) (a := zL) (b := a) rfl rfl (by omega) (by omega))).mp z3
          have z2 : ¬ (fun zh => leaveP a (nW kk pp ov bk rw zh nn)) i := by show ¬ leaveP a (nW kk pp ov bk rw i nn); rw [zW]; exact z3
          refine v_iinc (v := nI (i + 1)) (lv' := [(0, .ref nt), (1, .int (nI a)), (2, .int (nI b)), (3, .int (nI (i + 1)))]) O dX3_firstThatLeaves_26 3 rfl (nI_1 i) (by decide) rfl ?_
          refine v_goto O 2 dX3_firstThatLeaves_29 (by decide) ?_
          exact ih (i + 1) (by omega) _ _ _ _ _ _ (by rw [hF, firstN, iteP_f z2])
        · skip
          have z3 := (c_eq (x := nI zL) (y := nI a) (a := zL) (b := a) rfl rfl (by omega) (by omega)).mp z3
          have z2 : (fun zh => leaveP a (nW kk pp ov bk rw zh nn)) i := by show leaveP a (nW kk pp ov bk rw i nn); rw [zW]; exact z3
          refine v_iload_n O dX3_firstThatLeaves_24 3 rfl ?_
          exact v_ireturn O T rfl rfl (by decide) (by decide) dX3_firstThatLeaves_25 (⟨_, _, _, _, _, _, by rw [hF, firstN, iteP_t z2], rfl⟩)
set_option maxRecDepth 100000 in
set_option maxHeartbeats 4000000 in
theorem sp_X3_firstThatLeaves {D : G} {nt : Nat} {nrw : Nat} {nn : Nat} {nsh : Nat} {nmo : Nat} {wk : Nat} {kn : Nat} {vl : Nat} {pt : Nat} {gone : Nat} {fc : Nat} {ovr : Nat} {bkr : Nat} {kk : Nat → Nat} {pp : Nat → Nat} {ov : Nat → Nat} {bk : Nat → Nat} {rw : Nat → Nat} {l0 : Int32} {g0 : Int32} {d0 : Int32} {lf : Int32} {dg : Int32} {hd : Int32} {a : Nat} {b : Nat} (hN : nOk kk pp ov bk rw nn) (hab : a ≤ b) (hb : b < 100000) : Sp D mX3_firstThatLeaves 6 0 0 [.ref nt, .int (nI a), .int (nI b)] [(nt, .inr (3, [.ref wk, .ref nrw, .int (nI nn), .int (nI nsh), .int (nI nmo), .int l0, .int g0, .int d0])), (nrw, eI D 8 (nF rw)), (wk, .inr (8, [.ref kn, .ref vl, .ref pt, .int (nI gone), .ref fc, .ref ovr, .ref bkr, .int lf, .int dg, .int hd])), (kn, eI D 6 (nF kk)), (pt, eI D 6 (nF pp)), (ovr, eI D 480 (nF ov)), (bkr, eI D 480 (nF bk))] (fun r w => ∃ l1 : Int32, ∃ g1 : Int32, ∃ d1 : Int32, ∃ l2 : Int32, ∃ g2 : Int32, ∃ d2 : Int32, r = some (.int (firstN (fun zh => leaveP a (nW kk pp ov bk rw zh nn)) (b + 1 - a) a)) ∧ w = [(nt, .inr (3, [.ref wk, .ref nrw, .int (nI nn), .int (nI nsh), .int (nI nmo), .int l1, .int g1, .int d1])), (nrw, eI D 8 (nF rw)), (wk, .inr (8, [.ref kn, .ref vl, .ref pt, .int (nI gone), .ref fc, .ref ovr, .ref bkr, .int l2, .int g2, .int d2])), (kn, eI D 6 (nF kk)), (pt, eI D 6 (nF pp)), (ovr, eI D 480 (nF ov)), (bkr, eI D 480 (nF bk))]) := by
  refine Sp.of (by decide) (Nat.le_of_ble_eq_true rfl) (fun X O T => ?_)
  refine v_eq (lv' := [(0, .ref nt), (1, .int (nI a)), (2, .int (nI b))]) rfl rfl rfl rfl ?_
  refine v_iload_n O dX3_firstThatLeaves_0 1 rfl ?_
  refine v_istore_n (lv' := [(0, .ref nt), (1, .int (nI a)), (2, .int (nI b)), (3, .int (nI a))]) O dX3_firstThatLeaves_1 (by decide) rfl ?_
  exact l_X3_firstThatLeaves O hN hab hb T (b + 1 - a) a (by omega) _ _ _ _ _ _ rfl
set_option maxRecDepth 100000 in
set_option maxHeartbeats 4000000 in
theorem l_X3_howMany {D : G} {X : CX} {nt : Nat} {nrw : Nat} {nn : Nat} {nsh : Nat} {nmo : Nat} {wk : Nat} {kn : Nat} {vl : Nat} {pt : Nat} {gone : Nat} {fc : Nat} {ovr : Nat} {bkr : Nat} {kk : Nat → Nat} {pp : Nat → Nat} {ov : Nat → Nat} {bk : Nat → Nat} {rw : Nat → Nat} {a : Nat} {b : Nat} (O : Ok D X mX3_howMany 6 0 0) (hN : nOk kk pp ov bk rw nn) (hsh : 2 ≤ nsh) (hs9 : nsh ≤ 99) (hmo : nmo ≤ 99) (hb : b < 100000) (hab : a ≤ b + 1) (T : Rt D X (fun r w => ∃ l1 : Int32, ∃ g1 : Int32, ∃ d1 : Int32, ∃ l2 : Int32, ∃ g2 : Int32, ∃ d2 : Int32, r = some (.int (nI (cntN (fun zh => nightP nsh nmo (nW kk pp ov bk rw zh nn)) (b + 1 - a) a))) ∧ w = [(nt, .inr (3, [.ref wk, .ref nrw, .int (nI nn), .int (nI nsh), .int (nI nmo), .int l1, .int g1, .int d1])), (nrw, eI D 8 (nF rw)), (wk, .inr (8, [.ref kn, .ref vl, .ref pt, .int (nI gone), .ref fc, .ref ovr, .ref bkr, .int l2, .int g2, .int d2])), (kn, eI D 6 (nF kk)), (pt, eI D 6 (nF pp)), (ovr, eI D 480 (nF ov)), (bkr, eI D 480 (nF bk))]) 0 0) : ∀ (t i : Nat), i + t = b + 1 ∨ (t = 0 ∧ b < i) → ∀ (c : Nat) (l0 g0 d0 lf dg hd : Int32), i ≤ 100001 → a ≤ i → cntN (fun zh => nightP nsh nmo (nW kk pp ov bk rw zh nn)) (b + 1 - a) a = c + cntN (fun zh => nightP nsh nmo (nW kk pp ov bk rw zh nn)) t i → V D X 0 0 5 [(0, .ref nt), (1, .int (nI a)), (2, .int (nI b)), (3, .int (nI c)), (4, .int (nI i))] [] [(nt, .inr (3, [.ref wk, .ref nrw, .int (nI nn), .int (nI nsh), .int (nI nmo), .int l0, .int g0, .int d0])), (nrw, eI D 8 (nF rw)), (wk, .inr (8, [.ref kn, .ref vl, .ref pt, .int (nI gone), .ref fc, .ref ovr, .ref bkr, .int lf, .int dg, .int hd])), (kn, eI D 6 (nF kk)), (pt, eI D 6 (nF pp)), (ovr, eI D 480 (nF ov)), (bkr, eI D 480 (nF bk))] := by
  intro t
  induction t with
  | zero =>
    intro i hi c l0 g0 d0 lf dg hd hi2 hai hF
    refine v_iload O dX3_howMany_5 4 rfl ?_
    refine v_iload_n O dX3_howMany_7 2 rfl ?_
    refine v_icmp_gt O 29 dX3_howMany_8 (by decide) (fun z0 => ?_) (fun z0 => ?_)
    · skip
      have z0 := (c_lt' (x := nI i) (y := nI b) (a := i) (b := b) rfl rfl (by omega) (by omega)).mp z0
      refine v_iload_n O dX3_howMany_29 3 rfl ?_
      exact v_ireturn O T rfl rfl (by decide) (by decide) dX3_howMany_30 (⟨_, _, _, _, _, _, by rw [hF]; rfl, rfl⟩)
    · skip
      have z0 := (not_congr (c_lt' (x := nI i) (y := nI b) (a := i) (b := b) rfl rfl (by omega) (by omega))).mp z0
      exact absurd z0 (by omega)
  | succ t ih =>
    intro i hi c l0 g0 d0 lf dg hd hi2 hai hF
    refine v_iload O dX3_howMany_5 4 rfl ?_
    refine v_iload_n O dX3_howMany_7 2 rfl ?_
    refine v_icmp_gt O 29 dX3_howMany_8 (by decide) (fun z0 => ?_) (fun z0 => ?_)
    · skip
      have z0 := (c_lt' (x := nI i) (y := nI b) (a := i) (b := b) rfl rfl (by omega) (by omega)).mp z0
      exact absurd z0 (by omega)
    · skip
      have z0 := (not_congr (c_lt' (x := nI i) (y := nI b) (a := i) (b := b) rfl rfl (by omega) (by omega))).mp z0
      refine v_aload_n O dX3_howMany_11 0 rfl ?_
      refine v_iload O dX3_howMany_12 4 rfl ?_
      refine v_cV (T := TX3) (ci := 3) (As := [.int (nI i)]) (wr := []) (st := []) O cf_X3_76 rfl (sp_X3_comesOut (nt := nt) (nrw := nrw) (nn := nn) (nsh := nsh) (nmo := nmo) (wk := wk) (kn := kn) (vl := vl) (pt := pt) (gone := gone) (fc := fc) (ovr := ovr) (bkr := bkr) (kk := kk) (pp := pp) (ov := ov) (bk := bk) (rw := rw) (l0 := l0) (g0 := g0) (d0 := d0) (lf := lf) (dg := dg) (hd := hd) (h := i) (hN) (hsh) (hs9) (hmo) (by omega)) dX3_howMany_14 rfl rfl 0 rfl [0, 1, 2, 3, 4, 5, 6] [] (by decide) rfl rfl (by decide) (by decide) (by decide) (Nat.le_of_ble_eq_true rfl) (by decide) (by decide) (fun r_2 w_3 h_1 => ?_)
      obtain ⟨l1_4, g1_5, d1_6, l2_7, g2_8, d2_9, rfl, rfl⟩ := h_1
      refine v_eq (st' := [.int (b2i (nightP nsh nmo (nW kk pp ov bk rw i nn)))]) (ws' := [(nt, .inr (3, [.ref wk, .ref nrw, .int (nI nn), .int (nI nsh), .int (nI nmo), .int l1_4, .int g1_5, .int d1_6])), (nrw, eI D 8 (nF rw)), (wk, .inr (8, [.ref kn, .ref vl, .ref pt, .int (nI gone), .ref fc, .ref ovr, .ref bkr, .int l2_7, .int g2_8, .int d2_9])), (kn, eI D 6 (nF kk)), (pt, eI D 6 (nF pp)), (ovr, eI D 480 (nF ov)), (bkr, eI D 480 (nF bk))]) rfl rfl rfl rfl ?_
      refine v_if_eq O 23 dX3_howMany_17 (by decide) (fun z2 => ?_) (fun z2 => ?_)
      · skip
        have z2 := b2i_0.mp z2
        refine v_iinc (v := nI (i + 1)) (lv' := [(0, .ref nt), (1, .int (nI a)), (2, .int (nI b)), (3, .int (nI c)), (4, .int (nI (i + 1)))]) O dX3_howMany_23 4 rfl (nI_1 i) (by decide) rfl ?_
        refine v_goto O 5 dX3_howMany_26 (by decide) ?_
        exact ih (i + 1) (by omega) _ _ _ _ _ _ _ (by omega) (by omega) (by rw [hF, cntN, iteP_f z2])
      · skip
        have z2 := b2i_1.mp z2
        refine v_iinc (v := nI (c + 1)) (lv' := [(0, .ref nt), (1, .int (nI a)), (2, .int (nI b)), (3, .int (nI (c + 1))), (4, .int (nI i))]) O dX3_howMany_20 3 rfl (nI_1 c) (by decide) rfl ?_
        refine v_iinc (v := nI (i + 1)) (lv' := [(0, .ref nt), (1, .int (nI a)), (2, .int (nI b)), (3, .int (nI (c + 1))), (4, .int (nI (i + 1)))]) O dX3_howMany_23 4 rfl (nI_1 i) (by decide) rfl ?_
        refine v_goto O 5 dX3_howMany_26 (by decide) ?_
        exact ih (i + 1) (by omega) _ _ _ _ _ _ _ (by omega) (by omega) (by rw [hF, cntN, iteP_t z2]; omega)
set_option maxRecDepth 100000 in
set_option maxHeartbeats 4000000 in
theorem sp_X3_howMany {D : G} {nt : Nat} {nrw : Nat} {nn : Nat} {nsh : Nat} {nmo : Nat} {wk : Nat} {kn : Nat} {vl : Nat} {pt : Nat} {gone : Nat} {fc : Nat} {ovr : Nat} {bkr : Nat} {kk : Nat → Nat} {pp : Nat → Nat} {ov : Nat → Nat} {bk : Nat → Nat} {rw : Nat → Nat} {l0 : Int32} {g0 : Int32} {d0 : Int32} {lf : Int32} {dg : Int32} {hd : Int32} {a : Nat} {b : Nat} (hN : nOk kk pp ov bk rw nn) (hsh : 2 ≤ nsh) (hs9 : nsh ≤ 99) (hmo : nmo ≤ 99) (hb : b < 100000) (hab : a ≤ b + 1) : Sp D mX3_howMany 6 0 0 [.ref nt, .int (nI a), .int (nI b)] [(nt, .inr (3, [.ref wk, .ref nrw, .int (nI nn), .int (nI nsh), .int (nI nmo), .int l0, .int g0, .int d0])), (nrw, eI D 8 (nF rw)), (wk, .inr (8, [.ref kn, .ref vl, .ref pt, .int (nI gone), .ref fc, .ref ovr, .ref bkr, .int lf, .int dg, .int hd])), (kn, eI D 6 (nF kk)), (pt, eI D 6 (nF pp)), (ovr, eI D 480 (nF ov)), (bkr, eI D 480 (nF bk))] (fun r w => ∃ l1 : Int32, ∃ g1 : Int32, ∃ d1 : Int32, ∃ l2 : Int32, ∃ g2 : Int32, ∃ d2 : Int32, r = some (.int (nI (cntN (fun zh => nightP nsh nmo (nW kk pp ov bk rw zh nn)) (b + 1 - a) a))) ∧ w = [(nt, .inr (3, [.ref wk, .ref nrw, .int (nI nn), .int (nI nsh), .int (nI nmo), .int l1, .int g1, .int d1])), (nrw, eI D 8 (nF rw)), (wk, .inr (8, [.ref kn, .ref vl, .ref pt, .int (nI gone), .ref fc, .ref ovr, .ref bkr, .int l2, .int g2, .int d2])), (kn, eI D 6 (nF kk)), (pt, eI D 6 (nF pp)), (ovr, eI D 480 (nF ov)), (bkr, eI D 480 (nF bk))]) := by
  refine Sp.of (by decide) (Nat.le_of_ble_eq_true rfl) (fun X O T => ?_)
  refine v_eq (lv' := [(0, .ref nt), (1, .int (nI a)), (2, .int (nI b))]) rfl rfl rfl rfl ?_
  refine v_iconst (v := 0) O dX3_howMany_0 (by decide) ?_
  refine v_istore_n (lv' := [(0, .ref nt), (1, .int (nI a)), (2, .int (nI b)), (3, .int 0)]) O dX3_howMany_1 (by decide) rfl ?_
  refine v_iload_n O dX3_howMany_2 1 rfl ?_
  refine v_istore (lv' := [(0, .ref nt), (1, .int (nI a)), (2, .int (nI b)), (3, .int 0), (4, .int (nI a))]) O dX3_howMany_3 (by decide) rfl ?_
  refine v_eq (lv' := [(0, .ref nt), (1, .int (nI a)), (2, .int (nI b)), (3, .int (nI 0)), (4, .int (nI a))]) rfl rfl rfl rfl ?_
  exact l_X3_howMany O hN hsh hs9 hmo hb hab T (b + 1 - a) a (by omega) 0 _ _ _ _ _ _ (by omega) (Nat.le_refl _) (by rw [Nat.zero_add])
theorem nI_p (t : Nat) : nI (t + 1) - 1 = nI t := by
  rw [← nI_1 t, Int32.add_sub_cancel]
set_option maxRecDepth 100000 in
set_option maxHeartbeats 4000000 in
theorem l_X3_last {D : G} {X : CX} {nt : Nat} {nrw : Nat} {nn : Nat} {nsh : Nat} {nmo : Nat} {wk : Nat} {kn : Nat} {vl : Nat} {pt : Nat} {gone : Nat} {fc : Nat} {ovr : Nat} {bkr : Nat} {kk : Nat → Nat} {pp : Nat → Nat} {ov : Nat → Nat} {bk : Nat → Nat} {rw : Nat → Nat} {a : Nat} (O : Ok D X mX3_last 6 0 0) (hN : nOk kk pp ov bk rw nn) (hsh : 2 ≤ nsh) (hs9 : nsh ≤ 99) (hmo : nmo ≤ 99) (hab : a < 100000) (T : Rt D X (fun r w => ∃ l1 : Int32, ∃ g1 : Int32, ∃ d1 : Int32, ∃ l2 : Int32, ∃ g2 : Int32, ∃ d2 : Int32, r = some (.int (lastN (fun zh => nightP nsh nmo (nW kk pp ov bk rw zh nn)) (a + 1))) ∧ w = [(nt, .inr (3, [.ref wk, .ref nrw, .int (nI nn), .int (nI nsh), .int (nI nmo), .int l1, .int g1, .int d1])), (nrw, eI D 8 (nF rw)), (wk, .inr (8, [.ref kn, .ref vl, .ref pt, .int (nI gone), .ref fc, .ref ovr, .ref bkr, .int l2, .int g2, .int d2])), (kn, eI D 6 (nF kk)), (pt, eI D 6 (nF pp)), (ovr, eI D 480 (nF ov)), (bkr, eI D 480 (nF bk))]) 0 0) : ∀ (t : Nat) (v : Int32), v = nI t - 1 → ∀ (l0 g0 d0 lf dg hd : Int32), t ≤ a + 1 → lastN (fun zh => nightP nsh nmo (nW kk pp ov bk rw zh nn)) (a + 1) = lastN (fun zh => nightP nsh nmo (nW kk pp ov bk rw zh nn)) t → V D X 0 0 2 [(0, .ref nt), (1, .int (nI a)), (2, .int v)] [] [(nt, .inr (3, [.ref wk, .ref nrw, .int (nI nn), .int (nI nsh), .int (nI nmo), .int l0, .int g0, .int d0])), (nrw, eI D 8 (nF rw)), (wk, .inr (8, [.ref kn, .ref vl, .ref pt, .int (nI gone), .ref fc, .ref ovr, .ref bkr, .int lf, .int dg, .int hd])), (kn, eI D 6 (nF kk)), (pt, eI D 6 (nF pp)), (ovr, eI D 480 (nF ov)), (bkr, eI D 480 (nF bk))] := by
  intro t
  induction t with
  | zero =>
    intro v hv l0 g0 d0 lf dg hd hi2 hF
    refine v_iload_n O dX3_last_2 2 rfl ?_
    refine v_if_lt O 22 dX3_last_3 (by decide) (fun z0 => ?_) (fun z0 => ?_)
    · skip
      refine v_bipush (v := -5) O dX3_last_22 (by decide) ?_
      exact v_ireturn O T rfl rfl (by decide) (by decide) dX3_last_24 (⟨_, _, _, _, _, _, by rw [hF]; rfl, rfl⟩)
    · skip
      subst hv; exact absurd z0 (by decide)
  | succ t ih =>
    intro v hv l0 g0 d0 lf dg hd hi2 hF
    refine v_iload_n O dX3_last_2 2 rfl ?_
    refine v_if_lt O 22 dX3_last_3 (by decide) (fun z0 => ?_) (fun z0 => ?_)
    · skip
      subst hv; rw [nI_p] at z0; exact absurd z0 (nI_pos (by omega))
    · skip
      have hv : v = nI t := hv.trans (nI_p t)
      subst hv
      refine v_aload_n O dX3_last_6 0 rfl ?_
      refine v_iload_n O dX3_last_7 2 rfl ?_
      refine v_cV (T := TX3) (ci := 3) (As := [.int (nI t)]) (wr := []) (st := []) O cf_X3_76 rfl (sp_X3_comesOut (nt := nt) (nrw := nrw) (nn := nn) (nsh := nsh) (nmo := nmo) (wk := wk) (kn := kn) (vl := vl) (pt := pt) (gone := gone) (fc := fc) (ovr := ovr) (bkr := bkr) (kk := kk) (pp := pp) (ov := ov) (bk := bk) (rw := rw) (l0 := l0) (g0 := g0) (d0 := d0) (lf := lf) (dg := dg) (hd := hd) (h := t) (hN) (hsh) (hs9) (hmo) (by omega)) dX3_last_8 rfl rfl 0 rfl [0, 1, 2, 3, 4, 5, 6] [] (by decide) rfl rfl (by decide) (by decide) (by decide) (Nat.le_of_ble_eq_true rfl) (by decide) (by decide) (fun r_2 w_3 h_1 => ?_)
      obtain ⟨l1_4, g1_5, d1_6, l2_7, g2_8, d2_9, rfl, rfl⟩ := h_1
      refine v_eq (st' := [.int (b2i (nightP nsh nmo (nW kk pp ov bk rw t nn)))]) (ws' := [(nt, .inr (3, [.ref wk, .ref nrw, .int (nI nn), .int (nI nsh), .int (nI nmo), .int l1_4, .int g1_5, .int d1_6])), (nrw, eI D 8 (nF rw)), (wk, .inr (8, [.ref kn, .ref vl, .ref pt, .int (nI gone), .ref fc, .ref ovr, .ref bkr, .int l2_7, .int g2_8, .int d2_9])), (kn, eI D 6 (nF kk)), (pt, eI D 6 (nF pp)), (ovr, eI D 480 (nF ov)), (bkr, eI D 480 (nF bk))]) rfl rfl rfl rfl ?_
      refine v_if_eq O 16 dX3_last_11 (by decide) (fun z2 => ?_) (fun z2 => ?_)
      · skip
        have z2 := b2i_0.mp z2
        refine v_iinc (v := (nI t) + (-1)) (lv' := [(0, .ref nt), (1, .int (nI a)), (2, .int ((nI t) + (-1)))]) O dX3_last_16 2 rfl (rfl) (by decide) rfl ?_
        refine v_goto O 2 dX3_last_19 (by decide) ?_
        exact ih _ (by rw [Int32.sub_eq_add_neg]) _ _ _ _ _ _ (by omega) (by rw [hF, lastN, iteP_f z2])
      · skip
        have z2 := b2i_1.mp z2
        refine v_iload_n O dX3_last_14 2 rfl ?_
        exact v_ireturn O T rfl rfl (by decide) (by decide) dX3_last_15 (⟨_, _, _, _, _, _, by rw [hF, lastN, iteP_t z2], rfl⟩)
set_option maxRecDepth 100000 in
set_option maxHeartbeats 4000000 in
theorem sp_X3_last {D : G} {nt : Nat} {nrw : Nat} {nn : Nat} {nsh : Nat} {nmo : Nat} {wk : Nat} {kn : Nat} {vl : Nat} {pt : Nat} {gone : Nat} {fc : Nat} {ovr : Nat} {bkr : Nat} {kk : Nat → Nat} {pp : Nat → Nat} {ov : Nat → Nat} {bk : Nat → Nat} {rw : Nat → Nat} {l0 : Int32} {g0 : Int32} {d0 : Int32} {lf : Int32} {dg : Int32} {hd : Int32} {a : Nat} (hN : nOk kk pp ov bk rw nn) (hsh : 2 ≤ nsh) (hs9 : nsh ≤ 99) (hmo : nmo ≤ 99) (hab : a < 100000) : Sp D mX3_last 6 0 0 [.ref nt, .int (nI a)] [(nt, .inr (3, [.ref wk, .ref nrw, .int (nI nn), .int (nI nsh), .int (nI nmo), .int l0, .int g0, .int d0])), (nrw, eI D 8 (nF rw)), (wk, .inr (8, [.ref kn, .ref vl, .ref pt, .int (nI gone), .ref fc, .ref ovr, .ref bkr, .int lf, .int dg, .int hd])), (kn, eI D 6 (nF kk)), (pt, eI D 6 (nF pp)), (ovr, eI D 480 (nF ov)), (bkr, eI D 480 (nF bk))] (fun r w => ∃ l1 : Int32, ∃ g1 : Int32, ∃ d1 : Int32, ∃ l2 : Int32, ∃ g2 : Int32, ∃ d2 : Int32, r = some (.int (lastN (fun zh => nightP nsh nmo (nW kk pp ov bk rw zh nn)) (a + 1))) ∧ w = [(nt, .inr (3, [.ref wk, .ref nrw, .int (nI nn), .int (nI nsh), .int (nI nmo), .int l1, .int g1, .int d1])), (nrw, eI D 8 (nF rw)), (wk, .inr (8, [.ref kn, .ref vl, .ref pt, .int (nI gone), .ref fc, .ref ovr, .ref bkr, .int l2, .int g2, .int d2])), (kn, eI D 6 (nF kk)), (pt, eI D 6 (nF pp)), (ovr, eI D 480 (nF ov)), (bkr, eI D 480 (nF bk))]) := by
  refine Sp.of (by decide) (Nat.le_of_ble_eq_true rfl) (fun X O T => ?_)
  refine v_eq (lv' := [(0, .ref nt), (1, .int (nI a))]) rfl rfl rfl rfl ?_
  refine v_iload_n O dX3_last_0 1 rfl ?_
  refine v_istore_n (lv' := [(0, .ref nt), (1, .int (nI a)), (2, .int (nI a))]) O dX3_last_1 (by decide) rfl ?_
  exact l_X3_last O hN hsh hs9 hmo hab T (a + 1) _ (nI_p a).symm _ _ _ _ _ _ (Nat.le_refl _) rfl
theorem oL_lew {k p h : Nat} {o b : Nat → Nat} (hp : 2 ≤ p) : oL (wakeN k p o b h) h ≤ h := by
  cases e : wakeN k p o b h with
  | none => exact Nat.le_refl _
  | some x =>
    obtain ⟨l, g, d⟩ := x
    have := wakeN_le hp e
    simp only [oL]
    omega
set_option maxRecDepth 100000 in
set_option maxHeartbeats 4000000 in
theorem l_X3_look {D : G} {X : CX} {nt : Nat} {nrw : Nat} {nn : Nat} {nsh : Nat} {nmo : Nat} {wk : Nat} {kn : Nat} {vl : Nat} {pt : Nat} {gone : Nat} {fc : Nat} {ovr : Nat} {bkr : Nat} {kk : Nat → Nat} {pp : Nat → Nat} {ov : Nat → Nat} {bk : Nat → Nat} {rw : Nat → Nat} {l0 : Int32} {g0 : Int32} {d0 : Int32} {cb : Nat} {bo : Nat → Nat} {pgs : Nat} (O : Ok D X mX3_firstOtherThan 4 0 0) (hN : nOk kk pp ov bk rw nn) (hpg : pgs ≤ 12) (hbo : ∀ k, k < 12 → bo k < 1000000) (hp1 : 1 ≤ pgs) (T : Rt D X (fun r w => ∃ l2 : Int32, ∃ g2 : Int32, ∃ d2 : Int32, r = some (.int (lookN (nE kk pp ov bk rw) bo (min (pgs - 1) nn) 0 (bo 0))) ∧ w = [(nt, .inr (3, [.ref wk, .ref nrw, .int (nI nn), .int (nI nsh), .int (nI nmo), .int l0, .int g0, .int d0])), (nrw, eI D 8 (nF rw)), (wk, .inr (8, [.ref kn, .ref vl, .ref pt, .int (nI gone), .ref fc, .ref ovr, .ref bkr, .int l2, .int g2, .int d2])), (kn, eI D 6 (nF kk)), (pt, eI D 6 (nF pp)), (ovr, eI D 480 (nF ov)), (bkr, eI D 480 (nF bk)), (cb, eI D 12 (nF bo))]) 0 0) : ∀ (t i : Nat), i + t = min (pgs - 1) nn → ∀ (h : Nat) (lf dg hd : Int32), h < 1000000 → lookN (nE kk pp ov bk rw) bo (min (pgs - 1) nn) 0 (bo 0) = lookN (nE kk pp ov bk rw) bo t i h → V D X 0 0 21 [(0, .ref nt), (1, .ref cb), (2, .int (nI pgs)), (3, .int (nI h)), (4, .int (nI (i + 1)))] [] [(nt, .inr (3, [.ref wk, .ref nrw, .int (nI nn), .int (nI nsh), .int (nI nmo), .int l0, .int g0, .int d0])), (nrw, eI D 8 (nF rw)), (wk, .inr (8, [.ref kn, .ref vl, .ref pt, .int (nI gone), .ref fc, .ref ovr, .ref bkr, .int lf, .int dg, .int hd])), (kn, eI D 6 (nF kk)), (pt, eI D 6 (nF pp)), (ovr, eI D 480 (nF ov)), (bkr, eI D 480 (nF bk)), (cb, eI D 12 (nF bo))] := by
  intro t
  induction t with
  | zero =>
    intro i hi h lf dg hd hh hF
    have z_n8 := hN.1
    refine v_iload O dX3_firstOtherThan_21 4 rfl ?_
    refine v_iload_n O dX3_firstOtherThan_23 2 rfl ?_
    refine v_icmp_ge O 102 dX3_firstOtherThan_24 (by decide) (fun z1 => ?_) (fun z1 => ?_)
    · skip
      have z1 := (c_le' (x := nI (i + 1)) (y := nI pgs) (a := i + 1) (b := pgs) rfl rfl (by omega) (by omega)).mp z1
      refine v_bipush (v := -5) O dX3_firstOtherThan_102 (by decide) ?_
      exact v_ireturn O T rfl rfl (by decide) (by decide) dX3_firstOtherThan_104 (⟨_, _, _, by rw [hF]; rfl, rfl⟩)
    · skip
      have z1 := (not_congr (c_le' (x := nI (i + 1)) (y := nI pgs) (a := i + 1) (b := pgs) rfl rfl (by omega) (by omega))).mp z1
      refine v_iload O dX3_firstOtherThan_27 4 rfl ?_
      refine v_aload_n O dX3_firstOtherThan_29 1 rfl ?_
      refine v_alenI O dX3_firstOtherThan_30 7 rfl ?_
      refine v_icmp_ge O 102 dX3_firstOtherThan_31 (by decide) (fun z2 => ?_) (fun z2 => ?_)
      · skip
        have z2 := (c_le' (x := nI (i + 1)) (y := nI 12) (a := i + 1) (b := 12) rfl rfl (by omega) (by omega)).mp z2
        exact absurd z2 (by omega)
      · skip
        have z2 := (not_congr (c_le' (x := nI (i + 1)) (y := nI 12) (a := i + 1) (b := 12) rfl rfl (by omega) (by omega))).mp z2
        refine v_iload O dX3_firstOtherThan_34 4 rfl ?_
        refine v_aload_n O dX3_firstOtherThan_36 0 rfl ?_
        refine gf_X3_22 O rfl dX3_firstOtherThan_37 0 rfl rfl ?_
        refine v_icmp_gt O 102 dX3_firstOtherThan_40 (by decide) (fun z3 => ?_) (fun z3 => ?_)
        · skip
          have z3 := (c_lt' (x := nI (i + 1)) (y := nI nn) (a := i + 1) (b := nn) rfl rfl (by omega) (by omega)).mp z3
          refine v_bipush (v := -5) O dX3_firstOtherThan_102 (by decide) ?_
          exact v_ireturn O T rfl rfl (by decide) (by decide) dX3_firstOtherThan_104 (⟨_, _, _, by rw [hF]; rfl, rfl⟩)
        · skip
          have z3 := (not_congr (c_lt' (x := nI (i + 1)) (y := nI nn) (a := i + 1) (b := nn) rfl rfl (by omega) (by omega))).mp z3
          exact absurd z3 (by omega)
  | succ t ih =>
    intro i hi h lf dg hd hh hF
    have z_n8 := hN.1
    refine v_iload O dX3_firstOtherThan_21 4 rfl ?_
    refine v_iload_n O dX3_firstOtherThan_23 2 rfl ?_
    refine v_icmp_ge O 102 dX3_firstOtherThan_24 (by decide) (fun z1 => ?_) (fun z1 => ?_)
    · skip
      have z1 := (c_le' (x := nI (i + 1)) (y := nI pgs) (a := i + 1) (b := pgs) rfl rfl (by omega) (by omega)).mp z1
      exact absurd z1 (by omega)
    · skip
      have z1 := (not_congr (c_le' (x := nI (i + 1)) (y := nI pgs) (a := i + 1) (b := pgs) rfl rfl (by omega) (by omega))).mp z1
      refine v_iload O dX3_firstOtherThan_27 4 rfl ?_
      refine v_aload_n O dX3_firstOtherThan_29 1 rfl ?_
      refine v_alenI O dX3_firstOtherThan_30 7 rfl ?_
      refine v_icmp_ge O 102 dX3_firstOtherThan_31 (by decide) (fun z2 => ?_) (fun z2 => ?_)
      · skip
        have z2 := (c_le' (x := nI (i + 1)) (y := nI 12) (a := i + 1) (b := 12) rfl rfl (by omega) (by omega)).mp z2
        exact absurd z2 (by omega)
      · skip
        have z2 := (not_congr (c_le' (x := nI (i + 1)) (y := nI 12) (a := i + 1) (b := 12) rfl rfl (by omega) (by omega))).mp z2
        refine v_iload O dX3_firstOtherThan_34 4 rfl ?_
        refine v_aload_n O dX3_firstOtherThan_36 0 rfl ?_
        refine gf_X3_22 O rfl dX3_firstOtherThan_37 0 rfl rfl ?_
        refine v_icmp_gt O 102 dX3_firstOtherThan_40 (by decide) (fun z3 => ?_) (fun z3 => ?_)
        · skip
          have z3 := (c_lt' (x := nI (i + 1)) (y := nI nn) (a := i + 1) (b := nn) rfl rfl (by omega) (by omega)).mp z3
          exact absurd z3 (by omega)
        · skip
          have z3 := (not_congr (c_lt' (x := nI (i + 1)) (y := nI nn) (a := i + 1) (b := nn) rfl rfl (by omega) (by omega))).mp z3
          refine v_iload O dX3_firstOtherThan_43 4 rfl ?_
          refine v_bipush (v := 8) O dX3_firstOtherThan_45 (by decide) ?_
          refine v_icmp_gt O 102 dX3_firstOtherThan_47 (by decide) (fun z4 => ?_) (fun z4 => ?_)
          · skip
            have z4 := (c_lt' (x := nI (i + 1)) (y := 8) (a := i + 1) (b := 8) rfl rfl (by omega) (by omega)).mp z4
            exact absurd z4 (by omega)
          · skip
            have z4 := (not_congr (c_lt' (x := nI (i + 1)) (y := 8) (a := i + 1) (b := 8) rfl rfl (by omega) (by omega))).mp z4
            have hi9 : i < nn := by omega
            have z_rw := hN.2.1 i hi9
            refine v_aload_n O dX3_firstOtherThan_50 0 rfl ?_
            refine gf_X3_12 O rfl dX3_firstOtherThan_51 0 rfl rfl ?_
            refine v_aload_n O dX3_firstOtherThan_54 0 rfl ?_
            refine gf_X3_18 O rfl dX3_firstOtherThan_55 0 rfl rfl ?_
            refine v_iload O dX3_firstOtherThan_58 4 rfl ?_
            refine v_iconst (v := 1) O dX3_firstOtherThan_60 (by decide) ?_
            refine v_isub O dX3_firstOtherThan_61 ?_
            refine v_top (y := nI i) (nI_p i) ?_
            refine v_ialdk O dX3_firstOtherThan_62 1 rfl i rfl (by omega) (by decide) ?_
            refine v_top (y := nI (rw i)) rfl ?_
            refine v_iload O dX3_firstOtherThan_63 4 rfl ?_
            refine v_iconst (v := 1) O dX3_firstOtherThan_65 (by decide) ?_
            refine v_isub O dX3_firstOtherThan_66 ?_
            refine v_top (y := nI i) (nI_p i) ?_
            refine v_iload_n O dX3_firstOtherThan_67 3 rfl ?_
            refine v_cV (T := TX8) (ci := 8) (As := [.int (nI (rw i)), .int (nI i), .int (nI h)]) (wr := [(nt, .inr (3, [.ref wk, .ref nrw, .int (nI nn), .int (nI nsh), .int (nI nmo), .int l0, .int g0, .int d0])), (nrw, eI D 8 (nF rw)), (cb, eI D 12 (nF bo))]) (st := []) O cf_X3_65 rfl (sp_X8_comesOut (wk := wk) (kn := kn) (vl := vl) (pt := pt) (gone := gone) (fc := fc) (ovr := ovr) (bkr := bkr) (lf := lf) (dg := dg) (hd := hd) (kk := kk) (pp := pp) (ov := ov) (bk := bk) (m := (rw i)) (s := i) (h := h) (z_rw) (by omega) (by omega) (hN.2.2.1 _ z_rw) (hN.2.2.2.1 _) (hN.2.2.2.2.1 _ z_rw) (hN.2.2.2.2.2.1 i hi9) (hN.2.2.2.2.2.2 i hi9)) dX3_firstOtherThan_68 rfl rfl 2 rfl [2, 3, 4, 5, 6] [0, 1, 7] (by decide) rfl rfl (by decide) (by decide) (by decide) (Nat.le_of_ble_eq_true rfl) (by decide) (by decide) (fun r_2 w_3 h_1 => ?_)
            obtain ⟨rfl, rfl⟩ := h_1
            refine v_eq (st' := [.int (b2i (¬ wakeN (kk (rw i)) (pp (rw i)) (fun zd => ov (slotN (rw i) i zd)) (fun zd => bk (slotN (rw i) i zd)) h = none))]) (ws' := [(nt, .inr (3, [.ref wk, .ref nrw, .int (nI nn), .int (nI nsh), .int (nI nmo), .int l0, .int g0, .int d0])), (nrw, eI D 8 (nF rw)), (cb, eI D 12 (nF bo)), (wk, .inr (8, [.ref kn, .ref vl, .ref pt, .int (nI gone), .ref fc, .ref ovr, .ref bkr, .int (nI (oL (wakeN (kk (rw i)) (pp (rw i)) (fun zd => ov (slotN (rw i) i zd)) (fun zd => bk (slotN (rw i) i zd)) h) h)), .int (nI (oG (wakeN (kk (rw i)) (pp (rw i)) (fun zd => ov (slotN (rw i) i zd)) (fun zd => bk (slotN (rw i) i zd)) h) 0)), .int (nI (oD (wakeN (kk (rw i)) (pp (rw i)) (fun zd => ov (slotN (rw i) i zd)) (fun zd => bk (slotN (rw i) i zd)) h) 0))])), (kn, eI D 6 (nF kk)), (pt, eI D 6 (nF pp)), (ovr, eI D 480 (nF ov)), (bkr, eI D 480 (nF bk))]) rfl rfl rfl rfl ?_
            refine v_if_ne O 77 dX3_firstOtherThan_71 (by decide) (fun z5 => ?_) (fun z5 => ?_)
            · skip
              have z5 := b2i_1.mp z5
              have z5 : ¬ nE kk pp ov bk rw i h = none := z5
              have z_hl : oL (wakeN (kk (rw i)) (pp (rw i)) (fun zd => ov (slotN (rw i) i zd)) (fun zd => bk (slotN (rw i) i zd)) h) h ≤ h := oL_lew (hN.2.2.2.1 _)
              have z_bo := hbo (i + 1) (by omega)
              refine v_aload_n O dX3_firstOtherThan_77 0 rfl ?_
              refine gf_X3_12 O rfl dX3_firstOtherThan_78 0 rfl rfl ?_
              refine gf_X3_69 O rfl dX3_firstOtherThan_81 3 rfl rfl ?_
              refine v_istore_n (lv' := [(0, .ref nt), (1, .ref cb), (2, .int (nI pgs)), (3, .int (nI (oL (wakeN (kk (rw i)) (pp (rw i)) (fun zd => ov (slotN (rw i) i zd)) (fun zd => bk (slotN (rw i) i zd)) h) h))), (4, .int (nI (i + 1)))]) O dX3_firstOtherThan_84 (by decide) rfl ?_
              refine v_iload_n O dX3_firstOtherThan_85 3 rfl ?_
              refine v_aload_n O dX3_firstOtherThan_86 1 rfl ?_
              refine v_iload O dX3_firstOtherThan_87 4 rfl ?_
              refine v_ialdk O dX3_firstOtherThan_89 2 rfl (i + 1) rfl (by omega) (by decide) ?_
              refine v_top (y := nI (bo (i + 1))) rfl ?_
              refine v_icmp_eq O 96 dX3_firstOtherThan_90 (by decide) (fun z6 => ?_) (fun z6 => ?_)
              · skip
                have z6 := (c_eq (x := nI (oL (wakeN (kk (rw i)) (pp (rw i)) (fun zd => ov (slotN (rw i) i zd)) (fun zd => bk (slotN (rw i) i zd)) h) h)) (y := nI (bo (i + 1))) (a := oL (wakeN (kk (rw i)) (pp (rw i)) (fun zd => ov (slotN (rw i) i zd)) (fun zd => bk (slotN (rw i) i zd)) h) h) (b := bo (i + 1)) rfl rfl (by omega) (by omega)).mp z6
                have z6 : oL (nE kk pp ov bk rw i h) h = bo (i + 1) := z6
                refine v_iinc (v := nI (i + 1 + 1)) (lv' := [(0, .ref nt), (1, .ref cb), (2, .int (nI pgs)), (3, .int (nI (oL (wakeN (kk (rw i)) (pp (rw i)) (fun zd => ov (slotN (rw i) i zd)) (fun zd => bk (slotN (rw i) i zd)) h) h))), (4, .int (nI (i + 1 + 1)))]) O dX3_firstOtherThan_96 4 rfl (nI_1 (i + 1)) (by decide) rfl ?_
                refine v_goto O 21 dX3_firstOtherThan_99 (by decide) ?_
                refine v_sub (ws' := [(nt, .inr (3, [.ref wk, .ref nrw, .int (nI nn), .int (nI nsh), .int (nI nmo), .int l0, .int g0, .int d0])), (nrw, eI D 8 (nF rw)), (wk, .inr (8, [.ref kn, .ref vl, .ref pt, .int (nI gone), .ref fc, .ref ovr, .ref bkr, .int (nI (oL (wakeN (kk (rw i)) (pp (rw i)) (fun zd => ov (slotN (rw i) i zd)) (fun zd => bk (slotN (rw i) i zd)) h) h)), .int (nI (oG (wakeN (kk (rw i)) (pp (rw i)) (fun zd => ov (slotN (rw i) i zd)) (fun zd => bk (slotN (rw i) i zd)) h) 0)), .int (nI (oD (wakeN (kk (rw i)) (pp (rw i)) (fun zd => ov (slotN (rw i) i zd)) (fun zd => bk (slotN (rw i) i zd)) h) 0))])), (kn, eI D 6 (nF kk)), (pt, eI D 6 (nF pp)), (ovr, eI D 480 (nF ov)), (bkr, eI D 480 (nF bk)), (cb, eI D 12 (nF bo))]) [0, 1, 3, 4, 5, 6, 7, 2] (by decide) rfl ?_
                exact ih (i + 1) (by omega) _ _ _ _ (by show oL _ _ < _; exact Nat.lt_of_le_of_lt z_hl hh) (by rw [hF, lookN_s z5, iteP_t z6]; rfl)
              · skip
                have z6 := (not_congr (c_eq (x := nI (oL (wakeN (kk (rw i)) (pp (rw i)) (fun zd => ov (slotN (rw i) i zd)) (fun zd => bk (slotN (rw i) i zd)) h) h)) (y := nI (bo (i + 1))) (a := oL (wakeN (kk (rw i)) (pp (rw i)) (fun zd => ov (slotN (rw i) i zd)) (fun zd => bk (slotN (rw i) i zd)) h) h) (b := bo (i + 1)) rfl rfl (by omega) (by omega))).mp z6
                have z6 : ¬ oL (nE kk pp ov bk rw i h) h = bo (i + 1) := z6
                refine v_iload O dX3_firstOtherThan_93 4 rfl ?_
                refine v_sub (ws' := [(nt, .inr (3, [.ref wk, .ref nrw, .int (nI nn), .int (nI nsh), .int (nI nmo), .int l0, .int g0, .int d0])), (nrw, eI D 8 (nF rw)), (wk, .inr (8, [.ref kn, .ref vl, .ref pt, .int (nI gone), .ref fc, .ref ovr, .ref bkr, .int (nI (oL (wakeN (kk (rw i)) (pp (rw i)) (fun zd => ov (slotN (rw i) i zd)) (fun zd => bk (slotN (rw i) i zd)) h) h)), .int (nI (oG (wakeN (kk (rw i)) (pp (rw i)) (fun zd => ov (slotN (rw i) i zd)) (fun zd => bk (slotN (rw i) i zd)) h) 0)), .int (nI (oD (wakeN (kk (rw i)) (pp (rw i)) (fun zd => ov (slotN (rw i) i zd)) (fun zd => bk (slotN (rw i) i zd)) h) 0))])), (kn, eI D 6 (nF kk)), (pt, eI D 6 (nF pp)), (ovr, eI D 480 (nF ov)), (bkr, eI D 480 (nF bk)), (cb, eI D 12 (nF bo))]) [0, 1, 3, 4, 5, 6, 7, 2] (by decide) rfl ?_
                exact v_ireturn O T rfl rfl (by decide) (by decide) dX3_firstOtherThan_95 (⟨_, _, _, by rw [hF, lookN_s z5, iteP_f z6], rfl⟩)
            · skip
              have z5 := b2i_0.mp z5
              have z5 : nE kk pp ov bk rw i h = none := Classical.not_not.mp z5
              refine v_bipush (v := -5) O dX3_firstOtherThan_74 (by decide) ?_
              refine v_sub (ws' := [(nt, .inr (3, [.ref wk, .ref nrw, .int (nI nn), .int (nI nsh), .int (nI nmo), .int l0, .int g0, .int d0])), (nrw, eI D 8 (nF rw)), (wk, .inr (8, [.ref kn, .ref vl, .ref pt, .int (nI gone), .ref fc, .ref ovr, .ref bkr, .int (nI (oL (wakeN (kk (rw i)) (pp (rw i)) (fun zd => ov (slotN (rw i) i zd)) (fun zd => bk (slotN (rw i) i zd)) h) h)), .int (nI (oG (wakeN (kk (rw i)) (pp (rw i)) (fun zd => ov (slotN (rw i) i zd)) (fun zd => bk (slotN (rw i) i zd)) h) 0)), .int (nI (oD (wakeN (kk (rw i)) (pp (rw i)) (fun zd => ov (slotN (rw i) i zd)) (fun zd => bk (slotN (rw i) i zd)) h) 0))])), (kn, eI D 6 (nF kk)), (pt, eI D 6 (nF pp)), (ovr, eI D 480 (nF ov)), (bkr, eI D 480 (nF bk)), (cb, eI D 12 (nF bo))]) [0, 1, 3, 4, 5, 6, 7, 2] (by decide) rfl ?_
              exact v_ireturn O T rfl rfl (by decide) (by decide) dX3_firstOtherThan_76 (⟨_, _, _, by rw [hF, lookN_n z5], rfl⟩)
set_option maxRecDepth 100000 in
set_option maxHeartbeats 4000000 in
theorem sp_X3_firstOtherThan {D : G} {nt : Nat} {nrw : Nat} {nn : Nat} {nsh : Nat} {nmo : Nat} {wk : Nat} {kn : Nat} {vl : Nat} {pt : Nat} {gone : Nat} {fc : Nat} {ovr : Nat} {bkr : Nat} {kk : Nat → Nat} {pp : Nat → Nat} {ov : Nat → Nat} {bk : Nat → Nat} {rw : Nat → Nat} {l0 : Int32} {g0 : Int32} {d0 : Int32} {lf : Int32} {dg : Int32} {hd : Int32} {cb : Nat} {bo : Nat → Nat} {pgs : Nat} (hN : nOk kk pp ov bk rw nn) (hpg : pgs ≤ 12) (hbo : ∀ k, k < 12 → bo k < 1000000) : Sp D mX3_firstOtherThan 4 0 0 [.ref nt, .ref cb, .int (nI pgs)] [(nt, .inr (3, [.ref wk, .ref nrw, .int (nI nn), .int (nI nsh), .int (nI nmo), .int l0, .int g0, .int d0])), (nrw, eI D 8 (nF rw)), (wk, .inr (8, [.ref kn, .ref vl, .ref pt, .int (nI gone), .ref fc, .ref ovr, .ref bkr, .int lf, .int dg, .int hd])), (kn, eI D 6 (nF kk)), (pt, eI D 6 (nF pp)), (ovr, eI D 480 (nF ov)), (bkr, eI D 480 (nF bk)), (cb, eI D 12 (nF bo))] (fun r w => ∃ l2 : Int32, ∃ g2 : Int32, ∃ d2 : Int32, r = some (.int (lookN (nE kk pp ov bk rw) bo (min (pgs - 1) nn) 0 (bo 0))) ∧ w = [(nt, .inr (3, [.ref wk, .ref nrw, .int (nI nn), .int (nI nsh), .int (nI nmo), .int l0, .int g0, .int d0])), (nrw, eI D 8 (nF rw)), (wk, .inr (8, [.ref kn, .ref vl, .ref pt, .int (nI gone), .ref fc, .ref ovr, .ref bkr, .int l2, .int g2, .int d2])), (kn, eI D 6 (nF kk)), (pt, eI D 6 (nF pp)), (ovr, eI D 480 (nF ov)), (bkr, eI D 480 (nF bk)), (cb, eI D 12 (nF bo))]) := by
  refine Sp.of (by decide) (Nat.le_of_ble_eq_true rfl) (fun X O T => ?_)
  refine v_eq (lv' := [(0, .ref nt), (1, .ref cb), (2, .int (nI pgs))]) rfl rfl rfl rfl ?_
  refine v_iload_n O dX3_firstOtherThan_0 2 rfl ?_
  refine v_iconst (v := 1) O dX3_firstOtherThan_1 (by decide) ?_
  refine v_icmp_lt O 11 dX3_firstOtherThan_2 (by decide) (fun z1 => ?_) (fun z1 => ?_)
  · skip
    have z1 := (c_lt (x := nI pgs) (y := 1) (a := pgs) (b := 1) rfl rfl (by omega) (by omega)).mp z1
    refine v_bipush (v := -5) O dX3_firstOtherThan_11 (by decide) ?_
    exact v_ireturn O T rfl rfl (by decide) (by decide) dX3_firstOtherThan_13 (⟨_, _, _, by rw [show min (pgs - 1) nn = 0 by omega]; rfl, rfl⟩)
  · skip
    have z1 := (not_congr (c_lt (x := nI pgs) (y := 1) (a := pgs) (b := 1) rfl rfl (by omega) (by omega))).mp z1
    refine v_aload_n O dX3_firstOtherThan_5 1 rfl ?_
    refine v_alenI O dX3_firstOtherThan_6 7 rfl ?_
    refine v_iconst (v := 1) O dX3_firstOtherThan_7 (by decide) ?_
    refine v_icmp_ge O 14 dX3_firstOtherThan_8 (by decide) (fun _ => ?_) (fun c => absurd c (by decide))
    refine v_aload_n O dX3_firstOtherThan_14 1 rfl ?_
    refine v_iconst (v := 0) O dX3_firstOtherThan_15 (by decide) ?_
    refine v_ialdk O dX3_firstOtherThan_16 7 rfl 0 rfl (by omega) (by decide) ?_
    refine v_top (y := nI (bo 0)) rfl ?_
    refine v_istore_n (lv' := [(0, .ref nt), (1, .ref cb), (2, .int (nI pgs)), (3, .int (nI (bo 0)))]) O dX3_firstOtherThan_17 (by decide) rfl ?_
    refine v_iconst (v := 1) O dX3_firstOtherThan_18 (by decide) ?_
    refine v_istore (lv' := [(0, .ref nt), (1, .ref cb), (2, .int (nI pgs)), (3, .int (nI (bo 0))), (4, .int 1)]) O dX3_firstOtherThan_19 (by decide) rfl ?_
    refine v_eq (lv' := [(0, .ref nt), (1, .ref cb), (2, .int (nI pgs)), (3, .int (nI (bo 0))), (4, .int (nI (0 + 1)))]) rfl rfl rfl rfl ?_
    exact l_X3_look O hN hpg hbo (by omega) T (min (pgs - 1) nn) 0 (by omega) (bo 0) _ _ _ (hbo 0 (by omega)) rfl
