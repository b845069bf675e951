-- OneForDog$Village
-- a test's step s against the facts
def isSoP (s : Nat) (ff : Nat → Int32) : Prop := s / 100 / 3 < 5 ∧ (if s / 100 % 3 = 0 then ff (s / 100 / 3) < nI (s % 100) else if s / 100 % 3 = 1 then ff (s / 100 / 3) = nI (s % 100) else nI (s % 100) < ff (s / 100 / 3))
theorem isSoP_n {s : Nat} {ff : Nat → Int32} (h : ¬ s / 100 / 3 < 5) : ¬ isSoP s ff := fun z => h z.1
theorem isSoP_0 {s : Nat} {ff : Nat → Int32} (h : s / 100 / 3 < 5) (hm : s / 100 % 3 = 0) : isSoP s ff ↔ ff (s / 100 / 3) < nI (s % 100) := by unfold isSoP; rw [if_pos hm]; exact ⟨fun z => z.2, fun z => ⟨h, z⟩⟩
theorem isSoP_1 {s : Nat} {ff : Nat → Int32} (h : s / 100 / 3 < 5) (hm : s / 100 % 3 = 1) : isSoP s ff ↔ ff (s / 100 / 3) = nI (s % 100) := by unfold isSoP; rw [if_neg (by omega), if_pos hm]; exact ⟨fun z => z.2, fun z => ⟨h, z⟩⟩
theorem isSoP_2 {s : Nat} {ff : Nat → Int32} (h : s / 100 / 3 < 5) (h0 : ¬ s / 100 % 3 = 0) (h1 : ¬ s / 100 % 3 = 1) : isSoP s ff ↔ nI (s % 100) < ff (s / 100 / 3) := by unfold isSoP; rw [if_neg h0, if_neg h1]; exact ⟨fun z => z.2, fun z => ⟨h, z⟩⟩
-- one step of a condition over the operands in a long
noncomputable def hStep (q : Int64) (t : Int32) (ff : Nat → Int32) : Int64 :=
  if t < 0 then (if t = -1 then q ^^^ 1 else if t = -2 then (q.toUInt64 >>> ((1 : Int32).toInt64.toUInt64 &&& Int64.toUInt64 63)).toInt64 &&& ((q &&& 1) ||| (-2)) else (q.toUInt64 >>> ((1 : Int32).toInt64.toUInt64 &&& Int64.toUInt64 63)).toInt64 ||| (q &&& 1))
  else (q <<< ((1 : Int32).toInt64 &&& 63)) ||| Int32.toInt64 (b2i (isSoP t.toNatClampNeg ff))
theorem hStep_t {q : Int64} {t : Int32} {ff : Nat → Int32} {s : Nat} (h : ¬ t < 0) (e : t = nI s) (hs : s < 2147483648) (hp : isSoP s ff) : hStep q t ff = (q <<< ((1 : Int32).toInt64 &&& 63)) ||| Int32.toInt64 (1 : Int32) := by
  unfold hStep
  rw [if_neg h, ix_cl e hs, b2i_t hp]
theorem hStep_f {q : Int64} {t : Int32} {ff : Nat → Int32} {s : Nat} (h : ¬ t < 0) (e : t = nI s) (hs : s < 2147483648) (hp : ¬ isSoP s ff) : hStep q t ff = (q <<< ((1 : Int32).toInt64 &&& 63)) ||| Int32.toInt64 (0 : Int32) := by
  unfold hStep
  rw [if_neg h, ix_cl e hs, b2i_f hp]
theorem hStep_n {q : Int64} {t : Int32} {ff : Nat → Int32} (h : t < 0) (e : t = -1) : hStep q t ff = q ^^^ 1 := by
  unfold hStep
  rw [if_pos h, if_pos e]
theorem hStep_a {q : Int64} {t : Int32} {ff : Nat → Int32} (h : t < 0) (e1 : ¬ t = -1) (e : t = -2) : hStep q t ff = (q.toUInt64 >>> ((1 : Int32).toInt64.toUInt64 &&& Int64.toUInt64 63)).toInt64 &&& ((q &&& 1) ||| (-2)) := by
  unfold hStep
  rw [if_pos h, if_neg e1, if_pos e]
theorem hStep_o {q : Int64} {t : Int32} {ff : Nat → Int32} (h : t < 0) (e1 : ¬ t = -1) (e2 : ¬ t = -2) : hStep q t ff = (q.toUInt64 >>> ((1 : Int32).toInt64.toUInt64 &&& Int64.toUInt64 63)).toInt64 ||| (q &&& 1) := by
  unfold hStep
  rw [if_pos h, if_neg e1, if_neg e2]
noncomputable def hF (fs ff : Nat → Int32) (a : Nat) : Nat → Int64
  | 0 => 0
  | n + 1 => hStep (hF fs ff a n) (fs (a + n)) ff
def hP (fs ff : Nat → Int32) (a e : Nat) : Prop := ¬ hF fs ff a (e - a) &&& 1 = 0
def sStart (E : Nat → Nat) : Nat → Nat
  | 0 => 0
  | r + 1 => E r
noncomputable def sumN (fo fs ff : Nat → Int32) (am E : Nat → Nat) (ob : Int32) : Nat → Nat
  | 0 => 0
  | r + 1 => iteP (fo r = ob ∧ hP fs ff (sStart E r) (E r)) (sumN fo fs ff am E ob r + am r) (sumN fo fs ff am E ob r)
theorem sumN_le {fo fs ff : Nat → Int32} {am E : Nat → Nat} {ob : Int32} : ∀ {r : Nat}, (∀ k, k < r → am k ≤ 99) → sumN fo fs ff am E ob r ≤ 99 * r
  | 0, _ => Nat.le_refl 0
  | r + 1, h => by
    have h1 := sumN_le (fo := fo) (fs := fs) (ff := ff) (E := E) (ob := ob) (fun k hk => h k (Nat.lt_succ_of_lt hk))
    have h2 := h r (Nat.lt_succ_self r)
    unfold sumN
    by_cases z : fo r = ob ∧ hP fs ff (sStart E r) (E r)
    · rw [iteP_t z]; omega
    · rw [iteP_f z]; omega
theorem maxJ_0 {a : Nat} (h : a < 2147483648) : maxJ (nI a) 0 = nI a := by
  unfold maxJ
  rw [if_neg (nI_pos h)]
theorem sh1_1 : ((1 : Int32).toInt64 &&& 63) = (1 : Int32).toInt64 &&& 63 := rfl
set_option maxRecDepth 100000 in
set_option maxHeartbeats 4000000 in
theorem sp_X6_isSo {D : G} {s : Nat} {fc : Nat} {ff : Nat → Int32} (hs : s < 2147483648) : Sp D mX6_isSo 0 0 0 [.int (nI s), .ref fc] [(fc, eI D 5 ff)] (fun r w => r = some (.int (b2i (isSoP s ff))) ∧ w = [(fc, eI D 5 ff)]) := by
  refine Sp.of (by decide) (Nat.le_of_ble_eq_true rfl) (fun X O T => ?_)
  refine v_eq (lv' := [(0, .int (nI s)), (1, .ref fc)]) rfl rfl rfl rfl ?_
  refine v_iload_n O dX6_isSo_0 0 rfl ?_
  refine v_bipush (v := 100) O dX6_isSo_1 (by decide) ?_
  refine v_idiv O dX6_isSo_3 (by decide) ?_
  refine v_top (y := nI (s / 100)) (pk_div (a := s) (d := 100) (by omega) (by decide) (by decide)) ?_
  refine v_iconst (v := 3) O dX6_isSo_4 (by decide) ?_
  refine v_idiv O dX6_isSo_5 (by decide) ?_
  refine v_top (y := nI ((s / 100) / 3)) (pk_div (a := (s / 100)) (d := 3) (by omega) (by decide) (by decide)) ?_
  refine v_istore_n (lv' := [(0, .int (nI s)), (1, .ref fc), (2, .int (nI ((s / 100) / 3)))]) O dX6_isSo_6 (by decide) rfl ?_
  refine v_iload_n O dX6_isSo_7 2 rfl ?_
  refine v_if_lt O 17 dX6_isSo_8 (by decide) (fun c_1 => ?_) (fun c_1 => ?_)
  · skip
    have c_1 := (c_lt (x := nI ((s / 100) / 3)) (y := 0) (a := (s / 100) / 3) (b := 0) rfl rfl (by omega) (by omega)).mp c_1
    exact absurd c_1 (by omega)
  · skip
    have c_1 := (not_congr (c_lt (x := nI ((s / 100) / 3)) (y := 0) (a := (s / 100) / 3) (b := 0) rfl rfl (by omega) (by omega))).mp c_1
    refine v_iload_n O dX6_isSo_11 2 rfl ?_
    refine v_aload_n O dX6_isSo_12 1 rfl ?_
    refine v_alenI O dX6_isSo_13 0 rfl ?_
    refine v_icmp_lt O 19 dX6_isSo_14 (by decide) (fun z1 => ?_) (fun z1 => ?_)
    · skip
      have z1 := (c_lt (x := nI ((s / 100) / 3)) (y := nI 5) (a := (s / 100) / 3) (b := 5) rfl rfl (by omega) (by omega)).mp z1
      refine v_aload_n O dX6_isSo_19 1 rfl ?_
      refine v_iload_n O dX6_isSo_20 2 rfl ?_
      refine v_ialdk O dX6_isSo_21 0 rfl ((s / 100) / 3) rfl (by omega) (by decide) ?_
      refine v_istore_n (lv' := [(0, .int (nI s)), (1, .ref fc), (2, .int (nI ((s / 100) / 3))), (3, .int (ff ((s / 100) / 3)))]) O dX6_isSo_22 (by decide) rfl ?_
      refine v_iload_n O dX6_isSo_23 0 rfl ?_
      refine v_bipush (v := 100) O dX6_isSo_24 (by decide) ?_
      refine v_irem O dX6_isSo_26 (by decide) ?_
      refine v_top (y := nI (s % 100)) (pk_rem (a := s) (d := 100) (by omega) (by decide) (by decide)) ?_
      refine v_istore (lv' := [(0, .int (nI s)), (1, .ref fc), (2, .int (nI ((s / 100) / 3))), (3, .int (ff ((s / 100) / 3))), (4, .int (nI (s % 100)))]) O dX6_isSo_27 (by decide) rfl ?_
      refine v_iload_n O dX6_isSo_29 0 rfl ?_
      refine v_bipush (v := 100) O dX6_isSo_30 (by decide) ?_
      refine v_idiv O dX6_isSo_32 (by decide) ?_
      refine v_top (y := nI (s / 100)) (pk_div (a := s) (d := 100) (by omega) (by decide) (by decide)) ?_
      refine v_iconst (v := 3) O dX6_isSo_33 (by decide) ?_
      refine v_irem O dX6_isSo_34 (by decide) ?_
      refine v_top (y := nI ((s / 100) % 3)) (pk_rem (a := (s / 100)) (d := 3) (by omega) (by decide) (by decide)) ?_
      by_cases s_2 : nI ((s / 100) % 3) = 0
      · skip
        refine v_top s_2 ?_
        refine v_lks (off := 25) O 60 dX6_isSo_35 (by decide) (by decide) (by decide) ?_
        have z3 := (c_eq (x := nI (s / 100 % 3)) (y := 0) (a := s / 100 % 3) (b := 0) rfl rfl (by omega) (by omega)).mp s_2
        refine v_iload_n O dX6_isSo_60 3 rfl ?_
        refine v_iload O dX6_isSo_61 4 rfl ?_
        refine v_icmp_ge O 70 dX6_isSo_63 (by decide) (fun z2 => ?_) (fun z2 => ?_)
        · skip
          refine v_iconst (v := 0) O dX6_isSo_70 (by decide) ?_
          exact v_ireturn O T rfl rfl (by decide) (by decide) dX6_isSo_71 (⟨by rw [b2i_f (fun z9 => (Int32.not_lt.mpr z2) ((isSoP_0 z1 z3).mp z9))], rfl⟩)
        · skip
          refine v_iconst (v := 1) O dX6_isSo_66 (by decide) ?_
          refine v_goto O 71 dX6_isSo_67 (by decide) ?_
          exact v_ireturn O T rfl rfl (by decide) (by decide) dX6_isSo_71 (⟨by rw [b2i_t ((isSoP_0 z1 z3).mpr (Int32.not_le.mp z2))], rfl⟩)
      by_cases s_3 : nI ((s / 100) % 3) = 1
      · skip
        refine v_top s_3 ?_
        refine v_lks (off := 37) O 72 dX6_isSo_35 (by decide) (by decide) (by decide) ?_
        have z3 := (c_eq (x := nI (s / 100 % 3)) (y := 1) (a := s / 100 % 3) (b := 1) rfl rfl (by omega) (by omega)).mp s_3
        refine v_iload_n O dX6_isSo_72 3 rfl ?_
        refine v_iload O dX6_isSo_73 4 rfl ?_
        refine v_icmp_ne O 82 dX6_isSo_75 (by decide) (fun z2 => ?_) (fun z2 => ?_)
        · skip
          refine v_iconst (v := 0) O dX6_isSo_82 (by decide) ?_
          exact v_ireturn O T rfl rfl (by decide) (by decide) dX6_isSo_83 (⟨by rw [b2i_f (fun z9 => (z2) ((isSoP_1 z1 z3).mp z9))], rfl⟩)
        · skip
          refine v_iconst (v := 1) O dX6_isSo_78 (by decide) ?_
          refine v_goto O 83 dX6_isSo_79 (by decide) ?_
          exact v_ireturn O T rfl rfl (by decide) (by decide) dX6_isSo_83 (⟨by rw [b2i_t ((isSoP_1 z1 z3).mpr (z2))], rfl⟩)
      refine v_lks (off := 49) O 84 dX6_isSo_35 (by decide) (lks_out (fun p hp => by simp at hp; rcases hp with rfl | rfl <;> exact i32_ne (by assumption) (by decide))) (by decide) ?_
      have z4 : ¬ s / 100 % 3 = 0 := (not_congr (c_eq (x := nI (s / 100 % 3)) (y := 0) (a := s / 100 % 3) (b := 0) rfl rfl (by omega) (by omega))).mp (by assumption)
      have z5 : ¬ s / 100 % 3 = 1 := (not_congr (c_eq (x := nI (s / 100 % 3)) (y := 1) (a := s / 100 % 3) (b := 1) rfl rfl (by omega) (by omega))).mp (by assumption)
      refine v_iload_n O dX6_isSo_84 3 rfl ?_
      refine v_iload O dX6_isSo_85 4 rfl ?_
      refine v_icmp_le O 94 dX6_isSo_87 (by decide) (fun z2 => ?_) (fun z2 => ?_)
      · skip
        refine v_iconst (v := 0) O dX6_isSo_94 (by decide) ?_
        exact v_ireturn O T rfl rfl (by decide) (by decide) dX6_isSo_95 (⟨by rw [b2i_f (fun z9 => (Int32.not_lt.mpr z2) ((isSoP_2 z1 z4 z5).mp z9))], rfl⟩)
      · skip
        refine v_iconst (v := 1) O dX6_isSo_90 (by decide) ?_
        refine v_goto O 95 dX6_isSo_91 (by decide) ?_
        exact v_ireturn O T rfl rfl (by decide) (by decide) dX6_isSo_95 (⟨by rw [b2i_t ((isSoP_2 z1 z4 z5).mpr (Int32.not_le.mp z2))], rfl⟩)
    · skip
      have z1 := (not_congr (c_lt (x := nI ((s / 100) / 3)) (y := nI 5) (a := (s / 100) / 3) (b := 5) rfl rfl (by omega) (by omega))).mp z1
      refine v_iconst (v := 0) O dX6_isSo_17 (by decide) ?_
      exact v_ireturn O T rfl rfl (by decide) (by decide) dX6_isSo_18 (⟨by rw [b2i_f (isSoP_n (by omega))], rfl⟩)
set_option maxRecDepth 100000 in
set_option maxHeartbeats 4000000 in
theorem l_X6_holds {D : G} {X : CX} {vg : Nat} {sh : Nat} {mo : Nat} {ov : Nat} {nr : Nat} {io : Nat} {am : Nat} {en : Nat} {nl : Nat} {sp : Nat} {fs : Nat → Int32} {fc : Nat} {ff : Nat → Int32} {a e : Nat} (O : Ok D X mX6_holds 2 0 0) (ha : a ≤ 100) (he : e ≤ 100) (T : Rt D X (fun r w => r = some (.int (b2i (hP fs ff a e))) ∧ w = [(vg, .inr (6, [.int (nI sh), .int (nI mo), .int (nI ov), .int (nI nr), .ref io, .ref am, .ref en, .int (nI nl), .ref sp])), (sp, eI D 100 fs), (fc, eI D 5 ff)]) 0 0) : ∀ (t p : Nat), a ≤ p → p + t = max a e → ∀ q : Int64, q = hF fs ff a (p - a) → V D X 0 0 10 [(0, .ref vg), (1, .int (nI a)), (2, .int (nI e)), (3, .ref fc), (4, .long q), (6, .int (nI p))] [] [(vg, .inr (6, [.int (nI sh), .int (nI mo), .int (nI ov), .int (nI nr), .ref io, .ref am, .ref en, .int (nI nl), .ref sp])), (sp, eI D 100 fs), (fc, eI D 5 ff)] := by
  intro t
  induction t with
  | zero =>
    intro p hp hpt q hq
    refine v_iload O dX6_holds_10 5 rfl ?_
    refine v_iload_n O dX6_holds_12 2 rfl ?_
    refine v_icmp_ge O 124 dX6_holds_13 (by decide) (fun z1 => ?_) (fun z1 => ?_)
    · skip
      have z1 := (c_le' (x := nI p) (y := nI e) (a := p) (b := e) rfl rfl (by omega) (by omega)).mp z1
      refine v_lload O dX6_holds_124 4 rfl ?_
      refine v_lconst (v := 1) O dX6_holds_126 rfl ?_
      refine v_land O dX6_holds_127 ?_
      refine v_lconst (v := 0) O dX6_holds_128 rfl ?_
      refine v_lcmp O dX6_holds_129 ?_
      refine v_if_eq O 137 dX6_holds_130 (by decide) (fun z7 => ?_) (fun z7 => ?_)
      · skip
        have z7 := (lg_cmp_eq _ _).mp z7
        refine v_iconst (v := 0) O dX6_holds_137 (by decide) ?_
        exact v_ireturn O T rfl rfl (by decide) (by decide) dX6_holds_138 (⟨by rw [b2i_f (by unfold hP; rw [show e - a = p - a by omega, ← hq]; exact fun z8 => z8 z7)], rfl⟩)
      · skip
        have z7 := (not_congr (lg_cmp_eq _ _)).mp z7
        refine v_iconst (v := 1) O dX6_holds_133 (by decide) ?_
        refine v_goto O 138 dX6_holds_134 (by decide) ?_
        exact v_ireturn O T rfl rfl (by decide) (by decide) dX6_holds_138 (⟨by rw [b2i_t (by unfold hP; rw [show e - a = p - a by omega, ← hq]; exact z7)], rfl⟩)
    · skip
      have z1 := (not_congr (c_le' (x := nI p) (y := nI e) (a := p) (b := e) rfl rfl (by omega) (by omega))).mp z1
      exact absurd z1 (by omega)
  | succ t ih =>
    intro p hp hpt q hq
    refine v_iload O dX6_holds_10 5 rfl ?_
    refine v_iload_n O dX6_holds_12 2 rfl ?_
    refine v_icmp_ge O 124 dX6_holds_13 (by decide) (fun z1 => ?_) (fun z1 => ?_)
    · skip
      have z1 := (c_le' (x := nI p) (y := nI e) (a := p) (b := e) rfl rfl (by omega) (by omega)).mp z1
      exact absurd z1 (by omega)
    · skip
      have z1 := (not_congr (c_le' (x := nI p) (y := nI e) (a := p) (b := e) rfl rfl (by omega) (by omega))).mp z1
      refine v_iload O dX6_holds_16 5 rfl ?_
      refine v_aload_n O dX6_holds_18 0 rfl ?_
      refine gf_X6_38 O rfl dX6_holds_19 0 rfl rfl ?_
      refine v_alenI O dX6_holds_22 1 rfl ?_
      refine v_icmp_ge O 124 dX6_holds_23 (by decide) (fun z2 => ?_) (fun z2 => ?_)
      · skip
        have z2 := (c_le' (x := nI p) (y := nI 100) (a := p) (b := 100) rfl rfl (by omega) (by omega)).mp z2
        exact absurd z2 (by omega)
      · skip
        have z2 := (not_congr (c_le' (x := nI p) (y := nI 100) (a := p) (b := 100) rfl rfl (by omega) (by omega))).mp z2
        refine v_aload_n O dX6_holds_26 0 rfl ?_
        refine gf_X6_38 O rfl dX6_holds_27 0 rfl rfl ?_
        refine v_iload O dX6_holds_30 5 rfl ?_
        refine v_ialdk O dX6_holds_32 1 rfl p rfl (by omega) (by decide) ?_
        refine v_topi (fun t9 e_t9 => ?_)
        refine v_istore (lv' := [(0, .ref vg), (1, .int (nI a)), (2, .int (nI e)), (3, .ref fc), (4, .long q), (6, .int (nI p)), (7, .int t9)]) O dX6_holds_33 (by decide) rfl ?_
        refine v_lload O dX6_holds_35 4 rfl ?_
        refine v_lconst (v := 1) O dX6_holds_37 rfl ?_
        refine v_land O dX6_holds_38 ?_
        refine v_lstore (lv' := [(0, .ref vg), (1, .int (nI a)), (2, .int (nI e)), (3, .ref fc), (4, .long q), (6, .int (nI p)), (7, .int t9), (8, .long (q &&& 1))]) O dX6_holds_39 (by decide) rfl ?_
        refine v_iload O dX6_holds_41 6 rfl ?_
        refine v_if_lt O 71 dX6_holds_43 (by decide) (fun z3 => ?_) (fun z3 => ?_)
        · skip
          refine v_iload O dX6_holds_71 6 rfl ?_
          refine v_iconst (v := -1) O dX6_holds_73 (by decide) ?_
          refine v_icmp_ne O 86 dX6_holds_74 (by decide) (fun z4 => ?_) (fun z4 => ?_)
          · skip
            refine v_iload O dX6_holds_86 6 rfl ?_
            refine v_bipush (v := -2) O dX6_holds_88 (by decide) ?_
            refine v_icmp_ne O 109 dX6_holds_90 (by decide) (fun z5 => ?_) (fun z5 => ?_)
            · skip
              refine v_lload O dX6_holds_109 4 rfl ?_
              refine v_iconst (v := 1) O dX6_holds_111 (by decide) ?_
              refine v_lushr O dX6_holds_112 ?_
              refine v_lload O dX6_holds_113 7 rfl ?_
              refine v_lor O dX6_holds_115 ?_
              refine v_lstore (lv' := [(0, .ref vg), (1, .int (nI a)), (2, .int (nI e)), (3, .ref fc), (4, .long (((q.toUInt64 >>> ((1 : Int32).toInt64.toUInt64 &&& Int64.toUInt64 63)).toInt64) ||| (q &&& 1))), (6, .int (nI p)), (7, .int t9), (8, .long (q &&& 1))]) O dX6_holds_116 (by decide) rfl ?_
              refine v_iinc (v := nI (p + 1)) (lv' := [(0, .ref vg), (1, .int (nI a)), (2, .int (nI e)), (3, .ref fc), (4, .long (((q.toUInt64 >>> ((1 : Int32).toInt64.toUInt64 &&& Int64.toUInt64 63)).toInt64) ||| (q &&& 1))), (6, .int (nI (p + 1))), (7, .int t9), (8, .long (q &&& 1))]) O dX6_holds_118 5 rfl (nI_1 p) (by decide) rfl ?_
              refine v_goto O 10 dX6_holds_121 (by decide) ?_
              refine v_lvp (lv' := [(0, .ref vg), (1, .int (nI a)), (2, .int (nI e)), (3, .ref fc), (4, .long (((q.toUInt64 >>> ((1 : Int32).toInt64.toUInt64 &&& Int64.toUInt64 63)).toInt64) ||| (q &&& 1))), (6, .int (nI (p + 1)))]) [0, 1, 2, 3, 4, 5] rfl ?_
              exact ih (p + 1) (by omega) (by omega) _ (by rw [show p + 1 - a = (p - a) + 1 by omega]; show _ = hStep (hF fs ff a (p - a)) (fs (a + (p - a))) ff; rw [← hq, show a + (p - a) = p by omega, ← e_t9]; first | exact (hStep_t z3 e9 hs9 z6).symm | exact (hStep_f z3 e9 hs9 z6).symm | exact (hStep_n z3 z4).symm | exact (hStep_a z3 z4 z5).symm | exact (hStep_o z3 z4 z5).symm)
            · skip
              refine v_lload O dX6_holds_93 4 rfl ?_
              refine v_iconst (v := 1) O dX6_holds_95 (by decide) ?_
              refine v_lushr O dX6_holds_96 ?_
              refine v_lload O dX6_holds_97 7 rfl ?_
              refine v_ldc2 (v := -2) O tw_483 dX6_holds_99 ?_
              refine v_lor O dX6_holds_102 ?_
              refine v_land O dX6_holds_103 ?_
              refine v_lstore (lv' := [(0, .ref vg), (1, .int (nI a)), (2, .int (nI e)), (3, .ref fc), (4, .long (((q.toUInt64 >>> ((1 : Int32).toInt64.toUInt64 &&& Int64.toUInt64 63)).toInt64) &&& ((q &&& 1) ||| (-2 : Int64)))), (6, .int (nI p)), (7, .int t9), (8, .long (q &&& 1))]) O dX6_holds_104 (by decide) rfl ?_
              refine v_goto O 118 dX6_holds_106 (by decide) ?_
              refine v_iinc (v := nI (p + 1)) (lv' := [(0, .ref vg), (1, .int (nI a)), (2, .int (nI e)), (3, .ref fc), (4, .long (((q.toUInt64 >>> ((1 : Int32).toInt64.toUInt64 &&& Int64.toUInt64 63)).toInt64) &&& ((q &&& 1) ||| (-2 : Int64)))), (6, .int (nI (p + 1))), (7, .int t9), (8, .long (q &&& 1))]) O dX6_holds_118 5 rfl (nI_1 p) (by decide) rfl ?_
              refine v_goto O 10 dX6_holds_121 (by decide) ?_
              refine v_lvp (lv' := [(0, .ref vg), (1, .int (nI a)), (2, .int (nI e)), (3, .ref fc), (4, .long (((q.toUInt64 >>> ((1 : Int32).toInt64.toUInt64 &&& Int64.toUInt64 63)).toInt64) &&& ((q &&& 1) ||| (-2 : Int64)))), (6, .int (nI (p + 1)))]) [0, 1, 2, 3, 4, 5] rfl ?_
              exact ih (p + 1) (by omega) (by omega) _ (by rw [show p + 1 - a = (p - a) + 1 by omega]; show _ = hStep (hF fs ff a (p - a)) (fs (a + (p - a))) ff; rw [← hq, show a + (p - a) = p by omega, ← e_t9]; first | exact (hStep_t z3 e9 hs9 z6).symm | exact (hStep_f z3 e9 hs9 z6).symm | exact (hStep_n z3 z4).symm | exact (hStep_a z3 z4 z5).symm | exact (hStep_o z3 z4 z5).symm)
          · skip
            refine v_lload O dX6_holds_77 4 rfl ?_
            refine v_lconst (v := 1) O dX6_holds_79 rfl ?_
            refine v_lxor O dX6_holds_80 ?_
            refine v_lstore (lv' := [(0, .ref vg), (1, .int (nI a)), (2, .int (nI e)), (3, .ref fc), (4, .long (q ^^^ 1)), (6, .int (nI p)), (7, .int t9), (8, .long (q &&& 1))]) O dX6_holds_81 (by decide) rfl ?_
            refine v_goto O 118 dX6_holds_83 (by decide) ?_
            refine v_iinc (v := nI (p + 1)) (lv' := [(0, .ref vg), (1, .int (nI a)), (2, .int (nI e)), (3, .ref fc), (4, .long (q ^^^ 1)), (6, .int (nI (p + 1))), (7, .int t9), (8, .long (q &&& 1))]) O dX6_holds_118 5 rfl (nI_1 p) (by decide) rfl ?_
            refine v_goto O 10 dX6_holds_121 (by decide) ?_
            refine v_lvp (lv' := [(0, .ref vg), (1, .int (nI a)), (2, .int (nI e)), (3, .ref fc), (4, .long (q ^^^ 1)), (6, .int (nI (p + 1)))]) [0, 1, 2, 3, 4, 5] rfl ?_
            exact ih (p + 1) (by omega) (by omega) _ (by rw [show p + 1 - a = (p - a) + 1 by omega]; show _ = hStep (hF fs ff a (p - a)) (fs (a + (p - a))) ff; rw [← hq, show a + (p - a) = p by omega, ← e_t9]; first | exact (hStep_t z3 e9 hs9 z6).symm | exact (hStep_f z3 e9 hs9 z6).symm | exact (hStep_n z3 z4).symm | exact (hStep_a z3 z4 z5).symm | exact (hStep_o z3 z4 z5).symm)
        · skip
          obtain ⟨s9, hs9, e9⟩ := nI_of z3
          refine v_lload O dX6_holds_46 4 rfl ?_
          refine v_iconst (v := 1) O dX6_holds_48 (by decide) ?_
          refine v_lshl O dX6_holds_49 ?_
          refine v_iload O dX6_holds_50 6 rfl ?_
          refine v_top (y := nI s9) e9 ?_
          refine v_aload_n O dX6_holds_52 3 rfl ?_
          refine v_cS (As := [.int (nI s9), .ref fc]) (wr := [(vg, .inr (6, [.int (nI sh), .int (nI mo), .int (nI ov), .int (nI nr), .ref io, .ref am, .ref en, .int (nI nl), .ref sp])), (sp, eI D 100 fs)]) (st := [.long (q <<< ((1 : Int32).toInt64 &&& 63))]) O cf_X6_55 (sp_X6_isSo (s := s9) (fc := fc) (ff := ff) (hs9)) dX6_holds_53 rfl rfl [2] [0, 1] (by decide) rfl rfl (by decide) (by decide) (by decide) (Nat.le_of_ble_eq_true rfl) (by decide) (by decide) (fun r_2 w_3 h_1 => ?_)
          obtain ⟨rfl, rfl⟩ := h_1
          refine v_eq (st' := [.int (b2i (isSoP s9 ff)), .long (q <<< ((1 : Int32).toInt64 &&& 63))]) (ws' := [(vg, .inr (6, [.int (nI sh), .int (nI mo), .int (nI ov), .int (nI nr), .ref io, .ref am, .ref en, .int (nI nl), .ref sp])), (sp, eI D 100 fs), (fc, eI D 5 ff)]) rfl rfl rfl rfl ?_
          refine v_if_eq O 63 dX6_holds_56 (by decide) (fun z6 => ?_) (fun z6 => ?_)
          · skip
            have z6 := b2i_0.mp z6
            refine v_iconst (v := 0) O dX6_holds_63 (by decide) ?_
            refine v_i2l O dX6_holds_64 ?_
            refine v_lor O dX6_holds_65 ?_
            refine v_lstore (lv' := [(0, .ref vg), (1, .int (nI a)), (2, .int (nI e)), (3, .ref fc), (4, .long ((q <<< ((1 : Int32).toInt64 &&& 63)) ||| (Int32.toInt64 (0 : Int32)))), (6, .int (nI p)), (7, .int t9), (8, .long (q &&& 1))]) O dX6_holds_66 (by decide) rfl ?_
            refine v_goto O 118 dX6_holds_68 (by decide) ?_
            refine v_iinc (v := nI (p + 1)) (lv' := [(0, .ref vg), (1, .int (nI a)), (2, .int (nI e)), (3, .ref fc), (4, .long ((q <<< ((1 : Int32).toInt64 &&& 63)) ||| (Int32.toInt64 (0 : Int32)))), (6, .int (nI (p + 1))), (7, .int t9), (8, .long (q &&& 1))]) O dX6_holds_118 5 rfl (nI_1 p) (by decide) rfl ?_
            refine v_goto O 10 dX6_holds_121 (by decide) ?_
            refine v_lvp (lv' := [(0, .ref vg), (1, .int (nI a)), (2, .int (nI e)), (3, .ref fc), (4, .long ((q <<< ((1 : Int32).toInt64 &&& 63)) ||| (Int32.toInt64 (0 : Int32)))), (6, .int (nI (p + 1)))]) [0, 1, 2, 3, 4, 5] rfl ?_
            exact ih (p + 1) (by omega) (by omega) _ (by rw [show p + 1 - a = (p - a) + 1 by omega]; show _ = hStep (hF fs ff a (p - a)) (fs (a + (p - a))) ff; rw [← hq, show a + (p - a) = p by omega, ← e_t9]; first | exact (hStep_t z3 e9 hs9 z6).symm | exact (hStep_f z3 e9 hs9 z6).symm | exact (hStep_n z3 z4).symm | exact (hStep_a z3 z4 z5).symm | exact (hStep_o z3 z4 z5).symm)
          · skip
            have z6 := b2i_1.mp z6
            refine v_iconst (v := 1) O dX6_holds_59 (by decide) ?_
            refine v_goto O 64 dX6_holds_60 (by decide) ?_
            refine v_i2l O dX6_holds_64 ?_
            refine v_lor O dX6_holds_65 ?_
            refine v_lstore (lv' := [(0, .ref vg), (1, .int (nI a)), (2, .int (nI e)), (3, .ref fc), (4, .long ((q <<< ((1 : Int32).toInt64 &&& 63)) ||| (Int32.toInt64 (1 : Int32)))), (6, .int (nI p)), (7, .int t9), (8, .long (q &&& 1))]) O dX6_holds_66 (by decide) rfl ?_
            refine v_goto O 118 dX6_holds_68 (by decide) ?_
            refine v_iinc (v := nI (p + 1)) (lv' := [(0, .ref vg), (1, .int (nI a)), (2, .int (nI e)), (3, .ref fc), (4, .long ((q <<< ((1 : Int32).toInt64 &&& 63)) ||| (Int32.toInt64 (1 : Int32)))), (6, .int (nI (p + 1))), (7, .int t9), (8, .long (q &&& 1))]) O dX6_holds_118 5 rfl (nI_1 p) (by decide) rfl ?_
            refine v_goto O 10 dX6_holds_121 (by decide) ?_
            refine v_lvp (lv' := [(0, .ref vg), (1, .int (nI a)), (2, .int (nI e)), (3, .ref fc), (4, .long ((q <<< ((1 : Int32).toInt64 &&& 63)) ||| (Int32.toInt64 (1 : Int32)))), (6, .int (nI (p + 1)))]) [0, 1, 2, 3, 4, 5] rfl ?_
            exact ih (p + 1) (by omega) (by omega) _ (by rw [show p + 1 - a = (p - a) + 1 by omega]; show _ = hStep (hF fs ff a (p - a)) (fs (a + (p - a))) ff; rw [← hq, show a + (p - a) = p by omega, ← e_t9]; first | exact (hStep_t z3 e9 hs9 z6).symm | exact (hStep_f z3 e9 hs9 z6).symm | exact (hStep_n z3 z4).symm | exact (hStep_a z3 z4 z5).symm | exact (hStep_o z3 z4 z5).symm)
set_option maxRecDepth 100000 in
set_option maxHeartbeats 4000000 in
theorem sp_X6_holds {D : G} {vg : Nat} {sh : Nat} {mo : Nat} {ov : Nat} {nr : Nat} {io : Nat} {am : Nat} {en : Nat} {nl : Nat} {sp : Nat} {fs : Nat → Int32} {fc : Nat} {ff : Nat → Int32} {a : Nat} {e : Nat} (ha : a ≤ 100) (he : e ≤ 100) : Sp D mX6_holds 2 0 0 [.ref vg, .int (nI a), .int (nI e), .ref fc] [(vg, .inr (6, [.int (nI sh), .int (nI mo), .int (nI ov), .int (nI nr), .ref io, .ref am, .ref en, .int (nI nl), .ref sp])), (sp, eI D 100 fs), (fc, eI D 5 ff)] (fun r w => r = some (.int (b2i (hP fs ff a e))) ∧ w = [(vg, .inr (6, [.int (nI sh), .int (nI mo), .int (nI ov), .int (nI nr), .ref io, .ref am, .ref en, .int (nI nl), .ref sp])), (sp, eI D 100 fs), (fc, eI D 5 ff)]) := by
  refine Sp.of (by decide) (Nat.le_of_ble_eq_true rfl) (fun X O T => ?_)
  refine v_eq (lv' := [(0, .ref vg), (1, .int (nI a)), (2, .int (nI e)), (3, .ref fc)]) rfl rfl rfl rfl ?_
  refine v_lconst (v := 0) O dX6_holds_0 rfl ?_
  refine v_lstore (lv' := [(0, .ref vg), (1, .int (nI a)), (2, .int (nI e)), (3, .ref fc), (4, .long 0)]) O dX6_holds_1 (by decide) rfl ?_
  refine v_iload_n O dX6_holds_3 1 rfl ?_
  refine v_iconst (v := 0) O dX6_holds_4 (by decide) ?_
  refine v_cS (As := [.int (nI a), .int 0]) (wr := [(vg, .inr (6, [.int (nI sh), .int (nI mo), .int (nI ov), .int (nI nr), .ref io, .ref am, .ref en, .int (nI nl), .ref sp])), (sp, eI D 100 fs), (fc, eI D 5 ff)]) (st := []) O cf_X6_41 (sp_J9_max_7cf53 (x := (nI a)) (y := 0) ) dX6_holds_5 rfl rfl [] [0, 1, 2] (by decide) rfl rfl (by decide) (by decide) (by decide) (Nat.le_of_ble_eq_true rfl) (by decide) (by decide) (fun r_2 w_3 h_1 => ?_)
  obtain ⟨rfl, rfl⟩ := h_1
  refine v_eq (st' := [.int (maxJ (nI a) 0)]) (ws' := [(vg, .inr (6, [.int (nI sh), .int (nI mo), .int (nI ov), .int (nI nr), .ref io, .ref am, .ref en, .int (nI nl), .ref sp])), (sp, eI D 100 fs), (fc, eI D 5 ff)]) rfl rfl rfl rfl ?_
  refine v_top (y := nI a) (maxJ_0 (by omega)) ?_
  refine v_istore (lv' := [(0, .ref vg), (1, .int (nI a)), (2, .int (nI e)), (3, .ref fc), (4, .long 0), (6, .int (nI a))]) O dX6_holds_8 (by decide) rfl ?_
  exact l_X6_holds O ha he T (max a e - a) a (Nat.le_refl a) (by omega) 0 (by rw [Nat.sub_self]; rfl)
set_option maxRecDepth 100000 in
set_option maxHeartbeats 4000000 in
theorem l_X6_sum0 {D : G} {X : CX} {vg : Nat} {sh : Nat} {mo : Nat} {ov : Nat} {nr : Nat} {io : Nat} {am : Nat} {en : Nat} {nl : Nat} {sp : Nat} {fo : Nat → Int32} {fa : Nat → Int32} {fe : Nat → Int32} {fs : Nat → Int32} {fc : Nat} {ff : Nat → Int32} {E am9 : Nat → Nat} (O : Ok D X mX6_sum 3 0 0) (hnr : nr ≤ 10) (hE : ∀ r, r < nr → fe r = nI (E r) ∧ E r ≤ 100) (hA : ∀ r, r < nr → fa r = nI (am9 r) ∧ am9 r ≤ 99) (T : Rt D X (fun r w => r = some (.int (nI (sumN fo fs ff am9 E 0 nr))) ∧ w = [(vg, .inr (6, [.int (nI sh), .int (nI mo), .int (nI ov), .int (nI nr), .ref io, .ref am, .ref en, .int (nI nl), .ref sp])), (io, eZ D 10 fo), (am, eI D 10 fa), (en, eI D 10 fe), (sp, eI D 100 fs), (fc, eI D 5 ff)]) 0 0) : ∀ (t p : Nat), p + t = nr → ∀ (q b : Nat), q = sumN fo fs ff am9 E 0 p → b = sStart E p → b ≤ 100 → V D X 0 0 8 [(0, .ref vg), (1, .int 0), (2, .ref fc), (3, .int (nI q)), (4, .int (nI b)), (5, .int (nI p))] [] [(vg, .inr (6, [.int (nI sh), .int (nI mo), .int (nI ov), .int (nI nr), .ref io, .ref am, .ref en, .int (nI nl), .ref sp])), (io, eZ D 10 fo), (am, eI D 10 fa), (en, eI D 10 fe), (sp, eI D 100 fs), (fc, eI D 5 ff)] := by
  intro t
  induction t with
  | zero =>
    intro p hp q b hq hb hb2
    refine v_iload O dX6_sum_8 5 rfl ?_
    refine v_aload_n O dX6_sum_10 0 rfl ?_
    refine gf_X6_21 O rfl dX6_sum_11 0 rfl rfl ?_
    refine v_icmp_ge O 76 dX6_sum_14 (by decide) (fun z1 => ?_) (fun z1 => ?_)
    · skip
      have z1 := (c_le' (x := nI p) (y := nI nr) (a := p) (b := nr) rfl rfl (by omega) (by omega)).mp z1
      refine v_iload_n O dX6_sum_76 3 rfl ?_
      exact v_ireturn O T rfl rfl (by decide) (by decide) dX6_sum_77 (⟨by rw [hq, show p = nr by omega], rfl⟩)
    · skip
      have z1 := (not_congr (c_le' (x := nI p) (y := nI nr) (a := p) (b := nr) rfl rfl (by omega) (by omega))).mp z1
      exact absurd z1 (by omega)
  | succ t ih =>
    intro p hp q b hq hb hb2
    refine v_iload O dX6_sum_8 5 rfl ?_
    refine v_aload_n O dX6_sum_10 0 rfl ?_
    refine gf_X6_21 O rfl dX6_sum_11 0 rfl rfl ?_
    refine v_icmp_ge O 76 dX6_sum_14 (by decide) (fun z1 => ?_) (fun z1 => ?_)
    · skip
      have z1 := (c_le' (x := nI p) (y := nI nr) (a := p) (b := nr) rfl rfl (by omega) (by omega)).mp z1
      exact absurd z1 (by omega)
    · skip
      have z1 := (not_congr (c_le' (x := nI p) (y := nI nr) (a := p) (b := nr) rfl rfl (by omega) (by omega))).mp z1
      refine v_iload O dX6_sum_17 5 rfl ?_
      refine v_bipush (v := 10) O dX6_sum_19 (by decide) ?_
      refine v_icmp_ge O 76 dX6_sum_21 (by decide) (fun z2 => ?_) (fun z2 => ?_)
      · skip
        have z2 := (c_le' (x := nI p) (y := 10) (a := p) (b := 10) rfl rfl (by omega) (by omega)).mp z2
        exact absurd z2 (by omega)
      · skip
        have z2 := (not_congr (c_le' (x := nI p) (y := 10) (a := p) (b := 10) rfl rfl (by omega) (by omega))).mp z2
        refine v_aload_n O dX6_sum_24 0 rfl ?_
        refine gf_X6_32 O rfl dX6_sum_25 0 rfl rfl ?_
        refine v_iload O dX6_sum_28 5 rfl ?_
        refine v_ialdk O dX6_sum_30 3 rfl p rfl (by omega) (by decide) ?_
        refine v_top (y := nI (E p)) ((hE p (by omega)).1) ?_
        refine v_istore (lv' := [(0, .ref vg), (1, .int 0), (2, .ref fc), (3, .int (nI q)), (4, .int (nI b)), (5, .int (nI p)), (6, .int (nI (E p)))]) O dX6_sum_31 (by decide) rfl ?_
        refine v_aload_n O dX6_sum_33 0 rfl ?_
        refine gf_X6_24 O rfl dX6_sum_34 0 rfl rfl ?_
        refine v_iload O dX6_sum_37 5 rfl ?_
        refine v_zaldk O dX6_sum_39 1 rfl p rfl (by omega) (by decide) ?_
        refine v_iload_n O dX6_sum_40 1 rfl ?_
        refine v_icmp_ne O 66 dX6_sum_41 (by decide) (fun z3 => ?_) (fun z3 => ?_)
        · skip
          refine v_iload O dX6_sum_66 6 rfl ?_
          refine v_istore (lv' := [(0, .ref vg), (1, .int 0), (2, .ref fc), (3, .int (nI q)), (4, .int (nI (E p))), (5, .int (nI p)), (6, .int (nI (E p)))]) O dX6_sum_68 (by decide) rfl ?_
          refine v_iinc (v := nI (p + 1)) (lv' := [(0, .ref vg), (1, .int 0), (2, .ref fc), (3, .int (nI q)), (4, .int (nI (E p))), (5, .int (nI (p + 1))), (6, .int (nI (E p)))]) O dX6_sum_70 5 rfl (nI_1 p) (by decide) rfl ?_
          refine v_goto O 8 dX6_sum_73 (by decide) ?_
          refine v_lvp (lv' := [(0, .ref vg), (1, .int 0), (2, .ref fc), (3, .int (nI q)), (4, .int (nI (E p))), (5, .int (nI (p + 1)))]) [0, 1, 2, 3, 4, 5] rfl ?_
          exact ih (p + 1) (by omega) _ _ (by unfold sumN; rw [← hq, ← hb]; first | exact (iteP_t ⟨z3, z4⟩).symm | exact (iteP_f (fun z9 => absurd z9.1 z3)).symm | exact (iteP_f (fun z9 => absurd z9.2 z4)).symm) rfl (hE p (by omega)).2
        · skip
          refine v_aload_n O dX6_sum_44 0 rfl ?_
          refine v_iload O dX6_sum_45 4 rfl ?_
          refine v_iload O dX6_sum_47 6 rfl ?_
          refine v_aload_n O dX6_sum_49 2 rfl ?_
          refine v_cV (T := TX6) (ci := 6) (As := [.int (nI b), .int (nI (E p)), .ref fc]) (wr := [(io, eZ D 10 fo), (am, eI D 10 fa), (en, eI D 10 fe)]) (st := []) O cf_X6_51 rfl (sp_X6_holds (vg := vg) (sh := sh) (mo := mo) (ov := ov) (nr := nr) (io := io) (am := am) (en := en) (nl := nl) (sp := sp) (fs := fs) (fc := fc) (ff := ff) (a := b) (e := (E p)) (hb2) ((hE p (by omega)).2)) dX6_sum_50 rfl rfl 0 rfl [0, 4, 5] [1, 2, 3] (by decide) rfl rfl (by decide) (by decide) (by decide) (Nat.le_of_ble_eq_true rfl) (by decide) (by decide) (fun r_2 w_3 h_1 => ?_)
          obtain ⟨rfl, rfl⟩ := h_1
          refine v_eq (st' := [.int (b2i (hP fs ff b (E p)))]) (ws' := [(io, eZ D 10 fo), (am, eI D 10 fa), (en, eI D 10 fe), (vg, .inr (6, [.int (nI sh), .int (nI mo), .int (nI ov), .int (nI nr), .ref io, .ref am, .ref en, .int (nI nl), .ref sp])), (sp, eI D 100 fs), (fc, eI D 5 ff)]) rfl rfl rfl rfl ?_
          refine v_if_eq O 66 dX6_sum_53 (by decide) (fun z4 => ?_) (fun z4 => ?_)
          · skip
            have z4 := b2i_0.mp z4
            refine v_iload O dX6_sum_66 6 rfl ?_
            refine v_istore (lv' := [(0, .ref vg), (1, .int 0), (2, .ref fc), (3, .int (nI q)), (4, .int (nI (E p))), (5, .int (nI p)), (6, .int (nI (E p)))]) O dX6_sum_68 (by decide) rfl ?_
            refine v_iinc (v := nI (p + 1)) (lv' := [(0, .ref vg), (1, .int 0), (2, .ref fc), (3, .int (nI q)), (4, .int (nI (E p))), (5, .int (nI (p + 1))), (6, .int (nI (E p)))]) O dX6_sum_70 5 rfl (nI_1 p) (by decide) rfl ?_
            refine v_goto O 8 dX6_sum_73 (by decide) ?_
            refine v_lvp (lv' := [(0, .ref vg), (1, .int 0), (2, .ref fc), (3, .int (nI q)), (4, .int (nI (E p))), (5, .int (nI (p + 1)))]) [0, 1, 2, 3, 4, 5] rfl ?_
            refine v_sub (ws' := [(vg, .inr (6, [.int (nI sh), .int (nI mo), .int (nI ov), .int (nI nr), .ref io, .ref am, .ref en, .int (nI nl), .ref sp])), (io, eZ D 10 fo), (am, eI D 10 fa), (en, eI D 10 fe), (sp, eI D 100 fs), (fc, eI D 5 ff)]) [3, 0, 1, 2, 4, 5] (by decide) rfl ?_
            exact ih (p + 1) (by omega) _ _ (by unfold sumN; rw [← hq, ← hb]; first | exact (iteP_t ⟨z3, z4⟩).symm | exact (iteP_f (fun z9 => absurd z9.1 z3)).symm | exact (iteP_f (fun z9 => absurd z9.2 z4)).symm) rfl (hE p (by omega)).2
          · skip
            have z4 := b2i_1.mp z4
            refine v_iload_n O dX6_sum_56 3 rfl ?_
            refine v_aload_n O dX6_sum_57 0 rfl ?_
            refine gf_X6_28 O rfl dX6_sum_58 3 rfl rfl ?_
            refine v_iload O dX6_sum_61 5 rfl ?_
            refine v_ialdk O dX6_sum_63 1 rfl p rfl (by omega) (by decide) ?_
            refine v_top (y := nI (am9 p)) ((hA p (by omega)).1) ?_
            refine v_iadd O dX6_sum_64 ?_
            refine v_top (y := nI (q + (am9 p))) (nI_add q (am9 p)) ?_
            refine v_istore_n (lv' := [(0, .ref vg), (1, .int 0), (2, .ref fc), (3, .int (nI (q + (am9 p)))), (4, .int (nI b)), (5, .int (nI p)), (6, .int (nI (E p)))]) O dX6_sum_65 (by decide) rfl ?_
            refine v_iload O dX6_sum_66 6 rfl ?_
            refine v_istore (lv' := [(0, .ref vg), (1, .int 0), (2, .ref fc), (3, .int (nI (q + (am9 p)))), (4, .int (nI (E p))), (5, .int (nI p)), (6, .int (nI (E p)))]) O dX6_sum_68 (by decide) rfl ?_
            refine v_iinc (v := nI (p + 1)) (lv' := [(0, .ref vg), (1, .int 0), (2, .ref fc), (3, .int (nI (q + (am9 p)))), (4, .int (nI (E p))), (5, .int (nI (p + 1))), (6, .int (nI (E p)))]) O dX6_sum_70 5 rfl (nI_1 p) (by decide) rfl ?_
            refine v_goto O 8 dX6_sum_73 (by decide) ?_
            refine v_lvp (lv' := [(0, .ref vg), (1, .int 0), (2, .ref fc), (3, .int (nI (q + (am9 p)))), (4, .int (nI (E p))), (5, .int (nI (p + 1)))]) [0, 1, 2, 3, 4, 5] rfl ?_
            refine v_sub (ws' := [(vg, .inr (6, [.int (nI sh), .int (nI mo), .int (nI ov), .int (nI nr), .ref io, .ref am, .ref en, .int (nI nl), .ref sp])), (io, eZ D 10 fo), (am, eI D 10 fa), (en, eI D 10 fe), (sp, eI D 100 fs), (fc, eI D 5 ff)]) [3, 0, 1, 2, 4, 5] (by decide) rfl ?_
            exact ih (p + 1) (by omega) _ _ (by unfold sumN; rw [← hq, ← hb]; first | exact (iteP_t ⟨z3, z4⟩).symm | exact (iteP_f (fun z9 => absurd z9.1 z3)).symm | exact (iteP_f (fun z9 => absurd z9.2 z4)).symm) rfl (hE p (by omega)).2
set_option maxRecDepth 100000 in
set_option maxHeartbeats 4000000 in
theorem sp_X6_sum0 {D : G} {vg : Nat} {sh : Nat} {mo : Nat} {ov : Nat} {nr : Nat} {io : Nat} {am : Nat} {en : Nat} {nl : Nat} {sp : Nat} {fo : Nat → Int32} {fa : Nat → Int32} {fe : Nat → Int32} {fs : Nat → Int32} {fc : Nat} {ff : Nat → Int32} {E : Nat → Nat} {am9 : Nat → Nat} (hnr : nr ≤ 10) (hE : ∀ r, r < nr → fe r = nI (E r) ∧ E r ≤ 100) (hA : ∀ r, r < nr → fa r = nI (am9 r) ∧ am9 r ≤ 99) : Sp D mX6_sum 3 0 0 [.ref vg, .int 0, .ref fc] [(vg, .inr (6, [.int (nI sh), .int (nI mo), .int (nI ov), .int (nI nr), .ref io, .ref am, .ref en, .int (nI nl), .ref sp])), (io, eZ D 10 fo), (am, eI D 10 fa), (en, eI D 10 fe), (sp, eI D 100 fs), (fc, eI D 5 ff)] (fun r w => r = some (.int (nI (sumN fo fs ff am9 E 0 nr))) ∧ w = [(vg, .inr (6, [.int (nI sh), .int (nI mo), .int (nI ov), .int (nI nr), .ref io, .ref am, .ref en, .int (nI nl), .ref sp])), (io, eZ D 10 fo), (am, eI D 10 fa), (en, eI D 10 fe), (sp, eI D 100 fs), (fc, eI D 5 ff)]) := by
  refine Sp.of (by decide) (Nat.le_of_ble_eq_true rfl) (fun X O T => ?_)
  refine v_eq (lv' := [(0, .ref vg), (1, .int 0), (2, .ref fc)]) rfl rfl rfl rfl ?_
  refine v_iconst (v := 0) O dX6_sum_0 (by decide) ?_
  refine v_istore_n (lv' := [(0, .ref vg), (1, .int 0), (2, .ref fc), (3, .int 0)]) O dX6_sum_1 (by decide) rfl ?_
  refine v_iconst (v := 0) O dX6_sum_2 (by decide) ?_
  refine v_istore (lv' := [(0, .ref vg), (1, .int 0), (2, .ref fc), (3, .int 0), (4, .int 0)]) O dX6_sum_3 (by decide) rfl ?_
  refine v_iconst (v := 0) O dX6_sum_5 (by decide) ?_
  refine v_istore (lv' := [(0, .ref vg), (1, .int 0), (2, .ref fc), (3, .int 0), (4, .int 0), (5, .int 0)]) O dX6_sum_6 (by decide) rfl ?_
  exact l_X6_sum0 O hnr hE hA T nr 0 (by omega) 0 0 rfl rfl (by omega)
set_option maxRecDepth 100000 in
set_option maxHeartbeats 4000000 in
theorem l_X6_sum1 {D : G} {X : CX} {vg : Nat} {sh : Nat} {mo : Nat} {ov : Nat} {nr : Nat} {io : Nat} {am : Nat} {en : Nat} {nl : Nat} {sp : Nat} {fo : Nat → Int32} {fa : Nat → Int32} {fe : Nat → Int32} {fs : Nat → Int32} {fc : Nat} {ff : Nat → Int32} {E am9 : Nat → Nat} (O : Ok D X mX6_sum 3 0 0) (hnr : nr ≤ 10) (hE : ∀ r, r < nr → fe r = nI (E r) ∧ E r ≤ 100) (hA : ∀ r, r < nr → fa r = nI (am9 r) ∧ am9 r ≤ 99) (T : Rt D X (fun r w => r = some (.int (nI (sumN fo fs ff am9 E 1 nr))) ∧ w = [(vg, .inr (6, [.int (nI sh), .int (nI mo), .int (nI ov), .int (nI nr), .ref io, .ref am, .ref en, .int (nI nl), .ref sp])), (io, eZ D 10 fo), (am, eI D 10 fa), (en, eI D 10 fe), (sp, eI D 100 fs), (fc, eI D 5 ff)]) 0 0) : ∀ (t p : Nat), p + t = nr → ∀ (q b : Nat), q = sumN fo fs ff am9 E 1 p → b = sStart E p → b ≤ 100 → V D X 0 0 8 [(0, .ref vg), (1, .int 1), (2, .ref fc), (3, .int (nI q)), (4, .int (nI b)), (5, .int (nI p))] [] [(vg, .inr (6, [.int (nI sh), .int (nI mo), .int (nI ov), .int (nI nr), .ref io, .ref am, .ref en, .int (nI nl), .ref sp])), (io, eZ D 10 fo), (am, eI D 10 fa), (en, eI D 10 fe), (sp, eI D 100 fs), (fc, eI D 5 ff)] := by
  intro t
  induction t with
  | zero =>
    intro p hp q b hq hb hb2
    refine v_iload O dX6_sum_8 5 rfl ?_
    refine v_aload_n O dX6_sum_10 0 rfl ?_
    refine gf_X6_21 O rfl dX6_sum_11 0 rfl rfl ?_
    refine v_icmp_ge O 76 dX6_sum_14 (by decide) (fun z1 => ?_) (fun z1 => ?_)
    · skip
      have z1 := (c_le' (x := nI p) (y := nI nr) (a := p) (b := nr) rfl rfl (by omega) (by omega)).mp z1
      refine v_iload_n O dX6_sum_76 3 rfl ?_
      exact v_ireturn O T rfl rfl (by decide) (by decide) dX6_sum_77 (⟨by rw [hq, show p = nr by omega], rfl⟩)
    · skip
      have z1 := (not_congr (c_le' (x := nI p) (y := nI nr) (a := p) (b := nr) rfl rfl (by omega) (by omega))).mp z1
      exact absurd z1 (by omega)
  | succ t ih =>
    intro p hp q b hq hb hb2
    refine v_iload O dX6_sum_8 5 rfl ?_
    refine v_aload_n O dX6_sum_10 0 rfl ?_
    refine gf_X6_21 O rfl dX6_sum_11 0 rfl rfl ?_
    refine v_icmp_ge O 76 dX6_sum_14 (by decide) (fun z1 => ?_) (fun z1 => ?_)
    · skip
      have z1 := (c_le' (x := nI p) (y := nI nr) (a := p) (b := nr) rfl rfl (by omega) (by omega)).mp z1
      exact absurd z1 (by omega)
    · skip
      have z1 := (not_congr (c_le' (x := nI p) (y := nI nr) (a := p) (b := nr) rfl rfl (by omega) (by omega))).mp z1
      refine v_iload O dX6_sum_17 5 rfl ?_
      refine v_bipush (v := 10) O dX6_sum_19 (by decide) ?_
      refine v_icmp_ge O 76 dX6_sum_21 (by decide) (fun z2 => ?_) (fun z2 => ?_)
      · skip
        have z2 := (c_le' (x := nI p) (y := 10) (a := p) (b := 10) rfl rfl (by omega) (by omega)).mp z2
        exact absurd z2 (by omega)
      · skip
        have z2 := (not_congr (c_le' (x := nI p) (y := 10) (a := p) (b := 10) rfl rfl (by omega) (by omega))).mp z2
        refine v_aload_n O dX6_sum_24 0 rfl ?_
        refine gf_X6_32 O rfl dX6_sum_25 0 rfl rfl ?_
        refine v_iload O dX6_sum_28 5 rfl ?_
        refine v_ialdk O dX6_sum_30 3 rfl p rfl (by omega) (by decide) ?_
        refine v_top (y := nI (E p)) ((hE p (by omega)).1) ?_
        refine v_istore (lv' := [(0, .ref vg), (1, .int 1), (2, .ref fc), (3, .int (nI q)), (4, .int (nI b)), (5, .int (nI p)), (6, .int (nI (E p)))]) O dX6_sum_31 (by decide) rfl ?_
        refine v_aload_n O dX6_sum_33 0 rfl ?_
        refine gf_X6_24 O rfl dX6_sum_34 0 rfl rfl ?_
        refine v_iload O dX6_sum_37 5 rfl ?_
        refine v_zaldk O dX6_sum_39 1 rfl p rfl (by omega) (by decide) ?_
        refine v_iload_n O dX6_sum_40 1 rfl ?_
        refine v_icmp_ne O 66 dX6_sum_41 (by decide) (fun z3 => ?_) (fun z3 => ?_)
        · skip
          refine v_iload O dX6_sum_66 6 rfl ?_
          refine v_istore (lv' := [(0, .ref vg), (1, .int 1), (2, .ref fc), (3, .int (nI q)), (4, .int (nI (E p))), (5, .int (nI p)), (6, .int (nI (E p)))]) O dX6_sum_68 (by decide) rfl ?_
          refine v_iinc (v := nI (p + 1)) (lv' := [(0, .ref vg), (1, .int 1), (2, .ref fc), (3, .int (nI q)), (4, .int (nI (E p))), (5, .int (nI (p + 1))), (6, .int (nI (E p)))]) O dX6_sum_70 5 rfl (nI_1 p) (by decide) rfl ?_
          refine v_goto O 8 dX6_sum_73 (by decide) ?_
          refine v_lvp (lv' := [(0, .ref vg), (1, .int 1), (2, .ref fc), (3, .int (nI q)), (4, .int (nI (E p))), (5, .int (nI (p + 1)))]) [0, 1, 2, 3, 4, 5] rfl ?_
          exact ih (p + 1) (by omega) _ _ (by unfold sumN; rw [← hq, ← hb]; first | exact (iteP_t ⟨z3, z4⟩).symm | exact (iteP_f (fun z9 => absurd z9.1 z3)).symm | exact (iteP_f (fun z9 => absurd z9.2 z4)).symm) rfl (hE p (by omega)).2
        · skip
          refine v_aload_n O dX6_sum_44 0 rfl ?_
          refine v_iload O dX6_sum_45 4 rfl ?_
          refine v_iload O dX6_sum_47 6 rfl ?_
          refine v_aload_n O dX6_sum_49 2 rfl ?_
          refine v_cV (T := TX6) (ci := 6) (As := [.int (nI b), .int (nI (E p)), .ref fc]) (wr := [(io, eZ D 10 fo), (am, eI D 10 fa), (en, eI D 10 fe)]) (st := []) O cf_X6_51 rfl (sp_X6_holds (vg := vg) (sh := sh) (mo := mo) (ov := ov) (nr := nr) (io := io) (am := am) (en := en) (nl := nl) (sp := sp) (fs := fs) (fc := fc) (ff := ff) (a := b) (e := (E p)) (hb2) ((hE p (by omega)).2)) dX6_sum_50 rfl rfl 0 rfl [0, 4, 5] [1, 2, 3] (by decide) rfl rfl (by decide) (by decide) (by decide) (Nat.le_of_ble_eq_true rfl) (by decide) (by decide) (fun r_2 w_3 h_1 => ?_)
          obtain ⟨rfl, rfl⟩ := h_1
          refine v_eq (st' := [.int (b2i (hP fs ff b (E p)))]) (ws' := [(io, eZ D 10 fo), (am, eI D 10 fa), (en, eI D 10 fe), (vg, .inr (6, [.int (nI sh), .int (nI mo), .int (nI ov), .int (nI nr), .ref io, .ref am, .ref en, .int (nI nl), .ref sp])), (sp, eI D 100 fs), (fc, eI D 5 ff)]) rfl rfl rfl rfl ?_
          refine v_if_eq O 66 dX6_sum_53 (by decide) (fun z4 => ?_) (fun z4 => ?_)
          · skip
            have z4 := b2i_0.mp z4
            refine v_iload O dX6_sum_66 6 rfl ?_
            refine v_istore (lv' := [(0, .ref vg), (1, .int 1), (2, .ref fc), (3, .int (nI q)), (4, .int (nI (E p))), (5, .int (nI p)), (6, .int (nI (E p)))]) O dX6_sum_68 (by decide) rfl ?_
            refine v_iinc (v := nI (p + 1)) (lv' := [(0, .ref vg), (1, .int 1), (2, .ref fc), (3, .int (nI q)), (4, .int (nI (E p))), (5, .int (nI (p + 1))), (6, .int (nI (E p)))]) O dX6_sum_70 5 rfl (nI_1 p) (by decide) rfl ?_
            refine v_goto O 8 dX6_sum_73 (by decide) ?_
            refine v_lvp (lv' := [(0, .ref vg), (1, .int 1), (2, .ref fc), (3, .int (nI q)), (4, .int (nI (E p))), (5, .int (nI (p + 1)))]) [0, 1, 2, 3, 4, 5] rfl ?_
            refine v_sub (ws' := [(vg, .inr (6, [.int (nI sh), .int (nI mo), .int (nI ov), .int (nI nr), .ref io, .ref am, .ref en, .int (nI nl), .ref sp])), (io, eZ D 10 fo), (am, eI D 10 fa), (en, eI D 10 fe), (sp, eI D 100 fs), (fc, eI D 5 ff)]) [3, 0, 1, 2, 4, 5] (by decide) rfl ?_
            exact ih (p + 1) (by omega) _ _ (by unfold sumN; rw [← hq, ← hb]; first | exact (iteP_t ⟨z3, z4⟩).symm | exact (iteP_f (fun z9 => absurd z9.1 z3)).symm | exact (iteP_f (fun z9 => absurd z9.2 z4)).symm) rfl (hE p (by omega)).2
          · skip
            have z4 := b2i_1.mp z4
            refine v_iload_n O dX6_sum_56 3 rfl ?_
            refine v_aload_n O dX6_sum_57 0 rfl ?_
            refine gf_X6_28 O rfl dX6_sum_58 3 rfl rfl ?_
            refine v_iload O dX6_sum_61 5 rfl ?_
            refine v_ialdk O dX6_sum_63 1 rfl p rfl (by omega) (by decide) ?_
            refine v_top (y := nI (am9 p)) ((hA p (by omega)).1) ?_
            refine v_iadd O dX6_sum_64 ?_
            refine v_top (y := nI (q + (am9 p))) (nI_add q (am9 p)) ?_
            refine v_istore_n (lv' := [(0, .ref vg), (1, .int 1), (2, .ref fc), (3, .int (nI (q + (am9 p)))), (4, .int (nI b)), (5, .int (nI p)), (6, .int (nI (E p)))]) O dX6_sum_65 (by decide) rfl ?_
            refine v_iload O dX6_sum_66 6 rfl ?_
            refine v_istore (lv' := [(0, .ref vg), (1, .int 1), (2, .ref fc), (3, .int (nI (q + (am9 p)))), (4, .int (nI (E p))), (5, .int (nI p)), (6, .int (nI (E p)))]) O dX6_sum_68 (by decide) rfl ?_
            refine v_iinc (v := nI (p + 1)) (lv' := [(0, .ref vg), (1, .int 1), (2, .ref fc), (3, .int (nI (q + (am9 p)))), (4, .int (nI (E p))), (5, .int (nI (p + 1))), (6, .int (nI (E p)))]) O dX6_sum_70 5 rfl (nI_1 p) (by decide) rfl ?_
            refine v_goto O 8 dX6_sum_73 (by decide) ?_
            refine v_lvp (lv' := [(0, .ref vg), (1, .int 1), (2, .ref fc), (3, .int (nI (q + (am9 p)))), (4, .int (nI (E p))), (5, .int (nI (p + 1)))]) [0, 1, 2, 3, 4, 5] rfl ?_
            refine v_sub (ws' := [(vg, .inr (6, [.int (nI sh), .int (nI mo), .int (nI ov), .int (nI nr), .ref io, .ref am, .ref en, .int (nI nl), .ref sp])), (io, eZ D 10 fo), (am, eI D 10 fa), (en, eI D 10 fe), (sp, eI D 100 fs), (fc, eI D 5 ff)]) [3, 0, 1, 2, 4, 5] (by decide) rfl ?_
            exact ih (p + 1) (by omega) _ _ (by unfold sumN; rw [← hq, ← hb]; first | exact (iteP_t ⟨z3, z4⟩).symm | exact (iteP_f (fun z9 => absurd z9.1 z3)).symm | exact (iteP_f (fun z9 => absurd z9.2 z4)).symm) rfl (hE p (by omega)).2
set_option maxRecDepth 100000 in
set_option maxHeartbeats 4000000 in
theorem sp_X6_sum1 {D : G} {vg : Nat} {sh : Nat} {mo : Nat} {ov : Nat} {nr : Nat} {io : Nat} {am : Nat} {en : Nat} {nl : Nat} {sp : Nat} {fo : Nat → Int32} {fa : Nat → Int32} {fe : Nat → Int32} {fs : Nat → Int32} {fc : Nat} {ff : Nat → Int32} {E : Nat → Nat} {am9 : Nat → Nat} (hnr : nr ≤ 10) (hE : ∀ r, r < nr → fe r = nI (E r) ∧ E r ≤ 100) (hA : ∀ r, r < nr → fa r = nI (am9 r) ∧ am9 r ≤ 99) : Sp D mX6_sum 3 0 0 [.ref vg, .int 1, .ref fc] [(vg, .inr (6, [.int (nI sh), .int (nI mo), .int (nI ov), .int (nI nr), .ref io, .ref am, .ref en, .int (nI nl), .ref sp])), (io, eZ D 10 fo), (am, eI D 10 fa), (en, eI D 10 fe), (sp, eI D 100 fs), (fc, eI D 5 ff)] (fun r w => r = some (.int (nI (sumN fo fs ff am9 E 1 nr))) ∧ w = [(vg, .inr (6, [.int (nI sh), .int (nI mo), .int (nI ov), .int (nI nr), .ref io, .ref am, .ref en, .int (nI nl), .ref sp])), (io, eZ D 10 fo), (am, eI D 10 fa), (en, eI D 10 fe), (sp, eI D 100 fs), (fc, eI D 5 ff)]) := by
  refine Sp.of (by decide) (Nat.le_of_ble_eq_true rfl) (fun X O T => ?_)
  refine v_eq (lv' := [(0, .ref vg), (1, .int 1), (2, .ref fc)]) rfl rfl rfl rfl ?_
  refine v_iconst (v := 0) O dX6_sum_0 (by decide) ?_
  refine v_istore_n (lv' := [(0, .ref vg), (1, .int 1), (2, .ref fc), (3, .int 0)]) O dX6_sum_1 (by decide) rfl ?_
  refine v_iconst (v := 0) O dX6_sum_2 (by decide) ?_
  refine v_istore (lv' := [(0, .ref vg), (1, .int 1), (2, .ref fc), (3, .int 0), (4, .int 0)]) O dX6_sum_3 (by decide) rfl ?_
  refine v_iconst (v := 0) O dX6_sum_5 (by decide) ?_
  refine v_istore (lv' := [(0, .ref vg), (1, .int 1), (2, .ref fc), (3, .int 0), (4, .int 0), (5, .int 0)]) O dX6_sum_6 (by decide) rfl ?_
  exact l_X6_sum1 O hnr hE hA T nr 0 (by omega) 0 0 rfl rfl (by omega)
set_option maxRecDepth 100000 in
set_option maxHeartbeats 4000000 in
theorem sp_X6_back {D : G} {vg : Nat} {sh : Nat} {mo : Nat} {ov : Nat} {nr : Nat} {io : Nat} {am : Nat} {en : Nat} {nl : Nat} {sp : Nat} {fo : Nat → Int32} {fa : Nat → Int32} {fe : Nat → Int32} {fs : Nat → Int32} {fc : Nat} {ff : Nat → Int32} {E : Nat → Nat} {am9 : Nat → Nat} (hnr : nr ≤ 10) (hE : ∀ r, r < nr → fe r = nI (E r) ∧ E r ≤ 100) (hA : ∀ r, r < nr → fa r = nI (am9 r) ∧ am9 r ≤ 99) : Sp D mX6_back 4 0 0 [.ref vg, .ref fc] [(vg, .inr (6, [.int (nI sh), .int (nI mo), .int (nI ov), .int (nI nr), .ref io, .ref am, .ref en, .int (nI nl), .ref sp])), (io, eZ D 10 fo), (am, eI D 10 fa), (en, eI D 10 fe), (sp, eI D 100 fs), (fc, eI D 5 ff)] (fun r w => r = some (.int (nI (sumN fo fs ff am9 E 0 nr))) ∧ w = [(vg, .inr (6, [.int (nI sh), .int (nI mo), .int (nI ov), .int (nI nr), .ref io, .ref am, .ref en, .int (nI nl), .ref sp])), (io, eZ D 10 fo), (am, eI D 10 fa), (en, eI D 10 fe), (sp, eI D 100 fs), (fc, eI D 5 ff)]) := by
  refine Sp.of (by decide) (Nat.le_of_ble_eq_true rfl) (fun X O T => ?_)
  refine v_eq (lv' := [(0, .ref vg), (1, .ref fc)]) rfl rfl rfl rfl ?_
  refine v_aload_n O dX6_back_0 0 rfl ?_
  refine v_iconst (v := 0) O dX6_back_1 (by decide) ?_
  refine v_aload_n O dX6_back_2 1 rfl ?_
  refine v_cV (T := TX6) (ci := 6) (As := [.int 0, .ref fc]) (wr := []) (st := []) O cf_X6_47 rfl (sp_X6_sum0 (vg := vg) (sh := sh) (mo := mo) (ov := ov) (nr := nr) (io := io) (am := am) (en := en) (nl := nl) (sp := sp) (fo := fo) (fa := fa) (fe := fe) (fs := fs) (fc := fc) (ff := ff) (E := E) (am9 := am9) (hnr) (hE) (hA)) dX6_back_3 rfl rfl 0 rfl [0, 1, 2, 3, 4, 5] [] (by decide) rfl rfl (by decide) (by decide) (by decide) (Nat.le_of_ble_eq_true rfl) (by decide) (by decide) (fun r_2 w_3 h_1 => ?_)
  obtain ⟨rfl, rfl⟩ := h_1
  refine v_eq (st' := [.int (nI (sumN fo fs ff am9 E 0 nr))]) (ws' := [(vg, .inr (6, [.int (nI sh), .int (nI mo), .int (nI ov), .int (nI nr), .ref io, .ref am, .ref en, .int (nI nl), .ref sp])), (io, eZ D 10 fo), (am, eI D 10 fa), (en, eI D 10 fe), (sp, eI D 100 fs), (fc, eI D 5 ff)]) rfl rfl rfl rfl ?_
  exact v_ireturn O T rfl rfl (by decide) (by decide) dX6_back_6 (⟨rfl, rfl⟩)
noncomputable def overN (fo fs ff : Nat → Int32) (am E : Nat → Nat) (ov nr : Nat) : Nat := if ov = 0 then 1 else sumN fo fs ff am E 1 nr
theorem overN_le {fo fs ff : Nat → Int32} {am E : Nat → Nat} {ov nr : Nat} (hn : nr ≤ 10) (h : ∀ k, k < nr → am k ≤ 99) : overN fo fs ff am E ov nr ≤ 990 := by
  unfold overN
  split
  · omega
  · have := sumN_le (fo := fo) (fs := fs) (ff := ff) (E := E) (ob := 1) h; omega
set_option maxRecDepth 100000 in
set_option maxHeartbeats 4000000 in
theorem sp_X6_over {D : G} {vg : Nat} {sh : Nat} {mo : Nat} {ov : Nat} {nr : Nat} {io : Nat} {am : Nat} {en : Nat} {nl : Nat} {sp : Nat} {fo : Nat → Int32} {fa : Nat → Int32} {fe : Nat → Int32} {fs : Nat → Int32} {fc : Nat} {ff : Nat → Int32} {E : Nat → Nat} {am9 : Nat → Nat} (hnr : nr ≤ 10) (hov : ov ≤ 10) (hE : ∀ r, r < nr → fe r = nI (E r) ∧ E r ≤ 100) (hA : ∀ r, r < nr → fa r = nI (am9 r) ∧ am9 r ≤ 99) : Sp D mX6_over 4 0 0 [.ref vg, .ref fc] [(vg, .inr (6, [.int (nI sh), .int (nI mo), .int (nI ov), .int (nI nr), .ref io, .ref am, .ref en, .int (nI nl), .ref sp])), (io, eZ D 10 fo), (am, eI D 10 fa), (en, eI D 10 fe), (sp, eI D 100 fs), (fc, eI D 5 ff)] (fun r w => r = some (.int (nI (overN fo fs ff am9 E ov nr))) ∧ w = [(vg, .inr (6, [.int (nI sh), .int (nI mo), .int (nI ov), .int (nI nr), .ref io, .ref am, .ref en, .int (nI nl), .ref sp])), (io, eZ D 10 fo), (am, eI D 10 fa), (en, eI D 10 fe), (sp, eI D 100 fs), (fc, eI D 5 ff)]) := by
  refine Sp.of (by decide) (Nat.le_of_ble_eq_true rfl) (fun X O T => ?_)
  refine v_eq (lv' := [(0, .ref vg), (1, .ref fc)]) rfl rfl rfl rfl ?_
  refine v_aload_n O dX6_over_0 0 rfl ?_
  refine gf_X6_18 O rfl dX6_over_1 0 rfl rfl ?_
  refine v_if_ne O 11 dX6_over_4 (by decide) (fun z1 => ?_) (fun z1 => ?_)
  · skip
    have z1 := (not_congr (c_eq (x := nI ov) (y := 0) (a := ov) (b := 0) rfl rfl (by omega) (by omega))).mp z1
    refine v_aload_n O dX6_over_11 0 rfl ?_
    refine v_iconst (v := 1) O dX6_over_12 (by decide) ?_
    refine v_aload_n O dX6_over_13 1 rfl ?_
    refine v_cV (T := TX6) (ci := 6) (As := [.int 1, .ref fc]) (wr := []) (st := []) O cf_X6_47 rfl (sp_X6_sum1 (vg := vg) (sh := sh) (mo := mo) (ov := ov) (nr := nr) (io := io) (am := am) (en := en) (nl := nl) (sp := sp) (fo := fo) (fa := fa) (fe := fe) (fs := fs) (fc := fc) (ff := ff) (E := E) (am9 := am9) (hnr) (hE) (hA)) dX6_over_14 rfl rfl 0 rfl [0, 1, 2, 3, 4, 5] [] (by decide) rfl rfl (by decide) (by decide) (by decide) (Nat.le_of_ble_eq_true rfl) (by decide) (by decide) (fun r_2 w_3 h_1 => ?_)
    obtain ⟨rfl, rfl⟩ := h_1
    refine v_eq (st' := [.int (nI (sumN fo fs ff am9 E 1 nr))]) (ws' := [(vg, .inr (6, [.int (nI sh), .int (nI mo), .int (nI ov), .int (nI nr), .ref io, .ref am, .ref en, .int (nI nl), .ref sp])), (io, eZ D 10 fo), (am, eI D 10 fa), (en, eI D 10 fe), (sp, eI D 100 fs), (fc, eI D 5 ff)]) rfl rfl rfl rfl ?_
    exact v_ireturn O T rfl rfl (by decide) (by decide) dX6_over_17 (⟨by unfold overN; rw [if_neg z1], rfl⟩)
  · skip
    have z1 := (c_eq (x := nI ov) (y := 0) (a := ov) (b := 0) rfl rfl (by omega) (by omega)).mp z1
    refine v_iconst (v := 1) O dX6_over_7 (by decide) ?_
    refine v_goto O 17 dX6_over_8 (by decide) ?_
    exact v_ireturn O T rfl rfl (by decide) (by decide) dX6_over_17 (⟨by unfold overN; rw [if_pos z1]; rfl, rfl⟩)
set_option maxRecDepth 100000 in
set_option maxHeartbeats 4000000 in
theorem sp_X6_clear {D : G} {vg : Nat} {sh : Nat} {mo : Nat} {ov : Nat} {nr : Nat} {io : Nat} {am : Nat} {en : Nat} {nl : Nat} {sp : Nat} : Sp D mX6_clear 0 0 0 [.ref vg] [(vg, .inr (6, [.int (nI sh), .int (nI mo), .int (nI ov), .int (nI nr), .ref io, .ref am, .ref en, .int (nI nl), .ref sp]))] (fun r w => r = none ∧ w = [(vg, .inr (6, [.int 3, .int 1, .int 0, .int 0, .ref io, .ref am, .ref en, .int 0, .ref sp]))]) := by
  refine Sp.of (by decide) (Nat.le_of_ble_eq_true rfl) (fun X O T => ?_)
  refine v_eq (lv' := [(0, .ref vg)]) rfl rfl rfl rfl ?_
  refine v_aload_n O dX6_clear_0 0 rfl ?_
  refine v_iconst (v := 3) O dX6_clear_1 (by decide) ?_
  refine pf_X6_9 (fs' := [.int 3, .int (nI mo), .int (nI ov), .int (nI nr), .ref io, .ref am, .ref en, .int (nI nl), .ref sp]) (ws' := [(vg, .inr (6, [.int 3, .int (nI mo), .int (nI ov), .int (nI nr), .ref io, .ref am, .ref en, .int (nI nl), .ref sp]))]) O rfl dX6_clear_2 0 rfl (Nat.le_of_ble_eq_true rfl) rfl rfl ?_
  refine v_aload_n O dX6_clear_5 0 rfl ?_
  refine v_iconst (v := 1) O dX6_clear_6 (by decide) ?_
  refine pf_X6_15 (fs' := [.int 3, .int 1, .int (nI ov), .int (nI nr), .ref io, .ref am, .ref en, .int (nI nl), .ref sp]) (ws' := [(vg, .inr (6, [.int 3, .int 1, .int (nI ov), .int (nI nr), .ref io, .ref am, .ref en, .int (nI nl), .ref sp]))]) O rfl dX6_clear_7 0 rfl (Nat.le_of_ble_eq_true rfl) rfl rfl ?_
  refine v_aload_n O dX6_clear_10 0 rfl ?_
  refine v_iconst (v := 0) O dX6_clear_11 (by decide) ?_
  refine pf_X6_18 (fs' := [.int 3, .int 1, .int 0, .int (nI nr), .ref io, .ref am, .ref en, .int (nI nl), .ref sp]) (ws' := [(vg, .inr (6, [.int 3, .int 1, .int 0, .int (nI nr), .ref io, .ref am, .ref en, .int (nI nl), .ref sp]))]) O rfl dX6_clear_12 0 rfl (Nat.le_of_ble_eq_true rfl) rfl rfl ?_
  refine v_aload_n O dX6_clear_15 0 rfl ?_
  refine v_iconst (v := 0) O dX6_clear_16 (by decide) ?_
  refine pf_X6_21 (fs' := [.int 3, .int 1, .int 0, .int 0, .ref io, .ref am, .ref en, .int (nI nl), .ref sp]) (ws' := [(vg, .inr (6, [.int 3, .int 1, .int 0, .int 0, .ref io, .ref am, .ref en, .int (nI nl), .ref sp]))]) O rfl dX6_clear_17 0 rfl (Nat.le_of_ble_eq_true rfl) rfl rfl ?_
  refine v_aload_n O dX6_clear_20 0 rfl ?_
  refine v_iconst (v := 0) O dX6_clear_21 (by decide) ?_
  refine pf_X6_35 (fs' := [.int 3, .int 1, .int 0, .int 0, .ref io, .ref am, .ref en, .int 0, .ref sp]) (ws' := [(vg, .inr (6, [.int 3, .int 1, .int 0, .int 0, .ref io, .ref am, .ref en, .int 0, .ref sp]))]) O rfl dX6_clear_22 0 rfl (Nat.le_of_ble_eq_true rfl) rfl rfl ?_
  exact v_return O T rfl (by decide) (by decide) dX6_clear_25 (⟨rfl, rfl⟩)
theorem maxJ_2 {n : Nat} (h : n < 2147483648) : maxJ (nI n) 2 = nI (max n 2) := by
  unfold maxJ
  by_cases z1 : n < 2
  · rw [if_pos ((c_lt (x := nI n) (y := 2) (b := 2) rfl rfl h (by omega)).mpr z1), show max n 2 = 2 by omega]; rfl
  · rw [if_neg ((not_congr (c_lt (x := nI n) (y := 2) (b := 2) rfl rfl h (by omega))).mpr z1), show max n 2 = n by omega]
set_option maxRecDepth 100000 in
set_option maxHeartbeats 4000000 in
theorem sp_X6_setShares {D : G} {vg : Nat} {sh : Nat} {mo : Nat} {ov : Nat} {nr : Nat} {io : Nat} {am : Nat} {en : Nat} {nl : Nat} {sp : Nat} {n : Nat} (hn : n ≤ 99) : Sp D mX6_setShares 1 0 0 [.ref vg, .int (nI n)] [(vg, .inr (6, [.int (nI sh), .int (nI mo), .int (nI ov), .int (nI nr), .ref io, .ref am, .ref en, .int (nI nl), .ref sp]))] (fun r w => r = none ∧ w = [(vg, .inr (6, [.int (nI (max n 2)), .int (nI mo), .int (nI ov), .int (nI nr), .ref io, .ref am, .ref en, .int (nI nl), .ref sp]))]) := by
  refine Sp.of (by decide) (Nat.le_of_ble_eq_true rfl) (fun X O T => ?_)
  refine v_eq (lv' := [(0, .ref vg), (1, .int (nI n))]) rfl rfl rfl rfl ?_
  refine v_aload_n O dX6_setShares_0 0 rfl ?_
  refine v_iload_n O dX6_setShares_1 1 rfl ?_
  refine v_iconst (v := 2) O dX6_setShares_2 (by decide) ?_
  refine v_cS (As := [.int (nI n), .int 2]) (wr := [(vg, .inr (6, [.int (nI sh), .int (nI mo), .int (nI ov), .int (nI nr), .ref io, .ref am, .ref en, .int (nI nl), .ref sp]))]) (st := [.ref vg]) O cf_X6_41 (sp_J9_max_7cf53 (x := (nI n)) (y := 2) ) dX6_setShares_3 rfl rfl [] [0] (by decide) rfl rfl (by decide) (by decide) (by decide) (Nat.le_of_ble_eq_true rfl) (by decide) (by decide) (fun r_2 w_3 h_1 => ?_)
  obtain ⟨rfl, rfl⟩ := h_1
  refine v_eq (st' := [.int (maxJ (nI n) 2), .ref vg]) (ws' := [(vg, .inr (6, [.int (nI sh), .int (nI mo), .int (nI ov), .int (nI nr), .ref io, .ref am, .ref en, .int (nI nl), .ref sp]))]) rfl rfl rfl rfl ?_
  refine v_top (y := nI (max n 2)) (maxJ_2 (by omega)) ?_
  refine pf_X6_9 (fs' := [.int (nI (max n 2)), .int (nI mo), .int (nI ov), .int (nI nr), .ref io, .ref am, .ref en, .int (nI nl), .ref sp]) (ws' := [(vg, .inr (6, [.int (nI (max n 2)), .int (nI mo), .int (nI ov), .int (nI nr), .ref io, .ref am, .ref en, .int (nI nl), .ref sp]))]) O rfl dX6_setShares_6 0 rfl (Nat.le_of_ble_eq_true rfl) rfl rfl ?_
  exact v_return O T rfl (by decide) (by decide) dX6_setShares_9 (⟨rfl, rfl⟩)
set_option maxRecDepth 100000 in
set_option maxHeartbeats 4000000 in
theorem sp_X6_addStep {D : G} {vg : Nat} {sh : Nat} {mo : Nat} {ov : Nat} {nr : Nat} {io : Nat} {am : Nat} {en : Nat} {nl : Nat} {sp : Nat} {fs : Nat → Int32} {b : Int32} (hn : nl < 100) : Sp D mX6_addStep 0 0 0 [.ref vg, .int b] [(vg, .inr (6, [.int (nI sh), .int (nI mo), .int (nI ov), .int (nI nr), .ref io, .ref am, .ref en, .int (nI nl), .ref sp])), (sp, eI D 100 fs)] (fun r w => r = none ∧ w = [(vg, .inr (6, [.int (nI sh), .int (nI mo), .int (nI ov), .int (nI nr), .ref io, .ref am, .ref en, .int (nI (nl + 1)), .ref sp])), (sp, eI D 100 (upd fs nl b))]) := by
  refine Sp.of (by decide) (Nat.le_of_ble_eq_true rfl) (fun X O T => ?_)
  refine v_eq (lv' := [(0, .ref vg), (1, .int b)]) rfl rfl rfl rfl ?_
  refine v_aload_n O dX6_addStep_0 0 rfl ?_
  refine gf_X6_35 O rfl dX6_addStep_1 0 rfl rfl ?_
  refine v_if_lt O 39 dX6_addStep_4 (by decide) (fun c_1 => ?_) (fun c_1 => ?_)
  · skip
    have c_1 := (c_lt (x := nI nl) (y := 0) (a := nl) (b := 0) rfl rfl (by omega) (by omega)).mp c_1
    exact absurd c_1 (by omega)
  · skip
    have c_1 := (not_congr (c_lt (x := nI nl) (y := 0) (a := nl) (b := 0) rfl rfl (by omega) (by omega))).mp c_1
    refine v_aload_n O dX6_addStep_7 0 rfl ?_
    refine gf_X6_35 O rfl dX6_addStep_8 0 rfl rfl ?_
    refine v_aload_n O dX6_addStep_11 0 rfl ?_
    refine gf_X6_38 O rfl dX6_addStep_12 0 rfl rfl ?_
    refine v_alenI O dX6_addStep_15 1 rfl ?_
    refine v_icmp_ge O 39 dX6_addStep_16 (by decide) (fun z1 => ?_) (fun z1 => ?_)
    · skip
      have z1 := (c_le' (x := nI nl) (y := nI 100) (a := nl) (b := 100) rfl rfl (by omega) (by omega)).mp z1
      exact absurd z1 (by omega)
    · skip
      have z1 := (not_congr (c_le' (x := nI nl) (y := nI 100) (a := nl) (b := 100) rfl rfl (by omega) (by omega))).mp z1
      refine v_aload_n O dX6_addStep_19 0 rfl ?_
      refine gf_X6_38 O rfl dX6_addStep_20 0 rfl rfl ?_
      refine v_aload_n O dX6_addStep_23 0 rfl ?_
      refine gf_X6_35 O rfl dX6_addStep_24 0 rfl rfl ?_
      refine v_iload_n O dX6_addStep_27 1 rfl ?_
      refine v_iastk (ws' := [(vg, .inr (6, [.int (nI sh), .int (nI mo), .int (nI ov), .int (nI nr), .ref io, .ref am, .ref en, .int (nI nl), .ref sp])), (sp, eI D 100 (upd fs nl b))]) O dX6_addStep_28 1 rfl nl (rfl) (by omega) (by decide) (rfl) ?_
      refine v_aload_n O dX6_addStep_29 0 rfl ?_
      refine v_dup O dX6_addStep_30 rfl ?_
      refine gf_X6_35 O rfl dX6_addStep_31 0 rfl rfl ?_
      refine v_iconst (v := 1) O dX6_addStep_34 (by decide) ?_
      refine v_iadd O dX6_addStep_35 ?_
      refine v_top (y := nI (nl + 1)) (nI_add nl 1) ?_
      refine pf_X6_35 (fs' := [.int (nI sh), .int (nI mo), .int (nI ov), .int (nI nr), .ref io, .ref am, .ref en, .int (nI (nl + 1)), .ref sp]) (ws' := [(vg, .inr (6, [.int (nI sh), .int (nI mo), .int (nI ov), .int (nI nr), .ref io, .ref am, .ref en, .int (nI (nl + 1)), .ref sp])), (sp, eI D 100 (upd fs nl b))]) O rfl dX6_addStep_36 0 rfl (Nat.le_of_ble_eq_true rfl) rfl rfl ?_
      exact v_return O T rfl (by decide) (by decide) dX6_addStep_39 (⟨rfl, rfl⟩)
set_option maxRecDepth 100000 in
set_option maxHeartbeats 4000000 in
theorem sp_X6_addRule0 {D : G} {vg : Nat} {sh : Nat} {mo : Nat} {ov : Nat} {nr : Nat} {io : Nat} {am : Nat} {en : Nat} {nl : Nat} {sp : Nat} {fo : Nat → Int32} {fa : Nat → Int32} {fe : Nat → Int32} {n : Nat} (hn : nr < 10) (hov : ov ≤ 10) : Sp D mX6_addRule 0 0 0 [.ref vg, .int 0, .int (nI n)] [(vg, .inr (6, [.int (nI sh), .int (nI mo), .int (nI ov), .int (nI nr), .ref io, .ref am, .ref en, .int (nI nl), .ref sp])), (io, eZ D 10 fo), (am, eI D 10 fa), (en, eI D 10 fe)] (fun r w => r = none ∧ w = [(vg, .inr (6, [.int (nI sh), .int (nI mo), .int (nI ov), .int (nI (nr + 1)), .ref io, .ref am, .ref en, .int (nI nl), .ref sp])), (io, eZ D 10 (upd fo nr 0)), (am, eI D 10 (upd fa nr (nI n))), (en, eI D 10 (upd fe nr (nI nl)))]) := by
  refine Sp.of (by decide) (Nat.le_of_ble_eq_true rfl) (fun X O T => ?_)
  refine v_eq (lv' := [(0, .ref vg), (1, .int 0), (2, .int (nI n))]) rfl rfl rfl rfl ?_
  refine v_aload_n O dX6_addRule_0 0 rfl ?_
  refine gf_X6_21 O rfl dX6_addRule_1 0 rfl rfl ?_
  refine v_if_lt O 16 dX6_addRule_4 (by decide) (fun c_1 => ?_) (fun c_1 => ?_)
  · skip
    have c_1 := (c_lt (x := nI nr) (y := 0) (a := nr) (b := 0) rfl rfl (by omega) (by omega)).mp c_1
    exact absurd c_1 (by omega)
  · skip
    have c_1 := (not_congr (c_lt (x := nI nr) (y := 0) (a := nr) (b := 0) rfl rfl (by omega) (by omega))).mp c_1
    refine v_aload_n O dX6_addRule_7 0 rfl ?_
    refine gf_X6_21 O rfl dX6_addRule_8 0 rfl rfl ?_
    refine v_bipush (v := 10) O dX6_addRule_11 (by decide) ?_
    refine v_icmp_lt O 17 dX6_addRule_13 (by decide) (fun z1 => ?_) (fun z1 => ?_)
    · skip
      have z1 := (c_lt (x := nI nr) (y := 10) (a := nr) (b := 10) rfl rfl (by omega) (by omega)).mp z1
      refine v_aload_n O dX6_addRule_17 0 rfl ?_
      refine gf_X6_24 O rfl dX6_addRule_18 0 rfl rfl ?_
      refine v_aload_n O dX6_addRule_21 0 rfl ?_
      refine gf_X6_21 O rfl dX6_addRule_22 0 rfl rfl ?_
      refine v_iload_n O dX6_addRule_25 1 rfl ?_
      refine v_zastk (ws' := [(vg, .inr (6, [.int (nI sh), .int (nI mo), .int (nI ov), .int (nI nr), .ref io, .ref am, .ref en, .int (nI nl), .ref sp])), (io, eZ D 10 (upd fo nr 0)), (am, eI D 10 fa), (en, eI D 10 fe)]) O dX6_addRule_26 1 rfl nr (rfl) (by omega) (by decide) (rfl) ?_
      refine v_aload_n O dX6_addRule_27 0 rfl ?_
      refine gf_X6_28 O rfl dX6_addRule_28 0 rfl rfl ?_
      refine v_aload_n O dX6_addRule_31 0 rfl ?_
      refine gf_X6_21 O rfl dX6_addRule_32 0 rfl rfl ?_
      refine v_iload_n O dX6_addRule_35 2 rfl ?_
      refine v_iastk (ws' := [(vg, .inr (6, [.int (nI sh), .int (nI mo), .int (nI ov), .int (nI nr), .ref io, .ref am, .ref en, .int (nI nl), .ref sp])), (io, eZ D 10 (upd fo nr 0)), (am, eI D 10 (upd fa nr (nI n))), (en, eI D 10 fe)]) O dX6_addRule_36 2 rfl nr (rfl) (by omega) (by decide) (rfl) ?_
      refine v_aload_n O dX6_addRule_37 0 rfl ?_
      refine gf_X6_32 O rfl dX6_addRule_38 0 rfl rfl ?_
      refine v_aload_n O dX6_addRule_41 0 rfl ?_
      refine gf_X6_21 O rfl dX6_addRule_42 0 rfl rfl ?_
      refine v_aload_n O dX6_addRule_45 0 rfl ?_
      refine gf_X6_35 O rfl dX6_addRule_46 0 rfl rfl ?_
      refine v_iastk (ws' := [(vg, .inr (6, [.int (nI sh), .int (nI mo), .int (nI ov), .int (nI nr), .ref io, .ref am, .ref en, .int (nI nl), .ref sp])), (io, eZ D 10 (upd fo nr 0)), (am, eI D 10 (upd fa nr (nI n))), (en, eI D 10 (upd fe nr (nI nl)))]) O dX6_addRule_49 3 rfl nr (rfl) (by omega) (by decide) (rfl) ?_
      refine v_aload_n O dX6_addRule_50 0 rfl ?_
      refine v_dup O dX6_addRule_51 rfl ?_
      refine gf_X6_21 O rfl dX6_addRule_52 0 rfl rfl ?_
      refine v_iconst (v := 1) O dX6_addRule_55 (by decide) ?_
      refine v_iadd O dX6_addRule_56 ?_
      refine v_top (y := nI (nr + 1)) (nI_add nr 1) ?_
      refine pf_X6_21 (fs' := [.int (nI sh), .int (nI mo), .int (nI ov), .int (nI (nr + 1)), .ref io, .ref am, .ref en, .int (nI nl), .ref sp]) (ws' := [(vg, .inr (6, [.int (nI sh), .int (nI mo), .int (nI ov), .int (nI (nr + 1)), .ref io, .ref am, .ref en, .int (nI nl), .ref sp])), (io, eZ D 10 (upd fo nr 0)), (am, eI D 10 (upd fa nr (nI n))), (en, eI D 10 (upd fe nr (nI nl)))]) O rfl dX6_addRule_57 0 rfl (Nat.le_of_ble_eq_true rfl) rfl rfl ?_
      refine v_iload_n O dX6_addRule_60 1 rfl ?_
      refine v_if_eq O 74 dX6_addRule_61 (by decide) (fun _ => ?_) (fun c => absurd c (by decide))
      exact v_return O T rfl (by decide) (by decide) dX6_addRule_74 (⟨rfl, rfl⟩)
    · skip
      have z1 := (not_congr (c_lt (x := nI nr) (y := 10) (a := nr) (b := 10) rfl rfl (by omega) (by omega))).mp z1
      exact absurd z1 (by omega)
set_option maxRecDepth 100000 in
set_option maxHeartbeats 4000000 in
theorem sp_X6_addRule1 {D : G} {vg : Nat} {sh : Nat} {mo : Nat} {ov : Nat} {nr : Nat} {io : Nat} {am : Nat} {en : Nat} {nl : Nat} {sp : Nat} {fo : Nat → Int32} {fa : Nat → Int32} {fe : Nat → Int32} {n : Nat} (hn : nr < 10) (hov : ov ≤ 10) : Sp D mX6_addRule 0 0 0 [.ref vg, .int 1, .int (nI n)] [(vg, .inr (6, [.int (nI sh), .int (nI mo), .int (nI ov), .int (nI nr), .ref io, .ref am, .ref en, .int (nI nl), .ref sp])), (io, eZ D 10 fo), (am, eI D 10 fa), (en, eI D 10 fe)] (fun r w => r = none ∧ w = [(vg, .inr (6, [.int (nI sh), .int (nI mo), .int (nI (ov + 1)), .int (nI (nr + 1)), .ref io, .ref am, .ref en, .int (nI nl), .ref sp])), (io, eZ D 10 (upd fo nr 1)), (am, eI D 10 (upd fa nr (nI n))), (en, eI D 10 (upd fe nr (nI nl)))]) := by
  refine Sp.of (by decide) (Nat.le_of_ble_eq_true rfl) (fun X O T => ?_)
  refine v_eq (lv' := [(0, .ref vg), (1, .int 1), (2, .int (nI n))]) rfl rfl rfl rfl ?_
  refine v_aload_n O dX6_addRule_0 0 rfl ?_
  refine gf_X6_21 O rfl dX6_addRule_1 0 rfl rfl ?_
  refine v_if_lt O 16 dX6_addRule_4 (by decide) (fun c_1 => ?_) (fun c_1 => ?_)
  · skip
    have c_1 := (c_lt (x := nI nr) (y := 0) (a := nr) (b := 0) rfl rfl (by omega) (by omega)).mp c_1
    exact absurd c_1 (by omega)
  · skip
    have c_1 := (not_congr (c_lt (x := nI nr) (y := 0) (a := nr) (b := 0) rfl rfl (by omega) (by omega))).mp c_1
    refine v_aload_n O dX6_addRule_7 0 rfl ?_
    refine gf_X6_21 O rfl dX6_addRule_8 0 rfl rfl ?_
    refine v_bipush (v := 10) O dX6_addRule_11 (by decide) ?_
    refine v_icmp_lt O 17 dX6_addRule_13 (by decide) (fun z1 => ?_) (fun z1 => ?_)
    · skip
      have z1 := (c_lt (x := nI nr) (y := 10) (a := nr) (b := 10) rfl rfl (by omega) (by omega)).mp z1
      refine v_aload_n O dX6_addRule_17 0 rfl ?_
      refine gf_X6_24 O rfl dX6_addRule_18 0 rfl rfl ?_
      refine v_aload_n O dX6_addRule_21 0 rfl ?_
      refine gf_X6_21 O rfl dX6_addRule_22 0 rfl rfl ?_
      refine v_iload_n O dX6_addRule_25 1 rfl ?_
      refine v_zastk (ws' := [(vg, .inr (6, [.int (nI sh), .int (nI mo), .int (nI ov), .int (nI nr), .ref io, .ref am, .ref en, .int (nI nl), .ref sp])), (io, eZ D 10 (upd fo nr 1)), (am, eI D 10 fa), (en, eI D 10 fe)]) O dX6_addRule_26 1 rfl nr (rfl) (by omega) (by decide) (rfl) ?_
      refine v_aload_n O dX6_addRule_27 0 rfl ?_
      refine gf_X6_28 O rfl dX6_addRule_28 0 rfl rfl ?_
      refine v_aload_n O dX6_addRule_31 0 rfl ?_
      refine gf_X6_21 O rfl dX6_addRule_32 0 rfl rfl ?_
      refine v_iload_n O dX6_addRule_35 2 rfl ?_
      refine v_iastk (ws' := [(vg, .inr (6, [.int (nI sh), .int (nI mo), .int (nI ov), .int (nI nr), .ref io, .ref am, .ref en, .int (nI nl), .ref sp])), (io, eZ D 10 (upd fo nr 1)), (am, eI D 10 (upd fa nr (nI n))), (en, eI D 10 fe)]) O dX6_addRule_36 2 rfl nr (rfl) (by omega) (by decide) (rfl) ?_
      refine v_aload_n O dX6_addRule_37 0 rfl ?_
      refine gf_X6_32 O rfl dX6_addRule_38 0 rfl rfl ?_
      refine v_aload_n O dX6_addRule_41 0 rfl ?_
      refine gf_X6_21 O rfl dX6_addRule_42 0 rfl rfl ?_
      refine v_aload_n O dX6_addRule_45 0 rfl ?_
      refine gf_X6_35 O rfl dX6_addRule_46 0 rfl rfl ?_
      refine v_iastk (ws' := [(vg, .inr (6, [.int (nI sh), .int (nI mo), .int (nI ov), .int (nI nr), .ref io, .ref am, .ref en, .int (nI nl), .ref sp])), (io, eZ D 10 (upd fo nr 1)), (am, eI D 10 (upd fa nr (nI n))), (en, eI D 10 (upd fe nr (nI nl)))]) O dX6_addRule_49 3 rfl nr (rfl) (by omega) (by decide) (rfl) ?_
      refine v_aload_n O dX6_addRule_50 0 rfl ?_
      refine v_dup O dX6_addRule_51 rfl ?_
      refine gf_X6_21 O rfl dX6_addRule_52 0 rfl rfl ?_
      refine v_iconst (v := 1) O dX6_addRule_55 (by decide) ?_
      refine v_iadd O dX6_addRule_56 ?_
      refine v_top (y := nI (nr + 1)) (nI_add nr 1) ?_
      refine pf_X6_21 (fs' := [.int (nI sh), .int (nI mo), .int (nI ov), .int (nI (nr + 1)), .ref io, .ref am, .ref en, .int (nI nl), .ref sp]) (ws' := [(vg, .inr (6, [.int (nI sh), .int (nI mo), .int (nI ov), .int (nI (nr + 1)), .ref io, .ref am, .ref en, .int (nI nl), .ref sp])), (io, eZ D 10 (upd fo nr 1)), (am, eI D 10 (upd fa nr (nI n))), (en, eI D 10 (upd fe nr (nI nl)))]) O rfl dX6_addRule_57 0 rfl (Nat.le_of_ble_eq_true rfl) rfl rfl ?_
      refine v_iload_n O dX6_addRule_60 1 rfl ?_
      refine v_if_eq O 74 dX6_addRule_61 (by decide) (fun c => absurd c (by decide)) (fun _ => ?_)
      refine v_aload_n O dX6_addRule_64 0 rfl ?_
      refine v_dup O dX6_addRule_65 rfl ?_
      refine gf_X6_18 O rfl dX6_addRule_66 0 rfl rfl ?_
      refine v_iconst (v := 1) O dX6_addRule_69 (by decide) ?_
      refine v_iadd O dX6_addRule_70 ?_
      refine v_top (y := nI (ov + 1)) (nI_add ov 1) ?_
      refine pf_X6_18 (fs' := [.int (nI sh), .int (nI mo), .int (nI (ov + 1)), .int (nI (nr + 1)), .ref io, .ref am, .ref en, .int (nI nl), .ref sp]) (ws' := [(vg, .inr (6, [.int (nI sh), .int (nI mo), .int (nI (ov + 1)), .int (nI (nr + 1)), .ref io, .ref am, .ref en, .int (nI nl), .ref sp])), (io, eZ D 10 (upd fo nr 1)), (am, eI D 10 (upd fa nr (nI n))), (en, eI D 10 (upd fe nr (nI nl)))]) O rfl dX6_addRule_71 0 rfl (Nat.le_of_ble_eq_true rfl) rfl rfl ?_
      exact v_return O T rfl (by decide) (by decide) dX6_addRule_74 (⟨rfl, rfl⟩)
    · skip
      have z1 := (not_congr (c_lt (x := nI nr) (y := 10) (a := nr) (b := 10) rfl rfl (by omega) (by omega))).mp z1
      exact absurd z1 (by omega)
