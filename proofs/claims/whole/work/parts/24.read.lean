-- OneForDog$VillageText: clauses, the whole text
abbrev VS := Nat × Nat × Nat × Nat × Nat × (Nat → Int32) × (Nat → Int32) × (Nat → Int32) × (Nat → Int32)
def VS.sh (v : VS) : Nat := v.1
def VS.mo (v : VS) : Nat := v.2.1
def VS.ov (v : VS) : Nat := v.2.2.1
def VS.nr (v : VS) : Nat := v.2.2.2.1
def VS.nl (v : VS) : Nat := v.2.2.2.2.1
def VS.fo (v : VS) : Nat → Int32 := v.2.2.2.2.2.1
def VS.fa (v : VS) : Nat → Int32 := v.2.2.2.2.2.2.1
def VS.fe (v : VS) : Nat → Int32 := v.2.2.2.2.2.2.2.1
def VS.fs (v : VS) : Nat → Int32 := v.2.2.2.2.2.2.2.2
def v0 (v : VS) : VS := (3, 1, 0, 0, 0, v.fo, v.fa, v.fe, v.fs)
def vSh (v : VS) (n : Nat) : VS := (max n 2, v.mo, v.ov, v.nr, v.nl, v.fo, v.fa, v.fe, v.fs)
def vMo (v : VS) (n : Nat) : VS := (v.sh, n, v.ov, v.nr, v.nl, v.fo, v.fa, v.fe, v.fs)
def vSt (v : VS) (l : List Int32) : VS := (v.sh, v.mo, v.ov, v.nr, v.nl + l.length, v.fo, v.fa, v.fe, wr v.fs v.nl l)
def vRo (v : VS) (n : Nat) : VS := (v.sh, v.mo, v.ov + 1, v.nr + 1, v.nl, upd v.fo v.nr 1, upd v.fa v.nr (nI n), upd v.fe v.nr (nI v.nl), v.fs)
def vRb (v : VS) (n : Nat) : VS := (v.sh, v.mo, v.ov, v.nr + 1, v.nl, upd v.fo v.nr 0, upd v.fa v.nr (nI n), upd v.fe v.nr (nI v.nl), v.fs)
def wrdP (sg : Nat → Int32) (p : Nat) : Nat × Int32 :=
  if sg p = 98 then ((spl sg [98, 97, 99, 107, 32] p).1, if (spl sg [98, 97, 99, 107, 32] p).2 = true then 3 else -1)
  else if sg p = 109 then (if sg (p + 1) = 111 then ((spl sg [111, 114, 110, 105, 110, 103, 32] (p + 1)).1, if (spl sg [111, 114, 110, 105, 110, 103, 32] (p + 1)).2 = true then 1 else -1) else ((spl sg [101, 110, 32] (p + 1)).1, if (spl sg [101, 110, 32] (p + 1)).2 = true then 0 else -1))
  else if sg p = 111 then ((spl sg [111, 118, 101, 114, 32] p).1, if (spl sg [111, 118, 101, 114, 32] p).2 = true then 2 else -1)
  else (p, -1)
theorem wrd_le {tb : Nat → Int32} {ln p : Nat} (hp : p ≤ ln) : p ≤ (wrdP (sgT tb ln) p).1 ∧ (wrdP (sgT tb ln) p).1 ≤ ln := by
  unfold wrdP
  split
  · exact spl_le (by decide) hp
  · split
    · rename_i z
      have h1 := sgT_lt z (by decide)
      split
      · have := spl_le (tb := tb) (ln := ln) (w := [111, 114, 110, 105, 110, 103, 32]) (p := p + 1) (by decide) h1
        exact ⟨by show p ≤ (spl (sgT tb ln) _ (p + 1)).1; omega, this.2⟩
      · have := spl_le (tb := tb) (ln := ln) (w := [101, 110, 32]) (p := p + 1) (by decide) h1
        exact ⟨by show p ≤ (spl (sgT tb ln) _ (p + 1)).1; omega, this.2⟩
    · split
      · exact spl_le (by decide) hp
      · exact ⟨Nat.le_refl _, hp⟩
-- a condition from p on
noncomputable def conP (sg : Nat → Int32) (p : Nat) : Res := eitP (facP sg 4) sg p
noncomputable def clsP (sg : Nat → Int32) (p : Nat) (v : VS) : Nat × Bool × VS :=
  if (wrdP sg p).2 = -1 ∨ ¬ isd (sg (wrdP sg p).1) then ((wrdP sg p).1, false, v)
  else if (wrdP sg p).2 = 0 then (numE sg (wrdP sg p).1, true, vSh v (numN sg (wrdP sg p).1))
  else if (wrdP sg p).2 = 1 then (numE sg (wrdP sg p).1, true, vMo v (numN sg (wrdP sg p).1))
  else if (spl sg [32] (numE sg (wrdP sg p).1)).2 = true then
    (if (conP sg (spl sg [32] (numE sg (wrdP sg p).1)).1).2.1 = true then
      ((conP sg (spl sg [32] (numE sg (wrdP sg p).1)).1).1, true, if (wrdP sg p).2 = 2 then vRo (vSt v (conP sg (spl sg [32] (numE sg (wrdP sg p).1)).1).2.2) (numN sg (wrdP sg p).1) else vRb (vSt v (conP sg (spl sg [32] (numE sg (wrdP sg p).1)).1).2.2) (numN sg (wrdP sg p).1))
    else ((conP sg (spl sg [32] (numE sg (wrdP sg p).1)).1).1, false, vSt v (conP sg (spl sg [32] (numE sg (wrdP sg p).1)).1).2.2))
  else ((spl sg [32] (numE sg (wrdP sg p).1)).1, false, v)
theorem cls_0 {sg : Nat → Int32} {p : Nat} {v : VS} (h : (wrdP sg p).2 = -1 ∨ ¬ isd (sg (wrdP sg p).1)) : clsP sg p v = ((wrdP sg p).1, false, v) := by unfold clsP; rw [if_pos h]
theorem cls_1 {sg : Nat → Int32} {p : Nat} {v : VS} (h1 : ¬ (wrdP sg p).2 = -1) (h2 : isd (sg (wrdP sg p).1)) (h : (wrdP sg p).2 = 0) : clsP sg p v = (numE sg (wrdP sg p).1, true, vSh v (numN sg (wrdP sg p).1)) := by unfold clsP; rw [if_neg (fun z => z.elim h1 (fun z => z h2)), if_pos h]
theorem cls_2 {sg : Nat → Int32} {p : Nat} {v : VS} (h1 : ¬ (wrdP sg p).2 = -1) (h2 : isd (sg (wrdP sg p).1)) (h3 : ¬ (wrdP sg p).2 = 0) (h : (wrdP sg p).2 = 1) : clsP sg p v = (numE sg (wrdP sg p).1, true, vMo v (numN sg (wrdP sg p).1)) := by unfold clsP; rw [if_neg (fun z => z.elim h1 (fun z => z h2)), if_neg h3, if_pos h]
theorem cls_3 {sg : Nat → Int32} {p : Nat} {v : VS} (h1 : ¬ (wrdP sg p).2 = -1) (h2 : isd (sg (wrdP sg p).1)) (h3 : ¬ (wrdP sg p).2 = 0) (h4 : ¬ (wrdP sg p).2 = 1) (h : ¬ (spl sg [32] (numE sg (wrdP sg p).1)).2 = true) : clsP sg p v = ((spl sg [32] (numE sg (wrdP sg p).1)).1, false, v) := by unfold clsP; rw [if_neg (fun z => z.elim h1 (fun z => z h2)), if_neg h3, if_neg h4, if_neg h]
theorem cls_4 {sg : Nat → Int32} {p : Nat} {v : VS} (h1 : ¬ (wrdP sg p).2 = -1) (h2 : isd (sg (wrdP sg p).1)) (h3 : ¬ (wrdP sg p).2 = 0) (h4 : ¬ (wrdP sg p).2 = 1) (h5 : (spl sg [32] (numE sg (wrdP sg p).1)).2 = true) (h : ¬ (conP sg (spl sg [32] (numE sg (wrdP sg p).1)).1).2.1 = true) : clsP sg p v = ((conP sg (spl sg [32] (numE sg (wrdP sg p).1)).1).1, false, vSt v (conP sg (spl sg [32] (numE sg (wrdP sg p).1)).1).2.2) := by unfold clsP; rw [if_neg (fun z => z.elim h1 (fun z => z h2)), if_neg h3, if_neg h4, if_pos h5, if_neg h]
theorem cls_5 {sg : Nat → Int32} {p : Nat} {v : VS} (h1 : ¬ (wrdP sg p).2 = -1) (h2 : isd (sg (wrdP sg p).1)) (h3 : ¬ (wrdP sg p).2 = 0) (h4 : ¬ (wrdP sg p).2 = 1) (h5 : (spl sg [32] (numE sg (wrdP sg p).1)).2 = true) (h : (conP sg (spl sg [32] (numE sg (wrdP sg p).1)).1).2.1 = true) (h6 : (wrdP sg p).2 = 2) : clsP sg p v = ((conP sg (spl sg [32] (numE sg (wrdP sg p).1)).1).1, true, vRo (vSt v (conP sg (spl sg [32] (numE sg (wrdP sg p).1)).1).2.2) (numN sg (wrdP sg p).1)) := by unfold clsP; rw [if_neg (fun z => z.elim h1 (fun z => z h2)), if_neg h3, if_neg h4, if_pos h5, if_pos h, if_pos h6]
theorem cls_6 {sg : Nat → Int32} {p : Nat} {v : VS} (h1 : ¬ (wrdP sg p).2 = -1) (h2 : isd (sg (wrdP sg p).1)) (h3 : ¬ (wrdP sg p).2 = 0) (h4 : ¬ (wrdP sg p).2 = 1) (h5 : (spl sg [32] (numE sg (wrdP sg p).1)).2 = true) (h : (conP sg (spl sg [32] (numE sg (wrdP sg p).1)).1).2.1 = true) (h6 : ¬ (wrdP sg p).2 = 2) : clsP sg p v = ((conP sg (spl sg [32] (numE sg (wrdP sg p).1)).1).1, true, vRb (vSt v (conP sg (spl sg [32] (numE sg (wrdP sg p).1)).1).2.2) (numN sg (wrdP sg p).1)) := by unfold clsP; rw [if_neg (fun z => z.elim h1 (fun z => z h2)), if_neg h3, if_neg h4, if_pos h5, if_pos h, if_neg h6]
theorem con_ok {tb : Nat → Int32} {ln : Nat} : gOk (conP (sgT tb ln)) ln := eit_ok (fac_ok 4)
-- a village that can be asked
def VOk (v : VS) : Prop := v.ov ≤ v.nr ∧ 2 ≤ v.sh ∧ v.sh ≤ 99 ∧ v.mo ≤ 99 ∧ (∀ r, r < v.nr → v.fe r = nI (v.fe r).toNatClampNeg ∧ (v.fe r).toNatClampNeg ≤ 100) ∧ (∀ r, r < v.nr → v.fa r = nI (v.fa r).toNatClampNeg ∧ (v.fa r).toNatClampNeg ≤ 99)
theorem vok_up {f : Nat → Int32} {n k : Nat} {c : Nat} (hk : k ≤ c) (hc : c < 1000) (h : ∀ r, r < n → f r = nI (f r).toNatClampNeg ∧ (f r).toNatClampNeg ≤ c) : ∀ r, r < n + 1 → upd f n (nI k) r = nI (upd f n (nI k) r).toNatClampNeg ∧ (upd f n (nI k) r).toNatClampNeg ≤ c := fun r hr => by
  by_cases z : r = n
  · rw [show upd f n (nI k) r = nI k by unfold upd; rw [if_pos z], nI_clamp (by omega)]; exact ⟨rfl, hk⟩
  · rw [show upd f n (nI k) r = f r by unfold upd; rw [if_neg z]]; exact h r (by omega)
theorem vok_0 {v : VS} : VOk (v0 v) := ⟨Nat.le_refl _, (by decide : 2 ≤ 3), (by decide : 3 ≤ 99), (by decide : 1 ≤ 99), fun r hr => absurd hr (Nat.not_lt_zero r), fun r hr => absurd hr (Nat.not_lt_zero r)⟩
theorem vok_sh {v : VS} {n : Nat} (h : VOk v) (hn : n ≤ 99) : VOk (vSh v n) := ⟨h.1, by show 2 ≤ max n 2; omega, by show max n 2 ≤ 99; omega, h.2.2.2.1, h.2.2.2.2.1, h.2.2.2.2.2⟩
theorem vok_mo {v : VS} {n : Nat} (h : VOk v) (hn : n ≤ 99) : VOk (vMo v n) := ⟨h.1, h.2.1, h.2.2.1, hn, h.2.2.2.2.1, h.2.2.2.2.2⟩
theorem vok_st {v : VS} {l : List Int32} (h : VOk v) : VOk (vSt v l) := h
theorem vok_ro {v : VS} {n : Nat} (h : VOk v) (hn : n ≤ 99) (hl : v.nl ≤ 100) : VOk (vRo v n) := ⟨Nat.succ_le_succ h.1, h.2.1, h.2.2.1, h.2.2.2.1, vok_up hl (by omega) h.2.2.2.2.1, vok_up hn (by omega) h.2.2.2.2.2⟩
theorem vok_rb {v : VS} {n : Nat} (h : VOk v) (hn : n ≤ 99) (hl : v.nl ≤ 100) : VOk (vRb v n) := ⟨Nat.le_succ_of_le h.1, h.2.1, h.2.2.1, h.2.2.2.1, vok_up hl (by omega) h.2.2.2.2.1, vok_up hn (by omega) h.2.2.2.2.2⟩
theorem cls_ok {tb : Nat → Int32} {ln p : Nat} {v : VS} (hln : ln ≤ 100) (hp : p ≤ ln) (hv : VOk v) (hl : v.nl ≤ p) : p ≤ (clsP (sgT tb ln) p v).1 ∧ (clsP (sgT tb ln) p v).1 ≤ ln ∧ (clsP (sgT tb ln) p v).2.2.nl ≤ (clsP (sgT tb ln) p v).1 ∧ (clsP (sgT tb ln) p v).2.2.nr ≤ v.nr + 1 ∧ VOk (clsP (sgT tb ln) p v).2.2 := by
  have h1 := wrd_le (tb := tb) hp
  by_cases c0 : (wrdP (sgT tb ln) p).2 = -1 ∨ ¬ isd (sgT tb ln (wrdP (sgT tb ln) p).1)
  · rw [cls_0 c0]; exact ⟨h1.1, h1.2, by show v.nl ≤ (wrdP _ _).1; omega, Nat.le_succ _, hv⟩
  · have c1 : ¬ (wrdP (sgT tb ln) p).2 = -1 := fun z => c0 (Or.inl z)
    have c2 : isd (sgT tb ln (wrdP (sgT tb ln) p).1) := Classical.not_not.mp (fun z => c0 (Or.inr z))
    have h2 := numE_le c2
    have h3 := numN_le c2
    by_cases c3 : (wrdP (sgT tb ln) p).2 = 0
    · rw [cls_1 c1 c2 c3]; exact ⟨by show p ≤ numE _ _; omega, h2.2, by show v.nl ≤ numE _ _; omega, Nat.le_succ _, vok_sh hv h3⟩
    · by_cases c4 : (wrdP (sgT tb ln) p).2 = 1
      · rw [cls_2 c1 c2 c3 c4]; exact ⟨by show p ≤ numE _ _; omega, h2.2, by show v.nl ≤ numE _ _; omega, Nat.le_succ _, vok_mo hv h3⟩
      · have h4 := spl_le (tb := tb) (ln := ln) (w := [32]) (p := numE (sgT tb ln) (wrdP (sgT tb ln) p).1) (by decide) h2.2
        by_cases c5 : (spl (sgT tb ln) [32] (numE (sgT tb ln) (wrdP (sgT tb ln) p).1)).2 = true
        · have h5 := con_ok (tb := tb) _ h4.2
          by_cases c6 : (conP (sgT tb ln) (spl (sgT tb ln) [32] (numE (sgT tb ln) (wrdP (sgT tb ln) p).1)).1).2.1 = true
          · have h6 : (vSt v (conP (sgT tb ln) (spl (sgT tb ln) [32] (numE (sgT tb ln) (wrdP (sgT tb ln) p).1)).1).2.2).nl ≤ (conP (sgT tb ln) (spl (sgT tb ln) [32] (numE (sgT tb ln) (wrdP (sgT tb ln) p).1)).1).1 := by show v.nl + _ ≤ _; omega
            by_cases c7 : (wrdP (sgT tb ln) p).2 = 2
            · rw [cls_5 c1 c2 c3 c4 c5 c6 c7]; exact ⟨by show p ≤ (conP _ _).1; omega, h5.2, h6, Nat.le_refl _, vok_ro (vok_st hv) h3 (by omega)⟩
            · rw [cls_6 c1 c2 c3 c4 c5 c6 c7]; exact ⟨by show p ≤ (conP _ _).1; omega, h5.2, h6, Nat.le_refl _, vok_rb (vok_st hv) h3 (by omega)⟩
          · rw [cls_4 c1 c2 c3 c4 c5 c6]; exact ⟨by show p ≤ (conP _ _).1; omega, h5.2, by show v.nl + _ ≤ (conP _ _).1; omega, Nat.le_succ _, vok_st hv⟩
        · rw [cls_3 c1 c2 c3 c4 c5]; exact ⟨by show p ≤ (spl _ _ _).1; omega, h4.2, by show v.nl ≤ (spl _ _ _).1; omega, Nat.le_succ _, hv⟩
noncomputable def rdL (sg : Nat → Int32) : Nat → Nat × Bool × VS → Nat × Bool × VS
  | 0, r => r
  | t + 1, r => if r.2.1 = true ∧ sg r.1 = 59 then rdL sg t (clsP sg (r.1 + 1) r.2.2) else r
theorem rdL_n {sg : Nat → Int32} {t : Nat} {r : Nat × Bool × VS} (h : ¬ (r.2.1 = true ∧ sg r.1 = 59)) : rdL sg t r = r := by
  cases t with
  | zero => rfl
  | succ t => rw [rdL, if_neg h]
theorem rdL_s {sg : Nat → Int32} {t : Nat} {r : Nat × Bool × VS} (h : r.2.1 = true ∧ sg r.1 = 59) : rdL sg (t + 1) r = rdL sg t (clsP sg (r.1 + 1) r.2.2) := by rw [rdL, if_pos h]
noncomputable def redP (sg : Nat → Int32) (v : VS) : Nat × Bool × VS := rdL sg 9 (clsP sg 0 (v0 v))
noncomputable def fltP (sg : Nat → Int32) (r : Nat × Bool × VS) : Int32 := if r.2.1 = true ∧ sg r.1 = -1 then -1 else nI r.1
theorem rdL_ok {tb : Nat → Int32} {ln : Nat} (hln : ln ≤ 100) : ∀ {t k : Nat} {r : Nat × Bool × VS}, r.1 ≤ ln ∧ r.2.2.nl ≤ r.1 ∧ r.2.2.nr ≤ k ∧ VOk r.2.2 → (rdL (sgT tb ln) t r).1 ≤ ln ∧ (rdL (sgT tb ln) t r).2.2.nl ≤ (rdL (sgT tb ln) t r).1 ∧ (rdL (sgT tb ln) t r).2.2.nr ≤ k + t ∧ VOk (rdL (sgT tb ln) t r).2.2
  | 0, k, r, h => h
  | t + 1, k, r, h => by
    by_cases z : r.2.1 = true ∧ sgT tb ln r.1 = 59
    · rw [rdL_s z]
      have h1 := sgT_lt z.2 (by decide)
      have h2 := cls_ok (tb := tb) hln (show r.1 + 1 ≤ ln from h1) h.2.2.2 (by omega)
      have := rdL_ok (tb := tb) hln (t := t) (k := k + 1) (r := clsP (sgT tb ln) (r.1 + 1) r.2.2) ⟨h2.2.1, h2.2.2.1, by omega, h2.2.2.2.2⟩
      exact ⟨this.1, this.2.1, by omega, this.2.2.2⟩
    · rw [rdL_n z]; exact ⟨h.1, h.2.1, by omega, h.2.2.2⟩
theorem red_ok {tb : Nat → Int32} {ln : Nat} {v : VS} (hln : ln ≤ 100) : (redP (sgT tb ln) v).1 ≤ ln ∧ (redP (sgT tb ln) v).2.2.nl ≤ (redP (sgT tb ln) v).1 ∧ (redP (sgT tb ln) v).2.2.nr ≤ 10 ∧ VOk (redP (sgT tb ln) v).2.2 := by
  have h2 := cls_ok (tb := tb) hln (Nat.zero_le ln) (vok_0 (v := v)) (Nat.le_refl _)
  exact rdL_ok hln (t := 9) (k := 1) ⟨h2.2.1, h2.2.2.1, h2.2.2.2.1, h2.2.2.2.2⟩
set_option maxRecDepth 100000 in
set_option maxHeartbeats 4000000 in
theorem sp_X7_word {D : G} {txo : Nat} {tsg : Nat} {ln : Nat} {tb : Nat → Int32} {p : Nat} (hln : ln ≤ 100) (hp : p ≤ ln) : Sp D mX7_word 5 0 0 [.ref txo] [(txo, .inr (7, [.ref tsg, .int (nI ln), .int (nI p), .int ((sgT tb ln) p)])), (tsg, eB D 100 tb)] (fun r w => r = some (.int ((wrdP (sgT tb ln) p).2)) ∧ w = [(txo, .inr (7, [.ref tsg, .int (nI ln), .int (nI ((wrdP (sgT tb ln) p).1)), .int ((sgT tb ln) ((wrdP (sgT tb ln) p).1))])), (tsg, eB D 100 tb)]) := by
  refine Sp.of (by decide) (Nat.le_of_ble_eq_true rfl) (fun X O T => ?_)
  refine v_eq (lv' := [(0, .ref txo)]) rfl rfl rfl rfl ?_
  refine v_aload_n O dX7_word_0 0 rfl ?_
  refine gf_X7_22 O rfl dX7_word_1 0 rfl rfl ?_
  by_cases s_1 : (sgT tb ln) p = 98
  · skip
    refine v_top s_1 ?_
    refine v_lks (off := 51) O 55 dX7_word_4 (by decide) (by decide) (by decide) ?_
    have z_98 := s_1
    refine v_aload_n O dX7_word_55 0 rfl ?_
    refine v_ldcS O 1 (by decide) rfl dX7_word_56 ?_
    refine v_cV (T := TX7) (ci := 7) (As := [.ref (D.2.2 (10 + 1))]) (wr := []) (st := []) O cf_X7_53 rfl (sp_X7_spells_1 (txo := txo) (tsg := tsg) (ln := ln) (tb := tb) (p := p) (hln) (hp)) dX7_word_58 rfl rfl 0 rfl [0, 1] [] (by decide) rfl rfl (by decide) (by decide) (by decide) (Nat.le_of_ble_eq_true rfl) (by decide) (by decide) (fun r_3 w_4 h_2 => ?_)
    obtain ⟨rfl, rfl⟩ := h_2
    refine v_eq (st' := [.int (b2i ((spl (sgT tb ln) [98, 97, 99, 107, 32] p).2 = true))]) (ws' := [(txo, .inr (7, [.ref tsg, .int (nI ln), .int (nI ((spl (sgT tb ln) [98, 97, 99, 107, 32] p).1)), .int ((sgT tb ln) ((spl (sgT tb ln) [98, 97, 99, 107, 32] p).1))])), (tsg, eB D 100 tb)]) rfl rfl rfl rfl ?_
    refine v_if_eq O 68 dX7_word_61 (by decide) (fun z5 => ?_) (fun z5 => ?_)
    · skip
      have z5 := b2i_0.mp z5
      refine v_iconst (v := -1) O dX7_word_68 (by decide) ?_
      exact v_ireturn O T rfl rfl (by decide) (by decide) dX7_word_69 (⟨by unfold wrdP; rw [if_pos z_98]; show _ = some (Value.int (if _ then _ else _)); rw [if_neg z5], by unfold wrdP; rw [if_pos z_98]⟩)
    · skip
      have z5 := b2i_1.mp z5
      refine v_iconst (v := 3) O dX7_word_64 (by decide) ?_
      refine v_goto O 69 dX7_word_65 (by decide) ?_
      exact v_ireturn O T rfl rfl (by decide) (by decide) dX7_word_69 (⟨by unfold wrdP; rw [if_pos z_98]; show _ = some (Value.int (if _ then _ else _)); rw [if_pos z5], by unfold wrdP; rw [if_pos z_98]⟩)
  by_cases s_5 : (sgT tb ln) p = 109
  · skip
    refine v_top s_5 ?_
    refine v_lks (off := 66) O 70 dX7_word_4 (by decide) (by decide) (by decide) ?_
    have z_98 : ¬ (sgT tb ln) p = 98 := by rw [s_5]; decide
    have z_109 := s_5
    have z_p := sgT_lt z_109 (by decide)
    refine v_aload_n O dX7_word_70 0 rfl ?_
    refine v_aload_n O dX7_word_71 0 rfl ?_
    refine gf_X7_19 O rfl dX7_word_72 0 rfl rfl ?_
    refine v_iconst (v := 1) O dX7_word_75 (by decide) ?_
    refine v_iadd O dX7_word_76 ?_
    refine v_top (y := nI (p + 1)) (nI_add p 1) ?_
    refine v_cV (T := TX7) (ci := 7) (As := [.int (nI (p + 1))]) (wr := []) (st := []) O cf_X7_30 rfl (sp_X7_goTo (txo := txo) (tsg := tsg) (ln := ln) (tb := tb) (pl := (nI p)) (si := ((sgT tb ln) p)) (q := (p + 1)) (hln) (by omega)) dX7_word_77 rfl rfl 0 rfl [0, 1] [] (by decide) rfl rfl (by decide) (by decide) (by decide) (Nat.le_of_ble_eq_true rfl) (by decide) (by decide) (fun r_7 w_8 h_6 => ?_)
    obtain ⟨rfl, rfl⟩ := h_6
    refine v_eq (st' := []) (ws' := [(txo, .inr (7, [.ref tsg, .int (nI ln), .int (nI (p + 1)), .int ((sgT tb ln) (p + 1))])), (tsg, eB D 100 tb)]) rfl rfl rfl rfl ?_
    refine v_aload_n O dX7_word_80 0 rfl ?_
    refine gf_X7_22 O rfl dX7_word_81 0 rfl rfl ?_
    refine v_bipush (v := 111) O dX7_word_84 (by decide) ?_
    refine v_icmp_ne O 104 dX7_word_86 (by decide) (fun z4 => ?_) (fun z4 => ?_)
    · skip
      refine v_aload_n O dX7_word_104 0 rfl ?_
      refine v_ldcS O 3 (by decide) rfl dX7_word_105 ?_
      refine v_cV (T := TX7) (ci := 7) (As := [.ref (D.2.2 (10 + 3))]) (wr := []) (st := []) O cf_X7_53 rfl (sp_X7_spells_3 (txo := txo) (tsg := tsg) (ln := ln) (tb := tb) (p := (p + 1)) (hln) (by omega)) dX7_word_107 rfl rfl 0 rfl [0, 1] [] (by decide) rfl rfl (by decide) (by decide) (by decide) (Nat.le_of_ble_eq_true rfl) (by decide) (by decide) (fun r_10 w_11 h_9 => ?_)
      obtain ⟨rfl, rfl⟩ := h_9
      refine v_eq (st' := [.int (b2i ((spl (sgT tb ln) [101, 110, 32] (p + 1)).2 = true))]) (ws' := [(txo, .inr (7, [.ref tsg, .int (nI ln), .int (nI ((spl (sgT tb ln) [101, 110, 32] (p + 1)).1)), .int ((sgT tb ln) ((spl (sgT tb ln) [101, 110, 32] (p + 1)).1))])), (tsg, eB D 100 tb)]) rfl rfl rfl rfl ?_
      refine v_if_eq O 117 dX7_word_110 (by decide) (fun z5 => ?_) (fun z5 => ?_)
      · skip
        have z5 := b2i_0.mp z5
        refine v_iconst (v := -1) O dX7_word_117 (by decide) ?_
        exact v_ireturn O T rfl rfl (by decide) (by decide) dX7_word_118 (⟨by unfold wrdP; rw [if_neg z_98, if_pos z_109, if_neg z4]; show _ = some (Value.int (if _ then _ else _)); rw [if_neg z5], by unfold wrdP; rw [if_neg z_98, if_pos z_109, if_neg z4]⟩)
      · skip
        have z5 := b2i_1.mp z5
        refine v_iconst (v := 0) O dX7_word_113 (by decide) ?_
        refine v_goto O 118 dX7_word_114 (by decide) ?_
        exact v_ireturn O T rfl rfl (by decide) (by decide) dX7_word_118 (⟨by unfold wrdP; rw [if_neg z_98, if_pos z_109, if_neg z4]; show _ = some (Value.int (if _ then _ else _)); rw [if_pos z5], by unfold wrdP; rw [if_neg z_98, if_pos z_109, if_neg z4]⟩)
    · skip
      refine v_aload_n O dX7_word_89 0 rfl ?_
      refine v_ldcS O 2 (by decide) rfl dX7_word_90 ?_
      refine v_cV (T := TX7) (ci := 7) (As := [.ref (D.2.2 (10 + 2))]) (wr := []) (st := []) O cf_X7_53 rfl (sp_X7_spells_2 (txo := txo) (tsg := tsg) (ln := ln) (tb := tb) (p := (p + 1)) (hln) (by omega)) dX7_word_92 rfl rfl 0 rfl [0, 1] [] (by decide) rfl rfl (by decide) (by decide) (by decide) (Nat.le_of_ble_eq_true rfl) (by decide) (by decide) (fun r_13 w_14 h_12 => ?_)
      obtain ⟨rfl, rfl⟩ := h_12
      refine v_eq (st' := [.int (b2i ((spl (sgT tb ln) [111, 114, 110, 105, 110, 103, 32] (p + 1)).2 = true))]) (ws' := [(txo, .inr (7, [.ref tsg, .int (nI ln), .int (nI ((spl (sgT tb ln) [111, 114, 110, 105, 110, 103, 32] (p + 1)).1)), .int ((sgT tb ln) ((spl (sgT tb ln) [111, 114, 110, 105, 110, 103, 32] (p + 1)).1))])), (tsg, eB D 100 tb)]) rfl rfl rfl rfl ?_
      refine v_if_eq O 102 dX7_word_95 (by decide) (fun z5 => ?_) (fun z5 => ?_)
      · skip
        have z5 := b2i_0.mp z5
        refine v_iconst (v := -1) O dX7_word_102 (by decide) ?_
        exact v_ireturn O T rfl rfl (by decide) (by decide) dX7_word_103 (⟨by unfold wrdP; rw [if_neg z_98, if_pos z_109, if_pos z4]; show _ = some (Value.int (if _ then _ else _)); rw [if_neg z5], by unfold wrdP; rw [if_neg z_98, if_pos z_109, if_pos z4]⟩)
      · skip
        have z5 := b2i_1.mp z5
        refine v_iconst (v := 1) O dX7_word_98 (by decide) ?_
        refine v_goto O 103 dX7_word_99 (by decide) ?_
        exact v_ireturn O T rfl rfl (by decide) (by decide) dX7_word_103 (⟨by unfold wrdP; rw [if_neg z_98, if_pos z_109, if_pos z4]; show _ = some (Value.int (if _ then _ else _)); rw [if_pos z5], by unfold wrdP; rw [if_neg z_98, if_pos z_109, if_pos z4]⟩)
  by_cases s_15 : (sgT tb ln) p = 111
  · skip
    refine v_top s_15 ?_
    refine v_lks (off := 36) O 40 dX7_word_4 (by decide) (by decide) (by decide) ?_
    have z_98 : ¬ (sgT tb ln) p = 98 := by rw [s_15]; decide
    have z_109 : ¬ (sgT tb ln) p = 109 := by rw [s_15]; decide
    have z_111 := s_15
    refine v_aload_n O dX7_word_40 0 rfl ?_
    refine v_ldcS O 0 (by decide) rfl dX7_word_41 ?_
    refine v_cV (T := TX7) (ci := 7) (As := [.ref (D.2.2 (10 + 0))]) (wr := []) (st := []) O cf_X7_53 rfl (sp_X7_spells_0 (txo := txo) (tsg := tsg) (ln := ln) (tb := tb) (p := p) (hln) (hp)) dX7_word_43 rfl rfl 0 rfl [0, 1] [] (by decide) rfl rfl (by decide) (by decide) (by decide) (Nat.le_of_ble_eq_true rfl) (by decide) (by decide) (fun r_17 w_18 h_16 => ?_)
    obtain ⟨rfl, rfl⟩ := h_16
    refine v_eq (st' := [.int (b2i ((spl (sgT tb ln) [111, 118, 101, 114, 32] p).2 = true))]) (ws' := [(txo, .inr (7, [.ref tsg, .int (nI ln), .int (nI ((spl (sgT tb ln) [111, 118, 101, 114, 32] p).1)), .int ((sgT tb ln) ((spl (sgT tb ln) [111, 118, 101, 114, 32] p).1))])), (tsg, eB D 100 tb)]) rfl rfl rfl rfl ?_
    refine v_if_eq O 53 dX7_word_46 (by decide) (fun z5 => ?_) (fun z5 => ?_)
    · skip
      have z5 := b2i_0.mp z5
      refine v_iconst (v := -1) O dX7_word_53 (by decide) ?_
      exact v_ireturn O T rfl rfl (by decide) (by decide) dX7_word_54 (⟨by unfold wrdP; rw [if_neg z_98, if_neg z_109, if_pos z_111]; show _ = some (Value.int (if _ then _ else _)); rw [if_neg z5], by unfold wrdP; rw [if_neg z_98, if_neg z_109, if_pos z_111]⟩)
    · skip
      have z5 := b2i_1.mp z5
      refine v_iconst (v := 2) O dX7_word_49 (by decide) ?_
      refine v_goto O 54 dX7_word_50 (by decide) ?_
      exact v_ireturn O T rfl rfl (by decide) (by decide) dX7_word_54 (⟨by unfold wrdP; rw [if_neg z_98, if_neg z_109, if_pos z_111]; show _ = some (Value.int (if _ then _ else _)); rw [if_pos z5], by unfold wrdP; rw [if_neg z_98, if_neg z_109, if_pos z_111]⟩)
  refine v_lks (off := 115) O 119 dX7_word_4 (by decide) (lks_out (fun p hp => by simp at hp; rcases hp with rfl | rfl | rfl <;> exact i32_ne (by assumption) (by decide))) (by decide) ?_
  have z_98 := s_1
  have z_109 := s_5
  have z_111 := s_15
  refine v_iconst (v := -1) O dX7_word_119 (by decide) ?_
  exact v_ireturn O T rfl rfl (by decide) (by decide) dX7_word_120 (⟨by unfold wrdP; rw [if_neg z_98, if_neg z_109, if_neg z_111], by unfold wrdP; rw [if_neg z_98, if_neg z_109, if_neg z_111]⟩)
set_option maxRecDepth 100000 in
set_option maxHeartbeats 4000000 in
theorem sp_X7_clause {D : G} {txo : Nat} {tsg : Nat} {ln : Nat} {tb : Nat → Int32} {vg : Nat} {io : Nat} {am : Nat} {en : Nat} {sp : Nat} {v : VS} {p : Nat} (hln : ln ≤ 100) (hp : p ≤ ln) (hnl : v.nl ≤ p) (hnr : v.nr < 10) (hov : v.ov ≤ v.nr) : Sp D mX7_clause 24 0 0 [.ref txo, .ref vg] [(txo, .inr (7, [.ref tsg, .int (nI ln), .int (nI p), .int ((sgT tb ln) p)])), (tsg, eB D 100 tb), (vg, .inr (6, [.int (nI v.sh), .int (nI v.mo), .int (nI v.ov), .int (nI v.nr), .ref io, .ref am, .ref en, .int (nI v.nl), .ref sp])), (io, eZ D 10 v.fo), (am, eI D 10 v.fa), (en, eI D 10 v.fe), (sp, eI D 100 v.fs)] (fun r w => r = some (.int (b2i ((clsP (sgT tb ln) p v).2.1 = true))) ∧ w = [(txo, .inr (7, [.ref tsg, .int (nI ln), .int (nI ((clsP (sgT tb ln) p v).1)), .int ((sgT tb ln) ((clsP (sgT tb ln) p v).1))])), (tsg, eB D 100 tb), (vg, .inr (6, [.int (nI ((clsP (sgT tb ln) p v).2.2.sh)), .int (nI ((clsP (sgT tb ln) p v).2.2.mo)), .int (nI ((clsP (sgT tb ln) p v).2.2.ov)), .int (nI ((clsP (sgT tb ln) p v).2.2.nr)), .ref io, .ref am, .ref en, .int (nI ((clsP (sgT tb ln) p v).2.2.nl)), .ref sp])), (io, eZ D 10 ((clsP (sgT tb ln) p v).2.2.fo)), (am, eI D 10 ((clsP (sgT tb ln) p v).2.2.fa)), (en, eI D 10 ((clsP (sgT tb ln) p v).2.2.fe)), (sp, eI D 100 ((clsP (sgT tb ln) p v).2.2.fs))]) := by
  refine Sp.of (by decide) (Nat.le_of_ble_eq_true rfl) (fun X O T => ?_)
  refine v_eq (lv' := [(0, .ref txo), (1, .ref vg)]) rfl rfl rfl rfl ?_
  have z_w := wrd_le (tb := tb) hp
  refine v_aload_n O dX7_clause_0 0 rfl ?_
  refine v_cV (T := TX7) (ci := 7) (As := []) (wr := [(vg, .inr (6, [.int (nI v.sh), .int (nI v.mo), .int (nI v.ov), .int (nI v.nr), .ref io, .ref am, .ref en, .int (nI v.nl), .ref sp])), (io, eZ D 10 v.fo), (am, eI D 10 v.fa), (en, eI D 10 v.fe), (sp, eI D 100 v.fs)]) (st := []) O cf_X7_38 rfl (sp_X7_word (txo := txo) (tsg := tsg) (ln := ln) (tb := tb) (p := p) (hln) (hp)) dX7_clause_1 rfl rfl 0 rfl [0, 1] [2, 3, 4, 5, 6] (by decide) rfl rfl (by decide) (by decide) (by decide) (Nat.le_of_ble_eq_true rfl) (by decide) (by decide) (fun r_2 w_3 h_1 => ?_)
  obtain ⟨rfl, rfl⟩ := h_1
  refine v_eq (st' := [.int ((wrdP (sgT tb ln) p).2)]) (ws' := [(vg, .inr (6, [.int (nI v.sh), .int (nI v.mo), .int (nI v.ov), .int (nI v.nr), .ref io, .ref am, .ref en, .int (nI v.nl), .ref sp])), (io, eZ D 10 v.fo), (am, eI D 10 v.fa), (en, eI D 10 v.fe), (sp, eI D 100 v.fs), (txo, .inr (7, [.ref tsg, .int (nI ln), .int (nI ((wrdP (sgT tb ln) p).1)), .int ((sgT tb ln) ((wrdP (sgT tb ln) p).1))])), (tsg, eB D 100 tb)]) rfl rfl rfl rfl ?_
  refine v_istore_n (lv' := [(0, .ref txo), (1, .ref vg), (2, .int ((wrdP (sgT tb ln) p).2))]) O dX7_clause_4 (by decide) rfl ?_
  refine v_iload_n O dX7_clause_5 2 rfl ?_
  refine v_iconst (v := -1) O dX7_clause_6 (by decide) ?_
  refine v_icmp_ne O 12 dX7_clause_7 (by decide) (fun z1 => ?_) (fun z1 => ?_)
  · skip
    refine v_aload_n O dX7_clause_12 0 rfl ?_
    by_cases z2 : isd ((sgT tb ln) (wrdP (sgT tb ln) p).1)
    · skip
      refine v_cV (T := TX7) (ci := 7) (As := []) (wr := [(vg, .inr (6, [.int (nI v.sh), .int (nI v.mo), .int (nI v.ov), .int (nI v.nr), .ref io, .ref am, .ref en, .int (nI v.nl), .ref sp])), (io, eZ D 10 v.fo), (am, eI D 10 v.fa), (en, eI D 10 v.fe), (sp, eI D 100 v.fs)]) (st := []) O cf_X7_42 rfl (sp_X7_number_t (txo := txo) (tsg := tsg) (ln := ln) (tb := tb) (p := ((wrdP (sgT tb ln) p).1)) (hln) (z2)) dX7_clause_13 rfl rfl 5 rfl [5, 6] [0, 1, 2, 3, 4] (by decide) rfl rfl (by decide) (by decide) (by decide) (Nat.le_of_ble_eq_true rfl) (by decide) (by decide) (fun r_5 w_6 h_4 => ?_)
      obtain ⟨rfl, rfl⟩ := h_4
      refine v_eq (st' := [.int (nI (numN (sgT tb ln) ((wrdP (sgT tb ln) p).1)))]) (ws' := [(vg, .inr (6, [.int (nI v.sh), .int (nI v.mo), .int (nI v.ov), .int (nI v.nr), .ref io, .ref am, .ref en, .int (nI v.nl), .ref sp])), (io, eZ D 10 v.fo), (am, eI D 10 v.fa), (en, eI D 10 v.fe), (sp, eI D 100 v.fs), (txo, .inr (7, [.ref tsg, .int (nI ln), .int (nI (numE (sgT tb ln) ((wrdP (sgT tb ln) p).1))), .int ((sgT tb ln) (numE (sgT tb ln) ((wrdP (sgT tb ln) p).1)))])), (tsg, eB D 100 tb)]) rfl rfl rfl rfl ?_
      refine v_istore_n (lv' := [(0, .ref txo), (1, .ref vg), (2, .int ((wrdP (sgT tb ln) p).2)), (3, .int (nI (numN (sgT tb ln) ((wrdP (sgT tb ln) p).1))))]) O dX7_clause_16 (by decide) rfl ?_
      refine v_iload_n O dX7_clause_17 3 rfl ?_
      have z_le := numN_le z2
      have z_ne := numE_le z2
      refine v_if_ge O 23 dX7_clause_18 (by decide) (fun _ => ?_) (fun c => absurd (Int32.not_lt.mp (nI_pos (by omega))) c)
      refine v_iload_n O dX7_clause_23 2 rfl ?_
      refine v_if_ne O 34 dX7_clause_24 (by decide) (fun z3 => ?_) (fun z3 => ?_)
      · skip
        refine v_iload_n O dX7_clause_34 2 rfl ?_
        refine v_iconst (v := 1) O dX7_clause_35 (by decide) ?_
        refine v_icmp_ne O 46 dX7_clause_36 (by decide) (fun z4 => ?_) (fun z4 => ?_)
        · skip
          have z_sp := spl_le (tb := tb) (ln := ln) (w := [32]) (p := (numE (sgT tb ln) (wrdP (sgT tb ln) p).1)) (by decide) z_ne.2
          refine v_aload_n O dX7_clause_46 0 rfl ?_
          refine v_ldcS O 4 (by decide) rfl dX7_clause_47 ?_
          refine v_cV (T := TX7) (ci := 7) (As := [.ref (D.2.2 (10 + 4))]) (wr := [(vg, .inr (6, [.int (nI v.sh), .int (nI v.mo), .int (nI v.ov), .int (nI v.nr), .ref io, .ref am, .ref en, .int (nI v.nl), .ref sp])), (io, eZ D 10 v.fo), (am, eI D 10 v.fa), (en, eI D 10 v.fe), (sp, eI D 100 v.fs)]) (st := []) O cf_X7_53 rfl (sp_X7_spells_4 (txo := txo) (tsg := tsg) (ln := ln) (tb := tb) (p := (numE (sgT tb ln) ((wrdP (sgT tb ln) p).1))) (hln) (z_ne.2)) dX7_clause_49 rfl rfl 5 rfl [5, 6] [0, 1, 2, 3, 4] (by decide) rfl rfl (by decide) (by decide) (by decide) (Nat.le_of_ble_eq_true rfl) (by decide) (by decide) (fun r_8 w_9 h_7 => ?_)
          obtain ⟨rfl, rfl⟩ := h_7
          refine v_eq (st' := [.int (b2i ((spl (sgT tb ln) [32] (numE (sgT tb ln) ((wrdP (sgT tb ln) p).1))).2 = true))]) (ws' := [(vg, .inr (6, [.int (nI v.sh), .int (nI v.mo), .int (nI v.ov), .int (nI v.nr), .ref io, .ref am, .ref en, .int (nI v.nl), .ref sp])), (io, eZ D 10 v.fo), (am, eI D 10 v.fa), (en, eI D 10 v.fe), (sp, eI D 100 v.fs), (txo, .inr (7, [.ref tsg, .int (nI ln), .int (nI ((spl (sgT tb ln) [32] (numE (sgT tb ln) ((wrdP (sgT tb ln) p).1))).1)), .int ((sgT tb ln) ((spl (sgT tb ln) [32] (numE (sgT tb ln) ((wrdP (sgT tb ln) p).1))).1))])), (tsg, eB D 100 tb)]) rfl rfl rfl rfl ?_
          refine v_if_eq O 64 dX7_clause_52 (by decide) (fun z5 => ?_) (fun z5 => ?_)
          · skip
            have z5 := b2i_0.mp z5
            refine v_iconst (v := 0) O dX7_clause_64 (by decide) ?_
            refine v_sub (ws' := [(txo, .inr (7, [.ref tsg, .int (nI ln), .int (nI ((spl (sgT tb ln) [32] (numE (sgT tb ln) ((wrdP (sgT tb ln) p).1))).1)), .int ((sgT tb ln) ((spl (sgT tb ln) [32] (numE (sgT tb ln) ((wrdP (sgT tb ln) p).1))).1))])), (tsg, eB D 100 tb), (vg, .inr (6, [.int (nI v.sh), .int (nI v.mo), .int (nI v.ov), .int (nI v.nr), .ref io, .ref am, .ref en, .int (nI v.nl), .ref sp])), (io, eZ D 10 v.fo), (am, eI D 10 v.fa), (en, eI D 10 v.fe), (sp, eI D 100 v.fs)]) [5, 6, 0, 1, 2, 3, 4] (by decide) rfl ?_
            exact v_ireturn O T rfl rfl (by decide) (by decide) dX7_clause_65 (⟨by rw [cls_3 z1 z2 z3 z4 z5]; exact bF, by rw [cls_3 z1 z2 z3 z4 z5]⟩)
          · skip
            have z5 := b2i_1.mp z5
            have z_c := con_ok (tb := tb) (ln := ln) (spl (sgT tb ln) [32] (numE (sgT tb ln) (wrdP (sgT tb ln) p).1)).1 z_sp.2
            unfold conP at z_c
            refine v_aload_n O dX7_clause_55 0 rfl ?_
            refine v_aload_n O dX7_clause_56 1 rfl ?_
            refine v_iconst (v := 0) O dX7_clause_57 (by decide) ?_
            refine v_cV (T := TX7) (ci := 7) (As := [.ref vg, .int 0]) (wr := [(io, eZ D 10 v.fo), (am, eI D 10 v.fa), (en, eI D 10 v.fe)]) (st := []) O cf_X7_57 rfl (sp_X7_either_4 (txo := txo) (tsg := tsg) (ln := ln) (tb := tb) (vg := vg) (sh := v.sh) (mo := v.mo) (ov := v.ov) (nr := v.nr) (io := io) (am := am) (en := en) (nl := v.nl) (sp := sp) (fs := v.fs) (p := ((spl (sgT tb ln) [32] (numE (sgT tb ln) ((wrdP (sgT tb ln) p).1))).1)) (hln) (z_sp.2) (by omega)) dX7_clause_58 rfl rfl 5 rfl [5, 6, 0, 4] [1, 2, 3] (by decide) rfl rfl (by decide) (by decide) (by decide) (Nat.le_of_ble_eq_true rfl) (by decide) (by decide) (fun r_11 w_12 h_10 => ?_)
            obtain ⟨rfl, rfl⟩ := h_10
            refine v_eq (st' := [.int (b2i ((eitP (facP (sgT tb ln) 4) (sgT tb ln) ((spl (sgT tb ln) [32] (numE (sgT tb ln) ((wrdP (sgT tb ln) p).1))).1)).2.1 = true))]) (ws' := [(io, eZ D 10 v.fo), (am, eI D 10 v.fa), (en, eI D 10 v.fe), (txo, .inr (7, [.ref tsg, .int (nI ln), .int (nI ((eitP (facP (sgT tb ln) 4) (sgT tb ln) ((spl (sgT tb ln) [32] (numE (sgT tb ln) ((wrdP (sgT tb ln) p).1))).1)).1)), .int ((sgT tb ln) ((eitP (facP (sgT tb ln) 4) (sgT tb ln) ((spl (sgT tb ln) [32] (numE (sgT tb ln) ((wrdP (sgT tb ln) p).1))).1)).1))])), (tsg, eB D 100 tb), (vg, .inr (6, [.int (nI v.sh), .int (nI v.mo), .int (nI v.ov), .int (nI v.nr), .ref io, .ref am, .ref en, .int (nI (v.nl + (eitP (facP (sgT tb ln) 4) (sgT tb ln) ((spl (sgT tb ln) [32] (numE (sgT tb ln) ((wrdP (sgT tb ln) p).1))).1)).2.2.length)), .ref sp])), (sp, eI D 100 (wr v.fs v.nl (eitP (facP (sgT tb ln) 4) (sgT tb ln) ((spl (sgT tb ln) [32] (numE (sgT tb ln) ((wrdP (sgT tb ln) p).1))).1)).2.2))]) rfl rfl rfl rfl ?_
            refine v_if_ne O 66 dX7_clause_61 (by decide) (fun z6 => ?_) (fun z6 => ?_)
            · skip
              have z6 := b2i_1.mp z6
              refine v_aload_n O dX7_clause_66 1 rfl ?_
              refine v_iload_n O dX7_clause_67 2 rfl ?_
              refine v_iconst (v := 2) O dX7_clause_68 (by decide) ?_
              refine v_icmp_ne O 76 dX7_clause_69 (by decide) (fun z7 => ?_) (fun z7 => ?_)
              · skip
                refine v_iconst (v := 0) O dX7_clause_76 (by decide) ?_
                refine v_iload_n O dX7_clause_77 3 rfl ?_
                refine v_cV (T := TX6) (ci := 6) (As := [.int 0, .int (nI (numN (sgT tb ln) ((wrdP (sgT tb ln) p).1)))]) (wr := [(txo, .inr (7, [.ref tsg, .int (nI ln), .int (nI ((eitP (facP (sgT tb ln) 4) (sgT tb ln) ((spl (sgT tb ln) [32] (numE (sgT tb ln) ((wrdP (sgT tb ln) p).1))).1)).1)), .int ((sgT tb ln) ((eitP (facP (sgT tb ln) 4) (sgT tb ln) ((spl (sgT tb ln) [32] (numE (sgT tb ln) ((wrdP (sgT tb ln) p).1))).1)).1))])), (tsg, eB D 100 tb), (sp, eI D 100 (wr v.fs v.nl (eitP (facP (sgT tb ln) 4) (sgT tb ln) ((spl (sgT tb ln) [32] (numE (sgT tb ln) ((wrdP (sgT tb ln) p).1))).1)).2.2))]) (st := []) O cf_X7_61 rfl (sp_X6_addRule0 (vg := vg) (sh := v.sh) (mo := v.mo) (ov := v.ov) (nr := v.nr) (io := io) (am := am) (en := en) (nl := (v.nl + (eitP (facP (sgT tb ln) 4) (sgT tb ln) ((spl (sgT tb ln) [32] (numE (sgT tb ln) ((wrdP (sgT tb ln) p).1))).1)).2.2.length)) (sp := sp) (fo := v.fo) (fa := v.fa) (fe := v.fe) (n := (numN (sgT tb ln) ((wrdP (sgT tb ln) p).1))) (hnr) (by omega)) dX7_clause_78 rfl rfl 5 rfl [5, 0, 1, 2] [3, 4, 6] (by decide) rfl rfl (by decide) (by decide) (by decide) (Nat.le_of_ble_eq_true rfl) (by decide) (by decide) (fun r_14 w_15 h_13 => ?_)
                obtain ⟨rfl, rfl⟩ := h_13
                refine v_eq (st' := []) (ws' := [(txo, .inr (7, [.ref tsg, .int (nI ln), .int (nI ((eitP (facP (sgT tb ln) 4) (sgT tb ln) ((spl (sgT tb ln) [32] (numE (sgT tb ln) ((wrdP (sgT tb ln) p).1))).1)).1)), .int ((sgT tb ln) ((eitP (facP (sgT tb ln) 4) (sgT tb ln) ((spl (sgT tb ln) [32] (numE (sgT tb ln) ((wrdP (sgT tb ln) p).1))).1)).1))])), (tsg, eB D 100 tb), (sp, eI D 100 (wr v.fs v.nl (eitP (facP (sgT tb ln) 4) (sgT tb ln) ((spl (sgT tb ln) [32] (numE (sgT tb ln) ((wrdP (sgT tb ln) p).1))).1)).2.2)), (vg, .inr (6, [.int (nI v.sh), .int (nI v.mo), .int (nI v.ov), .int (nI (v.nr + 1)), .ref io, .ref am, .ref en, .int (nI (v.nl + (eitP (facP (sgT tb ln) 4) (sgT tb ln) ((spl (sgT tb ln) [32] (numE (sgT tb ln) ((wrdP (sgT tb ln) p).1))).1)).2.2.length)), .ref sp])), (io, eZ D 10 (upd v.fo v.nr 0)), (am, eI D 10 (upd v.fa v.nr (nI (numN (sgT tb ln) ((wrdP (sgT tb ln) p).1))))), (en, eI D 10 (upd v.fe v.nr (nI (v.nl + (eitP (facP (sgT tb ln) 4) (sgT tb ln) ((spl (sgT tb ln) [32] (numE (sgT tb ln) ((wrdP (sgT tb ln) p).1))).1)).2.2.length))))]) rfl rfl rfl rfl ?_
                refine v_iconst (v := 1) O dX7_clause_81 (by decide) ?_
                refine v_sub (ws' := [(txo, .inr (7, [.ref tsg, .int (nI ln), .int (nI ((eitP (facP (sgT tb ln) 4) (sgT tb ln) ((spl (sgT tb ln) [32] (numE (sgT tb ln) ((wrdP (sgT tb ln) p).1))).1)).1)), .int ((sgT tb ln) ((eitP (facP (sgT tb ln) 4) (sgT tb ln) ((spl (sgT tb ln) [32] (numE (sgT tb ln) ((wrdP (sgT tb ln) p).1))).1)).1))])), (tsg, eB D 100 tb), (vg, .inr (6, [.int (nI v.sh), .int (nI v.mo), .int (nI v.ov), .int (nI (v.nr + 1)), .ref io, .ref am, .ref en, .int (nI (v.nl + (eitP (facP (sgT tb ln) 4) (sgT tb ln) ((spl (sgT tb ln) [32] (numE (sgT tb ln) ((wrdP (sgT tb ln) p).1))).1)).2.2.length)), .ref sp])), (io, eZ D 10 (upd v.fo v.nr 0)), (am, eI D 10 (upd v.fa v.nr (nI (numN (sgT tb ln) ((wrdP (sgT tb ln) p).1))))), (en, eI D 10 (upd v.fe v.nr (nI (v.nl + (eitP (facP (sgT tb ln) 4) (sgT tb ln) ((spl (sgT tb ln) [32] (numE (sgT tb ln) ((wrdP (sgT tb ln) p).1))).1)).2.2.length)))), (sp, eI D 100 (wr v.fs v.nl (eitP (facP (sgT tb ln) 4) (sgT tb ln) ((spl (sgT tb ln) [32] (numE (sgT tb ln) ((wrdP (sgT tb ln) p).1))).1)).2.2))]) [0, 1, 3, 4, 5, 6, 2] (by decide) rfl ?_
                exact v_ireturn O T rfl rfl (by decide) (by decide) dX7_clause_82 (⟨by rw [cls_6 z1 z2 z3 z4 z5 z6 z7]; exact bT, by rw [cls_6 z1 z2 z3 z4 z5 z6 z7]; rfl⟩)
              · skip
                refine v_iconst (v := 1) O dX7_clause_72 (by decide) ?_
                refine v_goto O 77 dX7_clause_73 (by decide) ?_
                refine v_iload_n O dX7_clause_77 3 rfl ?_
                refine v_cV (T := TX6) (ci := 6) (As := [.int 1, .int (nI (numN (sgT tb ln) ((wrdP (sgT tb ln) p).1)))]) (wr := [(txo, .inr (7, [.ref tsg, .int (nI ln), .int (nI ((eitP (facP (sgT tb ln) 4) (sgT tb ln) ((spl (sgT tb ln) [32] (numE (sgT tb ln) ((wrdP (sgT tb ln) p).1))).1)).1)), .int ((sgT tb ln) ((eitP (facP (sgT tb ln) 4) (sgT tb ln) ((spl (sgT tb ln) [32] (numE (sgT tb ln) ((wrdP (sgT tb ln) p).1))).1)).1))])), (tsg, eB D 100 tb), (sp, eI D 100 (wr v.fs v.nl (eitP (facP (sgT tb ln) 4) (sgT tb ln) ((spl (sgT tb ln) [32] (numE (sgT tb ln) ((wrdP (sgT tb ln) p).1))).1)).2.2))]) (st := []) O cf_X7_61 rfl (sp_X6_addRule1 (vg := vg) (sh := v.sh) (mo := v.mo) (ov := v.ov) (nr := v.nr) (io := io) (am := am) (en := en) (nl := (v.nl + (eitP (facP (sgT tb ln) 4) (sgT tb ln) ((spl (sgT tb ln) [32] (numE (sgT tb ln) ((wrdP (sgT tb ln) p).1))).1)).2.2.length)) (sp := sp) (fo := v.fo) (fa := v.fa) (fe := v.fe) (n := (numN (sgT tb ln) ((wrdP (sgT tb ln) p).1))) (hnr) (by omega)) dX7_clause_78 rfl rfl 5 rfl [5, 0, 1, 2] [3, 4, 6] (by decide) rfl rfl (by decide) (by decide) (by decide) (Nat.le_of_ble_eq_true rfl) (by decide) (by decide) (fun r_17 w_18 h_16 => ?_)
                obtain ⟨rfl, rfl⟩ := h_16
                refine v_eq (st' := []) (ws' := [(txo, .inr (7, [.ref tsg, .int (nI ln), .int (nI ((eitP (facP (sgT tb ln) 4) (sgT tb ln) ((spl (sgT tb ln) [32] (numE (sgT tb ln) ((wrdP (sgT tb ln) p).1))).1)).1)), .int ((sgT tb ln) ((eitP (facP (sgT tb ln) 4) (sgT tb ln) ((spl (sgT tb ln) [32] (numE (sgT tb ln) ((wrdP (sgT tb ln) p).1))).1)).1))])), (tsg, eB D 100 tb), (sp, eI D 100 (wr v.fs v.nl (eitP (facP (sgT tb ln) 4) (sgT tb ln) ((spl (sgT tb ln) [32] (numE (sgT tb ln) ((wrdP (sgT tb ln) p).1))).1)).2.2)), (vg, .inr (6, [.int (nI v.sh), .int (nI v.mo), .int (nI (v.ov + 1)), .int (nI (v.nr + 1)), .ref io, .ref am, .ref en, .int (nI (v.nl + (eitP (facP (sgT tb ln) 4) (sgT tb ln) ((spl (sgT tb ln) [32] (numE (sgT tb ln) ((wrdP (sgT tb ln) p).1))).1)).2.2.length)), .ref sp])), (io, eZ D 10 (upd v.fo v.nr 1)), (am, eI D 10 (upd v.fa v.nr (nI (numN (sgT tb ln) ((wrdP (sgT tb ln) p).1))))), (en, eI D 10 (upd v.fe v.nr (nI (v.nl + (eitP (facP (sgT tb ln) 4) (sgT tb ln) ((spl (sgT tb ln) [32] (numE (sgT tb ln) ((wrdP (sgT tb ln) p).1))).1)).2.2.length))))]) rfl rfl rfl rfl ?_
                refine v_iconst (v := 1) O dX7_clause_81 (by decide) ?_
                refine v_sub (ws' := [(txo, .inr (7, [.ref tsg, .int (nI ln), .int (nI ((eitP (facP (sgT tb ln) 4) (sgT tb ln) ((spl (sgT tb ln) [32] (numE (sgT tb ln) ((wrdP (sgT tb ln) p).1))).1)).1)), .int ((sgT tb ln) ((eitP (facP (sgT tb ln) 4) (sgT tb ln) ((spl (sgT tb ln) [32] (numE (sgT tb ln) ((wrdP (sgT tb ln) p).1))).1)).1))])), (tsg, eB D 100 tb), (vg, .inr (6, [.int (nI v.sh), .int (nI v.mo), .int (nI (v.ov + 1)), .int (nI (v.nr + 1)), .ref io, .ref am, .ref en, .int (nI (v.nl + (eitP (facP (sgT tb ln) 4) (sgT tb ln) ((spl (sgT tb ln) [32] (numE (sgT tb ln) ((wrdP (sgT tb ln) p).1))).1)).2.2.length)), .ref sp])), (io, eZ D 10 (upd v.fo v.nr 1)), (am, eI D 10 (upd v.fa v.nr (nI (numN (sgT tb ln) ((wrdP (sgT tb ln) p).1))))), (en, eI D 10 (upd v.fe v.nr (nI (v.nl + (eitP (facP (sgT tb ln) 4) (sgT tb ln) ((spl (sgT tb ln) [32] (numE (sgT tb ln) ((wrdP (sgT tb ln) p).1))).1)).2.2.length)))), (sp, eI D 100 (wr v.fs v.nl (eitP (facP (sgT tb ln) 4) (sgT tb ln) ((spl (sgT tb ln) [32] (numE (sgT tb ln) ((wrdP (sgT tb ln) p).1))).1)).2.2))]) [0, 1, 3, 4, 5, 6, 2] (by decide) rfl ?_
                exact v_ireturn O T rfl rfl (by decide) (by decide) dX7_clause_82 (⟨by rw [cls_5 z1 z2 z3 z4 z5 z6 z7]; exact bT, by rw [cls_5 z1 z2 z3 z4 z5 z6 z7]; rfl⟩)
            · skip
              have z6 := b2i_0.mp z6
              refine v_iconst (v := 0) O dX7_clause_64 (by decide) ?_
              refine v_sub (ws' := [(txo, .inr (7, [.ref tsg, .int (nI ln), .int (nI ((eitP (facP (sgT tb ln) 4) (sgT tb ln) ((spl (sgT tb ln) [32] (numE (sgT tb ln) ((wrdP (sgT tb ln) p).1))).1)).1)), .int ((sgT tb ln) ((eitP (facP (sgT tb ln) 4) (sgT tb ln) ((spl (sgT tb ln) [32] (numE (sgT tb ln) ((wrdP (sgT tb ln) p).1))).1)).1))])), (tsg, eB D 100 tb), (vg, .inr (6, [.int (nI v.sh), .int (nI v.mo), .int (nI v.ov), .int (nI v.nr), .ref io, .ref am, .ref en, .int (nI (v.nl + (eitP (facP (sgT tb ln) 4) (sgT tb ln) ((spl (sgT tb ln) [32] (numE (sgT tb ln) ((wrdP (sgT tb ln) p).1))).1)).2.2.length)), .ref sp])), (io, eZ D 10 v.fo), (am, eI D 10 v.fa), (en, eI D 10 v.fe), (sp, eI D 100 (wr v.fs v.nl (eitP (facP (sgT tb ln) 4) (sgT tb ln) ((spl (sgT tb ln) [32] (numE (sgT tb ln) ((wrdP (sgT tb ln) p).1))).1)).2.2))]) [3, 4, 5, 0, 1, 2, 6] (by decide) rfl ?_
              exact v_ireturn O T rfl rfl (by decide) (by decide) dX7_clause_65 (⟨by rw [cls_4 z1 z2 z3 z4 z5 z6]; exact bF, by rw [cls_4 z1 z2 z3 z4 z5 z6]; rfl⟩)
        · skip
          refine v_aload_n O dX7_clause_39 1 rfl ?_
          refine v_iload_n O dX7_clause_40 3 rfl ?_
          refine pf_X7_48 (fs' := [.int (nI v.sh), .int (nI (numN (sgT tb ln) ((wrdP (sgT tb ln) p).1))), .int (nI v.ov), .int (nI v.nr), .ref io, .ref am, .ref en, .int (nI v.nl), .ref sp]) (ws' := [(vg, .inr (6, [.int (nI v.sh), .int (nI (numN (sgT tb ln) ((wrdP (sgT tb ln) p).1))), .int (nI v.ov), .int (nI v.nr), .ref io, .ref am, .ref en, .int (nI v.nl), .ref sp])), (io, eZ D 10 v.fo), (am, eI D 10 v.fa), (en, eI D 10 v.fe), (sp, eI D 100 v.fs), (txo, .inr (7, [.ref tsg, .int (nI ln), .int (nI (numE (sgT tb ln) ((wrdP (sgT tb ln) p).1))), .int ((sgT tb ln) (numE (sgT tb ln) ((wrdP (sgT tb ln) p).1)))])), (tsg, eB D 100 tb)]) O rfl dX7_clause_41 0 rfl (Nat.le_of_ble_eq_true rfl) rfl rfl ?_
          refine v_iconst (v := 1) O dX7_clause_44 (by decide) ?_
          refine v_sub (ws' := [(txo, .inr (7, [.ref tsg, .int (nI ln), .int (nI (numE (sgT tb ln) ((wrdP (sgT tb ln) p).1))), .int ((sgT tb ln) (numE (sgT tb ln) ((wrdP (sgT tb ln) p).1)))])), (tsg, eB D 100 tb), (vg, .inr (6, [.int (nI v.sh), .int (nI (numN (sgT tb ln) ((wrdP (sgT tb ln) p).1))), .int (nI v.ov), .int (nI v.nr), .ref io, .ref am, .ref en, .int (nI v.nl), .ref sp])), (io, eZ D 10 v.fo), (am, eI D 10 v.fa), (en, eI D 10 v.fe), (sp, eI D 100 v.fs)]) [5, 6, 0, 1, 2, 3, 4] (by decide) rfl ?_
          exact v_ireturn O T rfl rfl (by decide) (by decide) dX7_clause_45 (⟨by rw [cls_2 z1 z2 z3 z4]; exact bT, by rw [cls_2 z1 z2 z3 z4]; rfl⟩)
      · skip
        refine v_aload_n O dX7_clause_27 1 rfl ?_
        refine v_iload_n O dX7_clause_28 3 rfl ?_
        refine v_cV (T := TX6) (ci := 6) (As := [.int (nI (numN (sgT tb ln) ((wrdP (sgT tb ln) p).1)))]) (wr := [(io, eZ D 10 v.fo), (am, eI D 10 v.fa), (en, eI D 10 v.fe), (sp, eI D 100 v.fs), (txo, .inr (7, [.ref tsg, .int (nI ln), .int (nI (numE (sgT tb ln) ((wrdP (sgT tb ln) p).1))), .int ((sgT tb ln) (numE (sgT tb ln) ((wrdP (sgT tb ln) p).1)))])), (tsg, eB D 100 tb)]) (st := []) O cf_X7_45 rfl (sp_X6_setShares (vg := vg) (sh := v.sh) (mo := v.mo) (ov := v.ov) (nr := v.nr) (io := io) (am := am) (en := en) (nl := v.nl) (sp := sp) (n := (numN (sgT tb ln) ((wrdP (sgT tb ln) p).1))) (by omega)) dX7_clause_29 rfl rfl 0 rfl [0] [1, 2, 3, 4, 5, 6] (by decide) rfl rfl (by decide) (by decide) (by decide) (Nat.le_of_ble_eq_true rfl) (by decide) (by decide) (fun r_20 w_21 h_19 => ?_)
        obtain ⟨rfl, rfl⟩ := h_19
        refine v_eq (st' := []) (ws' := [(io, eZ D 10 v.fo), (am, eI D 10 v.fa), (en, eI D 10 v.fe), (sp, eI D 100 v.fs), (txo, .inr (7, [.ref tsg, .int (nI ln), .int (nI (numE (sgT tb ln) ((wrdP (sgT tb ln) p).1))), .int ((sgT tb ln) (numE (sgT tb ln) ((wrdP (sgT tb ln) p).1)))])), (tsg, eB D 100 tb), (vg, .inr (6, [.int (nI (max (numN (sgT tb ln) ((wrdP (sgT tb ln) p).1)) 2)), .int (nI v.mo), .int (nI v.ov), .int (nI v.nr), .ref io, .ref am, .ref en, .int (nI v.nl), .ref sp]))]) rfl rfl rfl rfl ?_
        refine v_iconst (v := 1) O dX7_clause_32 (by decide) ?_
        refine v_sub (ws' := [(txo, .inr (7, [.ref tsg, .int (nI ln), .int (nI (numE (sgT tb ln) ((wrdP (sgT tb ln) p).1))), .int ((sgT tb ln) (numE (sgT tb ln) ((wrdP (sgT tb ln) p).1)))])), (tsg, eB D 100 tb), (vg, .inr (6, [.int (nI (max (numN (sgT tb ln) ((wrdP (sgT tb ln) p).1)) 2)), .int (nI v.mo), .int (nI v.ov), .int (nI v.nr), .ref io, .ref am, .ref en, .int (nI v.nl), .ref sp])), (io, eZ D 10 v.fo), (am, eI D 10 v.fa), (en, eI D 10 v.fe), (sp, eI D 100 v.fs)]) [4, 5, 6, 0, 1, 2, 3] (by decide) rfl ?_
        exact v_ireturn O T rfl rfl (by decide) (by decide) dX7_clause_33 (⟨by rw [cls_1 z1 z2 z3]; exact bT, by rw [cls_1 z1 z2 z3]; rfl⟩)
    · skip
      refine v_cV (T := TX7) (ci := 7) (As := []) (wr := [(vg, .inr (6, [.int (nI v.sh), .int (nI v.mo), .int (nI v.ov), .int (nI v.nr), .ref io, .ref am, .ref en, .int (nI v.nl), .ref sp])), (io, eZ D 10 v.fo), (am, eI D 10 v.fa), (en, eI D 10 v.fe), (sp, eI D 100 v.fs)]) (st := []) O cf_X7_42 rfl (sp_X7_number_f (txo := txo) (tsg := tsg) (ln := ln) (tb := tb) (p := ((wrdP (sgT tb ln) p).1)) (z2)) dX7_clause_13 rfl rfl 5 rfl [5, 6] [0, 1, 2, 3, 4] (by decide) rfl rfl (by decide) (by decide) (by decide) (Nat.le_of_ble_eq_true rfl) (by decide) (by decide) (fun r_23 w_24 h_22 => ?_)
      obtain ⟨rfl, rfl⟩ := h_22
      refine v_eq (st' := [.int (-1)]) (ws' := [(vg, .inr (6, [.int (nI v.sh), .int (nI v.mo), .int (nI v.ov), .int (nI v.nr), .ref io, .ref am, .ref en, .int (nI v.nl), .ref sp])), (io, eZ D 10 v.fo), (am, eI D 10 v.fa), (en, eI D 10 v.fe), (sp, eI D 100 v.fs), (txo, .inr (7, [.ref tsg, .int (nI ln), .int (nI ((wrdP (sgT tb ln) p).1)), .int ((sgT tb ln) ((wrdP (sgT tb ln) p).1))])), (tsg, eB D 100 tb)]) rfl rfl rfl rfl ?_
      refine v_istore_n (lv' := [(0, .ref txo), (1, .ref vg), (2, .int ((wrdP (sgT tb ln) p).2)), (3, .int (-1))]) O dX7_clause_16 (by decide) rfl ?_
      refine v_iload_n O dX7_clause_17 3 rfl ?_
      refine v_if_ge O 23 dX7_clause_18 (by decide) (fun c => absurd c (by decide)) (fun _ => ?_)
      refine v_iconst (v := 0) O dX7_clause_21 (by decide) ?_
      refine v_sub (ws' := [(txo, .inr (7, [.ref tsg, .int (nI ln), .int (nI ((wrdP (sgT tb ln) p).1)), .int ((sgT tb ln) ((wrdP (sgT tb ln) p).1))])), (tsg, eB D 100 tb), (vg, .inr (6, [.int (nI v.sh), .int (nI v.mo), .int (nI v.ov), .int (nI v.nr), .ref io, .ref am, .ref en, .int (nI v.nl), .ref sp])), (io, eZ D 10 v.fo), (am, eI D 10 v.fa), (en, eI D 10 v.fe), (sp, eI D 100 v.fs)]) [5, 6, 0, 1, 2, 3, 4] (by decide) rfl ?_
      exact v_ireturn O T rfl rfl (by decide) (by decide) dX7_clause_22 (⟨by rw [cls_0 (Or.inr z2)]; exact bF, by rw [cls_0 (Or.inr z2)]⟩)
  · skip
    refine v_iconst (v := 0) O dX7_clause_10 (by decide) ?_
    refine v_sub (ws' := [(txo, .inr (7, [.ref tsg, .int (nI ln), .int (nI ((wrdP (sgT tb ln) p).1)), .int ((sgT tb ln) ((wrdP (sgT tb ln) p).1))])), (tsg, eB D 100 tb), (vg, .inr (6, [.int (nI v.sh), .int (nI v.mo), .int (nI v.ov), .int (nI v.nr), .ref io, .ref am, .ref en, .int (nI v.nl), .ref sp])), (io, eZ D 10 v.fo), (am, eI D 10 v.fa), (en, eI D 10 v.fe), (sp, eI D 100 v.fs)]) [5, 6, 0, 1, 2, 3, 4] (by decide) rfl ?_
    exact v_ireturn O T rfl rfl (by decide) (by decide) dX7_clause_11 (⟨by rw [cls_0 (Or.inl z1)]; exact bF, by rw [cls_0 (Or.inl z1)]⟩)
set_option maxRecDepth 100000 in
set_option maxHeartbeats 4000000 in
theorem l_X7_read {D : G} {X : CX} {txo : Nat} {tsg : Nat} {ln : Nat} {tb : Nat → Int32} {vg : Nat} {io : Nat} {am : Nat} {en : Nat} {sp : Nat} {v : VS} (O : Ok D X mX7_readInto 25 0 0) (hln : ln ≤ 100) (T : Rt D X (fun r w => r = some (.int (fltP (sgT tb ln) (redP (sgT tb ln) v))) ∧ w = [(txo, .inr (7, [.ref tsg, .int (nI ln), .int (nI ((redP (sgT tb ln) v).1)), .int ((sgT tb ln) ((redP (sgT tb ln) v).1))])), (tsg, eB D 100 tb), (vg, .inr (6, [.int (nI ((redP (sgT tb ln) v).2.2.sh)), .int (nI ((redP (sgT tb ln) v).2.2.mo)), .int (nI ((redP (sgT tb ln) v).2.2.ov)), .int (nI ((redP (sgT tb ln) v).2.2.nr)), .ref io, .ref am, .ref en, .int (nI ((redP (sgT tb ln) v).2.2.nl)), .ref sp])), (io, eZ D 10 ((redP (sgT tb ln) v).2.2.fo)), (am, eI D 10 ((redP (sgT tb ln) v).2.2.fa)), (en, eI D 10 ((redP (sgT tb ln) v).2.2.fe)), (sp, eI D 100 ((redP (sgT tb ln) v).2.2.fs))]) 0 0) : ∀ (t i : Nat), i + t = 9 → ∀ r : Nat × Bool × VS, redP (sgT tb ln) v = rdL (sgT tb ln) t r → r.1 ≤ ln ∧ r.2.2.nl ≤ r.1 ∧ r.2.2.nr ≤ i + 1 ∧ VOk r.2.2 → V D X 0 0 17 [(0, .ref txo), (1, .ref vg), (2, .int (b2i (r.2.1 = true))), (3, .int (nI (i + 1)))] [] [(txo, .inr (7, [.ref tsg, .int (nI ln), .int (nI r.1), .int ((sgT tb ln) r.1)])), (tsg, eB D 100 tb), (vg, .inr (6, [.int (nI r.2.2.sh), .int (nI r.2.2.mo), .int (nI r.2.2.ov), .int (nI r.2.2.nr), .ref io, .ref am, .ref en, .int (nI r.2.2.nl), .ref sp])), (io, eZ D 10 r.2.2.fo), (am, eI D 10 r.2.2.fa), (en, eI D 10 r.2.2.fe), (sp, eI D 100 r.2.2.fs)] := by
  intro t
  induction t with
  | zero =>
    intro i hi r hF hr
    refine v_iload_n O dX7_readInto_17 3 rfl ?_
    refine v_bipush (v := 10) O dX7_readInto_18 (by decide) ?_
    refine v_icmp_ge O 58 dX7_readInto_20 (by decide) (fun z1 => ?_) (fun z1 => ?_)
    · skip
      have z1 := (c_le' (x := nI (i + 1)) (y := 10) (a := i + 1) (b := 10) rfl rfl (by omega) (by omega)).mp z1
      refine v_iload_n O dX7_readInto_58 2 rfl ?_
      refine v_if_eq O 74 dX7_readInto_59 (by decide) (fun z4 => ?_) (fun z4 => ?_)
      · skip
        have z4 := b2i_0.mp z4
        refine v_aload_n O dX7_readInto_74 0 rfl ?_
        refine gf_X7_19 O rfl dX7_readInto_75 0 rfl rfl ?_
        exact v_ireturn O T rfl rfl (by decide) (by decide) dX7_readInto_78 (⟨by rw [hF]; unfold rdL; unfold fltP; rw [if_neg (fun z9 => absurd z9.1 z4)], by rw [hF]; unfold rdL; rfl⟩)
      · skip
        have z4 := b2i_1.mp z4
        refine v_aload_n O dX7_readInto_62 0 rfl ?_
        refine gf_X7_22 O rfl dX7_readInto_63 0 rfl rfl ?_
        refine v_iconst (v := -1) O dX7_readInto_66 (by decide) ?_
        refine v_icmp_ne O 74 dX7_readInto_67 (by decide) (fun z5 => ?_) (fun z5 => ?_)
        · skip
          refine v_aload_n O dX7_readInto_74 0 rfl ?_
          refine gf_X7_19 O rfl dX7_readInto_75 0 rfl rfl ?_
          exact v_ireturn O T rfl rfl (by decide) (by decide) dX7_readInto_78 (⟨by rw [hF]; unfold rdL; unfold fltP; rw [if_neg (fun z9 => absurd z9.2 z5)], by rw [hF]; unfold rdL; rfl⟩)
        · skip
          refine v_iconst (v := -1) O dX7_readInto_70 (by decide) ?_
          refine v_goto O 78 dX7_readInto_71 (by decide) ?_
          exact v_ireturn O T rfl rfl (by decide) (by decide) dX7_readInto_78 (⟨by rw [hF]; unfold rdL; unfold fltP; rw [if_pos ⟨z4, z5⟩], by rw [hF]; unfold rdL; rfl⟩)
    · skip
      have z1 := (not_congr (c_le' (x := nI (i + 1)) (y := 10) (a := i + 1) (b := 10) rfl rfl (by omega) (by omega))).mp z1
      exact absurd z1 (by omega)
  | succ t ih =>
    intro i hi r hF hr
    refine v_iload_n O dX7_readInto_17 3 rfl ?_
    refine v_bipush (v := 10) O dX7_readInto_18 (by decide) ?_
    refine v_icmp_ge O 58 dX7_readInto_20 (by decide) (fun z1 => ?_) (fun z1 => ?_)
    · skip
      have z1 := (c_le' (x := nI (i + 1)) (y := 10) (a := i + 1) (b := 10) rfl rfl (by omega) (by omega)).mp z1
      exact absurd z1 (by omega)
    · skip
      have z1 := (not_congr (c_le' (x := nI (i + 1)) (y := 10) (a := i + 1) (b := 10) rfl rfl (by omega) (by omega))).mp z1
      refine v_iload_n O dX7_readInto_23 2 rfl ?_
      refine v_if_eq O 58 dX7_readInto_24 (by decide) (fun z2 => ?_) (fun z2 => ?_)
      · skip
        have z2 := b2i_0.mp z2
        refine v_iload_n O dX7_readInto_58 2 rfl ?_
        refine v_if_eq O 74 dX7_readInto_59 (by decide) (fun z4 => ?_) (fun z4 => ?_)
        · skip
          have z4 := b2i_0.mp z4
          refine v_aload_n O dX7_readInto_74 0 rfl ?_
          refine gf_X7_19 O rfl dX7_readInto_75 0 rfl rfl ?_
          exact v_ireturn O T rfl rfl (by decide) (by decide) dX7_readInto_78 (⟨by rw [hF, rdL_n (fun z9 => absurd z9.1 z2)]; unfold fltP; rw [if_neg (fun z9 => absurd z9.1 z4)], by rw [hF, rdL_n (fun z9 => absurd z9.1 z2)]⟩)
        · skip
          have z4 := b2i_1.mp z4
          refine v_aload_n O dX7_readInto_62 0 rfl ?_
          refine gf_X7_22 O rfl dX7_readInto_63 0 rfl rfl ?_
          refine v_iconst (v := -1) O dX7_readInto_66 (by decide) ?_
          refine v_icmp_ne O 74 dX7_readInto_67 (by decide) (fun z5 => ?_) (fun z5 => ?_)
          · skip
            refine v_aload_n O dX7_readInto_74 0 rfl ?_
            refine gf_X7_19 O rfl dX7_readInto_75 0 rfl rfl ?_
            exact v_ireturn O T rfl rfl (by decide) (by decide) dX7_readInto_78 (⟨by rw [hF, rdL_n (fun z9 => absurd z9.1 z2)]; unfold fltP; rw [if_neg (fun z9 => absurd z9.2 z5)], by rw [hF, rdL_n (fun z9 => absurd z9.1 z2)]⟩)
          · skip
            refine v_iconst (v := -1) O dX7_readInto_70 (by decide) ?_
            refine v_goto O 78 dX7_readInto_71 (by decide) ?_
            exact v_ireturn O T rfl rfl (by decide) (by decide) dX7_readInto_78 (⟨by rw [hF, rdL_n (fun z9 => absurd z9.1 z2)]; unfold fltP; rw [if_pos ⟨z4, z5⟩], by rw [hF, rdL_n (fun z9 => absurd z9.1 z2)]⟩)
      · skip
        have z2 := b2i_1.mp z2
        refine v_aload_n O dX7_readInto_27 0 rfl ?_
        refine gf_X7_22 O rfl dX7_readInto_28 0 rfl rfl ?_
        refine v_bipush (v := 59) O dX7_readInto_31 (by decide) ?_
        refine v_icmp_ne O 58 dX7_readInto_33 (by decide) (fun z3 => ?_) (fun z3 => ?_)
        · skip
          refine v_iload_n O dX7_readInto_58 2 rfl ?_
          refine v_if_eq O 74 dX7_readInto_59 (by decide) (fun z4 => ?_) (fun z4 => ?_)
          · skip
            have z4 := b2i_0.mp z4
            refine v_aload_n O dX7_readInto_74 0 rfl ?_
            refine gf_X7_19 O rfl dX7_readInto_75 0 rfl rfl ?_
            exact v_ireturn O T rfl rfl (by decide) (by decide) dX7_readInto_78 (⟨by rw [hF, rdL_n (fun z9 => absurd z9.2 z3)]; unfold fltP; rw [if_neg (fun z9 => absurd z9.1 z4)], by rw [hF, rdL_n (fun z9 => absurd z9.2 z3)]⟩)
          · skip
            have z4 := b2i_1.mp z4
            refine v_aload_n O dX7_readInto_62 0 rfl ?_
            refine gf_X7_22 O rfl dX7_readInto_63 0 rfl rfl ?_
            refine v_iconst (v := -1) O dX7_readInto_66 (by decide) ?_
            refine v_icmp_ne O 74 dX7_readInto_67 (by decide) (fun z5 => ?_) (fun z5 => ?_)
            · skip
              refine v_aload_n O dX7_readInto_74 0 rfl ?_
              refine gf_X7_19 O rfl dX7_readInto_75 0 rfl rfl ?_
              exact v_ireturn O T rfl rfl (by decide) (by decide) dX7_readInto_78 (⟨by rw [hF, rdL_n (fun z9 => absurd z9.2 z3)]; unfold fltP; rw [if_neg (fun z9 => absurd z9.2 z5)], by rw [hF, rdL_n (fun z9 => absurd z9.2 z3)]⟩)
            · skip
              refine v_iconst (v := -1) O dX7_readInto_70 (by decide) ?_
              refine v_goto O 78 dX7_readInto_71 (by decide) ?_
              exact v_ireturn O T rfl rfl (by decide) (by decide) dX7_readInto_78 (⟨by rw [hF, rdL_n (fun z9 => absurd z9.2 z3)]; unfold fltP; rw [if_pos ⟨z4, z5⟩], by rw [hF, rdL_n (fun z9 => absurd z9.2 z3)]⟩)
        · skip
          have z_p := sgT_lt z3 (by decide)
          have z_g := cls_ok (tb := tb) hln (show r.1 + 1 ≤ ln from z_p) hr.2.2.2 (by omega)
          refine v_aload_n O dX7_readInto_36 0 rfl ?_
          refine v_aload_n O dX7_readInto_37 0 rfl ?_
          refine gf_X7_19 O rfl dX7_readInto_38 0 rfl rfl ?_
          refine v_iconst (v := 1) O dX7_readInto_41 (by decide) ?_
          refine v_iadd O dX7_readInto_42 ?_
          refine v_top (y := nI (r.1 + 1)) (nI_add r.1 1) ?_
          refine v_cV (T := TX7) (ci := 7) (As := [.int (nI (r.1 + 1))]) (wr := [(vg, .inr (6, [.int (nI r.2.2.sh), .int (nI r.2.2.mo), .int (nI r.2.2.ov), .int (nI r.2.2.nr), .ref io, .ref am, .ref en, .int (nI r.2.2.nl), .ref sp])), (io, eZ D 10 r.2.2.fo), (am, eI D 10 r.2.2.fa), (en, eI D 10 r.2.2.fe), (sp, eI D 100 r.2.2.fs)]) (st := []) O cf_X7_30 rfl (sp_X7_goTo (txo := txo) (tsg := tsg) (ln := ln) (tb := tb) (pl := (nI r.1)) (si := ((sgT tb ln) r.1)) (q := (r.1 + 1)) (hln) (by omega)) dX7_readInto_43 rfl rfl 0 rfl [0, 1] [2, 3, 4, 5, 6] (by decide) rfl rfl (by decide) (by decide) (by decide) (Nat.le_of_ble_eq_true rfl) (by decide) (by decide) (fun r_2 w_3 h_1 => ?_)
          obtain ⟨rfl, rfl⟩ := h_1
          refine v_eq (st' := []) (ws' := [(vg, .inr (6, [.int (nI r.2.2.sh), .int (nI r.2.2.mo), .int (nI r.2.2.ov), .int (nI r.2.2.nr), .ref io, .ref am, .ref en, .int (nI r.2.2.nl), .ref sp])), (io, eZ D 10 r.2.2.fo), (am, eI D 10 r.2.2.fa), (en, eI D 10 r.2.2.fe), (sp, eI D 100 r.2.2.fs), (txo, .inr (7, [.ref tsg, .int (nI ln), .int (nI (r.1 + 1)), .int ((sgT tb ln) (r.1 + 1))])), (tsg, eB D 100 tb)]) rfl rfl rfl rfl ?_
          refine v_aload_n O dX7_readInto_46 0 rfl ?_
          refine v_aload_n O dX7_readInto_47 1 rfl ?_
          refine v_cV (T := TX7) (ci := 7) (As := [.ref vg]) (wr := []) (st := []) O cf_X7_34 rfl (sp_X7_clause (txo := txo) (tsg := tsg) (ln := ln) (tb := tb) (vg := vg) (io := io) (am := am) (en := en) (sp := sp) (v := r.2.2) (p := (r.1 + 1)) (hln) (by omega) (by omega) (by omega) (hr.2.2.2.1)) dX7_readInto_48 rfl rfl 5 rfl [5, 6, 0, 1, 2, 3, 4] [] (by decide) rfl rfl (by decide) (by decide) (by decide) (Nat.le_of_ble_eq_true rfl) (by decide) (by decide) (fun r_5 w_6 h_4 => ?_)
          obtain ⟨rfl, rfl⟩ := h_4
          refine v_eq (st' := [.int (b2i ((clsP (sgT tb ln) (r.1 + 1) r.2.2).2.1 = true))]) (ws' := [(txo, .inr (7, [.ref tsg, .int (nI ln), .int (nI ((clsP (sgT tb ln) (r.1 + 1) r.2.2).1)), .int ((sgT tb ln) ((clsP (sgT tb ln) (r.1 + 1) r.2.2).1))])), (tsg, eB D 100 tb), (vg, .inr (6, [.int (nI ((clsP (sgT tb ln) (r.1 + 1) r.2.2).2.2.sh)), .int (nI ((clsP (sgT tb ln) (r.1 + 1) r.2.2).2.2.mo)), .int (nI ((clsP (sgT tb ln) (r.1 + 1) r.2.2).2.2.ov)), .int (nI ((clsP (sgT tb ln) (r.1 + 1) r.2.2).2.2.nr)), .ref io, .ref am, .ref en, .int (nI ((clsP (sgT tb ln) (r.1 + 1) r.2.2).2.2.nl)), .ref sp])), (io, eZ D 10 ((clsP (sgT tb ln) (r.1 + 1) r.2.2).2.2.fo)), (am, eI D 10 ((clsP (sgT tb ln) (r.1 + 1) r.2.2).2.2.fa)), (en, eI D 10 ((clsP (sgT tb ln) (r.1 + 1) r.2.2).2.2.fe)), (sp, eI D 100 ((clsP (sgT tb ln) (r.1 + 1) r.2.2).2.2.fs))]) rfl rfl rfl rfl ?_
          refine v_istore_n (lv' := [(0, .ref txo), (1, .ref vg), (2, .int (b2i ((clsP (sgT tb ln) (r.1 + 1) r.2.2).2.1 = true))), (3, .int (nI (i + 1)))]) O dX7_readInto_51 (by decide) rfl ?_
          refine v_iinc (v := nI (i + 1 + 1)) (lv' := [(0, .ref txo), (1, .ref vg), (2, .int (b2i ((clsP (sgT tb ln) (r.1 + 1) r.2.2).2.1 = true))), (3, .int (nI (i + 1 + 1)))]) O dX7_readInto_52 3 rfl (nI_1 (i + 1)) (by decide) rfl ?_
          refine v_goto O 17 dX7_readInto_55 (by decide) ?_
          exact ih (i + 1) (by omega) (clsP (sgT tb ln) (r.1 + 1) r.2.2) (by rw [hF, rdL_s ⟨z2, z3⟩]) ⟨z_g.2.1, z_g.2.2.1, by omega, z_g.2.2.2.2⟩
set_option maxRecDepth 100000 in
set_option maxHeartbeats 4000000 in
theorem sp_X7_readInto {D : G} {txo : Nat} {tsg : Nat} {ln : Nat} {tb : Nat → Int32} {vg : Nat} {io : Nat} {am : Nat} {en : Nat} {sp : Nat} {v : VS} {pl : Int32} {si : Int32} (hln : ln ≤ 100) : Sp D mX7_readInto 25 0 0 [.ref txo, .ref vg] [(txo, .inr (7, [.ref tsg, .int (nI ln), .int pl, .int si])), (tsg, eB D 100 tb), (vg, .inr (6, [.int (nI v.sh), .int (nI v.mo), .int (nI v.ov), .int (nI v.nr), .ref io, .ref am, .ref en, .int (nI v.nl), .ref sp])), (io, eZ D 10 v.fo), (am, eI D 10 v.fa), (en, eI D 10 v.fe), (sp, eI D 100 v.fs)] (fun r w => r = some (.int (fltP (sgT tb ln) (redP (sgT tb ln) v))) ∧ w = [(txo, .inr (7, [.ref tsg, .int (nI ln), .int (nI ((redP (sgT tb ln) v).1)), .int ((sgT tb ln) ((redP (sgT tb ln) v).1))])), (tsg, eB D 100 tb), (vg, .inr (6, [.int (nI ((redP (sgT tb ln) v).2.2.sh)), .int (nI ((redP (sgT tb ln) v).2.2.mo)), .int (nI ((redP (sgT tb ln) v).2.2.ov)), .int (nI ((redP (sgT tb ln) v).2.2.nr)), .ref io, .ref am, .ref en, .int (nI ((redP (sgT tb ln) v).2.2.nl)), .ref sp])), (io, eZ D 10 ((redP (sgT tb ln) v).2.2.fo)), (am, eI D 10 ((redP (sgT tb ln) v).2.2.fa)), (en, eI D 10 ((redP (sgT tb ln) v).2.2.fe)), (sp, eI D 100 ((redP (sgT tb ln) v).2.2.fs))]) := by
  refine Sp.of (by decide) (Nat.le_of_ble_eq_true rfl) (fun X O T => ?_)
  refine v_eq (lv' := [(0, .ref txo), (1, .ref vg)]) rfl rfl rfl rfl ?_
  have z_g := cls_ok (tb := tb) hln (Nat.zero_le ln) (vok_0 (v := v)) (Nat.le_refl _)
  refine v_aload_n O dX7_readInto_0 1 rfl ?_
  refine v_cV (T := TX6) (ci := 6) (As := []) (wr := [(txo, .inr (7, [.ref tsg, .int (nI ln), .int pl, .int si])), (tsg, eB D 100 tb), (io, eZ D 10 v.fo), (am, eI D 10 v.fa), (en, eI D 10 v.fe), (sp, eI D 100 v.fs)]) (st := []) O cf_X7_25 rfl (sp_X6_clear (vg := vg) (sh := v.sh) (mo := v.mo) (ov := v.ov) (nr := v.nr) (io := io) (am := am) (en := en) (nl := v.nl) (sp := sp) ) dX7_readInto_1 rfl rfl 2 rfl [2] [0, 1, 3, 4, 5, 6] (by decide) rfl rfl (by decide) (by decide) (by decide) (Nat.le_of_ble_eq_true rfl) (by decide) (by decide) (fun r_2 w_3 h_1 => ?_)
  obtain ⟨rfl, rfl⟩ := h_1
  refine v_eq (st' := []) (ws' := [(txo, .inr (7, [.ref tsg, .int (nI ln), .int pl, .int si])), (tsg, eB D 100 tb), (io, eZ D 10 v.fo), (am, eI D 10 v.fa), (en, eI D 10 v.fe), (sp, eI D 100 v.fs), (vg, .inr (6, [.int 3, .int 1, .int 0, .int 0, .ref io, .ref am, .ref en, .int 0, .ref sp]))]) rfl rfl rfl rfl ?_
  refine v_aload_n O dX7_readInto_4 0 rfl ?_
  refine v_iconst (v := 0) O dX7_readInto_5 (by decide) ?_
  refine v_cV (T := TX7) (ci := 7) (As := [.int 0]) (wr := [(io, eZ D 10 v.fo), (am, eI D 10 v.fa), (en, eI D 10 v.fe), (sp, eI D 100 v.fs), (vg, .inr (6, [.int 3, .int 1, .int 0, .int 0, .ref io, .ref am, .ref en, .int 0, .ref sp]))]) (st := []) O cf_X7_30 rfl (sp_X7_goTo (txo := txo) (tsg := tsg) (ln := ln) (tb := tb) (pl := pl) (si := si) (q := 0) (hln) (by omega)) dX7_readInto_6 rfl rfl 0 rfl [0, 1] [2, 3, 4, 5, 6] (by decide) rfl rfl (by decide) (by decide) (by decide) (Nat.le_of_ble_eq_true rfl) (by decide) (by decide) (fun r_5 w_6 h_4 => ?_)
  obtain ⟨rfl, rfl⟩ := h_4
  refine v_eq (st' := []) (ws' := [(io, eZ D 10 v.fo), (am, eI D 10 v.fa), (en, eI D 10 v.fe), (sp, eI D 100 v.fs), (vg, .inr (6, [.int 3, .int 1, .int 0, .int 0, .ref io, .ref am, .ref en, .int 0, .ref sp])), (txo, .inr (7, [.ref tsg, .int (nI ln), .int (nI 0), .int ((sgT tb ln) 0)])), (tsg, eB D 100 tb)]) rfl rfl rfl rfl ?_
  refine v_aload_n O dX7_readInto_9 0 rfl ?_
  refine v_aload_n O dX7_readInto_10 1 rfl ?_
  refine v_cV (T := TX7) (ci := 7) (As := [.ref vg]) (wr := []) (st := []) O cf_X7_34 rfl (sp_X7_clause (txo := txo) (tsg := tsg) (ln := ln) (tb := tb) (vg := vg) (io := io) (am := am) (en := en) (sp := sp) (v := (v0 v)) (p := 0) (hln) (Nat.zero_le _) (Nat.le_refl _) ((by decide : 0 < 10)) (Nat.le_refl _)) dX7_readInto_11 rfl rfl 5 rfl [5, 6, 4, 0, 1, 2, 3] [] (by decide) rfl rfl (by decide) (by decide) (by decide) (Nat.le_of_ble_eq_true rfl) (by decide) (by decide) (fun r_8 w_9 h_7 => ?_)
  obtain ⟨rfl, rfl⟩ := h_7
  refine v_eq (st' := [.int (b2i ((clsP (sgT tb ln) 0 (v0 v)).2.1 = true))]) (ws' := [(txo, .inr (7, [.ref tsg, .int (nI ln), .int (nI ((clsP (sgT tb ln) 0 (v0 v)).1)), .int ((sgT tb ln) ((clsP (sgT tb ln) 0 (v0 v)).1))])), (tsg, eB D 100 tb), (vg, .inr (6, [.int (nI ((clsP (sgT tb ln) 0 (v0 v)).2.2.sh)), .int (nI ((clsP (sgT tb ln) 0 (v0 v)).2.2.mo)), .int (nI ((clsP (sgT tb ln) 0 (v0 v)).2.2.ov)), .int (nI ((clsP (sgT tb ln) 0 (v0 v)).2.2.nr)), .ref io, .ref am, .ref en, .int (nI ((clsP (sgT tb ln) 0 (v0 v)).2.2.nl)), .ref sp])), (io, eZ D 10 ((clsP (sgT tb ln) 0 (v0 v)).2.2.fo)), (am, eI D 10 ((clsP (sgT tb ln) 0 (v0 v)).2.2.fa)), (en, eI D 10 ((clsP (sgT tb ln) 0 (v0 v)).2.2.fe)), (sp, eI D 100 ((clsP (sgT tb ln) 0 (v0 v)).2.2.fs))]) rfl rfl rfl rfl ?_
  refine v_istore_n (lv' := [(0, .ref txo), (1, .ref vg), (2, .int (b2i ((clsP (sgT tb ln) 0 (v0 v)).2.1 = true)))]) O dX7_readInto_14 (by decide) rfl ?_
  refine v_iconst (v := 1) O dX7_readInto_15 (by decide) ?_
  refine v_istore_n (lv' := [(0, .ref txo), (1, .ref vg), (2, .int (b2i ((clsP (sgT tb ln) 0 (v0 v)).2.1 = true))), (3, .int 1)]) O dX7_readInto_16 (by decide) rfl ?_
  refine v_eq (lv' := [(0, .ref txo), (1, .ref vg), (2, .int (b2i ((clsP (sgT tb ln) 0 (v0 v)).2.1 = true))), (3, .int (nI (0 + 1)))]) rfl rfl rfl rfl ?_
  exact l_X7_read O hln T 9 0 (by omega) (clsP (sgT tb ln) 0 (v0 v)) rfl ⟨z_g.2.1, z_g.2.2.1, by have := z_g.2.2.2.1; exact this, z_g.2.2.2.2⟩
set_option maxRecDepth 100000 in
set_option maxHeartbeats 4000000 in
theorem sp_X7_size {D : G} {txo : Nat} {tsg : Nat} {ln : Nat} {tb : Nat → Int32} {pl : Int32} {si : Int32} : Sp D mX7_size 0 0 0 [.ref txo] [(txo, .inr (7, [.ref tsg, .int (nI ln), .int pl, .int si]))] (fun r w => r = some (.int (nI ln)) ∧ w = [(txo, .inr (7, [.ref tsg, .int (nI ln), .int pl, .int si]))]) := by
  refine Sp.of (by decide) (Nat.le_of_ble_eq_true rfl) (fun X O T => ?_)
  refine v_eq (lv' := [(0, .ref txo)]) rfl rfl rfl rfl ?_
  refine v_aload_n O dX7_size_0 0 rfl ?_
  refine gf_X7_15 O rfl dX7_size_1 0 rfl rfl ?_
  exact v_ireturn O T rfl rfl (by decide) (by decide) dX7_size_4 (⟨rfl, rfl⟩)
set_option maxRecDepth 100000 in
set_option maxHeartbeats 4000000 in
theorem sp_X7_clear {D : G} {txo : Nat} {tsg : Nat} {ln : Nat} {tb : Nat → Int32} {pl : Int32} {si : Int32} : Sp D mX7_clear 0 0 0 [.ref txo] [(txo, .inr (7, [.ref tsg, .int (nI ln), .int pl, .int si]))] (fun r w => r = none ∧ w = [(txo, .inr (7, [.ref tsg, .int 0, .int pl, .int si]))]) := by
  refine Sp.of (by decide) (Nat.le_of_ble_eq_true rfl) (fun X O T => ?_)
  refine v_eq (lv' := [(0, .ref txo)]) rfl rfl rfl rfl ?_
  refine v_aload_n O dX7_clear_0 0 rfl ?_
  refine v_iconst (v := 0) O dX7_clear_1 (by decide) ?_
  refine pf_X7_15 (fs' := [.ref tsg, .int 0, .int pl, .int si]) (ws' := [(txo, .inr (7, [.ref tsg, .int 0, .int pl, .int si]))]) O rfl dX7_clear_2 0 rfl (Nat.le_of_ble_eq_true rfl) rfl rfl ?_
  exact v_return O T rfl (by decide) (by decide) dX7_clear_5 (⟨rfl, rfl⟩)
theorem byt_n : ∀ x : Fin 128, vp_nar .byte ((nI x.val).toInt8.toInt32) = nI x.val := by decide +kernel
set_option maxRecDepth 100000 in
set_option maxHeartbeats 4000000 in
theorem sp_X7_add_t {D : G} {txo : Nat} {tsg : Nat} {ln : Nat} {tb : Nat → Int32} {pl : Int32} {si : Int32} {x : Nat} (hx : x ≤ 127) (hln : ln < 100) : Sp D mX7_add 0 0 0 [.ref txo, .int (nI x)] [(txo, .inr (7, [.ref tsg, .int (nI ln), .int pl, .int si])), (tsg, eB D 100 tb)] (fun r w => r = some (.int 1) ∧ w = [(txo, .inr (7, [.ref tsg, .int (nI (ln + 1)), .int pl, .int si])), (tsg, eB D 100 (upd tb ln (nI x)))]) := by
  refine Sp.of (by decide) (Nat.le_of_ble_eq_true rfl) (fun X O T => ?_)
  refine v_eq (lv' := [(0, .ref txo), (1, .int (nI x))]) rfl rfl rfl rfl ?_
  refine v_aload_n O dX7_add_0 0 rfl ?_
  refine gf_X7_15 O rfl dX7_add_1 0 rfl rfl ?_
  refine v_if_lt O 16 dX7_add_4 (by decide) (fun z1 => ?_) (fun z1 => ?_)
  · skip
    have z1 := (c_lt (x := nI ln) (y := 0) (a := ln) (b := 0) rfl rfl (by omega) (by omega)).mp z1
    exact absurd z1 (by omega)
  · skip
    have z1 := (not_congr (c_lt (x := nI ln) (y := 0) (a := ln) (b := 0) rfl rfl (by omega) (by omega))).mp z1
    refine v_aload_n O dX7_add_7 0 rfl ?_
    refine gf_X7_15 O rfl dX7_add_8 0 rfl rfl ?_
    refine v_bipush (v := 100) O dX7_add_11 (by decide) ?_
    refine v_icmp_lt O 18 dX7_add_13 (by decide) (fun z2 => ?_) (fun z2 => ?_)
    · skip
      have z2 := (c_lt (x := nI ln) (y := 100) (a := ln) (b := 100) rfl rfl (by omega) (by omega)).mp z2
      refine v_aload_n O dX7_add_18 0 rfl ?_
      refine gf_X7_9 O rfl dX7_add_19 0 rfl rfl ?_
      refine v_aload_n O dX7_add_22 0 rfl ?_
      refine gf_X7_15 O rfl dX7_add_23 0 rfl rfl ?_
      refine v_iload_n O dX7_add_26 1 rfl ?_
      refine v_i2b O dX7_add_27 ?_
      refine v_bastk (ws' := [(txo, .inr (7, [.ref tsg, .int (nI ln), .int pl, .int si])), (tsg, eB D 100 (upd tb ln (nI x)))]) O dX7_add_28 1 rfl ln (rfl) (by omega) (by decide) (by rw [byt_n ⟨x, by omega⟩]; rfl) ?_
      refine v_aload_n O dX7_add_29 0 rfl ?_
      refine v_dup O dX7_add_30 rfl ?_
      refine gf_X7_15 O rfl dX7_add_31 0 rfl rfl ?_
      refine v_iconst (v := 1) O dX7_add_34 (by decide) ?_
      refine v_iadd O dX7_add_35 ?_
      refine v_top (y := nI (ln + 1)) (nI_add ln 1) ?_
      refine pf_X7_15 (fs' := [.ref tsg, .int (nI (ln + 1)), .int pl, .int si]) (ws' := [(txo, .inr (7, [.ref tsg, .int (nI (ln + 1)), .int pl, .int si])), (tsg, eB D 100 (upd tb ln (nI x)))]) O rfl dX7_add_36 0 rfl (Nat.le_of_ble_eq_true rfl) rfl rfl ?_
      refine v_iconst (v := 1) O dX7_add_39 (by decide) ?_
      exact v_ireturn O T rfl rfl (by decide) (by decide) dX7_add_40 (⟨rfl, rfl⟩)
    · skip
      have z2 := (not_congr (c_lt (x := nI ln) (y := 100) (a := ln) (b := 100) rfl rfl (by omega) (by omega))).mp z2
      exact absurd z2 (by omega)
set_option maxRecDepth 100000 in
set_option maxHeartbeats 4000000 in
theorem sp_X7_add_f {D : G} {txo : Nat} {tsg : Nat} {ln : Nat} {tb : Nat → Int32} {pl : Int32} {si : Int32} {x : Nat} (hx : x ≤ 127) (hln : ln = 100) : Sp D mX7_add 0 0 0 [.ref txo, .int (nI x)] [(txo, .inr (7, [.ref tsg, .int (nI ln), .int pl, .int si])), (tsg, eB D 100 tb)] (fun r w => r = some (.int 0) ∧ w = [(txo, .inr (7, [.ref tsg, .int (nI ln), .int pl, .int si])), (tsg, eB D 100 tb)]) := by
  refine Sp.of (by decide) (Nat.le_of_ble_eq_true rfl) (fun X O T => ?_)
  refine v_eq (lv' := [(0, .ref txo), (1, .int (nI x))]) rfl rfl rfl rfl ?_
  refine v_aload_n O dX7_add_0 0 rfl ?_
  refine gf_X7_15 O rfl dX7_add_1 0 rfl rfl ?_
  refine v_if_lt O 16 dX7_add_4 (by decide) (fun z1 => ?_) (fun z1 => ?_)
  · skip
    have z1 := (c_lt (x := nI ln) (y := 0) (a := ln) (b := 0) rfl rfl (by omega) (by omega)).mp z1
    exact absurd z1 (by omega)
  · skip
    have z1 := (not_congr (c_lt (x := nI ln) (y := 0) (a := ln) (b := 0) rfl rfl (by omega) (by omega))).mp z1
    refine v_aload_n O dX7_add_7 0 rfl ?_
    refine gf_X7_15 O rfl dX7_add_8 0 rfl rfl ?_
    refine v_bipush (v := 100) O dX7_add_11 (by decide) ?_
    refine v_icmp_lt O 18 dX7_add_13 (by decide) (fun z2 => ?_) (fun z2 => ?_)
    · skip
      have z2 := (c_lt (x := nI ln) (y := 100) (a := ln) (b := 100) rfl rfl (by omega) (by omega)).mp z2
      exact absurd z2 (by omega)
    · skip
      have z2 := (not_congr (c_lt (x := nI ln) (y := 100) (a := ln) (b := 100) rfl rfl (by omega) (by omega))).mp z2
      refine v_iconst (v := 0) O dX7_add_16 (by decide) ?_
      exact v_ireturn O T rfl rfl (by decide) (by decide) dX7_add_17 (⟨rfl, rfl⟩)
