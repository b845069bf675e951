-- OneForDog$VillageText
def sgT (tb : Nat → Int32) (ln p : Nat) : Int32 := if p < ln then tb p else -1
theorem sgT_i {tb : Nat → Int32} {ln p : Nat} (h : p < ln) : sgT tb ln p = tb p := by unfold sgT; rw [if_pos h]
theorem sgT_o {tb : Nat → Int32} {ln p : Nat} (h : ¬ p < ln) : sgT tb ln p = -1 := by unfold sgT; rw [if_neg h]
theorem sgT_lt {tb : Nat → Int32} {ln p : Nat} {c : Int32} (h : sgT tb ln p = c) (hc : ¬ c = -1) : p < ln := by
  rcases Nat.lt_or_ge p ln with z | z
  · exact z
  · rw [sgT_o (by omega)] at h; exact absurd h.symm hc
abbrev isd (x : Int32) : Prop := 48 ≤ x ∧ x ≤ 57
def dgN (x : Int32) : Nat := (x - 48).toNatClampNeg
theorem dg_n {x : Int32} (h : isd x) : x - 48 = nI (dgN x) ∧ dgN x ≤ 9 := by
  obtain ⟨n, hn, rfl⟩ := nI_of (show ¬ x < 0 from fun z => Int32.lt_irrefl (Int32.lt_of_lt_of_le z (Int32.le_trans (show (0 : Int32) ≤ 48 by decide) h.1)))
  have h1 : 48 ≤ n := (c_le (x := 48) (y := nI n) (a := 48) (b := n) rfl rfl (by omega) hn).mp h.1
  have h2 : n ≤ 57 := (c_le (x := nI n) (y := 57) (a := n) (b := 57) rfl rfl hn (by omega)).mp h.2
  have h3 : nI n - 48 = nI (n - 48) := pk_sub h1
  unfold dgN
  rw [h3, nI_clamp (by omega)]
  exact ⟨rfl, by omega⟩
theorem num_c {a : Nat} {y : Int32} (h : isd y) : nI a + y - 48 = nI (a + dgN y) := by
  rw [show nI a + y - 48 = nI a + (y - 48) by rw [Int32.sub_eq_add_neg, Int32.sub_eq_add_neg, Int32.add_assoc], (dg_n h).1, nI_add]
theorem isd_lt {tb : Nat → Int32} {ln p : Nat} (h : isd (sgT tb ln p)) : p < ln := by
  rcases Nat.lt_or_ge p ln with z | z
  · exact z
  · rw [sgT_o (by omega)] at h; exact absurd h.1 (by decide)
def numE (sg : Nat → Int32) (p : Nat) : Nat := if isd (sg (p + 1)) then p + 1 + 1 else p + 1
def numN (sg : Nat → Int32) (p : Nat) : Nat := if isd (sg (p + 1)) then dgN (sg p) * 10 + dgN (sg (p + 1)) else dgN (sg p)
theorem numN_le {sg : Nat → Int32} {p : Nat} (h : isd (sg p)) : numN sg p ≤ 99 := by
  unfold numN
  have := (dg_n h).2
  split
  · rename_i z; have := (dg_n z).2; omega
  · omega
theorem numE_le {tb : Nat → Int32} {ln p : Nat} (h : isd (sgT tb ln p)) : p < numE (sgT tb ln) p ∧ numE (sgT tb ln) p ≤ ln := by
  have := isd_lt h
  unfold numE
  split
  · rename_i z; have := isd_lt z; omega
  · omega
def ixL (x : Int32) : Int32 := if (105 : Int32) = x then 0 else if (107 : Int32) = x then 1 else if (118 : Int32) = x then 2 else if (119 : Int32) = x then 3 else if (104 : Int32) = x then 4 else -1
def ixR (x : Int32) : Int32 := if (60 : Int32) = x then 0 else if (61 : Int32) = x then 1 else if (62 : Int32) = x then 2 else -1
def spl (sg : Nat → Int32) : List Int32 → Nat → Nat × Bool
  | [], p => (p, true)
  | c :: w, p => if sg p = c then spl sg w (p + 1) else (p, false)
theorem spl_le {tb : Nat → Int32} {ln : Nat} : ∀ {w : List Int32} {p : Nat}, (∀ c, c ∈ w → ¬ c = -1) → p ≤ ln → p ≤ (spl (sgT tb ln) w p).1 ∧ (spl (sgT tb ln) w p).1 ≤ ln
  | [], p, _, hp => ⟨Nat.le_refl _, hp⟩
  | c :: w, p, h, hp => by
    unfold spl
    split
    · rename_i z
      have h1 := sgT_lt z (h c List.mem_cons_self)
      have := spl_le (tb := tb) (ln := ln) (w := w) (p := p + 1) (fun c hc => h c (List.mem_cons_of_mem _ hc)) (by omega)
      omega
    · exact ⟨Nat.le_refl _, hp⟩
theorem nrb (q : Prop) : narrow .boolean (.int (b2i q)) = .int (b2i q) := by
  by_cases h : q
  · rw [b2i_t h]; rfl
  · rw [b2i_f h]; rfl
theorem bF : some (Value.int (0 : Int32)) = some (Value.int (b2i (false = true))) := by rw [b2i_f (by decide)]
theorem bT : some (Value.int (1 : Int32)) = some (Value.int (b2i (true = true))) := by rw [b2i_t rfl]
-- where the reading stands, whether it went, the steps that came
abbrev Res := Nat × Bool × List Int32
def wr (f : Nat → Int32) (n : Nat) : List Int32 → (Nat → Int32)
  | [] => f
  | x :: l => wr (upd f n x) (n + 1) l
theorem wr_app : ∀ {l k : List Int32} {f : Nat → Int32} {n : Nat}, wr f n (l ++ k) = wr (wr f n l) (n + l.length) k
  | [], k, f, n => rfl
  | x :: l, k, f, n => by
    show wr (upd f n x) (n + 1) (l ++ k) = wr (wr (upd f n x) (n + 1) l) (n + (l.length + 1)) k
    rw [wr_app, show n + 1 + l.length = n + (l.length + 1) by omega]
theorem wr_2 {l : List Int32} {f : Nat → Int32} {n : Nat} {x : Int32} : upd (wr f n l) (n + l.length) x = wr f n (l ++ [x]) := by rw [wr_app]; rfl
theorem wr_3 {l k : List Int32} {f : Nat → Int32} {n : Nat} {x : Int32} : upd (wr (wr f n l) (n + l.length) k) (n + l.length + k.length) x = wr f n (l ++ (k ++ [x])) := by rw [wr_app, wr_2]
theorem wl_2 {l : List Int32} {n : Nat} {x : Int32} : n + l.length + 1 = n + (l ++ [x]).length := by rw [List.length_append]; rfl
theorem wl_3 {l k : List Int32} {n : Nat} {x : Int32} : n + l.length + k.length + 1 = n + (l ++ (k ++ [x])).length := by rw [List.length_append, List.length_append]; show _ = n + (l.length + (k.length + 1)); omega
noncomputable def stp (sg : Nat → Int32) (p : Nat) : Int32 := (ixL (sg p) * 3 + ixR (sg (p + 1))) * 100 + nI (numN sg (p + 1 + 1))
noncomputable def tstP (sg : Nat → Int32) (p : Nat) : Res := if ixL (sg p) < 0 then (p, false, []) else if ixR (sg (p + 1)) < 0 then (p + 1, false, []) else if isd (sg (p + 1 + 1)) then (numE sg (p + 1 + 1), true, [stp sg p]) else (p + 1 + 1, false, [])
noncomputable def chn (g : Nat → Res) (sg : Nat → Int32) (c op : Int32) : Nat → Res → Res
  | 0, r => r
  | t + 1, r => if r.2.1 = true ∧ sg r.1 = c then chn g sg c op t ((g (r.1 + 1)).1, (g (r.1 + 1)).2.1, r.2.2 ++ ((g (r.1 + 1)).2.2 ++ [op])) else r
theorem chn_n {g : Nat → Res} {sg : Nat → Int32} {c op : Int32} {t : Nat} {r : Res} (h : ¬ (r.2.1 = true ∧ sg r.1 = c)) : chn g sg c op t r = r := by
  cases t with
  | zero => rfl
  | succ t => unfold chn; rw [if_neg h]
theorem chn_s {g : Nat → Res} {sg : Nat → Int32} {c op : Int32} {t : Nat} {r : Res} (h : r.2.1 = true ∧ sg r.1 = c) : chn g sg c op (t + 1) r = chn g sg c op t ((g (r.1 + 1)).1, (g (r.1 + 1)).2.1, r.2.2 ++ ((g (r.1 + 1)).2.2 ++ [op])) := by
  rw [chn, if_pos h]
noncomputable def botP (g : Nat → Res) (sg : Nat → Int32) (p : Nat) : Res := chn g sg 38 (-2) 100 (g p)
noncomputable def eitP (g : Nat → Res) (sg : Nat → Int32) (p : Nat) : Res := chn (botP g sg) sg 124 (-3) 100 (botP g sg p)
noncomputable def nesP (g : Nat → Res) (sg : Nat → Int32) (p : Nat) : Res := if sg p = 33 then ((g (p + 1)).1, (g (p + 1)).2.1, (g (p + 1)).2.2 ++ [-1]) else if (eitP g sg (p + 1)).2.1 = true ∧ sg (eitP g sg (p + 1)).1 = 41 then ((eitP g sg (p + 1)).1 + 1, true, (eitP g sg (p + 1)).2.2) else ((eitP g sg (p + 1)).1, false, (eitP g sg (p + 1)).2.2)
noncomputable def facP (sg : Nat → Int32) : Nat → Nat → Res
  | 0, p => if sg p = 40 ∨ sg p = 33 then (p, false, []) else tstP sg p
  | f + 1, p => if sg p = 40 ∨ sg p = 33 then nesP (facP sg f) sg p else tstP sg p
theorem facP_t {sg : Nat → Int32} {f p : Nat} (h : ¬ (sg p = 40 ∨ sg p = 33)) : facP sg f p = tstP sg p := by
  cases f with
  | zero => rw [facP, if_neg h]
  | succ f => rw [facP, if_neg h]
theorem facP_n {sg : Nat → Int32} {f p : Nat} (h : sg p = 40 ∨ sg p = 33) : facP sg (f + 1) p = nesP (facP sg f) sg p := by rw [facP, if_pos h]
theorem facP_0 {sg : Nat → Int32} {p : Nat} (h : sg p = 40 ∨ sg p = 33) : facP sg 0 p = (p, false, []) := by rw [facP, if_pos h]
-- steps come no faster than signs
def gOk (g : Nat → Res) (ln : Nat) : Prop := ∀ p, p ≤ ln → p + (g p).2.2.length ≤ (g p).1 ∧ (g p).1 ≤ ln
theorem tst_ok {tb : Nat → Int32} {ln : Nat} : gOk (tstP (sgT tb ln)) ln := fun p hp => by
  unfold tstP
  split
  · exact ⟨Nat.le_refl _, hp⟩
  · rename_i z1
    have h1 : p < ln := by
      rcases Nat.lt_or_ge p ln with z | z
      · exact z
      · rw [sgT_o (by omega)] at z1; exact absurd (by decide) z1
    split
    · exact ⟨Nat.le_succ _, h1⟩
    · rename_i z2
      have h2 : p + 1 < ln := by
        rcases Nat.lt_or_ge (p + 1) ln with z | z
        · exact z
        · rw [sgT_o (by omega)] at z2; exact absurd (by decide) z2
      split
      · rename_i z3
        have := numE_le z3
        exact ⟨by show p + 1 ≤ _; omega, this.2⟩
      · exact ⟨by show p + 0 ≤ p + 1 + 1; omega, by show p + 1 + 1 ≤ ln; omega⟩
theorem chn_ok {g : Nat → Res} {tb : Nat → Int32} {ln : Nat} {c op : Int32} (hg : gOk g ln) (hc : ¬ c = -1) (p : Nat) : ∀ (t : Nat) (r : Res), p + r.2.2.length ≤ r.1 ∧ r.1 ≤ ln → p + (chn g (sgT tb ln) c op t r).2.2.length ≤ (chn g (sgT tb ln) c op t r).1 ∧ (chn g (sgT tb ln) c op t r).1 ≤ ln
  | 0, r, h => h
  | t + 1, r, h => by
    by_cases z : r.2.1 = true ∧ sgT tb ln r.1 = c
    · rw [chn_s z]
      have h1 := sgT_lt z.2 hc
      have h2 := hg (r.1 + 1) (by omega)
      refine chn_ok hg hc p t _ ⟨?_, h2.2⟩
      show p + (r.2.2 ++ ((g (r.1 + 1)).2.2 ++ [op])).length ≤ (g (r.1 + 1)).1
      rw [List.length_append, List.length_append]
      show p + (r.2.2.length + ((g (r.1 + 1)).2.2.length + 1)) ≤ _
      omega
    · rw [chn_n z]; exact h
theorem bot_ok {g : Nat → Res} {tb : Nat → Int32} {ln : Nat} (hg : gOk g ln) : gOk (botP g (sgT tb ln)) ln := fun p hp => chn_ok hg (by decide) p 100 _ (hg p hp)
theorem eit_ok {g : Nat → Res} {tb : Nat → Int32} {ln : Nat} (hg : gOk g ln) : gOk (eitP g (sgT tb ln)) ln := fun p hp => chn_ok (bot_ok hg) (by decide) p 100 _ (bot_ok hg p hp)
theorem nes_ok {g : Nat → Res} {tb : Nat → Int32} {ln p : Nat} (hg : gOk g ln) (h : sgT tb ln p = 40 ∨ sgT tb ln p = 33) : p + (nesP g (sgT tb ln) p).2.2.length ≤ (nesP g (sgT tb ln) p).1 ∧ (nesP g (sgT tb ln) p).1 ≤ ln := by
  have hp : p < ln := by rcases h with h | h <;> exact sgT_lt h (by decide)
  have h2 := hg (p + 1) hp
  have h3 := eit_ok (tb := tb) hg (p + 1) hp
  unfold nesP
  split
  · refine ⟨?_, h2.2⟩
    show p + ((g (p + 1)).2.2 ++ [(-1 : Int32)]).length ≤ (g (p + 1)).1
    rw [List.length_append]
    show p + ((g (p + 1)).2.2.length + 1) ≤ _
    omega
  · split
    · rename_i z
      have := sgT_lt z.2 (by decide)
      exact ⟨by show p + (eitP g (sgT tb ln) (p + 1)).2.2.length ≤ (eitP g (sgT tb ln) (p + 1)).1 + 1; omega, this⟩
    · exact ⟨by show p + (eitP g (sgT tb ln) (p + 1)).2.2.length ≤ (eitP g (sgT tb ln) (p + 1)).1; omega, h3.2⟩
theorem fac_ok {tb : Nat → Int32} {ln : Nat} : ∀ f : Nat, gOk (facP (sgT tb ln) f) ln
  | 0 => fun p hp => by
    by_cases z : sgT tb ln p = 40 ∨ sgT tb ln p = 33
    · rw [facP_0 z]; exact ⟨Nat.le_refl _, hp⟩
    · rw [facP_t z]; exact tst_ok p hp
  | f + 1 => fun p hp => by
    by_cases z : sgT tb ln p = 40 ∨ sgT tb ln p = 33
    · rw [facP_n z]; exact nes_ok (fac_ok f) z
    · rw [facP_t z]; exact tst_ok p hp
set_option maxRecDepth 100000 in
set_option maxHeartbeats 4000000 in
theorem sp_X7_goTo {D : G} {txo : Nat} {tsg : Nat} {ln : Nat} {tb : Nat → Int32} {pl : Int32} {si : Int32} {q : Nat} (hln : ln ≤ 100) (hq : q < 1000) : Sp D mX7_goTo 0 0 0 [.ref txo, .int (nI q)] [(txo, .inr (7, [.ref tsg, .int (nI ln), .int pl, .int si])), (tsg, eB D 100 tb)] (fun r w => r = none ∧ w = [(txo, .inr (7, [.ref tsg, .int (nI ln), .int (nI q), .int ((sgT tb ln) q)])), (tsg, eB D 100 tb)]) := by
  refine Sp.of (by decide) (Nat.le_of_ble_eq_true rfl) (fun X O T => ?_)
  refine v_eq (lv' := [(0, .ref txo), (1, .int (nI q))]) rfl rfl rfl rfl ?_
  refine v_aload_n O dX7_goTo_0 0 rfl ?_
  refine v_iload_n O dX7_goTo_1 1 rfl ?_
  refine pf_X7_19 (fs' := [.ref tsg, .int (nI ln), .int (nI q), .int si]) (ws' := [(txo, .inr (7, [.ref tsg, .int (nI ln), .int (nI q), .int si])), (tsg, eB D 100 tb)]) O rfl dX7_goTo_2 0 rfl (Nat.le_of_ble_eq_true rfl) rfl rfl ?_
  refine v_aload_n O dX7_goTo_5 0 rfl ?_
  refine v_iload_n O dX7_goTo_6 1 rfl ?_
  refine v_if_lt O 33 dX7_goTo_7 (by decide) (fun c_1 => ?_) (fun c_1 => ?_)
  · skip
    have c_1 := (c_lt (x := nI q) (y := 0) (a := q) (b := 0) rfl rfl (by omega) (by omega)).mp c_1
    exact absurd c_1 (by omega)
  · skip
    have c_1 := (not_congr (c_lt (x := nI q) (y := 0) (a := q) (b := 0) rfl rfl (by omega) (by omega))).mp c_1
    refine v_iload_n O dX7_goTo_10 1 rfl ?_
    refine v_aload_n O dX7_goTo_11 0 rfl ?_
    refine gf_X7_15 O rfl dX7_goTo_12 0 rfl rfl ?_
    refine v_icmp_ge O 33 dX7_goTo_15 (by decide) (fun c_2 => ?_) (fun c_2 => ?_)
    · skip
      have c_2 := (c_le' (x := nI q) (y := nI ln) (a := q) (b := ln) rfl rfl (by omega) (by omega)).mp c_2
      refine v_iconst (v := -1) O dX7_goTo_33 (by decide) ?_
      refine pf_X7_22 (fs' := [.ref tsg, .int (nI ln), .int (nI q), .int (-1)]) (ws' := [(txo, .inr (7, [.ref tsg, .int (nI ln), .int (nI q), .int (-1)])), (tsg, eB D 100 tb)]) O rfl dX7_goTo_34 0 rfl (Nat.le_of_ble_eq_true rfl) rfl rfl ?_
      exact v_return O T rfl (by decide) (by decide) dX7_goTo_37 (⟨rfl, by rw [sgT_o (by omega)]⟩)
    · skip
      have c_2 := (not_congr (c_le' (x := nI q) (y := nI ln) (a := q) (b := ln) rfl rfl (by omega) (by omega))).mp c_2
      refine v_iload_n O dX7_goTo_18 1 rfl ?_
      refine v_bipush (v := 100) O dX7_goTo_19 (by decide) ?_
      refine v_icmp_ge O 33 dX7_goTo_21 (by decide) (fun z3 => ?_) (fun z3 => ?_)
      · skip
        have z3 := (c_le' (x := nI q) (y := 100) (a := q) (b := 100) rfl rfl (by omega) (by omega)).mp z3
        exact absurd z3 (by omega)
      · skip
        have z3 := (not_congr (c_le' (x := nI q) (y := 100) (a := q) (b := 100) rfl rfl (by omega) (by omega))).mp z3
        refine v_aload_n O dX7_goTo_24 0 rfl ?_
        refine gf_X7_9 O rfl dX7_goTo_25 0 rfl rfl ?_
        refine v_iload_n O dX7_goTo_28 1 rfl ?_
        refine v_baldk O dX7_goTo_29 1 rfl q rfl (by omega) (by decide) ?_
        refine v_goto O 34 dX7_goTo_30 (by decide) ?_
        refine pf_X7_22 (fs' := [.ref tsg, .int (nI ln), .int (nI q), .int (tb q)]) (ws' := [(txo, .inr (7, [.ref tsg, .int (nI ln), .int (nI q), .int (tb q)])), (tsg, eB D 100 tb)]) O rfl dX7_goTo_34 0 rfl (Nat.le_of_ble_eq_true rfl) rfl rfl ?_
        exact v_return O T rfl (by decide) (by decide) dX7_goTo_37 (⟨rfl, by rw [sgT_i (by omega)]⟩)
set_option maxRecDepth 100000 in
set_option maxHeartbeats 4000000 in
theorem sp_X7_number_t {D : G} {txo : Nat} {tsg : Nat} {ln : Nat} {tb : Nat → Int32} {p : Nat} (hln : ln ≤ 100) (hd : isd ((sgT tb ln) p)) : Sp D mX7_number 1 0 0 [.ref txo] [(txo, .inr (7, [.ref tsg, .int (nI ln), .int (nI p), .int ((sgT tb ln) p)])), (tsg, eB D 100 tb)] (fun r w => r = some (.int (nI (numN (sgT tb ln) p))) ∧ w = [(txo, .inr (7, [.ref tsg, .int (nI ln), .int (nI (numE (sgT tb ln) p)), .int ((sgT tb ln) (numE (sgT tb ln) p))])), (tsg, eB D 100 tb)]) := by
  refine Sp.of (by decide) (Nat.le_of_ble_eq_true rfl) (fun X O T => ?_)
  refine v_eq (lv' := [(0, .ref txo)]) rfl rfl rfl rfl ?_
  refine v_aload_n O dX7_number_0 0 rfl ?_
  refine gf_X7_22 O rfl dX7_number_1 0 rfl rfl ?_
  refine v_bipush (v := 48) O dX7_number_4 (by decide) ?_
  refine v_icmp_lt O 18 dX7_number_6 (by decide) (fun z1 => ?_) (fun z1 => ?_)
  · skip
    exact absurd z1 (Int32.not_lt.mpr hd.1)
  · skip
    refine v_aload_n O dX7_number_9 0 rfl ?_
    refine gf_X7_22 O rfl dX7_number_10 0 rfl rfl ?_
    refine v_bipush (v := 57) O dX7_number_13 (by decide) ?_
    refine v_icmp_le O 20 dX7_number_15 (by decide) (fun z2 => ?_) (fun z2 => ?_)
    · skip
      refine v_aload_n O dX7_number_20 0 rfl ?_
      refine gf_X7_22 O rfl dX7_number_21 0 rfl rfl ?_
      refine v_bipush (v := 48) O dX7_number_24 (by decide) ?_
      refine v_isub O dX7_number_26 ?_
      refine v_top (y := nI (dgN ((sgT tb ln) p))) ((dg_n hd).1) ?_
      refine v_istore_n (lv' := [(0, .ref txo), (1, .int (nI (dgN ((sgT tb ln) p))))]) O dX7_number_27 (by decide) rfl ?_
      refine v_aload_n O dX7_number_28 0 rfl ?_
      refine v_aload_n O dX7_number_29 0 rfl ?_
      refine gf_X7_19 O rfl dX7_number_30 0 rfl rfl ?_
      refine v_iconst (v := 1) O dX7_number_33 (by decide) ?_
      refine v_iadd O dX7_number_34 ?_
      refine v_top (y := nI (p + 1)) (nI_add p 1) ?_
      refine v_cV (T := TX7) (ci := 7) (As := [.int (nI (p + 1))]) (wr := []) (st := []) O cf_X7_30 rfl (sp_X7_goTo (txo := txo) (tsg := tsg) (ln := ln) (tb := tb) (pl := (nI p)) (si := ((sgT tb ln) p)) (q := (p + 1)) (hln) (by have := isd_lt hd; omega)) dX7_number_35 rfl rfl 0 rfl [0, 1] [] (by decide) rfl rfl (by decide) (by decide) (by decide) (Nat.le_of_ble_eq_true rfl) (by decide) (by decide) (fun r_2 w_3 h_1 => ?_)
      obtain ⟨rfl, rfl⟩ := h_1
      refine v_eq (st' := []) (ws' := [(txo, .inr (7, [.ref tsg, .int (nI ln), .int (nI (p + 1)), .int ((sgT tb ln) (p + 1))])), (tsg, eB D 100 tb)]) rfl rfl rfl rfl ?_
      refine v_aload_n O dX7_number_38 0 rfl ?_
      refine gf_X7_22 O rfl dX7_number_39 0 rfl rfl ?_
      refine v_bipush (v := 48) O dX7_number_42 (by decide) ?_
      refine v_icmp_lt O 79 dX7_number_44 (by decide) (fun z3 => ?_) (fun z3 => ?_)
      · skip
        refine v_iload_n O dX7_number_79 1 rfl ?_
        exact v_ireturn O T rfl rfl (by decide) (by decide) dX7_number_80 (⟨by unfold numN; rw [if_neg (fun z9 => absurd z3 (Int32.not_lt.mpr z9.1))], by unfold numE; rw [if_neg (fun z9 => absurd z3 (Int32.not_lt.mpr z9.1))]⟩)
      · skip
        refine v_aload_n O dX7_number_47 0 rfl ?_
        refine gf_X7_22 O rfl dX7_number_48 0 rfl rfl ?_
        refine v_bipush (v := 57) O dX7_number_51 (by decide) ?_
        refine v_icmp_gt O 79 dX7_number_53 (by decide) (fun z4 => ?_) (fun z4 => ?_)
        · skip
          refine v_iload_n O dX7_number_79 1 rfl ?_
          exact v_ireturn O T rfl rfl (by decide) (by decide) dX7_number_80 (⟨by unfold numN; rw [if_neg (fun z9 => absurd z4 (Int32.not_lt.mpr z9.2))], by unfold numE; rw [if_neg (fun z9 => absurd z4 (Int32.not_lt.mpr z9.2))]⟩)
        · skip
          have z5 : isd ((sgT tb ln) (p + 1)) := ⟨Int32.not_lt.mp z3, Int32.not_lt.mp z4⟩
          have z6 := isd_lt z5
          refine v_iload_n O dX7_number_56 1 rfl ?_
          refine v_bipush (v := 10) O dX7_number_57 (by decide) ?_
          refine v_imul O dX7_number_59 ?_
          refine v_top (y := nI ((dgN ((sgT tb ln) p)) * 10)) (pk_mul (dgN ((sgT tb ln) p)) 10) ?_
          refine v_aload_n O dX7_number_60 0 rfl ?_
          refine gf_X7_22 O rfl dX7_number_61 0 rfl rfl ?_
          refine v_iadd O dX7_number_64 ?_
          refine v_bipush (v := 48) O dX7_number_65 (by decide) ?_
          refine v_isub O dX7_number_67 ?_
          refine v_top (y := nI (dgN ((sgT tb ln) p) * 10 + dgN ((sgT tb ln) (p + 1)))) (num_c z5) ?_
          refine v_istore_n (lv' := [(0, .ref txo), (1, .int (nI (dgN ((sgT tb ln) p) * 10 + dgN ((sgT tb ln) (p + 1)))))]) O dX7_number_68 (by decide) rfl ?_
          refine v_aload_n O dX7_number_69 0 rfl ?_
          refine v_aload_n O dX7_number_70 0 rfl ?_
          refine gf_X7_19 O rfl dX7_number_71 0 rfl rfl ?_
          refine v_iconst (v := 1) O dX7_number_74 (by decide) ?_
          refine v_iadd O dX7_number_75 ?_
          refine v_top (y := nI ((p + 1) + 1)) (nI_add (p + 1) 1) ?_
          refine v_cV (T := TX7) (ci := 7) (As := [.int (nI ((p + 1) + 1))]) (wr := []) (st := []) O cf_X7_30 rfl (sp_X7_goTo (txo := txo) (tsg := tsg) (ln := ln) (tb := tb) (pl := (nI (p + 1))) (si := ((sgT tb ln) (p + 1))) (q := ((p + 1) + 1)) (hln) (by omega)) dX7_number_76 rfl rfl 0 rfl [0, 1] [] (by decide) rfl rfl (by decide) (by decide) (by decide) (Nat.le_of_ble_eq_true rfl) (by decide) (by decide) (fun r_5 w_6 h_4 => ?_)
          obtain ⟨rfl, rfl⟩ := h_4
          refine v_eq (st' := []) (ws' := [(txo, .inr (7, [.ref tsg, .int (nI ln), .int (nI ((p + 1) + 1)), .int ((sgT tb ln) ((p + 1) + 1))])), (tsg, eB D 100 tb)]) rfl rfl rfl rfl ?_
          refine v_iload_n O dX7_number_79 1 rfl ?_
          exact v_ireturn O T rfl rfl (by decide) (by decide) dX7_number_80 (⟨by unfold numN; rw [if_pos (⟨Int32.not_lt.mp z3, Int32.not_lt.mp z4⟩ : isd _)], by unfold numE; rw [if_pos (⟨Int32.not_lt.mp z3, Int32.not_lt.mp z4⟩ : isd _)]⟩)
    · skip
      exact absurd hd.2 z2
set_option maxRecDepth 100000 in
set_option maxHeartbeats 4000000 in
theorem sp_X7_number_f {D : G} {txo : Nat} {tsg : Nat} {ln : Nat} {tb : Nat → Int32} {p : Nat} (hd : ¬ isd ((sgT tb ln) p)) : Sp D mX7_number 1 0 0 [.ref txo] [(txo, .inr (7, [.ref tsg, .int (nI ln), .int (nI p), .int ((sgT tb ln) p)])), (tsg, eB D 100 tb)] (fun r w => r = some (.int (-1)) ∧ w = [(txo, .inr (7, [.ref tsg, .int (nI ln), .int (nI p), .int ((sgT tb ln) p)])), (tsg, eB D 100 tb)]) := by
  refine Sp.of (by decide) (Nat.le_of_ble_eq_true rfl) (fun X O T => ?_)
  refine v_eq (lv' := [(0, .ref txo)]) rfl rfl rfl rfl ?_
  refine v_aload_n O dX7_number_0 0 rfl ?_
  refine gf_X7_22 O rfl dX7_number_1 0 rfl rfl ?_
  refine v_bipush (v := 48) O dX7_number_4 (by decide) ?_
  refine v_icmp_lt O 18 dX7_number_6 (by decide) (fun z1 => ?_) (fun z1 => ?_)
  · skip
    refine v_iconst (v := -1) O dX7_number_18 (by decide) ?_
    exact v_ireturn O T rfl rfl (by decide) (by decide) dX7_number_19 (⟨rfl, rfl⟩)
  · skip
    refine v_aload_n O dX7_number_9 0 rfl ?_
    refine gf_X7_22 O rfl dX7_number_10 0 rfl rfl ?_
    refine v_bipush (v := 57) O dX7_number_13 (by decide) ?_
    refine v_icmp_le O 20 dX7_number_15 (by decide) (fun z2 => ?_) (fun z2 => ?_)
    · skip
      exact absurd ⟨Int32.not_lt.mp z1, z2⟩ hd
    · skip
      refine v_iconst (v := -1) O dX7_number_18 (by decide) ?_
      exact v_ireturn O T rfl rfl (by decide) (by decide) dX7_number_19 (⟨rfl, rfl⟩)
set_option maxRecDepth 100000 in
set_option maxHeartbeats 4000000 in
theorem sp_X7_spells_0 {D : G} {txo : Nat} {tsg : Nat} {ln : Nat} {tb : Nat → Int32} {p : Nat} (hln : ln ≤ 100) (hp : p ≤ ln) : Sp D mX7_spells 4 0 0 [.ref txo, .ref (D.2.2 (10 + 0))] [(txo, .inr (7, [.ref tsg, .int (nI ln), .int (nI p), .int ((sgT tb ln) p)])), (tsg, eB D 100 tb)] (fun r w => r = some (.int (b2i ((spl (sgT tb ln) [111, 118, 101, 114, 32] p).2 = true))) ∧ w = [(txo, .inr (7, [.ref tsg, .int (nI ln), .int (nI ((spl (sgT tb ln) [111, 118, 101, 114, 32] p).1)), .int ((sgT tb ln) ((spl (sgT tb ln) [111, 118, 101, 114, 32] p).1))])), (tsg, eB D 100 tb)]) := by
  refine Sp.of (by decide) (Nat.le_of_ble_eq_true rfl) (fun X O T => ?_)
  refine v_eq (lv' := [(0, .ref txo), (1, .ref (D.2.2 (10 + 0)))]) rfl rfl rfl rfl ?_
  refine v_iconst (v := 0) O dX7_spells_0 (by decide) ?_
  refine v_istore_n (lv' := [(0, .ref txo), (1, .ref (D.2.2 (10 + 0))), (2, .int 0)]) O dX7_spells_1 (by decide) rfl ?_
  refine v_iload_n O dX7_spells_2 2 rfl ?_
  refine v_aload_n O dX7_spells_3 1 rfl ?_
  refine v_cVS (As := []) (wr := [(txo, .inr (7, [.ref tsg, .int (nI ln), .int (nI p), .int ((sgT tb ln) p)])), (tsg, eB D 100 tb)]) (st := [.int 0]) O cf_X7_73 rfl 0 (by decide) (sp_J0_length_8abf5 (i := 0) (by decide)) dX7_spells_4 rfl rfl [] [0, 1] (by decide) rfl rfl (by decide) (by decide) (by decide) (Nat.le_of_ble_eq_true rfl) (by decide) (by decide) (fun r_2 w_3 h_1 => ?_)
  obtain ⟨rfl, rfl⟩ := h_1
  refine v_eq (st' := [.int (nI (x_len.getD 0 0)), .int 0]) (ws' := [(txo, .inr (7, [.ref tsg, .int (nI ln), .int (nI p), .int ((sgT tb ln) p)])), (tsg, eB D 100 tb)]) rfl rfl rfl rfl ?_
  refine v_top (y := 5) (rfl) ?_
  refine v_icmp_ge O 40 dX7_spells_7 (by decide) (fun c => absurd c (by decide)) (fun _ => ?_)
  refine v_aload_n O dX7_spells_10 0 rfl ?_
  refine gf_X7_22 O rfl dX7_spells_11 0 rfl rfl ?_
  refine v_aload_n O dX7_spells_14 1 rfl ?_
  refine v_iload_n O dX7_spells_15 2 rfl ?_
  refine v_cVS (As := [.int 0]) (wr := [(txo, .inr (7, [.ref tsg, .int (nI ln), .int (nI p), .int ((sgT tb ln) p)])), (tsg, eB D 100 tb)]) (st := [.int ((sgT tb ln) p)]) O cf_X7_77 rfl 0 (by decide) (sp_J0_charAt_5068e (i := 0) (k := 0) (by decide) (by decide)) dX7_spells_16 rfl rfl [] [0, 1] (by decide) rfl rfl (by decide) (by decide) (by decide) (Nat.le_of_ble_eq_true rfl) (by decide) (by decide) (fun r_6 w_7 h_5 => ?_)
  obtain ⟨rfl, rfl⟩ := h_5
  refine v_eq (st' := [.int (x_ch 0 0), .int ((sgT tb ln) p)]) (ws' := [(txo, .inr (7, [.ref tsg, .int (nI ln), .int (nI p), .int ((sgT tb ln) p)])), (tsg, eB D 100 tb)]) rfl rfl rfl rfl ?_
  refine v_top (y := 111) (rfl) ?_
  refine v_icmp_eq O 24 dX7_spells_19 (by decide) (fun y0 => ?_) (fun y0 => ?_)
  · skip
    have x0 := sgT_lt y0 (by decide)
    refine v_aload_n O dX7_spells_24 0 rfl ?_
    refine v_aload_n O dX7_spells_25 0 rfl ?_
    refine gf_X7_19 O rfl dX7_spells_26 0 rfl rfl ?_
    refine v_iconst (v := 1) O dX7_spells_29 (by decide) ?_
    refine v_iadd O dX7_spells_30 ?_
    refine v_top (y := nI (p + 1)) (nI_add p 1) ?_
    refine v_cV (T := TX7) (ci := 7) (As := [.int (nI (p + 1))]) (wr := []) (st := []) O cf_X7_30 rfl (sp_X7_goTo (txo := txo) (tsg := tsg) (ln := ln) (tb := tb) (pl := (nI p)) (si := ((sgT tb ln) p)) (q := (p + 1)) (hln) (by omega)) dX7_spells_31 rfl rfl 0 rfl [0, 1] [] (by decide) rfl rfl (by decide) (by decide) (by decide) (Nat.le_of_ble_eq_true rfl) (by decide) (by decide) (fun r_9 w_10 h_8 => ?_)
    obtain ⟨rfl, rfl⟩ := h_8
    refine v_eq (st' := []) (ws' := [(txo, .inr (7, [.ref tsg, .int (nI ln), .int (nI (p + 1)), .int ((sgT tb ln) (p + 1))])), (tsg, eB D 100 tb)]) rfl rfl rfl rfl ?_
    refine v_iinc (v := 1) (lv' := [(0, .ref txo), (1, .ref (D.2.2 (10 + 0))), (2, .int 1)]) O dX7_spells_34 2 rfl (by decide) (by decide) rfl ?_
    refine v_goto O 2 dX7_spells_37 (by decide) ?_
    refine v_iload_n O dX7_spells_2 2 rfl ?_
    refine v_aload_n O dX7_spells_3 1 rfl ?_
    refine v_cVS (As := []) (wr := [(txo, .inr (7, [.ref tsg, .int (nI ln), .int (nI (p + 1)), .int ((sgT tb ln) (p + 1))])), (tsg, eB D 100 tb)]) (st := [.int 1]) O cf_X7_73 rfl 0 (by decide) (sp_J0_length_8abf5 (i := 0) (by decide)) dX7_spells_4 rfl rfl [] [0, 1] (by decide) rfl rfl (by decide) (by decide) (by decide) (Nat.le_of_ble_eq_true rfl) (by decide) (by decide) (fun r_12 w_13 h_11 => ?_)
    obtain ⟨rfl, rfl⟩ := h_11
    refine v_eq (st' := [.int (nI (x_len.getD 0 0)), .int 1]) (ws' := [(txo, .inr (7, [.ref tsg, .int (nI ln), .int (nI (p + 1)), .int ((sgT tb ln) (p + 1))])), (tsg, eB D 100 tb)]) rfl rfl rfl rfl ?_
    refine v_top (y := 5) (rfl) ?_
    refine v_icmp_ge O 40 dX7_spells_7 (by decide) (fun c => absurd c (by decide)) (fun _ => ?_)
    refine v_aload_n O dX7_spells_10 0 rfl ?_
    refine gf_X7_22 O rfl dX7_spells_11 0 rfl rfl ?_
    refine v_aload_n O dX7_spells_14 1 rfl ?_
    refine v_iload_n O dX7_spells_15 2 rfl ?_
    refine v_cVS (As := [.int 1]) (wr := [(txo, .inr (7, [.ref tsg, .int (nI ln), .int (nI (p + 1)), .int ((sgT tb ln) (p + 1))])), (tsg, eB D 100 tb)]) (st := [.int ((sgT tb ln) (p + 1))]) O cf_X7_77 rfl 0 (by decide) (sp_J0_charAt_5068e (i := 0) (k := 1) (by decide) (by decide)) dX7_spells_16 rfl rfl [] [0, 1] (by decide) rfl rfl (by decide) (by decide) (by decide) (Nat.le_of_ble_eq_true rfl) (by decide) (by decide) (fun r_16 w_17 h_15 => ?_)
    obtain ⟨rfl, rfl⟩ := h_15
    refine v_eq (st' := [.int (x_ch 0 1), .int ((sgT tb ln) (p + 1))]) (ws' := [(txo, .inr (7, [.ref tsg, .int (nI ln), .int (nI (p + 1)), .int ((sgT tb ln) (p + 1))])), (tsg, eB D 100 tb)]) rfl rfl rfl rfl ?_
    refine v_top (y := 118) (rfl) ?_
    refine v_icmp_eq O 24 dX7_spells_19 (by decide) (fun y1 => ?_) (fun y1 => ?_)
    · skip
      have x1 := sgT_lt y1 (by decide)
      refine v_aload_n O dX7_spells_24 0 rfl ?_
      refine v_aload_n O dX7_spells_25 0 rfl ?_
      refine gf_X7_19 O rfl dX7_spells_26 0 rfl rfl ?_
      refine v_iconst (v := 1) O dX7_spells_29 (by decide) ?_
      refine v_iadd O dX7_spells_30 ?_
      refine v_top (y := nI ((p + 1) + 1)) (nI_add (p + 1) 1) ?_
      refine v_cV (T := TX7) (ci := 7) (As := [.int (nI ((p + 1) + 1))]) (wr := []) (st := []) O cf_X7_30 rfl (sp_X7_goTo (txo := txo) (tsg := tsg) (ln := ln) (tb := tb) (pl := (nI (p + 1))) (si := ((sgT tb ln) (p + 1))) (q := ((p + 1) + 1)) (hln) (by omega)) dX7_spells_31 rfl rfl 0 rfl [0, 1] [] (by decide) rfl rfl (by decide) (by decide) (by decide) (Nat.le_of_ble_eq_true rfl) (by decide) (by decide) (fun r_19 w_20 h_18 => ?_)
      obtain ⟨rfl, rfl⟩ := h_18
      refine v_eq (st' := []) (ws' := [(txo, .inr (7, [.ref tsg, .int (nI ln), .int (nI ((p + 1) + 1)), .int ((sgT tb ln) ((p + 1) + 1))])), (tsg, eB D 100 tb)]) rfl rfl rfl rfl ?_
      refine v_iinc (v := 2) (lv' := [(0, .ref txo), (1, .ref (D.2.2 (10 + 0))), (2, .int 2)]) O dX7_spells_34 2 rfl (by decide) (by decide) rfl ?_
      refine v_goto O 2 dX7_spells_37 (by decide) ?_
      refine v_iload_n O dX7_spells_2 2 rfl ?_
      refine v_aload_n O dX7_spells_3 1 rfl ?_
      refine v_cVS (As := []) (wr := [(txo, .inr (7, [.ref tsg, .int (nI ln), .int (nI ((p + 1) + 1)), .int ((sgT tb ln) ((p + 1) + 1))])), (tsg, eB D 100 tb)]) (st := [.int 2]) O cf_X7_73 rfl 0 (by decide) (sp_J0_length_8abf5 (i := 0) (by decide)) dX7_spells_4 rfl rfl [] [0, 1] (by decide) rfl rfl (by decide) (by decide) (by decide) (Nat.le_of_ble_eq_true rfl) (by decide) (by decide) (fun r_22 w_23 h_21 => ?_)
      obtain ⟨rfl, rfl⟩ := h_21
      refine v_eq (st' := [.int (nI (x_len.getD 0 0)), .int 2]) (ws' := [(txo, .inr (7, [.ref tsg, .int (nI ln), .int (nI ((p + 1) + 1)), .int ((sgT tb ln) ((p + 1) + 1))])), (tsg, eB D 100 tb)]) rfl rfl rfl rfl ?_
      refine v_top (y := 5) (rfl) ?_
      refine v_icmp_ge O 40 dX7_spells_7 (by decide) (fun c => absurd c (by decide)) (fun _ => ?_)
      refine v_aload_n O dX7_spells_10 0 rfl ?_
      refine gf_X7_22 O rfl dX7_spells_11 0 rfl rfl ?_
      refine v_aload_n O dX7_spells_14 1 rfl ?_
      refine v_iload_n O dX7_spells_15 2 rfl ?_
      refine v_cVS (As := [.int 2]) (wr := [(txo, .inr (7, [.ref tsg, .int (nI ln), .int (nI ((p + 1) + 1)), .int ((sgT tb ln) ((p + 1) + 1))])), (tsg, eB D 100 tb)]) (st := [.int ((sgT tb ln) ((p + 1) + 1))]) O cf_X7_77 rfl 0 (by decide) (sp_J0_charAt_5068e (i := 0) (k := 2) (by decide) (by decide)) dX7_spells_16 rfl rfl [] [0, 1] (by decide) rfl rfl (by decide) (by decide) (by decide) (Nat.le_of_ble_eq_true rfl) (by decide) (by decide) (fun r_26 w_27 h_25 => ?_)
      obtain ⟨rfl, rfl⟩ := h_25
      refine v_eq (st' := [.int (x_ch 0 2), .int ((sgT tb ln) ((p + 1) + 1))]) (ws' := [(txo, .inr (7, [.ref tsg, .int (nI ln), .int (nI ((p + 1) + 1)), .int ((sgT tb ln) ((p + 1) + 1))])), (tsg, eB D 100 tb)]) rfl rfl rfl rfl ?_
      refine v_top (y := 101) (rfl) ?_
      refine v_icmp_eq O 24 dX7_spells_19 (by decide) (fun y2 => ?_) (fun y2 => ?_)
      · skip
        have x2 := sgT_lt y2 (by decide)
        refine v_aload_n O dX7_spells_24 0 rfl ?_
        refine v_aload_n O dX7_spells_25 0 rfl ?_
        refine gf_X7_19 O rfl dX7_spells_26 0 rfl rfl ?_
        refine v_iconst (v := 1) O dX7_spells_29 (by decide) ?_
        refine v_iadd O dX7_spells_30 ?_
        refine v_top (y := nI (((p + 1) + 1) + 1)) (nI_add ((p + 1) + 1) 1) ?_
        refine v_cV (T := TX7) (ci := 7) (As := [.int (nI (((p + 1) + 1) + 1))]) (wr := []) (st := []) O cf_X7_30 rfl (sp_X7_goTo (txo := txo) (tsg := tsg) (ln := ln) (tb := tb) (pl := (nI ((p + 1) + 1))) (si := ((sgT tb ln) ((p + 1) + 1))) (q := (((p + 1) + 1) + 1)) (hln) (by omega)) dX7_spells_31 rfl rfl 0 rfl [0, 1] [] (by decide) rfl rfl (by decide) (by decide) (by decide) (Nat.le_of_ble_eq_true rfl) (by decide) (by decide) (fun r_29 w_30 h_28 => ?_)
        obtain ⟨rfl, rfl⟩ := h_28
        refine v_eq (st' := []) (ws' := [(txo, .inr (7, [.ref tsg, .int (nI ln), .int (nI (((p + 1) + 1) + 1)), .int ((sgT tb ln) (((p + 1) + 1) + 1))])), (tsg, eB D 100 tb)]) rfl rfl rfl rfl ?_
        refine v_iinc (v := 3) (lv' := [(0, .ref txo), (1, .ref (D.2.2 (10 + 0))), (2, .int 3)]) O dX7_spells_34 2 rfl (by decide) (by decide) rfl ?_
        refine v_goto O 2 dX7_spells_37 (by decide) ?_
        refine v_iload_n O dX7_spells_2 2 rfl ?_
        refine v_aload_n O dX7_spells_3 1 rfl ?_
        refine v_cVS (As := []) (wr := [(txo, .inr (7, [.ref tsg, .int (nI ln), .int (nI (((p + 1) + 1) + 1)), .int ((sgT tb ln) (((p + 1) + 1) + 1))])), (tsg, eB D 100 tb)]) (st := [.int 3]) O cf_X7_73 rfl 0 (by decide) (sp_J0_length_8abf5 (i := 0) (by decide)) dX7_spells_4 rfl rfl [] [0, 1] (by decide) rfl rfl (by decide) (by decide) (by decide) (Nat.le_of_ble_eq_true rfl) (by decide) (by decide) (fun r_32 w_33 h_31 => ?_)
        obtain ⟨rfl, rfl⟩ := h_31
        refine v_eq (st' := [.int (nI (x_len.getD 0 0)), .int 3]) (ws' := [(txo, .inr (7, [.ref tsg, .int (nI ln), .int (nI (((p + 1) + 1) + 1)), .int ((sgT tb ln) (((p + 1) + 1) + 1))])), (tsg, eB D 100 tb)]) rfl rfl rfl rfl ?_
        refine v_top (y := 5) (rfl) ?_
        refine v_icmp_ge O 40 dX7_spells_7 (by decide) (fun c => absurd c (by decide)) (fun _ => ?_)
        refine v_aload_n O dX7_spells_10 0 rfl ?_
        refine gf_X7_22 O rfl dX7_spells_11 0 rfl rfl ?_
        refine v_aload_n O dX7_spells_14 1 rfl ?_
        refine v_iload_n O dX7_spells_15 2 rfl ?_
        refine v_cVS (As := [.int 3]) (wr := [(txo, .inr (7, [.ref tsg, .int (nI ln), .int (nI (((p + 1) + 1) + 1)), .int ((sgT tb ln) (((p + 1) + 1) + 1))])), (tsg, eB D 100 tb)]) (st := [.int ((sgT tb ln) (((p + 1) + 1) + 1))]) O cf_X7_77 rfl 0 (by decide) (sp_J0_charAt_5068e (i := 0) (k := 3) (by decide) (by decide)) dX7_spells_16 rfl rfl [] [0, 1] (by decide) rfl rfl (by decide) (by decide) (by decide) (Nat.le_of_ble_eq_true rfl) (by decide) (by decide) (fun r_36 w_37 h_35 => ?_)
        obtain ⟨rfl, rfl⟩ := h_35
        refine v_eq (st' := [.int (x_ch 0 3), .int ((sgT tb ln) (((p + 1) + 1) + 1))]) (ws' := [(txo, .inr (7, [.ref tsg, .int (nI ln), .int (nI (((p + 1) + 1) + 1)), .int ((sgT tb ln) (((p + 1) + 1) + 1))])), (tsg, eB D 100 tb)]) rfl rfl rfl rfl ?_
        refine v_top (y := 114) (rfl) ?_
        refine v_icmp_eq O 24 dX7_spells_19 (by decide) (fun y3 => ?_) (fun y3 => ?_)
        · skip
          have x3 := sgT_lt y3 (by decide)
          refine v_aload_n O dX7_spells_24 0 rfl ?_
          refine v_aload_n O dX7_spells_25 0 rfl ?_
          refine gf_X7_19 O rfl dX7_spells_26 0 rfl rfl ?_
          refine v_iconst (v := 1) O dX7_spells_29 (by decide) ?_
          refine v_iadd O dX7_spells_30 ?_
          refine v_top (y := nI ((((p + 1) + 1) + 1) + 1)) (nI_add (((p + 1) + 1) + 1) 1) ?_
          refine v_cV (T := TX7) (ci := 7) (As := [.int (nI ((((p + 1) + 1) + 1) + 1))]) (wr := []) (st := []) O cf_X7_30 rfl (sp_X7_goTo (txo := txo) (tsg := tsg) (ln := ln) (tb := tb) (pl := (nI (((p + 1) + 1) + 1))) (si := ((sgT tb ln) (((p + 1) + 1) + 1))) (q := ((((p + 1) + 1) + 1) + 1)) (hln) (by omega)) dX7_spells_31 rfl rfl 0 rfl [0, 1] [] (by decide) rfl rfl (by decide) (by decide) (by decide) (Nat.le_of_ble_eq_true rfl) (by decide) (by decide) (fun r_39 w_40 h_38 => ?_)
          obtain ⟨rfl, rfl⟩ := h_38
          refine v_eq (st' := []) (ws' := [(txo, .inr (7, [.ref tsg, .int (nI ln), .int (nI ((((p + 1) + 1) + 1) + 1)), .int ((sgT tb ln) ((((p + 1) + 1) + 1) + 1))])), (tsg, eB D 100 tb)]) rfl rfl rfl rfl ?_
          refine v_iinc (v := 4) (lv' := [(0, .ref txo), (1, .ref (D.2.2 (10 + 0))), (2, .int 4)]) O dX7_spells_34 2 rfl (by decide) (by decide) rfl ?_
          refine v_goto O 2 dX7_spells_37 (by decide) ?_
          refine v_iload_n O dX7_spells_2 2 rfl ?_
          refine v_aload_n O dX7_spells_3 1 rfl ?_
          refine v_cVS (As := []) (wr := [(txo, .inr (7, [.ref tsg, .int (nI ln), .int (nI ((((p + 1) + 1) + 1) + 1)), .int ((sgT tb ln) ((((p + 1) + 1) + 1) + 1))])), (tsg, eB D 100 tb)]) (st := [.int 4]) O cf_X7_73 rfl 0 (by decide) (sp_J0_length_8abf5 (i := 0) (by decide)) dX7_spells_4 rfl rfl [] [0, 1] (by decide) rfl rfl (by decide) (by decide) (by decide) (Nat.le_of_ble_eq_true rfl) (by decide) (by decide) (fun r_42 w_43 h_41 => ?_)
          obtain ⟨rfl, rfl⟩ := h_41
          refine v_eq (st' := [.int (nI (x_len.getD 0 0)), .int 4]) (ws' := [(txo, .inr (7, [.ref tsg, .int (nI ln), .int (nI ((((p + 1) + 1) + 1) + 1)), .int ((sgT tb ln) ((((p + 1) + 1) + 1) + 1))])), (tsg, eB D 100 tb)]) rfl rfl rfl rfl ?_
          refine v_top (y := 5) (rfl) ?_
          refine v_icmp_ge O 40 dX7_spells_7 (by decide) (fun c => absurd c (by decide)) (fun _ => ?_)
          refine v_aload_n O dX7_spells_10 0 rfl ?_
          refine gf_X7_22 O rfl dX7_spells_11 0 rfl rfl ?_
          refine v_aload_n O dX7_spells_14 1 rfl ?_
          refine v_iload_n O dX7_spells_15 2 rfl ?_
          refine v_cVS (As := [.int 4]) (wr := [(txo, .inr (7, [.ref tsg, .int (nI ln), .int (nI ((((p + 1) + 1) + 1) + 1)), .int ((sgT tb ln) ((((p + 1) + 1) + 1) + 1))])), (tsg, eB D 100 tb)]) (st := [.int ((sgT tb ln) ((((p + 1) + 1) + 1) + 1))]) O cf_X7_77 rfl 0 (by decide) (sp_J0_charAt_5068e (i := 0) (k := 4) (by decide) (by decide)) dX7_spells_16 rfl rfl [] [0, 1] (by decide) rfl rfl (by decide) (by decide) (by decide) (Nat.le_of_ble_eq_true rfl) (by decide) (by decide) (fun r_46 w_47 h_45 => ?_)
          obtain ⟨rfl, rfl⟩ := h_45
          refine v_eq (st' := [.int (x_ch 0 4), .int ((sgT tb ln) ((((p + 1) + 1) + 1) + 1))]) (ws' := [(txo, .inr (7, [.ref tsg, .int (nI ln), .int (nI ((((p + 1) + 1) + 1) + 1)), .int ((sgT tb ln) ((((p + 1) + 1) + 1) + 1))])), (tsg, eB D 100 tb)]) rfl rfl rfl rfl ?_
          refine v_top (y := 32) (rfl) ?_
          refine v_icmp_eq O 24 dX7_spells_19 (by decide) (fun y4 => ?_) (fun y4 => ?_)
          · skip
            have x4 := sgT_lt y4 (by decide)
            refine v_aload_n O dX7_spells_24 0 rfl ?_
            refine v_aload_n O dX7_spells_25 0 rfl ?_
            refine gf_X7_19 O rfl dX7_spells_26 0 rfl rfl ?_
            refine v_iconst (v := 1) O dX7_spells_29 (by decide) ?_
            refine v_iadd O dX7_spells_30 ?_
            refine v_top (y := nI (((((p + 1) + 1) + 1) + 1) + 1)) (nI_add ((((p + 1) + 1) + 1) + 1) 1) ?_
            refine v_cV (T := TX7) (ci := 7) (As := [.int (nI (((((p + 1) + 1) + 1) + 1) + 1))]) (wr := []) (st := []) O cf_X7_30 rfl (sp_X7_goTo (txo := txo) (tsg := tsg) (ln := ln) (tb := tb) (pl := (nI ((((p + 1) + 1) + 1) + 1))) (si := ((sgT tb ln) ((((p + 1) + 1) + 1) + 1))) (q := (((((p + 1) + 1) + 1) + 1) + 1)) (hln) (by omega)) dX7_spells_31 rfl rfl 0 rfl [0, 1] [] (by decide) rfl rfl (by decide) (by decide) (by decide) (Nat.le_of_ble_eq_true rfl) (by decide) (by decide) (fun r_49 w_50 h_48 => ?_)
            obtain ⟨rfl, rfl⟩ := h_48
            refine v_eq (st' := []) (ws' := [(txo, .inr (7, [.ref tsg, .int (nI ln), .int (nI (((((p + 1) + 1) + 1) + 1) + 1)), .int ((sgT tb ln) (((((p + 1) + 1) + 1) + 1) + 1))])), (tsg, eB D 100 tb)]) rfl rfl rfl rfl ?_
            refine v_iinc (v := 5) (lv' := [(0, .ref txo), (1, .ref (D.2.2 (10 + 0))), (2, .int 5)]) O dX7_spells_34 2 rfl (by decide) (by decide) rfl ?_
            refine v_goto O 2 dX7_spells_37 (by decide) ?_
            refine v_iload_n O dX7_spells_2 2 rfl ?_
            refine v_aload_n O dX7_spells_3 1 rfl ?_
            refine v_cVS (As := []) (wr := [(txo, .inr (7, [.ref tsg, .int (nI ln), .int (nI (((((p + 1) + 1) + 1) + 1) + 1)), .int ((sgT tb ln) (((((p + 1) + 1) + 1) + 1) + 1))])), (tsg, eB D 100 tb)]) (st := [.int 5]) O cf_X7_73 rfl 0 (by decide) (sp_J0_length_8abf5 (i := 0) (by decide)) dX7_spells_4 rfl rfl [] [0, 1] (by decide) rfl rfl (by decide) (by decide) (by decide) (Nat.le_of_ble_eq_true rfl) (by decide) (by decide) (fun r_52 w_53 h_51 => ?_)
            obtain ⟨rfl, rfl⟩ := h_51
            refine v_eq (st' := [.int (nI (x_len.getD 0 0)), .int 5]) (ws' := [(txo, .inr (7, [.ref tsg, .int (nI ln), .int (nI (((((p + 1) + 1) + 1) + 1) + 1)), .int ((sgT tb ln) (((((p + 1) + 1) + 1) + 1) + 1))])), (tsg, eB D 100 tb)]) rfl rfl rfl rfl ?_
            refine v_top (y := 5) (rfl) ?_
            refine v_icmp_ge O 40 dX7_spells_7 (by decide) (fun _ => ?_) (fun c => absurd c (by decide))
            refine v_iconst (v := 1) O dX7_spells_40 (by decide) ?_
            exact v_ireturn O T rfl rfl (by decide) (by decide) dX7_spells_41 (⟨by rw [b2i_t (by simp only [spl, if_pos y0, if_pos y1, if_pos y2, if_pos y3, if_pos y4])], by simp only [spl, if_pos y0, if_pos y1, if_pos y2, if_pos y3, if_pos y4]⟩)
          · skip
            refine v_iconst (v := 0) O dX7_spells_22 (by decide) ?_
            exact v_ireturn O T rfl rfl (by decide) (by decide) dX7_spells_23 (⟨by rw [b2i_f (by simp only [spl, if_pos y0, if_pos y1, if_pos y2, if_pos y3, if_neg y4]; decide)], by simp only [spl, if_pos y0, if_pos y1, if_pos y2, if_pos y3, if_neg y4]⟩)
        · skip
          refine v_iconst (v := 0) O dX7_spells_22 (by decide) ?_
          exact v_ireturn O T rfl rfl (by decide) (by decide) dX7_spells_23 (⟨by rw [b2i_f (by simp only [spl, if_pos y0, if_pos y1, if_pos y2, if_neg y3]; decide)], by simp only [spl, if_pos y0, if_pos y1, if_pos y2, if_neg y3]⟩)
      · skip
        refine v_iconst (v := 0) O dX7_spells_22 (by decide) ?_
        exact v_ireturn O T rfl rfl (by decide) (by decide) dX7_spells_23 (⟨by rw [b2i_f (by simp only [spl, if_pos y0, if_pos y1, if_neg y2]; decide)], by simp only [spl, if_pos y0, if_pos y1, if_neg y2]⟩)
    · skip
      refine v_iconst (v := 0) O dX7_spells_22 (by decide) ?_
      exact v_ireturn O T rfl rfl (by decide) (by decide) dX7_spells_23 (⟨by rw [b2i_f (by simp only [spl, if_pos y0, if_neg y1]; decide)], by simp only [spl, if_pos y0, if_neg y1]⟩)
  · skip
    refine v_iconst (v := 0) O dX7_spells_22 (by decide) ?_
    exact v_ireturn O T rfl rfl (by decide) (by decide) dX7_spells_23 (⟨by rw [b2i_f (by simp only [spl, if_neg y0]; decide)], by simp only [spl, if_neg y0]⟩)
set_option maxRecDepth 100000 in
set_option maxHeartbeats 4000000 in
theorem sp_X7_spells_1 {D : G} {txo : Nat} {tsg : Nat} {ln : Nat} {tb : Nat → Int32} {p : Nat} (hln : ln ≤ 100) (hp : p ≤ ln) : Sp D mX7_spells 4 0 0 [.ref txo, .ref (D.2.2 (10 + 1))] [(txo, .inr (7, [.ref tsg, .int (nI ln), .int (nI p), .int ((sgT tb ln) p)])), (tsg, eB D 100 tb)] (fun r w => r = some (.int (b2i ((spl (sgT tb ln) [98, 97, 99, 107, 32] p).2 = true))) ∧ w = [(txo, .inr (7, [.ref tsg, .int (nI ln), .int (nI ((spl (sgT tb ln) [98, 97, 99, 107, 32] p).1)), .int ((sgT tb ln) ((spl (sgT tb ln) [98, 97, 99, 107, 32] p).1))])), (tsg, eB D 100 tb)]) := by
  refine Sp.of (by decide) (Nat.le_of_ble_eq_true rfl) (fun X O T => ?_)
  refine v_eq (lv' := [(0, .ref txo), (1, .ref (D.2.2 (10 + 1)))]) rfl rfl rfl rfl ?_
  refine v_iconst (v := 0) O dX7_spells_0 (by decide) ?_
  refine v_istore_n (lv' := [(0, .ref txo), (1, .ref (D.2.2 (10 + 1))), (2, .int 0)]) O dX7_spells_1 (by decide) rfl ?_
  refine v_iload_n O dX7_spells_2 2 rfl ?_
  refine v_aload_n O dX7_spells_3 1 rfl ?_
  refine v_cVS (As := []) (wr := [(txo, .inr (7, [.ref tsg, .int (nI ln), .int (nI p), .int ((sgT tb ln) p)])), (tsg, eB D 100 tb)]) (st := [.int 0]) O cf_X7_73 rfl 1 (by decide) (sp_J0_length_8abf5 (i := 1) (by decide)) dX7_spells_4 rfl rfl [] [0, 1] (by decide) rfl rfl (by decide) (by decide) (by decide) (Nat.le_of_ble_eq_true rfl) (by decide) (by decide) (fun r_2 w_3 h_1 => ?_)
  obtain ⟨rfl, rfl⟩ := h_1
  refine v_eq (st' := [.int (nI (x_len.getD 1 0)), .int 0]) (ws' := [(txo, .inr (7, [.ref tsg, .int (nI ln), .int (nI p), .int ((sgT tb ln) p)])), (tsg, eB D 100 tb)]) rfl rfl rfl rfl ?_
  refine v_top (y := 5) (rfl) ?_
  refine v_icmp_ge O 40 dX7_spells_7 (by decide) (fun c => absurd c (by decide)) (fun _ => ?_)
  refine v_aload_n O dX7_spells_10 0 rfl ?_
  refine gf_X7_22 O rfl dX7_spells_11 0 rfl rfl ?_
  refine v_aload_n O dX7_spells_14 1 rfl ?_
  refine v_iload_n O dX7_spells_15 2 rfl ?_
  refine v_cVS (As := [.int 0]) (wr := [(txo, .inr (7, [.ref tsg, .int (nI ln), .int (nI p), .int ((sgT tb ln) p)])), (tsg, eB D 100 tb)]) (st := [.int ((sgT tb ln) p)]) O cf_X7_77 rfl 1 (by decide) (sp_J0_charAt_5068e (i := 1) (k := 0) (by decide) (by decide)) dX7_spells_16 rfl rfl [] [0, 1] (by decide) rfl rfl (by decide) (by decide) (by decide) (Nat.le_of_ble_eq_true rfl) (by decide) (by decide) (fun r_6 w_7 h_5 => ?_)
  obtain ⟨rfl, rfl⟩ := h_5
  refine v_eq (st' := [.int (x_ch 1 0), .int ((sgT tb ln) p)]) (ws' := [(txo, .inr (7, [.ref tsg, .int (nI ln), .int (nI p), .int ((sgT tb ln) p)])), (tsg, eB D 100 tb)]) rfl rfl rfl rfl ?_
  refine v_top (y := 98) (rfl) ?_
  refine v_icmp_eq O 24 dX7_spells_19 (by decide) (fun y0 => ?_) (fun y0 => ?_)
  · skip
    have x0 := sgT_lt y0 (by decide)
    refine v_aload_n O dX7_spells_24 0 rfl ?_
    refine v_aload_n O dX7_spells_25 0 rfl ?_
    refine gf_X7_19 O rfl dX7_spells_26 0 rfl rfl ?_
    refine v_iconst (v := 1) O dX7_spells_29 (by decide) ?_
    refine v_iadd O dX7_spells_30 ?_
    refine v_top (y := nI (p + 1)) (nI_add p 1) ?_
    refine v_cV (T := TX7) (ci := 7) (As := [.int (nI (p + 1))]) (wr := []) (st := []) O cf_X7_30 rfl (sp_X7_goTo (txo := txo) (tsg := tsg) (ln := ln) (tb := tb) (pl := (nI p)) (si := ((sgT tb ln) p)) (q := (p + 1)) (hln) (by omega)) dX7_spells_31 rfl rfl 0 rfl [0, 1] [] (by decide) rfl rfl (by decide) (by decide) (by decide) (Nat.le_of_ble_eq_true rfl) (by decide) (by decide) (fun r_9 w_10 h_8 => ?_)
    obtain ⟨rfl, rfl⟩ := h_8
    refine v_eq (st' := []) (ws' := [(txo, .inr (7, [.ref tsg, .int (nI ln), .int (nI (p + 1)), .int ((sgT tb ln) (p + 1))])), (tsg, eB D 100 tb)]) rfl rfl rfl rfl ?_
    refine v_iinc (v := 1) (lv' := [(0, .ref txo), (1, .ref (D.2.2 (10 + 1))), (2, .int 1)]) O dX7_spells_34 2 rfl (by decide) (by decide) rfl ?_
    refine v_goto O 2 dX7_spells_37 (by decide) ?_
    refine v_iload_n O dX7_spells_2 2 rfl ?_
    refine v_aload_n O dX7_spells_3 1 rfl ?_
    refine v_cVS (As := []) (wr := [(txo, .inr (7, [.ref tsg, .int (nI ln), .int (nI (p + 1)), .int ((sgT tb ln) (p + 1))])), (tsg, eB D 100 tb)]) (st := [.int 1]) O cf_X7_73 rfl 1 (by decide) (sp_J0_length_8abf5 (i := 1) (by decide)) dX7_spells_4 rfl rfl [] [0, 1] (by decide) rfl rfl (by decide) (by decide) (by decide) (Nat.le_of_ble_eq_true rfl) (by decide) (by decide) (fun r_12 w_13 h_11 => ?_)
    obtain ⟨rfl, rfl⟩ := h_11
    refine v_eq (st' := [.int (nI (x_len.getD 1 0)), .int 1]) (ws' := [(txo, .inr (7, [.ref tsg, .int (nI ln), .int (nI (p + 1)), .int ((sgT tb ln) (p + 1))])), (tsg, eB D 100 tb)]) rfl rfl rfl rfl ?_
    refine v_top (y := 5) (rfl) ?_
    refine v_icmp_ge O 40 dX7_spells_7 (by decide) (fun c => absurd c (by decide)) (fun _ => ?_)
    refine v_aload_n O dX7_spells_10 0 rfl ?_
    refine gf_X7_22 O rfl dX7_spells_11 0 rfl rfl ?_
    refine v_aload_n O dX7_spells_14 1 rfl ?_
    refine v_iload_n O dX7_spells_15 2 rfl ?_
    refine v_cVS (As := [.int 1]) (wr := [(txo, .inr (7, [.ref tsg, .int (nI ln), .int (nI (p + 1)), .int ((sgT tb ln) (p + 1))])), (tsg, eB D 100 tb)]) (st := [.int ((sgT tb ln) (p + 1))]) O cf_X7_77 rfl 1 (by decide) (sp_J0_charAt_5068e (i := 1) (k := 1) (by decide) (by decide)) dX7_spells_16 rfl rfl [] [0, 1] (by decide) rfl rfl (by decide) (by decide) (by decide) (Nat.le_of_ble_eq_true rfl) (by decide) (by decide) (fun r_16 w_17 h_15 => ?_)
    obtain ⟨rfl, rfl⟩ := h_15
    refine v_eq (st' := [.int (x_ch 1 1), .int ((sgT tb ln) (p + 1))]) (ws' := [(txo, .inr (7, [.ref tsg, .int (nI ln), .int (nI (p + 1)), .int ((sgT tb ln) (p + 1))])), (tsg, eB D 100 tb)]) rfl rfl rfl rfl ?_
    refine v_top (y := 97) (rfl) ?_
    refine v_icmp_eq O 24 dX7_spells_19 (by decide) (fun y1 => ?_) (fun y1 => ?_)
    · skip
      have x1 := sgT_lt y1 (by decide)
      refine v_aload_n O dX7_spells_24 0 rfl ?_
      refine v_aload_n O dX7_spells_25 0 rfl ?_
      refine gf_X7_19 O rfl dX7_spells_26 0 rfl rfl ?_
      refine v_iconst (v := 1) O dX7_spells_29 (by decide) ?_
      refine v_iadd O dX7_spells_30 ?_
      refine v_top (y := nI ((p + 1) + 1)) (nI_add (p + 1) 1) ?_
      refine v_cV (T := TX7) (ci := 7) (As := [.int (nI ((p + 1) + 1))]) (wr := []) (st := []) O cf_X7_30 rfl (sp_X7_goTo (txo := txo) (tsg := tsg) (ln := ln) (tb := tb) (pl := (nI (p + 1))) (si := ((sgT tb ln) (p + 1))) (q := ((p + 1) + 1)) (hln) (by omega)) dX7_spells_31 rfl rfl 0 rfl [0, 1] [] (by decide) rfl rfl (by decide) (by decide) (by decide) (Nat.le_of_ble_eq_true rfl) (by decide) (by decide) (fun r_19 w_20 h_18 => ?_)
      obtain ⟨rfl, rfl⟩ := h_18
      refine v_eq (st' := []) (ws' := [(txo, .inr (7, [.ref tsg, .int (nI ln), .int (nI ((p + 1) + 1)), .int ((sgT tb ln) ((p + 1) + 1))])), (tsg, eB D 100 tb)]) rfl rfl rfl rfl ?_
      refine v_iinc (v := 2) (lv' := [(0, .ref txo), (1, .ref (D.2.2 (10 + 1))), (2, .int 2)]) O dX7_spells_34 2 rfl (by decide) (by decide) rfl ?_
      refine v_goto O 2 dX7_spells_37 (by decide) ?_
      refine v_iload_n O dX7_spells_2 2 rfl ?_
      refine v_aload_n O dX7_spells_3 1 rfl ?_
      refine v_cVS (As := []) (wr := [(txo, .inr (7, [.ref tsg, .int (nI ln), .int (nI ((p + 1) + 1)), .int ((sgT tb ln) ((p + 1) + 1))])), (tsg, eB D 100 tb)]) (st := [.int 2]) O cf_X7_73 rfl 1 (by decide) (sp_J0_length_8abf5 (i := 1) (by decide)) dX7_spells_4 rfl rfl [] [0, 1] (by decide) rfl rfl (by decide) (by decide) (by decide) (Nat.le_of_ble_eq_true rfl) (by decide) (by decide) (fun r_22 w_23 h_21 => ?_)
      obtain ⟨rfl, rfl⟩ := h_21
      refine v_eq (st' := [.int (nI (x_len.getD 1 0)), .int 2]) (ws' := [(txo, .inr (7, [.ref tsg, .int (nI ln), .int (nI ((p + 1) + 1)), .int ((sgT tb ln) ((p + 1) + 1))])), (tsg, eB D 100 tb)]) rfl rfl rfl rfl ?_
      refine v_top (y := 5) (rfl) ?_
      refine v_icmp_ge O 40 dX7_spells_7 (by decide) (fun c => absurd c (by decide)) (fun _ => ?_)
      refine v_aload_n O dX7_spells_10 0 rfl ?_
      refine gf_X7_22 O rfl dX7_spells_11 0 rfl rfl ?_
      refine v_aload_n O dX7_spells_14 1 rfl ?_
      refine v_iload_n O dX7_spells_15 2 rfl ?_
      refine v_cVS (As := [.int 2]) (wr := [(txo, .inr (7, [.ref tsg, .int (nI ln), .int (nI ((p + 1) + 1)), .int ((sgT tb ln) ((p + 1) + 1))])), (tsg, eB D 100 tb)]) (st := [.int ((sgT tb ln) ((p + 1) + 1))]) O cf_X7_77 rfl 1 (by decide) (sp_J0_charAt_5068e (i := 1) (k := 2) (by decide) (by decide)) dX7_spells_16 rfl rfl [] [0, 1] (by decide) rfl rfl (by decide) (by decide) (by decide) (Nat.le_of_ble_eq_true rfl) (by decide) (by decide) (fun r_26 w_27 h_25 => ?_)
      obtain ⟨rfl, rfl⟩ := h_25
      refine v_eq (st' := [.int (x_ch 1 2), .int ((sgT tb ln) ((p + 1) + 1))]) (ws' := [(txo, .inr (7, [.ref tsg, .int (nI ln), .int (nI ((p + 1) + 1)), .int ((sgT tb ln) ((p + 1) + 1))])), (tsg, eB D 100 tb)]) rfl rfl rfl rfl ?_
      refine v_top (y := 99) (rfl) ?_
      refine v_icmp_eq O 24 dX7_spells_19 (by decide) (fun y2 => ?_) (fun y2 => ?_)
      · skip
        have x2 := sgT_lt y2 (by decide)
        refine v_aload_n O dX7_spells_24 0 rfl ?_
        refine v_aload_n O dX7_spells_25 0 rfl ?_
        refine gf_X7_19 O rfl dX7_spells_26 0 rfl rfl ?_
        refine v_iconst (v := 1) O dX7_spells_29 (by decide) ?_
        refine v_iadd O dX7_spells_30 ?_
        refine v_top (y := nI (((p + 1) + 1) + 1)) (nI_add ((p + 1) + 1) 1) ?_
        refine v_cV (T := TX7) (ci := 7) (As := [.int (nI (((p + 1) + 1) + 1))]) (wr := []) (st := []) O cf_X7_30 rfl (sp_X7_goTo (txo := txo) (tsg := tsg) (ln := ln) (tb := tb) (pl := (nI ((p + 1) + 1))) (si := ((sgT tb ln) ((p + 1) + 1))) (q := (((p + 1) + 1) + 1)) (hln) (by omega)) dX7_spells_31 rfl rfl 0 rfl [0, 1] [] (by decide) rfl rfl (by decide) (by decide) (by decide) (Nat.le_of_ble_eq_true rfl) (by decide) (by decide) (fun r_29 w_30 h_28 => ?_)
        obtain ⟨rfl, rfl⟩ := h_28
        refine v_eq (st' := []) (ws' := [(txo, .inr (7, [.ref tsg, .int (nI ln), .int (nI (((p + 1) + 1) + 1)), .int ((sgT tb ln) (((p + 1) + 1) + 1))])), (tsg, eB D 100 tb)]) rfl rfl rfl rfl ?_
        refine v_iinc (v := 3) (lv' := [(0, .ref txo), (1, .ref (D.2.2 (10 + 1))), (2, .int 3)]) O dX7_spells_34 2 rfl (by decide) (by decide) rfl ?_
        refine v_goto O 2 dX7_spells_37 (by decide) ?_
        refine v_iload_n O dX7_spells_2 2 rfl ?_
        refine v_aload_n O dX7_spells_3 1 rfl ?_
        refine v_cVS (As := []) (wr := [(txo, .inr (7, [.ref tsg, .int (nI ln), .int (nI (((p + 1) + 1) + 1)), .int ((sgT tb ln) (((p + 1) + 1) + 1))])), (tsg, eB D 100 tb)]) (st := [.int 3]) O cf_X7_73 rfl 1 (by decide) (sp_J0_length_8abf5 (i := 1) (by decide)) dX7_spells_4 rfl rfl [] [0, 1] (by decide) rfl rfl (by decide) (by decide) (by decide) (Nat.le_of_ble_eq_true rfl) (by decide) (by decide) (fun r_32 w_33 h_31 => ?_)
        obtain ⟨rfl, rfl⟩ := h_31
        refine v_eq (st' := [.int (nI (x_len.getD 1 0)), .int 3]) (ws' := [(txo, .inr (7, [.ref tsg, .int (nI ln), .int (nI (((p + 1) + 1) + 1)), .int ((sgT tb ln) (((p + 1) + 1) + 1))])), (tsg, eB D 100 tb)]) rfl rfl rfl rfl ?_
        refine v_top (y := 5) (rfl) ?_
        refine v_icmp_ge O 40 dX7_spells_7 (by decide) (fun c => absurd c (by decide)) (fun _ => ?_)
        refine v_aload_n O dX7_spells_10 0 rfl ?_
        refine gf_X7_22 O rfl dX7_spells_11 0 rfl rfl ?_
        refine v_aload_n O dX7_spells_14 1 rfl ?_
        refine v_iload_n O dX7_spells_15 2 rfl ?_
        refine v_cVS (As := [.int 3]) (wr := [(txo, .inr (7, [.ref tsg, .int (nI ln), .int (nI (((p + 1) + 1) + 1)), .int ((sgT tb ln) (((p + 1) + 1) + 1))])), (tsg, eB D 100 tb)]) (st := [.int ((sgT tb ln) (((p + 1) + 1) + 1))]) O cf_X7_77 rfl 1 (by decide) (sp_J0_charAt_5068e (i := 1) (k := 3) (by decide) (by decide)) dX7_spells_16 rfl rfl [] [0, 1] (by decide) rfl rfl (by decide) (by decide) (by decide) (Nat.le_of_ble_eq_true rfl) (by decide) (by decide) (fun r_36 w_37 h_35 => ?_)
        obtain ⟨rfl, rfl⟩ := h_35
        refine v_eq (st' := [.int (x_ch 1 3), .int ((sgT tb ln) (((p + 1) + 1) + 1))]) (ws' := [(txo, .inr (7, [.ref tsg, .int (nI ln), .int (nI (((p + 1) + 1) + 1)), .int ((sgT tb ln) (((p + 1) + 1) + 1))])), (tsg, eB D 100 tb)]) rfl rfl rfl rfl ?_
        refine v_top (y := 107) (rfl) ?_
        refine v_icmp_eq O 24 dX7_spells_19 (by decide) (fun y3 => ?_) (fun y3 => ?_)
        · skip
          have x3 := sgT_lt y3 (by decide)
          refine v_aload_n O dX7_spells_24 0 rfl ?_
          refine v_aload_n O dX7_spells_25 0 rfl ?_
          refine gf_X7_19 O rfl dX7_spells_26 0 rfl rfl ?_
          refine v_iconst (v := 1) O dX7_spells_29 (by decide) ?_
          refine v_iadd O dX7_spells_30 ?_
          refine v_top (y := nI ((((p + 1) + 1) + 1) + 1)) (nI_add (((p + 1) + 1) + 1) 1) ?_
          refine v_cV (T := TX7) (ci := 7) (As := [.int (nI ((((p + 1) + 1) + 1) + 1))]) (wr := []) (st := []) O cf_X7_30 rfl (sp_X7_goTo (txo := txo) (tsg := tsg) (ln := ln) (tb := tb) (pl := (nI (((p + 1) + 1) + 1))) (si := ((sgT tb ln) (((p + 1) + 1) + 1))) (q := ((((p + 1) + 1) + 1) + 1)) (hln) (by omega)) dX7_spells_31 rfl rfl 0 rfl [0, 1] [] (by decide) rfl rfl (by decide) (by decide) (by decide) (Nat.le_of_ble_eq_true rfl) (by decide) (by decide) (fun r_39 w_40 h_38 => ?_)
          obtain ⟨rfl, rfl⟩ := h_38
          refine v_eq (st' := []) (ws' := [(txo, .inr (7, [.ref tsg, .int (nI ln), .int (nI ((((p + 1) + 1) + 1) + 1)), .int ((sgT tb ln) ((((p + 1) + 1) + 1) + 1))])), (tsg, eB D 100 tb)]) rfl rfl rfl rfl ?_
          refine v_iinc (v := 4) (lv' := [(0, .ref txo), (1, .ref (D.2.2 (10 + 1))), (2, .int 4)]) O dX7_spells_34 2 rfl (by decide) (by decide) rfl ?_
          refine v_goto O 2 dX7_spells_37 (by decide) ?_
          refine v_iload_n O dX7_spells_2 2 rfl ?_
          refine v_aload_n O dX7_spells_3 1 rfl ?_
          refine v_cVS (As := []) (wr := [(txo, .inr (7, [.ref tsg, .int (nI ln), .int (nI ((((p + 1) + 1) + 1) + 1)), .int ((sgT tb ln) ((((p + 1) + 1) + 1) + 1))])), (tsg, eB D 100 tb)]) (st := [.int 4]) O cf_X7_73 rfl 1 (by decide) (sp_J0_length_8abf5 (i := 1) (by decide)) dX7_spells_4 rfl rfl [] [0, 1] (by decide) rfl rfl (by decide) (by decide) (by decide) (Nat.le_of_ble_eq_true rfl) (by decide) (by decide) (fun r_42 w_43 h_41 => ?_)
          obtain ⟨rfl, rfl⟩ := h_41
          refine v_eq (st' := [.int (nI (x_len.getD 1 0)), .int 4]) (ws' := [(txo, .inr (7, [.ref tsg, .int (nI ln), .int (nI ((((p + 1) + 1) + 1) + 1)), .int ((sgT tb ln) ((((p + 1) + 1) + 1) + 1))])), (tsg, eB D 100 tb)]) rfl rfl rfl rfl ?_
          refine v_top (y := 5) (rfl) ?_
          refine v_icmp_ge O 40 dX7_spells_7 (by decide) (fun c => absurd c (by decide)) (fun _ => ?_)
          refine v_aload_n O dX7_spells_10 0 rfl ?_
          refine gf_X7_22 O rfl dX7_spells_11 0 rfl rfl ?_
          refine v_aload_n O dX7_spells_14 1 rfl ?_
          refine v_iload_n O dX7_spells_15 2 rfl ?_
          refine v_cVS (As := [.int 4]) (wr := [(txo, .inr (7, [.ref tsg, .int (nI ln), .int (nI ((((p + 1) + 1) + 1) + 1)), .int ((sgT tb ln) ((((p + 1) + 1) + 1) + 1))])), (tsg, eB D 100 tb)]) (st := [.int ((sgT tb ln) ((((p + 1) + 1) + 1) + 1))]) O cf_X7_77 rfl 1 (by decide) (sp_J0_charAt_5068e (i := 1) (k := 4) (by decide) (by decide)) dX7_spells_16 rfl rfl [] [0, 1] (by decide) rfl rfl (by decide) (by decide) (by decide) (Nat.le_of_ble_eq_true rfl) (by decide) (by decide) (fun r_46 w_47 h_45 => ?_)
          obtain ⟨rfl, rfl⟩ := h_45
          refine v_eq (st' := [.int (x_ch 1 4), .int ((sgT tb ln) ((((p + 1) + 1) + 1) + 1))]) (ws' := [(txo, .inr (7, [.ref tsg, .int (nI ln), .int (nI ((((p + 1) + 1) + 1) + 1)), .int ((sgT tb ln) ((((p + 1) + 1) + 1) + 1))])), (tsg, eB D 100 tb)]) rfl rfl rfl rfl ?_
          refine v_top (y := 32) (rfl) ?_
          refine v_icmp_eq O 24 dX7_spells_19 (by decide) (fun y4 => ?_) (fun y4 => ?_)
          · skip
            have x4 := sgT_lt y4 (by decide)
            refine v_aload_n O dX7_spells_24 0 rfl ?_
            refine v_aload_n O dX7_spells_25 0 rfl ?_
            refine gf_X7_19 O rfl dX7_spells_26 0 rfl rfl ?_
            refine v_iconst (v := 1) O dX7_spells_29 (by decide) ?_
            refine v_iadd O dX7_spells_30 ?_
            refine v_top (y := nI (((((p + 1) + 1) + 1) + 1) + 1)) (nI_add ((((p + 1) + 1) + 1) + 1) 1) ?_
            refine v_cV (T := TX7) (ci := 7) (As := [.int (nI (((((p + 1) + 1) + 1) + 1) + 1))]) (wr := []) (st := []) O cf_X7_30 rfl (sp_X7_goTo (txo := txo) (tsg := tsg) (ln := ln) (tb := tb) (pl := (nI ((((p + 1) + 1) + 1) + 1))) (si := ((sgT tb ln) ((((p + 1) + 1) + 1) + 1))) (q := (((((p + 1) + 1) + 1) + 1) + 1)) (hln) (by omega)) dX7_spells_31 rfl rfl 0 rfl [0, 1] [] (by decide) rfl rfl (by decide) (by decide) (by decide) (Nat.le_of_ble_eq_true rfl) (by decide) (by decide) (fun r_49 w_50 h_48 => ?_)
            obtain ⟨rfl, rfl⟩ := h_48
            refine v_eq (st' := []) (ws' := [(txo, .inr (7, [.ref tsg, .int (nI ln), .int (nI (((((p + 1) + 1) + 1) + 1) + 1)), .int ((sgT tb ln) (((((p + 1) + 1) + 1) + 1) + 1))])), (tsg, eB D 100 tb)]) rfl rfl rfl rfl ?_
            refine v_iinc (v := 5) (lv' := [(0, .ref txo), (1, .ref (D.2.2 (10 + 1))), (2, .int 5)]) O dX7_spells_34 2 rfl (by decide) (by decide) rfl ?_
            refine v_goto O 2 dX7_spells_37 (by decide) ?_
            refine v_iload_n O dX7_spells_2 2 rfl ?_
            refine v_aload_n O dX7_spells_3 1 rfl ?_
            refine v_cVS (As := []) (wr := [(txo, .inr (7, [.ref tsg, .int (nI ln), .int (nI (((((p + 1) + 1) + 1) + 1) + 1)), .int ((sgT tb ln) (((((p + 1) + 1) + 1) + 1) + 1))])), (tsg, eB D 100 tb)]) (st := [.int 5]) O cf_X7_73 rfl 1 (by decide) (sp_J0_length_8abf5 (i := 1) (by decide)) dX7_spells_4 rfl rfl [] [0, 1] (by decide) rfl rfl (by decide) (by decide) (by decide) (Nat.le_of_ble_eq_true rfl) (by decide) (by decide) (fun r_52 w_53 h_51 => ?_)
            obtain ⟨rfl, rfl⟩ := h_51
            refine v_eq (st' := [.int (nI (x_len.getD 1 0)), .int 5]) (ws' := [(txo, .inr (7, [.ref tsg, .int (nI ln), .int (nI (((((p + 1) + 1) + 1) + 1) + 1)), .int ((sgT tb ln) (((((p + 1) + 1) + 1) + 1) + 1))])), (tsg, eB D 100 tb)]) rfl rfl rfl rfl ?_
            refine v_top (y := 5) (rfl) ?_
            refine v_icmp_ge O 40 dX7_spells_7 (by decide) (fun _ => ?_) (fun c => absurd c (by decide))
            refine v_iconst (v := 1) O dX7_spells_40 (by decide) ?_
            exact v_ireturn O T rfl rfl (by decide) (by decide) dX7_spells_41 (⟨by rw [b2i_t (by simp only [spl, if_pos y0, if_pos y1, if_pos y2, if_pos y3, if_pos y4])], by simp only [spl, if_pos y0, if_pos y1, if_pos y2, if_pos y3, if_pos y4]⟩)
          · skip
            refine v_iconst (v := 0) O dX7_spells_22 (by decide) ?_
            exact v_ireturn O T rfl rfl (by decide) (by decide) dX7_spells_23 (⟨by rw [b2i_f (by simp only [spl, if_pos y0, if_pos y1, if_pos y2, if_pos y3, if_neg y4]; decide)], by simp only [spl, if_pos y0, if_pos y1, if_pos y2, if_pos y3, if_neg y4]⟩)
        · skip
          refine v_iconst (v := 0) O dX7_spells_22 (by decide) ?_
          exact v_ireturn O T rfl rfl (by decide) (by decide) dX7_spells_23 (⟨by rw [b2i_f (by simp only [spl, if_pos y0, if_pos y1, if_pos y2, if_neg y3]; decide)], by simp only [spl, if_pos y0, if_pos y1, if_pos y2, if_neg y3]⟩)
      · skip
        refine v_iconst (v := 0) O dX7_spells_22 (by decide) ?_
        exact v_ireturn O T rfl rfl (by decide) (by decide) dX7_spells_23 (⟨by rw [b2i_f (by simp only [spl, if_pos y0, if_pos y1, if_neg y2]; decide)], by simp only [spl, if_pos y0, if_pos y1, if_neg y2]⟩)
    · skip
      refine v_iconst (v := 0) O dX7_spells_22 (by decide) ?_
      exact v_ireturn O T rfl rfl (by decide) (by decide) dX7_spells_23 (⟨by rw [b2i_f (by simp only [spl, if_pos y0, if_neg y1]; decide)], by simp only [spl, if_pos y0, if_neg y1]⟩)
  · skip
    refine v_iconst (v := 0) O dX7_spells_22 (by decide) ?_
    exact v_ireturn O T rfl rfl (by decide) (by decide) dX7_spells_23 (⟨by rw [b2i_f (by simp only [spl, if_neg y0]; decide)], by simp only [spl, if_neg y0]⟩)
set_option maxRecDepth 100000 in
set_option maxHeartbeats 4000000 in
theorem sp_X7_spells_2 {D : G} {txo : Nat} {tsg : Nat} {ln : Nat} {tb : Nat → Int32} {p : Nat} (hln : ln ≤ 100) (hp : p ≤ ln) : Sp D mX7_spells 4 0 0 [.ref txo, .ref (D.2.2 (10 + 2))] [(txo, .inr (7, [.ref tsg, .int (nI ln), .int (nI p), .int ((sgT tb ln) p)])), (tsg, eB D 100 tb)] (fun r w => r = some (.int (b2i ((spl (sgT tb ln) [111, 114, 110, 105, 110, 103, 32] p).2 = true))) ∧ w = [(txo, .inr (7, [.ref tsg, .int (nI ln), .int (nI ((spl (sgT tb ln) [111, 114, 110, 105, 110, 103, 32] p).1)), .int ((sgT tb ln) ((spl (sgT tb ln) [111, 114, 110, 105, 110, 103, 32] p).1))])), (tsg, eB D 100 tb)]) := by
  refine Sp.of (by decide) (Nat.le_of_ble_eq_true rfl) (fun X O T => ?_)
  refine v_eq (lv' := [(0, .ref txo), (1, .ref (D.2.2 (10 + 2)))]) rfl rfl rfl rfl ?_
  refine v_iconst (v := 0) O dX7_spells_0 (by decide) ?_
  refine v_istore_n (lv' := [(0, .ref txo), (1, .ref (D.2.2 (10 + 2))), (2, .int 0)]) O dX7_spells_1 (by decide) rfl ?_
  refine v_iload_n O dX7_spells_2 2 rfl ?_
  refine v_aload_n O dX7_spells_3 1 rfl ?_
  refine v_cVS (As := []) (wr := [(txo, .inr (7, [.ref tsg, .int (nI ln), .int (nI p), .int ((sgT tb ln) p)])), (tsg, eB D 100 tb)]) (st := [.int 0]) O cf_X7_73 rfl 2 (by decide) (sp_J0_length_8abf5 (i := 2) (by decide)) dX7_spells_4 rfl rfl [] [0, 1] (by decide) rfl rfl (by decide) (by decide) (by decide) (Nat.le_of_ble_eq_true rfl) (by decide) (by decide) (fun r_2 w_3 h_1 => ?_)
  obtain ⟨rfl, rfl⟩ := h_1
  refine v_eq (st' := [.int (nI (x_len.getD 2 0)), .int 0]) (ws' := [(txo, .inr (7, [.ref tsg, .int (nI ln), .int (nI p), .int ((sgT tb ln) p)])), (tsg, eB D 100 tb)]) rfl rfl rfl rfl ?_
  refine v_top (y := 7) (rfl) ?_
  refine v_icmp_ge O 40 dX7_spells_7 (by decide) (fun c => absurd c (by decide)) (fun _ => ?_)
  refine v_aload_n O dX7_spells_10 0 rfl ?_
  refine gf_X7_22 O rfl dX7_spells_11 0 rfl rfl ?_
  refine v_aload_n O dX7_spells_14 1 rfl ?_
  refine v_iload_n O dX7_spells_15 2 rfl ?_
  refine v_cVS (As := [.int 0]) (wr := [(txo, .inr (7, [.ref tsg, .int (nI ln), .int (nI p), .int ((sgT tb ln) p)])), (tsg, eB D 100 tb)]) (st := [.int ((sgT tb ln) p)]) O cf_X7_77 rfl 2 (by decide) (sp_J0_charAt_5068e (i := 2) (k := 0) (by decide) (by decide)) dX7_spells_16 rfl rfl [] [0, 1] (by decide) rfl rfl (by decide) (by decide) (by decide) (Nat.le_of_ble_eq_true rfl) (by decide) (by decide) (fun r_6 w_7 h_5 => ?_)
  obtain ⟨rfl, rfl⟩ := h_5
  refine v_eq (st' := [.int (x_ch 2 0), .int ((sgT tb ln) p)]) (ws' := [(txo, .inr (7, [.ref tsg, .int (nI ln), .int (nI p), .int ((sgT tb ln) p)])), (tsg, eB D 100 tb)]) rfl rfl rfl rfl ?_
  refine v_top (y := 111) (rfl) ?_
  refine v_icmp_eq O 24 dX7_spells_19 (by decide) (fun y0 => ?_) (fun y0 => ?_)
  · skip
    have x0 := sgT_lt y0 (by decide)
    refine v_aload_n O dX7_spells_24 0 rfl ?_
    refine v_aload_n O dX7_spells_25 0 rfl ?_
    refine gf_X7_19 O rfl dX7_spells_26 0 rfl rfl ?_
    refine v_iconst (v := 1) O dX7_spells_29 (by decide) ?_
    refine v_iadd O dX7_spells_30 ?_
    refine v_top (y := nI (p + 1)) (nI_add p 1) ?_
    refine v_cV (T := TX7) (ci := 7) (As := [.int (nI (p + 1))]) (wr := []) (st := []) O cf_X7_30 rfl (sp_X7_goTo (txo := txo) (tsg := tsg) (ln := ln) (tb := tb) (pl := (nI p)) (si := ((sgT tb ln) p)) (q := (p + 1)) (hln) (by omega)) dX7_spells_31 rfl rfl 0 rfl [0, 1] [] (by decide) rfl rfl (by decide) (by decide) (by decide) (Nat.le_of_ble_eq_true rfl) (by decide) (by decide) (fun r_9 w_10 h_8 => ?_)
    obtain ⟨rfl, rfl⟩ := h_8
    refine v_eq (st' := []) (ws' := [(txo, .inr (7, [.ref tsg, .int (nI ln), .int (nI (p + 1)), .int ((sgT tb ln) (p + 1))])), (tsg, eB D 100 tb)]) rfl rfl rfl rfl ?_
    refine v_iinc (v := 1) (lv' := [(0, .ref txo), (1, .ref (D.2.2 (10 + 2))), (2, .int 1)]) O dX7_spells_34 2 rfl (by decide) (by decide) rfl ?_
    refine v_goto O 2 dX7_spells_37 (by decide) ?_
    refine v_iload_n O dX7_spells_2 2 rfl ?_
    refine v_aload_n O dX7_spells_3 1 rfl ?_
    refine v_cVS (As := []) (wr := [(txo, .inr (7, [.ref tsg, .int (nI ln), .int (nI (p + 1)), .int ((sgT tb ln) (p + 1))])), (tsg, eB D 100 tb)]) (st := [.int 1]) O cf_X7_73 rfl 2 (by decide) (sp_J0_length_8abf5 (i := 2) (by decide)) dX7_spells_4 rfl rfl [] [0, 1] (by decide) rfl rfl (by decide) (by decide) (by decide) (Nat.le_of_ble_eq_true rfl) (by decide) (by decide) (fun r_12 w_13 h_11 => ?_)
    obtain ⟨rfl, rfl⟩ := h_11
    refine v_eq (st' := [.int (nI (x_len.getD 2 0)), .int 1]) (ws' := [(txo, .inr (7, [.ref tsg, .int (nI ln), .int (nI (p + 1)), .int ((sgT tb ln) (p + 1))])), (tsg, eB D 100 tb)]) rfl rfl rfl rfl ?_
    refine v_top (y := 7) (rfl) ?_
    refine v_icmp_ge O 40 dX7_spells_7 (by decide) (fun c => absurd c (by decide)) (fun _ => ?_)
    refine v_aload_n O dX7_spells_10 0 rfl ?_
    refine gf_X7_22 O rfl dX7_spells_11 0 rfl rfl ?_
    refine v_aload_n O dX7_spells_14 1 rfl ?_
    refine v_iload_n O dX7_spells_15 2 rfl ?_
    refine v_cVS (As := [.int 1]) (wr := [(txo, .inr (7, [.ref tsg, .int (nI ln), .int (nI (p + 1)), .int ((sgT tb ln) (p + 1))])), (tsg, eB D 100 tb)]) (st := [.int ((sgT tb ln) (p + 1))]) O cf_X7_77 rfl 2 (by decide) (sp_J0_charAt_5068e (i := 2) (k := 1) (by decide) (by decide)) dX7_spells_16 rfl rfl [] [0, 1] (by decide) rfl rfl (by decide) (by decide) (by decide) (Nat.le_of_ble_eq_true rfl) (by decide) (by decide) (fun r_16 w_17 h_15 => ?_)
    obtain ⟨rfl, rfl⟩ := h_15
    refine v_eq (st' := [.int (x_ch 2 1), .int ((sgT tb ln) (p + 1))]) (ws' := [(txo, .inr (7, [.ref tsg, .int (nI ln), .int (nI (p + 1)), .int ((sgT tb ln) (p + 1))])), (tsg, eB D 100 tb)]) rfl rfl rfl rfl ?_
    refine v_top (y := 114) (rfl) ?_
    refine v_icmp_eq O 24 dX7_spells_19 (by decide) (fun y1 => ?_) (fun y1 => ?_)
    · skip
      have x1 := sgT_lt y1 (by decide)
      refine v_aload_n O dX7_spells_24 0 rfl ?_
      refine v_aload_n O dX7_spells_25 0 rfl ?_
      refine gf_X7_19 O rfl dX7_spells_26 0 rfl rfl ?_
      refine v_iconst (v := 1) O dX7_spells_29 (by decide) ?_
      refine v_iadd O dX7_spells_30 ?_
      refine v_top (y := nI ((p + 1) + 1)) (nI_add (p + 1) 1) ?_
      refine v_cV (T := TX7) (ci := 7) (As := [.int (nI ((p + 1) + 1))]) (wr := []) (st := []) O cf_X7_30 rfl (sp_X7_goTo (txo := txo) (tsg := tsg) (ln := ln) (tb := tb) (pl := (nI (p + 1))) (si := ((sgT tb ln) (p + 1))) (q := ((p + 1) + 1)) (hln) (by omega)) dX7_spells_31 rfl rfl 0 rfl [0, 1] [] (by decide) rfl rfl (by decide) (by decide) (by decide) (Nat.le_of_ble_eq_true rfl) (by decide) (by decide) (fun r_19 w_20 h_18 => ?_)
      obtain ⟨rfl, rfl⟩ := h_18
      refine v_eq (st' := []) (ws' := [(txo, .inr (7, [.ref tsg, .int (nI ln), .int (nI ((p + 1) + 1)), .int ((sgT tb ln) ((p + 1) + 1))])), (tsg, eB D 100 tb)]) rfl rfl rfl rfl ?_
      refine v_iinc (v := 2) (lv' := [(0, .ref txo), (1, .ref (D.2.2 (10 + 2))), (2, .int 2)]) O dX7_spells_34 2 rfl (by decide) (by decide) rfl ?_
      refine v_goto O 2 dX7_spells_37 (by decide) ?_
      refine v_iload_n O dX7_spells_2 2 rfl ?_
      refine v_aload_n O dX7_spells_3 1 rfl ?_
      refine v_cVS (As := []) (wr := [(txo, .inr (7, [.ref tsg, .int (nI ln), .int (nI ((p + 1) + 1)), .int ((sgT tb ln) ((p + 1) + 1))])), (tsg, eB D 100 tb)]) (st := [.int 2]) O cf_X7_73 rfl 2 (by decide) (sp_J0_length_8abf5 (i := 2) (by decide)) dX7_spells_4 rfl rfl [] [0, 1] (by decide) rfl rfl (by decide) (by decide) (by decide) (Nat.le_of_ble_eq_true rfl) (by decide) (by decide) (fun r_22 w_23 h_21 => ?_)
      obtain ⟨rfl, rfl⟩ := h_21
      refine v_eq (st' := [.int (nI (x_len.getD 2 0)), .int 2]) (ws' := [(txo, .inr (7, [.ref tsg, .int (nI ln), .int (nI ((p + 1) + 1)), .int ((sgT tb ln) ((p + 1) + 1))])), (tsg, eB D 100 tb)]) rfl rfl rfl rfl ?_
      refine v_top (y := 7) (rfl) ?_
      refine v_icmp_ge O 40 dX7_spells_7 (by decide) (fun c => absurd c (by decide)) (fun _ => ?_)
      refine v_aload_n O dX7_spells_10 0 rfl ?_
      refine gf_X7_22 O rfl dX7_spells_11 0 rfl rfl ?_
      refine v_aload_n O dX7_spells_14 1 rfl ?_
      refine v_iload_n O dX7_spells_15 2 rfl ?_
      refine v_cVS (As := [.int 2]) (wr := [(txo, .inr (7, [.ref tsg, .int (nI ln), .int (nI ((p + 1) + 1)), .int ((sgT tb ln) ((p + 1) + 1))])), (tsg, eB D 100 tb)]) (st := [.int ((sgT tb ln) ((p + 1) + 1))]) O cf_X7_77 rfl 2 (by decide) (sp_J0_charAt_5068e (i := 2) (k := 2) (by decide) (by decide)) dX7_spells_16 rfl rfl [] [0, 1] (by decide) rfl rfl (by decide) (by decide) (by decide) (Nat.le_of_ble_eq_true rfl) (by decide) (by decide) (fun r_26 w_27 h_25 => ?_)
      obtain ⟨rfl, rfl⟩ := h_25
      refine v_eq (st' := [.int (x_ch 2 2), .int ((sgT tb ln) ((p + 1) + 1))]) (ws' := [(txo, .inr (7, [.ref tsg, .int (nI ln), .int (nI ((p + 1) + 1)), .int ((sgT tb ln) ((p + 1) + 1))])), (tsg, eB D 100 tb)]) rfl rfl rfl rfl ?_
      refine v_top (y := 110) (rfl) ?_
      refine v_icmp_eq O 24 dX7_spells_19 (by decide) (fun y2 => ?_) (fun y2 => ?_)
      · skip
        have x2 := sgT_lt y2 (by decide)
        refine v_aload_n O dX7_spells_24 0 rfl ?_
        refine v_aload_n O dX7_spells_25 0 rfl ?_
        refine gf_X7_19 O rfl dX7_spells_26 0 rfl rfl ?_
        refine v_iconst (v := 1) O dX7_spells_29 (by decide) ?_
        refine v_iadd O dX7_spells_30 ?_
        refine v_top (y := nI (((p + 1) + 1) + 1)) (nI_add ((p + 1) + 1) 1) ?_
        refine v_cV (T := TX7) (ci := 7) (As := [.int (nI (((p + 1) + 1) + 1))]) (wr := []) (st := []) O cf_X7_30 rfl (sp_X7_goTo (txo := txo) (tsg := tsg) (ln := ln) (tb := tb) (pl := (nI ((p + 1) + 1))) (si := ((sgT tb ln) ((p + 1) + 1))) (q := (((p + 1) + 1) + 1)) (hln) (by omega)) dX7_spells_31 rfl rfl 0 rfl [0, 1] [] (by decide) rfl rfl (by decide) (by decide) (by decide) (Nat.le_of_ble_eq_true rfl) (by decide) (by decide) (fun r_29 w_30 h_28 => ?_)
        obtain ⟨rfl, rfl⟩ := h_28
        refine v_eq (st' := []) (ws' := [(txo, .inr (7, [.ref tsg, .int (nI ln), .int (nI (((p + 1) + 1) + 1)), .int ((sgT tb ln) (((p + 1) + 1) + 1))])), (tsg, eB D 100 tb)]) rfl rfl rfl rfl ?_
        refine v_iinc (v := 3) (lv' := [(0, .ref txo), (1, .ref (D.2.2 (10 + 2))), (2, .int 3)]) O dX7_spells_34 2 rfl (by decide) (by decide) rfl ?_
        refine v_goto O 2 dX7_spells_37 (by decide) ?_
        refine v_iload_n O dX7_spells_2 2 rfl ?_
        refine v_aload_n O dX7_spells_3 1 rfl ?_
        refine v_cVS (As := []) (wr := [(txo, .inr (7, [.ref tsg, .int (nI ln), .int (nI (((p + 1) + 1) + 1)), .int ((sgT tb ln) (((p + 1) + 1) + 1))])), (tsg, eB D 100 tb)]) (st := [.int 3]) O cf_X7_73 rfl 2 (by decide) (sp_J0_length_8abf5 (i := 2) (by decide)) dX7_spells_4 rfl rfl [] [0, 1] (by decide) rfl rfl (by decide) (by decide) (by decide) (Nat.le_of_ble_eq_true rfl) (by decide) (by decide) (fun r_32 w_33 h_31 => ?_)
        obtain ⟨rfl, rfl⟩ := h_31
        refine v_eq (st' := [.int (nI (x_len.getD 2 0)), .int 3]) (ws' := [(txo, .inr (7, [.ref tsg, .int (nI ln), .int (nI (((p + 1) + 1) + 1)), .int ((sgT tb ln) (((p + 1) + 1) + 1))])), (tsg, eB D 100 tb)]) rfl rfl rfl rfl ?_
        refine v_top (y := 7) (rfl) ?_
        refine v_icmp_ge O 40 dX7_spells_7 (by decide) (fun c => absurd c (by decide)) (fun _ => ?_)
        refine v_aload_n O dX7_spells_10 0 rfl ?_
        refine gf_X7_22 O rfl dX7_spells_11 0 rfl rfl ?_
        refine v_aload_n O dX7_spells_14 1 rfl ?_
        refine v_iload_n O dX7_spells_15 2 rfl ?_
        refine v_cVS (As := [.int 3]) (wr := [(txo, .inr (7, [.ref tsg, .int (nI ln), .int (nI (((p + 1) + 1) + 1)), .int ((sgT tb ln) (((p + 1) + 1) + 1))])), (tsg, eB D 100 tb)]) (st := [.int ((sgT tb ln) (((p + 1) + 1) + 1))]) O cf_X7_77 rfl 2 (by decide) (sp_J0_charAt_5068e (i := 2) (k := 3) (by decide) (by decide)) dX7_spells_16 rfl rfl [] [0, 1] (by decide) rfl rfl (by decide) (by decide) (by decide) (Nat.le_of_ble_eq_true rfl) (by decide) (by decide) (fun r_36 w_37 h_35 => ?_)
        obtain ⟨rfl, rfl⟩ := h_35
        refine v_eq (st' := [.int (x_ch 2 3), .int ((sgT tb ln) (((p + 1) + 1) + 1))]) (ws' := [(txo, .inr (7, [.ref tsg, .int (nI ln), .int (nI (((p + 1) + 1) + 1)), .int ((sgT tb ln) (((p + 1) + 1) + 1))])), (tsg, eB D 100 tb)]) rfl rfl rfl rfl ?_
        refine v_top (y := 105) (rfl) ?_
        refine v_icmp_eq O 24 dX7_spells_19 (by decide) (fun y3 => ?_) (fun y3 => ?_)
        · skip
          have x3 := sgT_lt y3 (by decide)
          refine v_aload_n O dX7_spells_24 0 rfl ?_
          refine v_aload_n O dX7_spells_25 0 rfl ?_
          refine gf_X7_19 O rfl dX7_spells_26 0 rfl rfl ?_
          refine v_iconst (v := 1) O dX7_spells_29 (by decide) ?_
          refine v_iadd O dX7_spells_30 ?_
          refine v_top (y := nI ((((p + 1) + 1) + 1) + 1)) (nI_add (((p + 1) + 1) + 1) 1) ?_
          refine v_cV (T := TX7) (ci := 7) (As := [.int (nI ((((p + 1) + 1) + 1) + 1))]) (wr := []) (st := []) O cf_X7_30 rfl (sp_X7_goTo (txo := txo) (tsg := tsg) (ln := ln) (tb := tb) (pl := (nI (((p + 1) + 1) + 1))) (si := ((sgT tb ln) (((p + 1) + 1) + 1))) (q := ((((p + 1) + 1) + 1) + 1)) (hln) (by omega)) dX7_spells_31 rfl rfl 0 rfl [0, 1] [] (by decide) rfl rfl (by decide) (by decide) (by decide) (Nat.le_of_ble_eq_true rfl) (by decide) (by decide) (fun r_39 w_40 h_38 => ?_)
          obtain ⟨rfl, rfl⟩ := h_38
          refine v_eq (st' := []) (ws' := [(txo, .inr (7, [.ref tsg, .int (nI ln), .int (nI ((((p + 1) + 1) + 1) + 1)), .int ((sgT tb ln) ((((p + 1) + 1) + 1) + 1))])), (tsg, eB D 100 tb)]) rfl rfl rfl rfl ?_
          refine v_iinc (v := 4) (lv' := [(0, .ref txo), (1, .ref (D.2.2 (10 + 2))), (2, .int 4)]) O dX7_spells_34 2 rfl (by decide) (by decide) rfl ?_
          refine v_goto O 2 dX7_spells_37 (by decide) ?_
          refine v_iload_n O dX7_spells_2 2 rfl ?_
          refine v_aload_n O dX7_spells_3 1 rfl ?_
          refine v_cVS (As := []) (wr := [(txo, .inr (7, [.ref tsg, .int (nI ln), .int (nI ((((p + 1) + 1) + 1) + 1)), .int ((sgT tb ln) ((((p + 1) + 1) + 1) + 1))])), (tsg, eB D 100 tb)]) (st := [.int 4]) O cf_X7_73 rfl 2 (by decide) (sp_J0_length_8abf5 (i := 2) (by decide)) dX7_spells_4 rfl rfl [] [0, 1] (by decide) rfl rfl (by decide) (by decide) (by decide) (Nat.le_of_ble_eq_true rfl) (by decide) (by decide) (fun r_42 w_43 h_41 => ?_)
          obtain ⟨rfl, rfl⟩ := h_41
          refine v_eq (st' := [.int (nI (x_len.getD 2 0)), .int 4]) (ws' := [(txo, .inr (7, [.ref tsg, .int (nI ln), .int (nI ((((p + 1) + 1) + 1) + 1)), .int ((sgT tb ln) ((((p + 1) + 1) + 1) + 1))])), (tsg, eB D 100 tb)]) rfl rfl rfl rfl ?_
          refine v_top (y := 7) (rfl) ?_
          refine v_icmp_ge O 40 dX7_spells_7 (by decide) (fun c => absurd c (by decide)) (fun _ => ?_)
          refine v_aload_n O dX7_spells_10 0 rfl ?_
          refine gf_X7_22 O rfl dX7_spells_11 0 rfl rfl ?_
          refine v_aload_n O dX7_spells_14 1 rfl ?_
          refine v_iload_n O dX7_spells_15 2 rfl ?_
          refine v_cVS (As := [.int 4]) (wr := [(txo, .inr (7, [.ref tsg, .int (nI ln), .int (nI ((((p + 1) + 1) + 1) + 1)), .int ((sgT tb ln) ((((p + 1) + 1) + 1) + 1))])), (tsg, eB D 100 tb)]) (st := [.int ((sgT tb ln) ((((p + 1) + 1) + 1) + 1))]) O cf_X7_77 rfl 2 (by decide) (sp_J0_charAt_5068e (i := 2) (k := 4) (by decide) (by decide)) dX7_spells_16 rfl rfl [] [0, 1] (by decide) rfl rfl (by decide) (by decide) (by decide) (Nat.le_of_ble_eq_true rfl) (by decide) (by decide) (fun r_46 w_47 h_45 => ?_)
          obtain ⟨rfl, rfl⟩ := h_45
          refine v_eq (st' := [.int (x_ch 2 4), .int ((sgT tb ln) ((((p + 1) + 1) + 1) + 1))]) (ws' := [(txo, .inr (7, [.ref tsg, .int (nI ln), .int (nI ((((p + 1) + 1) + 1) + 1)), .int ((sgT tb ln) ((((p + 1) + 1) + 1) + 1))])), (tsg, eB D 100 tb)]) rfl rfl rfl rfl ?_
          refine v_top (y := 110) (rfl) ?_
          refine v_icmp_eq O 24 dX7_spells_19 (by decide) (fun y4 => ?_) (fun y4 => ?_)
          · skip
            have x4 := sgT_lt y4 (by decide)
            refine v_aload_n O dX7_spells_24 0 rfl ?_
            refine v_aload_n O dX7_spells_25 0 rfl ?_
            refine gf_X7_19 O rfl dX7_spells_26 0 rfl rfl ?_
            refine v_iconst (v := 1) O dX7_spells_29 (by decide) ?_
            refine v_iadd O dX7_spells_30 ?_
            refine v_top (y := nI (((((p + 1) + 1) + 1) + 1) + 1)) (nI_add ((((p + 1) + 1) + 1) + 1) 1) ?_
            refine v_cV (T := TX7) (ci := 7) (As := [.int (nI (((((p + 1) + 1) + 1) + 1) + 1))]) (wr := []) (st := []) O cf_X7_30 rfl (sp_X7_goTo (txo := txo) (tsg := tsg) (ln := ln) (tb := tb) (pl := (nI ((((p + 1) + 1) + 1) + 1))) (si := ((sgT tb ln) ((((p + 1) + 1) + 1) + 1))) (q := (((((p + 1) + 1) + 1) + 1) + 1)) (hln) (by omega)) dX7_spells_31 rfl rfl 0 rfl [0, 1] [] (by decide) rfl rfl (by decide) (by decide) (by decide) (Nat.le_of_ble_eq_true rfl) (by decide) (by decide) (fun r_49 w_50 h_48 => ?_)
            obtain ⟨rfl, rfl⟩ := h_48
            refine v_eq (st' := []) (ws' := [(txo, .inr (7, [.ref tsg, .int (nI ln), .int (nI (((((p + 1) + 1) + 1) + 1) + 1)), .int ((sgT tb ln) (((((p + 1) + 1) + 1) + 1) + 1))])), (tsg, eB D 100 tb)]) rfl rfl rfl rfl ?_
            refine v_iinc (v := 5) (lv' := [(0, .ref txo), (1, .ref (D.2.2 (10 + 2))), (2, .int 5)]) O dX7_spells_34 2 rfl (by decide) (by decide) rfl ?_
            refine v_goto O 2 dX7_spells_37 (by decide) ?_
            refine v_iload_n O dX7_spells_2 2 rfl ?_
            refine v_aload_n O dX7_spells_3 1 rfl ?_
            refine v_cVS (As := []) (wr := [(txo, .inr (7, [.ref tsg, .int (nI ln), .int (nI (((((p + 1) + 1) + 1) + 1) + 1)), .int ((sgT tb ln) (((((p + 1) + 1) + 1) + 1) + 1))])), (tsg, eB D 100 tb)]) (st := [.int 5]) O cf_X7_73 rfl 2 (by decide) (sp_J0_length_8abf5 (i := 2) (by decide)) dX7_spells_4 rfl rfl [] [0, 1] (by decide) rfl rfl (by decide) (by decide) (by decide) (Nat.le_of_ble_eq_true rfl) (by decide) (by decide) (fun r_52 w_53 h_51 => ?_)
            obtain ⟨rfl, rfl⟩ := h_51
            refine v_eq (st' := [.int (nI (x_len.getD 2 0)), .int 5]) (ws' := [(txo, .inr (7, [.ref tsg, .int (nI ln), .int (nI (((((p + 1) + 1) + 1) + 1) + 1)), .int ((sgT tb ln) (((((p + 1) + 1) + 1) + 1) + 1))])), (tsg, eB D 100 tb)]) rfl rfl rfl rfl ?_
            refine v_top (y := 7) (rfl) ?_
            refine v_icmp_ge O 40 dX7_spells_7 (by decide) (fun c => absurd c (by decide)) (fun _ => ?_)
            refine v_aload_n O dX7_spells_10 0 rfl ?_
            refine gf_X7_22 O rfl dX7_spells_11 0 rfl rfl ?_
            refine v_aload_n O dX7_spells_14 1 rfl ?_
            refine v_iload_n O dX7_spells_15 2 rfl ?_
            refine v_cVS (As := [.int 5]) (wr := [(txo, .inr (7, [.ref tsg, .int (nI ln), .int (nI (((((p + 1) + 1) + 1) + 1) + 1)), .int ((sgT tb ln) (((((p + 1) + 1) + 1) + 1) + 1))])), (tsg, eB D 100 tb)]) (st := [.int ((sgT tb ln) (((((p + 1) + 1) + 1) + 1) + 1))]) O cf_X7_77 rfl 2 (by decide) (sp_J0_charAt_5068e (i := 2) (k := 5) (by decide) (by decide)) dX7_spells_16 rfl rfl [] [0, 1] (by decide) rfl rfl (by decide) (by decide) (by decide) (Nat.le_of_ble_eq_true rfl) (by decide) (by decide) (fun r_56 w_57 h_55 => ?_)
            obtain ⟨rfl, rfl⟩ := h_55
            refine v_eq (st' := [.int (x_ch 2 5), .int ((sgT tb ln) (((((p + 1) + 1) + 1) + 1) + 1))]) (ws' := [(txo, .inr (7, [.ref tsg, .int (nI ln), .int (nI (((((p + 1) + 1) + 1) + 1) + 1)), .int ((sgT tb ln) (((((p + 1) + 1) + 1) + 1) + 1))])), (tsg, eB D 100 tb)]) rfl rfl rfl rfl ?_
            refine v_top (y := 103) (rfl) ?_
            refine v_icmp_eq O 24 dX7_spells_19 (by decide) (fun y5 => ?_) (fun y5 => ?_)
            · skip
              have x5 := sgT_lt y5 (by decide)
              refine v_aload_n O dX7_spells_24 0 rfl ?_
              refine v_aload_n O dX7_spells_25 0 rfl ?_
              refine gf_X7_19 O rfl dX7_spells_26 0 rfl rfl ?_
              refine v_iconst (v := 1) O dX7_spells_29 (by decide) ?_
              refine v_iadd O dX7_spells_30 ?_
              refine v_top (y := nI ((((((p + 1) + 1) + 1) + 1) + 1) + 1)) (nI_add (((((p + 1) + 1) + 1) + 1) + 1) 1) ?_
              refine v_cV (T := TX7) (ci := 7) (As := [.int (nI ((((((p + 1) + 1) + 1) + 1) + 1) + 1))]) (wr := []) (st := []) O cf_X7_30 rfl (sp_X7_goTo (txo := txo) (tsg := tsg) (ln := ln) (tb := tb) (pl := (nI (((((p + 1) + 1) + 1) + 1) + 1))) (si := ((sgT tb ln) (((((p + 1) + 1) + 1) + 1) + 1))) (q := ((((((p + 1) + 1) + 1) + 1) + 1) + 1)) (hln) (by omega)) dX7_spells_31 rfl rfl 0 rfl [0, 1] [] (by decide) rfl rfl (by decide) (by decide) (by decide) (Nat.le_of_ble_eq_true rfl) (by decide) (by decide) (fun r_59 w_60 h_58 => ?_)
              obtain ⟨rfl, rfl⟩ := h_58
              refine v_eq (st' := []) (ws' := [(txo, .inr (7, [.ref tsg, .int (nI ln), .int (nI ((((((p + 1) + 1) + 1) + 1) + 1) + 1)), .int ((sgT tb ln) ((((((p + 1) + 1) + 1) + 1) + 1) + 1))])), (tsg, eB D 100 tb)]) rfl rfl rfl rfl ?_
              refine v_iinc (v := 6) (lv' := [(0, .ref txo), (1, .ref (D.2.2 (10 + 2))), (2, .int 6)]) O dX7_spells_34 2 rfl (by decide) (by decide) rfl ?_
              refine v_goto O 2 dX7_spells_37 (by decide) ?_
              refine v_iload_n O dX7_spells_2 2 rfl ?_
              refine v_aload_n O dX7_spells_3 1 rfl ?_
              refine v_cVS (As := []) (wr := [(txo, .inr (7, [.ref tsg, .int (nI ln), .int (nI ((((((p + 1) + 1) + 1) + 1) + 1) + 1)), .int ((sgT tb ln) ((((((p + 1) + 1) + 1) + 1) + 1) + 1))])), (tsg, eB D 100 tb)]) (st := [.int 6]) O cf_X7_73 rfl 2 (by decide) (sp_J0_length_8abf5 (i := 2) (by decide)) dX7_spells_4 rfl rfl [] [0, 1] (by decide) rfl rfl (by decide) (by decide) (by decide) (Nat.le_of_ble_eq_true rfl) (by decide) (by decide) (fun r_62 w_63 h_61 => ?_)
              obtain ⟨rfl, rfl⟩ := h_61
              refine v_eq (st' := [.int (nI (x_len.getD 2 0)), .int 6]) (ws' := [(txo, .inr (7, [.ref tsg, .int (nI ln), .int (nI ((((((p + 1) + 1) + 1) + 1) + 1) + 1)), .int ((sgT tb ln) ((((((p + 1) + 1) + 1) + 1) + 1) + 1))])), (tsg, eB D 100 tb)]) rfl rfl rfl rfl ?_
              refine v_top (y := 7) (rfl) ?_
              refine v_icmp_ge O 40 dX7_spells_7 (by decide) (fun c => absurd c (by decide)) (fun _ => ?_)
              refine v_aload_n O dX7_spells_10 0 rfl ?_
              refine gf_X7_22 O rfl dX7_spells_11 0 rfl rfl ?_
              refine v_aload_n O dX7_spells_14 1 rfl ?_
              refine v_iload_n O dX7_spells_15 2 rfl ?_
              refine v_cVS (As := [.int 6]) (wr := [(txo, .inr (7, [.ref tsg, .int (nI ln), .int (nI ((((((p + 1) + 1) + 1) + 1) + 1) + 1)), .int ((sgT tb ln) ((((((p + 1) + 1) + 1) + 1) + 1) + 1))])), (tsg, eB D 100 tb)]) (st := [.int ((sgT tb ln) ((((((p + 1) + 1) + 1) + 1) + 1) + 1))]) O cf_X7_77 rfl 2 (by decide) (sp_J0_charAt_5068e (i := 2) (k := 6) (by decide) (by decide)) dX7_spells_16 rfl rfl [] [0, 1] (by decide) rfl rfl (by decide) (by decide) (by decide) (Nat.le_of_ble_eq_true rfl) (by decide) (by decide) (fun r_66 w_67 h_65 => ?_)
              obtain ⟨rfl, rfl⟩ := h_65
              refine v_eq (st' := [.int (x_ch 2 6), .int ((sgT tb ln) ((((((p + 1) + 1) + 1) + 1) + 1) + 1))]) (ws' := [(txo, .inr (7, [.ref tsg, .int (nI ln), .int (nI ((((((p + 1) + 1) + 1) + 1) + 1) + 1)), .int ((sgT tb ln) ((((((p + 1) + 1) + 1) + 1) + 1) + 1))])), (tsg, eB D 100 tb)]) rfl rfl rfl rfl ?_
              refine v_top (y := 32) (rfl) ?_
              refine v_icmp_eq O 24 dX7_spells_19 (by decide) (fun y6 => ?_) (fun y6 => ?_)
              · skip
                have x6 := sgT_lt y6 (by decide)
                refine v_aload_n O dX7_spells_24 0 rfl ?_
                refine v_aload_n O dX7_spells_25 0 rfl ?_
                refine gf_X7_19 O rfl dX7_spells_26 0 rfl rfl ?_
                refine v_iconst (v := 1) O dX7_spells_29 (by decide) ?_
                refine v_iadd O dX7_spells_30 ?_
                refine v_top (y := nI (((((((p + 1) + 1) + 1) + 1) + 1) + 1) + 1)) (nI_add ((((((p + 1) + 1) + 1) + 1) + 1) + 1) 1) ?_
                refine v_cV (T := TX7) (ci := 7) (As := [.int (nI (((((((p + 1) + 1) + 1) + 1) + 1) + 1) + 1))]) (wr := []) (st := []) O cf_X7_30 rfl (sp_X7_goTo (txo := txo) (tsg := tsg) (ln := ln) (tb := tb) (pl := (nI ((((((p + 1) + 1) + 1) + 1) + 1) + 1))) (si := ((sgT tb ln) ((((((p + 1) + 1) + 1) + 1) + 1) + 1))) (q := (((((((p + 1) + 1) + 1) + 1) + 1) + 1) + 1)) (hln) (by omega)) dX7_spells_31 rfl rfl 0 rfl [0, 1] [] (by decide) rfl rfl (by decide) (by decide) (by decide) (Nat.le_of_ble_eq_true rfl) (by decide) (by decide) (fun r_69 w_70 h_68 => ?_)
                obtain ⟨rfl, rfl⟩ := h_68
                refine v_eq (st' := []) (ws' := [(txo, .inr (7, [.ref tsg, .int (nI ln), .int (nI (((((((p + 1) + 1) + 1) + 1) + 1) + 1) + 1)), .int ((sgT tb ln) (((((((p + 1) + 1) + 1) + 1) + 1) + 1) + 1))])), (tsg, eB D 100 tb)]) rfl rfl rfl rfl ?_
                refine v_iinc (v := 7) (lv' := [(0, .ref txo), (1, .ref (D.2.2 (10 + 2))), (2, .int 7)]) O dX7_spells_34 2 rfl (by decide) (by decide) rfl ?_
                refine v_goto O 2 dX7_spells_37 (by decide) ?_
                refine v_iload_n O dX7_spells_2 2 rfl ?_
                refine v_aload_n O dX7_spells_3 1 rfl ?_
                refine v_cVS (As := []) (wr := [(txo, .inr (7, [.ref tsg, .int (nI ln), .int (nI (((((((p + 1) + 1) + 1) + 1) + 1) + 1) + 1)), .int ((sgT tb ln) (((((((p + 1) + 1) + 1) + 1) + 1) + 1) + 1))])), (tsg, eB D 100 tb)]) (st := [.int 7]) O cf_X7_73 rfl 2 (by decide) (sp_J0_length_8abf5 (i := 2) (by decide)) dX7_spells_4 rfl rfl [] [0, 1] (by decide) rfl rfl (by decide) (by decide) (by decide) (Nat.le_of_ble_eq_true rfl) (by decide) (by decide) (fun r_72 w_73 h_71 => ?_)
                obtain ⟨rfl, rfl⟩ := h_71
                refine v_eq (st' := [.int (nI (x_len.getD 2 0)), .int 7]) (ws' := [(txo, .inr (7, [.ref tsg, .int (nI ln), .int (nI (((((((p + 1) + 1) + 1) + 1) + 1) + 1) + 1)), .int ((sgT tb ln) (((((((p + 1) + 1) + 1) + 1) + 1) + 1) + 1))])), (tsg, eB D 100 tb)]) rfl rfl rfl rfl ?_
                refine v_top (y := 7) (rfl) ?_
                refine v_icmp_ge O 40 dX7_spells_7 (by decide) (fun _ => ?_) (fun c => absurd c (by decide))
                refine v_iconst (v := 1) O dX7_spells_40 (by decide) ?_
                exact v_ireturn O T rfl rfl (by decide) (by decide) dX7_spells_41 (⟨by rw [b2i_t (by simp only [spl, if_pos y0, if_pos y1, if_pos y2, if_pos y3, if_pos y4, if_pos y5, if_pos y6])], by simp only [spl, if_pos y0, if_pos y1, if_pos y2, if_pos y3, if_pos y4, if_pos y5, if_pos y6]⟩)
              · skip
                refine v_iconst (v := 0) O dX7_spells_22 (by decide) ?_
                exact v_ireturn O T rfl rfl (by decide) (by decide) dX7_spells_23 (⟨by rw [b2i_f (by simp only [spl, if_pos y0, if_pos y1, if_pos y2, if_pos y3, if_pos y4, if_pos y5, if_neg y6]; decide)], by simp only [spl, if_pos y0, if_pos y1, if_pos y2, if_pos y3, if_pos y4, if_pos y5, if_neg y6]⟩)
            · skip
              refine v_iconst (v := 0) O dX7_spells_22 (by decide) ?_
              exact v_ireturn O T rfl rfl (by decide) (by decide) dX7_spells_23 (⟨by rw [b2i_f (by simp only [spl, if_pos y0, if_pos y1, if_pos y2, if_pos y3, if_pos y4, if_neg y5]; decide)], by simp only [spl, if_pos y0, if_pos y1, if_pos y2, if_pos y3, if_pos y4, if_neg y5]⟩)
          · skip
            refine v_iconst (v := 0) O dX7_spells_22 (by decide) ?_
            exact v_ireturn O T rfl rfl (by decide) (by decide) dX7_spells_23 (⟨by rw [b2i_f (by simp only [spl, if_pos y0, if_pos y1, if_pos y2, if_pos y3, if_neg y4]; decide)], by simp only [spl, if_pos y0, if_pos y1, if_pos y2, if_pos y3, if_neg y4]⟩)
        · skip
          refine v_iconst (v := 0) O dX7_spells_22 (by decide) ?_
          exact v_ireturn O T rfl rfl (by decide) (by decide) dX7_spells_23 (⟨by rw [b2i_f (by simp only [spl, if_pos y0, if_pos y1, if_pos y2, if_neg y3]; decide)], by simp only [spl, if_pos y0, if_pos y1, if_pos y2, if_neg y3]⟩)
      · skip
        refine v_iconst (v := 0) O dX7_spells_22 (by decide) ?_
        exact v_ireturn O T rfl rfl (by decide) (by decide) dX7_spells_23 (⟨by rw [b2i_f (by simp only [spl, if_pos y0, if_pos y1, if_neg y2]; decide)], by simp only [spl, if_pos y0, if_pos y1, if_neg y2]⟩)
    · skip
      refine v_iconst (v := 0) O dX7_spells_22 (by decide) ?_
      exact v_ireturn O T rfl rfl (by decide) (by decide) dX7_spells_23 (⟨by rw [b2i_f (by simp only [spl, if_pos y0, if_neg y1]; decide)], by simp only [spl, if_pos y0, if_neg y1]⟩)
  · skip
    refine v_iconst (v := 0) O dX7_spells_22 (by decide) ?_
    exact v_ireturn O T rfl rfl (by decide) (by decide) dX7_spells_23 (⟨by rw [b2i_f (by simp only [spl, if_neg y0]; decide)], by simp only [spl, if_neg y0]⟩)
set_option maxRecDepth 100000 in
set_option maxHeartbeats 4000000 in
theorem sp_X7_spells_3 {D : G} {txo : Nat} {tsg : Nat} {ln : Nat} {tb : Nat → Int32} {p : Nat} (hln : ln ≤ 100) (hp : p ≤ ln) : Sp D mX7_spells 4 0 0 [.ref txo, .ref (D.2.2 (10 + 3))] [(txo, .inr (7, [.ref tsg, .int (nI ln), .int (nI p), .int ((sgT tb ln) p)])), (tsg, eB D 100 tb)] (fun r w => r = some (.int (b2i ((spl (sgT tb ln) [101, 110, 32] p).2 = true))) ∧ w = [(txo, .inr (7, [.ref tsg, .int (nI ln), .int (nI ((spl (sgT tb ln) [101, 110, 32] p).1)), .int ((sgT tb ln) ((spl (sgT tb ln) [101, 110, 32] p).1))])), (tsg, eB D 100 tb)]) := by
  refine Sp.of (by decide) (Nat.le_of_ble_eq_true rfl) (fun X O T => ?_)
  refine v_eq (lv' := [(0, .ref txo), (1, .ref (D.2.2 (10 + 3)))]) rfl rfl rfl rfl ?_
  refine v_iconst (v := 0) O dX7_spells_0 (by decide) ?_
  refine v_istore_n (lv' := [(0, .ref txo), (1, .ref (D.2.2 (10 + 3))), (2, .int 0)]) O dX7_spells_1 (by decide) rfl ?_
  refine v_iload_n O dX7_spells_2 2 rfl ?_
  refine v_aload_n O dX7_spells_3 1 rfl ?_
  refine v_cVS (As := []) (wr := [(txo, .inr (7, [.ref tsg, .int (nI ln), .int (nI p), .int ((sgT tb ln) p)])), (tsg, eB D 100 tb)]) (st := [.int 0]) O cf_X7_73 rfl 3 (by decide) (sp_J0_length_8abf5 (i := 3) (by decide)) dX7_spells_4 rfl rfl [] [0, 1] (by decide) rfl rfl (by decide) (by decide) (by decide) (Nat.le_of_ble_eq_true rfl) (by decide) (by decide) (fun r_2 w_3 h_1 => ?_)
  obtain ⟨rfl, rfl⟩ := h_1
  refine v_eq (st' := [.int (nI (x_len.getD 3 0)), .int 0]) (ws' := [(txo, .inr (7, [.ref tsg, .int (nI ln), .int (nI p), .int ((sgT tb ln) p)])), (tsg, eB D 100 tb)]) rfl rfl rfl rfl ?_
  refine v_top (y := 3) (rfl) ?_
  refine v_icmp_ge O 40 dX7_spells_7 (by decide) (fun c => absurd c (by decide)) (fun _ => ?_)
  refine v_aload_n O dX7_spells_10 0 rfl ?_
  refine gf_X7_22 O rfl dX7_spells_11 0 rfl rfl ?_
  refine v_aload_n O dX7_spells_14 1 rfl ?_
  refine v_iload_n O dX7_spells_15 2 rfl ?_
  refine v_cVS (As := [.int 0]) (wr := [(txo, .inr (7, [.ref tsg, .int (nI ln), .int (nI p), .int ((sgT tb ln) p)])), (tsg, eB D 100 tb)]) (st := [.int ((sgT tb ln) p)]) O cf_X7_77 rfl 3 (by decide) (sp_J0_charAt_5068e (i := 3) (k := 0) (by decide) (by decide)) dX7_spells_16 rfl rfl [] [0, 1] (by decide) rfl rfl (by decide) (by decide) (by decide) (Nat.le_of_ble_eq_true rfl) (by decide) (by decide) (fun r_6 w_7 h_5 => ?_)
  obtain ⟨rfl, rfl⟩ := h_5
  refine v_eq (st' := [.int (x_ch 3 0), .int ((sgT tb ln) p)]) (ws' := [(txo, .inr (7, [.ref tsg, .int (nI ln), .int (nI p), .int ((sgT tb ln) p)])), (tsg, eB D 100 tb)]) rfl rfl rfl rfl ?_
  refine v_top (y := 101) (rfl) ?_
  refine v_icmp_eq O 24 dX7_spells_19 (by decide) (fun y0 => ?_) (fun y0 => ?_)
  · skip
    have x0 := sgT_lt y0 (by decide)
    refine v_aload_n O dX7_spells_24 0 rfl ?_
    refine v_aload_n O dX7_spells_25 0 rfl ?_
    refine gf_X7_19 O rfl dX7_spells_26 0 rfl rfl ?_
    refine v_iconst (v := 1) O dX7_spells_29 (by decide) ?_
    refine v_iadd O dX7_spells_30 ?_
    refine v_top (y := nI (p + 1)) (nI_add p 1) ?_
    refine v_cV (T := TX7) (ci := 7) (As := [.int (nI (p + 1))]) (wr := []) (st := []) O cf_X7_30 rfl (sp_X7_goTo (txo := txo) (tsg := tsg) (ln := ln) (tb := tb) (pl := (nI p)) (si := ((sgT tb ln) p)) (q := (p + 1)) (hln) (by omega)) dX7_spells_31 rfl rfl 0 rfl [0, 1] [] (by decide) rfl rfl (by decide) (by decide) (by decide) (Nat.le_of_ble_eq_true rfl) (by decide) (by decide) (fun r_9 w_10 h_8 => ?_)
    obtain ⟨rfl, rfl⟩ := h_8
    refine v_eq (st' := []) (ws' := [(txo, .inr (7, [.ref tsg, .int (nI ln), .int (nI (p + 1)), .int ((sgT tb ln) (p + 1))])), (tsg, eB D 100 tb)]) rfl rfl rfl rfl ?_
    refine v_iinc (v := 1) (lv' := [(0, .ref txo), (1, .ref (D.2.2 (10 + 3))), (2, .int 1)]) O dX7_spells_34 2 rfl (by decide) (by decide) rfl ?_
    refine v_goto O 2 dX7_spells_37 (by decide) ?_
    refine v_iload_n O dX7_spells_2 2 rfl ?_
    refine v_aload_n O dX7_spells_3 1 rfl ?_
    refine v_cVS (As := []) (wr := [(txo, .inr (7, [.ref tsg, .int (nI ln), .int (nI (p + 1)), .int ((sgT tb ln) (p + 1))])), (tsg, eB D 100 tb)]) (st := [.int 1]) O cf_X7_73 rfl 3 (by decide) (sp_J0_length_8abf5 (i := 3) (by decide)) dX7_spells_4 rfl rfl [] [0, 1] (by decide) rfl rfl (by decide) (by decide) (by decide) (Nat.le_of_ble_eq_true rfl) (by decide) (by decide) (fun r_12 w_13 h_11 => ?_)
    obtain ⟨rfl, rfl⟩ := h_11
    refine v_eq (st' := [.int (nI (x_len.getD 3 0)), .int 1]) (ws' := [(txo, .inr (7, [.ref tsg, .int (nI ln), .int (nI (p + 1)), .int ((sgT tb ln) (p + 1))])), (tsg, eB D 100 tb)]) rfl rfl rfl rfl ?_
    refine v_top (y := 3) (rfl) ?_
    refine v_icmp_ge O 40 dX7_spells_7 (by decide) (fun c => absurd c (by decide)) (fun _ => ?_)
    refine v_aload_n O dX7_spells_10 0 rfl ?_
    refine gf_X7_22 O rfl dX7_spells_11 0 rfl rfl ?_
    refine v_aload_n O dX7_spells_14 1 rfl ?_
    refine v_iload_n O dX7_spells_15 2 rfl ?_
    refine v_cVS (As := [.int 1]) (wr := [(txo, .inr (7, [.ref tsg, .int (nI ln), .int (nI (p + 1)), .int ((sgT tb ln) (p + 1))])), (tsg, eB D 100 tb)]) (st := [.int ((sgT tb ln) (p + 1))]) O cf_X7_77 rfl 3 (by decide) (sp_J0_charAt_5068e (i := 3) (k := 1) (by decide) (by decide)) dX7_spells_16 rfl rfl [] [0, 1] (by decide) rfl rfl (by decide) (by decide) (by decide) (Nat.le_of_ble_eq_true rfl) (by decide) (by decide) (fun r_16 w_17 h_15 => ?_)
    obtain ⟨rfl, rfl⟩ := h_15
    refine v_eq (st' := [.int (x_ch 3 1), .int ((sgT tb ln) (p + 1))]) (ws' := [(txo, .inr (7, [.ref tsg, .int (nI ln), .int (nI (p + 1)), .int ((sgT tb ln) (p + 1))])), (tsg, eB D 100 tb)]) rfl rfl rfl rfl ?_
    refine v_top (y := 110) (rfl) ?_
    refine v_icmp_eq O 24 dX7_spells_19 (by decide) (fun y1 => ?_) (fun y1 => ?_)
    · skip
      have x1 := sgT_lt y1 (by decide)
      refine v_aload_n O dX7_spells_24 0 rfl ?_
      refine v_aload_n O dX7_spells_25 0 rfl ?_
      refine gf_X7_19 O rfl dX7_spells_26 0 rfl rfl ?_
      refine v_iconst (v := 1) O dX7_spells_29 (by decide) ?_
      refine v_iadd O dX7_spells_30 ?_
      refine v_top (y := nI ((p + 1) + 1)) (nI_add (p + 1) 1) ?_
      refine v_cV (T := TX7) (ci := 7) (As := [.int (nI ((p + 1) + 1))]) (wr := []) (st := []) O cf_X7_30 rfl (sp_X7_goTo (txo := txo) (tsg := tsg) (ln := ln) (tb := tb) (pl := (nI (p + 1))) (si := ((sgT tb ln) (p + 1))) (q := ((p + 1) + 1)) (hln) (by omega)) dX7_spells_31 rfl rfl 0 rfl [0, 1] [] (by decide) rfl rfl (by decide) (by decide) (by decide) (Nat.le_of_ble_eq_true rfl) (by decide) (by decide) (fun r_19 w_20 h_18 => ?_)
      obtain ⟨rfl, rfl⟩ := h_18
      refine v_eq (st' := []) (ws' := [(txo, .inr (7, [.ref tsg, .int (nI ln), .int (nI ((p + 1) + 1)), .int ((sgT tb ln) ((p + 1) + 1))])), (tsg, eB D 100 tb)]) rfl rfl rfl rfl ?_
      refine v_iinc (v := 2) (lv' := [(0, .ref txo), (1, .ref (D.2.2 (10 + 3))), (2, .int 2)]) O dX7_spells_34 2 rfl (by decide) (by decide) rfl ?_
      refine v_goto O 2 dX7_spells_37 (by decide) ?_
      refine v_iload_n O dX7_spells_2 2 rfl ?_
      refine v_aload_n O dX7_spells_3 1 rfl ?_
      refine v_cVS (As := []) (wr := [(txo, .inr (7, [.ref tsg, .int (nI ln), .int (nI ((p + 1) + 1)), .int ((sgT tb ln) ((p + 1) + 1))])), (tsg, eB D 100 tb)]) (st := [.int 2]) O cf_X7_73 rfl 3 (by decide) (sp_J0_length_8abf5 (i := 3) (by decide)) dX7_spells_4 rfl rfl [] [0, 1] (by decide) rfl rfl (by decide) (by decide) (by decide) (Nat.le_of_ble_eq_true rfl) (by decide) (by decide) (fun r_22 w_23 h_21 => ?_)
      obtain ⟨rfl, rfl⟩ := h_21
      refine v_eq (st' := [.int (nI (x_len.getD 3 0)), .int 2]) (ws' := [(txo, .inr (7, [.ref tsg, .int (nI ln), .int (nI ((p + 1) + 1)), .int ((sgT tb ln) ((p + 1) + 1))])), (tsg, eB D 100 tb)]) rfl rfl rfl rfl ?_
      refine v_top (y := 3) (rfl) ?_
      refine v_icmp_ge O 40 dX7_spells_7 (by decide) (fun c => absurd c (by decide)) (fun _ => ?_)
      refine v_aload_n O dX7_spells_10 0 rfl ?_
      refine gf_X7_22 O rfl dX7_spells_11 0 rfl rfl ?_
      refine v_aload_n O dX7_spells_14 1 rfl ?_
      refine v_iload_n O dX7_spells_15 2 rfl ?_
      refine v_cVS (As := [.int 2]) (wr := [(txo, .inr (7, [.ref tsg, .int (nI ln), .int (nI ((p + 1) + 1)), .int ((sgT tb ln) ((p + 1) + 1))])), (tsg, eB D 100 tb)]) (st := [.int ((sgT tb ln) ((p + 1) + 1))]) O cf_X7_77 rfl 3 (by decide) (sp_J0_charAt_5068e (i := 3) (k := 2) (by decide) (by decide)) dX7_spells_16 rfl rfl [] [0, 1] (by decide) rfl rfl (by decide) (by decide) (by decide) (Nat.le_of_ble_eq_true rfl) (by decide) (by decide) (fun r_26 w_27 h_25 => ?_)
      obtain ⟨rfl, rfl⟩ := h_25
      refine v_eq (st' := [.int (x_ch 3 2), .int ((sgT tb ln) ((p + 1) + 1))]) (ws' := [(txo, .inr (7, [.ref tsg, .int (nI ln), .int (nI ((p + 1) + 1)), .int ((sgT tb ln) ((p + 1) + 1))])), (tsg, eB D 100 tb)]) rfl rfl rfl rfl ?_
      refine v_top (y := 32) (rfl) ?_
      refine v_icmp_eq O 24 dX7_spells_19 (by decide) (fun y2 => ?_) (fun y2 => ?_)
      · skip
        have x2 := sgT_lt y2 (by decide)
        refine v_aload_n O dX7_spells_24 0 rfl ?_
        refine v_aload_n O dX7_spells_25 0 rfl ?_
        refine gf_X7_19 O rfl dX7_spells_26 0 rfl rfl ?_
        refine v_iconst (v := 1) O dX7_spells_29 (by decide) ?_
        refine v_iadd O dX7_spells_30 ?_
        refine v_top (y := nI (((p + 1) + 1) + 1)) (nI_add ((p + 1) + 1) 1) ?_
        refine v_cV (T := TX7) (ci := 7) (As := [.int (nI (((p + 1) + 1) + 1))]) (wr := []) (st := []) O cf_X7_30 rfl (sp_X7_goTo (txo := txo) (tsg := tsg) (ln := ln) (tb := tb) (pl := (nI ((p + 1) + 1))) (si := ((sgT tb ln) ((p + 1) + 1))) (q := (((p + 1) + 1) + 1)) (hln) (by omega)) dX7_spells_31 rfl rfl 0 rfl [0, 1] [] (by decide) rfl rfl (by decide) (by decide) (by decide) (Nat.le_of_ble_eq_true rfl) (by decide) (by decide) (fun r_29 w_30 h_28 => ?_)
        obtain ⟨rfl, rfl⟩ := h_28
        refine v_eq (st' := []) (ws' := [(txo, .inr (7, [.ref tsg, .int (nI ln), .int (nI (((p + 1) + 1) + 1)), .int ((sgT tb ln) (((p + 1) + 1) + 1))])), (tsg, eB D 100 tb)]) rfl rfl rfl rfl ?_
        refine v_iinc (v := 3) (lv' := [(0, .ref txo), (1, .ref (D.2.2 (10 + 3))), (2, .int 3)]) O dX7_spells_34 2 rfl (by decide) (by decide) rfl ?_
        refine v_goto O 2 dX7_spells_37 (by decide) ?_
        refine v_iload_n O dX7_spells_2 2 rfl ?_
        refine v_aload_n O dX7_spells_3 1 rfl ?_
        refine v_cVS (As := []) (wr := [(txo, .inr (7, [.ref tsg, .int (nI ln), .int (nI (((p + 1) + 1) + 1)), .int ((sgT tb ln) (((p + 1) + 1) + 1))])), (tsg, eB D 100 tb)]) (st := [.int 3]) O cf_X7_73 rfl 3 (by decide) (sp_J0_length_8abf5 (i := 3) (by decide)) dX7_spells_4 rfl rfl [] [0, 1] (by decide) rfl rfl (by decide) (by decide) (by decide) (Nat.le_of_ble_eq_true rfl) (by decide) (by decide) (fun r_32 w_33 h_31 => ?_)
        obtain ⟨rfl, rfl⟩ := h_31
        refine v_eq (st' := [.int (nI (x_len.getD 3 0)), .int 3]) (ws' := [(txo, .inr (7, [.ref tsg, .int (nI ln), .int (nI (((p + 1) + 1) + 1)), .int ((sgT tb ln) (((p + 1) + 1) + 1))])), (tsg, eB D 100 tb)]) rfl rfl rfl rfl ?_
        refine v_top (y := 3) (rfl) ?_
        refine v_icmp_ge O 40 dX7_spells_7 (by decide) (fun _ => ?_) (fun c => absurd c (by decide))
        refine v_iconst (v := 1) O dX7_spells_40 (by decide) ?_
        exact v_ireturn O T rfl rfl (by decide) (by decide) dX7_spells_41 (⟨by rw [b2i_t (by simp only [spl, if_pos y0, if_pos y1, if_pos y2])], by simp only [spl, if_pos y0, if_pos y1, if_pos y2]⟩)
      · skip
        refine v_iconst (v := 0) O dX7_spells_22 (by decide) ?_
        exact v_ireturn O T rfl rfl (by decide) (by decide) dX7_spells_23 (⟨by rw [b2i_f (by simp only [spl, if_pos y0, if_pos y1, if_neg y2]; decide)], by simp only [spl, if_pos y0, if_pos y1, if_neg y2]⟩)
    · skip
      refine v_iconst (v := 0) O dX7_spells_22 (by decide) ?_
      exact v_ireturn O T rfl rfl (by decide) (by decide) dX7_spells_23 (⟨by rw [b2i_f (by simp only [spl, if_pos y0, if_neg y1]; decide)], by simp only [spl, if_pos y0, if_neg y1]⟩)
  · skip
    refine v_iconst (v := 0) O dX7_spells_22 (by decide) ?_
    exact v_ireturn O T rfl rfl (by decide) (by decide) dX7_spells_23 (⟨by rw [b2i_f (by simp only [spl, if_neg y0]; decide)], by simp only [spl, if_neg y0]⟩)
set_option maxRecDepth 100000 in
set_option maxHeartbeats 4000000 in
theorem sp_X7_spells_4 {D : G} {txo : Nat} {tsg : Nat} {ln : Nat} {tb : Nat → Int32} {p : Nat} (hln : ln ≤ 100) (hp : p ≤ ln) : Sp D mX7_spells 4 0 0 [.ref txo, .ref (D.2.2 (10 + 4))] [(txo, .inr (7, [.ref tsg, .int (nI ln), .int (nI p), .int ((sgT tb ln) p)])), (tsg, eB D 100 tb)] (fun r w => r = some (.int (b2i ((spl (sgT tb ln) [32] p).2 = true))) ∧ w = [(txo, .inr (7, [.ref tsg, .int (nI ln), .int (nI ((spl (sgT tb ln) [32] p).1)), .int ((sgT tb ln) ((spl (sgT tb ln) [32] p).1))])), (tsg, eB D 100 tb)]) := by
  refine Sp.of (by decide) (Nat.le_of_ble_eq_true rfl) (fun X O T => ?_)
  refine v_eq (lv' := [(0, .ref txo), (1, .ref (D.2.2 (10 + 4)))]) rfl rfl rfl rfl ?_
  refine v_iconst (v := 0) O dX7_spells_0 (by decide) ?_
  refine v_istore_n (lv' := [(0, .ref txo), (1, .ref (D.2.2 (10 + 4))), (2, .int 0)]) O dX7_spells_1 (by decide) rfl ?_
  refine v_iload_n O dX7_spells_2 2 rfl ?_
  refine v_aload_n O dX7_spells_3 1 rfl ?_
  refine v_cVS (As := []) (wr := [(txo, .inr (7, [.ref tsg, .int (nI ln), .int (nI p), .int ((sgT tb ln) p)])), (tsg, eB D 100 tb)]) (st := [.int 0]) O cf_X7_73 rfl 4 (by decide) (sp_J0_length_8abf5 (i := 4) (by decide)) dX7_spells_4 rfl rfl [] [0, 1] (by decide) rfl rfl (by decide) (by decide) (by decide) (Nat.le_of_ble_eq_true rfl) (by decide) (by decide) (fun r_2 w_3 h_1 => ?_)
  obtain ⟨rfl, rfl⟩ := h_1
  refine v_eq (st' := [.int (nI (x_len.getD 4 0)), .int 0]) (ws' := [(txo, .inr (7, [.ref tsg, .int (nI ln), .int (nI p), .int ((sgT tb ln) p)])), (tsg, eB D 100 tb)]) rfl rfl rfl rfl ?_
  refine v_top (y := 1) (rfl) ?_
  refine v_icmp_ge O 40 dX7_spells_7 (by decide) (fun c => absurd c (by decide)) (fun _ => ?_)
  refine v_aload_n O dX7_spells_10 0 rfl ?_
  refine gf_X7_22 O rfl dX7_spells_11 0 rfl rfl ?_
  refine v_aload_n O dX7_spells_14 1 rfl ?_
  refine v_iload_n O dX7_spells_15 2 rfl ?_
  refine v_cVS (As := [.int 0]) (wr := [(txo, .inr (7, [.ref tsg, .int (nI ln), .int (nI p), .int ((sgT tb ln) p)])), (tsg, eB D 100 tb)]) (st := [.int ((sgT tb ln) p)]) O cf_X7_77 rfl 4 (by decide) (sp_J0_charAt_5068e (i := 4) (k := 0) (by decide) (by decide)) dX7_spells_16 rfl rfl [] [0, 1] (by decide) rfl rfl (by decide) (by decide) (by decide) (Nat.le_of_ble_eq_true rfl) (by decide) (by decide) (fun r_6 w_7 h_5 => ?_)
  obtain ⟨rfl, rfl⟩ := h_5
  refine v_eq (st' := [.int (x_ch 4 0), .int ((sgT tb ln) p)]) (ws' := [(txo, .inr (7, [.ref tsg, .int (nI ln), .int (nI p), .int ((sgT tb ln) p)])), (tsg, eB D 100 tb)]) rfl rfl rfl rfl ?_
  refine v_top (y := 32) (rfl) ?_
  refine v_icmp_eq O 24 dX7_spells_19 (by decide) (fun y0 => ?_) (fun y0 => ?_)
  · skip
    have x0 := sgT_lt y0 (by decide)
    refine v_aload_n O dX7_spells_24 0 rfl ?_
    refine v_aload_n O dX7_spells_25 0 rfl ?_
    refine gf_X7_19 O rfl dX7_spells_26 0 rfl rfl ?_
    refine v_iconst (v := 1) O dX7_spells_29 (by decide) ?_
    refine v_iadd O dX7_spells_30 ?_
    refine v_top (y := nI (p + 1)) (nI_add p 1) ?_
    refine v_cV (T := TX7) (ci := 7) (As := [.int (nI (p + 1))]) (wr := []) (st := []) O cf_X7_30 rfl (sp_X7_goTo (txo := txo) (tsg := tsg) (ln := ln) (tb := tb) (pl := (nI p)) (si := ((sgT tb ln) p)) (q := (p + 1)) (hln) (by omega)) dX7_spells_31 rfl rfl 0 rfl [0, 1] [] (by decide) rfl rfl (by decide) (by decide) (by decide) (Nat.le_of_ble_eq_true rfl) (by decide) (by decide) (fun r_9 w_10 h_8 => ?_)
    obtain ⟨rfl, rfl⟩ := h_8
    refine v_eq (st' := []) (ws' := [(txo, .inr (7, [.ref tsg, .int (nI ln), .int (nI (p + 1)), .int ((sgT tb ln) (p + 1))])), (tsg, eB D 100 tb)]) rfl rfl rfl rfl ?_
    refine v_iinc (v := 1) (lv' := [(0, .ref txo), (1, .ref (D.2.2 (10 + 4))), (2, .int 1)]) O dX7_spells_34 2 rfl (by decide) (by decide) rfl ?_
    refine v_goto O 2 dX7_spells_37 (by decide) ?_
    refine v_iload_n O dX7_spells_2 2 rfl ?_
    refine v_aload_n O dX7_spells_3 1 rfl ?_
    refine v_cVS (As := []) (wr := [(txo, .inr (7, [.ref tsg, .int (nI ln), .int (nI (p + 1)), .int ((sgT tb ln) (p + 1))])), (tsg, eB D 100 tb)]) (st := [.int 1]) O cf_X7_73 rfl 4 (by decide) (sp_J0_length_8abf5 (i := 4) (by decide)) dX7_spells_4 rfl rfl [] [0, 1] (by decide) rfl rfl (by decide) (by decide) (by decide) (Nat.le_of_ble_eq_true rfl) (by decide) (by decide) (fun r_12 w_13 h_11 => ?_)
    obtain ⟨rfl, rfl⟩ := h_11
    refine v_eq (st' := [.int (nI (x_len.getD 4 0)), .int 1]) (ws' := [(txo, .inr (7, [.ref tsg, .int (nI ln), .int (nI (p + 1)), .int ((sgT tb ln) (p + 1))])), (tsg, eB D 100 tb)]) rfl rfl rfl rfl ?_
    refine v_top (y := 1) (rfl) ?_
    refine v_icmp_ge O 40 dX7_spells_7 (by decide) (fun _ => ?_) (fun c => absurd c (by decide))
    refine v_iconst (v := 1) O dX7_spells_40 (by decide) ?_
    exact v_ireturn O T rfl rfl (by decide) (by decide) dX7_spells_41 (⟨by rw [b2i_t (by simp only [spl, if_pos y0])], by simp only [spl, if_pos y0]⟩)
  · skip
    refine v_iconst (v := 0) O dX7_spells_22 (by decide) ?_
    exact v_ireturn O T rfl rfl (by decide) (by decide) dX7_spells_23 (⟨by rw [b2i_f (by simp only [spl, if_neg y0]; decide)], by simp only [spl, if_neg y0]⟩)
set_option maxRecDepth 100000 in
set_option maxHeartbeats 4000000 in
theorem sp_X7_indexIn_5 {D : G} {x : Int32} : Sp D mX7_indexIn 4 0 0 [.ref (D.2.2 (10 + 5)), .int x] [] (fun r w => r = some (.int (ixL x)) ∧ w = []) := by
  refine Sp.of (by decide) (Nat.le_of_ble_eq_true rfl) (fun X O T => ?_)
  refine v_eq (lv' := [(0, .ref (D.2.2 (10 + 5))), (1, .int x)]) rfl rfl rfl rfl ?_
  refine v_iconst (v := 0) O dX7_indexIn_0 (by decide) ?_
  refine v_istore_n (lv' := [(0, .ref (D.2.2 (10 + 5))), (1, .int x), (2, .int 0)]) O dX7_indexIn_1 (by decide) rfl ?_
  refine v_iload_n O dX7_indexIn_2 2 rfl ?_
  refine v_aload_n O dX7_indexIn_3 0 rfl ?_
  refine v_cVS (As := []) (wr := []) (st := [.int 0]) O cf_X7_73 rfl 5 (by decide) (sp_J0_length_8abf5 (i := 5) (by decide)) dX7_indexIn_4 rfl rfl [] [] (by decide) rfl rfl (by decide) (by decide) (by decide) (Nat.le_of_ble_eq_true rfl) (by decide) (by decide) (fun r_2 w_3 h_1 => ?_)
  obtain ⟨rfl, rfl⟩ := h_1
  refine v_eq (st' := [.int (nI (x_len.getD 5 0)), .int 0]) (ws' := []) rfl rfl rfl rfl ?_
  refine v_top (y := 5) (rfl) ?_
  refine v_icmp_ge O 27 dX7_indexIn_7 (by decide) (fun c => absurd c (by decide)) (fun _ => ?_)
  refine v_aload_n O dX7_indexIn_10 0 rfl ?_
  refine v_iload_n O dX7_indexIn_11 2 rfl ?_
  refine v_cVS (As := [.int 0]) (wr := []) (st := []) O cf_X7_77 rfl 5 (by decide) (sp_J0_charAt_5068e (i := 5) (k := 0) (by decide) (by decide)) dX7_indexIn_12 rfl rfl [] [] (by decide) rfl rfl (by decide) (by decide) (by decide) (Nat.le_of_ble_eq_true rfl) (by decide) (by decide) (fun r_6 w_7 h_5 => ?_)
  obtain ⟨rfl, rfl⟩ := h_5
  refine v_eq (st' := [.int (x_ch 5 0)]) (ws' := []) rfl rfl rfl rfl ?_
  refine v_top (y := 105) (rfl) ?_
  refine v_iload_n O dX7_indexIn_15 1 rfl ?_
  refine v_icmp_ne O 21 dX7_indexIn_16 (by decide) (fun y0 => ?_) (fun y0 => ?_)
  · skip
    refine v_iinc (v := 1) (lv' := [(0, .ref (D.2.2 (10 + 5))), (1, .int x), (2, .int 1)]) O dX7_indexIn_21 2 rfl (by decide) (by decide) rfl ?_
    refine v_goto O 2 dX7_indexIn_24 (by decide) ?_
    refine v_iload_n O dX7_indexIn_2 2 rfl ?_
    refine v_aload_n O dX7_indexIn_3 0 rfl ?_
    refine v_cVS (As := []) (wr := []) (st := [.int 1]) O cf_X7_73 rfl 5 (by decide) (sp_J0_length_8abf5 (i := 5) (by decide)) dX7_indexIn_4 rfl rfl [] [] (by decide) rfl rfl (by decide) (by decide) (by decide) (Nat.le_of_ble_eq_true rfl) (by decide) (by decide) (fun r_9 w_10 h_8 => ?_)
    obtain ⟨rfl, rfl⟩ := h_8
    refine v_eq (st' := [.int (nI (x_len.getD 5 0)), .int 1]) (ws' := []) rfl rfl rfl rfl ?_
    refine v_top (y := 5) (rfl) ?_
    refine v_icmp_ge O 27 dX7_indexIn_7 (by decide) (fun c => absurd c (by decide)) (fun _ => ?_)
    refine v_aload_n O dX7_indexIn_10 0 rfl ?_
    refine v_iload_n O dX7_indexIn_11 2 rfl ?_
    refine v_cVS (As := [.int 1]) (wr := []) (st := []) O cf_X7_77 rfl 5 (by decide) (sp_J0_charAt_5068e (i := 5) (k := 1) (by decide) (by decide)) dX7_indexIn_12 rfl rfl [] [] (by decide) rfl rfl (by decide) (by decide) (by decide) (Nat.le_of_ble_eq_true rfl) (by decide) (by decide) (fun r_13 w_14 h_12 => ?_)
    obtain ⟨rfl, rfl⟩ := h_12
    refine v_eq (st' := [.int (x_ch 5 1)]) (ws' := []) rfl rfl rfl rfl ?_
    refine v_top (y := 107) (rfl) ?_
    refine v_iload_n O dX7_indexIn_15 1 rfl ?_
    refine v_icmp_ne O 21 dX7_indexIn_16 (by decide) (fun y1 => ?_) (fun y1 => ?_)
    · skip
      refine v_iinc (v := 2) (lv' := [(0, .ref (D.2.2 (10 + 5))), (1, .int x), (2, .int 2)]) O dX7_indexIn_21 2 rfl (by decide) (by decide) rfl ?_
      refine v_goto O 2 dX7_indexIn_24 (by decide) ?_
      refine v_iload_n O dX7_indexIn_2 2 rfl ?_
      refine v_aload_n O dX7_indexIn_3 0 rfl ?_
      refine v_cVS (As := []) (wr := []) (st := [.int 2]) O cf_X7_73 rfl 5 (by decide) (sp_J0_length_8abf5 (i := 5) (by decide)) dX7_indexIn_4 rfl rfl [] [] (by decide) rfl rfl (by decide) (by decide) (by decide) (Nat.le_of_ble_eq_true rfl) (by decide) (by decide) (fun r_16 w_17 h_15 => ?_)
      obtain ⟨rfl, rfl⟩ := h_15
      refine v_eq (st' := [.int (nI (x_len.getD 5 0)), .int 2]) (ws' := []) rfl rfl rfl rfl ?_
      refine v_top (y := 5) (rfl) ?_
      refine v_icmp_ge O 27 dX7_indexIn_7 (by decide) (fun c => absurd c (by decide)) (fun _ => ?_)
      refine v_aload_n O dX7_indexIn_10 0 rfl ?_
      refine v_iload_n O dX7_indexIn_11 2 rfl ?_
      refine v_cVS (As := [.int 2]) (wr := []) (st := []) O cf_X7_77 rfl 5 (by decide) (sp_J0_charAt_5068e (i := 5) (k := 2) (by decide) (by decide)) dX7_indexIn_12 rfl rfl [] [] (by decide) rfl rfl (by decide) (by decide) (by decide) (Nat.le_of_ble_eq_true rfl) (by decide) (by decide) (fun r_20 w_21 h_19 => ?_)
      obtain ⟨rfl, rfl⟩ := h_19
      refine v_eq (st' := [.int (x_ch 5 2)]) (ws' := []) rfl rfl rfl rfl ?_
      refine v_top (y := 118) (rfl) ?_
      refine v_iload_n O dX7_indexIn_15 1 rfl ?_
      refine v_icmp_ne O 21 dX7_indexIn_16 (by decide) (fun y2 => ?_) (fun y2 => ?_)
      · skip
        refine v_iinc (v := 3) (lv' := [(0, .ref (D.2.2 (10 + 5))), (1, .int x), (2, .int 3)]) O dX7_indexIn_21 2 rfl (by decide) (by decide) rfl ?_
        refine v_goto O 2 dX7_indexIn_24 (by decide) ?_
        refine v_iload_n O dX7_indexIn_2 2 rfl ?_
        refine v_aload_n O dX7_indexIn_3 0 rfl ?_
        refine v_cVS (As := []) (wr := []) (st := [.int 3]) O cf_X7_73 rfl 5 (by decide) (sp_J0_length_8abf5 (i := 5) (by decide)) dX7_indexIn_4 rfl rfl [] [] (by decide) rfl rfl (by decide) (by decide) (by decide) (Nat.le_of_ble_eq_true rfl) (by decide) (by decide) (fun r_23 w_24 h_22 => ?_)
        obtain ⟨rfl, rfl⟩ := h_22
        refine v_eq (st' := [.int (nI (x_len.getD 5 0)), .int 3]) (ws' := []) rfl rfl rfl rfl ?_
        refine v_top (y := 5) (rfl) ?_
        refine v_icmp_ge O 27 dX7_indexIn_7 (by decide) (fun c => absurd c (by decide)) (fun _ => ?_)
        refine v_aload_n O dX7_indexIn_10 0 rfl ?_
        refine v_iload_n O dX7_indexIn_11 2 rfl ?_
        refine v_cVS (As := [.int 3]) (wr := []) (st := []) O cf_X7_77 rfl 5 (by decide) (sp_J0_charAt_5068e (i := 5) (k := 3) (by decide) (by decide)) dX7_indexIn_12 rfl rfl [] [] (by decide) rfl rfl (by decide) (by decide) (by decide) (Nat.le_of_ble_eq_true rfl) (by decide) (by decide) (fun r_27 w_28 h_26 => ?_)
        obtain ⟨rfl, rfl⟩ := h_26
        refine v_eq (st' := [.int (x_ch 5 3)]) (ws' := []) rfl rfl rfl rfl ?_
        refine v_top (y := 119) (rfl) ?_
        refine v_iload_n O dX7_indexIn_15 1 rfl ?_
        refine v_icmp_ne O 21 dX7_indexIn_16 (by decide) (fun y3 => ?_) (fun y3 => ?_)
        · skip
          refine v_iinc (v := 4) (lv' := [(0, .ref (D.2.2 (10 + 5))), (1, .int x), (2, .int 4)]) O dX7_indexIn_21 2 rfl (by decide) (by decide) rfl ?_
          refine v_goto O 2 dX7_indexIn_24 (by decide) ?_
          refine v_iload_n O dX7_indexIn_2 2 rfl ?_
          refine v_aload_n O dX7_indexIn_3 0 rfl ?_
          refine v_cVS (As := []) (wr := []) (st := [.int 4]) O cf_X7_73 rfl 5 (by decide) (sp_J0_length_8abf5 (i := 5) (by decide)) dX7_indexIn_4 rfl rfl [] [] (by decide) rfl rfl (by decide) (by decide) (by decide) (Nat.le_of_ble_eq_true rfl) (by decide) (by decide) (fun r_30 w_31 h_29 => ?_)
          obtain ⟨rfl, rfl⟩ := h_29
          refine v_eq (st' := [.int (nI (x_len.getD 5 0)), .int 4]) (ws' := []) rfl rfl rfl rfl ?_
          refine v_top (y := 5) (rfl) ?_
          refine v_icmp_ge O 27 dX7_indexIn_7 (by decide) (fun c => absurd c (by decide)) (fun _ => ?_)
          refine v_aload_n O dX7_indexIn_10 0 rfl ?_
          refine v_iload_n O dX7_indexIn_11 2 rfl ?_
          refine v_cVS (As := [.int 4]) (wr := []) (st := []) O cf_X7_77 rfl 5 (by decide) (sp_J0_charAt_5068e (i := 5) (k := 4) (by decide) (by decide)) dX7_indexIn_12 rfl rfl [] [] (by decide) rfl rfl (by decide) (by decide) (by decide) (Nat.le_of_ble_eq_true rfl) (by decide) (by decide) (fun r_34 w_35 h_33 => ?_)
          obtain ⟨rfl, rfl⟩ := h_33
          refine v_eq (st' := [.int (x_ch 5 4)]) (ws' := []) rfl rfl rfl rfl ?_
          refine v_top (y := 104) (rfl) ?_
          refine v_iload_n O dX7_indexIn_15 1 rfl ?_
          refine v_icmp_ne O 21 dX7_indexIn_16 (by decide) (fun y4 => ?_) (fun y4 => ?_)
          · skip
            refine v_iinc (v := 5) (lv' := [(0, .ref (D.2.2 (10 + 5))), (1, .int x), (2, .int 5)]) O dX7_indexIn_21 2 rfl (by decide) (by decide) rfl ?_
            refine v_goto O 2 dX7_indexIn_24 (by decide) ?_
            refine v_iload_n O dX7_indexIn_2 2 rfl ?_
            refine v_aload_n O dX7_indexIn_3 0 rfl ?_
            refine v_cVS (As := []) (wr := []) (st := [.int 5]) O cf_X7_73 rfl 5 (by decide) (sp_J0_length_8abf5 (i := 5) (by decide)) dX7_indexIn_4 rfl rfl [] [] (by decide) rfl rfl (by decide) (by decide) (by decide) (Nat.le_of_ble_eq_true rfl) (by decide) (by decide) (fun r_37 w_38 h_36 => ?_)
            obtain ⟨rfl, rfl⟩ := h_36
            refine v_eq (st' := [.int (nI (x_len.getD 5 0)), .int 5]) (ws' := []) rfl rfl rfl rfl ?_
            refine v_top (y := 5) (rfl) ?_
            refine v_icmp_ge O 27 dX7_indexIn_7 (by decide) (fun _ => ?_) (fun c => absurd c (by decide))
            refine v_iconst (v := -1) O dX7_indexIn_27 (by decide) ?_
            exact v_ireturn O T rfl rfl (by decide) (by decide) dX7_indexIn_28 (⟨by unfold ixL; rw [if_neg y0, if_neg y1, if_neg y2, if_neg y3, if_neg y4], rfl⟩)
          · skip
            refine v_iload_n O dX7_indexIn_19 2 rfl ?_
            exact v_ireturn O T rfl rfl (by decide) (by decide) dX7_indexIn_20 (⟨by unfold ixL; rw [if_neg y0, if_neg y1, if_neg y2, if_neg y3, if_pos y4], rfl⟩)
        · skip
          refine v_iload_n O dX7_indexIn_19 2 rfl ?_
          exact v_ireturn O T rfl rfl (by decide) (by decide) dX7_indexIn_20 (⟨by unfold ixL; rw [if_neg y0, if_neg y1, if_neg y2, if_pos y3], rfl⟩)
      · skip
        refine v_iload_n O dX7_indexIn_19 2 rfl ?_
        exact v_ireturn O T rfl rfl (by decide) (by decide) dX7_indexIn_20 (⟨by unfold ixL; rw [if_neg y0, if_neg y1, if_pos y2], rfl⟩)
    · skip
      refine v_iload_n O dX7_indexIn_19 2 rfl ?_
      exact v_ireturn O T rfl rfl (by decide) (by decide) dX7_indexIn_20 (⟨by unfold ixL; rw [if_neg y0, if_pos y1], rfl⟩)
  · skip
    refine v_iload_n O dX7_indexIn_19 2 rfl ?_
    exact v_ireturn O T rfl rfl (by decide) (by decide) dX7_indexIn_20 (⟨by unfold ixL; rw [if_pos y0], rfl⟩)
set_option maxRecDepth 100000 in
set_option maxHeartbeats 4000000 in
theorem sp_X7_indexIn_6 {D : G} {x : Int32} : Sp D mX7_indexIn 4 0 0 [.ref (D.2.2 (10 + 6)), .int x] [] (fun r w => r = some (.int (ixR x)) ∧ w = []) := by
  refine Sp.of (by decide) (Nat.le_of_ble_eq_true rfl) (fun X O T => ?_)
  refine v_eq (lv' := [(0, .ref (D.2.2 (10 + 6))), (1, .int x)]) rfl rfl rfl rfl ?_
  refine v_iconst (v := 0) O dX7_indexIn_0 (by decide) ?_
  refine v_istore_n (lv' := [(0, .ref (D.2.2 (10 + 6))), (1, .int x), (2, .int 0)]) O dX7_indexIn_1 (by decide) rfl ?_
  refine v_iload_n O dX7_indexIn_2 2 rfl ?_
  refine v_aload_n O dX7_indexIn_3 0 rfl ?_
  refine v_cVS (As := []) (wr := []) (st := [.int 0]) O cf_X7_73 rfl 6 (by decide) (sp_J0_length_8abf5 (i := 6) (by decide)) dX7_indexIn_4 rfl rfl [] [] (by decide) rfl rfl (by decide) (by decide) (by decide) (Nat.le_of_ble_eq_true rfl) (by decide) (by decide) (fun r_2 w_3 h_1 => ?_)
  obtain ⟨rfl, rfl⟩ := h_1
  refine v_eq (st' := [.int (nI (x_len.getD 6 0)), .int 0]) (ws' := []) rfl rfl rfl rfl ?_
  refine v_top (y := 3) (rfl) ?_
  refine v_icmp_ge O 27 dX7_indexIn_7 (by decide) (fun c => absurd c (by decide)) (fun _ => ?_)
  refine v_aload_n O dX7_indexIn_10 0 rfl ?_
  refine v_iload_n O dX7_indexIn_11 2 rfl ?_
  refine v_cVS (As := [.int 0]) (wr := []) (st := []) O cf_X7_77 rfl 6 (by decide) (sp_J0_charAt_5068e (i := 6) (k := 0) (by decide) (by decide)) dX7_indexIn_12 rfl rfl [] [] (by decide) rfl rfl (by decide) (by decide) (by decide) (Nat.le_of_ble_eq_true rfl) (by decide) (by decide) (fun r_6 w_7 h_5 => ?_)
  obtain ⟨rfl, rfl⟩ := h_5
  refine v_eq (st' := [.int (x_ch 6 0)]) (ws' := []) rfl rfl rfl rfl ?_
  refine v_top (y := 60) (rfl) ?_
  refine v_iload_n O dX7_indexIn_15 1 rfl ?_
  refine v_icmp_ne O 21 dX7_indexIn_16 (by decide) (fun y0 => ?_) (fun y0 => ?_)
  · skip
    refine v_iinc (v := 1) (lv' := [(0, .ref (D.2.2 (10 + 6))), (1, .int x), (2, .int 1)]) O dX7_indexIn_21 2 rfl (by decide) (by decide) rfl ?_
    refine v_goto O 2 dX7_indexIn_24 (by decide) ?_
    refine v_iload_n O dX7_indexIn_2 2 rfl ?_
    refine v_aload_n O dX7_indexIn_3 0 rfl ?_
    refine v_cVS (As := []) (wr := []) (st := [.int 1]) O cf_X7_73 rfl 6 (by decide) (sp_J0_length_8abf5 (i := 6) (by decide)) dX7_indexIn_4 rfl rfl [] [] (by decide) rfl rfl (by decide) (by decide) (by decide) (Nat.le_of_ble_eq_true rfl) (by decide) (by decide) (fun r_9 w_10 h_8 => ?_)
    obtain ⟨rfl, rfl⟩ := h_8
    refine v_eq (st' := [.int (nI (x_len.getD 6 0)), .int 1]) (ws' := []) rfl rfl rfl rfl ?_
    refine v_top (y := 3) (rfl) ?_
    refine v_icmp_ge O 27 dX7_indexIn_7 (by decide) (fun c => absurd c (by decide)) (fun _ => ?_)
    refine v_aload_n O dX7_indexIn_10 0 rfl ?_
    refine v_iload_n O dX7_indexIn_11 2 rfl ?_
    refine v_cVS (As := [.int 1]) (wr := []) (st := []) O cf_X7_77 rfl 6 (by decide) (sp_J0_charAt_5068e (i := 6) (k := 1) (by decide) (by decide)) dX7_indexIn_12 rfl rfl [] [] (by decide) rfl rfl (by decide) (by decide) (by decide) (Nat.le_of_ble_eq_true rfl) (by decide) (by decide) (fun r_13 w_14 h_12 => ?_)
    obtain ⟨rfl, rfl⟩ := h_12
    refine v_eq (st' := [.int (x_ch 6 1)]) (ws' := []) rfl rfl rfl rfl ?_
    refine v_top (y := 61) (rfl) ?_
    refine v_iload_n O dX7_indexIn_15 1 rfl ?_
    refine v_icmp_ne O 21 dX7_indexIn_16 (by decide) (fun y1 => ?_) (fun y1 => ?_)
    · skip
      refine v_iinc (v := 2) (lv' := [(0, .ref (D.2.2 (10 + 6))), (1, .int x), (2, .int 2)]) O dX7_indexIn_21 2 rfl (by decide) (by decide) rfl ?_
      refine v_goto O 2 dX7_indexIn_24 (by decide) ?_
      refine v_iload_n O dX7_indexIn_2 2 rfl ?_
      refine v_aload_n O dX7_indexIn_3 0 rfl ?_
      refine v_cVS (As := []) (wr := []) (st := [.int 2]) O cf_X7_73 rfl 6 (by decide) (sp_J0_length_8abf5 (i := 6) (by decide)) dX7_indexIn_4 rfl rfl [] [] (by decide) rfl rfl (by decide) (by decide) (by decide) (Nat.le_of_ble_eq_true rfl) (by decide) (by decide) (fun r_16 w_17 h_15 => ?_)
      obtain ⟨rfl, rfl⟩ := h_15
      refine v_eq (st' := [.int (nI (x_len.getD 6 0)), .int 2]) (ws' := []) rfl rfl rfl rfl ?_
      refine v_top (y := 3) (rfl) ?_
      refine v_icmp_ge O 27 dX7_indexIn_7 (by decide) (fun c => absurd c (by decide)) (fun _ => ?_)
      refine v_aload_n O dX7_indexIn_10 0 rfl ?_
      refine v_iload_n O dX7_indexIn_11 2 rfl ?_
      refine v_cVS (As := [.int 2]) (wr := []) (st := []) O cf_X7_77 rfl 6 (by decide) (sp_J0_charAt_5068e (i := 6) (k := 2) (by decide) (by decide)) dX7_indexIn_12 rfl rfl [] [] (by decide) rfl rfl (by decide) (by decide) (by decide) (Nat.le_of_ble_eq_true rfl) (by decide) (by decide) (fun r_20 w_21 h_19 => ?_)
      obtain ⟨rfl, rfl⟩ := h_19
      refine v_eq (st' := [.int (x_ch 6 2)]) (ws' := []) rfl rfl rfl rfl ?_
      refine v_top (y := 62) (rfl) ?_
      refine v_iload_n O dX7_indexIn_15 1 rfl ?_
      refine v_icmp_ne O 21 dX7_indexIn_16 (by decide) (fun y2 => ?_) (fun y2 => ?_)
      · skip
        refine v_iinc (v := 3) (lv' := [(0, .ref (D.2.2 (10 + 6))), (1, .int x), (2, .int 3)]) O dX7_indexIn_21 2 rfl (by decide) (by decide) rfl ?_
        refine v_goto O 2 dX7_indexIn_24 (by decide) ?_
        refine v_iload_n O dX7_indexIn_2 2 rfl ?_
        refine v_aload_n O dX7_indexIn_3 0 rfl ?_
        refine v_cVS (As := []) (wr := []) (st := [.int 3]) O cf_X7_73 rfl 6 (by decide) (sp_J0_length_8abf5 (i := 6) (by decide)) dX7_indexIn_4 rfl rfl [] [] (by decide) rfl rfl (by decide) (by decide) (by decide) (Nat.le_of_ble_eq_true rfl) (by decide) (by decide) (fun r_23 w_24 h_22 => ?_)
        obtain ⟨rfl, rfl⟩ := h_22
        refine v_eq (st' := [.int (nI (x_len.getD 6 0)), .int 3]) (ws' := []) rfl rfl rfl rfl ?_
        refine v_top (y := 3) (rfl) ?_
        refine v_icmp_ge O 27 dX7_indexIn_7 (by decide) (fun _ => ?_) (fun c => absurd c (by decide))
        refine v_iconst (v := -1) O dX7_indexIn_27 (by decide) ?_
        exact v_ireturn O T rfl rfl (by decide) (by decide) dX7_indexIn_28 (⟨by unfold ixR; rw [if_neg y0, if_neg y1, if_neg y2], rfl⟩)
      · skip
        refine v_iload_n O dX7_indexIn_19 2 rfl ?_
        exact v_ireturn O T rfl rfl (by decide) (by decide) dX7_indexIn_20 (⟨by unfold ixR; rw [if_neg y0, if_neg y1, if_pos y2], rfl⟩)
    · skip
      refine v_iload_n O dX7_indexIn_19 2 rfl ?_
      exact v_ireturn O T rfl rfl (by decide) (by decide) dX7_indexIn_20 (⟨by unfold ixR; rw [if_neg y0, if_pos y1], rfl⟩)
  · skip
    refine v_iload_n O dX7_indexIn_19 2 rfl ?_
    exact v_ireturn O T rfl rfl (by decide) (by decide) dX7_indexIn_20 (⟨by unfold ixR; rw [if_pos y0], rfl⟩)
set_option maxRecDepth 100000 in
set_option maxHeartbeats 4000000 in
theorem sp_X7_factor_0 {D : G} {txo : Nat} {tsg : Nat} {ln : Nat} {tb : Nat → Int32} {vg : Nat} {sh : Nat} {mo : Nat} {ov : Nat} {nr : Nat} {io : Nat} {am : Nat} {en : Nat} {nl : Nat} {sp : Nat} {fs : Nat → Int32} {p : Nat} (hln : ln ≤ 100) (hp : p ≤ ln) (hnl : nl ≤ p) : Sp D mX7_factor 5 0 0 [.ref txo, .ref vg, .int 4] [(txo, .inr (7, [.ref tsg, .int (nI ln), .int (nI p), .int ((sgT tb ln) p)])), (tsg, eB D 100 tb), (vg, .inr (6, [.int (nI sh), .int (nI mo), .int (nI ov), .int (nI nr), .ref io, .ref am, .ref en, .int (nI nl), .ref sp])), (sp, eI D 100 fs)] (fun r w => r = some (.int (b2i ((facP (sgT tb ln) 0 p).2.1 = true))) ∧ w = [(txo, .inr (7, [.ref tsg, .int (nI ln), .int (nI ((facP (sgT tb ln) 0 p).1)), .int ((sgT tb ln) ((facP (sgT tb ln) 0 p).1))])), (tsg, eB D 100 tb), (vg, .inr (6, [.int (nI sh), .int (nI mo), .int (nI ov), .int (nI nr), .ref io, .ref am, .ref en, .int (nI (nl + (facP (sgT tb ln) 0 p).2.2.length)), .ref sp])), (sp, eI D 100 (wr fs nl (facP (sgT tb ln) 0 p).2.2))]) := by
  refine Sp.of (by decide) (Nat.le_of_ble_eq_true rfl) (fun X O T => ?_)
  refine v_eq (lv' := [(0, .ref txo), (1, .ref vg), (2, .int 4)]) rfl rfl rfl rfl ?_
  refine v_aload_n O dX7_factor_0 0 rfl ?_
  refine gf_X7_22 O rfl dX7_factor_1 0 rfl rfl ?_
  refine v_bipush (v := 40) O dX7_factor_4 (by decide) ?_
  refine v_icmp_eq O 18 dX7_factor_6 (by decide) (fun z1 => ?_) (fun z1 => ?_)
  · skip
    have z_n : (sgT tb ln) p = 40 ∨ (sgT tb ln) p = 33 := Or.inl z1
    refine v_iload_n O dX7_factor_18 2 rfl ?_
    refine v_iconst (v := 4) O dX7_factor_19 (by decide) ?_
    refine v_icmp_ge O 38 dX7_factor_20 (by decide) (fun _ => ?_) (fun c => absurd c (by decide))
    refine v_iconst (v := 0) O dX7_factor_38 (by decide) ?_
    exact v_ireturn O T rfl rfl (by decide) (by decide) dX7_factor_39 (⟨by rw [facP_0 z_n]; exact bF, by rw [facP_0 z_n]; rfl⟩)
  · skip
    refine v_aload_n O dX7_factor_9 0 rfl ?_
    refine gf_X7_22 O rfl dX7_factor_10 0 rfl rfl ?_
    refine v_bipush (v := 33) O dX7_factor_13 (by decide) ?_
    refine v_icmp_ne O 40 dX7_factor_15 (by decide) (fun z2 => ?_) (fun z2 => ?_)
    · skip
      have z_t : ¬ ((sgT tb ln) p = 40 ∨ (sgT tb ln) p = 33) := fun z9 => z9.elim z1 z2
      refine v_ldcS O 5 (by decide) rfl dX7_factor_40 ?_
      refine v_aload_n O dX7_factor_42 0 rfl ?_
      refine gf_X7_22 O rfl dX7_factor_43 0 rfl rfl ?_
      refine v_cS (As := [.ref (D.2.2 (10 + 5)), .int ((sgT tb ln) p)]) (wr := [(txo, .inr (7, [.ref tsg, .int (nI ln), .int (nI p), .int ((sgT tb ln) p)])), (tsg, eB D 100 tb), (vg, .inr (6, [.int (nI sh), .int (nI mo), .int (nI ov), .int (nI nr), .ref io, .ref am, .ref en, .int (nI nl), .ref sp])), (sp, eI D 100 fs)]) (st := []) O cf_X7_95 (sp_X7_indexIn_5 (x := ((sgT tb ln) p)) ) dX7_factor_46 rfl rfl [] [0, 1, 2, 3] (by decide) rfl rfl (by decide) (by decide) (by decide) (Nat.le_of_ble_eq_true rfl) (by decide) (by decide) (fun r_3 w_4 h_2 => ?_)
      obtain ⟨rfl, rfl⟩ := h_2
      refine v_eq (st' := [.int (ixL ((sgT tb ln) p))]) (ws' := [(txo, .inr (7, [.ref tsg, .int (nI ln), .int (nI p), .int ((sgT tb ln) p)])), (tsg, eB D 100 tb), (vg, .inr (6, [.int (nI sh), .int (nI mo), .int (nI ov), .int (nI nr), .ref io, .ref am, .ref en, .int (nI nl), .ref sp])), (sp, eI D 100 fs)]) rfl rfl rfl rfl ?_
      refine v_istore_n (lv' := [(0, .ref txo), (1, .ref vg), (2, .int 4), (3, .int (ixL ((sgT tb ln) p)))]) O dX7_factor_49 (by decide) rfl ?_
      refine v_iload_n O dX7_factor_50 3 rfl ?_
      refine v_if_ge O 56 dX7_factor_51 (by decide) (fun z5 => ?_) (fun z5 => ?_)
      · skip
        have z5 := Int32.not_lt.mpr z5
        refine v_aload_n O dX7_factor_56 0 rfl ?_
        refine v_aload_n O dX7_factor_57 0 rfl ?_
        refine gf_X7_19 O rfl dX7_factor_58 0 rfl rfl ?_
        refine v_iconst (v := 1) O dX7_factor_61 (by decide) ?_
        refine v_iadd O dX7_factor_62 ?_
        refine v_top (y := nI (p + 1)) (nI_add p 1) ?_
        refine v_cV (T := TX7) (ci := 7) (As := [.int (nI (p + 1))]) (wr := [(vg, .inr (6, [.int (nI sh), .int (nI mo), .int (nI ov), .int (nI nr), .ref io, .ref am, .ref en, .int (nI nl), .ref sp])), (sp, eI D 100 fs)]) (st := []) O cf_X7_30 rfl (sp_X7_goTo (txo := txo) (tsg := tsg) (ln := ln) (tb := tb) (pl := (nI p)) (si := ((sgT tb ln) p)) (q := (p + 1)) (hln) (by omega)) dX7_factor_63 rfl rfl 0 rfl [0, 1] [2, 3] (by decide) rfl rfl (by decide) (by decide) (by decide) (Nat.le_of_ble_eq_true rfl) (by decide) (by decide) (fun r_6 w_7 h_5 => ?_)
        obtain ⟨rfl, rfl⟩ := h_5
        refine v_eq (st' := []) (ws' := [(vg, .inr (6, [.int (nI sh), .int (nI mo), .int (nI ov), .int (nI nr), .ref io, .ref am, .ref en, .int (nI nl), .ref sp])), (sp, eI D 100 fs), (txo, .inr (7, [.ref tsg, .int (nI ln), .int (nI (p + 1)), .int ((sgT tb ln) (p + 1))])), (tsg, eB D 100 tb)]) rfl rfl rfl rfl ?_
        refine v_ldcS O 6 (by decide) rfl dX7_factor_66 ?_
        refine v_aload_n O dX7_factor_68 0 rfl ?_
        refine gf_X7_22 O rfl dX7_factor_69 2 rfl rfl ?_
        refine v_cS (As := [.ref (D.2.2 (10 + 6)), .int ((sgT tb ln) (p + 1))]) (wr := [(vg, .inr (6, [.int (nI sh), .int (nI mo), .int (nI ov), .int (nI nr), .ref io, .ref am, .ref en, .int (nI nl), .ref sp])), (sp, eI D 100 fs), (txo, .inr (7, [.ref tsg, .int (nI ln), .int (nI (p + 1)), .int ((sgT tb ln) (p + 1))])), (tsg, eB D 100 tb)]) (st := []) O cf_X7_95 (sp_X7_indexIn_6 (x := ((sgT tb ln) (p + 1))) ) dX7_factor_72 rfl rfl [] [0, 1, 2, 3] (by decide) rfl rfl (by decide) (by decide) (by decide) (Nat.le_of_ble_eq_true rfl) (by decide) (by decide) (fun r_9 w_10 h_8 => ?_)
        obtain ⟨rfl, rfl⟩ := h_8
        refine v_eq (st' := [.int (ixR ((sgT tb ln) (p + 1)))]) (ws' := [(vg, .inr (6, [.int (nI sh), .int (nI mo), .int (nI ov), .int (nI nr), .ref io, .ref am, .ref en, .int (nI nl), .ref sp])), (sp, eI D 100 fs), (txo, .inr (7, [.ref tsg, .int (nI ln), .int (nI (p + 1)), .int ((sgT tb ln) (p + 1))])), (tsg, eB D 100 tb)]) rfl rfl rfl rfl ?_
        refine v_istore (lv' := [(0, .ref txo), (1, .ref vg), (2, .int 4), (3, .int (ixL ((sgT tb ln) p))), (4, .int (ixR ((sgT tb ln) (p + 1))))]) O dX7_factor_75 (by decide) rfl ?_
        refine v_iload O dX7_factor_77 4 rfl ?_
        refine v_if_ge O 84 dX7_factor_79 (by decide) (fun z6 => ?_) (fun z6 => ?_)
        · skip
          have z6 := Int32.not_lt.mpr z6
          refine v_aload_n O dX7_factor_84 0 rfl ?_
          refine v_aload_n O dX7_factor_85 0 rfl ?_
          refine gf_X7_19 O rfl dX7_factor_86 2 rfl rfl ?_
          refine v_iconst (v := 1) O dX7_factor_89 (by decide) ?_
          refine v_iadd O dX7_factor_90 ?_
          refine v_top (y := nI ((p + 1) + 1)) (nI_add (p + 1) 1) ?_
          refine v_cV (T := TX7) (ci := 7) (As := [.int (nI ((p + 1) + 1))]) (wr := [(vg, .inr (6, [.int (nI sh), .int (nI mo), .int (nI ov), .int (nI nr), .ref io, .ref am, .ref en, .int (nI nl), .ref sp])), (sp, eI D 100 fs)]) (st := []) O cf_X7_30 rfl (sp_X7_goTo (txo := txo) (tsg := tsg) (ln := ln) (tb := tb) (pl := (nI (p + 1))) (si := ((sgT tb ln) (p + 1))) (q := ((p + 1) + 1)) (hln) (by omega)) dX7_factor_91 rfl rfl 2 rfl [2, 3] [0, 1] (by decide) rfl rfl (by decide) (by decide) (by decide) (Nat.le_of_ble_eq_true rfl) (by decide) (by decide) (fun r_12 w_13 h_11 => ?_)
          obtain ⟨rfl, rfl⟩ := h_11
          refine v_eq (st' := []) (ws' := [(vg, .inr (6, [.int (nI sh), .int (nI mo), .int (nI ov), .int (nI nr), .ref io, .ref am, .ref en, .int (nI nl), .ref sp])), (sp, eI D 100 fs), (txo, .inr (7, [.ref tsg, .int (nI ln), .int (nI ((p + 1) + 1)), .int ((sgT tb ln) ((p + 1) + 1))])), (tsg, eB D 100 tb)]) rfl rfl rfl rfl ?_
          refine v_aload_n O dX7_factor_94 0 rfl ?_
          by_cases z7 : isd ((sgT tb ln) (p + 1 + 1))
          · skip
            refine v_cV (T := TX7) (ci := 7) (As := []) (wr := [(vg, .inr (6, [.int (nI sh), .int (nI mo), .int (nI ov), .int (nI nr), .ref io, .ref am, .ref en, .int (nI nl), .ref sp])), (sp, eI D 100 fs)]) (st := []) O cf_X7_42 rfl (sp_X7_number_t (txo := txo) (tsg := tsg) (ln := ln) (tb := tb) (p := ((p + 1) + 1)) (hln) (z7)) dX7_factor_95 rfl rfl 2 rfl [2, 3] [0, 1] (by decide) rfl rfl (by decide) (by decide) (by decide) (Nat.le_of_ble_eq_true rfl) (by decide) (by decide) (fun r_14 w_15 h_nt => ?_)
            obtain ⟨rfl, rfl⟩ := h_nt
            refine v_eq (st' := [.int (nI (numN (sgT tb ln) ((p + 1) + 1)))]) (ws' := [(vg, .inr (6, [.int (nI sh), .int (nI mo), .int (nI ov), .int (nI nr), .ref io, .ref am, .ref en, .int (nI nl), .ref sp])), (sp, eI D 100 fs), (txo, .inr (7, [.ref tsg, .int (nI ln), .int (nI (numE (sgT tb ln) ((p + 1) + 1))), .int ((sgT tb ln) (numE (sgT tb ln) ((p + 1) + 1)))])), (tsg, eB D 100 tb)]) rfl rfl rfl rfl ?_
            refine v_istore (lv' := [(0, .ref txo), (1, .ref vg), (2, .int 4), (3, .int (ixL ((sgT tb ln) p))), (4, .int (ixR ((sgT tb ln) (p + 1)))), (5, .int (nI (numN (sgT tb ln) ((p + 1) + 1))))]) O dX7_factor_98 (by decide) rfl ?_
            refine v_iload O dX7_factor_100 5 rfl ?_
            have z_le := numN_le z7
            refine v_if_ge O 107 dX7_factor_102 (by decide) (fun _ => ?_) (fun c => absurd (Int32.not_lt.mp (nI_pos (by omega))) c)
            refine v_aload_n O dX7_factor_107 1 rfl ?_
            refine v_iload_n O dX7_factor_108 3 rfl ?_
            refine v_iconst (v := 3) O dX7_factor_109 (by decide) ?_
            refine v_imul O dX7_factor_110 ?_
            refine v_iload O dX7_factor_111 4 rfl ?_
            refine v_iadd O dX7_factor_113 ?_
            refine v_bipush (v := 100) O dX7_factor_114 (by decide) ?_
            refine v_imul O dX7_factor_116 ?_
            refine v_iload O dX7_factor_117 5 rfl ?_
            refine v_iadd O dX7_factor_119 ?_
            refine v_cV (T := TX6) (ci := 6) (As := [.int (((((ixL ((sgT tb ln) p)) * 3) + (ixR ((sgT tb ln) (p + 1)))) * 100) + (nI (numN (sgT tb ln) ((p + 1) + 1))))]) (wr := [(txo, .inr (7, [.ref tsg, .int (nI ln), .int (nI (numE (sgT tb ln) ((p + 1) + 1))), .int ((sgT tb ln) (numE (sgT tb ln) ((p + 1) + 1)))])), (tsg, eB D 100 tb)]) (st := []) O cf_X7_84 rfl (sp_X6_addStep (vg := vg) (sh := sh) (mo := mo) (ov := ov) (nr := nr) (io := io) (am := am) (en := en) (nl := nl) (sp := sp) (fs := fs) (b := (((((ixL ((sgT tb ln) p)) * 3) + (ixR ((sgT tb ln) (p + 1)))) * 100) + (nI (numN (sgT tb ln) ((p + 1) + 1))))) (by have := isd_lt z7; omega)) dX7_factor_120 rfl rfl 0 rfl [0, 1] [2, 3] (by decide) rfl rfl (by decide) (by decide) (by decide) (Nat.le_of_ble_eq_true rfl) (by decide) (by decide) (fun r_17 w_18 h_16 => ?_)
            obtain ⟨rfl, rfl⟩ := h_16
            refine v_eq (st' := []) (ws' := [(txo, .inr (7, [.ref tsg, .int (nI ln), .int (nI (numE (sgT tb ln) ((p + 1) + 1))), .int ((sgT tb ln) (numE (sgT tb ln) ((p + 1) + 1)))])), (tsg, eB D 100 tb), (vg, .inr (6, [.int (nI sh), .int (nI mo), .int (nI ov), .int (nI nr), .ref io, .ref am, .ref en, .int (nI (nl + 1)), .ref sp])), (sp, eI D 100 (upd fs nl (((((ixL ((sgT tb ln) p)) * 3) + (ixR ((sgT tb ln) (p + 1)))) * 100) + (nI (numN (sgT tb ln) ((p + 1) + 1))))))]) rfl rfl rfl rfl ?_
            refine v_iconst (v := 1) O dX7_factor_123 (by decide) ?_
            exact v_ireturn O T rfl rfl (by decide) (by decide) dX7_factor_124 (⟨by rw [facP_t z_t]; unfold tstP; rw [if_neg z5, if_neg z6, if_pos z7]; exact bT, by rw [facP_t z_t]; unfold tstP; rw [if_neg z5, if_neg z6, if_pos z7]; rfl⟩)
          · skip
            refine v_cV (T := TX7) (ci := 7) (As := []) (wr := [(vg, .inr (6, [.int (nI sh), .int (nI mo), .int (nI ov), .int (nI nr), .ref io, .ref am, .ref en, .int (nI nl), .ref sp])), (sp, eI D 100 fs)]) (st := []) O cf_X7_42 rfl (sp_X7_number_f (txo := txo) (tsg := tsg) (ln := ln) (tb := tb) (p := ((p + 1) + 1)) (z7)) dX7_factor_95 rfl rfl 2 rfl [2, 3] [0, 1] (by decide) rfl rfl (by decide) (by decide) (by decide) (Nat.le_of_ble_eq_true rfl) (by decide) (by decide) (fun r_19 w_20 h_nf => ?_)
            obtain ⟨rfl, rfl⟩ := h_nf
            refine v_eq (st' := [.int (-1)]) (ws' := [(vg, .inr (6, [.int (nI sh), .int (nI mo), .int (nI ov), .int (nI nr), .ref io, .ref am, .ref en, .int (nI nl), .ref sp])), (sp, eI D 100 fs), (txo, .inr (7, [.ref tsg, .int (nI ln), .int (nI ((p + 1) + 1)), .int ((sgT tb ln) ((p + 1) + 1))])), (tsg, eB D 100 tb)]) rfl rfl rfl rfl ?_
            refine v_istore (lv' := [(0, .ref txo), (1, .ref vg), (2, .int 4), (3, .int (ixL ((sgT tb ln) p))), (4, .int (ixR ((sgT tb ln) (p + 1)))), (5, .int (-1))]) O dX7_factor_98 (by decide) rfl ?_
            refine v_iload O dX7_factor_100 5 rfl ?_
            refine v_if_ge O 107 dX7_factor_102 (by decide) (fun c => absurd c (by decide)) (fun _ => ?_)
            refine v_iconst (v := 0) O dX7_factor_105 (by decide) ?_
            refine v_sub (ws' := [(txo, .inr (7, [.ref tsg, .int (nI ln), .int (nI ((p + 1) + 1)), .int ((sgT tb ln) ((p + 1) + 1))])), (tsg, eB D 100 tb), (vg, .inr (6, [.int (nI sh), .int (nI mo), .int (nI ov), .int (nI nr), .ref io, .ref am, .ref en, .int (nI nl), .ref sp])), (sp, eI D 100 fs)]) [2, 3, 0, 1] (by decide) rfl ?_
            exact v_ireturn O T rfl rfl (by decide) (by decide) dX7_factor_106 (⟨by rw [facP_t z_t]; unfold tstP; rw [if_neg z5, if_neg z6, if_neg z7]; exact bF, by rw [facP_t z_t]; unfold tstP; rw [if_neg z5, if_neg z6, if_neg z7]; rfl⟩)
        · skip
          have z6 := Int32.not_le.mp z6
          refine v_iconst (v := 0) O dX7_factor_82 (by decide) ?_
          refine v_sub (ws' := [(txo, .inr (7, [.ref tsg, .int (nI ln), .int (nI (p + 1)), .int ((sgT tb ln) (p + 1))])), (tsg, eB D 100 tb), (vg, .inr (6, [.int (nI sh), .int (nI mo), .int (nI ov), .int (nI nr), .ref io, .ref am, .ref en, .int (nI nl), .ref sp])), (sp, eI D 100 fs)]) [2, 3, 0, 1] (by decide) rfl ?_
          exact v_ireturn O T rfl rfl (by decide) (by decide) dX7_factor_83 (⟨by rw [facP_t z_t]; unfold tstP; rw [if_neg z5, if_pos z6]; exact bF, by rw [facP_t z_t]; unfold tstP; rw [if_neg z5, if_pos z6]; rfl⟩)
      · skip
        have z5 := Int32.not_le.mp z5
        have z5 : ixL ((sgT tb ln) p) < 0 := z5
        refine v_iconst (v := 0) O dX7_factor_54 (by decide) ?_
        exact v_ireturn O T rfl rfl (by decide) (by decide) dX7_factor_55 (⟨by rw [facP_t z_t]; unfold tstP; rw [if_pos z5]; exact bF, by rw [facP_t z_t]; unfold tstP; rw [if_pos z5]; rfl⟩)
    · skip
      have z_n : (sgT tb ln) p = 40 ∨ (sgT tb ln) p = 33 := Or.inr z2
      refine v_iload_n O dX7_factor_18 2 rfl ?_
      refine v_iconst (v := 4) O dX7_factor_19 (by decide) ?_
      refine v_icmp_ge O 38 dX7_factor_20 (by decide) (fun _ => ?_) (fun c => absurd c (by decide))
      refine v_iconst (v := 0) O dX7_factor_38 (by decide) ?_
      exact v_ireturn O T rfl rfl (by decide) (by decide) dX7_factor_39 (⟨by rw [facP_0 z_n]; exact bF, by rw [facP_0 z_n]; rfl⟩)
set_option maxRecDepth 100000 in
set_option maxHeartbeats 4000000 in
theorem l_X7_both_0 {D : G} {X : CX} {txo : Nat} {tsg : Nat} {ln : Nat} {tb : Nat → Int32} {vg : Nat} {sh : Nat} {mo : Nat} {ov : Nat} {nr : Nat} {io : Nat} {am : Nat} {en : Nat} {nl : Nat} {sp : Nat} {fs : Nat → Int32} {p : Nat} (O : Ok D X mX7_both 6 0 0) (hln : ln ≤ 100) (hp : p ≤ ln) (hnl : nl ≤ p) (T : Rt D X (fun r w => r = some (.int (b2i ((botP (facP (sgT tb ln) 0) (sgT tb ln) p).2.1 = true))) ∧ w = [(txo, .inr (7, [.ref tsg, .int (nI ln), .int (nI ((botP (facP (sgT tb ln) 0) (sgT tb ln) p).1)), .int ((sgT tb ln) ((botP (facP (sgT tb ln) 0) (sgT tb ln) p).1))])), (tsg, eB D 100 tb), (vg, .inr (6, [.int (nI sh), .int (nI mo), .int (nI ov), .int (nI nr), .ref io, .ref am, .ref en, .int (nI (nl + (botP (facP (sgT tb ln) 0) (sgT tb ln) p).2.2.length)), .ref sp])), (sp, eI D 100 (wr fs nl (botP (facP (sgT tb ln) 0) (sgT tb ln) p).2.2))]) 0 0) : ∀ (t i : Nat), i + t = 100 → ∀ r : Res, botP (facP (sgT tb ln) 0) (sgT tb ln) p = chn (facP (sgT tb ln) 0) (sgT tb ln) 38 (-2) t r → p + r.2.2.length ≤ r.1 ∧ r.1 ≤ ln → V D X 0 0 10 [(0, .ref txo), (1, .ref vg), (2, .int 4), (3, .int (b2i (r.2.1 = true))), (4, .int (nI i))] [] [(txo, .inr (7, [.ref tsg, .int (nI ln), .int (nI r.1), .int ((sgT tb ln) r.1)])), (tsg, eB D 100 tb), (vg, .inr (6, [.int (nI sh), .int (nI mo), .int (nI ov), .int (nI nr), .ref io, .ref am, .ref en, .int (nI (nl + r.2.2.length)), .ref sp])), (sp, eI D 100 (wr fs nl r.2.2))] := by
  intro t
  induction t with
  | zero =>
    intro i hi r hF hr
    refine v_iload O dX7_both_10 4 rfl ?_
    refine v_bipush (v := 100) O dX7_both_12 (by decide) ?_
    refine v_icmp_ge O 59 dX7_both_14 (by decide) (fun z1 => ?_) (fun z1 => ?_)
    · skip
      have z1 := (c_le' (x := nI i) (y := 100) (a := i) (b := 100) rfl rfl (by omega) (by omega)).mp z1
      refine v_iload_n O dX7_both_59 3 rfl ?_
      exact v_ireturn O T rfl (nrb _) (by decide) (by decide) dX7_both_60 (⟨by rw [hF, chn], by rw [hF, chn]⟩)
    · skip
      have z1 := (not_congr (c_le' (x := nI i) (y := 100) (a := i) (b := 100) rfl rfl (by omega) (by omega))).mp z1
      exact absurd z1 (by omega)
  | succ t ih =>
    intro i hi r hF hr
    refine v_iload O dX7_both_10 4 rfl ?_
    refine v_bipush (v := 100) O dX7_both_12 (by decide) ?_
    refine v_icmp_ge O 59 dX7_both_14 (by decide) (fun z1 => ?_) (fun z1 => ?_)
    · skip
      have z1 := (c_le' (x := nI i) (y := 100) (a := i) (b := 100) rfl rfl (by omega) (by omega)).mp z1
      exact absurd z1 (by omega)
    · skip
      have z1 := (not_congr (c_le' (x := nI i) (y := 100) (a := i) (b := 100) rfl rfl (by omega) (by omega))).mp z1
      refine v_iload_n O dX7_both_17 3 rfl ?_
      refine v_if_eq O 59 dX7_both_18 (by decide) (fun z2 => ?_) (fun z2 => ?_)
      · skip
        have z2 := b2i_0.mp z2
        refine v_iload_n O dX7_both_59 3 rfl ?_
        exact v_ireturn O T rfl (nrb _) (by decide) (by decide) dX7_both_60 (⟨by rw [hF, chn_n (fun z9 => absurd z9.1 z2)], by rw [hF, chn_n (fun z9 => absurd z9.1 z2)]⟩)
      · skip
        have z2 := b2i_1.mp z2
        refine v_aload_n O dX7_both_21 0 rfl ?_
        refine gf_X7_22 O rfl dX7_both_22 0 rfl rfl ?_
        refine v_bipush (v := 38) O dX7_both_25 (by decide) ?_
        refine v_icmp_ne O 59 dX7_both_27 (by decide) (fun z3 => ?_) (fun z3 => ?_)
        · skip
          refine v_iload_n O dX7_both_59 3 rfl ?_
          exact v_ireturn O T rfl (nrb _) (by decide) (by decide) dX7_both_60 (⟨by rw [hF, chn_n (fun z9 => absurd z9.2 z3)], by rw [hF, chn_n (fun z9 => absurd z9.2 z3)]⟩)
        · skip
          have z_p := sgT_lt z3 (by decide)
          have z_g := fac_ok (tb := tb) (ln := ln) 0 (r.1 + 1) z_p
          refine v_aload_n O dX7_both_30 0 rfl ?_
          refine v_aload_n O dX7_both_31 0 rfl ?_
          refine gf_X7_19 O rfl dX7_both_32 0 rfl rfl ?_
          refine v_iconst (v := 1) O dX7_both_35 (by decide) ?_
          refine v_iadd O dX7_both_36 ?_
          refine v_top (y := nI (r.1 + 1)) (nI_add r.1 1) ?_
          refine v_cV (T := TX7) (ci := 7) (As := [.int (nI (r.1 + 1))]) (wr := [(vg, .inr (6, [.int (nI sh), .int (nI mo), .int (nI ov), .int (nI nr), .ref io, .ref am, .ref en, .int (nI (nl + r.2.2.length)), .ref sp])), (sp, eI D 100 (wr fs nl r.2.2))]) (st := []) O cf_X7_30 rfl (sp_X7_goTo (txo := txo) (tsg := tsg) (ln := ln) (tb := tb) (pl := (nI r.1)) (si := ((sgT tb ln) r.1)) (q := (r.1 + 1)) (hln) (by omega)) dX7_both_37 rfl rfl 0 rfl [0, 1] [2, 3] (by decide) rfl rfl (by decide) (by decide) (by decide) (Nat.le_of_ble_eq_true rfl) (by decide) (by decide) (fun r_2 w_3 h_1 => ?_)
          obtain ⟨rfl, rfl⟩ := h_1
          refine v_eq (st' := []) (ws' := [(vg, .inr (6, [.int (nI sh), .int (nI mo), .int (nI ov), .int (nI nr), .ref io, .ref am, .ref en, .int (nI (nl + r.2.2.length)), .ref sp])), (sp, eI D 100 (wr fs nl r.2.2)), (txo, .inr (7, [.ref tsg, .int (nI ln), .int (nI (r.1 + 1)), .int ((sgT tb ln) (r.1 + 1))])), (tsg, eB D 100 tb)]) rfl rfl rfl rfl ?_
          refine v_aload_n O dX7_both_40 0 rfl ?_
          refine v_aload_n O dX7_both_41 1 rfl ?_
          refine v_iload_n O dX7_both_42 2 rfl ?_
          refine v_cV (T := TX7) (ci := 7) (As := [.ref vg, .int 4]) (wr := []) (st := []) O cf_X7_87 rfl (sp_X7_factor_0 (txo := txo) (tsg := tsg) (ln := ln) (tb := tb) (vg := vg) (sh := sh) (mo := mo) (ov := ov) (nr := nr) (io := io) (am := am) (en := en) (nl := (nl + r.2.2.length)) (sp := sp) (fs := (wr fs nl r.2.2)) (p := (r.1 + 1)) (hln) (by omega) (by omega)) dX7_both_43 rfl rfl 2 rfl [2, 3, 0, 1] [] (by decide) rfl rfl (by decide) (by decide) (by decide) (Nat.le_of_ble_eq_true rfl) (by decide) (by decide) (fun r_5 w_6 h_4 => ?_)
          obtain ⟨rfl, rfl⟩ := h_4
          refine v_eq (st' := [.int (b2i ((facP (sgT tb ln) 0 (r.1 + 1)).2.1 = true))]) (ws' := [(txo, .inr (7, [.ref tsg, .int (nI ln), .int (nI ((facP (sgT tb ln) 0 (r.1 + 1)).1)), .int ((sgT tb ln) ((facP (sgT tb ln) 0 (r.1 + 1)).1))])), (tsg, eB D 100 tb), (vg, .inr (6, [.int (nI sh), .int (nI mo), .int (nI ov), .int (nI nr), .ref io, .ref am, .ref en, .int (nI ((nl + r.2.2.length) + (facP (sgT tb ln) 0 (r.1 + 1)).2.2.length)), .ref sp])), (sp, eI D 100 (wr (wr fs nl r.2.2) (nl + r.2.2.length) (facP (sgT tb ln) 0 (r.1 + 1)).2.2))]) rfl rfl rfl rfl ?_
          refine v_istore_n (lv' := [(0, .ref txo), (1, .ref vg), (2, .int 4), (3, .int (b2i ((facP (sgT tb ln) 0 (r.1 + 1)).2.1 = true))), (4, .int (nI i))]) O dX7_both_46 (by decide) rfl ?_
          refine v_aload_n O dX7_both_47 1 rfl ?_
          refine v_bipush (v := -2) O dX7_both_48 (by decide) ?_
          refine v_cV (T := TX6) (ci := 6) (As := [.int (-2)]) (wr := [(txo, .inr (7, [.ref tsg, .int (nI ln), .int (nI ((facP (sgT tb ln) 0 (r.1 + 1)).1)), .int ((sgT tb ln) ((facP (sgT tb ln) 0 (r.1 + 1)).1))])), (tsg, eB D 100 tb)]) (st := []) O cf_X7_84 rfl (sp_X6_addStep (vg := vg) (sh := sh) (mo := mo) (ov := ov) (nr := nr) (io := io) (am := am) (en := en) (nl := ((nl + r.2.2.length) + (facP (sgT tb ln) 0 (r.1 + 1)).2.2.length)) (sp := sp) (fs := (wr (wr fs nl r.2.2) (nl + r.2.2.length) (facP (sgT tb ln) 0 (r.1 + 1)).2.2)) (b := (-2)) (by omega)) dX7_both_50 rfl rfl 2 rfl [2, 3] [0, 1] (by decide) rfl rfl (by decide) (by decide) (by decide) (Nat.le_of_ble_eq_true rfl) (by decide) (by decide) (fun r_8 w_9 h_7 => ?_)
          obtain ⟨rfl, rfl⟩ := h_7
          refine v_eq (st' := []) (ws' := [(txo, .inr (7, [.ref tsg, .int (nI ln), .int (nI ((facP (sgT tb ln) 0 (r.1 + 1)).1)), .int ((sgT tb ln) ((facP (sgT tb ln) 0 (r.1 + 1)).1))])), (tsg, eB D 100 tb), (vg, .inr (6, [.int (nI sh), .int (nI mo), .int (nI ov), .int (nI nr), .ref io, .ref am, .ref en, .int (nI (((nl + r.2.2.length) + (facP (sgT tb ln) 0 (r.1 + 1)).2.2.length) + 1)), .ref sp])), (sp, eI D 100 (upd (wr (wr fs nl r.2.2) (nl + r.2.2.length) (facP (sgT tb ln) 0 (r.1 + 1)).2.2) ((nl + r.2.2.length) + (facP (sgT tb ln) 0 (r.1 + 1)).2.2.length) (-2)))]) rfl rfl rfl rfl ?_
          refine v_eq (ws' := [(txo, .inr (7, [.ref tsg, .int (nI ln), .int (nI ((facP (sgT tb ln) 0 (r.1 + 1)).1)), .int ((sgT tb ln) ((facP (sgT tb ln) 0 (r.1 + 1)).1))])), (tsg, eB D 100 tb), (vg, .inr (6, [.int (nI sh), .int (nI mo), .int (nI ov), .int (nI nr), .ref io, .ref am, .ref en, .int (nI (nl + (r.2.2 ++ (((facP (sgT tb ln) 0) (r.1 + 1)).2.2 ++ [-2])).length)), .ref sp])), (sp, eI D 100 (wr fs nl (r.2.2 ++ (((facP (sgT tb ln) 0) (r.1 + 1)).2.2 ++ [-2]))))]) rfl rfl rfl (by rw [wr_3, wl_3]) ?_
          refine v_iinc (v := nI (i + 1)) (lv' := [(0, .ref txo), (1, .ref vg), (2, .int 4), (3, .int (b2i ((facP (sgT tb ln) 0 (r.1 + 1)).2.1 = true))), (4, .int (nI (i + 1)))]) O dX7_both_53 4 rfl (nI_1 i) (by decide) rfl ?_
          refine v_goto O 10 dX7_both_56 (by decide) ?_
          exact ih (i + 1) (by omega) (((facP (sgT tb ln) 0) (r.1 + 1)).1, ((facP (sgT tb ln) 0) (r.1 + 1)).2.1, r.2.2 ++ (((facP (sgT tb ln) 0) (r.1 + 1)).2.2 ++ [-2])) (by rw [hF, chn_s ⟨z2, z3⟩]) ⟨by show p + (r.2.2 ++ (((facP (sgT tb ln) 0) (r.1 + 1)).2.2 ++ [(-2 : Int32)])).length ≤ ((facP (sgT tb ln) 0) (r.1 + 1)).1; rw [← wl_3]; omega, z_g.2⟩
set_option maxRecDepth 100000 in
set_option maxHeartbeats 4000000 in
theorem sp_X7_both_0 {D : G} {txo : Nat} {tsg : Nat} {ln : Nat} {tb : Nat → Int32} {vg : Nat} {sh : Nat} {mo : Nat} {ov : Nat} {nr : Nat} {io : Nat} {am : Nat} {en : Nat} {nl : Nat} {sp : Nat} {fs : Nat → Int32} {p : Nat} (hln : ln ≤ 100) (hp : p ≤ ln) (hnl : nl ≤ p) : Sp D mX7_both 6 0 0 [.ref txo, .ref vg, .int 4] [(txo, .inr (7, [.ref tsg, .int (nI ln), .int (nI p), .int ((sgT tb ln) p)])), (tsg, eB D 100 tb), (vg, .inr (6, [.int (nI sh), .int (nI mo), .int (nI ov), .int (nI nr), .ref io, .ref am, .ref en, .int (nI nl), .ref sp])), (sp, eI D 100 fs)] (fun r w => r = some (.int (b2i ((botP (facP (sgT tb ln) 0) (sgT tb ln) p).2.1 = true))) ∧ w = [(txo, .inr (7, [.ref tsg, .int (nI ln), .int (nI ((botP (facP (sgT tb ln) 0) (sgT tb ln) p).1)), .int ((sgT tb ln) ((botP (facP (sgT tb ln) 0) (sgT tb ln) p).1))])), (tsg, eB D 100 tb), (vg, .inr (6, [.int (nI sh), .int (nI mo), .int (nI ov), .int (nI nr), .ref io, .ref am, .ref en, .int (nI (nl + (botP (facP (sgT tb ln) 0) (sgT tb ln) p).2.2.length)), .ref sp])), (sp, eI D 100 (wr fs nl (botP (facP (sgT tb ln) 0) (sgT tb ln) p).2.2))]) := by
  refine Sp.of (by decide) (Nat.le_of_ble_eq_true rfl) (fun X O T => ?_)
  refine v_eq (lv' := [(0, .ref txo), (1, .ref vg), (2, .int 4)]) rfl rfl rfl rfl ?_
  refine v_aload_n O dX7_both_0 0 rfl ?_
  refine v_aload_n O dX7_both_1 1 rfl ?_
  refine v_iload_n O dX7_both_2 2 rfl ?_
  refine v_cV (T := TX7) (ci := 7) (As := [.ref vg, .int 4]) (wr := []) (st := []) O cf_X7_87 rfl (sp_X7_factor_0 (txo := txo) (tsg := tsg) (ln := ln) (tb := tb) (vg := vg) (sh := sh) (mo := mo) (ov := ov) (nr := nr) (io := io) (am := am) (en := en) (nl := nl) (sp := sp) (fs := fs) (p := p) (hln) (hp) (hnl)) dX7_both_3 rfl rfl 0 rfl [0, 1, 2, 3] [] (by decide) rfl rfl (by decide) (by decide) (by decide) (Nat.le_of_ble_eq_true rfl) (by decide) (by decide) (fun r_2 w_3 h_1 => ?_)
  obtain ⟨rfl, rfl⟩ := h_1
  refine v_eq (st' := [.int (b2i ((facP (sgT tb ln) 0 p).2.1 = true))]) (ws' := [(txo, .inr (7, [.ref tsg, .int (nI ln), .int (nI ((facP (sgT tb ln) 0 p).1)), .int ((sgT tb ln) ((facP (sgT tb ln) 0 p).1))])), (tsg, eB D 100 tb), (vg, .inr (6, [.int (nI sh), .int (nI mo), .int (nI ov), .int (nI nr), .ref io, .ref am, .ref en, .int (nI (nl + (facP (sgT tb ln) 0 p).2.2.length)), .ref sp])), (sp, eI D 100 (wr fs nl (facP (sgT tb ln) 0 p).2.2))]) rfl rfl rfl rfl ?_
  refine v_istore_n (lv' := [(0, .ref txo), (1, .ref vg), (2, .int 4), (3, .int (b2i ((facP (sgT tb ln) 0 p).2.1 = true)))]) O dX7_both_6 (by decide) rfl ?_
  refine v_iconst (v := 0) O dX7_both_7 (by decide) ?_
  refine v_istore (lv' := [(0, .ref txo), (1, .ref vg), (2, .int 4), (3, .int (b2i ((facP (sgT tb ln) 0 p).2.1 = true))), (4, .int 0)]) O dX7_both_8 (by decide) rfl ?_
  refine v_eq (lv' := [(0, .ref txo), (1, .ref vg), (2, .int 4), (3, .int (b2i ((facP (sgT tb ln) 0 p).2.1 = true))), (4, .int (nI 0))]) rfl rfl rfl rfl ?_
  exact l_X7_both_0 O hln hp hnl T 100 0 (by omega) ((facP (sgT tb ln) 0) p) rfl (fac_ok (tb := tb) (ln := ln) 0 p hp)
set_option maxRecDepth 100000 in
set_option maxHeartbeats 4000000 in
theorem l_X7_either_0 {D : G} {X : CX} {txo : Nat} {tsg : Nat} {ln : Nat} {tb : Nat → Int32} {vg : Nat} {sh : Nat} {mo : Nat} {ov : Nat} {nr : Nat} {io : Nat} {am : Nat} {en : Nat} {nl : Nat} {sp : Nat} {fs : Nat → Int32} {p : Nat} (O : Ok D X mX7_either 7 0 0) (hln : ln ≤ 100) (hp : p ≤ ln) (hnl : nl ≤ p) (T : Rt D X (fun r w => r = some (.int (b2i ((eitP (facP (sgT tb ln) 0) (sgT tb ln) p).2.1 = true))) ∧ w = [(txo, .inr (7, [.ref tsg, .int (nI ln), .int (nI ((eitP (facP (sgT tb ln) 0) (sgT tb ln) p).1)), .int ((sgT tb ln) ((eitP (facP (sgT tb ln) 0) (sgT tb ln) p).1))])), (tsg, eB D 100 tb), (vg, .inr (6, [.int (nI sh), .int (nI mo), .int (nI ov), .int (nI nr), .ref io, .ref am, .ref en, .int (nI (nl + (eitP (facP (sgT tb ln) 0) (sgT tb ln) p).2.2.length)), .ref sp])), (sp, eI D 100 (wr fs nl (eitP (facP (sgT tb ln) 0) (sgT tb ln) p).2.2))]) 0 0) : ∀ (t i : Nat), i + t = 100 → ∀ r : Res, eitP (facP (sgT tb ln) 0) (sgT tb ln) p = chn (botP (facP (sgT tb ln) 0) (sgT tb ln)) (sgT tb ln) 124 (-3) t r → p + r.2.2.length ≤ r.1 ∧ r.1 ≤ ln → V D X 0 0 10 [(0, .ref txo), (1, .ref vg), (2, .int 4), (3, .int (b2i (r.2.1 = true))), (4, .int (nI i))] [] [(txo, .inr (7, [.ref tsg, .int (nI ln), .int (nI r.1), .int ((sgT tb ln) r.1)])), (tsg, eB D 100 tb), (vg, .inr (6, [.int (nI sh), .int (nI mo), .int (nI ov), .int (nI nr), .ref io, .ref am, .ref en, .int (nI (nl + r.2.2.length)), .ref sp])), (sp, eI D 100 (wr fs nl r.2.2))] := by
  intro t
  induction t with
  | zero =>
    intro i hi r hF hr
    refine v_iload O dX7_either_10 4 rfl ?_
    refine v_bipush (v := 100) O dX7_either_12 (by decide) ?_
    refine v_icmp_ge O 59 dX7_either_14 (by decide) (fun z1 => ?_) (fun z1 => ?_)
    · skip
      have z1 := (c_le' (x := nI i) (y := 100) (a := i) (b := 100) rfl rfl (by omega) (by omega)).mp z1
      refine v_iload_n O dX7_either_59 3 rfl ?_
      exact v_ireturn O T rfl (nrb _) (by decide) (by decide) dX7_either_60 (⟨by rw [hF, chn], by rw [hF, chn]⟩)
    · skip
      have z1 := (not_congr (c_le' (x := nI i) (y := 100) (a := i) (b := 100) rfl rfl (by omega) (by omega))).mp z1
      exact absurd z1 (by omega)
  | succ t ih =>
    intro i hi r hF hr
    refine v_iload O dX7_either_10 4 rfl ?_
    refine v_bipush (v := 100) O dX7_either_12 (by decide) ?_
    refine v_icmp_ge O 59 dX7_either_14 (by decide) (fun z1 => ?_) (fun z1 => ?_)
    · skip
      have z1 := (c_le' (x := nI i) (y := 100) (a := i) (b := 100) rfl rfl (by omega) (by omega)).mp z1
      exact absurd z1 (by omega)
    · skip
      have z1 := (not_congr (c_le' (x := nI i) (y := 100) (a := i) (b := 100) rfl rfl (by omega) (by omega))).mp z1
      refine v_iload_n O dX7_either_17 3 rfl ?_
      refine v_if_eq O 59 dX7_either_18 (by decide) (fun z2 => ?_) (fun z2 => ?_)
      · skip
        have z2 := b2i_0.mp z2
        refine v_iload_n O dX7_either_59 3 rfl ?_
        exact v_ireturn O T rfl (nrb _) (by decide) (by decide) dX7_either_60 (⟨by rw [hF, chn_n (fun z9 => absurd z9.1 z2)], by rw [hF, chn_n (fun z9 => absurd z9.1 z2)]⟩)
      · skip
        have z2 := b2i_1.mp z2
        refine v_aload_n O dX7_either_21 0 rfl ?_
        refine gf_X7_22 O rfl dX7_either_22 0 rfl rfl ?_
        refine v_bipush (v := 124) O dX7_either_25 (by decide) ?_
        refine v_icmp_ne O 59 dX7_either_27 (by decide) (fun z3 => ?_) (fun z3 => ?_)
        · skip
          refine v_iload_n O dX7_either_59 3 rfl ?_
          exact v_ireturn O T rfl (nrb _) (by decide) (by decide) dX7_either_60 (⟨by rw [hF, chn_n (fun z9 => absurd z9.2 z3)], by rw [hF, chn_n (fun z9 => absurd z9.2 z3)]⟩)
        · skip
          have z_p := sgT_lt z3 (by decide)
          have z_g := bot_ok (tb := tb) (fac_ok (tb := tb) (ln := ln) 0) (r.1 + 1) z_p
          refine v_aload_n O dX7_either_30 0 rfl ?_
          refine v_aload_n O dX7_either_31 0 rfl ?_
          refine gf_X7_19 O rfl dX7_either_32 0 rfl rfl ?_
          refine v_iconst (v := 1) O dX7_either_35 (by decide) ?_
          refine v_iadd O dX7_either_36 ?_
          refine v_top (y := nI (r.1 + 1)) (nI_add r.1 1) ?_
          refine v_cV (T := TX7) (ci := 7) (As := [.int (nI (r.1 + 1))]) (wr := [(vg, .inr (6, [.int (nI sh), .int (nI mo), .int (nI ov), .int (nI nr), .ref io, .ref am, .ref en, .int (nI (nl + r.2.2.length)), .ref sp])), (sp, eI D 100 (wr fs nl r.2.2))]) (st := []) O cf_X7_30 rfl (sp_X7_goTo (txo := txo) (tsg := tsg) (ln := ln) (tb := tb) (pl := (nI r.1)) (si := ((sgT tb ln) r.1)) (q := (r.1 + 1)) (hln) (by omega)) dX7_either_37 rfl rfl 0 rfl [0, 1] [2, 3] (by decide) rfl rfl (by decide) (by decide) (by decide) (Nat.le_of_ble_eq_true rfl) (by decide) (by decide) (fun r_2 w_3 h_1 => ?_)
          obtain ⟨rfl, rfl⟩ := h_1
          refine v_eq (st' := []) (ws' := [(vg, .inr (6, [.int (nI sh), .int (nI mo), .int (nI ov), .int (nI nr), .ref io, .ref am, .ref en, .int (nI (nl + r.2.2.length)), .ref sp])), (sp, eI D 100 (wr fs nl r.2.2)), (txo, .inr (7, [.ref tsg, .int (nI ln), .int (nI (r.1 + 1)), .int ((sgT tb ln) (r.1 + 1))])), (tsg, eB D 100 tb)]) rfl rfl rfl rfl ?_
          refine v_aload_n O dX7_either_40 0 rfl ?_
          refine v_aload_n O dX7_either_41 1 rfl ?_
          refine v_iload_n O dX7_either_42 2 rfl ?_
          refine v_cV (T := TX7) (ci := 7) (As := [.ref vg, .int 4]) (wr := []) (st := []) O cf_X7_81 rfl (sp_X7_both_0 (txo := txo) (tsg := tsg) (ln := ln) (tb := tb) (vg := vg) (sh := sh) (mo := mo) (ov := ov) (nr := nr) (io := io) (am := am) (en := en) (nl := (nl + r.2.2.length)) (sp := sp) (fs := (wr fs nl r.2.2)) (p := (r.1 + 1)) (hln) (by omega) (by omega)) dX7_either_43 rfl rfl 2 rfl [2, 3, 0, 1] [] (by decide) rfl rfl (by decide) (by decide) (by decide) (Nat.le_of_ble_eq_true rfl) (by decide) (by decide) (fun r_5 w_6 h_4 => ?_)
          obtain ⟨rfl, rfl⟩ := h_4
          refine v_eq (st' := [.int (b2i ((botP (facP (sgT tb ln) 0) (sgT tb ln) (r.1 + 1)).2.1 = true))]) (ws' := [(txo, .inr (7, [.ref tsg, .int (nI ln), .int (nI ((botP (facP (sgT tb ln) 0) (sgT tb ln) (r.1 + 1)).1)), .int ((sgT tb ln) ((botP (facP (sgT tb ln) 0) (sgT tb ln) (r.1 + 1)).1))])), (tsg, eB D 100 tb), (vg, .inr (6, [.int (nI sh), .int (nI mo), .int (nI ov), .int (nI nr), .ref io, .ref am, .ref en, .int (nI ((nl + r.2.2.length) + (botP (facP (sgT tb ln) 0) (sgT tb ln) (r.1 + 1)).2.2.length)), .ref sp])), (sp, eI D 100 (wr (wr fs nl r.2.2) (nl + r.2.2.length) (botP (facP (sgT tb ln) 0) (sgT tb ln) (r.1 + 1)).2.2))]) rfl rfl rfl rfl ?_
          refine v_istore_n (lv' := [(0, .ref txo), (1, .ref vg), (2, .int 4), (3, .int (b2i ((botP (facP (sgT tb ln) 0) (sgT tb ln) (r.1 + 1)).2.1 = true))), (4, .int (nI i))]) O dX7_either_46 (by decide) rfl ?_
          refine v_aload_n O dX7_either_47 1 rfl ?_
          refine v_bipush (v := -3) O dX7_either_48 (by decide) ?_
          refine v_cV (T := TX6) (ci := 6) (As := [.int (-3)]) (wr := [(txo, .inr (7, [.ref tsg, .int (nI ln), .int (nI ((botP (facP (sgT tb ln) 0) (sgT tb ln) (r.1 + 1)).1)), .int ((sgT tb ln) ((botP (facP (sgT tb ln) 0) (sgT tb ln) (r.1 + 1)).1))])), (tsg, eB D 100 tb)]) (st := []) O cf_X7_84 rfl (sp_X6_addStep (vg := vg) (sh := sh) (mo := mo) (ov := ov) (nr := nr) (io := io) (am := am) (en := en) (nl := ((nl + r.2.2.length) + (botP (facP (sgT tb ln) 0) (sgT tb ln) (r.1 + 1)).2.2.length)) (sp := sp) (fs := (wr (wr fs nl r.2.2) (nl + r.2.2.length) (botP (facP (sgT tb ln) 0) (sgT tb ln) (r.1 + 1)).2.2)) (b := (-3)) (by omega)) dX7_either_50 rfl rfl 2 rfl [2, 3] [0, 1] (by decide) rfl rfl (by decide) (by decide) (by decide) (Nat.le_of_ble_eq_true rfl) (by decide) (by decide) (fun r_8 w_9 h_7 => ?_)
          obtain ⟨rfl, rfl⟩ := h_7
          refine v_eq (st' := []) (ws' := [(txo, .inr (7, [.ref tsg, .int (nI ln), .int (nI ((botP (facP (sgT tb ln) 0) (sgT tb ln) (r.1 + 1)).1)), .int ((sgT tb ln) ((botP (facP (sgT tb ln) 0) (sgT tb ln) (r.1 + 1)).1))])), (tsg, eB D 100 tb), (vg, .inr (6, [.int (nI sh), .int (nI mo), .int (nI ov), .int (nI nr), .ref io, .ref am, .ref en, .int (nI (((nl + r.2.2.length) + (botP (facP (sgT tb ln) 0) (sgT tb ln) (r.1 + 1)).2.2.length) + 1)), .ref sp])), (sp, eI D 100 (upd (wr (wr fs nl r.2.2) (nl + r.2.2.length) (botP (facP (sgT tb ln) 0) (sgT tb ln) (r.1 + 1)).2.2) ((nl + r.2.2.length) + (botP (facP (sgT tb ln) 0) (sgT tb ln) (r.1 + 1)).2.2.length) (-3)))]) rfl rfl rfl rfl ?_
          refine v_eq (ws' := [(txo, .inr (7, [.ref tsg, .int (nI ln), .int (nI ((botP (facP (sgT tb ln) 0) (sgT tb ln) (r.1 + 1)).1)), .int ((sgT tb ln) ((botP (facP (sgT tb ln) 0) (sgT tb ln) (r.1 + 1)).1))])), (tsg, eB D 100 tb), (vg, .inr (6, [.int (nI sh), .int (nI mo), .int (nI ov), .int (nI nr), .ref io, .ref am, .ref en, .int (nI (nl + (r.2.2 ++ (((botP (facP (sgT tb ln) 0) (sgT tb ln)) (r.1 + 1)).2.2 ++ [-3])).length)), .ref sp])), (sp, eI D 100 (wr fs nl (r.2.2 ++ (((botP (facP (sgT tb ln) 0) (sgT tb ln)) (r.1 + 1)).2.2 ++ [-3]))))]) rfl rfl rfl (by rw [wr_3, wl_3]) ?_
          refine v_iinc (v := nI (i + 1)) (lv' := [(0, .ref txo), (1, .ref vg), (2, .int 4), (3, .int (b2i ((botP (facP (sgT tb ln) 0) (sgT tb ln) (r.1 + 1)).2.1 = true))), (4, .int (nI (i + 1)))]) O dX7_either_53 4 rfl (nI_1 i) (by decide) rfl ?_
          refine v_goto O 10 dX7_either_56 (by decide) ?_
          exact ih (i + 1) (by omega) (((botP (facP (sgT tb ln) 0) (sgT tb ln)) (r.1 + 1)).1, ((botP (facP (sgT tb ln) 0) (sgT tb ln)) (r.1 + 1)).2.1, r.2.2 ++ (((botP (facP (sgT tb ln) 0) (sgT tb ln)) (r.1 + 1)).2.2 ++ [-3])) (by rw [hF, chn_s ⟨z2, z3⟩]) ⟨by show p + (r.2.2 ++ (((botP (facP (sgT tb ln) 0) (sgT tb ln)) (r.1 + 1)).2.2 ++ [(-3 : Int32)])).length ≤ ((botP (facP (sgT tb ln) 0) (sgT tb ln)) (r.1 + 1)).1; rw [← wl_3]; omega, z_g.2⟩
set_option maxRecDepth 100000 in
set_option maxHeartbeats 4000000 in
theorem sp_X7_either_0 {D : G} {txo : Nat} {tsg : Nat} {ln : Nat} {tb : Nat → Int32} {vg : Nat} {sh : Nat} {mo : Nat} {ov : Nat} {nr : Nat} {io : Nat} {am : Nat} {en : Nat} {nl : Nat} {sp : Nat} {fs : Nat → Int32} {p : Nat} (hln : ln ≤ 100) (hp : p ≤ ln) (hnl : nl ≤ p) : Sp D mX7_either 7 0 0 [.ref txo, .ref vg, .int 4] [(txo, .inr (7, [.ref tsg, .int (nI ln), .int (nI p), .int ((sgT tb ln) p)])), (tsg, eB D 100 tb), (vg, .inr (6, [.int (nI sh), .int (nI mo), .int (nI ov), .int (nI nr), .ref io, .ref am, .ref en, .int (nI nl), .ref sp])), (sp, eI D 100 fs)] (fun r w => r = some (.int (b2i ((eitP (facP (sgT tb ln) 0) (sgT tb ln) p).2.1 = true))) ∧ w = [(txo, .inr (7, [.ref tsg, .int (nI ln), .int (nI ((eitP (facP (sgT tb ln) 0) (sgT tb ln) p).1)), .int ((sgT tb ln) ((eitP (facP (sgT tb ln) 0) (sgT tb ln) p).1))])), (tsg, eB D 100 tb), (vg, .inr (6, [.int (nI sh), .int (nI mo), .int (nI ov), .int (nI nr), .ref io, .ref am, .ref en, .int (nI (nl + (eitP (facP (sgT tb ln) 0) (sgT tb ln) p).2.2.length)), .ref sp])), (sp, eI D 100 (wr fs nl (eitP (facP (sgT tb ln) 0) (sgT tb ln) p).2.2))]) := by
  refine Sp.of (by decide) (Nat.le_of_ble_eq_true rfl) (fun X O T => ?_)
  refine v_eq (lv' := [(0, .ref txo), (1, .ref vg), (2, .int 4)]) rfl rfl rfl rfl ?_
  refine v_aload_n O dX7_either_0 0 rfl ?_
  refine v_aload_n O dX7_either_1 1 rfl ?_
  refine v_iload_n O dX7_either_2 2 rfl ?_
  refine v_cV (T := TX7) (ci := 7) (As := [.ref vg, .int 4]) (wr := []) (st := []) O cf_X7_81 rfl (sp_X7_both_0 (txo := txo) (tsg := tsg) (ln := ln) (tb := tb) (vg := vg) (sh := sh) (mo := mo) (ov := ov) (nr := nr) (io := io) (am := am) (en := en) (nl := nl) (sp := sp) (fs := fs) (p := p) (hln) (hp) (hnl)) dX7_either_3 rfl rfl 0 rfl [0, 1, 2, 3] [] (by decide) rfl rfl (by decide) (by decide) (by decide) (Nat.le_of_ble_eq_true rfl) (by decide) (by decide) (fun r_2 w_3 h_1 => ?_)
  obtain ⟨rfl, rfl⟩ := h_1
  refine v_eq (st' := [.int (b2i ((botP (facP (sgT tb ln) 0) (sgT tb ln) p).2.1 = true))]) (ws' := [(txo, .inr (7, [.ref tsg, .int (nI ln), .int (nI ((botP (facP (sgT tb ln) 0) (sgT tb ln) p).1)), .int ((sgT tb ln) ((botP (facP (sgT tb ln) 0) (sgT tb ln) p).1))])), (tsg, eB D 100 tb), (vg, .inr (6, [.int (nI sh), .int (nI mo), .int (nI ov), .int (nI nr), .ref io, .ref am, .ref en, .int (nI (nl + (botP (facP (sgT tb ln) 0) (sgT tb ln) p).2.2.length)), .ref sp])), (sp, eI D 100 (wr fs nl (botP (facP (sgT tb ln) 0) (sgT tb ln) p).2.2))]) rfl rfl rfl rfl ?_
  refine v_istore_n (lv' := [(0, .ref txo), (1, .ref vg), (2, .int 4), (3, .int (b2i ((botP (facP (sgT tb ln) 0) (sgT tb ln) p).2.1 = true)))]) O dX7_either_6 (by decide) rfl ?_
  refine v_iconst (v := 0) O dX7_either_7 (by decide) ?_
  refine v_istore (lv' := [(0, .ref txo), (1, .ref vg), (2, .int 4), (3, .int (b2i ((botP (facP (sgT tb ln) 0) (sgT tb ln) p).2.1 = true))), (4, .int 0)]) O dX7_either_8 (by decide) rfl ?_
  refine v_eq (lv' := [(0, .ref txo), (1, .ref vg), (2, .int 4), (3, .int (b2i ((botP (facP (sgT tb ln) 0) (sgT tb ln) p).2.1 = true))), (4, .int (nI 0))]) rfl rfl rfl rfl ?_
  exact l_X7_either_0 O hln hp hnl T 100 0 (by omega) ((botP (facP (sgT tb ln) 0) (sgT tb ln)) p) rfl (bot_ok (tb := tb) (fac_ok (tb := tb) (ln := ln) 0) p hp)
set_option maxRecDepth 100000 in
set_option maxHeartbeats 4000000 in
theorem sp_X7_nested_0 {D : G} {txo : Nat} {tsg : Nat} {ln : Nat} {tb : Nat → Int32} {vg : Nat} {sh : Nat} {mo : Nat} {ov : Nat} {nr : Nat} {io : Nat} {am : Nat} {en : Nat} {nl : Nat} {sp : Nat} {fs : Nat → Int32} {p : Nat} (hln : ln ≤ 100) (hp : p ≤ ln) (hnl : nl ≤ p) (hsg : (sgT tb ln) p = 40 ∨ (sgT tb ln) p = 33) : Sp D mX7_nested 8 0 0 [.ref txo, .ref vg, .int 4] [(txo, .inr (7, [.ref tsg, .int (nI ln), .int (nI p), .int ((sgT tb ln) p)])), (tsg, eB D 100 tb), (vg, .inr (6, [.int (nI sh), .int (nI mo), .int (nI ov), .int (nI nr), .ref io, .ref am, .ref en, .int (nI nl), .ref sp])), (sp, eI D 100 fs)] (fun r w => r = some (.int (b2i ((nesP (facP (sgT tb ln) 0) (sgT tb ln) p).2.1 = true))) ∧ w = [(txo, .inr (7, [.ref tsg, .int (nI ln), .int (nI ((nesP (facP (sgT tb ln) 0) (sgT tb ln) p).1)), .int ((sgT tb ln) ((nesP (facP (sgT tb ln) 0) (sgT tb ln) p).1))])), (tsg, eB D 100 tb), (vg, .inr (6, [.int (nI sh), .int (nI mo), .int (nI ov), .int (nI nr), .ref io, .ref am, .ref en, .int (nI (nl + (nesP (facP (sgT tb ln) 0) (sgT tb ln) p).2.2.length)), .ref sp])), (sp, eI D 100 (wr fs nl (nesP (facP (sgT tb ln) 0) (sgT tb ln) p).2.2))]) := by
  refine Sp.of (by decide) (Nat.le_of_ble_eq_true rfl) (fun X O T => ?_)
  refine v_eq (lv' := [(0, .ref txo), (1, .ref vg), (2, .int 4)]) rfl rfl rfl rfl ?_
  have z_p : p < ln := by rcases hsg with z | z <;> exact sgT_lt z (by decide)
  have z_g := fac_ok (tb := tb) (ln := ln) 0 (p + 1) z_p
  have z_e := eit_ok (tb := tb) (fac_ok (tb := tb) (ln := ln) 0) (p + 1) z_p
  refine v_aload_n O dX7_nested_0 0 rfl ?_
  refine gf_X7_22 O rfl dX7_nested_1 0 rfl rfl ?_
  refine v_bipush (v := 33) O dX7_nested_4 (by decide) ?_
  refine v_icmp_ne O 13 dX7_nested_6 (by decide) (fun z1 => ?_) (fun z1 => ?_)
  · skip
    refine v_iconst (v := 0) O dX7_nested_13 (by decide) ?_
    refine v_istore_n (lv' := [(0, .ref txo), (1, .ref vg), (2, .int 4), (3, .int 0)]) O dX7_nested_14 (by decide) rfl ?_
    refine v_aload_n O dX7_nested_15 0 rfl ?_
    refine v_aload_n O dX7_nested_16 0 rfl ?_
    refine gf_X7_19 O rfl dX7_nested_17 0 rfl rfl ?_
    refine v_iconst (v := 1) O dX7_nested_20 (by decide) ?_
    refine v_iadd O dX7_nested_21 ?_
    refine v_top (y := nI (p + 1)) (nI_add p 1) ?_
    refine v_cV (T := TX7) (ci := 7) (As := [.int (nI (p + 1))]) (wr := [(vg, .inr (6, [.int (nI sh), .int (nI mo), .int (nI ov), .int (nI nr), .ref io, .ref am, .ref en, .int (nI nl), .ref sp])), (sp, eI D 100 fs)]) (st := []) O cf_X7_30 rfl (sp_X7_goTo (txo := txo) (tsg := tsg) (ln := ln) (tb := tb) (pl := (nI p)) (si := ((sgT tb ln) p)) (q := (p + 1)) (hln) (by omega)) dX7_nested_22 rfl rfl 0 rfl [0, 1] [2, 3] (by decide) rfl rfl (by decide) (by decide) (by decide) (Nat.le_of_ble_eq_true rfl) (by decide) (by decide) (fun r_2 w_3 h_1 => ?_)
    obtain ⟨rfl, rfl⟩ := h_1
    refine v_eq (st' := []) (ws' := [(vg, .inr (6, [.int (nI sh), .int (nI mo), .int (nI ov), .int (nI nr), .ref io, .ref am, .ref en, .int (nI nl), .ref sp])), (sp, eI D 100 fs), (txo, .inr (7, [.ref tsg, .int (nI ln), .int (nI (p + 1)), .int ((sgT tb ln) (p + 1))])), (tsg, eB D 100 tb)]) rfl rfl rfl rfl ?_
    refine v_iload_n O dX7_nested_25 3 rfl ?_
    refine v_if_eq O 45 dX7_nested_26 (by decide) (fun _ => ?_) (fun c => absurd c (by decide))
    refine v_aload_n O dX7_nested_45 0 rfl ?_
    refine v_aload_n O dX7_nested_46 1 rfl ?_
    refine v_iload_n O dX7_nested_47 2 rfl ?_
    refine v_cV (T := TX7) (ci := 7) (As := [.ref vg, .int 4]) (wr := []) (st := []) O cf_X7_57 rfl (sp_X7_either_0 (txo := txo) (tsg := tsg) (ln := ln) (tb := tb) (vg := vg) (sh := sh) (mo := mo) (ov := ov) (nr := nr) (io := io) (am := am) (en := en) (nl := nl) (sp := sp) (fs := fs) (p := (p + 1)) (hln) (z_p) (by omega)) dX7_nested_48 rfl rfl 2 rfl [2, 3, 0, 1] [] (by decide) rfl rfl (by decide) (by decide) (by decide) (Nat.le_of_ble_eq_true rfl) (by decide) (by decide) (fun r_6 w_7 h_5 => ?_)
    obtain ⟨rfl, rfl⟩ := h_5
    refine v_eq (st' := [.int (b2i ((eitP (facP (sgT tb ln) 0) (sgT tb ln) (p + 1)).2.1 = true))]) (ws' := [(txo, .inr (7, [.ref tsg, .int (nI ln), .int (nI ((eitP (facP (sgT tb ln) 0) (sgT tb ln) (p + 1)).1)), .int ((sgT tb ln) ((eitP (facP (sgT tb ln) 0) (sgT tb ln) (p + 1)).1))])), (tsg, eB D 100 tb), (vg, .inr (6, [.int (nI sh), .int (nI mo), .int (nI ov), .int (nI nr), .ref io, .ref am, .ref en, .int (nI (nl + (eitP (facP (sgT tb ln) 0) (sgT tb ln) (p + 1)).2.2.length)), .ref sp])), (sp, eI D 100 (wr fs nl (eitP (facP (sgT tb ln) 0) (sgT tb ln) (p + 1)).2.2))]) rfl rfl rfl rfl ?_
    refine v_if_eq O 63 dX7_nested_51 (by decide) (fun z2 => ?_) (fun z2 => ?_)
    · skip
      have z2 := b2i_0.mp z2
      refine v_iconst (v := 0) O dX7_nested_63 (by decide) ?_
      exact v_ireturn O T rfl rfl (by decide) (by decide) dX7_nested_64 (⟨by unfold nesP; rw [if_neg z1, if_neg (fun z9 => absurd z9.1 z2)]; exact bF, by unfold nesP; rw [if_neg z1, if_neg (fun z9 => absurd z9.1 z2)]⟩)
    · skip
      have z2 := b2i_1.mp z2
      refine v_aload_n O dX7_nested_54 0 rfl ?_
      refine gf_X7_22 O rfl dX7_nested_55 0 rfl rfl ?_
      refine v_bipush (v := 41) O dX7_nested_58 (by decide) ?_
      refine v_icmp_eq O 65 dX7_nested_60 (by decide) (fun z3 => ?_) (fun z3 => ?_)
      · skip
        have z_q := sgT_lt z3 (by decide)
        refine v_aload_n O dX7_nested_65 0 rfl ?_
        refine v_aload_n O dX7_nested_66 0 rfl ?_
        refine gf_X7_19 O rfl dX7_nested_67 0 rfl rfl ?_
        refine v_iconst (v := 1) O dX7_nested_70 (by decide) ?_
        refine v_iadd O dX7_nested_71 ?_
        refine v_top (y := nI (((eitP (facP (sgT tb ln) 0) (sgT tb ln) (p + 1)).1) + 1)) (nI_add ((eitP (facP (sgT tb ln) 0) (sgT tb ln) (p + 1)).1) 1) ?_
        refine v_cV (T := TX7) (ci := 7) (As := [.int (nI (((eitP (facP (sgT tb ln) 0) (sgT tb ln) (p + 1)).1) + 1))]) (wr := [(vg, .inr (6, [.int (nI sh), .int (nI mo), .int (nI ov), .int (nI nr), .ref io, .ref am, .ref en, .int (nI (nl + (eitP (facP (sgT tb ln) 0) (sgT tb ln) (p + 1)).2.2.length)), .ref sp])), (sp, eI D 100 (wr fs nl (eitP (facP (sgT tb ln) 0) (sgT tb ln) (p + 1)).2.2))]) (st := []) O cf_X7_30 rfl (sp_X7_goTo (txo := txo) (tsg := tsg) (ln := ln) (tb := tb) (pl := (nI ((eitP (facP (sgT tb ln) 0) (sgT tb ln) (p + 1)).1))) (si := ((sgT tb ln) ((eitP (facP (sgT tb ln) 0) (sgT tb ln) (p + 1)).1))) (q := (((eitP (facP (sgT tb ln) 0) (sgT tb ln) (p + 1)).1) + 1)) (hln) (by omega)) dX7_nested_72 rfl rfl 0 rfl [0, 1] [2, 3] (by decide) rfl rfl (by decide) (by decide) (by decide) (Nat.le_of_ble_eq_true rfl) (by decide) (by decide) (fun r_9 w_10 h_8 => ?_)
        obtain ⟨rfl, rfl⟩ := h_8
        refine v_eq (st' := []) (ws' := [(vg, .inr (6, [.int (nI sh), .int (nI mo), .int (nI ov), .int (nI nr), .ref io, .ref am, .ref en, .int (nI (nl + (eitP (facP (sgT tb ln) 0) (sgT tb ln) (p + 1)).2.2.length)), .ref sp])), (sp, eI D 100 (wr fs nl (eitP (facP (sgT tb ln) 0) (sgT tb ln) (p + 1)).2.2)), (txo, .inr (7, [.ref tsg, .int (nI ln), .int (nI (((eitP (facP (sgT tb ln) 0) (sgT tb ln) (p + 1)).1) + 1)), .int ((sgT tb ln) (((eitP (facP (sgT tb ln) 0) (sgT tb ln) (p + 1)).1) + 1))])), (tsg, eB D 100 tb)]) rfl rfl rfl rfl ?_
        refine v_iconst (v := 1) O dX7_nested_75 (by decide) ?_
        refine v_sub (ws' := [(txo, .inr (7, [.ref tsg, .int (nI ln), .int (nI (((eitP (facP (sgT tb ln) 0) (sgT tb ln) (p + 1)).1) + 1)), .int ((sgT tb ln) (((eitP (facP (sgT tb ln) 0) (sgT tb ln) (p + 1)).1) + 1))])), (tsg, eB D 100 tb), (vg, .inr (6, [.int (nI sh), .int (nI mo), .int (nI ov), .int (nI nr), .ref io, .ref am, .ref en, .int (nI (nl + (eitP (facP (sgT tb ln) 0) (sgT tb ln) (p + 1)).2.2.length)), .ref sp])), (sp, eI D 100 (wr fs nl (eitP (facP (sgT tb ln) 0) (sgT tb ln) (p + 1)).2.2))]) [2, 3, 0, 1] (by decide) rfl ?_
        exact v_ireturn O T rfl rfl (by decide) (by decide) dX7_nested_76 (⟨by unfold nesP; rw [if_neg z1, if_pos ⟨z2, z3⟩]; exact bT, by unfold nesP; rw [if_neg z1, if_pos ⟨z2, z3⟩]⟩)
      · skip
        refine v_iconst (v := 0) O dX7_nested_63 (by decide) ?_
        exact v_ireturn O T rfl rfl (by decide) (by decide) dX7_nested_64 (⟨by unfold nesP; rw [if_neg z1, if_neg (fun z9 => absurd z9.2 z3)]; exact bF, by unfold nesP; rw [if_neg z1, if_neg (fun z9 => absurd z9.2 z3)]⟩)
  · skip
    refine v_iconst (v := 1) O dX7_nested_9 (by decide) ?_
    refine v_goto O 14 dX7_nested_10 (by decide) ?_
    refine v_istore_n (lv' := [(0, .ref txo), (1, .ref vg), (2, .int 4), (3, .int 1)]) O dX7_nested_14 (by decide) rfl ?_
    refine v_aload_n O dX7_nested_15 0 rfl ?_
    refine v_aload_n O dX7_nested_16 0 rfl ?_
    refine gf_X7_19 O rfl dX7_nested_17 0 rfl rfl ?_
    refine v_iconst (v := 1) O dX7_nested_20 (by decide) ?_
    refine v_iadd O dX7_nested_21 ?_
    refine v_top (y := nI (p + 1)) (nI_add p 1) ?_
    refine v_cV (T := TX7) (ci := 7) (As := [.int (nI (p + 1))]) (wr := [(vg, .inr (6, [.int (nI sh), .int (nI mo), .int (nI ov), .int (nI nr), .ref io, .ref am, .ref en, .int (nI nl), .ref sp])), (sp, eI D 100 fs)]) (st := []) O cf_X7_30 rfl (sp_X7_goTo (txo := txo) (tsg := tsg) (ln := ln) (tb := tb) (pl := (nI p)) (si := ((sgT tb ln) p)) (q := (p + 1)) (hln) (by omega)) dX7_nested_22 rfl rfl 0 rfl [0, 1] [2, 3] (by decide) rfl rfl (by decide) (by decide) (by decide) (Nat.le_of_ble_eq_true rfl) (by decide) (by decide) (fun r_12 w_13 h_11 => ?_)
    obtain ⟨rfl, rfl⟩ := h_11
    refine v_eq (st' := []) (ws' := [(vg, .inr (6, [.int (nI sh), .int (nI mo), .int (nI ov), .int (nI nr), .ref io, .ref am, .ref en, .int (nI nl), .ref sp])), (sp, eI D 100 fs), (txo, .inr (7, [.ref tsg, .int (nI ln), .int (nI (p + 1)), .int ((sgT tb ln) (p + 1))])), (tsg, eB D 100 tb)]) rfl rfl rfl rfl ?_
    refine v_iload_n O dX7_nested_25 3 rfl ?_
    refine v_if_eq O 45 dX7_nested_26 (by decide) (fun c => absurd c (by decide)) (fun _ => ?_)
    refine v_aload_n O dX7_nested_29 0 rfl ?_
    refine v_aload_n O dX7_nested_30 1 rfl ?_
    refine v_iload_n O dX7_nested_31 2 rfl ?_
    refine v_cV (T := TX7) (ci := 7) (As := [.ref vg, .int 4]) (wr := []) (st := []) O cf_X7_87 rfl (sp_X7_factor_0 (txo := txo) (tsg := tsg) (ln := ln) (tb := tb) (vg := vg) (sh := sh) (mo := mo) (ov := ov) (nr := nr) (io := io) (am := am) (en := en) (nl := nl) (sp := sp) (fs := fs) (p := (p + 1)) (hln) (z_p) (by omega)) dX7_nested_32 rfl rfl 2 rfl [2, 3, 0, 1] [] (by decide) rfl rfl (by decide) (by decide) (by decide) (Nat.le_of_ble_eq_true rfl) (by decide) (by decide) (fun r_16 w_17 h_15 => ?_)
    obtain ⟨rfl, rfl⟩ := h_15
    refine v_eq (st' := [.int (b2i ((facP (sgT tb ln) 0 (p + 1)).2.1 = true))]) (ws' := [(txo, .inr (7, [.ref tsg, .int (nI ln), .int (nI ((facP (sgT tb ln) 0 (p + 1)).1)), .int ((sgT tb ln) ((facP (sgT tb ln) 0 (p + 1)).1))])), (tsg, eB D 100 tb), (vg, .inr (6, [.int (nI sh), .int (nI mo), .int (nI ov), .int (nI nr), .ref io, .ref am, .ref en, .int (nI (nl + (facP (sgT tb ln) 0 (p + 1)).2.2.length)), .ref sp])), (sp, eI D 100 (wr fs nl (facP (sgT tb ln) 0 (p + 1)).2.2))]) rfl rfl rfl rfl ?_
    refine v_istore (lv' := [(0, .ref txo), (1, .ref vg), (2, .int 4), (3, .int 1), (4, .int (b2i ((facP (sgT tb ln) 0 (p + 1)).2.1 = true)))]) O dX7_nested_35 (by decide) rfl ?_
    refine v_aload_n O dX7_nested_37 1 rfl ?_
    refine v_iconst (v := -1) O dX7_nested_38 (by decide) ?_
    refine v_cV (T := TX6) (ci := 6) (As := [.int (-1)]) (wr := [(txo, .inr (7, [.ref tsg, .int (nI ln), .int (nI ((facP (sgT tb ln) 0 (p + 1)).1)), .int ((sgT tb ln) ((facP (sgT tb ln) 0 (p + 1)).1))])), (tsg, eB D 100 tb)]) (st := []) O cf_X7_84 rfl (sp_X6_addStep (vg := vg) (sh := sh) (mo := mo) (ov := ov) (nr := nr) (io := io) (am := am) (en := en) (nl := (nl + (facP (sgT tb ln) 0 (p + 1)).2.2.length)) (sp := sp) (fs := (wr fs nl (facP (sgT tb ln) 0 (p + 1)).2.2)) (b := (-1)) (by omega)) dX7_nested_39 rfl rfl 2 rfl [2, 3] [0, 1] (by decide) rfl rfl (by decide) (by decide) (by decide) (Nat.le_of_ble_eq_true rfl) (by decide) (by decide) (fun r_19 w_20 h_18 => ?_)
    obtain ⟨rfl, rfl⟩ := h_18
    refine v_eq (st' := []) (ws' := [(txo, .inr (7, [.ref tsg, .int (nI ln), .int (nI ((facP (sgT tb ln) 0 (p + 1)).1)), .int ((sgT tb ln) ((facP (sgT tb ln) 0 (p + 1)).1))])), (tsg, eB D 100 tb), (vg, .inr (6, [.int (nI sh), .int (nI mo), .int (nI ov), .int (nI nr), .ref io, .ref am, .ref en, .int (nI ((nl + (facP (sgT tb ln) 0 (p + 1)).2.2.length) + 1)), .ref sp])), (sp, eI D 100 (upd (wr fs nl (facP (sgT tb ln) 0 (p + 1)).2.2) (nl + (facP (sgT tb ln) 0 (p + 1)).2.2.length) (-1)))]) rfl rfl rfl rfl ?_
    refine v_eq (ws' := [(txo, .inr (7, [.ref tsg, .int (nI ln), .int (nI ((facP (sgT tb ln) 0 (p + 1)).1)), .int ((sgT tb ln) ((facP (sgT tb ln) 0 (p + 1)).1))])), (tsg, eB D 100 tb), (vg, .inr (6, [.int (nI sh), .int (nI mo), .int (nI ov), .int (nI nr), .ref io, .ref am, .ref en, .int (nI (nl + (((facP (sgT tb ln) 0) (p + 1)).2.2 ++ [-1]).length)), .ref sp])), (sp, eI D 100 (wr fs nl (((facP (sgT tb ln) 0) (p + 1)).2.2 ++ [-1])))]) rfl rfl rfl (by rw [wr_2, wl_2]) ?_
    refine v_iload O dX7_nested_42 4 rfl ?_
    exact v_ireturn O T rfl (nrb _) (by decide) (by decide) dX7_nested_44 (⟨by unfold nesP; rw [if_pos z1], by unfold nesP; rw [if_pos z1]⟩)
set_option maxRecDepth 100000 in
set_option maxHeartbeats 4000000 in
theorem sp_X7_factor_1 {D : G} {txo : Nat} {tsg : Nat} {ln : Nat} {tb : Nat → Int32} {vg : Nat} {sh : Nat} {mo : Nat} {ov : Nat} {nr : Nat} {io : Nat} {am : Nat} {en : Nat} {nl : Nat} {sp : Nat} {fs : Nat → Int32} {p : Nat} (hln : ln ≤ 100) (hp : p ≤ ln) (hnl : nl ≤ p) : Sp D mX7_factor 9 0 0 [.ref txo, .ref vg, .int 3] [(txo, .inr (7, [.ref tsg, .int (nI ln), .int (nI p), .int ((sgT tb ln) p)])), (tsg, eB D 100 tb), (vg, .inr (6, [.int (nI sh), .int (nI mo), .int (nI ov), .int (nI nr), .ref io, .ref am, .ref en, .int (nI nl), .ref sp])), (sp, eI D 100 fs)] (fun r w => r = some (.int (b2i ((facP (sgT tb ln) 1 p).2.1 = true))) ∧ w = [(txo, .inr (7, [.ref tsg, .int (nI ln), .int (nI ((facP (sgT tb ln) 1 p).1)), .int ((sgT tb ln) ((facP (sgT tb ln) 1 p).1))])), (tsg, eB D 100 tb), (vg, .inr (6, [.int (nI sh), .int (nI mo), .int (nI ov), .int (nI nr), .ref io, .ref am, .ref en, .int (nI (nl + (facP (sgT tb ln) 1 p).2.2.length)), .ref sp])), (sp, eI D 100 (wr fs nl (facP (sgT tb ln) 1 p).2.2))]) := by
  refine Sp.of (by decide) (Nat.le_of_ble_eq_true rfl) (fun X O T => ?_)
  refine v_eq (lv' := [(0, .ref txo), (1, .ref vg), (2, .int 3)]) rfl rfl rfl rfl ?_
  refine v_aload_n O dX7_factor_0 0 rfl ?_
  refine gf_X7_22 O rfl dX7_factor_1 0 rfl rfl ?_
  refine v_bipush (v := 40) O dX7_factor_4 (by decide) ?_
  refine v_icmp_eq O 18 dX7_factor_6 (by decide) (fun z1 => ?_) (fun z1 => ?_)
  · skip
    have z_n : (sgT tb ln) p = 40 ∨ (sgT tb ln) p = 33 := Or.inl z1
    refine v_iload_n O dX7_factor_18 2 rfl ?_
    refine v_iconst (v := 4) O dX7_factor_19 (by decide) ?_
    refine v_icmp_ge O 38 dX7_factor_20 (by decide) (fun c => absurd c (by decide)) (fun _ => ?_)
    refine v_aload_n O dX7_factor_23 0 rfl ?_
    refine v_aload_n O dX7_factor_24 1 rfl ?_
    refine v_iload_n O dX7_factor_25 2 rfl ?_
    refine v_iconst (v := 1) O dX7_factor_26 (by decide) ?_
    refine v_iadd O dX7_factor_27 ?_
    refine v_top (y := nI 4) rfl ?_
    refine v_cV (T := TX7) (ci := 7) (As := [.ref vg, .int (nI 4)]) (wr := []) (st := []) O cf_X7_90 rfl (sp_X7_nested_0 (txo := txo) (tsg := tsg) (ln := ln) (tb := tb) (vg := vg) (sh := sh) (mo := mo) (ov := ov) (nr := nr) (io := io) (am := am) (en := en) (nl := nl) (sp := sp) (fs := fs) (p := p) (hln) (hp) (hnl) (z_n)) dX7_factor_28 rfl rfl 0 rfl [0, 1, 2, 3] [] (by decide) rfl rfl (by decide) (by decide) (by decide) (Nat.le_of_ble_eq_true rfl) (by decide) (by decide) (fun r_3 w_4 h_2 => ?_)
    obtain ⟨rfl, rfl⟩ := h_2
    refine v_eq (st' := [.int (b2i ((nesP (facP (sgT tb ln) 0) (sgT tb ln) p).2.1 = true))]) (ws' := [(txo, .inr (7, [.ref tsg, .int (nI ln), .int (nI ((nesP (facP (sgT tb ln) 0) (sgT tb ln) p).1)), .int ((sgT tb ln) ((nesP (facP (sgT tb ln) 0) (sgT tb ln) p).1))])), (tsg, eB D 100 tb), (vg, .inr (6, [.int (nI sh), .int (nI mo), .int (nI ov), .int (nI nr), .ref io, .ref am, .ref en, .int (nI (nl + (nesP (facP (sgT tb ln) 0) (sgT tb ln) p).2.2.length)), .ref sp])), (sp, eI D 100 (wr fs nl (nesP (facP (sgT tb ln) 0) (sgT tb ln) p).2.2))]) rfl rfl rfl rfl ?_
    refine v_if_eq O 38 dX7_factor_31 (by decide) (fun z4 => ?_) (fun z4 => ?_)
    · skip
      have z4 := b2i_0.mp z4
      refine v_iconst (v := 0) O dX7_factor_38 (by decide) ?_
      exact v_ireturn O T rfl rfl (by decide) (by decide) dX7_factor_39 (⟨by rw [facP_n (f := 0) z_n, b2i_f z4], by rw [facP_n (f := 0) z_n]⟩)
    · skip
      have z4 := b2i_1.mp z4
      refine v_iconst (v := 1) O dX7_factor_34 (by decide) ?_
      refine v_goto O 39 dX7_factor_35 (by decide) ?_
      exact v_ireturn O T rfl rfl (by decide) (by decide) dX7_factor_39 (⟨by rw [facP_n (f := 0) z_n, b2i_t z4], by rw [facP_n (f := 0) z_n]⟩)
  · skip
    refine v_aload_n O dX7_factor_9 0 rfl ?_
    refine gf_X7_22 O rfl dX7_factor_10 0 rfl rfl ?_
    refine v_bipush (v := 33) O dX7_factor_13 (by decide) ?_
    refine v_icmp_ne O 40 dX7_factor_15 (by decide) (fun z2 => ?_) (fun z2 => ?_)
    · skip
      have z_t : ¬ ((sgT tb ln) p = 40 ∨ (sgT tb ln) p = 33) := fun z9 => z9.elim z1 z2
      refine v_ldcS O 5 (by decide) rfl dX7_factor_40 ?_
      refine v_aload_n O dX7_factor_42 0 rfl ?_
      refine gf_X7_22 O rfl dX7_factor_43 0 rfl rfl ?_
      refine v_cS (As := [.ref (D.2.2 (10 + 5)), .int ((sgT tb ln) p)]) (wr := [(txo, .inr (7, [.ref tsg, .int (nI ln), .int (nI p), .int ((sgT tb ln) p)])), (tsg, eB D 100 tb), (vg, .inr (6, [.int (nI sh), .int (nI mo), .int (nI ov), .int (nI nr), .ref io, .ref am, .ref en, .int (nI nl), .ref sp])), (sp, eI D 100 fs)]) (st := []) O cf_X7_95 (sp_X7_indexIn_5 (x := ((sgT tb ln) p)) ) dX7_factor_46 rfl rfl [] [0, 1, 2, 3] (by decide) rfl rfl (by decide) (by decide) (by decide) (Nat.le_of_ble_eq_true rfl) (by decide) (by decide) (fun r_6 w_7 h_5 => ?_)
      obtain ⟨rfl, rfl⟩ := h_5
      refine v_eq (st' := [.int (ixL ((sgT tb ln) p))]) (ws' := [(txo, .inr (7, [.ref tsg, .int (nI ln), .int (nI p), .int ((sgT tb ln) p)])), (tsg, eB D 100 tb), (vg, .inr (6, [.int (nI sh), .int (nI mo), .int (nI ov), .int (nI nr), .ref io, .ref am, .ref en, .int (nI nl), .ref sp])), (sp, eI D 100 fs)]) rfl rfl rfl rfl ?_
      refine v_istore_n (lv' := [(0, .ref txo), (1, .ref vg), (2, .int 3), (3, .int (ixL ((sgT tb ln) p)))]) O dX7_factor_49 (by decide) rfl ?_
      refine v_iload_n O dX7_factor_50 3 rfl ?_
      refine v_if_ge O 56 dX7_factor_51 (by decide) (fun z5 => ?_) (fun z5 => ?_)
      · skip
        have z5 := Int32.not_lt.mpr z5
        refine v_aload_n O dX7_factor_56 0 rfl ?_
        refine v_aload_n O dX7_factor_57 0 rfl ?_
        refine gf_X7_19 O rfl dX7_factor_58 0 rfl rfl ?_
        refine v_iconst (v := 1) O dX7_factor_61 (by decide) ?_
        refine v_iadd O dX7_factor_62 ?_
        refine v_top (y := nI (p + 1)) (nI_add p 1) ?_
        refine v_cV (T := TX7) (ci := 7) (As := [.int (nI (p + 1))]) (wr := [(vg, .inr (6, [.int (nI sh), .int (nI mo), .int (nI ov), .int (nI nr), .ref io, .ref am, .ref en, .int (nI nl), .ref sp])), (sp, eI D 100 fs)]) (st := []) O cf_X7_30 rfl (sp_X7_goTo (txo := txo) (tsg := tsg) (ln := ln) (tb := tb) (pl := (nI p)) (si := ((sgT tb ln) p)) (q := (p + 1)) (hln) (by omega)) dX7_factor_63 rfl rfl 0 rfl [0, 1] [2, 3] (by decide) rfl rfl (by decide) (by decide) (by decide) (Nat.le_of_ble_eq_true rfl) (by decide) (by decide) (fun r_9 w_10 h_8 => ?_)
        obtain ⟨rfl, rfl⟩ := h_8
        refine v_eq (st' := []) (ws' := [(vg, .inr (6, [.int (nI sh), .int (nI mo), .int (nI ov), .int (nI nr), .ref io, .ref am, .ref en, .int (nI nl), .ref sp])), (sp, eI D 100 fs), (txo, .inr (7, [.ref tsg, .int (nI ln), .int (nI (p + 1)), .int ((sgT tb ln) (p + 1))])), (tsg, eB D 100 tb)]) rfl rfl rfl rfl ?_
        refine v_ldcS O 6 (by decide) rfl dX7_factor_66 ?_
        refine v_aload_n O dX7_factor_68 0 rfl ?_
        refine gf_X7_22 O rfl dX7_factor_69 2 rfl rfl ?_
        refine v_cS (As := [.ref (D.2.2 (10 + 6)), .int ((sgT tb ln) (p + 1))]) (wr := [(vg, .inr (6, [.int (nI sh), .int (nI mo), .int (nI ov), .int (nI nr), .ref io, .ref am, .ref en, .int (nI nl), .ref sp])), (sp, eI D 100 fs), (txo, .inr (7, [.ref tsg, .int (nI ln), .int (nI (p + 1)), .int ((sgT tb ln) (p + 1))])), (tsg, eB D 100 tb)]) (st := []) O cf_X7_95 (sp_X7_indexIn_6 (x := ((sgT tb ln) (p + 1))) ) dX7_factor_72 rfl rfl [] [0, 1, 2, 3] (by decide) rfl rfl (by decide) (by decide) (by decide) (Nat.le_of_ble_eq_true rfl) (by decide) (by decide) (fun r_12 w_13 h_11 => ?_)
        obtain ⟨rfl, rfl⟩ := h_11
        refine v_eq (st' := [.int (ixR ((sgT tb ln) (p + 1)))]) (ws' := [(vg, .inr (6, [.int (nI sh), .int (nI mo), .int (nI ov), .int (nI nr), .ref io, .ref am, .ref en, .int (nI nl), .ref sp])), (sp, eI D 100 fs), (txo, .inr (7, [.ref tsg, .int (nI ln), .int (nI (p + 1)), .int ((sgT tb ln) (p + 1))])), (tsg, eB D 100 tb)]) rfl rfl rfl rfl ?_
        refine v_istore (lv' := [(0, .ref txo), (1, .ref vg), (2, .int 3), (3, .int (ixL ((sgT tb ln) p))), (4, .int (ixR ((sgT tb ln) (p + 1))))]) O dX7_factor_75 (by decide) rfl ?_
        refine v_iload O dX7_factor_77 4 rfl ?_
        refine v_if_ge O 84 dX7_factor_79 (by decide) (fun z6 => ?_) (fun z6 => ?_)
        · skip
          have z6 := Int32.not_lt.mpr z6
          refine v_aload_n O dX7_factor_84 0 rfl ?_
          refine v_aload_n O dX7_factor_85 0 rfl ?_
          refine gf_X7_19 O rfl dX7_factor_86 2 rfl rfl ?_
          refine v_iconst (v := 1) O dX7_factor_89 (by decide) ?_
          refine v_iadd O dX7_factor_90 ?_
          refine v_top (y := nI ((p + 1) + 1)) (nI_add (p + 1) 1) ?_
          refine v_cV (T := TX7) (ci := 7) (As := [.int (nI ((p + 1) + 1))]) (wr := [(vg, .inr (6, [.int (nI sh), .int (nI mo), .int (nI ov), .int (nI nr), .ref io, .ref am, .ref en, .int (nI nl), .ref sp])), (sp, eI D 100 fs)]) (st := []) O cf_X7_30 rfl (sp_X7_goTo (txo := txo) (tsg := tsg) (ln := ln) (tb := tb) (pl := (nI (p + 1))) (si := ((sgT tb ln) (p + 1))) (q := ((p + 1) + 1)) (hln) (by omega)) dX7_factor_91 rfl rfl 2 rfl [2, 3] [0, 1] (by decide) rfl rfl (by decide) (by decide) (by decide) (Nat.le_of_ble_eq_true rfl) (by decide) (by decide) (fun r_15 w_16 h_14 => ?_)
          obtain ⟨rfl, rfl⟩ := h_14
          refine v_eq (st' := []) (ws' := [(vg, .inr (6, [.int (nI sh), .int (nI mo), .int (nI ov), .int (nI nr), .ref io, .ref am, .ref en, .int (nI nl), .ref sp])), (sp, eI D 100 fs), (txo, .inr (7, [.ref tsg, .int (nI ln), .int (nI ((p + 1) + 1)), .int ((sgT tb ln) ((p + 1) + 1))])), (tsg, eB D 100 tb)]) rfl rfl rfl rfl ?_
          refine v_aload_n O dX7_factor_94 0 rfl ?_
          by_cases z7 : isd ((sgT tb ln) (p + 1 + 1))
          · skip
            refine v_cV (T := TX7) (ci := 7) (As := []) (wr := [(vg, .inr (6, [.int (nI sh), .int (nI mo), .int (nI ov), .int (nI nr), .ref io, .ref am, .ref en, .int (nI nl), .ref sp])), (sp, eI D 100 fs)]) (st := []) O cf_X7_42 rfl (sp_X7_number_t (txo := txo) (tsg := tsg) (ln := ln) (tb := tb) (p := ((p + 1) + 1)) (hln) (z7)) dX7_factor_95 rfl rfl 2 rfl [2, 3] [0, 1] (by decide) rfl rfl (by decide) (by decide) (by decide) (Nat.le_of_ble_eq_true rfl) (by decide) (by decide) (fun r_17 w_18 h_nt => ?_)
            obtain ⟨rfl, rfl⟩ := h_nt
            refine v_eq (st' := [.int (nI (numN (sgT tb ln) ((p + 1) + 1)))]) (ws' := [(vg, .inr (6, [.int (nI sh), .int (nI mo), .int (nI ov), .int (nI nr), .ref io, .ref am, .ref en, .int (nI nl), .ref sp])), (sp, eI D 100 fs), (txo, .inr (7, [.ref tsg, .int (nI ln), .int (nI (numE (sgT tb ln) ((p + 1) + 1))), .int ((sgT tb ln) (numE (sgT tb ln) ((p + 1) + 1)))])), (tsg, eB D 100 tb)]) rfl rfl rfl rfl ?_
            refine v_istore (lv' := [(0, .ref txo), (1, .ref vg), (2, .int 3), (3, .int (ixL ((sgT tb ln) p))), (4, .int (ixR ((sgT tb ln) (p + 1)))), (5, .int (nI (numN (sgT tb ln) ((p + 1) + 1))))]) O dX7_factor_98 (by decide) rfl ?_
            refine v_iload O dX7_factor_100 5 rfl ?_
            have z_le := numN_le z7
            refine v_if_ge O 107 dX7_factor_102 (by decide) (fun _ => ?_) (fun c => absurd (Int32.not_lt.mp (nI_pos (by omega))) c)
            refine v_aload_n O dX7_factor_107 1 rfl ?_
            refine v_iload_n O dX7_factor_108 3 rfl ?_
            refine v_iconst (v := 3) O dX7_factor_109 (by decide) ?_
            refine v_imul O dX7_factor_110 ?_
            refine v_iload O dX7_factor_111 4 rfl ?_
            refine v_iadd O dX7_factor_113 ?_
            refine v_bipush (v := 100) O dX7_factor_114 (by decide) ?_
            refine v_imul O dX7_factor_116 ?_
            refine v_iload O dX7_factor_117 5 rfl ?_
            refine v_iadd O dX7_factor_119 ?_
            refine v_cV (T := TX6) (ci := 6) (As := [.int (((((ixL ((sgT tb ln) p)) * 3) + (ixR ((sgT tb ln) (p + 1)))) * 100) + (nI (numN (sgT tb ln) ((p + 1) + 1))))]) (wr := [(txo, .inr (7, [.ref tsg, .int (nI ln), .int (nI (numE (sgT tb ln) ((p + 1) + 1))), .int ((sgT tb ln) (numE (sgT tb ln) ((p + 1) + 1)))])), (tsg, eB D 100 tb)]) (st := []) O cf_X7_84 rfl (sp_X6_addStep (vg := vg) (sh := sh) (mo := mo) (ov := ov) (nr := nr) (io := io) (am := am) (en := en) (nl := nl) (sp := sp) (fs := fs) (b := (((((ixL ((sgT tb ln) p)) * 3) + (ixR ((sgT tb ln) (p + 1)))) * 100) + (nI (numN (sgT tb ln) ((p + 1) + 1))))) (by have := isd_lt z7; omega)) dX7_factor_120 rfl rfl 0 rfl [0, 1] [2, 3] (by decide) rfl rfl (by decide) (by decide) (by decide) (Nat.le_of_ble_eq_true rfl) (by decide) (by decide) (fun r_20 w_21 h_19 => ?_)
            obtain ⟨rfl, rfl⟩ := h_19
            refine v_eq (st' := []) (ws' := [(txo, .inr (7, [.ref tsg, .int (nI ln), .int (nI (numE (sgT tb ln) ((p + 1) + 1))), .int ((sgT tb ln) (numE (sgT tb ln) ((p + 1) + 1)))])), (tsg, eB D 100 tb), (vg, .inr (6, [.int (nI sh), .int (nI mo), .int (nI ov), .int (nI nr), .ref io, .ref am, .ref en, .int (nI (nl + 1)), .ref sp])), (sp, eI D 100 (upd fs nl (((((ixL ((sgT tb ln) p)) * 3) + (ixR ((sgT tb ln) (p + 1)))) * 100) + (nI (numN (sgT tb ln) ((p + 1) + 1))))))]) rfl rfl rfl rfl ?_
            refine v_iconst (v := 1) O dX7_factor_123 (by decide) ?_
            exact v_ireturn O T rfl rfl (by decide) (by decide) dX7_factor_124 (⟨by rw [facP_t z_t]; unfold tstP; rw [if_neg z5, if_neg z6, if_pos z7]; exact bT, by rw [facP_t z_t]; unfold tstP; rw [if_neg z5, if_neg z6, if_pos z7]; rfl⟩)
          · skip
            refine v_cV (T := TX7) (ci := 7) (As := []) (wr := [(vg, .inr (6, [.int (nI sh), .int (nI mo), .int (nI ov), .int (nI nr), .ref io, .ref am, .ref en, .int (nI nl), .ref sp])), (sp, eI D 100 fs)]) (st := []) O cf_X7_42 rfl (sp_X7_number_f (txo := txo) (tsg := tsg) (ln := ln) (tb := tb) (p := ((p + 1) + 1)) (z7)) dX7_factor_95 rfl rfl 2 rfl [2, 3] [0, 1] (by decide) rfl rfl (by decide) (by decide) (by decide) (Nat.le_of_ble_eq_true rfl) (by decide) (by decide) (fun r_22 w_23 h_nf => ?_)
            obtain ⟨rfl, rfl⟩ := h_nf
            refine v_eq (st' := [.int (-1)]) (ws' := [(vg, .inr (6, [.int (nI sh), .int (nI mo), .int (nI ov), .int (nI nr), .ref io, .ref am, .ref en, .int (nI nl), .ref sp])), (sp, eI D 100 fs), (txo, .inr (7, [.ref tsg, .int (nI ln), .int (nI ((p + 1) + 1)), .int ((sgT tb ln) ((p + 1) + 1))])), (tsg, eB D 100 tb)]) rfl rfl rfl rfl ?_
            refine v_istore (lv' := [(0, .ref txo), (1, .ref vg), (2, .int 3), (3, .int (ixL ((sgT tb ln) p))), (4, .int (ixR ((sgT tb ln) (p + 1)))), (5, .int (-1))]) O dX7_factor_98 (by decide) rfl ?_
            refine v_iload O dX7_factor_100 5 rfl ?_
            refine v_if_ge O 107 dX7_factor_102 (by decide) (fun c => absurd c (by decide)) (fun _ => ?_)
            refine v_iconst (v := 0) O dX7_factor_105 (by decide) ?_
            refine v_sub (ws' := [(txo, .inr (7, [.ref tsg, .int (nI ln), .int (nI ((p + 1) + 1)), .int ((sgT tb ln) ((p + 1) + 1))])), (tsg, eB D 100 tb), (vg, .inr (6, [.int (nI sh), .int (nI mo), .int (nI ov), .int (nI nr), .ref io, .ref am, .ref en, .int (nI nl), .ref sp])), (sp, eI D 100 fs)]) [2, 3, 0, 1] (by decide) rfl ?_
            exact v_ireturn O T rfl rfl (by decide) (by decide) dX7_factor_106 (⟨by rw [facP_t z_t]; unfold tstP; rw [if_neg z5, if_neg z6, if_neg z7]; exact bF, by rw [facP_t z_t]; unfold tstP; rw [if_neg z5, if_neg z6, if_neg z7]; rfl⟩)
        · skip
          have z6 := Int32.not_le.mp z6
          refine v_iconst (v := 0) O dX7_factor_82 (by decide) ?_
          refine v_sub (ws' := [(txo, .inr (7, [.ref tsg, .int (nI ln), .int (nI (p + 1)), .int ((sgT tb ln) (p + 1))])), (tsg, eB D 100 tb), (vg, .inr (6, [.int (nI sh), .int (nI mo), .int (nI ov), .int (nI nr), .ref io, .ref am, .ref en, .int (nI nl), .ref sp])), (sp, eI D 100 fs)]) [2, 3, 0, 1] (by decide) rfl ?_
          exact v_ireturn O T rfl rfl (by decide) (by decide) dX7_factor_83 (⟨by rw [facP_t z_t]; unfold tstP; rw [if_neg z5, if_pos z6]; exact bF, by rw [facP_t z_t]; unfold tstP; rw [if_neg z5, if_pos z6]; rfl⟩)
      · skip
        have z5 := Int32.not_le.mp z5
        have z5 : ixL ((sgT tb ln) p) < 0 := z5
        refine v_iconst (v := 0) O dX7_factor_54 (by decide) ?_
        exact v_ireturn O T rfl rfl (by decide) (by decide) dX7_factor_55 (⟨by rw [facP_t z_t]; unfold tstP; rw [if_pos z5]; exact bF, by rw [facP_t z_t]; unfold tstP; rw [if_pos z5]; rfl⟩)
    · skip
      have z_n : (sgT tb ln) p = 40 ∨ (sgT tb ln) p = 33 := Or.inr z2
      refine v_iload_n O dX7_factor_18 2 rfl ?_
      refine v_iconst (v := 4) O dX7_factor_19 (by decide) ?_
      refine v_icmp_ge O 38 dX7_factor_20 (by decide) (fun c => absurd c (by decide)) (fun _ => ?_)
      refine v_aload_n O dX7_factor_23 0 rfl ?_
      refine v_aload_n O dX7_factor_24 1 rfl ?_
      refine v_iload_n O dX7_factor_25 2 rfl ?_
      refine v_iconst (v := 1) O dX7_factor_26 (by decide) ?_
      refine v_iadd O dX7_factor_27 ?_
      refine v_top (y := nI 4) rfl ?_
      refine v_cV (T := TX7) (ci := 7) (As := [.ref vg, .int (nI 4)]) (wr := []) (st := []) O cf_X7_90 rfl (sp_X7_nested_0 (txo := txo) (tsg := tsg) (ln := ln) (tb := tb) (vg := vg) (sh := sh) (mo := mo) (ov := ov) (nr := nr) (io := io) (am := am) (en := en) (nl := nl) (sp := sp) (fs := fs) (p := p) (hln) (hp) (hnl) (z_n)) dX7_factor_28 rfl rfl 0 rfl [0, 1, 2, 3] [] (by decide) rfl rfl (by decide) (by decide) (by decide) (Nat.le_of_ble_eq_true rfl) (by decide) (by decide) (fun r_26 w_27 h_25 => ?_)
      obtain ⟨rfl, rfl⟩ := h_25
      refine v_eq (st' := [.int (b2i ((nesP (facP (sgT tb ln) 0) (sgT tb ln) p).2.1 = true))]) (ws' := [(txo, .inr (7, [.ref tsg, .int (nI ln), .int (nI ((nesP (facP (sgT tb ln) 0) (sgT tb ln) p).1)), .int ((sgT tb ln) ((nesP (facP (sgT tb ln) 0) (sgT tb ln) p).1))])), (tsg, eB D 100 tb), (vg, .inr (6, [.int (nI sh), .int (nI mo), .int (nI ov), .int (nI nr), .ref io, .ref am, .ref en, .int (nI (nl + (nesP (facP (sgT tb ln) 0) (sgT tb ln) p).2.2.length)), .ref sp])), (sp, eI D 100 (wr fs nl (nesP (facP (sgT tb ln) 0) (sgT tb ln) p).2.2))]) rfl rfl rfl rfl ?_
      refine v_if_eq O 38 dX7_factor_31 (by decide) (fun z4 => ?_) (fun z4 => ?_)
      · skip
        have z4 := b2i_0.mp z4
        refine v_iconst (v := 0) O dX7_factor_38 (by decide) ?_
        exact v_ireturn O T rfl rfl (by decide) (by decide) dX7_factor_39 (⟨by rw [facP_n (f := 0) z_n, b2i_f z4], by rw [facP_n (f := 0) z_n]⟩)
      · skip
        have z4 := b2i_1.mp z4
        refine v_iconst (v := 1) O dX7_factor_34 (by decide) ?_
        refine v_goto O 39 dX7_factor_35 (by decide) ?_
        exact v_ireturn O T rfl rfl (by decide) (by decide) dX7_factor_39 (⟨by rw [facP_n (f := 0) z_n, b2i_t z4], by rw [facP_n (f := 0) z_n]⟩)
set_option maxRecDepth 100000 in
set_option maxHeartbeats 4000000 in
theorem l_X7_both_1 {D : G} {X : CX} {txo : Nat} {tsg : Nat} {ln : Nat} {tb : Nat → Int32} {vg : Nat} {sh : Nat} {mo : Nat} {ov : Nat} {nr : Nat} {io : Nat} {am : Nat} {en : Nat} {nl : Nat} {sp : Nat} {fs : Nat → Int32} {p : Nat} (O : Ok D X mX7_both 10 0 0) (hln : ln ≤ 100) (hp : p ≤ ln) (hnl : nl ≤ p) (T : Rt D X (fun r w => r = some (.int (b2i ((botP (facP (sgT tb ln) 1) (sgT tb ln) p).2.1 = true))) ∧ w = [(txo, .inr (7, [.ref tsg, .int (nI ln), .int (nI ((botP (facP (sgT tb ln) 1) (sgT tb ln) p).1)), .int ((sgT tb ln) ((botP (facP (sgT tb ln) 1) (sgT tb ln) p).1))])), (tsg, eB D 100 tb), (vg, .inr (6, [.int (nI sh), .int (nI mo), .int (nI ov), .int (nI nr), .ref io, .ref am, .ref en, .int (nI (nl + (botP (facP (sgT tb ln) 1) (sgT tb ln) p).2.2.length)), .ref sp])), (sp, eI D 100 (wr fs nl (botP (facP (sgT tb ln) 1) (sgT tb ln) p).2.2))]) 0 0) : ∀ (t i : Nat), i + t = 100 → ∀ r : Res, botP (facP (sgT tb ln) 1) (sgT tb ln) p = chn (facP (sgT tb ln) 1) (sgT tb ln) 38 (-2) t r → p + r.2.2.length ≤ r.1 ∧ r.1 ≤ ln → V D X 0 0 10 [(0, .ref txo), (1, .ref vg), (2, .int 3), (3, .int (b2i (r.2.1 = true))), (4, .int (nI i))] [] [(txo, .inr (7, [.ref tsg, .int (nI ln), .int (nI r.1), .int ((sgT tb ln) r.1)])), (tsg, eB D 100 tb), (vg, .inr (6, [.int (nI sh), .int (nI mo), .int (nI ov), .int (nI nr), .ref io, .ref am, .ref en, .int (nI (nl + r.2.2.length)), .ref sp])), (sp, eI D 100 (wr fs nl r.2.2))] := by
  intro t
  induction t with
  | zero =>
    intro i hi r hF hr
    refine v_iload O dX7_both_10 4 rfl ?_
    refine v_bipush (v := 100) O dX7_both_12 (by decide) ?_
    refine v_icmp_ge O 59 dX7_both_14 (by decide) (fun z1 => ?_) (fun z1 => ?_)
    · skip
      have z1 := (c_le' (x := nI i) (y := 100) (a := i) (b := 100) rfl rfl (by omega) (by omega)).mp z1
      refine v_iload_n O dX7_both_59 3 rfl ?_
      exact v_ireturn O T rfl (nrb _) (by decide) (by decide) dX7_both_60 (⟨by rw [hF, chn], by rw [hF, chn]⟩)
    · skip
      have z1 := (not_congr (c_le' (x := nI i) (y := 100) (a := i) (b := 100) rfl rfl (by omega) (by omega))).mp z1
      exact absurd z1 (by omega)
  | succ t ih =>
    intro i hi r hF hr
    refine v_iload O dX7_both_10 4 rfl ?_
    refine v_bipush (v := 100) O dX7_both_12 (by decide) ?_
    refine v_icmp_ge O 59 dX7_both_14 (by decide) (fun z1 => ?_) (fun z1 => ?_)
    · skip
      have z1 := (c_le' (x := nI i) (y := 100) (a := i) (b := 100) rfl rfl (by omega) (by omega)).mp z1
      exact absurd z1 (by omega)
    · skip
      have z1 := (not_congr (c_le' (x := nI i) (y := 100) (a := i) (b := 100) rfl rfl (by omega) (by omega))).mp z1
      refine v_iload_n O dX7_both_17 3 rfl ?_
      refine v_if_eq O 59 dX7_both_18 (by decide) (fun z2 => ?_) (fun z2 => ?_)
      · skip
        have z2 := b2i_0.mp z2
        refine v_iload_n O dX7_both_59 3 rfl ?_
        exact v_ireturn O T rfl (nrb _) (by decide) (by decide) dX7_both_60 (⟨by rw [hF, chn_n (fun z9 => absurd z9.1 z2)], by rw [hF, chn_n (fun z9 => absurd z9.1 z2)]⟩)
      · skip
        have z2 := b2i_1.mp z2
        refine v_aload_n O dX7_both_21 0 rfl ?_
        refine gf_X7_22 O rfl dX7_both_22 0 rfl rfl ?_
        refine v_bipush (v := 38) O dX7_both_25 (by decide) ?_
        refine v_icmp_ne O 59 dX7_both_27 (by decide) (fun z3 => ?_) (fun z3 => ?_)
        · skip
          refine v_iload_n O dX7_both_59 3 rfl ?_
          exact v_ireturn O T rfl (nrb _) (by decide) (by decide) dX7_both_60 (⟨by rw [hF, chn_n (fun z9 => absurd z9.2 z3)], by rw [hF, chn_n (fun z9 => absurd z9.2 z3)]⟩)
        · skip
          have z_p := sgT_lt z3 (by decide)
          have z_g := fac_ok (tb := tb) (ln := ln) 1 (r.1 + 1) z_p
          refine v_aload_n O dX7_both_30 0 rfl ?_
          refine v_aload_n O dX7_both_31 0 rfl ?_
          refine gf_X7_19 O rfl dX7_both_32 0 rfl rfl ?_
          refine v_iconst (v := 1) O dX7_both_35 (by decide) ?_
          refine v_iadd O dX7_both_36 ?_
          refine v_top (y := nI (r.1 + 1)) (nI_add r.1 1) ?_
          refine v_cV (T := TX7) (ci := 7) (As := [.int (nI (r.1 + 1))]) (wr := [(vg, .inr (6, [.int (nI sh), .int (nI mo), .int (nI ov), .int (nI nr), .ref io, .ref am, .ref en, .int (nI (nl + r.2.2.length)), .ref sp])), (sp, eI D 100 (wr fs nl r.2.2))]) (st := []) O cf_X7_30 rfl (sp_X7_goTo (txo := txo) (tsg := tsg) (ln := ln) (tb := tb) (pl := (nI r.1)) (si := ((sgT tb ln) r.1)) (q := (r.1 + 1)) (hln) (by omega)) dX7_both_37 rfl rfl 0 rfl [0, 1] [2, 3] (by decide) rfl rfl (by decide) (by decide) (by decide) (Nat.le_of_ble_eq_true rfl) (by decide) (by decide) (fun r_2 w_3 h_1 => ?_)
          obtain ⟨rfl, rfl⟩ := h_1
          refine v_eq (st' := []) (ws' := [(vg, .inr (6, [.int (nI sh), .int (nI mo), .int (nI ov), .int (nI nr), .ref io, .ref am, .ref en, .int (nI (nl + r.2.2.length)), .ref sp])), (sp, eI D 100 (wr fs nl r.2.2)), (txo, .inr (7, [.ref tsg, .int (nI ln), .int (nI (r.1 + 1)), .int ((sgT tb ln) (r.1 + 1))])), (tsg, eB D 100 tb)]) rfl rfl rfl rfl ?_
          refine v_aload_n O dX7_both_40 0 rfl ?_
          refine v_aload_n O dX7_both_41 1 rfl ?_
          refine v_iload_n O dX7_both_42 2 rfl ?_
          refine v_cV (T := TX7) (ci := 7) (As := [.ref vg, .int 3]) (wr := []) (st := []) O cf_X7_87 rfl (sp_X7_factor_1 (txo := txo) (tsg := tsg) (ln := ln) (tb := tb) (vg := vg) (sh := sh) (mo := mo) (ov := ov) (nr := nr) (io := io) (am := am) (en := en) (nl := (nl + r.2.2.length)) (sp := sp) (fs := (wr fs nl r.2.2)) (p := (r.1 + 1)) (hln) (by omega) (by omega)) dX7_both_43 rfl rfl 2 rfl [2, 3, 0, 1] [] (by decide) rfl rfl (by decide) (by decide) (by decide) (Nat.le_of_ble_eq_true rfl) (by decide) (by decide) (fun r_5 w_6 h_4 => ?_)
          obtain ⟨rfl, rfl⟩ := h_4
          refine v_eq (st' := [.int (b2i ((facP (sgT tb ln) 1 (r.1 + 1)).2.1 = true))]) (ws' := [(txo, .inr (7, [.ref tsg, .int (nI ln), .int (nI ((facP (sgT tb ln) 1 (r.1 + 1)).1)), .int ((sgT tb ln) ((facP (sgT tb ln) 1 (r.1 + 1)).1))])), (tsg, eB D 100 tb), (vg, .inr (6, [.int (nI sh), .int (nI mo), .int (nI ov), .int (nI nr), .ref io, .ref am, .ref en, .int (nI ((nl + r.2.2.length) + (facP (sgT tb ln) 1 (r.1 + 1)).2.2.length)), .ref sp])), (sp, eI D 100 (wr (wr fs nl r.2.2) (nl + r.2.2.length) (facP (sgT tb ln) 1 (r.1 + 1)).2.2))]) rfl rfl rfl rfl ?_
          refine v_istore_n (lv' := [(0, .ref txo), (1, .ref vg), (2, .int 3), (3, .int (b2i ((facP (sgT tb ln) 1 (r.1 + 1)).2.1 = true))), (4, .int (nI i))]) O dX7_both_46 (by decide) rfl ?_
          refine v_aload_n O dX7_both_47 1 rfl ?_
          refine v_bipush (v := -2) O dX7_both_48 (by decide) ?_
          refine v_cV (T := TX6) (ci := 6) (As := [.int (-2)]) (wr := [(txo, .inr (7, [.ref tsg, .int (nI ln), .int (nI ((facP (sgT tb ln) 1 (r.1 + 1)).1)), .int ((sgT tb ln) ((facP (sgT tb ln) 1 (r.1 + 1)).1))])), (tsg, eB D 100 tb)]) (st := []) O cf_X7_84 rfl (sp_X6_addStep (vg := vg) (sh := sh) (mo := mo) (ov := ov) (nr := nr) (io := io) (am := am) (en := en) (nl := ((nl + r.2.2.length) + (facP (sgT tb ln) 1 (r.1 + 1)).2.2.length)) (sp := sp) (fs := (wr (wr fs nl r.2.2) (nl + r.2.2.length) (facP (sgT tb ln) 1 (r.1 + 1)).2.2)) (b := (-2)) (by omega)) dX7_both_50 rfl rfl 2 rfl [2, 3] [0, 1] (by decide) rfl rfl (by decide) (by decide) (by decide) (Nat.le_of_ble_eq_true rfl) (by decide) (by decide) (fun r_8 w_9 h_7 => ?_)
          obtain ⟨rfl, rfl⟩ := h_7
          refine v_eq (st' := []) (ws' := [(txo, .inr (7, [.ref tsg, .int (nI ln), .int (nI ((facP (sgT tb ln) 1 (r.1 + 1)).1)), .int ((sgT tb ln) ((facP (sgT tb ln) 1 (r.1 + 1)).1))])), (tsg, eB D 100 tb), (vg, .inr (6, [.int (nI sh), .int (nI mo), .int (nI ov), .int (nI nr), .ref io, .ref am, .ref en, .int (nI (((nl + r.2.2.length) + (facP (sgT tb ln) 1 (r.1 + 1)).2.2.length) + 1)), .ref sp])), (sp, eI D 100 (upd (wr (wr fs nl r.2.2) (nl + r.2.2.length) (facP (sgT tb ln) 1 (r.1 + 1)).2.2) ((nl + r.2.2.length) + (facP (sgT tb ln) 1 (r.1 + 1)).2.2.length) (-2)))]) rfl rfl rfl rfl ?_
          refine v_eq (ws' := [(txo, .inr (7, [.ref tsg, .int (nI ln), .int (nI ((facP (sgT tb ln) 1 (r.1 + 1)).1)), .int ((sgT tb ln) ((facP (sgT tb ln) 1 (r.1 + 1)).1))])), (tsg, eB D 100 tb), (vg, .inr (6, [.int (nI sh), .int (nI mo), .int (nI ov), .int (nI nr), .ref io, .ref am, .ref en, .int (nI (nl + (r.2.2 ++ (((facP (sgT tb ln) 1) (r.1 + 1)).2.2 ++ [-2])).length)), .ref sp])), (sp, eI D 100 (wr fs nl (r.2.2 ++ (((facP (sgT tb ln) 1) (r.1 + 1)).2.2 ++ [-2]))))]) rfl rfl rfl (by rw [wr_3, wl_3]) ?_
          refine v_iinc (v := nI (i + 1)) (lv' := [(0, .ref txo), (1, .ref vg), (2, .int 3), (3, .int (b2i ((facP (sgT tb ln) 1 (r.1 + 1)).2.1 = true))), (4, .int (nI (i + 1)))]) O dX7_both_53 4 rfl (nI_1 i) (by decide) rfl ?_
          refine v_goto O 10 dX7_both_56 (by decide) ?_
          exact ih (i + 1) (by omega) (((facP (sgT tb ln) 1) (r.1 + 1)).1, ((facP (sgT tb ln) 1) (r.1 + 1)).2.1, r.2.2 ++ (((facP (sgT tb ln) 1) (r.1 + 1)).2.2 ++ [-2])) (by rw [hF, chn_s ⟨z2, z3⟩]) ⟨by show p + (r.2.2 ++ (((facP (sgT tb ln) 1) (r.1 + 1)).2.2 ++ [(-2 : Int32)])).length ≤ ((facP (sgT tb ln) 1) (r.1 + 1)).1; rw [← wl_3]; omega, z_g.2⟩
set_option maxRecDepth 100000 in
set_option maxHeartbeats 4000000 in
theorem sp_X7_both_1 {D : G} {txo : Nat} {tsg : Nat} {ln : Nat} {tb : Nat → Int32} {vg : Nat} {sh : Nat} {mo : Nat} {ov : Nat} {nr : Nat} {io : Nat} {am : Nat} {en : Nat} {nl : Nat} {sp : Nat} {fs : Nat → Int32} {p : Nat} (hln : ln ≤ 100) (hp : p ≤ ln) (hnl : nl ≤ p) : Sp D mX7_both 10 0 0 [.ref txo, .ref vg, .int 3] [(txo, .inr (7, [.ref tsg, .int (nI ln), .int (nI p), .int ((sgT tb ln) p)])), (tsg, eB D 100 tb), (vg, .inr (6, [.int (nI sh), .int (nI mo), .int (nI ov), .int (nI nr), .ref io, .ref am, .ref en, .int (nI nl), .ref sp])), (sp, eI D 100 fs)] (fun r w => r = some (.int (b2i ((botP (facP (sgT tb ln) 1) (sgT tb ln) p).2.1 = true))) ∧ w = [(txo, .inr (7, [.ref tsg, .int (nI ln), .int (nI ((botP (facP (sgT tb ln) 1) (sgT tb ln) p).1)), .int ((sgT tb ln) ((botP (facP (sgT tb ln) 1) (sgT tb ln) p).1))])), (tsg, eB D 100 tb), (vg, .inr (6, [.int (nI sh), .int (nI mo), .int (nI ov), .int (nI nr), .ref io, .ref am, .ref en, .int (nI (nl + (botP (facP (sgT tb ln) 1) (sgT tb ln) p).2.2.length)), .ref sp])), (sp, eI D 100 (wr fs nl (botP (facP (sgT tb ln) 1) (sgT tb ln) p).2.2))]) := by
  refine Sp.of (by decide) (Nat.le_of_ble_eq_true rfl) (fun X O T => ?_)
  refine v_eq (lv' := [(0, .ref txo), (1, .ref vg), (2, .int 3)]) rfl rfl rfl rfl ?_
  refine v_aload_n O dX7_both_0 0 rfl ?_
  refine v_aload_n O dX7_both_1 1 rfl ?_
  refine v_iload_n O dX7_both_2 2 rfl ?_
  refine v_cV (T := TX7) (ci := 7) (As := [.ref vg, .int 3]) (wr := []) (st := []) O cf_X7_87 rfl (sp_X7_factor_1 (txo := txo) (tsg := tsg) (ln := ln) (tb := tb) (vg := vg) (sh := sh) (mo := mo) (ov := ov) (nr := nr) (io := io) (am := am) (en := en) (nl := nl) (sp := sp) (fs := fs) (p := p) (hln) (hp) (hnl)) dX7_both_3 rfl rfl 0 rfl [0, 1, 2, 3] [] (by decide) rfl rfl (by decide) (by decide) (by decide) (Nat.le_of_ble_eq_true rfl) (by decide) (by decide) (fun r_2 w_3 h_1 => ?_)
  obtain ⟨rfl, rfl⟩ := h_1
  refine v_eq (st' := [.int (b2i ((facP (sgT tb ln) 1 p).2.1 = true))]) (ws' := [(txo, .inr (7, [.ref tsg, .int (nI ln), .int (nI ((facP (sgT tb ln) 1 p).1)), .int ((sgT tb ln) ((facP (sgT tb ln) 1 p).1))])), (tsg, eB D 100 tb), (vg, .inr (6, [.int (nI sh), .int (nI mo), .int (nI ov), .int (nI nr), .ref io, .ref am, .ref en, .int (nI (nl + (facP (sgT tb ln) 1 p).2.2.length)), .ref sp])), (sp, eI D 100 (wr fs nl (facP (sgT tb ln) 1 p).2.2))]) rfl rfl rfl rfl ?_
  refine v_istore_n (lv' := [(0, .ref txo), (1, .ref vg), (2, .int 3), (3, .int (b2i ((facP (sgT tb ln) 1 p).2.1 = true)))]) O dX7_both_6 (by decide) rfl ?_
  refine v_iconst (v := 0) O dX7_both_7 (by decide) ?_
  refine v_istore (lv' := [(0, .ref txo), (1, .ref vg), (2, .int 3), (3, .int (b2i ((facP (sgT tb ln) 1 p).2.1 = true))), (4, .int 0)]) O dX7_both_8 (by decide) rfl ?_
  refine v_eq (lv' := [(0, .ref txo), (1, .ref vg), (2, .int 3), (3, .int (b2i ((facP (sgT tb ln) 1 p).2.1 = true))), (4, .int (nI 0))]) rfl rfl rfl rfl ?_
  exact l_X7_both_1 O hln hp hnl T 100 0 (by omega) ((facP (sgT tb ln) 1) p) rfl (fac_ok (tb := tb) (ln := ln) 1 p hp)
set_option maxRecDepth 100000 in
set_option maxHeartbeats 4000000 in
theorem l_X7_either_1 {D : G} {X : CX} {txo : Nat} {tsg : Nat} {ln : Nat} {tb : Nat → Int32} {vg : Nat} {sh : Nat} {mo : Nat} {ov : Nat} {nr : Nat} {io : Nat} {am : Nat} {en : Nat} {nl : Nat} {sp : Nat} {fs : Nat → Int32} {p : Nat} (O : Ok D X mX7_either 11 0 0) (hln : ln ≤ 100) (hp : p ≤ ln) (hnl : nl ≤ p) (T : Rt D X (fun r w => r = some (.int (b2i ((eitP (facP (sgT tb ln) 1) (sgT tb ln) p).2.1 = true))) ∧ w = [(txo, .inr (7, [.ref tsg, .int (nI ln), .int (nI ((eitP (facP (sgT tb ln) 1) (sgT tb ln) p).1)), .int ((sgT tb ln) ((eitP (facP (sgT tb ln) 1) (sgT tb ln) p).1))])), (tsg, eB D 100 tb), (vg, .inr (6, [.int (nI sh), .int (nI mo), .int (nI ov), .int (nI nr), .ref io, .ref am, .ref en, .int (nI (nl + (eitP (facP (sgT tb ln) 1) (sgT tb ln) p).2.2.length)), .ref sp])), (sp, eI D 100 (wr fs nl (eitP (facP (sgT tb ln) 1) (sgT tb ln) p).2.2))]) 0 0) : ∀ (t i : Nat), i + t = 100 → ∀ r : Res, eitP (facP (sgT tb ln) 1) (sgT tb ln) p = chn (botP (facP (sgT tb ln) 1) (sgT tb ln)) (sgT tb ln) 124 (-3) t r → p + r.2.2.length ≤ r.1 ∧ r.1 ≤ ln → V D X 0 0 10 [(0, .ref txo), (1, .ref vg), (2, .int 3), (3, .int (b2i (r.2.1 = true))), (4, .int (nI i))] [] [(txo, .inr (7, [.ref tsg, .int (nI ln), .int (nI r.1), .int ((sgT tb ln) r.1)])), (tsg, eB D 100 tb), (vg, .inr (6, [.int (nI sh), .int (nI mo), .int (nI ov), .int (nI nr), .ref io, .ref am, .ref en, .int (nI (nl + r.2.2.length)), .ref sp])), (sp, eI D 100 (wr fs nl r.2.2))] := by
  intro t
  induction t with
  | zero =>
    intro i hi r hF hr
    refine v_iload O dX7_either_10 4 rfl ?_
    refine v_bipush (v := 100) O dX7_either_12 (by decide) ?_
    refine v_icmp_ge O 59 dX7_either_14 (by decide) (fun z1 => ?_) (fun z1 => ?_)
    · skip
      have z1 := (c_le' (x := nI i) (y := 100) (a := i) (b := 100) rfl rfl (by omega) (by omega)).mp z1
      refine v_iload_n O dX7_either_59 3 rfl ?_
      exact v_ireturn O T rfl (nrb _) (by decide) (by decide) dX7_either_60 (⟨by rw [hF, chn], by rw [hF, chn]⟩)
    · skip
      have z1 := (not_congr (c_le' (x := nI i) (y := 100) (a := i) (b := 100) rfl rfl (by omega) (by omega))).mp z1
      exact absurd z1 (by omega)
  | succ t ih =>
    intro i hi r hF hr
    refine v_iload O dX7_either_10 4 rfl ?_
    refine v_bipush (v := 100) O dX7_either_12 (by decide) ?_
    refine v_icmp_ge O 59 dX7_either_14 (by decide) (fun z1 => ?_) (fun z1 => ?_)
    · skip
      have z1 := (c_le' (x := nI i) (y := 100) (a := i) (b := 100) rfl rfl (by omega) (by omega)).mp z1
      exact absurd z1 (by omega)
    · skip
      have z1 := (not_congr (c_le' (x := nI i) (y := 100) (a := i) (b := 100) rfl rfl (by omega) (by omega))).mp z1
      refine v_iload_n O dX7_either_17 3 rfl ?_
      refine v_if_eq O 59 dX7_either_18 (by decide) (fun z2 => ?_) (fun z2 => ?_)
      · skip
        have z2 := b2i_0.mp z2
        refine v_iload_n O dX7_either_59 3 rfl ?_
        exact v_ireturn O T rfl (nrb _) (by decide) (by decide) dX7_either_60 (⟨by rw [hF, chn_n (fun z9 => absurd z9.1 z2)], by rw [hF, chn_n (fun z9 => absurd z9.1 z2)]⟩)
      · skip
        have z2 := b2i_1.mp z2
        refine v_aload_n O dX7_either_21 0 rfl ?_
        refine gf_X7_22 O rfl dX7_either_22 0 rfl rfl ?_
        refine v_bipush (v := 124) O dX7_either_25 (by decide) ?_
        refine v_icmp_ne O 59 dX7_either_27 (by decide) (fun z3 => ?_) (fun z3 => ?_)
        · skip
          refine v_iload_n O dX7_either_59 3 rfl ?_
          exact v_ireturn O T rfl (nrb _) (by decide) (by decide) dX7_either_60 (⟨by rw [hF, chn_n (fun z9 => absurd z9.2 z3)], by rw [hF, chn_n (fun z9 => absurd z9.2 z3)]⟩)
        · skip
          have z_p := sgT_lt z3 (by decide)
          have z_g := bot_ok (tb := tb) (fac_ok (tb := tb) (ln := ln) 1) (r.1 + 1) z_p
          refine v_aload_n O dX7_either_30 0 rfl ?_
          refine v_aload_n O dX7_either_31 0 rfl ?_
          refine gf_X7_19 O rfl dX7_either_32 0 rfl rfl ?_
          refine v_iconst (v := 1) O dX7_either_35 (by decide) ?_
          refine v_iadd O dX7_either_36 ?_
          refine v_top (y := nI (r.1 + 1)) (nI_add r.1 1) ?_
          refine v_cV (T := TX7) (ci := 7) (As := [.int (nI (r.1 + 1))]) (wr := [(vg, .inr (6, [.int (nI sh), .int (nI mo), .int (nI ov), .int (nI nr), .ref io, .ref am, .ref en, .int (nI (nl + r.2.2.length)), .ref sp])), (sp, eI D 100 (wr fs nl r.2.2))]) (st := []) O cf_X7_30 rfl (sp_X7_goTo (txo := txo) (tsg := tsg) (ln := ln) (tb := tb) (pl := (nI r.1)) (si := ((sgT tb ln) r.1)) (q := (r.1 + 1)) (hln) (by omega)) dX7_either_37 rfl rfl 0 rfl [0, 1] [2, 3] (by decide) rfl rfl (by decide) (by decide) (by decide) (Nat.le_of_ble_eq_true rfl) (by decide) (by decide) (fun r_2 w_3 h_1 => ?_)
          obtain ⟨rfl, rfl⟩ := h_1
          refine v_eq (st' := []) (ws' := [(vg, .inr (6, [.int (nI sh), .int (nI mo), .int (nI ov), .int (nI nr), .ref io, .ref am, .ref en, .int (nI (nl + r.2.2.length)), .ref sp])), (sp, eI D 100 (wr fs nl r.2.2)), (txo, .inr (7, [.ref tsg, .int (nI ln), .int (nI (r.1 + 1)), .int ((sgT tb ln) (r.1 + 1))])), (tsg, eB D 100 tb)]) rfl rfl rfl rfl ?_
          refine v_aload_n O dX7_either_40 0 rfl ?_
          refine v_aload_n O dX7_either_41 1 rfl ?_
          refine v_iload_n O dX7_either_42 2 rfl ?_
          refine v_cV (T := TX7) (ci := 7) (As := [.ref vg, .int 3]) (wr := []) (st := []) O cf_X7_81 rfl (sp_X7_both_1 (txo := txo) (tsg := tsg) (ln := ln) (tb := tb) (vg := vg) (sh := sh) (mo := mo) (ov := ov) (nr := nr) (io := io) (am := am) (en := en) (nl := (nl + r.2.2.length)) (sp := sp) (fs := (wr fs nl r.2.2)) (p := (r.1 + 1)) (hln) (by omega) (by omega)) dX7_either_43 rfl rfl 2 rfl [2, 3, 0, 1] [] (by decide) rfl rfl (by decide) (by decide) (by decide) (Nat.le_of_ble_eq_true rfl) (by decide) (by decide) (fun r_5 w_6 h_4 => ?_)
          obtain ⟨rfl, rfl⟩ := h_4
          refine v_eq (st' := [.int (b2i ((botP (facP (sgT tb ln) 1) (sgT tb ln) (r.1 + 1)).2.1 = true))]) (ws' := [(txo, .inr (7, [.ref tsg, .int (nI ln), .int (nI ((botP (facP (sgT tb ln) 1) (sgT tb ln) (r.1 + 1)).1)), .int ((sgT tb ln) ((botP (facP (sgT tb ln) 1) (sgT tb ln) (r.1 + 1)).1))])), (tsg, eB D 100 tb), (vg, .inr (6, [.int (nI sh), .int (nI mo), .int (nI ov), .int (nI nr), .ref io, .ref am, .ref en, .int (nI ((nl + r.2.2.length) + (botP (facP (sgT tb ln) 1) (sgT tb ln) (r.1 + 1)).2.2.length)), .ref sp])), (sp, eI D 100 (wr (wr fs nl r.2.2) (nl + r.2.2.length) (botP (facP (sgT tb ln) 1) (sgT tb ln) (r.1 + 1)).2.2))]) rfl rfl rfl rfl ?_
          refine v_istore_n (lv' := [(0, .ref txo), (1, .ref vg), (2, .int 3), (3, .int (b2i ((botP (facP (sgT tb ln) 1) (sgT tb ln) (r.1 + 1)).2.1 = true))), (4, .int (nI i))]) O dX7_either_46 (by decide) rfl ?_
          refine v_aload_n O dX7_either_47 1 rfl ?_
          refine v_bipush (v := -3) O dX7_either_48 (by decide) ?_
          refine v_cV (T := TX6) (ci := 6) (As := [.int (-3)]) (wr := [(txo, .inr (7, [.ref tsg, .int (nI ln), .int (nI ((botP (facP (sgT tb ln) 1) (sgT tb ln) (r.1 + 1)).1)), .int ((sgT tb ln) ((botP (facP (sgT tb ln) 1) (sgT tb ln) (r.1 + 1)).1))])), (tsg, eB D 100 tb)]) (st := []) O cf_X7_84 rfl (sp_X6_addStep (vg := vg) (sh := sh) (mo := mo) (ov := ov) (nr := nr) (io := io) (am := am) (en := en) (nl := ((nl + r.2.2.length) + (botP (facP (sgT tb ln) 1) (sgT tb ln) (r.1 + 1)).2.2.length)) (sp := sp) (fs := (wr (wr fs nl r.2.2) (nl + r.2.2.length) (botP (facP (sgT tb ln) 1) (sgT tb ln) (r.1 + 1)).2.2)) (b := (-3)) (by omega)) dX7_either_50 rfl rfl 2 rfl [2, 3] [0, 1] (by decide) rfl rfl (by decide) (by decide) (by decide) (Nat.le_of_ble_eq_true rfl) (by decide) (by decide) (fun r_8 w_9 h_7 => ?_)
          obtain ⟨rfl, rfl⟩ := h_7
          refine v_eq (st' := []) (ws' := [(txo, .inr (7, [.ref tsg, .int (nI ln), .int (nI ((botP (facP (sgT tb ln) 1) (sgT tb ln) (r.1 + 1)).1)), .int ((sgT tb ln) ((botP (facP (sgT tb ln) 1) (sgT tb ln) (r.1 + 1)).1))])), (tsg, eB D 100 tb), (vg, .inr (6, [.int (nI sh), .int (nI mo), .int (nI ov), .int (nI nr), .ref io, .ref am, .ref en, .int (nI (((nl + r.2.2.length) + (botP (facP (sgT tb ln) 1) (sgT tb ln) (r.1 + 1)).2.2.length) + 1)), .ref sp])), (sp, eI D 100 (upd (wr (wr fs nl r.2.2) (nl + r.2.2.length) (botP (facP (sgT tb ln) 1) (sgT tb ln) (r.1 + 1)).2.2) ((nl + r.2.2.length) + (botP (facP (sgT tb ln) 1) (sgT tb ln) (r.1 + 1)).2.2.length) (-3)))]) rfl rfl rfl rfl ?_
          refine v_eq (ws' := [(txo, .inr (7, [.ref tsg, .int (nI ln), .int (nI ((botP (facP (sgT tb ln) 1) (sgT tb ln) (r.1 + 1)).1)), .int ((sgT tb ln) ((botP (facP (sgT tb ln) 1) (sgT tb ln) (r.1 + 1)).1))])), (tsg, eB D 100 tb), (vg, .inr (6, [.int (nI sh), .int (nI mo), .int (nI ov), .int (nI nr), .ref io, .ref am, .ref en, .int (nI (nl + (r.2.2 ++ (((botP (facP (sgT tb ln) 1) (sgT tb ln)) (r.1 + 1)).2.2 ++ [-3])).length)), .ref sp])), (sp, eI D 100 (wr fs nl (r.2.2 ++ (((botP (facP (sgT tb ln) 1) (sgT tb ln)) (r.1 + 1)).2.2 ++ [-3]))))]) rfl rfl rfl (by rw [wr_3, wl_3]) ?_
          refine v_iinc (v := nI (i + 1)) (lv' := [(0, .ref txo), (1, .ref vg), (2, .int 3), (3, .int (b2i ((botP (facP (sgT tb ln) 1) (sgT tb ln) (r.1 + 1)).2.1 = true))), (4, .int (nI (i + 1)))]) O dX7_either_53 4 rfl (nI_1 i) (by decide) rfl ?_
          refine v_goto O 10 dX7_either_56 (by decide) ?_
          exact ih (i + 1) (by omega) (((botP (facP (sgT tb ln) 1) (sgT tb ln)) (r.1 + 1)).1, ((botP (facP (sgT tb ln) 1) (sgT tb ln)) (r.1 + 1)).2.1, r.2.2 ++ (((botP (facP (sgT tb ln) 1) (sgT tb ln)) (r.1 + 1)).2.2 ++ [-3])) (by rw [hF, chn_s ⟨z2, z3⟩]) ⟨by show p + (r.2.2 ++ (((botP (facP (sgT tb ln) 1) (sgT tb ln)) (r.1 + 1)).2.2 ++ [(-3 : Int32)])).length ≤ ((botP (facP (sgT tb ln) 1) (sgT tb ln)) (r.1 + 1)).1; rw [← wl_3]; omega, z_g.2⟩
set_option maxRecDepth 100000 in
set_option maxHeartbeats 4000000 in
theorem sp_X7_either_1 {D : G} {txo : Nat} {tsg : Nat} {ln : Nat} {tb : Nat → Int32} {vg : Nat} {sh : Nat} {mo : Nat} {ov : Nat} {nr : Nat} {io : Nat} {am : Nat} {en : Nat} {nl : Nat} {sp : Nat} {fs : Nat → Int32} {p : Nat} (hln : ln ≤ 100) (hp : p ≤ ln) (hnl : nl ≤ p) : Sp D mX7_either 11 0 0 [.ref txo, .ref vg, .int 3] [(txo, .inr (7, [.ref tsg, .int (nI ln), .int (nI p), .int ((sgT tb ln) p)])), (tsg, eB D 100 tb), (vg, .inr (6, [.int (nI sh), .int (nI mo), .int (nI ov), .int (nI nr), .ref io, .ref am, .ref en, .int (nI nl), .ref sp])), (sp, eI D 100 fs)] (fun r w => r = some (.int (b2i ((eitP (facP (sgT tb ln) 1) (sgT tb ln) p).2.1 = true))) ∧ w = [(txo, .inr (7, [.ref tsg, .int (nI ln), .int (nI ((eitP (facP (sgT tb ln) 1) (sgT tb ln) p).1)), .int ((sgT tb ln) ((eitP (facP (sgT tb ln) 1) (sgT tb ln) p).1))])), (tsg, eB D 100 tb), (vg, .inr (6, [.int (nI sh), .int (nI mo), .int (nI ov), .int (nI nr), .ref io, .ref am, .ref en, .int (nI (nl + (eitP (facP (sgT tb ln) 1) (sgT tb ln) p).2.2.length)), .ref sp])), (sp, eI D 100 (wr fs nl (eitP (facP (sgT tb ln) 1) (sgT tb ln) p).2.2))]) := by
  refine Sp.of (by decide) (Nat.le_of_ble_eq_true rfl) (fun X O T => ?_)
  refine v_eq (lv' := [(0, .ref txo), (1, .ref vg), (2, .int 3)]) rfl rfl rfl rfl ?_
  refine v_aload_n O dX7_either_0 0 rfl ?_
  refine v_aload_n O dX7_either_1 1 rfl ?_
  refine v_iload_n O dX7_either_2 2 rfl ?_
  refine v_cV (T := TX7) (ci := 7) (As := [.ref vg, .int 3]) (wr := []) (st := []) O cf_X7_81 rfl (sp_X7_both_1 (txo := txo) (tsg := tsg) (ln := ln) (tb := tb) (vg := vg) (sh := sh) (mo := mo) (ov := ov) (nr := nr) (io := io) (am := am) (en := en) (nl := nl) (sp := sp) (fs := fs) (p := p) (hln) (hp) (hnl)) dX7_either_3 rfl rfl 0 rfl [0, 1, 2, 3] [] (by decide) rfl rfl (by decide) (by decide) (by decide) (Nat.le_of_ble_eq_true rfl) (by decide) (by decide) (fun r_2 w_3 h_1 => ?_)
  obtain ⟨rfl, rfl⟩ := h_1
  refine v_eq (st' := [.int (b2i ((botP (facP (sgT tb ln) 1) (sgT tb ln) p).2.1 = true))]) (ws' := [(txo, .inr (7, [.ref tsg, .int (nI ln), .int (nI ((botP (facP (sgT tb ln) 1) (sgT tb ln) p).1)), .int ((sgT tb ln) ((botP (facP (sgT tb ln) 1) (sgT tb ln) p).1))])), (tsg, eB D 100 tb), (vg, .inr (6, [.int (nI sh), .int (nI mo), .int (nI ov), .int (nI nr), .ref io, .ref am, .ref en, .int (nI (nl + (botP (facP (sgT tb ln) 1) (sgT tb ln) p).2.2.length)), .ref sp])), (sp, eI D 100 (wr fs nl (botP (facP (sgT tb ln) 1) (sgT tb ln) p).2.2))]) rfl rfl rfl rfl ?_
  refine v_istore_n (lv' := [(0, .ref txo), (1, .ref vg), (2, .int 3), (3, .int (b2i ((botP (facP (sgT tb ln) 1) (sgT tb ln) p).2.1 = true)))]) O dX7_either_6 (by decide) rfl ?_
  refine v_iconst (v := 0) O dX7_either_7 (by decide) ?_
  refine v_istore (lv' := [(0, .ref txo), (1, .ref vg), (2, .int 3), (3, .int (b2i ((botP (facP (sgT tb ln) 1) (sgT tb ln) p).2.1 = true))), (4, .int 0)]) O dX7_either_8 (by decide) rfl ?_
  refine v_eq (lv' := [(0, .ref txo), (1, .ref vg), (2, .int 3), (3, .int (b2i ((botP (facP (sgT tb ln) 1) (sgT tb ln) p).2.1 = true))), (4, .int (nI 0))]) rfl rfl rfl rfl ?_
  exact l_X7_either_1 O hln hp hnl T 100 0 (by omega) ((botP (facP (sgT tb ln) 1) (sgT tb ln)) p) rfl (bot_ok (tb := tb) (fac_ok (tb := tb) (ln := ln) 1) p hp)
set_option maxRecDepth 100000 in
set_option maxHeartbeats 4000000 in
theorem sp_X7_nested_1 {D : G} {txo : Nat} {tsg : Nat} {ln : Nat} {tb : Nat → Int32} {vg : Nat} {sh : Nat} {mo : Nat} {ov : Nat} {nr : Nat} {io : Nat} {am : Nat} {en : Nat} {nl : Nat} {sp : Nat} {fs : Nat → Int32} {p : Nat} (hln : ln ≤ 100) (hp : p ≤ ln) (hnl : nl ≤ p) (hsg : (sgT tb ln) p = 40 ∨ (sgT tb ln) p = 33) : Sp D mX7_nested 12 0 0 [.ref txo, .ref vg, .int 3] [(txo, .inr (7, [.ref tsg, .int (nI ln), .int (nI p), .int ((sgT tb ln) p)])), (tsg, eB D 100 tb), (vg, .inr (6, [.int (nI sh), .int (nI mo), .int (nI ov), .int (nI nr), .ref io, .ref am, .ref en, .int (nI nl), .ref sp])), (sp, eI D 100 fs)] (fun r w => r = some (.int (b2i ((nesP (facP (sgT tb ln) 1) (sgT tb ln) p).2.1 = true))) ∧ w = [(txo, .inr (7, [.ref tsg, .int (nI ln), .int (nI ((nesP (facP (sgT tb ln) 1) (sgT tb ln) p).1)), .int ((sgT tb ln) ((nesP (facP (sgT tb ln) 1) (sgT tb ln) p).1))])), (tsg, eB D 100 tb), (vg, .inr (6, [.int (nI sh), .int (nI mo), .int (nI ov), .int (nI nr), .ref io, .ref am, .ref en, .int (nI (nl + (nesP (facP (sgT tb ln) 1) (sgT tb ln) p).2.2.length)), .ref sp])), (sp, eI D 100 (wr fs nl (nesP (facP (sgT tb ln) 1) (sgT tb ln) p).2.2))]) := by
  refine Sp.of (by decide) (Nat.le_of_ble_eq_true rfl) (fun X O T => ?_)
  refine v_eq (lv' := [(0, .ref txo), (1, .ref vg), (2, .int 3)]) rfl rfl rfl rfl ?_
  have z_p : p < ln := by rcases hsg with z | z <;> exact sgT_lt z (by decide)
  have z_g := fac_ok (tb := tb) (ln := ln) 1 (p + 1) z_p
  have z_e := eit_ok (tb := tb) (fac_ok (tb := tb) (ln := ln) 1) (p + 1) z_p
  refine v_aload_n O dX7_nested_0 0 rfl ?_
  refine gf_X7_22 O rfl dX7_nested_1 0 rfl rfl ?_
  refine v_bipush (v := 33) O dX7_nested_4 (by decide) ?_
  refine v_icmp_ne O 13 dX7_nested_6 (by decide) (fun z1 => ?_) (fun z1 => ?_)
  · skip
    refine v_iconst (v := 0) O dX7_nested_13 (by decide) ?_
    refine v_istore_n (lv' := [(0, .ref txo), (1, .ref vg), (2, .int 3), (3, .int 0)]) O dX7_nested_14 (by decide) rfl ?_
    refine v_aload_n O dX7_nested_15 0 rfl ?_
    refine v_aload_n O dX7_nested_16 0 rfl ?_
    refine gf_X7_19 O rfl dX7_nested_17 0 rfl rfl ?_
    refine v_iconst (v := 1) O dX7_nested_20 (by decide) ?_
    refine v_iadd O dX7_nested_21 ?_
    refine v_top (y := nI (p + 1)) (nI_add p 1) ?_
    refine v_cV (T := TX7) (ci := 7) (As := [.int (nI (p + 1))]) (wr := [(vg, .inr (6, [.int (nI sh), .int (nI mo), .int (nI ov), .int (nI nr), .ref io, .ref am, .ref en, .int (nI nl), .ref sp])), (sp, eI D 100 fs)]) (st := []) O cf_X7_30 rfl (sp_X7_goTo (txo := txo) (tsg := tsg) (ln := ln) (tb := tb) (pl := (nI p)) (si := ((sgT tb ln) p)) (q := (p + 1)) (hln) (by omega)) dX7_nested_22 rfl rfl 0 rfl [0, 1] [2, 3] (by decide) rfl rfl (by decide) (by decide) (by decide) (Nat.le_of_ble_eq_true rfl) (by decide) (by decide) (fun r_2 w_3 h_1 => ?_)
    obtain ⟨rfl, rfl⟩ := h_1
    refine v_eq (st' := []) (ws' := [(vg, .inr (6, [.int (nI sh), .int (nI mo), .int (nI ov), .int (nI nr), .ref io, .ref am, .ref en, .int (nI nl), .ref sp])), (sp, eI D 100 fs), (txo, .inr (7, [.ref tsg, .int (nI ln), .int (nI (p + 1)), .int ((sgT tb ln) (p + 1))])), (tsg, eB D 100 tb)]) rfl rfl rfl rfl ?_
    refine v_iload_n O dX7_nested_25 3 rfl ?_
    refine v_if_eq O 45 dX7_nested_26 (by decide) (fun _ => ?_) (fun c => absurd c (by decide))
    refine v_aload_n O dX7_nested_45 0 rfl ?_
    refine v_aload_n O dX7_nested_46 1 rfl ?_
    refine v_iload_n O dX7_nested_47 2 rfl ?_
    refine v_cV (T := TX7) (ci := 7) (As := [.ref vg, .int 3]) (wr := []) (st := []) O cf_X7_57 rfl (sp_X7_either_1 (txo := txo) (tsg := tsg) (ln := ln) (tb := tb) (vg := vg) (sh := sh) (mo := mo) (ov := ov) (nr := nr) (io := io) (am := am) (en := en) (nl := nl) (sp := sp) (fs := fs) (p := (p + 1)) (hln) (z_p) (by omega)) dX7_nested_48 rfl rfl 2 rfl [2, 3, 0, 1] [] (by decide) rfl rfl (by decide) (by decide) (by decide) (Nat.le_of_ble_eq_true rfl) (by decide) (by decide) (fun r_6 w_7 h_5 => ?_)
    obtain ⟨rfl, rfl⟩ := h_5
    refine v_eq (st' := [.int (b2i ((eitP (facP (sgT tb ln) 1) (sgT tb ln) (p + 1)).2.1 = true))]) (ws' := [(txo, .inr (7, [.ref tsg, .int (nI ln), .int (nI ((eitP (facP (sgT tb ln) 1) (sgT tb ln) (p + 1)).1)), .int ((sgT tb ln) ((eitP (facP (sgT tb ln) 1) (sgT tb ln) (p + 1)).1))])), (tsg, eB D 100 tb), (vg, .inr (6, [.int (nI sh), .int (nI mo), .int (nI ov), .int (nI nr), .ref io, .ref am, .ref en, .int (nI (nl + (eitP (facP (sgT tb ln) 1) (sgT tb ln) (p + 1)).2.2.length)), .ref sp])), (sp, eI D 100 (wr fs nl (eitP (facP (sgT tb ln) 1) (sgT tb ln) (p + 1)).2.2))]) rfl rfl rfl rfl ?_
    refine v_if_eq O 63 dX7_nested_51 (by decide) (fun z2 => ?_) (fun z2 => ?_)
    · skip
      have z2 := b2i_0.mp z2
      refine v_iconst (v := 0) O dX7_nested_63 (by decide) ?_
      exact v_ireturn O T rfl rfl (by decide) (by decide) dX7_nested_64 (⟨by unfold nesP; rw [if_neg z1, if_neg (fun z9 => absurd z9.1 z2)]; exact bF, by unfold nesP; rw [if_neg z1, if_neg (fun z9 => absurd z9.1 z2)]⟩)
    · skip
      have z2 := b2i_1.mp z2
      refine v_aload_n O dX7_nested_54 0 rfl ?_
      refine gf_X7_22 O rfl dX7_nested_55 0 rfl rfl ?_
      refine v_bipush (v := 41) O dX7_nested_58 (by decide) ?_
      refine v_icmp_eq O 65 dX7_nested_60 (by decide) (fun z3 => ?_) (fun z3 => ?_)
      · skip
        have z_q := sgT_lt z3 (by decide)
        refine v_aload_n O dX7_nested_65 0 rfl ?_
        refine v_aload_n O dX7_nested_66 0 rfl ?_
        refine gf_X7_19 O rfl dX7_nested_67 0 rfl rfl ?_
        refine v_iconst (v := 1) O dX7_nested_70 (by decide) ?_
        refine v_iadd O dX7_nested_71 ?_
        refine v_top (y := nI (((eitP (facP (sgT tb ln) 1) (sgT tb ln) (p + 1)).1) + 1)) (nI_add ((eitP (facP (sgT tb ln) 1) (sgT tb ln) (p + 1)).1) 1) ?_
        refine v_cV (T := TX7) (ci := 7) (As := [.int (nI (((eitP (facP (sgT tb ln) 1) (sgT tb ln) (p + 1)).1) + 1))]) (wr := [(vg, .inr (6, [.int (nI sh), .int (nI mo), .int (nI ov), .int (nI nr), .ref io, .ref am, .ref en, .int (nI (nl + (eitP (facP (sgT tb ln) 1) (sgT tb ln) (p + 1)).2.2.length)), .ref sp])), (sp, eI D 100 (wr fs nl (eitP (facP (sgT tb ln) 1) (sgT tb ln) (p + 1)).2.2))]) (st := []) O cf_X7_30 rfl (sp_X7_goTo (txo := txo) (tsg := tsg) (ln := ln) (tb := tb) (pl := (nI ((eitP (facP (sgT tb ln) 1) (sgT tb ln) (p + 1)).1))) (si := ((sgT tb ln) ((eitP (facP (sgT tb ln) 1) (sgT tb ln) (p + 1)).1))) (q := (((eitP (facP (sgT tb ln) 1) (sgT tb ln) (p + 1)).1) + 1)) (hln) (by omega)) dX7_nested_72 rfl rfl 0 rfl [0, 1] [2, 3] (by decide) rfl rfl (by decide) (by decide) (by decide) (Nat.le_of_ble_eq_true rfl) (by decide) (by decide) (fun r_9 w_10 h_8 => ?_)
        obtain ⟨rfl, rfl⟩ := h_8
        refine v_eq (st' := []) (ws' := [(vg, .inr (6, [.int (nI sh), .int (nI mo), .int (nI ov), .int (nI nr), .ref io, .ref am, .ref en, .int (nI (nl + (eitP (facP (sgT tb ln) 1) (sgT tb ln) (p + 1)).2.2.length)), .ref sp])), (sp, eI D 100 (wr fs nl (eitP (facP (sgT tb ln) 1) (sgT tb ln) (p + 1)).2.2)), (txo, .inr (7, [.ref tsg, .int (nI ln), .int (nI (((eitP (facP (sgT tb ln) 1) (sgT tb ln) (p + 1)).1) + 1)), .int ((sgT tb ln) (((eitP (facP (sgT tb ln) 1) (sgT tb ln) (p + 1)).1) + 1))])), (tsg, eB D 100 tb)]) rfl rfl rfl rfl ?_
        refine v_iconst (v := 1) O dX7_nested_75 (by decide) ?_
        refine v_sub (ws' := [(txo, .inr (7, [.ref tsg, .int (nI ln), .int (nI (((eitP (facP (sgT tb ln) 1) (sgT tb ln) (p + 1)).1) + 1)), .int ((sgT tb ln) (((eitP (facP (sgT tb ln) 1) (sgT tb ln) (p + 1)).1) + 1))])), (tsg, eB D 100 tb), (vg, .inr (6, [.int (nI sh), .int (nI mo), .int (nI ov), .int (nI nr), .ref io, .ref am, .ref en, .int (nI (nl + (eitP (facP (sgT tb ln) 1) (sgT tb ln) (p + 1)).2.2.length)), .ref sp])), (sp, eI D 100 (wr fs nl (eitP (facP (sgT tb ln) 1) (sgT tb ln) (p + 1)).2.2))]) [2, 3, 0, 1] (by decide) rfl ?_
        exact v_ireturn O T rfl rfl (by decide) (by decide) dX7_nested_76 (⟨by unfold nesP; rw [if_neg z1, if_pos ⟨z2, z3⟩]; exact bT, by unfold nesP; rw [if_neg z1, if_pos ⟨z2, z3⟩]⟩)
      · skip
        refine v_iconst (v := 0) O dX7_nested_63 (by decide) ?_
        exact v_ireturn O T rfl rfl (by decide) (by decide) dX7_nested_64 (⟨by unfold nesP; rw [if_neg z1, if_neg (fun z9 => absurd z9.2 z3)]; exact bF, by unfold nesP; rw [if_neg z1, if_neg (fun z9 => absurd z9.2 z3)]⟩)
  · skip
    refine v_iconst (v := 1) O dX7_nested_9 (by decide) ?_
    refine v_goto O 14 dX7_nested_10 (by decide) ?_
    refine v_istore_n (lv' := [(0, .ref txo), (1, .ref vg), (2, .int 3), (3, .int 1)]) O dX7_nested_14 (by decide) rfl ?_
    refine v_aload_n O dX7_nested_15 0 rfl ?_
    refine v_aload_n O dX7_nested_16 0 rfl ?_
    refine gf_X7_19 O rfl dX7_nested_17 0 rfl rfl ?_
    refine v_iconst (v := 1) O dX7_nested_20 (by decide) ?_
    refine v_iadd O dX7_nested_21 ?_
    refine v_top (y := nI (p + 1)) (nI_add p 1) ?_
    refine v_cV (T := TX7) (ci := 7) (As := [.int (nI (p + 1))]) (wr := [(vg, .inr (6, [.int (nI sh), .int (nI mo), .int (nI ov), .int (nI nr), .ref io, .ref am, .ref en, .int (nI nl), .ref sp])), (sp, eI D 100 fs)]) (st := []) O cf_X7_30 rfl (sp_X7_goTo (txo := txo) (tsg := tsg) (ln := ln) (tb := tb) (pl := (nI p)) (si := ((sgT tb ln) p)) (q := (p + 1)) (hln) (by omega)) dX7_nested_22 rfl rfl 0 rfl [0, 1] [2, 3] (by decide) rfl rfl (by decide) (by decide) (by decide) (Nat.le_of_ble_eq_true rfl) (by decide) (by decide) (fun r_12 w_13 h_11 => ?_)
    obtain ⟨rfl, rfl⟩ := h_11
    refine v_eq (st' := []) (ws' := [(vg, .inr (6, [.int (nI sh), .int (nI mo), .int (nI ov), .int (nI nr), .ref io, .ref am, .ref en, .int (nI nl), .ref sp])), (sp, eI D 100 fs), (txo, .inr (7, [.ref tsg, .int (nI ln), .int (nI (p + 1)), .int ((sgT tb ln) (p + 1))])), (tsg, eB D 100 tb)]) rfl rfl rfl rfl ?_
    refine v_iload_n O dX7_nested_25 3 rfl ?_
    refine v_if_eq O 45 dX7_nested_26 (by decide) (fun c => absurd c (by decide)) (fun _ => ?_)
    refine v_aload_n O dX7_nested_29 0 rfl ?_
    refine v_aload_n O dX7_nested_30 1 rfl ?_
    refine v_iload_n O dX7_nested_31 2 rfl ?_
    refine v_cV (T := TX7) (ci := 7) (As := [.ref vg, .int 3]) (wr := []) (st := []) O cf_X7_87 rfl (sp_X7_factor_1 (txo := txo) (tsg := tsg) (ln := ln) (tb := tb) (vg := vg) (sh := sh) (mo := mo) (ov := ov) (nr := nr) (io := io) (am := am) (en := en) (nl := nl) (sp := sp) (fs := fs) (p := (p + 1)) (hln) (z_p) (by omega)) dX7_nested_32 rfl rfl 2 rfl [2, 3, 0, 1] [] (by decide) rfl rfl (by decide) (by decide) (by decide) (Nat.le_of_ble_eq_true rfl) (by decide) (by decide) (fun r_16 w_17 h_15 => ?_)
    obtain ⟨rfl, rfl⟩ := h_15
    refine v_eq (st' := [.int (b2i ((facP (sgT tb ln) 1 (p + 1)).2.1 = true))]) (ws' := [(txo, .inr (7, [.ref tsg, .int (nI ln), .int (nI ((facP (sgT tb ln) 1 (p + 1)).1)), .int ((sgT tb ln) ((facP (sgT tb ln) 1 (p + 1)).1))])), (tsg, eB D 100 tb), (vg, .inr (6, [.int (nI sh), .int (nI mo), .int (nI ov), .int (nI nr), .ref io, .ref am, .ref en, .int (nI (nl + (facP (sgT tb ln) 1 (p + 1)).2.2.length)), .ref sp])), (sp, eI D 100 (wr fs nl (facP (sgT tb ln) 1 (p + 1)).2.2))]) rfl rfl rfl rfl ?_
    refine v_istore (lv' := [(0, .ref txo), (1, .ref vg), (2, .int 3), (3, .int 1), (4, .int (b2i ((facP (sgT tb ln) 1 (p + 1)).2.1 = true)))]) O dX7_nested_35 (by decide) rfl ?_
    refine v_aload_n O dX7_nested_37 1 rfl ?_
    refine v_iconst (v := -1) O dX7_nested_38 (by decide) ?_
    refine v_cV (T := TX6) (ci := 6) (As := [.int (-1)]) (wr := [(txo, .inr (7, [.ref tsg, .int (nI ln), .int (nI ((facP (sgT tb ln) 1 (p + 1)).1)), .int ((sgT tb ln) ((facP (sgT tb ln) 1 (p + 1)).1))])), (tsg, eB D 100 tb)]) (st := []) O cf_X7_84 rfl (sp_X6_addStep (vg := vg) (sh := sh) (mo := mo) (ov := ov) (nr := nr) (io := io) (am := am) (en := en) (nl := (nl + (facP (sgT tb ln) 1 (p + 1)).2.2.length)) (sp := sp) (fs := (wr fs nl (facP (sgT tb ln) 1 (p + 1)).2.2)) (b := (-1)) (by omega)) dX7_nested_39 rfl rfl 2 rfl [2, 3] [0, 1] (by decide) rfl rfl (by decide) (by decide) (by decide) (Nat.le_of_ble_eq_true rfl) (by decide) (by decide) (fun r_19 w_20 h_18 => ?_)
    obtain ⟨rfl, rfl⟩ := h_18
    refine v_eq (st' := []) (ws' := [(txo, .inr (7, [.ref tsg, .int (nI ln), .int (nI ((facP (sgT tb ln) 1 (p + 1)).1)), .int ((sgT tb ln) ((facP (sgT tb ln) 1 (p + 1)).1))])), (tsg, eB D 100 tb), (vg, .inr (6, [.int (nI sh), .int (nI mo), .int (nI ov), .int (nI nr), .ref io, .ref am, .ref en, .int (nI ((nl + (facP (sgT tb ln) 1 (p + 1)).2.2.length) + 1)), .ref sp])), (sp, eI D 100 (upd (wr fs nl (facP (sgT tb ln) 1 (p + 1)).2.2) (nl + (facP (sgT tb ln) 1 (p + 1)).2.2.length) (-1)))]) rfl rfl rfl rfl ?_
    refine v_eq (ws' := [(txo, .inr (7, [.ref tsg, .int (nI ln), .int (nI ((facP (sgT tb ln) 1 (p + 1)).1)), .int ((sgT tb ln) ((facP (sgT tb ln) 1 (p + 1)).1))])), (tsg, eB D 100 tb), (vg, .inr (6, [.int (nI sh), .int (nI mo), .int (nI ov), .int (nI nr), .ref io, .ref am, .ref en, .int (nI (nl + (((facP (sgT tb ln) 1) (p + 1)).2.2 ++ [-1]).length)), .ref sp])), (sp, eI D 100 (wr fs nl (((facP (sgT tb ln) 1) (p + 1)).2.2 ++ [-1])))]) rfl rfl rfl (by rw [wr_2, wl_2]) ?_
    refine v_iload O dX7_nested_42 4 rfl ?_
    exact v_ireturn O T rfl (nrb _) (by decide) (by decide) dX7_nested_44 (⟨by unfold nesP; rw [if_pos z1], by unfold nesP; rw [if_pos z1]⟩)
set_option maxRecDepth 100000 in
set_option maxHeartbeats 4000000 in
theorem sp_X7_factor_2 {D : G} {txo : Nat} {tsg : Nat} {ln : Nat} {tb : Nat → Int32} {vg : Nat} {sh : Nat} {mo : Nat} {ov : Nat} {nr : Nat} {io : Nat} {am : Nat} {en : Nat} {nl : Nat} {sp : Nat} {fs : Nat → Int32} {p : Nat} (hln : ln ≤ 100) (hp : p ≤ ln) (hnl : nl ≤ p) : Sp D mX7_factor 13 0 0 [.ref txo, .ref vg, .int 2] [(txo, .inr (7, [.ref tsg, .int (nI ln), .int (nI p), .int ((sgT tb ln) p)])), (tsg, eB D 100 tb), (vg, .inr (6, [.int (nI sh), .int (nI mo), .int (nI ov), .int (nI nr), .ref io, .ref am, .ref en, .int (nI nl), .ref sp])), (sp, eI D 100 fs)] (fun r w => r = some (.int (b2i ((facP (sgT tb ln) 2 p).2.1 = true))) ∧ w = [(txo, .inr (7, [.ref tsg, .int (nI ln), .int (nI ((facP (sgT tb ln) 2 p).1)), .int ((sgT tb ln) ((facP (sgT tb ln) 2 p).1))])), (tsg, eB D 100 tb), (vg, .inr (6, [.int (nI sh), .int (nI mo), .int (nI ov), .int (nI nr), .ref io, .ref am, .ref en, .int (nI (nl + (facP (sgT tb ln) 2 p).2.2.length)), .ref sp])), (sp, eI D 100 (wr fs nl (facP (sgT tb ln) 2 p).2.2))]) := by
  refine Sp.of (by decide) (Nat.le_of_ble_eq_true rfl) (fun X O T => ?_)
  refine v_eq (lv' := [(0, .ref txo), (1, .ref vg), (2, .int 2)]) rfl rfl rfl rfl ?_
  refine v_aload_n O dX7_factor_0 0 rfl ?_
  refine gf_X7_22 O rfl dX7_factor_1 0 rfl rfl ?_
  refine v_bipush (v := 40) O dX7_factor_4 (by decide) ?_
  refine v_icmp_eq O 18 dX7_factor_6 (by decide) (fun z1 => ?_) (fun z1 => ?_)
  · skip
    have z_n : (sgT tb ln) p = 40 ∨ (sgT tb ln) p = 33 := Or.inl z1
    refine v_iload_n O dX7_factor_18 2 rfl ?_
    refine v_iconst (v := 4) O dX7_factor_19 (by decide) ?_
    refine v_icmp_ge O 38 dX7_factor_20 (by decide) (fun c => absurd c (by decide)) (fun _ => ?_)
    refine v_aload_n O dX7_factor_23 0 rfl ?_
    refine v_aload_n O dX7_factor_24 1 rfl ?_
    refine v_iload_n O dX7_factor_25 2 rfl ?_
    refine v_iconst (v := 1) O dX7_factor_26 (by decide) ?_
    refine v_iadd O dX7_factor_27 ?_
    refine v_top (y := nI 3) rfl ?_
    refine v_cV (T := TX7) (ci := 7) (As := [.ref vg, .int (nI 3)]) (wr := []) (st := []) O cf_X7_90 rfl (sp_X7_nested_1 (txo := txo) (tsg := tsg) (ln := ln) (tb := tb) (vg := vg) (sh := sh) (mo := mo) (ov := ov) (nr := nr) (io := io) (am := am) (en := en) (nl := nl) (sp := sp) (fs := fs) (p := p) (hln) (hp) (hnl) (z_n)) dX7_factor_28 rfl rfl 0 rfl [0, 1, 2, 3] [] (by decide) rfl rfl (by decide) (by decide) (by decide) (Nat.le_of_ble_eq_true rfl) (by decide) (by decide) (fun r_3 w_4 h_2 => ?_)
    obtain ⟨rfl, rfl⟩ := h_2
    refine v_eq (st' := [.int (b2i ((nesP (facP (sgT tb ln) 1) (sgT tb ln) p).2.1 = true))]) (ws' := [(txo, .inr (7, [.ref tsg, .int (nI ln), .int (nI ((nesP (facP (sgT tb ln) 1) (sgT tb ln) p).1)), .int ((sgT tb ln) ((nesP (facP (sgT tb ln) 1) (sgT tb ln) p).1))])), (tsg, eB D 100 tb), (vg, .inr (6, [.int (nI sh), .int (nI mo), .int (nI ov), .int (nI nr), .ref io, .ref am, .ref en, .int (nI (nl + (nesP (facP (sgT tb ln) 1) (sgT tb ln) p).2.2.length)), .ref sp])), (sp, eI D 100 (wr fs nl (nesP (facP (sgT tb ln) 1) (sgT tb ln) p).2.2))]) rfl rfl rfl rfl ?_
    refine v_if_eq O 38 dX7_factor_31 (by decide) (fun z4 => ?_) (fun z4 => ?_)
    · skip
      have z4 := b2i_0.mp z4
      refine v_iconst (v := 0) O dX7_factor_38 (by decide) ?_
      exact v_ireturn O T rfl rfl (by decide) (by decide) dX7_factor_39 (⟨by rw [facP_n (f := 1) z_n, b2i_f z4], by rw [facP_n (f := 1) z_n]⟩)
    · skip
      have z4 := b2i_1.mp z4
      refine v_iconst (v := 1) O dX7_factor_34 (by decide) ?_
      refine v_goto O 39 dX7_factor_35 (by decide) ?_
      exact v_ireturn O T rfl rfl (by decide) (by decide) dX7_factor_39 (⟨by rw [facP_n (f := 1) z_n, b2i_t z4], by rw [facP_n (f := 1) z_n]⟩)
  · skip
    refine v_aload_n O dX7_factor_9 0 rfl ?_
    refine gf_X7_22 O rfl dX7_factor_10 0 rfl rfl ?_
    refine v_bipush (v := 33) O dX7_factor_13 (by decide) ?_
    refine v_icmp_ne O 40 dX7_factor_15 (by decide) (fun z2 => ?_) (fun z2 => ?_)
    · skip
      have z_t : ¬ ((sgT tb ln) p = 40 ∨ (sgT tb ln) p = 33) := fun z9 => z9.elim z1 z2
      refine v_ldcS O 5 (by decide) rfl dX7_factor_40 ?_
      refine v_aload_n O dX7_factor_42 0 rfl ?_
      refine gf_X7_22 O rfl dX7_factor_43 0 rfl rfl ?_
      refine v_cS (As := [.ref (D.2.2 (10 + 5)), .int ((sgT tb ln) p)]) (wr := [(txo, .inr (7, [.ref tsg, .int (nI ln), .int (nI p), .int ((sgT tb ln) p)])), (tsg, eB D 100 tb), (vg, .inr (6, [.int (nI sh), .int (nI mo), .int (nI ov), .int (nI nr), .ref io, .ref am, .ref en, .int (nI nl), .ref sp])), (sp, eI D 100 fs)]) (st := []) O cf_X7_95 (sp_X7_indexIn_5 (x := ((sgT tb ln) p)) ) dX7_factor_46 rfl rfl [] [0, 1, 2, 3] (by decide) rfl rfl (by decide) (by decide) (by decide) (Nat.le_of_ble_eq_true rfl) (by decide) (by decide) (fun r_6 w_7 h_5 => ?_)
      obtain ⟨rfl, rfl⟩ := h_5
      refine v_eq (st' := [.int (ixL ((sgT tb ln) p))]) (ws' := [(txo, .inr (7, [.ref tsg, .int (nI ln), .int (nI p), .int ((sgT tb ln) p)])), (tsg, eB D 100 tb), (vg, .inr (6, [.int (nI sh), .int (nI mo), .int (nI ov), .int (nI nr), .ref io, .ref am, .ref en, .int (nI nl), .ref sp])), (sp, eI D 100 fs)]) rfl rfl rfl rfl ?_
      refine v_istore_n (lv' := [(0, .ref txo), (1, .ref vg), (2, .int 2), (3, .int (ixL ((sgT tb ln) p)))]) O dX7_factor_49 (by decide) rfl ?_
      refine v_iload_n O dX7_factor_50 3 rfl ?_
      refine v_if_ge O 56 dX7_factor_51 (by decide) (fun z5 => ?_) (fun z5 => ?_)
      · skip
        have z5 := Int32.not_lt.mpr z5
        refine v_aload_n O dX7_factor_56 0 rfl ?_
        refine v_aload_n O dX7_factor_57 0 rfl ?_
        refine gf_X7_19 O rfl dX7_factor_58 0 rfl rfl ?_
        refine v_iconst (v := 1) O dX7_factor_61 (by decide) ?_
        refine v_iadd O dX7_factor_62 ?_
        refine v_top (y := nI (p + 1)) (nI_add p 1) ?_
        refine v_cV (T := TX7) (ci := 7) (As := [.int (nI (p + 1))]) (wr := [(vg, .inr (6, [.int (nI sh), .int (nI mo), .int (nI ov), .int (nI nr), .ref io, .ref am, .ref en, .int (nI nl), .ref sp])), (sp, eI D 100 fs)]) (st := []) O cf_X7_30 rfl (sp_X7_goTo (txo := txo) (tsg := tsg) (ln := ln) (tb := tb) (pl := (nI p)) (si := ((sgT tb ln) p)) (q := (p + 1)) (hln) (by omega)) dX7_factor_63 rfl rfl 0 rfl [0, 1] [2, 3] (by decide) rfl rfl (by decide) (by decide) (by decide) (Nat.le_of_ble_eq_true rfl) (by decide) (by decide) (fun r_9 w_10 h_8 => ?_)
        obtain ⟨rfl, rfl⟩ := h_8
        refine v_eq (st' := []) (ws' := [(vg, .inr (6, [.int (nI sh), .int (nI mo), .int (nI ov), .int (nI nr), .ref io, .ref am, .ref en, .int (nI nl), .ref sp])), (sp, eI D 100 fs), (txo, .inr (7, [.ref tsg, .int (nI ln), .int (nI (p + 1)), .int ((sgT tb ln) (p + 1))])), (tsg, eB D 100 tb)]) rfl rfl rfl rfl ?_
        refine v_ldcS O 6 (by decide) rfl dX7_factor_66 ?_
        refine v_aload_n O dX7_factor_68 0 rfl ?_
        refine gf_X7_22 O rfl dX7_factor_69 2 rfl rfl ?_
        refine v_cS (As := [.ref (D.2.2 (10 + 6)), .int ((sgT tb ln) (p + 1))]) (wr := [(vg, .inr (6, [.int (nI sh), .int (nI mo), .int (nI ov), .int (nI nr), .ref io, .ref am, .ref en, .int (nI nl), .ref sp])), (sp, eI D 100 fs), (txo, .inr (7, [.ref tsg, .int (nI ln), .int (nI (p + 1)), .int ((sgT tb ln) (p + 1))])), (tsg, eB D 100 tb)]) (st := []) O cf_X7_95 (sp_X7_indexIn_6 (x := ((sgT tb ln) (p + 1))) ) dX7_factor_72 rfl rfl [] [0, 1, 2, 3] (by decide) rfl rfl (by decide) (by decide) (by decide) (Nat.le_of_ble_eq_true rfl) (by decide) (by decide) (fun r_12 w_13 h_11 => ?_)
        obtain ⟨rfl, rfl⟩ := h_11
        refine v_eq (st' := [.int (ixR ((sgT tb ln) (p + 1)))]) (ws' := [(vg, .inr (6, [.int (nI sh), .int (nI mo), .int (nI ov), .int (nI nr), .ref io, .ref am, .ref en, .int (nI nl), .ref sp])), (sp, eI D 100 fs), (txo, .inr (7, [.ref tsg, .int (nI ln), .int (nI (p + 1)), .int ((sgT tb ln) (p + 1))])), (tsg, eB D 100 tb)]) rfl rfl rfl rfl ?_
        refine v_istore (lv' := [(0, .ref txo), (1, .ref vg), (2, .int 2), (3, .int (ixL ((sgT tb ln) p))), (4, .int (ixR ((sgT tb ln) (p + 1))))]) O dX7_factor_75 (by decide) rfl ?_
        refine v_iload O dX7_factor_77 4 rfl ?_
        refine v_if_ge O 84 dX7_factor_79 (by decide) (fun z6 => ?_) (fun z6 => ?_)
        · skip
          have z6 := Int32.not_lt.mpr z6
          refine v_aload_n O dX7_factor_84 0 rfl ?_
          refine v_aload_n O dX7_factor_85 0 rfl ?_
          refine gf_X7_19 O rfl dX7_factor_86 2 rfl rfl ?_
          refine v_iconst (v := 1) O dX7_factor_89 (by decide) ?_
          refine v_iadd O dX7_factor_90 ?_
          refine v_top (y := nI ((p + 1) + 1)) (nI_add (p + 1) 1) ?_
          refine v_cV (T := TX7) (ci := 7) (As := [.int (nI ((p + 1) + 1))]) (wr := [(vg, .inr (6, [.int (nI sh), .int (nI mo), .int (nI ov), .int (nI nr), .ref io, .ref am, .ref en, .int (nI nl), .ref sp])), (sp, eI D 100 fs)]) (st := []) O cf_X7_30 rfl (sp_X7_goTo (txo := txo) (tsg := tsg) (ln := ln) (tb := tb) (pl := (nI (p + 1))) (si := ((sgT tb ln) (p + 1))) (q := ((p + 1) + 1)) (hln) (by omega)) dX7_factor_91 rfl rfl 2 rfl [2, 3] [0, 1] (by decide) rfl rfl (by decide) (by decide) (by decide) (Nat.le_of_ble_eq_true rfl) (by decide) (by decide) (fun r_15 w_16 h_14 => ?_)
          obtain ⟨rfl, rfl⟩ := h_14
          refine v_eq (st' := []) (ws' := [(vg, .inr (6, [.int (nI sh), .int (nI mo), .int (nI ov), .int (nI nr), .ref io, .ref am, .ref en, .int (nI nl), .ref sp])), (sp, eI D 100 fs), (txo, .inr (7, [.ref tsg, .int (nI ln), .int (nI ((p + 1) + 1)), .int ((sgT tb ln) ((p + 1) + 1))])), (tsg, eB D 100 tb)]) rfl rfl rfl rfl ?_
          refine v_aload_n O dX7_factor_94 0 rfl ?_
          by_cases z7 : isd ((sgT tb ln) (p + 1 + 1))
          · skip
            refine v_cV (T := TX7) (ci := 7) (As := []) (wr := [(vg, .inr (6, [.int (nI sh), .int (nI mo), .int (nI ov), .int (nI nr), .ref io, .ref am, .ref en, .int (nI nl), .ref sp])), (sp, eI D 100 fs)]) (st := []) O cf_X7_42 rfl (sp_X7_number_t (txo := txo) (tsg := tsg) (ln := ln) (tb := tb) (p := ((p + 1) + 1)) (hln) (z7)) dX7_factor_95 rfl rfl 2 rfl [2, 3] [0, 1] (by decide) rfl rfl (by decide) (by decide) (by decide) (Nat.le_of_ble_eq_true rfl) (by decide) (by decide) (fun r_17 w_18 h_nt => ?_)
            obtain ⟨rfl, rfl⟩ := h_nt
            refine v_eq (st' := [.int (nI (numN (sgT tb ln) ((p + 1) + 1)))]) (ws' := [(vg, .inr (6, [.int (nI sh), .int (nI mo), .int (nI ov), .int (nI nr), .ref io, .ref am, .ref en, .int (nI nl), .ref sp])), (sp, eI D 100 fs), (txo, .inr (7, [.ref tsg, .int (nI ln), .int (nI (numE (sgT tb ln) ((p + 1) + 1))), .int ((sgT tb ln) (numE (sgT tb ln) ((p + 1) + 1)))])), (tsg, eB D 100 tb)]) rfl rfl rfl rfl ?_
            refine v_istore (lv' := [(0, .ref txo), (1, .ref vg), (2, .int 2), (3, .int (ixL ((sgT tb ln) p))), (4, .int (ixR ((sgT tb ln) (p + 1)))), (5, .int (nI (numN (sgT tb ln) ((p + 1) + 1))))]) O dX7_factor_98 (by decide) rfl ?_
            refine v_iload O dX7_factor_100 5 rfl ?_
            have z_le := numN_le z7
            refine v_if_ge O 107 dX7_factor_102 (by decide) (fun _ => ?_) (fun c => absurd (Int32.not_lt.mp (nI_pos (by omega))) c)
            refine v_aload_n O dX7_factor_107 1 rfl ?_
            refine v_iload_n O dX7_factor_108 3 rfl ?_
            refine v_iconst (v := 3) O dX7_factor_109 (by decide) ?_
            refine v_imul O dX7_factor_110 ?_
            refine v_iload O dX7_factor_111 4 rfl ?_
            refine v_iadd O dX7_factor_113 ?_
            refine v_bipush (v := 100) O dX7_factor_114 (by decide) ?_
            refine v_imul O dX7_factor_116 ?_
            refine v_iload O dX7_factor_117 5 rfl ?_
            refine v_iadd O dX7_factor_119 ?_
            refine v_cV (T := TX6) (ci := 6) (As := [.int (((((ixL ((sgT tb ln) p)) * 3) + (ixR ((sgT tb ln) (p + 1)))) * 100) + (nI (numN (sgT tb ln) ((p + 1) + 1))))]) (wr := [(txo, .inr (7, [.ref tsg, .int (nI ln), .int (nI (numE (sgT tb ln) ((p + 1) + 1))), .int ((sgT tb ln) (numE (sgT tb ln) ((p + 1) + 1)))])), (tsg, eB D 100 tb)]) (st := []) O cf_X7_84 rfl (sp_X6_addStep (vg := vg) (sh := sh) (mo := mo) (ov := ov) (nr := nr) (io := io) (am := am) (en := en) (nl := nl) (sp := sp) (fs := fs) (b := (((((ixL ((sgT tb ln) p)) * 3) + (ixR ((sgT tb ln) (p + 1)))) * 100) + (nI (numN (sgT tb ln) ((p + 1) + 1))))) (by have := isd_lt z7; omega)) dX7_factor_120 rfl rfl 0 rfl [0, 1] [2, 3] (by decide) rfl rfl (by decide) (by decide) (by decide) (Nat.le_of_ble_eq_true rfl) (by decide) (by decide) (fun r_20 w_21 h_19 => ?_)
            obtain ⟨rfl, rfl⟩ := h_19
            refine v_eq (st' := []) (ws' := [(txo, .inr (7, [.ref tsg, .int (nI ln), .int (nI (numE (sgT tb ln) ((p + 1) + 1))), .int ((sgT tb ln) (numE (sgT tb ln) ((p + 1) + 1)))])), (tsg, eB D 100 tb), (vg, .inr (6, [.int (nI sh), .int (nI mo), .int (nI ov), .int (nI nr), .ref io, .ref am, .ref en, .int (nI (nl + 1)), .ref sp])), (sp, eI D 100 (upd fs nl (((((ixL ((sgT tb ln) p)) * 3) + (ixR ((sgT tb ln) (p + 1)))) * 100) + (nI (numN (sgT tb ln) ((p + 1) + 1))))))]) rfl rfl rfl rfl ?_
            refine v_iconst (v := 1) O dX7_factor_123 (by decide) ?_
            exact v_ireturn O T rfl rfl (by decide) (by decide) dX7_factor_124 (⟨by rw [facP_t z_t]; unfold tstP; rw [if_neg z5, if_neg z6, if_pos z7]; exact bT, by rw [facP_t z_t]; unfold tstP; rw [if_neg z5, if_neg z6, if_pos z7]; rfl⟩)
          · skip
            refine v_cV (T := TX7) (ci := 7) (As := []) (wr := [(vg, .inr (6, [.int (nI sh), .int (nI mo), .int (nI ov), .int (nI nr), .ref io, .ref am, .ref en, .int (nI nl), .ref sp])), (sp, eI D 100 fs)]) (st := []) O cf_X7_42 rfl (sp_X7_number_f (txo := txo) (tsg := tsg) (ln := ln) (tb := tb) (p := ((p + 1) + 1)) (z7)) dX7_factor_95 rfl rfl 2 rfl [2, 3] [0, 1] (by decide) rfl rfl (by decide) (by decide) (by decide) (Nat.le_of_ble_eq_true rfl) (by decide) (by decide) (fun r_22 w_23 h_nf => ?_)
            obtain ⟨rfl, rfl⟩ := h_nf
            refine v_eq (st' := [.int (-1)]) (ws' := [(vg, .inr (6, [.int (nI sh), .int (nI mo), .int (nI ov), .int (nI nr), .ref io, .ref am, .ref en, .int (nI nl), .ref sp])), (sp, eI D 100 fs), (txo, .inr (7, [.ref tsg, .int (nI ln), .int (nI ((p + 1) + 1)), .int ((sgT tb ln) ((p + 1) + 1))])), (tsg, eB D 100 tb)]) rfl rfl rfl rfl ?_
            refine v_istore (lv' := [(0, .ref txo), (1, .ref vg), (2, .int 2), (3, .int (ixL ((sgT tb ln) p))), (4, .int (ixR ((sgT tb ln) (p + 1)))), (5, .int (-1))]) O dX7_factor_98 (by decide) rfl ?_
            refine v_iload O dX7_factor_100 5 rfl ?_
            refine v_if_ge O 107 dX7_factor_102 (by decide) (fun c => absurd c (by decide)) (fun _ => ?_)
            refine v_iconst (v := 0) O dX7_factor_105 (by decide) ?_
            refine v_sub (ws' := [(txo, .inr (7, [.ref tsg, .int (nI ln), .int (nI ((p + 1) + 1)), .int ((sgT tb ln) ((p + 1) + 1))])), (tsg, eB D 100 tb), (vg, .inr (6, [.int (nI sh), .int (nI mo), .int (nI ov), .int (nI nr), .ref io, .ref am, .ref en, .int (nI nl), .ref sp])), (sp, eI D 100 fs)]) [2, 3, 0, 1] (by decide) rfl ?_
            exact v_ireturn O T rfl rfl (by decide) (by decide) dX7_factor_106 (⟨by rw [facP_t z_t]; unfold tstP; rw [if_neg z5, if_neg z6, if_neg z7]; exact bF, by rw [facP_t z_t]; unfold tstP; rw [if_neg z5, if_neg z6, if_neg z7]; rfl⟩)
        · skip
          have z6 := Int32.not_le.mp z6
          refine v_iconst (v := 0) O dX7_factor_82 (by decide) ?_
          refine v_sub (ws' := [(txo, .inr (7, [.ref tsg, .int (nI ln), .int (nI (p + 1)), .int ((sgT tb ln) (p + 1))])), (tsg, eB D 100 tb), (vg, .inr (6, [.int (nI sh), .int (nI mo), .int (nI ov), .int (nI nr), .ref io, .ref am, .ref en, .int (nI nl), .ref sp])), (sp, eI D 100 fs)]) [2, 3, 0, 1] (by decide) rfl ?_
          exact v_ireturn O T rfl rfl (by decide) (by decide) dX7_factor_83 (⟨by rw [facP_t z_t]; unfold tstP; rw [if_neg z5, if_pos z6]; exact bF, by rw [facP_t z_t]; unfold tstP; rw [if_neg z5, if_pos z6]; rfl⟩)
      · skip
        have z5 := Int32.not_le.mp z5
        have z5 : ixL ((sgT tb ln) p) < 0 := z5
        refine v_iconst (v := 0) O dX7_factor_54 (by decide) ?_
        exact v_ireturn O T rfl rfl (by decide) (by decide) dX7_factor_55 (⟨by rw [facP_t z_t]; unfold tstP; rw [if_pos z5]; exact bF, by rw [facP_t z_t]; unfold tstP; rw [if_pos z5]; rfl⟩)
    · skip
      have z_n : (sgT tb ln) p = 40 ∨ (sgT tb ln) p = 33 := Or.inr z2
      refine v_iload_n O dX7_factor_18 2 rfl ?_
      refine v_iconst (v := 4) O dX7_factor_19 (by decide) ?_
      refine v_icmp_ge O 38 dX7_factor_20 (by decide) (fun c => absurd c (by decide)) (fun _ => ?_)
      refine v_aload_n O dX7_factor_23 0 rfl ?_
      refine v_aload_n O dX7_factor_24 1 rfl ?_
      refine v_iload_n O dX7_factor_25 2 rfl ?_
      refine v_iconst (v := 1) O dX7_factor_26 (by decide) ?_
      refine v_iadd O dX7_factor_27 ?_
      refine v_top (y := nI 3) rfl ?_
      refine v_cV (T := TX7) (ci := 7) (As := [.ref vg, .int (nI 3)]) (wr := []) (st := []) O cf_X7_90 rfl (sp_X7_nested_1 (txo := txo) (tsg := tsg) (ln := ln) (tb := tb) (vg := vg) (sh := sh) (mo := mo) (ov := ov) (nr := nr) (io := io) (am := am) (en := en) (nl := nl) (sp := sp) (fs := fs) (p := p) (hln) (hp) (hnl) (z_n)) dX7_factor_28 rfl rfl 0 rfl [0, 1, 2, 3] [] (by decide) rfl rfl (by decide) (by decide) (by decide) (Nat.le_of_ble_eq_true rfl) (by decide) (by decide) (fun r_26 w_27 h_25 => ?_)
      obtain ⟨rfl, rfl⟩ := h_25
      refine v_eq (st' := [.int (b2i ((nesP (facP (sgT tb ln) 1) (sgT tb ln) p).2.1 = true))]) (ws' := [(txo, .inr (7, [.ref tsg, .int (nI ln), .int (nI ((nesP (facP (sgT tb ln) 1) (sgT tb ln) p).1)), .int ((sgT tb ln) ((nesP (facP (sgT tb ln) 1) (sgT tb ln) p).1))])), (tsg, eB D 100 tb), (vg, .inr (6, [.int (nI sh), .int (nI mo), .int (nI ov), .int (nI nr), .ref io, .ref am, .ref en, .int (nI (nl + (nesP (facP (sgT tb ln) 1) (sgT tb ln) p).2.2.length)), .ref sp])), (sp, eI D 100 (wr fs nl (nesP (facP (sgT tb ln) 1) (sgT tb ln) p).2.2))]) rfl rfl rfl rfl ?_
      refine v_if_eq O 38 dX7_factor_31 (by decide) (fun z4 => ?_) (fun z4 => ?_)
      · skip
        have z4 := b2i_0.mp z4
        refine v_iconst (v := 0) O dX7_factor_38 (by decide) ?_
        exact v_ireturn O T rfl rfl (by decide) (by decide) dX7_factor_39 (⟨by rw [facP_n (f := 1) z_n, b2i_f z4], by rw [facP_n (f := 1) z_n]⟩)
      · skip
        have z4 := b2i_1.mp z4
        refine v_iconst (v := 1) O dX7_factor_34 (by decide) ?_
        refine v_goto O 39 dX7_factor_35 (by decide) ?_
        exact v_ireturn O T rfl rfl (by decide) (by decide) dX7_factor_39 (⟨by rw [facP_n (f := 1) z_n, b2i_t z4], by rw [facP_n (f := 1) z_n]⟩)
set_option maxRecDepth 100000 in
set_option maxHeartbeats 4000000 in
theorem l_X7_both_2 {D : G} {X : CX} {txo : Nat} {tsg : Nat} {ln : Nat} {tb : Nat → Int32} {vg : Nat} {sh : Nat} {mo : Nat} {ov : Nat} {nr : Nat} {io : Nat} {am : Nat} {en : Nat} {nl : Nat} {sp : Nat} {fs : Nat → Int32} {p : Nat} (O : Ok D X mX7_both 14 0 0) (hln : ln ≤ 100) (hp : p ≤ ln) (hnl : nl ≤ p) (T : Rt D X (fun r w => r = some (.int (b2i ((botP (facP (sgT tb ln) 2) (sgT tb ln) p).2.1 = true))) ∧ w = [(txo, .inr (7, [.ref tsg, .int (nI ln), .int (nI ((botP (facP (sgT tb ln) 2) (sgT tb ln) p).1)), .int ((sgT tb ln) ((botP (facP (sgT tb ln) 2) (sgT tb ln) p).1))])), (tsg, eB D 100 tb), (vg, .inr (6, [.int (nI sh), .int (nI mo), .int (nI ov), .int (nI nr), .ref io, .ref am, .ref en, .int (nI (nl + (botP (facP (sgT tb ln) 2) (sgT tb ln) p).2.2.length)), .ref sp])), (sp, eI D 100 (wr fs nl (botP (facP (sgT tb ln) 2) (sgT tb ln) p).2.2))]) 0 0) : ∀ (t i : Nat), i + t = 100 → ∀ r : Res, botP (facP (sgT tb ln) 2) (sgT tb ln) p = chn (facP (sgT tb ln) 2) (sgT tb ln) 38 (-2) t r → p + r.2.2.length ≤ r.1 ∧ r.1 ≤ ln → V D X 0 0 10 [(0, .ref txo), (1, .ref vg), (2, .int 2), (3, .int (b2i (r.2.1 = true))), (4, .int (nI i))] [] [(txo, .inr (7, [.ref tsg, .int (nI ln), .int (nI r.1), .int ((sgT tb ln) r.1)])), (tsg, eB D 100 tb), (vg, .inr (6, [.int (nI sh), .int (nI mo), .int (nI ov), .int (nI nr), .ref io, .ref am, .ref en, .int (nI (nl + r.2.2.length)), .ref sp])), (sp, eI D 100 (wr fs nl r.2.2))] := by
  intro t
  induction t with
  | zero =>
    intro i hi r hF hr
    refine v_iload O dX7_both_10 4 rfl ?_
    refine v_bipush (v := 100) O dX7_both_12 (by decide) ?_
    refine v_icmp_ge O 59 dX7_both_14 (by decide) (fun z1 => ?_) (fun z1 => ?_)
    · skip
      have z1 := (c_le' (x := nI i) (y := 100) (a := i) (b := 100) rfl rfl (by omega) (by omega)).mp z1
      refine v_iload_n O dX7_both_59 3 rfl ?_
      exact v_ireturn O T rfl (nrb _) (by decide) (by decide) dX7_both_60 (⟨by rw [hF, chn], by rw [hF, chn]⟩)
    · skip
      have z1 := (not_congr (c_le' (x := nI i) (y := 100) (a := i) (b := 100) rfl rfl (by omega) (by omega))).mp z1
      exact absurd z1 (by omega)
  | succ t ih =>
    intro i hi r hF hr
    refine v_iload O dX7_both_10 4 rfl ?_
    refine v_bipush (v := 100) O dX7_both_12 (by decide) ?_
    refine v_icmp_ge O 59 dX7_both_14 (by decide) (fun z1 => ?_) (fun z1 => ?_)
    · skip
      have z1 := (c_le' (x := nI i) (y := 100) (a := i) (b := 100) rfl rfl (by omega) (by omega)).mp z1
      exact absurd z1 (by omega)
    · skip
      have z1 := (not_congr (c_le' (x := nI i) (y := 100) (a := i) (b := 100) rfl rfl (by omega) (by omega))).mp z1
      refine v_iload_n O dX7_both_17 3 rfl ?_
      refine v_if_eq O 59 dX7_both_18 (by decide) (fun z2 => ?_) (fun z2 => ?_)
      · skip
        have z2 := b2i_0.mp z2
        refine v_iload_n O dX7_both_59 3 rfl ?_
        exact v_ireturn O T rfl (nrb _) (by decide) (by decide) dX7_both_60 (⟨by rw [hF, chn_n (fun z9 => absurd z9.1 z2)], by rw [hF, chn_n (fun z9 => absurd z9.1 z2)]⟩)
      · skip
        have z2 := b2i_1.mp z2
        refine v_aload_n O dX7_both_21 0 rfl ?_
        refine gf_X7_22 O rfl dX7_both_22 0 rfl rfl ?_
        refine v_bipush (v := 38) O dX7_both_25 (by decide) ?_
        refine v_icmp_ne O 59 dX7_both_27 (by decide) (fun z3 => ?_) (fun z3 => ?_)
        · skip
          refine v_iload_n O dX7_both_59 3 rfl ?_
          exact v_ireturn O T rfl (nrb _) (by decide) (by decide) dX7_both_60 (⟨by rw [hF, chn_n (fun z9 => absurd z9.2 z3)], by rw [hF, chn_n (fun z9 => absurd z9.2 z3)]⟩)
        · skip
          have z_p := sgT_lt z3 (by decide)
          have z_g := fac_ok (tb := tb) (ln := ln) 2 (r.1 + 1) z_p
          refine v_aload_n O dX7_both_30 0 rfl ?_
          refine v_aload_n O dX7_both_31 0 rfl ?_
          refine gf_X7_19 O rfl dX7_both_32 0 rfl rfl ?_
          refine v_iconst (v := 1) O dX7_both_35 (by decide) ?_
          refine v_iadd O dX7_both_36 ?_
          refine v_top (y := nI (r.1 + 1)) (nI_add r.1 1) ?_
          refine v_cV (T := TX7) (ci := 7) (As := [.int (nI (r.1 + 1))]) (wr := [(vg, .inr (6, [.int (nI sh), .int (nI mo), .int (nI ov), .int (nI nr), .ref io, .ref am, .ref en, .int (nI (nl + r.2.2.length)), .ref sp])), (sp, eI D 100 (wr fs nl r.2.2))]) (st := []) O cf_X7_30 rfl (sp_X7_goTo (txo := txo) (tsg := tsg) (ln := ln) (tb := tb) (pl := (nI r.1)) (si := ((sgT tb ln) r.1)) (q := (r.1 + 1)) (hln) (by omega)) dX7_both_37 rfl rfl 0 rfl [0, 1] [2, 3] (by decide) rfl rfl (by decide) (by decide) (by decide) (Nat.le_of_ble_eq_true rfl) (by decide) (by decide) (fun r_2 w_3 h_1 => ?_)
          obtain ⟨rfl, rfl⟩ := h_1
          refine v_eq (st' := []) (ws' := [(vg, .inr (6, [.int (nI sh), .int (nI mo), .int (nI ov), .int (nI nr), .ref io, .ref am, .ref en, .int (nI (nl + r.2.2.length)), .ref sp])), (sp, eI D 100 (wr fs nl r.2.2)), (txo, .inr (7, [.ref tsg, .int (nI ln), .int (nI (r.1 + 1)), .int ((sgT tb ln) (r.1 + 1))])), (tsg, eB D 100 tb)]) rfl rfl rfl rfl ?_
          refine v_aload_n O dX7_both_40 0 rfl ?_
          refine v_aload_n O dX7_both_41 1 rfl ?_
          refine v_iload_n O dX7_both_42 2 rfl ?_
          refine v_cV (T := TX7) (ci := 7) (As := [.ref vg, .int 2]) (wr := []) (st := []) O cf_X7_87 rfl (sp_X7_factor_2 (txo := txo) (tsg := tsg) (ln := ln) (tb := tb) (vg := vg) (sh := sh) (mo := mo) (ov := ov) (nr := nr) (io := io) (am := am) (en := en) (nl := (nl + r.2.2.length)) (sp := sp) (fs := (wr fs nl r.2.2)) (p := (r.1 + 1)) (hln) (by omega) (by omega)) dX7_both_43 rfl rfl 2 rfl [2, 3, 0, 1] [] (by decide) rfl rfl (by decide) (by decide) (by decide) (Nat.le_of_ble_eq_true rfl) (by decide) (by decide) (fun r_5 w_6 h_4 => ?_)
          obtain ⟨rfl, rfl⟩ := h_4
          refine v_eq (st' := [.int (b2i ((facP (sgT tb ln) 2 (r.1 + 1)).2.1 = true))]) (ws' := [(txo, .inr (7, [.ref tsg, .int (nI ln), .int (nI ((facP (sgT tb ln) 2 (r.1 + 1)).1)), .int ((sgT tb ln) ((facP (sgT tb ln) 2 (r.1 + 1)).1))])), (tsg, eB D 100 tb), (vg, .inr (6, [.int (nI sh), .int (nI mo), .int (nI ov), .int (nI nr), .ref io, .ref am, .ref en, .int (nI ((nl + r.2.2.length) + (facP (sgT tb ln) 2 (r.1 + 1)).2.2.length)), .ref sp])), (sp, eI D 100 (wr (wr fs nl r.2.2) (nl + r.2.2.length) (facP (sgT tb ln) 2 (r.1 + 1)).2.2))]) rfl rfl rfl rfl ?_
          refine v_istore_n (lv' := [(0, .ref txo), (1, .ref vg), (2, .int 2), (3, .int (b2i ((facP (sgT tb ln) 2 (r.1 + 1)).2.1 = true))), (4, .int (nI i))]) O dX7_both_46 (by decide) rfl ?_
          refine v_aload_n O dX7_both_47 1 rfl ?_
          refine v_bipush (v := -2) O dX7_both_48 (by decide) ?_
          refine v_cV (T := TX6) (ci := 6) (As := [.int (-2)]) (wr := [(txo, .inr (7, [.ref tsg, .int (nI ln), .int (nI ((facP (sgT tb ln) 2 (r.1 + 1)).1)), .int ((sgT tb ln) ((facP (sgT tb ln) 2 (r.1 + 1)).1))])), (tsg, eB D 100 tb)]) (st := []) O cf_X7_84 rfl (sp_X6_addStep (vg := vg) (sh := sh) (mo := mo) (ov := ov) (nr := nr) (io := io) (am := am) (en := en) (nl := ((nl + r.2.2.length) + (facP (sgT tb ln) 2 (r.1 + 1)).2.2.length)) (sp := sp) (fs := (wr (wr fs nl r.2.2) (nl + r.2.2.length) (facP (sgT tb ln) 2 (r.1 + 1)).2.2)) (b := (-2)) (by omega)) dX7_both_50 rfl rfl 2 rfl [2, 3] [0, 1] (by decide) rfl rfl (by decide) (by decide) (by decide) (Nat.le_of_ble_eq_true rfl) (by decide) (by decide) (fun r_8 w_9 h_7 => ?_)
          obtain ⟨rfl, rfl⟩ := h_7
          refine v_eq (st' := []) (ws' := [(txo, .inr (7, [.ref tsg, .int (nI ln), .int (nI ((facP (sgT tb ln) 2 (r.1 + 1)).1)), .int ((sgT tb ln) ((facP (sgT tb ln) 2 (r.1 + 1)).1))])), (tsg, eB D 100 tb), (vg, .inr (6, [.int (nI sh), .int (nI mo), .int (nI ov), .int (nI nr), .ref io, .ref am, .ref en, .int (nI (((nl + r.2.2.length) + (facP (sgT tb ln) 2 (r.1 + 1)).2.2.length) + 1)), .ref sp])), (sp, eI D 100 (upd (wr (wr fs nl r.2.2) (nl + r.2.2.length) (facP (sgT tb ln) 2 (r.1 + 1)).2.2) ((nl + r.2.2.length) + (facP (sgT tb ln) 2 (r.1 + 1)).2.2.length) (-2)))]) rfl rfl rfl rfl ?_
          refine v_eq (ws' := [(txo, .inr (7, [.ref tsg, .int (nI ln), .int (nI ((facP (sgT tb ln) 2 (r.1 + 1)).1)), .int ((sgT tb ln) ((facP (sgT tb ln) 2 (r.1 + 1)).1))])), (tsg, eB D 100 tb), (vg, .inr (6, [.int (nI sh), .int (nI mo), .int (nI ov), .int (nI nr), .ref io, .ref am, .ref en, .int (nI (nl + (r.2.2 ++ (((facP (sgT tb ln) 2) (r.1 + 1)).2.2 ++ [-2])).length)), .ref sp])), (sp, eI D 100 (wr fs nl (r.2.2 ++ (((facP (sgT tb ln) 2) (r.1 + 1)).2.2 ++ [-2]))))]) rfl rfl rfl (by rw [wr_3, wl_3]) ?_
          refine v_iinc (v := nI (i + 1)) (lv' := [(0, .ref txo), (1, .ref vg), (2, .int 2), (3, .int (b2i ((facP (sgT tb ln) 2 (r.1 + 1)).2.1 = true))), (4, .int (nI (i + 1)))]) O dX7_both_53 4 rfl (nI_1 i) (by decide) rfl ?_
          refine v_goto O 10 dX7_both_56 (by decide) ?_
          exact ih (i + 1) (by omega) (((facP (sgT tb ln) 2) (r.1 + 1)).1, ((facP (sgT tb ln) 2) (r.1 + 1)).2.1, r.2.2 ++ (((facP (sgT tb ln) 2) (r.1 + 1)).2.2 ++ [-2])) (by rw [hF, chn_s ⟨z2, z3⟩]) ⟨by show p + (r.2.2 ++ (((facP (sgT tb ln) 2) (r.1 + 1)).2.2 ++ [(-2 : Int32)])).length ≤ ((facP (sgT tb ln) 2) (r.1 + 1)).1; rw [← wl_3]; omega, z_g.2⟩
set_option maxRecDepth 100000 in
set_option maxHeartbeats 4000000 in
theorem sp_X7_both_2 {D : G} {txo : Nat} {tsg : Nat} {ln : Nat} {tb : Nat → Int32} {vg : Nat} {sh : Nat} {mo : Nat} {ov : Nat} {nr : Nat} {io : Nat} {am : Nat} {en : Nat} {nl : Nat} {sp : Nat} {fs : Nat → Int32} {p : Nat} (hln : ln ≤ 100) (hp : p ≤ ln) (hnl : nl ≤ p) : Sp D mX7_both 14 0 0 [.ref txo, .ref vg, .int 2] [(txo, .inr (7, [.ref tsg, .int (nI ln), .int (nI p), .int ((sgT tb ln) p)])), (tsg, eB D 100 tb), (vg, .inr (6, [.int (nI sh), .int (nI mo), .int (nI ov), .int (nI nr), .ref io, .ref am, .ref en, .int (nI nl), .ref sp])), (sp, eI D 100 fs)] (fun r w => r = some (.int (b2i ((botP (facP (sgT tb ln) 2) (sgT tb ln) p).2.1 = true))) ∧ w = [(txo, .inr (7, [.ref tsg, .int (nI ln), .int (nI ((botP (facP (sgT tb ln) 2) (sgT tb ln) p).1)), .int ((sgT tb ln) ((botP (facP (sgT tb ln) 2) (sgT tb ln) p).1))])), (tsg, eB D 100 tb), (vg, .inr (6, [.int (nI sh), .int (nI mo), .int (nI ov), .int (nI nr), .ref io, .ref am, .ref en, .int (nI (nl + (botP (facP (sgT tb ln) 2) (sgT tb ln) p).2.2.length)), .ref sp])), (sp, eI D 100 (wr fs nl (botP (facP (sgT tb ln) 2) (sgT tb ln) p).2.2))]) := by
  refine Sp.of (by decide) (Nat.le_of_ble_eq_true rfl) (fun X O T => ?_)
  refine v_eq (lv' := [(0, .ref txo), (1, .ref vg), (2, .int 2)]) rfl rfl rfl rfl ?_
  refine v_aload_n O dX7_both_0 0 rfl ?_
  refine v_aload_n O dX7_both_1 1 rfl ?_
  refine v_iload_n O dX7_both_2 2 rfl ?_
  refine v_cV (T := TX7) (ci := 7) (As := [.ref vg, .int 2]) (wr := []) (st := []) O cf_X7_87 rfl (sp_X7_factor_2 (txo := txo) (tsg := tsg) (ln := ln) (tb := tb) (vg := vg) (sh := sh) (mo := mo) (ov := ov) (nr := nr) (io := io) (am := am) (en := en) (nl := nl) (sp := sp) (fs := fs) (p := p) (hln) (hp) (hnl)) dX7_both_3 rfl rfl 0 rfl [0, 1, 2, 3] [] (by decide) rfl rfl (by decide) (by decide) (by decide) (Nat.le_of_ble_eq_true rfl) (by decide) (by decide) (fun r_2 w_3 h_1 => ?_)
  obtain ⟨rfl, rfl⟩ := h_1
  refine v_eq (st' := [.int (b2i ((facP (sgT tb ln) 2 p).2.1 = true))]) (ws' := [(txo, .inr (7, [.ref tsg, .int (nI ln), .int (nI ((facP (sgT tb ln) 2 p).1)), .int ((sgT tb ln) ((facP (sgT tb ln) 2 p).1))])), (tsg, eB D 100 tb), (vg, .inr (6, [.int (nI sh), .int (nI mo), .int (nI ov), .int (nI nr), .ref io, .ref am, .ref en, .int (nI (nl + (facP (sgT tb ln) 2 p).2.2.length)), .ref sp])), (sp, eI D 100 (wr fs nl (facP (sgT tb ln) 2 p).2.2))]) rfl rfl rfl rfl ?_
  refine v_istore_n (lv' := [(0, .ref txo), (1, .ref vg), (2, .int 2), (3, .int (b2i ((facP (sgT tb ln) 2 p).2.1 = true)))]) O dX7_both_6 (by decide) rfl ?_
  refine v_iconst (v := 0) O dX7_both_7 (by decide) ?_
  refine v_istore (lv' := [(0, .ref txo), (1, .ref vg), (2, .int 2), (3, .int (b2i ((facP (sgT tb ln) 2 p).2.1 = true))), (4, .int 0)]) O dX7_both_8 (by decide) rfl ?_
  refine v_eq (lv' := [(0, .ref txo), (1, .ref vg), (2, .int 2), (3, .int (b2i ((facP (sgT tb ln) 2 p).2.1 = true))), (4, .int (nI 0))]) rfl rfl rfl rfl ?_
  exact l_X7_both_2 O hln hp hnl T 100 0 (by omega) ((facP (sgT tb ln) 2) p) rfl (fac_ok (tb := tb) (ln := ln) 2 p hp)
set_option maxRecDepth 100000 in
set_option maxHeartbeats 4000000 in
theorem l_X7_either_2 {D : G} {X : CX} {txo : Nat} {tsg : Nat} {ln : Nat} {tb : Nat → Int32} {vg : Nat} {sh : Nat} {mo : Nat} {ov : Nat} {nr : Nat} {io : Nat} {am : Nat} {en : Nat} {nl : Nat} {sp : Nat} {fs : Nat → Int32} {p : Nat} (O : Ok D X mX7_either 15 0 0) (hln : ln ≤ 100) (hp : p ≤ ln) (hnl : nl ≤ p) (T : Rt D X (fun r w => r = some (.int (b2i ((eitP (facP (sgT tb ln) 2) (sgT tb ln) p).2.1 = true))) ∧ w = [(txo, .inr (7, [.ref tsg, .int (nI ln), .int (nI ((eitP (facP (sgT tb ln) 2) (sgT tb ln) p).1)), .int ((sgT tb ln) ((eitP (facP (sgT tb ln) 2) (sgT tb ln) p).1))])), (tsg, eB D 100 tb), (vg, .inr (6, [.int (nI sh), .int (nI mo), .int (nI ov), .int (nI nr), .ref io, .ref am, .ref en, .int (nI (nl + (eitP (facP (sgT tb ln) 2) (sgT tb ln) p).2.2.length)), .ref sp])), (sp, eI D 100 (wr fs nl (eitP (facP (sgT tb ln) 2) (sgT tb ln) p).2.2))]) 0 0) : ∀ (t i : Nat), i + t = 100 → ∀ r : Res, eitP (facP (sgT tb ln) 2) (sgT tb ln) p = chn (botP (facP (sgT tb ln) 2) (sgT tb ln)) (sgT tb ln) 124 (-3) t r → p + r.2.2.length ≤ r.1 ∧ r.1 ≤ ln → V D X 0 0 10 [(0, .ref txo), (1, .ref vg), (2, .int 2), (3, .int (b2i (r.2.1 = true))), (4, .int (nI i))] [] [(txo, .inr (7, [.ref tsg, .int (nI ln), .int (nI r.1), .int ((sgT tb ln) r.1)])), (tsg, eB D 100 tb), (vg, .inr (6, [.int (nI sh), .int (nI mo), .int (nI ov), .int (nI nr), .ref io, .ref am, .ref en, .int (nI (nl + r.2.2.length)), .ref sp])), (sp, eI D 100 (wr fs nl r.2.2))] := by
  intro t
  induction t with
  | zero =>
    intro i hi r hF hr
    refine v_iload O dX7_either_10 4 rfl ?_
    refine v_bipush (v := 100) O dX7_either_12 (by decide) ?_
    refine v_icmp_ge O 59 dX7_either_14 (by decide) (fun z1 => ?_) (fun z1 => ?_)
    · skip
      have z1 := (c_le' (x := nI i) (y := 100) (a := i) (b := 100) rfl rfl (by omega) (by omega)).mp z1
      refine v_iload_n O dX7_either_59 3 rfl ?_
      exact v_ireturn O T rfl (nrb _) (by decide) (by decide) dX7_either_60 (⟨by rw [hF, chn], by rw [hF, chn]⟩)
    · skip
      have z1 := (not_congr (c_le' (x := nI i) (y := 100) (a := i) (b := 100) rfl rfl (by omega) (by omega))).mp z1
      exact absurd z1 (by omega)
  | succ t ih =>
    intro i hi r hF hr
    refine v_iload O dX7_either_10 4 rfl ?_
    refine v_bipush (v := 100) O dX7_either_12 (by decide) ?_
    refine v_icmp_ge O 59 dX7_either_14 (by decide) (fun z1 => ?_) (fun z1 => ?_)
    · skip
      have z1 := (c_le' (x := nI i) (y := 100) (a := i) (b := 100) rfl rfl (by omega) (by omega)).mp z1
      exact absurd z1 (by omega)
    · skip
      have z1 := (not_congr (c_le' (x := nI i) (y := 100) (a := i) (b := 100) rfl rfl (by omega) (by omega))).mp z1
      refine v_iload_n O dX7_either_17 3 rfl ?_
      refine v_if_eq O 59 dX7_either_18 (by decide) (fun z2 => ?_) (fun z2 => ?_)
      · skip
        have z2 := b2i_0.mp z2
        refine v_iload_n O dX7_either_59 3 rfl ?_
        exact v_ireturn O T rfl (nrb _) (by decide) (by decide) dX7_either_60 (⟨by rw [hF, chn_n (fun z9 => absurd z9.1 z2)], by rw [hF, chn_n (fun z9 => absurd z9.1 z2)]⟩)
      · skip
        have z2 := b2i_1.mp z2
        refine v_aload_n O dX7_either_21 0 rfl ?_
        refine gf_X7_22 O rfl dX7_either_22 0 rfl rfl ?_
        refine v_bipush (v := 124) O dX7_either_25 (by decide) ?_
        refine v_icmp_ne O 59 dX7_either_27 (by decide) (fun z3 => ?_) (fun z3 => ?_)
        · skip
          refine v_iload_n O dX7_either_59 3 rfl ?_
          exact v_ireturn O T rfl (nrb _) (by decide) (by decide) dX7_either_60 (⟨by rw [hF, chn_n (fun z9 => absurd z9.2 z3)], by rw [hF, chn_n (fun z9 => absurd z9.2 z3)]⟩)
        · skip
          have z_p := sgT_lt z3 (by decide)
          have z_g := bot_ok (tb := tb) (fac_ok (tb := tb) (ln := ln) 2) (r.1 + 1) z_p
          refine v_aload_n O dX7_either_30 0 rfl ?_
          refine v_aload_n O dX7_either_31 0 rfl ?_
          refine gf_X7_19 O rfl dX7_either_32 0 rfl rfl ?_
          refine v_iconst (v := 1) O dX7_either_35 (by decide) ?_
          refine v_iadd O dX7_either_36 ?_
          refine v_top (y := nI (r.1 + 1)) (nI_add r.1 1) ?_
          refine v_cV (T := TX7) (ci := 7) (As := [.int (nI (r.1 + 1))]) (wr := [(vg, .inr (6, [.int (nI sh), .int (nI mo), .int (nI ov), .int (nI nr), .ref io, .ref am, .ref en, .int (nI (nl + r.2.2.length)), .ref sp])), (sp, eI D 100 (wr fs nl r.2.2))]) (st := []) O cf_X7_30 rfl (sp_X7_goTo (txo := txo) (tsg := tsg) (ln := ln) (tb := tb) (pl := (nI r.1)) (si := ((sgT tb ln) r.1)) (q := (r.1 + 1)) (hln) (by omega)) dX7_either_37 rfl rfl 0 rfl [0, 1] [2, 3] (by decide) rfl rfl (by decide) (by decide) (by decide) (Nat.le_of_ble_eq_true rfl) (by decide) (by decide) (fun r_2 w_3 h_1 => ?_)
          obtain ⟨rfl, rfl⟩ := h_1
          refine v_eq (st' := []) (ws' := [(vg, .inr (6, [.int (nI sh), .int (nI mo), .int (nI ov), .int (nI nr), .ref io, .ref am, .ref en, .int (nI (nl + r.2.2.length)), .ref sp])), (sp, eI D 100 (wr fs nl r.2.2)), (txo, .inr (7, [.ref tsg, .int (nI ln), .int (nI (r.1 + 1)), .int ((sgT tb ln) (r.1 + 1))])), (tsg, eB D 100 tb)]) rfl rfl rfl rfl ?_
          refine v_aload_n O dX7_either_40 0 rfl ?_
          refine v_aload_n O dX7_either_41 1 rfl ?_
          refine v_iload_n O dX7_either_42 2 rfl ?_
          refine v_cV (T := TX7) (ci := 7) (As := [.ref vg, .int 2]) (wr := []) (st := []) O cf_X7_81 rfl (sp_X7_both_2 (txo := txo) (tsg := tsg) (ln := ln) (tb := tb) (vg := vg) (sh := sh) (mo := mo) (ov := ov) (nr := nr) (io := io) (am := am) (en := en) (nl := (nl + r.2.2.length)) (sp := sp) (fs := (wr fs nl r.2.2)) (p := (r.1 + 1)) (hln) (by omega) (by omega)) dX7_either_43 rfl rfl 2 rfl [2, 3, 0, 1] [] (by decide) rfl rfl (by decide) (by decide) (by decide) (Nat.le_of_ble_eq_true rfl) (by decide) (by decide) (fun r_5 w_6 h_4 => ?_)
          obtain ⟨rfl, rfl⟩ := h_4
          refine v_eq (st' := [.int (b2i ((botP (facP (sgT tb ln) 2) (sgT tb ln) (r.1 + 1)).2.1 = true))]) (ws' := [(txo, .inr (7, [.ref tsg, .int (nI ln), .int (nI ((botP (facP (sgT tb ln) 2) (sgT tb ln) (r.1 + 1)).1)), .int ((sgT tb ln) ((botP (facP (sgT tb ln) 2) (sgT tb ln) (r.1 + 1)).1))])), (tsg, eB D 100 tb), (vg, .inr (6, [.int (nI sh), .int (nI mo), .int (nI ov), .int (nI nr), .ref io, .ref am, .ref en, .int (nI ((nl + r.2.2.length) + (botP (facP (sgT tb ln) 2) (sgT tb ln) (r.1 + 1)).2.2.length)), .ref sp])), (sp, eI D 100 (wr (wr fs nl r.2.2) (nl + r.2.2.length) (botP (facP (sgT tb ln) 2) (sgT tb ln) (r.1 + 1)).2.2))]) rfl rfl rfl rfl ?_
          refine v_istore_n (lv' := [(0, .ref txo), (1, .ref vg), (2, .int 2), (3, .int (b2i ((botP (facP (sgT tb ln) 2) (sgT tb ln) (r.1 + 1)).2.1 = true))), (4, .int (nI i))]) O dX7_either_46 (by decide) rfl ?_
          refine v_aload_n O dX7_either_47 1 rfl ?_
          refine v_bipush (v := -3) O dX7_either_48 (by decide) ?_
          refine v_cV (T := TX6) (ci := 6) (As := [.int (-3)]) (wr := [(txo, .inr (7, [.ref tsg, .int (nI ln), .int (nI ((botP (facP (sgT tb ln) 2) (sgT tb ln) (r.1 + 1)).1)), .int ((sgT tb ln) ((botP (facP (sgT tb ln) 2) (sgT tb ln) (r.1 + 1)).1))])), (tsg, eB D 100 tb)]) (st := []) O cf_X7_84 rfl (sp_X6_addStep (vg := vg) (sh := sh) (mo := mo) (ov := ov) (nr := nr) (io := io) (am := am) (en := en) (nl := ((nl + r.2.2.length) + (botP (facP (sgT tb ln) 2) (sgT tb ln) (r.1 + 1)).2.2.length)) (sp := sp) (fs := (wr (wr fs nl r.2.2) (nl + r.2.2.length) (botP (facP (sgT tb ln) 2) (sgT tb ln) (r.1 + 1)).2.2)) (b := (-3)) (by omega)) dX7_either_50 rfl rfl 2 rfl [2, 3] [0, 1] (by decide) rfl rfl (by decide) (by decide) (by decide) (Nat.le_of_ble_eq_true rfl) (by decide) (by decide) (fun r_8 w_9 h_7 => ?_)
          obtain ⟨rfl, rfl⟩ := h_7
          refine v_eq (st' := []) (ws' := [(txo, .inr (7, [.ref tsg, .int (nI ln), .int (nI ((botP (facP (sgT tb ln) 2) (sgT tb ln) (r.1 + 1)).1)), .int ((sgT tb ln) ((botP (facP (sgT tb ln) 2) (sgT tb ln) (r.1 + 1)).1))])), (tsg, eB D 100 tb), (vg, .inr (6, [.int (nI sh), .int (nI mo), .int (nI ov), .int (nI nr), .ref io, .ref am, .ref en, .int (nI (((nl + r.2.2.length) + (botP (facP (sgT tb ln) 2) (sgT tb ln) (r.1 + 1)).2.2.length) + 1)), .ref sp])), (sp, eI D 100 (upd (wr (wr fs nl r.2.2) (nl + r.2.2.length) (botP (facP (sgT tb ln) 2) (sgT tb ln) (r.1 + 1)).2.2) ((nl + r.2.2.length) + (botP (facP (sgT tb ln) 2) (sgT tb ln) (r.1 + 1)).2.2.length) (-3)))]) rfl rfl rfl rfl ?_
          refine v_eq (ws' := [(txo, .inr (7, [.ref tsg, .int (nI ln), .int (nI ((botP (facP (sgT tb ln) 2) (sgT tb ln) (r.1 + 1)).1)), .int ((sgT tb ln) ((botP (facP (sgT tb ln) 2) (sgT tb ln) (r.1 + 1)).1))])), (tsg, eB D 100 tb), (vg, .inr (6, [.int (nI sh), .int (nI mo), .int (nI ov), .int (nI nr), .ref io, .ref am, .ref en, .int (nI (nl + (r.2.2 ++ (((botP (facP (sgT tb ln) 2) (sgT tb ln)) (r.1 + 1)).2.2 ++ [-3])).length)), .ref sp])), (sp, eI D 100 (wr fs nl (r.2.2 ++ (((botP (facP (sgT tb ln) 2) (sgT tb ln)) (r.1 + 1)).2.2 ++ [-3]))))]) rfl rfl rfl (by rw [wr_3, wl_3]) ?_
          refine v_iinc (v := nI (i + 1)) (lv' := [(0, .ref txo), (1, .ref vg), (2, .int 2), (3, .int (b2i ((botP (facP (sgT tb ln) 2) (sgT tb ln) (r.1 + 1)).2.1 = true))), (4, .int (nI (i + 1)))]) O dX7_either_53 4 rfl (nI_1 i) (by decide) rfl ?_
          refine v_goto O 10 dX7_either_56 (by decide) ?_
          exact ih (i + 1) (by omega) (((botP (facP (sgT tb ln) 2) (sgT tb ln)) (r.1 + 1)).1, ((botP (facP (sgT tb ln) 2) (sgT tb ln)) (r.1 + 1)).2.1, r.2.2 ++ (((botP (facP (sgT tb ln) 2) (sgT tb ln)) (r.1 + 1)).2.2 ++ [-3])) (by rw [hF, chn_s ⟨z2, z3⟩]) ⟨by show p + (r.2.2 ++ (((botP (facP (sgT tb ln) 2) (sgT tb ln)) (r.1 + 1)).2.2 ++ [(-3 : Int32)])).length ≤ ((botP (facP (sgT tb ln) 2) (sgT tb ln)) (r.1 + 1)).1; rw [← wl_3]; omega, z_g.2⟩
set_option maxRecDepth 100000 in
set_option maxHeartbeats 4000000 in
theorem sp_X7_either_2 {D : G} {txo : Nat} {tsg : Nat} {ln : Nat} {tb : Nat → Int32} {vg : Nat} {sh : Nat} {mo : Nat} {ov : Nat} {nr : Nat} {io : Nat} {am : Nat} {en : Nat} {nl : Nat} {sp : Nat} {fs : Nat → Int32} {p : Nat} (hln : ln ≤ 100) (hp : p ≤ ln) (hnl : nl ≤ p) : Sp D mX7_either 15 0 0 [.ref txo, .ref vg, .int 2] [(txo, .inr (7, [.ref tsg, .int (nI ln), .int (nI p), .int ((sgT tb ln) p)])), (tsg, eB D 100 tb), (vg, .inr (6, [.int (nI sh), .int (nI mo), .int (nI ov), .int (nI nr), .ref io, .ref am, .ref en, .int (nI nl), .ref sp])), (sp, eI D 100 fs)] (fun r w => r = some (.int (b2i ((eitP (facP (sgT tb ln) 2) (sgT tb ln) p).2.1 = true))) ∧ w = [(txo, .inr (7, [.ref tsg, .int (nI ln), .int (nI ((eitP (facP (sgT tb ln) 2) (sgT tb ln) p).1)), .int ((sgT tb ln) ((eitP (facP (sgT tb ln) 2) (sgT tb ln) p).1))])), (tsg, eB D 100 tb), (vg, .inr (6, [.int (nI sh), .int (nI mo), .int (nI ov), .int (nI nr), .ref io, .ref am, .ref en, .int (nI (nl + (eitP (facP (sgT tb ln) 2) (sgT tb ln) p).2.2.length)), .ref sp])), (sp, eI D 100 (wr fs nl (eitP (facP (sgT tb ln) 2) (sgT tb ln) p).2.2))]) := by
  refine Sp.of (by decide) (Nat.le_of_ble_eq_true rfl) (fun X O T => ?_)
  refine v_eq (lv' := [(0, .ref txo), (1, .ref vg), (2, .int 2)]) rfl rfl rfl rfl ?_
  refine v_aload_n O dX7_either_0 0 rfl ?_
  refine v_aload_n O dX7_either_1 1 rfl ?_
  refine v_iload_n O dX7_either_2 2 rfl ?_
  refine v_cV (T := TX7) (ci := 7) (As := [.ref vg, .int 2]) (wr := []) (st := []) O cf_X7_81 rfl (sp_X7_both_2 (txo := txo) (tsg := tsg) (ln := ln) (tb := tb) (vg := vg) (sh := sh) (mo := mo) (ov := ov) (nr := nr) (io := io) (am := am) (en := en) (nl := nl) (sp := sp) (fs := fs) (p := p) (hln) (hp) (hnl)) dX7_either_3 rfl rfl 0 rfl [0, 1, 2, 3] [] (by decide) rfl rfl (by decide) (by decide) (by decide) (Nat.le_of_ble_eq_true rfl) (by decide) (by decide) (fun r_2 w_3 h_1 => ?_)
  obtain ⟨rfl, rfl⟩ := h_1
  refine v_eq (st' := [.int (b2i ((botP (facP (sgT tb ln) 2) (sgT tb ln) p).2.1 = true))]) (ws' := [(txo, .inr (7, [.ref tsg, .int (nI ln), .int (nI ((botP (facP (sgT tb ln) 2) (sgT tb ln) p).1)), .int ((sgT tb ln) ((botP (facP (sgT tb ln) 2) (sgT tb ln) p).1))])), (tsg, eB D 100 tb), (vg, .inr (6, [.int (nI sh), .int (nI mo), .int (nI ov), .int (nI nr), .ref io, .ref am, .ref en, .int (nI (nl + (botP (facP (sgT tb ln) 2) (sgT tb ln) p).2.2.length)), .ref sp])), (sp, eI D 100 (wr fs nl (botP (facP (sgT tb ln) 2) (sgT tb ln) p).2.2))]) rfl rfl rfl rfl ?_
  refine v_istore_n (lv' := [(0, .ref txo), (1, .ref vg), (2, .int 2), (3, .int (b2i ((botP (facP (sgT tb ln) 2) (sgT tb ln) p).2.1 = true)))]) O dX7_either_6 (by decide) rfl ?_
  refine v_iconst (v := 0) O dX7_either_7 (by decide) ?_
  refine v_istore (lv' := [(0, .ref txo), (1, .ref vg), (2, .int 2), (3, .int (b2i ((botP (facP (sgT tb ln) 2) (sgT tb ln) p).2.1 = true))), (4, .int 0)]) O dX7_either_8 (by decide) rfl ?_
  refine v_eq (lv' := [(0, .ref txo), (1, .ref vg), (2, .int 2), (3, .int (b2i ((botP (facP (sgT tb ln) 2) (sgT tb ln) p).2.1 = true))), (4, .int (nI 0))]) rfl rfl rfl rfl ?_
  exact l_X7_either_2 O hln hp hnl T 100 0 (by omega) ((botP (facP (sgT tb ln) 2) (sgT tb ln)) p) rfl (bot_ok (tb := tb) (fac_ok (tb := tb) (ln := ln) 2) p hp)
set_option maxRecDepth 100000 in
set_option maxHeartbeats 4000000 in
theorem sp_X7_nested_2 {D : G} {txo : Nat} {tsg : Nat} {ln : Nat} {tb : Nat → Int32} {vg : Nat} {sh : Nat} {mo : Nat} {ov : Nat} {nr : Nat} {io : Nat} {am : Nat} {en : Nat} {nl : Nat} {sp : Nat} {fs : Nat → Int32} {p : Nat} (hln : ln ≤ 100) (hp : p ≤ ln) (hnl : nl ≤ p) (hsg : (sgT tb ln) p = 40 ∨ (sgT tb ln) p = 33) : Sp D mX7_nested 16 0 0 [.ref txo, .ref vg, .int 2] [(txo, .inr (7, [.ref tsg, .int (nI ln), .int (nI p), .int ((sgT tb ln) p)])), (tsg, eB D 100 tb), (vg, .inr (6, [.int (nI sh), .int (nI mo), .int (nI ov), .int (nI nr), .ref io, .ref am, .ref en, .int (nI nl), .ref sp])), (sp, eI D 100 fs)] (fun r w => r = some (.int (b2i ((nesP (facP (sgT tb ln) 2) (sgT tb ln) p).2.1 = true))) ∧ w = [(txo, .inr (7, [.ref tsg, .int (nI ln), .int (nI ((nesP (facP (sgT tb ln) 2) (sgT tb ln) p).1)), .int ((sgT tb ln) ((nesP (facP (sgT tb ln) 2) (sgT tb ln) p).1))])), (tsg, eB D 100 tb), (vg, .inr (6, [.int (nI sh), .int (nI mo), .int (nI ov), .int (nI nr), .ref io, .ref am, .ref en, .int (nI (nl + (nesP (facP (sgT tb ln) 2) (sgT tb ln) p).2.2.length)), .ref sp])), (sp, eI D 100 (wr fs nl (nesP (facP (sgT tb ln) 2) (sgT tb ln) p).2.2))]) := by
  refine Sp.of (by decide) (Nat.le_of_ble_eq_true rfl) (fun X O T => ?_)
  refine v_eq (lv' := [(0, .ref txo), (1, .ref vg), (2, .int 2)]) rfl rfl rfl rfl ?_
  have z_p : p < ln := by rcases hsg with z | z <;> exact sgT_lt z (by decide)
  have z_g := fac_ok (tb := tb) (ln := ln) 2 (p + 1) z_p
  have z_e := eit_ok (tb := tb) (fac_ok (tb := tb) (ln := ln) 2) (p + 1) z_p
  refine v_aload_n O dX7_nested_0 0 rfl ?_
  refine gf_X7_22 O rfl dX7_nested_1 0 rfl rfl ?_
  refine v_bipush (v := 33) O dX7_nested_4 (by decide) ?_
  refine v_icmp_ne O 13 dX7_nested_6 (by decide) (fun z1 => ?_) (fun z1 => ?_)
  · skip
    refine v_iconst (v := 0) O dX7_nested_13 (by decide) ?_
    refine v_istore_n (lv' := [(0, .ref txo), (1, .ref vg), (2, .int 2), (3, .int 0)]) O dX7_nested_14 (by decide) rfl ?_
    refine v_aload_n O dX7_nested_15 0 rfl ?_
    refine v_aload_n O dX7_nested_16 0 rfl ?_
    refine gf_X7_19 O rfl dX7_nested_17 0 rfl rfl ?_
    refine v_iconst (v := 1) O dX7_nested_20 (by decide) ?_
    refine v_iadd O dX7_nested_21 ?_
    refine v_top (y := nI (p + 1)) (nI_add p 1) ?_
    refine v_cV (T := TX7) (ci := 7) (As := [.int (nI (p + 1))]) (wr := [(vg, .inr (6, [.int (nI sh), .int (nI mo), .int (nI ov), .int (nI nr), .ref io, .ref am, .ref en, .int (nI nl), .ref sp])), (sp, eI D 100 fs)]) (st := []) O cf_X7_30 rfl (sp_X7_goTo (txo := txo) (tsg := tsg) (ln := ln) (tb := tb) (pl := (nI p)) (si := ((sgT tb ln) p)) (q := (p + 1)) (hln) (by omega)) dX7_nested_22 rfl rfl 0 rfl [0, 1] [2, 3] (by decide) rfl rfl (by decide) (by decide) (by decide) (Nat.le_of_ble_eq_true rfl) (by decide) (by decide) (fun r_2 w_3 h_1 => ?_)
    obtain ⟨rfl, rfl⟩ := h_1
    refine v_eq (st' := []) (ws' := [(vg, .inr (6, [.int (nI sh), .int (nI mo), .int (nI ov), .int (nI nr), .ref io, .ref am, .ref en, .int (nI nl), .ref sp])), (sp, eI D 100 fs), (txo, .inr (7, [.ref tsg, .int (nI ln), .int (nI (p + 1)), .int ((sgT tb ln) (p + 1))])), (tsg, eB D 100 tb)]) rfl rfl rfl rfl ?_
    refine v_iload_n O dX7_nested_25 3 rfl ?_
    refine v_if_eq O 45 dX7_nested_26 (by decide) (fun _ => ?_) (fun c => absurd c (by decide))
    refine v_aload_n O dX7_nested_45 0 rfl ?_
    refine v_aload_n O dX7_nested_46 1 rfl ?_
    refine v_iload_n O dX7_nested_47 2 rfl ?_
    refine v_cV (T := TX7) (ci := 7) (As := [.ref vg, .int 2]) (wr := []) (st := []) O cf_X7_57 rfl (sp_X7_either_2 (txo := txo) (tsg := tsg) (ln := ln) (tb := tb) (vg := vg) (sh := sh) (mo := mo) (ov := ov) (nr := nr) (io := io) (am := am) (en := en) (nl := nl) (sp := sp) (fs := fs) (p := (p + 1)) (hln) (z_p) (by omega)) dX7_nested_48 rfl rfl 2 rfl [2, 3, 0, 1] [] (by decide) rfl rfl (by decide) (by decide) (by decide) (Nat.le_of_ble_eq_true rfl) (by decide) (by decide) (fun r_6 w_7 h_5 => ?_)
    obtain ⟨rfl, rfl⟩ := h_5
    refine v_eq (st' := [.int (b2i ((eitP (facP (sgT tb ln) 2) (sgT tb ln) (p + 1)).2.1 = true))]) (ws' := [(txo, .inr (7, [.ref tsg, .int (nI ln), .int (nI ((eitP (facP (sgT tb ln) 2) (sgT tb ln) (p + 1)).1)), .int ((sgT tb ln) ((eitP (facP (sgT tb ln) 2) (sgT tb ln) (p + 1)).1))])), (tsg, eB D 100 tb), (vg, .inr (6, [.int (nI sh), .int (nI mo), .int (nI ov), .int (nI nr), .ref io, .ref am, .ref en, .int (nI (nl + (eitP (facP (sgT tb ln) 2) (sgT tb ln) (p + 1)).2.2.length)), .ref sp])), (sp, eI D 100 (wr fs nl (eitP (facP (sgT tb ln) 2) (sgT tb ln) (p + 1)).2.2))]) rfl rfl rfl rfl ?_
    refine v_if_eq O 63 dX7_nested_51 (by decide) (fun z2 => ?_) (fun z2 => ?_)
    · skip
      have z2 := b2i_0.mp z2
      refine v_iconst (v := 0) O dX7_nested_63 (by decide) ?_
      exact v_ireturn O T rfl rfl (by decide) (by decide) dX7_nested_64 (⟨by unfold nesP; rw [if_neg z1, if_neg (fun z9 => absurd z9.1 z2)]; exact bF, by unfold nesP; rw [if_neg z1, if_neg (fun z9 => absurd z9.1 z2)]⟩)
    · skip
      have z2 := b2i_1.mp z2
      refine v_aload_n O dX7_nested_54 0 rfl ?_
      refine gf_X7_22 O rfl dX7_nested_55 0 rfl rfl ?_
      refine v_bipush (v := 41) O dX7_nested_58 (by decide) ?_
      refine v_icmp_eq O 65 dX7_nested_60 (by decide) (fun z3 => ?_) (fun z3 => ?_)
      · skip
        have z_q := sgT_lt z3 (by decide)
        refine v_aload_n O dX7_nested_65 0 rfl ?_
        refine v_aload_n O dX7_nested_66 0 rfl ?_
        refine gf_X7_19 O rfl dX7_nested_67 0 rfl rfl ?_
        refine v_iconst (v := 1) O dX7_nested_70 (by decide) ?_
        refine v_iadd O dX7_nested_71 ?_
        refine v_top (y := nI (((eitP (facP (sgT tb ln) 2) (sgT tb ln) (p + 1)).1) + 1)) (nI_add ((eitP (facP (sgT tb ln) 2) (sgT tb ln) (p + 1)).1) 1) ?_
        refine v_cV (T := TX7) (ci := 7) (As := [.int (nI (((eitP (facP (sgT tb ln) 2) (sgT tb ln) (p + 1)).1) + 1))]) (wr := [(vg, .inr (6, [.int (nI sh), .int (nI mo), .int (nI ov), .int (nI nr), .ref io, .ref am, .ref en, .int (nI (nl + (eitP (facP (sgT tb ln) 2) (sgT tb ln) (p + 1)).2.2.length)), .ref sp])), (sp, eI D 100 (wr fs nl (eitP (facP (sgT tb ln) 2) (sgT tb ln) (p + 1)).2.2))]) (st := []) O cf_X7_30 rfl (sp_X7_goTo (txo := txo) (tsg := tsg) (ln := ln) (tb := tb) (pl := (nI ((eitP (facP (sgT tb ln) 2) (sgT tb ln) (p + 1)).1))) (si := ((sgT tb ln) ((eitP (facP (sgT tb ln) 2) (sgT tb ln) (p + 1)).1))) (q := (((eitP (facP (sgT tb ln) 2) (sgT tb ln) (p + 1)).1) + 1)) (hln) (by omega)) dX7_nested_72 rfl rfl 0 rfl [0, 1] [2, 3] (by decide) rfl rfl (by decide) (by decide) (by decide) (Nat.le_of_ble_eq_true rfl) (by decide) (by decide) (fun r_9 w_10 h_8 => ?_)
        obtain ⟨rfl, rfl⟩ := h_8
        refine v_eq (st' := []) (ws' := [(vg, .inr (6, [.int (nI sh), .int (nI mo), .int (nI ov), .int (nI nr), .ref io, .ref am, .ref en, .int (nI (nl + (eitP (facP (sgT tb ln) 2) (sgT tb ln) (p + 1)).2.2.length)), .ref sp])), (sp, eI D 100 (wr fs nl (eitP (facP (sgT tb ln) 2) (sgT tb ln) (p + 1)).2.2)), (txo, .inr (7, [.ref tsg, .int (nI ln), .int (nI (((eitP (facP (sgT tb ln) 2) (sgT tb ln) (p + 1)).1) + 1)), .int ((sgT tb ln) (((eitP (facP (sgT tb ln) 2) (sgT tb ln) (p + 1)).1) + 1))])), (tsg, eB D 100 tb)]) rfl rfl rfl rfl ?_
        refine v_iconst (v := 1) O dX7_nested_75 (by decide) ?_
        refine v_sub (ws' := [(txo, .inr (7, [.ref tsg, .int (nI ln), .int (nI (((eitP (facP (sgT tb ln) 2) (sgT tb ln) (p + 1)).1) + 1)), .int ((sgT tb ln) (((eitP (facP (sgT tb ln) 2) (sgT tb ln) (p + 1)).1) + 1))])), (tsg, eB D 100 tb), (vg, .inr (6, [.int (nI sh), .int (nI mo), .int (nI ov), .int (nI nr), .ref io, .ref am, .ref en, .int (nI (nl + (eitP (facP (sgT tb ln) 2) (sgT tb ln) (p + 1)).2.2.length)), .ref sp])), (sp, eI D 100 (wr fs nl (eitP (facP (sgT tb ln) 2) (sgT tb ln) (p + 1)).2.2))]) [2, 3, 0, 1] (by decide) rfl ?_
        exact v_ireturn O T rfl rfl (by decide) (by decide) dX7_nested_76 (⟨by unfold nesP; rw [if_neg z1, if_pos ⟨z2, z3⟩]; exact bT, by unfold nesP; rw [if_neg z1, if_pos ⟨z2, z3⟩]⟩)
      · skip
        refine v_iconst (v := 0) O dX7_nested_63 (by decide) ?_
        exact v_ireturn O T rfl rfl (by decide) (by decide) dX7_nested_64 (⟨by unfold nesP; rw [if_neg z1, if_neg (fun z9 => absurd z9.2 z3)]; exact bF, by unfold nesP; rw [if_neg z1, if_neg (fun z9 => absurd z9.2 z3)]⟩)
  · skip
    refine v_iconst (v := 1) O dX7_nested_9 (by decide) ?_
    refine v_goto O 14 dX7_nested_10 (by decide) ?_
    refine v_istore_n (lv' := [(0, .ref txo), (1, .ref vg), (2, .int 2), (3, .int 1)]) O dX7_nested_14 (by decide) rfl ?_
    refine v_aload_n O dX7_nested_15 0 rfl ?_
    refine v_aload_n O dX7_nested_16 0 rfl ?_
    refine gf_X7_19 O rfl dX7_nested_17 0 rfl rfl ?_
    refine v_iconst (v := 1) O dX7_nested_20 (by decide) ?_
    refine v_iadd O dX7_nested_21 ?_
    refine v_top (y := nI (p + 1)) (nI_add p 1) ?_
    refine v_cV (T := TX7) (ci := 7) (As := [.int (nI (p + 1))]) (wr := [(vg, .inr (6, [.int (nI sh), .int (nI mo), .int (nI ov), .int (nI nr), .ref io, .ref am, .ref en, .int (nI nl), .ref sp])), (sp, eI D 100 fs)]) (st := []) O cf_X7_30 rfl (sp_X7_goTo (txo := txo) (tsg := tsg) (ln := ln) (tb := tb) (pl := (nI p)) (si := ((sgT tb ln) p)) (q := (p + 1)) (hln) (by omega)) dX7_nested_22 rfl rfl 0 rfl [0, 1] [2, 3] (by decide) rfl rfl (by decide) (by decide) (by decide) (Nat.le_of_ble_eq_true rfl) (by decide) (by decide) (fun r_12 w_13 h_11 => ?_)
    obtain ⟨rfl, rfl⟩ := h_11
    refine v_eq (st' := []) (ws' := [(vg, .inr (6, [.int (nI sh), .int (nI mo), .int (nI ov), .int (nI nr), .ref io, .ref am, .ref en, .int (nI nl), .ref sp])), (sp, eI D 100 fs), (txo, .inr (7, [.ref tsg, .int (nI ln), .int (nI (p + 1)), .int ((sgT tb ln) (p + 1))])), (tsg, eB D 100 tb)]) rfl rfl rfl rfl ?_
    refine v_iload_n O dX7_nested_25 3 rfl ?_
    refine v_if_eq O 45 dX7_nested_26 (by decide) (fun c => absurd c (by decide)) (fun _ => ?_)
    refine v_aload_n O dX7_nested_29 0 rfl ?_
    refine v_aload_n O dX7_nested_30 1 rfl ?_
    refine v_iload_n O dX7_nested_31 2 rfl ?_
    refine v_cV (T := TX7) (ci := 7) (As := [.ref vg, .int 2]) (wr := []) (st := []) O cf_X7_87 rfl (sp_X7_factor_2 (txo := txo) (tsg := tsg) (ln := ln) (tb := tb) (vg := vg) (sh := sh) (mo := mo) (ov := ov) (nr := nr) (io := io) (am := am) (en := en) (nl := nl) (sp := sp) (fs := fs) (p := (p + 1)) (hln) (z_p) (by omega)) dX7_nested_32 rfl rfl 2 rfl [2, 3, 0, 1] [] (by decide) rfl rfl (by decide) (by decide) (by decide) (Nat.le_of_ble_eq_true rfl) (by decide) (by decide) (fun r_16 w_17 h_15 => ?_)
    obtain ⟨rfl, rfl⟩ := h_15
    refine v_eq (st' := [.int (b2i ((facP (sgT tb ln) 2 (p + 1)).2.1 = true))]) (ws' := [(txo, .inr (7, [.ref tsg, .int (nI ln), .int (nI ((facP (sgT tb ln) 2 (p + 1)).1)), .int ((sgT tb ln) ((facP (sgT tb ln) 2 (p + 1)).1))])), (tsg, eB D 100 tb), (vg, .inr (6, [.int (nI sh), .int (nI mo), .int (nI ov), .int (nI nr), .ref io, .ref am, .ref en, .int (nI (nl + (facP (sgT tb ln) 2 (p + 1)).2.2.length)), .ref sp])), (sp, eI D 100 (wr fs nl (facP (sgT tb ln) 2 (p + 1)).2.2))]) rfl rfl rfl rfl ?_
    refine v_istore (lv' := [(0, .ref txo), (1, .ref vg), (2, .int 2), (3, .int 1), (4, .int (b2i ((facP (sgT tb ln) 2 (p + 1)).2.1 = true)))]) O dX7_nested_35 (by decide) rfl ?_
    refine v_aload_n O dX7_nested_37 1 rfl ?_
    refine v_iconst (v := -1) O dX7_nested_38 (by decide) ?_
    refine v_cV (T := TX6) (ci := 6) (As := [.int (-1)]) (wr := [(txo, .inr (7, [.ref tsg, .int (nI ln), .int (nI ((facP (sgT tb ln) 2 (p + 1)).1)), .int ((sgT tb ln) ((facP (sgT tb ln) 2 (p + 1)).1))])), (tsg, eB D 100 tb)]) (st := []) O cf_X7_84 rfl (sp_X6_addStep (vg := vg) (sh := sh) (mo := mo) (ov := ov) (nr := nr) (io := io) (am := am) (en := en) (nl := (nl + (facP (sgT tb ln) 2 (p + 1)).2.2.length)) (sp := sp) (fs := (wr fs nl (facP (sgT tb ln) 2 (p + 1)).2.2)) (b := (-1)) (by omega)) dX7_nested_39 rfl rfl 2 rfl [2, 3] [0, 1] (by decide) rfl rfl (by decide) (by decide) (by decide) (Nat.le_of_ble_eq_true rfl) (by decide) (by decide) (fun r_19 w_20 h_18 => ?_)
    obtain ⟨rfl, rfl⟩ := h_18
    refine v_eq (st' := []) (ws' := [(txo, .inr (7, [.ref tsg, .int (nI ln), .int (nI ((facP (sgT tb ln) 2 (p + 1)).1)), .int ((sgT tb ln) ((facP (sgT tb ln) 2 (p + 1)).1))])), (tsg, eB D 100 tb), (vg, .inr (6, [.int (nI sh), .int (nI mo), .int (nI ov), .int (nI nr), .ref io, .ref am, .ref en, .int (nI ((nl + (facP (sgT tb ln) 2 (p + 1)).2.2.length) + 1)), .ref sp])), (sp, eI D 100 (upd (wr fs nl (facP (sgT tb ln) 2 (p + 1)).2.2) (nl + (facP (sgT tb ln) 2 (p + 1)).2.2.length) (-1)))]) rfl rfl rfl rfl ?_
    refine v_eq (ws' := [(txo, .inr (7, [.ref tsg, .int (nI ln), .int (nI ((facP (sgT tb ln) 2 (p + 1)).1)), .int ((sgT tb ln) ((facP (sgT tb ln) 2 (p + 1)).1))])), (tsg, eB D 100 tb), (vg, .inr (6, [.int (nI sh), .int (nI mo), .int (nI ov), .int (nI nr), .ref io, .ref am, .ref en, .int (nI (nl + (((facP (sgT tb ln) 2) (p + 1)).2.2 ++ [-1]).length)), .ref sp])), (sp, eI D 100 (wr fs nl (((facP (sgT tb ln) 2) (p + 1)).2.2 ++ [-1])))]) rfl rfl rfl (by rw [wr_2, wl_2]) ?_
    refine v_iload O dX7_nested_42 4 rfl ?_
    exact v_ireturn O T rfl (nrb _) (by decide) (by decide) dX7_nested_44 (⟨by unfold nesP; rw [if_pos z1], by unfold nesP; rw [if_pos z1]⟩)
set_option maxRecDepth 100000 in
set_option maxHeartbeats 4000000 in
theorem sp_X7_factor_3 {D : G} {txo : Nat} {tsg : Nat} {ln : Nat} {tb : Nat → Int32} {vg : Nat} {sh : Nat} {mo : Nat} {ov : Nat} {nr : Nat} {io : Nat} {am : Nat} {en : Nat} {nl : Nat} {sp : Nat} {fs : Nat → Int32} {p : Nat} (hln : ln ≤ 100) (hp : p ≤ ln) (hnl : nl ≤ p) : Sp D mX7_factor 17 0 0 [.ref txo, .ref vg, .int 1] [(txo, .inr (7, [.ref tsg, .int (nI ln), .int (nI p), .int ((sgT tb ln) p)])), (tsg, eB D 100 tb), (vg, .inr (6, [.int (nI sh), .int (nI mo), .int (nI ov), .int (nI nr), .ref io, .ref am, .ref en, .int (nI nl), .ref sp])), (sp, eI D 100 fs)] (fun r w => r = some (.int (b2i ((facP (sgT tb ln) 3 p).2.1 = true))) ∧ w = [(txo, .inr (7, [.ref tsg, .int (nI ln), .int (nI ((facP (sgT tb ln) 3 p).1)), .int ((sgT tb ln) ((facP (sgT tb ln) 3 p).1))])), (tsg, eB D 100 tb), (vg, .inr (6, [.int (nI sh), .int (nI mo), .int (nI ov), .int (nI nr), .ref io, .ref am, .ref en, .int (nI (nl + (facP (sgT tb ln) 3 p).2.2.length)), .ref sp])), (sp, eI D 100 (wr fs nl (facP (sgT tb ln) 3 p).2.2))]) := by
  refine Sp.of (by decide) (Nat.le_of_ble_eq_true rfl) (fun X O T => ?_)
  refine v_eq (lv' := [(0, .ref txo), (1, .ref vg), (2, .int 1)]) rfl rfl rfl rfl ?_
  refine v_aload_n O dX7_factor_0 0 rfl ?_
  refine gf_X7_22 O rfl dX7_factor_1 0 rfl rfl ?_
  refine v_bipush (v := 40) O dX7_factor_4 (by decide) ?_
  refine v_icmp_eq O 18 dX7_factor_6 (by decide) (fun z1 => ?_) (fun z1 => ?_)
  · skip
    have z_n : (sgT tb ln) p = 40 ∨ (sgT tb ln) p = 33 := Or.inl z1
    refine v_iload_n O dX7_factor_18 2 rfl ?_
    refine v_iconst (v := 4) O dX7_factor_19 (by decide) ?_
    refine v_icmp_ge O 38 dX7_factor_20 (by decide) (fun c => absurd c (by decide)) (fun _ => ?_)
    refine v_aload_n O dX7_factor_23 0 rfl ?_
    refine v_aload_n O dX7_factor_24 1 rfl ?_
    refine v_iload_n O dX7_factor_25 2 rfl ?_
    refine v_iconst (v := 1) O dX7_factor_26 (by decide) ?_
    refine v_iadd O dX7_factor_27 ?_
    refine v_top (y := nI 2) rfl ?_
    refine v_cV (T := TX7) (ci := 7) (As := [.ref vg, .int (nI 2)]) (wr := []) (st := []) O cf_X7_90 rfl (sp_X7_nested_2 (txo := txo) (tsg := tsg) (ln := ln) (tb := tb) (vg := vg) (sh := sh) (mo := mo) (ov := ov) (nr := nr) (io := io) (am := am) (en := en) (nl := nl) (sp := sp) (fs := fs) (p := p) (hln) (hp) (hnl) (z_n)) dX7_factor_28 rfl rfl 0 rfl [0, 1, 2, 3] [] (by decide) rfl rfl (by decide) (by decide) (by decide) (Nat.le_of_ble_eq_true rfl) (by decide) (by decide) (fun r_3 w_4 h_2 => ?_)
    obtain ⟨rfl, rfl⟩ := h_2
    refine v_eq (st' := [.int (b2i ((nesP (facP (sgT tb ln) 2) (sgT tb ln) p).2.1 = true))]) (ws' := [(txo, .inr (7, [.ref tsg, .int (nI ln), .int (nI ((nesP (facP (sgT tb ln) 2) (sgT tb ln) p).1)), .int ((sgT tb ln) ((nesP (facP (sgT tb ln) 2) (sgT tb ln) p).1))])), (tsg, eB D 100 tb), (vg, .inr (6, [.int (nI sh), .int (nI mo), .int (nI ov), .int (nI nr), .ref io, .ref am, .ref en, .int (nI (nl + (nesP (facP (sgT tb ln) 2) (sgT tb ln) p).2.2.length)), .ref sp])), (sp, eI D 100 (wr fs nl (nesP (facP (sgT tb ln) 2) (sgT tb ln) p).2.2))]) rfl rfl rfl rfl ?_
    refine v_if_eq O 38 dX7_factor_31 (by decide) (fun z4 => ?_) (fun z4 => ?_)
    · skip
      have z4 := b2i_0.mp z4
      refine v_iconst (v := 0) O dX7_factor_38 (by decide) ?_
      exact v_ireturn O T rfl rfl (by decide) (by decide) dX7_factor_39 (⟨by rw [facP_n (f := 2) z_n, b2i_f z4], by rw [facP_n (f := 2) z_n]⟩)
    · skip
      have z4 := b2i_1.mp z4
      refine v_iconst (v := 1) O dX7_factor_34 (by decide) ?_
      refine v_goto O 39 dX7_factor_35 (by decide) ?_
      exact v_ireturn O T rfl rfl (by decide) (by decide) dX7_factor_39 (⟨by rw [facP_n (f := 2) z_n, b2i_t z4], by rw [facP_n (f := 2) z_n]⟩)
  · skip
    refine v_aload_n O dX7_factor_9 0 rfl ?_
    refine gf_X7_22 O rfl dX7_factor_10 0 rfl rfl ?_
    refine v_bipush (v := 33) O dX7_factor_13 (by decide) ?_
    refine v_icmp_ne O 40 dX7_factor_15 (by decide) (fun z2 => ?_) (fun z2 => ?_)
    · skip
      have z_t : ¬ ((sgT tb ln) p = 40 ∨ (sgT tb ln) p = 33) := fun z9 => z9.elim z1 z2
      refine v_ldcS O 5 (by decide) rfl dX7_factor_40 ?_
      refine v_aload_n O dX7_factor_42 0 rfl ?_
      refine gf_X7_22 O rfl dX7_factor_43 0 rfl rfl ?_
      refine v_cS (As := [.ref (D.2.2 (10 + 5)), .int ((sgT tb ln) p)]) (wr := [(txo, .inr (7, [.ref tsg, .int (nI ln), .int (nI p), .int ((sgT tb ln) p)])), (tsg, eB D 100 tb), (vg, .inr (6, [.int (nI sh), .int (nI mo), .int (nI ov), .int (nI nr), .ref io, .ref am, .ref en, .int (nI nl), .ref sp])), (sp, eI D 100 fs)]) (st := []) O cf_X7_95 (sp_X7_indexIn_5 (x := ((sgT tb ln) p)) ) dX7_factor_46 rfl rfl [] [0, 1, 2, 3] (by decide) rfl rfl (by decide) (by decide) (by decide) (Nat.le_of_ble_eq_true rfl) (by decide) (by decide) (fun r_6 w_7 h_5 => ?_)
      obtain ⟨rfl, rfl⟩ := h_5
      refine v_eq (st' := [.int (ixL ((sgT tb ln) p))]) (ws' := [(txo, .inr (7, [.ref tsg, .int (nI ln), .int (nI p), .int ((sgT tb ln) p)])), (tsg, eB D 100 tb), (vg, .inr (6, [.int (nI sh), .int (nI mo), .int (nI ov), .int (nI nr), .ref io, .ref am, .ref en, .int (nI nl), .ref sp])), (sp, eI D 100 fs)]) rfl rfl rfl rfl ?_
      refine v_istore_n (lv' := [(0, .ref txo), (1, .ref vg), (2, .int 1), (3, .int (ixL ((sgT tb ln) p)))]) O dX7_factor_49 (by decide) rfl ?_
      refine v_iload_n O dX7_factor_50 3 rfl ?_
      refine v_if_ge O 56 dX7_factor_51 (by decide) (fun z5 => ?_) (fun z5 => ?_)
      · skip
        have z5 := Int32.not_lt.mpr z5
        refine v_aload_n O dX7_factor_56 0 rfl ?_
        refine v_aload_n O dX7_factor_57 0 rfl ?_
        refine gf_X7_19 O rfl dX7_factor_58 0 rfl rfl ?_
        refine v_iconst (v := 1) O dX7_factor_61 (by decide) ?_
        refine v_iadd O dX7_factor_62 ?_
        refine v_top (y := nI (p + 1)) (nI_add p 1) ?_
        refine v_cV (T := TX7) (ci := 7) (As := [.int (nI (p + 1))]) (wr := [(vg, .inr (6, [.int (nI sh), .int (nI mo), .int (nI ov), .int (nI nr), .ref io, .ref am, .ref en, .int (nI nl), .ref sp])), (sp, eI D 100 fs)]) (st := []) O cf_X7_30 rfl (sp_X7_goTo (txo := txo) (tsg := tsg) (ln := ln) (tb := tb) (pl := (nI p)) (si := ((sgT tb ln) p)) (q := (p + 1)) (hln) (by omega)) dX7_factor_63 rfl rfl 0 rfl [0, 1] [2, 3] (by decide) rfl rfl (by decide) (by decide) (by decide) (Nat.le_of_ble_eq_true rfl) (by decide) (by decide) (fun r_9 w_10 h_8 => ?_)
        obtain ⟨rfl, rfl⟩ := h_8
        refine v_eq (st' := []) (ws' := [(vg, .inr (6, [.int (nI sh), .int (nI mo), .int (nI ov), .int (nI nr), .ref io, .ref am, .ref en, .int (nI nl), .ref sp])), (sp, eI D 100 fs), (txo, .inr (7, [.ref tsg, .int (nI ln), .int (nI (p + 1)), .int ((sgT tb ln) (p + 1))])), (tsg, eB D 100 tb)]) rfl rfl rfl rfl ?_
        refine v_ldcS O 6 (by decide) rfl dX7_factor_66 ?_
        refine v_aload_n O dX7_factor_68 0 rfl ?_
        refine gf_X7_22 O rfl dX7_factor_69 2 rfl rfl ?_
        refine v_cS (As := [.ref (D.2.2 (10 + 6)), .int ((sgT tb ln) (p + 1))]) (wr := [(vg, .inr (6, [.int (nI sh), .int (nI mo), .int (nI ov), .int (nI nr), .ref io, .ref am, .ref en, .int (nI nl), .ref sp])), (sp, eI D 100 fs), (txo, .inr (7, [.ref tsg, .int (nI ln), .int (nI (p + 1)), .int ((sgT tb ln) (p + 1))])), (tsg, eB D 100 tb)]) (st := []) O cf_X7_95 (sp_X7_indexIn_6 (x := ((sgT tb ln) (p + 1))) ) dX7_factor_72 rfl rfl [] [0, 1, 2, 3] (by decide) rfl rfl (by decide) (by decide) (by decide) (Nat.le_of_ble_eq_true rfl) (by decide) (by decide) (fun r_12 w_13 h_11 => ?_)
        obtain ⟨rfl, rfl⟩ := h_11
        refine v_eq (st' := [.int (ixR ((sgT tb ln) (p + 1)))]) (ws' := [(vg, .inr (6, [.int (nI sh), .int (nI mo), .int (nI ov), .int (nI nr), .ref io, .ref am, .ref en, .int (nI nl), .ref sp])), (sp, eI D 100 fs), (txo, .inr (7, [.ref tsg, .int (nI ln), .int (nI (p + 1)), .int ((sgT tb ln) (p + 1))])), (tsg, eB D 100 tb)]) rfl rfl rfl rfl ?_
        refine v_istore (lv' := [(0, .ref txo), (1, .ref vg), (2, .int 1), (3, .int (ixL ((sgT tb ln) p))), (4, .int (ixR ((sgT tb ln) (p + 1))))]) O dX7_factor_75 (by decide) rfl ?_
        refine v_iload O dX7_factor_77 4 rfl ?_
        refine v_if_ge O 84 dX7_factor_79 (by decide) (fun z6 => ?_) (fun z6 => ?_)
        · skip
          have z6 := Int32.not_lt.mpr z6
          refine v_aload_n O dX7_factor_84 0 rfl ?_
          refine v_aload_n O dX7_factor_85 0 rfl ?_
          refine gf_X7_19 O rfl dX7_factor_86 2 rfl rfl ?_
          refine v_iconst (v := 1) O dX7_factor_89 (by decide) ?_
          refine v_iadd O dX7_factor_90 ?_
          refine v_top (y := nI ((p + 1) + 1)) (nI_add (p + 1) 1) ?_
          refine v_cV (T := TX7) (ci := 7) (As := [.int (nI ((p + 1) + 1))]) (wr := [(vg, .inr (6, [.int (nI sh), .int (nI mo), .int (nI ov), .int (nI nr), .ref io, .ref am, .ref en, .int (nI nl), .ref sp])), (sp, eI D 100 fs)]) (st := []) O cf_X7_30 rfl (sp_X7_goTo (txo := txo) (tsg := tsg) (ln := ln) (tb := tb) (pl := (nI (p + 1))) (si := ((sgT tb ln) (p + 1))) (q := ((p + 1) + 1)) (hln) (by omega)) dX7_factor_91 rfl rfl 2 rfl [2, 3] [0, 1] (by decide) rfl rfl (by decide) (by decide) (by decide) (Nat.le_of_ble_eq_true rfl) (by decide) (by decide) (fun r_15 w_16 h_14 => ?_)
          obtain ⟨rfl, rfl⟩ := h_14
          refine v_eq (st' := []) (ws' := [(vg, .inr (6, [.int (nI sh), .int (nI mo), .int (nI ov), .int (nI nr), .ref io, .ref am, .ref en, .int (nI nl), .ref sp])), (sp, eI D 100 fs), (txo, .inr (7, [.ref tsg, .int (nI ln), .int (nI ((p + 1) + 1)), .int ((sgT tb ln) ((p + 1) + 1))])), (tsg, eB D 100 tb)]) rfl rfl rfl rfl ?_
          refine v_aload_n O dX7_factor_94 0 rfl ?_
          by_cases z7 : isd ((sgT tb ln) (p + 1 + 1))
          · skip
            refine v_cV (T := TX7) (ci := 7) (As := []) (wr := [(vg, .inr (6, [.int (nI sh), .int (nI mo), .int (nI ov), .int (nI nr), .ref io, .ref am, .ref en, .int (nI nl), .ref sp])), (sp, eI D 100 fs)]) (st := []) O cf_X7_42 rfl (sp_X7_number_t (txo := txo) (tsg := tsg) (ln := ln) (tb := tb) (p := ((p + 1) + 1)) (hln) (z7)) dX7_factor_95 rfl rfl 2 rfl [2, 3] [0, 1] (by decide) rfl rfl (by decide) (by decide) (by decide) (Nat.le_of_ble_eq_true rfl) (by decide) (by decide) (fun r_17 w_18 h_nt => ?_)
            obtain ⟨rfl, rfl⟩ := h_nt
            refine v_eq (st' := [.int (nI (numN (sgT tb ln) ((p + 1) + 1)))]) (ws' := [(vg, .inr (6, [.int (nI sh), .int (nI mo), .int (nI ov), .int (nI nr), .ref io, .ref am, .ref en, .int (nI nl), .ref sp])), (sp, eI D 100 fs), (txo, .inr (7, [.ref tsg, .int (nI ln), .int (nI (numE (sgT tb ln) ((p + 1) + 1))), .int ((sgT tb ln) (numE (sgT tb ln) ((p + 1) + 1)))])), (tsg, eB D 100 tb)]) rfl rfl rfl rfl ?_
            refine v_istore (lv' := [(0, .ref txo), (1, .ref vg), (2, .int 1), (3, .int (ixL ((sgT tb ln) p))), (4, .int (ixR ((sgT tb ln) (p + 1)))), (5, .int (nI (numN (sgT tb ln) ((p + 1) + 1))))]) O dX7_factor_98 (by decide) rfl ?_
            refine v_iload O dX7_factor_100 5 rfl ?_
            have z_le := numN_le z7
            refine v_if_ge O 107 dX7_factor_102 (by decide) (fun _ => ?_) (fun c => absurd (Int32.not_lt.mp (nI_pos (by omega))) c)
            refine v_aload_n O dX7_factor_107 1 rfl ?_
            refine v_iload_n O dX7_factor_108 3 rfl ?_
            refine v_iconst (v := 3) O dX7_factor_109 (by decide) ?_
            refine v_imul O dX7_factor_110 ?_
            refine v_iload O dX7_factor_111 4 rfl ?_
            refine v_iadd O dX7_factor_113 ?_
            refine v_bipush (v := 100) O dX7_factor_114 (by decide) ?_
            refine v_imul O dX7_factor_116 ?_
            refine v_iload O dX7_factor_117 5 rfl ?_
            refine v_iadd O dX7_factor_119 ?_
            refine v_cV (T := TX6) (ci := 6) (As := [.int (((((ixL ((sgT tb ln) p)) * 3) + (ixR ((sgT tb ln) (p + 1)))) * 100) + (nI (numN (sgT tb ln) ((p + 1) + 1))))]) (wr := [(txo, .inr (7, [.ref tsg, .int (nI ln), .int (nI (numE (sgT tb ln) ((p + 1) + 1))), .int ((sgT tb ln) (numE (sgT tb ln) ((p + 1) + 1)))])), (tsg, eB D 100 tb)]) (st := []) O cf_X7_84 rfl (sp_X6_addStep (vg := vg) (sh := sh) (mo := mo) (ov := ov) (nr := nr) (io := io) (am := am) (en := en) (nl := nl) (sp := sp) (fs := fs) (b := (((((ixL ((sgT tb ln) p)) * 3) + (ixR ((sgT tb ln) (p + 1)))) * 100) + (nI (numN (sgT tb ln) ((p + 1) + 1))))) (by have := isd_lt z7; omega)) dX7_factor_120 rfl rfl 0 rfl [0, 1] [2, 3] (by decide) rfl rfl (by decide) (by decide) (by decide) (Nat.le_of_ble_eq_true rfl) (by decide) (by decide) (fun r_20 w_21 h_19 => ?_)
            obtain ⟨rfl, rfl⟩ := h_19
            refine v_eq (st' := []) (ws' := [(txo, .inr (7, [.ref tsg, .int (nI ln), .int (nI (numE (sgT tb ln) ((p + 1) + 1))), .int ((sgT tb ln) (numE (sgT tb ln) ((p + 1) + 1)))])), (tsg, eB D 100 tb), (vg, .inr (6, [.int (nI sh), .int (nI mo), .int (nI ov), .int (nI nr), .ref io, .ref am, .ref en, .int (nI (nl + 1)), .ref sp])), (sp, eI D 100 (upd fs nl (((((ixL ((sgT tb ln) p)) * 3) + (ixR ((sgT tb ln) (p + 1)))) * 100) + (nI (numN (sgT tb ln) ((p + 1) + 1))))))]) rfl rfl rfl rfl ?_
            refine v_iconst (v := 1) O dX7_factor_123 (by decide) ?_
            exact v_ireturn O T rfl rfl (by decide) (by decide) dX7_factor_124 (⟨by rw [facP_t z_t]; unfold tstP; rw [if_neg z5, if_neg z6, if_pos z7]; exact bT, by rw [facP_t z_t]; unfold tstP; rw [if_neg z5, if_neg z6, if_pos z7]; rfl⟩)
          · skip
            refine v_cV (T := TX7) (ci := 7) (As := []) (wr := [(vg, .inr (6, [.int (nI sh), .int (nI mo), .int (nI ov), .int (nI nr), .ref io, .ref am, .ref en, .int (nI nl), .ref sp])), (sp, eI D 100 fs)]) (st := []) O cf_X7_42 rfl (sp_X7_number_f (txo := txo) (tsg := tsg) (ln := ln) (tb := tb) (p := ((p + 1) + 1)) (z7)) dX7_factor_95 rfl rfl 2 rfl [2, 3] [0, 1] (by decide) rfl rfl (by decide) (by decide) (by decide) (Nat.le_of_ble_eq_true rfl) (by decide) (by decide) (fun r_22 w_23 h_nf => ?_)
            obtain ⟨rfl, rfl⟩ := h_nf
            refine v_eq (st' := [.int (-1)]) (ws' := [(vg, .inr (6, [.int (nI sh), .int (nI mo), .int (nI ov), .int (nI nr), .ref io, .ref am, .ref en, .int (nI nl), .ref sp])), (sp, eI D 100 fs), (txo, .inr (7, [.ref tsg, .int (nI ln), .int (nI ((p + 1) + 1)), .int ((sgT tb ln) ((p + 1) + 1))])), (tsg, eB D 100 tb)]) rfl rfl rfl rfl ?_
            refine v_istore (lv' := [(0, .ref txo), (1, .ref vg), (2, .int 1), (3, .int (ixL ((sgT tb ln) p))), (4, .int (ixR ((sgT tb ln) (p + 1)))), (5, .int (-1))]) O dX7_factor_98 (by decide) rfl ?_
            refine v_iload O dX7_factor_100 5 rfl ?_
            refine v_if_ge O 107 dX7_factor_102 (by decide) (fun c => absurd c (by decide)) (fun _ => ?_)
            refine v_iconst (v := 0) O dX7_factor_105 (by decide) ?_
            refine v_sub (ws' := [(txo, .inr (7, [.ref tsg, .int (nI ln), .int (nI ((p + 1) + 1)), .int ((sgT tb ln) ((p + 1) + 1))])), (tsg, eB D 100 tb), (vg, .inr (6, [.int (nI sh), .int (nI mo), .int (nI ov), .int (nI nr), .ref io, .ref am, .ref en, .int (nI nl), .ref sp])), (sp, eI D 100 fs)]) [2, 3, 0, 1] (by decide) rfl ?_
            exact v_ireturn O T rfl rfl (by decide) (by decide) dX7_factor_106 (⟨by rw [facP_t z_t]; unfold tstP; rw [if_neg z5, if_neg z6, if_neg z7]; exact bF, by rw [facP_t z_t]; unfold tstP; rw [if_neg z5, if_neg z6, if_neg z7]; rfl⟩)
        · skip
          have z6 := Int32.not_le.mp z6
          refine v_iconst (v := 0) O dX7_factor_82 (by decide) ?_
          refine v_sub (ws' := [(txo, .inr (7, [.ref tsg, .int (nI ln), .int (nI (p + 1)), .int ((sgT tb ln) (p + 1))])), (tsg, eB D 100 tb), (vg, .inr (6, [.int (nI sh), .int (nI mo), .int (nI ov), .int (nI nr), .ref io, .ref am, .ref en, .int (nI nl), .ref sp])), (sp, eI D 100 fs)]) [2, 3, 0, 1] (by decide) rfl ?_
          exact v_ireturn O T rfl rfl (by decide) (by decide) dX7_factor_83 (⟨by rw [facP_t z_t]; unfold tstP; rw [if_neg z5, if_pos z6]; exact bF, by rw [facP_t z_t]; unfold tstP; rw [if_neg z5, if_pos z6]; rfl⟩)
      · skip
        have z5 := Int32.not_le.mp z5
        have z5 : ixL ((sgT tb ln) p) < 0 := z5
        refine v_iconst (v := 0) O dX7_factor_54 (by decide) ?_
        exact v_ireturn O T rfl rfl (by decide) (by decide) dX7_factor_55 (⟨by rw [facP_t z_t]; unfold tstP; rw [if_pos z5]; exact bF, by rw [facP_t z_t]; unfold tstP; rw [if_pos z5]; rfl⟩)
    · skip
      have z_n : (sgT tb ln) p = 40 ∨ (sgT tb ln) p = 33 := Or.inr z2
      refine v_iload_n O dX7_factor_18 2 rfl ?_
      refine v_iconst (v := 4) O dX7_factor_19 (by decide) ?_
      refine v_icmp_ge O 38 dX7_factor_20 (by decide) (fun c => absurd c (by decide)) (fun _ => ?_)
      refine v_aload_n O dX7_factor_23 0 rfl ?_
      refine v_aload_n O dX7_factor_24 1 rfl ?_
      refine v_iload_n O dX7_factor_25 2 rfl ?_
      refine v_iconst (v := 1) O dX7_factor_26 (by decide) ?_
      refine v_iadd O dX7_factor_27 ?_
      refine v_top (y := nI 2) rfl ?_
      refine v_cV (T := TX7) (ci := 7) (As := [.ref vg, .int (nI 2)]) (wr := []) (st := []) O cf_X7_90 rfl (sp_X7_nested_2 (txo := txo) (tsg := tsg) (ln := ln) (tb := tb) (vg := vg) (sh := sh) (mo := mo) (ov := ov) (nr := nr) (io := io) (am := am) (en := en) (nl := nl) (sp := sp) (fs := fs) (p := p) (hln) (hp) (hnl) (z_n)) dX7_factor_28 rfl rfl 0 rfl [0, 1, 2, 3] [] (by decide) rfl rfl (by decide) (by decide) (by decide) (Nat.le_of_ble_eq_true rfl) (by decide) (by decide) (fun r_26 w_27 h_25 => ?_)
      obtain ⟨rfl, rfl⟩ := h_25
      refine v_eq (st' := [.int (b2i ((nesP (facP (sgT tb ln) 2) (sgT tb ln) p).2.1 = true))]) (ws' := [(txo, .inr (7, [.ref tsg, .int (nI ln), .int (nI ((nesP (facP (sgT tb ln) 2) (sgT tb ln) p).1)), .int ((sgT tb ln) ((nesP (facP (sgT tb ln) 2) (sgT tb ln) p).1))])), (tsg, eB D 100 tb), (vg, .inr (6, [.int (nI sh), .int (nI mo), .int (nI ov), .int (nI nr), .ref io, .ref am, .ref en, .int (nI (nl + (nesP (facP (sgT tb ln) 2) (sgT tb ln) p).2.2.length)), .ref sp])), (sp, eI D 100 (wr fs nl (nesP (facP (sgT tb ln) 2) (sgT tb ln) p).2.2))]) rfl rfl rfl rfl ?_
      refine v_if_eq O 38 dX7_factor_31 (by decide) (fun z4 => ?_) (fun z4 => ?_)
      · skip
        have z4 := b2i_0.mp z4
        refine v_iconst (v := 0) O dX7_factor_38 (by decide) ?_
        exact v_ireturn O T rfl rfl (by decide) (by decide) dX7_factor_39 (⟨by rw [facP_n (f := 2) z_n, b2i_f z4], by rw [facP_n (f := 2) z_n]⟩)
      · skip
        have z4 := b2i_1.mp z4
        refine v_iconst (v := 1) O dX7_factor_34 (by decide) ?_
        refine v_goto O 39 dX7_factor_35 (by decide) ?_
        exact v_ireturn O T rfl rfl (by decide) (by decide) dX7_factor_39 (⟨by rw [facP_n (f := 2) z_n, b2i_t z4], by rw [facP_n (f := 2) z_n]⟩)
set_option maxRecDepth 100000 in
set_option maxHeartbeats 4000000 in
theorem l_X7_both_3 {D : G} {X : CX} {txo : Nat} {tsg : Nat} {ln : Nat} {tb : Nat → Int32} {vg : Nat} {sh : Nat} {mo : Nat} {ov : Nat} {nr : Nat} {io : Nat} {am : Nat} {en : Nat} {nl : Nat} {sp : Nat} {fs : Nat → Int32} {p : Nat} (O : Ok D X mX7_both 18 0 0) (hln : ln ≤ 100) (hp : p ≤ ln) (hnl : nl ≤ p) (T : Rt D X (fun r w => r = some (.int (b2i ((botP (facP (sgT tb ln) 3) (sgT tb ln) p).2.1 = true))) ∧ w = [(txo, .inr (7, [.ref tsg, .int (nI ln), .int (nI ((botP (facP (sgT tb ln) 3) (sgT tb ln) p).1)), .int ((sgT tb ln) ((botP (facP (sgT tb ln) 3) (sgT tb ln) p).1))])), (tsg, eB D 100 tb), (vg, .inr (6, [.int (nI sh), .int (nI mo), .int (nI ov), .int (nI nr), .ref io, .ref am, .ref en, .int (nI (nl + (botP (facP (sgT tb ln) 3) (sgT tb ln) p).2.2.length)), .ref sp])), (sp, eI D 100 (wr fs nl (botP (facP (sgT tb ln) 3) (sgT tb ln) p).2.2))]) 0 0) : ∀ (t i : Nat), i + t = 100 → ∀ r : Res, botP (facP (sgT tb ln) 3) (sgT tb ln) p = chn (facP (sgT tb ln) 3) (sgT tb ln) 38 (-2) t r → p + r.2.2.length ≤ r.1 ∧ r.1 ≤ ln → V D X 0 0 10 [(0, .ref txo), (1, .ref vg), (2, .int 1), (3, .int (b2i (r.2.1 = true))), (4, .int (nI i))] [] [(txo, .inr (7, [.ref tsg, .int (nI ln), .int (nI r.1), .int ((sgT tb ln) r.1)])), (tsg, eB D 100 tb), (vg, .inr (6, [.int (nI sh), .int (nI mo), .int (nI ov), .int (nI nr), .ref io, .ref am, .ref en, .int (nI (nl + r.2.2.length)), .ref sp])), (sp, eI D 100 (wr fs nl r.2.2))] := by
  intro t
  induction t with
  | zero =>
    intro i hi r hF hr
    refine v_iload O dX7_both_10 4 rfl ?_
    refine v_bipush (v := 100) O dX7_both_12 (by decide) ?_
    refine v_icmp_ge O 59 dX7_both_14 (by decide) (fun z1 => ?_) (fun z1 => ?_)
    · skip
      have z1 := (c_le' (x := nI i) (y := 100) (a := i) (b := 100) rfl rfl (by omega) (by omega)).mp z1
      refine v_iload_n O dX7_both_59 3 rfl ?_
      exact v_ireturn O T rfl (nrb _) (by decide) (by decide) dX7_both_60 (⟨by rw [hF, chn], by rw [hF, chn]⟩)
    · skip
      have z1 := (not_congr (c_le' (x := nI i) (y := 100) (a := i) (b := 100) rfl rfl (by omega) (by omega))).mp z1
      exact absurd z1 (by omega)
  | succ t ih =>
    intro i hi r hF hr
    refine v_iload O dX7_both_10 4 rfl ?_
    refine v_bipush (v := 100) O dX7_both_12 (by decide) ?_
    refine v_icmp_ge O 59 dX7_both_14 (by decide) (fun z1 => ?_) (fun z1 => ?_)
    · skip
      have z1 := (c_le' (x := nI i) (y := 100) (a := i) (b := 100) rfl rfl (by omega) (by omega)).mp z1
      exact absurd z1 (by omega)
    · skip
      have z1 := (not_congr (c_le' (x := nI i) (y := 100) (a := i) (b := 100) rfl rfl (by omega) (by omega))).mp z1
      refine v_iload_n O dX7_both_17 3 rfl ?_
      refine v_if_eq O 59 dX7_both_18 (by decide) (fun z2 => ?_) (fun z2 => ?_)
      · skip
        have z2 := b2i_0.mp z2
        refine v_iload_n O dX7_both_59 3 rfl ?_
        exact v_ireturn O T rfl (nrb _) (by decide) (by decide) dX7_both_60 (⟨by rw [hF, chn_n (fun z9 => absurd z9.1 z2)], by rw [hF, chn_n (fun z9 => absurd z9.1 z2)]⟩)
      · skip
        have z2 := b2i_1.mp z2
        refine v_aload_n O dX7_both_21 0 rfl ?_
        refine gf_X7_22 O rfl dX7_both_22 0 rfl rfl ?_
        refine v_bipush (v := 38) O dX7_both_25 (by decide) ?_
        refine v_icmp_ne O 59 dX7_both_27 (by decide) (fun z3 => ?_) (fun z3 => ?_)
        · skip
          refine v_iload_n O dX7_both_59 3 rfl ?_
          exact v_ireturn O T rfl (nrb _) (by decide) (by decide) dX7_both_60 (⟨by rw [hF, chn_n (fun z9 => absurd z9.2 z3)], by rw [hF, chn_n (fun z9 => absurd z9.2 z3)]⟩)
        · skip
          have z_p := sgT_lt z3 (by decide)
          have z_g := fac_ok (tb := tb) (ln := ln) 3 (r.1 + 1) z_p
          refine v_aload_n O dX7_both_30 0 rfl ?_
          refine v_aload_n O dX7_both_31 0 rfl ?_
          refine gf_X7_19 O rfl dX7_both_32 0 rfl rfl ?_
          refine v_iconst (v := 1) O dX7_both_35 (by decide) ?_
          refine v_iadd O dX7_both_36 ?_
          refine v_top (y := nI (r.1 + 1)) (nI_add r.1 1) ?_
          refine v_cV (T := TX7) (ci := 7) (As := [.int (nI (r.1 + 1))]) (wr := [(vg, .inr (6, [.int (nI sh), .int (nI mo), .int (nI ov), .int (nI nr), .ref io, .ref am, .ref en, .int (nI (nl + r.2.2.length)), .ref sp])), (sp, eI D 100 (wr fs nl r.2.2))]) (st := []) O cf_X7_30 rfl (sp_X7_goTo (txo := txo) (tsg := tsg) (ln := ln) (tb := tb) (pl := (nI r.1)) (si := ((sgT tb ln) r.1)) (q := (r.1 + 1)) (hln) (by omega)) dX7_both_37 rfl rfl 0 rfl [0, 1] [2, 3] (by decide) rfl rfl (by decide) (by decide) (by decide) (Nat.le_of_ble_eq_true rfl) (by decide) (by decide) (fun r_2 w_3 h_1 => ?_)
          obtain ⟨rfl, rfl⟩ := h_1
          refine v_eq (st' := []) (ws' := [(vg, .inr (6, [.int (nI sh), .int (nI mo), .int (nI ov), .int (nI nr), .ref io, .ref am, .ref en, .int (nI (nl + r.2.2.length)), .ref sp])), (sp, eI D 100 (wr fs nl r.2.2)), (txo, .inr (7, [.ref tsg, .int (nI ln), .int (nI (r.1 + 1)), .int ((sgT tb ln) (r.1 + 1))])), (tsg, eB D 100 tb)]) rfl rfl rfl rfl ?_
          refine v_aload_n O dX7_both_40 0 rfl ?_
          refine v_aload_n O dX7_both_41 1 rfl ?_
          refine v_iload_n O dX7_both_42 2 rfl ?_
          refine v_cV (T := TX7) (ci := 7) (As := [.ref vg, .int 1]) (wr := []) (st := []) O cf_X7_87 rfl (sp_X7_factor_3 (txo := txo) (tsg := tsg) (ln := ln) (tb := tb) (vg := vg) (sh := sh) (mo := mo) (ov := ov) (nr := nr) (io := io) (am := am) (en := en) (nl := (nl + r.2.2.length)) (sp := sp) (fs := (wr fs nl r.2.2)) (p := (r.1 + 1)) (hln) (by omega) (by omega)) dX7_both_43 rfl rfl 2 rfl [2, 3, 0, 1] [] (by decide) rfl rfl (by decide) (by decide) (by decide) (Nat.le_of_ble_eq_true rfl) (by decide) (by decide) (fun r_5 w_6 h_4 => ?_)
          obtain ⟨rfl, rfl⟩ := h_4
          refine v_eq (st' := [.int (b2i ((facP (sgT tb ln) 3 (r.1 + 1)).2.1 = true))]) (ws' := [(txo, .inr (7, [.ref tsg, .int (nI ln), .int (nI ((facP (sgT tb ln) 3 (r.1 + 1)).1)), .int ((sgT tb ln) ((facP (sgT tb ln) 3 (r.1 + 1)).1))])), (tsg, eB D 100 tb), (vg, .inr (6, [.int (nI sh), .int (nI mo), .int (nI ov), .int (nI nr), .ref io, .ref am, .ref en, .int (nI ((nl + r.2.2.length) + (facP (sgT tb ln) 3 (r.1 + 1)).2.2.length)), .ref sp])), (sp, eI D 100 (wr (wr fs nl r.2.2) (nl + r.2.2.length) (facP (sgT tb ln) 3 (r.1 + 1)).2.2))]) rfl rfl rfl rfl ?_
          refine v_istore_n (lv' := [(0, .ref txo), (1, .ref vg), (2, .int 1), (3, .int (b2i ((facP (sgT tb ln) 3 (r.1 + 1)).2.1 = true))), (4, .int (nI i))]) O dX7_both_46 (by decide) rfl ?_
          refine v_aload_n O dX7_both_47 1 rfl ?_
          refine v_bipush (v := -2) O dX7_both_48 (by decide) ?_
          refine v_cV (T := TX6) (ci := 6) (As := [.int (-2)]) (wr := [(txo, .inr (7, [.ref tsg, .int (nI ln), .int (nI ((facP (sgT tb ln) 3 (r.1 + 1)).1)), .int ((sgT tb ln) ((facP (sgT tb ln) 3 (r.1 + 1)).1))])), (tsg, eB D 100 tb)]) (st := []) O cf_X7_84 rfl (sp_X6_addStep (vg := vg) (sh := sh) (mo := mo) (ov := ov) (nr := nr) (io := io) (am := am) (en := en) (nl := ((nl + r.2.2.length) + (facP (sgT tb ln) 3 (r.1 + 1)).2.2.length)) (sp := sp) (fs := (wr (wr fs nl r.2.2) (nl + r.2.2.length) (facP (sgT tb ln) 3 (r.1 + 1)).2.2)) (b := (-2)) (by omega)) dX7_both_50 rfl rfl 2 rfl [2, 3] [0, 1] (by decide) rfl rfl (by decide) (by decide) (by decide) (Nat.le_of_ble_eq_true rfl) (by decide) (by decide) (fun r_8 w_9 h_7 => ?_)
          obtain ⟨rfl, rfl⟩ := h_7
          refine v_eq (st' := []) (ws' := [(txo, .inr (7, [.ref tsg, .int (nI ln), .int (nI ((facP (sgT tb ln) 3 (r.1 + 1)).1)), .int ((sgT tb ln) ((facP (sgT tb ln) 3 (r.1 + 1)).1))])), (tsg, eB D 100 tb), (vg, .inr (6, [.int (nI sh), .int (nI mo), .int (nI ov), .int (nI nr), .ref io, .ref am, .ref en, .int (nI (((nl + r.2.2.length) + (facP (sgT tb ln) 3 (r.1 + 1)).2.2.length) + 1)), .ref sp])), (sp, eI D 100 (upd (wr (wr fs nl r.2.2) (nl + r.2.2.length) (facP (sgT tb ln) 3 (r.1 + 1)).2.2) ((nl + r.2.2.length) + (facP (sgT tb ln) 3 (r.1 + 1)).2.2.length) (-2)))]) rfl rfl rfl rfl ?_
          refine v_eq (ws' := [(txo, .inr (7, [.ref tsg, .int (nI ln), .int (nI ((facP (sgT tb ln) 3 (r.1 + 1)).1)), .int ((sgT tb ln) ((facP (sgT tb ln) 3 (r.1 + 1)).1))])), (tsg, eB D 100 tb), (vg, .inr (6, [.int (nI sh), .int (nI mo), .int (nI ov), .int (nI nr), .ref io, .ref am, .ref en, .int (nI (nl + (r.2.2 ++ (((facP (sgT tb ln) 3) (r.1 + 1)).2.2 ++ [-2])).length)), .ref sp])), (sp, eI D 100 (wr fs nl (r.2.2 ++ (((facP (sgT tb ln) 3) (r.1 + 1)).2.2 ++ [-2]))))]) rfl rfl rfl (by rw [wr_3, wl_3]) ?_
          refine v_iinc (v := nI (i + 1)) (lv' := [(0, .ref txo), (1, .ref vg), (2, .int 1), (3, .int (b2i ((facP (sgT tb ln) 3 (r.1 + 1)).2.1 = true))), (4, .int (nI (i + 1)))]) O dX7_both_53 4 rfl (nI_1 i) (by decide) rfl ?_
          refine v_goto O 10 dX7_both_56 (by decide) ?_
          exact ih (i + 1) (by omega) (((facP (sgT tb ln) 3) (r.1 + 1)).1, ((facP (sgT tb ln) 3) (r.1 + 1)).2.1, r.2.2 ++ (((facP (sgT tb ln) 3) (r.1 + 1)).2.2 ++ [-2])) (by rw [hF, chn_s ⟨z2, z3⟩]) ⟨by show p + (r.2.2 ++ (((facP (sgT tb ln) 3) (r.1 + 1)).2.2 ++ [(-2 : Int32)])).length ≤ ((facP (sgT tb ln) 3) (r.1 + 1)).1; rw [← wl_3]; omega, z_g.2⟩
set_option maxRecDepth 100000 in
set_option maxHeartbeats 4000000 in
theorem sp_X7_both_3 {D : G} {txo : Nat} {tsg : Nat} {ln : Nat} {tb : Nat → Int32} {vg : Nat} {sh : Nat} {mo : Nat} {ov : Nat} {nr : Nat} {io : Nat} {am : Nat} {en : Nat} {nl : Nat} {sp : Nat} {fs : Nat → Int32} {p : Nat} (hln : ln ≤ 100) (hp : p ≤ ln) (hnl : nl ≤ p) : Sp D mX7_both 18 0 0 [.ref txo, .ref vg, .int 1] [(txo, .inr (7, [.ref tsg, .int (nI ln), .int (nI p), .int ((sgT tb ln) p)])), (tsg, eB D 100 tb), (vg, .inr (6, [.int (nI sh), .int (nI mo), .int (nI ov), .int (nI nr), .ref io, .ref am, .ref en, .int (nI nl), .ref sp])), (sp, eI D 100 fs)] (fun r w => r = some (.int (b2i ((botP (facP (sgT tb ln) 3) (sgT tb ln) p).2.1 = true))) ∧ w = [(txo, .inr (7, [.ref tsg, .int (nI ln), .int (nI ((botP (facP (sgT tb ln) 3) (sgT tb ln) p).1)), .int ((sgT tb ln) ((botP (facP (sgT tb ln) 3) (sgT tb ln) p).1))])), (tsg, eB D 100 tb), (vg, .inr (6, [.int (nI sh), .int (nI mo), .int (nI ov), .int (nI nr), .ref io, .ref am, .ref en, .int (nI (nl + (botP (facP (sgT tb ln) 3) (sgT tb ln) p).2.2.length)), .ref sp])), (sp, eI D 100 (wr fs nl (botP (facP (sgT tb ln) 3) (sgT tb ln) p).2.2))]) := by
  refine Sp.of (by decide) (Nat.le_of_ble_eq_true rfl) (fun X O T => ?_)
  refine v_eq (lv' := [(0, .ref txo), (1, .ref vg), (2, .int 1)]) rfl rfl rfl rfl ?_
  refine v_aload_n O dX7_both_0 0 rfl ?_
  refine v_aload_n O dX7_both_1 1 rfl ?_
  refine v_iload_n O dX7_both_2 2 rfl ?_
  refine v_cV (T := TX7) (ci := 7) (As := [.ref vg, .int 1]) (wr := []) (st := []) O cf_X7_87 rfl (sp_X7_factor_3 (txo := txo) (tsg := tsg) (ln := ln) (tb := tb) (vg := vg) (sh := sh) (mo := mo) (ov := ov) (nr := nr) (io := io) (am := am) (en := en) (nl := nl) (sp := sp) (fs := fs) (p := p) (hln) (hp) (hnl)) dX7_both_3 rfl rfl 0 rfl [0, 1, 2, 3] [] (by decide) rfl rfl (by decide) (by decide) (by decide) (Nat.le_of_ble_eq_true rfl) (by decide) (by decide) (fun r_2 w_3 h_1 => ?_)
  obtain ⟨rfl, rfl⟩ := h_1
  refine v_eq (st' := [.int (b2i ((facP (sgT tb ln) 3 p).2.1 = true))]) (ws' := [(txo, .inr (7, [.ref tsg, .int (nI ln), .int (nI ((facP (sgT tb ln) 3 p).1)), .int ((sgT tb ln) ((facP (sgT tb ln) 3 p).1))])), (tsg, eB D 100 tb), (vg, .inr (6, [.int (nI sh), .int (nI mo), .int (nI ov), .int (nI nr), .ref io, .ref am, .ref en, .int (nI (nl + (facP (sgT tb ln) 3 p).2.2.length)), .ref sp])), (sp, eI D 100 (wr fs nl (facP (sgT tb ln) 3 p).2.2))]) rfl rfl rfl rfl ?_
  refine v_istore_n (lv' := [(0, .ref txo), (1, .ref vg), (2, .int 1), (3, .int (b2i ((facP (sgT tb ln) 3 p).2.1 = true)))]) O dX7_both_6 (by decide) rfl ?_
  refine v_iconst (v := 0) O dX7_both_7 (by decide) ?_
  refine v_istore (lv' := [(0, .ref txo), (1, .ref vg), (2, .int 1), (3, .int (b2i ((facP (sgT tb ln) 3 p).2.1 = true))), (4, .int 0)]) O dX7_both_8 (by decide) rfl ?_
  refine v_eq (lv' := [(0, .ref txo), (1, .ref vg), (2, .int 1), (3, .int (b2i ((facP (sgT tb ln) 3 p).2.1 = true))), (4, .int (nI 0))]) rfl rfl rfl rfl ?_
  exact l_X7_both_3 O hln hp hnl T 100 0 (by omega) ((facP (sgT tb ln) 3) p) rfl (fac_ok (tb := tb) (ln := ln) 3 p hp)
set_option maxRecDepth 100000 in
set_option maxHeartbeats 4000000 in
theorem l_X7_either_3 {D : G} {X : CX} {txo : Nat} {tsg : Nat} {ln : Nat} {tb : Nat → Int32} {vg : Nat} {sh : Nat} {mo : Nat} {ov : Nat} {nr : Nat} {io : Nat} {am : Nat} {en : Nat} {nl : Nat} {sp : Nat} {fs : Nat → Int32} {p : Nat} (O : Ok D X mX7_either 19 0 0) (hln : ln ≤ 100) (hp : p ≤ ln) (hnl : nl ≤ p) (T : Rt D X (fun r w => r = some (.int (b2i ((eitP (facP (sgT tb ln) 3) (sgT tb ln) p).2.1 = true))) ∧ w = [(txo, .inr (7, [.ref tsg, .int (nI ln), .int (nI ((eitP (facP (sgT tb ln) 3) (sgT tb ln) p).1)), .int ((sgT tb ln) ((eitP (facP (sgT tb ln) 3) (sgT tb ln) p).1))])), (tsg, eB D 100 tb), (vg, .inr (6, [.int (nI sh), .int (nI mo), .int (nI ov), .int (nI nr), .ref io, .ref am, .ref en, .int (nI (nl + (eitP (facP (sgT tb ln) 3) (sgT tb ln) p).2.2.length)), .ref sp])), (sp, eI D 100 (wr fs nl (eitP (facP (sgT tb ln) 3) (sgT tb ln) p).2.2))]) 0 0) : ∀ (t i : Nat), i + t = 100 → ∀ r : Res, eitP (facP (sgT tb ln) 3) (sgT tb ln) p = chn (botP (facP (sgT tb ln) 3) (sgT tb ln)) (sgT tb ln) 124 (-3) t r → p + r.2.2.length ≤ r.1 ∧ r.1 ≤ ln → V D X 0 0 10 [(0, .ref txo), (1, .ref vg), (2, .int 1), (3, .int (b2i (r.2.1 = true))), (4, .int (nI i))] [] [(txo, .inr (7, [.ref tsg, .int (nI ln), .int (nI r.1), .int ((sgT tb ln) r.1)])), (tsg, eB D 100 tb), (vg, .inr (6, [.int (nI sh), .int (nI mo), .int (nI ov), .int (nI nr), .ref io, .ref am, .ref en, .int (nI (nl + r.2.2.length)), .ref sp])), (sp, eI D 100 (wr fs nl r.2.2))] := by
  intro t
  induction t with
  | zero =>
    intro i hi r hF hr
    refine v_iload O dX7_either_10 4 rfl ?_
    refine v_bipush (v := 100) O dX7_either_12 (by decide) ?_
    refine v_icmp_ge O 59 dX7_either_14 (by decide) (fun z1 => ?_) (fun z1 => ?_)
    · skip
      have z1 := (c_le' (x := nI i) (y := 100) (a := i) (b := 100) rfl rfl (by omega) (by omega)).mp z1
      refine v_iload_n O dX7_either_59 3 rfl ?_
      exact v_ireturn O T rfl (nrb _) (by decide) (by decide) dX7_either_60 (⟨by rw [hF, chn], by rw [hF, chn]⟩)
    · skip
      have z1 := (not_congr (c_le' (x := nI i) (y := 100) (a := i) (b := 100) rfl rfl (by omega) (by omega))).mp z1
      exact absurd z1 (by omega)
  | succ t ih =>
    intro i hi r hF hr
    refine v_iload O dX7_either_10 4 rfl ?_
    refine v_bipush (v := 100) O dX7_either_12 (by decide) ?_
    refine v_icmp_ge O 59 dX7_either_14 (by decide) (fun z1 => ?_) (fun z1 => ?_)
    · skip
      have z1 := (c_le' (x := nI i) (y := 100) (a := i) (b := 100) rfl rfl (by omega) (by omega)).mp z1
      exact absurd z1 (by omega)
    · skip
      have z1 := (not_congr (c_le' (x := nI i) (y := 100) (a := i) (b := 100) rfl rfl (by omega) (by omega))).mp z1
      refine v_iload_n O dX7_either_17 3 rfl ?_
      refine v_if_eq O 59 dX7_either_18 (by decide) (fun z2 => ?_) (fun z2 => ?_)
      · skip
        have z2 := b2i_0.mp z2
        refine v_iload_n O dX7_either_59 3 rfl ?_
        exact v_ireturn O T rfl (nrb _) (by decide) (by decide) dX7_either_60 (⟨by rw [hF, chn_n (fun z9 => absurd z9.1 z2)], by rw [hF, chn_n (fun z9 => absurd z9.1 z2)]⟩)
      · skip
        have z2 := b2i_1.mp z2
        refine v_aload_n O dX7_either_21 0 rfl ?_
        refine gf_X7_22 O rfl dX7_either_22 0 rfl rfl ?_
        refine v_bipush (v := 124) O dX7_either_25 (by decide) ?_
        refine v_icmp_ne O 59 dX7_either_27 (by decide) (fun z3 => ?_) (fun z3 => ?_)
        · skip
          refine v_iload_n O dX7_either_59 3 rfl ?_
          exact v_ireturn O T rfl (nrb _) (by decide) (by decide) dX7_either_60 (⟨by rw [hF, chn_n (fun z9 => absurd z9.2 z3)], by rw [hF, chn_n (fun z9 => absurd z9.2 z3)]⟩)
        · skip
          have z_p := sgT_lt z3 (by decide)
          have z_g := bot_ok (tb := tb) (fac_ok (tb := tb) (ln := ln) 3) (r.1 + 1) z_p
          refine v_aload_n O dX7_either_30 0 rfl ?_
          refine v_aload_n O dX7_either_31 0 rfl ?_
          refine gf_X7_19 O rfl dX7_either_32 0 rfl rfl ?_
          refine v_iconst (v := 1) O dX7_either_35 (by decide) ?_
          refine v_iadd O dX7_either_36 ?_
          refine v_top (y := nI (r.1 + 1)) (nI_add r.1 1) ?_
          refine v_cV (T := TX7) (ci := 7) (As := [.int (nI (r.1 + 1))]) (wr := [(vg, .inr (6, [.int (nI sh), .int (nI mo), .int (nI ov), .int (nI nr), .ref io, .ref am, .ref en, .int (nI (nl + r.2.2.length)), .ref sp])), (sp, eI D 100 (wr fs nl r.2.2))]) (st := []) O cf_X7_30 rfl (sp_X7_goTo (txo := txo) (tsg := tsg) (ln := ln) (tb := tb) (pl := (nI r.1)) (si := ((sgT tb ln) r.1)) (q := (r.1 + 1)) (hln) (by omega)) dX7_either_37 rfl rfl 0 rfl [0, 1] [2, 3] (by decide) rfl rfl (by decide) (by decide) (by decide) (Nat.le_of_ble_eq_true rfl) (by decide) (by decide) (fun r_2 w_3 h_1 => ?_)
          obtain ⟨rfl, rfl⟩ := h_1
          refine v_eq (st' := []) (ws' := [(vg, .inr (6, [.int (nI sh), .int (nI mo), .int (nI ov), .int (nI nr), .ref io, .ref am, .ref en, .int (nI (nl + r.2.2.length)), .ref sp])), (sp, eI D 100 (wr fs nl r.2.2)), (txo, .inr (7, [.ref tsg, .int (nI ln), .int (nI (r.1 + 1)), .int ((sgT tb ln) (r.1 + 1))])), (tsg, eB D 100 tb)]) rfl rfl rfl rfl ?_
          refine v_aload_n O dX7_either_40 0 rfl ?_
          refine v_aload_n O dX7_either_41 1 rfl ?_
          refine v_iload_n O dX7_either_42 2 rfl ?_
          refine v_cV (T := TX7) (ci := 7) (As := [.ref vg, .int 1]) (wr := []) (st := []) O cf_X7_81 rfl (sp_X7_both_3 (txo := txo) (tsg := tsg) (ln := ln) (tb := tb) (vg := vg) (sh := sh) (mo := mo) (ov := ov) (nr := nr) (io := io) (am := am) (en := en) (nl := (nl + r.2.2.length)) (sp := sp) (fs := (wr fs nl r.2.2)) (p := (r.1 + 1)) (hln) (by omega) (by omega)) dX7_either_43 rfl rfl 2 rfl [2, 3, 0, 1] [] (by decide) rfl rfl (by decide) (by decide) (by decide) (Nat.le_of_ble_eq_true rfl) (by decide) (by decide) (fun r_5 w_6 h_4 => ?_)
          obtain ⟨rfl, rfl⟩ := h_4
          refine v_eq (st' := [.int (b2i ((botP (facP (sgT tb ln) 3) (sgT tb ln) (r.1 + 1)).2.1 = true))]) (ws' := [(txo, .inr (7, [.ref tsg, .int (nI ln), .int (nI ((botP (facP (sgT tb ln) 3) (sgT tb ln) (r.1 + 1)).1)), .int ((sgT tb ln) ((botP (facP (sgT tb ln) 3) (sgT tb ln) (r.1 + 1)).1))])), (tsg, eB D 100 tb), (vg, .inr (6, [.int (nI sh), .int (nI mo), .int (nI ov), .int (nI nr), .ref io, .ref am, .ref en, .int (nI ((nl + r.2.2.length) + (botP (facP (sgT tb ln) 3) (sgT tb ln) (r.1 + 1)).2.2.length)), .ref sp])), (sp, eI D 100 (wr (wr fs nl r.2.2) (nl + r.2.2.length) (botP (facP (sgT tb ln) 3) (sgT tb ln) (r.1 + 1)).2.2))]) rfl rfl rfl rfl ?_
          refine v_istore_n (lv' := [(0, .ref txo), (1, .ref vg), (2, .int 1), (3, .int (b2i ((botP (facP (sgT tb ln) 3) (sgT tb ln) (r.1 + 1)).2.1 = true))), (4, .int (nI i))]) O dX7_either_46 (by decide) rfl ?_
          refine v_aload_n O dX7_either_47 1 rfl ?_
          refine v_bipush (v := -3) O dX7_either_48 (by decide) ?_
          refine v_cV (T := TX6) (ci := 6) (As := [.int (-3)]) (wr := [(txo, .inr (7, [.ref tsg, .int (nI ln), .int (nI ((botP (facP (sgT tb ln) 3) (sgT tb ln) (r.1 + 1)).1)), .int ((sgT tb ln) ((botP (facP (sgT tb ln) 3) (sgT tb ln) (r.1 + 1)).1))])), (tsg, eB D 100 tb)]) (st := []) O cf_X7_84 rfl (sp_X6_addStep (vg := vg) (sh := sh) (mo := mo) (ov := ov) (nr := nr) (io := io) (am := am) (en := en) (nl := ((nl + r.2.2.length) + (botP (facP (sgT tb ln) 3) (sgT tb ln) (r.1 + 1)).2.2.length)) (sp := sp) (fs := (wr (wr fs nl r.2.2) (nl + r.2.2.length) (botP (facP (sgT tb ln) 3) (sgT tb ln) (r.1 + 1)).2.2)) (b := (-3)) (by omega)) dX7_either_50 rfl rfl 2 rfl [2, 3] [0, 1] (by decide) rfl rfl (by decide) (by decide) (by decide) (Nat.le_of_ble_eq_true rfl) (by decide) (by decide) (fun r_8 w_9 h_7 => ?_)
          obtain ⟨rfl, rfl⟩ := h_7
          refine v_eq (st' := []) (ws' := [(txo, .inr (7, [.ref tsg, .int (nI ln), .int (nI ((botP (facP (sgT tb ln) 3) (sgT tb ln) (r.1 + 1)).1)), .int ((sgT tb ln) ((botP (facP (sgT tb ln) 3) (sgT tb ln) (r.1 + 1)).1))])), (tsg, eB D 100 tb), (vg, .inr (6, [.int (nI sh), .int (nI mo), .int (nI ov), .int (nI nr), .ref io, .ref am, .ref en, .int (nI (((nl + r.2.2.length) + (botP (facP (sgT tb ln) 3) (sgT tb ln) (r.1 + 1)).2.2.length) + 1)), .ref sp])), (sp, eI D 100 (upd (wr (wr fs nl r.2.2) (nl + r.2.2.length) (botP (facP (sgT tb ln) 3) (sgT tb ln) (r.1 + 1)).2.2) ((nl + r.2.2.length) + (botP (facP (sgT tb ln) 3) (sgT tb ln) (r.1 + 1)).2.2.length) (-3)))]) rfl rfl rfl rfl ?_
          refine v_eq (ws' := [(txo, .inr (7, [.ref tsg, .int (nI ln), .int (nI ((botP (facP (sgT tb ln) 3) (sgT tb ln) (r.1 + 1)).1)), .int ((sgT tb ln) ((botP (facP (sgT tb ln) 3) (sgT tb ln) (r.1 + 1)).1))])), (tsg, eB D 100 tb), (vg, .inr (6, [.int (nI sh), .int (nI mo), .int (nI ov), .int (nI nr), .ref io, .ref am, .ref en, .int (nI (nl + (r.2.2 ++ (((botP (facP (sgT tb ln) 3) (sgT tb ln)) (r.1 + 1)).2.2 ++ [-3])).length)), .ref sp])), (sp, eI D 100 (wr fs nl (r.2.2 ++ (((botP (facP (sgT tb ln) 3) (sgT tb ln)) (r.1 + 1)).2.2 ++ [-3]))))]) rfl rfl rfl (by rw [wr_3, wl_3]) ?_
          refine v_iinc (v := nI (i + 1)) (lv' := [(0, .ref txo), (1, .ref vg), (2, .int 1), (3, .int (b2i ((botP (facP (sgT tb ln) 3) (sgT tb ln) (r.1 + 1)).2.1 = true))), (4, .int (nI (i + 1)))]) O dX7_either_53 4 rfl (nI_1 i) (by decide) rfl ?_
          refine v_goto O 10 dX7_either_56 (by decide) ?_
          exact ih (i + 1) (by omega) (((botP (facP (sgT tb ln) 3) (sgT tb ln)) (r.1 + 1)).1, ((botP (facP (sgT tb ln) 3) (sgT tb ln)) (r.1 + 1)).2.1, r.2.2 ++ (((botP (facP (sgT tb ln) 3) (sgT tb ln)) (r.1 + 1)).2.2 ++ [-3])) (by rw [hF, chn_s ⟨z2, z3⟩]) ⟨by show p + (r.2.2 ++ (((botP (facP (sgT tb ln) 3) (sgT tb ln)) (r.1 + 1)).2.2 ++ [(-3 : Int32)])).length ≤ ((botP (facP (sgT tb ln) 3) (sgT tb ln)) (r.1 + 1)).1; rw [← wl_3]; omega, z_g.2⟩
set_option maxRecDepth 100000 in
set_option maxHeartbeats 4000000 in
theorem sp_X7_either_3 {D : G} {txo : Nat} {tsg : Nat} {ln : Nat} {tb : Nat → Int32} {vg : Nat} {sh : Nat} {mo : Nat} {ov : Nat} {nr : Nat} {io : Nat} {am : Nat} {en : Nat} {nl : Nat} {sp : Nat} {fs : Nat → Int32} {p : Nat} (hln : ln ≤ 100) (hp : p ≤ ln) (hnl : nl ≤ p) : Sp D mX7_either 19 0 0 [.ref txo, .ref vg, .int 1] [(txo, .inr (7, [.ref tsg, .int (nI ln), .int (nI p), .int ((sgT tb ln) p)])), (tsg, eB D 100 tb), (vg, .inr (6, [.int (nI sh), .int (nI mo), .int (nI ov), .int (nI nr), .ref io, .ref am, .ref en, .int (nI nl), .ref sp])), (sp, eI D 100 fs)] (fun r w => r = some (.int (b2i ((eitP (facP (sgT tb ln) 3) (sgT tb ln) p).2.1 = true))) ∧ w = [(txo, .inr (7, [.ref tsg, .int (nI ln), .int (nI ((eitP (facP (sgT tb ln) 3) (sgT tb ln) p).1)), .int ((sgT tb ln) ((eitP (facP (sgT tb ln) 3) (sgT tb ln) p).1))])), (tsg, eB D 100 tb), (vg, .inr (6, [.int (nI sh), .int (nI mo), .int (nI ov), .int (nI nr), .ref io, .ref am, .ref en, .int (nI (nl + (eitP (facP (sgT tb ln) 3) (sgT tb ln) p).2.2.length)), .ref sp])), (sp, eI D 100 (wr fs nl (eitP (facP (sgT tb ln) 3) (sgT tb ln) p).2.2))]) := by
  refine Sp.of (by decide) (Nat.le_of_ble_eq_true rfl) (fun X O T => ?_)
  refine v_eq (lv' := [(0, .ref txo), (1, .ref vg), (2, .int 1)]) rfl rfl rfl rfl ?_
  refine v_aload_n O dX7_either_0 0 rfl ?_
  refine v_aload_n O dX7_either_1 1 rfl ?_
  refine v_iload_n O dX7_either_2 2 rfl ?_
  refine v_cV (T := TX7) (ci := 7) (As := [.ref vg, .int 1]) (wr := []) (st := []) O cf_X7_81 rfl (sp_X7_both_3 (txo := txo) (tsg := tsg) (ln := ln) (tb := tb) (vg := vg) (sh := sh) (mo := mo) (ov := ov) (nr := nr) (io := io) (am := am) (en := en) (nl := nl) (sp := sp) (fs := fs) (p := p) (hln) (hp) (hnl)) dX7_either_3 rfl rfl 0 rfl [0, 1, 2, 3] [] (by decide) rfl rfl (by decide) (by decide) (by decide) (Nat.le_of_ble_eq_true rfl) (by decide) (by decide) (fun r_2 w_3 h_1 => ?_)
  obtain ⟨rfl, rfl⟩ := h_1
  refine v_eq (st' := [.int (b2i ((botP (facP (sgT tb ln) 3) (sgT tb ln) p).2.1 = true))]) (ws' := [(txo, .inr (7, [.ref tsg, .int (nI ln), .int (nI ((botP (facP (sgT tb ln) 3) (sgT tb ln) p).1)), .int ((sgT tb ln) ((botP (facP (sgT tb ln) 3) (sgT tb ln) p).1))])), (tsg, eB D 100 tb), (vg, .inr (6, [.int (nI sh), .int (nI mo), .int (nI ov), .int (nI nr), .ref io, .ref am, .ref en, .int (nI (nl + (botP (facP (sgT tb ln) 3) (sgT tb ln) p).2.2.length)), .ref sp])), (sp, eI D 100 (wr fs nl (botP (facP (sgT tb ln) 3) (sgT tb ln) p).2.2))]) rfl rfl rfl rfl ?_
  refine v_istore_n (lv' := [(0, .ref txo), (1, .ref vg), (2, .int 1), (3, .int (b2i ((botP (facP (sgT tb ln) 3) (sgT tb ln) p).2.1 = true)))]) O dX7_either_6 (by decide) rfl ?_
  refine v_iconst (v := 0) O dX7_either_7 (by decide) ?_
  refine v_istore (lv' := [(0, .ref txo), (1, .ref vg), (2, .int 1), (3, .int (b2i ((botP (facP (sgT tb ln) 3) (sgT tb ln) p).2.1 = true))), (4, .int 0)]) O dX7_either_8 (by decide) rfl ?_
  refine v_eq (lv' := [(0, .ref txo), (1, .ref vg), (2, .int 1), (3, .int (b2i ((botP (facP (sgT tb ln) 3) (sgT tb ln) p).2.1 = true))), (4, .int (nI 0))]) rfl rfl rfl rfl ?_
  exact l_X7_either_3 O hln hp hnl T 100 0 (by omega) ((botP (facP (sgT tb ln) 3) (sgT tb ln)) p) rfl (bot_ok (tb := tb) (fac_ok (tb := tb) (ln := ln) 3) p hp)
set_option maxRecDepth 100000 in
set_option maxHeartbeats 4000000 in
theorem sp_X7_nested_3 {D : G} {txo : Nat} {tsg : Nat} {ln : Nat} {tb : Nat → Int32} {vg : Nat} {sh : Nat} {mo : Nat} {ov : Nat} {nr : Nat} {io : Nat} {am : Nat} {en : Nat} {nl : Nat} {sp : Nat} {fs : Nat → Int32} {p : Nat} (hln : ln ≤ 100) (hp : p ≤ ln) (hnl : nl ≤ p) (hsg : (sgT tb ln) p = 40 ∨ (sgT tb ln) p = 33) : Sp D mX7_nested 20 0 0 [.ref txo, .ref vg, .int 1] [(txo, .inr (7, [.ref tsg, .int (nI ln), .int (nI p), .int ((sgT tb ln) p)])), (tsg, eB D 100 tb), (vg, .inr (6, [.int (nI sh), .int (nI mo), .int (nI ov), .int (nI nr), .ref io, .ref am, .ref en, .int (nI nl), .ref sp])), (sp, eI D 100 fs)] (fun r w => r = some (.int (b2i ((nesP (facP (sgT tb ln) 3) (sgT tb ln) p).2.1 = true))) ∧ w = [(txo, .inr (7, [.ref tsg, .int (nI ln), .int (nI ((nesP (facP (sgT tb ln) 3) (sgT tb ln) p).1)), .int ((sgT tb ln) ((nesP (facP (sgT tb ln) 3) (sgT tb ln) p).1))])), (tsg, eB D 100 tb), (vg, .inr (6, [.int (nI sh), .int (nI mo), .int (nI ov), .int (nI nr), .ref io, .ref am, .ref en, .int (nI (nl + (nesP (facP (sgT tb ln) 3) (sgT tb ln) p).2.2.length)), .ref sp])), (sp, eI D 100 (wr fs nl (nesP (facP (sgT tb ln) 3) (sgT tb ln) p).2.2))]) := by
  refine Sp.of (by decide) (Nat.le_of_ble_eq_true rfl) (fun X O T => ?_)
  refine v_eq (lv' := [(0, .ref txo), (1, .ref vg), (2, .int 1)]) rfl rfl rfl rfl ?_
  have z_p : p < ln := by rcases hsg with z | z <;> exact sgT_lt z (by decide)
  have z_g := fac_ok (tb := tb) (ln := ln) 3 (p + 1) z_p
  have z_e := eit_ok (tb := tb) (fac_ok (tb := tb) (ln := ln) 3) (p + 1) z_p
  refine v_aload_n O dX7_nested_0 0 rfl ?_
  refine gf_X7_22 O rfl dX7_nested_1 0 rfl rfl ?_
  refine v_bipush (v := 33) O dX7_nested_4 (by decide) ?_
  refine v_icmp_ne O 13 dX7_nested_6 (by decide) (fun z1 => ?_) (fun z1 => ?_)
  · skip
    refine v_iconst (v := 0) O dX7_nested_13 (by decide) ?_
    refine v_istore_n (lv' := [(0, .ref txo), (1, .ref vg), (2, .int 1), (3, .int 0)]) O dX7_nested_14 (by decide) rfl ?_
    refine v_aload_n O dX7_nested_15 0 rfl ?_
    refine v_aload_n O dX7_nested_16 0 rfl ?_
    refine gf_X7_19 O rfl dX7_nested_17 0 rfl rfl ?_
    refine v_iconst (v := 1) O dX7_nested_20 (by decide) ?_
    refine v_iadd O dX7_nested_21 ?_
    refine v_top (y := nI (p + 1)) (nI_add p 1) ?_
    refine v_cV (T := TX7) (ci := 7) (As := [.int (nI (p + 1))]) (wr := [(vg, .inr (6, [.int (nI sh), .int (nI mo), .int (nI ov), .int (nI nr), .ref io, .ref am, .ref en, .int (nI nl), .ref sp])), (sp, eI D 100 fs)]) (st := []) O cf_X7_30 rfl (sp_X7_goTo (txo := txo) (tsg := tsg) (ln := ln) (tb := tb) (pl := (nI p)) (si := ((sgT tb ln) p)) (q := (p + 1)) (hln) (by omega)) dX7_nested_22 rfl rfl 0 rfl [0, 1] [2, 3] (by decide) rfl rfl (by decide) (by decide) (by decide) (Nat.le_of_ble_eq_true rfl) (by decide) (by decide) (fun r_2 w_3 h_1 => ?_)
    obtain ⟨rfl, rfl⟩ := h_1
    refine v_eq (st' := []) (ws' := [(vg, .inr (6, [.int (nI sh), .int (nI mo), .int (nI ov), .int (nI nr), .ref io, .ref am, .ref en, .int (nI nl), .ref sp])), (sp, eI D 100 fs), (txo, .inr (7, [.ref tsg, .int (nI ln), .int (nI (p + 1)), .int ((sgT tb ln) (p + 1))])), (tsg, eB D 100 tb)]) rfl rfl rfl rfl ?_
    refine v_iload_n O dX7_nested_25 3 rfl ?_
    refine v_if_eq O 45 dX7_nested_26 (by decide) (fun _ => ?_) (fun c => absurd c (by decide))
    refine v_aload_n O dX7_nested_45 0 rfl ?_
    refine v_aload_n O dX7_nested_46 1 rfl ?_
    refine v_iload_n O dX7_nested_47 2 rfl ?_
    refine v_cV (T := TX7) (ci := 7) (As := [.ref vg, .int 1]) (wr := []) (st := []) O cf_X7_57 rfl (sp_X7_either_3 (txo := txo) (tsg := tsg) (ln := ln) (tb := tb) (vg := vg) (sh := sh) (mo := mo) (ov := ov) (nr := nr) (io := io) (am := am) (en := en) (nl := nl) (sp := sp) (fs := fs) (p := (p + 1)) (hln) (z_p) (by omega)) dX7_nested_48 rfl rfl 2 rfl [2, 3, 0, 1] [] (by decide) rfl rfl (by decide) (by decide) (by decide) (Nat.le_of_ble_eq_true rfl) (by decide) (by decide) (fun r_6 w_7 h_5 => ?_)
    obtain ⟨rfl, rfl⟩ := h_5
    refine v_eq (st' := [.int (b2i ((eitP (facP (sgT tb ln) 3) (sgT tb ln) (p + 1)).2.1 = true))]) (ws' := [(txo, .inr (7, [.ref tsg, .int (nI ln), .int (nI ((eitP (facP (sgT tb ln) 3) (sgT tb ln) (p + 1)).1)), .int ((sgT tb ln) ((eitP (facP (sgT tb ln) 3) (sgT tb ln) (p + 1)).1))])), (tsg, eB D 100 tb), (vg, .inr (6, [.int (nI sh), .int (nI mo), .int (nI ov), .int (nI nr), .ref io, .ref am, .ref en, .int (nI (nl + (eitP (facP (sgT tb ln) 3) (sgT tb ln) (p + 1)).2.2.length)), .ref sp])), (sp, eI D 100 (wr fs nl (eitP (facP (sgT tb ln) 3) (sgT tb ln) (p + 1)).2.2))]) rfl rfl rfl rfl ?_
    refine v_if_eq O 63 dX7_nested_51 (by decide) (fun z2 => ?_) (fun z2 => ?_)
    · skip
      have z2 := b2i_0.mp z2
      refine v_iconst (v := 0) O dX7_nested_63 (by decide) ?_
      exact v_ireturn O T rfl rfl (by decide) (by decide) dX7_nested_64 (⟨by unfold nesP; rw [if_neg z1, if_neg (fun z9 => absurd z9.1 z2)]; exact bF, by unfold nesP; rw [if_neg z1, if_neg (fun z9 => absurd z9.1 z2)]⟩)
    · skip
      have z2 := b2i_1.mp z2
      refine v_aload_n O dX7_nested_54 0 rfl ?_
      refine gf_X7_22 O rfl dX7_nested_55 0 rfl rfl ?_
      refine v_bipush (v := 41) O dX7_nested_58 (by decide) ?_
      refine v_icmp_eq O 65 dX7_nested_60 (by decide) (fun z3 => ?_) (fun z3 => ?_)
      · skip
        have z_q := sgT_lt z3 (by decide)
        refine v_aload_n O dX7_nested_65 0 rfl ?_
        refine v_aload_n O dX7_nested_66 0 rfl ?_
        refine gf_X7_19 O rfl dX7_nested_67 0 rfl rfl ?_
        refine v_iconst (v := 1) O dX7_nested_70 (by decide) ?_
        refine v_iadd O dX7_nested_71 ?_
        refine v_top (y := nI (((eitP (facP (sgT tb ln) 3) (sgT tb ln) (p + 1)).1) + 1)) (nI_add ((eitP (facP (sgT tb ln) 3) (sgT tb ln) (p + 1)).1) 1) ?_
        refine v_cV (T := TX7) (ci := 7) (As := [.int (nI (((eitP (facP (sgT tb ln) 3) (sgT tb ln) (p + 1)).1) + 1))]) (wr := [(vg, .inr (6, [.int (nI sh), .int (nI mo), .int (nI ov), .int (nI nr), .ref io, .ref am, .ref en, .int (nI (nl + (eitP (facP (sgT tb ln) 3) (sgT tb ln) (p + 1)).2.2.length)), .ref sp])), (sp, eI D 100 (wr fs nl (eitP (facP (sgT tb ln) 3) (sgT tb ln) (p + 1)).2.2))]) (st := []) O cf_X7_30 rfl (sp_X7_goTo (txo := txo) (tsg := tsg) (ln := ln) (tb := tb) (pl := (nI ((eitP (facP (sgT tb ln) 3) (sgT tb ln) (p + 1)).1))) (si := ((sgT tb ln) ((eitP (facP (sgT tb ln) 3) (sgT tb ln) (p + 1)).1))) (q := (((eitP (facP (sgT tb ln) 3) (sgT tb ln) (p + 1)).1) + 1)) (hln) (by omega)) dX7_nested_72 rfl rfl 0 rfl [0, 1] [2, 3] (by decide) rfl rfl (by decide) (by decide) (by decide) (Nat.le_of_ble_eq_true rfl) (by decide) (by decide) (fun r_9 w_10 h_8 => ?_)
        obtain ⟨rfl, rfl⟩ := h_8
        refine v_eq (st' := []) (ws' := [(vg, .inr (6, [.int (nI sh), .int (nI mo), .int (nI ov), .int (nI nr), .ref io, .ref am, .ref en, .int (nI (nl + (eitP (facP (sgT tb ln) 3) (sgT tb ln) (p + 1)).2.2.length)), .ref sp])), (sp, eI D 100 (wr fs nl (eitP (facP (sgT tb ln) 3) (sgT tb ln) (p + 1)).2.2)), (txo, .inr (7, [.ref tsg, .int (nI ln), .int (nI (((eitP (facP (sgT tb ln) 3) (sgT tb ln) (p + 1)).1) + 1)), .int ((sgT tb ln) (((eitP (facP (sgT tb ln) 3) (sgT tb ln) (p + 1)).1) + 1))])), (tsg, eB D 100 tb)]) rfl rfl rfl rfl ?_
        refine v_iconst (v := 1) O dX7_nested_75 (by decide) ?_
        refine v_sub (ws' := [(txo, .inr (7, [.ref tsg, .int (nI ln), .int (nI (((eitP (facP (sgT tb ln) 3) (sgT tb ln) (p + 1)).1) + 1)), .int ((sgT tb ln) (((eitP (facP (sgT tb ln) 3) (sgT tb ln) (p + 1)).1) + 1))])), (tsg, eB D 100 tb), (vg, .inr (6, [.int (nI sh), .int (nI mo), .int (nI ov), .int (nI nr), .ref io, .ref am, .ref en, .int (nI (nl + (eitP (facP (sgT tb ln) 3) (sgT tb ln) (p + 1)).2.2.length)), .ref sp])), (sp, eI D 100 (wr fs nl (eitP (facP (sgT tb ln) 3) (sgT tb ln) (p + 1)).2.2))]) [2, 3, 0, 1] (by decide) rfl ?_
        exact v_ireturn O T rfl rfl (by decide) (by decide) dX7_nested_76 (⟨by unfold nesP; rw [if_neg z1, if_pos ⟨z2, z3⟩]; exact bT, by unfold nesP; rw [if_neg z1, if_pos ⟨z2, z3⟩]⟩)
      · skip
        refine v_iconst (v := 0) O dX7_nested_63 (by decide) ?_
        exact v_ireturn O T rfl rfl (by decide) (by decide) dX7_nested_64 (⟨by unfold nesP; rw [if_neg z1, if_neg (fun z9 => absurd z9.2 z3)]; exact bF, by unfold nesP; rw [if_neg z1, if_neg (fun z9 => absurd z9.2 z3)]⟩)
  · skip
    refine v_iconst (v := 1) O dX7_nested_9 (by decide) ?_
    refine v_goto O 14 dX7_nested_10 (by decide) ?_
    refine v_istore_n (lv' := [(0, .ref txo), (1, .ref vg), (2, .int 1), (3, .int 1)]) O dX7_nested_14 (by decide) rfl ?_
    refine v_aload_n O dX7_nested_15 0 rfl ?_
    refine v_aload_n O dX7_nested_16 0 rfl ?_
    refine gf_X7_19 O rfl dX7_nested_17 0 rfl rfl ?_
    refine v_iconst (v := 1) O dX7_nested_20 (by decide) ?_
    refine v_iadd O dX7_nested_21 ?_
    refine v_top (y := nI (p + 1)) (nI_add p 1) ?_
    refine v_cV (T := TX7) (ci := 7) (As := [.int (nI (p + 1))]) (wr := [(vg, .inr (6, [.int (nI sh), .int (nI mo), .int (nI ov), .int (nI nr), .ref io, .ref am, .ref en, .int (nI nl), .ref sp])), (sp, eI D 100 fs)]) (st := []) O cf_X7_30 rfl (sp_X7_goTo (txo := txo) (tsg := tsg) (ln := ln) (tb := tb) (pl := (nI p)) (si := ((sgT tb ln) p)) (q := (p + 1)) (hln) (by omega)) dX7_nested_22 rfl rfl 0 rfl [0, 1] [2, 3] (by decide) rfl rfl (by decide) (by decide) (by decide) (Nat.le_of_ble_eq_true rfl) (by decide) (by decide) (fun r_12 w_13 h_11 => ?_)
    obtain ⟨rfl, rfl⟩ := h_11
    refine v_eq (st' := []) (ws' := [(vg, .inr (6, [.int (nI sh), .int (nI mo), .int (nI ov), .int (nI nr), .ref io, .ref am, .ref en, .int (nI nl), .ref sp])), (sp, eI D 100 fs), (txo, .inr (7, [.ref tsg, .int (nI ln), .int (nI (p + 1)), .int ((sgT tb ln) (p + 1))])), (tsg, eB D 100 tb)]) rfl rfl rfl rfl ?_
    refine v_iload_n O dX7_nested_25 3 rfl ?_
    refine v_if_eq O 45 dX7_nested_26 (by decide) (fun c => absurd c (by decide)) (fun _ => ?_)
    refine v_aload_n O dX7_nested_29 0 rfl ?_
    refine v_aload_n O dX7_nested_30 1 rfl ?_
    refine v_iload_n O dX7_nested_31 2 rfl ?_
    refine v_cV (T := TX7) (ci := 7) (As := [.ref vg, .int 1]) (wr := []) (st := []) O cf_X7_87 rfl (sp_X7_factor_3 (txo := txo) (tsg := tsg) (ln := ln) (tb := tb) (vg := vg) (sh := sh) (mo := mo) (ov := ov) (nr := nr) (io := io) (am := am) (en := en) (nl := nl) (sp := sp) (fs := fs) (p := (p + 1)) (hln) (z_p) (by omega)) dX7_nested_32 rfl rfl 2 rfl [2, 3, 0, 1] [] (by decide) rfl rfl (by decide) (by decide) (by decide) (Nat.le_of_ble_eq_true rfl) (by decide) (by decide) (fun r_16 w_17 h_15 => ?_)
    obtain ⟨rfl, rfl⟩ := h_15
    refine v_eq (st' := [.int (b2i ((facP (sgT tb ln) 3 (p + 1)).2.1 = true))]) (ws' := [(txo, .inr (7, [.ref tsg, .int (nI ln), .int (nI ((facP (sgT tb ln) 3 (p + 1)).1)), .int ((sgT tb ln) ((facP (sgT tb ln) 3 (p + 1)).1))])), (tsg, eB D 100 tb), (vg, .inr (6, [.int (nI sh), .int (nI mo), .int (nI ov), .int (nI nr), .ref io, .ref am, .ref en, .int (nI (nl + (facP (sgT tb ln) 3 (p + 1)).2.2.length)), .ref sp])), (sp, eI D 100 (wr fs nl (facP (sgT tb ln) 3 (p + 1)).2.2))]) rfl rfl rfl rfl ?_
    refine v_istore (lv' := [(0, .ref txo), (1, .ref vg), (2, .int 1), (3, .int 1), (4, .int (b2i ((facP (sgT tb ln) 3 (p + 1)).2.1 = true)))]) O dX7_nested_35 (by decide) rfl ?_
    refine v_aload_n O dX7_nested_37 1 rfl ?_
    refine v_iconst (v := -1) O dX7_nested_38 (by decide) ?_
    refine v_cV (T := TX6) (ci := 6) (As := [.int (-1)]) (wr := [(txo, .inr (7, [.ref tsg, .int (nI ln), .int (nI ((facP (sgT tb ln) 3 (p + 1)).1)), .int ((sgT tb ln) ((facP (sgT tb ln) 3 (p + 1)).1))])), (tsg, eB D 100 tb)]) (st := []) O cf_X7_84 rfl (sp_X6_addStep (vg := vg) (sh := sh) (mo := mo) (ov := ov) (nr := nr) (io := io) (am := am) (en := en) (nl := (nl + (facP (sgT tb ln) 3 (p + 1)).2.2.length)) (sp := sp) (fs := (wr fs nl (facP (sgT tb ln) 3 (p + 1)).2.2)) (b := (-1)) (by omega)) dX7_nested_39 rfl rfl 2 rfl [2, 3] [0, 1] (by decide) rfl rfl (by decide) (by decide) (by decide) (Nat.le_of_ble_eq_true rfl) (by decide) (by decide) (fun r_19 w_20 h_18 => ?_)
    obtain ⟨rfl, rfl⟩ := h_18
    refine v_eq (st' := []) (ws' := [(txo, .inr (7, [.ref tsg, .int (nI ln), .int (nI ((facP (sgT tb ln) 3 (p + 1)).1)), .int ((sgT tb ln) ((facP (sgT tb ln) 3 (p + 1)).1))])), (tsg, eB D 100 tb), (vg, .inr (6, [.int (nI sh), .int (nI mo), .int (nI ov), .int (nI nr), .ref io, .ref am, .ref en, .int (nI ((nl + (facP (sgT tb ln) 3 (p + 1)).2.2.length) + 1)), .ref sp])), (sp, eI D 100 (upd (wr fs nl (facP (sgT tb ln) 3 (p + 1)).2.2) (nl + (facP (sgT tb ln) 3 (p + 1)).2.2.length) (-1)))]) rfl rfl rfl rfl ?_
    refine v_eq (ws' := [(txo, .inr (7, [.ref tsg, .int (nI ln), .int (nI ((facP (sgT tb ln) 3 (p + 1)).1)), .int ((sgT tb ln) ((facP (sgT tb ln) 3 (p + 1)).1))])), (tsg, eB D 100 tb), (vg, .inr (6, [.int (nI sh), .int (nI mo), .int (nI ov), .int (nI nr), .ref io, .ref am, .ref en, .int (nI (nl + (((facP (sgT tb ln) 3) (p + 1)).2.2 ++ [-1]).length)), .ref sp])), (sp, eI D 100 (wr fs nl (((facP (sgT tb ln) 3) (p + 1)).2.2 ++ [-1])))]) rfl rfl rfl (by rw [wr_2, wl_2]) ?_
    refine v_iload O dX7_nested_42 4 rfl ?_
    exact v_ireturn O T rfl (nrb _) (by decide) (by decide) dX7_nested_44 (⟨by unfold nesP; rw [if_pos z1], by unfold nesP; rw [if_pos z1]⟩)
set_option maxRecDepth 100000 in
set_option maxHeartbeats 4000000 in
theorem sp_X7_factor_4 {D : G} {txo : Nat} {tsg : Nat} {ln : Nat} {tb : Nat → Int32} {vg : Nat} {sh : Nat} {mo : Nat} {ov : Nat} {nr : Nat} {io : Nat} {am : Nat} {en : Nat} {nl : Nat} {sp : Nat} {fs : Nat → Int32} {p : Nat} (hln : ln ≤ 100) (hp : p ≤ ln) (hnl : nl ≤ p) : Sp D mX7_factor 21 0 0 [.ref txo, .ref vg, .int 0] [(txo, .inr (7, [.ref tsg, .int (nI ln), .int (nI p), .int ((sgT tb ln) p)])), (tsg, eB D 100 tb), (vg, .inr (6, [.int (nI sh), .int (nI mo), .int (nI ov), .int (nI nr), .ref io, .ref am, .ref en, .int (nI nl), .ref sp])), (sp, eI D 100 fs)] (fun r w => r = some (.int (b2i ((facP (sgT tb ln) 4 p).2.1 = true))) ∧ w = [(txo, .inr (7, [.ref tsg, .int (nI ln), .int (nI ((facP (sgT tb ln) 4 p).1)), .int ((sgT tb ln) ((facP (sgT tb ln) 4 p).1))])), (tsg, eB D 100 tb), (vg, .inr (6, [.int (nI sh), .int (nI mo), .int (nI ov), .int (nI nr), .ref io, .ref am, .ref en, .int (nI (nl + (facP (sgT tb ln) 4 p).2.2.length)), .ref sp])), (sp, eI D 100 (wr fs nl (facP (sgT tb ln) 4 p).2.2))]) := by
  refine Sp.of (by decide) (Nat.le_of_ble_eq_true rfl) (fun X O T => ?_)
  refine v_eq (lv' := [(0, .ref txo), (1, .ref vg), (2, .int 0)]) rfl rfl rfl rfl ?_
  refine v_aload_n O dX7_factor_0 0 rfl ?_
  refine gf_X7_22 O rfl dX7_factor_1 0 rfl rfl ?_
  refine v_bipush (v := 40) O dX7_factor_4 (by decide) ?_
  refine v_icmp_eq O 18 dX7_factor_6 (by decide) (fun z1 => ?_) (fun z1 => ?_)
  · skip
    have z_n : (sgT tb ln) p = 40 ∨ (sgT tb ln) p = 33 := Or.inl z1
    refine v_iload_n O dX7_factor_18 2 rfl ?_
    refine v_iconst (v := 4) O dX7_factor_19 (by decide) ?_
    refine v_icmp_ge O 38 dX7_factor_20 (by decide) (fun c => absurd c (by decide)) (fun _ => ?_)
    refine v_aload_n O dX7_factor_23 0 rfl ?_
    refine v_aload_n O dX7_factor_24 1 rfl ?_
    refine v_iload_n O dX7_factor_25 2 rfl ?_
    refine v_iconst (v := 1) O dX7_factor_26 (by decide) ?_
    refine v_iadd O dX7_factor_27 ?_
    refine v_top (y := nI 1) rfl ?_
    refine v_cV (T := TX7) (ci := 7) (As := [.ref vg, .int (nI 1)]) (wr := []) (st := []) O cf_X7_90 rfl (sp_X7_nested_3 (txo := txo) (tsg := tsg) (ln := ln) (tb := tb) (vg := vg) (sh := sh) (mo := mo) (ov := ov) (nr := nr) (io := io) (am := am) (en := en) (nl := nl) (sp := sp) (fs := fs) (p := p) (hln) (hp) (hnl) (z_n)) dX7_factor_28 rfl rfl 0 rfl [0, 1, 2, 3] [] (by decide) rfl rfl (by decide) (by decide) (by decide) (Nat.le_of_ble_eq_true rfl) (by decide) (by decide) (fun r_3 w_4 h_2 => ?_)
    obtain ⟨rfl, rfl⟩ := h_2
    refine v_eq (st' := [.int (b2i ((nesP (facP (sgT tb ln) 3) (sgT tb ln) p).2.1 = true))]) (ws' := [(txo, .inr (7, [.ref tsg, .int (nI ln), .int (nI ((nesP (facP (sgT tb ln) 3) (sgT tb ln) p).1)), .int ((sgT tb ln) ((nesP (facP (sgT tb ln) 3) (sgT tb ln) p).1))])), (tsg, eB D 100 tb), (vg, .inr (6, [.int (nI sh), .int (nI mo), .int (nI ov), .int (nI nr), .ref io, .ref am, .ref en, .int (nI (nl + (nesP (facP (sgT tb ln) 3) (sgT tb ln) p).2.2.length)), .ref sp])), (sp, eI D 100 (wr fs nl (nesP (facP (sgT tb ln) 3) (sgT tb ln) p).2.2))]) rfl rfl rfl rfl ?_
    refine v_if_eq O 38 dX7_factor_31 (by decide) (fun z4 => ?_) (fun z4 => ?_)
    · skip
      have z4 := b2i_0.mp z4
      refine v_iconst (v := 0) O dX7_factor_38 (by decide) ?_
      exact v_ireturn O T rfl rfl (by decide) (by decide) dX7_factor_39 (⟨by rw [facP_n (f := 3) z_n, b2i_f z4], by rw [facP_n (f := 3) z_n]⟩)
    · skip
      have z4 := b2i_1.mp z4
      refine v_iconst (v := 1) O dX7_factor_34 (by decide) ?_
      refine v_goto O 39 dX7_factor_35 (by decide) ?_
      exact v_ireturn O T rfl rfl (by decide) (by decide) dX7_factor_39 (⟨by rw [facP_n (f := 3) z_n, b2i_t z4], by rw [facP_n (f := 3) z_n]⟩)
  · skip
    refine v_aload_n O dX7_factor_9 0 rfl ?_
    refine gf_X7_22 O rfl dX7_factor_10 0 rfl rfl ?_
    refine v_bipush (v := 33) O dX7_factor_13 (by decide) ?_
    refine v_icmp_ne O 40 dX7_factor_15 (by decide) (fun z2 => ?_) (fun z2 => ?_)
    · skip
      have z_t : ¬ ((sgT tb ln) p = 40 ∨ (sgT tb ln) p = 33) := fun z9 => z9.elim z1 z2
      refine v_ldcS O 5 (by decide) rfl dX7_factor_40 ?_
      refine v_aload_n O dX7_factor_42 0 rfl ?_
      refine gf_X7_22 O rfl dX7_factor_43 0 rfl rfl ?_
      refine v_cS (As := [.ref (D.2.2 (10 + 5)), .int ((sgT tb ln) p)]) (wr := [(txo, .inr (7, [.ref tsg, .int (nI ln), .int (nI p), .int ((sgT tb ln) p)])), (tsg, eB D 100 tb), (vg, .inr (6, [.int (nI sh), .int (nI mo), .int (nI ov), .int (nI nr), .ref io, .ref am, .ref en, .int (nI nl), .ref sp])), (sp, eI D 100 fs)]) (st := []) O cf_X7_95 (sp_X7_indexIn_5 (x := ((sgT tb ln) p)) ) dX7_factor_46 rfl rfl [] [0, 1, 2, 3] (by decide) rfl rfl (by decide) (by decide) (by decide) (Nat.le_of_ble_eq_true rfl) (by decide) (by decide) (fun r_6 w_7 h_5 => ?_)
      obtain ⟨rfl, rfl⟩ := h_5
      refine v_eq (st' := [.int (ixL ((sgT tb ln) p))]) (ws' := [(txo, .inr (7, [.ref tsg, .int (nI ln), .int (nI p), .int ((sgT tb ln) p)])), (tsg, eB D 100 tb), (vg, .inr (6, [.int (nI sh), .int (nI mo), .int (nI ov), .int (nI nr), .ref io, .ref am, .ref en, .int (nI nl), .ref sp])), (sp, eI D 100 fs)]) rfl rfl rfl rfl ?_
      refine v_istore_n (lv' := [(0, .ref txo), (1, .ref vg), (2, .int 0), (3, .int (ixL ((sgT tb ln) p)))]) O dX7_factor_49 (by decide) rfl ?_
      refine v_iload_n O dX7_factor_50 3 rfl ?_
      refine v_if_ge O 56 dX7_factor_51 (by decide) (fun z5 => ?_) (fun z5 => ?_)
      · skip
        have z5 := Int32.not_lt.mpr z5
        refine v_aload_n O dX7_factor_56 0 rfl ?_
        refine v_aload_n O dX7_factor_57 0 rfl ?_
        refine gf_X7_19 O rfl dX7_factor_58 0 rfl rfl ?_
        refine v_iconst (v := 1) O dX7_factor_61 (by decide) ?_
        refine v_iadd O dX7_factor_62 ?_
        refine v_top (y := nI (p + 1)) (nI_add p 1) ?_
        refine v_cV (T := TX7) (ci := 7) (As := [.int (nI (p + 1))]) (wr := [(vg, .inr (6, [.int (nI sh), .int (nI mo), .int (nI ov), .int (nI nr), .ref io, .ref am, .ref en, .int (nI nl), .ref sp])), (sp, eI D 100 fs)]) (st := []) O cf_X7_30 rfl (sp_X7_goTo (txo := txo) (tsg := tsg) (ln := ln) (tb := tb) (pl := (nI p)) (si := ((sgT tb ln) p)) (q := (p + 1)) (hln) (by omega)) dX7_factor_63 rfl rfl 0 rfl [0, 1] [2, 3] (by decide) rfl rfl (by decide) (by decide) (by decide) (Nat.le_of_ble_eq_true rfl) (by decide) (by decide) (fun r_9 w_10 h_8 => ?_)
        obtain ⟨rfl, rfl⟩ := h_8
        refine v_eq (st' := []) (ws' := [(vg, .inr (6, [.int (nI sh), .int (nI mo), .int (nI ov), .int (nI nr), .ref io, .ref am, .ref en, .int (nI nl), .ref sp])), (sp, eI D 100 fs), (txo, .inr (7, [.ref tsg, .int (nI ln), .int (nI (p + 1)), .int ((sgT tb ln) (p + 1))])), (tsg, eB D 100 tb)]) rfl rfl rfl rfl ?_
        refine v_ldcS O 6 (by decide) rfl dX7_factor_66 ?_
        refine v_aload_n O dX7_factor_68 0 rfl ?_
        refine gf_X7_22 O rfl dX7_factor_69 2 rfl rfl ?_
        refine v_cS (As := [.ref (D.2.2 (10 + 6)), .int ((sgT tb ln) (p + 1))]) (wr := [(vg, .inr (6, [.int (nI sh), .int (nI mo), .int (nI ov), .int (nI nr), .ref io, .ref am, .ref en, .int (nI nl), .ref sp])), (sp, eI D 100 fs), (txo, .inr (7, [.ref tsg, .int (nI ln), .int (nI (p + 1)), .int ((sgT tb ln) (p + 1))])), (tsg, eB D 100 tb)]) (st := []) O cf_X7_95 (sp_X7_indexIn_6 (x := ((sgT tb ln) (p + 1))) ) dX7_factor_72 rfl rfl [] [0, 1, 2, 3] (by decide) rfl rfl (by decide) (by decide) (by decide) (Nat.le_of_ble_eq_true rfl) (by decide) (by decide) (fun r_12 w_13 h_11 => ?_)
        obtain ⟨rfl, rfl⟩ := h_11
        refine v_eq (st' := [.int (ixR ((sgT tb ln) (p + 1)))]) (ws' := [(vg, .inr (6, [.int (nI sh), .int (nI mo), .int (nI ov), .int (nI nr), .ref io, .ref am, .ref en, .int (nI nl), .ref sp])), (sp, eI D 100 fs), (txo, .inr (7, [.ref tsg, .int (nI ln), .int (nI (p + 1)), .int ((sgT tb ln) (p + 1))])), (tsg, eB D 100 tb)]) rfl rfl rfl rfl ?_
        refine v_istore (lv' := [(0, .ref txo), (1, .ref vg), (2, .int 0), (3, .int (ixL ((sgT tb ln) p))), (4, .int (ixR ((sgT tb ln) (p + 1))))]) O dX7_factor_75 (by decide) rfl ?_
        refine v_iload O dX7_factor_77 4 rfl ?_
        refine v_if_ge O 84 dX7_factor_79 (by decide) (fun z6 => ?_) (fun z6 => ?_)
        · skip
          have z6 := Int32.not_lt.mpr z6
          refine v_aload_n O dX7_factor_84 0 rfl ?_
          refine v_aload_n O dX7_factor_85 0 rfl ?_
          refine gf_X7_19 O rfl dX7_factor_86 2 rfl rfl ?_
          refine v_iconst (v := 1) O dX7_factor_89 (by decide) ?_
          refine v_iadd O dX7_factor_90 ?_
          refine v_top (y := nI ((p + 1) + 1)) (nI_add (p + 1) 1) ?_
          refine v_cV (T := TX7) (ci := 7) (As := [.int (nI ((p + 1) + 1))]) (wr := [(vg, .inr (6, [.int (nI sh), .int (nI mo), .int (nI ov), .int (nI nr), .ref io, .ref am, .ref en, .int (nI nl), .ref sp])), (sp, eI D 100 fs)]) (st := []) O cf_X7_30 rfl (sp_X7_goTo (txo := txo) (tsg := tsg) (ln := ln) (tb := tb) (pl := (nI (p + 1))) (si := ((sgT tb ln) (p + 1))) (q := ((p + 1) + 1)) (hln) (by omega)) dX7_factor_91 rfl rfl 2 rfl [2, 3] [0, 1] (by decide) rfl rfl (by decide) (by decide) (by decide) (Nat.le_of_ble_eq_true rfl) (by decide) (by decide) (fun r_15 w_16 h_14 => ?_)
          obtain ⟨rfl, rfl⟩ := h_14
          refine v_eq (st' := []) (ws' := [(vg, .inr (6, [.int (nI sh), .int (nI mo), .int (nI ov), .int (nI nr), .ref io, .ref am, .ref en, .int (nI nl), .ref sp])), (sp, eI D 100 fs), (txo, .inr (7, [.ref tsg, .int (nI ln), .int (nI ((p + 1) + 1)), .int ((sgT tb ln) ((p + 1) + 1))])), (tsg, eB D 100 tb)]) rfl rfl rfl rfl ?_
          refine v_aload_n O dX7_factor_94 0 rfl ?_
          by_cases z7 : isd ((sgT tb ln) (p + 1 + 1))
          · skip
            refine v_cV (T := TX7) (ci := 7) (As := []) (wr := [(vg, .inr (6, [.int (nI sh), .int (nI mo), .int (nI ov), .int (nI nr), .ref io, .ref am, .ref en, .int (nI nl), .ref sp])), (sp, eI D 100 fs)]) (st := []) O cf_X7_42 rfl (sp_X7_number_t (txo := txo) (tsg := tsg) (ln := ln) (tb := tb) (p := ((p + 1) + 1)) (hln) (z7)) dX7_factor_95 rfl rfl 2 rfl [2, 3] [0, 1] (by decide) rfl rfl (by decide) (by decide) (by decide) (Nat.le_of_ble_eq_true rfl) (by decide) (by decide) (fun r_17 w_18 h_nt => ?_)
            obtain ⟨rfl, rfl⟩ := h_nt
            refine v_eq (st' := [.int (nI (numN (sgT tb ln) ((p + 1) + 1)))]) (ws' := [(vg, .inr (6, [.int (nI sh), .int (nI mo), .int (nI ov), .int (nI nr), .ref io, .ref am, .ref en, .int (nI nl), .ref sp])), (sp, eI D 100 fs), (txo, .inr (7, [.ref tsg, .int (nI ln), .int (nI (numE (sgT tb ln) ((p + 1) + 1))), .int ((sgT tb ln) (numE (sgT tb ln) ((p + 1) + 1)))])), (tsg, eB D 100 tb)]) rfl rfl rfl rfl ?_
            refine v_istore (lv' := [(0, .ref txo), (1, .ref vg), (2, .int 0), (3, .int (ixL ((sgT tb ln) p))), (4, .int (ixR ((sgT tb ln) (p + 1)))), (5, .int (nI (numN (sgT tb ln) ((p + 1) + 1))))]) O dX7_factor_98 (by decide) rfl ?_
            refine v_iload O dX7_factor_100 5 rfl ?_
            have z_le := numN_le z7
            refine v_if_ge O 107 dX7_factor_102 (by decide) (fun _ => ?_) (fun c => absurd (Int32.not_lt.mp (nI_pos (by omega))) c)
            refine v_aload_n O dX7_factor_107 1 rfl ?_
            refine v_iload_n O dX7_factor_108 3 rfl ?_
            refine v_iconst (v := 3) O dX7_factor_109 (by decide) ?_
            refine v_imul O dX7_factor_110 ?_
            refine v_iload O dX7_factor_111 4 rfl ?_
            refine v_iadd O dX7_factor_113 ?_
            refine v_bipush (v := 100) O dX7_factor_114 (by decide) ?_
            refine v_imul O dX7_factor_116 ?_
            refine v_iload O dX7_factor_117 5 rfl ?_
            refine v_iadd O dX7_factor_119 ?_
            refine v_cV (T := TX6) (ci := 6) (As := [.int (((((ixL ((sgT tb ln) p)) * 3) + (ixR ((sgT tb ln) (p + 1)))) * 100) + (nI (numN (sgT tb ln) ((p + 1) + 1))))]) (wr := [(txo, .inr (7, [.ref tsg, .int (nI ln), .int (nI (numE (sgT tb ln) ((p + 1) + 1))), .int ((sgT tb ln) (numE (sgT tb ln) ((p + 1) + 1)))])), (tsg, eB D 100 tb)]) (st := []) O cf_X7_84 rfl (sp_X6_addStep (vg := vg) (sh := sh) (mo := mo) (ov := ov) (nr := nr) (io := io) (am := am) (en := en) (nl := nl) (sp := sp) (fs := fs) (b := (((((ixL ((sgT tb ln) p)) * 3) + (ixR ((sgT tb ln) (p + 1)))) * 100) + (nI (numN (sgT tb ln) ((p + 1) + 1))))) (by have := isd_lt z7; omega)) dX7_factor_120 rfl rfl 0 rfl [0, 1] [2, 3] (by decide) rfl rfl (by decide) (by decide) (by decide) (Nat.le_of_ble_eq_true rfl) (by decide) (by decide) (fun r_20 w_21 h_19 => ?_)
            obtain ⟨rfl, rfl⟩ := h_19
            refine v_eq (st' := []) (ws' := [(txo, .inr (7, [.ref tsg, .int (nI ln), .int (nI (numE (sgT tb ln) ((p + 1) + 1))), .int ((sgT tb ln) (numE (sgT tb ln) ((p + 1) + 1)))])), (tsg, eB D 100 tb), (vg, .inr (6, [.int (nI sh), .int (nI mo), .int (nI ov), .int (nI nr), .ref io, .ref am, .ref en, .int (nI (nl + 1)), .ref sp])), (sp, eI D 100 (upd fs nl (((((ixL ((sgT tb ln) p)) * 3) + (ixR ((sgT tb ln) (p + 1)))) * 100) + (nI (numN (sgT tb ln) ((p + 1) + 1))))))]) rfl rfl rfl rfl ?_
            refine v_iconst (v := 1) O dX7_factor_123 (by decide) ?_
            exact v_ireturn O T rfl rfl (by decide) (by decide) dX7_factor_124 (⟨by rw [facP_t z_t]; unfold tstP; rw [if_neg z5, if_neg z6, if_pos z7]; exact bT, by rw [facP_t z_t]; unfold tstP; rw [if_neg z5, if_neg z6, if_pos z7]; rfl⟩)
          · skip
            refine v_cV (T := TX7) (ci := 7) (As := []) (wr := [(vg, .inr (6, [.int (nI sh), .int (nI mo), .int (nI ov), .int (nI nr), .ref io, .ref am, .ref en, .int (nI nl), .ref sp])), (sp, eI D 100 fs)]) (st := []) O cf_X7_42 rfl (sp_X7_number_f (txo := txo) (tsg := tsg) (ln := ln) (tb := tb) (p := ((p + 1) + 1)) (z7)) dX7_factor_95 rfl rfl 2 rfl [2, 3] [0, 1] (by decide) rfl rfl (by decide) (by decide) (by decide) (Nat.le_of_ble_eq_true rfl) (by decide) (by decide) (fun r_22 w_23 h_nf => ?_)
            obtain ⟨rfl, rfl⟩ := h_nf
            refine v_eq (st' := [.int (-1)]) (ws' := [(vg, .inr (6, [.int (nI sh), .int (nI mo), .int (nI ov), .int (nI nr), .ref io, .ref am, .ref en, .int (nI nl), .ref sp])), (sp, eI D 100 fs), (txo, .inr (7, [.ref tsg, .int (nI ln), .int (nI ((p + 1) + 1)), .int ((sgT tb ln) ((p + 1) + 1))])), (tsg, eB D 100 tb)]) rfl rfl rfl rfl ?_
            refine v_istore (lv' := [(0, .ref txo), (1, .ref vg), (2, .int 0), (3, .int (ixL ((sgT tb ln) p))), (4, .int (ixR ((sgT tb ln) (p + 1)))), (5, .int (-1))]) O dX7_factor_98 (by decide) rfl ?_
            refine v_iload O dX7_factor_100 5 rfl ?_
            refine v_if_ge O 107 dX7_factor_102 (by decide) (fun c => absurd c (by decide)) (fun _ => ?_)
            refine v_iconst (v := 0) O dX7_factor_105 (by decide) ?_
            refine v_sub (ws' := [(txo, .inr (7, [.ref tsg, .int (nI ln), .int (nI ((p + 1) + 1)), .int ((sgT tb ln) ((p + 1) + 1))])), (tsg, eB D 100 tb), (vg, .inr (6, [.int (nI sh), .int (nI mo), .int (nI ov), .int (nI nr), .ref io, .ref am, .ref en, .int (nI nl), .ref sp])), (sp, eI D 100 fs)]) [2, 3, 0, 1] (by decide) rfl ?_
            exact v_ireturn O T rfl rfl (by decide) (by decide) dX7_factor_106 (⟨by rw [facP_t z_t]; unfold tstP; rw [if_neg z5, if_neg z6, if_neg z7]; exact bF, by rw [facP_t z_t]; unfold tstP; rw [if_neg z5, if_neg z6, if_neg z7]; rfl⟩)
        · skip
          have z6 := Int32.not_le.mp z6
          refine v_iconst (v := 0) O dX7_factor_82 (by decide) ?_
          refine v_sub (ws' := [(txo, .inr (7, [.ref tsg, .int (nI ln), .int (nI (p + 1)), .int ((sgT tb ln) (p + 1))])), (tsg, eB D 100 tb), (vg, .inr (6, [.int (nI sh), .int (nI mo), .int (nI ov), .int (nI nr), .ref io, .ref am, .ref en, .int (nI nl), .ref sp])), (sp, eI D 100 fs)]) [2, 3, 0, 1] (by decide) rfl ?_
          exact v_ireturn O T rfl rfl (by decide) (by decide) dX7_factor_83 (⟨by rw [facP_t z_t]; unfold tstP; rw [if_neg z5, if_pos z6]; exact bF, by rw [facP_t z_t]; unfold tstP; rw [if_neg z5, if_pos z6]; rfl⟩)
      · skip
        have z5 := Int32.not_le.mp z5
        have z5 : ixL ((sgT tb ln) p) < 0 := z5
        refine v_iconst (v := 0) O dX7_factor_54 (by decide) ?_
        exact v_ireturn O T rfl rfl (by decide) (by decide) dX7_factor_55 (⟨by rw [facP_t z_t]; unfold tstP; rw [if_pos z5]; exact bF, by rw [facP_t z_t]; unfold tstP; rw [if_pos z5]; rfl⟩)
    · skip
      have z_n : (sgT tb ln) p = 40 ∨ (sgT tb ln) p = 33 := Or.inr z2
      refine v_iload_n O dX7_factor_18 2 rfl ?_
      refine v_iconst (v := 4) O dX7_factor_19 (by decide) ?_
      refine v_icmp_ge O 38 dX7_factor_20 (by decide) (fun c => absurd c (by decide)) (fun _ => ?_)
      refine v_aload_n O dX7_factor_23 0 rfl ?_
      refine v_aload_n O dX7_factor_24 1 rfl ?_
      refine v_iload_n O dX7_factor_25 2 rfl ?_
      refine v_iconst (v := 1) O dX7_factor_26 (by decide) ?_
      refine v_iadd O dX7_factor_27 ?_
      refine v_top (y := nI 1) rfl ?_
      refine v_cV (T := TX7) (ci := 7) (As := [.ref vg, .int (nI 1)]) (wr := []) (st := []) O cf_X7_90 rfl (sp_X7_nested_3 (txo := txo) (tsg := tsg) (ln := ln) (tb := tb) (vg := vg) (sh := sh) (mo := mo) (ov := ov) (nr := nr) (io := io) (am := am) (en := en) (nl := nl) (sp := sp) (fs := fs) (p := p) (hln) (hp) (hnl) (z_n)) dX7_factor_28 rfl rfl 0 rfl [0, 1, 2, 3] [] (by decide) rfl rfl (by decide) (by decide) (by decide) (Nat.le_of_ble_eq_true rfl) (by decide) (by decide) (fun r_26 w_27 h_25 => ?_)
      obtain ⟨rfl, rfl⟩ := h_25
      refine v_eq (st' := [.int (b2i ((nesP (facP (sgT tb ln) 3) (sgT tb ln) p).2.1 = true))]) (ws' := [(txo, .inr (7, [.ref tsg, .int (nI ln), .int (nI ((nesP (facP (sgT tb ln) 3) (sgT tb ln) p).1)), .int ((sgT tb ln) ((nesP (facP (sgT tb ln) 3) (sgT tb ln) p).1))])), (tsg, eB D 100 tb), (vg, .inr (6, [.int (nI sh), .int (nI mo), .int (nI ov), .int (nI nr), .ref io, .ref am, .ref en, .int (nI (nl + (nesP (facP (sgT tb ln) 3) (sgT tb ln) p).2.2.length)), .ref sp])), (sp, eI D 100 (wr fs nl (nesP (facP (sgT tb ln) 3) (sgT tb ln) p).2.2))]) rfl rfl rfl rfl ?_
      refine v_if_eq O 38 dX7_factor_31 (by decide) (fun z4 => ?_) (fun z4 => ?_)
      · skip
        have z4 := b2i_0.mp z4
        refine v_iconst (v := 0) O dX7_factor_38 (by decide) ?_
        exact v_ireturn O T rfl rfl (by decide) (by decide) dX7_factor_39 (⟨by rw [facP_n (f := 3) z_n, b2i_f z4], by rw [facP_n (f := 3) z_n]⟩)
      · skip
        have z4 := b2i_1.mp z4
        refine v_iconst (v := 1) O dX7_factor_34 (by decide) ?_
        refine v_goto O 39 dX7_factor_35 (by decide) ?_
        exact v_ireturn O T rfl rfl (by decide) (by decide) dX7_factor_39 (⟨by rw [facP_n (f := 3) z_n, b2i_t z4], by rw [facP_n (f := 3) z_n]⟩)
set_option maxRecDepth 100000 in
set_option maxHeartbeats 4000000 in
theorem l_X7_both_4 {D : G} {X : CX} {txo : Nat} {tsg : Nat} {ln : Nat} {tb : Nat → Int32} {vg : Nat} {sh : Nat} {mo : Nat} {ov : Nat} {nr : Nat} {io : Nat} {am : Nat} {en : Nat} {nl : Nat} {sp : Nat} {fs : Nat → Int32} {p : Nat} (O : Ok D X mX7_both 22 0 0) (hln : ln ≤ 100) (hp : p ≤ ln) (hnl : nl ≤ p) (T : Rt D X (fun r w => r = some (.int (b2i ((botP (facP (sgT tb ln) 4) (sgT tb ln) p).2.1 = true))) ∧ w = [(txo, .inr (7, [.ref tsg, .int (nI ln), .int (nI ((botP (facP (sgT tb ln) 4) (sgT tb ln) p).1)), .int ((sgT tb ln) ((botP (facP (sgT tb ln) 4) (sgT tb ln) p).1))])), (tsg, eB D 100 tb), (vg, .inr (6, [.int (nI sh), .int (nI mo), .int (nI ov), .int (nI nr), .ref io, .ref am, .ref en, .int (nI (nl + (botP (facP (sgT tb ln) 4) (sgT tb ln) p).2.2.length)), .ref sp])), (sp, eI D 100 (wr fs nl (botP (facP (sgT tb ln) 4) (sgT tb ln) p).2.2))]) 0 0) : ∀ (t i : Nat), i + t = 100 → ∀ r : Res, botP (facP (sgT tb ln) 4) (sgT tb ln) p = chn (facP (sgT tb ln) 4) (sgT tb ln) 38 (-2) t r → p + r.2.2.length ≤ r.1 ∧ r.1 ≤ ln → V D X 0 0 10 [(0, .ref txo), (1, .ref vg), (2, .int 0), (3, .int (b2i (r.2.1 = true))), (4, .int (nI i))] [] [(txo, .inr (7, [.ref tsg, .int (nI ln), .int (nI r.1), .int ((sgT tb ln) r.1)])), (tsg, eB D 100 tb), (vg, .inr (6, [.int (nI sh), .int (nI mo), .int (nI ov), .int (nI nr), .ref io, .ref am, .ref en, .int (nI (nl + r.2.2.length)), .ref sp])), (sp, eI D 100 (wr fs nl r.2.2))] := by
  intro t
  induction t with
  | zero =>
    intro i hi r hF hr
    refine v_iload O dX7_both_10 4 rfl ?_
    refine v_bipush (v := 100) O dX7_both_12 (by decide) ?_
    refine v_icmp_ge O 59 dX7_both_14 (by decide) (fun z1 => ?_) (fun z1 => ?_)
    · skip
      have z1 := (c_le' (x := nI i) (y := 100) (a := i) (b := 100) rfl rfl (by omega) (by omega)).mp z1
      refine v_iload_n O dX7_both_59 3 rfl ?_
      exact v_ireturn O T rfl (nrb _) (by decide) (by decide) dX7_both_60 (⟨by rw [hF, chn], by rw [hF, chn]⟩)
    · skip
      have z1 := (not_congr (c_le' (x := nI i) (y := 100) (a := i) (b := 100) rfl rfl (by omega) (by omega))).mp z1
      exact absurd z1 (by omega)
  | succ t ih =>
    intro i hi r hF hr
    refine v_iload O dX7_both_10 4 rfl ?_
    refine v_bipush (v := 100) O dX7_both_12 (by decide) ?_
    refine v_icmp_ge O 59 dX7_both_14 (by decide) (fun z1 => ?_) (fun z1 => ?_)
    · skip
      have z1 := (c_le' (x := nI i) (y := 100) (a := i) (b := 100) rfl rfl (by omega) (by omega)).mp z1
      exact absurd z1 (by omega)
    · skip
      have z1 := (not_congr (c_le' (x := nI i) (y := 100) (a := i) (b := 100) rfl rfl (by omega) (by omega))).mp z1
      refine v_iload_n O dX7_both_17 3 rfl ?_
      refine v_if_eq O 59 dX7_both_18 (by decide) (fun z2 => ?_) (fun z2 => ?_)
      · skip
        have z2 := b2i_0.mp z2
        refine v_iload_n O dX7_both_59 3 rfl ?_
        exact v_ireturn O T rfl (nrb _) (by decide) (by decide) dX7_both_60 (⟨by rw [hF, chn_n (fun z9 => absurd z9.1 z2)], by rw [hF, chn_n (fun z9 => absurd z9.1 z2)]⟩)
      · skip
        have z2 := b2i_1.mp z2
        refine v_aload_n O dX7_both_21 0 rfl ?_
        refine gf_X7_22 O rfl dX7_both_22 0 rfl rfl ?_
        refine v_bipush (v := 38) O dX7_both_25 (by decide) ?_
        refine v_icmp_ne O 59 dX7_both_27 (by decide) (fun z3 => ?_) (fun z3 => ?_)
        · skip
          refine v_iload_n O dX7_both_59 3 rfl ?_
          exact v_ireturn O T rfl (nrb _) (by decide) (by decide) dX7_both_60 (⟨by rw [hF, chn_n (fun z9 => absurd z9.2 z3)], by rw [hF, chn_n (fun z9 => absurd z9.2 z3)]⟩)
        · skip
          have z_p := sgT_lt z3 (by decide)
          have z_g := fac_ok (tb := tb) (ln := ln) 4 (r.1 + 1) z_p
          refine v_aload_n O dX7_both_30 0 rfl ?_
          refine v_aload_n O dX7_both_31 0 rfl ?_
          refine gf_X7_19 O rfl dX7_both_32 0 rfl rfl ?_
          refine v_iconst (v := 1) O dX7_both_35 (by decide) ?_
          refine v_iadd O dX7_both_36 ?_
          refine v_top (y := nI (r.1 + 1)) (nI_add r.1 1) ?_
          refine v_cV (T := TX7) (ci := 7) (As := [.int (nI (r.1 + 1))]) (wr := [(vg, .inr (6, [.int (nI sh), .int (nI mo), .int (nI ov), .int (nI nr), .ref io, .ref am, .ref en, .int (nI (nl + r.2.2.length)), .ref sp])), (sp, eI D 100 (wr fs nl r.2.2))]) (st := []) O cf_X7_30 rfl (sp_X7_goTo (txo := txo) (tsg := tsg) (ln := ln) (tb := tb) (pl := (nI r.1)) (si := ((sgT tb ln) r.1)) (q := (r.1 + 1)) (hln) (by omega)) dX7_both_37 rfl rfl 0 rfl [0, 1] [2, 3] (by decide) rfl rfl (by decide) (by decide) (by decide) (Nat.le_of_ble_eq_true rfl) (by decide) (by decide) (fun r_2 w_3 h_1 => ?_)
          obtain ⟨rfl, rfl⟩ := h_1
          refine v_eq (st' := []) (ws' := [(vg, .inr (6, [.int (nI sh), .int (nI mo), .int (nI ov), .int (nI nr), .ref io, .ref am, .ref en, .int (nI (nl + r.2.2.length)), .ref sp])), (sp, eI D 100 (wr fs nl r.2.2)), (txo, .inr (7, [.ref tsg, .int (nI ln), .int (nI (r.1 + 1)), .int ((sgT tb ln) (r.1 + 1))])), (tsg, eB D 100 tb)]) rfl rfl rfl rfl ?_
          refine v_aload_n O dX7_both_40 0 rfl ?_
          refine v_aload_n O dX7_both_41 1 rfl ?_
          refine v_iload_n O dX7_both_42 2 rfl ?_
          refine v_cV (T := TX7) (ci := 7) (As := [.ref vg, .int 0]) (wr := []) (st := []) O cf_X7_87 rfl (sp_X7_factor_4 (txo := txo) (tsg := tsg) (ln := ln) (tb := tb) (vg := vg) (sh := sh) (mo := mo) (ov := ov) (nr := nr) (io := io) (am := am) (en := en) (nl := (nl + r.2.2.length)) (sp := sp) (fs := (wr fs nl r.2.2)) (p := (r.1 + 1)) (hln) (by omega) (by omega)) dX7_both_43 rfl rfl 2 rfl [2, 3, 0, 1] [] (by decide) rfl rfl (by decide) (by decide) (by decide) (Nat.le_of_ble_eq_true rfl) (by decide) (by decide) (fun r_5 w_6 h_4 => ?_)
          obtain ⟨rfl, rfl⟩ := h_4
          refine v_eq (st' := [.int (b2i ((facP (sgT tb ln) 4 (r.1 + 1)).2.1 = true))]) (ws' := [(txo, .inr (7, [.ref tsg, .int (nI ln), .int (nI ((facP (sgT tb ln) 4 (r.1 + 1)).1)), .int ((sgT tb ln) ((facP (sgT tb ln) 4 (r.1 + 1)).1))])), (tsg, eB D 100 tb), (vg, .inr (6, [.int (nI sh), .int (nI mo), .int (nI ov), .int (nI nr), .ref io, .ref am, .ref en, .int (nI ((nl + r.2.2.length) + (facP (sgT tb ln) 4 (r.1 + 1)).2.2.length)), .ref sp])), (sp, eI D 100 (wr (wr fs nl r.2.2) (nl + r.2.2.length) (facP (sgT tb ln) 4 (r.1 + 1)).2.2))]) rfl rfl rfl rfl ?_
          refine v_istore_n (lv' := [(0, .ref txo), (1, .ref vg), (2, .int 0), (3, .int (b2i ((facP (sgT tb ln) 4 (r.1 + 1)).2.1 = true))), (4, .int (nI i))]) O dX7_both_46 (by decide) rfl ?_
          refine v_aload_n O dX7_both_47 1 rfl ?_
          refine v_bipush (v := -2) O dX7_both_48 (by decide) ?_
          refine v_cV (T := TX6) (ci := 6) (As := [.int (-2)]) (wr := [(txo, .inr (7, [.ref tsg, .int (nI ln), .int (nI ((facP (sgT tb ln) 4 (r.1 + 1)).1)), .int ((sgT tb ln) ((facP (sgT tb ln) 4 (r.1 + 1)).1))])), (tsg, eB D 100 tb)]) (st := []) O cf_X7_84 rfl (sp_X6_addStep (vg := vg) (sh := sh) (mo := mo) (ov := ov) (nr := nr) (io := io) (am := am) (en := en) (nl := ((nl + r.2.2.length) + (facP (sgT tb ln) 4 (r.1 + 1)).2.2.length)) (sp := sp) (fs := (wr (wr fs nl r.2.2) (nl + r.2.2.length) (facP (sgT tb ln) 4 (r.1 + 1)).2.2)) (b := (-2)) (by omega)) dX7_both_50 rfl rfl 2 rfl [2, 3] [0, 1] (by decide) rfl rfl (by decide) (by decide) (by decide) (Nat.le_of_ble_eq_true rfl) (by decide) (by decide) (fun r_8 w_9 h_7 => ?_)
          obtain ⟨rfl, rfl⟩ := h_7
          refine v_eq (st' := []) (ws' := [(txo, .inr (7, [.ref tsg, .int (nI ln), .int (nI ((facP (sgT tb ln) 4 (r.1 + 1)).1)), .int ((sgT tb ln) ((facP (sgT tb ln) 4 (r.1 + 1)).1))])), (tsg, eB D 100 tb), (vg, .inr (6, [.int (nI sh), .int (nI mo), .int (nI ov), .int (nI nr), .ref io, .ref am, .ref en, .int (nI (((nl + r.2.2.length) + (facP (sgT tb ln) 4 (r.1 + 1)).2.2.length) + 1)), .ref sp])), (sp, eI D 100 (upd (wr (wr fs nl r.2.2) (nl + r.2.2.length) (facP (sgT tb ln) 4 (r.1 + 1)).2.2) ((nl + r.2.2.length) + (facP (sgT tb ln) 4 (r.1 + 1)).2.2.length) (-2)))]) rfl rfl rfl rfl ?_
          refine v_eq (ws' := [(txo, .inr (7, [.ref tsg, .int (nI ln), .int (nI ((facP (sgT tb ln) 4 (r.1 + 1)).1)), .int ((sgT tb ln) ((facP (sgT tb ln) 4 (r.1 + 1)).1))])), (tsg, eB D 100 tb), (vg, .inr (6, [.int (nI sh), .int (nI mo), .int (nI ov), .int (nI nr), .ref io, .ref am, .ref en, .int (nI (nl + (r.2.2 ++ (((facP (sgT tb ln) 4) (r.1 + 1)).2.2 ++ [-2])).length)), .ref sp])), (sp, eI D 100 (wr fs nl (r.2.2 ++ (((facP (sgT tb ln) 4) (r.1 + 1)).2.2 ++ [-2]))))]) rfl rfl rfl (by rw [wr_3, wl_3]) ?_
          refine v_iinc (v := nI (i + 1)) (lv' := [(0, .ref txo), (1, .ref vg), (2, .int 0), (3, .int (b2i ((facP (sgT tb ln) 4 (r.1 + 1)).2.1 = true))), (4, .int (nI (i + 1)))]) O dX7_both_53 4 rfl (nI_1 i) (by decide) rfl ?_
          refine v_goto O 10 dX7_both_56 (by decide) ?_
          exact ih (i + 1) (by omega) (((facP (sgT tb ln) 4) (r.1 + 1)).1, ((facP (sgT tb ln) 4) (r.1 + 1)).2.1, r.2.2 ++ (((facP (sgT tb ln) 4) (r.1 + 1)).2.2 ++ [-2])) (by rw [hF, chn_s ⟨z2, z3⟩]) ⟨by show p + (r.2.2 ++ (((facP (sgT tb ln) 4) (r.1 + 1)).2.2 ++ [(-2 : Int32)])).length ≤ ((facP (sgT tb ln) 4) (r.1 + 1)).1; rw [← wl_3]; omega, z_g.2⟩
set_option maxRecDepth 100000 in
set_option maxHeartbeats 4000000 in
theorem sp_X7_both_4 {D : G} {txo : Nat} {tsg : Nat} {ln : Nat} {tb : Nat → Int32} {vg : Nat} {sh : Nat} {mo : Nat} {ov : Nat} {nr : Nat} {io : Nat} {am : Nat} {en : Nat} {nl : Nat} {sp : Nat} {fs : Nat → Int32} {p : Nat} (hln : ln ≤ 100) (hp : p ≤ ln) (hnl : nl ≤ p) : Sp D mX7_both 22 0 0 [.ref txo, .ref vg, .int 0] [(txo, .inr (7, [.ref tsg, .int (nI ln), .int (nI p), .int ((sgT tb ln) p)])), (tsg, eB D 100 tb), (vg, .inr (6, [.int (nI sh), .int (nI mo), .int (nI ov), .int (nI nr), .ref io, .ref am, .ref en, .int (nI nl), .ref sp])), (sp, eI D 100 fs)] (fun r w => r = some (.int (b2i ((botP (facP (sgT tb ln) 4) (sgT tb ln) p).2.1 = true))) ∧ w = [(txo, .inr (7, [.ref tsg, .int (nI ln), .int (nI ((botP (facP (sgT tb ln) 4) (sgT tb ln) p).1)), .int ((sgT tb ln) ((botP (facP (sgT tb ln) 4) (sgT tb ln) p).1))])), (tsg, eB D 100 tb), (vg, .inr (6, [.int (nI sh), .int (nI mo), .int (nI ov), .int (nI nr), .ref io, .ref am, .ref en, .int (nI (nl + (botP (facP (sgT tb ln) 4) (sgT tb ln) p).2.2.length)), .ref sp])), (sp, eI D 100 (wr fs nl (botP (facP (sgT tb ln) 4) (sgT tb ln) p).2.2))]) := by
  refine Sp.of (by decide) (Nat.le_of_ble_eq_true rfl) (fun X O T => ?_)
  refine v_eq (lv' := [(0, .ref txo), (1, .ref vg), (2, .int 0)]) rfl rfl rfl rfl ?_
  refine v_aload_n O dX7_both_0 0 rfl ?_
  refine v_aload_n O dX7_both_1 1 rfl ?_
  refine v_iload_n O dX7_both_2 2 rfl ?_
  refine v_cV (T := TX7) (ci := 7) (As := [.ref vg, .int 0]) (wr := []) (st := []) O cf_X7_87 rfl (sp_X7_factor_4 (txo := txo) (tsg := tsg) (ln := ln) (tb := tb) (vg := vg) (sh := sh) (mo := mo) (ov := ov) (nr := nr) (io := io) (am := am) (en := en) (nl := nl) (sp := sp) (fs := fs) (p := p) (hln) (hp) (hnl)) dX7_both_3 rfl rfl 0 rfl [0, 1, 2, 3] [] (by decide) rfl rfl (by decide) (by decide) (by decide) (Nat.le_of_ble_eq_true rfl) (by decide) (by decide) (fun r_2 w_3 h_1 => ?_)
  obtain ⟨rfl, rfl⟩ := h_1
  refine v_eq (st' := [.int (b2i ((facP (sgT tb ln) 4 p).2.1 = true))]) (ws' := [(txo, .inr (7, [.ref tsg, .int (nI ln), .int (nI ((facP (sgT tb ln) 4 p).1)), .int ((sgT tb ln) ((facP (sgT tb ln) 4 p).1))])), (tsg, eB D 100 tb), (vg, .inr (6, [.int (nI sh), .int (nI mo), .int (nI ov), .int (nI nr), .ref io, .ref am, .ref en, .int (nI (nl + (facP (sgT tb ln) 4 p).2.2.length)), .ref sp])), (sp, eI D 100 (wr fs nl (facP (sgT tb ln) 4 p).2.2))]) rfl rfl rfl rfl ?_
  refine v_istore_n (lv' := [(0, .ref txo), (1, .ref vg), (2, .int 0), (3, .int (b2i ((facP (sgT tb ln) 4 p).2.1 = true)))]) O dX7_both_6 (by decide) rfl ?_
  refine v_iconst (v := 0) O dX7_both_7 (by decide) ?_
  refine v_istore (lv' := [(0, .ref txo), (1, .ref vg), (2, .int 0), (3, .int (b2i ((facP (sgT tb ln) 4 p).2.1 = true))), (4, .int 0)]) O dX7_both_8 (by decide) rfl ?_
  refine v_eq (lv' := [(0, .ref txo), (1, .ref vg), (2, .int 0), (3, .int (b2i ((facP (sgT tb ln) 4 p).2.1 = true))), (4, .int (nI 0))]) rfl rfl rfl rfl ?_
  exact l_X7_both_4 O hln hp hnl T 100 0 (by omega) ((facP (sgT tb ln) 4) p) rfl (fac_ok (tb := tb) (ln := ln) 4 p hp)
set_option maxRecDepth 100000 in
set_option maxHeartbeats 4000000 in
theorem l_X7_either_4 {D : G} {X : CX} {txo : Nat} {tsg : Nat} {ln : Nat} {tb : Nat → Int32} {vg : Nat} {sh : Nat} {mo : Nat} {ov : Nat} {nr : Nat} {io : Nat} {am : Nat} {en : Nat} {nl : Nat} {sp : Nat} {fs : Nat → Int32} {p : Nat} (O : Ok D X mX7_either 23 0 0) (hln : ln ≤ 100) (hp : p ≤ ln) (hnl : nl ≤ p) (T : Rt D X (fun r w => r = some (.int (b2i ((eitP (facP (sgT tb ln) 4) (sgT tb ln) p).2.1 = true))) ∧ w = [(txo, .inr (7, [.ref tsg, .int (nI ln), .int (nI ((eitP (facP (sgT tb ln) 4) (sgT tb ln) p).1)), .int ((sgT tb ln) ((eitP (facP (sgT tb ln) 4) (sgT tb ln) p).1))])), (tsg, eB D 100 tb), (vg, .inr (6, [.int (nI sh), .int (nI mo), .int (nI ov), .int (nI nr), .ref io, .ref am, .ref en, .int (nI (nl + (eitP (facP (sgT tb ln) 4) (sgT tb ln) p).2.2.length)), .ref sp])), (sp, eI D 100 (wr fs nl (eitP (facP (sgT tb ln) 4) (sgT tb ln) p).2.2))]) 0 0) : ∀ (t i : Nat), i + t = 100 → ∀ r : Res, eitP (facP (sgT tb ln) 4) (sgT tb ln) p = chn (botP (facP (sgT tb ln) 4) (sgT tb ln)) (sgT tb ln) 124 (-3) t r → p + r.2.2.length ≤ r.1 ∧ r.1 ≤ ln → V D X 0 0 10 [(0, .ref txo), (1, .ref vg), (2, .int 0), (3, .int (b2i (r.2.1 = true))), (4, .int (nI i))] [] [(txo, .inr (7, [.ref tsg, .int (nI ln), .int (nI r.1), .int ((sgT tb ln) r.1)])), (tsg, eB D 100 tb), (vg, .inr (6, [.int (nI sh), .int (nI mo), .int (nI ov), .int (nI nr), .ref io, .ref am, .ref en, .int (nI (nl + r.2.2.length)), .ref sp])), (sp, eI D 100 (wr fs nl r.2.2))] := by
  intro t
  induction t with
  | zero =>
    intro i hi r hF hr
    refine v_iload O dX7_either_10 4 rfl ?_
    refine v_bipush (v := 100) O dX7_either_12 (by decide) ?_
    refine v_icmp_ge O 59 dX7_either_14 (by decide) (fun z1 => ?_) (fun z1 => ?_)
    · skip
      have z1 := (c_le' (x := nI i) (y := 100) (a := i) (b := 100) rfl rfl (by omega) (by omega)).mp z1
      refine v_iload_n O dX7_either_59 3 rfl ?_
      exact v_ireturn O T rfl (nrb _) (by decide) (by decide) dX7_either_60 (⟨by rw [hF, chn], by rw [hF, chn]⟩)
    · skip
      have z1 := (not_congr (c_le' (x := nI i) (y := 100) (a := i) (b := 100) rfl rfl (by omega) (by omega))).mp z1
      exact absurd z1 (by omega)
  | succ t ih =>
    intro i hi r hF hr
    refine v_iload O dX7_either_10 4 rfl ?_
    refine v_bipush (v := 100) O dX7_either_12 (by decide) ?_
    refine v_icmp_ge O 59 dX7_either_14 (by decide) (fun z1 => ?_) (fun z1 => ?_)
    · skip
      have z1 := (c_le' (x := nI i) (y := 100) (a := i) (b := 100) rfl rfl (by omega) (by omega)).mp z1
      exact absurd z1 (by omega)
    · skip
      have z1 := (not_congr (c_le' (x := nI i) (y := 100) (a := i) (b := 100) rfl rfl (by omega) (by omega))).mp z1
      refine v_iload_n O dX7_either_17 3 rfl ?_
      refine v_if_eq O 59 dX7_either_18 (by decide) (fun z2 => ?_) (fun z2 => ?_)
      · skip
        have z2 := b2i_0.mp z2
        refine v_iload_n O dX7_either_59 3 rfl ?_
        exact v_ireturn O T rfl (nrb _) (by decide) (by decide) dX7_either_60 (⟨by rw [hF, chn_n (fun z9 => absurd z9.1 z2)], by rw [hF, chn_n (fun z9 => absurd z9.1 z2)]⟩)
      · skip
        have z2 := b2i_1.mp z2
        refine v_aload_n O dX7_either_21 0 rfl ?_
        refine gf_X7_22 O rfl dX7_either_22 0 rfl rfl ?_
        refine v_bipush (v := 124) O dX7_either_25 (by decide) ?_
        refine v_icmp_ne O 59 dX7_either_27 (by decide) (fun z3 => ?_) (fun z3 => ?_)
        · skip
          refine v_iload_n O dX7_either_59 3 rfl ?_
          exact v_ireturn O T rfl (nrb _) (by decide) (by decide) dX7_either_60 (⟨by rw [hF, chn_n (fun z9 => absurd z9.2 z3)], by rw [hF, chn_n (fun z9 => absurd z9.2 z3)]⟩)
        · skip
          have z_p := sgT_lt z3 (by decide)
          have z_g := bot_ok (tb := tb) (fac_ok (tb := tb) (ln := ln) 4) (r.1 + 1) z_p
          refine v_aload_n O dX7_either_30 0 rfl ?_
          refine v_aload_n O dX7_either_31 0 rfl ?_
          refine gf_X7_19 O rfl dX7_either_32 0 rfl rfl ?_
          refine v_iconst (v := 1) O dX7_either_35 (by decide) ?_
          refine v_iadd O dX7_either_36 ?_
          refine v_top (y := nI (r.1 + 1)) (nI_add r.1 1) ?_
          refine v_cV (T := TX7) (ci := 7) (As := [.int (nI (r.1 + 1))]) (wr := [(vg, .inr (6, [.int (nI sh), .int (nI mo), .int (nI ov), .int (nI nr), .ref io, .ref am, .ref en, .int (nI (nl + r.2.2.length)), .ref sp])), (sp, eI D 100 (wr fs nl r.2.2))]) (st := []) O cf_X7_30 rfl (sp_X7_goTo (txo := txo) (tsg := tsg) (ln := ln) (tb := tb) (pl := (nI r.1)) (si := ((sgT tb ln) r.1)) (q := (r.1 + 1)) (hln) (by omega)) dX7_either_37 rfl rfl 0 rfl [0, 1] [2, 3] (by decide) rfl rfl (by decide) (by decide) (by decide) (Nat.le_of_ble_eq_true rfl) (by decide) (by decide) (fun r_2 w_3 h_1 => ?_)
          obtain ⟨rfl, rfl⟩ := h_1
          refine v_eq (st' := []) (ws' := [(vg, .inr (6, [.int (nI sh), .int (nI mo), .int (nI ov), .int (nI nr), .ref io, .ref am, .ref en, .int (nI (nl + r.2.2.length)), .ref sp])), (sp, eI D 100 (wr fs nl r.2.2)), (txo, .inr (7, [.ref tsg, .int (nI ln), .int (nI (r.1 + 1)), .int ((sgT tb ln) (r.1 + 1))])), (tsg, eB D 100 tb)]) rfl rfl rfl rfl ?_
          refine v_aload_n O dX7_either_40 0 rfl ?_
          refine v_aload_n O dX7_either_41 1 rfl ?_
          refine v_iload_n O dX7_either_42 2 rfl ?_
          refine v_cV (T := TX7) (ci := 7) (As := [.ref vg, .int 0]) (wr := []) (st := []) O cf_X7_81 rfl (sp_X7_both_4 (txo := txo) (tsg := tsg) (ln := ln) (tb := tb) (vg := vg) (sh := sh) (mo := mo) (ov := ov) (nr := nr) (io := io) (am := am) (en := en) (nl := (nl + r.2.2.length)) (sp := sp) (fs := (wr fs nl r.2.2)) (p := (r.1 + 1)) (hln) (by omega) (by omega)) dX7_either_43 rfl rfl 2 rfl [2, 3, 0, 1] [] (by decide) rfl rfl (by decide) (by decide) (by decide) (Nat.le_of_ble_eq_true rfl) (by decide) (by decide) (fun r_5 w_6 h_4 => ?_)
          obtain ⟨rfl, rfl⟩ := h_4
          refine v_eq (st' := [.int (b2i ((botP (facP (sgT tb ln) 4) (sgT tb ln) (r.1 + 1)).2.1 = true))]) (ws' := [(txo, .inr (7, [.ref tsg, .int (nI ln), .int (nI ((botP (facP (sgT tb ln) 4) (sgT tb ln) (r.1 + 1)).1)), .int ((sgT tb ln) ((botP (facP (sgT tb ln) 4) (sgT tb ln) (r.1 + 1)).1))])), (tsg, eB D 100 tb), (vg, .inr (6, [.int (nI sh), .int (nI mo), .int (nI ov), .int (nI nr), .ref io, .ref am, .ref en, .int (nI ((nl + r.2.2.length) + (botP (facP (sgT tb ln) 4) (sgT tb ln) (r.1 + 1)).2.2.length)), .ref sp])), (sp, eI D 100 (wr (wr fs nl r.2.2) (nl + r.2.2.length) (botP (facP (sgT tb ln) 4) (sgT tb ln) (r.1 + 1)).2.2))]) rfl rfl rfl rfl ?_
          refine v_istore_n (lv' := [(0, .ref txo), (1, .ref vg), (2, .int 0), (3, .int (b2i ((botP (facP (sgT tb ln) 4) (sgT tb ln) (r.1 + 1)).2.1 = true))), (4, .int (nI i))]) O dX7_either_46 (by decide) rfl ?_
          refine v_aload_n O dX7_either_47 1 rfl ?_
          refine v_bipush (v := -3) O dX7_either_48 (by decide) ?_
          refine v_cV (T := TX6) (ci := 6) (As := [.int (-3)]) (wr := [(txo, .inr (7, [.ref tsg, .int (nI ln), .int (nI ((botP (facP (sgT tb ln) 4) (sgT tb ln) (r.1 + 1)).1)), .int ((sgT tb ln) ((botP (facP (sgT tb ln) 4) (sgT tb ln) (r.1 + 1)).1))])), (tsg, eB D 100 tb)]) (st := []) O cf_X7_84 rfl (sp_X6_addStep (vg := vg) (sh := sh) (mo := mo) (ov := ov) (nr := nr) (io := io) (am := am) (en := en) (nl := ((nl + r.2.2.length) + (botP (facP (sgT tb ln) 4) (sgT tb ln) (r.1 + 1)).2.2.length)) (sp := sp) (fs := (wr (wr fs nl r.2.2) (nl + r.2.2.length) (botP (facP (sgT tb ln) 4) (sgT tb ln) (r.1 + 1)).2.2)) (b := (-3)) (by omega)) dX7_either_50 rfl rfl 2 rfl [2, 3] [0, 1] (by decide) rfl rfl (by decide) (by decide) (by decide) (Nat.le_of_ble_eq_true rfl) (by decide) (by decide) (fun r_8 w_9 h_7 => ?_)
          obtain ⟨rfl, rfl⟩ := h_7
          refine v_eq (st' := []) (ws' := [(txo, .inr (7, [.ref tsg, .int (nI ln), .int (nI ((botP (facP (sgT tb ln) 4) (sgT tb ln) (r.1 + 1)).1)), .int ((sgT tb ln) ((botP (facP (sgT tb ln) 4) (sgT tb ln) (r.1 + 1)).1))])), (tsg, eB D 100 tb), (vg, .inr (6, [.int (nI sh), .int (nI mo), .int (nI ov), .int (nI nr), .ref io, .ref am, .ref en, .int (nI (((nl + r.2.2.length) + (botP (facP (sgT tb ln) 4) (sgT tb ln) (r.1 + 1)).2.2.length) + 1)), .ref sp])), (sp, eI D 100 (upd (wr (wr fs nl r.2.2) (nl + r.2.2.length) (botP (facP (sgT tb ln) 4) (sgT tb ln) (r.1 + 1)).2.2) ((nl + r.2.2.length) + (botP (facP (sgT tb ln) 4) (sgT tb ln) (r.1 + 1)).2.2.length) (-3)))]) rfl rfl rfl rfl ?_
          refine v_eq (ws' := [(txo, .inr (7, [.ref tsg, .int (nI ln), .int (nI ((botP (facP (sgT tb ln) 4) (sgT tb ln) (r.1 + 1)).1)), .int ((sgT tb ln) ((botP (facP (sgT tb ln) 4) (sgT tb ln) (r.1 + 1)).1))])), (tsg, eB D 100 tb), (vg, .inr (6, [.int (nI sh), .int (nI mo), .int (nI ov), .int (nI nr), .ref io, .ref am, .ref en, .int (nI (nl + (r.2.2 ++ (((botP (facP (sgT tb ln) 4) (sgT tb ln)) (r.1 + 1)).2.2 ++ [-3])).length)), .ref sp])), (sp, eI D 100 (wr fs nl (r.2.2 ++ (((botP (facP (sgT tb ln) 4) (sgT tb ln)) (r.1 + 1)).2.2 ++ [-3]))))]) rfl rfl rfl (by rw [wr_3, wl_3]) ?_
          refine v_iinc (v := nI (i + 1)) (lv' := [(0, .ref txo), (1, .ref vg), (2, .int 0), (3, .int (b2i ((botP (facP (sgT tb ln) 4) (sgT tb ln) (r.1 + 1)).2.1 = true))), (4, .int (nI (i + 1)))]) O dX7_either_53 4 rfl (nI_1 i) (by decide) rfl ?_
          refine v_goto O 10 dX7_either_56 (by decide) ?_
          exact ih (i + 1) (by omega) (((botP (facP (sgT tb ln) 4) (sgT tb ln)) (r.1 + 1)).1, ((botP (facP (sgT tb ln) 4) (sgT tb ln)) (r.1 + 1)).2.1, r.2.2 ++ (((botP (facP (sgT tb ln) 4) (sgT tb ln)) (r.1 + 1)).2.2 ++ [-3])) (by rw [hF, chn_s ⟨z2, z3⟩]) ⟨by show p + (r.2.2 ++ (((botP (facP (sgT tb ln) 4) (sgT tb ln)) (r.1 + 1)).2.2 ++ [(-3 : Int32)])).length ≤ ((botP (facP (sgT tb ln) 4) (sgT tb ln)) (r.1 + 1)).1; rw [← wl_3]; omega, z_g.2⟩
set_option maxRecDepth 100000 in
set_option maxHeartbeats 4000000 in
theorem sp_X7_either_4 {D : G} {txo : Nat} {tsg : Nat} {ln : Nat} {tb : Nat → Int32} {vg : Nat} {sh : Nat} {mo : Nat} {ov : Nat} {nr : Nat} {io : Nat} {am : Nat} {en : Nat} {nl : Nat} {sp : Nat} {fs : Nat → Int32} {p : Nat} (hln : ln ≤ 100) (hp : p ≤ ln) (hnl : nl ≤ p) : Sp D mX7_either 23 0 0 [.ref txo, .ref vg, .int 0] [(txo, .inr (7, [.ref tsg, .int (nI ln), .int (nI p), .int ((sgT tb ln) p)])), (tsg, eB D 100 tb), (vg, .inr (6, [.int (nI sh), .int (nI mo), .int (nI ov), .int (nI nr), .ref io, .ref am, .ref en, .int (nI nl), .ref sp])), (sp, eI D 100 fs)] (fun r w => r = some (.int (b2i ((eitP (facP (sgT tb ln) 4) (sgT tb ln) p).2.1 = true))) ∧ w = [(txo, .inr (7, [.ref tsg, .int (nI ln), .int (nI ((eitP (facP (sgT tb ln) 4) (sgT tb ln) p).1)), .int ((sgT tb ln) ((eitP (facP (sgT tb ln) 4) (sgT tb ln) p).1))])), (tsg, eB D 100 tb), (vg, .inr (6, [.int (nI sh), .int (nI mo), .int (nI ov), .int (nI nr), .ref io, .ref am, .ref en, .int (nI (nl + (eitP (facP (sgT tb ln) 4) (sgT tb ln) p).2.2.length)), .ref sp])), (sp, eI D 100 (wr fs nl (eitP (facP (sgT tb ln) 4) (sgT tb ln) p).2.2))]) := by
  refine Sp.of (by decide) (Nat.le_of_ble_eq_true rfl) (fun X O T => ?_)
  refine v_eq (lv' := [(0, .ref txo), (1, .ref vg), (2, .int 0)]) rfl rfl rfl rfl ?_
  refine v_aload_n O dX7_either_0 0 rfl ?_
  refine v_aload_n O dX7_either_1 1 rfl ?_
  refine v_iload_n O dX7_either_2 2 rfl ?_
  refine v_cV (T := TX7) (ci := 7) (As := [.ref vg, .int 0]) (wr := []) (st := []) O cf_X7_81 rfl (sp_X7_both_4 (txo := txo) (tsg := tsg) (ln := ln) (tb := tb) (vg := vg) (sh := sh) (mo := mo) (ov := ov) (nr := nr) (io := io) (am := am) (en := en) (nl := nl) (sp := sp) (fs := fs) (p := p) (hln) (hp) (hnl)) dX7_either_3 rfl rfl 0 rfl [0, 1, 2, 3] [] (by decide) rfl rfl (by decide) (by decide) (by decide) (Nat.le_of_ble_eq_true rfl) (by decide) (by decide) (fun r_2 w_3 h_1 => ?_)
  obtain ⟨rfl, rfl⟩ := h_1
  refine v_eq (st' := [.int (b2i ((botP (facP (sgT tb ln) 4) (sgT tb ln) p).2.1 = true))]) (ws' := [(txo, .inr (7, [.ref tsg, .int (nI ln), .int (nI ((botP (facP (sgT tb ln) 4) (sgT tb ln) p).1)), .int ((sgT tb ln) ((botP (facP (sgT tb ln) 4) (sgT tb ln) p).1))])), (tsg, eB D 100 tb), (vg, .inr (6, [.int (nI sh), .int (nI mo), .int (nI ov), .int (nI nr), .ref io, .ref am, .ref en, .int (nI (nl + (botP (facP (sgT tb ln) 4) (sgT tb ln) p).2.2.length)), .ref sp])), (sp, eI D 100 (wr fs nl (botP (facP (sgT tb ln) 4) (sgT tb ln) p).2.2))]) rfl rfl rfl rfl ?_
  refine v_istore_n (lv' := [(0, .ref txo), (1, .ref vg), (2, .int 0), (3, .int (b2i ((botP (facP (sgT tb ln) 4) (sgT tb ln) p).2.1 = true)))]) O dX7_either_6 (by decide) rfl ?_
  refine v_iconst (v := 0) O dX7_either_7 (by decide) ?_
  refine v_istore (lv' := [(0, .ref txo), (1, .ref vg), (2, .int 0), (3, .int (b2i ((botP (facP (sgT tb ln) 4) (sgT tb ln) p).2.1 = true))), (4, .int 0)]) O dX7_either_8 (by decide) rfl ?_
  refine v_eq (lv' := [(0, .ref txo), (1, .ref vg), (2, .int 0), (3, .int (b2i ((botP (facP (sgT tb ln) 4) (sgT tb ln) p).2.1 = true))), (4, .int (nI 0))]) rfl rfl rfl rfl ?_
  exact l_X7_either_4 O hln hp hnl T 100 0 (by omega) ((botP (facP (sgT tb ln) 4) (sgT tb ln)) p) rfl (bot_ok (tb := tb) (fac_ok (tb := tb) (ln := ln) 4) p hp)
