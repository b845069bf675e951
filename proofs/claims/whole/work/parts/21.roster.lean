-- OneForDog$Roster: rows of unlike men, in the order in which a search meets them
def rE (kk pp ov bk : Nat → Nat) (m s h : Nat) : Option (Nat × Nat × Nat) := wakeN (kk m) (pp m) (fun zd => ov (slotN m s zd)) (fun zd => bk (slotN m s zd)) h
def catN (f : Nat → List (List Nat)) : Nat → List (List Nat)
  | 0 => []
  | n + 1 => catN f n ++ f n
def dfsK (E : Nat → Nat → Nat → Option (Nat × Nat × Nat)) (men dw : Nat) : Nat → Nat → Nat → Nat → List (List Nat)
  | 0, h, _, _ => if h = dw then [[]] else []
  | f + 1, h, len, a => (if h = dw then [[]] else []) ++ catN (fun m => if a / 2 ^ m % 2 = 0 then (match E m len h with | none => [] | some x => (dfsK E men dw f x.1 (len + 1) (a + 2 ^ m)).map (fun zr => m :: zr)) else []) men
def gK (E : Nat → Nat → Nat → Option (Nat × Nat × Nat)) (men dw f h len a m : Nat) : List (List Nat) := if a / 2 ^ m % 2 = 0 then (match E m len h with | none => [] | some x => (dfsK E men dw f x.1 (len + 1) (a + 2 ^ m)).map (fun zr => m :: zr)) else []
theorem gK_a {E : Nat → Nat → Nat → Option (Nat × Nat × Nat)} {men dw f h len a m : Nat} (z : ¬ a / 2 ^ m % 2 = 0) : gK E men dw f h len a m = [] := by unfold gK; rw [if_neg z]
theorem gK_n {E : Nat → Nat → Nat → Option (Nat × Nat × Nat)} {men dw f h len a m : Nat} (z : E m len h = none) : gK E men dw f h len a m = [] := by
  unfold gK
  split
  · rw [z]
  · rfl
theorem gK_s {E : Nat → Nat → Nat → Option (Nat × Nat × Nat)} {men dw f h len a m : Nat} (z : a / 2 ^ m % 2 = 0) (z2 : ¬ E m len h = none) : gK E men dw f h len a m = (dfsK E men dw f (oL (E m len h) h) (len + 1) (a + 2 ^ m)).map (fun zr => m :: zr) := by
  unfold gK
  rw [if_pos z]
  cases z3 : E m len h with
  | none => exact absurd z3 z2
  | some y => rfl
def kF (st : Nat × Option (List Nat)) (r : List Nat) : Nat × Option (List Nat) := (st.1 + 1, match st.2 with | none => some r | some b => if b.length ≤ r.length then some b else some r)
def kB (b : Nat → Nat) (bl : Int32) : Option (List Nat) → Prop
  | none => bl = -1
  | some r => bl = nI r.length ∧ r.length ≤ 6 ∧ ∀ j, j < r.length → b j = r.getD j 0
def kR (st : Nat × Option (List Nat)) (rows : Nat) (bl : Int32) (b : Nat → Nat) : Prop := st.1 = rows ∧ kB b bl st.2
def kAt : Option (List Nat) → Nat → Int32
  | none, _ => -5
  | some r, k => if k < r.length then nI (r.getD k 0) else -5
theorem kR_less {st : Nat × Option (List Nat)} {rows : Nat} {bl : Int32} {b u : Nat → Nat} {r : List Nat} (h : kR st rows bl b) (hr : r.length ≤ 6) (hu : ∀ j, j < r.length → u j = r.getD j 0) (z : bl < 0 ∨ nI r.length < bl) : kR (kF st r) (rows + 1) (nI r.length) u := by
  obtain ⟨h1, h2⟩ := h
  refine ⟨by show st.1 + 1 = _; rw [h1], ?_⟩
  show kB u _ (match st.2 with | none => some r | some b => if b.length ≤ r.length then some b else some r)
  cases e : st.2 with
  | none => exact ⟨rfl, hr, hu⟩
  | some q =>
    rw [e] at h2
    obtain ⟨h3, h4, h5⟩ := h2
    have z9 : ¬ q.length ≤ r.length := by
      rcases z with z | z
      · rw [h3] at z; exact absurd z (nI_pos (by omega))
      · rw [h3] at z; have := (c_lt rfl rfl (by omega) (by omega)).mp z; omega
    show kB u _ (if q.length ≤ r.length then some q else some r)
    rw [if_neg z9]
    exact ⟨rfl, hr, hu⟩
theorem kR_more {st : Nat × Option (List Nat)} {rows : Nat} {bl : Int32} {b : Nat → Nat} {r : List Nat} (h : kR st rows bl b) (hr : r.length ≤ 6) (z1 : ¬ bl < 0) (z2 : ¬ nI r.length < bl) : kR (kF st r) (rows + 1) bl b := by
  obtain ⟨h1, h2⟩ := h
  refine ⟨by show st.1 + 1 = _; rw [h1], ?_⟩
  show kB b _ (match st.2 with | none => some r | some b => if b.length ≤ r.length then some b else some r)
  cases e : st.2 with
  | none => rw [e] at h2; exact absurd (show bl < 0 by rw [show bl = -1 from h2]; decide) z1
  | some q =>
    rw [e] at h2
    obtain ⟨h3, h4, h5⟩ := h2
    rw [h3] at z2
    have z9 : q.length ≤ r.length := by have := (not_congr (c_lt rfl rfl (by omega) (by omega))).mp z2; omega
    show kB b _ (if q.length ≤ r.length then some q else some r)
    rw [if_pos z9]
    exact ⟨h3, h4, h5⟩
theorem kA_in {st : Nat × Option (List Nat)} {rows k : Nat} {bl : Int32} {b : Nat → Nat} (h : kR st rows bl b) (hk : k < 6) (z : nI k < bl) : kAt st.2 k = nI (b k) := by
  obtain ⟨h1, h2⟩ := h
  cases e : st.2 with
  | none => rw [e] at h2; rw [show bl = -1 from h2] at z; exact absurd (show nI k < 0 from Int32.lt_trans z (by decide)) (nI_pos (by omega))
  | some q =>
    rw [e] at h2
    obtain ⟨h3, h4, h5⟩ := h2
    rw [h3] at z
    have z9 := (c_lt rfl rfl (by omega) (by omega)).mp z
    show (if k < q.length then nI (q.getD k 0) else -5) = _
    rw [if_pos z9, h5 k z9]
theorem kA_out {st : Nat × Option (List Nat)} {rows k : Nat} {bl : Int32} {b : Nat → Nat} (h : kR st rows bl b) (hk : k < 6) (z : ¬ nI k < bl) : kAt st.2 k = -5 := by
  obtain ⟨h1, h2⟩ := h
  cases e : st.2 with
  | none => rfl
  | some q =>
    rw [e] at h2
    obtain ⟨h3, h4, h5⟩ := h2
    rw [h3] at z
    have z9 := (not_congr (c_lt rfl rfl (by omega) (by omega))).mp z
    show (if k < q.length then nI (q.getD k 0) else -5) = _
    rw [if_neg z9]
theorem bitS_ : ∀ a : Fin 64, ∀ m : Fin 6, (nI a.val >>> (nI m.val &&& 31)) &&& 1 = nI (a.val / 2 ^ m.val % 2) := by decide +kernel
theorem bitO_ : ∀ a : Fin 64, ∀ m : Fin 6, a.val / 2 ^ m.val % 2 = 0 → nI a.val ||| ((1 : Int32) <<< (nI m.val &&& 31)) = nI (a.val + 2 ^ m.val) ∧ a.val + 2 ^ m.val < 64 := by decide +kernel
theorem bitS {a m : Nat} (ha : a < 64) (hm : m < 6) : (nI a >>> (nI m &&& 31)) &&& 1 = nI (a / 2 ^ m % 2) := bitS_ ⟨a, ha⟩ ⟨m, hm⟩
theorem bitO {a m : Nat} (ha : a < 64) (hm : m < 6) (z : a / 2 ^ m % 2 = 0) : nI a ||| ((1 : Int32) <<< (nI m &&& 31)) = nI (a + 2 ^ m) := (bitO_ ⟨a, ha⟩ ⟨m, hm⟩ z).1
theorem bitL {a m : Nat} (ha : a < 64) (hm : m < 6) (z : a / 2 ^ m % 2 = 0) : a + 2 ^ m < 64 := (bitO_ ⟨a, ha⟩ ⟨m, hm⟩ z).2
theorem getD_ap {r : List Nat} {m j : Nat} (h : j < r.length) : (r ++ [m]).getD j 0 = r.getD j 0 := by
  simp only [List.getD_eq_getElem?_getD, List.getElem?_append_left h]
theorem getD_nw {r : List Nat} {m : Nat} : (r ++ [m]).getD r.length 0 = m := by
  simp only [List.getD_eq_getElem?_getD, List.getElem?_append_right (Nat.le_refl _), Nat.sub_self, List.getElem?_cons_zero, Option.getD_some]
theorem map_pre {r : List Nat} {m : Nat} {l : List (List Nat)} : (l.map (fun zr => m :: zr)).map (fun zr => r ++ zr) = l.map (fun zr => (r ++ [m]) ++ zr) := by
  rw [List.map_map]
  exact List.map_congr_left (fun x _ => by simp)
theorem va_cpy6 {f g : Nat → Int32} {j : Nat} (h : j < 6) : va_cpy f g 0 0 6 j = f j := by
  unfold va_cpy
  simp [h]
set_option maxRecDepth 100000 in
set_option maxHeartbeats 4000000 in
theorem sp_X4_keep {D : G} {ro : Nat} {ua : Nat} {ba : Nat} {men : Nat} {dw : Nat} {wk : Nat} {u : Nat → Nat} {b : Nat → Nat} {rows : Nat} {bl : Int32} {st : Nat × Option (List Nat)} {pr9 : List Nat} {len : Nat} (hst : kR st rows bl b) (hl6 : len ≤ 6) (hpl : pr9.length = len) (hu : ∀ j, j < len → u j = pr9.getD j 0) : Sp D mX4_keep 1 0 0 [.ref ro, .int (nI len)] [(ro, .inr (4, [.ref wk, .ref ua, .ref ba, .int bl, .int (nI men), .int (nI dw), .int (nI rows)])), (ua, eI D 6 (nF u)), (ba, eI D 6 (nF b))] (fun r w => ∃ bl2 : Int32, ∃ b2 : Nat → Nat, r = none ∧ w = [(ro, .inr (4, [.ref wk, .ref ua, .ref ba, .int bl2, .int (nI men), .int (nI dw), .int (nI (rows + 1))])), (ua, eI D 6 (nF u)), (ba, eI D 6 (nF b2))] ∧ (kR (kF st pr9) (rows + 1) bl2 b2)) := by
  refine Sp.of (by decide) (Nat.le_of_ble_eq_true rfl) (fun X O T => ?_)
  refine v_eq (lv' := [(0, .ref ro), (1, .int (nI len))]) rfl rfl rfl rfl ?_
  refine v_aload_n O dX4_keep_0 0 rfl ?_
  refine v_dup O dX4_keep_1 rfl ?_
  refine gf_X4_35 O rfl dX4_keep_2 0 rfl rfl ?_
  refine v_iconst (v := 1) O dX4_keep_5 (by decide) ?_
  refine v_iadd O dX4_keep_6 ?_
  refine v_top (y := nI (rows + 1)) (nI_add rows 1) ?_
  refine pf_X4_35 (fs' := [.ref wk, .ref ua, .ref ba, .int bl, .int (nI men), .int (nI dw), .int (nI (rows + 1))]) (ws' := [(ro, .inr (4, [.ref wk, .ref ua, .ref ba, .int bl, .int (nI men), .int (nI dw), .int (nI (rows + 1))])), (ua, eI D 6 (nF u)), (ba, eI D 6 (nF b))]) O rfl dX4_keep_7 0 rfl (Nat.le_of_ble_eq_true rfl) rfl rfl ?_
  refine v_aload_n O dX4_keep_10 0 rfl ?_
  refine gf_X4_25 O rfl dX4_keep_11 0 rfl rfl ?_
  refine v_if_lt O 26 dX4_keep_14 (by decide) (fun z1 => ?_) (fun z1 => ?_)
  · skip
    refine v_aload_n O dX4_keep_26 0 rfl ?_
    refine v_iload_n O dX4_keep_27 1 rfl ?_
    refine pf_X4_25 (fs' := [.ref wk, .ref ua, .ref ba, .int (nI len), .int (nI men), .int (nI dw), .int (nI (rows + 1))]) (ws' := [(ro, .inr (4, [.ref wk, .ref ua, .ref ba, .int (nI len), .int (nI men), .int (nI dw), .int (nI (rows + 1))])), (ua, eI D 6 (nF u)), (ba, eI D 6 (nF b))]) O rfl dX4_keep_28 0 rfl (Nat.le_of_ble_eq_true rfl) rfl rfl ?_
    refine v_aload_n O dX4_keep_31 0 rfl ?_
    refine gf_X4_18 O rfl dX4_keep_32 0 rfl rfl ?_
    refine v_iconst (v := 0) O dX4_keep_35 (by decide) ?_
    refine v_aload_n O dX4_keep_36 0 rfl ?_
    refine gf_X4_22 O rfl dX4_keep_37 0 rfl rfl ?_
    refine v_iconst (v := 0) O dX4_keep_40 (by decide) ?_
    refine v_bipush (v := 6) O dX4_keep_41 (by decide) ?_
    refine v_copyI (ws' := [(ro, .inr (4, [.ref wk, .ref ua, .ref ba, .int (nI len), .int (nI men), .int (nI dw), .int (nI (rows + 1))])), (ua, eI D 6 (nF u)), (ba, eI D 6 (va_cpy (nF u) (nF b) 0 0 6))]) O ⟨tw_753, tw_755, tw_754, tw_93⟩ dX4_keep_43 1 2 rfl rfl (by decide) (by decide) (by decide) (by decide) (by decide) (by decide) (Nat.le_of_ble_eq_true rfl) (rfl) ?_
    refine v_congI (g := nF u) (ws' := [(ro, .inr (4, [.ref wk, .ref ua, .ref ba, .int (nI len), .int (nI men), .int (nI dw), .int (nI (rows + 1))])), (ua, eI D 6 (nF u)), (ba, eI D 6 (nF u))]) 2 rfl (fun j hj => va_cpy6 hj) rfl ?_
    exact v_return O T rfl (by decide) (by decide) dX4_keep_46 (⟨_, _, rfl, rfl, by subst hpl; exact kR_less hst hl6 hu (Or.inl z1)⟩)
  · skip
    refine v_aload_n O dX4_keep_17 0 rfl ?_
    refine gf_X4_25 O rfl dX4_keep_18 0 rfl rfl ?_
    refine v_iload_n O dX4_keep_21 1 rfl ?_
    refine v_icmp_gt O 26 dX4_keep_22 (by decide) (fun z2 => ?_) (fun z2 => ?_)
    · skip
      refine v_aload_n O dX4_keep_26 0 rfl ?_
      refine v_iload_n O dX4_keep_27 1 rfl ?_
      refine pf_X4_25 (fs' := [.ref wk, .ref ua, .ref ba, .int (nI len), .int (nI men), .int (nI dw), .int (nI (rows + 1))]) (ws' := [(ro, .inr (4, [.ref wk, .ref ua, .ref ba, .int (nI len), .int (nI men), .int (nI dw), .int (nI (rows + 1))])), (ua, eI D 6 (nF u)), (ba, eI D 6 (nF b))]) O rfl dX4_keep_28 0 rfl (Nat.le_of_ble_eq_true rfl) rfl rfl ?_
      refine v_aload_n O dX4_keep_31 0 rfl ?_
      refine gf_X4_18 O rfl dX4_keep_32 0 rfl rfl ?_
      refine v_iconst (v := 0) O dX4_keep_35 (by decide) ?_
      refine v_aload_n O dX4_keep_36 0 rfl ?_
      refine gf_X4_22 O rfl dX4_keep_37 0 rfl rfl ?_
      refine v_iconst (v := 0) O dX4_keep_40 (by decide) ?_
      refine v_bipush (v := 6) O dX4_keep_41 (by decide) ?_
      refine v_copyI (ws' := [(ro, .inr (4, [.ref wk, .ref ua, .ref ba, .int (nI len), .int (nI men), .int (nI dw), .int (nI (rows + 1))])), (ua, eI D 6 (nF u)), (ba, eI D 6 (va_cpy (nF u) (nF b) 0 0 6))]) O ⟨tw_753, tw_755, tw_754, tw_93⟩ dX4_keep_43 1 2 rfl rfl (by decide) (by decide) (by decide) (by decide) (by decide) (by decide) (Nat.le_of_ble_eq_true rfl) (rfl) ?_
      refine v_congI (g := nF u) (ws' := [(ro, .inr (4, [.ref wk, .ref ua, .ref ba, .int (nI len), .int (nI men), .int (nI dw), .int (nI (rows + 1))])), (ua, eI D 6 (nF u)), (ba, eI D 6 (nF u))]) 2 rfl (fun j hj => va_cpy6 hj) rfl ?_
      exact v_return O T rfl (by decide) (by decide) dX4_keep_46 (⟨_, _, rfl, rfl, by subst hpl; exact kR_less hst hl6 hu (Or.inr z2)⟩)
    · skip
      exact v_return O T rfl (by decide) (by decide) dX4_keep_25 (⟨_, _, rfl, rfl, by subst hpl; exact kR_more hst hl6 z1 z2⟩)
set_option maxRecDepth 100000 in
set_option maxHeartbeats 4000000 in
theorem sp_X4_manAt {D : G} {ro : Nat} {ua : Nat} {ba : Nat} {men : Nat} {dw : Nat} {wk : Nat} {u : Nat → Nat} {b : Nat → Nat} {rows : Nat} {bl : Int32} {st : Nat × Option (List Nat)} {k : Nat} (hst : kR st rows bl b) (hk : k < 6) : Sp D mX4_manAt 0 0 0 [.ref ro, .int (nI k)] [(ro, .inr (4, [.ref wk, .ref ua, .ref ba, .int bl, .int (nI men), .int (nI dw), .int (nI rows)])), (ba, eI D 6 (nF b))] (fun r w => r = some (.int (kAt st.2 k)) ∧ w = [(ro, .inr (4, [.ref wk, .ref ua, .ref ba, .int bl, .int (nI men), .int (nI dw), .int (nI rows)])), (ba, eI D 6 (nF b))]) := by
  refine Sp.of (by decide) (Nat.le_of_ble_eq_true rfl) (fun X O T => ?_)
  refine v_eq (lv' := [(0, .ref ro), (1, .int (nI k))]) rfl rfl rfl rfl ?_
  refine v_iload_n O dX4_manAt_0 1 rfl ?_
  refine v_if_lt O 27 dX4_manAt_1 (by decide) (fun c_1 => ?_) (fun c_1 => ?_)
  · skip
    have c_1 := (c_lt (x := nI k) (y := 0) (a := k) (b := 0) rfl rfl (by omega) (by omega)).mp c_1
    exact absurd c_1 (by omega)
  · skip
    have c_1 := (not_congr (c_lt (x := nI k) (y := 0) (a := k) (b := 0) rfl rfl (by omega) (by omega))).mp c_1
    refine v_iload_n O dX4_manAt_4 1 rfl ?_
    refine v_aload_n O dX4_manAt_5 0 rfl ?_
    refine gf_X4_25 O rfl dX4_manAt_6 0 rfl rfl ?_
    refine v_icmp_ge O 27 dX4_manAt_9 (by decide) (fun z2 => ?_) (fun z2 => ?_)
    · skip
      have z2 : ¬ nI k < bl := Int32.not_lt.mpr z2
      refine v_bipush (v := -5) O dX4_manAt_27 (by decide) ?_
      exact v_ireturn O T rfl rfl (by decide) (by decide) dX4_manAt_29 (⟨by first | rw [kA_out hst hk z2] | exact absurd hk (by omega), rfl⟩)
    · skip
      have z2 : nI k < bl := Int32.not_le.mp z2
      refine v_iload_n O dX4_manAt_12 1 rfl ?_
      refine v_bipush (v := 6) O dX4_manAt_13 (by decide) ?_
      refine v_icmp_ge O 27 dX4_manAt_15 (by decide) (fun z3 => ?_) (fun z3 => ?_)
      · skip
        have z3 := (c_le' (x := nI k) (y := 6) (a := k) (b := 6) rfl rfl (by omega) (by omega)).mp z3
        exact absurd z3 (by omega)
      · skip
        have z3 := (not_congr (c_le' (x := nI k) (y := 6) (a := k) (b := 6) rfl rfl (by omega) (by omega))).mp z3
        refine v_aload_n O dX4_manAt_18 0 rfl ?_
        refine gf_X4_22 O rfl dX4_manAt_19 0 rfl rfl ?_
        refine v_iload_n O dX4_manAt_22 1 rfl ?_
        refine v_ialdk O dX4_manAt_23 1 rfl k rfl (by omega) (by decide) ?_
        refine v_top (y := nI (b k)) rfl ?_
        refine v_goto O 29 dX4_manAt_24 (by decide) ?_
        exact v_ireturn O T rfl rfl (by decide) (by decide) dX4_manAt_29 (⟨by rw [kA_in hst hk z2], rfl⟩)
set_option maxRecDepth 100000 in
set_option maxHeartbeats 4000000 in
theorem sp_X4_follow_0 {D : G} {ro : Nat} {ua : Nat} {ba : Nat} {men : Nat} {dw : Nat} {wk : Nat} {kn : Nat} {vl : Nat} {pt : Nat} {gone : Nat} {fc : Nat} {ovr : Nat} {bkr : Nat} {kk : Nat → Nat} {pp : Nat → Nat} {ov : Nat → Nat} {bk : Nat → Nat} {u : Nat → Nat} {b : Nat → Nat} {rows : Nat} {bl : Int32} {lf : Int32} {dg : Int32} {hd : Int32} {st : Nat × Option (List Nat)} {pr9 : List Nat} {h : Nat} {len : Nat} {a : Nat} (hlen : len + 0 = men) (hmen : men ≤ 6) (hh : h < 1000000) (hdw : dw < 1000000) (ha : a < 64) (hk : ∀ m, m < 6 → kk m < 7) (hp : ∀ m, 2 ≤ pp m) (hp2 : ∀ m, m < 6 → pp m ≤ 99) (ho : ∀ m, m < men → ∀ s, s < men → ∀ d, d < 10 → ov (slotN m s d) < 1000) (hb : ∀ m, m < men → ∀ s, s < men → ∀ d, d < 10 → bk (slotN m s d) < 1000) (hst : kR st rows bl b) (hpl : pr9.length = len) (hu : ∀ j, j < len → u j = pr9.getD j 0) : Sp D mX4_follow 4 0 0 [.ref ro, .int (nI h), .int (nI len), .int (nI a)] [(ro, .inr (4, [.ref wk, .ref ua, .ref ba, .int bl, .int (nI men), .int (nI dw), .int (nI rows)])), (ua, eI D 6 (nF u)), (ba, eI D 6 (nF b)), (wk, .inr (8, [.ref kn, .ref vl, .ref pt, .int (nI gone), .ref fc, .ref ovr, .ref bkr, .int lf, .int dg, .int hd])), (kn, eI D 6 (nF kk)), (pt, eI D 6 (nF pp)), (ovr, eI D 480 (nF ov)), (bkr, eI D 480 (nF bk))] (fun r w => ∃ u2 : Nat → Nat, ∃ b2 : Nat → Nat, ∃ rows2 : Nat, ∃ bl2 : Int32, ∃ l2 : Int32, ∃ g2 : Int32, ∃ d2 : Int32, r = none ∧ w = [(ro, .inr (4, [.ref wk, .ref ua, .ref ba, .int bl2, .int (nI men), .int (nI dw), .int (nI rows2)])), (ua, eI D 6 (nF u2)), (ba, eI D 6 (nF b2)), (wk, .inr (8, [.ref kn, .ref vl, .ref pt, .int (nI gone), .ref fc, .ref ovr, .ref bkr, .int l2, .int g2, .int d2])), (kn, eI D 6 (nF kk)), (pt, eI D 6 (nF pp)), (ovr, eI D 480 (nF ov)), (bkr, eI D 480 (nF bk))] ∧ (∀ j, j < len → u2 j = pr9.getD j 0) ∧ (kR (List.foldl kF st ((dfsK (rE kk pp ov bk) men dw 0 h len a).map (fun zr => pr9 ++ zr))) rows2 bl2 b2)) := by
  refine Sp.of (by decide) (Nat.le_of_ble_eq_true rfl) (fun X O T => ?_)
  refine v_eq (lv' := [(0, .ref ro), (1, .int (nI h)), (2, .int (nI len)), (3, .int (nI a))]) rfl rfl rfl rfl ?_
  refine v_iload_n O dX4_follow_0 1 rfl ?_
  refine v_aload_n O dX4_follow_1 0 rfl ?_
  refine gf_X4_32 O rfl dX4_follow_2 0 rfl rfl ?_
  refine v_icmp_ne O 13 dX4_follow_5 (by decide) (fun z1 => ?_) (fun z1 => ?_)
  · skip
    have z1 := (not_congr (c_eq (x := nI h) (y := nI dw) (a := h) (b := dw) rfl rfl (by omega) (by omega))).mp z1
    refine v_iload_n O dX4_follow_13 2 rfl ?_
    refine v_if_lt O 25 dX4_follow_14 (by decide) (fun c_1 => ?_) (fun c_1 => ?_)
    · skip
      have c_1 := (c_lt (x := nI len) (y := 0) (a := len) (b := 0) rfl rfl (by omega) (by omega)).mp c_1
      exact absurd c_1 (by omega)
    · skip
      have c_1 := (not_congr (c_lt (x := nI len) (y := 0) (a := len) (b := 0) rfl rfl (by omega) (by omega))).mp c_1
      refine v_iload_n O dX4_follow_17 2 rfl ?_
      refine v_aload_n O dX4_follow_18 0 rfl ?_
      refine gf_X4_29 O rfl dX4_follow_19 0 rfl rfl ?_
      refine v_icmp_lt O 26 dX4_follow_22 (by decide) (fun z3 => ?_) (fun z3 => ?_)
      · skip
        have z3 := (c_lt (x := nI len) (y := nI men) (a := len) (b := men) rfl rfl (by omega) (by omega)).mp z3
        exact absurd z3 (by omega)
      · skip
        have z3 := (not_congr (c_lt (x := nI len) (y := nI men) (a := len) (b := men) rfl rfl (by omega) (by omega))).mp z3
        exact v_return O T rfl (by decide) (by decide) dX4_follow_25 (⟨_, _, _, _, _, _, _, rfl, rfl, hu, by unfold dfsK; rw [if_neg z1]; simpa using hst⟩)
  · skip
    have z1 := (c_eq (x := nI h) (y := nI dw) (a := h) (b := dw) rfl rfl (by omega) (by omega)).mp z1
    refine v_aload_n O dX4_follow_8 0 rfl ?_
    refine v_iload_n O dX4_follow_9 2 rfl ?_
    refine v_cV (T := TX4) (ci := 4) (As := [.int (nI len)]) (wr := [(wk, .inr (8, [.ref kn, .ref vl, .ref pt, .int (nI gone), .ref fc, .ref ovr, .ref bkr, .int lf, .int dg, .int hd])), (kn, eI D 6 (nF kk)), (pt, eI D 6 (nF pp)), (ovr, eI D 480 (nF ov)), (bkr, eI D 480 (nF bk))]) (st := []) O cf_X4_59 rfl (sp_X4_keep (ro := ro) (ua := ua) (ba := ba) (men := men) (dw := dw) (wk := wk) (u := u) (b := b) (rows := rows) (bl := bl) (st := st) (pr9 := pr9) (len := len) (hst) (by omega) (hpl) (hu)) dX4_follow_10 rfl rfl 0 rfl [0, 1, 2] [3, 4, 5, 6, 7] (by decide) rfl rfl (by decide) (by decide) (by decide) (Nat.le_of_ble_eq_true rfl) (by decide) (by decide) (fun r_3 w_4 h_2 => ?_)
    obtain ⟨bl2_5, b2_6, rfl, rfl, h_k⟩ := h_2
    refine v_eq (st' := []) (ws' := [(wk, .inr (8, [.ref kn, .ref vl, .ref pt, .int (nI gone), .ref fc, .ref ovr, .ref bkr, .int lf, .int dg, .int hd])), (kn, eI D 6 (nF kk)), (pt, eI D 6 (nF pp)), (ovr, eI D 480 (nF ov)), (bkr, eI D 480 (nF bk)), (ro, .inr (4, [.ref wk, .ref ua, .ref ba, .int bl2_5, .int (nI men), .int (nI dw), .int (nI (rows + 1))])), (ua, eI D 6 (nF u)), (ba, eI D 6 (nF b2_6))]) rfl rfl rfl rfl ?_
    refine v_iload_n O dX4_follow_13 2 rfl ?_
    refine v_if_lt O 25 dX4_follow_14 (by decide) (fun c_7 => ?_) (fun c_7 => ?_)
    · skip
      have c_7 := (c_lt (x := nI len) (y := 0) (a := len) (b := 0) rfl rfl (by omega) (by omega)).mp c_7
      exact absurd c_7 (by omega)
    · skip
      have c_7 := (not_congr (c_lt (x := nI len) (y := 0) (a := len) (b := 0) rfl rfl (by omega) (by omega))).mp c_7
      refine v_iload_n O dX4_follow_17 2 rfl ?_
      refine v_aload_n O dX4_follow_18 0 rfl ?_
      refine gf_X4_29 O rfl dX4_follow_19 5 rfl rfl ?_
      refine v_icmp_lt O 26 dX4_follow_22 (by decide) (fun z3 => ?_) (fun z3 => ?_)
      · skip
        have z3 := (c_lt (x := nI len) (y := nI men) (a := len) (b := men) rfl rfl (by omega) (by omega)).mp z3
        exact absurd z3 (by omega)
      · skip
        have z3 := (not_congr (c_lt (x := nI len) (y := nI men) (a := len) (b := men) rfl rfl (by omega) (by omega))).mp z3
        refine v_sub (ws' := [(ro, .inr (4, [.ref wk, .ref ua, .ref ba, .int bl2_5, .int (nI men), .int (nI dw), .int (nI (rows + 1))])), (ua, eI D 6 (nF u)), (ba, eI D 6 (nF b2_6)), (wk, .inr (8, [.ref kn, .ref vl, .ref pt, .int (nI gone), .ref fc, .ref ovr, .ref bkr, .int lf, .int dg, .int hd])), (kn, eI D 6 (nF kk)), (pt, eI D 6 (nF pp)), (ovr, eI D 480 (nF ov)), (bkr, eI D 480 (nF bk))]) [5, 6, 7, 0, 1, 2, 3, 4] (by decide) rfl ?_
        exact v_return O T rfl (by decide) (by decide) dX4_follow_25 (⟨_, _, _, _, _, _, _, rfl, rfl, hu, by unfold dfsK; rw [if_pos z1]; simpa using h_k⟩)
theorem roUp {u : Nat → Nat} {r : List Nat} {len m : Nat} (hpl : r.length = len) (hu : ∀ j, j < len → u j = r.getD j 0) : ∀ j, j < len + 1 → uN u len m j = (r ++ [m]).getD j 0 := fun j hj => by
  by_cases z8 : j = len
  · rw [z8, uN_s, ← hpl]; exact getD_nw.symm
  · rw [uN_n z8, getD_ap (by omega)]; exact hu j (by omega)
set_option maxRecDepth 100000 in
set_option maxHeartbeats 4000000 in
theorem sp_X4_wakeNext_0 {D : G} {ro : Nat} {ua : Nat} {ba : Nat} {men : Nat} {dw : Nat} {wk : Nat} {kn : Nat} {vl : Nat} {pt : Nat} {gone : Nat} {fc : Nat} {ovr : Nat} {bkr : Nat} {kk : Nat → Nat} {pp : Nat → Nat} {ov : Nat → Nat} {bk : Nat → Nat} {u : Nat → Nat} {b : Nat → Nat} {rows : Nat} {bl : Int32} {lf : Int32} {dg : Int32} {hd : Int32} {st : Nat × Option (List Nat)} {pr9 : List Nat} {h : Nat} {len : Nat} {a : Nat} {m : Nat} (hlen : len + 1 = men) (hmen : men ≤ 6) (hh : h < 1000000) (hdw : dw < 1000000) (ha : a < 64) (hk : ∀ m, m < 6 → kk m < 7) (hp : ∀ m, 2 ≤ pp m) (hp2 : ∀ m, m < 6 → pp m ≤ 99) (ho : ∀ m, m < men → ∀ s, s < men → ∀ d, d < 10 → ov (slotN m s d) < 1000) (hb : ∀ m, m < men → ∀ s, s < men → ∀ d, d < 10 → bk (slotN m s d) < 1000) (hst : kR st rows bl b) (hpl : pr9.length = len) (hu : ∀ j, j < len → u j = pr9.getD j 0) (hm : m < men) : Sp D mX4_wakeNext 5 0 0 [.ref ro, .int (nI m), .int (nI h), .int (nI len), .int (nI a)] [(ro, .inr (4, [.ref wk, .ref ua, .ref ba, .int bl, .int (nI men), .int (nI dw), .int (nI rows)])), (ua, eI D 6 (nF u)), (ba, eI D 6 (nF b)), (wk, .inr (8, [.ref kn, .ref vl, .ref pt, .int (nI gone), .ref fc, .ref ovr, .ref bkr, .int lf, .int dg, .int hd])), (kn, eI D 6 (nF kk)), (pt, eI D 6 (nF pp)), (ovr, eI D 480 (nF ov)), (bkr, eI D 480 (nF bk))] (fun r w => ∃ u2 : Nat → Nat, ∃ b2 : Nat → Nat, ∃ rows2 : Nat, ∃ bl2 : Int32, ∃ l2 : Int32, ∃ g2 : Int32, ∃ d2 : Int32, r = none ∧ w = [(ro, .inr (4, [.ref wk, .ref ua, .ref ba, .int bl2, .int (nI men), .int (nI dw), .int (nI rows2)])), (ua, eI D 6 (nF u2)), (ba, eI D 6 (nF b2)), (wk, .inr (8, [.ref kn, .ref vl, .ref pt, .int (nI gone), .ref fc, .ref ovr, .ref bkr, .int l2, .int g2, .int d2])), (kn, eI D 6 (nF kk)), (pt, eI D 6 (nF pp)), (ovr, eI D 480 (nF ov)), (bkr, eI D 480 (nF bk))] ∧ (∀ j, j < len → u2 j = pr9.getD j 0) ∧ (kR (List.foldl kF st ((gK (rE kk pp ov bk) men dw 0 h len a m).map (fun zr => pr9 ++ zr))) rows2 bl2 b2)) := by
  refine Sp.of (by decide) (Nat.le_of_ble_eq_true rfl) (fun X O T => ?_)
  refine v_eq (lv' := [(0, .ref ro), (1, .int (nI m)), (2, .int (nI h)), (3, .int (nI len)), (4, .int (nI a))]) rfl rfl rfl rfl ?_
  refine v_iload O dX4_wakeNext_0 4 rfl ?_
  refine v_iload_n O dX4_wakeNext_2 1 rfl ?_
  refine v_ishr O dX4_wakeNext_3 ?_
  refine v_iconst (v := 1) O dX4_wakeNext_4 (by decide) ?_
  refine v_iand O dX4_wakeNext_5 ?_
  refine v_top (y := nI (a / 2 ^ m % 2)) (bitS ha (by omega)) ?_
  refine v_if_ne O 13 dX4_wakeNext_6 (by decide) (fun z1 => ?_) (fun z1 => ?_)
  · skip
    have z1 := (not_congr (c_eq (x := nI (a / 2 ^ m % 2)) (y := 0) (a := a / 2 ^ m % 2) (b := 0) rfl rfl (by omega) (by omega))).mp z1
    refine v_iconst (v := 0) O dX4_wakeNext_13 (by decide) ?_
    refine v_istore (lv' := [(0, .ref ro), (1, .int (nI m)), (2, .int (nI h)), (3, .int (nI len)), (4, .int (nI a)), (5, .int 0)]) O dX4_wakeNext_14 (by decide) rfl ?_
    refine v_iload O dX4_wakeNext_16 5 rfl ?_
    refine v_if_eq O 71 dX4_wakeNext_18 (by decide) (fun _ => ?_) (fun c => absurd c (by decide))
    exact v_return O T rfl (by decide) (by decide) dX4_wakeNext_71 (⟨_, _, _, _, _, _, _, rfl, rfl, hu, by rw [gK_a z1]; exact hst⟩)
  · skip
    have z1 := (c_eq (x := nI (a / 2 ^ m % 2)) (y := 0) (a := a / 2 ^ m % 2) (b := 0) rfl rfl (by omega) (by omega)).mp z1
    refine v_iconst (v := 1) O dX4_wakeNext_9 (by decide) ?_
    refine v_goto O 14 dX4_wakeNext_10 (by decide) ?_
    refine v_istore (lv' := [(0, .ref ro), (1, .int (nI m)), (2, .int (nI h)), (3, .int (nI len)), (4, .int (nI a)), (5, .int 1)]) O dX4_wakeNext_14 (by decide) rfl ?_
    refine v_iload O dX4_wakeNext_16 5 rfl ?_
    refine v_if_eq O 71 dX4_wakeNext_18 (by decide) (fun c => absurd c (by decide)) (fun _ => ?_)
    refine v_iload_n O dX4_wakeNext_21 3 rfl ?_
    refine v_if_lt O 71 dX4_wakeNext_22 (by decide) (fun c_3 => ?_) (fun c_3 => ?_)
    · skip
      have c_3 := (c_lt (x := nI len) (y := 0) (a := len) (b := 0) rfl rfl (by omega) (by omega)).mp c_3
      exact absurd c_3 (by omega)
    · skip
      have c_3 := (not_congr (c_lt (x := nI len) (y := 0) (a := len) (b := 0) rfl rfl (by omega) (by omega))).mp c_3
      refine v_iload_n O dX4_wakeNext_25 3 rfl ?_
      refine v_bipush (v := 6) O dX4_wakeNext_26 (by decide) ?_
      refine v_icmp_ge O 71 dX4_wakeNext_28 (by decide) (fun z2 => ?_) (fun z2 => ?_)
      · skip
        have z2 := (c_le' (x := nI len) (y := 6) (a := len) (b := 6) rfl rfl (by omega) (by omega)).mp z2
        exact absurd z2 (by omega)
      · skip
        have z2 := (not_congr (c_le' (x := nI len) (y := 6) (a := len) (b := 6) rfl rfl (by omega) (by omega))).mp z2
        refine v_aload_n O dX4_wakeNext_31 0 rfl ?_
        refine gf_X4_12 O rfl dX4_wakeNext_32 0 rfl rfl ?_
        refine v_iload_n O dX4_wakeNext_35 1 rfl ?_
        refine v_iload_n O dX4_wakeNext_36 3 rfl ?_
        refine v_iload_n O dX4_wakeNext_37 2 rfl ?_
        refine v_cV (T := TX8) (ci := 8) (As := [.int (nI m), .int (nI len), .int (nI h)]) (wr := [(ro, .inr (4, [.ref wk, .ref ua, .ref ba, .int bl, .int (nI men), .int (nI dw), .int (nI rows)])), (ua, eI D 6 (nF u)), (ba, eI D 6 (nF b))]) (st := []) O cf_X4_67 rfl (sp_X8_comesOut (wk := wk) (kn := kn) (vl := vl) (pt := pt) (gone := gone) (fc := fc) (ovr := ovr) (bkr := bkr) (lf := lf) (dg := dg) (hd := hd) (kk := kk) (pp := pp) (ov := ov) (bk := bk) (m := m) (s := len) (h := h) (by omega) (by omega) (hh) (hk m (by omega)) (hp m) (hp2 m (by omega)) (ho m hm len (by omega)) (hb m hm len (by omega))) dX4_wakeNext_38 rfl rfl 3 rfl [3, 4, 5, 6, 7] [0, 1, 2] (by decide) rfl rfl (by decide) (by decide) (by decide) (Nat.le_of_ble_eq_true rfl) (by decide) (by decide) (fun r_5 w_6 h_4 => ?_)
        obtain ⟨rfl, rfl⟩ := h_4
        refine v_eq (st' := [.int (b2i (¬ wakeN (kk m) (pp m) (fun zd => ov (slotN m len zd)) (fun zd => bk (slotN m len zd)) h = none))]) (ws' := [(ro, .inr (4, [.ref wk, .ref ua, .ref ba, .int bl, .int (nI men), .int (nI dw), .int (nI rows)])), (ua, eI D 6 (nF u)), (ba, eI D 6 (nF b)), (wk, .inr (8, [.ref kn, .ref vl, .ref pt, .int (nI gone), .ref fc, .ref ovr, .ref bkr, .int (nI (oL (wakeN (kk m) (pp m) (fun zd => ov (slotN m len zd)) (fun zd => bk (slotN m len zd)) h) h)), .int (nI (oG (wakeN (kk m) (pp m) (fun zd => ov (slotN m len zd)) (fun zd => bk (slotN m len zd)) h) 0)), .int (nI (oD (wakeN (kk m) (pp m) (fun zd => ov (slotN m len zd)) (fun zd => bk (slotN m len zd)) h) 0))])), (kn, eI D 6 (nF kk)), (pt, eI D 6 (nF pp)), (ovr, eI D 480 (nF ov)), (bkr, eI D 480 (nF bk))]) rfl rfl rfl rfl ?_
        refine v_if_eq O 71 dX4_wakeNext_41 (by decide) (fun z3 => ?_) (fun z3 => ?_)
        · skip
          have z3 := b2i_0.mp z3
          have z3 : rE kk pp ov bk m len h = none := Classical.not_not.mp z3
          exact v_return O T rfl (by decide) (by decide) dX4_wakeNext_71 (⟨_, _, _, _, _, _, _, rfl, rfl, hu, by rw [gK_n z3]; exact hst⟩)
        · skip
          have z3 := b2i_1.mp z3
          have z3 : ¬ rE kk pp ov bk m len h = none := z3
          have z_hl : oL (wakeN (kk m) (pp m) (fun zd => ov (slotN m len zd)) (fun zd => bk (slotN m len zd)) h) h ≤ h := oL_lew (hp m)
          refine v_aload_n O dX4_wakeNext_44 0 rfl ?_
          refine gf_X4_18 O rfl dX4_wakeNext_45 0 rfl rfl ?_
          refine v_iload_n O dX4_wakeNext_48 3 rfl ?_
          refine v_iload_n O dX4_wakeNext_49 1 rfl ?_
          refine v_iastk (ws' := [(ro, .inr (4, [.ref wk, .ref ua, .ref ba, .int bl, .int (nI men), .int (nI dw), .int (nI rows)])), (ua, eI D 6 (nF (uN u len m))), (ba, eI D 6 (nF b)), (wk, .inr (8, [.ref kn, .ref vl, .ref pt, .int (nI gone), .ref fc, .ref ovr, .ref bkr, .int (nI (oL (wakeN (kk m) (pp m) (fun zd => ov (slotN m len zd)) (fun zd => bk (slotN m len zd)) h) h)), .int (nI (oG (wakeN (kk m) (pp m) (fun zd => ov (slotN m len zd)) (fun zd => bk (slotN m len zd)) h) 0)), .int (nI (oD (wakeN (kk m) (pp m) (fun zd => ov (slotN m len zd)) (fun zd => bk (slotN m len zd)) h) 0))])), (kn, eI D 6 (nF kk)), (pt, eI D 6 (nF pp)), (ovr, eI D 480 (nF ov)), (bkr, eI D 480 (nF bk))]) O dX4_wakeNext_50 1 rfl len (rfl) (by omega) (by decide) (by rw [upd_nF]; rfl) ?_
          refine v_aload_n O dX4_wakeNext_51 0 rfl ?_
          refine v_aload_n O dX4_wakeNext_52 0 rfl ?_
          refine gf_X4_12 O rfl dX4_wakeNext_53 0 rfl rfl ?_
          refine gf_X4_71 O rfl dX4_wakeNext_56 3 rfl rfl ?_
          refine v_iload_n O dX4_wakeNext_59 3 rfl ?_
          refine v_iconst (v := 1) O dX4_wakeNext_60 (by decide) ?_
          refine v_iadd O dX4_wakeNext_61 ?_
          refine v_top (y := nI (len + 1)) (nI_add len 1) ?_
          refine v_iload O dX4_wakeNext_62 4 rfl ?_
          refine v_iconst (v := 1) O dX4_wakeNext_64 (by decide) ?_
          refine v_iload_n O dX4_wakeNext_65 1 rfl ?_
          refine v_ishl O dX4_wakeNext_66 ?_
          refine v_ior O dX4_wakeNext_67 ?_
          refine v_top (y := nI (a + 2 ^ m)) (bitO ha (by omega) z1) ?_
          refine v_cV (T := TX4) (ci := 4) (As := [.int (nI (oL (wakeN (kk m) (pp m) (fun zd => ov (slotN m len zd)) (fun zd => bk (slotN m len zd)) h) h)), .int (nI (len + 1)), .int (nI (a + 2 ^ m))]) (wr := []) (st := []) O cf_X4_55 rfl (sp_X4_follow_0 (ro := ro) (ua := ua) (ba := ba) (men := men) (dw := dw) (wk := wk) (kn := kn) (vl := vl) (pt := pt) (gone := gone) (fc := fc) (ovr := ovr) (bkr := bkr) (kk := kk) (pp := pp) (ov := ov) (bk := bk) (u := (uN u len m)) (b := b) (rows := rows) (bl := bl) (lf := (nI (oL (wakeN (kk m) (pp m) (fun zd => ov (slotN m len zd)) (fun zd => bk (slotN m len zd)) h) h))) (dg := (nI (oG (wakeN (kk m) (pp m) (fun zd => ov (slotN m len zd)) (fun zd => bk (slotN m len zd)) h) 0))) (hd := (nI (oD (wakeN (kk m) (pp m) (fun zd => ov (slotN m len zd)) (fun zd => bk (slotN m len zd)) h) 0))) (st := st) (pr9 := (pr9 ++ [m])) (h := (oL (wakeN (kk m) (pp m) (fun zd => ov (slotN m len zd)) (fun zd => bk (slotN m len zd)) h) h)) (len := (len + 1)) (a := (a + 2 ^ m)) (by omega) (hmen) (by omega) (hdw) (bitL ha (by omega) z1) (hk) (hp) (hp2) (ho) (hb) (hst) (by simp; omega) (roUp hpl hu)) dX4_wakeNext_68 rfl rfl 0 rfl [0, 1, 2, 3, 4, 5, 6, 7] [] (by decide) rfl rfl (by decide) (by decide) (by decide) (Nat.le_of_ble_eq_true rfl) (by decide) (by decide) (fun r_8 w_9 h_7 => ?_)
          obtain ⟨u2_10, b2_11, rows2_12, bl2_13, l2_14, g2_15, d2_16, rfl, rfl, h_u, h_s⟩ := h_7
          refine v_eq (st' := []) (ws' := [(ro, .inr (4, [.ref wk, .ref ua, .ref ba, .int bl2_13, .int (nI men), .int (nI dw), .int (nI rows2_12)])), (ua, eI D 6 (nF u2_10)), (ba, eI D 6 (nF b2_11)), (wk, .inr (8, [.ref kn, .ref vl, .ref pt, .int (nI gone), .ref fc, .ref ovr, .ref bkr, .int l2_14, .int g2_15, .int d2_16])), (kn, eI D 6 (nF kk)), (pt, eI D 6 (nF pp)), (ovr, eI D 480 (nF ov)), (bkr, eI D 480 (nF bk))]) rfl rfl rfl rfl ?_
          exact v_return O T rfl (by decide) (by decide) dX4_wakeNext_71 (⟨_, _, _, _, _, _, _, rfl, rfl, (fun j hj => by rw [h_u j (by omega)]; exact getD_ap (by omega)), by rw [gK_s z1 z3, map_pre]; exact h_s⟩)
set_option maxRecDepth 100000 in
set_option maxHeartbeats 4000000 in
theorem l_X4_follow_1 {D : G} {X : CX} {ro : Nat} {ua : Nat} {ba : Nat} {men : Nat} {dw : Nat} {wk : Nat} {kn : Nat} {vl : Nat} {pt : Nat} {gone : Nat} {fc : Nat} {ovr : Nat} {bkr : Nat} {kk : Nat → Nat} {pp : Nat → Nat} {ov : Nat → Nat} {bk : Nat → Nat} {st : Nat × Option (List Nat)} {pr9 : List Nat} {h : Nat} {len : Nat} {a : Nat} (O : Ok D X mX4_follow 6 0 0) (hlen : len + 1 = men) (hmen : men ≤ 6) (hh : h < 1000000) (hdw : dw < 1000000) (ha : a < 64) (hk : ∀ m, m < 6 → kk m < 7) (hp : ∀ m, 2 ≤ pp m) (hp2 : ∀ m, m < 6 → pp m ≤ 99) (ho : ∀ m, m < men → ∀ s, s < men → ∀ d, d < 10 → ov (slotN m s d) < 1000) (hb : ∀ m, m < men → ∀ s, s < men → ∀ d, d < 10 → bk (slotN m s d) < 1000) (hpl : pr9.length = len) (T : Rt D X (fun r w => ∃ u2 : Nat → Nat, ∃ b2 : Nat → Nat, ∃ rows2 : Nat, ∃ bl2 : Int32, ∃ l2 : Int32, ∃ g2 : Int32, ∃ d2 : Int32, r = none ∧ w = [(ro, .inr (4, [.ref wk, .ref ua, .ref ba, .int bl2, .int (nI men), .int (nI dw), .int (nI rows2)])), (ua, eI D 6 (nF u2)), (ba, eI D 6 (nF b2)), (wk, .inr (8, [.ref kn, .ref vl, .ref pt, .int (nI gone), .ref fc, .ref ovr, .ref bkr, .int l2, .int g2, .int d2])), (kn, eI D 6 (nF kk)), (pt, eI D 6 (nF pp)), (ovr, eI D 480 (nF ov)), (bkr, eI D 480 (nF bk))] ∧ (∀ j, j < len → u2 j = pr9.getD j 0) ∧ (kR (List.foldl kF st ((dfsK (rE kk pp ov bk) men dw 1 h len a).map (fun zr => pr9 ++ zr))) rows2 bl2 b2)) 0 0) : ∀ (t i : Nat), i + t = men → ∀ (u b : Nat → Nat) (rows : Nat) (bl lf dg hd : Int32), (∀ j, j < len → u j = pr9.getD j 0) → kR (List.foldl kF st (((if h = dw then [[]] else []) ++ catN (gK (rE kk pp ov bk) men dw 0 h len a) i).map (fun zr => pr9 ++ zr))) rows bl b → V D X 0 0 29 [(0, .ref ro), (1, .int (nI h)), (2, .int (nI len)), (3, .int (nI a)), (4, .int (nI i))] [] [(ro, .inr (4, [.ref wk, .ref ua, .ref ba, .int bl, .int (nI men), .int (nI dw), .int (nI rows)])), (ua, eI D 6 (nF u)), (ba, eI D 6 (nF b)), (wk, .inr (8, [.ref kn, .ref vl, .ref pt, .int (nI gone), .ref fc, .ref ovr, .ref bkr, .int lf, .int dg, .int hd])), (kn, eI D 6 (nF kk)), (pt, eI D 6 (nF pp)), (ovr, eI D 480 (nF ov)), (bkr, eI D 480 (nF bk))] := by
  intro t
  induction t with
  | zero =>
    intro i hi u b rows bl lf dg hd h1 h2
    refine v_iload O dX4_follow_29 4 rfl ?_
    refine v_aload_n O dX4_follow_31 0 rfl ?_
    refine gf_X4_29 O rfl dX4_follow_32 0 rfl rfl ?_
    refine v_icmp_ge O 53 dX4_follow_35 (by decide) (fun z1 => ?_) (fun z1 => ?_)
    · skip
      have z1 := (c_le' (x := nI i) (y := nI men) (a := i) (b := men) rfl rfl (by omega) (by omega)).mp z1
      exact v_return O T rfl (by decide) (by decide) dX4_follow_53 (⟨_, _, _, _, _, _, _, rfl, rfl, h1, by rw [show i = men by omega] at h2; exact h2⟩)
    · skip
      have z1 := (not_congr (c_le' (x := nI i) (y := nI men) (a := i) (b := men) rfl rfl (by omega) (by omega))).mp z1
      exact absurd z1 (by omega)
  | succ t ih =>
    intro i hi u b rows bl lf dg hd h1 h2
    refine v_iload O dX4_follow_29 4 rfl ?_
    refine v_aload_n O dX4_follow_31 0 rfl ?_
    refine gf_X4_29 O rfl dX4_follow_32 0 rfl rfl ?_
    refine v_icmp_ge O 53 dX4_follow_35 (by decide) (fun z1 => ?_) (fun z1 => ?_)
    · skip
      have z1 := (c_le' (x := nI i) (y := nI men) (a := i) (b := men) rfl rfl (by omega) (by omega)).mp z1
      exact absurd z1 (by omega)
    · skip
      have z1 := (not_congr (c_le' (x := nI i) (y := nI men) (a := i) (b := men) rfl rfl (by omega) (by omega))).mp z1
      refine v_aload_n O dX4_follow_38 0 rfl ?_
      refine v_iload O dX4_follow_39 4 rfl ?_
      refine v_iload_n O dX4_follow_41 1 rfl ?_
      refine v_iload_n O dX4_follow_42 2 rfl ?_
      refine v_iload_n O dX4_follow_43 3 rfl ?_
      refine v_cV (T := TX4) (ci := 4) (As := [.int (nI i), .int (nI h), .int (nI len), .int (nI a)]) (wr := []) (st := []) O cf_X4_63 rfl (sp_X4_wakeNext_0 (ro := ro) (ua := ua) (ba := ba) (men := men) (dw := dw) (wk := wk) (kn := kn) (vl := vl) (pt := pt) (gone := gone) (fc := fc) (ovr := ovr) (bkr := bkr) (kk := kk) (pp := pp) (ov := ov) (bk := bk) (u := u) (b := b) (rows := rows) (bl := bl) (lf := lf) (dg := dg) (hd := hd) (st := (List.foldl kF st (((if h = dw then [[]] else []) ++ catN (gK (rE kk pp ov bk) men dw 0 h len a) i).map (fun zr => pr9 ++ zr)))) (pr9 := pr9) (h := h) (len := len) (a := a) (m := i) (by omega) (hmen) (hh) (hdw) (ha) (hk) (hp) (hp2) (ho) (hb) (h2) (hpl) (h1) (by omega)) dX4_follow_44 rfl rfl 0 rfl [0, 1, 2, 3, 4, 5, 6, 7] [] (by decide) rfl rfl (by decide) (by decide) (by decide) (Nat.le_of_ble_eq_true rfl) (by decide) (by decide) (fun r_2 w_3 h_1 => ?_)
      obtain ⟨u2_4, b2_5, rows2_6, bl2_7, l2_8, g2_9, d2_10, rfl, rfl, h_u, h_s⟩ := h_1
      refine v_eq (st' := []) (ws' := [(ro, .inr (4, [.ref wk, .ref ua, .ref ba, .int bl2_7, .int (nI men), .int (nI dw), .int (nI rows2_6)])), (ua, eI D 6 (nF u2_4)), (ba, eI D 6 (nF b2_5)), (wk, .inr (8, [.ref kn, .ref vl, .ref pt, .int (nI gone), .ref fc, .ref ovr, .ref bkr, .int l2_8, .int g2_9, .int d2_10])), (kn, eI D 6 (nF kk)), (pt, eI D 6 (nF pp)), (ovr, eI D 480 (nF ov)), (bkr, eI D 480 (nF bk))]) rfl rfl rfl rfl ?_
      refine v_iinc (v := nI (i + 1)) (lv' := [(0, .ref ro), (1, .int (nI h)), (2, .int (nI len)), (3, .int (nI a)), (4, .int (nI (i + 1)))]) O dX4_follow_47 4 rfl (nI_1 i) (by decide) rfl ?_
      refine v_goto O 29 dX4_follow_50 (by decide) ?_
      exact ih (i + 1) (by omega) _ _ _ _ _ _ _ h_u (by rw [show catN (gK (rE kk pp ov bk) men dw 0 h len a) (i + 1) = catN (gK (rE kk pp ov bk) men dw 0 h len a) i ++ gK (rE kk pp ov bk) men dw 0 h len a i from rfl, ← List.append_assoc, List.map_append, List.foldl_append]; exact h_s)
set_option maxRecDepth 100000 in
set_option maxHeartbeats 4000000 in
theorem sp_X4_follow_1 {D : G} {ro : Nat} {ua : Nat} {ba : Nat} {men : Nat} {dw : Nat} {wk : Nat} {kn : Nat} {vl : Nat} {pt : Nat} {gone : Nat} {fc : Nat} {ovr : Nat} {bkr : Nat} {kk : Nat → Nat} {pp : Nat → Nat} {ov : Nat → Nat} {bk : Nat → Nat} {u : Nat → Nat} {b : Nat → Nat} {rows : Nat} {bl : Int32} {lf : Int32} {dg : Int32} {hd : Int32} {st : Nat × Option (List Nat)} {pr9 : List Nat} {h : Nat} {len : Nat} {a : Nat} (hlen : len + 1 = men) (hmen : men ≤ 6) (hh : h < 1000000) (hdw : dw < 1000000) (ha : a < 64) (hk : ∀ m, m < 6 → kk m < 7) (hp : ∀ m, 2 ≤ pp m) (hp2 : ∀ m, m < 6 → pp m ≤ 99) (ho : ∀ m, m < men → ∀ s, s < men → ∀ d, d < 10 → ov (slotN m s d) < 1000) (hb : ∀ m, m < men → ∀ s, s < men → ∀ d, d < 10 → bk (slotN m s d) < 1000) (hst : kR st rows bl b) (hpl : pr9.length = len) (hu : ∀ j, j < len → u j = pr9.getD j 0) : Sp D mX4_follow 6 0 0 [.ref ro, .int (nI h), .int (nI len), .int (nI a)] [(ro, .inr (4, [.ref wk, .ref ua, .ref ba, .int bl, .int (nI men), .int (nI dw), .int (nI rows)])), (ua, eI D 6 (nF u)), (ba, eI D 6 (nF b)), (wk, .inr (8, [.ref kn, .ref vl, .ref pt, .int (nI gone), .ref fc, .ref ovr, .ref bkr, .int lf, .int dg, .int hd])), (kn, eI D 6 (nF kk)), (pt, eI D 6 (nF pp)), (ovr, eI D 480 (nF ov)), (bkr, eI D 480 (nF bk))] (fun r w => ∃ u2 : Nat → Nat, ∃ b2 : Nat → Nat, ∃ rows2 : Nat, ∃ bl2 : Int32, ∃ l2 : Int32, ∃ g2 : Int32, ∃ d2 : Int32, r = none ∧ w = [(ro, .inr (4, [.ref wk, .ref ua, .ref ba, .int bl2, .int (nI men), .int (nI dw), .int (nI rows2)])), (ua, eI D 6 (nF u2)), (ba, eI D 6 (nF b2)), (wk, .inr (8, [.ref kn, .ref vl, .ref pt, .int (nI gone), .ref fc, .ref ovr, .ref bkr, .int l2, .int g2, .int d2])), (kn, eI D 6 (nF kk)), (pt, eI D 6 (nF pp)), (ovr, eI D 480 (nF ov)), (bkr, eI D 480 (nF bk))] ∧ (∀ j, j < len → u2 j = pr9.getD j 0) ∧ (kR (List.foldl kF st ((dfsK (rE kk pp ov bk) men dw 1 h len a).map (fun zr => pr9 ++ zr))) rows2 bl2 b2)) := by
  refine Sp.of (by decide) (Nat.le_of_ble_eq_true rfl) (fun X O T => ?_)
  refine v_eq (lv' := [(0, .ref ro), (1, .int (nI h)), (2, .int (nI len)), (3, .int (nI a))]) rfl rfl rfl rfl ?_
  refine v_iload_n O dX4_follow_0 1 rfl ?_
  refine v_aload_n O dX4_follow_1 0 rfl ?_
  refine gf_X4_32 O rfl dX4_follow_2 0 rfl rfl ?_
  refine v_icmp_ne O 13 dX4_follow_5 (by decide) (fun z1 => ?_) (fun z1 => ?_)
  · skip
    have z1 := (not_congr (c_eq (x := nI h) (y := nI dw) (a := h) (b := dw) rfl rfl (by omega) (by omega))).mp z1
    refine v_iload_n O dX4_follow_13 2 rfl ?_
    refine v_if_lt O 25 dX4_follow_14 (by decide) (fun c_1 => ?_) (fun c_1 => ?_)
    · skip
      have c_1 := (c_lt (x := nI len) (y := 0) (a := len) (b := 0) rfl rfl (by omega) (by omega)).mp c_1
      exact absurd c_1 (by omega)
    · skip
      have c_1 := (not_congr (c_lt (x := nI len) (y := 0) (a := len) (b := 0) rfl rfl (by omega) (by omega))).mp c_1
      refine v_iload_n O dX4_follow_17 2 rfl ?_
      refine v_aload_n O dX4_follow_18 0 rfl ?_
      refine gf_X4_29 O rfl dX4_follow_19 0 rfl rfl ?_
      refine v_icmp_lt O 26 dX4_follow_22 (by decide) (fun z3 => ?_) (fun z3 => ?_)
      · skip
        have z3 := (c_lt (x := nI len) (y := nI men) (a := len) (b := men) rfl rfl (by omega) (by omega)).mp z3
        refine v_iconst (v := 0) O dX4_follow_26 (by decide) ?_
        refine v_istore (lv' := [(0, .ref ro), (1, .int (nI h)), (2, .int (nI len)), (3, .int (nI a)), (4, .int 0)]) O dX4_follow_27 (by decide) rfl ?_
        refine v_eq (lv' := [(0, .ref ro), (1, .int (nI h)), (2, .int (nI len)), (3, .int (nI a)), (4, .int (nI 0))]) rfl rfl rfl rfl ?_
        exact l_X4_follow_1 O hlen hmen hh hdw ha hk hp hp2 ho hb hpl T men 0 (by omega) _ _ _ _ _ _ _ hu (by rw [if_neg z1]; simpa [catN] using hst)
      · skip
        have z3 := (not_congr (c_lt (x := nI len) (y := nI men) (a := len) (b := men) rfl rfl (by omega) (by omega))).mp z3
        exact absurd z3 (by omega)
  · skip
    have z1 := (c_eq (x := nI h) (y := nI dw) (a := h) (b := dw) rfl rfl (by omega) (by omega)).mp z1
    refine v_aload_n O dX4_follow_8 0 rfl ?_
    refine v_iload_n O dX4_follow_9 2 rfl ?_
    refine v_cV (T := TX4) (ci := 4) (As := [.int (nI len)]) (wr := [(wk, .inr (8, [.ref kn, .ref vl, .ref pt, .int (nI gone), .ref fc, .ref ovr, .ref bkr, .int lf, .int dg, .int hd])), (kn, eI D 6 (nF kk)), (pt, eI D 6 (nF pp)), (ovr, eI D 480 (nF ov)), (bkr, eI D 480 (nF bk))]) (st := []) O cf_X4_59 rfl (sp_X4_keep (ro := ro) (ua := ua) (ba := ba) (men := men) (dw := dw) (wk := wk) (u := u) (b := b) (rows := rows) (bl := bl) (st := st) (pr9 := pr9) (len := len) (hst) (by omega) (hpl) (hu)) dX4_follow_10 rfl rfl 0 rfl [0, 1, 2] [3, 4, 5, 6, 7] (by decide) rfl rfl (by decide) (by decide) (by decide) (Nat.le_of_ble_eq_true rfl) (by decide) (by decide) (fun r_3 w_4 h_2 => ?_)
    obtain ⟨bl2_5, b2_6, rfl, rfl, h_k⟩ := h_2
    refine v_eq (st' := []) (ws' := [(wk, .inr (8, [.ref kn, .ref vl, .ref pt, .int (nI gone), .ref fc, .ref ovr, .ref bkr, .int lf, .int dg, .int hd])), (kn, eI D 6 (nF kk)), (pt, eI D 6 (nF pp)), (ovr, eI D 480 (nF ov)), (bkr, eI D 480 (nF bk)), (ro, .inr (4, [.ref wk, .ref ua, .ref ba, .int bl2_5, .int (nI men), .int (nI dw), .int (nI (rows + 1))])), (ua, eI D 6 (nF u)), (ba, eI D 6 (nF b2_6))]) rfl rfl rfl rfl ?_
    refine v_iload_n O dX4_follow_13 2 rfl ?_
    refine v_if_lt O 25 dX4_follow_14 (by decide) (fun c_7 => ?_) (fun c_7 => ?_)
    · skip
      have c_7 := (c_lt (x := nI len) (y := 0) (a := len) (b := 0) rfl rfl (by omega) (by omega)).mp c_7
      exact absurd c_7 (by omega)
    · skip
      have c_7 := (not_congr (c_lt (x := nI len) (y := 0) (a := len) (b := 0) rfl rfl (by omega) (by omega))).mp c_7
      refine v_iload_n O dX4_follow_17 2 rfl ?_
      refine v_aload_n O dX4_follow_18 0 rfl ?_
      refine gf_X4_29 O rfl dX4_follow_19 5 rfl rfl ?_
      refine v_icmp_lt O 26 dX4_follow_22 (by decide) (fun z3 => ?_) (fun z3 => ?_)
      · skip
        have z3 := (c_lt (x := nI len) (y := nI men) (a := len) (b := men) rfl rfl (by omega) (by omega)).mp z3
        refine v_iconst (v := 0) O dX4_follow_26 (by decide) ?_
        refine v_istore (lv' := [(0, .ref ro), (1, .int (nI h)), (2, .int (nI len)), (3, .int (nI a)), (4, .int 0)]) O dX4_follow_27 (by decide) rfl ?_
        refine v_sub (ws' := [(ro, .inr (4, [.ref wk, .ref ua, .ref ba, .int bl2_5, .int (nI men), .int (nI dw), .int (nI (rows + 1))])), (ua, eI D 6 (nF u)), (ba, eI D 6 (nF b2_6)), (wk, .inr (8, [.ref kn, .ref vl, .ref pt, .int (nI gone), .ref fc, .ref ovr, .ref bkr, .int lf, .int dg, .int hd])), (kn, eI D 6 (nF kk)), (pt, eI D 6 (nF pp)), (ovr, eI D 480 (nF ov)), (bkr, eI D 480 (nF bk))]) [5, 6, 7, 0, 1, 2, 3, 4] (by decide) rfl ?_
        refine v_eq (lv' := [(0, .ref ro), (1, .int (nI h)), (2, .int (nI len)), (3, .int (nI a)), (4, .int (nI 0))]) rfl rfl rfl rfl ?_
        exact l_X4_follow_1 O hlen hmen hh hdw ha hk hp hp2 ho hb hpl T men 0 (by omega) _ _ _ _ _ _ _ hu (by rw [if_pos z1]; simpa [catN] using h_k)
      · skip
        have z3 := (not_congr (c_lt (x := nI len) (y := nI men) (a := len) (b := men) rfl rfl (by omega) (by omega))).mp z3
        exact absurd z3 (by omega)
set_option maxRecDepth 100000 in
set_option maxHeartbeats 4000000 in
theorem sp_X4_wakeNext_1 {D : G} {ro : Nat} {ua : Nat} {ba : Nat} {men : Nat} {dw : Nat} {wk : Nat} {kn : Nat} {vl : Nat} {pt : Nat} {gone : Nat} {fc : Nat} {ovr : Nat} {bkr : Nat} {kk : Nat → Nat} {pp : Nat → Nat} {ov : Nat → Nat} {bk : Nat → Nat} {u : Nat → Nat} {b : Nat → Nat} {rows : Nat} {bl : Int32} {lf : Int32} {dg : Int32} {hd : Int32} {st : Nat × Option (List Nat)} {pr9 : List Nat} {h : Nat} {len : Nat} {a : Nat} {m : Nat} (hlen : len + 2 = men) (hmen : men ≤ 6) (hh : h < 1000000) (hdw : dw < 1000000) (ha : a < 64) (hk : ∀ m, m < 6 → kk m < 7) (hp : ∀ m, 2 ≤ pp m) (hp2 : ∀ m, m < 6 → pp m ≤ 99) (ho : ∀ m, m < men → ∀ s, s < men → ∀ d, d < 10 → ov (slotN m s d) < 1000) (hb : ∀ m, m < men → ∀ s, s < men → ∀ d, d < 10 → bk (slotN m s d) < 1000) (hst : kR st rows bl b) (hpl : pr9.length = len) (hu : ∀ j, j < len → u j = pr9.getD j 0) (hm : m < men) : Sp D mX4_wakeNext 7 0 0 [.ref ro, .int (nI m), .int (nI h), .int (nI len), .int (nI a)] [(ro, .inr (4, [.ref wk, .ref ua, .ref ba, .int bl, .int (nI men), .int (nI dw), .int (nI rows)])), (ua, eI D 6 (nF u)), (ba, eI D 6 (nF b)), (wk, .inr (8, [.ref kn, .ref vl, .ref pt, .int (nI gone), .ref fc, .ref ovr, .ref bkr, .int lf, .int dg, .int hd])), (kn, eI D 6 (nF kk)), (pt, eI D 6 (nF pp)), (ovr, eI D 480 (nF ov)), (bkr, eI D 480 (nF bk))] (fun r w => ∃ u2 : Nat → Nat, ∃ b2 : Nat → Nat, ∃ rows2 : Nat, ∃ bl2 : Int32, ∃ l2 : Int32, ∃ g2 : Int32, ∃ d2 : Int32, r = none ∧ w = [(ro, .inr (4, [.ref wk, .ref ua, .ref ba, .int bl2, .int (nI men), .int (nI dw), .int (nI rows2)])), (ua, eI D 6 (nF u2)), (ba, eI D 6 (nF b2)), (wk, .inr (8, [.ref kn, .ref vl, .ref pt, .int (nI gone), .ref fc, .ref ovr, .ref bkr, .int l2, .int g2, .int d2])), (kn, eI D 6 (nF kk)), (pt, eI D 6 (nF pp)), (ovr, eI D 480 (nF ov)), (bkr, eI D 480 (nF bk))] ∧ (∀ j, j < len → u2 j = pr9.getD j 0) ∧ (kR (List.foldl kF st ((gK (rE kk pp ov bk) men dw 1 h len a m).map (fun zr => pr9 ++ zr))) rows2 bl2 b2)) := by
  refine Sp.of (by decide) (Nat.le_of_ble_eq_true rfl) (fun X O T => ?_)
  refine v_eq (lv' := [(0, .ref ro), (1, .int (nI m)), (2, .int (nI h)), (3, .int (nI len)), (4, .int (nI a))]) rfl rfl rfl rfl ?_
  refine v_iload O dX4_wakeNext_0 4 rfl ?_
  refine v_iload_n O dX4_wakeNext_2 1 rfl ?_
  refine v_ishr O dX4_wakeNext_3 ?_
  refine v_iconst (v := 1) O dX4_wakeNext_4 (by decide) ?_
  refine v_iand O dX4_wakeNext_5 ?_
  refine v_top (y := nI (a / 2 ^ m % 2)) (bitS ha (by omega)) ?_
  refine v_if_ne O 13 dX4_wakeNext_6 (by decide) (fun z1 => ?_) (fun z1 => ?_)
  · skip
    have z1 := (not_congr (c_eq (x := nI (a / 2 ^ m % 2)) (y := 0) (a := a / 2 ^ m % 2) (b := 0) rfl rfl (by omega) (by omega))).mp z1
    refine v_iconst (v := 0) O dX4_wakeNext_13 (by decide) ?_
    refine v_istore (lv' := [(0, .ref ro), (1, .int (nI m)), (2, .int (nI h)), (3, .int (nI len)), (4, .int (nI a)), (5, .int 0)]) O dX4_wakeNext_14 (by decide) rfl ?_
    refine v_iload O dX4_wakeNext_16 5 rfl ?_
    refine v_if_eq O 71 dX4_wakeNext_18 (by decide) (fun _ => ?_) (fun c => absurd c (by decide))
    exact v_return O T rfl (by decide) (by decide) dX4_wakeNext_71 (⟨_, _, _, _, _, _, _, rfl, rfl, hu, by rw [gK_a z1]; exact hst⟩)
  · skip
    have z1 := (c_eq (x := nI (a / 2 ^ m % 2)) (y := 0) (a := a / 2 ^ m % 2) (b := 0) rfl rfl (by omega) (by omega)).mp z1
    refine v_iconst (v := 1) O dX4_wakeNext_9 (by decide) ?_
    refine v_goto O 14 dX4_wakeNext_10 (by decide) ?_
    refine v_istore (lv' := [(0, .ref ro), (1, .int (nI m)), (2, .int (nI h)), (3, .int (nI len)), (4, .int (nI a)), (5, .int 1)]) O dX4_wakeNext_14 (by decide) rfl ?_
    refine v_iload O dX4_wakeNext_16 5 rfl ?_
    refine v_if_eq O 71 dX4_wakeNext_18 (by decide) (fun c => absurd c (by decide)) (fun _ => ?_)
    refine v_iload_n O dX4_wakeNext_21 3 rfl ?_
    refine v_if_lt O 71 dX4_wakeNext_22 (by decide) (fun c_3 => ?_) (fun c_3 => ?_)
    · skip
      have c_3 := (c_lt (x := nI len) (y := 0) (a := len) (b := 0) rfl rfl (by omega) (by omega)).mp c_3
      exact absurd c_3 (by omega)
    · skip
      have c_3 := (not_congr (c_lt (x := nI len) (y := 0) (a := len) (b := 0) rfl rfl (by omega) (by omega))).mp c_3
      refine v_iload_n O dX4_wakeNext_25 3 rfl ?_
      refine v_bipush (v := 6) O dX4_wakeNext_26 (by decide) ?_
      refine v_icmp_ge O 71 dX4_wakeNext_28 (by decide) (fun z2 => ?_) (fun z2 => ?_)
      · skip
        have z2 := (c_le' (x := nI len) (y := 6) (a := len) (b := 6) rfl rfl (by omega) (by omega)).mp z2
        exact absurd z2 (by omega)
      · skip
        have z2 := (not_congr (c_le' (x := nI len) (y := 6) (a := len) (b := 6) rfl rfl (by omega) (by omega))).mp z2
        refine v_aload_n O dX4_wakeNext_31 0 rfl ?_
        refine gf_X4_12 O rfl dX4_wakeNext_32 0 rfl rfl ?_
        refine v_iload_n O dX4_wakeNext_35 1 rfl ?_
        refine v_iload_n O dX4_wakeNext_36 3 rfl ?_
        refine v_iload_n O dX4_wakeNext_37 2 rfl ?_
        refine v_cV (T := TX8) (ci := 8) (As := [.int (nI m), .int (nI len), .int (nI h)]) (wr := [(ro, .inr (4, [.ref wk, .ref ua, .ref ba, .int bl, .int (nI men), .int (nI dw), .int (nI rows)])), (ua, eI D 6 (nF u)), (ba, eI D 6 (nF b))]) (st := []) O cf_X4_67 rfl (sp_X8_comesOut (wk := wk) (kn := kn) (vl := vl) (pt := pt) (gone := gone) (fc := fc) (ovr := ovr) (bkr := bkr) (lf := lf) (dg := dg) (hd := hd) (kk := kk) (pp := pp) (ov := ov) (bk := bk) (m := m) (s := len) (h := h) (by omega) (by omega) (hh) (hk m (by omega)) (hp m) (hp2 m (by omega)) (ho m hm len (by omega)) (hb m hm len (by omega))) dX4_wakeNext_38 rfl rfl 3 rfl [3, 4, 5, 6, 7] [0, 1, 2] (by decide) rfl rfl (by decide) (by decide) (by decide) (Nat.le_of_ble_eq_true rfl) (by decide) (by decide) (fun r_5 w_6 h_4 => ?_)
        obtain ⟨rfl, rfl⟩ := h_4
        refine v_eq (st' := [.int (b2i (¬ wakeN (kk m) (pp m) (fun zd => ov (slotN m len zd)) (fun zd => bk (slotN m len zd)) h = none))]) (ws' := [(ro, .inr (4, [.ref wk, .ref ua, .ref ba, .int bl, .int (nI men), .int (nI dw), .int (nI rows)])), (ua, eI D 6 (nF u)), (ba, eI D 6 (nF b)), (wk, .inr (8, [.ref kn, .ref vl, .ref pt, .int (nI gone), .ref fc, .ref ovr, .ref bkr, .int (nI (oL (wakeN (kk m) (pp m) (fun zd => ov (slotN m len zd)) (fun zd => bk (slotN m len zd)) h) h)), .int (nI (oG (wakeN (kk m) (pp m) (fun zd => ov (slotN m len zd)) (fun zd => bk (slotN m len zd)) h) 0)), .int (nI (oD (wakeN (kk m) (pp m) (fun zd => ov (slotN m len zd)) (fun zd => bk (slotN m len zd)) h) 0))])), (kn, eI D 6 (nF kk)), (pt, eI D 6 (nF pp)), (ovr, eI D 480 (nF ov)), (bkr, eI D 480 (nF bk))]) rfl rfl rfl rfl ?_
        refine v_if_eq O 71 dX4_wakeNext_41 (by decide) (fun z3 => ?_) (fun z3 => ?_)
        · skip
          have z3 := b2i_0.mp z3
          have z3 : rE kk pp ov bk m len h = none := Classical.not_not.mp z3
          exact v_return O T rfl (by decide) (by decide) dX4_wakeNext_71 (⟨_, _, _, _, _, _, _, rfl, rfl, hu, by rw [gK_n z3]; exact hst⟩)
        · skip
          have z3 := b2i_1.mp z3
          have z3 : ¬ rE kk pp ov bk m len h = none := z3
          have z_hl : oL (wakeN (kk m) (pp m) (fun zd => ov (slotN m len zd)) (fun zd => bk (slotN m len zd)) h) h ≤ h := oL_lew (hp m)
          refine v_aload_n O dX4_wakeNext_44 0 rfl ?_
          refine gf_X4_18 O rfl dX4_wakeNext_45 0 rfl rfl ?_
          refine v_iload_n O dX4_wakeNext_48 3 rfl ?_
          refine v_iload_n O dX4_wakeNext_49 1 rfl ?_
          refine v_iastk (ws' := [(ro, .inr (4, [.ref wk, .ref ua, .ref ba, .int bl, .int (nI men), .int (nI dw), .int (nI rows)])), (ua, eI D 6 (nF (uN u len m))), (ba, eI D 6 (nF b)), (wk, .inr (8, [.ref kn, .ref vl, .ref pt, .int (nI gone), .ref fc, .ref ovr, .ref bkr, .int (nI (oL (wakeN (kk m) (pp m) (fun zd => ov (slotN m len zd)) (fun zd => bk (slotN m len zd)) h) h)), .int (nI (oG (wakeN (kk m) (pp m) (fun zd => ov (slotN m len zd)) (fun zd => bk (slotN m len zd)) h) 0)), .int (nI (oD (wakeN (kk m) (pp m) (fun zd => ov (slotN m len zd)) (fun zd => bk (slotN m len zd)) h) 0))])), (kn, eI D 6 (nF kk)), (pt, eI D 6 (nF pp)), (ovr, eI D 480 (nF ov)), (bkr, eI D 480 (nF bk))]) O dX4_wakeNext_50 1 rfl len (rfl) (by omega) (by decide) (by rw [upd_nF]; rfl) ?_
          refine v_aload_n O dX4_wakeNext_51 0 rfl ?_
          refine v_aload_n O dX4_wakeNext_52 0 rfl ?_
          refine gf_X4_12 O rfl dX4_wakeNext_53 0 rfl rfl ?_
          refine gf_X4_71 O rfl dX4_wakeNext_56 3 rfl rfl ?_
          refine v_iload_n O dX4_wakeNext_59 3 rfl ?_
          refine v_iconst (v := 1) O dX4_wakeNext_60 (by decide) ?_
          refine v_iadd O dX4_wakeNext_61 ?_
          refine v_top (y := nI (len + 1)) (nI_add len 1) ?_
          refine v_iload O dX4_wakeNext_62 4 rfl ?_
          refine v_iconst (v := 1) O dX4_wakeNext_64 (by decide) ?_
          refine v_iload_n O dX4_wakeNext_65 1 rfl ?_
          refine v_ishl O dX4_wakeNext_66 ?_
          refine v_ior O dX4_wakeNext_67 ?_
          refine v_top (y := nI (a + 2 ^ m)) (bitO ha (by omega) z1) ?_
          refine v_cV (T := TX4) (ci := 4) (As := [.int (nI (oL (wakeN (kk m) (pp m) (fun zd => ov (slotN m len zd)) (fun zd => bk (slotN m len zd)) h) h)), .int (nI (len + 1)), .int (nI (a + 2 ^ m))]) (wr := []) (st := []) O cf_X4_55 rfl (sp_X4_follow_1 (ro := ro) (ua := ua) (ba := ba) (men := men) (dw := dw) (wk := wk) (kn := kn) (vl := vl) (pt := pt) (gone := gone) (fc := fc) (ovr := ovr) (bkr := bkr) (kk := kk) (pp := pp) (ov := ov) (bk := bk) (u := (uN u len m)) (b := b) (rows := rows) (bl := bl) (lf := (nI (oL (wakeN (kk m) (pp m) (fun zd => ov (slotN m len zd)) (fun zd => bk (slotN m len zd)) h) h))) (dg := (nI (oG (wakeN (kk m) (pp m) (fun zd => ov (slotN m len zd)) (fun zd => bk (slotN m len zd)) h) 0))) (hd := (nI (oD (wakeN (kk m) (pp m) (fun zd => ov (slotN m len zd)) (fun zd => bk (slotN m len zd)) h) 0))) (st := st) (pr9 := (pr9 ++ [m])) (h := (oL (wakeN (kk m) (pp m) (fun zd => ov (slotN m len zd)) (fun zd => bk (slotN m len zd)) h) h)) (len := (len + 1)) (a := (a + 2 ^ m)) (by omega) (hmen) (by omega) (hdw) (bitL ha (by omega) z1) (hk) (hp) (hp2) (ho) (hb) (hst) (by simp; omega) (roUp hpl hu)) dX4_wakeNext_68 rfl rfl 0 rfl [0, 1, 2, 3, 4, 5, 6, 7] [] (by decide) rfl rfl (by decide) (by decide) (by decide) (Nat.le_of_ble_eq_true rfl) (by decide) (by decide) (fun r_8 w_9 h_7 => ?_)
          obtain ⟨u2_10, b2_11, rows2_12, bl2_13, l2_14, g2_15, d2_16, rfl, rfl, h_u, h_s⟩ := h_7
          refine v_eq (st' := []) (ws' := [(ro, .inr (4, [.ref wk, .ref ua, .ref ba, .int bl2_13, .int (nI men), .int (nI dw), .int (nI rows2_12)])), (ua, eI D 6 (nF u2_10)), (ba, eI D 6 (nF b2_11)), (wk, .inr (8, [.ref kn, .ref vl, .ref pt, .int (nI gone), .ref fc, .ref ovr, .ref bkr, .int l2_14, .int g2_15, .int d2_16])), (kn, eI D 6 (nF kk)), (pt, eI D 6 (nF pp)), (ovr, eI D 480 (nF ov)), (bkr, eI D 480 (nF bk))]) rfl rfl rfl rfl ?_
          exact v_return O T rfl (by decide) (by decide) dX4_wakeNext_71 (⟨_, _, _, _, _, _, _, rfl, rfl, (fun j hj => by rw [h_u j (by omega)]; exact getD_ap (by omega)), by rw [gK_s z1 z3, map_pre]; exact h_s⟩)
set_option maxRecDepth 100000 in
set_option maxHeartbeats 4000000 in
theorem l_X4_follow_2 {D : G} {X : CX} {ro : Nat} {ua : Nat} {ba : Nat} {men : Nat} {dw : Nat} {wk : Nat} {kn : Nat} {vl : Nat} {pt : Nat} {gone : Nat} {fc : Nat} {ovr : Nat} {bkr : Nat} {kk : Nat → Nat} {pp : Nat → Nat} {ov : Nat → Nat} {bk : Nat → Nat} {st : Nat × Option (List Nat)} {pr9 : List Nat} {h : Nat} {len : Nat} {a : Nat} (O : Ok D X mX4_follow 8 0 0) (hlen : len + 2 = men) (hmen : men ≤ 6) (hh : h < 1000000) (hdw : dw < 1000000) (ha : a < 64) (hk : ∀ m, m < 6 → kk m < 7) (hp : ∀ m, 2 ≤ pp m) (hp2 : ∀ m, m < 6 → pp m ≤ 99) (ho : ∀ m, m < men → ∀ s, s < men → ∀ d, d < 10 → ov (slotN m s d) < 1000) (hb : ∀ m, m < men → ∀ s, s < men → ∀ d, d < 10 → bk (slotN m s d) < 1000) (hpl : pr9.length = len) (T : Rt D X (fun r w => ∃ u2 : Nat → Nat, ∃ b2 : Nat → Nat, ∃ rows2 : Nat, ∃ bl2 : Int32, ∃ l2 : Int32, ∃ g2 : Int32, ∃ d2 : Int32, r = none ∧ w = [(ro, .inr (4, [.ref wk, .ref ua, .ref ba, .int bl2, .int (nI men), .int (nI dw), .int (nI rows2)])), (ua, eI D 6 (nF u2)), (ba, eI D 6 (nF b2)), (wk, .inr (8, [.ref kn, .ref vl, .ref pt, .int (nI gone), .ref fc, .ref ovr, .ref bkr, .int l2, .int g2, .int d2])), (kn, eI D 6 (nF kk)), (pt, eI D 6 (nF pp)), (ovr, eI D 480 (nF ov)), (bkr, eI D 480 (nF bk))] ∧ (∀ j, j < len → u2 j = pr9.getD j 0) ∧ (kR (List.foldl kF st ((dfsK (rE kk pp ov bk) men dw 2 h len a).map (fun zr => pr9 ++ zr))) rows2 bl2 b2)) 0 0) : ∀ (t i : Nat), i + t = men → ∀ (u b : Nat → Nat) (rows : Nat) (bl lf dg hd : Int32), (∀ j, j < len → u j = pr9.getD j 0) → kR (List.foldl kF st (((if h = dw then [[]] else []) ++ catN (gK (rE kk pp ov bk) men dw 1 h len a) i).map (fun zr => pr9 ++ zr))) rows bl b → V D X 0 0 29 [(0, .ref ro), (1, .int (nI h)), (2, .int (nI len)), (3, .int (nI a)), (4, .int (nI i))] [] [(ro, .inr (4, [.ref wk, .ref ua, .ref ba, .int bl, .int (nI men), .int (nI dw), .int (nI rows)])), (ua, eI D 6 (nF u)), (ba, eI D 6 (nF b)), (wk, .inr (8, [.ref kn, .ref vl, .ref pt, .int (nI gone), .ref fc, .ref ovr, .ref bkr, .int lf, .int dg, .int hd])), (kn, eI D 6 (nF kk)), (pt, eI D 6 (nF pp)), (ovr, eI D 480 (nF ov)), (bkr, eI D 480 (nF bk))] := by
  intro t
  induction t with
  | zero =>
    intro i hi u b rows bl lf dg hd h1 h2
    refine v_iload O dX4_follow_29 4 rfl ?_
    refine v_aload_n O dX4_follow_31 0 rfl ?_
    refine gf_X4_29 O rfl dX4_follow_32 0 rfl rfl ?_
    refine v_icmp_ge O 53 dX4_follow_35 (by decide) (fun z1 => ?_) (fun z1 => ?_)
    · skip
      have z1 := (c_le' (x := nI i) (y := nI men) (a := i) (b := men) rfl rfl (by omega) (by omega)).mp z1
      exact v_return O T rfl (by decide) (by decide) dX4_follow_53 (⟨_, _, _, _, _, _, _, rfl, rfl, h1, by rw [show i = men by omega] at h2; exact h2⟩)
    · skip
      have z1 := (not_congr (c_le' (x := nI i) (y := nI men) (a := i) (b := men) rfl rfl (by omega) (by omega))).mp z1
      exact absurd z1 (by omega)
  | succ t ih =>
    intro i hi u b rows bl lf dg hd h1 h2
    refine v_iload O dX4_follow_29 4 rfl ?_
    refine v_aload_n O dX4_follow_31 0 rfl ?_
    refine gf_X4_29 O rfl dX4_follow_32 0 rfl rfl ?_
    refine v_icmp_ge O 53 dX4_follow_35 (by decide) (fun z1 => ?_) (fun z1 => ?_)
    · skip
      have z1 := (c_le' (x := nI i) (y := nI men) (a := i) (b := men) rfl rfl (by omega) (by omega)).mp z1
      exact absurd z1 (by omega)
    · skip
      have z1 := (not_congr (c_le' (x := nI i) (y := nI men) (a := i) (b := men) rfl rfl (by omega) (by omega))).mp z1
      refine v_aload_n O dX4_follow_38 0 rfl ?_
      refine v_iload O dX4_follow_39 4 rfl ?_
      refine v_iload_n O dX4_follow_41 1 rfl ?_
      refine v_iload_n O dX4_follow_42 2 rfl ?_
      refine v_iload_n O dX4_follow_43 3 rfl ?_
      refine v_cV (T := TX4) (ci := 4) (As := [.int (nI i), .int (nI h), .int (nI len), .int (nI a)]) (wr := []) (st := []) O cf_X4_63 rfl (sp_X4_wakeNext_1 (ro := ro) (ua := ua) (ba := ba) (men := men) (dw := dw) (wk := wk) (kn := kn) (vl := vl) (pt := pt) (gone := gone) (fc := fc) (ovr := ovr) (bkr := bkr) (kk := kk) (pp := pp) (ov := ov) (bk := bk) (u := u) (b := b) (rows := rows) (bl := bl) (lf := lf) (dg := dg) (hd := hd) (st := (List.foldl kF st (((if h = dw then [[]] else []) ++ catN (gK (rE kk pp ov bk) men dw 1 h len a) i).map (fun zr => pr9 ++ zr)))) (pr9 := pr9) (h := h) (len := len) (a := a) (m := i) (by omega) (hmen) (hh) (hdw) (ha) (hk) (hp) (hp2) (ho) (hb) (h2) (hpl) (h1) (by omega)) dX4_follow_44 rfl rfl 0 rfl [0, 1, 2, 3, 4, 5, 6, 7] [] (by decide) rfl rfl (by decide) (by decide) (by decide) (Nat.le_of_ble_eq_true rfl) (by decide) (by decide) (fun r_2 w_3 h_1 => ?_)
      obtain ⟨u2_4, b2_5, rows2_6, bl2_7, l2_8, g2_9, d2_10, rfl, rfl, h_u, h_s⟩ := h_1
      refine v_eq (st' := []) (ws' := [(ro, .inr (4, [.ref wk, .ref ua, .ref ba, .int bl2_7, .int (nI men), .int (nI dw), .int (nI rows2_6)])), (ua, eI D 6 (nF u2_4)), (ba, eI D 6 (nF b2_5)), (wk, .inr (8, [.ref kn, .ref vl, .ref pt, .int (nI gone), .ref fc, .ref ovr, .ref bkr, .int l2_8, .int g2_9, .int d2_10])), (kn, eI D 6 (nF kk)), (pt, eI D 6 (nF pp)), (ovr, eI D 480 (nF ov)), (bkr, eI D 480 (nF bk))]) rfl rfl rfl rfl ?_
      refine v_iinc (v := nI (i + 1)) (lv' := [(0, .ref ro), (1, .int (nI h)), (2, .int (nI len)), (3, .int (nI a)), (4, .int (nI (i + 1)))]) O dX4_follow_47 4 rfl (nI_1 i) (by decide) rfl ?_
      refine v_goto O 29 dX4_follow_50 (by decide) ?_
      exact ih (i + 1) (by omega) _ _ _ _ _ _ _ h_u (by rw [show catN (gK (rE kk pp ov bk) men dw 1 h len a) (i + 1) = catN (gK (rE kk pp ov bk) men dw 1 h len a) i ++ gK (rE kk pp ov bk) men dw 1 h len a i from rfl, ← List.append_assoc, List.map_append, List.foldl_append]; exact h_s)
set_option maxRecDepth 100000 in
set_option maxHeartbeats 4000000 in
theorem sp_X4_follow_2 {D : G} {ro : Nat} {ua : Nat} {ba : Nat} {men : Nat} {dw : Nat} {wk : Nat} {kn : Nat} {vl : Nat} {pt : Nat} {gone : Nat} {fc : Nat} {ovr : Nat} {bkr : Nat} {kk : Nat → Nat} {pp : Nat → Nat} {ov : Nat → Nat} {bk : Nat → Nat} {u : Nat → Nat} {b : Nat → Nat} {rows : Nat} {bl : Int32} {lf : Int32} {dg : Int32} {hd : Int32} {st : Nat × Option (List Nat)} {pr9 : List Nat} {h : Nat} {len : Nat} {a : Nat} (hlen : len + 2 = men) (hmen : men ≤ 6) (hh : h < 1000000) (hdw : dw < 1000000) (ha : a < 64) (hk : ∀ m, m < 6 → kk m < 7) (hp : ∀ m, 2 ≤ pp m) (hp2 : ∀ m, m < 6 → pp m ≤ 99) (ho : ∀ m, m < men → ∀ s, s < men → ∀ d, d < 10 → ov (slotN m s d) < 1000) (hb : ∀ m, m < men → ∀ s, s < men → ∀ d, d < 10 → bk (slotN m s d) < 1000) (hst : kR st rows bl b) (hpl : pr9.length = len) (hu : ∀ j, j < len → u j = pr9.getD j 0) : Sp D mX4_follow 8 0 0 [.ref ro, .int (nI h), .int (nI len), .int (nI a)] [(ro, .inr (4, [.ref wk, .ref ua, .ref ba, .int bl, .int (nI men), .int (nI dw), .int (nI rows)])), (ua, eI D 6 (nF u)), (ba, eI D 6 (nF b)), (wk, .inr (8, [.ref kn, .ref vl, .ref pt, .int (nI gone), .ref fc, .ref ovr, .ref bkr, .int lf, .int dg, .int hd])), (kn, eI D 6 (nF kk)), (pt, eI D 6 (nF pp)), (ovr, eI D 480 (nF ov)), (bkr, eI D 480 (nF bk))] (fun r w => ∃ u2 : Nat → Nat, ∃ b2 : Nat → Nat, ∃ rows2 : Nat, ∃ bl2 : Int32, ∃ l2 : Int32, ∃ g2 : Int32, ∃ d2 : Int32, r = none ∧ w = [(ro, .inr (4, [.ref wk, .ref ua, .ref ba, .int bl2, .int (nI men), .int (nI dw), .int (nI rows2)])), (ua, eI D 6 (nF u2)), (ba, eI D 6 (nF b2)), (wk, .inr (8, [.ref kn, .ref vl, .ref pt, .int (nI gone), .ref fc, .ref ovr, .ref bkr, .int l2, .int g2, .int d2])), (kn, eI D 6 (nF kk)), (pt, eI D 6 (nF pp)), (ovr, eI D 480 (nF ov)), (bkr, eI D 480 (nF bk))] ∧ (∀ j, j < len → u2 j = pr9.getD j 0) ∧ (kR (List.foldl kF st ((dfsK (rE kk pp ov bk) men dw 2 h len a).map (fun zr => pr9 ++ zr))) rows2 bl2 b2)) := by
  refine Sp.of (by decide) (Nat.le_of_ble_eq_true rfl) (fun X O T => ?_)
  refine v_eq (lv' := [(0, .ref ro), (1, .int (nI h)), (2, .int (nI len)), (3, .int (nI a))]) rfl rfl rfl rfl ?_
  refine v_iload_n O dX4_follow_0 1 rfl ?_
  refine v_aload_n O dX4_follow_1 0 rfl ?_
  refine gf_X4_32 O rfl dX4_follow_2 0 rfl rfl ?_
  refine v_icmp_ne O 13 dX4_follow_5 (by decide) (fun z1 => ?_) (fun z1 => ?_)
  · skip
    have z1 := (not_congr (c_eq (x := nI h) (y := nI dw) (a := h) (b := dw) rfl rfl (by omega) (by omega))).mp z1
    refine v_iload_n O dX4_follow_13 2 rfl ?_
    refine v_if_lt O 25 dX4_follow_14 (by decide) (fun c_1 => ?_) (fun c_1 => ?_)
    · skip
      have c_1 := (c_lt (x := nI len) (y := 0) (a := len) (b := 0) rfl rfl (by omega) (by omega)).mp c_1
      exact absurd c_1 (by omega)
    · skip
      have c_1 := (not_congr (c_lt (x := nI len) (y := 0) (a := len) (b := 0) rfl rfl (by omega) (by omega))).mp c_1
      refine v_iload_n O dX4_follow_17 2 rfl ?_
      refine v_aload_n O dX4_follow_18 0 rfl ?_
      refine gf_X4_29 O rfl dX4_follow_19 0 rfl rfl ?_
      refine v_icmp_lt O 26 dX4_follow_22 (by decide) (fun z3 => ?_) (fun z3 => ?_)
      · skip
        have z3 := (c_lt (x := nI len) (y := nI men) (a := len) (b := men) rfl rfl (by omega) (by omega)).mp z3
        refine v_iconst (v := 0) O dX4_follow_26 (by decide) ?_
        refine v_istore (lv' := [(0, .ref ro), (1, .int (nI h)), (2, .int (nI len)), (3, .int (nI a)), (4, .int 0)]) O dX4_follow_27 (by decide) rfl ?_
        refine v_eq (lv' := [(0, .ref ro), (1, .int (nI h)), (2, .int (nI len)), (3, .int (nI a)), (4, .int (nI 0))]) rfl rfl rfl rfl ?_
        exact l_X4_follow_2 O hlen hmen hh hdw ha hk hp hp2 ho hb hpl T men 0 (by omega) _ _ _ _ _ _ _ hu (by rw [if_neg z1]; simpa [catN] using hst)
      · skip
        have z3 := (not_congr (c_lt (x := nI len) (y := nI men) (a := len) (b := men) rfl rfl (by omega) (by omega))).mp z3
        exact absurd z3 (by omega)
  · skip
    have z1 := (c_eq (x := nI h) (y := nI dw) (a := h) (b := dw) rfl rfl (by omega) (by omega)).mp z1
    refine v_aload_n O dX4_follow_8 0 rfl ?_
    refine v_iload_n O dX4_follow_9 2 rfl ?_
    refine v_cV (T := TX4) (ci := 4) (As := [.int (nI len)]) (wr := [(wk, .inr (8, [.ref kn, .ref vl, .ref pt, .int (nI gone), .ref fc, .ref ovr, .ref bkr, .int lf, .int dg, .int hd])), (kn, eI D 6 (nF kk)), (pt, eI D 6 (nF pp)), (ovr, eI D 480 (nF ov)), (bkr, eI D 480 (nF bk))]) (st := []) O cf_X4_59 rfl (sp_X4_keep (ro := ro) (ua := ua) (ba := ba) (men := men) (dw := dw) (wk := wk) (u := u) (b := b) (rows := rows) (bl := bl) (st := st) (pr9 := pr9) (len := len) (hst) (by omega) (hpl) (hu)) dX4_follow_10 rfl rfl 0 rfl [0, 1, 2] [3, 4, 5, 6, 7] (by decide) rfl rfl (by decide) (by decide) (by decide) (Nat.le_of_ble_eq_true rfl) (by decide) (by decide) (fun r_3 w_4 h_2 => ?_)
    obtain ⟨bl2_5, b2_6, rfl, rfl, h_k⟩ := h_2
    refine v_eq (st' := []) (ws' := [(wk, .inr (8, [.ref kn, .ref vl, .ref pt, .int (nI gone), .ref fc, .ref ovr, .ref bkr, .int lf, .int dg, .int hd])), (kn, eI D 6 (nF kk)), (pt, eI D 6 (nF pp)), (ovr, eI D 480 (nF ov)), (bkr, eI D 480 (nF bk)), (ro, .inr (4, [.ref wk, .ref ua, .ref ba, .int bl2_5, .int (nI men), .int (nI dw), .int (nI (rows + 1))])), (ua, eI D 6 (nF u)), (ba, eI D 6 (nF b2_6))]) rfl rfl rfl rfl ?_
    refine v_iload_n O dX4_follow_13 2 rfl ?_
    refine v_if_lt O 25 dX4_follow_14 (by decide) (fun c_7 => ?_) (fun c_7 => ?_)
    · skip
      have c_7 := (c_lt (x := nI len) (y := 0) (a := len) (b := 0) rfl rfl (by omega) (by omega)).mp c_7
      exact absurd c_7 (by omega)
    · skip
      have c_7 := (not_congr (c_lt (x := nI len) (y := 0) (a := len) (b := 0) rfl rfl (by omega) (by omega))).mp c_7
      refine v_iload_n O dX4_follow_17 2 rfl ?_
      refine v_aload_n O dX4_follow_18 0 rfl ?_
      refine gf_X4_29 O rfl dX4_follow_19 5 rfl rfl ?_
      refine v_icmp_lt O 26 dX4_follow_22 (by decide) (fun z3 => ?_) (fun z3 => ?_)
      · skip
        have z3 := (c_lt (x := nI len) (y := nI men) (a := len) (b := men) rfl rfl (by omega) (by omega)).mp z3
        refine v_iconst (v := 0) O dX4_follow_26 (by decide) ?_
        refine v_istore (lv' := [(0, .ref ro), (1, .int (nI h)), (2, .int (nI len)), (3, .int (nI a)), (4, .int 0)]) O dX4_follow_27 (by decide) rfl ?_
        refine v_sub (ws' := [(ro, .inr (4, [.ref wk, .ref ua, .ref ba, .int bl2_5, .int (nI men), .int (nI dw), .int (nI (rows + 1))])), (ua, eI D 6 (nF u)), (ba, eI D 6 (nF b2_6)), (wk, .inr (8, [.ref kn, .ref vl, .ref pt, .int (nI gone), .ref fc, .ref ovr, .ref bkr, .int lf, .int dg, .int hd])), (kn, eI D 6 (nF kk)), (pt, eI D 6 (nF pp)), (ovr, eI D 480 (nF ov)), (bkr, eI D 480 (nF bk))]) [5, 6, 7, 0, 1, 2, 3, 4] (by decide) rfl ?_
        refine v_eq (lv' := [(0, .ref ro), (1, .int (nI h)), (2, .int (nI len)), (3, .int (nI a)), (4, .int (nI 0))]) rfl rfl rfl rfl ?_
        exact l_X4_follow_2 O hlen hmen hh hdw ha hk hp hp2 ho hb hpl T men 0 (by omega) _ _ _ _ _ _ _ hu (by rw [if_pos z1]; simpa [catN] using h_k)
      · skip
        have z3 := (not_congr (c_lt (x := nI len) (y := nI men) (a := len) (b := men) rfl rfl (by omega) (by omega))).mp z3
        exact absurd z3 (by omega)
set_option maxRecDepth 100000 in
set_option maxHeartbeats 4000000 in
theorem sp_X4_wakeNext_2 {D : G} {ro : Nat} {ua : Nat} {ba : Nat} {men : Nat} {dw : Nat} {wk : Nat} {kn : Nat} {vl : Nat} {pt : Nat} {gone : Nat} {fc : Nat} {ovr : Nat} {bkr : Nat} {kk : Nat → Nat} {pp : Nat → Nat} {ov : Nat → Nat} {bk : Nat → Nat} {u : Nat → Nat} {b : Nat → Nat} {rows : Nat} {bl : Int32} {lf : Int32} {dg : Int32} {hd : Int32} {st : Nat × Option (List Nat)} {pr9 : List Nat} {h : Nat} {len : Nat} {a : Nat} {m : Nat} (hlen : len + 3 = men) (hmen : men ≤ 6) (hh : h < 1000000) (hdw : dw < 1000000) (ha : a < 64) (hk : ∀ m, m < 6 → kk m < 7) (hp : ∀ m, 2 ≤ pp m) (hp2 : ∀ m, m < 6 → pp m ≤ 99) (ho : ∀ m, m < men → ∀ s, s < men → ∀ d, d < 10 → ov (slotN m s d) < 1000) (hb : ∀ m, m < men → ∀ s, s < men → ∀ d, d < 10 → bk (slotN m s d) < 1000) (hst : kR st rows bl b) (hpl : pr9.length = len) (hu : ∀ j, j < len → u j = pr9.getD j 0) (hm : m < men) : Sp D mX4_wakeNext 9 0 0 [.ref ro, .int (nI m), .int (nI h), .int (nI len), .int (nI a)] [(ro, .inr (4, [.ref wk, .ref ua, .ref ba, .int bl, .int (nI men), .int (nI dw), .int (nI rows)])), (ua, eI D 6 (nF u)), (ba, eI D 6 (nF b)), (wk, .inr (8, [.ref kn, .ref vl, .ref pt, .int (nI gone), .ref fc, .ref ovr, .ref bkr, .int lf, .int dg, .int hd])), (kn, eI D 6 (nF kk)), (pt, eI D 6 (nF pp)), (ovr, eI D 480 (nF ov)), (bkr, eI D 480 (nF bk))] (fun r w => ∃ u2 : Nat → Nat, ∃ b2 : Nat → Nat, ∃ rows2 : Nat, ∃ bl2 : Int32, ∃ l2 : Int32, ∃ g2 : Int32, ∃ d2 : Int32, r = none ∧ w = [(ro, .inr (4, [.ref wk, .ref ua, .ref ba, .int bl2, .int (nI men), .int (nI dw), .int (nI rows2)])), (ua, eI D 6 (nF u2)), (ba, eI D 6 (nF b2)), (wk, .inr (8, [.ref kn, .ref vl, .ref pt, .int (nI gone), .ref fc, .ref ovr, .ref bkr, .int l2, .int g2, .int d2])), (kn, eI D 6 (nF kk)), (pt, eI D 6 (nF pp)), (ovr, eI D 480 (nF ov)), (bkr, eI D 480 (nF bk))] ∧ (∀ j, j < len → u2 j = pr9.getD j 0) ∧ (kR (List.foldl kF st ((gK (rE kk pp ov bk) men dw 2 h len a m).map (fun zr => pr9 ++ zr))) rows2 bl2 b2)) := by
  refine Sp.of (by decide) (Nat.le_of_ble_eq_true rfl) (fun X O T => ?_)
  refine v_eq (lv' := [(0, .ref ro), (1, .int (nI m)), (2, .int (nI h)), (3, .int (nI len)), (4, .int (nI a))]) rfl rfl rfl rfl ?_
  refine v_iload O dX4_wakeNext_0 4 rfl ?_
  refine v_iload_n O dX4_wakeNext_2 1 rfl ?_
  refine v_ishr O dX4_wakeNext_3 ?_
  refine v_iconst (v := 1) O dX4_wakeNext_4 (by decide) ?_
  refine v_iand O dX4_wakeNext_5 ?_
  refine v_top (y := nI (a / 2 ^ m % 2)) (bitS ha (by omega)) ?_
  refine v_if_ne O 13 dX4_wakeNext_6 (by decide) (fun z1 => ?_) (fun z1 => ?_)
  · skip
    have z1 := (not_congr (c_eq (x := nI (a / 2 ^ m % 2)) (y := 0) (a := a / 2 ^ m % 2) (b := 0) rfl rfl (by omega) (by omega))).mp z1
    refine v_iconst (v := 0) O dX4_wakeNext_13 (by decide) ?_
    refine v_istore (lv' := [(0, .ref ro), (1, .int (nI m)), (2, .int (nI h)), (3, .int (nI len)), (4, .int (nI a)), (5, .int 0)]) O dX4_wakeNext_14 (by decide) rfl ?_
    refine v_iload O dX4_wakeNext_16 5 rfl ?_
    refine v_if_eq O 71 dX4_wakeNext_18 (by decide) (fun _ => ?_) (fun c => absurd c (by decide))
    exact v_return O T rfl (by decide) (by decide) dX4_wakeNext_71 (⟨_, _, _, _, _, _, _, rfl, rfl, hu, by rw [gK_a z1]; exact hst⟩)
  · skip
    have z1 := (c_eq (x := nI (a / 2 ^ m % 2)) (y := 0) (a := a / 2 ^ m % 2) (b := 0) rfl rfl (by omega) (by omega)).mp z1
    refine v_iconst (v := 1) O dX4_wakeNext_9 (by decide) ?_
    refine v_goto O 14 dX4_wakeNext_10 (by decide) ?_
    refine v_istore (lv' := [(0, .ref ro), (1, .int (nI m)), (2, .int (nI h)), (3, .int (nI len)), (4, .int (nI a)), (5, .int 1)]) O dX4_wakeNext_14 (by decide) rfl ?_
    refine v_iload O dX4_wakeNext_16 5 rfl ?_
    refine v_if_eq O 71 dX4_wakeNext_18 (by decide) (fun c => absurd c (by decide)) (fun _ => ?_)
    refine v_iload_n O dX4_wakeNext_21 3 rfl ?_
    refine v_if_lt O 71 dX4_wakeNext_22 (by decide) (fun c_3 => ?_) (fun c_3 => ?_)
    · skip
      have c_3 := (c_lt (x := nI len) (y := 0) (a := len) (b := 0) rfl rfl (by omega) (by omega)).mp c_3
      exact absurd c_3 (by omega)
    · skip
      have c_3 := (not_congr (c_lt (x := nI len) (y := 0) (a := len) (b := 0) rfl rfl (by omega) (by omega))).mp c_3
      refine v_iload_n O dX4_wakeNext_25 3 rfl ?_
      refine v_bipush (v := 6) O dX4_wakeNext_26 (by decide) ?_
      refine v_icmp_ge O 71 dX4_wakeNext_28 (by decide) (fun z2 => ?_) (fun z2 => ?_)
      · skip
        have z2 := (c_le' (x := nI len) (y := 6) (a := len) (b := 6) rfl rfl (by omega) (by omega)).mp z2
        exact absurd z2 (by omega)
      · skip
        have z2 := (not_congr (c_le' (x := nI len) (y := 6) (a := len) (b := 6) rfl rfl (by omega) (by omega))).mp z2
        refine v_aload_n O dX4_wakeNext_31 0 rfl ?_
        refine gf_X4_12 O rfl dX4_wakeNext_32 0 rfl rfl ?_
        refine v_iload_n O dX4_wakeNext_35 1 rfl ?_
        refine v_iload_n O dX4_wakeNext_36 3 rfl ?_
        refine v_iload_n O dX4_wakeNext_37 2 rfl ?_
        refine v_cV (T := TX8) (ci := 8) (As := [.int (nI m), .int (nI len), .int (nI h)]) (wr := [(ro, .inr (4, [.ref wk, .ref ua, .ref ba, .int bl, .int (nI men), .int (nI dw), .int (nI rows)])), (ua, eI D 6 (nF u)), (ba, eI D 6 (nF b))]) (st := []) O cf_X4_67 rfl (sp_X8_comesOut (wk := wk) (kn := kn) (vl := vl) (pt := pt) (gone := gone) (fc := fc) (ovr := ovr) (bkr := bkr) (lf := lf) (dg := dg) (hd := hd) (kk := kk) (pp := pp) (ov := ov) (bk := bk) (m := m) (s := len) (h := h) (by omega) (by omega) (hh) (hk m (by omega)) (hp m) (hp2 m (by omega)) (ho m hm len (by omega)) (hb m hm len (by omega))) dX4_wakeNext_38 rfl rfl 3 rfl [3, 4, 5, 6, 7] [0, 1, 2] (by decide) rfl rfl (by decide) (by decide) (by decide) (Nat.le_of_ble_eq_true rfl) (by decide) (by decide) (fun r_5 w_6 h_4 => ?_)
        obtain ⟨rfl, rfl⟩ := h_4
        refine v_eq (st' := [.int (b2i (¬ wakeN (kk m) (pp m) (fun zd => ov (slotN m len zd)) (fun zd => bk (slotN m len zd)) h = none))]) (ws' := [(ro, .inr (4, [.ref wk, .ref ua, .ref ba, .int bl, .int (nI men), .int (nI dw), .int (nI rows)])), (ua, eI D 6 (nF u)), (ba, eI D 6 (nF b)), (wk, .inr (8, [.ref kn, .ref vl, .ref pt, .int (nI gone), .ref fc, .ref ovr, .ref bkr, .int (nI (oL (wakeN (kk m) (pp m) (fun zd => ov (slotN m len zd)) (fun zd => bk (slotN m len zd)) h) h)), .int (nI (oG (wakeN (kk m) (pp m) (fun zd => ov (slotN m len zd)) (fun zd => bk (slotN m len zd)) h) 0)), .int (nI (oD (wakeN (kk m) (pp m) (fun zd => ov (slotN m len zd)) (fun zd => bk (slotN m len zd)) h) 0))])), (kn, eI D 6 (nF kk)), (pt, eI D 6 (nF pp)), (ovr, eI D 480 (nF ov)), (bkr, eI D 480 (nF bk))]) rfl rfl rfl rfl ?_
        refine v_if_eq O 71 dX4_wakeNext_41 (by decide) (fun z3 => ?_) (fun z3 => ?_)
        · skip
          have z3 := b2i_0.mp z3
          have z3 : rE kk pp ov bk m len h = none := Classical.not_not.mp z3
          exact v_return O T rfl (by decide) (by decide) dX4_wakeNext_71 (⟨_, _, _, _, _, _, _, rfl, rfl, hu, by rw [gK_n z3]; exact hst⟩)
        · skip
          have z3 := b2i_1.mp z3
          have z3 : ¬ rE kk pp ov bk m len h = none := z3
          have z_hl : oL (wakeN (kk m) (pp m) (fun zd => ov (slotN m len zd)) (fun zd => bk (slotN m len zd)) h) h ≤ h := oL_lew (hp m)
          refine v_aload_n O dX4_wakeNext_44 0 rfl ?_
          refine gf_X4_18 O rfl dX4_wakeNext_45 0 rfl rfl ?_
          refine v_iload_n O dX4_wakeNext_48 3 rfl ?_
          refine v_iload_n O dX4_wakeNext_49 1 rfl ?_
          refine v_iastk (ws' := [(ro, .inr (4, [.ref wk, .ref ua, .ref ba, .int bl, .int (nI men), .int (nI dw), .int (nI rows)])), (ua, eI D 6 (nF (uN u len m))), (ba, eI D 6 (nF b)), (wk, .inr (8, [.ref kn, .ref vl, .ref pt, .int (nI gone), .ref fc, .ref ovr, .ref bkr, .int (nI (oL (wakeN (kk m) (pp m) (fun zd => ov (slotN m len zd)) (fun zd => bk (slotN m len zd)) h) h)), .int (nI (oG (wakeN (kk m) (pp m) (fun zd => ov (slotN m len zd)) (fun zd => bk (slotN m len zd)) h) 0)), .int (nI (oD (wakeN (kk m) (pp m) (fun zd => ov (slotN m len zd)) (fun zd => bk (slotN m len zd)) h) 0))])), (kn, eI D 6 (nF kk)), (pt, eI D 6 (nF pp)), (ovr, eI D 480 (nF ov)), (bkr, eI D 480 (nF bk))]) O dX4_wakeNext_50 1 rfl len (rfl) (by omega) (by decide) (by rw [upd_nF]; rfl) ?_
          refine v_aload_n O dX4_wakeNext_51 0 rfl ?_
          refine v_aload_n O dX4_wakeNext_52 0 rfl ?_
          refine gf_X4_12 O rfl dX4_wakeNext_53 0 rfl rfl ?_
          refine gf_X4_71 O rfl dX4_wakeNext_56 3 rfl rfl ?_
          refine v_iload_n O dX4_wakeNext_59 3 rfl ?_
          refine v_iconst (v := 1) O dX4_wakeNext_60 (by decide) ?_
          refine v_iadd O dX4_wakeNext_61 ?_
          refine v_top (y := nI (len + 1)) (nI_add len 1) ?_
          refine v_iload O dX4_wakeNext_62 4 rfl ?_
          refine v_iconst (v := 1) O dX4_wakeNext_64 (by decide) ?_
          refine v_iload_n O dX4_wakeNext_65 1 rfl ?_
          refine v_ishl O dX4_wakeNext_66 ?_
          refine v_ior O dX4_wakeNext_67 ?_
          refine v_top (y := nI (a + 2 ^ m)) (bitO ha (by omega) z1) ?_
          refine v_cV (T := TX4) (ci := 4) (As := [.int (nI (oL (wakeN (kk m) (pp m) (fun zd => ov (slotN m len zd)) (fun zd => bk (slotN m len zd)) h) h)), .int (nI (len + 1)), .int (nI (a + 2 ^ m))]) (wr := []) (st := []) O cf_X4_55 rfl (sp_X4_follow_2 (ro := ro) (ua := ua) (ba := ba) (men := men) (dw := dw) (wk := wk) (kn := kn) (vl := vl) (pt := pt) (gone := gone) (fc := fc) (ovr := ovr) (bkr := bkr) (kk := kk) (pp := pp) (ov := ov) (bk := bk) (u := (uN u len m)) (b := b) (rows := rows) (bl := bl) (lf := (nI (oL (wakeN (kk m) (pp m) (fun zd => ov (slotN m len zd)) (fun zd => bk (slotN m len zd)) h) h))) (dg := (nI (oG (wakeN (kk m) (pp m) (fun zd => ov (slotN m len zd)) (fun zd => bk (slotN m len zd)) h) 0))) (hd := (nI (oD (wakeN (kk m) (pp m) (fun zd => ov (slotN m len zd)) (fun zd => bk (slotN m len zd)) h) 0))) (st := st) (pr9 := (pr9 ++ [m])) (h := (oL (wakeN (kk m) (pp m) (fun zd => ov (slotN m len zd)) (fun zd => bk (slotN m len zd)) h) h)) (len := (len + 1)) (a := (a + 2 ^ m)) (by omega) (hmen) (by omega) (hdw) (bitL ha (by omega) z1) (hk) (hp) (hp2) (ho) (hb) (hst) (by simp; omega) (roUp hpl hu)) dX4_wakeNext_68 rfl rfl 0 rfl [0, 1, 2, 3, 4, 5, 6, 7] [] (by decide) rfl rfl (by decide) (by decide) (by decide) (Nat.le_of_ble_eq_true rfl) (by decide) (by decide) (fun r_8 w_9 h_7 => ?_)
          obtain ⟨u2_10, b2_11, rows2_12, bl2_13, l2_14, g2_15, d2_16, rfl, rfl, h_u, h_s⟩ := h_7
          refine v_eq (st' := []) (ws' := [(ro, .inr (4, [.ref wk, .ref ua, .ref ba, .int bl2_13, .int (nI men), .int (nI dw), .int (nI rows2_12)])), (ua, eI D 6 (nF u2_10)), (ba, eI D 6 (nF b2_11)), (wk, .inr (8, [.ref kn, .ref vl, .ref pt, .int (nI gone), .ref fc, .ref ovr, .ref bkr, .int l2_14, .int g2_15, .int d2_16])), (kn, eI D 6 (nF kk)), (pt, eI D 6 (nF pp)), (ovr, eI D 480 (nF ov)), (bkr, eI D 480 (nF bk))]) rfl rfl rfl rfl ?_
          exact v_return O T rfl (by decide) (by decide) dX4_wakeNext_71 (⟨_, _, _, _, _, _, _, rfl, rfl, (fun j hj => by rw [h_u j (by omega)]; exact getD_ap (by omega)), by rw [gK_s z1 z3, map_pre]; exact h_s⟩)
set_option maxRecDepth 100000 in
set_option maxHeartbeats 4000000 in
theorem l_X4_follow_3 {D : G} {X : CX} {ro : Nat} {ua : Nat} {ba : Nat} {men : Nat} {dw : Nat} {wk : Nat} {kn : Nat} {vl : Nat} {pt : Nat} {gone : Nat} {fc : Nat} {ovr : Nat} {bkr : Nat} {kk : Nat → Nat} {pp : Nat → Nat} {ov : Nat → Nat} {bk : Nat → Nat} {st : Nat × Option (List Nat)} {pr9 : List Nat} {h : Nat} {len : Nat} {a : Nat} (O : Ok D X mX4_follow 10 0 0) (hlen : len + 3 = men) (hmen : men ≤ 6) (hh : h < 1000000) (hdw : dw < 1000000) (ha : a < 64) (hk : ∀ m, m < 6 → kk m < 7) (hp : ∀ m, 2 ≤ pp m) (hp2 : ∀ m, m < 6 → pp m ≤ 99) (ho : ∀ m, m < men → ∀ s, s < men → ∀ d, d < 10 → ov (slotN m s d) < 1000) (hb : ∀ m, m < men → ∀ s, s < men → ∀ d, d < 10 → bk (slotN m s d) < 1000) (hpl : pr9.length = len) (T : Rt D X (fun r w => ∃ u2 : Nat → Nat, ∃ b2 : Nat → Nat, ∃ rows2 : Nat, ∃ bl2 : Int32, ∃ l2 : Int32, ∃ g2 : Int32, ∃ d2 : Int32, r = none ∧ w = [(ro, .inr (4, [.ref wk, .ref ua, .ref ba, .int bl2, .int (nI men), .int (nI dw), .int (nI rows2)])), (ua, eI D 6 (nF u2)), (ba, eI D 6 (nF b2)), (wk, .inr (8, [.ref kn, .ref vl, .ref pt, .int (nI gone), .ref fc, .ref ovr, .ref bkr, .int l2, .int g2, .int d2])), (kn, eI D 6 (nF kk)), (pt, eI D 6 (nF pp)), (ovr, eI D 480 (nF ov)), (bkr, eI D 480 (nF bk))] ∧ (∀ j, j < len → u2 j = pr9.getD j 0) ∧ (kR (List.foldl kF st ((dfsK (rE kk pp ov bk) men dw 3 h len a).map (fun zr => pr9 ++ zr))) rows2 bl2 b2)) 0 0) : ∀ (t i : Nat), i + t = men → ∀ (u b : Nat → Nat) (rows : Nat) (bl lf dg hd : Int32), (∀ j, j < len → u j = pr9.getD j 0) → kR (List.foldl kF st (((if h = dw then [[]] else []) ++ catN (gK (rE kk pp ov bk) men dw 2 h len a) i).map (fun zr => pr9 ++ zr))) rows bl b → V D X 0 0 29 [(0, .ref ro), (1, .int (nI h)), (2, .int (nI len)), (3, .int (nI a)), (4, .int (nI i))] [] [(ro, .inr (4, [.ref wk, .ref ua, .ref ba, .int bl, .int (nI men), .int (nI dw), .int (nI rows)])), (ua, eI D 6 (nF u)), (ba, eI D 6 (nF b)), (wk, .inr (8, [.ref kn, .ref vl, .ref pt, .int (nI gone), .ref fc, .ref ovr, .ref bkr, .int lf, .int dg, .int hd])), (kn, eI D 6 (nF kk)), (pt, eI D 6 (nF pp)), (ovr, eI D 480 (nF ov)), (bkr, eI D 480 (nF bk))] := by
  intro t
  induction t with
  | zero =>
    intro i hi u b rows bl lf dg hd h1 h2
    refine v_iload O dX4_follow_29 4 rfl ?_
    refine v_aload_n O dX4_follow_31 0 rfl ?_
    refine gf_X4_29 O rfl dX4_follow_32 0 rfl rfl ?_
    refine v_icmp_ge O 53 dX4_follow_35 (by decide) (fun z1 => ?_) (fun z1 => ?_)
    · skip
      have z1 := (c_le' (x := nI i) (y := nI men) (a := i) (b := men) rfl rfl (by omega) (by omega)).mp z1
      exact v_return O T rfl (by decide) (by decide) dX4_follow_53 (⟨_, _, _, _, _, _, _, rfl, rfl, h1, by rw [show i = men by omega] at h2; exact h2⟩)
    · skip
      have z1 := (not_congr (c_le' (x := nI i) (y := nI men) (a := i) (b := men) rfl rfl (by omega) (by omega))).mp z1
      exact absurd z1 (by omega)
  | succ t ih =>
    intro i hi u b rows bl lf dg hd h1 h2
    refine v_iload O dX4_follow_29 4 rfl ?_
    refine v_aload_n O dX4_follow_31 0 rfl ?_
    refine gf_X4_29 O rfl dX4_follow_32 0 rfl rfl ?_
    refine v_icmp_ge O 53 dX4_follow_35 (by decide) (fun z1 => ?_) (fun z1 => ?_)
    · skip
      have z1 := (c_le' (x := nI i) (y := nI men) (a := i) (b := men) rfl rfl (by omega) (by omega)).mp z1
      exact absurd z1 (by omega)
    · skip
      have z1 := (not_congr (c_le' (x := nI i) (y := nI men) (a := i) (b := men) rfl rfl (by omega) (by omega))).mp z1
      refine v_aload_n O dX4_follow_38 0 rfl ?_
      refine v_iload O dX4_follow_39 4 rfl ?_
      refine v_iload_n O dX4_follow_41 1 rfl ?_
      refine v_iload_n O dX4_follow_42 2 rfl ?_
      refine v_iload_n O dX4_follow_43 3 rfl ?_
      refine v_cV (T := TX4) (ci := 4) (As := [.int (nI i), .int (nI h), .int (nI len), .int (nI a)]) (wr := []) (st := []) O cf_X4_63 rfl (sp_X4_wakeNext_2 (ro := ro) (ua := ua) (ba := ba) (men := men) (dw := dw) (wk := wk) (kn := kn) (vl := vl) (pt := pt) (gone := gone) (fc := fc) (ovr := ovr) (bkr := bkr) (kk := kk) (pp := pp) (ov := ov) (bk := bk) (u := u) (b := b) (rows := rows) (bl := bl) (lf := lf) (dg := dg) (hd := hd) (st := (List.foldl kF st (((if h = dw then [[]] else []) ++ catN (gK (rE kk pp ov bk) men dw 2 h len a) i).map (fun zr => pr9 ++ zr)))) (pr9 := pr9) (h := h) (len := len) (a := a) (m := i) (by omega) (hmen) (hh) (hdw) (ha) (hk) (hp) (hp2) (ho) (hb) (h2) (hpl) (h1) (by omega)) dX4_follow_44 rfl rfl 0 rfl [0, 1, 2, 3, 4, 5, 6, 7] [] (by decide) rfl rfl (by decide) (by decide) (by decide) (Nat.le_of_ble_eq_true rfl) (by decide) (by decide) (fun r_2 w_3 h_1 => ?_)
      obtain ⟨u2_4, b2_5, rows2_6, bl2_7, l2_8, g2_9, d2_10, rfl, rfl, h_u, h_s⟩ := h_1
      refine v_eq (st' := []) (ws' := [(ro, .inr (4, [.ref wk, .ref ua, .ref ba, .int bl2_7, .int (nI men), .int (nI dw), .int (nI rows2_6)])), (ua, eI D 6 (nF u2_4)), (ba, eI D 6 (nF b2_5)), (wk, .inr (8, [.ref kn, .ref vl, .ref pt, .int (nI gone), .ref fc, .ref ovr, .ref bkr, .int l2_8, .int g2_9, .int d2_10])), (kn, eI D 6 (nF kk)), (pt, eI D 6 (nF pp)), (ovr, eI D 480 (nF ov)), (bkr, eI D 480 (nF bk))]) rfl rfl rfl rfl ?_
      refine v_iinc (v := nI (i + 1)) (lv' := [(0, .ref ro), (1, .int (nI h)), (2, .int (nI len)), (3, .int (nI a)), (4, .int (nI (i + 1)))]) O dX4_follow_47 4 rfl (nI_1 i) (by decide) rfl ?_
      refine v_goto O 29 dX4_follow_50 (by decide) ?_
      exact ih (i + 1) (by omega) _ _ _ _ _ _ _ h_u (by rw [show catN (gK (rE kk pp ov bk) men dw 2 h len a) (i + 1) = catN (gK (rE kk pp ov bk) men dw 2 h len a) i ++ gK (rE kk pp ov bk) men dw 2 h len a i from rfl, ← List.append_assoc, List.map_append, List.foldl_append]; exact h_s)
set_option maxRecDepth 100000 in
set_option maxHeartbeats 4000000 in
theorem sp_X4_follow_3 {D : G} {ro : Nat} {ua : Nat} {ba : Nat} {men : Nat} {dw : Nat} {wk : Nat} {kn : Nat} {vl : Nat} {pt : Nat} {gone : Nat} {fc : Nat} {ovr : Nat} {bkr : Nat} {kk : Nat → Nat} {pp : Nat → Nat} {ov : Nat → Nat} {bk : Nat → Nat} {u : Nat → Nat} {b : Nat → Nat} {rows : Nat} {bl : Int32} {lf : Int32} {dg : Int32} {hd : Int32} {st : Nat × Option (List Nat)} {pr9 : List Nat} {h : Nat} {len : Nat} {a : Nat} (hlen : len + 3 = men) (hmen : men ≤ 6) (hh : h < 1000000) (hdw : dw < 1000000) (ha : a < 64) (hk : ∀ m, m < 6 → kk m < 7) (hp : ∀ m, 2 ≤ pp m) (hp2 : ∀ m, m < 6 → pp m ≤ 99) (ho : ∀ m, m < men → ∀ s, s < men → ∀ d, d < 10 → ov (slotN m s d) < 1000) (hb : ∀ m, m < men → ∀ s, s < men → ∀ d, d < 10 → bk (slotN m s d) < 1000) (hst : kR st rows bl b) (hpl : pr9.length = len) (hu : ∀ j, j < len → u j = pr9.getD j 0) : Sp D mX4_follow 10 0 0 [.ref ro, .int (nI h), .int (nI len), .int (nI a)] [(ro, .inr (4, [.ref wk, .ref ua, .ref ba, .int bl, .int (nI men), .int (nI dw), .int (nI rows)])), (ua, eI D 6 (nF u)), (ba, eI D 6 (nF b)), (wk, .inr (8, [.ref kn, .ref vl, .ref pt, .int (nI gone), .ref fc, .ref ovr, .ref bkr, .int lf, .int dg, .int hd])), (kn, eI D 6 (nF kk)), (pt, eI D 6 (nF pp)), (ovr, eI D 480 (nF ov)), (bkr, eI D 480 (nF bk))] (fun r w => ∃ u2 : Nat → Nat, ∃ b2 : Nat → Nat, ∃ rows2 : Nat, ∃ bl2 : Int32, ∃ l2 : Int32, ∃ g2 : Int32, ∃ d2 : Int32, r = none ∧ w = [(ro, .inr (4, [.ref wk, .ref ua, .ref ba, .int bl2, .int (nI men), .int (nI dw), .int (nI rows2)])), (ua, eI D 6 (nF u2)), (ba, eI D 6 (nF b2)), (wk, .inr (8, [.ref kn, .ref vl, .ref pt, .int (nI gone), .ref fc, .ref ovr, .ref bkr, .int l2, .int g2, .int d2])), (kn, eI D 6 (nF kk)), (pt, eI D 6 (nF pp)), (ovr, eI D 480 (nF ov)), (bkr, eI D 480 (nF bk))] ∧ (∀ j, j < len → u2 j = pr9.getD j 0) ∧ (kR (List.foldl kF st ((dfsK (rE kk pp ov bk) men dw 3 h len a).map (fun zr => pr9 ++ zr))) rows2 bl2 b2)) := by
  refine Sp.of (by decide) (Nat.le_of_ble_eq_true rfl) (fun X O T => ?_)
  refine v_eq (lv' := [(0, .ref ro), (1, .int (nI h)), (2, .int (nI len)), (3, .int (nI a))]) rfl rfl rfl rfl ?_
  refine v_iload_n O dX4_follow_0 1 rfl ?_
  refine v_aload_n O dX4_follow_1 0 rfl ?_
  refine gf_X4_32 O rfl dX4_follow_2 0 rfl rfl ?_
  refine v_icmp_ne O 13 dX4_follow_5 (by decide) (fun z1 => ?_) (fun z1 => ?_)
  · skip
    have z1 := (not_congr (c_eq (x := nI h) (y := nI dw) (a := h) (b := dw) rfl rfl (by omega) (by omega))).mp z1
    refine v_iload_n O dX4_follow_13 2 rfl ?_
    refine v_if_lt O 25 dX4_follow_14 (by decide) (fun c_1 => ?_) (fun c_1 => ?_)
    · skip
      have c_1 := (c_lt (x := nI len) (y := 0) (a := len) (b := 0) rfl rfl (by omega) (by omega)).mp c_1
      exact absurd c_1 (by omega)
    · skip
      have c_1 := (not_congr (c_lt (x := nI len) (y := 0) (a := len) (b := 0) rfl rfl (by omega) (by omega))).mp c_1
      refine v_iload_n O dX4_follow_17 2 rfl ?_
      refine v_aload_n O dX4_follow_18 0 rfl ?_
      refine gf_X4_29 O rfl dX4_follow_19 0 rfl rfl ?_
      refine v_icmp_lt O 26 dX4_follow_22 (by decide) (fun z3 => ?_) (fun z3 => ?_)
      · skip
        have z3 := (c_lt (x := nI len) (y := nI men) (a := len) (b := men) rfl rfl (by omega) (by omega)).mp z3
        refine v_iconst (v := 0) O dX4_follow_26 (by decide) ?_
        refine v_istore (lv' := [(0, .ref ro), (1, .int (nI h)), (2, .int (nI len)), (3, .int (nI a)), (4, .int 0)]) O dX4_follow_27 (by decide) rfl ?_
        refine v_eq (lv' := [(0, .ref ro), (1, .int (nI h)), (2, .int (nI len)), (3, .int (nI a)), (4, .int (nI 0))]) rfl rfl rfl rfl ?_
        exact l_X4_follow_3 O hlen hmen hh hdw ha hk hp hp2 ho hb hpl T men 0 (by omega) _ _ _ _ _ _ _ hu (by rw [if_neg z1]; simpa [catN] using hst)
      · skip
        have z3 := (not_congr (c_lt (x := nI len) (y := nI men) (a := len) (b := men) rfl rfl (by omega) (by omega))).mp z3
        exact absurd z3 (by omega)
  · skip
    have z1 := (c_eq (x := nI h) (y := nI dw) (a := h) (b := dw) rfl rfl (by omega) (by omega)).mp z1
    refine v_aload_n O dX4_follow_8 0 rfl ?_
    refine v_iload_n O dX4_follow_9 2 rfl ?_
    refine v_cV (T := TX4) (ci := 4) (As := [.int (nI len)]) (wr := [(wk, .inr (8, [.ref kn, .ref vl, .ref pt, .int (nI gone), .ref fc, .ref ovr, .ref bkr, .int lf, .int dg, .int hd])), (kn, eI D 6 (nF kk)), (pt, eI D 6 (nF pp)), (ovr, eI D 480 (nF ov)), (bkr, eI D 480 (nF bk))]) (st := []) O cf_X4_59 rfl (sp_X4_keep (ro := ro) (ua := ua) (ba := ba) (men := men) (dw := dw) (wk := wk) (u := u) (b := b) (rows := rows) (bl := bl) (st := st) (pr9 := pr9) (len := len) (hst) (by omega) (hpl) (hu)) dX4_follow_10 rfl rfl 0 rfl [0, 1, 2] [3, 4, 5, 6, 7] (by decide) rfl rfl (by decide) (by decide) (by decide) (Nat.le_of_ble_eq_true rfl) (by decide) (by decide) (fun r_3 w_4 h_2 => ?_)
    obtain ⟨bl2_5, b2_6, rfl, rfl, h_k⟩ := h_2
    refine v_eq (st' := []) (ws' := [(wk, .inr (8, [.ref kn, .ref vl, .ref pt, .int (nI gone), .ref fc, .ref ovr, .ref bkr, .int lf, .int dg, .int hd])), (kn, eI D 6 (nF kk)), (pt, eI D 6 (nF pp)), (ovr, eI D 480 (nF ov)), (bkr, eI D 480 (nF bk)), (ro, .inr (4, [.ref wk, .ref ua, .ref ba, .int bl2_5, .int (nI men), .int (nI dw), .int (nI (rows + 1))])), (ua, eI D 6 (nF u)), (ba, eI D 6 (nF b2_6))]) rfl rfl rfl rfl ?_
    refine v_iload_n O dX4_follow_13 2 rfl ?_
    refine v_if_lt O 25 dX4_follow_14 (by decide) (fun c_7 => ?_) (fun c_7 => ?_)
    · skip
      have c_7 := (c_lt (x := nI len) (y := 0) (a := len) (b := 0) rfl rfl (by omega) (by omega)).mp c_7
      exact absurd c_7 (by omega)
    · skip
      have c_7 := (not_congr (c_lt (x := nI len) (y := 0) (a := len) (b := 0) rfl rfl (by omega) (by omega))).mp c_7
      refine v_iload_n O dX4_follow_17 2 rfl ?_
      refine v_aload_n O dX4_follow_18 0 rfl ?_
      refine gf_X4_29 O rfl dX4_follow_19 5 rfl rfl ?_
      refine v_icmp_lt O 26 dX4_follow_22 (by decide) (fun z3 => ?_) (fun z3 => ?_)
      · skip
        have z3 := (c_lt (x := nI len) (y := nI men) (a := len) (b := men) rfl rfl (by omega) (by omega)).mp z3
        refine v_iconst (v := 0) O dX4_follow_26 (by decide) ?_
        refine v_istore (lv' := [(0, .ref ro), (1, .int (nI h)), (2, .int (nI len)), (3, .int (nI a)), (4, .int 0)]) O dX4_follow_27 (by decide) rfl ?_
        refine v_sub (ws' := [(ro, .inr (4, [.ref wk, .ref ua, .ref ba, .int bl2_5, .int (nI men), .int (nI dw), .int (nI (rows + 1))])), (ua, eI D 6 (nF u)), (ba, eI D 6 (nF b2_6)), (wk, .inr (8, [.ref kn, .ref vl, .ref pt, .int (nI gone), .ref fc, .ref ovr, .ref bkr, .int lf, .int dg, .int hd])), (kn, eI D 6 (nF kk)), (pt, eI D 6 (nF pp)), (ovr, eI D 480 (nF ov)), (bkr, eI D 480 (nF bk))]) [5, 6, 7, 0, 1, 2, 3, 4] (by decide) rfl ?_
        refine v_eq (lv' := [(0, .ref ro), (1, .int (nI h)), (2, .int (nI len)), (3, .int (nI a)), (4, .int (nI 0))]) rfl rfl rfl rfl ?_
        exact l_X4_follow_3 O hlen hmen hh hdw ha hk hp hp2 ho hb hpl T men 0 (by omega) _ _ _ _ _ _ _ hu (by rw [if_pos z1]; simpa [catN] using h_k)
      · skip
        have z3 := (not_congr (c_lt (x := nI len) (y := nI men) (a := len) (b := men) rfl rfl (by omega) (by omega))).mp z3
        exact absurd z3 (by omega)
set_option maxRecDepth 100000 in
set_option maxHeartbeats 4000000 in
theorem sp_X4_wakeNext_3 {D : G} {ro : Nat} {ua : Nat} {ba : Nat} {men : Nat} {dw : Nat} {wk : Nat} {kn : Nat} {vl : Nat} {pt : Nat} {gone : Nat} {fc : Nat} {ovr : Nat} {bkr : Nat} {kk : Nat → Nat} {pp : Nat → Nat} {ov : Nat → Nat} {bk : Nat → Nat} {u : Nat → Nat} {b : Nat → Nat} {rows : Nat} {bl : Int32} {lf : Int32} {dg : Int32} {hd : Int32} {st : Nat × Option (List Nat)} {pr9 : List Nat} {h : Nat} {len : Nat} {a : Nat} {m : Nat} (hlen : len + 4 = men) (hmen : men ≤ 6) (hh : h < 1000000) (hdw : dw < 1000000) (ha : a < 64) (hk : ∀ m, m < 6 → kk m < 7) (hp : ∀ m, 2 ≤ pp m) (hp2 : ∀ m, m < 6 → pp m ≤ 99) (ho : ∀ m, m < men → ∀ s, s < men → ∀ d, d < 10 → ov (slotN m s d) < 1000) (hb : ∀ m, m < men → ∀ s, s < men → ∀ d, d < 10 → bk (slotN m s d) < 1000) (hst : kR st rows bl b) (hpl : pr9.length = len) (hu : ∀ j, j < len → u j = pr9.getD j 0) (hm : m < men) : Sp D mX4_wakeNext 11 0 0 [.ref ro, .int (nI m), .int (nI h), .int (nI len), .int (nI a)] [(ro, .inr (4, [.ref wk, .ref ua, .ref ba, .int bl, .int (nI men), .int (nI dw), .int (nI rows)])), (ua, eI D 6 (nF u)), (ba, eI D 6 (nF b)), (wk, .inr (8, [.ref kn, .ref vl, .ref pt, .int (nI gone), .ref fc, .ref ovr, .ref bkr, .int lf, .int dg, .int hd])), (kn, eI D 6 (nF kk)), (pt, eI D 6 (nF pp)), (ovr, eI D 480 (nF ov)), (bkr, eI D 480 (nF bk))] (fun r w => ∃ u2 : Nat → Nat, ∃ b2 : Nat → Nat, ∃ rows2 : Nat, ∃ bl2 : Int32, ∃ l2 : Int32, ∃ g2 : Int32, ∃ d2 : Int32, r = none ∧ w = [(ro, .inr (4, [.ref wk, .ref ua, .ref ba, .int bl2, .int (nI men), .int (nI dw), .int (nI rows2)])), (ua, eI D 6 (nF u2)), (ba, eI D 6 (nF b2)), (wk, .inr (8, [.ref kn, .ref vl, .ref pt, .int (nI gone), .ref fc, .ref ovr, .ref bkr, .int l2, .int g2, .int d2])), (kn, eI D 6 (nF kk)), (pt, eI D 6 (nF pp)), (ovr, eI D 480 (nF ov)), (bkr, eI D 480 (nF bk))] ∧ (∀ j, j < len → u2 j = pr9.getD j 0) ∧ (kR (List.foldl kF st ((gK (rE kk pp ov bk) men dw 3 h len a m).map (fun zr => pr9 ++ zr))) rows2 bl2 b2)) := by
  refine Sp.of (by decide) (Nat.le_of_ble_eq_true rfl) (fun X O T => ?_)
  refine v_eq (lv' := [(0, .ref ro), (1, .int (nI m)), (2, .int (nI h)), (3, .int (nI len)), (4, .int (nI a))]) rfl rfl rfl rfl ?_
  refine v_iload O dX4_wakeNext_0 4 rfl ?_
  refine v_iload_n O dX4_wakeNext_2 1 rfl ?_
  refine v_ishr O dX4_wakeNext_3 ?_
  refine v_iconst (v := 1) O dX4_wakeNext_4 (by decide) ?_
  refine v_iand O dX4_wakeNext_5 ?_
  refine v_top (y := nI (a / 2 ^ m % 2)) (bitS ha (by omega)) ?_
  refine v_if_ne O 13 dX4_wakeNext_6 (by decide) (fun z1 => ?_) (fun z1 => ?_)
  · skip
    have z1 := (not_congr (c_eq (x := nI (a / 2 ^ m % 2)) (y := 0) (a := a / 2 ^ m % 2) (b := 0) rfl rfl (by omega) (by omega))).mp z1
    refine v_iconst (v := 0) O dX4_wakeNext_13 (by decide) ?_
    refine v_istore (lv' := [(0, .ref ro), (1, .int (nI m)), (2, .int (nI h)), (3, .int (nI len)), (4, .int (nI a)), (5, .int 0)]) O dX4_wakeNext_14 (by decide) rfl ?_
    refine v_iload O dX4_wakeNext_16 5 rfl ?_
    refine v_if_eq O 71 dX4_wakeNext_18 (by decide) (fun _ => ?_) (fun c => absurd c (by decide))
    exact v_return O T rfl (by decide) (by decide) dX4_wakeNext_71 (⟨_, _, _, _, _, _, _, rfl, rfl, hu, by rw [gK_a z1]; exact hst⟩)
  · skip
    have z1 := (c_eq (x := nI (a / 2 ^ m % 2)) (y := 0) (a := a / 2 ^ m % 2) (b := 0) rfl rfl (by omega) (by omega)).mp z1
    refine v_iconst (v := 1) O dX4_wakeNext_9 (by decide) ?_
    refine v_goto O 14 dX4_wakeNext_10 (by decide) ?_
    refine v_istore (lv' := [(0, .ref ro), (1, .int (nI m)), (2, .int (nI h)), (3, .int (nI len)), (4, .int (nI a)), (5, .int 1)]) O dX4_wakeNext_14 (by decide) rfl ?_
    refine v_iload O dX4_wakeNext_16 5 rfl ?_
    refine v_if_eq O 71 dX4_wakeNext_18 (by decide) (fun c => absurd c (by decide)) (fun _ => ?_)
    refine v_iload_n O dX4_wakeNext_21 3 rfl ?_
    refine v_if_lt O 71 dX4_wakeNext_22 (by decide) (fun c_3 => ?_) (fun c_3 => ?_)
    · skip
      have c_3 := (c_lt (x := nI len) (y := 0) (a := len) (b := 0) rfl rfl (by omega) (by omega)).mp c_3
      exact absurd c_3 (by omega)
    · skip
      have c_3 := (not_congr (c_lt (x := nI len) (y := 0) (a := len) (b := 0) rfl rfl (by omega) (by omega))).mp c_3
      refine v_iload_n O dX4_wakeNext_25 3 rfl ?_
      refine v_bipush (v := 6) O dX4_wakeNext_26 (by decide) ?_
      refine v_icmp_ge O 71 dX4_wakeNext_28 (by decide) (fun z2 => ?_) (fun z2 => ?_)
      · skip
        have z2 := (c_le' (x := nI len) (y := 6) (a := len) (b := 6) rfl rfl (by omega) (by omega)).mp z2
        exact absurd z2 (by omega)
      · skip
        have z2 := (not_congr (c_le' (x := nI len) (y := 6) (a := len) (b := 6) rfl rfl (by omega) (by omega))).mp z2
        refine v_aload_n O dX4_wakeNext_31 0 rfl ?_
        refine gf_X4_12 O rfl dX4_wakeNext_32 0 rfl rfl ?_
        refine v_iload_n O dX4_wakeNext_35 1 rfl ?_
        refine v_iload_n O dX4_wakeNext_36 3 rfl ?_
        refine v_iload_n O dX4_wakeNext_37 2 rfl ?_
        refine v_cV (T := TX8) (ci := 8) (As := [.int (nI m), .int (nI len), .int (nI h)]) (wr := [(ro, .inr (4, [.ref wk, .ref ua, .ref ba, .int bl, .int (nI men), .int (nI dw), .int (nI rows)])), (ua, eI D 6 (nF u)), (ba, eI D 6 (nF b))]) (st := []) O cf_X4_67 rfl (sp_X8_comesOut (wk := wk) (kn := kn) (vl := vl) (pt := pt) (gone := gone) (fc := fc) (ovr := ovr) (bkr := bkr) (lf := lf) (dg := dg) (hd := hd) (kk := kk) (pp := pp) (ov := ov) (bk := bk) (m := m) (s := len) (h := h) (by omega) (by omega) (hh) (hk m (by omega)) (hp m) (hp2 m (by omega)) (ho m hm len (by omega)) (hb m hm len (by omega))) dX4_wakeNext_38 rfl rfl 3 rfl [3, 4, 5, 6, 7] [0, 1, 2] (by decide) rfl rfl (by decide) (by decide) (by decide) (Nat.le_of_ble_eq_true rfl) (by decide) (by decide) (fun r_5 w_6 h_4 => ?_)
        obtain ⟨rfl, rfl⟩ := h_4
        refine v_eq (st' := [.int (b2i (¬ wakeN (kk m) (pp m) (fun zd => ov (slotN m len zd)) (fun zd => bk (slotN m len zd)) h = none))]) (ws' := [(ro, .inr (4, [.ref wk, .ref ua, .ref ba, .int bl, .int (nI men), .int (nI dw), .int (nI rows)])), (ua, eI D 6 (nF u)), (ba, eI D 6 (nF b)), (wk, .inr (8, [.ref kn, .ref vl, .ref pt, .int (nI gone), .ref fc, .ref ovr, .ref bkr, .int (nI (oL (wakeN (kk m) (pp m) (fun zd => ov (slotN m len zd)) (fun zd => bk (slotN m len zd)) h) h)), .int (nI (oG (wakeN (kk m) (pp m) (fun zd => ov (slotN m len zd)) (fun zd => bk (slotN m len zd)) h) 0)), .int (nI (oD (wakeN (kk m) (pp m) (fun zd => ov (slotN m len zd)) (fun zd => bk (slotN m len zd)) h) 0))])), (kn, eI D 6 (nF kk)), (pt, eI D 6 (nF pp)), (ovr, eI D 480 (nF ov)), (bkr, eI D 480 (nF bk))]) rfl rfl rfl rfl ?_
        refine v_if_eq O 71 dX4_wakeNext_41 (by decide) (fun z3 => ?_) (fun z3 => ?_)
        · skip
          have z3 := b2i_0.mp z3
          have z3 : rE kk pp ov bk m len h = none := Classical.not_not.mp z3
          exact v_return O T rfl (by decide) (by decide) dX4_wakeNext_71 (⟨_, _, _, _, _, _, _, rfl, rfl, hu, by rw [gK_n z3]; exact hst⟩)
        · skip
          have z3 := b2i_1.mp z3
          have z3 : ¬ rE kk pp ov bk m len h = none := z3
          have z_hl : oL (wakeN (kk m) (pp m) (fun zd => ov (slotN m len zd)) (fun zd => bk (slotN m len zd)) h) h ≤ h := oL_lew (hp m)
          refine v_aload_n O dX4_wakeNext_44 0 rfl ?_
          refine gf_X4_18 O rfl dX4_wakeNext_45 0 rfl rfl ?_
          refine v_iload_n O dX4_wakeNext_48 3 rfl ?_
          refine v_iload_n O dX4_wakeNext_49 1 rfl ?_
          refine v_iastk (ws' := [(ro, .inr (4, [.ref wk, .ref ua, .ref ba, .int bl, .int (nI men), .int (nI dw), .int (nI rows)])), (ua, eI D 6 (nF (uN u len m))), (ba, eI D 6 (nF b)), (wk, .inr (8, [.ref kn, .ref vl, .ref pt, .int (nI gone), .ref fc, .ref ovr, .ref bkr, .int (nI (oL (wakeN (kk m) (pp m) (fun zd => ov (slotN m len zd)) (fun zd => bk (slotN m len zd)) h) h)), .int (nI (oG (wakeN (kk m) (pp m) (fun zd => ov (slotN m len zd)) (fun zd => bk (slotN m len zd)) h) 0)), .int (nI (oD (wakeN (kk m) (pp m) (fun zd => ov (slotN m len zd)) (fun zd => bk (slotN m len zd)) h) 0))])), (kn, eI D 6 (nF kk)), (pt, eI D 6 (nF pp)), (ovr, eI D 480 (nF ov)), (bkr, eI D 480 (nF bk))]) O dX4_wakeNext_50 1 rfl len (rfl) (by omega) (by decide) (by rw [upd_nF]; rfl) ?_
          refine v_aload_n O dX4_wakeNext_51 0 rfl ?_
          refine v_aload_n O dX4_wakeNext_52 0 rfl ?_
          refine gf_X4_12 O rfl dX4_wakeNext_53 0 rfl rfl ?_
          refine gf_X4_71 O rfl dX4_wakeNext_56 3 rfl rfl ?_
          refine v_iload_n O dX4_wakeNext_59 3 rfl ?_
          refine v_iconst (v := 1) O dX4_wakeNext_60 (by decide) ?_
          refine v_iadd O dX4_wakeNext_61 ?_
          refine v_top (y := nI (len + 1)) (nI_add len 1) ?_
          refine v_iload O dX4_wakeNext_62 4 rfl ?_
          refine v_iconst (v := 1) O dX4_wakeNext_64 (by decide) ?_
          refine v_iload_n O dX4_wakeNext_65 1 rfl ?_
          refine v_ishl O dX4_wakeNext_66 ?_
          refine v_ior O dX4_wakeNext_67 ?_
          refine v_top (y := nI (a + 2 ^ m)) (bitO ha (by omega) z1) ?_
          refine v_cV (T := TX4) (ci := 4) (As := [.int (nI (oL (wakeN (kk m) (pp m) (fun zd => ov (slotN m len zd)) (fun zd => bk (slotN m len zd)) h) h)), .int (nI (len + 1)), .int (nI (a + 2 ^ m))]) (wr := []) (st := []) O cf_X4_55 rfl (sp_X4_follow_3 (ro := ro) (ua := ua) (ba := ba) (men := men) (dw := dw) (wk := wk) (kn := kn) (vl := vl) (pt := pt) (gone := gone) (fc := fc) (ovr := ovr) (bkr := bkr) (kk := kk) (pp := pp) (ov := ov) (bk := bk) (u := (uN u len m)) (b := b) (rows := rows) (bl := bl) (lf := (nI (oL (wakeN (kk m) (pp m) (fun zd => ov (slotN m len zd)) (fun zd => bk (slotN m len zd)) h) h))) (dg := (nI (oG (wakeN (kk m) (pp m) (fun zd => ov (slotN m len zd)) (fun zd => bk (slotN m len zd)) h) 0))) (hd := (nI (oD (wakeN (kk m) (pp m) (fun zd => ov (slotN m len zd)) (fun zd => bk (slotN m len zd)) h) 0))) (st := st) (pr9 := (pr9 ++ [m])) (h := (oL (wakeN (kk m) (pp m) (fun zd => ov (slotN m len zd)) (fun zd => bk (slotN m len zd)) h) h)) (len := (len + 1)) (a := (a + 2 ^ m)) (by omega) (hmen) (by omega) (hdw) (bitL ha (by omega) z1) (hk) (hp) (hp2) (ho) (hb) (hst) (by simp; omega) (roUp hpl hu)) dX4_wakeNext_68 rfl rfl 0 rfl [0, 1, 2, 3, 4, 5, 6, 7] [] (by decide) rfl rfl (by decide) (by decide) (by decide) (Nat.le_of_ble_eq_true rfl) (by decide) (by decide) (fun r_8 w_9 h_7 => ?_)
          obtain ⟨u2_10, b2_11, rows2_12, bl2_13, l2_14, g2_15, d2_16, rfl, rfl, h_u, h_s⟩ := h_7
          refine v_eq (st' := []) (ws' := [(ro, .inr (4, [.ref wk, .ref ua, .ref ba, .int bl2_13, .int (nI men), .int (nI dw), .int (nI rows2_12)])), (ua, eI D 6 (nF u2_10)), (ba, eI D 6 (nF b2_11)), (wk, .inr (8, [.ref kn, .ref vl, .ref pt, .int (nI gone), .ref fc, .ref ovr, .ref bkr, .int l2_14, .int g2_15, .int d2_16])), (kn, eI D 6 (nF kk)), (pt, eI D 6 (nF pp)), (ovr, eI D 480 (nF ov)), (bkr, eI D 480 (nF bk))]) rfl rfl rfl rfl ?_
          exact v_return O T rfl (by decide) (by decide) dX4_wakeNext_71 (⟨_, _, _, _, _, _, _, rfl, rfl, (fun j hj => by rw [h_u j (by omega)]; exact getD_ap (by omega)), by rw [gK_s z1 z3, map_pre]; exact h_s⟩)
set_option maxRecDepth 100000 in
set_option maxHeartbeats 4000000 in
theorem l_X4_follow_4 {D : G} {X : CX} {ro : Nat} {ua : Nat} {ba : Nat} {men : Nat} {dw : Nat} {wk : Nat} {kn : Nat} {vl : Nat} {pt : Nat} {gone : Nat} {fc : Nat} {ovr : Nat} {bkr : Nat} {kk : Nat → Nat} {pp : Nat → Nat} {ov : Nat → Nat} {bk : Nat → Nat} {st : Nat × Option (List Nat)} {pr9 : List Nat} {h : Nat} {len : Nat} {a : Nat} (O : Ok D X mX4_follow 12 0 0) (hlen : len + 4 = men) (hmen : men ≤ 6) (hh : h < 1000000) (hdw : dw < 1000000) (ha : a < 64) (hk : ∀ m, m < 6 → kk m < 7) (hp : ∀ m, 2 ≤ pp m) (hp2 : ∀ m, m < 6 → pp m ≤ 99) (ho : ∀ m, m < men → ∀ s, s < men → ∀ d, d < 10 → ov (slotN m s d) < 1000) (hb : ∀ m, m < men → ∀ s, s < men → ∀ d, d < 10 → bk (slotN m s d) < 1000) (hpl : pr9.length = len) (T : Rt D X (fun r w => ∃ u2 : Nat → Nat, ∃ b2 : Nat → Nat, ∃ rows2 : Nat, ∃ bl2 : Int32, ∃ l2 : Int32, ∃ g2 : Int32, ∃ d2 : Int32, r = none ∧ w = [(ro, .inr (4, [.ref wk, .ref ua, .ref ba, .int bl2, .int (nI men), .int (nI dw), .int (nI rows2)])), (ua, eI D 6 (nF u2)), (ba, eI D 6 (nF b2)), (wk, .inr (8, [.ref kn, .ref vl, .ref pt, .int (nI gone), .ref fc, .ref ovr, .ref bkr, .int l2, .int g2, .int d2])), (kn, eI D 6 (nF kk)), (pt, eI D 6 (nF pp)), (ovr, eI D 480 (nF ov)), (bkr, eI D 480 (nF bk))] ∧ (∀ j, j < len → u2 j = pr9.getD j 0) ∧ (kR (List.foldl kF st ((dfsK (rE kk pp ov bk) men dw 4 h len a).map (fun zr => pr9 ++ zr))) rows2 bl2 b2)) 0 0) : ∀ (t i : Nat), i + t = men → ∀ (u b : Nat → Nat) (rows : Nat) (bl lf dg hd : Int32), (∀ j, j < len → u j = pr9.getD j 0) → kR (List.foldl kF st (((if h = dw then [[]] else []) ++ catN (gK (rE kk pp ov bk) men dw 3 h len a) i).map (fun zr => pr9 ++ zr))) rows bl b → V D X 0 0 29 [(0, .ref ro), (1, .int (nI h)), (2, .int (nI len)), (3, .int (nI a)), (4, .int (nI i))] [] [(ro, .inr (4, [.ref wk, .ref ua, .ref ba, .int bl, .int (nI men), .int (nI dw), .int (nI rows)])), (ua, eI D 6 (nF u)), (ba, eI D 6 (nF b)), (wk, .inr (8, [.ref kn, .ref vl, .ref pt, .int (nI gone), .ref fc, .ref ovr, .ref bkr, .int lf, .int dg, .int hd])), (kn, eI D 6 (nF kk)), (pt, eI D 6 (nF pp)), (ovr, eI D 480 (nF ov)), (bkr, eI D 480 (nF bk))] := by
  intro t
  induction t with
  | zero =>
    intro i hi u b rows bl lf dg hd h1 h2
    refine v_iload O dX4_follow_29 4 rfl ?_
    refine v_aload_n O dX4_follow_31 0 rfl ?_
    refine gf_X4_29 O rfl dX4_follow_32 0 rfl rfl ?_
    refine v_icmp_ge O 53 dX4_follow_35 (by decide) (fun z1 => ?_) (fun z1 => ?_)
    · skip
      have z1 := (c_le' (x := nI i) (y := nI men) (a := i) (b := men) rfl rfl (by omega) (by omega)).mp z1
      exact v_return O T rfl (by decide) (by decide) dX4_follow_53 (⟨_, _, _, _, _, _, _, rfl, rfl, h1, by rw [show i = men by omega] at h2; exact h2⟩)
    · skip
      have z1 := (not_congr (c_le' (x := nI i) (y := nI men) (a := i) (b := men) rfl rfl (by omega) (by omega))).mp z1
      exact absurd z1 (by omega)
  | succ t ih =>
    intro i hi u b rows bl lf dg hd h1 h2
    refine v_iload O dX4_follow_29 4 rfl ?_
    refine v_aload_n O dX4_follow_31 0 rfl ?_
    refine gf_X4_29 O rfl dX4_follow_32 0 rfl rfl ?_
    refine v_icmp_ge O 53 dX4_follow_35 (by decide) (fun z1 => ?_) (fun z1 => ?_)
    · skip
      have z1 := (c_le' (x := nI i) (y := nI men) (a := i) (b := men) rfl rfl (by omega) (by omega)).mp z1
      exact absurd z1 (by omega)
    · skip
      have z1 := (not_congr (c_le' (x := nI i) (y := nI men) (a := i) (b := men) rfl rfl (by omega) (by omega))).mp z1
      refine v_aload_n O dX4_follow_38 0 rfl ?_
      refine v_iload O dX4_follow_39 4 rfl ?_
      refine v_iload_n O dX4_follow_41 1 rfl ?_
      refine v_iload_n O dX4_follow_42 2 rfl ?_
      refine v_iload_n O dX4_follow_43 3 rfl ?_
      refine v_cV (T := TX4) (ci := 4) (As := [.int (nI i), .int (nI h), .int (nI len), .int (nI a)]) (wr := []) (st := []) O cf_X4_63 rfl (sp_X4_wakeNext_3 (ro := ro) (ua := ua) (ba := ba) (men := men) (dw := dw) (wk := wk) (kn := kn) (vl := vl) (pt := pt) (gone := gone) (fc := fc) (ovr := ovr) (bkr := bkr) (kk := kk) (pp := pp) (ov := ov) (bk := bk) (u := u) (b := b) (rows := rows) (bl := bl) (lf := lf) (dg := dg) (hd := hd) (st := (List.foldl kF st (((if h = dw then [[]] else []) ++ catN (gK (rE kk pp ov bk) men dw 3 h len a) i).map (fun zr => pr9 ++ zr)))) (pr9 := pr9) (h := h) (len := len) (a := a) (m := i) (by omega) (hmen) (hh) (hdw) (ha) (hk) (hp) (hp2) (ho) (hb) (h2) (hpl) (h1) (by omega)) dX4_follow_44 rfl rfl 0 rfl [0, 1, 2, 3, 4, 5, 6, 7] [] (by decide) rfl rfl (by decide) (by decide) (by decide) (Nat.le_of_ble_eq_true rfl) (by decide) (by decide) (fun r_2 w_3 h_1 => ?_)
      obtain ⟨u2_4, b2_5, rows2_6, bl2_7, l2_8, g2_9, d2_10, rfl, rfl, h_u, h_s⟩ := h_1
      refine v_eq (st' := []) (ws' := [(ro, .inr (4, [.ref wk, .ref ua, .ref ba, .int bl2_7, .int (nI men), .int (nI dw), .int (nI rows2_6)])), (ua, eI D 6 (nF u2_4)), (ba, eI D 6 (nF b2_5)), (wk, .inr (8, [.ref kn, .ref vl, .ref pt, .int (nI gone), .ref fc, .ref ovr, .ref bkr, .int l2_8, .int g2_9, .int d2_10])), (kn, eI D 6 (nF kk)), (pt, eI D 6 (nF pp)), (ovr, eI D 480 (nF ov)), (bkr, eI D 480 (nF bk))]) rfl rfl rfl rfl ?_
      refine v_iinc (v := nI (i + 1)) (lv' := [(0, .ref ro), (1, .int (nI h)), (2, .int (nI len)), (3, .int (nI a)), (4, .int (nI (i + 1)))]) O dX4_follow_47 4 rfl (nI_1 i) (by decide) rfl ?_
      refine v_goto O 29 dX4_follow_50 (by decide) ?_
      exact ih (i + 1) (by omega) _ _ _ _ _ _ _ h_u (by rw [show catN (gK (rE kk pp ov bk) men dw 3 h len a) (i + 1) = catN (gK (rE kk pp ov bk) men dw 3 h len a) i ++ gK (rE kk pp ov bk) men dw 3 h len a i from rfl, ← List.append_assoc, List.map_append, List.foldl_append]; exact h_s)
set_option maxRecDepth 100000 in
set_option maxHeartbeats 4000000 in
theorem sp_X4_follow_4 {D : G} {ro : Nat} {ua : Nat} {ba : Nat} {men : Nat} {dw : Nat} {wk : Nat} {kn : Nat} {vl : Nat} {pt : Nat} {gone : Nat} {fc : Nat} {ovr : Nat} {bkr : Nat} {kk : Nat → Nat} {pp : Nat → Nat} {ov : Nat → Nat} {bk : Nat → Nat} {u : Nat → Nat} {b : Nat → Nat} {rows : Nat} {bl : Int32} {lf : Int32} {dg : Int32} {hd : Int32} {st : Nat × Option (List Nat)} {pr9 : List Nat} {h : Nat} {len : Nat} {a : Nat} (hlen : len + 4 = men) (hmen : men ≤ 6) (hh : h < 1000000) (hdw : dw < 1000000) (ha : a < 64) (hk : ∀ m, m < 6 → kk m < 7) (hp : ∀ m, 2 ≤ pp m) (hp2 : ∀ m, m < 6 → pp m ≤ 99) (ho : ∀ m, m < men → ∀ s, s < men → ∀ d, d < 10 → ov (slotN m s d) < 1000) (hb : ∀ m, m < men → ∀ s, s < men → ∀ d, d < 10 → bk (slotN m s d) < 1000) (hst : kR st rows bl b) (hpl : pr9.length = len) (hu : ∀ j, j < len → u j = pr9.getD j 0) : Sp D mX4_follow 12 0 0 [.ref ro, .int (nI h), .int (nI len), .int (nI a)] [(ro, .inr (4, [.ref wk, .ref ua, .ref ba, .int bl, .int (nI men), .int (nI dw), .int (nI rows)])), (ua, eI D 6 (nF u)), (ba, eI D 6 (nF b)), (wk, .inr (8, [.ref kn, .ref vl, .ref pt, .int (nI gone), .ref fc, .ref ovr, .ref bkr, .int lf, .int dg, .int hd])), (kn, eI D 6 (nF kk)), (pt, eI D 6 (nF pp)), (ovr, eI D 480 (nF ov)), (bkr, eI D 480 (nF bk))] (fun r w => ∃ u2 : Nat → Nat, ∃ b2 : Nat → Nat, ∃ rows2 : Nat, ∃ bl2 : Int32, ∃ l2 : Int32, ∃ g2 : Int32, ∃ d2 : Int32, r = none ∧ w = [(ro, .inr (4, [.ref wk, .ref ua, .ref ba, .int bl2, .int (nI men), .int (nI dw), .int (nI rows2)])), (ua, eI D 6 (nF u2)), (ba, eI D 6 (nF b2)), (wk, .inr (8, [.ref kn, .ref vl, .ref pt, .int (nI gone), .ref fc, .ref ovr, .ref bkr, .int l2, .int g2, .int d2])), (kn, eI D 6 (nF kk)), (pt, eI D 6 (nF pp)), (ovr, eI D 480 (nF ov)), (bkr, eI D 480 (nF bk))] ∧ (∀ j, j < len → u2 j = pr9.getD j 0) ∧ (kR (List.foldl kF st ((dfsK (rE kk pp ov bk) men dw 4 h len a).map (fun zr => pr9 ++ zr))) rows2 bl2 b2)) := by
  refine Sp.of (by decide) (Nat.le_of_ble_eq_true rfl) (fun X O T => ?_)
  refine v_eq (lv' := [(0, .ref ro), (1, .int (nI h)), (2, .int (nI len)), (3, .int (nI a))]) rfl rfl rfl rfl ?_
  refine v_iload_n O dX4_follow_0 1 rfl ?_
  refine v_aload_n O dX4_follow_1 0 rfl ?_
  refine gf_X4_32 O rfl dX4_follow_2 0 rfl rfl ?_
  refine v_icmp_ne O 13 dX4_follow_5 (by decide) (fun z1 => ?_) (fun z1 => ?_)
  · skip
    have z1 := (not_congr (c_eq (x := nI h) (y := nI dw) (a := h) (b := dw) rfl rfl (by omega) (by omega))).mp z1
    refine v_iload_n O dX4_follow_13 2 rfl ?_
    refine v_if_lt O 25 dX4_follow_14 (by decide) (fun c_1 => ?_) (fun c_1 => ?_)
    · skip
      have c_1 := (c_lt (x := nI len) (y := 0) (a := len) (b := 0) rfl rfl (by omega) (by omega)).mp c_1
      exact absurd c_1 (by omega)
    · skip
      have c_1 := (not_congr (c_lt (x := nI len) (y := 0) (a := len) (b := 0) rfl rfl (by omega) (by omega))).mp c_1
      refine v_iload_n O dX4_follow_17 2 rfl ?_
      refine v_aload_n O dX4_follow_18 0 rfl ?_
      refine gf_X4_29 O rfl dX4_follow_19 0 rfl rfl ?_
      refine v_icmp_lt O 26 dX4_follow_22 (by decide) (fun z3 => ?_) (fun z3 => ?_)
      · skip
        have z3 := (c_lt (x := nI len) (y := nI men) (a := len) (b := men) rfl rfl (by omega) (by omega)).mp z3
        refine v_iconst (v := 0) O dX4_follow_26 (by decide) ?_
        refine v_istore (lv' := [(0, .ref ro), (1, .int (nI h)), (2, .int (nI len)), (3, .int (nI a)), (4, .int 0)]) O dX4_follow_27 (by decide) rfl ?_
        refine v_eq (lv' := [(0, .ref ro), (1, .int (nI h)), (2, .int (nI len)), (3, .int (nI a)), (4, .int (nI 0))]) rfl rfl rfl rfl ?_
        exact l_X4_follow_4 O hlen hmen hh hdw ha hk hp hp2 ho hb hpl T men 0 (by omega) _ _ _ _ _ _ _ hu (by rw [if_neg z1]; simpa [catN] using hst)
      · skip
        have z3 := (not_congr (c_lt (x := nI len) (y := nI men) (a := len) (b := men) rfl rfl (by omega) (by omega))).mp z3
        exact absurd z3 (by omega)
  · skip
    have z1 := (c_eq (x := nI h) (y := nI dw) (a := h) (b := dw) rfl rfl (by omega) (by omega)).mp z1
    refine v_aload_n O dX4_follow_8 0 rfl ?_
    refine v_iload_n O dX4_follow_9 2 rfl ?_
    refine v_cV (T := TX4) (ci := 4) (As := [.int (nI len)]) (wr := [(wk, .inr (8, [.ref kn, .ref vl, .ref pt, .int (nI gone), .ref fc, .ref ovr, .ref bkr, .int lf, .int dg, .int hd])), (kn, eI D 6 (nF kk)), (pt, eI D 6 (nF pp)), (ovr, eI D 480 (nF ov)), (bkr, eI D 480 (nF bk))]) (st := []) O cf_X4_59 rfl (sp_X4_keep (ro := ro) (ua := ua) (ba := ba) (men := men) (dw := dw) (wk := wk) (u := u) (b := b) (rows := rows) (bl := bl) (st := st) (pr9 := pr9) (len := len) (hst) (by omega) (hpl) (hu)) dX4_follow_10 rfl rfl 0 rfl [0, 1, 2] [3, 4, 5, 6, 7] (by decide) rfl rfl (by decide) (by decide) (by decide) (Nat.le_of_ble_eq_true rfl) (by decide) (by decide) (fun r_3 w_4 h_2 => ?_)
    obtain ⟨bl2_5, b2_6, rfl, rfl, h_k⟩ := h_2
    refine v_eq (st' := []) (ws' := [(wk, .inr (8, [.ref kn, .ref vl, .ref pt, .int (nI gone), .ref fc, .ref ovr, .ref bkr, .int lf, .int dg, .int hd])), (kn, eI D 6 (nF kk)), (pt, eI D 6 (nF pp)), (ovr, eI D 480 (nF ov)), (bkr, eI D 480 (nF bk)), (ro, .inr (4, [.ref wk, .ref ua, .ref ba, .int bl2_5, .int (nI men), .int (nI dw), .int (nI (rows + 1))])), (ua, eI D 6 (nF u)), (ba, eI D 6 (nF b2_6))]) rfl rfl rfl rfl ?_
    refine v_iload_n O dX4_follow_13 2 rfl ?_
    refine v_if_lt O 25 dX4_follow_14 (by decide) (fun c_7 => ?_) (fun c_7 => ?_)
    · skip
      have c_7 := (c_lt (x := nI len) (y := 0) (a := len) (b := 0) rfl rfl (by omega) (by omega)).mp c_7
      exact absurd c_7 (by omega)
    · skip
      have c_7 := (not_congr (c_lt (x := nI len) (y := 0) (a := len) (b := 0) rfl rfl (by omega) (by omega))).mp c_7
      refine v_iload_n O dX4_follow_17 2 rfl ?_
      refine v_aload_n O dX4_follow_18 0 rfl ?_
      refine gf_X4_29 O rfl dX4_follow_19 5 rfl rfl ?_
      refine v_icmp_lt O 26 dX4_follow_22 (by decide) (fun z3 => ?_) (fun z3 => ?_)
      · skip
        have z3 := (c_lt (x := nI len) (y := nI men) (a := len) (b := men) rfl rfl (by omega) (by omega)).mp z3
        refine v_iconst (v := 0) O dX4_follow_26 (by decide) ?_
        refine v_istore (lv' := [(0, .ref ro), (1, .int (nI h)), (2, .int (nI len)), (3, .int (nI a)), (4, .int 0)]) O dX4_follow_27 (by decide) rfl ?_
        refine v_sub (ws' := [(ro, .inr (4, [.ref wk, .ref ua, .ref ba, .int bl2_5, .int (nI men), .int (nI dw), .int (nI (rows + 1))])), (ua, eI D 6 (nF u)), (ba, eI D 6 (nF b2_6)), (wk, .inr (8, [.ref kn, .ref vl, .ref pt, .int (nI gone), .ref fc, .ref ovr, .ref bkr, .int lf, .int dg, .int hd])), (kn, eI D 6 (nF kk)), (pt, eI D 6 (nF pp)), (ovr, eI D 480 (nF ov)), (bkr, eI D 480 (nF bk))]) [5, 6, 7, 0, 1, 2, 3, 4] (by decide) rfl ?_
        refine v_eq (lv' := [(0, .ref ro), (1, .int (nI h)), (2, .int (nI len)), (3, .int (nI a)), (4, .int (nI 0))]) rfl rfl rfl rfl ?_
        exact l_X4_follow_4 O hlen hmen hh hdw ha hk hp hp2 ho hb hpl T men 0 (by omega) _ _ _ _ _ _ _ hu (by rw [if_pos z1]; simpa [catN] using h_k)
      · skip
        have z3 := (not_congr (c_lt (x := nI len) (y := nI men) (a := len) (b := men) rfl rfl (by omega) (by omega))).mp z3
        exact absurd z3 (by omega)
set_option maxRecDepth 100000 in
set_option maxHeartbeats 4000000 in
theorem sp_X4_wakeNext_4 {D : G} {ro : Nat} {ua : Nat} {ba : Nat} {men : Nat} {dw : Nat} {wk : Nat} {kn : Nat} {vl : Nat} {pt : Nat} {gone : Nat} {fc : Nat} {ovr : Nat} {bkr : Nat} {kk : Nat → Nat} {pp : Nat → Nat} {ov : Nat → Nat} {bk : Nat → Nat} {u : Nat → Nat} {b : Nat → Nat} {rows : Nat} {bl : Int32} {lf : Int32} {dg : Int32} {hd : Int32} {st : Nat × Option (List Nat)} {pr9 : List Nat} {h : Nat} {len : Nat} {a : Nat} {m : Nat} (hlen : len + 5 = men) (hmen : men ≤ 6) (hh : h < 1000000) (hdw : dw < 1000000) (ha : a < 64) (hk : ∀ m, m < 6 → kk m < 7) (hp : ∀ m, 2 ≤ pp m) (hp2 : ∀ m, m < 6 → pp m ≤ 99) (ho : ∀ m, m < men → ∀ s, s < men → ∀ d, d < 10 → ov (slotN m s d) < 1000) (hb : ∀ m, m < men → ∀ s, s < men → ∀ d, d < 10 → bk (slotN m s d) < 1000) (hst : kR st rows bl b) (hpl : pr9.length = len) (hu : ∀ j, j < len → u j = pr9.getD j 0) (hm : m < men) : Sp D mX4_wakeNext 13 0 0 [.ref ro, .int (nI m), .int (nI h), .int (nI len), .int (nI a)] [(ro, .inr (4, [.ref wk, .ref ua, .ref ba, .int bl, .int (nI men), .int (nI dw), .int (nI rows)])), (ua, eI D 6 (nF u)), (ba, eI D 6 (nF b)), (wk, .inr (8, [.ref kn, .ref vl, .ref pt, .int (nI gone), .ref fc, .ref ovr, .ref bkr, .int lf, .int dg, .int hd])), (kn, eI D 6 (nF kk)), (pt, eI D 6 (nF pp)), (ovr, eI D 480 (nF ov)), (bkr, eI D 480 (nF bk))] (fun r w => ∃ u2 : Nat → Nat, ∃ b2 : Nat → Nat, ∃ rows2 : Nat, ∃ bl2 : Int32, ∃ l2 : Int32, ∃ g2 : Int32, ∃ d2 : Int32, r = none ∧ w = [(ro, .inr (4, [.ref wk, .ref ua, .ref ba, .int bl2, .int (nI men), .int (nI dw), .int (nI rows2)])), (ua, eI D 6 (nF u2)), (ba, eI D 6 (nF b2)), (wk, .inr (8, [.ref kn, .ref vl, .ref pt, .int (nI gone), .ref fc, .ref ovr, .ref bkr, .int l2, .int g2, .int d2])), (kn, eI D 6 (nF kk)), (pt, eI D 6 (nF pp)), (ovr, eI D 480 (nF ov)), (bkr, eI D 480 (nF bk))] ∧ (∀ j, j < len → u2 j = pr9.getD j 0) ∧ (kR (List.foldl kF st ((gK (rE kk pp ov bk) men dw 4 h len a m).map (fun zr => pr9 ++ zr))) rows2 bl2 b2)) := by
  refine Sp.of (by decide) (Nat.le_of_ble_eq_true rfl) (fun X O T => ?_)
  refine v_eq (lv' := [(0, .ref ro), (1, .int (nI m)), (2, .int (nI h)), (3, .int (nI len)), (4, .int (nI a))]) rfl rfl rfl rfl ?_
  refine v_iload O dX4_wakeNext_0 4 rfl ?_
  refine v_iload_n O dX4_wakeNext_2 1 rfl ?_
  refine v_ishr O dX4_wakeNext_3 ?_
  refine v_iconst (v := 1) O dX4_wakeNext_4 (by decide) ?_
  refine v_iand O dX4_wakeNext_5 ?_
  refine v_top (y := nI (a / 2 ^ m % 2)) (bitS ha (by omega)) ?_
  refine v_if_ne O 13 dX4_wakeNext_6 (by decide) (fun z1 => ?_) (fun z1 => ?_)
  · skip
    have z1 := (not_congr (c_eq (x := nI (a / 2 ^ m % 2)) (y := 0) (a := a / 2 ^ m % 2) (b := 0) rfl rfl (by omega) (by omega))).mp z1
    refine v_iconst (v := 0) O dX4_wakeNext_13 (by decide) ?_
    refine v_istore (lv' := [(0, .ref ro), (1, .int (nI m)), (2, .int (nI h)), (3, .int (nI len)), (4, .int (nI a)), (5, .int 0)]) O dX4_wakeNext_14 (by decide) rfl ?_
    refine v_iload O dX4_wakeNext_16 5 rfl ?_
    refine v_if_eq O 71 dX4_wakeNext_18 (by decide) (fun _ => ?_) (fun c => absurd c (by decide))
    exact v_return O T rfl (by decide) (by decide) dX4_wakeNext_71 (⟨_, _, _, _, _, _, _, rfl, rfl, hu, by rw [gK_a z1]; exact hst⟩)
  · skip
    have z1 := (c_eq (x := nI (a / 2 ^ m % 2)) (y := 0) (a := a / 2 ^ m % 2) (b := 0) rfl rfl (by omega) (by omega)).mp z1
    refine v_iconst (v := 1) O dX4_wakeNext_9 (by decide) ?_
    refine v_goto O 14 dX4_wakeNext_10 (by decide) ?_
    refine v_istore (lv' := [(0, .ref ro), (1, .int (nI m)), (2, .int (nI h)), (3, .int (nI len)), (4, .int (nI a)), (5, .int 1)]) O dX4_wakeNext_14 (by decide) rfl ?_
    refine v_iload O dX4_wakeNext_16 5 rfl ?_
    refine v_if_eq O 71 dX4_wakeNext_18 (by decide) (fun c => absurd c (by decide)) (fun _ => ?_)
    refine v_iload_n O dX4_wakeNext_21 3 rfl ?_
    refine v_if_lt O 71 dX4_wakeNext_22 (by decide) (fun c_3 => ?_) (fun c_3 => ?_)
    · skip
      have c_3 := (c_lt (x := nI len) (y := 0) (a := len) (b := 0) rfl rfl (by omega) (by omega)).mp c_3
      exact absurd c_3 (by omega)
    · skip
      have c_3 := (not_congr (c_lt (x := nI len) (y := 0) (a := len) (b := 0) rfl rfl (by omega) (by omega))).mp c_3
      refine v_iload_n O dX4_wakeNext_25 3 rfl ?_
      refine v_bipush (v := 6) O dX4_wakeNext_26 (by decide) ?_
      refine v_icmp_ge O 71 dX4_wakeNext_28 (by decide) (fun z2 => ?_) (fun z2 => ?_)
      · skip
        have z2 := (c_le' (x := nI len) (y := 6) (a := len) (b := 6) rfl rfl (by omega) (by omega)).mp z2
        exact absurd z2 (by omega)
      · skip
        have z2 := (not_congr (c_le' (x := nI len) (y := 6) (a := len) (b := 6) rfl rfl (by omega) (by omega))).mp z2
        refine v_aload_n O dX4_wakeNext_31 0 rfl ?_
        refine gf_X4_12 O rfl dX4_wakeNext_32 0 rfl rfl ?_
        refine v_iload_n O dX4_wakeNext_35 1 rfl ?_
        refine v_iload_n O dX4_wakeNext_36 3 rfl ?_
        refine v_iload_n O dX4_wakeNext_37 2 rfl ?_
        refine v_cV (T := TX8) (ci := 8) (As := [.int (nI m), .int (nI len), .int (nI h)]) (wr := [(ro, .inr (4, [.ref wk, .ref ua, .ref ba, .int bl, .int (nI men), .int (nI dw), .int (nI rows)])), (ua, eI D 6 (nF u)), (ba, eI D 6 (nF b))]) (st := []) O cf_X4_67 rfl (sp_X8_comesOut (wk := wk) (kn := kn) (vl := vl) (pt := pt) (gone := gone) (fc := fc) (ovr := ovr) (bkr := bkr) (lf := lf) (dg := dg) (hd := hd) (kk := kk) (pp := pp) (ov := ov) (bk := bk) (m := m) (s := len) (h := h) (by omega) (by omega) (hh) (hk m (by omega)) (hp m) (hp2 m (by omega)) (ho m hm len (by omega)) (hb m hm len (by omega))) dX4_wakeNext_38 rfl rfl 3 rfl [3, 4, 5, 6, 7] [0, 1, 2] (by decide) rfl rfl (by decide) (by decide) (by decide) (Nat.le_of_ble_eq_true rfl) (by decide) (by decide) (fun r_5 w_6 h_4 => ?_)
        obtain ⟨rfl, rfl⟩ := h_4
        refine v_eq (st' := [.int (b2i (¬ wakeN (kk m) (pp m) (fun zd => ov (slotN m len zd)) (fun zd => bk (slotN m len zd)) h = none))]) (ws' := [(ro, .inr (4, [.ref wk, .ref ua, .ref ba, .int bl, .int (nI men), .int (nI dw), .int (nI rows)])), (ua, eI D 6 (nF u)), (ba, eI D 6 (nF b)), (wk, .inr (8, [.ref kn, .ref vl, .ref pt, .int (nI gone), .ref fc, .ref ovr, .ref bkr, .int (nI (oL (wakeN (kk m) (pp m) (fun zd => ov (slotN m len zd)) (fun zd => bk (slotN m len zd)) h) h)), .int (nI (oG (wakeN (kk m) (pp m) (fun zd => ov (slotN m len zd)) (fun zd => bk (slotN m len zd)) h) 0)), .int (nI (oD (wakeN (kk m) (pp m) (fun zd => ov (slotN m len zd)) (fun zd => bk (slotN m len zd)) h) 0))])), (kn, eI D 6 (nF kk)), (pt, eI D 6 (nF pp)), (ovr, eI D 480 (nF ov)), (bkr, eI D 480 (nF bk))]) rfl rfl rfl rfl ?_
        refine v_if_eq O 71 dX4_wakeNext_41 (by decide) (fun z3 => ?_) (fun z3 => ?_)
        · skip
          have z3 := b2i_0.mp z3
          have z3 : rE kk pp ov bk m len h = none := Classical.not_not.mp z3
          exact v_return O T rfl (by decide) (by decide) dX4_wakeNext_71 (⟨_, _, _, _, _, _, _, rfl, rfl, hu, by rw [gK_n z3]; exact hst⟩)
        · skip
          have z3 := b2i_1.mp z3
          have z3 : ¬ rE kk pp ov bk m len h = none := z3
          have z_hl : oL (wakeN (kk m) (pp m) (fun zd => ov (slotN m len zd)) (fun zd => bk (slotN m len zd)) h) h ≤ h := oL_lew (hp m)
          refine v_aload_n O dX4_wakeNext_44 0 rfl ?_
          refine gf_X4_18 O rfl dX4_wakeNext_45 0 rfl rfl ?_
          refine v_iload_n O dX4_wakeNext_48 3 rfl ?_
          refine v_iload_n O dX4_wakeNext_49 1 rfl ?_
          refine v_iastk (ws' := [(ro, .inr (4, [.ref wk, .ref ua, .ref ba, .int bl, .int (nI men), .int (nI dw), .int (nI rows)])), (ua, eI D 6 (nF (uN u len m))), (ba, eI D 6 (nF b)), (wk, .inr (8, [.ref kn, .ref vl, .ref pt, .int (nI gone), .ref fc, .ref ovr, .ref bkr, .int (nI (oL (wakeN (kk m) (pp m) (fun zd => ov (slotN m len zd)) (fun zd => bk (slotN m len zd)) h) h)), .int (nI (oG (wakeN (kk m) (pp m) (fun zd => ov (slotN m len zd)) (fun zd => bk (slotN m len zd)) h) 0)), .int (nI (oD (wakeN (kk m) (pp m) (fun zd => ov (slotN m len zd)) (fun zd => bk (slotN m len zd)) h) 0))])), (kn, eI D 6 (nF kk)), (pt, eI D 6 (nF pp)), (ovr, eI D 480 (nF ov)), (bkr, eI D 480 (nF bk))]) O dX4_wakeNext_50 1 rfl len (rfl) (by omega) (by decide) (by rw [upd_nF]; rfl) ?_
          refine v_aload_n O dX4_wakeNext_51 0 rfl ?_
          refine v_aload_n O dX4_wakeNext_52 0 rfl ?_
          refine gf_X4_12 O rfl dX4_wakeNext_53 0 rfl rfl ?_
          refine gf_X4_71 O rfl dX4_wakeNext_56 3 rfl rfl ?_
          refine v_iload_n O dX4_wakeNext_59 3 rfl ?_
          refine v_iconst (v := 1) O dX4_wakeNext_60 (by decide) ?_
          refine v_iadd O dX4_wakeNext_61 ?_
          refine v_top (y := nI (len + 1)) (nI_add len 1) ?_
          refine v_iload O dX4_wakeNext_62 4 rfl ?_
          refine v_iconst (v := 1) O dX4_wakeNext_64 (by decide) ?_
          refine v_iload_n O dX4_wakeNext_65 1 rfl ?_
          refine v_ishl O dX4_wakeNext_66 ?_
          refine v_ior O dX4_wakeNext_67 ?_
          refine v_top (y := nI (a + 2 ^ m)) (bitO ha (by omega) z1) ?_
          refine v_cV (T := TX4) (ci := 4) (As := [.int (nI (oL (wakeN (kk m) (pp m) (fun zd => ov (slotN m len zd)) (fun zd => bk (slotN m len zd)) h) h)), .int (nI (len + 1)), .int (nI (a + 2 ^ m))]) (wr := []) (st := []) O cf_X4_55 rfl (sp_X4_follow_4 (ro := ro) (ua := ua) (ba := ba) (men := men) (dw := dw) (wk := wk) (kn := kn) (vl := vl) (pt := pt) (gone := gone) (fc := fc) (ovr := ovr) (bkr := bkr) (kk := kk) (pp := pp) (ov := ov) (bk := bk) (u := (uN u len m)) (b := b) (rows := rows) (bl := bl) (lf := (nI (oL (wakeN (kk m) (pp m) (fun zd => ov (slotN m len zd)) (fun zd => bk (slotN m len zd)) h) h))) (dg := (nI (oG (wakeN (kk m) (pp m) (fun zd => ov (slotN m len zd)) (fun zd => bk (slotN m len zd)) h) 0))) (hd := (nI (oD (wakeN (kk m) (pp m) (fun zd => ov (slotN m len zd)) (fun zd => bk (slotN m len zd)) h) 0))) (st := st) (pr9 := (pr9 ++ [m])) (h := (oL (wakeN (kk m) (pp m) (fun zd => ov (slotN m len zd)) (fun zd => bk (slotN m len zd)) h) h)) (len := (len + 1)) (a := (a + 2 ^ m)) (by omega) (hmen) (by omega) (hdw) (bitL ha (by omega) z1) (hk) (hp) (hp2) (ho) (hb) (hst) (by simp; omega) (roUp hpl hu)) dX4_wakeNext_68 rfl rfl 0 rfl [0, 1, 2, 3, 4, 5, 6, 7] [] (by decide) rfl rfl (by decide) (by decide) (by decide) (Nat.le_of_ble_eq_true rfl) (by decide) (by decide) (fun r_8 w_9 h_7 => ?_)
          obtain ⟨u2_10, b2_11, rows2_12, bl2_13, l2_14, g2_15, d2_16, rfl, rfl, h_u, h_s⟩ := h_7
          refine v_eq (st' := []) (ws' := [(ro, .inr (4, [.ref wk, .ref ua, .ref ba, .int bl2_13, .int (nI men), .int (nI dw), .int (nI rows2_12)])), (ua, eI D 6 (nF u2_10)), (ba, eI D 6 (nF b2_11)), (wk, .inr (8, [.ref kn, .ref vl, .ref pt, .int (nI gone), .ref fc, .ref ovr, .ref bkr, .int l2_14, .int g2_15, .int d2_16])), (kn, eI D 6 (nF kk)), (pt, eI D 6 (nF pp)), (ovr, eI D 480 (nF ov)), (bkr, eI D 480 (nF bk))]) rfl rfl rfl rfl ?_
          exact v_return O T rfl (by decide) (by decide) dX4_wakeNext_71 (⟨_, _, _, _, _, _, _, rfl, rfl, (fun j hj => by rw [h_u j (by omega)]; exact getD_ap (by omega)), by rw [gK_s z1 z3, map_pre]; exact h_s⟩)
set_option maxRecDepth 100000 in
set_option maxHeartbeats 4000000 in
theorem l_X4_follow_5 {D : G} {X : CX} {ro : Nat} {ua : Nat} {ba : Nat} {men : Nat} {dw : Nat} {wk : Nat} {kn : Nat} {vl : Nat} {pt : Nat} {gone : Nat} {fc : Nat} {ovr : Nat} {bkr : Nat} {kk : Nat → Nat} {pp : Nat → Nat} {ov : Nat → Nat} {bk : Nat → Nat} {st : Nat × Option (List Nat)} {pr9 : List Nat} {h : Nat} {len : Nat} {a : Nat} (O : Ok D X mX4_follow 14 0 0) (hlen : len + 5 = men) (hmen : men ≤ 6) (hh : h < 1000000) (hdw : dw < 1000000) (ha : a < 64) (hk : ∀ m, m < 6 → kk m < 7) (hp : ∀ m, 2 ≤ pp m) (hp2 : ∀ m, m < 6 → pp m ≤ 99) (ho : ∀ m, m < men → ∀ s, s < men → ∀ d, d < 10 → ov (slotN m s d) < 1000) (hb : ∀ m, m < men → ∀ s, s < men → ∀ d, d < 10 → bk (slotN m s d) < 1000) (hpl : pr9.length = len) (T : Rt D X (fun r w => ∃ u2 : Nat → Nat, ∃ b2 : Nat → Nat, ∃ rows2 : Nat, ∃ bl2 : Int32, ∃ l2 : Int32, ∃ g2 : Int32, ∃ d2 : Int32, r = none ∧ w = [(ro, .inr (4, [.ref wk, .ref ua, .ref ba, .int bl2, .int (nI men), .int (nI dw), .int (nI rows2)])), (ua, eI D 6 (nF u2)), (ba, eI D 6 (nF b2)), (wk, .inr (8, [.ref kn, .ref vl, .ref pt, .int (nI gone), .ref fc, .ref ovr, .ref bkr, .int l2, .int g2, .int d2])), (kn, eI D 6 (nF kk)), (pt, eI D 6 (nF pp)), (ovr, eI D 480 (nF ov)), (bkr, eI D 480 (nF bk))] ∧ (∀ j, j < len → u2 j = pr9.getD j 0) ∧ (kR (List.foldl kF st ((dfsK (rE kk pp ov bk) men dw 5 h len a).map (fun zr => pr9 ++ zr))) rows2 bl2 b2)) 0 0) : ∀ (t i : Nat), i + t = men → ∀ (u b : Nat → Nat) (rows : Nat) (bl lf dg hd : Int32), (∀ j, j < len → u j = pr9.getD j 0) → kR (List.foldl kF st (((if h = dw then [[]] else []) ++ catN (gK (rE kk pp ov bk) men dw 4 h len a) i).map (fun zr => pr9 ++ zr))) rows bl b → V D X 0 0 29 [(0, .ref ro), (1, .int (nI h)), (2, .int (nI len)), (3, .int (nI a)), (4, .int (nI i))] [] [(ro, .inr (4, [.ref wk, .ref ua, .ref ba, .int bl, .int (nI men), .int (nI dw), .int (nI rows)])), (ua, eI D 6 (nF u)), (ba, eI D 6 (nF b)), (wk, .inr (8, [.ref kn, .ref vl, .ref pt, .int (nI gone), .ref fc, .ref ovr, .ref bkr, .int lf, .int dg, .int hd])), (kn, eI D 6 (nF kk)), (pt, eI D 6 (nF pp)), (ovr, eI D 480 (nF ov)), (bkr, eI D 480 (nF bk))] := by
  intro t
  induction t with
  | zero =>
    intro i hi u b rows bl lf dg hd h1 h2
    refine v_iload O dX4_follow_29 4 rfl ?_
    refine v_aload_n O dX4_follow_31 0 rfl ?_
    refine gf_X4_29 O rfl dX4_follow_32 0 rfl rfl ?_
    refine v_icmp_ge O 53 dX4_follow_35 (by decide) (fun z1 => ?_) (fun z1 => ?_)
    · skip
      have z1 := (c_le' (x := nI i) (y := nI men) (a := i) (b := men) rfl rfl (by omega) (by omega)).mp z1
      exact v_return O T rfl (by decide) (by decide) dX4_follow_53 (⟨_, _, _, _, _, _, _, rfl, rfl, h1, by rw [show i = men by omega] at h2; exact h2⟩)
    · skip
      have z1 := (not_congr (c_le' (x := nI i) (y := nI men) (a := i) (b := men) rfl rfl (by omega) (by omega))).mp z1
      exact absurd z1 (by omega)
  | succ t ih =>
    intro i hi u b rows bl lf dg hd h1 h2
    refine v_iload O dX4_follow_29 4 rfl ?_
    refine v_aload_n O dX4_follow_31 0 rfl ?_
    refine gf_X4_29 O rfl dX4_follow_32 0 rfl rfl ?_
    refine v_icmp_ge O 53 dX4_follow_35 (by decide) (fun z1 => ?_) (fun z1 => ?_)
    · skip
      have z1 := (c_le' (x := nI i) (y := nI men) (a := i) (b := men) rfl rfl (by omega) (by omega)).mp z1
      exact absurd z1 (by omega)
    · skip
      have z1 := (not_congr (c_le' (x := nI i) (y := nI men) (a := i) (b := men) rfl rfl (by omega) (by omega))).mp z1
      refine v_aload_n O dX4_follow_38 0 rfl ?_
      refine v_iload O dX4_follow_39 4 rfl ?_
      refine v_iload_n O dX4_follow_41 1 rfl ?_
      refine v_iload_n O dX4_follow_42 2 rfl ?_
      refine v_iload_n O dX4_follow_43 3 rfl ?_
      refine v_cV (T := TX4) (ci := 4) (As := [.int (nI i), .int (nI h), .int (nI len), .int (nI a)]) (wr := []) (st := []) O cf_X4_63 rfl (sp_X4_wakeNext_4 (ro := ro) (ua := ua) (ba := ba) (men := men) (dw := dw) (wk := wk) (kn := kn) (vl := vl) (pt := pt) (gone := gone) (fc := fc) (ovr := ovr) (bkr := bkr) (kk := kk) (pp := pp) (ov := ov) (bk := bk) (u := u) (b := b) (rows := rows) (bl := bl) (lf := lf) (dg := dg) (hd := hd) (st := (List.foldl kF st (((if h = dw then [[]] else []) ++ catN (gK (rE kk pp ov bk) men dw 4 h len a) i).map (fun zr => pr9 ++ zr)))) (pr9 := pr9) (h := h) (len := len) (a := a) (m := i) (by omega) (hmen) (hh) (hdw) (ha) (hk) (hp) (hp2) (ho) (hb) (h2) (hpl) (h1) (by omega)) dX4_follow_44 rfl rfl 0 rfl [0, 1, 2, 3, 4, 5, 6, 7] [] (by decide) rfl rfl (by decide) (by decide) (by decide) (Nat.le_of_ble_eq_true rfl) (by decide) (by decide) (fun r_2 w_3 h_1 => ?_)
      obtain ⟨u2_4, b2_5, rows2_6, bl2_7, l2_8, g2_9, d2_10, rfl, rfl, h_u, h_s⟩ := h_1
      refine v_eq (st' := []) (ws' := [(ro, .inr (4, [.ref wk, .ref ua, .ref ba, .int bl2_7, .int (nI men), .int (nI dw), .int (nI rows2_6)])), (ua, eI D 6 (nF u2_4)), (ba, eI D 6 (nF b2_5)), (wk, .inr (8, [.ref kn, .ref vl, .ref pt, .int (nI gone), .ref fc, .ref ovr, .ref bkr, .int l2_8, .int g2_9, .int d2_10])), (kn, eI D 6 (nF kk)), (pt, eI D 6 (nF pp)), (ovr, eI D 480 (nF ov)), (bkr, eI D 480 (nF bk))]) rfl rfl rfl rfl ?_
      refine v_iinc (v := nI (i + 1)) (lv' := [(0, .ref ro), (1, .int (nI h)), (2, .int (nI len)), (3, .int (nI a)), (4, .int (nI (i + 1)))]) O dX4_follow_47 4 rfl (nI_1 i) (by decide) rfl ?_
      refine v_goto O 29 dX4_follow_50 (by decide) ?_
      exact ih (i + 1) (by omega) _ _ _ _ _ _ _ h_u (by rw [show catN (gK (rE kk pp ov bk) men dw 4 h len a) (i + 1) = catN (gK (rE kk pp ov bk) men dw 4 h len a) i ++ gK (rE kk pp ov bk) men dw 4 h len a i from rfl, ← List.append_assoc, List.map_append, List.foldl_append]; exact h_s)
set_option maxRecDepth 100000 in
set_option maxHeartbeats 4000000 in
theorem sp_X4_follow_5 {D : G} {ro : Nat} {ua : Nat} {ba : Nat} {men : Nat} {dw : Nat} {wk : Nat} {kn : Nat} {vl : Nat} {pt : Nat} {gone : Nat} {fc : Nat} {ovr : Nat} {bkr : Nat} {kk : Nat → Nat} {pp : Nat → Nat} {ov : Nat → Nat} {bk : Nat → Nat} {u : Nat → Nat} {b : Nat → Nat} {rows : Nat} {bl : Int32} {lf : Int32} {dg : Int32} {hd : Int32} {st : Nat × Option (List Nat)} {pr9 : List Nat} {h : Nat} {len : Nat} {a : Nat} (hlen : len + 5 = men) (hmen : men ≤ 6) (hh : h < 1000000) (hdw : dw < 1000000) (ha : a < 64) (hk : ∀ m, m < 6 → kk m < 7) (hp : ∀ m, 2 ≤ pp m) (hp2 : ∀ m, m < 6 → pp m ≤ 99) (ho : ∀ m, m < men → ∀ s, s < men → ∀ d, d < 10 → ov (slotN m s d) < 1000) (hb : ∀ m, m < men → ∀ s, s < men → ∀ d, d < 10 → bk (slotN m s d) < 1000) (hst : kR st rows bl b) (hpl : pr9.length = len) (hu : ∀ j, j < len → u j = pr9.getD j 0) : Sp D mX4_follow 14 0 0 [.ref ro, .int (nI h), .int (nI len), .int (nI a)] [(ro, .inr (4, [.ref wk, .ref ua, .ref ba, .int bl, .int (nI men), .int (nI dw), .int (nI rows)])), (ua, eI D 6 (nF u)), (ba, eI D 6 (nF b)), (wk, .inr (8, [.ref kn, .ref vl, .ref pt, .int (nI gone), .ref fc, .ref ovr, .ref bkr, .int lf, .int dg, .int hd])), (kn, eI D 6 (nF kk)), (pt, eI D 6 (nF pp)), (ovr, eI D 480 (nF ov)), (bkr, eI D 480 (nF bk))] (fun r w => ∃ u2 : Nat → Nat, ∃ b2 : Nat → Nat, ∃ rows2 : Nat, ∃ bl2 : Int32, ∃ l2 : Int32, ∃ g2 : Int32, ∃ d2 : Int32, r = none ∧ w = [(ro, .inr (4, [.ref wk, .ref ua, .ref ba, .int bl2, .int (nI men), .int (nI dw), .int (nI rows2)])), (ua, eI D 6 (nF u2)), (ba, eI D 6 (nF b2)), (wk, .inr (8, [.ref kn, .ref vl, .ref pt, .int (nI gone), .ref fc, .ref ovr, .ref bkr, .int l2, .int g2, .int d2])), (kn, eI D 6 (nF kk)), (pt, eI D 6 (nF pp)), (ovr, eI D 480 (nF ov)), (bkr, eI D 480 (nF bk))] ∧ (∀ j, j < len → u2 j = pr9.getD j 0) ∧ (kR (List.foldl kF st ((dfsK (rE kk pp ov bk) men dw 5 h len a).map (fun zr => pr9 ++ zr))) rows2 bl2 b2)) := by
  refine Sp.of (by decide) (Nat.le_of_ble_eq_true rfl) (fun X O T => ?_)
  refine v_eq (lv' := [(0, .ref ro), (1, .int (nI h)), (2, .int (nI len)), (3, .int (nI a))]) rfl rfl rfl rfl ?_
  refine v_iload_n O dX4_follow_0 1 rfl ?_
  refine v_aload_n O dX4_follow_1 0 rfl ?_
  refine gf_X4_32 O rfl dX4_follow_2 0 rfl rfl ?_
  refine v_icmp_ne O 13 dX4_follow_5 (by decide) (fun z1 => ?_) (fun z1 => ?_)
  · skip
    have z1 := (not_congr (c_eq (x := nI h) (y := nI dw) (a := h) (b := dw) rfl rfl (by omega) (by omega))).mp z1
    refine v_iload_n O dX4_follow_13 2 rfl ?_
    refine v_if_lt O 25 dX4_follow_14 (by decide) (fun c_1 => ?_) (fun c_1 => ?_)
    · skip
      have c_1 := (c_lt (x := nI len) (y := 0) (a := len) (b := 0) rfl rfl (by omega) (by omega)).mp c_1
      exact absurd c_1 (by omega)
    · skip
      have c_1 := (not_congr (c_lt (x := nI len) (y := 0) (a := len) (b := 0) rfl rfl (by omega) (by omega))).mp c_1
      refine v_iload_n O dX4_follow_17 2 rfl ?_
      refine v_aload_n O dX4_follow_18 0 rfl ?_
      refine gf_X4_29 O rfl dX4_follow_19 0 rfl rfl ?_
      refine v_icmp_lt O 26 dX4_follow_22 (by decide) (fun z3 => ?_) (fun z3 => ?_)
      · skip
        have z3 := (c_lt (x := nI len) (y := nI men) (a := len) (b := men) rfl rfl (by omega) (by omega)).mp z3
        refine v_iconst (v := 0) O dX4_follow_26 (by decide) ?_
        refine v_istore (lv' := [(0, .ref ro), (1, .int (nI h)), (2, .int (nI len)), (3, .int (nI a)), (4, .int 0)]) O dX4_follow_27 (by decide) rfl ?_
        refine v_eq (lv' := [(0, .ref ro), (1, .int (nI h)), (2, .int (nI len)), (3, .int (nI a)), (4, .int (nI 0))]) rfl rfl rfl rfl ?_
        exact l_X4_follow_5 O hlen hmen hh hdw ha hk hp hp2 ho hb hpl T men 0 (by omega) _ _ _ _ _ _ _ hu (by rw [if_neg z1]; simpa [catN] using hst)
      · skip
        have z3 := (not_congr (c_lt (x := nI len) (y := nI men) (a := len) (b := men) rfl rfl (by omega) (by omega))).mp z3
        exact absurd z3 (by omega)
  · skip
    have z1 := (c_eq (x := nI h) (y := nI dw) (a := h) (b := dw) rfl rfl (by omega) (by omega)).mp z1
    refine v_aload_n O dX4_follow_8 0 rfl ?_
    refine v_iload_n O dX4_follow_9 2 rfl ?_
    refine v_cV (T := TX4) (ci := 4) (As := [.int (nI len)]) (wr := [(wk, .inr (8, [.ref kn, .ref vl, .ref pt, .int (nI gone), .ref fc, .ref ovr, .ref bkr, .int lf, .int dg, .int hd])), (kn, eI D 6 (nF kk)), (pt, eI D 6 (nF pp)), (ovr, eI D 480 (nF ov)), (bkr, eI D 480 (nF bk))]) (st := []) O cf_X4_59 rfl (sp_X4_keep (ro := ro) (ua := ua) (ba := ba) (men := men) (dw := dw) (wk := wk) (u := u) (b := b) (rows := rows) (bl := bl) (st := st) (pr9 := pr9) (len := len) (hst) (by omega) (hpl) (hu)) dX4_follow_10 rfl rfl 0 rfl [0, 1, 2] [3, 4, 5, 6, 7] (by decide) rfl rfl (by decide) (by decide) (by decide) (Nat.le_of_ble_eq_true rfl) (by decide) (by decide) (fun r_3 w_4 h_2 => ?_)
    obtain ⟨bl2_5, b2_6, rfl, rfl, h_k⟩ := h_2
    refine v_eq (st' := []) (ws' := [(wk, .inr (8, [.ref kn, .ref vl, .ref pt, .int (nI gone), .ref fc, .ref ovr, .ref bkr, .int lf, .int dg, .int hd])), (kn, eI D 6 (nF kk)), (pt, eI D 6 (nF pp)), (ovr, eI D 480 (nF ov)), (bkr, eI D 480 (nF bk)), (ro, .inr (4, [.ref wk, .ref ua, .ref ba, .int bl2_5, .int (nI men), .int (nI dw), .int (nI (rows + 1))])), (ua, eI D 6 (nF u)), (ba, eI D 6 (nF b2_6))]) rfl rfl rfl rfl ?_
    refine v_iload_n O dX4_follow_13 2 rfl ?_
    refine v_if_lt O 25 dX4_follow_14 (by decide) (fun c_7 => ?_) (fun c_7 => ?_)
    · skip
      have c_7 := (c_lt (x := nI len) (y := 0) (a := len) (b := 0) rfl rfl (by omega) (by omega)).mp c_7
      exact absurd c_7 (by omega)
    · skip
      have c_7 := (not_congr (c_lt (x := nI len) (y := 0) (a := len) (b := 0) rfl rfl (by omega) (by omega))).mp c_7
      refine v_iload_n O dX4_follow_17 2 rfl ?_
      refine v_aload_n O dX4_follow_18 0 rfl ?_
      refine gf_X4_29 O rfl dX4_follow_19 5 rfl rfl ?_
      refine v_icmp_lt O 26 dX4_follow_22 (by decide) (fun z3 => ?_) (fun z3 => ?_)
      · skip
        have z3 := (c_lt (x := nI len) (y := nI men) (a := len) (b := men) rfl rfl (by omega) (by omega)).mp z3
        refine v_iconst (v := 0) O dX4_follow_26 (by decide) ?_
        refine v_istore (lv' := [(0, .ref ro), (1, .int (nI h)), (2, .int (nI len)), (3, .int (nI a)), (4, .int 0)]) O dX4_follow_27 (by decide) rfl ?_
        refine v_sub (ws' := [(ro, .inr (4, [.ref wk, .ref ua, .ref ba, .int bl2_5, .int (nI men), .int (nI dw), .int (nI (rows + 1))])), (ua, eI D 6 (nF u)), (ba, eI D 6 (nF b2_6)), (wk, .inr (8, [.ref kn, .ref vl, .ref pt, .int (nI gone), .ref fc, .ref ovr, .ref bkr, .int lf, .int dg, .int hd])), (kn, eI D 6 (nF kk)), (pt, eI D 6 (nF pp)), (ovr, eI D 480 (nF ov)), (bkr, eI D 480 (nF bk))]) [5, 6, 7, 0, 1, 2, 3, 4] (by decide) rfl ?_
        refine v_eq (lv' := [(0, .ref ro), (1, .int (nI h)), (2, .int (nI len)), (3, .int (nI a)), (4, .int (nI 0))]) rfl rfl rfl rfl ?_
        exact l_X4_follow_5 O hlen hmen hh hdw ha hk hp hp2 ho hb hpl T men 0 (by omega) _ _ _ _ _ _ _ hu (by rw [if_pos z1]; simpa [catN] using h_k)
      · skip
        have z3 := (not_congr (c_lt (x := nI len) (y := nI men) (a := len) (b := men) rfl rfl (by omega) (by omega))).mp z3
        exact absurd z3 (by omega)
set_option maxRecDepth 100000 in
set_option maxHeartbeats 4000000 in
theorem sp_X4_wakeNext_5 {D : G} {ro : Nat} {ua : Nat} {ba : Nat} {men : Nat} {dw : Nat} {wk : Nat} {kn : Nat} {vl : Nat} {pt : Nat} {gone : Nat} {fc : Nat} {ovr : Nat} {bkr : Nat} {kk : Nat → Nat} {pp : Nat → Nat} {ov : Nat → Nat} {bk : Nat → Nat} {u : Nat → Nat} {b : Nat → Nat} {rows : Nat} {bl : Int32} {lf : Int32} {dg : Int32} {hd : Int32} {st : Nat × Option (List Nat)} {pr9 : List Nat} {h : Nat} {len : Nat} {a : Nat} {m : Nat} (hlen : len + 6 = men) (hmen : men ≤ 6) (hh : h < 1000000) (hdw : dw < 1000000) (ha : a < 64) (hk : ∀ m, m < 6 → kk m < 7) (hp : ∀ m, 2 ≤ pp m) (hp2 : ∀ m, m < 6 → pp m ≤ 99) (ho : ∀ m, m < men → ∀ s, s < men → ∀ d, d < 10 → ov (slotN m s d) < 1000) (hb : ∀ m, m < men → ∀ s, s < men → ∀ d, d < 10 → bk (slotN m s d) < 1000) (hst : kR st rows bl b) (hpl : pr9.length = len) (hu : ∀ j, j < len → u j = pr9.getD j 0) (hm : m < men) : Sp D mX4_wakeNext 15 0 0 [.ref ro, .int (nI m), .int (nI h), .int (nI len), .int (nI a)] [(ro, .inr (4, [.ref wk, .ref ua, .ref ba, .int bl, .int (nI men), .int (nI dw), .int (nI rows)])), (ua, eI D 6 (nF u)), (ba, eI D 6 (nF b)), (wk, .inr (8, [.ref kn, .ref vl, .ref pt, .int (nI gone), .ref fc, .ref ovr, .ref bkr, .int lf, .int dg, .int hd])), (kn, eI D 6 (nF kk)), (pt, eI D 6 (nF pp)), (ovr, eI D 480 (nF ov)), (bkr, eI D 480 (nF bk))] (fun r w => ∃ u2 : Nat → Nat, ∃ b2 : Nat → Nat, ∃ rows2 : Nat, ∃ bl2 : Int32, ∃ l2 : Int32, ∃ g2 : Int32, ∃ d2 : Int32, r = none ∧ w = [(ro, .inr (4, [.ref wk, .ref ua, .ref ba, .int bl2, .int (nI men), .int (nI dw), .int (nI rows2)])), (ua, eI D 6 (nF u2)), (ba, eI D 6 (nF b2)), (wk, .inr (8, [.ref kn, .ref vl, .ref pt, .int (nI gone), .ref fc, .ref ovr, .ref bkr, .int l2, .int g2, .int d2])), (kn, eI D 6 (nF kk)), (pt, eI D 6 (nF pp)), (ovr, eI D 480 (nF ov)), (bkr, eI D 480 (nF bk))] ∧ (∀ j, j < len → u2 j = pr9.getD j 0) ∧ (kR (List.foldl kF st ((gK (rE kk pp ov bk) men dw 5 h len a m).map (fun zr => pr9 ++ zr))) rows2 bl2 b2)) := by
  refine Sp.of (by decide) (Nat.le_of_ble_eq_true rfl) (fun X O T => ?_)
  refine v_eq (lv' := [(0, .ref ro), (1, .int (nI m)), (2, .int (nI h)), (3, .int (nI len)), (4, .int (nI a))]) rfl rfl rfl rfl ?_
  refine v_iload O dX4_wakeNext_0 4 rfl ?_
  refine v_iload_n O dX4_wakeNext_2 1 rfl ?_
  refine v_ishr O dX4_wakeNext_3 ?_
  refine v_iconst (v := 1) O dX4_wakeNext_4 (by decide) ?_
  refine v_iand O dX4_wakeNext_5 ?_
  refine v_top (y := nI (a / 2 ^ m % 2)) (bitS ha (by omega)) ?_
  refine v_if_ne O 13 dX4_wakeNext_6 (by decide) (fun z1 => ?_) (fun z1 => ?_)
  · skip
    have z1 := (not_congr (c_eq (x := nI (a / 2 ^ m % 2)) (y := 0) (a := a / 2 ^ m % 2) (b := 0) rfl rfl (by omega) (by omega))).mp z1
    refine v_iconst (v := 0) O dX4_wakeNext_13 (by decide) ?_
    refine v_istore (lv' := [(0, .ref ro), (1, .int (nI m)), (2, .int (nI h)), (3, .int (nI len)), (4, .int (nI a)), (5, .int 0)]) O dX4_wakeNext_14 (by decide) rfl ?_
    refine v_iload O dX4_wakeNext_16 5 rfl ?_
    refine v_if_eq O 71 dX4_wakeNext_18 (by decide) (fun _ => ?_) (fun c => absurd c (by decide))
    exact v_return O T rfl (by decide) (by decide) dX4_wakeNext_71 (⟨_, _, _, _, _, _, _, rfl, rfl, hu, by rw [gK_a z1]; exact hst⟩)
  · skip
    have z1 := (c_eq (x := nI (a / 2 ^ m % 2)) (y := 0) (a := a / 2 ^ m % 2) (b := 0) rfl rfl (by omega) (by omega)).mp z1
    refine v_iconst (v := 1) O dX4_wakeNext_9 (by decide) ?_
    refine v_goto O 14 dX4_wakeNext_10 (by decide) ?_
    refine v_istore (lv' := [(0, .ref ro), (1, .int (nI m)), (2, .int (nI h)), (3, .int (nI len)), (4, .int (nI a)), (5, .int 1)]) O dX4_wakeNext_14 (by decide) rfl ?_
    refine v_iload O dX4_wakeNext_16 5 rfl ?_
    refine v_if_eq O 71 dX4_wakeNext_18 (by decide) (fun c => absurd c (by decide)) (fun _ => ?_)
    refine v_iload_n O dX4_wakeNext_21 3 rfl ?_
    refine v_if_lt O 71 dX4_wakeNext_22 (by decide) (fun c_3 => ?_) (fun c_3 => ?_)
    · skip
      have c_3 := (c_lt (x := nI len) (y := 0) (a := len) (b := 0) rfl rfl (by omega) (by omega)).mp c_3
      exact absurd c_3 (by omega)
    · skip
      have c_3 := (not_congr (c_lt (x := nI len) (y := 0) (a := len) (b := 0) rfl rfl (by omega) (by omega))).mp c_3
      refine v_iload_n O dX4_wakeNext_25 3 rfl ?_
      refine v_bipush (v := 6) O dX4_wakeNext_26 (by decide) ?_
      refine v_icmp_ge O 71 dX4_wakeNext_28 (by decide) (fun z2 => ?_) (fun z2 => ?_)
      · skip
        have z2 := (c_le' (x := nI len) (y := 6) (a := len) (b := 6) rfl rfl (by omega) (by omega)).mp z2
        exact absurd z2 (by omega)
      · skip
        have z2 := (not_congr (c_le' (x := nI len) (y := 6) (a := len) (b := 6) rfl rfl (by omega) (by omega))).mp z2
        refine v_aload_n O dX4_wakeNext_31 0 rfl ?_
        refine gf_X4_12 O rfl dX4_wakeNext_32 0 rfl rfl ?_
        refine v_iload_n O dX4_wakeNext_35 1 rfl ?_
        refine v_iload_n O dX4_wakeNext_36 3 rfl ?_
        refine v_iload_n O dX4_wakeNext_37 2 rfl ?_
        refine v_cV (T := TX8) (ci := 8) (As := [.int (nI m), .int (nI len), .int (nI h)]) (wr := [(ro, .inr (4, [.ref wk, .ref ua, .ref ba, .int bl, .int (nI men), .int (nI dw), .int (nI rows)])), (ua, eI D 6 (nF u)), (ba, eI D 6 (nF b))]) (st := []) O cf_X4_67 rfl (sp_X8_comesOut (wk := wk) (kn := kn) (vl := vl) (pt := pt) (gone := gone) (fc := fc) (ovr := ovr) (bkr := bkr) (lf := lf) (dg := dg) (hd := hd) (kk := kk) (pp := pp) (ov := ov) (bk := bk) (m := m) (s := len) (h := h) (by omega) (by omega) (hh) (hk m (by omega)) (hp m) (hp2 m (by omega)) (ho m hm len (by omega)) (hb m hm len (by omega))) dX4_wakeNext_38 rfl rfl 3 rfl [3, 4, 5, 6, 7] [0, 1, 2] (by decide) rfl rfl (by decide) (by decide) (by decide) (Nat.le_of_ble_eq_true rfl) (by decide) (by decide) (fun r_5 w_6 h_4 => ?_)
        obtain ⟨rfl, rfl⟩ := h_4
        refine v_eq (st' := [.int (b2i (¬ wakeN (kk m) (pp m) (fun zd => ov (slotN m len zd)) (fun zd => bk (slotN m len zd)) h = none))]) (ws' := [(ro, .inr (4, [.ref wk, .ref ua, .ref ba, .int bl, .int (nI men), .int (nI dw), .int (nI rows)])), (ua, eI D 6 (nF u)), (ba, eI D 6 (nF b)), (wk, .inr (8, [.ref kn, .ref vl, .ref pt, .int (nI gone), .ref fc, .ref ovr, .ref bkr, .int (nI (oL (wakeN (kk m) (pp m) (fun zd => ov (slotN m len zd)) (fun zd => bk (slotN m len zd)) h) h)), .int (nI (oG (wakeN (kk m) (pp m) (fun zd => ov (slotN m len zd)) (fun zd => bk (slotN m len zd)) h) 0)), .int (nI (oD (wakeN (kk m) (pp m) (fun zd => ov (slotN m len zd)) (fun zd => bk (slotN m len zd)) h) 0))])), (kn, eI D 6 (nF kk)), (pt, eI D 6 (nF pp)), (ovr, eI D 480 (nF ov)), (bkr, eI D 480 (nF bk))]) rfl rfl rfl rfl ?_
        refine v_if_eq O 71 dX4_wakeNext_41 (by decide) (fun z3 => ?_) (fun z3 => ?_)
        · skip
          have z3 := b2i_0.mp z3
          have z3 : rE kk pp ov bk m len h = none := Classical.not_not.mp z3
          exact v_return O T rfl (by decide) (by decide) dX4_wakeNext_71 (⟨_, _, _, _, _, _, _, rfl, rfl, hu, by rw [gK_n z3]; exact hst⟩)
        · skip
          have z3 := b2i_1.mp z3
          have z3 : ¬ rE kk pp ov bk m len h = none := z3
          have z_hl : oL (wakeN (kk m) (pp m) (fun zd => ov (slotN m len zd)) (fun zd => bk (slotN m len zd)) h) h ≤ h := oL_lew (hp m)
          refine v_aload_n O dX4_wakeNext_44 0 rfl ?_
          refine gf_X4_18 O rfl dX4_wakeNext_45 0 rfl rfl ?_
          refine v_iload_n O dX4_wakeNext_48 3 rfl ?_
          refine v_iload_n O dX4_wakeNext_49 1 rfl ?_
          refine v_iastk (ws' := [(ro, .inr (4, [.ref wk, .ref ua, .ref ba, .int bl, .int (nI men), .int (nI dw), .int (nI rows)])), (ua, eI D 6 (nF (uN u len m))), (ba, eI D 6 (nF b)), (wk, .inr (8, [.ref kn, .ref vl, .ref pt, .int (nI gone), .ref fc, .ref ovr, .ref bkr, .int (nI (oL (wakeN (kk m) (pp m) (fun zd => ov (slotN m len zd)) (fun zd => bk (slotN m len zd)) h) h)), .int (nI (oG (wakeN (kk m) (pp m) (fun zd => ov (slotN m len zd)) (fun zd => bk (slotN m len zd)) h) 0)), .int (nI (oD (wakeN (kk m) (pp m) (fun zd => ov (slotN m len zd)) (fun zd => bk (slotN m len zd)) h) 0))])), (kn, eI D 6 (nF kk)), (pt, eI D 6 (nF pp)), (ovr, eI D 480 (nF ov)), (bkr, eI D 480 (nF bk))]) O dX4_wakeNext_50 1 rfl len (rfl) (by omega) (by decide) (by rw [upd_nF]; rfl) ?_
          refine v_aload_n O dX4_wakeNext_51 0 rfl ?_
          refine v_aload_n O dX4_wakeNext_52 0 rfl ?_
          refine gf_X4_12 O rfl dX4_wakeNext_53 0 rfl rfl ?_
          refine gf_X4_71 O rfl dX4_wakeNext_56 3 rfl rfl ?_
          refine v_iload_n O dX4_wakeNext_59 3 rfl ?_
          refine v_iconst (v := 1) O dX4_wakeNext_60 (by decide) ?_
          refine v_iadd O dX4_wakeNext_61 ?_
          refine v_top (y := nI (len + 1)) (nI_add len 1) ?_
          refine v_iload O dX4_wakeNext_62 4 rfl ?_
          refine v_iconst (v := 1) O dX4_wakeNext_64 (by decide) ?_
          refine v_iload_n O dX4_wakeNext_65 1 rfl ?_
          refine v_ishl O dX4_wakeNext_66 ?_
          refine v_ior O dX4_wakeNext_67 ?_
          refine v_top (y := nI (a + 2 ^ m)) (bitO ha (by omega) z1) ?_
          refine v_cV (T := TX4) (ci := 4) (As := [.int (nI (oL (wakeN (kk m) (pp m) (fun zd => ov (slotN m len zd)) (fun zd => bk (slotN m len zd)) h) h)), .int (nI (len + 1)), .int (nI (a + 2 ^ m))]) (wr := []) (st := []) O cf_X4_55 rfl (sp_X4_follow_5 (ro := ro) (ua := ua) (ba := ba) (men := men) (dw := dw) (wk := wk) (kn := kn) (vl := vl) (pt := pt) (gone := gone) (fc := fc) (ovr := ovr) (bkr := bkr) (kk := kk) (pp := pp) (ov := ov) (bk := bk) (u := (uN u len m)) (b := b) (rows := rows) (bl := bl) (lf := (nI (oL (wakeN (kk m) (pp m) (fun zd => ov (slotN m len zd)) (fun zd => bk (slotN m len zd)) h) h))) (dg := (nI (oG (wakeN (kk m) (pp m) (fun zd => ov (slotN m len zd)) (fun zd => bk (slotN m len zd)) h) 0))) (hd := (nI (oD (wakeN (kk m) (pp m) (fun zd => ov (slotN m len zd)) (fun zd => bk (slotN m len zd)) h) 0))) (st := st) (pr9 := (pr9 ++ [m])) (h := (oL (wakeN (kk m) (pp m) (fun zd => ov (slotN m len zd)) (fun zd => bk (slotN m len zd)) h) h)) (len := (len + 1)) (a := (a + 2 ^ m)) (by omega) (hmen) (by omega) (hdw) (bitL ha (by omega) z1) (hk) (hp) (hp2) (ho) (hb) (hst) (by simp; omega) (roUp hpl hu)) dX4_wakeNext_68 rfl rfl 0 rfl [0, 1, 2, 3, 4, 5, 6, 7] [] (by decide) rfl rfl (by decide) (by decide) (by decide) (Nat.le_of_ble_eq_true rfl) (by decide) (by decide) (fun r_8 w_9 h_7 => ?_)
          obtain ⟨u2_10, b2_11, rows2_12, bl2_13, l2_14, g2_15, d2_16, rfl, rfl, h_u, h_s⟩ := h_7
          refine v_eq (st' := []) (ws' := [(ro, .inr (4, [.ref wk, .ref ua, .ref ba, .int bl2_13, .int (nI men), .int (nI dw), .int (nI rows2_12)])), (ua, eI D 6 (nF u2_10)), (ba, eI D 6 (nF b2_11)), (wk, .inr (8, [.ref kn, .ref vl, .ref pt, .int (nI gone), .ref fc, .ref ovr, .ref bkr, .int l2_14, .int g2_15, .int d2_16])), (kn, eI D 6 (nF kk)), (pt, eI D 6 (nF pp)), (ovr, eI D 480 (nF ov)), (bkr, eI D 480 (nF bk))]) rfl rfl rfl rfl ?_
          exact v_return O T rfl (by decide) (by decide) dX4_wakeNext_71 (⟨_, _, _, _, _, _, _, rfl, rfl, (fun j hj => by rw [h_u j (by omega)]; exact getD_ap (by omega)), by rw [gK_s z1 z3, map_pre]; exact h_s⟩)
set_option maxRecDepth 100000 in
set_option maxHeartbeats 4000000 in
theorem l_X4_follow_6 {D : G} {X : CX} {ro : Nat} {ua : Nat} {ba : Nat} {men : Nat} {dw : Nat} {wk : Nat} {kn : Nat} {vl : Nat} {pt : Nat} {gone : Nat} {fc : Nat} {ovr : Nat} {bkr : Nat} {kk : Nat → Nat} {pp : Nat → Nat} {ov : Nat → Nat} {bk : Nat → Nat} {st : Nat × Option (List Nat)} {pr9 : List Nat} {h : Nat} {len : Nat} {a : Nat} (O : Ok D X mX4_follow 16 0 0) (hlen : len + 6 = men) (hmen : men ≤ 6) (hh : h < 1000000) (hdw : dw < 1000000) (ha : a < 64) (hk : ∀ m, m < 6 → kk m < 7) (hp : ∀ m, 2 ≤ pp m) (hp2 : ∀ m, m < 6 → pp m ≤ 99) (ho : ∀ m, m < men → ∀ s, s < men → ∀ d, d < 10 → ov (slotN m s d) < 1000) (hb : ∀ m, m < men → ∀ s, s < men → ∀ d, d < 10 → bk (slotN m s d) < 1000) (hpl : pr9.length = len) (T : Rt D X (fun r w => ∃ u2 : Nat → Nat, ∃ b2 : Nat → Nat, ∃ rows2 : Nat, ∃ bl2 : Int32, ∃ l2 : Int32, ∃ g2 : Int32, ∃ d2 : Int32, r = none ∧ w = [(ro, .inr (4, [.ref wk, .ref ua, .ref ba, .int bl2, .int (nI men), .int (nI dw), .int (nI rows2)])), (ua, eI D 6 (nF u2)), (ba, eI D 6 (nF b2)), (wk, .inr (8, [.ref kn, .ref vl, .ref pt, .int (nI gone), .ref fc, .ref ovr, .ref bkr, .int l2, .int g2, .int d2])), (kn, eI D 6 (nF kk)), (pt, eI D 6 (nF pp)), (ovr, eI D 480 (nF ov)), (bkr, eI D 480 (nF bk))] ∧ (∀ j, j < len → u2 j = pr9.getD j 0) ∧ (kR (List.foldl kF st ((dfsK (rE kk pp ov bk) men dw 6 h len a).map (fun zr => pr9 ++ zr))) rows2 bl2 b2)) 0 0) : ∀ (t i : Nat), i + t = men → ∀ (u b : Nat → Nat) (rows : Nat) (bl lf dg hd : Int32), (∀ j, j < len → u j = pr9.getD j 0) → kR (List.foldl kF st (((if h = dw then [[]] else []) ++ catN (gK (rE kk pp ov bk) men dw 5 h len a) i).map (fun zr => pr9 ++ zr))) rows bl b → V D X 0 0 29 [(0, .ref ro), (1, .int (nI h)), (2, .int (nI len)), (3, .int (nI a)), (4, .int (nI i))] [] [(ro, .inr (4, [.ref wk, .ref ua, .ref ba, .int bl, .int (nI men), .int (nI dw), .int (nI rows)])), (ua, eI D 6 (nF u)), (ba, eI D 6 (nF b)), (wk, .inr (8, [.ref kn, .ref vl, .ref pt, .int (nI gone), .ref fc, .ref ovr, .ref bkr, .int lf, .int dg, .int hd])), (kn, eI D 6 (nF kk)), (pt, eI D 6 (nF pp)), (ovr, eI D 480 (nF ov)), (bkr, eI D 480 (nF bk))] := by
  intro t
  induction t with
  | zero =>
    intro i hi u b rows bl lf dg hd h1 h2
    refine v_iload O dX4_follow_29 4 rfl ?_
    refine v_aload_n O dX4_follow_31 0 rfl ?_
    refine gf_X4_29 O rfl dX4_follow_32 0 rfl rfl ?_
    refine v_icmp_ge O 53 dX4_follow_35 (by decide) (fun z1 => ?_) (fun z1 => ?_)
    · skip
      have z1 := (c_le' (x := nI i) (y := nI men) (a := i) (b := men) rfl rfl (by omega) (by omega)).mp z1
      exact v_return O T rfl (by decide) (by decide) dX4_follow_53 (⟨_, _, _, _, _, _, _, rfl, rfl, h1, by rw [show i = men by omega] at h2; exact h2⟩)
    · skip
      have z1 := (not_congr (c_le' (x := nI i) (y := nI men) (a := i) (b := men) rfl rfl (by omega) (by omega))).mp z1
      exact absurd z1 (by omega)
  | succ t ih =>
    intro i hi u b rows bl lf dg hd h1 h2
    refine v_iload O dX4_follow_29 4 rfl ?_
    refine v_aload_n O dX4_follow_31 0 rfl ?_
    refine gf_X4_29 O rfl dX4_follow_32 0 rfl rfl ?_
    refine v_icmp_ge O 53 dX4_follow_35 (by decide) (fun z1 => ?_) (fun z1 => ?_)
    · skip
      have z1 := (c_le' (x := nI i) (y := nI men) (a := i) (b := men) rfl rfl (by omega) (by omega)).mp z1
      exact absurd z1 (by omega)
    · skip
      have z1 := (not_congr (c_le' (x := nI i) (y := nI men) (a := i) (b := men) rfl rfl (by omega) (by omega))).mp z1
      refine v_aload_n O dX4_follow_38 0 rfl ?_
      refine v_iload O dX4_follow_39 4 rfl ?_
      refine v_iload_n O dX4_follow_41 1 rfl ?_
      refine v_iload_n O dX4_follow_42 2 rfl ?_
      refine v_iload_n O dX4_follow_43 3 rfl ?_
      refine v_cV (T := TX4) (ci := 4) (As := [.int (nI i), .int (nI h), .int (nI len), .int (nI a)]) (wr := []) (st := []) O cf_X4_63 rfl (sp_X4_wakeNext_5 (ro := ro) (ua := ua) (ba := ba) (men := men) (dw := dw) (wk := wk) (kn := kn) (vl := vl) (pt := pt) (gone := gone) (fc := fc) (ovr := ovr) (bkr := bkr) (kk := kk) (pp := pp) (ov := ov) (bk := bk) (u := u) (b := b) (rows := rows) (bl := bl) (lf := lf) (dg := dg) (hd := hd) (st := (List.foldl kF st (((if h = dw then [[]] else []) ++ catN (gK (rE kk pp ov bk) men dw 5 h len a) i).map (fun zr => pr9 ++ zr)))) (pr9 := pr9) (h := h) (len := len) (a := a) (m := i) (by omega) (hmen) (hh) (hdw) (ha) (hk) (hp) (hp2) (ho) (hb) (h2) (hpl) (h1) (by omega)) dX4_follow_44 rfl rfl 0 rfl [0, 1, 2, 3, 4, 5, 6, 7] [] (by decide) rfl rfl (by decide) (by decide) (by decide) (Nat.le_of_ble_eq_true rfl) (by decide) (by decide) (fun r_2 w_3 h_1 => ?_)
      obtain ⟨u2_4, b2_5, rows2_6, bl2_7, l2_8, g2_9, d2_10, rfl, rfl, h_u, h_s⟩ := h_1
      refine v_eq (st' := []) (ws' := [(ro, .inr (4, [.ref wk, .ref ua, .ref ba, .int bl2_7, .int (nI men), .int (nI dw), .int (nI rows2_6)])), (ua, eI D 6 (nF u2_4)), (ba, eI D 6 (nF b2_5)), (wk, .inr (8, [.ref kn, .ref vl, .ref pt, .int (nI gone), .ref fc, .ref ovr, .ref bkr, .int l2_8, .int g2_9, .int d2_10])), (kn, eI D 6 (nF kk)), (pt, eI D 6 (nF pp)), (ovr, eI D 480 (nF ov)), (bkr, eI D 480 (nF bk))]) rfl rfl rfl rfl ?_
      refine v_iinc (v := nI (i + 1)) (lv' := [(0, .ref ro), (1, .int (nI h)), (2, .int (nI len)), (3, .int (nI a)), (4, .int (nI (i + 1)))]) O dX4_follow_47 4 rfl (nI_1 i) (by decide) rfl ?_
      refine v_goto O 29 dX4_follow_50 (by decide) ?_
      exact ih (i + 1) (by omega) _ _ _ _ _ _ _ h_u (by rw [show catN (gK (rE kk pp ov bk) men dw 5 h len a) (i + 1) = catN (gK (rE kk pp ov bk) men dw 5 h len a) i ++ gK (rE kk pp ov bk) men dw 5 h len a i from rfl, ← List.append_assoc, List.map_append, List.foldl_append]; exact h_s)
set_option maxRecDepth 100000 in
set_option maxHeartbeats 4000000 in
theorem sp_X4_follow_6 {D : G} {ro : Nat} {ua : Nat} {ba : Nat} {men : Nat} {dw : Nat} {wk : Nat} {kn : Nat} {vl : Nat} {pt : Nat} {gone : Nat} {fc : Nat} {ovr : Nat} {bkr : Nat} {kk : Nat → Nat} {pp : Nat → Nat} {ov : Nat → Nat} {bk : Nat → Nat} {u : Nat → Nat} {b : Nat → Nat} {rows : Nat} {bl : Int32} {lf : Int32} {dg : Int32} {hd : Int32} {st : Nat × Option (List Nat)} {pr9 : List Nat} {h : Nat} {len : Nat} {a : Nat} (hlen : len + 6 = men) (hmen : men ≤ 6) (hh : h < 1000000) (hdw : dw < 1000000) (ha : a < 64) (hk : ∀ m, m < 6 → kk m < 7) (hp : ∀ m, 2 ≤ pp m) (hp2 : ∀ m, m < 6 → pp m ≤ 99) (ho : ∀ m, m < men → ∀ s, s < men → ∀ d, d < 10 → ov (slotN m s d) < 1000) (hb : ∀ m, m < men → ∀ s, s < men → ∀ d, d < 10 → bk (slotN m s d) < 1000) (hst : kR st rows bl b) (hpl : pr9.length = len) (hu : ∀ j, j < len → u j = pr9.getD j 0) : Sp D mX4_follow 16 0 0 [.ref ro, .int (nI h), .int (nI len), .int (nI a)] [(ro, .inr (4, [.ref wk, .ref ua, .ref ba, .int bl, .int (nI men), .int (nI dw), .int (nI rows)])), (ua, eI D 6 (nF u)), (ba, eI D 6 (nF b)), (wk, .inr (8, [.ref kn, .ref vl, .ref pt, .int (nI gone), .ref fc, .ref ovr, .ref bkr, .int lf, .int dg, .int hd])), (kn, eI D 6 (nF kk)), (pt, eI D 6 (nF pp)), (ovr, eI D 480 (nF ov)), (bkr, eI D 480 (nF bk))] (fun r w => ∃ u2 : Nat → Nat, ∃ b2 : Nat → Nat, ∃ rows2 : Nat, ∃ bl2 : Int32, ∃ l2 : Int32, ∃ g2 : Int32, ∃ d2 : Int32, r = none ∧ w = [(ro, .inr (4, [.ref wk, .ref ua, .ref ba, .int bl2, .int (nI men), .int (nI dw), .int (nI rows2)])), (ua, eI D 6 (nF u2)), (ba, eI D 6 (nF b2)), (wk, .inr (8, [.ref kn, .ref vl, .ref pt, .int (nI gone), .ref fc, .ref ovr, .ref bkr, .int l2, .int g2, .int d2])), (kn, eI D 6 (nF kk)), (pt, eI D 6 (nF pp)), (ovr, eI D 480 (nF ov)), (bkr, eI D 480 (nF bk))] ∧ (∀ j, j < len → u2 j = pr9.getD j 0) ∧ (kR (List.foldl kF st ((dfsK (rE kk pp ov bk) men dw 6 h len a).map (fun zr => pr9 ++ zr))) rows2 bl2 b2)) := by
  refine Sp.of (by decide) (Nat.le_of_ble_eq_true rfl) (fun X O T => ?_)
  refine v_eq (lv' := [(0, .ref ro), (1, .int (nI h)), (2, .int (nI len)), (3, .int (nI a))]) rfl rfl rfl rfl ?_
  refine v_iload_n O dX4_follow_0 1 rfl ?_
  refine v_aload_n O dX4_follow_1 0 rfl ?_
  refine gf_X4_32 O rfl dX4_follow_2 0 rfl rfl ?_
  refine v_icmp_ne O 13 dX4_follow_5 (by decide) (fun z1 => ?_) (fun z1 => ?_)
  · skip
    have z1 := (not_congr (c_eq (x := nI h) (y := nI dw) (a := h) (b := dw) rfl rfl (by omega) (by omega))).mp z1
    refine v_iload_n O dX4_follow_13 2 rfl ?_
    refine v_if_lt O 25 dX4_follow_14 (by decide) (fun c_1 => ?_) (fun c_1 => ?_)
    · skip
      have c_1 := (c_lt (x := nI len) (y := 0) (a := len) (b := 0) rfl rfl (by omega) (by omega)).mp c_1
      exact absurd c_1 (by omega)
    · skip
      have c_1 := (not_congr (c_lt (x := nI len) (y := 0) (a := len) (b := 0) rfl rfl (by omega) (by omega))).mp c_1
      refine v_iload_n O dX4_follow_17 2 rfl ?_
      refine v_aload_n O dX4_follow_18 0 rfl ?_
      refine gf_X4_29 O rfl dX4_follow_19 0 rfl rfl ?_
      refine v_icmp_lt O 26 dX4_follow_22 (by decide) (fun z3 => ?_) (fun z3 => ?_)
      · skip
        have z3 := (c_lt (x := nI len) (y := nI men) (a := len) (b := men) rfl rfl (by omega) (by omega)).mp z3
        refine v_iconst (v := 0) O dX4_follow_26 (by decide) ?_
        refine v_istore (lv' := [(0, .ref ro), (1, .int (nI h)), (2, .int (nI len)), (3, .int (nI a)), (4, .int 0)]) O dX4_follow_27 (by decide) rfl ?_
        refine v_eq (lv' := [(0, .ref ro), (1, .int (nI h)), (2, .int (nI len)), (3, .int (nI a)), (4, .int (nI 0))]) rfl rfl rfl rfl ?_
        exact l_X4_follow_6 O hlen hmen hh hdw ha hk hp hp2 ho hb hpl T men 0 (by omega) _ _ _ _ _ _ _ hu (by rw [if_neg z1]; simpa [catN] using hst)
      · skip
        have z3 := (not_congr (c_lt (x := nI len) (y := nI men) (a := len) (b := men) rfl rfl (by omega) (by omega))).mp z3
        exact absurd z3 (by omega)
  · skip
    have z1 := (c_eq (x := nI h) (y := nI dw) (a := h) (b := dw) rfl rfl (by omega) (by omega)).mp z1
    refine v_aload_n O dX4_follow_8 0 rfl ?_
    refine v_iload_n O dX4_follow_9 2 rfl ?_
    refine v_cV (T := TX4) (ci := 4) (As := [.int (nI len)]) (wr := [(wk, .inr (8, [.ref kn, .ref vl, .ref pt, .int (nI gone), .ref fc, .ref ovr, .ref bkr, .int lf, .int dg, .int hd])), (kn, eI D 6 (nF kk)), (pt, eI D 6 (nF pp)), (ovr, eI D 480 (nF ov)), (bkr, eI D 480 (nF bk))]) (st := []) O cf_X4_59 rfl (sp_X4_keep (ro := ro) (ua := ua) (ba := ba) (men := men) (dw := dw) (wk := wk) (u := u) (b := b) (rows := rows) (bl := bl) (st := st) (pr9 := pr9) (len := len) (hst) (by omega) (hpl) (hu)) dX4_follow_10 rfl rfl 0 rfl [0, 1, 2] [3, 4, 5, 6, 7] (by decide) rfl rfl (by decide) (by decide) (by decide) (Nat.le_of_ble_eq_true rfl) (by decide) (by decide) (fun r_3 w_4 h_2 => ?_)
    obtain ⟨bl2_5, b2_6, rfl, rfl, h_k⟩ := h_2
    refine v_eq (st' := []) (ws' := [(wk, .inr (8, [.ref kn, .ref vl, .ref pt, .int (nI gone), .ref fc, .ref ovr, .ref bkr, .int lf, .int dg, .int hd])), (kn, eI D 6 (nF kk)), (pt, eI D 6 (nF pp)), (ovr, eI D 480 (nF ov)), (bkr, eI D 480 (nF bk)), (ro, .inr (4, [.ref wk, .ref ua, .ref ba, .int bl2_5, .int (nI men), .int (nI dw), .int (nI (rows + 1))])), (ua, eI D 6 (nF u)), (ba, eI D 6 (nF b2_6))]) rfl rfl rfl rfl ?_
    refine v_iload_n O dX4_follow_13 2 rfl ?_
    refine v_if_lt O 25 dX4_follow_14 (by decide) (fun c_7 => ?_) (fun c_7 => ?_)
    · skip
      have c_7 := (c_lt (x := nI len) (y := 0) (a := len) (b := 0) rfl rfl (by omega) (by omega)).mp c_7
      exact absurd c_7 (by omega)
    · skip
      have c_7 := (not_congr (c_lt (x := nI len) (y := 0) (a := len) (b := 0) rfl rfl (by omega) (by omega))).mp c_7
      refine v_iload_n O dX4_follow_17 2 rfl ?_
      refine v_aload_n O dX4_follow_18 0 rfl ?_
      refine gf_X4_29 O rfl dX4_follow_19 5 rfl rfl ?_
      refine v_icmp_lt O 26 dX4_follow_22 (by decide) (fun z3 => ?_) (fun z3 => ?_)
      · skip
        have z3 := (c_lt (x := nI len) (y := nI men) (a := len) (b := men) rfl rfl (by omega) (by omega)).mp z3
        refine v_iconst (v := 0) O dX4_follow_26 (by decide) ?_
        refine v_istore (lv' := [(0, .ref ro), (1, .int (nI h)), (2, .int (nI len)), (3, .int (nI a)), (4, .int 0)]) O dX4_follow_27 (by decide) rfl ?_
        refine v_sub (ws' := [(ro, .inr (4, [.ref wk, .ref ua, .ref ba, .int bl2_5, .int (nI men), .int (nI dw), .int (nI (rows + 1))])), (ua, eI D 6 (nF u)), (ba, eI D 6 (nF b2_6)), (wk, .inr (8, [.ref kn, .ref vl, .ref pt, .int (nI gone), .ref fc, .ref ovr, .ref bkr, .int lf, .int dg, .int hd])), (kn, eI D 6 (nF kk)), (pt, eI D 6 (nF pp)), (ovr, eI D 480 (nF ov)), (bkr, eI D 480 (nF bk))]) [5, 6, 7, 0, 1, 2, 3, 4] (by decide) rfl ?_
        refine v_eq (lv' := [(0, .ref ro), (1, .int (nI h)), (2, .int (nI len)), (3, .int (nI a)), (4, .int (nI 0))]) rfl rfl rfl rfl ?_
        exact l_X4_follow_6 O hlen hmen hh hdw ha hk hp hp2 ho hb hpl T men 0 (by omega) _ _ _ _ _ _ _ hu (by rw [if_pos z1]; simpa [catN] using h_k)
      · skip
        have z3 := (not_congr (c_lt (x := nI len) (y := nI men) (a := len) (b := men) rfl rfl (by omega) (by omega))).mp z3
        exact absurd z3 (by omega)
