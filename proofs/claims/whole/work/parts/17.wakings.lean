-- OneForDog$Wakings
def oL (e : Option (Nat × Nat × Nat)) (h : Nat) : Nat := match e with | none => h | some x => x.1
def oG (e : Option (Nat × Nat × Nat)) (g : Nat) : Nat := match e with | none => g | some x => g + x.2.1
def oD (e : Option (Nat × Nat × Nat)) (d : Nat) : Nat := match e with | none => d | some x => d + x.2.2
theorem maxJ_sub {a b : Nat} (ha : a < 1073741824) (hb : b < 1073741824) : maxJ (nI a - nI b) 0 = nI (a - b) := by
  unfold maxJ
  by_cases z : a < b
  · rw [if_pos (pk_sneg (by omega) z), show a - b = 0 by omega]; rfl
  · rw [pk_sub (by omega), if_neg (nI_pos (by omega))]
theorem minJ_nI {a b : Nat} (ha : a < 2147483648) (hb : b < 2147483648) : minJ (nI a) (nI b) = nI (min a b) := by
  unfold minJ
  by_cases z : b < a
  · rw [if_pos (nI_lt z ha), show min a b = b by omega]
  · rw [if_neg (nI_nlt (by omega) hb), show min a b = a by omega]
def factsF (m k v w d : Nat) : Nat → Int32 := fun j => nI ([m, k, v, w % 60, d].getD j 0)
theorem shareN_some {k p h : Nat} {o b : Nat → Nat} (h1 : o (h % 10) ≤ h) (h2 : (h - o (h % 10)) % p = 0) : shareN k p o b h = some (h - o (h % 10) - hidN k (h - o (h % 10)) ((h - o (h % 10)) / p) (b (h % 10)), o (h % 10), hidN k (h - o (h % 10)) ((h - o (h % 10)) / p) (b (h % 10))) := by
  unfold shareN
  rw [if_neg (by omega)]
theorem shareN_n1 {k p h : Nat} {o b : Nat → Nat} (h1 : h < o (h % 10)) : shareN k p o b h = none := by unfold shareN; rw [if_pos (Or.inl h1)]
theorem shareN_n2 {k p h : Nat} {o b : Nat → Nat} (h1 : ¬ (h - o (h % 10)) % p = 0) : shareN k p o b h = none := by unfold shareN; rw [if_pos (Or.inr h1)]
theorem oL_le {k p h : Nat} {o b : Nat → Nat} (hp : 2 ≤ p) : oL (shareN k p o b h) h ≤ h ∧ oG (shareN k p o b h) 0 ≤ h ∧ oD (shareN k p o b h) 0 ≤ h := by
  cases e : shareN k p o b h with
  | none => exact ⟨Nat.le_refl _, Nat.zero_le _, Nat.zero_le _⟩
  | some x =>
    obtain ⟨l, g, d⟩ := x
    have := shareN_le hp e
    simp only [oL, oG, oD]
    omega
set_option maxRecDepth 100000 in
set_option maxHeartbeats 4000000 in
theorem sp_X8_partsFor {D : G} {k : Nat} {v : Nat} {sh : Nat} (hk : k < 7) : Sp D mX8_partsFor 0 0 0 [.int (nI k), .int (nI v), .int (nI sh)] [] (fun r w => r = some (.int (nI (partsN k v sh))) ∧ w = []) := by
  refine Sp.of (by decide) (Nat.le_of_ble_eq_true rfl) (fun X O T => ?_)
  refine v_eq (lv' := [(0, .int (nI k)), (1, .int (nI v)), (2, .int (nI sh))]) rfl rfl rfl rfl ?_
  refine v_iload_n O dX8_partsFor_0 0 rfl ?_
  by_cases s_1 : nI k = 1
  · skip
    refine v_top s_1 ?_
    refine v_tsIn (off := 39) O 40 dX8_partsFor_1 (by decide) (by decide) (by decide) (by decide) ?_
    have z_k1 := (c_eq (x := nI k) (y := 1) (a := k) (b := 1) rfl rfl (by omega) (by omega)).mp s_1
    refine v_iload_n O dX8_partsFor_40 1 rfl ?_
    refine v_iconst (v := 2) O dX8_partsFor_41 (by decide) ?_
    refine v_iadd O dX8_partsFor_42 ?_
    refine v_top (y := nI (v + 2)) (nI_add v 2) ?_
    exact v_ireturn O T rfl rfl (by decide) (by decide) dX8_partsFor_43 (⟨by unfold partsN; rw [if_pos (by omega)], rfl⟩)
  by_cases s_2 : nI k = 2
  · skip
    refine v_top s_2 ?_
    refine v_tsIn (off := 45) O 46 dX8_partsFor_1 (by decide) (by decide) (by decide) (by decide) ?_
    have z_k2 := (c_eq (x := nI k) (y := 2) (a := k) (b := 2) rfl rfl (by omega) (by omega)).mp s_2
    refine v_iload_n O dX8_partsFor_46 2 rfl ?_
    exact v_ireturn O T rfl rfl (by decide) (by decide) dX8_partsFor_47 (⟨by unfold partsN; rw [if_neg (by omega), if_neg (by omega)], rfl⟩)
  by_cases s_3 : nI k = 3
  · skip
    refine v_top s_3 ?_
    refine v_tsIn (off := 43) O 44 dX8_partsFor_1 (by decide) (by decide) (by decide) (by decide) ?_
    have z_k3 := (c_eq (x := nI k) (y := 3) (a := k) (b := 3) rfl rfl (by omega) (by omega)).mp s_3
    refine v_iconst (v := 2) O dX8_partsFor_44 (by decide) ?_
    exact v_ireturn O T rfl rfl (by decide) (by decide) dX8_partsFor_45 (⟨by unfold partsN; rw [if_neg (by omega), if_pos (by omega)]; rfl, rfl⟩)
  by_cases s_4 : nI k = 4
  · skip
    refine v_top s_4 ?_
    refine v_tsIn (off := 39) O 40 dX8_partsFor_1 (by decide) (by decide) (by decide) (by decide) ?_
    have z_k4 := (c_eq (x := nI k) (y := 4) (a := k) (b := 4) rfl rfl (by omega) (by omega)).mp s_4
    refine v_iload_n O dX8_partsFor_40 1 rfl ?_
    refine v_iconst (v := 2) O dX8_partsFor_41 (by decide) ?_
    refine v_iadd O dX8_partsFor_42 ?_
    refine v_top (y := nI (v + 2)) (nI_add v 2) ?_
    exact v_ireturn O T rfl rfl (by decide) (by decide) dX8_partsFor_43 (⟨by unfold partsN; rw [if_pos (by omega)], rfl⟩)
  by_cases s_5 : nI k = 5
  · skip
    refine v_top s_5 ?_
    refine v_tsIn (off := 45) O 46 dX8_partsFor_1 (by decide) (by decide) (by decide) (by decide) ?_
    have z_k5 := (c_eq (x := nI k) (y := 5) (a := k) (b := 5) rfl rfl (by omega) (by omega)).mp s_5
    refine v_iload_n O dX8_partsFor_46 2 rfl ?_
    exact v_ireturn O T rfl rfl (by decide) (by decide) dX8_partsFor_47 (⟨by unfold partsN; rw [if_neg (by omega), if_neg (by omega)], rfl⟩)
  by_cases s_6 : nI k = 6
  · skip
    refine v_top s_6 ?_
    refine v_tsIn (off := 43) O 44 dX8_partsFor_1 (by decide) (by decide) (by decide) (by decide) ?_
    have z_k6 := (c_eq (x := nI k) (y := 6) (a := k) (b := 6) rfl rfl (by omega) (by omega)).mp s_6
    refine v_iconst (v := 2) O dX8_partsFor_44 (by decide) ?_
    exact v_ireturn O T rfl rfl (by decide) (by decide) dX8_partsFor_45 (⟨by unfold partsN; rw [if_neg (by omega), if_pos (by omega)]; rfl, rfl⟩)
  refine v_tsOut O 46 dX8_partsFor_1 (ts_out (by decide) (by decide) (fun v h1 h2 => by rcases (show v = 1 ∨ v = 2 ∨ v = 3 ∨ v = 4 ∨ v = 5 ∨ v = 6 by omega) with rfl | rfl | rfl | rfl | rfl | rfl <;> assumption)) (by decide) ?_
  have z_n1 := (not_congr (c_eq (x := nI k) (y := 1) (a := k) (b := 1) rfl rfl (by omega) (by omega))).mp s_1
  have z_n2 := (not_congr (c_eq (x := nI k) (y := 2) (a := k) (b := 2) rfl rfl (by omega) (by omega))).mp s_2
  have z_n3 := (not_congr (c_eq (x := nI k) (y := 3) (a := k) (b := 3) rfl rfl (by omega) (by omega))).mp s_3
  have z_n4 := (not_congr (c_eq (x := nI k) (y := 4) (a := k) (b := 4) rfl rfl (by omega) (by omega))).mp s_4
  have z_n5 := (not_congr (c_eq (x := nI k) (y := 5) (a := k) (b := 5) rfl rfl (by omega) (by omega))).mp s_5
  have z_n6 := (not_congr (c_eq (x := nI k) (y := 6) (a := k) (b := 6) rfl rfl (by omega) (by omega))).mp s_6
  refine v_iload_n O dX8_partsFor_46 2 rfl ?_
  exact v_ireturn O T rfl rfl (by decide) (by decide) dX8_partsFor_47 (⟨by unfold partsN; rw [if_neg (by omega), if_neg (by omega)], rfl⟩)
set_option maxRecDepth 100000 in
set_option maxHeartbeats 4000000 in
theorem sp_X8_slot {D : G} {m : Nat} {s : Nat} {h : Nat} (hm : m < 6) (hs : s < 8) (hh : h < 2147483648) : Sp D mX8_slot 0 0 0 [.int (nI m), .int (nI s), .int (nI h)] [] (fun r w => r = some (.int (nI (slotN m s (h % 10)))) ∧ w = []) := by
  refine Sp.of (by decide) (Nat.le_of_ble_eq_true rfl) (fun X O T => ?_)
  refine v_eq (lv' := [(0, .int (nI m)), (1, .int (nI s)), (2, .int (nI h))]) rfl rfl rfl rfl ?_
  refine v_iload_n O dX8_slot_0 0 rfl ?_
  refine v_if_lt O 24 dX8_slot_1 (by decide) (fun c_1 => ?_) (fun c_1 => ?_)
  · skip
    have c_1 := (c_lt (x := nI m) (y := 0) (a := m) (b := 0) rfl rfl (by omega) (by omega)).mp c_1
    exact absurd c_1 (by omega)
  · skip
    have c_1 := (not_congr (c_lt (x := nI m) (y := 0) (a := m) (b := 0) rfl rfl (by omega) (by omega))).mp c_1
    refine v_iload_n O dX8_slot_4 0 rfl ?_
    refine v_bipush (v := 6) O dX8_slot_5 (by decide) ?_
    refine v_icmp_ge O 24 dX8_slot_7 (by decide) (fun c_2 => ?_) (fun c_2 => ?_)
    · skip
      have c_2 := (c_le' (x := nI m) (y := 6) (a := m) (b := 6) rfl rfl (by omega) (by omega)).mp c_2
      exact absurd c_2 (by omega)
    · skip
      have c_2 := (not_congr (c_le' (x := nI m) (y := 6) (a := m) (b := 6) rfl rfl (by omega) (by omega))).mp c_2
      refine v_iload_n O dX8_slot_10 1 rfl ?_
      refine v_if_lt O 24 dX8_slot_11 (by decide) (fun c_3 => ?_) (fun c_3 => ?_)
      · skip
        have c_3 := (c_lt (x := nI s) (y := 0) (a := s) (b := 0) rfl rfl (by omega) (by omega)).mp c_3
        exact absurd c_3 (by omega)
      · skip
        have c_3 := (not_congr (c_lt (x := nI s) (y := 0) (a := s) (b := 0) rfl rfl (by omega) (by omega))).mp c_3
        refine v_iload_n O dX8_slot_14 1 rfl ?_
        refine v_bipush (v := 8) O dX8_slot_15 (by decide) ?_
        refine v_icmp_ge O 24 dX8_slot_17 (by decide) (fun c_4 => ?_) (fun c_4 => ?_)
        · skip
          have c_4 := (c_le' (x := nI s) (y := 8) (a := s) (b := 8) rfl rfl (by omega) (by omega)).mp c_4
          exact absurd c_4 (by omega)
        · skip
          have c_4 := (not_congr (c_le' (x := nI s) (y := 8) (a := s) (b := 8) rfl rfl (by omega) (by omega))).mp c_4
          refine v_iload_n O dX8_slot_20 2 rfl ?_
          refine v_if_ge O 26 dX8_slot_21 (by decide) (fun c_5 => ?_) (fun c_5 => ?_)
          · skip
            have c_5 := (c_le' (x := nI h) (y := 0) (a := h) (b := 0) rfl rfl (by omega) (by omega)).mp c_5
            refine v_iload_n O dX8_slot_26 0 rfl ?_
            refine v_bipush (v := 8) O dX8_slot_27 (by decide) ?_
            refine v_imul O dX8_slot_29 ?_
            refine v_top (y := nI (m * 8)) (pk_mul m 8) ?_
            refine v_iload_n O dX8_slot_30 1 rfl ?_
            refine v_iadd O dX8_slot_31 ?_
            refine v_top (y := nI ((m * 8) + s)) (nI_add (m * 8) s) ?_
            refine v_bipush (v := 10) O dX8_slot_32 (by decide) ?_
            refine v_imul O dX8_slot_34 ?_
            refine v_top (y := nI (((m * 8) + s) * 10)) (pk_mul ((m * 8) + s) 10) ?_
            refine v_iload_n O dX8_slot_35 2 rfl ?_
            refine v_bipush (v := 10) O dX8_slot_36 (by decide) ?_
            refine v_irem O dX8_slot_38 (by decide) ?_
            refine v_top (y := nI (h % 10)) (pk_rem (a := h) (d := 10) hh (by decide) (by decide)) ?_
            refine v_iadd O dX8_slot_39 ?_
            refine v_top (y := nI ((((m * 8) + s) * 10) + (h % 10))) (nI_add (((m * 8) + s) * 10) (h % 10)) ?_
            exact v_ireturn O T rfl rfl (by decide) (by decide) dX8_slot_40 (⟨rfl, rfl⟩)
          · skip
            have c_5 := (not_congr (c_le' (x := nI h) (y := 0) (a := h) (b := 0) rfl rfl (by omega) (by omega))).mp c_5
            exact absurd c_5 (by omega)
set_option maxRecDepth 100000 in
set_option maxHeartbeats 4000000 in
theorem sp_X8_hiddenOf {D : G} {k : Nat} {sh : Nat} {q : Nat} {b : Nat} (hk : k < 7) (hsh : sh < 1000000) (hq : q < 1000000) (hb : b < 1000000) : Sp D mX8_hiddenOf 1 0 0 [.int (nI k), .int (nI sh), .int (nI q), .int (nI b)] [] (fun r w => r = some (.int (nI (hidN k sh q b))) ∧ w = []) := by
  refine Sp.of (by decide) (Nat.le_of_ble_eq_true rfl) (fun X O T => ?_)
  refine v_eq (lv' := [(0, .int (nI k)), (1, .int (nI sh)), (2, .int (nI q)), (3, .int (nI b))]) rfl rfl rfl rfl ?_
  refine v_iload_n O dX8_hiddenOf_0 0 rfl ?_
  by_cases s_1 : nI k = 2
  · skip
    refine v_top s_1 ?_
    refine v_tsIn (off := 37) O 38 dX8_hiddenOf_1 (by decide) (by decide) (by decide) (by decide) ?_
    have z_k2 := (c_eq (x := nI k) (y := 2) (a := k) (b := 2) rfl rfl (by omega) (by omega)).mp s_1
    refine v_iconst (v := 2) O dX8_hiddenOf_38 (by decide) ?_
    refine v_iload_n O dX8_hiddenOf_39 2 rfl ?_
    refine v_imul O dX8_hiddenOf_40 ?_
    refine v_top (y := nI (2 * q)) (pk_mul 2 q) ?_
    refine v_iload_n O dX8_hiddenOf_41 3 rfl ?_
    refine v_isub O dX8_hiddenOf_42 ?_
    refine v_iconst (v := 0) O dX8_hiddenOf_43 (by decide) ?_
    refine v_cS (As := [.int ((nI (2 * q)) - (nI b)), .int 0]) (wr := []) (st := []) O cf_X8_77 (sp_J9_max_7cf53 (x := ((nI (2 * q)) - (nI b))) (y := 0) ) dX8_hiddenOf_44 rfl rfl [] [] (by decide) rfl rfl (by decide) (by decide) (by decide) (Nat.le_of_ble_eq_true rfl) (by decide) (by decide) (fun r_3 w_4 h_2 => ?_)
    obtain ⟨rfl, rfl⟩ := h_2
    refine v_eq (st' := [.int (maxJ ((nI (2 * q)) - (nI b)) 0)]) (ws' := []) rfl rfl rfl rfl ?_
    refine v_top (y := nI (2 * q - b)) (maxJ_sub (by omega) (by omega)) ?_
    exact v_ireturn O T rfl rfl (by decide) (by decide) dX8_hiddenOf_47 (⟨by unfold hidN; rw [if_neg (by omega), if_pos (by omega)], rfl⟩)
  by_cases s_5 : nI k = 3
  · skip
    refine v_top s_5 ?_
    refine v_tsIn (off := 55) O 56 dX8_hiddenOf_1 (by decide) (by decide) (by decide) (by decide) ?_
    have z_k3 := (c_eq (x := nI k) (y := 3) (a := k) (b := 3) rfl rfl (by omega) (by omega)).mp s_5
    refine v_iload_n O dX8_hiddenOf_56 2 rfl ?_
    refine v_iload_n O dX8_hiddenOf_57 3 rfl ?_
    refine v_isub O dX8_hiddenOf_58 ?_
    refine v_iconst (v := 0) O dX8_hiddenOf_59 (by decide) ?_
    refine v_cS (As := [.int ((nI q) - (nI b)), .int 0]) (wr := []) (st := []) O cf_X8_77 (sp_J9_max_7cf53 (x := ((nI q) - (nI b))) (y := 0) ) dX8_hiddenOf_60 rfl rfl [] [] (by decide) rfl rfl (by decide) (by decide) (by decide) (Nat.le_of_ble_eq_true rfl) (by decide) (by decide) (fun r_7 w_8 h_6 => ?_)
    obtain ⟨rfl, rfl⟩ := h_6
    refine v_eq (st' := [.int (maxJ ((nI q) - (nI b)) 0)]) (ws' := []) rfl rfl rfl rfl ?_
    refine v_top (y := nI (q - b)) (maxJ_sub (by omega) (by omega)) ?_
    exact v_ireturn O T rfl rfl (by decide) (by decide) dX8_hiddenOf_63 (⟨by unfold hidN; rw [if_neg (by omega), if_neg (by omega), if_neg (by omega)], rfl⟩)
  by_cases s_9 : nI k = 4
  · skip
    refine v_top s_9 ?_
    refine v_tsIn (off := 35) O 36 dX8_hiddenOf_1 (by decide) (by decide) (by decide) (by decide) ?_
    have z_k4 := (c_eq (x := nI k) (y := 4) (a := k) (b := 4) rfl rfl (by omega) (by omega)).mp s_9
    refine v_iconst (v := 0) O dX8_hiddenOf_36 (by decide) ?_
    exact v_ireturn O T rfl rfl (by decide) (by decide) dX8_hiddenOf_37 (⟨by unfold hidN; rw [if_pos (by omega)]; rfl, rfl⟩)
  by_cases s_10 : nI k = 5
  · skip
    refine v_top s_10 ?_
    refine v_tsIn (off := 37) O 38 dX8_hiddenOf_1 (by decide) (by decide) (by decide) (by decide) ?_
    have z_k5 := (c_eq (x := nI k) (y := 5) (a := k) (b := 5) rfl rfl (by omega) (by omega)).mp s_10
    refine v_iconst (v := 2) O dX8_hiddenOf_38 (by decide) ?_
    refine v_iload_n O dX8_hiddenOf_39 2 rfl ?_
    refine v_imul O dX8_hiddenOf_40 ?_
    refine v_top (y := nI (2 * q)) (pk_mul 2 q) ?_
    refine v_iload_n O dX8_hiddenOf_41 3 rfl ?_
    refine v_isub O dX8_hiddenOf_42 ?_
    refine v_iconst (v := 0) O dX8_hiddenOf_43 (by decide) ?_
    refine v_cS (As := [.int ((nI (2 * q)) - (nI b)), .int 0]) (wr := []) (st := []) O cf_X8_77 (sp_J9_max_7cf53 (x := ((nI (2 * q)) - (nI b))) (y := 0) ) dX8_hiddenOf_44 rfl rfl [] [] (by decide) rfl rfl (by decide) (by decide) (by decide) (Nat.le_of_ble_eq_true rfl) (by decide) (by decide) (fun r_12 w_13 h_11 => ?_)
    obtain ⟨rfl, rfl⟩ := h_11
    refine v_eq (st' := [.int (maxJ ((nI (2 * q)) - (nI b)) 0)]) (ws' := []) rfl rfl rfl rfl ?_
    refine v_top (y := nI (2 * q - b)) (maxJ_sub (by omega) (by omega)) ?_
    exact v_ireturn O T rfl rfl (by decide) (by decide) dX8_hiddenOf_47 (⟨by unfold hidN; rw [if_neg (by omega), if_pos (by omega)], rfl⟩)
  by_cases s_14 : nI k = 6
  · skip
    refine v_top s_14 ?_
    refine v_tsIn (off := 47) O 48 dX8_hiddenOf_1 (by decide) (by decide) (by decide) (by decide) ?_
    have z_k6 := (c_eq (x := nI k) (y := 6) (a := k) (b := 6) rfl rfl (by omega) (by omega)).mp s_14
    refine v_iload_n O dX8_hiddenOf_48 2 rfl ?_
    refine v_iload_n O dX8_hiddenOf_49 3 rfl ?_
    refine v_iadd O dX8_hiddenOf_50 ?_
    refine v_top (y := nI (q + b)) (nI_add q b) ?_
    refine v_iload_n O dX8_hiddenOf_51 1 rfl ?_
    refine v_cS (As := [.int (nI (q + b)), .int (nI sh)]) (wr := []) (st := []) O cf_X8_83 (sp_J9_min_7cf53 (x := (nI (q + b))) (y := (nI sh)) ) dX8_hiddenOf_52 rfl rfl [] [] (by decide) rfl rfl (by decide) (by decide) (by decide) (Nat.le_of_ble_eq_true rfl) (by decide) (by decide) (fun r_16 w_17 h_15 => ?_)
    obtain ⟨rfl, rfl⟩ := h_15
    refine v_eq (st' := [.int (minJ (nI (q + b)) (nI sh))]) (ws' := []) rfl rfl rfl rfl ?_
    refine v_top (y := nI (min (q + b) sh)) (minJ_nI (by omega) (by omega)) ?_
    exact v_ireturn O T rfl rfl (by decide) (by decide) dX8_hiddenOf_55 (⟨by unfold hidN; rw [if_neg (by omega), if_neg (by omega), if_pos (by omega)], rfl⟩)
  refine v_tsOut O 56 dX8_hiddenOf_1 (ts_out (by decide) (by decide) (fun v h1 h2 => by rcases (show v = 2 ∨ v = 3 ∨ v = 4 ∨ v = 5 ∨ v = 6 by omega) with rfl | rfl | rfl | rfl | rfl <;> assumption)) (by decide) ?_
  have z_n2 := (not_congr (c_eq (x := nI k) (y := 2) (a := k) (b := 2) rfl rfl (by omega) (by omega))).mp s_1
  have z_n3 := (not_congr (c_eq (x := nI k) (y := 3) (a := k) (b := 3) rfl rfl (by omega) (by omega))).mp s_5
  have z_n4 := (not_congr (c_eq (x := nI k) (y := 4) (a := k) (b := 4) rfl rfl (by omega) (by omega))).mp s_9
  have z_n5 := (not_congr (c_eq (x := nI k) (y := 5) (a := k) (b := 5) rfl rfl (by omega) (by omega))).mp s_10
  have z_n6 := (not_congr (c_eq (x := nI k) (y := 6) (a := k) (b := 6) rfl rfl (by omega) (by omega))).mp s_14
  refine v_iload_n O dX8_hiddenOf_56 2 rfl ?_
  refine v_iload_n O dX8_hiddenOf_57 3 rfl ?_
  refine v_isub O dX8_hiddenOf_58 ?_
  refine v_iconst (v := 0) O dX8_hiddenOf_59 (by decide) ?_
  refine v_cS (As := [.int ((nI q) - (nI b)), .int 0]) (wr := []) (st := []) O cf_X8_77 (sp_J9_max_7cf53 (x := ((nI q) - (nI b))) (y := 0) ) dX8_hiddenOf_60 rfl rfl [] [] (by decide) rfl rfl (by decide) (by decide) (by decide) (Nat.le_of_ble_eq_true rfl) (by decide) (by decide) (fun r_19 w_20 h_18 => ?_)
  obtain ⟨rfl, rfl⟩ := h_18
  refine v_eq (st' := [.int (maxJ ((nI q) - (nI b)) 0)]) (ws' := []) rfl rfl rfl rfl ?_
  refine v_top (y := nI (q - b)) (maxJ_sub (by omega) (by omega)) ?_
  exact v_ireturn O T rfl rfl (by decide) (by decide) dX8_hiddenOf_63 (⟨by unfold hidN; rw [if_neg (by omega), if_neg (by omega), if_neg (by omega)], rfl⟩)
set_option maxRecDepth 100000 in
set_option maxHeartbeats 4000000 in
theorem sp_X8_overOf {D : G} {wk : Nat} {kn : Nat} {vl : Nat} {pt : Nat} {gone : Nat} {fc : Nat} {ovr : Nat} {bkr : Nat} {lf : Int32} {dg : Int32} {hd : Int32} {ov : Nat → Nat} {m : Nat} {s : Nat} {h : Nat} (hm : m < 6) (hs : s < 8) (hh : h < 2147483648) : Sp D mX8_overOf 1 0 0 [.ref wk, .int (nI m), .int (nI s), .int (nI h)] [(wk, .inr (8, [.ref kn, .ref vl, .ref pt, .int (nI gone), .ref fc, .ref ovr, .ref bkr, .int lf, .int dg, .int hd])), (ovr, eI D 480 (nF ov))] (fun r w => r = some (.int (nI (ov (slotN m s (h % 10))))) ∧ w = [(wk, .inr (8, [.ref kn, .ref vl, .ref pt, .int (nI gone), .ref fc, .ref ovr, .ref bkr, .int lf, .int dg, .int hd])), (ovr, eI D 480 (nF ov))]) := by
  refine Sp.of (by decide) (Nat.le_of_ble_eq_true rfl) (fun X O T => ?_)
  refine v_eq (lv' := [(0, .ref wk), (1, .int (nI m)), (2, .int (nI s)), (3, .int (nI h))]) rfl rfl rfl rfl ?_
  have z_sl := slotN_lt hm hs (Nat.mod_lt h (by decide : 0 < 10))
  refine v_iload_n O dX8_overOf_0 1 rfl ?_
  refine v_iload_n O dX8_overOf_1 2 rfl ?_
  refine v_iload_n O dX8_overOf_2 3 rfl ?_
  refine v_cS (As := [.int (nI m), .int (nI s), .int (nI h)]) (wr := [(wk, .inr (8, [.ref kn, .ref vl, .ref pt, .int (nI gone), .ref fc, .ref ovr, .ref bkr, .int lf, .int dg, .int hd])), (ovr, eI D 480 (nF ov))]) (st := []) O cf_X8_59 (sp_X8_slot (m := m) (s := s) (h := h) (hm) (hs) (hh)) dX8_overOf_3 rfl rfl [] [0, 1] (by decide) rfl rfl (by decide) (by decide) (by decide) (Nat.le_of_ble_eq_true rfl) (by decide) (by decide) (fun r_2 w_3 h_1 => ?_)
  obtain ⟨rfl, rfl⟩ := h_1
  refine v_eq (st' := [.int (nI (slotN m s (h % 10)))]) (ws' := [(wk, .inr (8, [.ref kn, .ref vl, .ref pt, .int (nI gone), .ref fc, .ref ovr, .ref bkr, .int lf, .int dg, .int hd])), (ovr, eI D 480 (nF ov))]) rfl rfl rfl rfl ?_
  refine v_istore (lv' := [(0, .ref wk), (1, .int (nI m)), (2, .int (nI s)), (3, .int (nI h)), (4, .int (nI (slotN m s (h % 10))))]) O dX8_overOf_6 (by decide) rfl ?_
  refine v_iload O dX8_overOf_8 4 rfl ?_
  refine v_if_ge O 17 dX8_overOf_10 (by decide) (fun z1 => ?_) (fun z1 => ?_)
  · skip
    have z1 := (c_le' (x := nI (slotN m s (h % 10))) (y := 0) (a := slotN m s (h % 10)) (b := 0) rfl rfl (by omega) (by omega)).mp z1
    refine v_aload_n O dX8_overOf_17 0 rfl ?_
    refine gf_X8_30 O rfl dX8_overOf_18 0 rfl rfl ?_
    refine v_iload O dX8_overOf_21 4 rfl ?_
    refine v_ialdk O dX8_overOf_23 1 rfl (slotN m s (h % 10)) rfl (by omega) (by decide) ?_
    refine v_top (y := nI (ov (slotN m s (h % 10)))) rfl ?_
    exact v_ireturn O T rfl rfl (by decide) (by decide) dX8_overOf_24 (⟨rfl, rfl⟩)
  · skip
    have z1 := (not_congr (c_le' (x := nI (slotN m s (h % 10))) (y := 0) (a := slotN m s (h % 10)) (b := 0) rfl rfl (by omega) (by omega))).mp z1
    exact absurd z1 (by omega)
set_option maxRecDepth 100000 in
set_option maxHeartbeats 4000000 in
theorem sp_X8_backOf {D : G} {wk : Nat} {kn : Nat} {vl : Nat} {pt : Nat} {gone : Nat} {fc : Nat} {ovr : Nat} {bkr : Nat} {lf : Int32} {dg : Int32} {hd : Int32} {bk : Nat → Nat} {m : Nat} {s : Nat} {h : Nat} (hm : m < 6) (hs : s < 8) (hh : h < 2147483648) : Sp D mX8_backOf 1 0 0 [.ref wk, .int (nI m), .int (nI s), .int (nI h)] [(wk, .inr (8, [.ref kn, .ref vl, .ref pt, .int (nI gone), .ref fc, .ref ovr, .ref bkr, .int lf, .int dg, .int hd])), (bkr, eI D 480 (nF bk))] (fun r w => r = some (.int (nI (bk (slotN m s (h % 10))))) ∧ w = [(wk, .inr (8, [.ref kn, .ref vl, .ref pt, .int (nI gone), .ref fc, .ref ovr, .ref bkr, .int lf, .int dg, .int hd])), (bkr, eI D 480 (nF bk))]) := by
  refine Sp.of (by decide) (Nat.le_of_ble_eq_true rfl) (fun X O T => ?_)
  refine v_eq (lv' := [(0, .ref wk), (1, .int (nI m)), (2, .int (nI s)), (3, .int (nI h))]) rfl rfl rfl rfl ?_
  have z_sl := slotN_lt hm hs (Nat.mod_lt h (by decide : 0 < 10))
  refine v_iload_n O dX8_backOf_0 1 rfl ?_
  refine v_iload_n O dX8_backOf_1 2 rfl ?_
  refine v_iload_n O dX8_backOf_2 3 rfl ?_
  refine v_cS (As := [.int (nI m), .int (nI s), .int (nI h)]) (wr := [(wk, .inr (8, [.ref kn, .ref vl, .ref pt, .int (nI gone), .ref fc, .ref ovr, .ref bkr, .int lf, .int dg, .int hd])), (bkr, eI D 480 (nF bk))]) (st := []) O cf_X8_59 (sp_X8_slot (m := m) (s := s) (h := h) (hm) (hs) (hh)) dX8_backOf_3 rfl rfl [] [0, 1] (by decide) rfl rfl (by decide) (by decide) (by decide) (Nat.le_of_ble_eq_true rfl) (by decide) (by decide) (fun r_2 w_3 h_1 => ?_)
  obtain ⟨rfl, rfl⟩ := h_1
  refine v_eq (st' := [.int (nI (slotN m s (h % 10)))]) (ws' := [(wk, .inr (8, [.ref kn, .ref vl, .ref pt, .int (nI gone), .ref fc, .ref ovr, .ref bkr, .int lf, .int dg, .int hd])), (bkr, eI D 480 (nF bk))]) rfl rfl rfl rfl ?_
  refine v_istore (lv' := [(0, .ref wk), (1, .int (nI m)), (2, .int (nI s)), (3, .int (nI h)), (4, .int (nI (slotN m s (h % 10))))]) O dX8_backOf_6 (by decide) rfl ?_
  refine v_iload O dX8_backOf_8 4 rfl ?_
  refine v_if_ge O 17 dX8_backOf_10 (by decide) (fun z1 => ?_) (fun z1 => ?_)
  · skip
    have z1 := (c_le' (x := nI (slotN m s (h % 10))) (y := 0) (a := slotN m s (h % 10)) (b := 0) rfl rfl (by omega) (by omega)).mp z1
    refine v_aload_n O dX8_backOf_17 0 rfl ?_
    refine gf_X8_33 O rfl dX8_backOf_18 0 rfl rfl ?_
    refine v_iload O dX8_backOf_21 4 rfl ?_
    refine v_ialdk O dX8_backOf_23 1 rfl (slotN m s (h % 10)) rfl (by omega) (by decide) ?_
    refine v_top (y := nI (bk (slotN m s (h % 10)))) rfl ?_
    exact v_ireturn O T rfl rfl (by decide) (by decide) dX8_backOf_24 (⟨rfl, rfl⟩)
  · skip
    have z1 := (not_congr (c_le' (x := nI (slotN m s (h % 10))) (y := 0) (a := slotN m s (h % 10)) (b := 0) rfl rfl (by omega) (by omega))).mp z1
    exact absurd z1 (by omega)
set_option maxRecDepth 100000 in
set_option maxHeartbeats 4000000 in
theorem sp_X8_partsOf {D : G} {wk : Nat} {kn : Nat} {vl : Nat} {pt : Nat} {gone : Nat} {fc : Nat} {ovr : Nat} {bkr : Nat} {lf : Int32} {dg : Int32} {hd : Int32} {pp : Nat → Nat} {m : Nat} (hm : m < 6) : Sp D mX8_partsOf 0 0 0 [.ref wk, .int (nI m)] [(wk, .inr (8, [.ref kn, .ref vl, .ref pt, .int (nI gone), .ref fc, .ref ovr, .ref bkr, .int lf, .int dg, .int hd])), (pt, eI D 6 (nF pp))] (fun r w => r = some (.int (nI (pp m))) ∧ w = [(wk, .inr (8, [.ref kn, .ref vl, .ref pt, .int (nI gone), .ref fc, .ref ovr, .ref bkr, .int lf, .int dg, .int hd])), (pt, eI D 6 (nF pp))]) := by
  refine Sp.of (by decide) (Nat.le_of_ble_eq_true rfl) (fun X O T => ?_)
  refine v_eq (lv' := [(0, .ref wk), (1, .int (nI m))]) rfl rfl rfl rfl ?_
  refine v_iload_n O dX8_partsOf_0 1 rfl ?_
  refine v_if_lt O 19 dX8_partsOf_1 (by decide) (fun c_1 => ?_) (fun c_1 => ?_)
  · skip
    have c_1 := (c_lt (x := nI m) (y := 0) (a := m) (b := 0) rfl rfl (by omega) (by omega)).mp c_1
    exact absurd c_1 (by omega)
  · skip
    have c_1 := (not_congr (c_lt (x := nI m) (y := 0) (a := m) (b := 0) rfl rfl (by omega) (by omega))).mp c_1
    refine v_iload_n O dX8_partsOf_4 1 rfl ?_
    refine v_bipush (v := 6) O dX8_partsOf_5 (by decide) ?_
    refine v_icmp_ge O 19 dX8_partsOf_7 (by decide) (fun z1 => ?_) (fun z1 => ?_)
    · skip
      have z1 := (c_le' (x := nI m) (y := 6) (a := m) (b := 6) rfl rfl (by omega) (by omega)).mp z1
      exact absurd z1 (by omega)
    · skip
      have z1 := (not_congr (c_le' (x := nI m) (y := 6) (a := m) (b := 6) rfl rfl (by omega) (by omega))).mp z1
      refine v_aload_n O dX8_partsOf_10 0 rfl ?_
      refine gf_X8_18 O rfl dX8_partsOf_11 0 rfl rfl ?_
      refine v_iload_n O dX8_partsOf_14 1 rfl ?_
      refine v_ialdk O dX8_partsOf_15 1 rfl m rfl (by omega) (by decide) ?_
      refine v_top (y := nI (pp m)) rfl ?_
      refine v_goto O 20 dX8_partsOf_16 (by decide) ?_
      exact v_ireturn O T rfl rfl (by decide) (by decide) dX8_partsOf_20 (⟨rfl, rfl⟩)
set_option maxRecDepth 100000 in
set_option maxHeartbeats 4000000 in
theorem sp_X8_shareOnce {D : G} {wk : Nat} {kn : Nat} {vl : Nat} {pt : Nat} {gone : Nat} {fc : Nat} {ovr : Nat} {bkr : Nat} {kk : Nat → Nat} {pp : Nat → Nat} {ov : Nat → Nat} {bk : Nat → Nat} {h : Nat} {g : Nat} {d : Nat} {m : Nat} {s : Nat} (hm : m < 6) (hs : s < 8) (hh : h < 1000000) (hk : kk m < 7) (hp : 2 ≤ pp m) (hp2 : pp m ≤ 99) (ho : ov (slotN m s (h % 10)) < 1000) (hb : bk (slotN m s (h % 10)) < 1000) (hg : g < 1000000) (hd : d < 1000000) : Sp D mX8_shareOnce 2 0 0 [.ref wk, .int (nI m), .int (nI s)] [(wk, .inr (8, [.ref kn, .ref vl, .ref pt, .int (nI gone), .ref fc, .ref ovr, .ref bkr, .int (nI h), .int (nI g), .int (nI d)])), (kn, eI D 6 (nF kk)), (pt, eI D 6 (nF pp)), (ovr, eI D 480 (nF ov)), (bkr, eI D 480 (nF bk))] (fun r w => r = some (.int (b2i (¬ shareN (kk m) (pp m) (fun zd => ov (slotN m s zd)) (fun zd => bk (slotN m s zd)) h = none))) ∧ w = [(wk, .inr (8, [.ref kn, .ref vl, .ref pt, .int (nI gone), .ref fc, .ref ovr, .ref bkr, .int (nI (oL (shareN (kk m) (pp m) (fun zd => ov (slotN m s zd)) (fun zd => bk (slotN m s zd)) h) h)), .int (nI (oG (shareN (kk m) (pp m) (fun zd => ov (slotN m s zd)) (fun zd => bk (slotN m s zd)) h) g)), .int (nI (oD (shareN (kk m) (pp m) (fun zd => ov (slotN m s zd)) (fun zd => bk (slotN m s zd)) h) d))])), (kn, eI D 6 (nF kk)), (pt, eI D 6 (nF pp)), (ovr, eI D 480 (nF ov)), (bkr, eI D 480 (nF bk))]) := by
  refine Sp.of (by decide) (Nat.le_of_ble_eq_true rfl) (fun X O T => ?_)
  refine v_eq (lv' := [(0, .ref wk), (1, .int (nI m)), (2, .int (nI s))]) rfl rfl rfl rfl ?_
  have z_sl := slotN_lt hm hs (Nat.mod_lt h (by decide : 0 < 10))
  refine v_iload_n O dX8_shareOnce_0 1 rfl ?_
  refine v_iload_n O dX8_shareOnce_1 2 rfl ?_
  refine v_aload_n O dX8_shareOnce_2 0 rfl ?_
  refine gf_X8_36 O rfl dX8_shareOnce_3 0 rfl rfl ?_
  refine v_cS (As := [.int (nI m), .int (nI s), .int (nI h)]) (wr := [(wk, .inr (8, [.ref kn, .ref vl, .ref pt, .int (nI gone), .ref fc, .ref ovr, .ref bkr, .int (nI h), .int (nI g), .int (nI d)])), (kn, eI D 6 (nF kk)), (pt, eI D 6 (nF pp)), (ovr, eI D 480 (nF ov)), (bkr, eI D 480 (nF bk))]) (st := []) O cf_X8_59 (sp_X8_slot (m := m) (s := s) (h := h) (hm) (hs) (by omega)) dX8_shareOnce_6 rfl rfl [] [0, 1, 2, 3, 4] (by decide) rfl rfl (by decide) (by decide) (by decide) (Nat.le_of_ble_eq_true rfl) (by decide) (by decide) (fun r_2 w_3 h_1 => ?_)
  obtain ⟨rfl, rfl⟩ := h_1
  refine v_eq (st' := [.int (nI (slotN m s (h % 10)))]) (ws' := [(wk, .inr (8, [.ref kn, .ref vl, .ref pt, .int (nI gone), .ref fc, .ref ovr, .ref bkr, .int (nI h), .int (nI g), .int (nI d)])), (kn, eI D 6 (nF kk)), (pt, eI D 6 (nF pp)), (ovr, eI D 480 (nF ov)), (bkr, eI D 480 (nF bk))]) rfl rfl rfl rfl ?_
  refine v_istore_n (lv' := [(0, .ref wk), (1, .int (nI m)), (2, .int (nI s)), (3, .int (nI (slotN m s (h % 10))))]) O dX8_shareOnce_9 (by decide) rfl ?_
  refine v_iload_n O dX8_shareOnce_10 3 rfl ?_
  refine v_if_ge O 16 dX8_shareOnce_11 (by decide) (fun z1 => ?_) (fun z1 => ?_)
  · skip
    have z1 := (c_le' (x := nI (slotN m s (h % 10))) (y := 0) (a := slotN m s (h % 10)) (b := 0) rfl rfl (by omega) (by omega)).mp z1
    refine v_aload_n O dX8_shareOnce_16 0 rfl ?_
    refine gf_X8_36 O rfl dX8_shareOnce_17 0 rfl rfl ?_
    refine v_aload_n O dX8_shareOnce_20 0 rfl ?_
    refine gf_X8_30 O rfl dX8_shareOnce_21 0 rfl rfl ?_
    refine v_iload_n O dX8_shareOnce_24 3 rfl ?_
    refine v_ialdk O dX8_shareOnce_25 3 rfl (slotN m s (h % 10)) rfl (by omega) (by decide) ?_
    refine v_top (y := nI (ov (slotN m s (h % 10)))) rfl ?_
    refine v_isub O dX8_shareOnce_26 ?_
    refine v_topi (fun x9 e_x9 => ?_)
    refine v_istore (lv' := [(0, .ref wk), (1, .int (nI m)), (2, .int (nI s)), (3, .int (nI (slotN m s (h % 10)))), (4, .int x9)]) O dX8_shareOnce_27 (by decide) rfl ?_
    refine v_aload_n O dX8_shareOnce_29 0 rfl ?_
    refine gf_X8_18 O rfl dX8_shareOnce_30 0 rfl rfl ?_
    refine v_iload_n O dX8_shareOnce_33 1 rfl ?_
    refine v_ialdk O dX8_shareOnce_34 2 rfl m rfl (by omega) (by decide) ?_
    refine v_top (y := nI (pp m)) rfl ?_
    refine v_istore (lv' := [(0, .ref wk), (1, .int (nI m)), (2, .int (nI s)), (3, .int (nI (slotN m s (h % 10)))), (4, .int x9), (5, .int (nI (pp m)))]) O dX8_shareOnce_35 (by decide) rfl ?_
    refine v_iload O dX8_shareOnce_37 4 rfl ?_
    refine v_if_lt O 56 dX8_shareOnce_39 (by decide) (fun z2 => ?_) (fun z2 => ?_)
    · skip
      have z_lt : h < ov (slotN m s (h % 10)) := by rcases Nat.lt_or_ge h (ov (slotN m s (h % 10))) with q9 | q9; (· exact q9); (· rw [e_x9, pk_sub q9] at z2; exact absurd z2 (nI_pos (by omega)))
      have z_none : shareN (kk m) (pp m) (fun zd => ov (slotN m s zd)) (fun zd => bk (slotN m s zd)) h = none := shareN_n1 z_lt
      refine v_iconst (v := 0) O dX8_shareOnce_56 (by decide) ?_
      exact v_ireturn O T rfl rfl (by decide) (by decide) dX8_shareOnce_57 (⟨by rw [b2i_f (fun z9 => z9 z_none)], by rw [z_none]; rfl⟩)
    · skip
      have z_ge : ov (slotN m s (h % 10)) ≤ h := by rcases Nat.lt_or_ge h (ov (slotN m s (h % 10))) with q9 | q9; (· rw [e_x9] at z2; exact absurd (pk_sneg (by omega) q9) z2); (· exact q9)
      rw [pk_sub z_ge] at e_x9
      subst e_x9
      have z_md : (h - ov (slotN m s (h % 10))) % pp m < pp m := Nat.mod_lt _ (by omega)
      refine v_iload O dX8_shareOnce_42 5 rfl ?_
      refine v_iconst (v := 1) O dX8_shareOnce_44 (by decide) ?_
      refine v_icmp_lt O 56 dX8_shareOnce_45 (by decide) (fun z3 => ?_) (fun z3 => ?_)
      · skip
        have z3 := (c_lt (x := nI (pp m)) (y := 1) (a := pp m) (b := 1) rfl rfl (by omega) (by omega)).mp z3
        exact absurd z3 (by omega)
      · skip
        have z3 := (not_congr (c_lt (x := nI (pp m)) (y := 1) (a := pp m) (b := 1) rfl rfl (by omega) (by omega))).mp z3
        refine v_iload O dX8_shareOnce_48 4 rfl ?_
        refine v_iload O dX8_shareOnce_50 5 rfl ?_
        refine v_irem O dX8_shareOnce_52 (nI_ne0 (by omega) (by omega)) ?_
        refine v_top (y := nI ((h - ov (slotN m s (h % 10))) % pp m)) (pk_rem (by omega) (by omega) (by omega)) ?_
        refine v_if_eq O 58 dX8_shareOnce_53 (by decide) (fun z4 => ?_) (fun z4 => ?_)
        · skip
          have z4 := (c_eq (x := nI ((h - ov (slotN m s (h % 10))) % pp m)) (y := 0) (a := (h - ov (slotN m s (h % 10))) % pp m) (b := 0) rfl rfl (by omega) (by omega)).mp z4
          have z_dv : (h - ov (slotN m s (h % 10))) / pp m ≤ h - ov (slotN m s (h % 10)) := Nat.div_le_self _ _
          have z_hd := hidN_le (k := kk m) (sh := h - ov (slotN m s (h % 10))) (b := bk (slotN m s (h % 10))) hp
          have z_some : shareN (kk m) (pp m) (fun zd => ov (slotN m s zd)) (fun zd => bk (slotN m s zd)) h = some (h - ov (slotN m s (h % 10)) - hidN (kk m) (h - ov (slotN m s (h % 10))) ((h - ov (slotN m s (h % 10))) / pp m) (bk (slotN m s (h % 10))), ov (slotN m s (h % 10)), hidN (kk m) (h - ov (slotN m s (h % 10))) ((h - ov (slotN m s (h % 10))) / pp m) (bk (slotN m s (h % 10)))) := shareN_some z_ge z4
          refine v_aload_n O dX8_shareOnce_58 0 rfl ?_
          refine gf_X8_9 O rfl dX8_shareOnce_59 0 rfl rfl ?_
          refine v_iload_n O dX8_shareOnce_62 1 rfl ?_
          refine v_ialdk O dX8_shareOnce_63 1 rfl m rfl (by omega) (by decide) ?_
          refine v_top (y := nI (kk m)) rfl ?_
          refine v_iload O dX8_shareOnce_64 4 rfl ?_
          refine v_iload O dX8_shareOnce_66 4 rfl ?_
          refine v_iload O dX8_shareOnce_68 5 rfl ?_
          refine v_idiv O dX8_shareOnce_70 (nI_ne0 (by omega) (by omega)) ?_
          refine v_top (y := nI ((h - ov (slotN m s (h % 10))) / pp m)) (pk_div (by omega) (by omega) (by omega)) ?_
          refine v_aload_n O dX8_shareOnce_71 0 rfl ?_
          refine gf_X8_33 O rfl dX8_shareOnce_72 0 rfl rfl ?_
          refine v_iload_n O dX8_shareOnce_75 3 rfl ?_
          refine v_ialdk O dX8_shareOnce_76 4 rfl (slotN m s (h % 10)) rfl (by omega) (by decide) ?_
          refine v_top (y := nI (bk (slotN m s (h % 10)))) rfl ?_
          refine v_cS (As := [.int (nI (kk m)), .int (nI (h - ov (slotN m s (h % 10)))), .int (nI ((h - ov (slotN m s (h % 10))) / pp m)), .int (nI (bk (slotN m s (h % 10))))]) (wr := [(wk, .inr (8, [.ref kn, .ref vl, .ref pt, .int (nI gone), .ref fc, .ref ovr, .ref bkr, .int (nI h), .int (nI g), .int (nI d)])), (kn, eI D 6 (nF kk)), (pt, eI D 6 (nF pp)), (ovr, eI D 480 (nF ov)), (bkr, eI D 480 (nF bk))]) (st := []) O cf_X8_73 (sp_X8_hiddenOf (k := (kk m)) (sh := (h - ov (slotN m s (h % 10)))) (q := ((h - ov (slotN m s (h % 10))) / pp m)) (b := (bk (slotN m s (h % 10)))) (hk) (by omega) (by omega) (by omega)) dX8_shareOnce_77 rfl rfl [] [0, 1, 2, 3, 4] (by decide) rfl rfl (by decide) (by decide) (by decide) (Nat.le_of_ble_eq_true rfl) (by decide) (by decide) (fun r_5 w_6 h_4 => ?_)
          obtain ⟨rfl, rfl⟩ := h_4
          refine v_eq (st' := [.int (nI (hidN (kk m) (h - ov (slotN m s (h % 10))) ((h - ov (slotN m s (h % 10))) / pp m) (bk (slotN m s (h % 10)))))]) (ws' := [(wk, .inr (8, [.ref kn, .ref vl, .ref pt, .int (nI gone), .ref fc, .ref ovr, .ref bkr, .int (nI h), .int (nI g), .int (nI d)])), (kn, eI D 6 (nF kk)), (pt, eI D 6 (nF pp)), (ovr, eI D 480 (nF ov)), (bkr, eI D 480 (nF bk))]) rfl rfl rfl rfl ?_
          refine v_istore (lv' := [(0, .ref wk), (1, .int (nI m)), (2, .int (nI s)), (3, .int (nI (slotN m s (h % 10)))), (4, .int (nI (h - ov (slotN m s (h % 10))))), (5, .int (nI (pp m))), (6, .int (nI (hidN (kk m) (h - ov (slotN m s (h % 10))) ((h - ov (slotN m s (h % 10))) / pp m) (bk (slotN m s (h % 10))))))]) O dX8_shareOnce_80 (by decide) rfl ?_
          refine v_aload_n O dX8_shareOnce_82 0 rfl ?_
          refine v_dup O dX8_shareOnce_83 rfl ?_
          refine gf_X8_39 O rfl dX8_shareOnce_84 0 rfl rfl ?_
          refine v_aload_n O dX8_shareOnce_87 0 rfl ?_
          refine gf_X8_30 O rfl dX8_shareOnce_88 0 rfl rfl ?_
          refine v_iload_n O dX8_shareOnce_91 3 rfl ?_
          refine v_ialdk O dX8_shareOnce_92 3 rfl (slotN m s (h % 10)) rfl (by omega) (by decide) ?_
          refine v_top (y := nI (ov (slotN m s (h % 10)))) rfl ?_
          refine v_iadd O dX8_shareOnce_93 ?_
          refine v_top (y := nI (g + (ov (slotN m s (h % 10))))) (nI_add g (ov (slotN m s (h % 10)))) ?_
          refine pf_X8_39 (fs' := [.ref kn, .ref vl, .ref pt, .int (nI gone), .ref fc, .ref ovr, .ref bkr, .int (nI h), .int (nI (g + (ov (slotN m s (h % 10))))), .int (nI d)]) (ws' := [(wk, .inr (8, [.ref kn, .ref vl, .ref pt, .int (nI gone), .ref fc, .ref ovr, .ref bkr, .int (nI h), .int (nI (g + (ov (slotN m s (h % 10))))), .int (nI d)])), (kn, eI D 6 (nF kk)), (pt, eI D 6 (nF pp)), (ovr, eI D 480 (nF ov)), (bkr, eI D 480 (nF bk))]) O rfl dX8_shareOnce_94 0 rfl (Nat.le_of_ble_eq_true rfl) rfl rfl ?_
          refine v_aload_n O dX8_shareOnce_97 0 rfl ?_
          refine v_dup O dX8_shareOnce_98 rfl ?_
          refine gf_X8_42 O rfl dX8_shareOnce_99 0 rfl rfl ?_
          refine v_iload O dX8_shareOnce_102 6 rfl ?_
          refine v_iadd O dX8_shareOnce_104 ?_
          refine v_top (y := nI (d + (hidN (kk m) (h - ov (slotN m s (h % 10))) ((h - ov (slotN m s (h % 10))) / pp m) (bk (slotN m s (h % 10)))))) (nI_add d (hidN (kk m) (h - ov (slotN m s (h % 10))) ((h - ov (slotN m s (h % 10))) / pp m) (bk (slotN m s (h % 10))))) ?_
          refine pf_X8_42 (fs' := [.ref kn, .ref vl, .ref pt, .int (nI gone), .ref fc, .ref ovr, .ref bkr, .int (nI h), .int (nI (g + (ov (slotN m s (h % 10))))), .int (nI (d + (hidN (kk m) (h - ov (slotN m s (h % 10))) ((h - ov (slotN m s (h % 10))) / pp m) (bk (slotN m s (h % 10))))))]) (ws' := [(wk, .inr (8, [.ref kn, .ref vl, .ref pt, .int (nI gone), .ref fc, .ref ovr, .ref bkr, .int (nI h), .int (nI (g + (ov (slotN m s (h % 10))))), .int (nI (d + (hidN (kk m) (h - ov (slotN m s (h % 10))) ((h - ov (slotN m s (h % 10))) / pp m) (bk (slotN m s (h % 10))))))])), (kn, eI D 6 (nF kk)), (pt, eI D 6 (nF pp)), (ovr, eI D 480 (nF ov)), (bkr, eI D 480 (nF bk))]) O rfl dX8_shareOnce_105 0 rfl (Nat.le_of_ble_eq_true rfl) rfl rfl ?_
          refine v_aload_n O dX8_shareOnce_108 0 rfl ?_
          refine v_iload O dX8_shareOnce_109 4 rfl ?_
          refine v_iload O dX8_shareOnce_111 6 rfl ?_
          refine v_isub O dX8_shareOnce_113 ?_
          refine v_top (y := nI (h - ov (slotN m s (h % 10)) - hidN (kk m) (h - ov (slotN m s (h % 10))) ((h - ov (slotN m s (h % 10))) / pp m) (bk (slotN m s (h % 10))))) (pk_sub (by omega)) ?_
          refine pf_X8_36 (fs' := [.ref kn, .ref vl, .ref pt, .int (nI gone), .ref fc, .ref ovr, .ref bkr, .int (nI (h - ov (slotN m s (h % 10)) - hidN (kk m) (h - ov (slotN m s (h % 10))) ((h - ov (slotN m s (h % 10))) / pp m) (bk (slotN m s (h % 10))))), .int (nI (g + (ov (slotN m s (h % 10))))), .int (nI (d + (hidN (kk m) (h - ov (slotN m s (h % 10))) ((h - ov (slotN m s (h % 10))) / pp m) (bk (slotN m s (h % 10))))))]) (ws' := [(wk, .inr (8, [.ref kn, .ref vl, .ref pt, .int (nI gone), .ref fc, .ref ovr, .ref bkr, .int (nI (h - ov (slotN m s (h % 10)) - hidN (kk m) (h - ov (slotN m s (h % 10))) ((h - ov (slotN m s (h % 10))) / pp m) (bk (slotN m s (h % 10))))), .int (nI (g + (ov (slotN m s (h % 10))))), .int (nI (d + (hidN (kk m) (h - ov (slotN m s (h % 10))) ((h - ov (slotN m s (h % 10))) / pp m) (bk (slotN m s (h % 10))))))])), (kn, eI D 6 (nF kk)), (pt, eI D 6 (nF pp)), (ovr, eI D 480 (nF ov)), (bkr, eI D 480 (nF bk))]) O rfl dX8_shareOnce_114 0 rfl (Nat.le_of_ble_eq_true rfl) rfl rfl ?_
          refine v_iconst (v := 1) O dX8_shareOnce_117 (by decide) ?_
          exact v_ireturn O T rfl rfl (by decide) (by decide) dX8_shareOnce_118 (⟨by rw [b2i_t (by rw [z_some]; exact fun z9 => by cases z9)], by rw [z_some]; simp only [oL, oG, oD]⟩)
        · skip
          have z4 := (not_congr (c_eq (x := nI ((h - ov (slotN m s (h % 10))) % pp m)) (y := 0) (a := (h - ov (slotN m s (h % 10))) % pp m) (b := 0) rfl rfl (by omega) (by omega))).mp z4
          have z_none : shareN (kk m) (pp m) (fun zd => ov (slotN m s zd)) (fun zd => bk (slotN m s zd)) h = none := shareN_n2 z4
          refine v_iconst (v := 0) O dX8_shareOnce_56 (by decide) ?_
          exact v_ireturn O T rfl rfl (by decide) (by decide) dX8_shareOnce_57 (⟨by rw [b2i_f (fun z9 => z9 z_none)], by rw [z_none]; rfl⟩)
  · skip
    have z1 := (not_congr (c_le' (x := nI (slotN m s (h % 10))) (y := 0) (a := slotN m s (h % 10)) (b := 0) rfl rfl (by omega) (by omega))).mp z1
    exact absurd z1 (by omega)
theorem wakeN_n {k p h : Nat} {o b : Nat → Nat} (e : shareN k p o b h = none) : wakeN k p o b h = none := by unfold wakeN; rw [e]; rfl
theorem wakeN_s {k p h : Nat} {o b : Nat → Nat} (e : ¬ shareN k p o b h = none) : ¬ wakeN k p o b h = none := by
  unfold wakeN
  cases z : shareN k p o b h with
  | none => exact absurd z e
  | some x => intro q; cases q
theorem wakeN_o {k p h : Nat} {o b : Nat → Nat} (hk : ¬ k = 5) : wakeN k p o b h = shareN k p o b h := by
  unfold wakeN
  cases z : shareN k p o b h with
  | none => rfl
  | some x => simp only [Option.map_some, if_neg hk]
theorem wakeN_5 {k p h : Nat} {o b : Nat → Nat} (hk : k = 5) (e : ¬ shareN k p o b h = none) : oL (wakeN k p o b h) h = oL (shareN k p o b (oL (shareN k p o b h) h)) (oL (shareN k p o b h) h) ∧ oG (wakeN k p o b h) 0 = oG (shareN k p o b (oL (shareN k p o b h) h)) (oG (shareN k p o b h) 0) ∧ oD (wakeN k p o b h) 0 = oD (shareN k p o b (oL (shareN k p o b h) h)) (oD (shareN k p o b h) 0) := by
  unfold wakeN
  cases z : shareN k p o b h with
  | none => exact absurd z e
  | some x =>
    obtain ⟨l, g, d⟩ := x
    simp only [Option.map_some, if_pos hk, oL, oG, oD]
    cases z2 : shareN k p o b l with
    | none => simp only [again, Nat.zero_add, and_self]
    | some y => simp only [again, Nat.zero_add, and_self]
set_option maxRecDepth 100000 in
set_option maxHeartbeats 4000000 in
theorem sp_X8_comesOut {D : G} {wk : Nat} {kn : Nat} {vl : Nat} {pt : Nat} {gone : Nat} {fc : Nat} {ovr : Nat} {bkr : Nat} {lf : Int32} {dg : Int32} {hd : Int32} {kk : Nat → Nat} {pp : Nat → Nat} {ov : Nat → Nat} {bk : Nat → Nat} {m : Nat} {s : Nat} {h : Nat} (hm : m < 6) (hs : s < 8) (hh : h < 1000000) (hk : kk m < 7) (hp : 2 ≤ pp m) (hp2 : pp m ≤ 99) (ho : ∀ d, d < 10 → ov (slotN m s d) < 1000) (hb : ∀ d, d < 10 → bk (slotN m s d) < 1000) : Sp D mX8_comesOut 3 0 0 [.ref wk, .int (nI m), .int (nI s), .int (nI h)] [(wk, .inr (8, [.ref kn, .ref vl, .ref pt, .int (nI gone), .ref fc, .ref ovr, .ref bkr, .int lf, .int dg, .int hd])), (kn, eI D 6 (nF kk)), (pt, eI D 6 (nF pp)), (ovr, eI D 480 (nF ov)), (bkr, eI D 480 (nF bk))] (fun r w => r = some (.int (b2i (¬ wakeN (kk m) (pp m) (fun zd => ov (slotN m s zd)) (fun zd => bk (slotN m s zd)) h = none))) ∧ w = [(wk, .inr (8, [.ref kn, .ref vl, .ref pt, .int (nI gone), .ref fc, .ref ovr, .ref bkr, .int (nI (oL (wakeN (kk m) (pp m) (fun zd => ov (slotN m s zd)) (fun zd => bk (slotN m s zd)) h) h)), .int (nI (oG (wakeN (kk m) (pp m) (fun zd => ov (slotN m s zd)) (fun zd => bk (slotN m s zd)) h) 0)), .int (nI (oD (wakeN (kk m) (pp m) (fun zd => ov (slotN m s zd)) (fun zd => bk (slotN m s zd)) h) 0))])), (kn, eI D 6 (nF kk)), (pt, eI D 6 (nF pp)), (ovr, eI D 480 (nF ov)), (bkr, eI D 480 (nF bk))]) := by
  refine Sp.of (by decide) (Nat.le_of_ble_eq_true rfl) (fun X O T => ?_)
  refine v_eq (lv' := [(0, .ref wk), (1, .int (nI m)), (2, .int (nI s)), (3, .int (nI h))]) rfl rfl rfl rfl ?_
  refine v_aload_n O dX8_comesOut_0 0 rfl ?_
  refine v_iload_n O dX8_comesOut_1 3 rfl ?_
  refine pf_X8_36 (fs' := [.ref kn, .ref vl, .ref pt, .int (nI gone), .ref fc, .ref ovr, .ref bkr, .int (nI h), .int dg, .int hd]) (ws' := [(wk, .inr (8, [.ref kn, .ref vl, .ref pt, .int (nI gone), .ref fc, .ref ovr, .ref bkr, .int (nI h), .int dg, .int hd])), (kn, eI D 6 (nF kk)), (pt, eI D 6 (nF pp)), (ovr, eI D 480 (nF ov)), (bkr, eI D 480 (nF bk))]) O rfl dX8_comesOut_2 0 rfl (Nat.le_of_ble_eq_true rfl) rfl rfl ?_
  refine v_aload_n O dX8_comesOut_5 0 rfl ?_
  refine v_iconst (v := 0) O dX8_comesOut_6 (by decide) ?_
  refine pf_X8_39 (fs' := [.ref kn, .ref vl, .ref pt, .int (nI gone), .ref fc, .ref ovr, .ref bkr, .int (nI h), .int 0, .int hd]) (ws' := [(wk, .inr (8, [.ref kn, .ref vl, .ref pt, .int (nI gone), .ref fc, .ref ovr, .ref bkr, .int (nI h), .int 0, .int hd])), (kn, eI D 6 (nF kk)), (pt, eI D 6 (nF pp)), (ovr, eI D 480 (nF ov)), (bkr, eI D 480 (nF bk))]) O rfl dX8_comesOut_7 0 rfl (Nat.le_of_ble_eq_true rfl) rfl rfl ?_
  refine v_aload_n O dX8_comesOut_10 0 rfl ?_
  refine v_iconst (v := 0) O dX8_comesOut_11 (by decide) ?_
  refine pf_X8_42 (fs' := [.ref kn, .ref vl, .ref pt, .int (nI gone), .ref fc, .ref ovr, .ref bkr, .int (nI h), .int 0, .int 0]) (ws' := [(wk, .inr (8, [.ref kn, .ref vl, .ref pt, .int (nI gone), .ref fc, .ref ovr, .ref bkr, .int (nI h), .int 0, .int 0])), (kn, eI D 6 (nF kk)), (pt, eI D 6 (nF pp)), (ovr, eI D 480 (nF ov)), (bkr, eI D 480 (nF bk))]) O rfl dX8_comesOut_12 0 rfl (Nat.le_of_ble_eq_true rfl) rfl rfl ?_
  refine v_aload_n O dX8_comesOut_15 0 rfl ?_
  refine v_iload_n O dX8_comesOut_16 1 rfl ?_
  refine v_iload_n O dX8_comesOut_17 2 rfl ?_
  refine v_cV (T := TX8) (ci := 8) (As := [.int (nI m), .int (nI s)]) (wr := []) (st := []) O cf_X8_69 rfl (sp_X8_shareOnce (wk := wk) (kn := kn) (vl := vl) (pt := pt) (gone := gone) (fc := fc) (ovr := ovr) (bkr := bkr) (kk := kk) (pp := pp) (ov := ov) (bk := bk) (h := h) (g := 0) (d := 0) (m := m) (s := s) (hm) (hs) (hh) (hk) (hp) (hp2) (ho _ (Nat.mod_lt _ (by decide))) (hb _ (Nat.mod_lt _ (by decide))) (by omega) (by omega)) dX8_comesOut_18 rfl rfl 0 rfl [0, 1, 2, 3, 4] [] (by decide) rfl rfl (by decide) (by decide) (by decide) (Nat.le_of_ble_eq_true rfl) (by decide) (by decide) (fun r_2 w_3 h_1 => ?_)
  obtain ⟨rfl, rfl⟩ := h_1
  refine v_eq (st' := [.int (b2i (¬ shareN (kk m) (pp m) (fun zd => ov (slotN m s zd)) (fun zd => bk (slotN m s zd)) h = none))]) (ws' := [(wk, .inr (8, [.ref kn, .ref vl, .ref pt, .int (nI gone), .ref fc, .ref ovr, .ref bkr, .int (nI (oL (shareN (kk m) (pp m) (fun zd => ov (slotN m s zd)) (fun zd => bk (slotN m s zd)) h) h)), .int (nI (oG (shareN (kk m) (pp m) (fun zd => ov (slotN m s zd)) (fun zd => bk (slotN m s zd)) h) 0)), .int (nI (oD (shareN (kk m) (pp m) (fun zd => ov (slotN m s zd)) (fun zd => bk (slotN m s zd)) h) 0))])), (kn, eI D 6 (nF kk)), (pt, eI D 6 (nF pp)), (ovr, eI D 480 (nF ov)), (bkr, eI D 480 (nF bk))]) rfl rfl rfl rfl ?_
  refine v_if_ne O 26 dX8_comesOut_21 (by decide) (fun z2 => ?_) (fun z2 => ?_)
  · skip
    have z2 := b2i_1.mp z2
    have z_le := oL_le (k := kk m) (h := h) (o := fun zd => ov (slotN m s zd)) (b := fun zd => bk (slotN m s zd)) hp
    refine v_aload_n O dX8_comesOut_26 0 rfl ?_
    refine gf_X8_9 O rfl dX8_comesOut_27 0 rfl rfl ?_
    refine v_iload_n O dX8_comesOut_30 1 rfl ?_
    refine v_ialdk O dX8_comesOut_31 1 rfl m rfl (by omega) (by decide) ?_
    refine v_top (y := nI (kk m)) rfl ?_
    refine v_iconst (v := 5) O dX8_comesOut_32 (by decide) ?_
    refine v_icmp_ne O 43 dX8_comesOut_33 (by decide) (fun z3 => ?_) (fun z3 => ?_)
    · skip
      have z3 := (not_congr (c_eq (x := nI (kk m)) (y := 5) (a := kk m) (b := 5) rfl rfl (by omega) (by omega))).mp z3
      refine v_iconst (v := 1) O dX8_comesOut_43 (by decide) ?_
      exact v_ireturn O T rfl rfl (by decide) (by decide) dX8_comesOut_44 (⟨by rw [b2i_t (wakeN_s z2)], by rw [wakeN_o z3]⟩)
    · skip
      have z3 := (c_eq (x := nI (kk m)) (y := 5) (a := kk m) (b := 5) rfl rfl (by omega) (by omega)).mp z3
      have z_5t := z3
      refine v_aload_n O dX8_comesOut_36 0 rfl ?_
      refine v_iload_n O dX8_comesOut_37 1 rfl ?_
      refine v_iload_n O dX8_comesOut_38 2 rfl ?_
      refine v_cV (T := TX8) (ci := 8) (As := [.int (nI m), .int (nI s)]) (wr := []) (st := []) O cf_X8_69 rfl (sp_X8_shareOnce (wk := wk) (kn := kn) (vl := vl) (pt := pt) (gone := gone) (fc := fc) (ovr := ovr) (bkr := bkr) (kk := kk) (pp := pp) (ov := ov) (bk := bk) (h := (oL (shareN (kk m) (pp m) (fun zd => ov (slotN m s zd)) (fun zd => bk (slotN m s zd)) h) h)) (g := (oG (shareN (kk m) (pp m) (fun zd => ov (slotN m s zd)) (fun zd => bk (slotN m s zd)) h) 0)) (d := (oD (shareN (kk m) (pp m) (fun zd => ov (slotN m s zd)) (fun zd => bk (slotN m s zd)) h) 0)) (m := m) (s := s) (hm) (hs) (by omega) (hk) (hp) (hp2) (ho _ (Nat.mod_lt _ (by decide))) (hb _ (Nat.mod_lt _ (by decide))) (by omega) (by omega)) dX8_comesOut_39 rfl rfl 0 rfl [0, 1, 2, 3, 4] [] (by decide) rfl rfl (by decide) (by decide) (by decide) (Nat.le_of_ble_eq_true rfl) (by decide) (by decide) (fun r_5 w_6 h_4 => ?_)
      obtain ⟨rfl, rfl⟩ := h_4
      refine v_eq (st' := [.int (b2i (¬ shareN (kk m) (pp m) (fun zd => ov (slotN m s zd)) (fun zd => bk (slotN m s zd)) (oL (shareN (kk m) (pp m) (fun zd => ov (slotN m s zd)) (fun zd => bk (slotN m s zd)) h) h) = none))]) (ws' := [(wk, .inr (8, [.ref kn, .ref vl, .ref pt, .int (nI gone), .ref fc, .ref ovr, .ref bkr, .int (nI (oL (shareN (kk m) (pp m) (fun zd => ov (slotN m s zd)) (fun zd => bk (slotN m s zd)) (oL (shareN (kk m) (pp m) (fun zd => ov (slotN m s zd)) (fun zd => bk (slotN m s zd)) h) h)) (oL (shareN (kk m) (pp m) (fun zd => ov (slotN m s zd)) (fun zd => bk (slotN m s zd)) h) h))), .int (nI (oG (shareN (kk m) (pp m) (fun zd => ov (slotN m s zd)) (fun zd => bk (slotN m s zd)) (oL (shareN (kk m) (pp m) (fun zd => ov (slotN m s zd)) (fun zd => bk (slotN m s zd)) h) h)) (oG (shareN (kk m) (pp m) (fun zd => ov (slotN m s zd)) (fun zd => bk (slotN m s zd)) h) 0))), .int (nI (oD (shareN (kk m) (pp m) (fun zd => ov (slotN m s zd)) (fun zd => bk (slotN m s zd)) (oL (shareN (kk m) (pp m) (fun zd => ov (slotN m s zd)) (fun zd => bk (slotN m s zd)) h) h)) (oD (shareN (kk m) (pp m) (fun zd => ov (slotN m s zd)) (fun zd => bk (slotN m s zd)) h) 0)))])), (kn, eI D 6 (nF kk)), (pt, eI D 6 (nF pp)), (ovr, eI D 480 (nF ov)), (bkr, eI D 480 (nF bk))]) rfl rfl rfl rfl ?_
      refine v_pop O dX8_comesOut_42 rfl ?_
      refine v_iconst (v := 1) O dX8_comesOut_43 (by decide) ?_
      exact v_ireturn O T rfl rfl (by decide) (by decide) dX8_comesOut_44 (⟨by rw [b2i_t (wakeN_s z2)], by rw [(wakeN_5 z3 z2).1, (wakeN_5 z3 z2).2.1, (wakeN_5 z3 z2).2.2]⟩)
  · skip
    have z2 := b2i_0.mp z2
    have z2 : shareN (kk m) (pp m) (fun zd => ov (slotN m s zd)) (fun zd => bk (slotN m s zd)) h = none := Classical.not_not.mp z2
    refine v_iconst (v := 0) O dX8_comesOut_24 (by decide) ?_
    exact v_ireturn O T rfl rfl (by decide) (by decide) dX8_comesOut_25 (⟨by rw [b2i_f (fun z9 => z9 (wakeN_n z2))], by rw [wakeN_n z2, z2]⟩)
