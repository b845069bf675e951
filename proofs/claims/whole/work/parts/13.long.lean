-- OneForDog$LongNumber
set_option maxRecDepth 100000 in
set_option maxHeartbeats 4000000 in
theorem l_X2_multiply {D : G} {X : CX} {ln dg N b : Nat} (O : Ok D X mX2_multiply 0 0 0) (hb0 : 0 < b) (hb : b ≤ 12) (T : Rt D X (fun r w => ∃ g : Nat → Int32, r = none ∧ w = [(ln, .inr (2, [.ref dg])), (dg, eI D 40 g)] ∧ (∀ i, i < 40 → g i = digs (N * b) i)) 0 0) : ∀ (t i : Nat), i + t = 40 → ∀ (g : Nat → Int32) (c : Nat), c = (N % 10 ^ i) * b / 10 ^ i → (∀ j, j < i → g j = digs (N * b) j) → (∀ j, i ≤ j → j < 40 → g j = digs N j) → V D X 0 0 4 [(0, .ref ln), (1, .int (nI b)), (2, .int (nI c)), (3, .int (nI i))] [] [(ln, .inr (2, [.ref dg])), (dg, eI D 40 g)] := by
  intro t
  induction t with
  | zero =>
    intro i hi g c hc h1 h2
    have hcb : c < b := by rw [hc]; exact mul_carry N b i hb0
    have hd := digs_lt N i
    have hp : N / 10 ^ i % 10 * b + c < 2147483648 := Nat.lt_of_le_of_lt (Nat.add_le_add (Nat.mul_le_mul (Nat.le_of_lt_succ hd) hb) (Nat.le_of_lt hcb)) (by omega)
    refine v_iload_n O dX2_multiply_4 3 rfl ?_
    refine v_bipush (v := 40) O dX2_multiply_5 (by decide) ?_
    refine v_icmp_ge O 45 dX2_multiply_7 (by decide) (fun c_1 => ?_) (fun c_1 => ?_)
    · skip
      have c_1 := (c_le' (x := nI i) (y := 40) (a := i) (b := 40) rfl rfl (by omega) (by omega)).mp c_1
      exact v_return O T rfl (by decide) (by decide) dX2_multiply_45 (⟨g, rfl, rfl, fun j hj => h1 j (by omega)⟩)
    · skip
      have c_1 := (not_congr (c_le' (x := nI i) (y := 40) (a := i) (b := 40) rfl rfl (by omega) (by omega))).mp c_1
      exact absurd c_1 (by omega)
  | succ t ih =>
    intro i hi g c hc h1 h2
    have hcb : c < b := by rw [hc]; exact mul_carry N b i hb0
    have hd := digs_lt N i
    have hp : N / 10 ^ i % 10 * b + c < 2147483648 := Nat.lt_of_le_of_lt (Nat.add_le_add (Nat.mul_le_mul (Nat.le_of_lt_succ hd) hb) (Nat.le_of_lt hcb)) (by omega)
    refine v_iload_n O dX2_multiply_4 3 rfl ?_
    refine v_bipush (v := 40) O dX2_multiply_5 (by decide) ?_
    refine v_icmp_ge O 45 dX2_multiply_7 (by decide) (fun c_1 => ?_) (fun c_1 => ?_)
    · skip
      have c_1 := (c_le' (x := nI i) (y := 40) (a := i) (b := 40) rfl rfl (by omega) (by omega)).mp c_1
      exact absurd c_1 (by omega)
    · skip
      have c_1 := (not_congr (c_le' (x := nI i) (y := 40) (a := i) (b := 40) rfl rfl (by omega) (by omega))).mp c_1
      refine v_aload_n O dX2_multiply_10 0 rfl ?_
      refine gf_X2_9 O rfl dX2_multiply_11 0 rfl rfl ?_
      refine v_iload_n O dX2_multiply_14 3 rfl ?_
      refine v_ialdk O dX2_multiply_15 1 rfl i rfl (by omega) (by decide) ?_
      refine v_top (y := nI (N / 10 ^ i % 10)) (h2 i (Nat.le_refl i) (by omega)) ?_
      refine v_iload_n O dX2_multiply_16 1 rfl ?_
      refine v_imul O dX2_multiply_17 ?_
      refine v_top (y := nI ((N / 10 ^ i % 10) * b)) (pk_mul (N / 10 ^ i % 10) b) ?_
      refine v_iload_n O dX2_multiply_18 2 rfl ?_
      refine v_iadd O dX2_multiply_19 ?_
      refine v_top (y := nI (((N / 10 ^ i % 10) * b) + c)) (nI_add ((N / 10 ^ i % 10) * b) c) ?_
      refine v_istore (lv' := [(0, .ref ln), (1, .int (nI b)), (2, .int (nI c)), (3, .int (nI i)), (4, .int (nI (((N / 10 ^ i % 10) * b) + c)))]) O dX2_multiply_20 (by decide) rfl ?_
      refine v_aload_n O dX2_multiply_22 0 rfl ?_
      refine gf_X2_9 O rfl dX2_multiply_23 0 rfl rfl ?_
      refine v_iload_n O dX2_multiply_26 3 rfl ?_
      refine v_iload O dX2_multiply_27 4 rfl ?_
      refine v_bipush (v := 10) O dX2_multiply_29 (by decide) ?_
      refine v_irem O dX2_multiply_31 (by decide) ?_
      refine v_top (y := nI ((N / 10 ^ i % 10 * b + c) % 10)) (pk_rem (d := 10) hp (by decide) (by decide)) ?_
      refine v_iastk (ws' := [(ln, .inr (2, [.ref dg])), (dg, eI D 40 (upd g i (nI ((N / 10 ^ i % 10 * b + c) % 10))))]) O dX2_multiply_32 1 rfl i (rfl) (by omega) (by decide) (rfl) ?_
      refine v_iload O dX2_multiply_33 4 rfl ?_
      refine v_bipush (v := 10) O dX2_multiply_35 (by decide) ?_
      refine v_idiv O dX2_multiply_37 (by decide) ?_
      refine v_top (y := nI ((N / 10 ^ i % 10 * b + c) / 10)) (pk_div (d := 10) hp (by decide) (by decide)) ?_
      refine v_istore_n (lv' := [(0, .ref ln), (1, .int (nI b)), (2, .int (nI ((N / 10 ^ i % 10 * b + c) / 10))), (3, .int (nI i)), (4, .int (nI (((N / 10 ^ i % 10) * b) + c)))]) O dX2_multiply_38 (by decide) rfl ?_
      refine v_iinc (v := nI (i + 1)) (lv' := [(0, .ref ln), (1, .int (nI b)), (2, .int (nI ((N / 10 ^ i % 10 * b + c) / 10))), (3, .int (nI (i + 1))), (4, .int (nI (((N / 10 ^ i % 10) * b) + c)))]) O dX2_multiply_39 3 rfl (nI_1 i) (by decide) rfl ?_
      refine v_goto O 4 dX2_multiply_42 (by decide) ?_
      refine v_lvp (lv' := [(0, .ref ln), (1, .int (nI b)), (2, .int (nI ((N / 10 ^ i % 10 * b + c) / 10))), (3, .int (nI (i + 1)))]) [0, 1, 2, 3] rfl ?_
      exact ih (i + 1) (by omega) _ _ (mul_step N b i c hc).2 (upd_lt h1 (congrArg nI (mul_step N b i c hc).1)) (upd_ge h2)
set_option maxRecDepth 100000 in
set_option maxHeartbeats 4000000 in
theorem sp_X2_multiply {D : G} {ln : Nat} {dg : Nat} {f : Nat → Int32} {N : Nat} {b : Nat} (hb0 : 0 < b) (hb : b ≤ 12) (hf : (∀ zj, zj < 40 → f zj = digs (N) zj)) : Sp D mX2_multiply 0 0 0 [.ref ln, .int (nI b)] [(ln, .inr (2, [.ref dg])), (dg, eI D 40 f)] (fun r w => ∃ g : Nat → Int32, r = none ∧ w = [(ln, .inr (2, [.ref dg])), (dg, eI D 40 g)] ∧ ((∀ zj, zj < 40 → g zj = digs (N * b) zj))) := by
  refine Sp.of (by decide) (Nat.le_of_ble_eq_true rfl) (fun X O T => ?_)
  refine v_eq (lv' := [(0, .ref ln), (1, .int (nI b))]) rfl rfl rfl rfl ?_
  refine v_iconst (v := 0) O dX2_multiply_0 (by decide) ?_
  refine v_istore_n (lv' := [(0, .ref ln), (1, .int (nI b)), (2, .int 0)]) O dX2_multiply_1 (by decide) rfl ?_
  refine v_iconst (v := 0) O dX2_multiply_2 (by decide) ?_
  refine v_istore_n (lv' := [(0, .ref ln), (1, .int (nI b)), (2, .int 0), (3, .int 0)]) O dX2_multiply_3 (by decide) rfl ?_
  refine v_eq (lv' := [(0, .ref ln), (1, .int (nI b)), (2, .int (nI 0)), (3, .int (nI 0))]) rfl rfl rfl rfl ?_
  exact l_X2_multiply O hb0 hb T 40 0 (by omega) f 0 (by simp [Nat.mod_one]) (fun j hj => absurd hj (Nat.not_lt_zero j)) (fun j _ hj => hf j hj)
set_option maxRecDepth 100000 in
set_option maxHeartbeats 4000000 in
theorem l_X2_subtract {D : G} {X : CX} {ln dg N a : Nat} (O : Ok D X mX2_subtract 1 0 0) (ha : a < 100) (hN : N < 10 ^ 40) (T : Rt D X (fun r w => ∃ g : Nat → Int32, r = none ∧ w = [(ln, .inr (2, [.ref dg])), (dg, eI D 40 g)] ∧ (∀ i, i < 40 → g i = digs (N - a) i)) 0 0) : ∀ (t i : Nat), i + t = 40 → ∀ (g : Nat → Int32) (w : Nat), w = sub_w N a i → (a ≤ N → ∀ j, j < i → g j = digs (N - a) j) → (∀ j, i ≤ j → j < 40 → g j = digs N j) → V D X 0 0 4 [(0, .ref ln), (1, .int (nI a)), (2, .int (nI w)), (3, .int (nI i))] [] [(ln, .inr (2, [.ref dg])), (dg, eI D 40 g)] := by
  intro t
  induction t with
  | zero =>
    intro i hi g w hw h1 h2
    have hwa : w ≤ a := by rw [hw]; exact sub_w_le N a i
    have hd := digs_lt N i
    have hfm := lb_fm10 (N / 10 ^ i % 10) hd w (by omega)
    refine v_iload_n O dX2_subtract_4 3 rfl ?_
    refine v_bipush (v := 40) O dX2_subtract_5 (by decide) ?_
    refine v_icmp_ge O 48 dX2_subtract_7 (by decide) (fun c_1 => ?_) (fun c_1 => ?_)
    · skip
      have c_1 := (c_le' (x := nI i) (y := 40) (a := i) (b := 40) rfl rfl (by omega) (by omega)).mp c_1
      have ei : i = 40 := by omega
      subst ei
      have hE := sub_end N a 40 hN (Nat.le_trans (Nat.le_of_lt ha) (by decide))
      rw [← hw] at hE
      refine v_iload_n O dX2_subtract_48 2 rfl ?_
      refine v_if_le O 60 dX2_subtract_49 (by decide) (fun c2 => ?_) (fun c2 => ?_)
      · skip
        have c2 := (c_le (x := nI w) (y := 0) (a := w) (b := 0) rfl rfl (by omega) (by omega)).mp c2
        have hyes : ∀ j, j < 40 → g j = digs (N - a) j := fun j hj => h1 (hE.1.mp (by omega)) j hj
        exact v_return O T rfl (by decide) (by decide) dX2_subtract_60 (⟨_, rfl, rfl, hyes⟩)
      · skip
        have c2 := (not_congr (c_le (x := nI w) (y := 0) (a := w) (b := 0) rfl rfl (by omega) (by omega))).mp c2
        have hno : ∀ j : Nat, (0 : Int32) = digs (N - a) j := fun j => by rw [show N - a = 0 from by have := not_congr hE.1; omega]; unfold digs; rw [Nat.zero_div]; rfl
        refine v_aload_n O dX2_subtract_52 0 rfl ?_
        refine gf_X2_9 O rfl dX2_subtract_53 0 rfl rfl ?_
        refine v_iconst (v := 0) O dX2_subtract_56 (by decide) ?_
        refine v_cS (As := [.ref dg, .int 0]) (wr := [(ln, .inr (2, [.ref dg]))]) (st := []) O cf_X2_13 (sg_fill_53178 (a := dg) (n := 40) (f := g) (v := 0) (by decide)) dX2_subtract_57 rfl rfl [1] [0] (by decide) rfl rfl (by decide) (by decide) (by decide) (Nat.le_of_ble_eq_true rfl) (by decide) (by decide) (fun r_3 w_4 h_2 => ?_)
        obtain ⟨g_5, rfl, rfl, hg⟩ := h_2
        refine v_eq (st' := []) (ws' := [(ln, .inr (2, [.ref dg])), (dg, eI D 40 g_5)]) rfl rfl rfl rfl ?_
        exact v_return O T rfl (by decide) (by decide) dX2_subtract_60 (⟨_, rfl, rfl, fun j hj => (hg j hj).trans (hno j)⟩)
    · skip
      have c_1 := (not_congr (c_le' (x := nI i) (y := 40) (a := i) (b := 40) rfl rfl (by omega) (by omega))).mp c_1
      exact absurd c_1 (by omega)
  | succ t ih =>
    intro i hi g w hw h1 h2
    have hwa : w ≤ a := by rw [hw]; exact sub_w_le N a i
    have hd := digs_lt N i
    have hfm := lb_fm10 (N / 10 ^ i % 10) hd w (by omega)
    refine v_iload_n O dX2_subtract_4 3 rfl ?_
    refine v_bipush (v := 40) O dX2_subtract_5 (by decide) ?_
    refine v_icmp_ge O 48 dX2_subtract_7 (by decide) (fun c_1 => ?_) (fun c_1 => ?_)
    · skip
      have c_1 := (c_le' (x := nI i) (y := 40) (a := i) (b := 40) rfl rfl (by omega) (by omega)).mp c_1
      exact absurd c_1 (by omega)
    · skip
      have c_1 := (not_congr (c_le' (x := nI i) (y := 40) (a := i) (b := 40) rfl rfl (by omega) (by omega))).mp c_1
      refine v_aload_n O dX2_subtract_10 0 rfl ?_
      refine gf_X2_9 O rfl dX2_subtract_11 0 rfl rfl ?_
      refine v_iload_n O dX2_subtract_14 3 rfl ?_
      refine v_ialdk O dX2_subtract_15 1 rfl i rfl (by omega) (by decide) ?_
      refine v_top (y := nI (N / 10 ^ i % 10)) (h2 i (Nat.le_refl i) (by omega)) ?_
      refine v_iload_n O dX2_subtract_16 2 rfl ?_
      refine v_isub O dX2_subtract_17 ?_
      refine v_istore (lv' := [(0, .ref ln), (1, .int (nI a)), (2, .int (nI w)), (3, .int (nI i)), (4, .int ((nI (N / 10 ^ i % 10)) - (nI w)))]) O dX2_subtract_18 (by decide) rfl ?_
      refine v_aload_n O dX2_subtract_20 0 rfl ?_
      refine gf_X2_9 O rfl dX2_subtract_21 0 rfl rfl ?_
      refine v_iload_n O dX2_subtract_24 3 rfl ?_
      refine v_iload O dX2_subtract_25 4 rfl ?_
      refine v_bipush (v := 10) O dX2_subtract_27 (by decide) ?_
      refine v_cS (As := [.int ((nI (N / 10 ^ i % 10)) - (nI w)), .int 10]) (wr := [(ln, .inr (2, [.ref dg])), (dg, eI D 40 g)]) (st := [.int (nI i), .ref dg]) O cf_X2_26 (sp_J9_floorMod_7cf53 (x := ((nI (N / 10 ^ i % 10)) - (nI w))) (y := 10) (by decide)) dX2_subtract_29 rfl rfl [] [0, 1] (by decide) rfl rfl (by decide) (by decide) (by decide) (Nat.le_of_ble_eq_true rfl) (by decide) (by decide) (fun r_3 w_4 h_2 => ?_)
      obtain ⟨rfl, rfl⟩ := h_2
      refine v_eq (st' := [.int (fmodJ ((nI (N / 10 ^ i % 10)) - (nI w)) 10), .int (nI i), .ref dg]) (ws' := [(ln, .inr (2, [.ref dg])), (dg, eI D 40 g)]) rfl rfl rfl rfl ?_
      refine v_top (y := nI ((N / 10 ^ i % 10 + 100 - w) % 10)) (hfm.1) ?_
      refine v_iastk (ws' := [(ln, .inr (2, [.ref dg])), (dg, eI D 40 (upd g i (nI ((N / 10 ^ i % 10 + 100 - w) % 10))))]) O dX2_subtract_32 1 rfl i (rfl) (by omega) (by decide) (rfl) ?_
      refine v_iload O dX2_subtract_33 4 rfl ?_
      refine v_bipush (v := 10) O dX2_subtract_35 (by decide) ?_
      refine v_cS (As := [.int ((nI (N / 10 ^ i % 10)) - (nI w)), .int 10]) (wr := [(ln, .inr (2, [.ref dg])), (dg, eI D 40 (upd g i (nI ((N / 10 ^ i % 10 + 100 - w) % 10))))]) (st := []) O cf_X2_32 (sp_J9_floorDiv_7cf53 (x := ((nI (N / 10 ^ i % 10)) - (nI w))) (y := 10) (by decide)) dX2_subtract_37 rfl rfl [] [0, 1] (by decide) rfl rfl (by decide) (by decide) (by decide) (Nat.le_of_ble_eq_true rfl) (by decide) (by decide) (fun r_6 w_7 h_5 => ?_)
      obtain ⟨rfl, rfl⟩ := h_5
      refine v_eq (st' := [.int (fdivJ ((nI (N / 10 ^ i % 10)) - (nI w)) 10)]) (ws' := [(ln, .inr (2, [.ref dg])), (dg, eI D 40 (upd g i (nI ((N / 10 ^ i % 10 + 100 - w) % 10))))]) rfl rfl rfl rfl ?_
      refine v_ineg O dX2_subtract_40 ?_
      refine v_top (y := nI ((w + 9 - N / 10 ^ i % 10) / 10)) (hfm.2) ?_
      refine v_istore_n (lv' := [(0, .ref ln), (1, .int (nI a)), (2, .int (nI ((w + 9 - N / 10 ^ i % 10) / 10))), (3, .int (nI i)), (4, .int ((nI (N / 10 ^ i % 10)) - (nI w)))]) O dX2_subtract_41 (by decide) rfl ?_
      refine v_iinc (v := nI (i + 1)) (lv' := [(0, .ref ln), (1, .int (nI a)), (2, .int (nI ((w + 9 - N / 10 ^ i % 10) / 10))), (3, .int (nI (i + 1))), (4, .int ((nI (N / 10 ^ i % 10)) - (nI w)))]) O dX2_subtract_42 3 rfl (nI_1 i) (by decide) rfl ?_
      refine v_goto O 4 dX2_subtract_45 (by decide) ?_
      refine v_lvp (lv' := [(0, .ref ln), (1, .int (nI a)), (2, .int (nI ((w + 9 - N / 10 ^ i % 10) / 10))), (3, .int (nI (i + 1)))]) [0, 1, 2, 3] rfl ?_
      exact ih (i + 1) (by omega) _ _ (by rw [hw]; exact sub_step N a i) (fun hle => upd_lt (h1 hle) (congrArg nI (by rw [hw]; exact sub_dig N a i hle ha))) (upd_ge h2)
set_option maxRecDepth 100000 in
set_option maxHeartbeats 4000000 in
theorem sp_X2_subtract {D : G} {ln : Nat} {dg : Nat} {f : Nat → Int32} {N : Nat} {a : Nat} (ha : a < 100) (hN : N < 10 ^ 40) (hf : (∀ zj, zj < 40 → f zj = digs (N) zj)) : Sp D mX2_subtract 1 0 0 [.ref ln, .int (nI a)] [(ln, .inr (2, [.ref dg])), (dg, eI D 40 f)] (fun r w => ∃ g : Nat → Int32, r = none ∧ w = [(ln, .inr (2, [.ref dg])), (dg, eI D 40 g)] ∧ ((∀ zj, zj < 40 → g zj = digs (N - a) zj))) := by
  refine Sp.of (by decide) (Nat.le_of_ble_eq_true rfl) (fun X O T => ?_)
  refine v_eq (lv' := [(0, .ref ln), (1, .int (nI a))]) rfl rfl rfl rfl ?_
  refine v_iload_n O dX2_subtract_0 1 rfl ?_
  refine v_istore_n (lv' := [(0, .ref ln), (1, .int (nI a)), (2, .int (nI a))]) O dX2_subtract_1 (by decide) rfl ?_
  refine v_iconst (v := 0) O dX2_subtract_2 (by decide) ?_
  refine v_istore_n (lv' := [(0, .ref ln), (1, .int (nI a)), (2, .int (nI a)), (3, .int 0)]) O dX2_subtract_3 (by decide) rfl ?_
  refine v_eq (lv' := [(0, .ref ln), (1, .int (nI a)), (2, .int (nI a)), (3, .int (nI 0))]) rfl rfl rfl rfl ?_
  exact l_X2_subtract O ha hN T 40 0 (by omega) f a (sub_w0 N a).symm (fun _ j hj => absurd hj (Nat.not_lt_zero j)) (fun j _ hj => hf j hj)
set_option maxRecDepth 100000 in
set_option maxHeartbeats 4000000 in
theorem sp_X2_digit {D : G} {ln : Nat} {dg : Nat} {f : Nat → Int32} {k : Nat} (hk : k < 40) : Sp D mX2_digit 0 0 0 [.ref ln, .int (nI k)] [(ln, .inr (2, [.ref dg])), (dg, eI D 40 f)] (fun r w => r = some (.int (f k)) ∧ w = [(ln, .inr (2, [.ref dg])), (dg, eI D 40 f)]) := by
  refine Sp.of (by decide) (Nat.le_of_ble_eq_true rfl) (fun X O T => ?_)
  refine v_eq (lv' := [(0, .ref ln), (1, .int (nI k))]) rfl rfl rfl rfl ?_
  refine v_iload_n O dX2_digit_0 1 rfl ?_
  refine v_if_lt O 19 dX2_digit_1 (by decide) (fun c_1 => ?_) (fun c_1 => ?_)
  · skip
    have c_1 := (c_lt (x := nI k) (y := 0) (a := k) (b := 0) rfl rfl (by omega) (by omega)).mp c_1
    exact absurd c_1 (by omega)
  · skip
    have c_1 := (not_congr (c_lt (x := nI k) (y := 0) (a := k) (b := 0) rfl rfl (by omega) (by omega))).mp c_1
    refine v_iload_n O dX2_digit_4 1 rfl ?_
    refine v_bipush (v := 40) O dX2_digit_5 (by decide) ?_
    refine v_icmp_ge O 19 dX2_digit_7 (by decide) (fun c_2 => ?_) (fun c_2 => ?_)
    · skip
      have c_2 := (c_le' (x := nI k) (y := 40) (a := k) (b := 40) rfl rfl (by omega) (by omega)).mp c_2
      exact absurd c_2 (by omega)
    · skip
      have c_2 := (not_congr (c_le' (x := nI k) (y := 40) (a := k) (b := 40) rfl rfl (by omega) (by omega))).mp c_2
      refine v_aload_n O dX2_digit_10 0 rfl ?_
      refine gf_X2_9 O rfl dX2_digit_11 0 rfl rfl ?_
      refine v_iload_n O dX2_digit_14 1 rfl ?_
      refine v_ialdk O dX2_digit_15 1 rfl k rfl (by omega) (by decide) ?_
      refine v_goto O 20 dX2_digit_16 (by decide) ?_
      exact v_ireturn O T rfl rfl (by decide) (by decide) dX2_digit_20 (⟨rfl, rfl⟩)
set_option maxRecDepth 100000 in
set_option maxHeartbeats 4000000 in
theorem l_X2_size {D : G} {X : CX} {ln dg N : Nat} {f : Nat → Int32} (O : Ok D X mX2_size 0 0 0) (hf : (∀ zj, zj < 40 → f zj = digs (N) zj)) (T : Rt D X (fun r w => r = some (.int (nI (topd (fun i => N / 10 ^ i % 10) 40))) ∧ w = [(ln, .inr (2, [.ref dg])), (dg, eI D 40 f)]) 0 0) : ∀ (t : Nat), t < 40 → topd (fun i => N / 10 ^ i % 10) (t + 1) = topd (fun i => N / 10 ^ i % 10) 40 → V D X 0 0 3 [(0, .ref ln), (1, .int (nI t))] [] [(ln, .inr (2, [.ref dg])), (dg, eI D 40 f)] := by
  intro t
  induction t with
  | zero =>
    intro ht h
    refine v_iload_n O dX2_size_3 1 rfl ?_
    refine v_if_le O 26 dX2_size_4 (by decide) (fun _ => ?_) (fun c => absurd c (by decide))
    refine v_iconst (v := 1) O dX2_size_26 (by decide) ?_
    exact v_ireturn O T rfl rfl (by decide) (by decide) dX2_size_27 (⟨by rw [← h]; unfold topd; split <;> rfl, rfl⟩)
  | succ t ih =>
    intro ht h
    have hd := digs_lt N (t + 1)
    refine v_iload_n O dX2_size_3 1 rfl ?_
    refine v_if_le O 26 dX2_size_4 (by decide) (fun c_1 => ?_) (fun c_1 => ?_)
    · skip
      have c_1 := (c_le (x := nI (t + 1)) (y := 0) (a := t + 1) (b := 0) rfl rfl (by omega) (by omega)).mp c_1
      exact absurd c_1 (by omega)
    · skip
      have c_1 := (not_congr (c_le (x := nI (t + 1)) (y := 0) (a := t + 1) (b := 0) rfl rfl (by omega) (by omega))).mp c_1
      refine v_aload_n O dX2_size_7 0 rfl ?_
      refine gf_X2_9 O rfl dX2_size_8 0 rfl rfl ?_
      refine v_iload_n O dX2_size_11 1 rfl ?_
      refine v_ialdk O dX2_size_12 1 rfl (t + 1) rfl (by omega) (by decide) ?_
      refine v_top (y := nI (N / 10 ^ (t + 1) % 10)) (hf (t + 1) ht) ?_
      refine v_if_eq O 20 dX2_size_13 (by decide) (fun c5 => ?_) (fun c5 => ?_)
      · skip
        have c5 := (c_eq (x := nI (N / 10 ^ (t + 1) % 10)) (y := 0) (a := N / 10 ^ (t + 1) % 10) (b := 0) rfl rfl (by omega) (by omega)).mp c5
        refine v_iinc (v := nI t) (lv' := [(0, .ref ln), (1, .int (nI t))]) O dX2_size_20 1 rfl (pk_m1 t) (by decide) rfl ?_
        refine v_goto O 3 dX2_size_23 (by decide) ?_
        exact ih (by omega) (by rw [← h, topd.eq_2 _ (t + 1), if_pos c5])
      · skip
        have c5 := (not_congr (c_eq (x := nI (N / 10 ^ (t + 1) % 10)) (y := 0) (a := N / 10 ^ (t + 1) % 10) (b := 0) rfl rfl (by omega) (by omega))).mp c5
        refine v_iload_n O dX2_size_16 1 rfl ?_
        refine v_iconst (v := 1) O dX2_size_17 (by decide) ?_
        refine v_iadd O dX2_size_18 ?_
        refine v_top (y := nI ((t + 1) + 1)) (nI_add (t + 1) 1) ?_
        exact v_ireturn O T rfl rfl (by decide) (by decide) dX2_size_19 (⟨by rw [← h, topd.eq_2 _ (t + 1), if_neg c5], rfl⟩)
set_option maxRecDepth 100000 in
set_option maxHeartbeats 4000000 in
theorem sp_X2_size {D : G} {ln : Nat} {dg : Nat} {f : Nat → Int32} {N : Nat} (hf : (∀ zj, zj < 40 → f zj = digs (N) zj)) : Sp D mX2_size 0 0 0 [.ref ln] [(ln, .inr (2, [.ref dg])), (dg, eI D 40 f)] (fun r w => r = some (.int (nI (topd (fun i => N / 10 ^ i % 10) 40))) ∧ w = [(ln, .inr (2, [.ref dg])), (dg, eI D 40 f)]) := by
  refine Sp.of (by decide) (Nat.le_of_ble_eq_true rfl) (fun X O T => ?_)
  refine v_eq (lv' := [(0, .ref ln)]) rfl rfl rfl rfl ?_
  refine v_bipush (v := 39) O dX2_size_0 (by decide) ?_
  refine v_istore_n (lv' := [(0, .ref ln), (1, .int 39)]) O dX2_size_2 (by decide) rfl ?_
  refine v_eq (lv' := [(0, .ref ln), (1, .int (nI 39))]) rfl rfl rfl rfl ?_
  exact l_X2_size O hf T 39 (by omega) rfl
set_option maxRecDepth 100000 in
set_option maxHeartbeats 4000000 in
theorem l_X2_restBy {D : G} {X : CX} {ln dg N q : Nat} {f : Nat → Int32} (O : Ok D X mX2_restBy 0 0 0) (hf : (∀ zj, zj < 40 → f zj = digs (N) zj)) (hq : 0 < q) (hq2 : q < 100) (T : Rt D X (fun r w => r = some (.int (nI (hrn (fun i => N / 10 ^ i % 10) q 40 0))) ∧ w = [(ln, .inr (2, [.ref dg])), (dg, eI D 40 f)]) 0 0) : ∀ (t : Nat), t ≤ 40 → ∀ r : Nat, r < q → ∀ i3 : Int32, i3 = nI t + (-1) → hrn (fun i => N / 10 ^ i % 10) q t r = hrn (fun i => N / 10 ^ i % 10) q 40 0 → V D X 0 0 12 [(0, .ref ln), (1, .int (nI q)), (2, .int (nI r)), (3, .int i3)] [] [(ln, .inr (2, [.ref dg])), (dg, eI D 40 f)] := by
  intro t
  induction t with
  | zero =>
    intro ht r hr i3 h3 h
    refine v_iload_n O dX2_restBy_12 3 rfl ?_
    refine v_if_lt O 36 dX2_restBy_13 (by decide) (fun c_1 => ?_) (fun c_1 => ?_)
    · skip
      refine v_iload_n O dX2_restBy_36 2 rfl ?_
      exact v_ireturn O T rfl rfl (by decide) (by decide) dX2_restBy_37 (⟨by rw [← h]; rfl, rfl⟩)
    · skip
      exact absurd c_1 (by rw [h3]; decide)
  | succ t ih =>
    intro ht r hr i3 h3 h
    rw [pk_m1] at h3
    subst h3
    have hd := digs_lt N t
    refine v_iload_n O dX2_restBy_12 3 rfl ?_
    refine v_if_lt O 36 dX2_restBy_13 (by decide) (fun c_1 => ?_) (fun c_1 => ?_)
    · skip
      have c_1 := (c_lt (x := nI t) (y := 0) (a := t) (b := 0) rfl rfl (by omega) (by omega)).mp c_1
      exact absurd c_1 (by omega)
    · skip
      have c_1 := (not_congr (c_lt (x := nI t) (y := 0) (a := t) (b := 0) rfl rfl (by omega) (by omega))).mp c_1
      refine v_iload_n O dX2_restBy_16 2 rfl ?_
      refine v_bipush (v := 10) O dX2_restBy_17 (by decide) ?_
      refine v_imul O dX2_restBy_19 ?_
      refine v_top (y := nI (r * 10)) (pk_mul r 10) ?_
      refine v_aload_n O dX2_restBy_20 0 rfl ?_
      refine gf_X2_9 O rfl dX2_restBy_21 0 rfl rfl ?_
      refine v_iload_n O dX2_restBy_24 3 rfl ?_
      refine v_ialdk O dX2_restBy_25 1 rfl t rfl (by omega) (by decide) ?_
      refine v_top (y := nI (N / 10 ^ t % 10)) (hf t (by omega)) ?_
      refine v_iadd O dX2_restBy_26 ?_
      refine v_top (y := nI ((r * 10) + (N / 10 ^ t % 10))) (nI_add (r * 10) (N / 10 ^ t % 10)) ?_
      refine v_iload_n O dX2_restBy_27 1 rfl ?_
      refine v_irem O dX2_restBy_28 (nI_ne0 hq (by omega)) ?_
      refine v_top (y := nI ((r * 10 + N / 10 ^ t % 10) % q)) (pk_rem (by omega) hq (by omega)) ?_
      refine v_istore_n (lv' := [(0, .ref ln), (1, .int (nI q)), (2, .int (nI ((r * 10 + N / 10 ^ t % 10) % q))), (3, .int (nI t))]) O dX2_restBy_29 (by decide) rfl ?_
      refine v_iinc (v := (nI t) + (-1)) (lv' := [(0, .ref ln), (1, .int (nI q)), (2, .int (nI ((r * 10 + N / 10 ^ t % 10) % q))), (3, .int ((nI t) + (-1)))]) O dX2_restBy_30 3 rfl (rfl) (by decide) rfl ?_
      refine v_goto O 12 dX2_restBy_33 (by decide) ?_
      exact ih (by omega) _ (Nat.mod_lt _ hq) _ rfl (by rw [← h]; rfl)
set_option maxRecDepth 100000 in
set_option maxHeartbeats 4000000 in
theorem sp_X2_restBy {D : G} {ln : Nat} {dg : Nat} {f : Nat → Int32} {N : Nat} {q : Nat} (hf : (∀ zj, zj < 40 → f zj = digs (N) zj)) (hq : 0 < q) (hq2 : q < 100) : Sp D mX2_restBy 0 0 0 [.ref ln, .int (nI q)] [(ln, .inr (2, [.ref dg])), (dg, eI D 40 f)] (fun r w => r = some (.int (nI (hrn (fun i => N / 10 ^ i % 10) q 40 0))) ∧ w = [(ln, .inr (2, [.ref dg])), (dg, eI D 40 f)]) := by
  refine Sp.of (by decide) (Nat.le_of_ble_eq_true rfl) (fun X O T => ?_)
  refine v_eq (lv' := [(0, .ref ln), (1, .int (nI q))]) rfl rfl rfl rfl ?_
  refine v_iload_n O dX2_restBy_0 1 rfl ?_
  refine v_iconst (v := 1) O dX2_restBy_1 (by decide) ?_
  refine v_icmp_ge O 7 dX2_restBy_2 (by decide) (fun c_1 => ?_) (fun c_1 => ?_)
  · skip
    have c_1 := (c_le' (x := nI q) (y := 1) (a := q) (b := 1) rfl rfl (by omega) (by omega)).mp c_1
    refine v_iconst (v := 0) O dX2_restBy_7 (by decide) ?_
    refine v_istore_n (lv' := [(0, .ref ln), (1, .int (nI q)), (2, .int 0)]) O dX2_restBy_8 (by decide) rfl ?_
    refine v_bipush (v := 39) O dX2_restBy_9 (by decide) ?_
    refine v_istore_n (lv' := [(0, .ref ln), (1, .int (nI q)), (2, .int 0), (3, .int 39)]) O dX2_restBy_11 (by decide) rfl ?_
    refine v_eq (lv' := [(0, .ref ln), (1, .int (nI q)), (2, .int (nI 0)), (3, .int 39)]) rfl rfl rfl rfl ?_
    exact l_X2_restBy O hf hq hq2 T 40 (by omega) 0 hq 39 (by decide) rfl
  · skip
    have c_1 := (not_congr (c_le' (x := nI q) (y := 1) (a := q) (b := 1) rfl rfl (by omega) (by omega))).mp c_1
    exact absurd c_1 (by omega)
set_option maxRecDepth 100000 in
set_option maxHeartbeats 4000000 in
theorem l_X2_becomes {D : G} {X : CX} {ln dg d m o : Nat} (O : Ok D X mX2_becomes 2 0 0) (hd0 : 2 ≤ d) (hd : d ≤ 12) (hm : m ≤ 30) (ho : o ≤ 9) (T : Rt D X (fun r w => ∃ g : Nat → Int32, r = none ∧ w = [(ln, .inr (2, [.ref dg])), (dg, eI D 40 g)] ∧ (∀ i, i < 40 → g i = digs (bigN d m o) i)) 0 0) : ∀ (t i : Nat), i + t = m + 1 → ∀ (g : Nat → Int32), (∀ zj, zj < 40 → g zj = digs (d ^ i) zj) → V D X 0 0 18 [(0, .ref ln), (1, .int (nI d)), (2, .int (nI m)), (3, .int (nI o)), (4, .int (nI i))] [] [(ln, .inr (2, [.ref dg])), (dg, eI D 40 g)] := by
  intro t
  induction t with
  | zero =>
    intro i hi g hg
    refine v_iload O dX2_becomes_18 4 rfl ?_
    refine v_iload_n O dX2_becomes_20 2 rfl ?_
    refine v_icmp_gt O 35 dX2_becomes_21 (by decide) (fun c_1 => ?_) (fun c_1 => ?_)
    · skip
      have c_1 := (c_lt' (x := nI i) (y := nI m) (a := i) (b := m) rfl rfl (by omega) (by omega)).mp c_1
      have ei : i = m + 1 := by omega
      have hamt : (d - 1) * o < 100 := Nat.lt_of_le_of_lt (Nat.mul_le_mul (show d - 1 ≤ 11 by omega) ho) (by decide)
      refine v_aload_n O dX2_becomes_35 0 rfl ?_
      refine v_iload_n O dX2_becomes_36 1 rfl ?_
      refine v_iconst (v := 1) O dX2_becomes_37 (by decide) ?_
      refine v_isub O dX2_becomes_38 ?_
      refine v_top (y := nI (d - 1)) (pk_sub (a := d) (b := 1) (by omega)) ?_
      refine v_iload_n O dX2_becomes_39 3 rfl ?_
      refine v_imul O dX2_becomes_40 ?_
      refine v_top (y := nI ((d - 1) * o)) (pk_mul (d - 1) o) ?_
      refine v_cV (T := TX2) (ci := 2) (As := [.int (nI ((d - 1) * o))]) (wr := []) (st := []) O cf_X2_23 rfl (sp_X2_subtract (ln := ln) (dg := dg) (f := g) (N := (d ^ i)) (a := ((d - 1) * o)) (hamt) (big_lt hd (by omega)) (hg)) dX2_becomes_41 rfl rfl 0 rfl [0, 1] [] (by decide) rfl rfl (by decide) (by decide) (by decide) (Nat.le_of_ble_eq_true rfl) (by decide) (by decide) (fun r_3 w_4 h_2 => ?_)
      obtain ⟨g_5, rfl, rfl, hg3⟩ := h_2
      refine v_eq (st' := []) (ws' := [(ln, .inr (2, [.ref dg])), (dg, eI D 40 g_5)]) rfl rfl rfl rfl ?_
      exact v_return O T rfl (by decide) (by decide) dX2_becomes_44 (⟨_, rfl, rfl, by subst ei; exact hg3⟩)
    · skip
      have c_1 := (not_congr (c_lt' (x := nI i) (y := nI m) (a := i) (b := m) rfl rfl (by omega) (by omega))).mp c_1
      exact absurd c_1 (by omega)
  | succ t ih =>
    intro i hi g hg
    refine v_iload O dX2_becomes_18 4 rfl ?_
    refine v_iload_n O dX2_becomes_20 2 rfl ?_
    refine v_icmp_gt O 35 dX2_becomes_21 (by decide) (fun c_1 => ?_) (fun c_1 => ?_)
    · skip
      have c_1 := (c_lt' (x := nI i) (y := nI m) (a := i) (b := m) rfl rfl (by omega) (by omega)).mp c_1
      exact absurd c_1 (by omega)
    · skip
      have c_1 := (not_congr (c_lt' (x := nI i) (y := nI m) (a := i) (b := m) rfl rfl (by omega) (by omega))).mp c_1
      refine v_aload_n O dX2_becomes_24 0 rfl ?_
      refine v_iload_n O dX2_becomes_25 1 rfl ?_
      refine v_cV (T := TX2) (ci := 2) (As := [.int (nI d)]) (wr := []) (st := []) O cf_X2_19 rfl (sp_X2_multiply (ln := ln) (dg := dg) (f := g) (N := (d ^ i)) (b := d) (by omega) (hd) (hg)) dX2_becomes_26 rfl rfl 0 rfl [0, 1] [] (by decide) rfl rfl (by decide) (by decide) (by decide) (Nat.le_of_ble_eq_true rfl) (by decide) (by decide) (fun r_3 w_4 h_2 => ?_)
      obtain ⟨g_5, rfl, rfl, hg2⟩ := h_2
      refine v_eq (st' := []) (ws' := [(ln, .inr (2, [.ref dg])), (dg, eI D 40 g_5)]) rfl rfl rfl rfl ?_
      refine v_iinc (v := nI (i + 1)) (lv' := [(0, .ref ln), (1, .int (nI d)), (2, .int (nI m)), (3, .int (nI o)), (4, .int (nI (i + 1)))]) O dX2_becomes_29 4 rfl (nI_1 i) (by decide) rfl ?_
      refine v_goto O 18 dX2_becomes_32 (by decide) ?_
      exact ih (i + 1) (by omega) _ (fun j hj => by rw [hg2 j hj, Nat.pow_succ])
set_option maxRecDepth 100000 in
set_option maxHeartbeats 4000000 in
theorem sp_X2_becomes {D : G} {ln : Nat} {dg : Nat} {f : Nat → Int32} {d : Nat} {m : Nat} {o : Nat} (hd0 : 2 ≤ d) (hd : d ≤ 12) (hm : m ≤ 30) (ho : o ≤ 9) : Sp D mX2_becomes 2 0 0 [.ref ln, .int (nI d), .int (nI m), .int (nI o)] [(ln, .inr (2, [.ref dg])), (dg, eI D 40 f)] (fun r w => ∃ g : Nat → Int32, r = none ∧ w = [(ln, .inr (2, [.ref dg])), (dg, eI D 40 g)] ∧ ((∀ zj, zj < 40 → g zj = digs (bigN d m o) zj))) := by
  refine Sp.of (by decide) (Nat.le_of_ble_eq_true rfl) (fun X O T => ?_)
  refine v_eq (lv' := [(0, .ref ln), (1, .int (nI d)), (2, .int (nI m)), (3, .int (nI o))]) rfl rfl rfl rfl ?_
  refine v_aload_n O dX2_becomes_0 0 rfl ?_
  refine gf_X2_9 O rfl dX2_becomes_1 0 rfl rfl ?_
  refine v_iconst (v := 0) O dX2_becomes_4 (by decide) ?_
  refine v_cS (As := [.ref dg, .int 0]) (wr := [(ln, .inr (2, [.ref dg]))]) (st := []) O cf_X2_13 (sg_fill_53178 (a := dg) (n := 40) (f := f) (v := 0) (by decide)) dX2_becomes_5 rfl rfl [1] [0] (by decide) rfl rfl (by decide) (by decide) (by decide) (Nat.le_of_ble_eq_true rfl) (by decide) (by decide) (fun r_2 w_3 h_1 => ?_)
  obtain ⟨h_4, rfl, rfl, hz⟩ := h_1
  refine v_eq (st' := []) (ws' := [(ln, .inr (2, [.ref dg])), (dg, eI D 40 h_4)]) rfl rfl rfl rfl ?_
  refine v_aload_n O dX2_becomes_8 0 rfl ?_
  refine gf_X2_9 O rfl dX2_becomes_9 0 rfl rfl ?_
  refine v_iconst (v := 0) O dX2_becomes_12 (by decide) ?_
  refine v_iconst (v := 1) O dX2_becomes_13 (by decide) ?_
  refine v_iastk (ws' := [(ln, .inr (2, [.ref dg])), (dg, eI D 40 (upd h_4 0 1))]) O dX2_becomes_14 1 rfl 0 (rfl) (by omega) (by decide) (rfl) ?_
  refine v_iconst (v := 0) O dX2_becomes_15 (by decide) ?_
  refine v_istore (lv' := [(0, .ref ln), (1, .int (nI d)), (2, .int (nI m)), (3, .int (nI o)), (4, .int 0)]) O dX2_becomes_16 (by decide) rfl ?_
  refine v_sub (ws' := [(ln, .inr (2, [.ref dg])), (dg, eI D 40 (upd h_4 0 1))]) [0, 1] (by decide) rfl ?_
  refine v_eq (lv' := [(0, .ref ln), (1, .int (nI d)), (2, .int (nI m)), (3, .int (nI o)), (4, .int (nI 0))]) rfl rfl rfl rfl ?_
  exact l_X2_becomes O hd0 hd hm ho T (m + 1) 0 (by omega) _ (fun j hj => by rw [Nat.pow_zero]; by_cases ej : j = 0; (· rw [ej, pk_us]; rfl); (· rw [pk_un ej, hz j hj]; exact congrArg nI (digs_high (n := 1) (by decide) (by omega)).symm))
