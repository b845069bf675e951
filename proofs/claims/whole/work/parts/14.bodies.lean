-- OneForDog$Bodies
-- what the acts answer, and which bodies run: wakes, hides, tells of a man of number i and kind k, with v, by the body of kind fr or above
def wV (i v x : Int32) : Nat → Int32
  | 2 => x * 3 + i
  | 4 => -(x + i)
  | 5 => x * 3 + i
  | 6 => (x + i) ^^^ v
  | _ => x + i
def wL : Nat → List Int32
  | 2 => [30, 10]
  | 4 => [50, 10]
  | 5 => [30, 10]
  | 6 => [71, 10]
  | _ => [10]
def hV (i v : Int32) (k : Nat) (x : Int32) : Nat → Int32
  | 1 => (wV i v x k - v) ^^^ 6
  | 4 => (wV i v (x + 1) k - v) ^^^ 6
  | 6 => (wV i v x k - v) + (2 + i)
  | _ => wV i v x k - v
def hL (k : Nat) : Nat → List Int32
  | 1 => 20 :: 11 :: wL k
  | 4 => 51 :: 20 :: 11 :: wL k
  | 6 => 70 :: 11 :: (wL k ++ [10])
  | _ => 11 :: wL k
def tV (i v : Int32) (k : Nat) (x : Int32) : Nat → Int32
  | 3 => hV i v k x k * 2 + hV i v k 1 k
  | 5 => hV i v k (x - i) k * 2
  | 6 => hV i v k x k * 2 + hV i v k 1 k
  | _ => hV i v k x k * 2
def tL (k : Nat) : Nat → List Int32
  | 3 => 40 :: 12 :: (hL k k ++ hL k k)
  | 5 => 60 :: 12 :: hL k k
  | 6 => 40 :: 12 :: (hL k k ++ hL k k)
  | _ => 12 :: hL k k
def trW (f : Nat → Int32) (n : Nat) : List Int32 → Nat → Int32
  | [] => f
  | b :: l => trW (upd f n b) (n + 1) l
theorem trW_app (l2 : List Int32) : ∀ (l1 : List Int32) (f : Nat → Int32) (n : Nat), trW f n (l1 ++ l2) = trW (trW f n l1) (n + l1.length) l2
  | [], f, n => rfl
  | b :: l, f, n => by
    show trW (upd f n b) (n + 1) (l ++ l2) = trW (trW (upd f n b) (n + 1) l) (n + (l.length + 1)) l2
    rw [trW_app l2 l, show n + 1 + l.length = n + (l.length + 1) by omega]
theorem wL_len : ∀ k, k < 7 → (wL k).length ≤ 2 := by decide
theorem hL_len : ∀ k, k < 7 → ∀ m, m < 7 → (hL k m).length ≤ 5 := by decide
set_option maxRecDepth 100000 in
set_option maxHeartbeats 4000000 in
theorem sp_X0_forget {D : G} {bo : Nat} {tr : Nat} {rn : Int32} {i : Int32} {kd : Int32} {v : Int32} : Sp D mX0_forget 0 0 0 [.ref bo] [(bo, .inr (0, [.ref tr, .int rn, .int i, .int kd, .int v]))] (fun r w => r = none ∧ w = [(bo, .inr (0, [.ref tr, .int (nI 0), .int i, .int kd, .int v]))]) := by
  refine Sp.of (by decide) (Nat.le_of_ble_eq_true rfl) (fun X O T => ?_)
  refine v_eq (lv' := [(0, .ref bo)]) rfl rfl rfl rfl ?_
  refine v_aload_n O dX0_forget_0 0 rfl ?_
  refine v_iconst (v := 0) O dX0_forget_1 (by decide) ?_
  refine pf_X0_15 (fs' := [.ref tr, .int 0, .int i, .int kd, .int v]) (ws' := [(bo, .inr (0, [.ref tr, .int 0, .int i, .int kd, .int v]))]) O rfl dX0_forget_2 0 rfl (Nat.le_of_ble_eq_true rfl) rfl rfl ?_
  exact v_return O T rfl (by decide) (by decide) dX0_forget_5 (⟨rfl, rfl⟩)
set_option maxRecDepth 100000 in
set_option maxHeartbeats 4000000 in
theorem sp_X0_begins {D : G} {bo : Nat} {tr : Nat} {n : Nat} {i : Int32} {k : Nat} {v : Int32} {f : Nat → Int32} {b : Int32} (hn : n < 20) : Sp D mX0_begins 0 0 0 [.ref bo, .int b] [(bo, .inr (0, [.ref tr, .int (nI n), .int i, .int (nI k), .int v])), (tr, eI D 20 f)] (fun r w => r = none ∧ w = [(bo, .inr (0, [.ref tr, .int (nI (n + 1)), .int i, .int (nI k), .int v])), (tr, eI D 20 (upd f n b))]) := by
  refine Sp.of (by decide) (Nat.le_of_ble_eq_true rfl) (fun X O T => ?_)
  refine v_eq (lv' := [(0, .ref bo), (1, .int b)]) rfl rfl rfl rfl ?_
  refine v_aload_n O dX0_begins_0 0 rfl ?_
  refine gf_X0_15 O rfl dX0_begins_1 0 rfl rfl ?_
  refine v_if_lt O 26 dX0_begins_4 (by decide) (fun c_1 => ?_) (fun c_1 => ?_)
  · skip
    have c_1 := (c_lt (x := nI n) (y := 0) (a := n) (b := 0) rfl rfl (by omega) (by omega)).mp c_1
    exact absurd c_1 (by omega)
  · skip
    have c_1 := (not_congr (c_lt (x := nI n) (y := 0) (a := n) (b := 0) rfl rfl (by omega) (by omega))).mp c_1
    refine v_aload_n O dX0_begins_7 0 rfl ?_
    refine gf_X0_15 O rfl dX0_begins_8 0 rfl rfl ?_
    refine v_bipush (v := 20) O dX0_begins_11 (by decide) ?_
    refine v_icmp_ge O 26 dX0_begins_13 (by decide) (fun c_2 => ?_) (fun c_2 => ?_)
    · skip
      have c_2 := (c_le' (x := nI n) (y := 20) (a := n) (b := 20) rfl rfl (by omega) (by omega)).mp c_2
      exact absurd c_2 (by omega)
    · skip
      have c_2 := (not_congr (c_le' (x := nI n) (y := 20) (a := n) (b := 20) rfl rfl (by omega) (by omega))).mp c_2
      refine v_aload_n O dX0_begins_16 0 rfl ?_
      refine gf_X0_11 O rfl dX0_begins_17 0 rfl rfl ?_
      refine v_aload_n O dX0_begins_20 0 rfl ?_
      refine gf_X0_15 O rfl dX0_begins_21 0 rfl rfl ?_
      refine v_iload_n O dX0_begins_24 1 rfl ?_
      refine v_iastk (ws' := [(bo, .inr (0, [.ref tr, .int (nI n), .int i, .int (nI k), .int v])), (tr, eI D 20 (upd f n b))]) O dX0_begins_25 1 rfl n (rfl) (by omega) (by decide) (rfl) ?_
      refine v_aload_n O dX0_begins_26 0 rfl ?_
      refine v_dup O dX0_begins_27 rfl ?_
      refine gf_X0_15 O rfl dX0_begins_28 0 rfl rfl ?_
      refine v_iconst (v := 1) O dX0_begins_31 (by decide) ?_
      refine v_iadd O dX0_begins_32 ?_
      refine v_top (y := nI (n + 1)) (nI_add n 1) ?_
      refine pf_X0_15 (fs' := [.ref tr, .int (nI (n + 1)), .int i, .int (nI k), .int v]) (ws' := [(bo, .inr (0, [.ref tr, .int (nI (n + 1)), .int i, .int (nI k), .int v])), (tr, eI D 20 (upd f n b))]) O rfl dX0_begins_33 0 rfl (Nat.le_of_ble_eq_true rfl) rfl rfl ?_
      exact v_return O T rfl (by decide) (by decide) dX0_begins_36 (⟨rfl, rfl⟩)
set_option maxRecDepth 100000 in
set_option maxHeartbeats 4000000 in
theorem sp_X0_hasKept {D : G} {bo : Nat} {tr : Nat} {n : Nat} {i : Int32} {k : Nat} {v : Int32} {at_ : Int32} (hn : n ≤ 20) : Sp D mX0_hasKept 0 0 0 [.ref bo, .int at_] [(bo, .inr (0, [.ref tr, .int (nI n), .int i, .int (nI k), .int v]))] (fun r w => r = some (.int (b2i (isIx at_ n))) ∧ w = [(bo, .inr (0, [.ref tr, .int (nI n), .int i, .int (nI k), .int v]))]) := by
  refine Sp.of (by decide) (Nat.le_of_ble_eq_true rfl) (fun X O T => ?_)
  refine v_eq (lv' := [(0, .ref bo), (1, .int at_)]) rfl rfl rfl rfl ?_
  refine v_iload_n O dX0_hasKept_0 1 rfl ?_
  refine v_if_lt O 22 dX0_hasKept_1 (by decide) (fun z1 => ?_) (fun z1 => ?_)
  · skip
    refine v_iconst (v := 0) O dX0_hasKept_22 (by decide) ?_
    exact v_ireturn O T rfl rfl (by decide) (by decide) dX0_hasKept_23 (⟨by rw [b2i_f (by first | exact isIx_neg (by omega) z1 | exact isIx_big (by omega) (Nat.le_refl _) z2 | exact isIx_big (m := 20) (by omega) (by omega) z3)], rfl⟩)
  · skip
    refine v_iload_n O dX0_hasKept_4 1 rfl ?_
    refine v_aload_n O dX0_hasKept_5 0 rfl ?_
    refine gf_X0_15 O rfl dX0_hasKept_6 0 rfl rfl ?_
    refine v_icmp_ge O 22 dX0_hasKept_9 (by decide) (fun z2 => ?_) (fun z2 => ?_)
    · skip
      refine v_iconst (v := 0) O dX0_hasKept_22 (by decide) ?_
      exact v_ireturn O T rfl rfl (by decide) (by decide) dX0_hasKept_23 (⟨by rw [b2i_f (by first | exact isIx_neg (by omega) z1 | exact isIx_big (by omega) (Nat.le_refl _) z2 | exact isIx_big (m := 20) (by omega) (by omega) z3)], rfl⟩)
    · skip
      refine v_iload_n O dX0_hasKept_12 1 rfl ?_
      refine v_bipush (v := 20) O dX0_hasKept_13 (by decide) ?_
      refine v_icmp_ge O 22 dX0_hasKept_15 (by decide) (fun z3 => ?_) (fun z3 => ?_)
      · skip
        refine v_iconst (v := 0) O dX0_hasKept_22 (by decide) ?_
        exact v_ireturn O T rfl rfl (by decide) (by decide) dX0_hasKept_23 (⟨by rw [b2i_f (by first | exact isIx_neg (by omega) z1 | exact isIx_big (by omega) (Nat.le_refl _) z2 | exact isIx_big (m := 20) (by omega) (by omega) z3)], rfl⟩)
      · skip
        refine v_iconst (v := 1) O dX0_hasKept_18 (by decide) ?_
        refine v_goto O 23 dX0_hasKept_19 (by decide) ?_
        exact v_ireturn O T rfl rfl (by decide) (by decide) dX0_hasKept_23 (⟨by rw [b2i_t (isIx_t (by omega) z1 z2)], rfl⟩)
set_option maxRecDepth 100000 in
set_option maxHeartbeats 4000000 in
theorem sp_X0_kept {D : G} {bo : Nat} {tr : Nat} {n : Nat} {i : Int32} {k : Nat} {v : Int32} {f : Nat → Int32} {at_ : Nat} (ha : at_ < n) (hn : n ≤ 20) : Sp D mX0_kept 1 0 0 [.ref bo, .int (nI at_)] [(bo, .inr (0, [.ref tr, .int (nI n), .int i, .int (nI k), .int v])), (tr, eI D 20 f)] (fun r w => r = some (.int (f at_)) ∧ w = [(bo, .inr (0, [.ref tr, .int (nI n), .int i, .int (nI k), .int v])), (tr, eI D 20 f)]) := by
  refine Sp.of (by decide) (Nat.le_of_ble_eq_true rfl) (fun X O T => ?_)
  refine v_eq (lv' := [(0, .ref bo), (1, .int (nI at_))]) rfl rfl rfl rfl ?_
  refine v_aload_n O dX0_kept_0 0 rfl ?_
  refine v_iload_n O dX0_kept_1 1 rfl ?_
  refine v_cV (T := TX0) (ci := 0) (As := [.int (nI at_)]) (wr := [(tr, eI D 20 f)]) (st := []) O cf_X0_32 rfl (sp_X0_hasKept (bo := bo) (tr := tr) (n := n) (i := i) (k := k) (v := v) (at_ := (nI at_)) (hn)) dX0_kept_2 rfl rfl 0 rfl [0] [1] (by decide) rfl rfl (by decide) (by decide) (by decide) (Nat.le_of_ble_eq_true rfl) (by decide) (by decide) (fun r_2 w_3 h_1 => ?_)
  obtain ⟨rfl, rfl⟩ := h_1
  refine v_eq (st' := [.int (b2i (isIx (nI at_) n))]) (ws' := [(tr, eI D 20 f), (bo, .inr (0, [.ref tr, .int (nI n), .int i, .int (nI k), .int v]))]) rfl rfl rfl rfl ?_
  refine v_if_eq O 17 dX0_kept_5 (by decide) (fun z1 => ?_) (fun z1 => ?_)
  · skip
    have z1 := b2i_0.mp z1
    exact absurd ((isIx_nI (by omega) (by omega)).mpr ha) z1
  · skip
    have z1 := b2i_1.mp z1
    refine v_aload_n O dX0_kept_8 0 rfl ?_
    refine gf_X0_11 O rfl dX0_kept_9 1 rfl rfl ?_
    refine v_iload_n O dX0_kept_12 1 rfl ?_
    refine v_ialdk O dX0_kept_13 0 rfl at_ rfl (by omega) (by decide) ?_
    refine v_goto O 18 dX0_kept_14 (by decide) ?_
    refine v_sub (ws' := [(bo, .inr (0, [.ref tr, .int (nI n), .int i, .int (nI k), .int v])), (tr, eI D 20 f)]) [1, 0] (by decide) rfl ?_
    exact v_ireturn O T rfl rfl (by decide) (by decide) dX0_kept_18 (⟨rfl, rfl⟩)
set_option maxRecDepth 100000 in
set_option maxHeartbeats 4000000 in
theorem sp_X0_number {D : G} {k : Nat} {a : Nat} (hk : k < 7) (ha : a < 3) : Sp D mX0_number 0 0 0 [.int (nI k), .int (nI a)] [] (fun r w => r = some (.int (x_num (k * 3 + a))) ∧ w = []) := by
  refine Sp.of (by decide) (Nat.le_of_ble_eq_true rfl) (fun X O T => ?_)
  refine v_eq (lv' := [(0, .int (nI k)), (1, .int (nI a))]) rfl rfl rfl rfl ?_
  refine v_iload_n O dX0_number_0 0 rfl ?_
  refine v_iconst (v := 3) O dX0_number_1 (by decide) ?_
  refine v_imul O dX0_number_2 ?_
  refine v_top (y := nI (k * 3)) (pk_mul k 3) ?_
  refine v_iload_n O dX0_number_3 1 rfl ?_
  refine v_iadd O dX0_number_4 ?_
  refine v_top (y := nI ((k * 3) + a)) (nI_add (k * 3) a) ?_
  refine v_istore_n (lv' := [(0, .int (nI k)), (1, .int (nI a)), (2, .int (nI ((k * 3) + a)))]) O dX0_number_5 (by decide) rfl ?_
  refine v_iload_n O dX0_number_6 0 rfl ?_
  refine v_if_lt O 35 dX0_number_7 (by decide) (fun c_1 => ?_) (fun c_1 => ?_)
  · skip
    have c_1 := (c_lt (x := nI k) (y := 0) (a := k) (b := 0) rfl rfl (by omega) (by omega)).mp c_1
    exact absurd c_1 (by omega)
  · skip
    have c_1 := (not_congr (c_lt (x := nI k) (y := 0) (a := k) (b := 0) rfl rfl (by omega) (by omega))).mp c_1
    refine v_iload_n O dX0_number_10 1 rfl ?_
    refine v_if_lt O 35 dX0_number_11 (by decide) (fun c_2 => ?_) (fun c_2 => ?_)
    · skip
      have c_2 := (c_lt (x := nI a) (y := 0) (a := a) (b := 0) rfl rfl (by omega) (by omega)).mp c_2
      exact absurd c_2 (by omega)
    · skip
      have c_2 := (not_congr (c_lt (x := nI a) (y := 0) (a := a) (b := 0) rfl rfl (by omega) (by omega))).mp c_2
      refine v_iload_n O dX0_number_14 1 rfl ?_
      refine v_iconst (v := 3) O dX0_number_15 (by decide) ?_
      refine v_icmp_ge O 35 dX0_number_16 (by decide) (fun c_3 => ?_) (fun c_3 => ?_)
      · skip
        have c_3 := (c_le' (x := nI a) (y := 3) (a := a) (b := 3) rfl rfl (by omega) (by omega)).mp c_3
        exact absurd c_3 (by omega)
      · skip
        have c_3 := (not_congr (c_le' (x := nI a) (y := 3) (a := a) (b := 3) rfl rfl (by omega) (by omega))).mp c_3
        refine v_iload_n O dX0_number_19 2 rfl ?_
        refine v_getsN O tw_886 dX0_number_20 ?_
        refine v_alenN O dX0_number_23 ?_
        refine v_icmp_ge O 35 dX0_number_24 (by decide) (fun c_4 => ?_) (fun c_4 => ?_)
        · skip
          have c_4 := (c_le' (x := nI ((k * 3) + a)) (y := 21) (a := (k * 3) + a) (b := 21) rfl rfl (by omega) (by omega)).mp c_4
          exact absurd c_4 (by omega)
        · skip
          have c_4 := (not_congr (c_le' (x := nI ((k * 3) + a)) (y := 21) (a := (k * 3) + a) (b := 21) rfl rfl (by omega) (by omega))).mp c_4
          refine v_getsN O tw_886 dX0_number_27 ?_
          refine v_iload_n O dX0_number_30 2 rfl ?_
          refine v_ialdNk O dX0_number_31 ((k * 3) + a) rfl (by omega) ?_
          refine v_goto O 36 dX0_number_32 (by decide) ?_
          exact v_ireturn O T rfl rfl (by decide) (by decide) dX0_number_36 (⟨rfl, rfl⟩)
set_option maxRecDepth 100000 in
set_option maxHeartbeats 4000000 in
theorem sp_X9_aboveOf {D : G} {k : Nat} (hk : k < 7) : Sp D mX9_aboveOf 0 0 0 [.int (nI k)] [] (fun r w => r = some (.int (x_abv k)) ∧ w = []) := by
  refine Sp.of (by decide) (Nat.le_of_ble_eq_true rfl) (fun X O T => ?_)
  refine v_eq (lv' := [(0, .int (nI k))]) rfl rfl rfl rfl ?_
  refine v_iload_n O dX9_aboveOf_0 0 rfl ?_
  refine v_if_lt O 20 dX9_aboveOf_1 (by decide) (fun c_1 => ?_) (fun c_1 => ?_)
  · skip
    have c_1 := (c_lt (x := nI k) (y := 0) (a := k) (b := 0) rfl rfl (by omega) (by omega)).mp c_1
    exact absurd c_1 (by omega)
  · skip
    have c_1 := (not_congr (c_lt (x := nI k) (y := 0) (a := k) (b := 0) rfl rfl (by omega) (by omega))).mp c_1
    refine v_iload_n O dX9_aboveOf_4 0 rfl ?_
    refine v_getsA O tw_891 dX9_aboveOf_5 ?_
    refine v_alenA O dX9_aboveOf_8 ?_
    refine v_icmp_ge O 20 dX9_aboveOf_9 (by decide) (fun z2 => ?_) (fun z2 => ?_)
    · skip
      have z2 := (c_le' (x := nI k) (y := 7) (a := k) (b := 7) rfl rfl (by omega) (by omega)).mp z2
      exact absurd z2 (by omega)
    · skip
      have z2 := (not_congr (c_le' (x := nI k) (y := 7) (a := k) (b := 7) rfl rfl (by omega) (by omega))).mp z2
      refine v_getsA O tw_891 dX9_aboveOf_12 ?_
      refine v_iload_n O dX9_aboveOf_15 0 rfl ?_
      refine v_ialdAk O dX9_aboveOf_16 k rfl (by omega) ?_
      refine v_goto O 21 dX9_aboveOf_17 (by decide) ?_
      exact v_ireturn O T rfl rfl (by decide) (by decide) dX9_aboveOf_21 (⟨rfl, rfl⟩)
set_option maxRecDepth 100000 in
set_option maxHeartbeats 4000000 in
theorem sp_X0_runs_10 {D : G} {bo : Nat} {tr : Nat} {n : Nat} {i : Int32} {k : Nat} {v : Int32} {f : Nat → Int32} {x : Int32} {dp : Nat} (hk : k < 7) (hn : n ≤ 14) (hdp : dp ≤ 14) : Sp D mX0_runs 0 0 0 [.ref bo, .int 10, .int x, .int (-1), .int (nI dp)] [(bo, .inr (0, [.ref tr, .int (nI n), .int i, .int (nI k), .int v])), (tr, eI D 20 f)] (fun r w => r = some (.int (x + i)) ∧ w = [(bo, .inr (0, [.ref tr, .int (nI (n + (([] : List Int32)).length)), .int i, .int (nI k), .int v])), (tr, eI D 20 (trW f n (([] : List Int32))))]) := by
  refine Sp.of (by decide) (Nat.le_of_ble_eq_true rfl) (fun X O T => ?_)
  refine v_eq (lv' := [(0, .ref bo), (1, .int 10), (2, .int x), (3, .int (-1)), (4, .int (nI dp))]) rfl rfl rfl rfl ?_
  refine v_iload_n O dX0_runs_0 1 rfl ?_
  refine v_lks (off := 99) O 100 dX0_runs_1 (by decide) (by decide) (by decide) ?_
  refine v_iload_n O dX0_runs_100 2 rfl ?_
  refine v_aload_n O dX0_runs_101 0 rfl ?_
  refine gf_X0_19 O rfl dX0_runs_102 0 rfl rfl ?_
  refine v_iadd O dX0_runs_105 ?_
  exact v_ireturn O T rfl rfl (by decide) (by decide) dX0_runs_106 (⟨rfl, rfl⟩)
set_option maxRecDepth 100000 in
set_option maxHeartbeats 4000000 in
theorem sp_X0_does_W0 {D : G} {bo : Nat} {tr : Nat} {n : Nat} {i : Int32} {k : Nat} {v : Int32} {f : Nat → Int32} {x : Int32} {dp : Nat} (hk : k < 7) (hn : n ≤ 13) (hdp : dp ≤ 13) : Sp D mX0_does 1 0 0 [.ref bo, .int 0, .int x, .int 0, .int (nI dp)] [(bo, .inr (0, [.ref tr, .int (nI n), .int i, .int (nI k), .int v])), (tr, eI D 20 f)] (fun r w => r = some (.int (wV i v x 0)) ∧ w = [(bo, .inr (0, [.ref tr, .int (nI (n + (wL 0).length)), .int i, .int (nI k), .int v])), (tr, eI D 20 (trW f n (wL 0)))]) := by
  refine Sp.of (by decide) (Nat.le_of_ble_eq_true rfl) (fun X O T => ?_)
  refine v_eq (lv' := [(0, .ref bo), (1, .int 0), (2, .int x), (3, .int 0), (4, .int (nI dp))]) rfl rfl rfl rfl ?_
  refine v_iload_n O dX0_does_0 3 rfl ?_
  refine v_istore (lv' := [(0, .ref bo), (1, .int 0), (2, .int x), (3, .int 0), (4, .int (nI dp)), (5, .int 0)]) O dX0_does_1 (by decide) rfl ?_
  refine v_iconst (v := 0) O dX0_does_3 (by decide) ?_
  refine v_istore (lv' := [(0, .ref bo), (1, .int 0), (2, .int x), (3, .int 0), (4, .int (nI dp)), (5, .int 0), (6, .int 0)]) O dX0_does_4 (by decide) rfl ?_
  refine v_iload O dX0_does_6 6 rfl ?_
  refine v_iconst (v := 3) O dX0_does_8 (by decide) ?_
  refine v_icmp_ge O 34 dX0_does_9 (by decide) (fun c => absurd c (by decide)) (fun _ => ?_)
  refine v_iload O dX0_does_12 5 rfl ?_
  refine v_iload_n O dX0_does_14 1 rfl ?_
  refine v_cS (As := [.int 0, .int 0]) (wr := [(bo, .inr (0, [.ref tr, .int (nI n), .int i, .int (nI k), .int v])), (tr, eI D 20 f)]) (st := []) O cf_X0_36 (sp_X0_number (k := 0) (a := 0) (by decide) (by decide)) dX0_does_15 rfl rfl [] [0, 1] (by decide) rfl rfl (by decide) (by decide) (by decide) (Nat.le_of_ble_eq_true rfl) (by decide) (by decide) (fun r_3 w_4 h_2 => ?_)
  obtain ⟨rfl, rfl⟩ := h_2
  refine v_eq (st' := [.int (x_num (0 * 3 + 0))]) (ws' := [(bo, .inr (0, [.ref tr, .int (nI n), .int i, .int (nI k), .int v])), (tr, eI D 20 f)]) rfl rfl rfl rfl ?_
  refine v_top (y := 10) (by decide) ?_
  refine v_if_ne O 34 dX0_does_18 (by decide) (fun _ => ?_) (fun c => absurd c (by decide))
  refine v_iload O dX0_does_34 5 rfl ?_
  refine v_iload_n O dX0_does_36 1 rfl ?_
  refine v_cS (As := [.int 0, .int 0]) (wr := [(bo, .inr (0, [.ref tr, .int (nI n), .int i, .int (nI k), .int v])), (tr, eI D 20 f)]) (st := []) O cf_X0_36 (sp_X0_number (k := 0) (a := 0) (by decide) (by decide)) dX0_does_37 rfl rfl [] [0, 1] (by decide) rfl rfl (by decide) (by decide) (by decide) (Nat.le_of_ble_eq_true rfl) (by decide) (by decide) (fun r_7 w_8 h_6 => ?_)
  obtain ⟨rfl, rfl⟩ := h_6
  refine v_eq (st' := [.int (x_num (0 * 3 + 0))]) (ws' := [(bo, .inr (0, [.ref tr, .int (nI n), .int i, .int (nI k), .int v])), (tr, eI D 20 f)]) rfl rfl rfl rfl ?_
  refine v_top (y := 10) (by decide) ?_
  refine v_istore (lv' := [(0, .ref bo), (1, .int 0), (2, .int x), (3, .int 0), (4, .int (nI dp)), (5, .int 0), (6, .int 10)]) O dX0_does_40 (by decide) rfl ?_
  refine v_iload O dX0_does_42 6 rfl ?_
  refine v_if_eq O 54 dX0_does_44 (by decide) (fun c => absurd c (by decide)) (fun _ => ?_)
  refine v_iload O dX0_does_47 4 rfl ?_
  refine v_bipush (v := 30) O dX0_does_49 (by decide) ?_
  refine v_icmp_le O 56 dX0_does_51 (by decide) (fun z1 => ?_) (fun z1 => ?_)
  · skip
    have z1 := (c_le (x := nI dp) (y := 30) (a := dp) (b := 30) rfl rfl (by omega) (by omega)).mp z1
    refine v_aload_n O dX0_does_56 0 rfl ?_
    refine v_iload O dX0_does_57 6 rfl ?_
    refine v_cV (T := TX0) (ci := 0) (As := [.int 10]) (wr := []) (st := []) O cf_X0_44 rfl (sp_X0_begins (bo := bo) (tr := tr) (n := n) (i := i) (k := k) (v := v) (f := f) (b := 10) (by omega)) dX0_does_59 rfl rfl 0 rfl [0, 1] [] (by decide) rfl rfl (by decide) (by decide) (by decide) (Nat.le_of_ble_eq_true rfl) (by decide) (by decide) (fun r_11 w_12 h_10 => ?_)
    obtain ⟨rfl, rfl⟩ := h_10
    refine v_eq (st' := []) (ws' := [(bo, .inr (0, [.ref tr, .int (nI (n + 1)), .int i, .int (nI k), .int v])), (tr, eI D 20 (upd f n 10))]) rfl rfl rfl rfl ?_
    refine v_aload_n O dX0_does_62 0 rfl ?_
    refine v_iload O dX0_does_63 6 rfl ?_
    refine v_iload_n O dX0_does_65 2 rfl ?_
    refine v_iload O dX0_does_66 5 rfl ?_
    refine v_cSN (As := [.int 0]) (wr := [(bo, .inr (0, [.ref tr, .int (nI (n + 1)), .int i, .int (nI k), .int v])), (tr, eI D 20 (upd f n 10))]) (st := [.int x, .int 10, .ref bo]) O cf_X0_40 (sp_X9_aboveOf (k := 0) (by decide)) dX0_does_68 rfl rfl [] [0, 1] (by decide) rfl rfl (by decide) (by decide) (by decide) (Nat.le_of_ble_eq_true rfl) (by decide) (by decide) (fun r_14 w_15 h_13 => ?_)
    obtain ⟨rfl, rfl⟩ := h_13
    refine v_eq (st' := [.int (x_abv 0), .int x, .int 10, .ref bo]) (ws' := [(bo, .inr (0, [.ref tr, .int (nI (n + 1)), .int i, .int (nI k), .int v])), (tr, eI D 20 (upd f n 10))]) rfl rfl rfl rfl ?_
    refine v_top (y := -1) (by decide) ?_
    refine v_iload O dX0_does_71 4 rfl ?_
    refine v_iconst (v := 1) O dX0_does_73 (by decide) ?_
    refine v_iadd O dX0_does_74 ?_
    refine v_top (y := nI (dp + 1)) (nI_add dp 1) ?_
    refine v_cV (T := TX0) (ci := 0) (As := [.int 10, .int x, .int (-1), .int (nI (dp + 1))]) (wr := []) (st := []) O cf_X0_48 rfl (sp_X0_runs_10 (bo := bo) (tr := tr) (n := (n + 1)) (i := i) (k := k) (v := v) (f := (upd f n 10)) (x := x) (dp := (dp + 1)) (hk) (by omega) (by omega)) dX0_does_75 rfl rfl 0 rfl [0, 1] [] (by decide) rfl rfl (by decide) (by decide) (by decide) (Nat.le_of_ble_eq_true rfl) (by decide) (by decide) (fun r_17 w_18 h_16 => ?_)
    obtain ⟨rfl, rfl⟩ := h_16
    refine v_eq (st' := [.int (x + i)]) (ws' := [(bo, .inr (0, [.ref tr, .int (nI ((n + 1) + (([] : List Int32)).length)), .int i, .int (nI k), .int v])), (tr, eI D 20 (trW (upd f n 10) (n + 1) (([] : List Int32))))]) rfl rfl rfl rfl ?_
    exact v_ireturn O T rfl rfl (by decide) (by decide) dX0_does_78 (⟨rfl, by rw [show n + (wL 0).length = n + 1 + (([] : List Int32)).length from by rw [show (wL 0).length = (([] : List Int32)).length + 1 from rfl]; omega]; rfl⟩)
  · skip
    have z1 := (not_congr (c_le (x := nI dp) (y := 30) (a := dp) (b := 30) rfl rfl (by omega) (by omega))).mp z1
    exact absurd z1 (by omega)
set_option maxRecDepth 100000 in
set_option maxHeartbeats 4000000 in
theorem sp_X0_does_W1 {D : G} {bo : Nat} {tr : Nat} {n : Nat} {i : Int32} {k : Nat} {v : Int32} {f : Nat → Int32} {x : Int32} {dp : Nat} (hk : k < 7) (hn : n ≤ 13) (hdp : dp ≤ 13) : Sp D mX0_does 1 0 0 [.ref bo, .int 0, .int x, .int 1, .int (nI dp)] [(bo, .inr (0, [.ref tr, .int (nI n), .int i, .int (nI k), .int v])), (tr, eI D 20 f)] (fun r w => r = some (.int (wV i v x 1)) ∧ w = [(bo, .inr (0, [.ref tr, .int (nI (n + (wL 1).length)), .int i, .int (nI k), .int v])), (tr, eI D 20 (trW f n (wL 1)))]) := by
  refine Sp.of (by decide) (Nat.le_of_ble_eq_true rfl) (fun X O T => ?_)
  refine v_eq (lv' := [(0, .ref bo), (1, .int 0), (2, .int x), (3, .int 1), (4, .int (nI dp))]) rfl rfl rfl rfl ?_
  refine v_iload_n O dX0_does_0 3 rfl ?_
  refine v_istore (lv' := [(0, .ref bo), (1, .int 0), (2, .int x), (3, .int 1), (4, .int (nI dp)), (5, .int 1)]) O dX0_does_1 (by decide) rfl ?_
  refine v_iconst (v := 0) O dX0_does_3 (by decide) ?_
  refine v_istore (lv' := [(0, .ref bo), (1, .int 0), (2, .int x), (3, .int 1), (4, .int (nI dp)), (5, .int 1), (6, .int 0)]) O dX0_does_4 (by decide) rfl ?_
  refine v_iload O dX0_does_6 6 rfl ?_
  refine v_iconst (v := 3) O dX0_does_8 (by decide) ?_
  refine v_icmp_ge O 34 dX0_does_9 (by decide) (fun c => absurd c (by decide)) (fun _ => ?_)
  refine v_iload O dX0_does_12 5 rfl ?_
  refine v_iload_n O dX0_does_14 1 rfl ?_
  refine v_cS (As := [.int 1, .int 0]) (wr := [(bo, .inr (0, [.ref tr, .int (nI n), .int i, .int (nI k), .int v])), (tr, eI D 20 f)]) (st := []) O cf_X0_36 (sp_X0_number (k := 1) (a := 0) (by decide) (by decide)) dX0_does_15 rfl rfl [] [0, 1] (by decide) rfl rfl (by decide) (by decide) (by decide) (Nat.le_of_ble_eq_true rfl) (by decide) (by decide) (fun r_3 w_4 h_2 => ?_)
  obtain ⟨rfl, rfl⟩ := h_2
  refine v_eq (st' := [.int (x_num (1 * 3 + 0))]) (ws' := [(bo, .inr (0, [.ref tr, .int (nI n), .int i, .int (nI k), .int v])), (tr, eI D 20 f)]) rfl rfl rfl rfl ?_
  refine v_top (y := 0) (by decide) ?_
  refine v_if_ne O 34 dX0_does_18 (by decide) (fun c => absurd c (by decide)) (fun _ => ?_)
  refine v_iload O dX0_does_21 5 rfl ?_
  refine v_cSN (As := [.int 1]) (wr := [(bo, .inr (0, [.ref tr, .int (nI n), .int i, .int (nI k), .int v])), (tr, eI D 20 f)]) (st := []) O cf_X0_40 (sp_X9_aboveOf (k := 1) (by decide)) dX0_does_23 rfl rfl [] [0, 1] (by decide) rfl rfl (by decide) (by decide) (by decide) (Nat.le_of_ble_eq_true rfl) (by decide) (by decide) (fun r_7 w_8 h_6 => ?_)
  obtain ⟨rfl, rfl⟩ := h_6
  refine v_eq (st' := [.int (x_abv 1)]) (ws' := [(bo, .inr (0, [.ref tr, .int (nI n), .int i, .int (nI k), .int v])), (tr, eI D 20 f)]) rfl rfl rfl rfl ?_
  refine v_top (y := 0) (by decide) ?_
  refine v_istore (lv' := [(0, .ref bo), (1, .int 0), (2, .int x), (3, .int 1), (4, .int (nI dp)), (5, .int 0), (6, .int 0)]) O dX0_does_26 (by decide) rfl ?_
  refine v_iinc (v := 1) (lv' := [(0, .ref bo), (1, .int 0), (2, .int x), (3, .int 1), (4, .int (nI dp)), (5, .int 0), (6, .int 1)]) O dX0_does_28 6 rfl (by decide) (by decide) rfl ?_
  refine v_goto O 6 dX0_does_31 (by decide) ?_
  refine v_iload O dX0_does_6 6 rfl ?_
  refine v_iconst (v := 3) O dX0_does_8 (by decide) ?_
  refine v_icmp_ge O 34 dX0_does_9 (by decide) (fun c => absurd c (by decide)) (fun _ => ?_)
  refine v_iload O dX0_does_12 5 rfl ?_
  refine v_iload_n O dX0_does_14 1 rfl ?_
  refine v_cS (As := [.int 0, .int 0]) (wr := [(bo, .inr (0, [.ref tr, .int (nI n), .int i, .int (nI k), .int v])), (tr, eI D 20 f)]) (st := []) O cf_X0_36 (sp_X0_number (k := 0) (a := 0) (by decide) (by decide)) dX0_does_15 rfl rfl [] [0, 1] (by decide) rfl rfl (by decide) (by decide) (by decide) (Nat.le_of_ble_eq_true rfl) (by decide) (by decide) (fun r_11 w_12 h_10 => ?_)
  obtain ⟨rfl, rfl⟩ := h_10
  refine v_eq (st' := [.int (x_num (0 * 3 + 0))]) (ws' := [(bo, .inr (0, [.ref tr, .int (nI n), .int i, .int (nI k), .int v])), (tr, eI D 20 f)]) rfl rfl rfl rfl ?_
  refine v_top (y := 10) (by decide) ?_
  refine v_if_ne O 34 dX0_does_18 (by decide) (fun _ => ?_) (fun c => absurd c (by decide))
  refine v_iload O dX0_does_34 5 rfl ?_
  refine v_iload_n O dX0_does_36 1 rfl ?_
  refine v_cS (As := [.int 0, .int 0]) (wr := [(bo, .inr (0, [.ref tr, .int (nI n), .int i, .int (nI k), .int v])), (tr, eI D 20 f)]) (st := []) O cf_X0_36 (sp_X0_number (k := 0) (a := 0) (by decide) (by decide)) dX0_does_37 rfl rfl [] [0, 1] (by decide) rfl rfl (by decide) (by decide) (by decide) (Nat.le_of_ble_eq_true rfl) (by decide) (by decide) (fun r_15 w_16 h_14 => ?_)
  obtain ⟨rfl, rfl⟩ := h_14
  refine v_eq (st' := [.int (x_num (0 * 3 + 0))]) (ws' := [(bo, .inr (0, [.ref tr, .int (nI n), .int i, .int (nI k), .int v])), (tr, eI D 20 f)]) rfl rfl rfl rfl ?_
  refine v_top (y := 10) (by decide) ?_
  refine v_istore (lv' := [(0, .ref bo), (1, .int 0), (2, .int x), (3, .int 1), (4, .int (nI dp)), (5, .int 0), (6, .int 10)]) O dX0_does_40 (by decide) rfl ?_
  refine v_iload O dX0_does_42 6 rfl ?_
  refine v_if_eq O 54 dX0_does_44 (by decide) (fun c => absurd c (by decide)) (fun _ => ?_)
  refine v_iload O dX0_does_47 4 rfl ?_
  refine v_bipush (v := 30) O dX0_does_49 (by decide) ?_
  refine v_icmp_le O 56 dX0_does_51 (by decide) (fun z1 => ?_) (fun z1 => ?_)
  · skip
    have z1 := (c_le (x := nI dp) (y := 30) (a := dp) (b := 30) rfl rfl (by omega) (by omega)).mp z1
    refine v_aload_n O dX0_does_56 0 rfl ?_
    refine v_iload O dX0_does_57 6 rfl ?_
    refine v_cV (T := TX0) (ci := 0) (As := [.int 10]) (wr := []) (st := []) O cf_X0_44 rfl (sp_X0_begins (bo := bo) (tr := tr) (n := n) (i := i) (k := k) (v := v) (f := f) (b := 10) (by omega)) dX0_does_59 rfl rfl 0 rfl [0, 1] [] (by decide) rfl rfl (by decide) (by decide) (by decide) (Nat.le_of_ble_eq_true rfl) (by decide) (by decide) (fun r_19 w_20 h_18 => ?_)
    obtain ⟨rfl, rfl⟩ := h_18
    refine v_eq (st' := []) (ws' := [(bo, .inr (0, [.ref tr, .int (nI (n + 1)), .int i, .int (nI k), .int v])), (tr, eI D 20 (upd f n 10))]) rfl rfl rfl rfl ?_
    refine v_aload_n O dX0_does_62 0 rfl ?_
    refine v_iload O dX0_does_63 6 rfl ?_
    refine v_iload_n O dX0_does_65 2 rfl ?_
    refine v_iload O dX0_does_66 5 rfl ?_
    refine v_cSN (As := [.int 0]) (wr := [(bo, .inr (0, [.ref tr, .int (nI (n + 1)), .int i, .int (nI k), .int v])), (tr, eI D 20 (upd f n 10))]) (st := [.int x, .int 10, .ref bo]) O cf_X0_40 (sp_X9_aboveOf (k := 0) (by decide)) dX0_does_68 rfl rfl [] [0, 1] (by decide) rfl rfl (by decide) (by decide) (by decide) (Nat.le_of_ble_eq_true rfl) (by decide) (by decide) (fun r_22 w_23 h_21 => ?_)
    obtain ⟨rfl, rfl⟩ := h_21
    refine v_eq (st' := [.int (x_abv 0), .int x, .int 10, .ref bo]) (ws' := [(bo, .inr (0, [.ref tr, .int (nI (n + 1)), .int i, .int (nI k), .int v])), (tr, eI D 20 (upd f n 10))]) rfl rfl rfl rfl ?_
    refine v_top (y := -1) (by decide) ?_
    refine v_iload O dX0_does_71 4 rfl ?_
    refine v_iconst (v := 1) O dX0_does_73 (by decide) ?_
    refine v_iadd O dX0_does_74 ?_
    refine v_top (y := nI (dp + 1)) (nI_add dp 1) ?_
    refine v_cV (T := TX0) (ci := 0) (As := [.int 10, .int x, .int (-1), .int (nI (dp + 1))]) (wr := []) (st := []) O cf_X0_48 rfl (sp_X0_runs_10 (bo := bo) (tr := tr) (n := (n + 1)) (i := i) (k := k) (v := v) (f := (upd f n 10)) (x := x) (dp := (dp + 1)) (hk) (by omega) (by omega)) dX0_does_75 rfl rfl 0 rfl [0, 1] [] (by decide) rfl rfl (by decide) (by decide) (by decide) (Nat.le_of_ble_eq_true rfl) (by decide) (by decide) (fun r_25 w_26 h_24 => ?_)
    obtain ⟨rfl, rfl⟩ := h_24
    refine v_eq (st' := [.int (x + i)]) (ws' := [(bo, .inr (0, [.ref tr, .int (nI ((n + 1) + (([] : List Int32)).length)), .int i, .int (nI k), .int v])), (tr, eI D 20 (trW (upd f n 10) (n + 1) (([] : List Int32))))]) rfl rfl rfl rfl ?_
    exact v_ireturn O T rfl rfl (by decide) (by decide) dX0_does_78 (⟨rfl, by rw [show n + (wL 1).length = n + 1 + (([] : List Int32)).length from by rw [show (wL 1).length = (([] : List Int32)).length + 1 from rfl]; omega]; rfl⟩)
  · skip
    have z1 := (not_congr (c_le (x := nI dp) (y := 30) (a := dp) (b := 30) rfl rfl (by omega) (by omega))).mp z1
    exact absurd z1 (by omega)
set_option maxRecDepth 100000 in
set_option maxHeartbeats 4000000 in
theorem sp_X0_does_W3 {D : G} {bo : Nat} {tr : Nat} {n : Nat} {i : Int32} {k : Nat} {v : Int32} {f : Nat → Int32} {x : Int32} {dp : Nat} (hk : k < 7) (hn : n ≤ 13) (hdp : dp ≤ 13) : Sp D mX0_does 1 0 0 [.ref bo, .int 0, .int x, .int 3, .int (nI dp)] [(bo, .inr (0, [.ref tr, .int (nI n), .int i, .int (nI k), .int v])), (tr, eI D 20 f)] (fun r w => r = some (.int (wV i v x 3)) ∧ w = [(bo, .inr (0, [.ref tr, .int (nI (n + (wL 3).length)), .int i, .int (nI k), .int v])), (tr, eI D 20 (trW f n (wL 3)))]) := by
  refine Sp.of (by decide) (Nat.le_of_ble_eq_true rfl) (fun X O T => ?_)
  refine v_eq (lv' := [(0, .ref bo), (1, .int 0), (2, .int x), (3, .int 3), (4, .int (nI dp))]) rfl rfl rfl rfl ?_
  refine v_iload_n O dX0_does_0 3 rfl ?_
  refine v_istore (lv' := [(0, .ref bo), (1, .int 0), (2, .int x), (3, .int 3), (4, .int (nI dp)), (5, .int 3)]) O dX0_does_1 (by decide) rfl ?_
  refine v_iconst (v := 0) O dX0_does_3 (by decide) ?_
  refine v_istore (lv' := [(0, .ref bo), (1, .int 0), (2, .int x), (3, .int 3), (4, .int (nI dp)), (5, .int 3), (6, .int 0)]) O dX0_does_4 (by decide) rfl ?_
  refine v_iload O dX0_does_6 6 rfl ?_
  refine v_iconst (v := 3) O dX0_does_8 (by decide) ?_
  refine v_icmp_ge O 34 dX0_does_9 (by decide) (fun c => absurd c (by decide)) (fun _ => ?_)
  refine v_iload O dX0_does_12 5 rfl ?_
  refine v_iload_n O dX0_does_14 1 rfl ?_
  refine v_cS (As := [.int 3, .int 0]) (wr := [(bo, .inr (0, [.ref tr, .int (nI n), .int i, .int (nI k), .int v])), (tr, eI D 20 f)]) (st := []) O cf_X0_36 (sp_X0_number (k := 3) (a := 0) (by decide) (by decide)) dX0_does_15 rfl rfl [] [0, 1] (by decide) rfl rfl (by decide) (by decide) (by decide) (Nat.le_of_ble_eq_true rfl) (by decide) (by decide) (fun r_3 w_4 h_2 => ?_)
  obtain ⟨rfl, rfl⟩ := h_2
  refine v_eq (st' := [.int (x_num (3 * 3 + 0))]) (ws' := [(bo, .inr (0, [.ref tr, .int (nI n), .int i, .int (nI k), .int v])), (tr, eI D 20 f)]) rfl rfl rfl rfl ?_
  refine v_top (y := 0) (by decide) ?_
  refine v_if_ne O 34 dX0_does_18 (by decide) (fun c => absurd c (by decide)) (fun _ => ?_)
  refine v_iload O dX0_does_21 5 rfl ?_
  refine v_cSN (As := [.int 3]) (wr := [(bo, .inr (0, [.ref tr, .int (nI n), .int i, .int (nI k), .int v])), (tr, eI D 20 f)]) (st := []) O cf_X0_40 (sp_X9_aboveOf (k := 3) (by decide)) dX0_does_23 rfl rfl [] [0, 1] (by decide) rfl rfl (by decide) (by decide) (by decide) (Nat.le_of_ble_eq_true rfl) (by decide) (by decide) (fun r_7 w_8 h_6 => ?_)
  obtain ⟨rfl, rfl⟩ := h_6
  refine v_eq (st' := [.int (x_abv 3)]) (ws' := [(bo, .inr (0, [.ref tr, .int (nI n), .int i, .int (nI k), .int v])), (tr, eI D 20 f)]) rfl rfl rfl rfl ?_
  refine v_top (y := 0) (by decide) ?_
  refine v_istore (lv' := [(0, .ref bo), (1, .int 0), (2, .int x), (3, .int 3), (4, .int (nI dp)), (5, .int 0), (6, .int 0)]) O dX0_does_26 (by decide) rfl ?_
  refine v_iinc (v := 1) (lv' := [(0, .ref bo), (1, .int 0), (2, .int x), (3, .int 3), (4, .int (nI dp)), (5, .int 0), (6, .int 1)]) O dX0_does_28 6 rfl (by decide) (by decide) rfl ?_
  refine v_goto O 6 dX0_does_31 (by decide) ?_
  refine v_iload O dX0_does_6 6 rfl ?_
  refine v_iconst (v := 3) O dX0_does_8 (by decide) ?_
  refine v_icmp_ge O 34 dX0_does_9 (by decide) (fun c => absurd c (by decide)) (fun _ => ?_)
  refine v_iload O dX0_does_12 5 rfl ?_
  refine v_iload_n O dX0_does_14 1 rfl ?_
  refine v_cS (As := [.int 0, .int 0]) (wr := [(bo, .inr (0, [.ref tr, .int (nI n), .int i, .int (nI k), .int v])), (tr, eI D 20 f)]) (st := []) O cf_X0_36 (sp_X0_number (k := 0) (a := 0) (by decide) (by decide)) dX0_does_15 rfl rfl [] [0, 1] (by decide) rfl rfl (by decide) (by decide) (by decide) (Nat.le_of_ble_eq_true rfl) (by decide) (by decide) (fun r_11 w_12 h_10 => ?_)
  obtain ⟨rfl, rfl⟩ := h_10
  refine v_eq (st' := [.int (x_num (0 * 3 + 0))]) (ws' := [(bo, .inr (0, [.ref tr, .int (nI n), .int i, .int (nI k), .int v])), (tr, eI D 20 f)]) rfl rfl rfl rfl ?_
  refine v_top (y := 10) (by decide) ?_
  refine v_if_ne O 34 dX0_does_18 (by decide) (fun _ => ?_) (fun c => absurd c (by decide))
  refine v_iload O dX0_does_34 5 rfl ?_
  refine v_iload_n O dX0_does_36 1 rfl ?_
  refine v_cS (As := [.int 0, .int 0]) (wr := [(bo, .inr (0, [.ref tr, .int (nI n), .int i, .int (nI k), .int v])), (tr, eI D 20 f)]) (st := []) O cf_X0_36 (sp_X0_number (k := 0) (a := 0) (by decide) (by decide)) dX0_does_37 rfl rfl [] [0, 1] (by decide) rfl rfl (by decide) (by decide) (by decide) (Nat.le_of_ble_eq_true rfl) (by decide) (by decide) (fun r_15 w_16 h_14 => ?_)
  obtain ⟨rfl, rfl⟩ := h_14
  refine v_eq (st' := [.int (x_num (0 * 3 + 0))]) (ws' := [(bo, .inr (0, [.ref tr, .int (nI n), .int i, .int (nI k), .int v])), (tr, eI D 20 f)]) rfl rfl rfl rfl ?_
  refine v_top (y := 10) (by decide) ?_
  refine v_istore (lv' := [(0, .ref bo), (1, .int 0), (2, .int x), (3, .int 3), (4, .int (nI dp)), (5, .int 0), (6, .int 10)]) O dX0_does_40 (by decide) rfl ?_
  refine v_iload O dX0_does_42 6 rfl ?_
  refine v_if_eq O 54 dX0_does_44 (by decide) (fun c => absurd c (by decide)) (fun _ => ?_)
  refine v_iload O dX0_does_47 4 rfl ?_
  refine v_bipush (v := 30) O dX0_does_49 (by decide) ?_
  refine v_icmp_le O 56 dX0_does_51 (by decide) (fun z1 => ?_) (fun z1 => ?_)
  · skip
    have z1 := (c_le (x := nI dp) (y := 30) (a := dp) (b := 30) rfl rfl (by omega) (by omega)).mp z1
    refine v_aload_n O dX0_does_56 0 rfl ?_
    refine v_iload O dX0_does_57 6 rfl ?_
    refine v_cV (T := TX0) (ci := 0) (As := [.int 10]) (wr := []) (st := []) O cf_X0_44 rfl (sp_X0_begins (bo := bo) (tr := tr) (n := n) (i := i) (k := k) (v := v) (f := f) (b := 10) (by omega)) dX0_does_59 rfl rfl 0 rfl [0, 1] [] (by decide) rfl rfl (by decide) (by decide) (by decide) (Nat.le_of_ble_eq_true rfl) (by decide) (by decide) (fun r_19 w_20 h_18 => ?_)
    obtain ⟨rfl, rfl⟩ := h_18
    refine v_eq (st' := []) (ws' := [(bo, .inr (0, [.ref tr, .int (nI (n + 1)), .int i, .int (nI k), .int v])), (tr, eI D 20 (upd f n 10))]) rfl rfl rfl rfl ?_
    refine v_aload_n O dX0_does_62 0 rfl ?_
    refine v_iload O dX0_does_63 6 rfl ?_
    refine v_iload_n O dX0_does_65 2 rfl ?_
    refine v_iload O dX0_does_66 5 rfl ?_
    refine v_cSN (As := [.int 0]) (wr := [(bo, .inr (0, [.ref tr, .int (nI (n + 1)), .int i, .int (nI k), .int v])), (tr, eI D 20 (upd f n 10))]) (st := [.int x, .int 10, .ref bo]) O cf_X0_40 (sp_X9_aboveOf (k := 0) (by decide)) dX0_does_68 rfl rfl [] [0, 1] (by decide) rfl rfl (by decide) (by decide) (by decide) (Nat.le_of_ble_eq_true rfl) (by decide) (by decide) (fun r_22 w_23 h_21 => ?_)
    obtain ⟨rfl, rfl⟩ := h_21
    refine v_eq (st' := [.int (x_abv 0), .int x, .int 10, .ref bo]) (ws' := [(bo, .inr (0, [.ref tr, .int (nI (n + 1)), .int i, .int (nI k), .int v])), (tr, eI D 20 (upd f n 10))]) rfl rfl rfl rfl ?_
    refine v_top (y := -1) (by decide) ?_
    refine v_iload O dX0_does_71 4 rfl ?_
    refine v_iconst (v := 1) O dX0_does_73 (by decide) ?_
    refine v_iadd O dX0_does_74 ?_
    refine v_top (y := nI (dp + 1)) (nI_add dp 1) ?_
    refine v_cV (T := TX0) (ci := 0) (As := [.int 10, .int x, .int (-1), .int (nI (dp + 1))]) (wr := []) (st := []) O cf_X0_48 rfl (sp_X0_runs_10 (bo := bo) (tr := tr) (n := (n + 1)) (i := i) (k := k) (v := v) (f := (upd f n 10)) (x := x) (dp := (dp + 1)) (hk) (by omega) (by omega)) dX0_does_75 rfl rfl 0 rfl [0, 1] [] (by decide) rfl rfl (by decide) (by decide) (by decide) (Nat.le_of_ble_eq_true rfl) (by decide) (by decide) (fun r_25 w_26 h_24 => ?_)
    obtain ⟨rfl, rfl⟩ := h_24
    refine v_eq (st' := [.int (x + i)]) (ws' := [(bo, .inr (0, [.ref tr, .int (nI ((n + 1) + (([] : List Int32)).length)), .int i, .int (nI k), .int v])), (tr, eI D 20 (trW (upd f n 10) (n + 1) (([] : List Int32))))]) rfl rfl rfl rfl ?_
    exact v_ireturn O T rfl rfl (by decide) (by decide) dX0_does_78 (⟨rfl, by rw [show n + (wL 3).length = n + 1 + (([] : List Int32)).length from by rw [show (wL 3).length = (([] : List Int32)).length + 1 from rfl]; omega]; rfl⟩)
  · skip
    have z1 := (not_congr (c_le (x := nI dp) (y := 30) (a := dp) (b := 30) rfl rfl (by omega) (by omega))).mp z1
    exact absurd z1 (by omega)
set_option maxRecDepth 100000 in
set_option maxHeartbeats 4000000 in
theorem sp_X0_runs_30 {D : G} {bo : Nat} {tr : Nat} {n : Nat} {i : Int32} {k : Nat} {v : Int32} {f : Nat → Int32} {x : Int32} {dp : Nat} (hk : k < 7) (hn : n ≤ 13) (hdp : dp ≤ 13) : Sp D mX0_runs 2 0 0 [.ref bo, .int 30, .int x, .int 0, .int (nI dp)] [(bo, .inr (0, [.ref tr, .int (nI n), .int i, .int (nI k), .int v])), (tr, eI D 20 f)] (fun r w => r = some (.int (wV i v (x * 3) 0)) ∧ w = [(bo, .inr (0, [.ref tr, .int (nI (n + (wL 0).length)), .int i, .int (nI k), .int v])), (tr, eI D 20 (trW f n (wL 0)))]) := by
  refine Sp.of (by decide) (Nat.le_of_ble_eq_true rfl) (fun X O T => ?_)
  refine v_eq (lv' := [(0, .ref bo), (1, .int 30), (2, .int x), (3, .int 0), (4, .int (nI dp))]) rfl rfl rfl rfl ?_
  refine v_iload_n O dX0_runs_0 1 rfl ?_
  refine v_lks (off := 152) O 153 dX0_runs_1 (by decide) (by decide) (by decide) ?_
  refine v_aload_n O dX0_runs_153 0 rfl ?_
  refine v_iconst (v := 0) O dX0_runs_154 (by decide) ?_
  refine v_iload_n O dX0_runs_155 2 rfl ?_
  refine v_iconst (v := 3) O dX0_runs_156 (by decide) ?_
  refine v_imul O dX0_runs_157 ?_
  refine v_iload_n O dX0_runs_158 3 rfl ?_
  refine v_iload O dX0_runs_159 4 rfl ?_
  refine v_cV (T := TX0) (ci := 0) (As := [.int 0, .int (x * 3), .int 0, .int (nI dp)]) (wr := []) (st := []) O cf_X0_28 rfl (sp_X0_does_W0 (bo := bo) (tr := tr) (n := n) (i := i) (k := k) (v := v) (f := f) (x := (x * 3)) (dp := dp) (hk) (by have zl1 := wL_len k hk; have zl2 := hL_len k hk 3 (by decide); have zl3 := hL_len k hk k hk; have zl4 : (tL k 0).length = (hL k k).length + 1 := rfl; omega) (by omega)) dX0_runs_161 rfl rfl 0 rfl [0, 1] [] (by decide) rfl rfl (by decide) (by decide) (by decide) (Nat.le_of_ble_eq_true rfl) (by decide) (by decide) (fun r_2 w_3 h_1 => ?_)
  obtain ⟨rfl, rfl⟩ := h_1
  refine v_eq (st' := [.int (wV i v (x * 3) 0)]) (ws' := [(bo, .inr (0, [.ref tr, .int (nI (n + (wL 0).length)), .int i, .int (nI k), .int v])), (tr, eI D 20 (trW f n (wL 0)))]) rfl rfl rfl rfl ?_
  exact v_ireturn O T rfl rfl (by decide) (by decide) dX0_runs_164 (⟨rfl, rfl⟩)
set_option maxRecDepth 100000 in
set_option maxHeartbeats 4000000 in
theorem sp_X0_runs_50 {D : G} {bo : Nat} {tr : Nat} {n : Nat} {i : Int32} {k : Nat} {v : Int32} {f : Nat → Int32} {x : Int32} {dp : Nat} (hk : k < 7) (hn : n ≤ 13) (hdp : dp ≤ 13) : Sp D mX0_runs 2 0 0 [.ref bo, .int 50, .int x, .int 1, .int (nI dp)] [(bo, .inr (0, [.ref tr, .int (nI n), .int i, .int (nI k), .int v])), (tr, eI D 20 f)] (fun r w => r = some (.int (-(wV i v x 1))) ∧ w = [(bo, .inr (0, [.ref tr, .int (nI (n + (wL 1).length)), .int i, .int (nI k), .int v])), (tr, eI D 20 (trW f n (wL 1)))]) := by
  refine Sp.of (by decide) (Nat.le_of_ble_eq_true rfl) (fun X O T => ?_)
  refine v_eq (lv' := [(0, .ref bo), (1, .int 50), (2, .int x), (3, .int 1), (4, .int (nI dp))]) rfl rfl rfl rfl ?_
  refine v_iload_n O dX0_runs_0 1 rfl ?_
  refine v_lks (off := 187) O 188 dX0_runs_1 (by decide) (by decide) (by decide) ?_
  refine v_aload_n O dX0_runs_188 0 rfl ?_
  refine v_iconst (v := 0) O dX0_runs_189 (by decide) ?_
  refine v_iload_n O dX0_runs_190 2 rfl ?_
  refine v_iload_n O dX0_runs_191 3 rfl ?_
  refine v_iload O dX0_runs_192 4 rfl ?_
  refine v_cV (T := TX0) (ci := 0) (As := [.int 0, .int x, .int 1, .int (nI dp)]) (wr := []) (st := []) O cf_X0_28 rfl (sp_X0_does_W1 (bo := bo) (tr := tr) (n := n) (i := i) (k := k) (v := v) (f := f) (x := x) (dp := dp) (hk) (by have zl1 := wL_len k hk; have zl2 := hL_len k hk 3 (by decide); have zl3 := hL_len k hk k hk; have zl4 : (tL k 0).length = (hL k k).length + 1 := rfl; omega) (by omega)) dX0_runs_194 rfl rfl 0 rfl [0, 1] [] (by decide) rfl rfl (by decide) (by decide) (by decide) (Nat.le_of_ble_eq_true rfl) (by decide) (by decide) (fun r_2 w_3 h_1 => ?_)
  obtain ⟨rfl, rfl⟩ := h_1
  refine v_eq (st' := [.int (wV i v x 1)]) (ws' := [(bo, .inr (0, [.ref tr, .int (nI (n + (wL 1).length)), .int i, .int (nI k), .int v])), (tr, eI D 20 (trW f n (wL 1)))]) rfl rfl rfl rfl ?_
  refine v_ineg O dX0_runs_197 ?_
  exact v_ireturn O T rfl rfl (by decide) (by decide) dX0_runs_198 (⟨rfl, rfl⟩)
set_option maxRecDepth 100000 in
set_option maxHeartbeats 4000000 in
theorem sp_X0_runs_71 {D : G} {bo : Nat} {tr : Nat} {n : Nat} {i : Int32} {k : Nat} {v : Int32} {f : Nat → Int32} {x : Int32} {dp : Nat} (hk : k < 7) (hn : n ≤ 13) (hdp : dp ≤ 13) : Sp D mX0_runs 2 0 0 [.ref bo, .int 71, .int x, .int 3, .int (nI dp)] [(bo, .inr (0, [.ref tr, .int (nI n), .int i, .int (nI k), .int v])), (tr, eI D 20 f)] (fun r w => r = some (.int (wV i v x 3 ^^^ v)) ∧ w = [(bo, .inr (0, [.ref tr, .int (nI (n + (wL 3).length)), .int i, .int (nI k), .int v])), (tr, eI D 20 (trW f n (wL 3)))]) := by
  refine Sp.of (by decide) (Nat.le_of_ble_eq_true rfl) (fun X O T => ?_)
  refine v_eq (lv' := [(0, .ref bo), (1, .int 71), (2, .int x), (3, .int 3), (4, .int (nI dp))]) rfl rfl rfl rfl ?_
  refine v_iload_n O dX0_runs_0 1 rfl ?_
  refine v_lks (off := 245) O 246 dX0_runs_1 (by decide) (by decide) (by decide) ?_
  refine v_aload_n O dX0_runs_246 0 rfl ?_
  refine v_iconst (v := 0) O dX0_runs_247 (by decide) ?_
  refine v_iload_n O dX0_runs_248 2 rfl ?_
  refine v_iload_n O dX0_runs_249 3 rfl ?_
  refine v_iload O dX0_runs_250 4 rfl ?_
  refine v_cV (T := TX0) (ci := 0) (As := [.int 0, .int x, .int 3, .int (nI dp)]) (wr := []) (st := []) O cf_X0_28 rfl (sp_X0_does_W3 (bo := bo) (tr := tr) (n := n) (i := i) (k := k) (v := v) (f := f) (x := x) (dp := dp) (hk) (by have zl1 := wL_len k hk; have zl2 := hL_len k hk 3 (by decide); have zl3 := hL_len k hk k hk; have zl4 : (tL k 0).length = (hL k k).length + 1 := rfl; omega) (by omega)) dX0_runs_252 rfl rfl 0 rfl [0, 1] [] (by decide) rfl rfl (by decide) (by decide) (by decide) (Nat.le_of_ble_eq_true rfl) (by decide) (by decide) (fun r_2 w_3 h_1 => ?_)
  obtain ⟨rfl, rfl⟩ := h_1
  refine v_eq (st' := [.int (wV i v x 3)]) (ws' := [(bo, .inr (0, [.ref tr, .int (nI (n + (wL 3).length)), .int i, .int (nI k), .int v])), (tr, eI D 20 (trW f n (wL 3)))]) rfl rfl rfl rfl ?_
  refine v_aload_n O dX0_runs_255 0 rfl ?_
  refine gf_X0_25 O rfl dX0_runs_256 0 rfl rfl ?_
  refine v_ixor O dX0_runs_259 ?_
  exact v_ireturn O T rfl rfl (by decide) (by decide) dX0_runs_260 (⟨rfl, rfl⟩)
set_option maxRecDepth 100000 in
set_option maxHeartbeats 4000000 in
theorem sp_X0_does_W2 {D : G} {bo : Nat} {tr : Nat} {n : Nat} {i : Int32} {k : Nat} {v : Int32} {f : Nat → Int32} {x : Int32} {dp : Nat} (hk : k < 7) (hn : n ≤ 12) (hdp : dp ≤ 12) : Sp D mX0_does 3 0 0 [.ref bo, .int 0, .int x, .int 2, .int (nI dp)] [(bo, .inr (0, [.ref tr, .int (nI n), .int i, .int (nI k), .int v])), (tr, eI D 20 f)] (fun r w => r = some (.int (wV i v x 2)) ∧ w = [(bo, .inr (0, [.ref tr, .int (nI (n + (wL 2).length)), .int i, .int (nI k), .int v])), (tr, eI D 20 (trW f n (wL 2)))]) := by
  refine Sp.of (by decide) (Nat.le_of_ble_eq_true rfl) (fun X O T => ?_)
  refine v_eq (lv' := [(0, .ref bo), (1, .int 0), (2, .int x), (3, .int 2), (4, .int (nI dp))]) rfl rfl rfl rfl ?_
  refine v_iload_n O dX0_does_0 3 rfl ?_
  refine v_istore (lv' := [(0, .ref bo), (1, .int 0), (2, .int x), (3, .int 2), (4, .int (nI dp)), (5, .int 2)]) O dX0_does_1 (by decide) rfl ?_
  refine v_iconst (v := 0) O dX0_does_3 (by decide) ?_
  refine v_istore (lv' := [(0, .ref bo), (1, .int 0), (2, .int x), (3, .int 2), (4, .int (nI dp)), (5, .int 2), (6, .int 0)]) O dX0_does_4 (by decide) rfl ?_
  refine v_iload O dX0_does_6 6 rfl ?_
  refine v_iconst (v := 3) O dX0_does_8 (by decide) ?_
  refine v_icmp_ge O 34 dX0_does_9 (by decide) (fun c => absurd c (by decide)) (fun _ => ?_)
  refine v_iload O dX0_does_12 5 rfl ?_
  refine v_iload_n O dX0_does_14 1 rfl ?_
  refine v_cS (As := [.int 2, .int 0]) (wr := [(bo, .inr (0, [.ref tr, .int (nI n), .int i, .int (nI k), .int v])), (tr, eI D 20 f)]) (st := []) O cf_X0_36 (sp_X0_number (k := 2) (a := 0) (by decide) (by decide)) dX0_does_15 rfl rfl [] [0, 1] (by decide) rfl rfl (by decide) (by decide) (by decide) (Nat.le_of_ble_eq_true rfl) (by decide) (by decide) (fun r_3 w_4 h_2 => ?_)
  obtain ⟨rfl, rfl⟩ := h_2
  refine v_eq (st' := [.int (x_num (2 * 3 + 0))]) (ws' := [(bo, .inr (0, [.ref tr, .int (nI n), .int i, .int (nI k), .int v])), (tr, eI D 20 f)]) rfl rfl rfl rfl ?_
  refine v_top (y := 30) (by decide) ?_
  refine v_if_ne O 34 dX0_does_18 (by decide) (fun _ => ?_) (fun c => absurd c (by decide))
  refine v_iload O dX0_does_34 5 rfl ?_
  refine v_iload_n O dX0_does_36 1 rfl ?_
  refine v_cS (As := [.int 2, .int 0]) (wr := [(bo, .inr (0, [.ref tr, .int (nI n), .int i, .int (nI k), .int v])), (tr, eI D 20 f)]) (st := []) O cf_X0_36 (sp_X0_number (k := 2) (a := 0) (by decide) (by decide)) dX0_does_37 rfl rfl [] [0, 1] (by decide) rfl rfl (by decide) (by decide) (by decide) (Nat.le_of_ble_eq_true rfl) (by decide) (by decide) (fun r_7 w_8 h_6 => ?_)
  obtain ⟨rfl, rfl⟩ := h_6
  refine v_eq (st' := [.int (x_num (2 * 3 + 0))]) (ws' := [(bo, .inr (0, [.ref tr, .int (nI n), .int i, .int (nI k), .int v])), (tr, eI D 20 f)]) rfl rfl rfl rfl ?_
  refine v_top (y := 30) (by decide) ?_
  refine v_istore (lv' := [(0, .ref bo), (1, .int 0), (2, .int x), (3, .int 2), (4, .int (nI dp)), (5, .int 2), (6, .int 30)]) O dX0_does_40 (by decide) rfl ?_
  refine v_iload O dX0_does_42 6 rfl ?_
  refine v_if_eq O 54 dX0_does_44 (by decide) (fun c => absurd c (by decide)) (fun _ => ?_)
  refine v_iload O dX0_does_47 4 rfl ?_
  refine v_bipush (v := 30) O dX0_does_49 (by decide) ?_
  refine v_icmp_le O 56 dX0_does_51 (by decide) (fun z1 => ?_) (fun z1 => ?_)
  · skip
    have z1 := (c_le (x := nI dp) (y := 30) (a := dp) (b := 30) rfl rfl (by omega) (by omega)).mp z1
    refine v_aload_n O dX0_does_56 0 rfl ?_
    refine v_iload O dX0_does_57 6 rfl ?_
    refine v_cV (T := TX0) (ci := 0) (As := [.int 30]) (wr := []) (st := []) O cf_X0_44 rfl (sp_X0_begins (bo := bo) (tr := tr) (n := n) (i := i) (k := k) (v := v) (f := f) (b := 30) (by omega)) dX0_does_59 rfl rfl 0 rfl [0, 1] [] (by decide) rfl rfl (by decide) (by decide) (by decide) (Nat.le_of_ble_eq_true rfl) (by decide) (by decide) (fun r_11 w_12 h_10 => ?_)
    obtain ⟨rfl, rfl⟩ := h_10
    refine v_eq (st' := []) (ws' := [(bo, .inr (0, [.ref tr, .int (nI (n + 1)), .int i, .int (nI k), .int v])), (tr, eI D 20 (upd f n 30))]) rfl rfl rfl rfl ?_
    refine v_aload_n O dX0_does_62 0 rfl ?_
    refine v_iload O dX0_does_63 6 rfl ?_
    refine v_iload_n O dX0_does_65 2 rfl ?_
    refine v_iload O dX0_does_66 5 rfl ?_
    refine v_cSN (As := [.int 2]) (wr := [(bo, .inr (0, [.ref tr, .int (nI (n + 1)), .int i, .int (nI k), .int v])), (tr, eI D 20 (upd f n 30))]) (st := [.int x, .int 30, .ref bo]) O cf_X0_40 (sp_X9_aboveOf (k := 2) (by decide)) dX0_does_68 rfl rfl [] [0, 1] (by decide) rfl rfl (by decide) (by decide) (by decide) (Nat.le_of_ble_eq_true rfl) (by decide) (by decide) (fun r_14 w_15 h_13 => ?_)
    obtain ⟨rfl, rfl⟩ := h_13
    refine v_eq (st' := [.int (x_abv 2), .int x, .int 30, .ref bo]) (ws' := [(bo, .inr (0, [.ref tr, .int (nI (n + 1)), .int i, .int (nI k), .int v])), (tr, eI D 20 (upd f n 30))]) rfl rfl rfl rfl ?_
    refine v_top (y := 0) (by decide) ?_
    refine v_iload O dX0_does_71 4 rfl ?_
    refine v_iconst (v := 1) O dX0_does_73 (by decide) ?_
    refine v_iadd O dX0_does_74 ?_
    refine v_top (y := nI (dp + 1)) (nI_add dp 1) ?_
    refine v_cV (T := TX0) (ci := 0) (As := [.int 30, .int x, .int 0, .int (nI (dp + 1))]) (wr := []) (st := []) O cf_X0_48 rfl (sp_X0_runs_30 (bo := bo) (tr := tr) (n := (n + 1)) (i := i) (k := k) (v := v) (f := (upd f n 30)) (x := x) (dp := (dp + 1)) (hk) (by omega) (by omega)) dX0_does_75 rfl rfl 0 rfl [0, 1] [] (by decide) rfl rfl (by decide) (by decide) (by decide) (Nat.le_of_ble_eq_true rfl) (by decide) (by decide) (fun r_17 w_18 h_16 => ?_)
    obtain ⟨rfl, rfl⟩ := h_16
    refine v_eq (st' := [.int (wV i v (x * 3) 0)]) (ws' := [(bo, .inr (0, [.ref tr, .int (nI ((n + 1) + (wL 0).length)), .int i, .int (nI k), .int v])), (tr, eI D 20 (trW (upd f n 30) (n + 1) (wL 0)))]) rfl rfl rfl rfl ?_
    exact v_ireturn O T rfl rfl (by decide) (by decide) dX0_does_78 (⟨rfl, by rw [show n + (wL 2).length = n + 1 + (wL 0).length from by rw [show (wL 2).length = (wL 0).length + 1 from rfl]; omega]; rfl⟩)
  · skip
    have z1 := (not_congr (c_le (x := nI dp) (y := 30) (a := dp) (b := 30) rfl rfl (by omega) (by omega))).mp z1
    exact absurd z1 (by omega)
set_option maxRecDepth 100000 in
set_option maxHeartbeats 4000000 in
theorem sp_X0_does_W4 {D : G} {bo : Nat} {tr : Nat} {n : Nat} {i : Int32} {k : Nat} {v : Int32} {f : Nat → Int32} {x : Int32} {dp : Nat} (hk : k < 7) (hn : n ≤ 12) (hdp : dp ≤ 12) : Sp D mX0_does 3 0 0 [.ref bo, .int 0, .int x, .int 4, .int (nI dp)] [(bo, .inr (0, [.ref tr, .int (nI n), .int i, .int (nI k), .int v])), (tr, eI D 20 f)] (fun r w => r = some (.int (wV i v x 4)) ∧ w = [(bo, .inr (0, [.ref tr, .int (nI (n + (wL 4).length)), .int i, .int (nI k), .int v])), (tr, eI D 20 (trW f n (wL 4)))]) := by
  refine Sp.of (by decide) (Nat.le_of_ble_eq_true rfl) (fun X O T => ?_)
  refine v_eq (lv' := [(0, .ref bo), (1, .int 0), (2, .int x), (3, .int 4), (4, .int (nI dp))]) rfl rfl rfl rfl ?_
  refine v_iload_n O dX0_does_0 3 rfl ?_
  refine v_istore (lv' := [(0, .ref bo), (1, .int 0), (2, .int x), (3, .int 4), (4, .int (nI dp)), (5, .int 4)]) O dX0_does_1 (by decide) rfl ?_
  refine v_iconst (v := 0) O dX0_does_3 (by decide) ?_
  refine v_istore (lv' := [(0, .ref bo), (1, .int 0), (2, .int x), (3, .int 4), (4, .int (nI dp)), (5, .int 4), (6, .int 0)]) O dX0_does_4 (by decide) rfl ?_
  refine v_iload O dX0_does_6 6 rfl ?_
  refine v_iconst (v := 3) O dX0_does_8 (by decide) ?_
  refine v_icmp_ge O 34 dX0_does_9 (by decide) (fun c => absurd c (by decide)) (fun _ => ?_)
  refine v_iload O dX0_does_12 5 rfl ?_
  refine v_iload_n O dX0_does_14 1 rfl ?_
  refine v_cS (As := [.int 4, .int 0]) (wr := [(bo, .inr (0, [.ref tr, .int (nI n), .int i, .int (nI k), .int v])), (tr, eI D 20 f)]) (st := []) O cf_X0_36 (sp_X0_number (k := 4) (a := 0) (by decide) (by decide)) dX0_does_15 rfl rfl [] [0, 1] (by decide) rfl rfl (by decide) (by decide) (by decide) (Nat.le_of_ble_eq_true rfl) (by decide) (by decide) (fun r_3 w_4 h_2 => ?_)
  obtain ⟨rfl, rfl⟩ := h_2
  refine v_eq (st' := [.int (x_num (4 * 3 + 0))]) (ws' := [(bo, .inr (0, [.ref tr, .int (nI n), .int i, .int (nI k), .int v])), (tr, eI D 20 f)]) rfl rfl rfl rfl ?_
  refine v_top (y := 50) (by decide) ?_
  refine v_if_ne O 34 dX0_does_18 (by decide) (fun _ => ?_) (fun c => absurd c (by decide))
  refine v_iload O dX0_does_34 5 rfl ?_
  refine v_iload_n O dX0_does_36 1 rfl ?_
  refine v_cS (As := [.int 4, .int 0]) (wr := [(bo, .inr (0, [.ref tr, .int (nI n), .int i, .int (nI k), .int v])), (tr, eI D 20 f)]) (st := []) O cf_X0_36 (sp_X0_number (k := 4) (a := 0) (by decide) (by decide)) dX0_does_37 rfl rfl [] [0, 1] (by decide) rfl rfl (by decide) (by decide) (by decide) (Nat.le_of_ble_eq_true rfl) (by decide) (by decide) (fun r_7 w_8 h_6 => ?_)
  obtain ⟨rfl, rfl⟩ := h_6
  refine v_eq (st' := [.int (x_num (4 * 3 + 0))]) (ws' := [(bo, .inr (0, [.ref tr, .int (nI n), .int i, .int (nI k), .int v])), (tr, eI D 20 f)]) rfl rfl rfl rfl ?_
  refine v_top (y := 50) (by decide) ?_
  refine v_istore (lv' := [(0, .ref bo), (1, .int 0), (2, .int x), (3, .int 4), (4, .int (nI dp)), (5, .int 4), (6, .int 50)]) O dX0_does_40 (by decide) rfl ?_
  refine v_iload O dX0_does_42 6 rfl ?_
  refine v_if_eq O 54 dX0_does_44 (by decide) (fun c => absurd c (by decide)) (fun _ => ?_)
  refine v_iload O dX0_does_47 4 rfl ?_
  refine v_bipush (v := 30) O dX0_does_49 (by decide) ?_
  refine v_icmp_le O 56 dX0_does_51 (by decide) (fun z1 => ?_) (fun z1 => ?_)
  · skip
    have z1 := (c_le (x := nI dp) (y := 30) (a := dp) (b := 30) rfl rfl (by omega) (by omega)).mp z1
    refine v_aload_n O dX0_does_56 0 rfl ?_
    refine v_iload O dX0_does_57 6 rfl ?_
    refine v_cV (T := TX0) (ci := 0) (As := [.int 50]) (wr := []) (st := []) O cf_X0_44 rfl (sp_X0_begins (bo := bo) (tr := tr) (n := n) (i := i) (k := k) (v := v) (f := f) (b := 50) (by omega)) dX0_does_59 rfl rfl 0 rfl [0, 1] [] (by decide) rfl rfl (by decide) (by decide) (by decide) (Nat.le_of_ble_eq_true rfl) (by decide) (by decide) (fun r_11 w_12 h_10 => ?_)
    obtain ⟨rfl, rfl⟩ := h_10
    refine v_eq (st' := []) (ws' := [(bo, .inr (0, [.ref tr, .int (nI (n + 1)), .int i, .int (nI k), .int v])), (tr, eI D 20 (upd f n 50))]) rfl rfl rfl rfl ?_
    refine v_aload_n O dX0_does_62 0 rfl ?_
    refine v_iload O dX0_does_63 6 rfl ?_
    refine v_iload_n O dX0_does_65 2 rfl ?_
    refine v_iload O dX0_does_66 5 rfl ?_
    refine v_cSN (As := [.int 4]) (wr := [(bo, .inr (0, [.ref tr, .int (nI (n + 1)), .int i, .int (nI k), .int v])), (tr, eI D 20 (upd f n 50))]) (st := [.int x, .int 50, .ref bo]) O cf_X0_40 (sp_X9_aboveOf (k := 4) (by decide)) dX0_does_68 rfl rfl [] [0, 1] (by decide) rfl rfl (by decide) (by decide) (by decide) (Nat.le_of_ble_eq_true rfl) (by decide) (by decide) (fun r_14 w_15 h_13 => ?_)
    obtain ⟨rfl, rfl⟩ := h_13
    refine v_eq (st' := [.int (x_abv 4), .int x, .int 50, .ref bo]) (ws' := [(bo, .inr (0, [.ref tr, .int (nI (n + 1)), .int i, .int (nI k), .int v])), (tr, eI D 20 (upd f n 50))]) rfl rfl rfl rfl ?_
    refine v_top (y := 1) (by decide) ?_
    refine v_iload O dX0_does_71 4 rfl ?_
    refine v_iconst (v := 1) O dX0_does_73 (by decide) ?_
    refine v_iadd O dX0_does_74 ?_
    refine v_top (y := nI (dp + 1)) (nI_add dp 1) ?_
    refine v_cV (T := TX0) (ci := 0) (As := [.int 50, .int x, .int 1, .int (nI (dp + 1))]) (wr := []) (st := []) O cf_X0_48 rfl (sp_X0_runs_50 (bo := bo) (tr := tr) (n := (n + 1)) (i := i) (k := k) (v := v) (f := (upd f n 50)) (x := x) (dp := (dp + 1)) (hk) (by omega) (by omega)) dX0_does_75 rfl rfl 0 rfl [0, 1] [] (by decide) rfl rfl (by decide) (by decide) (by decide) (Nat.le_of_ble_eq_true rfl) (by decide) (by decide) (fun r_17 w_18 h_16 => ?_)
    obtain ⟨rfl, rfl⟩ := h_16
    refine v_eq (st' := [.int (-(wV i v x 1))]) (ws' := [(bo, .inr (0, [.ref tr, .int (nI ((n + 1) + (wL 1).length)), .int i, .int (nI k), .int v])), (tr, eI D 20 (trW (upd f n 50) (n + 1) (wL 1)))]) rfl rfl rfl rfl ?_
    exact v_ireturn O T rfl rfl (by decide) (by decide) dX0_does_78 (⟨rfl, by rw [show n + (wL 4).length = n + 1 + (wL 1).length from by rw [show (wL 4).length = (wL 1).length + 1 from rfl]; omega]; rfl⟩)
  · skip
    have z1 := (not_congr (c_le (x := nI dp) (y := 30) (a := dp) (b := 30) rfl rfl (by omega) (by omega))).mp z1
    exact absurd z1 (by omega)
set_option maxRecDepth 100000 in
set_option maxHeartbeats 4000000 in
theorem sp_X0_does_W5 {D : G} {bo : Nat} {tr : Nat} {n : Nat} {i : Int32} {k : Nat} {v : Int32} {f : Nat → Int32} {x : Int32} {dp : Nat} (hk : k < 7) (hn : n ≤ 12) (hdp : dp ≤ 12) : Sp D mX0_does 3 0 0 [.ref bo, .int 0, .int x, .int 5, .int (nI dp)] [(bo, .inr (0, [.ref tr, .int (nI n), .int i, .int (nI k), .int v])), (tr, eI D 20 f)] (fun r w => r = some (.int (wV i v x 5)) ∧ w = [(bo, .inr (0, [.ref tr, .int (nI (n + (wL 5).length)), .int i, .int (nI k), .int v])), (tr, eI D 20 (trW f n (wL 5)))]) := by
  refine Sp.of (by decide) (Nat.le_of_ble_eq_true rfl) (fun X O T => ?_)
  refine v_eq (lv' := [(0, .ref bo), (1, .int 0), (2, .int x), (3, .int 5), (4, .int (nI dp))]) rfl rfl rfl rfl ?_
  refine v_iload_n O dX0_does_0 3 rfl ?_
  refine v_istore (lv' := [(0, .ref bo), (1, .int 0), (2, .int x), (3, .int 5), (4, .int (nI dp)), (5, .int 5)]) O dX0_does_1 (by decide) rfl ?_
  refine v_iconst (v := 0) O dX0_does_3 (by decide) ?_
  refine v_istore (lv' := [(0, .ref bo), (1, .int 0), (2, .int x), (3, .int 5), (4, .int (nI dp)), (5, .int 5), (6, .int 0)]) O dX0_does_4 (by decide) rfl ?_
  refine v_iload O dX0_does_6 6 rfl ?_
  refine v_iconst (v := 3) O dX0_does_8 (by decide) ?_
  refine v_icmp_ge O 34 dX0_does_9 (by decide) (fun c => absurd c (by decide)) (fun _ => ?_)
  refine v_iload O dX0_does_12 5 rfl ?_
  refine v_iload_n O dX0_does_14 1 rfl ?_
  refine v_cS (As := [.int 5, .int 0]) (wr := [(bo, .inr (0, [.ref tr, .int (nI n), .int i, .int (nI k), .int v])), (tr, eI D 20 f)]) (st := []) O cf_X0_36 (sp_X0_number (k := 5) (a := 0) (by decide) (by decide)) dX0_does_15 rfl rfl [] [0, 1] (by decide) rfl rfl (by decide) (by decide) (by decide) (Nat.le_of_ble_eq_true rfl) (by decide) (by decide) (fun r_3 w_4 h_2 => ?_)
  obtain ⟨rfl, rfl⟩ := h_2
  refine v_eq (st' := [.int (x_num (5 * 3 + 0))]) (ws' := [(bo, .inr (0, [.ref tr, .int (nI n), .int i, .int (nI k), .int v])), (tr, eI D 20 f)]) rfl rfl rfl rfl ?_
  refine v_top (y := 0) (by decide) ?_
  refine v_if_ne O 34 dX0_does_18 (by decide) (fun c => absurd c (by decide)) (fun _ => ?_)
  refine v_iload O dX0_does_21 5 rfl ?_
  refine v_cSN (As := [.int 5]) (wr := [(bo, .inr (0, [.ref tr, .int (nI n), .int i, .int (nI k), .int v])), (tr, eI D 20 f)]) (st := []) O cf_X0_40 (sp_X9_aboveOf (k := 5) (by decide)) dX0_does_23 rfl rfl [] [0, 1] (by decide) rfl rfl (by decide) (by decide) (by decide) (Nat.le_of_ble_eq_true rfl) (by decide) (by decide) (fun r_7 w_8 h_6 => ?_)
  obtain ⟨rfl, rfl⟩ := h_6
  refine v_eq (st' := [.int (x_abv 5)]) (ws' := [(bo, .inr (0, [.ref tr, .int (nI n), .int i, .int (nI k), .int v])), (tr, eI D 20 f)]) rfl rfl rfl rfl ?_
  refine v_top (y := 2) (by decide) ?_
  refine v_istore (lv' := [(0, .ref bo), (1, .int 0), (2, .int x), (3, .int 5), (4, .int (nI dp)), (5, .int 2), (6, .int 0)]) O dX0_does_26 (by decide) rfl ?_
  refine v_iinc (v := 1) (lv' := [(0, .ref bo), (1, .int 0), (2, .int x), (3, .int 5), (4, .int (nI dp)), (5, .int 2), (6, .int 1)]) O dX0_does_28 6 rfl (by decide) (by decide) rfl ?_
  refine v_goto O 6 dX0_does_31 (by decide) ?_
  refine v_iload O dX0_does_6 6 rfl ?_
  refine v_iconst (v := 3) O dX0_does_8 (by decide) ?_
  refine v_icmp_ge O 34 dX0_does_9 (by decide) (fun c => absurd c (by decide)) (fun _ => ?_)
  refine v_iload O dX0_does_12 5 rfl ?_
  refine v_iload_n O dX0_does_14 1 rfl ?_
  refine v_cS (As := [.int 2, .int 0]) (wr := [(bo, .inr (0, [.ref tr, .int (nI n), .int i, .int (nI k), .int v])), (tr, eI D 20 f)]) (st := []) O cf_X0_36 (sp_X0_number (k := 2) (a := 0) (by decide) (by decide)) dX0_does_15 rfl rfl [] [0, 1] (by decide) rfl rfl (by decide) (by decide) (by decide) (Nat.le_of_ble_eq_true rfl) (by decide) (by decide) (fun r_11 w_12 h_10 => ?_)
  obtain ⟨rfl, rfl⟩ := h_10
  refine v_eq (st' := [.int (x_num (2 * 3 + 0))]) (ws' := [(bo, .inr (0, [.ref tr, .int (nI n), .int i, .int (nI k), .int v])), (tr, eI D 20 f)]) rfl rfl rfl rfl ?_
  refine v_top (y := 30) (by decide) ?_
  refine v_if_ne O 34 dX0_does_18 (by decide) (fun _ => ?_) (fun c => absurd c (by decide))
  refine v_iload O dX0_does_34 5 rfl ?_
  refine v_iload_n O dX0_does_36 1 rfl ?_
  refine v_cS (As := [.int 2, .int 0]) (wr := [(bo, .inr (0, [.ref tr, .int (nI n), .int i, .int (nI k), .int v])), (tr, eI D 20 f)]) (st := []) O cf_X0_36 (sp_X0_number (k := 2) (a := 0) (by decide) (by decide)) dX0_does_37 rfl rfl [] [0, 1] (by decide) rfl rfl (by decide) (by decide) (by decide) (Nat.le_of_ble_eq_true rfl) (by decide) (by decide) (fun r_15 w_16 h_14 => ?_)
  obtain ⟨rfl, rfl⟩ := h_14
  refine v_eq (st' := [.int (x_num (2 * 3 + 0))]) (ws' := [(bo, .inr (0, [.ref tr, .int (nI n), .int i, .int (nI k), .int v])), (tr, eI D 20 f)]) rfl rfl rfl rfl ?_
  refine v_top (y := 30) (by decide) ?_
  refine v_istore (lv' := [(0, .ref bo), (1, .int 0), (2, .int x), (3, .int 5), (4, .int (nI dp)), (5, .int 2), (6, .int 30)]) O dX0_does_40 (by decide) rfl ?_
  refine v_iload O dX0_does_42 6 rfl ?_
  refine v_if_eq O 54 dX0_does_44 (by decide) (fun c => absurd c (by decide)) (fun _ => ?_)
  refine v_iload O dX0_does_47 4 rfl ?_
  refine v_bipush (v := 30) O dX0_does_49 (by decide) ?_
  refine v_icmp_le O 56 dX0_does_51 (by decide) (fun z1 => ?_) (fun z1 => ?_)
  · skip
    have z1 := (c_le (x := nI dp) (y := 30) (a := dp) (b := 30) rfl rfl (by omega) (by omega)).mp z1
    refine v_aload_n O dX0_does_56 0 rfl ?_
    refine v_iload O dX0_does_57 6 rfl ?_
    refine v_cV (T := TX0) (ci := 0) (As := [.int 30]) (wr := []) (st := []) O cf_X0_44 rfl (sp_X0_begins (bo := bo) (tr := tr) (n := n) (i := i) (k := k) (v := v) (f := f) (b := 30) (by omega)) dX0_does_59 rfl rfl 0 rfl [0, 1] [] (by decide) rfl rfl (by decide) (by decide) (by decide) (Nat.le_of_ble_eq_true rfl) (by decide) (by decide) (fun r_19 w_20 h_18 => ?_)
    obtain ⟨rfl, rfl⟩ := h_18
    refine v_eq (st' := []) (ws' := [(bo, .inr (0, [.ref tr, .int (nI (n + 1)), .int i, .int (nI k), .int v])), (tr, eI D 20 (upd f n 30))]) rfl rfl rfl rfl ?_
    refine v_aload_n O dX0_does_62 0 rfl ?_
    refine v_iload O dX0_does_63 6 rfl ?_
    refine v_iload_n O dX0_does_65 2 rfl ?_
    refine v_iload O dX0_does_66 5 rfl ?_
    refine v_cSN (As := [.int 2]) (wr := [(bo, .inr (0, [.ref tr, .int (nI (n + 1)), .int i, .int (nI k), .int v])), (tr, eI D 20 (upd f n 30))]) (st := [.int x, .int 30, .ref bo]) O cf_X0_40 (sp_X9_aboveOf (k := 2) (by decide)) dX0_does_68 rfl rfl [] [0, 1] (by decide) rfl rfl (by decide) (by decide) (by decide) (Nat.le_of_ble_eq_true rfl) (by decide) (by decide) (fun r_22 w_23 h_21 => ?_)
    obtain ⟨rfl, rfl⟩ := h_21
    refine v_eq (st' := [.int (x_abv 2), .int x, .int 30, .ref bo]) (ws' := [(bo, .inr (0, [.ref tr, .int (nI (n + 1)), .int i, .int (nI k), .int v])), (tr, eI D 20 (upd f n 30))]) rfl rfl rfl rfl ?_
    refine v_top (y := 0) (by decide) ?_
    refine v_iload O dX0_does_71 4 rfl ?_
    refine v_iconst (v := 1) O dX0_does_73 (by decide) ?_
    refine v_iadd O dX0_does_74 ?_
    refine v_top (y := nI (dp + 1)) (nI_add dp 1) ?_
    refine v_cV (T := TX0) (ci := 0) (As := [.int 30, .int x, .int 0, .int (nI (dp + 1))]) (wr := []) (st := []) O cf_X0_48 rfl (sp_X0_runs_30 (bo := bo) (tr := tr) (n := (n + 1)) (i := i) (k := k) (v := v) (f := (upd f n 30)) (x := x) (dp := (dp + 1)) (hk) (by omega) (by omega)) dX0_does_75 rfl rfl 0 rfl [0, 1] [] (by decide) rfl rfl (by decide) (by decide) (by decide) (Nat.le_of_ble_eq_true rfl) (by decide) (by decide) (fun r_25 w_26 h_24 => ?_)
    obtain ⟨rfl, rfl⟩ := h_24
    refine v_eq (st' := [.int (wV i v (x * 3) 0)]) (ws' := [(bo, .inr (0, [.ref tr, .int (nI ((n + 1) + (wL 0).length)), .int i, .int (nI k), .int v])), (tr, eI D 20 (trW (upd f n 30) (n + 1) (wL 0)))]) rfl rfl rfl rfl ?_
    exact v_ireturn O T rfl rfl (by decide) (by decide) dX0_does_78 (⟨rfl, by rw [show n + (wL 5).length = n + 1 + (wL 0).length from by rw [show (wL 5).length = (wL 0).length + 1 from rfl]; omega]; rfl⟩)
  · skip
    have z1 := (not_congr (c_le (x := nI dp) (y := 30) (a := dp) (b := 30) rfl rfl (by omega) (by omega))).mp z1
    exact absurd z1 (by omega)
set_option maxRecDepth 100000 in
set_option maxHeartbeats 4000000 in
theorem sp_X0_does_W6 {D : G} {bo : Nat} {tr : Nat} {n : Nat} {i : Int32} {k : Nat} {v : Int32} {f : Nat → Int32} {x : Int32} {dp : Nat} (hk : k < 7) (hn : n ≤ 12) (hdp : dp ≤ 12) : Sp D mX0_does 3 0 0 [.ref bo, .int 0, .int x, .int 6, .int (nI dp)] [(bo, .inr (0, [.ref tr, .int (nI n), .int i, .int (nI k), .int v])), (tr, eI D 20 f)] (fun r w => r = some (.int (wV i v x 6)) ∧ w = [(bo, .inr (0, [.ref tr, .int (nI (n + (wL 6).length)), .int i, .int (nI k), .int v])), (tr, eI D 20 (trW f n (wL 6)))]) := by
  refine Sp.of (by decide) (Nat.le_of_ble_eq_true rfl) (fun X O T => ?_)
  refine v_eq (lv' := [(0, .ref bo), (1, .int 0), (2, .int x), (3, .int 6), (4, .int (nI dp))]) rfl rfl rfl rfl ?_
  refine v_iload_n O dX0_does_0 3 rfl ?_
  refine v_istore (lv' := [(0, .ref bo), (1, .int 0), (2, .int x), (3, .int 6), (4, .int (nI dp)), (5, .int 6)]) O dX0_does_1 (by decide) rfl ?_
  refine v_iconst (v := 0) O dX0_does_3 (by decide) ?_
  refine v_istore (lv' := [(0, .ref bo), (1, .int 0), (2, .int x), (3, .int 6), (4, .int (nI dp)), (5, .int 6), (6, .int 0)]) O dX0_does_4 (by decide) rfl ?_
  refine v_iload O dX0_does_6 6 rfl ?_
  refine v_iconst (v := 3) O dX0_does_8 (by decide) ?_
  refine v_icmp_ge O 34 dX0_does_9 (by decide) (fun c => absurd c (by decide)) (fun _ => ?_)
  refine v_iload O dX0_does_12 5 rfl ?_
  refine v_iload_n O dX0_does_14 1 rfl ?_
  refine v_cS (As := [.int 6, .int 0]) (wr := [(bo, .inr (0, [.ref tr, .int (nI n), .int i, .int (nI k), .int v])), (tr, eI D 20 f)]) (st := []) O cf_X0_36 (sp_X0_number (k := 6) (a := 0) (by decide) (by decide)) dX0_does_15 rfl rfl [] [0, 1] (by decide) rfl rfl (by decide) (by decide) (by decide) (Nat.le_of_ble_eq_true rfl) (by decide) (by decide) (fun r_3 w_4 h_2 => ?_)
  obtain ⟨rfl, rfl⟩ := h_2
  refine v_eq (st' := [.int (x_num (6 * 3 + 0))]) (ws' := [(bo, .inr (0, [.ref tr, .int (nI n), .int i, .int (nI k), .int v])), (tr, eI D 20 f)]) rfl rfl rfl rfl ?_
  refine v_top (y := 71) (by decide) ?_
  refine v_if_ne O 34 dX0_does_18 (by decide) (fun _ => ?_) (fun c => absurd c (by decide))
  refine v_iload O dX0_does_34 5 rfl ?_
  refine v_iload_n O dX0_does_36 1 rfl ?_
  refine v_cS (As := [.int 6, .int 0]) (wr := [(bo, .inr (0, [.ref tr, .int (nI n), .int i, .int (nI k), .int v])), (tr, eI D 20 f)]) (st := []) O cf_X0_36 (sp_X0_number (k := 6) (a := 0) (by decide) (by decide)) dX0_does_37 rfl rfl [] [0, 1] (by decide) rfl rfl (by decide) (by decide) (by decide) (Nat.le_of_ble_eq_true rfl) (by decide) (by decide) (fun r_7 w_8 h_6 => ?_)
  obtain ⟨rfl, rfl⟩ := h_6
  refine v_eq (st' := [.int (x_num (6 * 3 + 0))]) (ws' := [(bo, .inr (0, [.ref tr, .int (nI n), .int i, .int (nI k), .int v])), (tr, eI D 20 f)]) rfl rfl rfl rfl ?_
  refine v_top (y := 71) (by decide) ?_
  refine v_istore (lv' := [(0, .ref bo), (1, .int 0), (2, .int x), (3, .int 6), (4, .int (nI dp)), (5, .int 6), (6, .int 71)]) O dX0_does_40 (by decide) rfl ?_
  refine v_iload O dX0_does_42 6 rfl ?_
  refine v_if_eq O 54 dX0_does_44 (by decide) (fun c => absurd c (by decide)) (fun _ => ?_)
  refine v_iload O dX0_does_47 4 rfl ?_
  refine v_bipush (v := 30) O dX0_does_49 (by decide) ?_
  refine v_icmp_le O 56 dX0_does_51 (by decide) (fun z1 => ?_) (fun z1 => ?_)
  · skip
    have z1 := (c_le (x := nI dp) (y := 30) (a := dp) (b := 30) rfl rfl (by omega) (by omega)).mp z1
    refine v_aload_n O dX0_does_56 0 rfl ?_
    refine v_iload O dX0_does_57 6 rfl ?_
    refine v_cV (T := TX0) (ci := 0) (As := [.int 71]) (wr := []) (st := []) O cf_X0_44 rfl (sp_X0_begins (bo := bo) (tr := tr) (n := n) (i := i) (k := k) (v := v) (f := f) (b := 71) (by omega)) dX0_does_59 rfl rfl 0 rfl [0, 1] [] (by decide) rfl rfl (by decide) (by decide) (by decide) (Nat.le_of_ble_eq_true rfl) (by decide) (by decide) (fun r_11 w_12 h_10 => ?_)
    obtain ⟨rfl, rfl⟩ := h_10
    refine v_eq (st' := []) (ws' := [(bo, .inr (0, [.ref tr, .int (nI (n + 1)), .int i, .int (nI k), .int v])), (tr, eI D 20 (upd f n 71))]) rfl rfl rfl rfl ?_
    refine v_aload_n O dX0_does_62 0 rfl ?_
    refine v_iload O dX0_does_63 6 rfl ?_
    refine v_iload_n O dX0_does_65 2 rfl ?_
    refine v_iload O dX0_does_66 5 rfl ?_
    refine v_cSN (As := [.int 6]) (wr := [(bo, .inr (0, [.ref tr, .int (nI (n + 1)), .int i, .int (nI k), .int v])), (tr, eI D 20 (upd f n 71))]) (st := [.int x, .int 71, .ref bo]) O cf_X0_40 (sp_X9_aboveOf (k := 6) (by decide)) dX0_does_68 rfl rfl [] [0, 1] (by decide) rfl rfl (by decide) (by decide) (by decide) (Nat.le_of_ble_eq_true rfl) (by decide) (by decide) (fun r_14 w_15 h_13 => ?_)
    obtain ⟨rfl, rfl⟩ := h_13
    refine v_eq (st' := [.int (x_abv 6), .int x, .int 71, .ref bo]) (ws' := [(bo, .inr (0, [.ref tr, .int (nI (n + 1)), .int i, .int (nI k), .int v])), (tr, eI D 20 (upd f n 71))]) rfl rfl rfl rfl ?_
    refine v_top (y := 3) (by decide) ?_
    refine v_iload O dX0_does_71 4 rfl ?_
    refine v_iconst (v := 1) O dX0_does_73 (by decide) ?_
    refine v_iadd O dX0_does_74 ?_
    refine v_top (y := nI (dp + 1)) (nI_add dp 1) ?_
    refine v_cV (T := TX0) (ci := 0) (As := [.int 71, .int x, .int 3, .int (nI (dp + 1))]) (wr := []) (st := []) O cf_X0_48 rfl (sp_X0_runs_71 (bo := bo) (tr := tr) (n := (n + 1)) (i := i) (k := k) (v := v) (f := (upd f n 71)) (x := x) (dp := (dp + 1)) (hk) (by omega) (by omega)) dX0_does_75 rfl rfl 0 rfl [0, 1] [] (by decide) rfl rfl (by decide) (by decide) (by decide) (Nat.le_of_ble_eq_true rfl) (by decide) (by decide) (fun r_17 w_18 h_16 => ?_)
    obtain ⟨rfl, rfl⟩ := h_16
    refine v_eq (st' := [.int (wV i v x 3 ^^^ v)]) (ws' := [(bo, .inr (0, [.ref tr, .int (nI ((n + 1) + (wL 3).length)), .int i, .int (nI k), .int v])), (tr, eI D 20 (trW (upd f n 71) (n + 1) (wL 3)))]) rfl rfl rfl rfl ?_
    exact v_ireturn O T rfl rfl (by decide) (by decide) dX0_does_78 (⟨rfl, by rw [show n + (wL 6).length = n + 1 + (wL 3).length from by rw [show (wL 6).length = (wL 3).length + 1 from rfl]; omega]; rfl⟩)
  · skip
    have z1 := (not_congr (c_le (x := nI dp) (y := 30) (a := dp) (b := 30) rfl rfl (by omega) (by omega))).mp z1
    exact absurd z1 (by omega)
theorem sp_X0_does_Wk {D : G} {bo : Nat} {tr : Nat} {n : Nat} {i : Int32} {k : Nat} {v : Int32} {f : Nat → Int32} {x : Int32} {dp : Nat} (hk : k < 7) (hn : n ≤ 12) (hdp : dp ≤ 12) : Sp D mX0_does 3 0 0 [.ref bo, .int 0, .int x, .int (nI k), .int (nI dp)] [(bo, .inr (0, [.ref tr, .int (nI n), .int i, .int (nI k), .int v])), (tr, eI D 20 f)] (fun r w => r = some (.int (wV i v x k)) ∧ w = [(bo, .inr (0, [.ref tr, .int (nI (n + (wL k).length)), .int i, .int (nI k), .int v])), (tr, eI D 20 (trW f n (wL k)))]) := by
  rcases (show k = 0 ∨ k = 1 ∨ k = 2 ∨ k = 3 ∨ k = 4 ∨ k = 5 ∨ k = 6 by omega) with rfl | rfl | rfl | rfl | rfl | rfl | rfl
  · exact Sp.up (sp_X0_does_W0 (by omega) (by omega) (by omega)) (by decide)
  · exact Sp.up (sp_X0_does_W1 (by omega) (by omega) (by omega)) (by decide)
  · exact Sp.up (sp_X0_does_W2 (by omega) (by omega) (by omega)) (by decide)
  · exact Sp.up (sp_X0_does_W3 (by omega) (by omega) (by omega)) (by decide)
  · exact Sp.up (sp_X0_does_W4 (by omega) (by omega) (by omega)) (by decide)
  · exact Sp.up (sp_X0_does_W5 (by omega) (by omega) (by omega)) (by decide)
  · exact Sp.up (sp_X0_does_W6 (by omega) (by omega) (by omega)) (by decide)
set_option maxRecDepth 100000 in
set_option maxHeartbeats 4000000 in
theorem sp_X0_runs_11 {D : G} {bo : Nat} {tr : Nat} {n : Nat} {i : Int32} {k : Nat} {v : Int32} {f : Nat → Int32} {x : Int32} {dp : Nat} (hk : k < 7) (hn : n ≤ 10) (hdp : dp ≤ 10) : Sp D mX0_runs 4 0 0 [.ref bo, .int 11, .int x, .int (-1), .int (nI dp)] [(bo, .inr (0, [.ref tr, .int (nI n), .int i, .int (nI k), .int v])), (tr, eI D 20 f)] (fun r w => r = some (.int (wV i v x k - v)) ∧ w = [(bo, .inr (0, [.ref tr, .int (nI (n + (wL k).length)), .int i, .int (nI k), .int v])), (tr, eI D 20 (trW f n (wL k)))]) := by
  refine Sp.of (by decide) (Nat.le_of_ble_eq_true rfl) (fun X O T => ?_)
  refine v_eq (lv' := [(0, .ref bo), (1, .int 11), (2, .int x), (3, .int (-1)), (4, .int (nI dp))]) rfl rfl rfl rfl ?_
  refine v_iload_n O dX0_runs_0 1 rfl ?_
  refine v_lks (off := 106) O 107 dX0_runs_1 (by decide) (by decide) (by decide) ?_
  refine v_aload_n O dX0_runs_107 0 rfl ?_
  refine v_iconst (v := 0) O dX0_runs_108 (by decide) ?_
  refine v_iload_n O dX0_runs_109 2 rfl ?_
  refine v_aload_n O dX0_runs_110 0 rfl ?_
  refine gf_X0_22 O rfl dX0_runs_111 0 rfl rfl ?_
  refine v_iload O dX0_runs_114 4 rfl ?_
  refine v_cV (T := TX0) (ci := 0) (As := [.int 0, .int x, .int (nI k), .int (nI dp)]) (wr := []) (st := []) O cf_X0_28 rfl (sp_X0_does_Wk (bo := bo) (tr := tr) (n := n) (i := i) (k := k) (v := v) (f := f) (x := x) (dp := dp) (hk) (by have zl1 := wL_len k hk; have zl2 := hL_len k hk 3 (by decide); have zl3 := hL_len k hk k hk; have zl4 : (tL k 0).length = (hL k k).length + 1 := rfl; omega) (by omega)) dX0_runs_116 rfl rfl 0 rfl [0, 1] [] (by decide) rfl rfl (by decide) (by decide) (by decide) (Nat.le_of_ble_eq_true rfl) (by decide) (by decide) (fun r_2 w_3 h_1 => ?_)
  obtain ⟨rfl, rfl⟩ := h_1
  refine v_eq (st' := [.int (wV i v x k)]) (ws' := [(bo, .inr (0, [.ref tr, .int (nI (n + (wL k).length)), .int i, .int (nI k), .int v])), (tr, eI D 20 (trW f n (wL k)))]) rfl rfl rfl rfl ?_
  refine v_aload_n O dX0_runs_119 0 rfl ?_
  refine gf_X0_25 O rfl dX0_runs_120 0 rfl rfl ?_
  refine v_isub O dX0_runs_123 ?_
  exact v_ireturn O T rfl rfl (by decide) (by decide) dX0_runs_124 (⟨rfl, rfl⟩)
set_option maxRecDepth 100000 in
set_option maxHeartbeats 4000000 in
theorem sp_X0_does_H0 {D : G} {bo : Nat} {tr : Nat} {n : Nat} {i : Int32} {k : Nat} {v : Int32} {f : Nat → Int32} {x : Int32} {dp : Nat} (hk : k < 7) (hn : n ≤ 9) (hdp : dp ≤ 9) : Sp D mX0_does 5 0 0 [.ref bo, .int 1, .int x, .int 0, .int (nI dp)] [(bo, .inr (0, [.ref tr, .int (nI n), .int i, .int (nI k), .int v])), (tr, eI D 20 f)] (fun r w => r = some (.int (hV i v k x 0)) ∧ w = [(bo, .inr (0, [.ref tr, .int (nI (n + (hL k 0).length)), .int i, .int (nI k), .int v])), (tr, eI D 20 (trW f n (hL k 0)))]) := by
  refine Sp.of (by decide) (Nat.le_of_ble_eq_true rfl) (fun X O T => ?_)
  refine v_eq (lv' := [(0, .ref bo), (1, .int 1), (2, .int x), (3, .int 0), (4, .int (nI dp))]) rfl rfl rfl rfl ?_
  refine v_iload_n O dX0_does_0 3 rfl ?_
  refine v_istore (lv' := [(0, .ref bo), (1, .int 1), (2, .int x), (3, .int 0), (4, .int (nI dp)), (5, .int 0)]) O dX0_does_1 (by decide) rfl ?_
  refine v_iconst (v := 0) O dX0_does_3 (by decide) ?_
  refine v_istore (lv' := [(0, .ref bo), (1, .int 1), (2, .int x), (3, .int 0), (4, .int (nI dp)), (5, .int 0), (6, .int 0)]) O dX0_does_4 (by decide) rfl ?_
  refine v_iload O dX0_does_6 6 rfl ?_
  refine v_iconst (v := 3) O dX0_does_8 (by decide) ?_
  refine v_icmp_ge O 34 dX0_does_9 (by decide) (fun c => absurd c (by decide)) (fun _ => ?_)
  refine v_iload O dX0_does_12 5 rfl ?_
  refine v_iload_n O dX0_does_14 1 rfl ?_
  refine v_cS (As := [.int 0, .int 1]) (wr := [(bo, .inr (0, [.ref tr, .int (nI n), .int i, .int (nI k), .int v])), (tr, eI D 20 f)]) (st := []) O cf_X0_36 (sp_X0_number (k := 0) (a := 1) (by decide) (by decide)) dX0_does_15 rfl rfl [] [0, 1] (by decide) rfl rfl (by decide) (by decide) (by decide) (Nat.le_of_ble_eq_true rfl) (by decide) (by decide) (fun r_3 w_4 h_2 => ?_)
  obtain ⟨rfl, rfl⟩ := h_2
  refine v_eq (st' := [.int (x_num (0 * 3 + 1))]) (ws' := [(bo, .inr (0, [.ref tr, .int (nI n), .int i, .int (nI k), .int v])), (tr, eI D 20 f)]) rfl rfl rfl rfl ?_
  refine v_top (y := 11) (by decide) ?_
  refine v_if_ne O 34 dX0_does_18 (by decide) (fun _ => ?_) (fun c => absurd c (by decide))
  refine v_iload O dX0_does_34 5 rfl ?_
  refine v_iload_n O dX0_does_36 1 rfl ?_
  refine v_cS (As := [.int 0, .int 1]) (wr := [(bo, .inr (0, [.ref tr, .int (nI n), .int i, .int (nI k), .int v])), (tr, eI D 20 f)]) (st := []) O cf_X0_36 (sp_X0_number (k := 0) (a := 1) (by decide) (by decide)) dX0_does_37 rfl rfl [] [0, 1] (by decide) rfl rfl (by decide) (by decide) (by decide) (Nat.le_of_ble_eq_true rfl) (by decide) (by decide) (fun r_7 w_8 h_6 => ?_)
  obtain ⟨rfl, rfl⟩ := h_6
  refine v_eq (st' := [.int (x_num (0 * 3 + 1))]) (ws' := [(bo, .inr (0, [.ref tr, .int (nI n), .int i, .int (nI k), .int v])), (tr, eI D 20 f)]) rfl rfl rfl rfl ?_
  refine v_top (y := 11) (by decide) ?_
  refine v_istore (lv' := [(0, .ref bo), (1, .int 1), (2, .int x), (3, .int 0), (4, .int (nI dp)), (5, .int 0), (6, .int 11)]) O dX0_does_40 (by decide) rfl ?_
  refine v_iload O dX0_does_42 6 rfl ?_
  refine v_if_eq O 54 dX0_does_44 (by decide) (fun c => absurd c (by decide)) (fun _ => ?_)
  refine v_iload O dX0_does_47 4 rfl ?_
  refine v_bipush (v := 30) O dX0_does_49 (by decide) ?_
  refine v_icmp_le O 56 dX0_does_51 (by decide) (fun z1 => ?_) (fun z1 => ?_)
  · skip
    have z1 := (c_le (x := nI dp) (y := 30) (a := dp) (b := 30) rfl rfl (by omega) (by omega)).mp z1
    refine v_aload_n O dX0_does_56 0 rfl ?_
    refine v_iload O dX0_does_57 6 rfl ?_
    refine v_cV (T := TX0) (ci := 0) (As := [.int 11]) (wr := []) (st := []) O cf_X0_44 rfl (sp_X0_begins (bo := bo) (tr := tr) (n := n) (i := i) (k := k) (v := v) (f := f) (b := 11) (by omega)) dX0_does_59 rfl rfl 0 rfl [0, 1] [] (by decide) rfl rfl (by decide) (by decide) (by decide) (Nat.le_of_ble_eq_true rfl) (by decide) (by decide) (fun r_11 w_12 h_10 => ?_)
    obtain ⟨rfl, rfl⟩ := h_10
    refine v_eq (st' := []) (ws' := [(bo, .inr (0, [.ref tr, .int (nI (n + 1)), .int i, .int (nI k), .int v])), (tr, eI D 20 (upd f n 11))]) rfl rfl rfl rfl ?_
    refine v_aload_n O dX0_does_62 0 rfl ?_
    refine v_iload O dX0_does_63 6 rfl ?_
    refine v_iload_n O dX0_does_65 2 rfl ?_
    refine v_iload O dX0_does_66 5 rfl ?_
    refine v_cSN (As := [.int 0]) (wr := [(bo, .inr (0, [.ref tr, .int (nI (n + 1)), .int i, .int (nI k), .int v])), (tr, eI D 20 (upd f n 11))]) (st := [.int x, .int 11, .ref bo]) O cf_X0_40 (sp_X9_aboveOf (k := 0) (by decide)) dX0_does_68 rfl rfl [] [0, 1] (by decide) rfl rfl (by decide) (by decide) (by decide) (Nat.le_of_ble_eq_true rfl) (by decide) (by decide) (fun r_14 w_15 h_13 => ?_)
    obtain ⟨rfl, rfl⟩ := h_13
    refine v_eq (st' := [.int (x_abv 0), .int x, .int 11, .ref bo]) (ws' := [(bo, .inr (0, [.ref tr, .int (nI (n + 1)), .int i, .int (nI k), .int v])), (tr, eI D 20 (upd f n 11))]) rfl rfl rfl rfl ?_
    refine v_top (y := -1) (by decide) ?_
    refine v_iload O dX0_does_71 4 rfl ?_
    refine v_iconst (v := 1) O dX0_does_73 (by decide) ?_
    refine v_iadd O dX0_does_74 ?_
    refine v_top (y := nI (dp + 1)) (nI_add dp 1) ?_
    refine v_cV (T := TX0) (ci := 0) (As := [.int 11, .int x, .int (-1), .int (nI (dp + 1))]) (wr := []) (st := []) O cf_X0_48 rfl (sp_X0_runs_11 (bo := bo) (tr := tr) (n := (n + 1)) (i := i) (k := k) (v := v) (f := (upd f n 11)) (x := x) (dp := (dp + 1)) (hk) (by omega) (by omega)) dX0_does_75 rfl rfl 0 rfl [0, 1] [] (by decide) rfl rfl (by decide) (by decide) (by decide) (Nat.le_of_ble_eq_true rfl) (by decide) (by decide) (fun r_17 w_18 h_16 => ?_)
    obtain ⟨rfl, rfl⟩ := h_16
    refine v_eq (st' := [.int (wV i v x k - v)]) (ws' := [(bo, .inr (0, [.ref tr, .int (nI ((n + 1) + (wL k).length)), .int i, .int (nI k), .int v])), (tr, eI D 20 (trW (upd f n 11) (n + 1) (wL k)))]) rfl rfl rfl rfl ?_
    exact v_ireturn O T rfl rfl (by decide) (by decide) dX0_does_78 (⟨rfl, by rw [show n + (hL k 0).length = n + 1 + (wL k).length from by rw [show (hL k 0).length = (wL k).length + 1 from rfl]; omega]; rfl⟩)
  · skip
    have z1 := (not_congr (c_le (x := nI dp) (y := 30) (a := dp) (b := 30) rfl rfl (by omega) (by omega))).mp z1
    exact absurd z1 (by omega)
set_option maxRecDepth 100000 in
set_option maxHeartbeats 4000000 in
theorem sp_X0_does_H2 {D : G} {bo : Nat} {tr : Nat} {n : Nat} {i : Int32} {k : Nat} {v : Int32} {f : Nat → Int32} {x : Int32} {dp : Nat} (hk : k < 7) (hn : n ≤ 9) (hdp : dp ≤ 9) : Sp D mX0_does 5 0 0 [.ref bo, .int 1, .int x, .int 2, .int (nI dp)] [(bo, .inr (0, [.ref tr, .int (nI n), .int i, .int (nI k), .int v])), (tr, eI D 20 f)] (fun r w => r = some (.int (hV i v k x 2)) ∧ w = [(bo, .inr (0, [.ref tr, .int (nI (n + (hL k 2).length)), .int i, .int (nI k), .int v])), (tr, eI D 20 (trW f n (hL k 2)))]) := by
  refine Sp.of (by decide) (Nat.le_of_ble_eq_true rfl) (fun X O T => ?_)
  refine v_eq (lv' := [(0, .ref bo), (1, .int 1), (2, .int x), (3, .int 2), (4, .int (nI dp))]) rfl rfl rfl rfl ?_
  refine v_iload_n O dX0_does_0 3 rfl ?_
  refine v_istore (lv' := [(0, .ref bo), (1, .int 1), (2, .int x), (3, .int 2), (4, .int (nI dp)), (5, .int 2)]) O dX0_does_1 (by decide) rfl ?_
  refine v_iconst (v := 0) O dX0_does_3 (by decide) ?_
  refine v_istore (lv' := [(0, .ref bo), (1, .int 1), (2, .int x), (3, .int 2), (4, .int (nI dp)), (5, .int 2), (6, .int 0)]) O dX0_does_4 (by decide) rfl ?_
  refine v_iload O dX0_does_6 6 rfl ?_
  refine v_iconst (v := 3) O dX0_does_8 (by decide) ?_
  refine v_icmp_ge O 34 dX0_does_9 (by decide) (fun c => absurd c (by decide)) (fun _ => ?_)
  refine v_iload O dX0_does_12 5 rfl ?_
  refine v_iload_n O dX0_does_14 1 rfl ?_
  refine v_cS (As := [.int 2, .int 1]) (wr := [(bo, .inr (0, [.ref tr, .int (nI n), .int i, .int (nI k), .int v])), (tr, eI D 20 f)]) (st := []) O cf_X0_36 (sp_X0_number (k := 2) (a := 1) (by decide) (by decide)) dX0_does_15 rfl rfl [] [0, 1] (by decide) rfl rfl (by decide) (by decide) (by decide) (Nat.le_of_ble_eq_true rfl) (by decide) (by decide) (fun r_3 w_4 h_2 => ?_)
  obtain ⟨rfl, rfl⟩ := h_2
  refine v_eq (st' := [.int (x_num (2 * 3 + 1))]) (ws' := [(bo, .inr (0, [.ref tr, .int (nI n), .int i, .int (nI k), .int v])), (tr, eI D 20 f)]) rfl rfl rfl rfl ?_
  refine v_top (y := 0) (by decide) ?_
  refine v_if_ne O 34 dX0_does_18 (by decide) (fun c => absurd c (by decide)) (fun _ => ?_)
  refine v_iload O dX0_does_21 5 rfl ?_
  refine v_cSN (As := [.int 2]) (wr := [(bo, .inr (0, [.ref tr, .int (nI n), .int i, .int (nI k), .int v])), (tr, eI D 20 f)]) (st := []) O cf_X0_40 (sp_X9_aboveOf (k := 2) (by decide)) dX0_does_23 rfl rfl [] [0, 1] (by decide) rfl rfl (by decide) (by decide) (by decide) (Nat.le_of_ble_eq_true rfl) (by decide) (by decide) (fun r_7 w_8 h_6 => ?_)
  obtain ⟨rfl, rfl⟩ := h_6
  refine v_eq (st' := [.int (x_abv 2)]) (ws' := [(bo, .inr (0, [.ref tr, .int (nI n), .int i, .int (nI k), .int v])), (tr, eI D 20 f)]) rfl rfl rfl rfl ?_
  refine v_top (y := 0) (by decide) ?_
  refine v_istore (lv' := [(0, .ref bo), (1, .int 1), (2, .int x), (3, .int 2), (4, .int (nI dp)), (5, .int 0), (6, .int 0)]) O dX0_does_26 (by decide) rfl ?_
  refine v_iinc (v := 1) (lv' := [(0, .ref bo), (1, .int 1), (2, .int x), (3, .int 2), (4, .int (nI dp)), (5, .int 0), (6, .int 1)]) O dX0_does_28 6 rfl (by decide) (by decide) rfl ?_
  refine v_goto O 6 dX0_does_31 (by decide) ?_
  refine v_iload O dX0_does_6 6 rfl ?_
  refine v_iconst (v := 3) O dX0_does_8 (by decide) ?_
  refine v_icmp_ge O 34 dX0_does_9 (by decide) (fun c => absurd c (by decide)) (fun _ => ?_)
  refine v_iload O dX0_does_12 5 rfl ?_
  refine v_iload_n O dX0_does_14 1 rfl ?_
  refine v_cS (As := [.int 0, .int 1]) (wr := [(bo, .inr (0, [.ref tr, .int (nI n), .int i, .int (nI k), .int v])), (tr, eI D 20 f)]) (st := []) O cf_X0_36 (sp_X0_number (k := 0) (a := 1) (by decide) (by decide)) dX0_does_15 rfl rfl [] [0, 1] (by decide) rfl rfl (by decide) (by decide) (by decide) (Nat.le_of_ble_eq_true rfl) (by decide) (by decide) (fun r_11 w_12 h_10 => ?_)
  obtain ⟨rfl, rfl⟩ := h_10
  refine v_eq (st' := [.int (x_num (0 * 3 + 1))]) (ws' := [(bo, .inr (0, [.ref tr, .int (nI n), .int i, .int (nI k), .int v])), (tr, eI D 20 f)]) rfl rfl rfl rfl ?_
  refine v_top (y := 11) (by decide) ?_
  refine v_if_ne O 34 dX0_does_18 (by decide) (fun _ => ?_) (fun c => absurd c (by decide))
  refine v_iload O dX0_does_34 5 rfl ?_
  refine v_iload_n O dX0_does_36 1 rfl ?_
  refine v_cS (As := [.int 0, .int 1]) (wr := [(bo, .inr (0, [.ref tr, .int (nI n), .int i, .int (nI k), .int v])), (tr, eI D 20 f)]) (st := []) O cf_X0_36 (sp_X0_number (k := 0) (a := 1) (by decide) (by decide)) dX0_does_37 rfl rfl [] [0, 1] (by decide) rfl rfl (by decide) (by decide) (by decide) (Nat.le_of_ble_eq_true rfl) (by decide) (by decide) (fun r_15 w_16 h_14 => ?_)
  obtain ⟨rfl, rfl⟩ := h_14
  refine v_eq (st' := [.int (x_num (0 * 3 + 1))]) (ws' := [(bo, .inr (0, [.ref tr, .int (nI n), .int i, .int (nI k), .int v])), (tr, eI D 20 f)]) rfl rfl rfl rfl ?_
  refine v_top (y := 11) (by decide) ?_
  refine v_istore (lv' := [(0, .ref bo), (1, .int 1), (2, .int x), (3, .int 2), (4, .int (nI dp)), (5, .int 0), (6, .int 11)]) O dX0_does_40 (by decide) rfl ?_
  refine v_iload O dX0_does_42 6 rfl ?_
  refine v_if_eq O 54 dX0_does_44 (by decide) (fun c => absurd c (by decide)) (fun _ => ?_)
  refine v_iload O dX0_does_47 4 rfl ?_
  refine v_bipush (v := 30) O dX0_does_49 (by decide) ?_
  refine v_icmp_le O 56 dX0_does_51 (by decide) (fun z1 => ?_) (fun z1 => ?_)
  · skip
    have z1 := (c_le (x := nI dp) (y := 30) (a := dp) (b := 30) rfl rfl (by omega) (by omega)).mp z1
    refine v_aload_n O dX0_does_56 0 rfl ?_
    refine v_iload O dX0_does_57 6 rfl ?_
    refine v_cV (T := TX0) (ci := 0) (As := [.int 11]) (wr := []) (st := []) O cf_X0_44 rfl (sp_X0_begins (bo := bo) (tr := tr) (n := n) (i := i) (k := k) (v := v) (f := f) (b := 11) (by omega)) dX0_does_59 rfl rfl 0 rfl [0, 1] [] (by decide) rfl rfl (by decide) (by decide) (by decide) (Nat.le_of_ble_eq_true rfl) (by decide) (by decide) (fun r_19 w_20 h_18 => ?_)
    obtain ⟨rfl, rfl⟩ := h_18
    refine v_eq (st' := []) (ws' := [(bo, .inr (0, [.ref tr, .int (nI (n + 1)), .int i, .int (nI k), .int v])), (tr, eI D 20 (upd f n 11))]) rfl rfl rfl rfl ?_
    refine v_aload_n O dX0_does_62 0 rfl ?_
    refine v_iload O dX0_does_63 6 rfl ?_
    refine v_iload_n O dX0_does_65 2 rfl ?_
    refine v_iload O dX0_does_66 5 rfl ?_
    refine v_cSN (As := [.int 0]) (wr := [(bo, .inr (0, [.ref tr, .int (nI (n + 1)), .int i, .int (nI k), .int v])), (tr, eI D 20 (upd f n 11))]) (st := [.int x, .int 11, .ref bo]) O cf_X0_40 (sp_X9_aboveOf (k := 0) (by decide)) dX0_does_68 rfl rfl [] [0, 1] (by decide) rfl rfl (by decide) (by decide) (by decide) (Nat.le_of_ble_eq_true rfl) (by decide) (by decide) (fun r_22 w_23 h_21 => ?_)
    obtain ⟨rfl, rfl⟩ := h_21
    refine v_eq (st' := [.int (x_abv 0), .int x, .int 11, .ref bo]) (ws' := [(bo, .inr (0, [.ref tr, .int (nI (n + 1)), .int i, .int (nI k), .int v])), (tr, eI D 20 (upd f n 11))]) rfl rfl rfl rfl ?_
    refine v_top (y := -1) (by decide) ?_
    refine v_iload O dX0_does_71 4 rfl ?_
    refine v_iconst (v := 1) O dX0_does_73 (by decide) ?_
    refine v_iadd O dX0_does_74 ?_
    refine v_top (y := nI (dp + 1)) (nI_add dp 1) ?_
    refine v_cV (T := TX0) (ci := 0) (As := [.int 11, .int x, .int (-1), .int (nI (dp + 1))]) (wr := []) (st := []) O cf_X0_48 rfl (sp_X0_runs_11 (bo := bo) (tr := tr) (n := (n + 1)) (i := i) (k := k) (v := v) (f := (upd f n 11)) (x := x) (dp := (dp + 1)) (hk) (by omega) (by omega)) dX0_does_75 rfl rfl 0 rfl [0, 1] [] (by decide) rfl rfl (by decide) (by decide) (by decide) (Nat.le_of_ble_eq_true rfl) (by decide) (by decide) (fun r_25 w_26 h_24 => ?_)
    obtain ⟨rfl, rfl⟩ := h_24
    refine v_eq (st' := [.int (wV i v x k - v)]) (ws' := [(bo, .inr (0, [.ref tr, .int (nI ((n + 1) + (wL k).length)), .int i, .int (nI k), .int v])), (tr, eI D 20 (trW (upd f n 11) (n + 1) (wL k)))]) rfl rfl rfl rfl ?_
    exact v_ireturn O T rfl rfl (by decide) (by decide) dX0_does_78 (⟨rfl, by rw [show n + (hL k 2).length = n + 1 + (wL k).length from by rw [show (hL k 2).length = (wL k).length + 1 from rfl]; omega]; rfl⟩)
  · skip
    have z1 := (not_congr (c_le (x := nI dp) (y := 30) (a := dp) (b := 30) rfl rfl (by omega) (by omega))).mp z1
    exact absurd z1 (by omega)
set_option maxRecDepth 100000 in
set_option maxHeartbeats 4000000 in
theorem sp_X0_does_H3 {D : G} {bo : Nat} {tr : Nat} {n : Nat} {i : Int32} {k : Nat} {v : Int32} {f : Nat → Int32} {x : Int32} {dp : Nat} (hk : k < 7) (hn : n ≤ 9) (hdp : dp ≤ 9) : Sp D mX0_does 5 0 0 [.ref bo, .int 1, .int x, .int 3, .int (nI dp)] [(bo, .inr (0, [.ref tr, .int (nI n), .int i, .int (nI k), .int v])), (tr, eI D 20 f)] (fun r w => r = some (.int (hV i v k x 3)) ∧ w = [(bo, .inr (0, [.ref tr, .int (nI (n + (hL k 3).length)), .int i, .int (nI k), .int v])), (tr, eI D 20 (trW f n (hL k 3)))]) := by
  refine Sp.of (by decide) (Nat.le_of_ble_eq_true rfl) (fun X O T => ?_)
  refine v_eq (lv' := [(0, .ref bo), (1, .int 1), (2, .int x), (3, .int 3), (4, .int (nI dp))]) rfl rfl rfl rfl ?_
  refine v_iload_n O dX0_does_0 3 rfl ?_
  refine v_istore (lv' := [(0, .ref bo), (1, .int 1), (2, .int x), (3, .int 3), (4, .int (nI dp)), (5, .int 3)]) O dX0_does_1 (by decide) rfl ?_
  refine v_iconst (v := 0) O dX0_does_3 (by decide) ?_
  refine v_istore (lv' := [(0, .ref bo), (1, .int 1), (2, .int x), (3, .int 3), (4, .int (nI dp)), (5, .int 3), (6, .int 0)]) O dX0_does_4 (by decide) rfl ?_
  refine v_iload O dX0_does_6 6 rfl ?_
  refine v_iconst (v := 3) O dX0_does_8 (by decide) ?_
  refine v_icmp_ge O 34 dX0_does_9 (by decide) (fun c => absurd c (by decide)) (fun _ => ?_)
  refine v_iload O dX0_does_12 5 rfl ?_
  refine v_iload_n O dX0_does_14 1 rfl ?_
  refine v_cS (As := [.int 3, .int 1]) (wr := [(bo, .inr (0, [.ref tr, .int (nI n), .int i, .int (nI k), .int v])), (tr, eI D 20 f)]) (st := []) O cf_X0_36 (sp_X0_number (k := 3) (a := 1) (by decide) (by decide)) dX0_does_15 rfl rfl [] [0, 1] (by decide) rfl rfl (by decide) (by decide) (by decide) (Nat.le_of_ble_eq_true rfl) (by decide) (by decide) (fun r_3 w_4 h_2 => ?_)
  obtain ⟨rfl, rfl⟩ := h_2
  refine v_eq (st' := [.int (x_num (3 * 3 + 1))]) (ws' := [(bo, .inr (0, [.ref tr, .int (nI n), .int i, .int (nI k), .int v])), (tr, eI D 20 f)]) rfl rfl rfl rfl ?_
  refine v_top (y := 0) (by decide) ?_
  refine v_if_ne O 34 dX0_does_18 (by decide) (fun c => absurd c (by decide)) (fun _ => ?_)
  refine v_iload O dX0_does_21 5 rfl ?_
  refine v_cSN (As := [.int 3]) (wr := [(bo, .inr (0, [.ref tr, .int (nI n), .int i, .int (nI k), .int v])), (tr, eI D 20 f)]) (st := []) O cf_X0_40 (sp_X9_aboveOf (k := 3) (by decide)) dX0_does_23 rfl rfl [] [0, 1] (by decide) rfl rfl (by decide) (by decide) (by decide) (Nat.le_of_ble_eq_true rfl) (by decide) (by decide) (fun r_7 w_8 h_6 => ?_)
  obtain ⟨rfl, rfl⟩ := h_6
  refine v_eq (st' := [.int (x_abv 3)]) (ws' := [(bo, .inr (0, [.ref tr, .int (nI n), .int i, .int (nI k), .int v])), (tr, eI D 20 f)]) rfl rfl rfl rfl ?_
  refine v_top (y := 0) (by decide) ?_
  refine v_istore (lv' := [(0, .ref bo), (1, .int 1), (2, .int x), (3, .int 3), (4, .int (nI dp)), (5, .int 0), (6, .int 0)]) O dX0_does_26 (by decide) rfl ?_
  refine v_iinc (v := 1) (lv' := [(0, .ref bo), (1, .int 1), (2, .int x), (3, .int 3), (4, .int (nI dp)), (5, .int 0), (6, .int 1)]) O dX0_does_28 6 rfl (by decide) (by decide) rfl ?_
  refine v_goto O 6 dX0_does_31 (by decide) ?_
  refine v_iload O dX0_does_6 6 rfl ?_
  refine v_iconst (v := 3) O dX0_does_8 (by decide) ?_
  refine v_icmp_ge O 34 dX0_does_9 (by decide) (fun c => absurd c (by decide)) (fun _ => ?_)
  refine v_iload O dX0_does_12 5 rfl ?_
  refine v_iload_n O dX0_does_14 1 rfl ?_
  refine v_cS (As := [.int 0, .int 1]) (wr := [(bo, .inr (0, [.ref tr, .int (nI n), .int i, .int (nI k), .int v])), (tr, eI D 20 f)]) (st := []) O cf_X0_36 (sp_X0_number (k := 0) (a := 1) (by decide) (by decide)) dX0_does_15 rfl rfl [] [0, 1] (by decide) rfl rfl (by decide) (by decide) (by decide) (Nat.le_of_ble_eq_true rfl) (by decide) (by decide) (fun r_11 w_12 h_10 => ?_)
  obtain ⟨rfl, rfl⟩ := h_10
  refine v_eq (st' := [.int (x_num (0 * 3 + 1))]) (ws' := [(bo, .inr (0, [.ref tr, .int (nI n), .int i, .int (nI k), .int v])), (tr, eI D 20 f)]) rfl rfl rfl rfl ?_
  refine v_top (y := 11) (by decide) ?_
  refine v_if_ne O 34 dX0_does_18 (by decide) (fun _ => ?_) (fun c => absurd c (by decide))
  refine v_iload O dX0_does_34 5 rfl ?_
  refine v_iload_n O dX0_does_36 1 rfl ?_
  refine v_cS (As := [.int 0, .int 1]) (wr := [(bo, .inr (0, [.ref tr, .int (nI n), .int i, .int (nI k), .int v])), (tr, eI D 20 f)]) (st := []) O cf_X0_36 (sp_X0_number (k := 0) (a := 1) (by decide) (by decide)) dX0_does_37 rfl rfl [] [0, 1] (by decide) rfl rfl (by decide) (by decide) (by decide) (Nat.le_of_ble_eq_true rfl) (by decide) (by decide) (fun r_15 w_16 h_14 => ?_)
  obtain ⟨rfl, rfl⟩ := h_14
  refine v_eq (st' := [.int (x_num (0 * 3 + 1))]) (ws' := [(bo, .inr (0, [.ref tr, .int (nI n), .int i, .int (nI k), .int v])), (tr, eI D 20 f)]) rfl rfl rfl rfl ?_
  refine v_top (y := 11) (by decide) ?_
  refine v_istore (lv' := [(0, .ref bo), (1, .int 1), (2, .int x), (3, .int 3), (4, .int (nI dp)), (5, .int 0), (6, .int 11)]) O dX0_does_40 (by decide) rfl ?_
  refine v_iload O dX0_does_42 6 rfl ?_
  refine v_if_eq O 54 dX0_does_44 (by decide) (fun c => absurd c (by decide)) (fun _ => ?_)
  refine v_iload O dX0_does_47 4 rfl ?_
  refine v_bipush (v := 30) O dX0_does_49 (by decide) ?_
  refine v_icmp_le O 56 dX0_does_51 (by decide) (fun z1 => ?_) (fun z1 => ?_)
  · skip
    have z1 := (c_le (x := nI dp) (y := 30) (a := dp) (b := 30) rfl rfl (by omega) (by omega)).mp z1
    refine v_aload_n O dX0_does_56 0 rfl ?_
    refine v_iload O dX0_does_57 6 rfl ?_
    refine v_cV (T := TX0) (ci := 0) (As := [.int 11]) (wr := []) (st := []) O cf_X0_44 rfl (sp_X0_begins (bo := bo) (tr := tr) (n := n) (i := i) (k := k) (v := v) (f := f) (b := 11) (by omega)) dX0_does_59 rfl rfl 0 rfl [0, 1] [] (by decide) rfl rfl (by decide) (by decide) (by decide) (Nat.le_of_ble_eq_true rfl) (by decide) (by decide) (fun r_19 w_20 h_18 => ?_)
    obtain ⟨rfl, rfl⟩ := h_18
    refine v_eq (st' := []) (ws' := [(bo, .inr (0, [.ref tr, .int (nI (n + 1)), .int i, .int (nI k), .int v])), (tr, eI D 20 (upd f n 11))]) rfl rfl rfl rfl ?_
    refine v_aload_n O dX0_does_62 0 rfl ?_
    refine v_iload O dX0_does_63 6 rfl ?_
    refine v_iload_n O dX0_does_65 2 rfl ?_
    refine v_iload O dX0_does_66 5 rfl ?_
    refine v_cSN (As := [.int 0]) (wr := [(bo, .inr (0, [.ref tr, .int (nI (n + 1)), .int i, .int (nI k), .int v])), (tr, eI D 20 (upd f n 11))]) (st := [.int x, .int 11, .ref bo]) O cf_X0_40 (sp_X9_aboveOf (k := 0) (by decide)) dX0_does_68 rfl rfl [] [0, 1] (by decide) rfl rfl (by decide) (by decide) (by decide) (Nat.le_of_ble_eq_true rfl) (by decide) (by decide) (fun r_22 w_23 h_21 => ?_)
    obtain ⟨rfl, rfl⟩ := h_21
    refine v_eq (st' := [.int (x_abv 0), .int x, .int 11, .ref bo]) (ws' := [(bo, .inr (0, [.ref tr, .int (nI (n + 1)), .int i, .int (nI k), .int v])), (tr, eI D 20 (upd f n 11))]) rfl rfl rfl rfl ?_
    refine v_top (y := -1) (by decide) ?_
    refine v_iload O dX0_does_71 4 rfl ?_
    refine v_iconst (v := 1) O dX0_does_73 (by decide) ?_
    refine v_iadd O dX0_does_74 ?_
    refine v_top (y := nI (dp + 1)) (nI_add dp 1) ?_
    refine v_cV (T := TX0) (ci := 0) (As := [.int 11, .int x, .int (-1), .int (nI (dp + 1))]) (wr := []) (st := []) O cf_X0_48 rfl (sp_X0_runs_11 (bo := bo) (tr := tr) (n := (n + 1)) (i := i) (k := k) (v := v) (f := (upd f n 11)) (x := x) (dp := (dp + 1)) (hk) (by omega) (by omega)) dX0_does_75 rfl rfl 0 rfl [0, 1] [] (by decide) rfl rfl (by decide) (by decide) (by decide) (Nat.le_of_ble_eq_true rfl) (by decide) (by decide) (fun r_25 w_26 h_24 => ?_)
    obtain ⟨rfl, rfl⟩ := h_24
    refine v_eq (st' := [.int (wV i v x k - v)]) (ws' := [(bo, .inr (0, [.ref tr, .int (nI ((n + 1) + (wL k).length)), .int i, .int (nI k), .int v])), (tr, eI D 20 (trW (upd f n 11) (n + 1) (wL k)))]) rfl rfl rfl rfl ?_
    exact v_ireturn O T rfl rfl (by decide) (by decide) dX0_does_78 (⟨rfl, by rw [show n + (hL k 3).length = n + 1 + (wL k).length from by rw [show (hL k 3).length = (wL k).length + 1 from rfl]; omega]; rfl⟩)
  · skip
    have z1 := (not_congr (c_le (x := nI dp) (y := 30) (a := dp) (b := 30) rfl rfl (by omega) (by omega))).mp z1
    exact absurd z1 (by omega)
set_option maxRecDepth 100000 in
set_option maxHeartbeats 4000000 in
theorem sp_X0_does_H5 {D : G} {bo : Nat} {tr : Nat} {n : Nat} {i : Int32} {k : Nat} {v : Int32} {f : Nat → Int32} {x : Int32} {dp : Nat} (hk : k < 7) (hn : n ≤ 9) (hdp : dp ≤ 9) : Sp D mX0_does 5 0 0 [.ref bo, .int 1, .int x, .int 5, .int (nI dp)] [(bo, .inr (0, [.ref tr, .int (nI n), .int i, .int (nI k), .int v])), (tr, eI D 20 f)] (fun r w => r = some (.int (hV i v k x 5)) ∧ w = [(bo, .inr (0, [.ref tr, .int (nI (n + (hL k 5).length)), .int i, .int (nI k), .int v])), (tr, eI D 20 (trW f n (hL k 5)))]) := by
  refine Sp.of (by decide) (Nat.le_of_ble_eq_true rfl) (fun X O T => ?_)
  refine v_eq (lv' := [(0, .ref bo), (1, .int 1), (2, .int x), (3, .int 5), (4, .int (nI dp))]) rfl rfl rfl rfl ?_
  refine v_iload_n O dX0_does_0 3 rfl ?_
  refine v_istore (lv' := [(0, .ref bo), (1, .int 1), (2, .int x), (3, .int 5), (4, .int (nI dp)), (5, .int 5)]) O dX0_does_1 (by decide) rfl ?_
  refine v_iconst (v := 0) O dX0_does_3 (by decide) ?_
  refine v_istore (lv' := [(0, .ref bo), (1, .int 1), (2, .int x), (3, .int 5), (4, .int (nI dp)), (5, .int 5), (6, .int 0)]) O dX0_does_4 (by decide) rfl ?_
  refine v_iload O dX0_does_6 6 rfl ?_
  refine v_iconst (v := 3) O dX0_does_8 (by decide) ?_
  refine v_icmp_ge O 34 dX0_does_9 (by decide) (fun c => absurd c (by decide)) (fun _ => ?_)
  refine v_iload O dX0_does_12 5 rfl ?_
  refine v_iload_n O dX0_does_14 1 rfl ?_
  refine v_cS (As := [.int 5, .int 1]) (wr := [(bo, .inr (0, [.ref tr, .int (nI n), .int i, .int (nI k), .int v])), (tr, eI D 20 f)]) (st := []) O cf_X0_36 (sp_X0_number (k := 5) (a := 1) (by decide) (by decide)) dX0_does_15 rfl rfl [] [0, 1] (by decide) rfl rfl (by decide) (by decide) (by decide) (Nat.le_of_ble_eq_true rfl) (by decide) (by decide) (fun r_3 w_4 h_2 => ?_)
  obtain ⟨rfl, rfl⟩ := h_2
  refine v_eq (st' := [.int (x_num (5 * 3 + 1))]) (ws' := [(bo, .inr (0, [.ref tr, .int (nI n), .int i, .int (nI k), .int v])), (tr, eI D 20 f)]) rfl rfl rfl rfl ?_
  refine v_top (y := 0) (by decide) ?_
  refine v_if_ne O 34 dX0_does_18 (by decide) (fun c => absurd c (by decide)) (fun _ => ?_)
  refine v_iload O dX0_does_21 5 rfl ?_
  refine v_cSN (As := [.int 5]) (wr := [(bo, .inr (0, [.ref tr, .int (nI n), .int i, .int (nI k), .int v])), (tr, eI D 20 f)]) (st := []) O cf_X0_40 (sp_X9_aboveOf (k := 5) (by decide)) dX0_does_23 rfl rfl [] [0, 1] (by decide) rfl rfl (by decide) (by decide) (by decide) (Nat.le_of_ble_eq_true rfl) (by decide) (by decide) (fun r_7 w_8 h_6 => ?_)
  obtain ⟨rfl, rfl⟩ := h_6
  refine v_eq (st' := [.int (x_abv 5)]) (ws' := [(bo, .inr (0, [.ref tr, .int (nI n), .int i, .int (nI k), .int v])), (tr, eI D 20 f)]) rfl rfl rfl rfl ?_
  refine v_top (y := 2) (by decide) ?_
  refine v_istore (lv' := [(0, .ref bo), (1, .int 1), (2, .int x), (3, .int 5), (4, .int (nI dp)), (5, .int 2), (6, .int 0)]) O dX0_does_26 (by decide) rfl ?_
  refine v_iinc (v := 1) (lv' := [(0, .ref bo), (1, .int 1), (2, .int x), (3, .int 5), (4, .int (nI dp)), (5, .int 2), (6, .int 1)]) O dX0_does_28 6 rfl (by decide) (by decide) rfl ?_
  refine v_goto O 6 dX0_does_31 (by decide) ?_
  refine v_iload O dX0_does_6 6 rfl ?_
  refine v_iconst (v := 3) O dX0_does_8 (by decide) ?_
  refine v_icmp_ge O 34 dX0_does_9 (by decide) (fun c => absurd c (by decide)) (fun _ => ?_)
  refine v_iload O dX0_does_12 5 rfl ?_
  refine v_iload_n O dX0_does_14 1 rfl ?_
  refine v_cS (As := [.int 2, .int 1]) (wr := [(bo, .inr (0, [.ref tr, .int (nI n), .int i, .int (nI k), .int v])), (tr, eI D 20 f)]) (st := []) O cf_X0_36 (sp_X0_number (k := 2) (a := 1) (by decide) (by decide)) dX0_does_15 rfl rfl [] [0, 1] (by decide) rfl rfl (by decide) (by decide) (by decide) (Nat.le_of_ble_eq_true rfl) (by decide) (by decide) (fun r_11 w_12 h_10 => ?_)
  obtain ⟨rfl, rfl⟩ := h_10
  refine v_eq (st' := [.int (x_num (2 * 3 + 1))]) (ws' := [(bo, .inr (0, [.ref tr, .int (nI n), .int i, .int (nI k), .int v])), (tr, eI D 20 f)]) rfl rfl rfl rfl ?_
  refine v_top (y := 0) (by decide) ?_
  refine v_if_ne O 34 dX0_does_18 (by decide) (fun c => absurd c (by decide)) (fun _ => ?_)
  refine v_iload O dX0_does_21 5 rfl ?_
  refine v_cSN (As := [.int 2]) (wr := [(bo, .inr (0, [.ref tr, .int (nI n), .int i, .int (nI k), .int v])), (tr, eI D 20 f)]) (st := []) O cf_X0_40 (sp_X9_aboveOf (k := 2) (by decide)) dX0_does_23 rfl rfl [] [0, 1] (by decide) rfl rfl (by decide) (by decide) (by decide) (Nat.le_of_ble_eq_true rfl) (by decide) (by decide) (fun r_15 w_16 h_14 => ?_)
  obtain ⟨rfl, rfl⟩ := h_14
  refine v_eq (st' := [.int (x_abv 2)]) (ws' := [(bo, .inr (0, [.ref tr, .int (nI n), .int i, .int (nI k), .int v])), (tr, eI D 20 f)]) rfl rfl rfl rfl ?_
  refine v_top (y := 0) (by decide) ?_
  refine v_istore (lv' := [(0, .ref bo), (1, .int 1), (2, .int x), (3, .int 5), (4, .int (nI dp)), (5, .int 0), (6, .int 1)]) O dX0_does_26 (by decide) rfl ?_
  refine v_iinc (v := 2) (lv' := [(0, .ref bo), (1, .int 1), (2, .int x), (3, .int 5), (4, .int (nI dp)), (5, .int 0), (6, .int 2)]) O dX0_does_28 6 rfl (by decide) (by decide) rfl ?_
  refine v_goto O 6 dX0_does_31 (by decide) ?_
  refine v_iload O dX0_does_6 6 rfl ?_
  refine v_iconst (v := 3) O dX0_does_8 (by decide) ?_
  refine v_icmp_ge O 34 dX0_does_9 (by decide) (fun c => absurd c (by decide)) (fun _ => ?_)
  refine v_iload O dX0_does_12 5 rfl ?_
  refine v_iload_n O dX0_does_14 1 rfl ?_
  refine v_cS (As := [.int 0, .int 1]) (wr := [(bo, .inr (0, [.ref tr, .int (nI n), .int i, .int (nI k), .int v])), (tr, eI D 20 f)]) (st := []) O cf_X0_36 (sp_X0_number (k := 0) (a := 1) (by decide) (by decide)) dX0_does_15 rfl rfl [] [0, 1] (by decide) rfl rfl (by decide) (by decide) (by decide) (Nat.le_of_ble_eq_true rfl) (by decide) (by decide) (fun r_19 w_20 h_18 => ?_)
  obtain ⟨rfl, rfl⟩ := h_18
  refine v_eq (st' := [.int (x_num (0 * 3 + 1))]) (ws' := [(bo, .inr (0, [.ref tr, .int (nI n), .int i, .int (nI k), .int v])), (tr, eI D 20 f)]) rfl rfl rfl rfl ?_
  refine v_top (y := 11) (by decide) ?_
  refine v_if_ne O 34 dX0_does_18 (by decide) (fun _ => ?_) (fun c => absurd c (by decide))
  refine v_iload O dX0_does_34 5 rfl ?_
  refine v_iload_n O dX0_does_36 1 rfl ?_
  refine v_cS (As := [.int 0, .int 1]) (wr := [(bo, .inr (0, [.ref tr, .int (nI n), .int i, .int (nI k), .int v])), (tr, eI D 20 f)]) (st := []) O cf_X0_36 (sp_X0_number (k := 0) (a := 1) (by decide) (by decide)) dX0_does_37 rfl rfl [] [0, 1] (by decide) rfl rfl (by decide) (by decide) (by decide) (Nat.le_of_ble_eq_true rfl) (by decide) (by decide) (fun r_23 w_24 h_22 => ?_)
  obtain ⟨rfl, rfl⟩ := h_22
  refine v_eq (st' := [.int (x_num (0 * 3 + 1))]) (ws' := [(bo, .inr (0, [.ref tr, .int (nI n), .int i, .int (nI k), .int v])), (tr, eI D 20 f)]) rfl rfl rfl rfl ?_
  refine v_top (y := 11) (by decide) ?_
  refine v_istore (lv' := [(0, .ref bo), (1, .int 1), (2, .int x), (3, .int 5), (4, .int (nI dp)), (5, .int 0), (6, .int 11)]) O dX0_does_40 (by decide) rfl ?_
  refine v_iload O dX0_does_42 6 rfl ?_
  refine v_if_eq O 54 dX0_does_44 (by decide) (fun c => absurd c (by decide)) (fun _ => ?_)
  refine v_iload O dX0_does_47 4 rfl ?_
  refine v_bipush (v := 30) O dX0_does_49 (by decide) ?_
  refine v_icmp_le O 56 dX0_does_51 (by decide) (fun z1 => ?_) (fun z1 => ?_)
  · skip
    have z1 := (c_le (x := nI dp) (y := 30) (a := dp) (b := 30) rfl rfl (by omega) (by omega)).mp z1
    refine v_aload_n O dX0_does_56 0 rfl ?_
    refine v_iload O dX0_does_57 6 rfl ?_
    refine v_cV (T := TX0) (ci := 0) (As := [.int 11]) (wr := []) (st := []) O cf_X0_44 rfl (sp_X0_begins (bo := bo) (tr := tr) (n := n) (i := i) (k := k) (v := v) (f := f) (b := 11) (by omega)) dX0_does_59 rfl rfl 0 rfl [0, 1] [] (by decide) rfl rfl (by decide) (by decide) (by decide) (Nat.le_of_ble_eq_true rfl) (by decide) (by decide) (fun r_27 w_28 h_26 => ?_)
    obtain ⟨rfl, rfl⟩ := h_26
    refine v_eq (st' := []) (ws' := [(bo, .inr (0, [.ref tr, .int (nI (n + 1)), .int i, .int (nI k), .int v])), (tr, eI D 20 (upd f n 11))]) rfl rfl rfl rfl ?_
    refine v_aload_n O dX0_does_62 0 rfl ?_
    refine v_iload O dX0_does_63 6 rfl ?_
    refine v_iload_n O dX0_does_65 2 rfl ?_
    refine v_iload O dX0_does_66 5 rfl ?_
    refine v_cSN (As := [.int 0]) (wr := [(bo, .inr (0, [.ref tr, .int (nI (n + 1)), .int i, .int (nI k), .int v])), (tr, eI D 20 (upd f n 11))]) (st := [.int x, .int 11, .ref bo]) O cf_X0_40 (sp_X9_aboveOf (k := 0) (by decide)) dX0_does_68 rfl rfl [] [0, 1] (by decide) rfl rfl (by decide) (by decide) (by decide) (Nat.le_of_ble_eq_true rfl) (by decide) (by decide) (fun r_30 w_31 h_29 => ?_)
    obtain ⟨rfl, rfl⟩ := h_29
    refine v_eq (st' := [.int (x_abv 0), .int x, .int 11, .ref bo]) (ws' := [(bo, .inr (0, [.ref tr, .int (nI (n + 1)), .int i, .int (nI k), .int v])), (tr, eI D 20 (upd f n 11))]) rfl rfl rfl rfl ?_
    refine v_top (y := -1) (by decide) ?_
    refine v_iload O dX0_does_71 4 rfl ?_
    refine v_iconst (v := 1) O dX0_does_73 (by decide) ?_
    refine v_iadd O dX0_does_74 ?_
    refine v_top (y := nI (dp + 1)) (nI_add dp 1) ?_
    refine v_cV (T := TX0) (ci := 0) (As := [.int 11, .int x, .int (-1), .int (nI (dp + 1))]) (wr := []) (st := []) O cf_X0_48 rfl (sp_X0_runs_11 (bo := bo) (tr := tr) (n := (n + 1)) (i := i) (k := k) (v := v) (f := (upd f n 11)) (x := x) (dp := (dp + 1)) (hk) (by omega) (by omega)) dX0_does_75 rfl rfl 0 rfl [0, 1] [] (by decide) rfl rfl (by decide) (by decide) (by decide) (Nat.le_of_ble_eq_true rfl) (by decide) (by decide) (fun r_33 w_34 h_32 => ?_)
    obtain ⟨rfl, rfl⟩ := h_32
    refine v_eq (st' := [.int (wV i v x k - v)]) (ws' := [(bo, .inr (0, [.ref tr, .int (nI ((n + 1) + (wL k).length)), .int i, .int (nI k), .int v])), (tr, eI D 20 (trW (upd f n 11) (n + 1) (wL k)))]) rfl rfl rfl rfl ?_
    exact v_ireturn O T rfl rfl (by decide) (by decide) dX0_does_78 (⟨rfl, by rw [show n + (hL k 5).length = n + 1 + (wL k).length from by rw [show (hL k 5).length = (wL k).length + 1 from rfl]; omega]; rfl⟩)
  · skip
    have z1 := (not_congr (c_le (x := nI dp) (y := 30) (a := dp) (b := 30) rfl rfl (by omega) (by omega))).mp z1
    exact absurd z1 (by omega)
set_option maxRecDepth 100000 in
set_option maxHeartbeats 4000000 in
theorem sp_X0_runs_20 {D : G} {bo : Nat} {tr : Nat} {n : Nat} {i : Int32} {k : Nat} {v : Int32} {f : Nat → Int32} {x : Int32} {dp : Nat} (hk : k < 7) (hn : n ≤ 9) (hdp : dp ≤ 9) : Sp D mX0_runs 6 0 0 [.ref bo, .int 20, .int x, .int 0, .int (nI dp)] [(bo, .inr (0, [.ref tr, .int (nI n), .int i, .int (nI k), .int v])), (tr, eI D 20 f)] (fun r w => r = some (.int (hV i v k x 0 ^^^ 6)) ∧ w = [(bo, .inr (0, [.ref tr, .int (nI (n + (hL k 0).length)), .int i, .int (nI k), .int v])), (tr, eI D 20 (trW f n (hL k 0)))]) := by
  refine Sp.of (by decide) (Nat.le_of_ble_eq_true rfl) (fun X O T => ?_)
  refine v_eq (lv' := [(0, .ref bo), (1, .int 20), (2, .int x), (3, .int 0), (4, .int (nI dp))]) rfl rfl rfl rfl ?_
  refine v_iload_n O dX0_runs_0 1 rfl ?_
  refine v_lks (off := 139) O 140 dX0_runs_1 (by decide) (by decide) (by decide) ?_
  refine v_aload_n O dX0_runs_140 0 rfl ?_
  refine v_iconst (v := 1) O dX0_runs_141 (by decide) ?_
  refine v_iload_n O dX0_runs_142 2 rfl ?_
  refine v_iload_n O dX0_runs_143 3 rfl ?_
  refine v_iload O dX0_runs_144 4 rfl ?_
  refine v_cV (T := TX0) (ci := 0) (As := [.int 1, .int x, .int 0, .int (nI dp)]) (wr := []) (st := []) O cf_X0_28 rfl (sp_X0_does_H0 (bo := bo) (tr := tr) (n := n) (i := i) (k := k) (v := v) (f := f) (x := x) (dp := dp) (hk) (by have zl1 := wL_len k hk; have zl2 := hL_len k hk 3 (by decide); have zl3 := hL_len k hk k hk; have zl4 : (tL k 0).length = (hL k k).length + 1 := rfl; omega) (by omega)) dX0_runs_146 rfl rfl 0 rfl [0, 1] [] (by decide) rfl rfl (by decide) (by decide) (by decide) (Nat.le_of_ble_eq_true rfl) (by decide) (by decide) (fun r_2 w_3 h_1 => ?_)
  obtain ⟨rfl, rfl⟩ := h_1
  refine v_eq (st' := [.int (hV i v k x 0)]) (ws' := [(bo, .inr (0, [.ref tr, .int (nI (n + (hL k 0).length)), .int i, .int (nI k), .int v])), (tr, eI D 20 (trW f n (hL k 0)))]) rfl rfl rfl rfl ?_
  refine v_bipush (v := 6) O dX0_runs_149 (by decide) ?_
  refine v_ixor O dX0_runs_151 ?_
  exact v_ireturn O T rfl rfl (by decide) (by decide) dX0_runs_152 (⟨rfl, rfl⟩)
set_option maxRecDepth 100000 in
set_option maxHeartbeats 4000000 in
theorem sp_X0_does_H1 {D : G} {bo : Nat} {tr : Nat} {n : Nat} {i : Int32} {k : Nat} {v : Int32} {f : Nat → Int32} {x : Int32} {dp : Nat} (hk : k < 7) (hn : n ≤ 8) (hdp : dp ≤ 8) : Sp D mX0_does 7 0 0 [.ref bo, .int 1, .int x, .int 1, .int (nI dp)] [(bo, .inr (0, [.ref tr, .int (nI n), .int i, .int (nI k), .int v])), (tr, eI D 20 f)] (fun r w => r = some (.int (hV i v k x 1)) ∧ w = [(bo, .inr (0, [.ref tr, .int (nI (n + (hL k 1).length)), .int i, .int (nI k), .int v])), (tr, eI D 20 (trW f n (hL k 1)))]) := by
  refine Sp.of (by decide) (Nat.le_of_ble_eq_true rfl) (fun X O T => ?_)
  refine v_eq (lv' := [(0, .ref bo), (1, .int 1), (2, .int x), (3, .int 1), (4, .int (nI dp))]) rfl rfl rfl rfl ?_
  refine v_iload_n O dX0_does_0 3 rfl ?_
  refine v_istore (lv' := [(0, .ref bo), (1, .int 1), (2, .int x), (3, .int 1), (4, .int (nI dp)), (5, .int 1)]) O dX0_does_1 (by decide) rfl ?_
  refine v_iconst (v := 0) O dX0_does_3 (by decide) ?_
  refine v_istore (lv' := [(0, .ref bo), (1, .int 1), (2, .int x), (3, .int 1), (4, .int (nI dp)), (5, .int 1), (6, .int 0)]) O dX0_does_4 (by decide) rfl ?_
  refine v_iload O dX0_does_6 6 rfl ?_
  refine v_iconst (v := 3) O dX0_does_8 (by decide) ?_
  refine v_icmp_ge O 34 dX0_does_9 (by decide) (fun c => absurd c (by decide)) (fun _ => ?_)
  refine v_iload O dX0_does_12 5 rfl ?_
  refine v_iload_n O dX0_does_14 1 rfl ?_
  refine v_cS (As := [.int 1, .int 1]) (wr := [(bo, .inr (0, [.ref tr, .int (nI n), .int i, .int (nI k), .int v])), (tr, eI D 20 f)]) (st := []) O cf_X0_36 (sp_X0_number (k := 1) (a := 1) (by decide) (by decide)) dX0_does_15 rfl rfl [] [0, 1] (by decide) rfl rfl (by decide) (by decide) (by decide) (Nat.le_of_ble_eq_true rfl) (by decide) (by decide) (fun r_3 w_4 h_2 => ?_)
  obtain ⟨rfl, rfl⟩ := h_2
  refine v_eq (st' := [.int (x_num (1 * 3 + 1))]) (ws' := [(bo, .inr (0, [.ref tr, .int (nI n), .int i, .int (nI k), .int v])), (tr, eI D 20 f)]) rfl rfl rfl rfl ?_
  refine v_top (y := 20) (by decide) ?_
  refine v_if_ne O 34 dX0_does_18 (by decide) (fun _ => ?_) (fun c => absurd c (by decide))
  refine v_iload O dX0_does_34 5 rfl ?_
  refine v_iload_n O dX0_does_36 1 rfl ?_
  refine v_cS (As := [.int 1, .int 1]) (wr := [(bo, .inr (0, [.ref tr, .int (nI n), .int i, .int (nI k), .int v])), (tr, eI D 20 f)]) (st := []) O cf_X0_36 (sp_X0_number (k := 1) (a := 1) (by decide) (by decide)) dX0_does_37 rfl rfl [] [0, 1] (by decide) rfl rfl (by decide) (by decide) (by decide) (Nat.le_of_ble_eq_true rfl) (by decide) (by decide) (fun r_7 w_8 h_6 => ?_)
  obtain ⟨rfl, rfl⟩ := h_6
  refine v_eq (st' := [.int (x_num (1 * 3 + 1))]) (ws' := [(bo, .inr (0, [.ref tr, .int (nI n), .int i, .int (nI k), .int v])), (tr, eI D 20 f)]) rfl rfl rfl rfl ?_
  refine v_top (y := 20) (by decide) ?_
  refine v_istore (lv' := [(0, .ref bo), (1, .int 1), (2, .int x), (3, .int 1), (4, .int (nI dp)), (5, .int 1), (6, .int 20)]) O dX0_does_40 (by decide) rfl ?_
  refine v_iload O dX0_does_42 6 rfl ?_
  refine v_if_eq O 54 dX0_does_44 (by decide) (fun c => absurd c (by decide)) (fun _ => ?_)
  refine v_iload O dX0_does_47 4 rfl ?_
  refine v_bipush (v := 30) O dX0_does_49 (by decide) ?_
  refine v_icmp_le O 56 dX0_does_51 (by decide) (fun z1 => ?_) (fun z1 => ?_)
  · skip
    have z1 := (c_le (x := nI dp) (y := 30) (a := dp) (b := 30) rfl rfl (by omega) (by omega)).mp z1
    refine v_aload_n O dX0_does_56 0 rfl ?_
    refine v_iload O dX0_does_57 6 rfl ?_
    refine v_cV (T := TX0) (ci := 0) (As := [.int 20]) (wr := []) (st := []) O cf_X0_44 rfl (sp_X0_begins (bo := bo) (tr := tr) (n := n) (i := i) (k := k) (v := v) (f := f) (b := 20) (by omega)) dX0_does_59 rfl rfl 0 rfl [0, 1] [] (by decide) rfl rfl (by decide) (by decide) (by decide) (Nat.le_of_ble_eq_true rfl) (by decide) (by decide) (fun r_11 w_12 h_10 => ?_)
    obtain ⟨rfl, rfl⟩ := h_10
    refine v_eq (st' := []) (ws' := [(bo, .inr (0, [.ref tr, .int (nI (n + 1)), .int i, .int (nI k), .int v])), (tr, eI D 20 (upd f n 20))]) rfl rfl rfl rfl ?_
    refine v_aload_n O dX0_does_62 0 rfl ?_
    refine v_iload O dX0_does_63 6 rfl ?_
    refine v_iload_n O dX0_does_65 2 rfl ?_
    refine v_iload O dX0_does_66 5 rfl ?_
    refine v_cSN (As := [.int 1]) (wr := [(bo, .inr (0, [.ref tr, .int (nI (n + 1)), .int i, .int (nI k), .int v])), (tr, eI D 20 (upd f n 20))]) (st := [.int x, .int 20, .ref bo]) O cf_X0_40 (sp_X9_aboveOf (k := 1) (by decide)) dX0_does_68 rfl rfl [] [0, 1] (by decide) rfl rfl (by decide) (by decide) (by decide) (Nat.le_of_ble_eq_true rfl) (by decide) (by decide) (fun r_14 w_15 h_13 => ?_)
    obtain ⟨rfl, rfl⟩ := h_13
    refine v_eq (st' := [.int (x_abv 1), .int x, .int 20, .ref bo]) (ws' := [(bo, .inr (0, [.ref tr, .int (nI (n + 1)), .int i, .int (nI k), .int v])), (tr, eI D 20 (upd f n 20))]) rfl rfl rfl rfl ?_
    refine v_top (y := 0) (by decide) ?_
    refine v_iload O dX0_does_71 4 rfl ?_
    refine v_iconst (v := 1) O dX0_does_73 (by decide) ?_
    refine v_iadd O dX0_does_74 ?_
    refine v_top (y := nI (dp + 1)) (nI_add dp 1) ?_
    refine v_cV (T := TX0) (ci := 0) (As := [.int 20, .int x, .int 0, .int (nI (dp + 1))]) (wr := []) (st := []) O cf_X0_48 rfl (sp_X0_runs_20 (bo := bo) (tr := tr) (n := (n + 1)) (i := i) (k := k) (v := v) (f := (upd f n 20)) (x := x) (dp := (dp + 1)) (hk) (by omega) (by omega)) dX0_does_75 rfl rfl 0 rfl [0, 1] [] (by decide) rfl rfl (by decide) (by decide) (by decide) (Nat.le_of_ble_eq_true rfl) (by decide) (by decide) (fun r_17 w_18 h_16 => ?_)
    obtain ⟨rfl, rfl⟩ := h_16
    refine v_eq (st' := [.int (hV i v k x 0 ^^^ 6)]) (ws' := [(bo, .inr (0, [.ref tr, .int (nI ((n + 1) + (hL k 0).length)), .int i, .int (nI k), .int v])), (tr, eI D 20 (trW (upd f n 20) (n + 1) (hL k 0)))]) rfl rfl rfl rfl ?_
    exact v_ireturn O T rfl rfl (by decide) (by decide) dX0_does_78 (⟨rfl, by rw [show n + (hL k 1).length = n + 1 + (hL k 0).length from by rw [show (hL k 1).length = (hL k 0).length + 1 from rfl]; omega]; rfl⟩)
  · skip
    have z1 := (not_congr (c_le (x := nI dp) (y := 30) (a := dp) (b := 30) rfl rfl (by omega) (by omega))).mp z1
    exact absurd z1 (by omega)
set_option maxRecDepth 100000 in
set_option maxHeartbeats 4000000 in
theorem sp_X0_runs_51 {D : G} {bo : Nat} {tr : Nat} {n : Nat} {i : Int32} {k : Nat} {v : Int32} {f : Nat → Int32} {x : Int32} {dp : Nat} (hk : k < 7) (hn : n ≤ 8) (hdp : dp ≤ 8) : Sp D mX0_runs 8 0 0 [.ref bo, .int 51, .int x, .int 1, .int (nI dp)] [(bo, .inr (0, [.ref tr, .int (nI n), .int i, .int (nI k), .int v])), (tr, eI D 20 f)] (fun r w => r = some (.int (hV i v k (x + 1) 1)) ∧ w = [(bo, .inr (0, [.ref tr, .int (nI (n + (hL k 1).length)), .int i, .int (nI k), .int v])), (tr, eI D 20 (trW f n (hL k 1)))]) := by
  refine Sp.of (by decide) (Nat.le_of_ble_eq_true rfl) (fun X O T => ?_)
  refine v_eq (lv' := [(0, .ref bo), (1, .int 51), (2, .int x), (3, .int 1), (4, .int (nI dp))]) rfl rfl rfl rfl ?_
  refine v_iload_n O dX0_runs_0 1 rfl ?_
  refine v_lks (off := 198) O 199 dX0_runs_1 (by decide) (by decide) (by decide) ?_
  refine v_aload_n O dX0_runs_199 0 rfl ?_
  refine v_iconst (v := 1) O dX0_runs_200 (by decide) ?_
  refine v_iload_n O dX0_runs_201 2 rfl ?_
  refine v_iconst (v := 1) O dX0_runs_202 (by decide) ?_
  refine v_iadd O dX0_runs_203 ?_
  refine v_iload_n O dX0_runs_204 3 rfl ?_
  refine v_iload O dX0_runs_205 4 rfl ?_
  refine v_cV (T := TX0) (ci := 0) (As := [.int 1, .int (x + 1), .int 1, .int (nI dp)]) (wr := []) (st := []) O cf_X0_28 rfl (sp_X0_does_H1 (bo := bo) (tr := tr) (n := n) (i := i) (k := k) (v := v) (f := f) (x := (x + 1)) (dp := dp) (hk) (by have zl1 := wL_len k hk; have zl2 := hL_len k hk 3 (by decide); have zl3 := hL_len k hk k hk; have zl4 : (tL k 0).length = (hL k k).length + 1 := rfl; omega) (by omega)) dX0_runs_207 rfl rfl 0 rfl [0, 1] [] (by decide) rfl rfl (by decide) (by decide) (by decide) (Nat.le_of_ble_eq_true rfl) (by decide) (by decide) (fun r_2 w_3 h_1 => ?_)
  obtain ⟨rfl, rfl⟩ := h_1
  refine v_eq (st' := [.int (hV i v k (x + 1) 1)]) (ws' := [(bo, .inr (0, [.ref tr, .int (nI (n + (hL k 1).length)), .int i, .int (nI k), .int v])), (tr, eI D 20 (trW f n (hL k 1)))]) rfl rfl rfl rfl ?_
  exact v_ireturn O T rfl rfl (by decide) (by decide) dX0_runs_210 (⟨rfl, rfl⟩)
set_option maxRecDepth 100000 in
set_option maxHeartbeats 4000000 in
theorem sp_X0_does_H4 {D : G} {bo : Nat} {tr : Nat} {n : Nat} {i : Int32} {k : Nat} {v : Int32} {f : Nat → Int32} {x : Int32} {dp : Nat} (hk : k < 7) (hn : n ≤ 7) (hdp : dp ≤ 7) : Sp D mX0_does 9 0 0 [.ref bo, .int 1, .int x, .int 4, .int (nI dp)] [(bo, .inr (0, [.ref tr, .int (nI n), .int i, .int (nI k), .int v])), (tr, eI D 20 f)] (fun r w => r = some (.int (hV i v k x 4)) ∧ w = [(bo, .inr (0, [.ref tr, .int (nI (n + (hL k 4).length)), .int i, .int (nI k), .int v])), (tr, eI D 20 (trW f n (hL k 4)))]) := by
  refine Sp.of (by decide) (Nat.le_of_ble_eq_true rfl) (fun X O T => ?_)
  refine v_eq (lv' := [(0, .ref bo), (1, .int 1), (2, .int x), (3, .int 4), (4, .int (nI dp))]) rfl rfl rfl rfl ?_
  refine v_iload_n O dX0_does_0 3 rfl ?_
  refine v_istore (lv' := [(0, .ref bo), (1, .int 1), (2, .int x), (3, .int 4), (4, .int (nI dp)), (5, .int 4)]) O dX0_does_1 (by decide) rfl ?_
  refine v_iconst (v := 0) O dX0_does_3 (by decide) ?_
  refine v_istore (lv' := [(0, .ref bo), (1, .int 1), (2, .int x), (3, .int 4), (4, .int (nI dp)), (5, .int 4), (6, .int 0)]) O dX0_does_4 (by decide) rfl ?_
  refine v_iload O dX0_does_6 6 rfl ?_
  refine v_iconst (v := 3) O dX0_does_8 (by decide) ?_
  refine v_icmp_ge O 34 dX0_does_9 (by decide) (fun c => absurd c (by decide)) (fun _ => ?_)
  refine v_iload O dX0_does_12 5 rfl ?_
  refine v_iload_n O dX0_does_14 1 rfl ?_
  refine v_cS (As := [.int 4, .int 1]) (wr := [(bo, .inr (0, [.ref tr, .int (nI n), .int i, .int (nI k), .int v])), (tr, eI D 20 f)]) (st := []) O cf_X0_36 (sp_X0_number (k := 4) (a := 1) (by decide) (by decide)) dX0_does_15 rfl rfl [] [0, 1] (by decide) rfl rfl (by decide) (by decide) (by decide) (Nat.le_of_ble_eq_true rfl) (by decide) (by decide) (fun r_3 w_4 h_2 => ?_)
  obtain ⟨rfl, rfl⟩ := h_2
  refine v_eq (st' := [.int (x_num (4 * 3 + 1))]) (ws' := [(bo, .inr (0, [.ref tr, .int (nI n), .int i, .int (nI k), .int v])), (tr, eI D 20 f)]) rfl rfl rfl rfl ?_
  refine v_top (y := 51) (by decide) ?_
  refine v_if_ne O 34 dX0_does_18 (by decide) (fun _ => ?_) (fun c => absurd c (by decide))
  refine v_iload O dX0_does_34 5 rfl ?_
  refine v_iload_n O dX0_does_36 1 rfl ?_
  refine v_cS (As := [.int 4, .int 1]) (wr := [(bo, .inr (0, [.ref tr, .int (nI n), .int i, .int (nI k), .int v])), (tr, eI D 20 f)]) (st := []) O cf_X0_36 (sp_X0_number (k := 4) (a := 1) (by decide) (by decide)) dX0_does_37 rfl rfl [] [0, 1] (by decide) rfl rfl (by decide) (by decide) (by decide) (Nat.le_of_ble_eq_true rfl) (by decide) (by decide) (fun r_7 w_8 h_6 => ?_)
  obtain ⟨rfl, rfl⟩ := h_6
  refine v_eq (st' := [.int (x_num (4 * 3 + 1))]) (ws' := [(bo, .inr (0, [.ref tr, .int (nI n), .int i, .int (nI k), .int v])), (tr, eI D 20 f)]) rfl rfl rfl rfl ?_
  refine v_top (y := 51) (by decide) ?_
  refine v_istore (lv' := [(0, .ref bo), (1, .int 1), (2, .int x), (3, .int 4), (4, .int (nI dp)), (5, .int 4), (6, .int 51)]) O dX0_does_40 (by decide) rfl ?_
  refine v_iload O dX0_does_42 6 rfl ?_
  refine v_if_eq O 54 dX0_does_44 (by decide) (fun c => absurd c (by decide)) (fun _ => ?_)
  refine v_iload O dX0_does_47 4 rfl ?_
  refine v_bipush (v := 30) O dX0_does_49 (by decide) ?_
  refine v_icmp_le O 56 dX0_does_51 (by decide) (fun z1 => ?_) (fun z1 => ?_)
  · skip
    have z1 := (c_le (x := nI dp) (y := 30) (a := dp) (b := 30) rfl rfl (by omega) (by omega)).mp z1
    refine v_aload_n O dX0_does_56 0 rfl ?_
    refine v_iload O dX0_does_57 6 rfl ?_
    refine v_cV (T := TX0) (ci := 0) (As := [.int 51]) (wr := []) (st := []) O cf_X0_44 rfl (sp_X0_begins (bo := bo) (tr := tr) (n := n) (i := i) (k := k) (v := v) (f := f) (b := 51) (by omega)) dX0_does_59 rfl rfl 0 rfl [0, 1] [] (by decide) rfl rfl (by decide) (by decide) (by decide) (Nat.le_of_ble_eq_true rfl) (by decide) (by decide) (fun r_11 w_12 h_10 => ?_)
    obtain ⟨rfl, rfl⟩ := h_10
    refine v_eq (st' := []) (ws' := [(bo, .inr (0, [.ref tr, .int (nI (n + 1)), .int i, .int (nI k), .int v])), (tr, eI D 20 (upd f n 51))]) rfl rfl rfl rfl ?_
    refine v_aload_n O dX0_does_62 0 rfl ?_
    refine v_iload O dX0_does_63 6 rfl ?_
    refine v_iload_n O dX0_does_65 2 rfl ?_
    refine v_iload O dX0_does_66 5 rfl ?_
    refine v_cSN (As := [.int 4]) (wr := [(bo, .inr (0, [.ref tr, .int (nI (n + 1)), .int i, .int (nI k), .int v])), (tr, eI D 20 (upd f n 51))]) (st := [.int x, .int 51, .ref bo]) O cf_X0_40 (sp_X9_aboveOf (k := 4) (by decide)) dX0_does_68 rfl rfl [] [0, 1] (by decide) rfl rfl (by decide) (by decide) (by decide) (Nat.le_of_ble_eq_true rfl) (by decide) (by decide) (fun r_14 w_15 h_13 => ?_)
    obtain ⟨rfl, rfl⟩ := h_13
    refine v_eq (st' := [.int (x_abv 4), .int x, .int 51, .ref bo]) (ws' := [(bo, .inr (0, [.ref tr, .int (nI (n + 1)), .int i, .int (nI k), .int v])), (tr, eI D 20 (upd f n 51))]) rfl rfl rfl rfl ?_
    refine v_top (y := 1) (by decide) ?_
    refine v_iload O dX0_does_71 4 rfl ?_
    refine v_iconst (v := 1) O dX0_does_73 (by decide) ?_
    refine v_iadd O dX0_does_74 ?_
    refine v_top (y := nI (dp + 1)) (nI_add dp 1) ?_
    refine v_cV (T := TX0) (ci := 0) (As := [.int 51, .int x, .int 1, .int (nI (dp + 1))]) (wr := []) (st := []) O cf_X0_48 rfl (sp_X0_runs_51 (bo := bo) (tr := tr) (n := (n + 1)) (i := i) (k := k) (v := v) (f := (upd f n 51)) (x := x) (dp := (dp + 1)) (hk) (by omega) (by omega)) dX0_does_75 rfl rfl 0 rfl [0, 1] [] (by decide) rfl rfl (by decide) (by decide) (by decide) (Nat.le_of_ble_eq_true rfl) (by decide) (by decide) (fun r_17 w_18 h_16 => ?_)
    obtain ⟨rfl, rfl⟩ := h_16
    refine v_eq (st' := [.int (hV i v k (x + 1) 1)]) (ws' := [(bo, .inr (0, [.ref tr, .int (nI ((n + 1) + (hL k 1).length)), .int i, .int (nI k), .int v])), (tr, eI D 20 (trW (upd f n 51) (n + 1) (hL k 1)))]) rfl rfl rfl rfl ?_
    exact v_ireturn O T rfl rfl (by decide) (by decide) dX0_does_78 (⟨rfl, by rw [show n + (hL k 4).length = n + 1 + (hL k 1).length from by rw [show (hL k 4).length = (hL k 1).length + 1 from rfl]; omega]; rfl⟩)
  · skip
    have z1 := (not_congr (c_le (x := nI dp) (y := 30) (a := dp) (b := 30) rfl rfl (by omega) (by omega))).mp z1
    exact absurd z1 (by omega)
set_option maxRecDepth 100000 in
set_option maxHeartbeats 4000000 in
theorem sp_X0_runs_70 {D : G} {bo : Nat} {tr : Nat} {n : Nat} {i : Int32} {k : Nat} {v : Int32} {f : Nat → Int32} {x : Int32} {dp : Nat} (hk : k < 7) (hn : n ≤ 8) (hdp : dp ≤ 8) : Sp D mX0_runs 6 0 0 [.ref bo, .int 70, .int x, .int 3, .int (nI dp)] [(bo, .inr (0, [.ref tr, .int (nI n), .int i, .int (nI k), .int v])), (tr, eI D 20 f)] (fun r w => r = some (.int (hV i v k x 3 + wV i v 2 3)) ∧ w = [(bo, .inr (0, [.ref tr, .int (nI (n + (hL k 3 ++ wL 3).length)), .int i, .int (nI k), .int v])), (tr, eI D 20 (trW f n (hL k 3 ++ wL 3)))]) := by
  refine Sp.of (by decide) (Nat.le_of_ble_eq_true rfl) (fun X O T => ?_)
  refine v_eq (lv' := [(0, .ref bo), (1, .int 70), (2, .int x), (3, .int 3), (4, .int (nI dp))]) rfl rfl rfl rfl ?_
  refine v_iload_n O dX0_runs_0 1 rfl ?_
  refine v_lks (off := 225) O 226 dX0_runs_1 (by decide) (by decide) (by decide) ?_
  refine v_aload_n O dX0_runs_226 0 rfl ?_
  refine v_iconst (v := 1) O dX0_runs_227 (by decide) ?_
  refine v_iload_n O dX0_runs_228 2 rfl ?_
  refine v_iload_n O dX0_runs_229 3 rfl ?_
  refine v_iload O dX0_runs_230 4 rfl ?_
  refine v_cV (T := TX0) (ci := 0) (As := [.int 1, .int x, .int 3, .int (nI dp)]) (wr := []) (st := []) O cf_X0_28 rfl (sp_X0_does_H3 (bo := bo) (tr := tr) (n := n) (i := i) (k := k) (v := v) (f := f) (x := x) (dp := dp) (hk) (by have zl1 := wL_len k hk; have zl2 := hL_len k hk 3 (by decide); have zl3 := hL_len k hk k hk; have zl4 : (tL k 0).length = (hL k k).length + 1 := rfl; omega) (by omega)) dX0_runs_232 rfl rfl 0 rfl [0, 1] [] (by decide) rfl rfl (by decide) (by decide) (by decide) (Nat.le_of_ble_eq_true rfl) (by decide) (by decide) (fun r_2 w_3 h_1 => ?_)
  obtain ⟨rfl, rfl⟩ := h_1
  refine v_eq (st' := [.int (hV i v k x 3)]) (ws' := [(bo, .inr (0, [.ref tr, .int (nI (n + (hL k 3).length)), .int i, .int (nI k), .int v])), (tr, eI D 20 (trW f n (hL k 3)))]) rfl rfl rfl rfl ?_
  refine v_aload_n O dX0_runs_235 0 rfl ?_
  refine v_iconst (v := 0) O dX0_runs_236 (by decide) ?_
  refine v_iconst (v := 2) O dX0_runs_237 (by decide) ?_
  refine v_iload_n O dX0_runs_238 3 rfl ?_
  refine v_iload O dX0_runs_239 4 rfl ?_
  refine v_cV (T := TX0) (ci := 0) (As := [.int 0, .int 2, .int 3, .int (nI dp)]) (wr := []) (st := [.int (hV i v k x 3)]) O cf_X0_28 rfl (sp_X0_does_W3 (bo := bo) (tr := tr) (n := (n + (hL k 3).length)) (i := i) (k := k) (v := v) (f := (trW f n (hL k 3))) (x := 2) (dp := dp) (hk) (by have zl1 := wL_len k hk; have zl2 := hL_len k hk 3 (by decide); have zl3 := hL_len k hk k hk; have zl4 : (tL k 0).length = (hL k k).length + 1 := rfl; omega) (by omega)) dX0_runs_241 rfl rfl 0 rfl [0, 1] [] (by decide) rfl rfl (by decide) (by decide) (by decide) (Nat.le_of_ble_eq_true rfl) (by decide) (by decide) (fun r_5 w_6 h_4 => ?_)
  obtain ⟨rfl, rfl⟩ := h_4
  refine v_eq (st' := [.int (wV i v 2 3), .int (hV i v k x 3)]) (ws' := [(bo, .inr (0, [.ref tr, .int (nI ((n + (hL k 3).length) + (wL 3).length)), .int i, .int (nI k), .int v])), (tr, eI D 20 (trW (trW f n (hL k 3)) (n + (hL k 3).length) (wL 3)))]) rfl rfl rfl rfl ?_
  refine v_iadd O dX0_runs_244 ?_
  exact v_ireturn O T rfl rfl (by decide) (by decide) dX0_runs_245 (⟨rfl, by rw [List.length_append, trW_app, Nat.add_assoc]⟩)
set_option maxRecDepth 100000 in
set_option maxHeartbeats 4000000 in
theorem sp_X0_does_H6 {D : G} {bo : Nat} {tr : Nat} {n : Nat} {i : Int32} {k : Nat} {v : Int32} {f : Nat → Int32} {x : Int32} {dp : Nat} (hk : k < 7) (hn : n ≤ 7) (hdp : dp ≤ 7) : Sp D mX0_does 7 0 0 [.ref bo, .int 1, .int x, .int 6, .int (nI dp)] [(bo, .inr (0, [.ref tr, .int (nI n), .int i, .int (nI k), .int v])), (tr, eI D 20 f)] (fun r w => r = some (.int (hV i v k x 6)) ∧ w = [(bo, .inr (0, [.ref tr, .int (nI (n + (hL k 6).length)), .int i, .int (nI k), .int v])), (tr, eI D 20 (trW f n (hL k 6)))]) := by
  refine Sp.of (by decide) (Nat.le_of_ble_eq_true rfl) (fun X O T => ?_)
  refine v_eq (lv' := [(0, .ref bo), (1, .int 1), (2, .int x), (3, .int 6), (4, .int (nI dp))]) rfl rfl rfl rfl ?_
  refine v_iload_n O dX0_does_0 3 rfl ?_
  refine v_istore (lv' := [(0, .ref bo), (1, .int 1), (2, .int x), (3, .int 6), (4, .int (nI dp)), (5, .int 6)]) O dX0_does_1 (by decide) rfl ?_
  refine v_iconst (v := 0) O dX0_does_3 (by decide) ?_
  refine v_istore (lv' := [(0, .ref bo), (1, .int 1), (2, .int x), (3, .int 6), (4, .int (nI dp)), (5, .int 6), (6, .int 0)]) O dX0_does_4 (by decide) rfl ?_
  refine v_iload O dX0_does_6 6 rfl ?_
  refine v_iconst (v := 3) O dX0_does_8 (by decide) ?_
  refine v_icmp_ge O 34 dX0_does_9 (by decide) (fun c => absurd c (by decide)) (fun _ => ?_)
  refine v_iload O dX0_does_12 5 rfl ?_
  refine v_iload_n O dX0_does_14 1 rfl ?_
  refine v_cS (As := [.int 6, .int 1]) (wr := [(bo, .inr (0, [.ref tr, .int (nI n), .int i, .int (nI k), .int v])), (tr, eI D 20 f)]) (st := []) O cf_X0_36 (sp_X0_number (k := 6) (a := 1) (by decide) (by decide)) dX0_does_15 rfl rfl [] [0, 1] (by decide) rfl rfl (by decide) (by decide) (by decide) (Nat.le_of_ble_eq_true rfl) (by decide) (by decide) (fun r_3 w_4 h_2 => ?_)
  obtain ⟨rfl, rfl⟩ := h_2
  refine v_eq (st' := [.int (x_num (6 * 3 + 1))]) (ws' := [(bo, .inr (0, [.ref tr, .int (nI n), .int i, .int (nI k), .int v])), (tr, eI D 20 f)]) rfl rfl rfl rfl ?_
  refine v_top (y := 70) (by decide) ?_
  refine v_if_ne O 34 dX0_does_18 (by decide) (fun _ => ?_) (fun c => absurd c (by decide))
  refine v_iload O dX0_does_34 5 rfl ?_
  refine v_iload_n O dX0_does_36 1 rfl ?_
  refine v_cS (As := [.int 6, .int 1]) (wr := [(bo, .inr (0, [.ref tr, .int (nI n), .int i, .int (nI k), .int v])), (tr, eI D 20 f)]) (st := []) O cf_X0_36 (sp_X0_number (k := 6) (a := 1) (by decide) (by decide)) dX0_does_37 rfl rfl [] [0, 1] (by decide) rfl rfl (by decide) (by decide) (by decide) (Nat.le_of_ble_eq_true rfl) (by decide) (by decide) (fun r_7 w_8 h_6 => ?_)
  obtain ⟨rfl, rfl⟩ := h_6
  refine v_eq (st' := [.int (x_num (6 * 3 + 1))]) (ws' := [(bo, .inr (0, [.ref tr, .int (nI n), .int i, .int (nI k), .int v])), (tr, eI D 20 f)]) rfl rfl rfl rfl ?_
  refine v_top (y := 70) (by decide) ?_
  refine v_istore (lv' := [(0, .ref bo), (1, .int 1), (2, .int x), (3, .int 6), (4, .int (nI dp)), (5, .int 6), (6, .int 70)]) O dX0_does_40 (by decide) rfl ?_
  refine v_iload O dX0_does_42 6 rfl ?_
  refine v_if_eq O 54 dX0_does_44 (by decide) (fun c => absurd c (by decide)) (fun _ => ?_)
  refine v_iload O dX0_does_47 4 rfl ?_
  refine v_bipush (v := 30) O dX0_does_49 (by decide) ?_
  refine v_icmp_le O 56 dX0_does_51 (by decide) (fun z1 => ?_) (fun z1 => ?_)
  · skip
    have z1 := (c_le (x := nI dp) (y := 30) (a := dp) (b := 30) rfl rfl (by omega) (by omega)).mp z1
    refine v_aload_n O dX0_does_56 0 rfl ?_
    refine v_iload O dX0_does_57 6 rfl ?_
    refine v_cV (T := TX0) (ci := 0) (As := [.int 70]) (wr := []) (st := []) O cf_X0_44 rfl (sp_X0_begins (bo := bo) (tr := tr) (n := n) (i := i) (k := k) (v := v) (f := f) (b := 70) (by omega)) dX0_does_59 rfl rfl 0 rfl [0, 1] [] (by decide) rfl rfl (by decide) (by decide) (by decide) (Nat.le_of_ble_eq_true rfl) (by decide) (by decide) (fun r_11 w_12 h_10 => ?_)
    obtain ⟨rfl, rfl⟩ := h_10
    refine v_eq (st' := []) (ws' := [(bo, .inr (0, [.ref tr, .int (nI (n + 1)), .int i, .int (nI k), .int v])), (tr, eI D 20 (upd f n 70))]) rfl rfl rfl rfl ?_
    refine v_aload_n O dX0_does_62 0 rfl ?_
    refine v_iload O dX0_does_63 6 rfl ?_
    refine v_iload_n O dX0_does_65 2 rfl ?_
    refine v_iload O dX0_does_66 5 rfl ?_
    refine v_cSN (As := [.int 6]) (wr := [(bo, .inr (0, [.ref tr, .int (nI (n + 1)), .int i, .int (nI k), .int v])), (tr, eI D 20 (upd f n 70))]) (st := [.int x, .int 70, .ref bo]) O cf_X0_40 (sp_X9_aboveOf (k := 6) (by decide)) dX0_does_68 rfl rfl [] [0, 1] (by decide) rfl rfl (by decide) (by decide) (by decide) (Nat.le_of_ble_eq_true rfl) (by decide) (by decide) (fun r_14 w_15 h_13 => ?_)
    obtain ⟨rfl, rfl⟩ := h_13
    refine v_eq (st' := [.int (x_abv 6), .int x, .int 70, .ref bo]) (ws' := [(bo, .inr (0, [.ref tr, .int (nI (n + 1)), .int i, .int (nI k), .int v])), (tr, eI D 20 (upd f n 70))]) rfl rfl rfl rfl ?_
    refine v_top (y := 3) (by decide) ?_
    refine v_iload O dX0_does_71 4 rfl ?_
    refine v_iconst (v := 1) O dX0_does_73 (by decide) ?_
    refine v_iadd O dX0_does_74 ?_
    refine v_top (y := nI (dp + 1)) (nI_add dp 1) ?_
    refine v_cV (T := TX0) (ci := 0) (As := [.int 70, .int x, .int 3, .int (nI (dp + 1))]) (wr := []) (st := []) O cf_X0_48 rfl (sp_X0_runs_70 (bo := bo) (tr := tr) (n := (n + 1)) (i := i) (k := k) (v := v) (f := (upd f n 70)) (x := x) (dp := (dp + 1)) (hk) (by omega) (by omega)) dX0_does_75 rfl rfl 0 rfl [0, 1] [] (by decide) rfl rfl (by decide) (by decide) (by decide) (Nat.le_of_ble_eq_true rfl) (by decide) (by decide) (fun r_17 w_18 h_16 => ?_)
    obtain ⟨rfl, rfl⟩ := h_16
    refine v_eq (st' := [.int (hV i v k x 3 + wV i v 2 3)]) (ws' := [(bo, .inr (0, [.ref tr, .int (nI ((n + 1) + (hL k 3 ++ wL 3).length)), .int i, .int (nI k), .int v])), (tr, eI D 20 (trW (upd f n 70) (n + 1) (hL k 3 ++ wL 3)))]) rfl rfl rfl rfl ?_
    exact v_ireturn O T rfl rfl (by decide) (by decide) dX0_does_78 (⟨rfl, by rw [show n + (hL k 6).length = n + 1 + (hL k 3 ++ wL 3).length from by rw [show (hL k 6).length = (hL k 3 ++ wL 3).length + 1 from rfl]; omega]; rfl⟩)
  · skip
    have z1 := (not_congr (c_le (x := nI dp) (y := 30) (a := dp) (b := 30) rfl rfl (by omega) (by omega))).mp z1
    exact absurd z1 (by omega)
theorem sp_X0_does_Hk {D : G} {bo : Nat} {tr : Nat} {n : Nat} {i : Int32} {k : Nat} {v : Int32} {f : Nat → Int32} {x : Int32} {dp : Nat} (hk : k < 7) (hn : n ≤ 7) (hdp : dp ≤ 7) : Sp D mX0_does 9 0 0 [.ref bo, .int 1, .int x, .int (nI k), .int (nI dp)] [(bo, .inr (0, [.ref tr, .int (nI n), .int i, .int (nI k), .int v])), (tr, eI D 20 f)] (fun r w => r = some (.int (hV i v k x k)) ∧ w = [(bo, .inr (0, [.ref tr, .int (nI (n + (hL k k).length)), .int i, .int (nI k), .int v])), (tr, eI D 20 (trW f n (hL k k)))]) := by
  rcases (show k = 0 ∨ k = 1 ∨ k = 2 ∨ k = 3 ∨ k = 4 ∨ k = 5 ∨ k = 6 by omega) with rfl | rfl | rfl | rfl | rfl | rfl | rfl
  · exact Sp.up (sp_X0_does_H0 (by omega) (by omega) (by omega)) (by decide)
  · exact Sp.up (sp_X0_does_H1 (by omega) (by omega) (by omega)) (by decide)
  · exact Sp.up (sp_X0_does_H2 (by omega) (by omega) (by omega)) (by decide)
  · exact Sp.up (sp_X0_does_H3 (by omega) (by omega) (by omega)) (by decide)
  · exact Sp.up (sp_X0_does_H4 (by omega) (by omega) (by omega)) (by decide)
  · exact Sp.up (sp_X0_does_H5 (by omega) (by omega) (by omega)) (by decide)
  · exact Sp.up (sp_X0_does_H6 (by omega) (by omega) (by omega)) (by decide)
set_option maxRecDepth 100000 in
set_option maxHeartbeats 4000000 in
theorem sp_X0_runs_12 {D : G} {bo : Nat} {tr : Nat} {n : Nat} {i : Int32} {k : Nat} {v : Int32} {f : Nat → Int32} {x : Int32} {dp : Nat} (hk : k < 7) (hn : n ≤ 2) (hdp : dp ≤ 2) : Sp D mX0_runs 10 0 0 [.ref bo, .int 12, .int x, .int (-1), .int (nI dp)] [(bo, .inr (0, [.ref tr, .int (nI n), .int i, .int (nI k), .int v])), (tr, eI D 20 f)] (fun r w => r = some (.int (hV i v k x k * 2)) ∧ w = [(bo, .inr (0, [.ref tr, .int (nI (n + (hL k k).length)), .int i, .int (nI k), .int v])), (tr, eI D 20 (trW f n (hL k k)))]) := by
  refine Sp.of (by decide) (Nat.le_of_ble_eq_true rfl) (fun X O T => ?_)
  refine v_eq (lv' := [(0, .ref bo), (1, .int 12), (2, .int x), (3, .int (-1)), (4, .int (nI dp))]) rfl rfl rfl rfl ?_
  refine v_iload_n O dX0_runs_0 1 rfl ?_
  refine v_lks (off := 124) O 125 dX0_runs_1 (by decide) (by decide) (by decide) ?_
  refine v_aload_n O dX0_runs_125 0 rfl ?_
  refine v_iconst (v := 1) O dX0_runs_126 (by decide) ?_
  refine v_iload_n O dX0_runs_127 2 rfl ?_
  refine v_aload_n O dX0_runs_128 0 rfl ?_
  refine gf_X0_22 O rfl dX0_runs_129 0 rfl rfl ?_
  refine v_iload O dX0_runs_132 4 rfl ?_
  refine v_cV (T := TX0) (ci := 0) (As := [.int 1, .int x, .int (nI k), .int (nI dp)]) (wr := []) (st := []) O cf_X0_28 rfl (sp_X0_does_Hk (bo := bo) (tr := tr) (n := n) (i := i) (k := k) (v := v) (f := f) (x := x) (dp := dp) (hk) (by have zl1 := wL_len k hk; have zl2 := hL_len k hk 3 (by decide); have zl3 := hL_len k hk k hk; have zl4 : (tL k 0).length = (hL k k).length + 1 := rfl; omega) (by omega)) dX0_runs_134 rfl rfl 0 rfl [0, 1] [] (by decide) rfl rfl (by decide) (by decide) (by decide) (Nat.le_of_ble_eq_true rfl) (by decide) (by decide) (fun r_2 w_3 h_1 => ?_)
  obtain ⟨rfl, rfl⟩ := h_1
  refine v_eq (st' := [.int (hV i v k x k)]) (ws' := [(bo, .inr (0, [.ref tr, .int (nI (n + (hL k k).length)), .int i, .int (nI k), .int v])), (tr, eI D 20 (trW f n (hL k k)))]) rfl rfl rfl rfl ?_
  refine v_iconst (v := 2) O dX0_runs_137 (by decide) ?_
  refine v_imul O dX0_runs_138 ?_
  exact v_ireturn O T rfl rfl (by decide) (by decide) dX0_runs_139 (⟨rfl, rfl⟩)
set_option maxRecDepth 100000 in
set_option maxHeartbeats 4000000 in
theorem sp_X0_does_T0 {D : G} {bo : Nat} {tr : Nat} {n : Nat} {i : Int32} {k : Nat} {v : Int32} {f : Nat → Int32} {x : Int32} {dp : Nat} (hk : k < 7) (hn : n ≤ 1) (hdp : dp ≤ 1) : Sp D mX0_does 11 0 0 [.ref bo, .int 2, .int x, .int 0, .int (nI dp)] [(bo, .inr (0, [.ref tr, .int (nI n), .int i, .int (nI k), .int v])), (tr, eI D 20 f)] (fun r w => r = some (.int (tV i v k x 0)) ∧ w = [(bo, .inr (0, [.ref tr, .int (nI (n + (tL k 0).length)), .int i, .int (nI k), .int v])), (tr, eI D 20 (trW f n (tL k 0)))]) := by
  refine Sp.of (by decide) (Nat.le_of_ble_eq_true rfl) (fun X O T => ?_)
  refine v_eq (lv' := [(0, .ref bo), (1, .int 2), (2, .int x), (3, .int 0), (4, .int (nI dp))]) rfl rfl rfl rfl ?_
  refine v_iload_n O dX0_does_0 3 rfl ?_
  refine v_istore (lv' := [(0, .ref bo), (1, .int 2), (2, .int x), (3, .int 0), (4, .int (nI dp)), (5, .int 0)]) O dX0_does_1 (by decide) rfl ?_
  refine v_iconst (v := 0) O dX0_does_3 (by decide) ?_
  refine v_istore (lv' := [(0, .ref bo), (1, .int 2), (2, .int x), (3, .int 0), (4, .int (nI dp)), (5, .int 0), (6, .int 0)]) O dX0_does_4 (by decide) rfl ?_
  refine v_iload O dX0_does_6 6 rfl ?_
  refine v_iconst (v := 3) O dX0_does_8 (by decide) ?_
  refine v_icmp_ge O 34 dX0_does_9 (by decide) (fun c => absurd c (by decide)) (fun _ => ?_)
  refine v_iload O dX0_does_12 5 rfl ?_
  refine v_iload_n O dX0_does_14 1 rfl ?_
  refine v_cS (As := [.int 0, .int 2]) (wr := [(bo, .inr (0, [.ref tr, .int (nI n), .int i, .int (nI k), .int v])), (tr, eI D 20 f)]) (st := []) O cf_X0_36 (sp_X0_number (k := 0) (a := 2) (by decide) (by decide)) dX0_does_15 rfl rfl [] [0, 1] (by decide) rfl rfl (by decide) (by decide) (by decide) (Nat.le_of_ble_eq_true rfl) (by decide) (by decide) (fun r_3 w_4 h_2 => ?_)
  obtain ⟨rfl, rfl⟩ := h_2
  refine v_eq (st' := [.int (x_num (0 * 3 + 2))]) (ws' := [(bo, .inr (0, [.ref tr, .int (nI n), .int i, .int (nI k), .int v])), (tr, eI D 20 f)]) rfl rfl rfl rfl ?_
  refine v_top (y := 12) (by decide) ?_
  refine v_if_ne O 34 dX0_does_18 (by decide) (fun _ => ?_) (fun c => absurd c (by decide))
  refine v_iload O dX0_does_34 5 rfl ?_
  refine v_iload_n O dX0_does_36 1 rfl ?_
  refine v_cS (As := [.int 0, .int 2]) (wr := [(bo, .inr (0, [.ref tr, .int (nI n), .int i, .int (nI k), .int v])), (tr, eI D 20 f)]) (st := []) O cf_X0_36 (sp_X0_number (k := 0) (a := 2) (by decide) (by decide)) dX0_does_37 rfl rfl [] [0, 1] (by decide) rfl rfl (by decide) (by decide) (by decide) (Nat.le_of_ble_eq_true rfl) (by decide) (by decide) (fun r_7 w_8 h_6 => ?_)
  obtain ⟨rfl, rfl⟩ := h_6
  refine v_eq (st' := [.int (x_num (0 * 3 + 2))]) (ws' := [(bo, .inr (0, [.ref tr, .int (nI n), .int i, .int (nI k), .int v])), (tr, eI D 20 f)]) rfl rfl rfl rfl ?_
  refine v_top (y := 12) (by decide) ?_
  refine v_istore (lv' := [(0, .ref bo), (1, .int 2), (2, .int x), (3, .int 0), (4, .int (nI dp)), (5, .int 0), (6, .int 12)]) O dX0_does_40 (by decide) rfl ?_
  refine v_iload O dX0_does_42 6 rfl ?_
  refine v_if_eq O 54 dX0_does_44 (by decide) (fun c => absurd c (by decide)) (fun _ => ?_)
  refine v_iload O dX0_does_47 4 rfl ?_
  refine v_bipush (v := 30) O dX0_does_49 (by decide) ?_
  refine v_icmp_le O 56 dX0_does_51 (by decide) (fun z1 => ?_) (fun z1 => ?_)
  · skip
    have z1 := (c_le (x := nI dp) (y := 30) (a := dp) (b := 30) rfl rfl (by omega) (by omega)).mp z1
    refine v_aload_n O dX0_does_56 0 rfl ?_
    refine v_iload O dX0_does_57 6 rfl ?_
    refine v_cV (T := TX0) (ci := 0) (As := [.int 12]) (wr := []) (st := []) O cf_X0_44 rfl (sp_X0_begins (bo := bo) (tr := tr) (n := n) (i := i) (k := k) (v := v) (f := f) (b := 12) (by omega)) dX0_does_59 rfl rfl 0 rfl [0, 1] [] (by decide) rfl rfl (by decide) (by decide) (by decide) (Nat.le_of_ble_eq_true rfl) (by decide) (by decide) (fun r_11 w_12 h_10 => ?_)
    obtain ⟨rfl, rfl⟩ := h_10
    refine v_eq (st' := []) (ws' := [(bo, .inr (0, [.ref tr, .int (nI (n + 1)), .int i, .int (nI k), .int v])), (tr, eI D 20 (upd f n 12))]) rfl rfl rfl rfl ?_
    refine v_aload_n O dX0_does_62 0 rfl ?_
    refine v_iload O dX0_does_63 6 rfl ?_
    refine v_iload_n O dX0_does_65 2 rfl ?_
    refine v_iload O dX0_does_66 5 rfl ?_
    refine v_cSN (As := [.int 0]) (wr := [(bo, .inr (0, [.ref tr, .int (nI (n + 1)), .int i, .int (nI k), .int v])), (tr, eI D 20 (upd f n 12))]) (st := [.int x, .int 12, .ref bo]) O cf_X0_40 (sp_X9_aboveOf (k := 0) (by decide)) dX0_does_68 rfl rfl [] [0, 1] (by decide) rfl rfl (by decide) (by decide) (by decide) (Nat.le_of_ble_eq_true rfl) (by decide) (by decide) (fun r_14 w_15 h_13 => ?_)
    obtain ⟨rfl, rfl⟩ := h_13
    refine v_eq (st' := [.int (x_abv 0), .int x, .int 12, .ref bo]) (ws' := [(bo, .inr (0, [.ref tr, .int (nI (n + 1)), .int i, .int (nI k), .int v])), (tr, eI D 20 (upd f n 12))]) rfl rfl rfl rfl ?_
    refine v_top (y := -1) (by decide) ?_
    refine v_iload O dX0_does_71 4 rfl ?_
    refine v_iconst (v := 1) O dX0_does_73 (by decide) ?_
    refine v_iadd O dX0_does_74 ?_
    refine v_top (y := nI (dp + 1)) (nI_add dp 1) ?_
    refine v_cV (T := TX0) (ci := 0) (As := [.int 12, .int x, .int (-1), .int (nI (dp + 1))]) (wr := []) (st := []) O cf_X0_48 rfl (sp_X0_runs_12 (bo := bo) (tr := tr) (n := (n + 1)) (i := i) (k := k) (v := v) (f := (upd f n 12)) (x := x) (dp := (dp + 1)) (hk) (by omega) (by omega)) dX0_does_75 rfl rfl 0 rfl [0, 1] [] (by decide) rfl rfl (by decide) (by decide) (by decide) (Nat.le_of_ble_eq_true rfl) (by decide) (by decide) (fun r_17 w_18 h_16 => ?_)
    obtain ⟨rfl, rfl⟩ := h_16
    refine v_eq (st' := [.int (hV i v k x k * 2)]) (ws' := [(bo, .inr (0, [.ref tr, .int (nI ((n + 1) + (hL k k).length)), .int i, .int (nI k), .int v])), (tr, eI D 20 (trW (upd f n 12) (n + 1) (hL k k)))]) rfl rfl rfl rfl ?_
    exact v_ireturn O T rfl rfl (by decide) (by decide) dX0_does_78 (⟨rfl, by rw [show n + (tL k 0).length = n + 1 + (hL k k).length from by rw [show (tL k 0).length = (hL k k).length + 1 from rfl]; omega]; rfl⟩)
  · skip
    have z1 := (not_congr (c_le (x := nI dp) (y := 30) (a := dp) (b := 30) rfl rfl (by omega) (by omega))).mp z1
    exact absurd z1 (by omega)
set_option maxRecDepth 100000 in
set_option maxHeartbeats 4000000 in
theorem sp_X0_does_T1 {D : G} {bo : Nat} {tr : Nat} {n : Nat} {i : Int32} {k : Nat} {v : Int32} {f : Nat → Int32} {x : Int32} {dp : Nat} (hk : k < 7) (hn : n ≤ 1) (hdp : dp ≤ 1) : Sp D mX0_does 11 0 0 [.ref bo, .int 2, .int x, .int 1, .int (nI dp)] [(bo, .inr (0, [.ref tr, .int (nI n), .int i, .int (nI k), .int v])), (tr, eI D 20 f)] (fun r w => r = some (.int (tV i v k x 1)) ∧ w = [(bo, .inr (0, [.ref tr, .int (nI (n + (tL k 1).length)), .int i, .int (nI k), .int v])), (tr, eI D 20 (trW f n (tL k 1)))]) := by
  refine Sp.of (by decide) (Nat.le_of_ble_eq_true rfl) (fun X O T => ?_)
  refine v_eq (lv' := [(0, .ref bo), (1, .int 2), (2, .int x), (3, .int 1), (4, .int (nI dp))]) rfl rfl rfl rfl ?_
  refine v_iload_n O dX0_does_0 3 rfl ?_
  refine v_istore (lv' := [(0, .ref bo), (1, .int 2), (2, .int x), (3, .int 1), (4, .int (nI dp)), (5, .int 1)]) O dX0_does_1 (by decide) rfl ?_
  refine v_iconst (v := 0) O dX0_does_3 (by decide) ?_
  refine v_istore (lv' := [(0, .ref bo), (1, .int 2), (2, .int x), (3, .int 1), (4, .int (nI dp)), (5, .int 1), (6, .int 0)]) O dX0_does_4 (by decide) rfl ?_
  refine v_iload O dX0_does_6 6 rfl ?_
  refine v_iconst (v := 3) O dX0_does_8 (by decide) ?_
  refine v_icmp_ge O 34 dX0_does_9 (by decide) (fun c => absurd c (by decide)) (fun _ => ?_)
  refine v_iload O dX0_does_12 5 rfl ?_
  refine v_iload_n O dX0_does_14 1 rfl ?_
  refine v_cS (As := [.int 1, .int 2]) (wr := [(bo, .inr (0, [.ref tr, .int (nI n), .int i, .int (nI k), .int v])), (tr, eI D 20 f)]) (st := []) O cf_X0_36 (sp_X0_number (k := 1) (a := 2) (by decide) (by decide)) dX0_does_15 rfl rfl [] [0, 1] (by decide) rfl rfl (by decide) (by decide) (by decide) (Nat.le_of_ble_eq_true rfl) (by decide) (by decide) (fun r_3 w_4 h_2 => ?_)
  obtain ⟨rfl, rfl⟩ := h_2
  refine v_eq (st' := [.int (x_num (1 * 3 + 2))]) (ws' := [(bo, .inr (0, [.ref tr, .int (nI n), .int i, .int (nI k), .int v])), (tr, eI D 20 f)]) rfl rfl rfl rfl ?_
  refine v_top (y := 0) (by decide) ?_
  refine v_if_ne O 34 dX0_does_18 (by decide) (fun c => absurd c (by decide)) (fun _ => ?_)
  refine v_iload O dX0_does_21 5 rfl ?_
  refine v_cSN (As := [.int 1]) (wr := [(bo, .inr (0, [.ref tr, .int (nI n), .int i, .int (nI k), .int v])), (tr, eI D 20 f)]) (st := []) O cf_X0_40 (sp_X9_aboveOf (k := 1) (by decide)) dX0_does_23 rfl rfl [] [0, 1] (by decide) rfl rfl (by decide) (by decide) (by decide) (Nat.le_of_ble_eq_true rfl) (by decide) (by decide) (fun r_7 w_8 h_6 => ?_)
  obtain ⟨rfl, rfl⟩ := h_6
  refine v_eq (st' := [.int (x_abv 1)]) (ws' := [(bo, .inr (0, [.ref tr, .int (nI n), .int i, .int (nI k), .int v])), (tr, eI D 20 f)]) rfl rfl rfl rfl ?_
  refine v_top (y := 0) (by decide) ?_
  refine v_istore (lv' := [(0, .ref bo), (1, .int 2), (2, .int x), (3, .int 1), (4, .int (nI dp)), (5, .int 0), (6, .int 0)]) O dX0_does_26 (by decide) rfl ?_
  refine v_iinc (v := 1) (lv' := [(0, .ref bo), (1, .int 2), (2, .int x), (3, .int 1), (4, .int (nI dp)), (5, .int 0), (6, .int 1)]) O dX0_does_28 6 rfl (by decide) (by decide) rfl ?_
  refine v_goto O 6 dX0_does_31 (by decide) ?_
  refine v_iload O dX0_does_6 6 rfl ?_
  refine v_iconst (v := 3) O dX0_does_8 (by decide) ?_
  refine v_icmp_ge O 34 dX0_does_9 (by decide) (fun c => absurd c (by decide)) (fun _ => ?_)
  refine v_iload O dX0_does_12 5 rfl ?_
  refine v_iload_n O dX0_does_14 1 rfl ?_
  refine v_cS (As := [.int 0, .int 2]) (wr := [(bo, .inr (0, [.ref tr, .int (nI n), .int i, .int (nI k), .int v])), (tr, eI D 20 f)]) (st := []) O cf_X0_36 (sp_X0_number (k := 0) (a := 2) (by decide) (by decide)) dX0_does_15 rfl rfl [] [0, 1] (by decide) rfl rfl (by decide) (by decide) (by decide) (Nat.le_of_ble_eq_true rfl) (by decide) (by decide) (fun r_11 w_12 h_10 => ?_)
  obtain ⟨rfl, rfl⟩ := h_10
  refine v_eq (st' := [.int (x_num (0 * 3 + 2))]) (ws' := [(bo, .inr (0, [.ref tr, .int (nI n), .int i, .int (nI k), .int v])), (tr, eI D 20 f)]) rfl rfl rfl rfl ?_
  refine v_top (y := 12) (by decide) ?_
  refine v_if_ne O 34 dX0_does_18 (by decide) (fun _ => ?_) (fun c => absurd c (by decide))
  refine v_iload O dX0_does_34 5 rfl ?_
  refine v_iload_n O dX0_does_36 1 rfl ?_
  refine v_cS (As := [.int 0, .int 2]) (wr := [(bo, .inr (0, [.ref tr, .int (nI n), .int i, .int (nI k), .int v])), (tr, eI D 20 f)]) (st := []) O cf_X0_36 (sp_X0_number (k := 0) (a := 2) (by decide) (by decide)) dX0_does_37 rfl rfl [] [0, 1] (by decide) rfl rfl (by decide) (by decide) (by decide) (Nat.le_of_ble_eq_true rfl) (by decide) (by decide) (fun r_15 w_16 h_14 => ?_)
  obtain ⟨rfl, rfl⟩ := h_14
  refine v_eq (st' := [.int (x_num (0 * 3 + 2))]) (ws' := [(bo, .inr (0, [.ref tr, .int (nI n), .int i, .int (nI k), .int v])), (tr, eI D 20 f)]) rfl rfl rfl rfl ?_
  refine v_top (y := 12) (by decide) ?_
  refine v_istore (lv' := [(0, .ref bo), (1, .int 2), (2, .int x), (3, .int 1), (4, .int (nI dp)), (5, .int 0), (6, .int 12)]) O dX0_does_40 (by decide) rfl ?_
  refine v_iload O dX0_does_42 6 rfl ?_
  refine v_if_eq O 54 dX0_does_44 (by decide) (fun c => absurd c (by decide)) (fun _ => ?_)
  refine v_iload O dX0_does_47 4 rfl ?_
  refine v_bipush (v := 30) O dX0_does_49 (by decide) ?_
  refine v_icmp_le O 56 dX0_does_51 (by decide) (fun z1 => ?_) (fun z1 => ?_)
  · skip
    have z1 := (c_le (x := nI dp) (y := 30) (a := dp) (b := 30) rfl rfl (by omega) (by omega)).mp z1
    refine v_aload_n O dX0_does_56 0 rfl ?_
    refine v_iload O dX0_does_57 6 rfl ?_
    refine v_cV (T := TX0) (ci := 0) (As := [.int 12]) (wr := []) (st := []) O cf_X0_44 rfl (sp_X0_begins (bo := bo) (tr := tr) (n := n) (i := i) (k := k) (v := v) (f := f) (b := 12) (by omega)) dX0_does_59 rfl rfl 0 rfl [0, 1] [] (by decide) rfl rfl (by decide) (by decide) (by decide) (Nat.le_of_ble_eq_true rfl) (by decide) (by decide) (fun r_19 w_20 h_18 => ?_)
    obtain ⟨rfl, rfl⟩ := h_18
    refine v_eq (st' := []) (ws' := [(bo, .inr (0, [.ref tr, .int (nI (n + 1)), .int i, .int (nI k), .int v])), (tr, eI D 20 (upd f n 12))]) rfl rfl rfl rfl ?_
    refine v_aload_n O dX0_does_62 0 rfl ?_
    refine v_iload O dX0_does_63 6 rfl ?_
    refine v_iload_n O dX0_does_65 2 rfl ?_
    refine v_iload O dX0_does_66 5 rfl ?_
    refine v_cSN (As := [.int 0]) (wr := [(bo, .inr (0, [.ref tr, .int (nI (n + 1)), .int i, .int (nI k), .int v])), (tr, eI D 20 (upd f n 12))]) (st := [.int x, .int 12, .ref bo]) O cf_X0_40 (sp_X9_aboveOf (k := 0) (by decide)) dX0_does_68 rfl rfl [] [0, 1] (by decide) rfl rfl (by decide) (by decide) (by decide) (Nat.le_of_ble_eq_true rfl) (by decide) (by decide) (fun r_22 w_23 h_21 => ?_)
    obtain ⟨rfl, rfl⟩ := h_21
    refine v_eq (st' := [.int (x_abv 0), .int x, .int 12, .ref bo]) (ws' := [(bo, .inr (0, [.ref tr, .int (nI (n + 1)), .int i, .int (nI k), .int v])), (tr, eI D 20 (upd f n 12))]) rfl rfl rfl rfl ?_
    refine v_top (y := -1) (by decide) ?_
    refine v_iload O dX0_does_71 4 rfl ?_
    refine v_iconst (v := 1) O dX0_does_73 (by decide) ?_
    refine v_iadd O dX0_does_74 ?_
    refine v_top (y := nI (dp + 1)) (nI_add dp 1) ?_
    refine v_cV (T := TX0) (ci := 0) (As := [.int 12, .int x, .int (-1), .int (nI (dp + 1))]) (wr := []) (st := []) O cf_X0_48 rfl (sp_X0_runs_12 (bo := bo) (tr := tr) (n := (n + 1)) (i := i) (k := k) (v := v) (f := (upd f n 12)) (x := x) (dp := (dp + 1)) (hk) (by omega) (by omega)) dX0_does_75 rfl rfl 0 rfl [0, 1] [] (by decide) rfl rfl (by decide) (by decide) (by decide) (Nat.le_of_ble_eq_true rfl) (by decide) (by decide) (fun r_25 w_26 h_24 => ?_)
    obtain ⟨rfl, rfl⟩ := h_24
    refine v_eq (st' := [.int (hV i v k x k * 2)]) (ws' := [(bo, .inr (0, [.ref tr, .int (nI ((n + 1) + (hL k k).length)), .int i, .int (nI k), .int v])), (tr, eI D 20 (trW (upd f n 12) (n + 1) (hL k k)))]) rfl rfl rfl rfl ?_
    exact v_ireturn O T rfl rfl (by decide) (by decide) dX0_does_78 (⟨rfl, by rw [show n + (tL k 1).length = n + 1 + (hL k k).length from by rw [show (tL k 1).length = (hL k k).length + 1 from rfl]; omega]; rfl⟩)
  · skip
    have z1 := (not_congr (c_le (x := nI dp) (y := 30) (a := dp) (b := 30) rfl rfl (by omega) (by omega))).mp z1
    exact absurd z1 (by omega)
set_option maxRecDepth 100000 in
set_option maxHeartbeats 4000000 in
theorem sp_X0_does_T2 {D : G} {bo : Nat} {tr : Nat} {n : Nat} {i : Int32} {k : Nat} {v : Int32} {f : Nat → Int32} {x : Int32} {dp : Nat} (hk : k < 7) (hn : n ≤ 1) (hdp : dp ≤ 1) : Sp D mX0_does 11 0 0 [.ref bo, .int 2, .int x, .int 2, .int (nI dp)] [(bo, .inr (0, [.ref tr, .int (nI n), .int i, .int (nI k), .int v])), (tr, eI D 20 f)] (fun r w => r = some (.int (tV i v k x 2)) ∧ w = [(bo, .inr (0, [.ref tr, .int (nI (n + (tL k 2).length)), .int i, .int (nI k), .int v])), (tr, eI D 20 (trW f n (tL k 2)))]) := by
  refine Sp.of (by decide) (Nat.le_of_ble_eq_true rfl) (fun X O T => ?_)
  refine v_eq (lv' := [(0, .ref bo), (1, .int 2), (2, .int x), (3, .int 2), (4, .int (nI dp))]) rfl rfl rfl rfl ?_
  refine v_iload_n O dX0_does_0 3 rfl ?_
  refine v_istore (lv' := [(0, .ref bo), (1, .int 2), (2, .int x), (3, .int 2), (4, .int (nI dp)), (5, .int 2)]) O dX0_does_1 (by decide) rfl ?_
  refine v_iconst (v := 0) O dX0_does_3 (by decide) ?_
  refine v_istore (lv' := [(0, .ref bo), (1, .int 2), (2, .int x), (3, .int 2), (4, .int (nI dp)), (5, .int 2), (6, .int 0)]) O dX0_does_4 (by decide) rfl ?_
  refine v_iload O dX0_does_6 6 rfl ?_
  refine v_iconst (v := 3) O dX0_does_8 (by decide) ?_
  refine v_icmp_ge O 34 dX0_does_9 (by decide) (fun c => absurd c (by decide)) (fun _ => ?_)
  refine v_iload O dX0_does_12 5 rfl ?_
  refine v_iload_n O dX0_does_14 1 rfl ?_
  refine v_cS (As := [.int 2, .int 2]) (wr := [(bo, .inr (0, [.ref tr, .int (nI n), .int i, .int (nI k), .int v])), (tr, eI D 20 f)]) (st := []) O cf_X0_36 (sp_X0_number (k := 2) (a := 2) (by decide) (by decide)) dX0_does_15 rfl rfl [] [0, 1] (by decide) rfl rfl (by decide) (by decide) (by decide) (Nat.le_of_ble_eq_true rfl) (by decide) (by decide) (fun r_3 w_4 h_2 => ?_)
  obtain ⟨rfl, rfl⟩ := h_2
  refine v_eq (st' := [.int (x_num (2 * 3 + 2))]) (ws' := [(bo, .inr (0, [.ref tr, .int (nI n), .int i, .int (nI k), .int v])), (tr, eI D 20 f)]) rfl rfl rfl rfl ?_
  refine v_top (y := 0) (by decide) ?_
  refine v_if_ne O 34 dX0_does_18 (by decide) (fun c => absurd c (by decide)) (fun _ => ?_)
  refine v_iload O dX0_does_21 5 rfl ?_
  refine v_cSN (As := [.int 2]) (wr := [(bo, .inr (0, [.ref tr, .int (nI n), .int i, .int (nI k), .int v])), (tr, eI D 20 f)]) (st := []) O cf_X0_40 (sp_X9_aboveOf (k := 2) (by decide)) dX0_does_23 rfl rfl [] [0, 1] (by decide) rfl rfl (by decide) (by decide) (by decide) (Nat.le_of_ble_eq_true rfl) (by decide) (by decide) (fun r_7 w_8 h_6 => ?_)
  obtain ⟨rfl, rfl⟩ := h_6
  refine v_eq (st' := [.int (x_abv 2)]) (ws' := [(bo, .inr (0, [.ref tr, .int (nI n), .int i, .int (nI k), .int v])), (tr, eI D 20 f)]) rfl rfl rfl rfl ?_
  refine v_top (y := 0) (by decide) ?_
  refine v_istore (lv' := [(0, .ref bo), (1, .int 2), (2, .int x), (3, .int 2), (4, .int (nI dp)), (5, .int 0), (6, .int 0)]) O dX0_does_26 (by decide) rfl ?_
  refine v_iinc (v := 1) (lv' := [(0, .ref bo), (1, .int 2), (2, .int x), (3, .int 2), (4, .int (nI dp)), (5, .int 0), (6, .int 1)]) O dX0_does_28 6 rfl (by decide) (by decide) rfl ?_
  refine v_goto O 6 dX0_does_31 (by decide) ?_
  refine v_iload O dX0_does_6 6 rfl ?_
  refine v_iconst (v := 3) O dX0_does_8 (by decide) ?_
  refine v_icmp_ge O 34 dX0_does_9 (by decide) (fun c => absurd c (by decide)) (fun _ => ?_)
  refine v_iload O dX0_does_12 5 rfl ?_
  refine v_iload_n O dX0_does_14 1 rfl ?_
  refine v_cS (As := [.int 0, .int 2]) (wr := [(bo, .inr (0, [.ref tr, .int (nI n), .int i, .int (nI k), .int v])), (tr, eI D 20 f)]) (st := []) O cf_X0_36 (sp_X0_number (k := 0) (a := 2) (by decide) (by decide)) dX0_does_15 rfl rfl [] [0, 1] (by decide) rfl rfl (by decide) (by decide) (by decide) (Nat.le_of_ble_eq_true rfl) (by decide) (by decide) (fun r_11 w_12 h_10 => ?_)
  obtain ⟨rfl, rfl⟩ := h_10
  refine v_eq (st' := [.int (x_num (0 * 3 + 2))]) (ws' := [(bo, .inr (0, [.ref tr, .int (nI n), .int i, .int (nI k), .int v])), (tr, eI D 20 f)]) rfl rfl rfl rfl ?_
  refine v_top (y := 12) (by decide) ?_
  refine v_if_ne O 34 dX0_does_18 (by decide) (fun _ => ?_) (fun c => absurd c (by decide))
  refine v_iload O dX0_does_34 5 rfl ?_
  refine v_iload_n O dX0_does_36 1 rfl ?_
  refine v_cS (As := [.int 0, .int 2]) (wr := [(bo, .inr (0, [.ref tr, .int (nI n), .int i, .int (nI k), .int v])), (tr, eI D 20 f)]) (st := []) O cf_X0_36 (sp_X0_number (k := 0) (a := 2) (by decide) (by decide)) dX0_does_37 rfl rfl [] [0, 1] (by decide) rfl rfl (by decide) (by decide) (by decide) (Nat.le_of_ble_eq_true rfl) (by decide) (by decide) (fun r_15 w_16 h_14 => ?_)
  obtain ⟨rfl, rfl⟩ := h_14
  refine v_eq (st' := [.int (x_num (0 * 3 + 2))]) (ws' := [(bo, .inr (0, [.ref tr, .int (nI n), .int i, .int (nI k), .int v])), (tr, eI D 20 f)]) rfl rfl rfl rfl ?_
  refine v_top (y := 12) (by decide) ?_
  refine v_istore (lv' := [(0, .ref bo), (1, .int 2), (2, .int x), (3, .int 2), (4, .int (nI dp)), (5, .int 0), (6, .int 12)]) O dX0_does_40 (by decide) rfl ?_
  refine v_iload O dX0_does_42 6 rfl ?_
  refine v_if_eq O 54 dX0_does_44 (by decide) (fun c => absurd c (by decide)) (fun _ => ?_)
  refine v_iload O dX0_does_47 4 rfl ?_
  refine v_bipush (v := 30) O dX0_does_49 (by decide) ?_
  refine v_icmp_le O 56 dX0_does_51 (by decide) (fun z1 => ?_) (fun z1 => ?_)
  · skip
    have z1 := (c_le (x := nI dp) (y := 30) (a := dp) (b := 30) rfl rfl (by omega) (by omega)).mp z1
    refine v_aload_n O dX0_does_56 0 rfl ?_
    refine v_iload O dX0_does_57 6 rfl ?_
    refine v_cV (T := TX0) (ci := 0) (As := [.int 12]) (wr := []) (st := []) O cf_X0_44 rfl (sp_X0_begins (bo := bo) (tr := tr) (n := n) (i := i) (k := k) (v := v) (f := f) (b := 12) (by omega)) dX0_does_59 rfl rfl 0 rfl [0, 1] [] (by decide) rfl rfl (by decide) (by decide) (by decide) (Nat.le_of_ble_eq_true rfl) (by decide) (by decide) (fun r_19 w_20 h_18 => ?_)
    obtain ⟨rfl, rfl⟩ := h_18
    refine v_eq (st' := []) (ws' := [(bo, .inr (0, [.ref tr, .int (nI (n + 1)), .int i, .int (nI k), .int v])), (tr, eI D 20 (upd f n 12))]) rfl rfl rfl rfl ?_
    refine v_aload_n O dX0_does_62 0 rfl ?_
    refine v_iload O dX0_does_63 6 rfl ?_
    refine v_iload_n O dX0_does_65 2 rfl ?_
    refine v_iload O dX0_does_66 5 rfl ?_
    refine v_cSN (As := [.int 0]) (wr := [(bo, .inr (0, [.ref tr, .int (nI (n + 1)), .int i, .int (nI k), .int v])), (tr, eI D 20 (upd f n 12))]) (st := [.int x, .int 12, .ref bo]) O cf_X0_40 (sp_X9_aboveOf (k := 0) (by decide)) dX0_does_68 rfl rfl [] [0, 1] (by decide) rfl rfl (by decide) (by decide) (by decide) (Nat.le_of_ble_eq_true rfl) (by decide) (by decide) (fun r_22 w_23 h_21 => ?_)
    obtain ⟨rfl, rfl⟩ := h_21
    refine v_eq (st' := [.int (x_abv 0), .int x, .int 12, .ref bo]) (ws' := [(bo, .inr (0, [.ref tr, .int (nI (n + 1)), .int i, .int (nI k), .int v])), (tr, eI D 20 (upd f n 12))]) rfl rfl rfl rfl ?_
    refine v_top (y := -1) (by decide) ?_
    refine v_iload O dX0_does_71 4 rfl ?_
    refine v_iconst (v := 1) O dX0_does_73 (by decide) ?_
    refine v_iadd O dX0_does_74 ?_
    refine v_top (y := nI (dp + 1)) (nI_add dp 1) ?_
    refine v_cV (T := TX0) (ci := 0) (As := [.int 12, .int x, .int (-1), .int (nI (dp + 1))]) (wr := []) (st := []) O cf_X0_48 rfl (sp_X0_runs_12 (bo := bo) (tr := tr) (n := (n + 1)) (i := i) (k := k) (v := v) (f := (upd f n 12)) (x := x) (dp := (dp + 1)) (hk) (by omega) (by omega)) dX0_does_75 rfl rfl 0 rfl [0, 1] [] (by decide) rfl rfl (by decide) (by decide) (by decide) (Nat.le_of_ble_eq_true rfl) (by decide) (by decide) (fun r_25 w_26 h_24 => ?_)
    obtain ⟨rfl, rfl⟩ := h_24
    refine v_eq (st' := [.int (hV i v k x k * 2)]) (ws' := [(bo, .inr (0, [.ref tr, .int (nI ((n + 1) + (hL k k).length)), .int i, .int (nI k), .int v])), (tr, eI D 20 (trW (upd f n 12) (n + 1) (hL k k)))]) rfl rfl rfl rfl ?_
    exact v_ireturn O T rfl rfl (by decide) (by decide) dX0_does_78 (⟨rfl, by rw [show n + (tL k 2).length = n + 1 + (hL k k).length from by rw [show (tL k 2).length = (hL k k).length + 1 from rfl]; omega]; rfl⟩)
  · skip
    have z1 := (not_congr (c_le (x := nI dp) (y := 30) (a := dp) (b := 30) rfl rfl (by omega) (by omega))).mp z1
    exact absurd z1 (by omega)
set_option maxRecDepth 100000 in
set_option maxHeartbeats 4000000 in
theorem sp_X0_does_T4 {D : G} {bo : Nat} {tr : Nat} {n : Nat} {i : Int32} {k : Nat} {v : Int32} {f : Nat → Int32} {x : Int32} {dp : Nat} (hk : k < 7) (hn : n ≤ 1) (hdp : dp ≤ 1) : Sp D mX0_does 11 0 0 [.ref bo, .int 2, .int x, .int 4, .int (nI dp)] [(bo, .inr (0, [.ref tr, .int (nI n), .int i, .int (nI k), .int v])), (tr, eI D 20 f)] (fun r w => r = some (.int (tV i v k x 4)) ∧ w = [(bo, .inr (0, [.ref tr, .int (nI (n + (tL k 4).length)), .int i, .int (nI k), .int v])), (tr, eI D 20 (trW f n (tL k 4)))]) := by
  refine Sp.of (by decide) (Nat.le_of_ble_eq_true rfl) (fun X O T => ?_)
  refine v_eq (lv' := [(0, .ref bo), (1, .int 2), (2, .int x), (3, .int 4), (4, .int (nI dp))]) rfl rfl rfl rfl ?_
  refine v_iload_n O dX0_does_0 3 rfl ?_
  refine v_istore (lv' := [(0, .ref bo), (1, .int 2), (2, .int x), (3, .int 4), (4, .int (nI dp)), (5, .int 4)]) O dX0_does_1 (by decide) rfl ?_
  refine v_iconst (v := 0) O dX0_does_3 (by decide) ?_
  refine v_istore (lv' := [(0, .ref bo), (1, .int 2), (2, .int x), (3, .int 4), (4, .int (nI dp)), (5, .int 4), (6, .int 0)]) O dX0_does_4 (by decide) rfl ?_
  refine v_iload O dX0_does_6 6 rfl ?_
  refine v_iconst (v := 3) O dX0_does_8 (by decide) ?_
  refine v_icmp_ge O 34 dX0_does_9 (by decide) (fun c => absurd c (by decide)) (fun _ => ?_)
  refine v_iload O dX0_does_12 5 rfl ?_
  refine v_iload_n O dX0_does_14 1 rfl ?_
  refine v_cS (As := [.int 4, .int 2]) (wr := [(bo, .inr (0, [.ref tr, .int (nI n), .int i, .int (nI k), .int v])), (tr, eI D 20 f)]) (st := []) O cf_X0_36 (sp_X0_number (k := 4) (a := 2) (by decide) (by decide)) dX0_does_15 rfl rfl [] [0, 1] (by decide) rfl rfl (by decide) (by decide) (by decide) (Nat.le_of_ble_eq_true rfl) (by decide) (by decide) (fun r_3 w_4 h_2 => ?_)
  obtain ⟨rfl, rfl⟩ := h_2
  refine v_eq (st' := [.int (x_num (4 * 3 + 2))]) (ws' := [(bo, .inr (0, [.ref tr, .int (nI n), .int i, .int (nI k), .int v])), (tr, eI D 20 f)]) rfl rfl rfl rfl ?_
  refine v_top (y := 0) (by decide) ?_
  refine v_if_ne O 34 dX0_does_18 (by decide) (fun c => absurd c (by decide)) (fun _ => ?_)
  refine v_iload O dX0_does_21 5 rfl ?_
  refine v_cSN (As := [.int 4]) (wr := [(bo, .inr (0, [.ref tr, .int (nI n), .int i, .int (nI k), .int v])), (tr, eI D 20 f)]) (st := []) O cf_X0_40 (sp_X9_aboveOf (k := 4) (by decide)) dX0_does_23 rfl rfl [] [0, 1] (by decide) rfl rfl (by decide) (by decide) (by decide) (Nat.le_of_ble_eq_true rfl) (by decide) (by decide) (fun r_7 w_8 h_6 => ?_)
  obtain ⟨rfl, rfl⟩ := h_6
  refine v_eq (st' := [.int (x_abv 4)]) (ws' := [(bo, .inr (0, [.ref tr, .int (nI n), .int i, .int (nI k), .int v])), (tr, eI D 20 f)]) rfl rfl rfl rfl ?_
  refine v_top (y := 1) (by decide) ?_
  refine v_istore (lv' := [(0, .ref bo), (1, .int 2), (2, .int x), (3, .int 4), (4, .int (nI dp)), (5, .int 1), (6, .int 0)]) O dX0_does_26 (by decide) rfl ?_
  refine v_iinc (v := 1) (lv' := [(0, .ref bo), (1, .int 2), (2, .int x), (3, .int 4), (4, .int (nI dp)), (5, .int 1), (6, .int 1)]) O dX0_does_28 6 rfl (by decide) (by decide) rfl ?_
  refine v_goto O 6 dX0_does_31 (by decide) ?_
  refine v_iload O dX0_does_6 6 rfl ?_
  refine v_iconst (v := 3) O dX0_does_8 (by decide) ?_
  refine v_icmp_ge O 34 dX0_does_9 (by decide) (fun c => absurd c (by decide)) (fun _ => ?_)
  refine v_iload O dX0_does_12 5 rfl ?_
  refine v_iload_n O dX0_does_14 1 rfl ?_
  refine v_cS (As := [.int 1, .int 2]) (wr := [(bo, .inr (0, [.ref tr, .int (nI n), .int i, .int (nI k), .int v])), (tr, eI D 20 f)]) (st := []) O cf_X0_36 (sp_X0_number (k := 1) (a := 2) (by decide) (by decide)) dX0_does_15 rfl rfl [] [0, 1] (by decide) rfl rfl (by decide) (by decide) (by decide) (Nat.le_of_ble_eq_true rfl) (by decide) (by decide) (fun r_11 w_12 h_10 => ?_)
  obtain ⟨rfl, rfl⟩ := h_10
  refine v_eq (st' := [.int (x_num (1 * 3 + 2))]) (ws' := [(bo, .inr (0, [.ref tr, .int (nI n), .int i, .int (nI k), .int v])), (tr, eI D 20 f)]) rfl rfl rfl rfl ?_
  refine v_top (y := 0) (by decide) ?_
  refine v_if_ne O 34 dX0_does_18 (by decide) (fun c => absurd c (by decide)) (fun _ => ?_)
  refine v_iload O dX0_does_21 5 rfl ?_
  refine v_cSN (As := [.int 1]) (wr := [(bo, .inr (0, [.ref tr, .int (nI n), .int i, .int (nI k), .int v])), (tr, eI D 20 f)]) (st := []) O cf_X0_40 (sp_X9_aboveOf (k := 1) (by decide)) dX0_does_23 rfl rfl [] [0, 1] (by decide) rfl rfl (by decide) (by decide) (by decide) (Nat.le_of_ble_eq_true rfl) (by decide) (by decide) (fun r_15 w_16 h_14 => ?_)
  obtain ⟨rfl, rfl⟩ := h_14
  refine v_eq (st' := [.int (x_abv 1)]) (ws' := [(bo, .inr (0, [.ref tr, .int (nI n), .int i, .int (nI k), .int v])), (tr, eI D 20 f)]) rfl rfl rfl rfl ?_
  refine v_top (y := 0) (by decide) ?_
  refine v_istore (lv' := [(0, .ref bo), (1, .int 2), (2, .int x), (3, .int 4), (4, .int (nI dp)), (5, .int 0), (6, .int 1)]) O dX0_does_26 (by decide) rfl ?_
  refine v_iinc (v := 2) (lv' := [(0, .ref bo), (1, .int 2), (2, .int x), (3, .int 4), (4, .int (nI dp)), (5, .int 0), (6, .int 2)]) O dX0_does_28 6 rfl (by decide) (by decide) rfl ?_
  refine v_goto O 6 dX0_does_31 (by decide) ?_
  refine v_iload O dX0_does_6 6 rfl ?_
  refine v_iconst (v := 3) O dX0_does_8 (by decide) ?_
  refine v_icmp_ge O 34 dX0_does_9 (by decide) (fun c => absurd c (by decide)) (fun _ => ?_)
  refine v_iload O dX0_does_12 5 rfl ?_
  refine v_iload_n O dX0_does_14 1 rfl ?_
  refine v_cS (As := [.int 0, .int 2]) (wr := [(bo, .inr (0, [.ref tr, .int (nI n), .int i, .int (nI k), .int v])), (tr, eI D 20 f)]) (st := []) O cf_X0_36 (sp_X0_number (k := 0) (a := 2) (by decide) (by decide)) dX0_does_15 rfl rfl [] [0, 1] (by decide) rfl rfl (by decide) (by decide) (by decide) (Nat.le_of_ble_eq_true rfl) (by decide) (by decide) (fun r_19 w_20 h_18 => ?_)
  obtain ⟨rfl, rfl⟩ := h_18
  refine v_eq (st' := [.int (x_num (0 * 3 + 2))]) (ws' := [(bo, .inr (0, [.ref tr, .int (nI n), .int i, .int (nI k), .int v])), (tr, eI D 20 f)]) rfl rfl rfl rfl ?_
  refine v_top (y := 12) (by decide) ?_
  refine v_if_ne O 34 dX0_does_18 (by decide) (fun _ => ?_) (fun c => absurd c (by decide))
  refine v_iload O dX0_does_34 5 rfl ?_
  refine v_iload_n O dX0_does_36 1 rfl ?_
  refine v_cS (As := [.int 0, .int 2]) (wr := [(bo, .inr (0, [.ref tr, .int (nI n), .int i, .int (nI k), .int v])), (tr, eI D 20 f)]) (st := []) O cf_X0_36 (sp_X0_number (k := 0) (a := 2) (by decide) (by decide)) dX0_does_37 rfl rfl [] [0, 1] (by decide) rfl rfl (by decide) (by decide) (by decide) (Nat.le_of_ble_eq_true rfl) (by decide) (by decide) (fun r_23 w_24 h_22 => ?_)
  obtain ⟨rfl, rfl⟩ := h_22
  refine v_eq (st' := [.int (x_num (0 * 3 + 2))]) (ws' := [(bo, .inr (0, [.ref tr, .int (nI n), .int i, .int (nI k), .int v])), (tr, eI D 20 f)]) rfl rfl rfl rfl ?_
  refine v_top (y := 12) (by decide) ?_
  refine v_istore (lv' := [(0, .ref bo), (1, .int 2), (2, .int x), (3, .int 4), (4, .int (nI dp)), (5, .int 0), (6, .int 12)]) O dX0_does_40 (by decide) rfl ?_
  refine v_iload O dX0_does_42 6 rfl ?_
  refine v_if_eq O 54 dX0_does_44 (by decide) (fun c => absurd c (by decide)) (fun _ => ?_)
  refine v_iload O dX0_does_47 4 rfl ?_
  refine v_bipush (v := 30) O dX0_does_49 (by decide) ?_
  refine v_icmp_le O 56 dX0_does_51 (by decide) (fun z1 => ?_) (fun z1 => ?_)
  · skip
    have z1 := (c_le (x := nI dp) (y := 30) (a := dp) (b := 30) rfl rfl (by omega) (by omega)).mp z1
    refine v_aload_n O dX0_does_56 0 rfl ?_
    refine v_iload O dX0_does_57 6 rfl ?_
    refine v_cV (T := TX0) (ci := 0) (As := [.int 12]) (wr := []) (st := []) O cf_X0_44 rfl (sp_X0_begins (bo := bo) (tr := tr) (n := n) (i := i) (k := k) (v := v) (f := f) (b := 12) (by omega)) dX0_does_59 rfl rfl 0 rfl [0, 1] [] (by decide) rfl rfl (by decide) (by decide) (by decide) (Nat.le_of_ble_eq_true rfl) (by decide) (by decide) (fun r_27 w_28 h_26 => ?_)
    obtain ⟨rfl, rfl⟩ := h_26
    refine v_eq (st' := []) (ws' := [(bo, .inr (0, [.ref tr, .int (nI (n + 1)), .int i, .int (nI k), .int v])), (tr, eI D 20 (upd f n 12))]) rfl rfl rfl rfl ?_
    refine v_aload_n O dX0_does_62 0 rfl ?_
    refine v_iload O dX0_does_63 6 rfl ?_
    refine v_iload_n O dX0_does_65 2 rfl ?_
    refine v_iload O dX0_does_66 5 rfl ?_
    refine v_cSN (As := [.int 0]) (wr := [(bo, .inr (0, [.ref tr, .int (nI (n + 1)), .int i, .int (nI k), .int v])), (tr, eI D 20 (upd f n 12))]) (st := [.int x, .int 12, .ref bo]) O cf_X0_40 (sp_X9_aboveOf (k := 0) (by decide)) dX0_does_68 rfl rfl [] [0, 1] (by decide) rfl rfl (by decide) (by decide) (by decide) (Nat.le_of_ble_eq_true rfl) (by decide) (by decide) (fun r_30 w_31 h_29 => ?_)
    obtain ⟨rfl, rfl⟩ := h_29
    refine v_eq (st' := [.int (x_abv 0), .int x, .int 12, .ref bo]) (ws' := [(bo, .inr (0, [.ref tr, .int (nI (n + 1)), .int i, .int (nI k), .int v])), (tr, eI D 20 (upd f n 12))]) rfl rfl rfl rfl ?_
    refine v_top (y := -1) (by decide) ?_
    refine v_iload O dX0_does_71 4 rfl ?_
    refine v_iconst (v := 1) O dX0_does_73 (by decide) ?_
    refine v_iadd O dX0_does_74 ?_
    refine v_top (y := nI (dp + 1)) (nI_add dp 1) ?_
    refine v_cV (T := TX0) (ci := 0) (As := [.int 12, .int x, .int (-1), .int (nI (dp + 1))]) (wr := []) (st := []) O cf_X0_48 rfl (sp_X0_runs_12 (bo := bo) (tr := tr) (n := (n + 1)) (i := i) (k := k) (v := v) (f := (upd f n 12)) (x := x) (dp := (dp + 1)) (hk) (by omega) (by omega)) dX0_does_75 rfl rfl 0 rfl [0, 1] [] (by decide) rfl rfl (by decide) (by decide) (by decide) (Nat.le_of_ble_eq_true rfl) (by decide) (by decide) (fun r_33 w_34 h_32 => ?_)
    obtain ⟨rfl, rfl⟩ := h_32
    refine v_eq (st' := [.int (hV i v k x k * 2)]) (ws' := [(bo, .inr (0, [.ref tr, .int (nI ((n + 1) + (hL k k).length)), .int i, .int (nI k), .int v])), (tr, eI D 20 (trW (upd f n 12) (n + 1) (hL k k)))]) rfl rfl rfl rfl ?_
    exact v_ireturn O T rfl rfl (by decide) (by decide) dX0_does_78 (⟨rfl, by rw [show n + (tL k 4).length = n + 1 + (hL k k).length from by rw [show (tL k 4).length = (hL k k).length + 1 from rfl]; omega]; rfl⟩)
  · skip
    have z1 := (not_congr (c_le (x := nI dp) (y := 30) (a := dp) (b := 30) rfl rfl (by omega) (by omega))).mp z1
    exact absurd z1 (by omega)
set_option maxRecDepth 100000 in
set_option maxHeartbeats 4000000 in
theorem sp_X0_runs_40 {D : G} {bo : Nat} {tr : Nat} {n : Nat} {i : Int32} {k : Nat} {v : Int32} {f : Nat → Int32} {x : Int32} {dp : Nat} (hk : k < 7) (hn : n ≤ 1) (hdp : dp ≤ 1) : Sp D mX0_runs 12 0 0 [.ref bo, .int 40, .int x, .int 0, .int (nI dp)] [(bo, .inr (0, [.ref tr, .int (nI n), .int i, .int (nI k), .int v])), (tr, eI D 20 f)] (fun r w => r = some (.int (tV i v k x 0 + hV i v k 1 k)) ∧ w = [(bo, .inr (0, [.ref tr, .int (nI (n + (tL k 0 ++ hL k k).length)), .int i, .int (nI k), .int v])), (tr, eI D 20 (trW f n (tL k 0 ++ hL k k)))]) := by
  refine Sp.of (by decide) (Nat.le_of_ble_eq_true rfl) (fun X O T => ?_)
  refine v_eq (lv' := [(0, .ref bo), (1, .int 40), (2, .int x), (3, .int 0), (4, .int (nI dp))]) rfl rfl rfl rfl ?_
  refine v_iload_n O dX0_runs_0 1 rfl ?_
  refine v_lks (off := 164) O 165 dX0_runs_1 (by decide) (by decide) (by decide) ?_
  refine v_aload_n O dX0_runs_165 0 rfl ?_
  refine v_iconst (v := 2) O dX0_runs_166 (by decide) ?_
  refine v_iload_n O dX0_runs_167 2 rfl ?_
  refine v_iload_n O dX0_runs_168 3 rfl ?_
  refine v_iload O dX0_runs_169 4 rfl ?_
  refine v_cV (T := TX0) (ci := 0) (As := [.int 2, .int x, .int 0, .int (nI dp)]) (wr := []) (st := []) O cf_X0_28 rfl (sp_X0_does_T0 (bo := bo) (tr := tr) (n := n) (i := i) (k := k) (v := v) (f := f) (x := x) (dp := dp) (hk) (by have zl1 := wL_len k hk; have zl2 := hL_len k hk 3 (by decide); have zl3 := hL_len k hk k hk; have zl4 : (tL k 0).length = (hL k k).length + 1 := rfl; omega) (by omega)) dX0_runs_171 rfl rfl 0 rfl [0, 1] [] (by decide) rfl rfl (by decide) (by decide) (by decide) (Nat.le_of_ble_eq_true rfl) (by decide) (by decide) (fun r_2 w_3 h_1 => ?_)
  obtain ⟨rfl, rfl⟩ := h_1
  refine v_eq (st' := [.int (tV i v k x 0)]) (ws' := [(bo, .inr (0, [.ref tr, .int (nI (n + (tL k 0).length)), .int i, .int (nI k), .int v])), (tr, eI D 20 (trW f n (tL k 0)))]) rfl rfl rfl rfl ?_
  refine v_aload_n O dX0_runs_174 0 rfl ?_
  refine v_iconst (v := 1) O dX0_runs_175 (by decide) ?_
  refine v_iconst (v := 1) O dX0_runs_176 (by decide) ?_
  refine v_aload_n O dX0_runs_177 0 rfl ?_
  refine gf_X0_22 O rfl dX0_runs_178 0 rfl rfl ?_
  refine v_iload O dX0_runs_181 4 rfl ?_
  refine v_cV (T := TX0) (ci := 0) (As := [.int 1, .int 1, .int (nI k), .int (nI dp)]) (wr := []) (st := [.int (tV i v k x 0)]) O cf_X0_28 rfl (sp_X0_does_Hk (bo := bo) (tr := tr) (n := (n + (tL k 0).length)) (i := i) (k := k) (v := v) (f := (trW f n (tL k 0))) (x := 1) (dp := dp) (hk) (by have zl1 := wL_len k hk; have zl2 := hL_len k hk 3 (by decide); have zl3 := hL_len k hk k hk; have zl4 : (tL k 0).length = (hL k k).length + 1 := rfl; omega) (by omega)) dX0_runs_183 rfl rfl 0 rfl [0, 1] [] (by decide) rfl rfl (by decide) (by decide) (by decide) (Nat.le_of_ble_eq_true rfl) (by decide) (by decide) (fun r_5 w_6 h_4 => ?_)
  obtain ⟨rfl, rfl⟩ := h_4
  refine v_eq (st' := [.int (hV i v k 1 k), .int (tV i v k x 0)]) (ws' := [(bo, .inr (0, [.ref tr, .int (nI ((n + (tL k 0).length) + (hL k k).length)), .int i, .int (nI k), .int v])), (tr, eI D 20 (trW (trW f n (tL k 0)) (n + (tL k 0).length) (hL k k)))]) rfl rfl rfl rfl ?_
  refine v_iadd O dX0_runs_186 ?_
  exact v_ireturn O T rfl rfl (by decide) (by decide) dX0_runs_187 (⟨rfl, by rw [List.length_append, trW_app, Nat.add_assoc]⟩)
set_option maxRecDepth 100000 in
set_option maxHeartbeats 4000000 in
theorem sp_X0_does_T3 {D : G} {bo : Nat} {tr : Nat} {n : Nat} {i : Int32} {k : Nat} {v : Int32} {f : Nat → Int32} {x : Int32} {dp : Nat} (hk : k < 7) (hn : n ≤ 0) (hdp : dp ≤ 0) : Sp D mX0_does 13 0 0 [.ref bo, .int 2, .int x, .int 3, .int (nI dp)] [(bo, .inr (0, [.ref tr, .int (nI n), .int i, .int (nI k), .int v])), (tr, eI D 20 f)] (fun r w => r = some (.int (tV i v k x 3)) ∧ w = [(bo, .inr (0, [.ref tr, .int (nI (n + (tL k 3).length)), .int i, .int (nI k), .int v])), (tr, eI D 20 (trW f n (tL k 3)))]) := by
  refine Sp.of (by decide) (Nat.le_of_ble_eq_true rfl) (fun X O T => ?_)
  refine v_eq (lv' := [(0, .ref bo), (1, .int 2), (2, .int x), (3, .int 3), (4, .int (nI dp))]) rfl rfl rfl rfl ?_
  refine v_iload_n O dX0_does_0 3 rfl ?_
  refine v_istore (lv' := [(0, .ref bo), (1, .int 2), (2, .int x), (3, .int 3), (4, .int (nI dp)), (5, .int 3)]) O dX0_does_1 (by decide) rfl ?_
  refine v_iconst (v := 0) O dX0_does_3 (by decide) ?_
  refine v_istore (lv' := [(0, .ref bo), (1, .int 2), (2, .int x), (3, .int 3), (4, .int (nI dp)), (5, .int 3), (6, .int 0)]) O dX0_does_4 (by decide) rfl ?_
  refine v_iload O dX0_does_6 6 rfl ?_
  refine v_iconst (v := 3) O dX0_does_8 (by decide) ?_
  refine v_icmp_ge O 34 dX0_does_9 (by decide) (fun c => absurd c (by decide)) (fun _ => ?_)
  refine v_iload O dX0_does_12 5 rfl ?_
  refine v_iload_n O dX0_does_14 1 rfl ?_
  refine v_cS (As := [.int 3, .int 2]) (wr := [(bo, .inr (0, [.ref tr, .int (nI n), .int i, .int (nI k), .int v])), (tr, eI D 20 f)]) (st := []) O cf_X0_36 (sp_X0_number (k := 3) (a := 2) (by decide) (by decide)) dX0_does_15 rfl rfl [] [0, 1] (by decide) rfl rfl (by decide) (by decide) (by decide) (Nat.le_of_ble_eq_true rfl) (by decide) (by decide) (fun r_3 w_4 h_2 => ?_)
  obtain ⟨rfl, rfl⟩ := h_2
  refine v_eq (st' := [.int (x_num (3 * 3 + 2))]) (ws' := [(bo, .inr (0, [.ref tr, .int (nI n), .int i, .int (nI k), .int v])), (tr, eI D 20 f)]) rfl rfl rfl rfl ?_
  refine v_top (y := 40) (by decide) ?_
  refine v_if_ne O 34 dX0_does_18 (by decide) (fun _ => ?_) (fun c => absurd c (by decide))
  refine v_iload O dX0_does_34 5 rfl ?_
  refine v_iload_n O dX0_does_36 1 rfl ?_
  refine v_cS (As := [.int 3, .int 2]) (wr := [(bo, .inr (0, [.ref tr, .int (nI n), .int i, .int (nI k), .int v])), (tr, eI D 20 f)]) (st := []) O cf_X0_36 (sp_X0_number (k := 3) (a := 2) (by decide) (by decide)) dX0_does_37 rfl rfl [] [0, 1] (by decide) rfl rfl (by decide) (by decide) (by decide) (Nat.le_of_ble_eq_true rfl) (by decide) (by decide) (fun r_7 w_8 h_6 => ?_)
  obtain ⟨rfl, rfl⟩ := h_6
  refine v_eq (st' := [.int (x_num (3 * 3 + 2))]) (ws' := [(bo, .inr (0, [.ref tr, .int (nI n), .int i, .int (nI k), .int v])), (tr, eI D 20 f)]) rfl rfl rfl rfl ?_
  refine v_top (y := 40) (by decide) ?_
  refine v_istore (lv' := [(0, .ref bo), (1, .int 2), (2, .int x), (3, .int 3), (4, .int (nI dp)), (5, .int 3), (6, .int 40)]) O dX0_does_40 (by decide) rfl ?_
  refine v_iload O dX0_does_42 6 rfl ?_
  refine v_if_eq O 54 dX0_does_44 (by decide) (fun c => absurd c (by decide)) (fun _ => ?_)
  refine v_iload O dX0_does_47 4 rfl ?_
  refine v_bipush (v := 30) O dX0_does_49 (by decide) ?_
  refine v_icmp_le O 56 dX0_does_51 (by decide) (fun z1 => ?_) (fun z1 => ?_)
  · skip
    have z1 := (c_le (x := nI dp) (y := 30) (a := dp) (b := 30) rfl rfl (by omega) (by omega)).mp z1
    refine v_aload_n O dX0_does_56 0 rfl ?_
    refine v_iload O dX0_does_57 6 rfl ?_
    refine v_cV (T := TX0) (ci := 0) (As := [.int 40]) (wr := []) (st := []) O cf_X0_44 rfl (sp_X0_begins (bo := bo) (tr := tr) (n := n) (i := i) (k := k) (v := v) (f := f) (b := 40) (by omega)) dX0_does_59 rfl rfl 0 rfl [0, 1] [] (by decide) rfl rfl (by decide) (by decide) (by decide) (Nat.le_of_ble_eq_true rfl) (by decide) (by decide) (fun r_11 w_12 h_10 => ?_)
    obtain ⟨rfl, rfl⟩ := h_10
    refine v_eq (st' := []) (ws' := [(bo, .inr (0, [.ref tr, .int (nI (n + 1)), .int i, .int (nI k), .int v])), (tr, eI D 20 (upd f n 40))]) rfl rfl rfl rfl ?_
    refine v_aload_n O dX0_does_62 0 rfl ?_
    refine v_iload O dX0_does_63 6 rfl ?_
    refine v_iload_n O dX0_does_65 2 rfl ?_
    refine v_iload O dX0_does_66 5 rfl ?_
    refine v_cSN (As := [.int 3]) (wr := [(bo, .inr (0, [.ref tr, .int (nI (n + 1)), .int i, .int (nI k), .int v])), (tr, eI D 20 (upd f n 40))]) (st := [.int x, .int 40, .ref bo]) O cf_X0_40 (sp_X9_aboveOf (k := 3) (by decide)) dX0_does_68 rfl rfl [] [0, 1] (by decide) rfl rfl (by decide) (by decide) (by decide) (Nat.le_of_ble_eq_true rfl) (by decide) (by decide) (fun r_14 w_15 h_13 => ?_)
    obtain ⟨rfl, rfl⟩ := h_13
    refine v_eq (st' := [.int (x_abv 3), .int x, .int 40, .ref bo]) (ws' := [(bo, .inr (0, [.ref tr, .int (nI (n + 1)), .int i, .int (nI k), .int v])), (tr, eI D 20 (upd f n 40))]) rfl rfl rfl rfl ?_
    refine v_top (y := 0) (by decide) ?_
    refine v_iload O dX0_does_71 4 rfl ?_
    refine v_iconst (v := 1) O dX0_does_73 (by decide) ?_
    refine v_iadd O dX0_does_74 ?_
    refine v_top (y := nI (dp + 1)) (nI_add dp 1) ?_
    refine v_cV (T := TX0) (ci := 0) (As := [.int 40, .int x, .int 0, .int (nI (dp + 1))]) (wr := []) (st := []) O cf_X0_48 rfl (sp_X0_runs_40 (bo := bo) (tr := tr) (n := (n + 1)) (i := i) (k := k) (v := v) (f := (upd f n 40)) (x := x) (dp := (dp + 1)) (hk) (by omega) (by omega)) dX0_does_75 rfl rfl 0 rfl [0, 1] [] (by decide) rfl rfl (by decide) (by decide) (by decide) (Nat.le_of_ble_eq_true rfl) (by decide) (by decide) (fun r_17 w_18 h_16 => ?_)
    obtain ⟨rfl, rfl⟩ := h_16
    refine v_eq (st' := [.int (tV i v k x 0 + hV i v k 1 k)]) (ws' := [(bo, .inr (0, [.ref tr, .int (nI ((n + 1) + (tL k 0 ++ hL k k).length)), .int i, .int (nI k), .int v])), (tr, eI D 20 (trW (upd f n 40) (n + 1) (tL k 0 ++ hL k k)))]) rfl rfl rfl rfl ?_
    exact v_ireturn O T rfl rfl (by decide) (by decide) dX0_does_78 (⟨rfl, by rw [show n + (tL k 3).length = n + 1 + (tL k 0 ++ hL k k).length from by rw [show (tL k 3).length = (tL k 0 ++ hL k k).length + 1 from rfl]; omega]; rfl⟩)
  · skip
    have z1 := (not_congr (c_le (x := nI dp) (y := 30) (a := dp) (b := 30) rfl rfl (by omega) (by omega))).mp z1
    exact absurd z1 (by omega)
set_option maxRecDepth 100000 in
set_option maxHeartbeats 4000000 in
theorem sp_X0_does_T6 {D : G} {bo : Nat} {tr : Nat} {n : Nat} {i : Int32} {k : Nat} {v : Int32} {f : Nat → Int32} {x : Int32} {dp : Nat} (hk : k < 7) (hn : n ≤ 0) (hdp : dp ≤ 0) : Sp D mX0_does 13 0 0 [.ref bo, .int 2, .int x, .int 6, .int (nI dp)] [(bo, .inr (0, [.ref tr, .int (nI n), .int i, .int (nI k), .int v])), (tr, eI D 20 f)] (fun r w => r = some (.int (tV i v k x 6)) ∧ w = [(bo, .inr (0, [.ref tr, .int (nI (n + (tL k 6).length)), .int i, .int (nI k), .int v])), (tr, eI D 20 (trW f n (tL k 6)))]) := by
  refine Sp.of (by decide) (Nat.le_of_ble_eq_true rfl) (fun X O T => ?_)
  refine v_eq (lv' := [(0, .ref bo), (1, .int 2), (2, .int x), (3, .int 6), (4, .int (nI dp))]) rfl rfl rfl rfl ?_
  refine v_iload_n O dX0_does_0 3 rfl ?_
  refine v_istore (lv' := [(0, .ref bo), (1, .int 2), (2, .int x), (3, .int 6), (4, .int (nI dp)), (5, .int 6)]) O dX0_does_1 (by decide) rfl ?_
  refine v_iconst (v := 0) O dX0_does_3 (by decide) ?_
  refine v_istore (lv' := [(0, .ref bo), (1, .int 2), (2, .int x), (3, .int 6), (4, .int (nI dp)), (5, .int 6), (6, .int 0)]) O dX0_does_4 (by decide) rfl ?_
  refine v_iload O dX0_does_6 6 rfl ?_
  refine v_iconst (v := 3) O dX0_does_8 (by decide) ?_
  refine v_icmp_ge O 34 dX0_does_9 (by decide) (fun c => absurd c (by decide)) (fun _ => ?_)
  refine v_iload O dX0_does_12 5 rfl ?_
  refine v_iload_n O dX0_does_14 1 rfl ?_
  refine v_cS (As := [.int 6, .int 2]) (wr := [(bo, .inr (0, [.ref tr, .int (nI n), .int i, .int (nI k), .int v])), (tr, eI D 20 f)]) (st := []) O cf_X0_36 (sp_X0_number (k := 6) (a := 2) (by decide) (by decide)) dX0_does_15 rfl rfl [] [0, 1] (by decide) rfl rfl (by decide) (by decide) (by decide) (Nat.le_of_ble_eq_true rfl) (by decide) (by decide) (fun r_3 w_4 h_2 => ?_)
  obtain ⟨rfl, rfl⟩ := h_2
  refine v_eq (st' := [.int (x_num (6 * 3 + 2))]) (ws' := [(bo, .inr (0, [.ref tr, .int (nI n), .int i, .int (nI k), .int v])), (tr, eI D 20 f)]) rfl rfl rfl rfl ?_
  refine v_top (y := 0) (by decide) ?_
  refine v_if_ne O 34 dX0_does_18 (by decide) (fun c => absurd c (by decide)) (fun _ => ?_)
  refine v_iload O dX0_does_21 5 rfl ?_
  refine v_cSN (As := [.int 6]) (wr := [(bo, .inr (0, [.ref tr, .int (nI n), .int i, .int (nI k), .int v])), (tr, eI D 20 f)]) (st := []) O cf_X0_40 (sp_X9_aboveOf (k := 6) (by decide)) dX0_does_23 rfl rfl [] [0, 1] (by decide) rfl rfl (by decide) (by decide) (by decide) (Nat.le_of_ble_eq_true rfl) (by decide) (by decide) (fun r_7 w_8 h_6 => ?_)
  obtain ⟨rfl, rfl⟩ := h_6
  refine v_eq (st' := [.int (x_abv 6)]) (ws' := [(bo, .inr (0, [.ref tr, .int (nI n), .int i, .int (nI k), .int v])), (tr, eI D 20 f)]) rfl rfl rfl rfl ?_
  refine v_top (y := 3) (by decide) ?_
  refine v_istore (lv' := [(0, .ref bo), (1, .int 2), (2, .int x), (3, .int 6), (4, .int (nI dp)), (5, .int 3), (6, .int 0)]) O dX0_does_26 (by decide) rfl ?_
  refine v_iinc (v := 1) (lv' := [(0, .ref bo), (1, .int 2), (2, .int x), (3, .int 6), (4, .int (nI dp)), (5, .int 3), (6, .int 1)]) O dX0_does_28 6 rfl (by decide) (by decide) rfl ?_
  refine v_goto O 6 dX0_does_31 (by decide) ?_
  refine v_iload O dX0_does_6 6 rfl ?_
  refine v_iconst (v := 3) O dX0_does_8 (by decide) ?_
  refine v_icmp_ge O 34 dX0_does_9 (by decide) (fun c => absurd c (by decide)) (fun _ => ?_)
  refine v_iload O dX0_does_12 5 rfl ?_
  refine v_iload_n O dX0_does_14 1 rfl ?_
  refine v_cS (As := [.int 3, .int 2]) (wr := [(bo, .inr (0, [.ref tr, .int (nI n), .int i, .int (nI k), .int v])), (tr, eI D 20 f)]) (st := []) O cf_X0_36 (sp_X0_number (k := 3) (a := 2) (by decide) (by decide)) dX0_does_15 rfl rfl [] [0, 1] (by decide) rfl rfl (by decide) (by decide) (by decide) (Nat.le_of_ble_eq_true rfl) (by decide) (by decide) (fun r_11 w_12 h_10 => ?_)
  obtain ⟨rfl, rfl⟩ := h_10
  refine v_eq (st' := [.int (x_num (3 * 3 + 2))]) (ws' := [(bo, .inr (0, [.ref tr, .int (nI n), .int i, .int (nI k), .int v])), (tr, eI D 20 f)]) rfl rfl rfl rfl ?_
  refine v_top (y := 40) (by decide) ?_
  refine v_if_ne O 34 dX0_does_18 (by decide) (fun _ => ?_) (fun c => absurd c (by decide))
  refine v_iload O dX0_does_34 5 rfl ?_
  refine v_iload_n O dX0_does_36 1 rfl ?_
  refine v_cS (As := [.int 3, .int 2]) (wr := [(bo, .inr (0, [.ref tr, .int (nI n), .int i, .int (nI k), .int v])), (tr, eI D 20 f)]) (st := []) O cf_X0_36 (sp_X0_number (k := 3) (a := 2) (by decide) (by decide)) dX0_does_37 rfl rfl [] [0, 1] (by decide) rfl rfl (by decide) (by decide) (by decide) (Nat.le_of_ble_eq_true rfl) (by decide) (by decide) (fun r_15 w_16 h_14 => ?_)
  obtain ⟨rfl, rfl⟩ := h_14
  refine v_eq (st' := [.int (x_num (3 * 3 + 2))]) (ws' := [(bo, .inr (0, [.ref tr, .int (nI n), .int i, .int (nI k), .int v])), (tr, eI D 20 f)]) rfl rfl rfl rfl ?_
  refine v_top (y := 40) (by decide) ?_
  refine v_istore (lv' := [(0, .ref bo), (1, .int 2), (2, .int x), (3, .int 6), (4, .int (nI dp)), (5, .int 3), (6, .int 40)]) O dX0_does_40 (by decide) rfl ?_
  refine v_iload O dX0_does_42 6 rfl ?_
  refine v_if_eq O 54 dX0_does_44 (by decide) (fun c => absurd c (by decide)) (fun _ => ?_)
  refine v_iload O dX0_does_47 4 rfl ?_
  refine v_bipush (v := 30) O dX0_does_49 (by decide) ?_
  refine v_icmp_le O 56 dX0_does_51 (by decide) (fun z1 => ?_) (fun z1 => ?_)
  · skip
    have z1 := (c_le (x := nI dp) (y := 30) (a := dp) (b := 30) rfl rfl (by omega) (by omega)).mp z1
    refine v_aload_n O dX0_does_56 0 rfl ?_
    refine v_iload O dX0_does_57 6 rfl ?_
    refine v_cV (T := TX0) (ci := 0) (As := [.int 40]) (wr := []) (st := []) O cf_X0_44 rfl (sp_X0_begins (bo := bo) (tr := tr) (n := n) (i := i) (k := k) (v := v) (f := f) (b := 40) (by omega)) dX0_does_59 rfl rfl 0 rfl [0, 1] [] (by decide) rfl rfl (by decide) (by decide) (by decide) (Nat.le_of_ble_eq_true rfl) (by decide) (by decide) (fun r_19 w_20 h_18 => ?_)
    obtain ⟨rfl, rfl⟩ := h_18
    refine v_eq (st' := []) (ws' := [(bo, .inr (0, [.ref tr, .int (nI (n + 1)), .int i, .int (nI k), .int v])), (tr, eI D 20 (upd f n 40))]) rfl rfl rfl rfl ?_
    refine v_aload_n O dX0_does_62 0 rfl ?_
    refine v_iload O dX0_does_63 6 rfl ?_
    refine v_iload_n O dX0_does_65 2 rfl ?_
    refine v_iload O dX0_does_66 5 rfl ?_
    refine v_cSN (As := [.int 3]) (wr := [(bo, .inr (0, [.ref tr, .int (nI (n + 1)), .int i, .int (nI k), .int v])), (tr, eI D 20 (upd f n 40))]) (st := [.int x, .int 40, .ref bo]) O cf_X0_40 (sp_X9_aboveOf (k := 3) (by decide)) dX0_does_68 rfl rfl [] [0, 1] (by decide) rfl rfl (by decide) (by decide) (by decide) (Nat.le_of_ble_eq_true rfl) (by decide) (by decide) (fun r_22 w_23 h_21 => ?_)
    obtain ⟨rfl, rfl⟩ := h_21
    refine v_eq (st' := [.int (x_abv 3), .int x, .int 40, .ref bo]) (ws' := [(bo, .inr (0, [.ref tr, .int (nI (n + 1)), .int i, .int (nI k), .int v])), (tr, eI D 20 (upd f n 40))]) rfl rfl rfl rfl ?_
    refine v_top (y := 0) (by decide) ?_
    refine v_iload O dX0_does_71 4 rfl ?_
    refine v_iconst (v := 1) O dX0_does_73 (by decide) ?_
    refine v_iadd O dX0_does_74 ?_
    refine v_top (y := nI (dp + 1)) (nI_add dp 1) ?_
    refine v_cV (T := TX0) (ci := 0) (As := [.int 40, .int x, .int 0, .int (nI (dp + 1))]) (wr := []) (st := []) O cf_X0_48 rfl (sp_X0_runs_40 (bo := bo) (tr := tr) (n := (n + 1)) (i := i) (k := k) (v := v) (f := (upd f n 40)) (x := x) (dp := (dp + 1)) (hk) (by omega) (by omega)) dX0_does_75 rfl rfl 0 rfl [0, 1] [] (by decide) rfl rfl (by decide) (by decide) (by decide) (Nat.le_of_ble_eq_true rfl) (by decide) (by decide) (fun r_25 w_26 h_24 => ?_)
    obtain ⟨rfl, rfl⟩ := h_24
    refine v_eq (st' := [.int (tV i v k x 0 + hV i v k 1 k)]) (ws' := [(bo, .inr (0, [.ref tr, .int (nI ((n + 1) + (tL k 0 ++ hL k k).length)), .int i, .int (nI k), .int v])), (tr, eI D 20 (trW (upd f n 40) (n + 1) (tL k 0 ++ hL k k)))]) rfl rfl rfl rfl ?_
    exact v_ireturn O T rfl rfl (by decide) (by decide) dX0_does_78 (⟨rfl, by rw [show n + (tL k 6).length = n + 1 + (tL k 0 ++ hL k k).length from by rw [show (tL k 6).length = (tL k 0 ++ hL k k).length + 1 from rfl]; omega]; rfl⟩)
  · skip
    have z1 := (not_congr (c_le (x := nI dp) (y := 30) (a := dp) (b := 30) rfl rfl (by omega) (by omega))).mp z1
    exact absurd z1 (by omega)
set_option maxRecDepth 100000 in
set_option maxHeartbeats 4000000 in
theorem sp_X0_runs_60 {D : G} {bo : Nat} {tr : Nat} {n : Nat} {i : Int32} {k : Nat} {v : Int32} {f : Nat → Int32} {x : Int32} {dp : Nat} (hk : k < 7) (hn : n ≤ 1) (hdp : dp ≤ 1) : Sp D mX0_runs 12 0 0 [.ref bo, .int 60, .int x, .int 2, .int (nI dp)] [(bo, .inr (0, [.ref tr, .int (nI n), .int i, .int (nI k), .int v])), (tr, eI D 20 f)] (fun r w => r = some (.int (tV i v k (x - i) 2)) ∧ w = [(bo, .inr (0, [.ref tr, .int (nI (n + (tL k 2).length)), .int i, .int (nI k), .int v])), (tr, eI D 20 (trW f n (tL k 2)))]) := by
  refine Sp.of (by decide) (Nat.le_of_ble_eq_true rfl) (fun X O T => ?_)
  refine v_eq (lv' := [(0, .ref bo), (1, .int 60), (2, .int x), (3, .int 2), (4, .int (nI dp))]) rfl rfl rfl rfl ?_
  refine v_iload_n O dX0_runs_0 1 rfl ?_
  refine v_lks (off := 210) O 211 dX0_runs_1 (by decide) (by decide) (by decide) ?_
  refine v_aload_n O dX0_runs_211 0 rfl ?_
  refine v_iconst (v := 2) O dX0_runs_212 (by decide) ?_
  refine v_iload_n O dX0_runs_213 2 rfl ?_
  refine v_aload_n O dX0_runs_214 0 rfl ?_
  refine gf_X0_19 O rfl dX0_runs_215 0 rfl rfl ?_
  refine v_isub O dX0_runs_218 ?_
  refine v_iload_n O dX0_runs_219 3 rfl ?_
  refine v_iload O dX0_runs_220 4 rfl ?_
  refine v_cV (T := TX0) (ci := 0) (As := [.int 2, .int (x - i), .int 2, .int (nI dp)]) (wr := []) (st := []) O cf_X0_28 rfl (sp_X0_does_T2 (bo := bo) (tr := tr) (n := n) (i := i) (k := k) (v := v) (f := f) (x := (x - i)) (dp := dp) (hk) (by have zl1 := wL_len k hk; have zl2 := hL_len k hk 3 (by decide); have zl3 := hL_len k hk k hk; have zl4 : (tL k 0).length = (hL k k).length + 1 := rfl; omega) (by omega)) dX0_runs_222 rfl rfl 0 rfl [0, 1] [] (by decide) rfl rfl (by decide) (by decide) (by decide) (Nat.le_of_ble_eq_true rfl) (by decide) (by decide) (fun r_2 w_3 h_1 => ?_)
  obtain ⟨rfl, rfl⟩ := h_1
  refine v_eq (st' := [.int (tV i v k (x - i) 2)]) (ws' := [(bo, .inr (0, [.ref tr, .int (nI (n + (tL k 2).length)), .int i, .int (nI k), .int v])), (tr, eI D 20 (trW f n (tL k 2)))]) rfl rfl rfl rfl ?_
  exact v_ireturn O T rfl rfl (by decide) (by decide) dX0_runs_225 (⟨rfl, rfl⟩)
set_option maxRecDepth 100000 in
set_option maxHeartbeats 4000000 in
theorem sp_X0_does_T5 {D : G} {bo : Nat} {tr : Nat} {n : Nat} {i : Int32} {k : Nat} {v : Int32} {f : Nat → Int32} {x : Int32} {dp : Nat} (hk : k < 7) (hn : n ≤ 0) (hdp : dp ≤ 0) : Sp D mX0_does 13 0 0 [.ref bo, .int 2, .int x, .int 5, .int (nI dp)] [(bo, .inr (0, [.ref tr, .int (nI n), .int i, .int (nI k), .int v])), (tr, eI D 20 f)] (fun r w => r = some (.int (tV i v k x 5)) ∧ w = [(bo, .inr (0, [.ref tr, .int (nI (n + (tL k 5).length)), .int i, .int (nI k), .int v])), (tr, eI D 20 (trW f n (tL k 5)))]) := by
  refine Sp.of (by decide) (Nat.le_of_ble_eq_true rfl) (fun X O T => ?_)
  refine v_eq (lv' := [(0, .ref bo), (1, .int 2), (2, .int x), (3, .int 5), (4, .int (nI dp))]) rfl rfl rfl rfl ?_
  refine v_iload_n O dX0_does_0 3 rfl ?_
  refine v_istore (lv' := [(0, .ref bo), (1, .int 2), (2, .int x), (3, .int 5), (4, .int (nI dp)), (5, .int 5)]) O dX0_does_1 (by decide) rfl ?_
  refine v_iconst (v := 0) O dX0_does_3 (by decide) ?_
  refine v_istore (lv' := [(0, .ref bo), (1, .int 2), (2, .int x), (3, .int 5), (4, .int (nI dp)), (5, .int 5), (6, .int 0)]) O dX0_does_4 (by decide) rfl ?_
  refine v_iload O dX0_does_6 6 rfl ?_
  refine v_iconst (v := 3) O dX0_does_8 (by decide) ?_
  refine v_icmp_ge O 34 dX0_does_9 (by decide) (fun c => absurd c (by decide)) (fun _ => ?_)
  refine v_iload O dX0_does_12 5 rfl ?_
  refine v_iload_n O dX0_does_14 1 rfl ?_
  refine v_cS (As := [.int 5, .int 2]) (wr := [(bo, .inr (0, [.ref tr, .int (nI n), .int i, .int (nI k), .int v])), (tr, eI D 20 f)]) (st := []) O cf_X0_36 (sp_X0_number (k := 5) (a := 2) (by decide) (by decide)) dX0_does_15 rfl rfl [] [0, 1] (by decide) rfl rfl (by decide) (by decide) (by decide) (Nat.le_of_ble_eq_true rfl) (by decide) (by decide) (fun r_3 w_4 h_2 => ?_)
  obtain ⟨rfl, rfl⟩ := h_2
  refine v_eq (st' := [.int (x_num (5 * 3 + 2))]) (ws' := [(bo, .inr (0, [.ref tr, .int (nI n), .int i, .int (nI k), .int v])), (tr, eI D 20 f)]) rfl rfl rfl rfl ?_
  refine v_top (y := 60) (by decide) ?_
  refine v_if_ne O 34 dX0_does_18 (by decide) (fun _ => ?_) (fun c => absurd c (by decide))
  refine v_iload O dX0_does_34 5 rfl ?_
  refine v_iload_n O dX0_does_36 1 rfl ?_
  refine v_cS (As := [.int 5, .int 2]) (wr := [(bo, .inr (0, [.ref tr, .int (nI n), .int i, .int (nI k), .int v])), (tr, eI D 20 f)]) (st := []) O cf_X0_36 (sp_X0_number (k := 5) (a := 2) (by decide) (by decide)) dX0_does_37 rfl rfl [] [0, 1] (by decide) rfl rfl (by decide) (by decide) (by decide) (Nat.le_of_ble_eq_true rfl) (by decide) (by decide) (fun r_7 w_8 h_6 => ?_)
  obtain ⟨rfl, rfl⟩ := h_6
  refine v_eq (st' := [.int (x_num (5 * 3 + 2))]) (ws' := [(bo, .inr (0, [.ref tr, .int (nI n), .int i, .int (nI k), .int v])), (tr, eI D 20 f)]) rfl rfl rfl rfl ?_
  refine v_top (y := 60) (by decide) ?_
  refine v_istore (lv' := [(0, .ref bo), (1, .int 2), (2, .int x), (3, .int 5), (4, .int (nI dp)), (5, .int 5), (6, .int 60)]) O dX0_does_40 (by decide) rfl ?_
  refine v_iload O dX0_does_42 6 rfl ?_
  refine v_if_eq O 54 dX0_does_44 (by decide) (fun c => absurd c (by decide)) (fun _ => ?_)
  refine v_iload O dX0_does_47 4 rfl ?_
  refine v_bipush (v := 30) O dX0_does_49 (by decide) ?_
  refine v_icmp_le O 56 dX0_does_51 (by decide) (fun z1 => ?_) (fun z1 => ?_)
  · skip
    have z1 := (c_le (x := nI dp) (y := 30) (a := dp) (b := 30) rfl rfl (by omega) (by omega)).mp z1
    refine v_aload_n O dX0_does_56 0 rfl ?_
    refine v_iload O dX0_does_57 6 rfl ?_
    refine v_cV (T := TX0) (ci := 0) (As := [.int 60]) (wr := []) (st := []) O cf_X0_44 rfl (sp_X0_begins (bo := bo) (tr := tr) (n := n) (i := i) (k := k) (v := v) (f := f) (b := 60) (by omega)) dX0_does_59 rfl rfl 0 rfl [0, 1] [] (by decide) rfl rfl (by decide) (by decide) (by decide) (Nat.le_of_ble_eq_true rfl) (by decide) (by decide) (fun r_11 w_12 h_10 => ?_)
    obtain ⟨rfl, rfl⟩ := h_10
    refine v_eq (st' := []) (ws' := [(bo, .inr (0, [.ref tr, .int (nI (n + 1)), .int i, .int (nI k), .int v])), (tr, eI D 20 (upd f n 60))]) rfl rfl rfl rfl ?_
    refine v_aload_n O dX0_does_62 0 rfl ?_
    refine v_iload O dX0_does_63 6 rfl ?_
    refine v_iload_n O dX0_does_65 2 rfl ?_
    refine v_iload O dX0_does_66 5 rfl ?_
    refine v_cSN (As := [.int 5]) (wr := [(bo, .inr (0, [.ref tr, .int (nI (n + 1)), .int i, .int (nI k), .int v])), (tr, eI D 20 (upd f n 60))]) (st := [.int x, .int 60, .ref bo]) O cf_X0_40 (sp_X9_aboveOf (k := 5) (by decide)) dX0_does_68 rfl rfl [] [0, 1] (by decide) rfl rfl (by decide) (by decide) (by decide) (Nat.le_of_ble_eq_true rfl) (by decide) (by decide) (fun r_14 w_15 h_13 => ?_)
    obtain ⟨rfl, rfl⟩ := h_13
    refine v_eq (st' := [.int (x_abv 5), .int x, .int 60, .ref bo]) (ws' := [(bo, .inr (0, [.ref tr, .int (nI (n + 1)), .int i, .int (nI k), .int v])), (tr, eI D 20 (upd f n 60))]) rfl rfl rfl rfl ?_
    refine v_top (y := 2) (by decide) ?_
    refine v_iload O dX0_does_71 4 rfl ?_
    refine v_iconst (v := 1) O dX0_does_73 (by decide) ?_
    refine v_iadd O dX0_does_74 ?_
    refine v_top (y := nI (dp + 1)) (nI_add dp 1) ?_
    refine v_cV (T := TX0) (ci := 0) (As := [.int 60, .int x, .int 2, .int (nI (dp + 1))]) (wr := []) (st := []) O cf_X0_48 rfl (sp_X0_runs_60 (bo := bo) (tr := tr) (n := (n + 1)) (i := i) (k := k) (v := v) (f := (upd f n 60)) (x := x) (dp := (dp + 1)) (hk) (by omega) (by omega)) dX0_does_75 rfl rfl 0 rfl [0, 1] [] (by decide) rfl rfl (by decide) (by decide) (by decide) (Nat.le_of_ble_eq_true rfl) (by decide) (by decide) (fun r_17 w_18 h_16 => ?_)
    obtain ⟨rfl, rfl⟩ := h_16
    refine v_eq (st' := [.int (tV i v k (x - i) 2)]) (ws' := [(bo, .inr (0, [.ref tr, .int (nI ((n + 1) + (tL k 2).length)), .int i, .int (nI k), .int v])), (tr, eI D 20 (trW (upd f n 60) (n + 1) (tL k 2)))]) rfl rfl rfl rfl ?_
    exact v_ireturn O T rfl rfl (by decide) (by decide) dX0_does_78 (⟨rfl, by rw [show n + (tL k 5).length = n + 1 + (tL k 2).length from by rw [show (tL k 5).length = (tL k 2).length + 1 from rfl]; omega]; rfl⟩)
  · skip
    have z1 := (not_congr (c_le (x := nI dp) (y := 30) (a := dp) (b := 30) rfl rfl (by omega) (by omega))).mp z1
    exact absurd z1 (by omega)
theorem sp_X0_does_Tk {D : G} {bo : Nat} {tr : Nat} {n : Nat} {i : Int32} {k : Nat} {v : Int32} {f : Nat → Int32} {x : Int32} {dp : Nat} (hk : k < 7) (hn : n ≤ 0) (hdp : dp ≤ 0) : Sp D mX0_does 13 0 0 [.ref bo, .int 2, .int x, .int (nI k), .int (nI dp)] [(bo, .inr (0, [.ref tr, .int (nI n), .int i, .int (nI k), .int v])), (tr, eI D 20 f)] (fun r w => r = some (.int (tV i v k x k)) ∧ w = [(bo, .inr (0, [.ref tr, .int (nI (n + (tL k k).length)), .int i, .int (nI k), .int v])), (tr, eI D 20 (trW f n (tL k k)))]) := by
  rcases (show k = 0 ∨ k = 1 ∨ k = 2 ∨ k = 3 ∨ k = 4 ∨ k = 5 ∨ k = 6 by omega) with rfl | rfl | rfl | rfl | rfl | rfl | rfl
  · exact Sp.up (sp_X0_does_T0 (by omega) (by omega) (by omega)) (by decide)
  · exact Sp.up (sp_X0_does_T1 (by omega) (by omega) (by omega)) (by decide)
  · exact Sp.up (sp_X0_does_T2 (by omega) (by omega) (by omega)) (by decide)
  · exact Sp.up (sp_X0_does_T3 (by omega) (by omega) (by omega)) (by decide)
  · exact Sp.up (sp_X0_does_T4 (by omega) (by omega) (by omega)) (by decide)
  · exact Sp.up (sp_X0_does_T5 (by omega) (by omega) (by omega)) (by decide)
  · exact Sp.up (sp_X0_does_T6 (by omega) (by omega) (by omega)) (by decide)
set_option maxRecDepth 100000 in
set_option maxHeartbeats 4000000 in
theorem sp_X0_actsFor_W {D : G} {bo : Nat} {tr : Nat} {i0 : Int32} {k0 : Int32} {v0 : Int32} {i : Int32} {k : Nat} {v : Int32} {f : Nat → Int32} {x : Int32} (hk : k < 7) : Sp D mX0_actsFor 14 0 0 [.ref bo, .int i, .int (nI k), .int v, .int 0, .int x] [(bo, .inr (0, [.ref tr, .int (nI 0), .int i0, .int k0, .int v0])), (tr, eI D 20 f)] (fun r w => r = some (.int (wV i v x k)) ∧ w = [(bo, .inr (0, [.ref tr, .int (nI ((wL k).length)), .int i, .int (nI k), .int v])), (tr, eI D 20 (trW f 0 (wL k)))]) := by
  refine Sp.of (by decide) (Nat.le_of_ble_eq_true rfl) (fun X O T => ?_)
  refine v_eq (lv' := [(0, .ref bo), (1, .int i), (2, .int (nI k)), (3, .int v), (4, .int 0), (5, .int x)]) rfl rfl rfl rfl ?_
  refine v_aload_n O dX0_actsFor_0 0 rfl ?_
  refine v_iload_n O dX0_actsFor_1 1 rfl ?_
  refine pf_X0_19 (fs' := [.ref tr, .int (nI 0), .int i, .int k0, .int v0]) (ws' := [(bo, .inr (0, [.ref tr, .int (nI 0), .int i, .int k0, .int v0])), (tr, eI D 20 f)]) O rfl dX0_actsFor_2 0 rfl (Nat.le_of_ble_eq_true rfl) rfl rfl ?_
  refine v_aload_n O dX0_actsFor_5 0 rfl ?_
  refine v_iload_n O dX0_actsFor_6 2 rfl ?_
  refine pf_X0_22 (fs' := [.ref tr, .int (nI 0), .int i, .int (nI k), .int v0]) (ws' := [(bo, .inr (0, [.ref tr, .int (nI 0), .int i, .int (nI k), .int v0])), (tr, eI D 20 f)]) O rfl dX0_actsFor_7 0 rfl (Nat.le_of_ble_eq_true rfl) rfl rfl ?_
  refine v_aload_n O dX0_actsFor_10 0 rfl ?_
  refine v_iload_n O dX0_actsFor_11 3 rfl ?_
  refine pf_X0_25 (fs' := [.ref tr, .int (nI 0), .int i, .int (nI k), .int v]) (ws' := [(bo, .inr (0, [.ref tr, .int (nI 0), .int i, .int (nI k), .int v])), (tr, eI D 20 f)]) O rfl dX0_actsFor_12 0 rfl (Nat.le_of_ble_eq_true rfl) rfl rfl ?_
  refine v_aload_n O dX0_actsFor_15 0 rfl ?_
  refine v_iload O dX0_actsFor_16 4 rfl ?_
  refine v_iload O dX0_actsFor_18 5 rfl ?_
  refine v_aload_n O dX0_actsFor_20 0 rfl ?_
  refine gf_X0_22 O rfl dX0_actsFor_21 0 rfl rfl ?_
  refine v_iconst (v := 0) O dX0_actsFor_24 (by decide) ?_
  refine v_cV (T := TX0) (ci := 0) (As := [.int 0, .int x, .int (nI k), .int 0]) (wr := []) (st := []) O cf_X0_28 rfl (sp_X0_does_Wk (bo := bo) (tr := tr) (n := 0) (i := i) (k := k) (v := v) (f := f) (x := x) (dp := 0) (hk) (by decide) (by decide)) dX0_actsFor_25 rfl rfl 0 rfl [0, 1] [] (by decide) rfl rfl (by decide) (by decide) (by decide) (Nat.le_of_ble_eq_true rfl) (by decide) (by decide) (fun r_2 w_3 h_1 => ?_)
  obtain ⟨rfl, rfl⟩ := h_1
  refine v_eq (st' := [.int (wV i v x k)]) (ws' := [(bo, .inr (0, [.ref tr, .int (nI (0 + (wL k).length)), .int i, .int (nI k), .int v])), (tr, eI D 20 (trW f 0 (wL k)))]) rfl rfl rfl rfl ?_
  exact v_ireturn O T rfl rfl (by decide) (by decide) dX0_actsFor_28 (⟨rfl, by rw [Nat.zero_add]⟩)
set_option maxRecDepth 100000 in
set_option maxHeartbeats 4000000 in
theorem sp_X0_actsFor_H {D : G} {bo : Nat} {tr : Nat} {i0 : Int32} {k0 : Int32} {v0 : Int32} {i : Int32} {k : Nat} {v : Int32} {f : Nat → Int32} {x : Int32} (hk : k < 7) : Sp D mX0_actsFor 14 0 0 [.ref bo, .int i, .int (nI k), .int v, .int 1, .int x] [(bo, .inr (0, [.ref tr, .int (nI 0), .int i0, .int k0, .int v0])), (tr, eI D 20 f)] (fun r w => r = some (.int (hV i v k x k)) ∧ w = [(bo, .inr (0, [.ref tr, .int (nI ((hL k k).length)), .int i, .int (nI k), .int v])), (tr, eI D 20 (trW f 0 (hL k k)))]) := by
  refine Sp.of (by decide) (Nat.le_of_ble_eq_true rfl) (fun X O T => ?_)
  refine v_eq (lv' := [(0, .ref bo), (1, .int i), (2, .int (nI k)), (3, .int v), (4, .int 1), (5, .int x)]) rfl rfl rfl rfl ?_
  refine v_aload_n O dX0_actsFor_0 0 rfl ?_
  refine v_iload_n O dX0_actsFor_1 1 rfl ?_
  refine pf_X0_19 (fs' := [.ref tr, .int (nI 0), .int i, .int k0, .int v0]) (ws' := [(bo, .inr (0, [.ref tr, .int (nI 0), .int i, .int k0, .int v0])), (tr, eI D 20 f)]) O rfl dX0_actsFor_2 0 rfl (Nat.le_of_ble_eq_true rfl) rfl rfl ?_
  refine v_aload_n O dX0_actsFor_5 0 rfl ?_
  refine v_iload_n O dX0_actsFor_6 2 rfl ?_
  refine pf_X0_22 (fs' := [.ref tr, .int (nI 0), .int i, .int (nI k), .int v0]) (ws' := [(bo, .inr (0, [.ref tr, .int (nI 0), .int i, .int (nI k), .int v0])), (tr, eI D 20 f)]) O rfl dX0_actsFor_7 0 rfl (Nat.le_of_ble_eq_true rfl) rfl rfl ?_
  refine v_aload_n O dX0_actsFor_10 0 rfl ?_
  refine v_iload_n O dX0_actsFor_11 3 rfl ?_
  refine pf_X0_25 (fs' := [.ref tr, .int (nI 0), .int i, .int (nI k), .int v]) (ws' := [(bo, .inr (0, [.ref tr, .int (nI 0), .int i, .int (nI k), .int v])), (tr, eI D 20 f)]) O rfl dX0_actsFor_12 0 rfl (Nat.le_of_ble_eq_true rfl) rfl rfl ?_
  refine v_aload_n O dX0_actsFor_15 0 rfl ?_
  refine v_iload O dX0_actsFor_16 4 rfl ?_
  refine v_iload O dX0_actsFor_18 5 rfl ?_
  refine v_aload_n O dX0_actsFor_20 0 rfl ?_
  refine gf_X0_22 O rfl dX0_actsFor_21 0 rfl rfl ?_
  refine v_iconst (v := 0) O dX0_actsFor_24 (by decide) ?_
  refine v_cV (T := TX0) (ci := 0) (As := [.int 1, .int x, .int (nI k), .int 0]) (wr := []) (st := []) O cf_X0_28 rfl (sp_X0_does_Hk (bo := bo) (tr := tr) (n := 0) (i := i) (k := k) (v := v) (f := f) (x := x) (dp := 0) (hk) (by decide) (by decide)) dX0_actsFor_25 rfl rfl 0 rfl [0, 1] [] (by decide) rfl rfl (by decide) (by decide) (by decide) (Nat.le_of_ble_eq_true rfl) (by decide) (by decide) (fun r_2 w_3 h_1 => ?_)
  obtain ⟨rfl, rfl⟩ := h_1
  refine v_eq (st' := [.int (hV i v k x k)]) (ws' := [(bo, .inr (0, [.ref tr, .int (nI (0 + (hL k k).length)), .int i, .int (nI k), .int v])), (tr, eI D 20 (trW f 0 (hL k k)))]) rfl rfl rfl rfl ?_
  exact v_ireturn O T rfl rfl (by decide) (by decide) dX0_actsFor_28 (⟨rfl, by rw [Nat.zero_add]⟩)
set_option maxRecDepth 100000 in
set_option maxHeartbeats 4000000 in
theorem sp_X0_actsFor_T {D : G} {bo : Nat} {tr : Nat} {i0 : Int32} {k0 : Int32} {v0 : Int32} {i : Int32} {k : Nat} {v : Int32} {f : Nat → Int32} {x : Int32} (hk : k < 7) : Sp D mX0_actsFor 14 0 0 [.ref bo, .int i, .int (nI k), .int v, .int 2, .int x] [(bo, .inr (0, [.ref tr, .int (nI 0), .int i0, .int k0, .int v0])), (tr, eI D 20 f)] (fun r w => r = some (.int (tV i v k x k)) ∧ w = [(bo, .inr (0, [.ref tr, .int (nI ((tL k k).length)), .int i, .int (nI k), .int v])), (tr, eI D 20 (trW f 0 (tL k k)))]) := by
  refine Sp.of (by decide) (Nat.le_of_ble_eq_true rfl) (fun X O T => ?_)
  refine v_eq (lv' := [(0, .ref bo), (1, .int i), (2, .int (nI k)), (3, .int v), (4, .int 2), (5, .int x)]) rfl rfl rfl rfl ?_
  refine v_aload_n O dX0_actsFor_0 0 rfl ?_
  refine v_iload_n O dX0_actsFor_1 1 rfl ?_
  refine pf_X0_19 (fs' := [.ref tr, .int (nI 0), .int i, .int k0, .int v0]) (ws' := [(bo, .inr (0, [.ref tr, .int (nI 0), .int i, .int k0, .int v0])), (tr, eI D 20 f)]) O rfl dX0_actsFor_2 0 rfl (Nat.le_of_ble_eq_true rfl) rfl rfl ?_
  refine v_aload_n O dX0_actsFor_5 0 rfl ?_
  refine v_iload_n O dX0_actsFor_6 2 rfl ?_
  refine pf_X0_22 (fs' := [.ref tr, .int (nI 0), .int i, .int (nI k), .int v0]) (ws' := [(bo, .inr (0, [.ref tr, .int (nI 0), .int i, .int (nI k), .int v0])), (tr, eI D 20 f)]) O rfl dX0_actsFor_7 0 rfl (Nat.le_of_ble_eq_true rfl) rfl rfl ?_
  refine v_aload_n O dX0_actsFor_10 0 rfl ?_
  refine v_iload_n O dX0_actsFor_11 3 rfl ?_
  refine pf_X0_25 (fs' := [.ref tr, .int (nI 0), .int i, .int (nI k), .int v]) (ws' := [(bo, .inr (0, [.ref tr, .int (nI 0), .int i, .int (nI k), .int v])), (tr, eI D 20 f)]) O rfl dX0_actsFor_12 0 rfl (Nat.le_of_ble_eq_true rfl) rfl rfl ?_
  refine v_aload_n O dX0_actsFor_15 0 rfl ?_
  refine v_iload O dX0_actsFor_16 4 rfl ?_
  refine v_iload O dX0_actsFor_18 5 rfl ?_
  refine v_aload_n O dX0_actsFor_20 0 rfl ?_
  refine gf_X0_22 O rfl dX0_actsFor_21 0 rfl rfl ?_
  refine v_iconst (v := 0) O dX0_actsFor_24 (by decide) ?_
  refine v_cV (T := TX0) (ci := 0) (As := [.int 2, .int x, .int (nI k), .int 0]) (wr := []) (st := []) O cf_X0_28 rfl (sp_X0_does_Tk (bo := bo) (tr := tr) (n := 0) (i := i) (k := k) (v := v) (f := f) (x := x) (dp := 0) (hk) (by decide) (by decide)) dX0_actsFor_25 rfl rfl 0 rfl [0, 1] [] (by decide) rfl rfl (by decide) (by decide) (by decide) (Nat.le_of_ble_eq_true rfl) (by decide) (by decide) (fun r_2 w_3 h_1 => ?_)
  obtain ⟨rfl, rfl⟩ := h_1
  refine v_eq (st' := [.int (tV i v k x k)]) (ws' := [(bo, .inr (0, [.ref tr, .int (nI (0 + (tL k k).length)), .int i, .int (nI k), .int v])), (tr, eI D 20 (trW f 0 (tL k k)))]) rfl rfl rfl rfl ?_
  exact v_ireturn O T rfl rfl (by decide) (by decide) dX0_actsFor_28 (⟨rfl, by rw [Nat.zero_add]⟩)
