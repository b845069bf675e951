-- the reference: its object by the common state and the rest
def M1R (ma : Nat → Nat) (mf : Nat → Int32) : List Value := [.int (mf 0), .int (mf 1), .int (mf 2), .int (mf 3), .ref (ma 4), .ref (ma 5), .ref (ma 6), .int (mf 7), .int (mf 8), .int (mf 9), .int (mf 10), .int (mf 11), .ref (ma 12), .ref (ma 13), .ref (ma 14), .ref (ma 15), .ref (ma 16), .ref (ma 17), .ref (ma 18), .ref (ma 19), .int (mf 20), .int (mf 21), .int (mf 22), .ref (ma 23), .ref (ma 24), .int (mf 25), .int (mf 26), .int (mf 27), .int (mf 28), .int (mf 29), .ref (ma 30), .ref (ma 31), .ref (ma 32), .ref (ma 33), .int (mf 34), .ref (ma 35), .int (mf 36), .int (mf 37), .int (mf 38), .int (mf 39), .int (mf 40), .int (mf 41), .int (mf 42), .int (mf 43), .ref (ma 44), .ref (ma 45), .ref (ma 46), .ref (ma 47), .ref (ma 48), .int (mf 49), .ref (ma 50), .ref (ma 51), .ref (ma 52), .ref (ma 53), .ref (ma 54)]
def mZ (c c2 : CS) (tk : Int32) (vc ln rn : Nat) (z10 z11 z20 z21 z22 z25 z26 z27 z29 : Int32) : Nat → Int32 := fun k => ([nI c.men, nI c.heap, c.dogs, nI c.wak, 0, 0, 0, nI vc, c.held, nI ln, z10, z11, 0, 0, 0, 0, 0, 0, 0, 0, z20, z21, z22, 0, 0, z25, z26, z27, nI c.rl, z29, 0, 0, 0, 0, nI c.pg, 0, tk, c2.held, nI c2.men, nI c2.heap, c2.dogs, nI c2.wak, nI c2.rl, nI c2.pg, 0, 0, 0, 0, 0, nI rn, 0, 0, 0, 0, 0] : List Int32).getD k 0
def itm (ti : Nat → Nat → Int64) : Nat → Int64 := fun j => ti (j / 60) (j % 60)
def updT (ti : Nat → Nat → Int64) (t : Nat) (f : Nat → Int64) : Nat → Nat → Int64 := fun za => if za = t then f else ti za
theorem ix_m1 {n j : Nat} (hn : n ≤ 2147483648) (hj : j < 2147483648) : nI n - 1 < nI j ↔ n ≤ j := by
  cases n with
  | zero => exact ⟨fun _ => Nat.zero_le _, fun _ => Int32.lt_of_lt_of_le (show nI 0 - 1 < 0 by decide) (Int32.not_lt.mp (nI_pos hj))⟩
  | succ n => rw [nI_p, c_lt rfl rfl (by omega) hj]; omega
theorem isIx_to {x : Int32} {n : Nat} (hn : n ≤ 2147483648) (h1 : ¬ x < 0) (h2 : ¬ nI n - 1 < x) : isIx x n := by
  obtain ⟨j, hj, rfl⟩ := nI_of h1
  exact ⟨j, by rw [ix_m1 hn hj] at h2; omega, rfl⟩
theorem isIx_no {x : Int32} {n : Nat} (hn : n ≤ 2147483648) (h2 : nI n - 1 < x) : ¬ isIx x n := by
  rintro ⟨j, hj, rfl⟩
  rw [ix_m1 hn (by omega)] at h2
  omega
theorem itm_at {ti : Nat → Nat → Int64} {t i : Nat} (hi : i < 60) : itm ti (60 * t + i) = ti t i := by
  unfold itm
  rw [show (60 * t + i) / 60 = t by omega, show (60 * t + i) % 60 = i by omega]
set_option maxRecDepth 100000 in
set_option maxHeartbeats 4000000 in
theorem sp_X10_in_0 {D : G} {mo : Nat} {x : Int32} {h : Int32} {zn : Nat} (hh : h = nI zn - 1) (hn : zn ≤ 2147483648) : Sp D mX10_in 0 0 0 [.ref mo, .int x, .int 0, .int h] [] (fun r w => r = some (.int (b2i (isIx x zn))) ∧ w = []) := by
  refine Sp.of (by decide) (Nat.le_of_ble_eq_true rfl) (fun X O T => ?_)
  refine v_eq (lv' := [(0, .ref mo), (1, .int x), (2, .int 0), (3, .int h)]) rfl rfl rfl rfl ?_
  refine v_iload_n O dX10_in_0 1 rfl ?_
  refine v_iload_n O dX10_in_1 2 rfl ?_
  refine v_icmp_lt O 14 dX10_in_2 (by decide) (fun z1 => ?_) (fun z1 => ?_)
  · skip
    refine v_iconst (v := 0) O dX10_in_14 (by decide) ?_
    exact v_ireturn O T rfl rfl (by decide) (by decide) dX10_in_15 (⟨by rw [b2i_f (fun z9 => by obtain ⟨k9, _, e9⟩ := z9; rw [e9] at z1; exact nI_pos (by omega) z1)], rfl⟩)
  · skip
    refine v_iload_n O dX10_in_5 1 rfl ?_
    refine v_iload_n O dX10_in_6 3 rfl ?_
    refine v_icmp_gt O 14 dX10_in_7 (by decide) (fun z2 => ?_) (fun z2 => ?_)
    · skip
      refine v_iconst (v := 0) O dX10_in_14 (by decide) ?_
      exact v_ireturn O T rfl rfl (by decide) (by decide) dX10_in_15 (⟨by rw [b2i_f (isIx_no hn (by rw [← hh]; exact z2))], rfl⟩)
    · skip
      refine v_iconst (v := 1) O dX10_in_10 (by decide) ?_
      refine v_goto O 15 dX10_in_11 (by decide) ?_
      exact v_ireturn O T rfl rfl (by decide) (by decide) dX10_in_15 (⟨by rw [b2i_t (isIx_to hn z1 (by rw [← hh]; exact z2))], rfl⟩)
set_option maxRecDepth 100000 in
set_option maxHeartbeats 4000000 in
theorem sp_X10_in_m1_5 {D : G} {mo : Nat} {x : Int32} : Sp D mX10_in 0 0 0 [.ref mo, .int x, .int (-1), .int 5] [] (fun r w => r = some (.int (b2i (-1 ≤ x ∧ x ≤ 5))) ∧ w = []) := by
  refine Sp.of (by decide) (Nat.le_of_ble_eq_true rfl) (fun X O T => ?_)
  refine v_eq (lv' := [(0, .ref mo), (1, .int x), (2, .int (-1)), (3, .int 5)]) rfl rfl rfl rfl ?_
  refine v_iload_n O dX10_in_0 1 rfl ?_
  refine v_iload_n O dX10_in_1 2 rfl ?_
  refine v_icmp_lt O 14 dX10_in_2 (by decide) (fun z1 => ?_) (fun z1 => ?_)
  · skip
    refine v_iconst (v := 0) O dX10_in_14 (by decide) ?_
    exact v_ireturn O T rfl rfl (by decide) (by decide) dX10_in_15 (⟨by rw [b2i_f (fun z9 => absurd z1 (Int32.not_lt.mpr z9.1))], rfl⟩)
  · skip
    refine v_iload_n O dX10_in_5 1 rfl ?_
    refine v_iload_n O dX10_in_6 3 rfl ?_
    refine v_icmp_gt O 14 dX10_in_7 (by decide) (fun z2 => ?_) (fun z2 => ?_)
    · skip
      refine v_iconst (v := 0) O dX10_in_14 (by decide) ?_
      exact v_ireturn O T rfl rfl (by decide) (by decide) dX10_in_15 (⟨by rw [b2i_f (fun z9 => absurd z2 (Int32.not_lt.mpr z9.2))], rfl⟩)
    · skip
      refine v_iconst (v := 1) O dX10_in_10 (by decide) ?_
      refine v_goto O 15 dX10_in_11 (by decide) ?_
      exact v_ireturn O T rfl rfl (by decide) (by decide) dX10_in_15 (⟨by rw [b2i_t ⟨Int32.not_lt.mp z1, Int32.not_lt.mp z2⟩], rfl⟩)
set_option maxRecDepth 100000 in
set_option maxHeartbeats 4000000 in
theorem sp_X10_in_m2_m1 {D : G} {mo : Nat} {x : Int32} : Sp D mX10_in 0 0 0 [.ref mo, .int x, .int (-2), .int (-1)] [] (fun r w => r = some (.int (b2i (-2 ≤ x ∧ x ≤ -1))) ∧ w = []) := by
  refine Sp.of (by decide) (Nat.le_of_ble_eq_true rfl) (fun X O T => ?_)
  refine v_eq (lv' := [(0, .ref mo), (1, .int x), (2, .int (-2)), (3, .int (-1))]) rfl rfl rfl rfl ?_
  refine v_iload_n O dX10_in_0 1 rfl ?_
  refine v_iload_n O dX10_in_1 2 rfl ?_
  refine v_icmp_lt O 14 dX10_in_2 (by decide) (fun z1 => ?_) (fun z1 => ?_)
  · skip
    refine v_iconst (v := 0) O dX10_in_14 (by decide) ?_
    exact v_ireturn O T rfl rfl (by decide) (by decide) dX10_in_15 (⟨by rw [b2i_f (fun z9 => absurd z1 (Int32.not_lt.mpr z9.1))], rfl⟩)
  · skip
    refine v_iload_n O dX10_in_5 1 rfl ?_
    refine v_iload_n O dX10_in_6 3 rfl ?_
    refine v_icmp_gt O 14 dX10_in_7 (by decide) (fun z2 => ?_) (fun z2 => ?_)
    · skip
      refine v_iconst (v := 0) O dX10_in_14 (by decide) ?_
      exact v_ireturn O T rfl rfl (by decide) (by decide) dX10_in_15 (⟨by rw [b2i_f (fun z9 => absurd z2 (Int32.not_lt.mpr z9.2))], rfl⟩)
    · skip
      refine v_iconst (v := 1) O dX10_in_10 (by decide) ?_
      refine v_goto O 15 dX10_in_11 (by decide) ?_
      exact v_ireturn O T rfl rfl (by decide) (by decide) dX10_in_15 (⟨by rw [b2i_t ⟨Int32.not_lt.mp z1, Int32.not_lt.mp z2⟩], rfl⟩)
set_option maxRecDepth 100000 in
set_option maxHeartbeats 4000000 in
theorem sp_X10_in_m1_39 {D : G} {mo : Nat} {x : Int32} : Sp D mX10_in 0 0 0 [.ref mo, .int x, .int (-1), .int 39] [] (fun r w => r = some (.int (b2i (-1 ≤ x ∧ x ≤ 39))) ∧ w = []) := by
  refine Sp.of (by decide) (Nat.le_of_ble_eq_true rfl) (fun X O T => ?_)
  refine v_eq (lv' := [(0, .ref mo), (1, .int x), (2, .int (-1)), (3, .int 39)]) rfl rfl rfl rfl ?_
  refine v_iload_n O dX10_in_0 1 rfl ?_
  refine v_iload_n O dX10_in_1 2 rfl ?_
  refine v_icmp_lt O 14 dX10_in_2 (by decide) (fun z1 => ?_) (fun z1 => ?_)
  · skip
    refine v_iconst (v := 0) O dX10_in_14 (by decide) ?_
    exact v_ireturn O T rfl rfl (by decide) (by decide) dX10_in_15 (⟨by rw [b2i_f (fun z9 => absurd z1 (Int32.not_lt.mpr z9.1))], rfl⟩)
  · skip
    refine v_iload_n O dX10_in_5 1 rfl ?_
    refine v_iload_n O dX10_in_6 3 rfl ?_
    refine v_icmp_gt O 14 dX10_in_7 (by decide) (fun z2 => ?_) (fun z2 => ?_)
    · skip
      refine v_iconst (v := 0) O dX10_in_14 (by decide) ?_
      exact v_ireturn O T rfl rfl (by decide) (by decide) dX10_in_15 (⟨by rw [b2i_f (fun z9 => absurd z2 (Int32.not_lt.mpr z9.2))], rfl⟩)
    · skip
      refine v_iconst (v := 1) O dX10_in_10 (by decide) ?_
      refine v_goto O 15 dX10_in_11 (by decide) ?_
      exact v_ireturn O T rfl rfl (by decide) (by decide) dX10_in_15 (⟨by rw [b2i_t ⟨Int32.not_lt.mp z1, Int32.not_lt.mp z2⟩], rfl⟩)
set_option maxRecDepth 100000 in
set_option maxHeartbeats 4000000 in
theorem sp_X10_in_m1_4 {D : G} {mo : Nat} {x : Int32} : Sp D mX10_in 0 0 0 [.ref mo, .int x, .int (-1), .int 4] [] (fun r w => r = some (.int (b2i (-1 ≤ x ∧ x ≤ 4))) ∧ w = []) := by
  refine Sp.of (by decide) (Nat.le_of_ble_eq_true rfl) (fun X O T => ?_)
  refine v_eq (lv' := [(0, .ref mo), (1, .int x), (2, .int (-1)), (3, .int 4)]) rfl rfl rfl rfl ?_
  refine v_iload_n O dX10_in_0 1 rfl ?_
  refine v_iload_n O dX10_in_1 2 rfl ?_
  refine v_icmp_lt O 14 dX10_in_2 (by decide) (fun z1 => ?_) (fun z1 => ?_)
  · skip
    refine v_iconst (v := 0) O dX10_in_14 (by decide) ?_
    exact v_ireturn O T rfl rfl (by decide) (by decide) dX10_in_15 (⟨by rw [b2i_f (fun z9 => absurd z1 (Int32.not_lt.mpr z9.1))], rfl⟩)
  · skip
    refine v_iload_n O dX10_in_5 1 rfl ?_
    refine v_iload_n O dX10_in_6 3 rfl ?_
    refine v_icmp_gt O 14 dX10_in_7 (by decide) (fun z2 => ?_) (fun z2 => ?_)
    · skip
      refine v_iconst (v := 0) O dX10_in_14 (by decide) ?_
      exact v_ireturn O T rfl rfl (by decide) (by decide) dX10_in_15 (⟨by rw [b2i_f (fun z9 => absurd z2 (Int32.not_lt.mpr z9.2))], rfl⟩)
    · skip
      refine v_iconst (v := 1) O dX10_in_10 (by decide) ?_
      refine v_goto O 15 dX10_in_11 (by decide) ?_
      exact v_ireturn O T rfl rfl (by decide) (by decide) dX10_in_15 (⟨by rw [b2i_t ⟨Int32.not_lt.mp z1, Int32.not_lt.mp z2⟩], rfl⟩)
set_option maxRecDepth 100000 in
set_option maxHeartbeats 4000000 in
theorem sp_X10_in_102_199 {D : G} {mo : Nat} {x : Int32} : Sp D mX10_in 0 0 0 [.ref mo, .int x, .int 102, .int 199] [] (fun r w => r = some (.int (b2i (102 ≤ x ∧ x ≤ 199))) ∧ w = []) := by
  refine Sp.of (by decide) (Nat.le_of_ble_eq_true rfl) (fun X O T => ?_)
  refine v_eq (lv' := [(0, .ref mo), (1, .int x), (2, .int 102), (3, .int 199)]) rfl rfl rfl rfl ?_
  refine v_iload_n O dX10_in_0 1 rfl ?_
  refine v_iload_n O dX10_in_1 2 rfl ?_
  refine v_icmp_lt O 14 dX10_in_2 (by decide) (fun z1 => ?_) (fun z1 => ?_)
  · skip
    refine v_iconst (v := 0) O dX10_in_14 (by decide) ?_
    exact v_ireturn O T rfl rfl (by decide) (by decide) dX10_in_15 (⟨by rw [b2i_f (fun z9 => absurd z1 (Int32.not_lt.mpr z9.1))], rfl⟩)
  · skip
    refine v_iload_n O dX10_in_5 1 rfl ?_
    refine v_iload_n O dX10_in_6 3 rfl ?_
    refine v_icmp_gt O 14 dX10_in_7 (by decide) (fun z2 => ?_) (fun z2 => ?_)
    · skip
      refine v_iconst (v := 0) O dX10_in_14 (by decide) ?_
      exact v_ireturn O T rfl rfl (by decide) (by decide) dX10_in_15 (⟨by rw [b2i_f (fun z9 => absurd z2 (Int32.not_lt.mpr z9.2))], rfl⟩)
    · skip
      refine v_iconst (v := 1) O dX10_in_10 (by decide) ?_
      refine v_goto O 15 dX10_in_11 (by decide) ?_
      exact v_ireturn O T rfl rfl (by decide) (by decide) dX10_in_15 (⟨by rw [b2i_t ⟨Int32.not_lt.mp z1, Int32.not_lt.mp z2⟩], rfl⟩)
set_option maxRecDepth 100000 in
set_option maxHeartbeats 4000000 in
theorem sp_X10_in_2_12 {D : G} {mo : Nat} {x : Int32} : Sp D mX10_in 0 0 0 [.ref mo, .int x, .int 2, .int 12] [] (fun r w => r = some (.int (b2i (2 ≤ x ∧ x ≤ 12))) ∧ w = []) := by
  refine Sp.of (by decide) (Nat.le_of_ble_eq_true rfl) (fun X O T => ?_)
  refine v_eq (lv' := [(0, .ref mo), (1, .int x), (2, .int 2), (3, .int 12)]) rfl rfl rfl rfl ?_
  refine v_iload_n O dX10_in_0 1 rfl ?_
  refine v_iload_n O dX10_in_1 2 rfl ?_
  refine v_icmp_lt O 14 dX10_in_2 (by decide) (fun z1 => ?_) (fun z1 => ?_)
  · skip
    refine v_iconst (v := 0) O dX10_in_14 (by decide) ?_
    exact v_ireturn O T rfl rfl (by decide) (by decide) dX10_in_15 (⟨by rw [b2i_f (fun z9 => absurd z1 (Int32.not_lt.mpr z9.1))], rfl⟩)
  · skip
    refine v_iload_n O dX10_in_5 1 rfl ?_
    refine v_iload_n O dX10_in_6 3 rfl ?_
    refine v_icmp_gt O 14 dX10_in_7 (by decide) (fun z2 => ?_) (fun z2 => ?_)
    · skip
      refine v_iconst (v := 0) O dX10_in_14 (by decide) ?_
      exact v_ireturn O T rfl rfl (by decide) (by decide) dX10_in_15 (⟨by rw [b2i_f (fun z9 => absurd z2 (Int32.not_lt.mpr z9.2))], rfl⟩)
    · skip
      refine v_iconst (v := 1) O dX10_in_10 (by decide) ?_
      refine v_goto O 15 dX10_in_11 (by decide) ?_
      exact v_ireturn O T rfl rfl (by decide) (by decide) dX10_in_15 (⟨by rw [b2i_t ⟨Int32.not_lt.mp z1, Int32.not_lt.mp z2⟩], rfl⟩)
set_option maxRecDepth 100000 in
set_option maxHeartbeats 4000000 in
theorem sp_X10_in_1_30 {D : G} {mo : Nat} {x : Int32} : Sp D mX10_in 0 0 0 [.ref mo, .int x, .int 1, .int 30] [] (fun r w => r = some (.int (b2i (1 ≤ x ∧ x ≤ 30))) ∧ w = []) := by
  refine Sp.of (by decide) (Nat.le_of_ble_eq_true rfl) (fun X O T => ?_)
  refine v_eq (lv' := [(0, .ref mo), (1, .int x), (2, .int 1), (3, .int 30)]) rfl rfl rfl rfl ?_
  refine v_iload_n O dX10_in_0 1 rfl ?_
  refine v_iload_n O dX10_in_1 2 rfl ?_
  refine v_icmp_lt O 14 dX10_in_2 (by decide) (fun z1 => ?_) (fun z1 => ?_)
  · skip
    refine v_iconst (v := 0) O dX10_in_14 (by decide) ?_
    exact v_ireturn O T rfl rfl (by decide) (by decide) dX10_in_15 (⟨by rw [b2i_f (fun z9 => absurd z1 (Int32.not_lt.mpr z9.1))], rfl⟩)
  · skip
    refine v_iload_n O dX10_in_5 1 rfl ?_
    refine v_iload_n O dX10_in_6 3 rfl ?_
    refine v_icmp_gt O 14 dX10_in_7 (by decide) (fun z2 => ?_) (fun z2 => ?_)
    · skip
      refine v_iconst (v := 0) O dX10_in_14 (by decide) ?_
      exact v_ireturn O T rfl rfl (by decide) (by decide) dX10_in_15 (⟨by rw [b2i_f (fun z9 => absurd z2 (Int32.not_lt.mpr z9.2))], rfl⟩)
    · skip
      refine v_iconst (v := 1) O dX10_in_10 (by decide) ?_
      refine v_goto O 15 dX10_in_11 (by decide) ?_
      exact v_ireturn O T rfl rfl (by decide) (by decide) dX10_in_15 (⟨by rw [b2i_t ⟨Int32.not_lt.mp z1, Int32.not_lt.mp z2⟩], rfl⟩)
set_option maxRecDepth 100000 in
set_option maxHeartbeats 4000000 in
theorem sp_X10_in_60_62 {D : G} {mo : Nat} {x : Int32} : Sp D mX10_in 0 0 0 [.ref mo, .int x, .int 60, .int 62] [] (fun r w => r = some (.int (b2i (60 ≤ x ∧ x ≤ 62))) ∧ w = []) := by
  refine Sp.of (by decide) (Nat.le_of_ble_eq_true rfl) (fun X O T => ?_)
  refine v_eq (lv' := [(0, .ref mo), (1, .int x), (2, .int 60), (3, .int 62)]) rfl rfl rfl rfl ?_
  refine v_iload_n O dX10_in_0 1 rfl ?_
  refine v_iload_n O dX10_in_1 2 rfl ?_
  refine v_icmp_lt O 14 dX10_in_2 (by decide) (fun z1 => ?_) (fun z1 => ?_)
  · skip
    refine v_iconst (v := 0) O dX10_in_14 (by decide) ?_
    exact v_ireturn O T rfl rfl (by decide) (by decide) dX10_in_15 (⟨by rw [b2i_f (fun z9 => absurd z1 (Int32.not_lt.mpr z9.1))], rfl⟩)
  · skip
    refine v_iload_n O dX10_in_5 1 rfl ?_
    refine v_iload_n O dX10_in_6 3 rfl ?_
    refine v_icmp_gt O 14 dX10_in_7 (by decide) (fun z2 => ?_) (fun z2 => ?_)
    · skip
      refine v_iconst (v := 0) O dX10_in_14 (by decide) ?_
      exact v_ireturn O T rfl rfl (by decide) (by decide) dX10_in_15 (⟨by rw [b2i_f (fun z9 => absurd z2 (Int32.not_lt.mpr z9.2))], rfl⟩)
    · skip
      refine v_iconst (v := 1) O dX10_in_10 (by decide) ?_
      refine v_goto O 15 dX10_in_11 (by decide) ?_
      exact v_ireturn O T rfl rfl (by decide) (by decide) dX10_in_15 (⟨by rw [b2i_t ⟨Int32.not_lt.mp z1, Int32.not_lt.mp z2⟩], rfl⟩)
set_option maxRecDepth 100000 in
set_option maxHeartbeats 4000000 in
theorem sp_X10_in_48_57 {D : G} {mo : Nat} {x : Int32} : Sp D mX10_in 0 0 0 [.ref mo, .int x, .int 48, .int 57] [] (fun r w => r = some (.int (b2i (48 ≤ x ∧ x ≤ 57))) ∧ w = []) := by
  refine Sp.of (by decide) (Nat.le_of_ble_eq_true rfl) (fun X O T => ?_)
  refine v_eq (lv' := [(0, .ref mo), (1, .int x), (2, .int 48), (3, .int 57)]) rfl rfl rfl rfl ?_
  refine v_iload_n O dX10_in_0 1 rfl ?_
  refine v_iload_n O dX10_in_1 2 rfl ?_
  refine v_icmp_lt O 14 dX10_in_2 (by decide) (fun z1 => ?_) (fun z1 => ?_)
  · skip
    refine v_iconst (v := 0) O dX10_in_14 (by decide) ?_
    exact v_ireturn O T rfl rfl (by decide) (by decide) dX10_in_15 (⟨by rw [b2i_f (fun z9 => absurd z1 (Int32.not_lt.mpr z9.1))], rfl⟩)
  · skip
    refine v_iload_n O dX10_in_5 1 rfl ?_
    refine v_iload_n O dX10_in_6 3 rfl ?_
    refine v_icmp_gt O 14 dX10_in_7 (by decide) (fun z2 => ?_) (fun z2 => ?_)
    · skip
      refine v_iconst (v := 0) O dX10_in_14 (by decide) ?_
      exact v_ireturn O T rfl rfl (by decide) (by decide) dX10_in_15 (⟨by rw [b2i_f (fun z9 => absurd z2 (Int32.not_lt.mpr z9.2))], rfl⟩)
    · skip
      refine v_iconst (v := 1) O dX10_in_10 (by decide) ?_
      refine v_goto O 15 dX10_in_11 (by decide) ?_
      exact v_ireturn O T rfl rfl (by decide) (by decide) dX10_in_15 (⟨by rw [b2i_t ⟨Int32.not_lt.mp z1, Int32.not_lt.mp z2⟩], rfl⟩)
set_option maxRecDepth 100000 in
set_option maxHeartbeats 4000000 in
theorem sp_X10_in_1_9999 {D : G} {mo : Nat} {x : Int32} : Sp D mX10_in 0 0 0 [.ref mo, .int x, .int 1, .int 9999] [] (fun r w => r = some (.int (b2i (1 ≤ x ∧ x ≤ 9999))) ∧ w = []) := by
  refine Sp.of (by decide) (Nat.le_of_ble_eq_true rfl) (fun X O T => ?_)
  refine v_eq (lv' := [(0, .ref mo), (1, .int x), (2, .int 1), (3, .int 9999)]) rfl rfl rfl rfl ?_
  refine v_iload_n O dX10_in_0 1 rfl ?_
  refine v_iload_n O dX10_in_1 2 rfl ?_
  refine v_icmp_lt O 14 dX10_in_2 (by decide) (fun z1 => ?_) (fun z1 => ?_)
  · skip
    refine v_iconst (v := 0) O dX10_in_14 (by decide) ?_
    exact v_ireturn O T rfl rfl (by decide) (by decide) dX10_in_15 (⟨by rw [b2i_f (fun z9 => absurd z1 (Int32.not_lt.mpr z9.1))], rfl⟩)
  · skip
    refine v_iload_n O dX10_in_5 1 rfl ?_
    refine v_iload_n O dX10_in_6 3 rfl ?_
    refine v_icmp_gt O 14 dX10_in_7 (by decide) (fun z2 => ?_) (fun z2 => ?_)
    · skip
      refine v_iconst (v := 0) O dX10_in_14 (by decide) ?_
      exact v_ireturn O T rfl rfl (by decide) (by decide) dX10_in_15 (⟨by rw [b2i_f (fun z9 => absurd z2 (Int32.not_lt.mpr z9.2))], rfl⟩)
    · skip
      refine v_iconst (v := 1) O dX10_in_10 (by decide) ?_
      refine v_goto O 15 dX10_in_11 (by decide) ?_
      exact v_ireturn O T rfl rfl (by decide) (by decide) dX10_in_15 (⟨by rw [b2i_t ⟨Int32.not_lt.mp z1, Int32.not_lt.mp z2⟩], rfl⟩)
set_option maxRecDepth 100000 in
set_option maxHeartbeats 4000000 in
theorem sp_X10_isMan {D : G} {mo : Nat} {ma : Nat → Nat} {c : CS} {c2 : CS} {tk : Int32} {vc : Nat} {ln : Nat} {rn : Nat} {zs_10 : Int32} {zs_11 : Int32} {zs_20 : Int32} {zs_21 : Int32} {zs_22 : Int32} {zs_25 : Int32} {zs_26 : Int32} {zs_27 : Int32} {zs_29 : Int32} {i : Int32} (hm : c.men ≤ 6) : Sp D mX10_isMan 1 0 0 [.ref mo, .int i] [(mo, .inr (10, M1R ma (mZ c c2 tk vc ln rn zs_10 zs_11 zs_20 zs_21 zs_22 zs_25 zs_26 zs_27 zs_29)))] (fun r w => r = some (.int (b2i (isIx i c.men))) ∧ w = [(mo, .inr (10, M1R ma (mZ c c2 tk vc ln rn zs_10 zs_11 zs_20 zs_21 zs_22 zs_25 zs_26 zs_27 zs_29)))]) := by
  refine Sp.of (by decide) (Nat.le_of_ble_eq_true rfl) (fun X O T => ?_)
  refine v_eq (lv' := [(0, .ref mo), (1, .int i)]) rfl rfl rfl rfl ?_
  refine v_aload_n O dX10_isMan_0 0 rfl ?_
  refine v_iload_n O dX10_isMan_1 1 rfl ?_
  refine v_iconst (v := 0) O dX10_isMan_2 (by decide) ?_
  refine v_aload_n O dX10_isMan_3 0 rfl ?_
  refine gf_X10_7 (v := .int (nI c.men)) O rfl dX10_isMan_4 0 rfl rfl ?_
  refine v_iconst (v := 1) O dX10_isMan_7 (by decide) ?_
  refine v_isub O dX10_isMan_8 ?_
  refine v_cV (T := TX10) (ci := 10) (As := [.int i, .int 0, .int ((nI c.men) - 1)]) (wr := [(mo, .inr (10, M1R ma (mZ c c2 tk vc ln rn zs_10 zs_11 zs_20 zs_21 zs_22 zs_25 zs_26 zs_27 zs_29)))]) (st := []) O cf_X10_179 rfl (sp_X10_in_0 (mo := mo) (x := i) (h := ((nI c.men) - 1)) (zn := c.men) (rfl) (by omega)) dX10_isMan_9 rfl rfl 0 rfl [] [0] (by decide) rfl rfl (by decide) (by decide) (by decide) (Nat.le_of_ble_eq_true rfl) (by decide) (by decide) (fun r_2 w_3 h_1 => ?_)
  obtain ⟨rfl, rfl⟩ := h_1
  refine v_eq (st' := [.int (b2i (isIx i c.men))]) (ws' := [(mo, .inr (10, M1R ma (mZ c c2 tk vc ln rn zs_10 zs_11 zs_20 zs_21 zs_22 zs_25 zs_26 zs_27 zs_29)))]) rfl rfl rfl rfl ?_
  exact v_ireturn O T rfl (nrb _) (by decide) (by decide) dX10_isMan_12 (⟨rfl, rfl⟩)
set_option maxRecDepth 100000 in
set_option maxHeartbeats 4000000 in
theorem sp_X10_isHeap {D : G} {mo : Nat} {ma : Nat → Nat} {c : CS} {c2 : CS} {tk : Int32} {vc : Nat} {ln : Nat} {rn : Nat} {zs_10 : Int32} {zs_11 : Int32} {zs_20 : Int32} {zs_21 : Int32} {zs_22 : Int32} {zs_25 : Int32} {zs_26 : Int32} {zs_27 : Int32} {zs_29 : Int32} {h : Int32} : Sp D mX10_isHeap 1 0 0 [.ref mo, .int h] [(mo, .inr (10, M1R ma (mZ c c2 tk vc ln rn zs_10 zs_11 zs_20 zs_21 zs_22 zs_25 zs_26 zs_27 zs_29)))] (fun r w => r = some (.int (b2i (isIx h 1000000))) ∧ w = [(mo, .inr (10, M1R ma (mZ c c2 tk vc ln rn zs_10 zs_11 zs_20 zs_21 zs_22 zs_25 zs_26 zs_27 zs_29)))]) := by
  refine Sp.of (by decide) (Nat.le_of_ble_eq_true rfl) (fun X O T => ?_)
  refine v_eq (lv' := [(0, .ref mo), (1, .int h)]) rfl rfl rfl rfl ?_
  refine v_aload_n O dX10_isHeap_0 0 rfl ?_
  refine v_iload_n O dX10_isHeap_1 1 rfl ?_
  refine v_iconst (v := 0) O dX10_isHeap_2 (by decide) ?_
  refine v_ldc (v := 999999) O tw_1150 dX10_isHeap_3 ?_
  refine v_cV (T := TX10) (ci := 10) (As := [.int h, .int 0, .int 999999]) (wr := [(mo, .inr (10, M1R ma (mZ c c2 tk vc ln rn zs_10 zs_11 zs_20 zs_21 zs_22 zs_25 zs_26 zs_27 zs_29)))]) (st := []) O cf_X10_179 rfl (sp_X10_in_0 (mo := mo) (x := h) (h := 999999) (zn := 1000000) (rfl) (by decide)) dX10_isHeap_5 rfl rfl 0 rfl [] [0] (by decide) rfl rfl (by decide) (by decide) (by decide) (Nat.le_of_ble_eq_true rfl) (by decide) (by decide) (fun r_2 w_3 h_1 => ?_)
  obtain ⟨rfl, rfl⟩ := h_1
  refine v_eq (st' := [.int (b2i (isIx h 1000000))]) (ws' := [(mo, .inr (10, M1R ma (mZ c c2 tk vc ln rn zs_10 zs_11 zs_20 zs_21 zs_22 zs_25 zs_26 zs_27 zs_29)))]) rfl rfl rfl rfl ?_
  exact v_ireturn O T rfl (nrb _) (by decide) (by decide) dX10_isHeap_8 (⟨rfl, rfl⟩)
set_option maxRecDepth 100000 in
set_option maxHeartbeats 4000000 in
theorem sp_X10_isTape {D : G} {mo : Nat} {ma : Nat → Nat} {c : CS} {c2 : CS} {tk : Int32} {vc : Nat} {ln : Nat} {rn : Nat} {zs_10 : Int32} {zs_11 : Int32} {zs_20 : Int32} {zs_21 : Int32} {zs_22 : Int32} {zs_25 : Int32} {zs_26 : Int32} {zs_27 : Int32} {zs_29 : Int32} {t : Int32} : Sp D mX10_isTape 1 0 0 [.ref mo, .int t] [(mo, .inr (10, M1R ma (mZ c c2 tk vc ln rn zs_10 zs_11 zs_20 zs_21 zs_22 zs_25 zs_26 zs_27 zs_29)))] (fun r w => r = some (.int (b2i (isIx t 6))) ∧ w = [(mo, .inr (10, M1R ma (mZ c c2 tk vc ln rn zs_10 zs_11 zs_20 zs_21 zs_22 zs_25 zs_26 zs_27 zs_29)))]) := by
  refine Sp.of (by decide) (Nat.le_of_ble_eq_true rfl) (fun X O T => ?_)
  refine v_eq (lv' := [(0, .ref mo), (1, .int t)]) rfl rfl rfl rfl ?_
  refine v_aload_n O dX10_isTape_0 0 rfl ?_
  refine v_iload_n O dX10_isTape_1 1 rfl ?_
  refine v_iconst (v := 0) O dX10_isTape_2 (by decide) ?_
  refine v_iconst (v := 5) O dX10_isTape_3 (by decide) ?_
  refine v_cV (T := TX10) (ci := 10) (As := [.int t, .int 0, .int 5]) (wr := [(mo, .inr (10, M1R ma (mZ c c2 tk vc ln rn zs_10 zs_11 zs_20 zs_21 zs_22 zs_25 zs_26 zs_27 zs_29)))]) (st := []) O cf_X10_179 rfl (sp_X10_in_0 (mo := mo) (x := t) (h := 5) (zn := 6) (rfl) (by decide)) dX10_isTape_4 rfl rfl 0 rfl [] [0] (by decide) rfl rfl (by decide) (by decide) (by decide) (Nat.le_of_ble_eq_true rfl) (by decide) (by decide) (fun r_2 w_3 h_1 => ?_)
  obtain ⟨rfl, rfl⟩ := h_1
  refine v_eq (st' := [.int (b2i (isIx t 6))]) (ws' := [(mo, .inr (10, M1R ma (mZ c c2 tk vc ln rn zs_10 zs_11 zs_20 zs_21 zs_22 zs_25 zs_26 zs_27 zs_29)))]) rfl rfl rfl rfl ?_
  exact v_ireturn O T rfl (nrb _) (by decide) (by decide) dX10_isTape_7 (⟨rfl, rfl⟩)
set_option maxRecDepth 100000 in
set_option maxHeartbeats 4000000 in
theorem sp_X10_man_1 {D : G} {mo : Nat} {ma : Nat → Nat} {c : CS} {c2 : CS} {tk : Int32} {vc : Nat} {ln : Nat} {rn : Nat} {zs_10 : Int32} {zs_11 : Int32} {zs_20 : Int32} {zs_21 : Int32} {zs_22 : Int32} {zs_25 : Int32} {zs_26 : Int32} {zs_27 : Int32} {zs_29 : Int32} {k : Int32} {v : Int32} (hC : cOk c) (hk : ¬ isIx k 7) : Sp D mX10_man 30 0 0 [.ref mo, .int k, .int v] [(mo, .inr (10, M1R ma (mZ c c2 tk vc ln rn zs_10 zs_11 zs_20 zs_21 zs_22 zs_25 zs_26 zs_27 zs_29))), ((ma 4), eI D 6 (nF c.kk)), ((ma 5), eI D 6 (nF c.vv)), ((ma 6), eI D 6 c.hd), ((ma 30), eI D 8 (nF c.crf)), ((ma 35), eI D 12 (nF c.bo))] (fun r w => ∃ zs2_10 : Int32, ∃ zs2_11 : Int32, ∃ zs2_20 : Int32, ∃ zs2_21 : Int32, ∃ zs2_22 : Int32, ∃ zs2_25 : Int32, ∃ zs2_26 : Int32, ∃ zs2_27 : Int32, ∃ zs2_29 : Int32, r = some (.int (-1)) ∧ w = [(mo, .inr (10, M1R ma (mZ c c2 tk vc ln rn zs2_10 zs2_11 zs2_20 zs2_21 zs2_22 zs2_25 zs2_26 zs2_27 zs2_29))), ((ma 4), eI D 6 (nF c.kk)), ((ma 5), eI D 6 (nF c.vv)), ((ma 6), eI D 6 c.hd), ((ma 30), eI D 8 (nF c.crf)), ((ma 35), eI D 12 (nF c.bo))]) := by
  refine Sp.of (by decide) (Nat.le_of_ble_eq_true rfl) (fun X O T => ?_)
  refine v_eq (lv' := [(0, .ref mo), (1, .int k), (2, .int v)]) rfl rfl rfl rfl ?_
  have z_m := hC.1
  have z_hp := hC.2.2.2.1
  have z_wk := hC.2.2.2.2.1
  have z_rl := hC.2.2.2.2.2.1
  have z_pg := hC.2.2.2.2.2.2.2.1
  refine v_aload_n O dX10_man_0 0 rfl ?_
  refine v_iload_n O dX10_man_1 1 rfl ?_
  refine v_iconst (v := 0) O dX10_man_2 (by decide) ?_
  refine v_bipush (v := 6) O dX10_man_3 (by decide) ?_
  refine v_cV (T := TX10) (ci := 10) (As := [.int k, .int 0, .int 6]) (wr := [(mo, .inr (10, M1R ma (mZ c c2 tk vc ln rn zs_10 zs_11 zs_20 zs_21 zs_22 zs_25 zs_26 zs_27 zs_29))), ((ma 4), eI D 6 (nF c.kk)), ((ma 5), eI D 6 (nF c.vv)), ((ma 6), eI D 6 c.hd), ((ma 30), eI D 8 (nF c.crf)), ((ma 35), eI D 12 (nF c.bo))]) (st := []) O cf_X10_179 rfl (sp_X10_in_0 (mo := mo) (x := k) (h := 6) (zn := 7) (rfl) (by decide)) dX10_man_5 rfl rfl 0 rfl [] [0, 1, 2, 3, 4, 5] (by decide) rfl rfl (by decide) (by decide) (by decide) (Nat.le_of_ble_eq_true rfl) (by decide) (by decide) (fun r_2 w_3 h_1 => ?_)
  obtain ⟨rfl, rfl⟩ := h_1
  refine v_eq (st' := [.int (b2i (isIx k 7))]) (ws' := [(mo, .inr (10, M1R ma (mZ c c2 tk vc ln rn zs_10 zs_11 zs_20 zs_21 zs_22 zs_25 zs_26 zs_27 zs_29))), ((ma 4), eI D 6 (nF c.kk)), ((ma 5), eI D 6 (nF c.vv)), ((ma 6), eI D 6 c.hd), ((ma 30), eI D 8 (nF c.crf)), ((ma 35), eI D 12 (nF c.bo))]) rfl rfl rfl rfl ?_
  refine v_if_ne O 13 dX10_man_8 (by decide) (fun z1 => ?_) (fun z1 => ?_)
  · skip
    have z1 := b2i_1.mp z1
    exact absurd z1 hk
  · skip
    have z1 := b2i_0.mp z1
    refine v_iconst (v := -1) O dX10_man_11 (by decide) ?_
    exact v_ireturn O T rfl rfl (by decide) (by decide) dX10_man_12 (⟨zs_10, zs_11, zs_20, zs_21, zs_22, zs_25, zs_26, zs_27, zs_29, rfl, rfl⟩)
set_option maxRecDepth 100000 in
set_option maxHeartbeats 4000000 in
theorem sp_X10_man_2 {D : G} {mo : Nat} {ma : Nat → Nat} {c : CS} {c2 : CS} {tk : Int32} {vc : Nat} {ln : Nat} {rn : Nat} {zs_10 : Int32} {zs_11 : Int32} {zs_20 : Int32} {zs_21 : Int32} {zs_22 : Int32} {zs_25 : Int32} {zs_26 : Int32} {zs_27 : Int32} {zs_29 : Int32} {k : Nat} {v : Int32} (hC : cOk c) (hk : k < 7) (hv : ¬ isIx v 10) : Sp D mX10_man 30 0 0 [.ref mo, .int (nI k), .int v] [(mo, .inr (10, M1R ma (mZ c c2 tk vc ln rn zs_10 zs_11 zs_20 zs_21 zs_22 zs_25 zs_26 zs_27 zs_29))), ((ma 4), eI D 6 (nF c.kk)), ((ma 5), eI D 6 (nF c.vv)), ((ma 6), eI D 6 c.hd), ((ma 30), eI D 8 (nF c.crf)), ((ma 35), eI D 12 (nF c.bo))] (fun r w => ∃ zs2_10 : Int32, ∃ zs2_11 : Int32, ∃ zs2_20 : Int32, ∃ zs2_21 : Int32, ∃ zs2_22 : Int32, ∃ zs2_25 : Int32, ∃ zs2_26 : Int32, ∃ zs2_27 : Int32, ∃ zs2_29 : Int32, r = some (.int (-2)) ∧ w = [(mo, .inr (10, M1R ma (mZ c c2 tk vc ln rn zs2_10 zs2_11 zs2_20 zs2_21 zs2_22 zs2_25 zs2_26 zs2_27 zs2_29))), ((ma 4), eI D 6 (nF c.kk)), ((ma 5), eI D 6 (nF c.vv)), ((ma 6), eI D 6 c.hd), ((ma 30), eI D 8 (nF c.crf)), ((ma 35), eI D 12 (nF c.bo))]) := by
  refine Sp.of (by decide) (Nat.le_of_ble_eq_true rfl) (fun X O T => ?_)
  refine v_eq (lv' := [(0, .ref mo), (1, .int (nI k)), (2, .int v)]) rfl rfl rfl rfl ?_
  have z_m := hC.1
  have z_hp := hC.2.2.2.1
  have z_wk := hC.2.2.2.2.1
  have z_rl := hC.2.2.2.2.2.1
  have z_pg := hC.2.2.2.2.2.2.2.1
  refine v_aload_n O dX10_man_0 0 rfl ?_
  refine v_iload_n O dX10_man_1 1 rfl ?_
  refine v_iconst (v := 0) O dX10_man_2 (by decide) ?_
  refine v_bipush (v := 6) O dX10_man_3 (by decide) ?_
  refine v_cV (T := TX10) (ci := 10) (As := [.int (nI k), .int 0, .int 6]) (wr := [(mo, .inr (10, M1R ma (mZ c c2 tk vc ln rn zs_10 zs_11 zs_20 zs_21 zs_22 zs_25 zs_26 zs_27 zs_29))), ((ma 4), eI D 6 (nF c.kk)), ((ma 5), eI D 6 (nF c.vv)), ((ma 6), eI D 6 c.hd), ((ma 30), eI D 8 (nF c.crf)), ((ma 35), eI D 12 (nF c.bo))]) (st := []) O cf_X10_179 rfl (sp_X10_in_0 (mo := mo) (x := (nI k)) (h := 6) (zn := 7) (rfl) (by decide)) dX10_man_5 rfl rfl 0 rfl [] [0, 1, 2, 3, 4, 5] (by decide) rfl rfl (by decide) (by decide) (by decide) (Nat.le_of_ble_eq_true rfl) (by decide) (by decide) (fun r_2 w_3 h_1 => ?_)
  obtain ⟨rfl, rfl⟩ := h_1
  refine v_eq (st' := [.int (b2i (isIx (nI k) 7))]) (ws' := [(mo, .inr (10, M1R ma (mZ c c2 tk vc ln rn zs_10 zs_11 zs_20 zs_21 zs_22 zs_25 zs_26 zs_27 zs_29))), ((ma 4), eI D 6 (nF c.kk)), ((ma 5), eI D 6 (nF c.vv)), ((ma 6), eI D 6 c.hd), ((ma 30), eI D 8 (nF c.crf)), ((ma 35), eI D 12 (nF c.bo))]) rfl rfl rfl rfl ?_
  refine v_if_ne O 13 dX10_man_8 (by decide) (fun z1 => ?_) (fun z1 => ?_)
  · skip
    have z1 := b2i_1.mp z1
    refine v_aload_n O dX10_man_13 0 rfl ?_
    refine v_iload_n O dX10_man_14 2 rfl ?_
    refine v_iconst (v := 0) O dX10_man_15 (by decide) ?_
    refine v_bipush (v := 9) O dX10_man_16 (by decide) ?_
    refine v_cV (T := TX10) (ci := 10) (As := [.int v, .int 0, .int 9]) (wr := [(mo, .inr (10, M1R ma (mZ c c2 tk vc ln rn zs_10 zs_11 zs_20 zs_21 zs_22 zs_25 zs_26 zs_27 zs_29))), ((ma 4), eI D 6 (nF c.kk)), ((ma 5), eI D 6 (nF c.vv)), ((ma 6), eI D 6 c.hd), ((ma 30), eI D 8 (nF c.crf)), ((ma 35), eI D 12 (nF c.bo))]) (st := []) O cf_X10_179 rfl (sp_X10_in_0 (mo := mo) (x := v) (h := 9) (zn := 10) (rfl) (by decide)) dX10_man_18 rfl rfl 0 rfl [] [0, 1, 2, 3, 4, 5] (by decide) rfl rfl (by decide) (by decide) (by decide) (Nat.le_of_ble_eq_true rfl) (by decide) (by decide) (fun r_5 w_6 h_4 => ?_)
    obtain ⟨rfl, rfl⟩ := h_4
    refine v_eq (st' := [.int (b2i (isIx v 10))]) (ws' := [(mo, .inr (10, M1R ma (mZ c c2 tk vc ln rn zs_10 zs_11 zs_20 zs_21 zs_22 zs_25 zs_26 zs_27 zs_29))), ((ma 4), eI D 6 (nF c.kk)), ((ma 5), eI D 6 (nF c.vv)), ((ma 6), eI D 6 c.hd), ((ma 30), eI D 8 (nF c.crf)), ((ma 35), eI D 12 (nF c.bo))]) rfl rfl rfl rfl ?_
    refine v_if_ne O 27 dX10_man_21 (by decide) (fun z2 => ?_) (fun z2 => ?_)
    · skip
      have z2 := b2i_1.mp z2
      exact absurd z2 hv
    · skip
      have z2 := b2i_0.mp z2
      refine v_bipush (v := -2) O dX10_man_24 (by decide) ?_
      exact v_ireturn O T rfl rfl (by decide) (by decide) dX10_man_26 (⟨zs_10, zs_11, zs_20, zs_21, zs_22, zs_25, zs_26, zs_27, zs_29, rfl, rfl⟩)
  · skip
    have z1 := b2i_0.mp z1
    exact absurd ((isIx_nI (by omega) (by omega)).mpr hk) z1
set_option maxRecDepth 100000 in
set_option maxHeartbeats 4000000 in
theorem sp_X10_man_3 {D : G} {mo : Nat} {ma : Nat → Nat} {c : CS} {c2 : CS} {tk : Int32} {vc : Nat} {ln : Nat} {rn : Nat} {zs_10 : Int32} {zs_11 : Int32} {zs_20 : Int32} {zs_21 : Int32} {zs_22 : Int32} {zs_25 : Int32} {zs_26 : Int32} {zs_27 : Int32} {zs_29 : Int32} {k : Nat} {v : Nat} (hC : cOk c) (hk : k < 7) (hv : v < 10) (hm : c.men = 6) : Sp D mX10_man 30 0 0 [.ref mo, .int (nI k), .int (nI v)] [(mo, .inr (10, M1R ma (mZ c c2 tk vc ln rn zs_10 zs_11 zs_20 zs_21 zs_22 zs_25 zs_26 zs_27 zs_29))), ((ma 4), eI D 6 (nF c.kk)), ((ma 5), eI D 6 (nF c.vv)), ((ma 6), eI D 6 c.hd), ((ma 30), eI D 8 (nF c.crf)), ((ma 35), eI D 12 (nF c.bo))] (fun r w => ∃ zs2_10 : Int32, ∃ zs2_11 : Int32, ∃ zs2_20 : Int32, ∃ zs2_21 : Int32, ∃ zs2_22 : Int32, ∃ zs2_25 : Int32, ∃ zs2_26 : Int32, ∃ zs2_27 : Int32, ∃ zs2_29 : Int32, r = some (.int (-4)) ∧ w = [(mo, .inr (10, M1R ma (mZ c c2 tk vc ln rn zs2_10 zs2_11 zs2_20 zs2_21 zs2_22 zs2_25 zs2_26 zs2_27 zs2_29))), ((ma 4), eI D 6 (nF c.kk)), ((ma 5), eI D 6 (nF c.vv)), ((ma 6), eI D 6 c.hd), ((ma 30), eI D 8 (nF c.crf)), ((ma 35), eI D 12 (nF c.bo))]) := by
  refine Sp.of (by decide) (Nat.le_of_ble_eq_true rfl) (fun X O T => ?_)
  refine v_eq (lv' := [(0, .ref mo), (1, .int (nI k)), (2, .int (nI v))]) rfl rfl rfl rfl ?_
  have z_m := hC.1
  have z_hp := hC.2.2.2.1
  have z_wk := hC.2.2.2.2.1
  have z_rl := hC.2.2.2.2.2.1
  have z_pg := hC.2.2.2.2.2.2.2.1
  refine v_aload_n O dX10_man_0 0 rfl ?_
  refine v_iload_n O dX10_man_1 1 rfl ?_
  refine v_iconst (v := 0) O dX10_man_2 (by decide) ?_
  refine v_bipush (v := 6) O dX10_man_3 (by decide) ?_
  refine v_cV (T := TX10) (ci := 10) (As := [.int (nI k), .int 0, .int 6]) (wr := [(mo, .inr (10, M1R ma (mZ c c2 tk vc ln rn zs_10 zs_11 zs_20 zs_21 zs_22 zs_25 zs_26 zs_27 zs_29))), ((ma 4), eI D 6 (nF c.kk)), ((ma 5), eI D 6 (nF c.vv)), ((ma 6), eI D 6 c.hd), ((ma 30), eI D 8 (nF c.crf)), ((ma 35), eI D 12 (nF c.bo))]) (st := []) O cf_X10_179 rfl (sp_X10_in_0 (mo := mo) (x := (nI k)) (h := 6) (zn := 7) (rfl) (by decide)) dX10_man_5 rfl rfl 0 rfl [] [0, 1, 2, 3, 4, 5] (by decide) rfl rfl (by decide) (by decide) (by decide) (Nat.le_of_ble_eq_true rfl) (by decide) (by decide) (fun r_2 w_3 h_1 => ?_)
  obtain ⟨rfl, rfl⟩ := h_1
  refine v_eq (st' := [.int (b2i (isIx (nI k) 7))]) (ws' := [(mo, .inr (10, M1R ma (mZ c c2 tk vc ln rn zs_10 zs_11 zs_20 zs_21 zs_22 zs_25 zs_26 zs_27 zs_29))), ((ma 4), eI D 6 (nF c.kk)), ((ma 5), eI D 6 (nF c.vv)), ((ma 6), eI D 6 c.hd), ((ma 30), eI D 8 (nF c.crf)), ((ma 35), eI D 12 (nF c.bo))]) rfl rfl rfl rfl ?_
  refine v_if_ne O 13 dX10_man_8 (by decide) (fun z1 => ?_) (fun z1 => ?_)
  · skip
    have z1 := b2i_1.mp z1
    refine v_aload_n O dX10_man_13 0 rfl ?_
    refine v_iload_n O dX10_man_14 2 rfl ?_
    refine v_iconst (v := 0) O dX10_man_15 (by decide) ?_
    refine v_bipush (v := 9) O dX10_man_16 (by decide) ?_
    refine v_cV (T := TX10) (ci := 10) (As := [.int (nI v), .int 0, .int 9]) (wr := [(mo, .inr (10, M1R ma (mZ c c2 tk vc ln rn zs_10 zs_11 zs_20 zs_21 zs_22 zs_25 zs_26 zs_27 zs_29))), ((ma 4), eI D 6 (nF c.kk)), ((ma 5), eI D 6 (nF c.vv)), ((ma 6), eI D 6 c.hd), ((ma 30), eI D 8 (nF c.crf)), ((ma 35), eI D 12 (nF c.bo))]) (st := []) O cf_X10_179 rfl (sp_X10_in_0 (mo := mo) (x := (nI v)) (h := 9) (zn := 10) (rfl) (by decide)) dX10_man_18 rfl rfl 0 rfl [] [0, 1, 2, 3, 4, 5] (by decide) rfl rfl (by decide) (by decide) (by decide) (Nat.le_of_ble_eq_true rfl) (by decide) (by decide) (fun r_5 w_6 h_4 => ?_)
    obtain ⟨rfl, rfl⟩ := h_4
    refine v_eq (st' := [.int (b2i (isIx (nI v) 10))]) (ws' := [(mo, .inr (10, M1R ma (mZ c c2 tk vc ln rn zs_10 zs_11 zs_20 zs_21 zs_22 zs_25 zs_26 zs_27 zs_29))), ((ma 4), eI D 6 (nF c.kk)), ((ma 5), eI D 6 (nF c.vv)), ((ma 6), eI D 6 c.hd), ((ma 30), eI D 8 (nF c.crf)), ((ma 35), eI D 12 (nF c.bo))]) rfl rfl rfl rfl ?_
    refine v_if_ne O 27 dX10_man_21 (by decide) (fun z2 => ?_) (fun z2 => ?_)
    · skip
      have z2 := b2i_1.mp z2
      refine v_aload_n O dX10_man_27 0 rfl ?_
      refine gf_X10_7 (v := .int (nI c.men)) O rfl dX10_man_28 0 rfl rfl ?_
      refine v_bipush (v := 6) O dX10_man_31 (by decide) ?_
      refine v_icmp_ne O 39 dX10_man_33 (by decide) (fun z3 => ?_) (fun z3 => ?_)
      · skip
        have z3 := (not_congr (c_eq (x := nI c.men) (y := 6) (a := c.men) (b := 6) rfl rfl (by omega) (by omega))).mp z3
        exact absurd z3 (by omega)
      · skip
        have z3 := (c_eq (x := nI c.men) (y := 6) (a := c.men) (b := 6) rfl rfl (by omega) (by omega)).mp z3
        refine v_bipush (v := -4) O dX10_man_36 (by decide) ?_
        exact v_ireturn O T rfl rfl (by decide) (by decide) dX10_man_38 (⟨zs_10, zs_11, zs_20, zs_21, zs_22, zs_25, zs_26, zs_27, zs_29, rfl, rfl⟩)
    · skip
      have z2 := b2i_0.mp z2
      exact absurd ((isIx_nI (by omega) (by omega)).mpr hv) z2
  · skip
    have z1 := b2i_0.mp z1
    exact absurd ((isIx_nI (by omega) (by omega)).mpr hk) z1
set_option maxRecDepth 100000 in
set_option maxHeartbeats 4000000 in
theorem sp_X10_man_4 {D : G} {mo : Nat} {ma : Nat → Nat} {c : CS} {c2 : CS} {tk : Int32} {vc : Nat} {ln : Nat} {rn : Nat} {zs_10 : Int32} {zs_11 : Int32} {zs_20 : Int32} {zs_21 : Int32} {zs_22 : Int32} {zs_25 : Int32} {zs_26 : Int32} {zs_27 : Int32} {zs_29 : Int32} {k : Nat} {v : Nat} (hC : cOk c) (hk : k < 7) (hv : v < 10) (hm : c.men < 6) : Sp D mX10_man 30 0 0 [.ref mo, .int (nI k), .int (nI v)] [(mo, .inr (10, M1R ma (mZ c c2 tk vc ln rn zs_10 zs_11 zs_20 zs_21 zs_22 zs_25 zs_26 zs_27 zs_29))), ((ma 4), eI D 6 (nF c.kk)), ((ma 5), eI D 6 (nF c.vv)), ((ma 6), eI D 6 c.hd), ((ma 30), eI D 8 (nF c.crf)), ((ma 35), eI D 12 (nF c.bo))] (fun r w => ∃ zs2_10 : Int32, ∃ zs2_11 : Int32, ∃ zs2_20 : Int32, ∃ zs2_21 : Int32, ∃ zs2_22 : Int32, ∃ zs2_25 : Int32, ∃ zs2_26 : Int32, ∃ zs2_27 : Int32, ∃ zs2_29 : Int32, r = some (.int (nI c.men)) ∧ w = [(mo, .inr (10, M1R ma (mZ (cMan c k v) c2 tk vc ln rn zs2_10 zs2_11 zs2_20 zs2_21 zs2_22 zs2_25 zs2_26 zs2_27 zs2_29))), ((ma 4), eI D 6 (nF (cMan c k v).kk)), ((ma 5), eI D 6 (nF (cMan c k v).vv)), ((ma 6), eI D 6 ((cMan c k v).hd)), ((ma 30), eI D 8 (nF (cMan c k v).crf)), ((ma 35), eI D 12 (nF (cMan c k v).bo))]) := by
  refine Sp.of (by decide) (Nat.le_of_ble_eq_true rfl) (fun X O T => ?_)
  refine v_eq (lv' := [(0, .ref mo), (1, .int (nI k)), (2, .int (nI v))]) rfl rfl rfl rfl ?_
  have z_m := hC.1
  have z_hp := hC.2.2.2.1
  have z_wk := hC.2.2.2.2.1
  have z_rl := hC.2.2.2.2.2.1
  have z_pg := hC.2.2.2.2.2.2.2.1
  refine v_aload_n O dX10_man_0 0 rfl ?_
  refine v_iload_n O dX10_man_1 1 rfl ?_
  refine v_iconst (v := 0) O dX10_man_2 (by decide) ?_
  refine v_bipush (v := 6) O dX10_man_3 (by decide) ?_
  refine v_cV (T := TX10) (ci := 10) (As := [.int (nI k), .int 0, .int 6]) (wr := [(mo, .inr (10, M1R ma (mZ c c2 tk vc ln rn zs_10 zs_11 zs_20 zs_21 zs_22 zs_25 zs_26 zs_27 zs_29))), ((ma 4), eI D 6 (nF c.kk)), ((ma 5), eI D 6 (nF c.vv)), ((ma 6), eI D 6 c.hd), ((ma 30), eI D 8 (nF c.crf)), ((ma 35), eI D 12 (nF c.bo))]) (st := []) O cf_X10_179 rfl (sp_X10_in_0 (mo := mo) (x := (nI k)) (h := 6) (zn := 7) (rfl) (by decide)) dX10_man_5 rfl rfl 0 rfl [] [0, 1, 2, 3, 4, 5] (by decide) rfl rfl (by decide) (by decide) (by decide) (Nat.le_of_ble_eq_true rfl) (by decide) (by decide) (fun r_2 w_3 h_1 => ?_)
  obtain ⟨rfl, rfl⟩ := h_1
  refine v_eq (st' := [.int (b2i (isIx (nI k) 7))]) (ws' := [(mo, .inr (10, M1R ma (mZ c c2 tk vc ln rn zs_10 zs_11 zs_20 zs_21 zs_22 zs_25 zs_26 zs_27 zs_29))), ((ma 4), eI D 6 (nF c.kk)), ((ma 5), eI D 6 (nF c.vv)), ((ma 6), eI D 6 c.hd), ((ma 30), eI D 8 (nF c.crf)), ((ma 35), eI D 12 (nF c.bo))]) rfl rfl rfl rfl ?_
  refine v_if_ne O 13 dX10_man_8 (by decide) (fun z1 => ?_) (fun z1 => ?_)
  · skip
    have z1 := b2i_1.mp z1
    refine v_aload_n O dX10_man_13 0 rfl ?_
    refine v_iload_n O dX10_man_14 2 rfl ?_
    refine v_iconst (v := 0) O dX10_man_15 (by decide) ?_
    refine v_bipush (v := 9) O dX10_man_16 (by decide) ?_
    refine v_cV (T := TX10) (ci := 10) (As := [.int (nI v), .int 0, .int 9]) (wr := [(mo, .inr (10, M1R ma (mZ c c2 tk vc ln rn zs_10 zs_11 zs_20 zs_21 zs_22 zs_25 zs_26 zs_27 zs_29))), ((ma 4), eI D 6 (nF c.kk)), ((ma 5), eI D 6 (nF c.vv)), ((ma 6), eI D 6 c.hd), ((ma 30), eI D 8 (nF c.crf)), ((ma 35), eI D 12 (nF c.bo))]) (st := []) O cf_X10_179 rfl (sp_X10_in_0 (mo := mo) (x := (nI v)) (h := 9) (zn := 10) (rfl) (by decide)) dX10_man_18 rfl rfl 0 rfl [] [0, 1, 2, 3, 4, 5] (by decide) rfl rfl (by decide) (by decide) (by decide) (Nat.le_of_ble_eq_true rfl) (by decide) (by decide) (fun r_5 w_6 h_4 => ?_)
    obtain ⟨rfl, rfl⟩ := h_4
    refine v_eq (st' := [.int (b2i (isIx (nI v) 10))]) (ws' := [(mo, .inr (10, M1R ma (mZ c c2 tk vc ln rn zs_10 zs_11 zs_20 zs_21 zs_22 zs_25 zs_26 zs_27 zs_29))), ((ma 4), eI D 6 (nF c.kk)), ((ma 5), eI D 6 (nF c.vv)), ((ma 6), eI D 6 c.hd), ((ma 30), eI D 8 (nF c.crf)), ((ma 35), eI D 12 (nF c.bo))]) rfl rfl rfl rfl ?_
    refine v_if_ne O 27 dX10_man_21 (by decide) (fun z2 => ?_) (fun z2 => ?_)
    · skip
      have z2 := b2i_1.mp z2
      refine v_aload_n O dX10_man_27 0 rfl ?_
      refine gf_X10_7 (v := .int (nI c.men)) O rfl dX10_man_28 0 rfl rfl ?_
      refine v_bipush (v := 6) O dX10_man_31 (by decide) ?_
      refine v_icmp_ne O 39 dX10_man_33 (by decide) (fun z3 => ?_) (fun z3 => ?_)
      · skip
        have z3 := (not_congr (c_eq (x := nI c.men) (y := 6) (a := c.men) (b := 6) rfl rfl (by omega) (by omega))).mp z3
        refine v_aload_n O dX10_man_39 0 rfl ?_
        refine gf_X10_22 (v := .ref (ma 4)) O rfl dX10_man_40 0 rfl rfl ?_
        refine v_aload_n O dX10_man_43 0 rfl ?_
        refine gf_X10_7 (v := .int (nI c.men)) O rfl dX10_man_44 0 rfl rfl ?_
        refine v_iload_n O dX10_man_47 1 rfl ?_
        refine v_iastk (ws' := [(mo, .inr (10, M1R ma (mZ c c2 tk vc ln rn zs_10 zs_11 zs_20 zs_21 zs_22 zs_25 zs_26 zs_27 zs_29))), ((ma 4), eI D 6 (nF (uN c.kk c.men k))), ((ma 5), eI D 6 (nF c.vv)), ((ma 6), eI D 6 c.hd), ((ma 30), eI D 8 (nF c.crf)), ((ma 35), eI D 12 (nF c.bo))]) O dX10_man_48 1 rfl c.men (rfl) (by omega) (by decide) (by rw [upd_nF]; rfl) ?_
        refine v_aload_n O dX10_man_49 0 rfl ?_
        refine gf_X10_26 (v := .ref (ma 5)) O rfl dX10_man_50 0 rfl rfl ?_
        refine v_aload_n O dX10_man_53 0 rfl ?_
        refine gf_X10_7 (v := .int (nI c.men)) O rfl dX10_man_54 0 rfl rfl ?_
        refine v_iload_n O dX10_man_57 2 rfl ?_
        refine v_iastk (ws' := [(mo, .inr (10, M1R ma (mZ c c2 tk vc ln rn zs_10 zs_11 zs_20 zs_21 zs_22 zs_25 zs_26 zs_27 zs_29))), ((ma 4), eI D 6 (nF (uN c.kk c.men k))), ((ma 5), eI D 6 (nF (uN c.vv c.men v))), ((ma 6), eI D 6 c.hd), ((ma 30), eI D 8 (nF c.crf)), ((ma 35), eI D 12 (nF c.bo))]) O dX10_man_58 2 rfl c.men (rfl) (by omega) (by decide) (by rw [upd_nF]; rfl) ?_
        refine v_aload_n O dX10_man_59 0 rfl ?_
        refine gf_X10_29 (v := .ref (ma 6)) O rfl dX10_man_60 0 rfl rfl ?_
        refine v_aload_n O dX10_man_63 0 rfl ?_
        refine gf_X10_7 (v := .int (nI c.men)) O rfl dX10_man_64 0 rfl rfl ?_
        refine v_iconst (v := 0) O dX10_man_67 (by decide) ?_
        refine v_iastk (ws' := [(mo, .inr (10, M1R ma (mZ c c2 tk vc ln rn zs_10 zs_11 zs_20 zs_21 zs_22 zs_25 zs_26 zs_27 zs_29))), ((ma 4), eI D 6 (nF (uN c.kk c.men k))), ((ma 5), eI D 6 (nF (uN c.vv c.men v))), ((ma 6), eI D 6 (upd c.hd c.men 0)), ((ma 30), eI D 8 (nF c.crf)), ((ma 35), eI D 12 (nF c.bo))]) O dX10_man_68 3 rfl c.men (rfl) (by omega) (by decide) (rfl) ?_
        refine v_aload_n O dX10_man_69 0 rfl ?_
        refine v_dup O dX10_man_70 rfl ?_
        refine gf_X10_7 (v := .int (nI c.men)) O rfl dX10_man_71 0 rfl rfl ?_
        refine v_iconst (v := 1) O dX10_man_74 (by decide) ?_
        refine v_iadd O dX10_man_75 ?_
        refine v_top (y := nI (c.men + 1)) (nI_add c.men 1) ?_
        refine pf_X10_7 (fs' := M1R ma (upd (mZ c c2 tk vc ln rn zs_10 zs_11 zs_20 zs_21 zs_22 zs_25 zs_26 zs_27 zs_29) 0 (nI (c.men + 1)))) (ws' := [(mo, .inr (10, M1R ma (upd (mZ c c2 tk vc ln rn zs_10 zs_11 zs_20 zs_21 zs_22 zs_25 zs_26 zs_27 zs_29) 0 (nI (c.men + 1))))), ((ma 4), eI D 6 (nF (uN c.kk c.men k))), ((ma 5), eI D 6 (nF (uN c.vv c.men v))), ((ma 6), eI D 6 (upd c.hd c.men 0)), ((ma 30), eI D 8 (nF c.crf)), ((ma 35), eI D 12 (nF c.bo))]) O rfl dX10_man_76 0 rfl (Nat.le_of_ble_eq_true rfl) rfl rfl ?_
        refine v_aload_n O dX10_man_79 0 rfl ?_
        refine gf_X10_7 (v := .int (nI (c.men + 1))) O rfl dX10_man_80 0 rfl rfl ?_
        refine v_iconst (v := 1) O dX10_man_83 (by decide) ?_
        refine v_isub O dX10_man_84 ?_
        refine v_top (y := nI c.men) (nI_p _) ?_
        exact v_ireturn O T rfl rfl (by decide) (by decide) dX10_man_85 (⟨zs_10, zs_11, zs_20, zs_21, zs_22, zs_25, zs_26, zs_27, zs_29, rfl, rfl⟩)
      · skip
        have z3 := (c_eq (x := nI c.men) (y := 6) (a := c.men) (b := 6) rfl rfl (by omega) (by omega)).mp z3
        exact absurd z3 (by omega)
    · skip
      have z2 := b2i_0.mp z2
      exact absurd ((isIx_nI (by omega) (by omega)).mpr hv) z2
  · skip
    have z1 := b2i_0.mp z1
    exact absurd ((isIx_nI (by omega) (by omega)).mpr hk) z1
set_option maxRecDepth 100000 in
set_option maxHeartbeats 4000000 in
theorem sp_X10_heap_1 {D : G} {mo : Nat} {ma : Nat → Nat} {c : CS} {c2 : CS} {tk : Int32} {vc : Nat} {ln : Nat} {rn : Nat} {zs_10 : Int32} {zs_11 : Int32} {zs_20 : Int32} {zs_21 : Int32} {zs_22 : Int32} {zs_25 : Int32} {zs_26 : Int32} {zs_27 : Int32} {zs_29 : Int32} {n : Int32} (hC : cOk c) (hn : ¬ isIx n 1000000) : Sp D mX10_heap 30 0 0 [.ref mo, .int n] [(mo, .inr (10, M1R ma (mZ c c2 tk vc ln rn zs_10 zs_11 zs_20 zs_21 zs_22 zs_25 zs_26 zs_27 zs_29))), ((ma 4), eI D 6 (nF c.kk)), ((ma 5), eI D 6 (nF c.vv)), ((ma 6), eI D 6 c.hd), ((ma 30), eI D 8 (nF c.crf)), ((ma 35), eI D 12 (nF c.bo))] (fun r w => ∃ zs2_10 : Int32, ∃ zs2_11 : Int32, ∃ zs2_20 : Int32, ∃ zs2_21 : Int32, ∃ zs2_22 : Int32, ∃ zs2_25 : Int32, ∃ zs2_26 : Int32, ∃ zs2_27 : Int32, ∃ zs2_29 : Int32, r = some (.int (-2)) ∧ w = [(mo, .inr (10, M1R ma (mZ c c2 tk vc ln rn zs2_10 zs2_11 zs2_20 zs2_21 zs2_22 zs2_25 zs2_26 zs2_27 zs2_29))), ((ma 4), eI D 6 (nF c.kk)), ((ma 5), eI D 6 (nF c.vv)), ((ma 6), eI D 6 c.hd), ((ma 30), eI D 8 (nF c.crf)), ((ma 35), eI D 12 (nF c.bo))]) := by
  refine Sp.of (by decide) (Nat.le_of_ble_eq_true rfl) (fun X O T => ?_)
  refine v_eq (lv' := [(0, .ref mo), (1, .int n)]) rfl rfl rfl rfl ?_
  have z_m := hC.1
  have z_hp := hC.2.2.2.1
  have z_wk := hC.2.2.2.2.1
  have z_rl := hC.2.2.2.2.2.1
  have z_pg := hC.2.2.2.2.2.2.2.1
  refine v_aload_n O dX10_heap_0 0 rfl ?_
  refine v_iload_n O dX10_heap_1 1 rfl ?_
  refine v_cV (T := TX10) (ci := 10) (As := [.int n]) (wr := [((ma 4), eI D 6 (nF c.kk)), ((ma 5), eI D 6 (nF c.vv)), ((ma 6), eI D 6 c.hd), ((ma 30), eI D 8 (nF c.crf)), ((ma 35), eI D 12 (nF c.bo))]) (st := []) O cf_X10_184 rfl (sp_X10_isHeap (mo := mo) (ma := ma) (c := c) (c2 := c2) (tk := tk) (vc := vc) (ln := ln) (rn := rn) (zs_10 := zs_10) (zs_11 := zs_11) (zs_20 := zs_20) (zs_21 := zs_21) (zs_22 := zs_22) (zs_25 := zs_25) (zs_26 := zs_26) (zs_27 := zs_27) (zs_29 := zs_29) (h := n) ) dX10_heap_2 rfl rfl 0 rfl [0] [1, 2, 3, 4, 5] (by decide) rfl rfl (by decide) (by decide) (by decide) (Nat.le_of_ble_eq_true rfl) (by decide) (by decide) (fun r_2 w_3 h_1 => ?_)
  obtain ⟨rfl, rfl⟩ := h_1
  refine v_eq (st' := [.int (b2i (isIx n 1000000))]) (ws' := [((ma 4), eI D 6 (nF c.kk)), ((ma 5), eI D 6 (nF c.vv)), ((ma 6), eI D 6 c.hd), ((ma 30), eI D 8 (nF c.crf)), ((ma 35), eI D 12 (nF c.bo)), (mo, .inr (10, M1R ma (mZ c c2 tk vc ln rn zs_10 zs_11 zs_20 zs_21 zs_22 zs_25 zs_26 zs_27 zs_29)))]) rfl rfl rfl rfl ?_
  refine v_if_ne O 11 dX10_heap_5 (by decide) (fun z1 => ?_) (fun z1 => ?_)
  · skip
    have z1 := b2i_1.mp z1
    exact absurd z1 hn
  · skip
    have z1 := b2i_0.mp z1
    refine v_bipush (v := -2) O dX10_heap_8 (by decide) ?_
    refine v_sub (ws' := [(mo, .inr (10, M1R ma (mZ c c2 tk vc ln rn zs_10 zs_11 zs_20 zs_21 zs_22 zs_25 zs_26 zs_27 zs_29))), ((ma 4), eI D 6 (nF c.kk)), ((ma 5), eI D 6 (nF c.vv)), ((ma 6), eI D 6 c.hd), ((ma 30), eI D 8 (nF c.crf)), ((ma 35), eI D 12 (nF c.bo))]) [5, 0, 1, 2, 3, 4] (by decide) rfl ?_
    exact v_ireturn O T rfl rfl (by decide) (by decide) dX10_heap_10 (⟨zs_10, zs_11, zs_20, zs_21, zs_22, zs_25, zs_26, zs_27, zs_29, rfl, rfl⟩)
set_option maxRecDepth 100000 in
set_option maxHeartbeats 4000000 in
theorem sp_X10_heap_2 {D : G} {mo : Nat} {ma : Nat → Nat} {c : CS} {c2 : CS} {tk : Int32} {vc : Nat} {ln : Nat} {rn : Nat} {zs_10 : Int32} {zs_11 : Int32} {zs_20 : Int32} {zs_21 : Int32} {zs_22 : Int32} {zs_25 : Int32} {zs_26 : Int32} {zs_27 : Int32} {zs_29 : Int32} {n : Nat} (hC : cOk c) (hn : n < 1000000) : Sp D mX10_heap 30 0 0 [.ref mo, .int (nI n)] [(mo, .inr (10, M1R ma (mZ c c2 tk vc ln rn zs_10 zs_11 zs_20 zs_21 zs_22 zs_25 zs_26 zs_27 zs_29))), ((ma 4), eI D 6 (nF c.kk)), ((ma 5), eI D 6 (nF c.vv)), ((ma 6), eI D 6 c.hd), ((ma 30), eI D 8 (nF c.crf)), ((ma 35), eI D 12 (nF c.bo))] (fun r w => ∃ zs2_10 : Int32, ∃ zs2_11 : Int32, ∃ zs2_20 : Int32, ∃ zs2_21 : Int32, ∃ zs2_22 : Int32, ∃ zs2_25 : Int32, ∃ zs2_26 : Int32, ∃ zs2_27 : Int32, ∃ zs2_29 : Int32, r = some (.int (nI c.heap)) ∧ w = [(mo, .inr (10, M1R ma (mZ (cHeap c n) c2 tk vc ln rn zs2_10 zs2_11 zs2_20 zs2_21 zs2_22 zs2_25 zs2_26 zs2_27 zs2_29))), ((ma 4), eI D 6 (nF (cHeap c n).kk)), ((ma 5), eI D 6 (nF (cHeap c n).vv)), ((ma 6), eI D 6 ((cHeap c n).hd)), ((ma 30), eI D 8 (nF (cHeap c n).crf)), ((ma 35), eI D 12 (nF (cHeap c n).bo))]) := by
  refine Sp.of (by decide) (Nat.le_of_ble_eq_true rfl) (fun X O T => ?_)
  refine v_eq (lv' := [(0, .ref mo), (1, .int (nI n))]) rfl rfl rfl rfl ?_
  have z_m := hC.1
  have z_hp := hC.2.2.2.1
  have z_wk := hC.2.2.2.2.1
  have z_rl := hC.2.2.2.2.2.1
  have z_pg := hC.2.2.2.2.2.2.2.1
  refine v_aload_n O dX10_heap_0 0 rfl ?_
  refine v_iload_n O dX10_heap_1 1 rfl ?_
  refine v_cV (T := TX10) (ci := 10) (As := [.int (nI n)]) (wr := [((ma 4), eI D 6 (nF c.kk)), ((ma 5), eI D 6 (nF c.vv)), ((ma 6), eI D 6 c.hd), ((ma 30), eI D 8 (nF c.crf)), ((ma 35), eI D 12 (nF c.bo))]) (st := []) O cf_X10_184 rfl (sp_X10_isHeap (mo := mo) (ma := ma) (c := c) (c2 := c2) (tk := tk) (vc := vc) (ln := ln) (rn := rn) (zs_10 := zs_10) (zs_11 := zs_11) (zs_20 := zs_20) (zs_21 := zs_21) (zs_22 := zs_22) (zs_25 := zs_25) (zs_26 := zs_26) (zs_27 := zs_27) (zs_29 := zs_29) (h := (nI n)) ) dX10_heap_2 rfl rfl 0 rfl [0] [1, 2, 3, 4, 5] (by decide) rfl rfl (by decide) (by decide) (by decide) (Nat.le_of_ble_eq_true rfl) (by decide) (by decide) (fun r_2 w_3 h_1 => ?_)
  obtain ⟨rfl, rfl⟩ := h_1
  refine v_eq (st' := [.int (b2i (isIx (nI n) 1000000))]) (ws' := [((ma 4), eI D 6 (nF c.kk)), ((ma 5), eI D 6 (nF c.vv)), ((ma 6), eI D 6 c.hd), ((ma 30), eI D 8 (nF c.crf)), ((ma 35), eI D 12 (nF c.bo)), (mo, .inr (10, M1R ma (mZ c c2 tk vc ln rn zs_10 zs_11 zs_20 zs_21 zs_22 zs_25 zs_26 zs_27 zs_29)))]) rfl rfl rfl rfl ?_
  refine v_if_ne O 11 dX10_heap_5 (by decide) (fun z1 => ?_) (fun z1 => ?_)
  · skip
    have z1 := b2i_1.mp z1
    refine v_aload_n O dX10_heap_11 0 rfl ?_
    refine gf_X10_13 (v := .int (nI c.heap)) O rfl dX10_heap_12 5 rfl rfl ?_
    refine v_istore_n (lv' := [(0, .ref mo), (1, .int (nI n)), (2, .int (nI c.heap))]) O dX10_heap_15 (by decide) rfl ?_
    refine v_aload_n O dX10_heap_16 0 rfl ?_
    refine v_iload_n O dX10_heap_17 1 rfl ?_
    refine pf_X10_13 (fs' := M1R ma (upd (mZ c c2 tk vc ln rn zs_10 zs_11 zs_20 zs_21 zs_22 zs_25 zs_26 zs_27 zs_29) 1 (nI n))) (ws' := [((ma 4), eI D 6 (nF c.kk)), ((ma 5), eI D 6 (nF c.vv)), ((ma 6), eI D 6 c.hd), ((ma 30), eI D 8 (nF c.crf)), ((ma 35), eI D 12 (nF c.bo)), (mo, .inr (10, M1R ma (upd (mZ c c2 tk vc ln rn zs_10 zs_11 zs_20 zs_21 zs_22 zs_25 zs_26 zs_27 zs_29) 1 (nI n))))]) O rfl dX10_heap_18 5 rfl (Nat.le_of_ble_eq_true rfl) rfl rfl ?_
    refine v_iload_n O dX10_heap_21 2 rfl ?_
    refine v_sub (ws' := [(mo, .inr (10, M1R ma (upd (mZ c c2 tk vc ln rn zs_10 zs_11 zs_20 zs_21 zs_22 zs_25 zs_26 zs_27 zs_29) 1 (nI n)))), ((ma 4), eI D 6 (nF c.kk)), ((ma 5), eI D 6 (nF c.vv)), ((ma 6), eI D 6 c.hd), ((ma 30), eI D 8 (nF c.crf)), ((ma 35), eI D 12 (nF c.bo))]) [5, 0, 1, 2, 3, 4] (by decide) rfl ?_
    exact v_ireturn O T rfl rfl (by decide) (by decide) dX10_heap_22 (⟨zs_10, zs_11, zs_20, zs_21, zs_22, zs_25, zs_26, zs_27, zs_29, rfl, rfl⟩)
  · skip
    have z1 := b2i_0.mp z1
    exact absurd ((isIx_nI (by omega) (by omega)).mpr hn) z1
set_option maxRecDepth 100000 in
set_option maxHeartbeats 4000000 in
theorem sp_X10_feed_1 {D : G} {mo : Nat} {ma : Nat → Nat} {c : CS} {c2 : CS} {tk : Int32} {vc : Nat} {ln : Nat} {rn : Nat} {zs_10 : Int32} {zs_11 : Int32} {zs_20 : Int32} {zs_21 : Int32} {zs_22 : Int32} {zs_25 : Int32} {zs_26 : Int32} {zs_27 : Int32} {zs_29 : Int32} {tb : Nat → Int32} {s : Int32} (hs : ¬ isIx s 128) : Sp D mX10_feed 30 0 0 [.ref mo, .int s] [(mo, .inr (10, M1R ma (mZ c c2 tk vc ln rn zs_10 zs_11 zs_20 zs_21 zs_22 zs_25 zs_26 zs_27 zs_29))), ((ma 12), eI D 100 tb)] (fun r w => ∃ zs2_10 : Int32, ∃ zs2_11 : Int32, ∃ zs2_20 : Int32, ∃ zs2_21 : Int32, ∃ zs2_22 : Int32, ∃ zs2_25 : Int32, ∃ zs2_26 : Int32, ∃ zs2_27 : Int32, ∃ zs2_29 : Int32, r = some (.int (-2)) ∧ w = [(mo, .inr (10, M1R ma (mZ c c2 tk vc ln rn zs2_10 zs2_11 zs2_20 zs2_21 zs2_22 zs2_25 zs2_26 zs2_27 zs2_29))), ((ma 12), eI D 100 tb)]) := by
  refine Sp.of (by decide) (Nat.le_of_ble_eq_true rfl) (fun X O T => ?_)
  refine v_eq (lv' := [(0, .ref mo), (1, .int s)]) rfl rfl rfl rfl ?_
  refine v_aload_n O dX10_feed_0 0 rfl ?_
  refine v_iload_n O dX10_feed_1 1 rfl ?_
  refine v_iconst (v := 0) O dX10_feed_2 (by decide) ?_
  refine v_bipush (v := 127) O dX10_feed_3 (by decide) ?_
  refine v_cV (T := TX10) (ci := 10) (As := [.int s, .int 0, .int 127]) (wr := [(mo, .inr (10, M1R ma (mZ c c2 tk vc ln rn zs_10 zs_11 zs_20 zs_21 zs_22 zs_25 zs_26 zs_27 zs_29))), ((ma 12), eI D 100 tb)]) (st := []) O cf_X10_179 rfl (sp_X10_in_0 (mo := mo) (x := s) (h := 127) (zn := 128) (rfl) (by decide)) dX10_feed_5 rfl rfl 0 rfl [] [0, 1] (by decide) rfl rfl (by decide) (by decide) (by decide) (Nat.le_of_ble_eq_true rfl) (by decide) (by decide) (fun r_2 w_3 h_1 => ?_)
  obtain ⟨rfl, rfl⟩ := h_1
  refine v_eq (st' := [.int (b2i (isIx s 128))]) (ws' := [(mo, .inr (10, M1R ma (mZ c c2 tk vc ln rn zs_10 zs_11 zs_20 zs_21 zs_22 zs_25 zs_26 zs_27 zs_29))), ((ma 12), eI D 100 tb)]) rfl rfl rfl rfl ?_
  refine v_if_ne O 14 dX10_feed_8 (by decide) (fun z1 => ?_) (fun z1 => ?_)
  · skip
    have z1 := b2i_1.mp z1
    exact absurd z1 hs
  · skip
    have z1 := b2i_0.mp z1
    refine v_bipush (v := -2) O dX10_feed_11 (by decide) ?_
    exact v_ireturn O T rfl rfl (by decide) (by decide) dX10_feed_13 (⟨zs_10, zs_11, zs_20, zs_21, zs_22, zs_25, zs_26, zs_27, zs_29, rfl, rfl⟩)
set_option maxRecDepth 100000 in
set_option maxHeartbeats 4000000 in
theorem sp_X10_feed_2 {D : G} {mo : Nat} {ma : Nat → Nat} {c : CS} {c2 : CS} {tk : Int32} {vc : Nat} {ln : Nat} {rn : Nat} {zs_10 : Int32} {zs_11 : Int32} {zs_20 : Int32} {zs_21 : Int32} {zs_22 : Int32} {zs_25 : Int32} {zs_26 : Int32} {zs_27 : Int32} {zs_29 : Int32} {tb : Nat → Int32} {s : Nat} (hs : s < 128) (hf : ln = 100) : Sp D mX10_feed 30 0 0 [.ref mo, .int (nI s)] [(mo, .inr (10, M1R ma (mZ c c2 tk vc ln rn zs_10 zs_11 zs_20 zs_21 zs_22 zs_25 zs_26 zs_27 zs_29))), ((ma 12), eI D 100 tb)] (fun r w => ∃ zs2_10 : Int32, ∃ zs2_11 : Int32, ∃ zs2_20 : Int32, ∃ zs2_21 : Int32, ∃ zs2_22 : Int32, ∃ zs2_25 : Int32, ∃ zs2_26 : Int32, ∃ zs2_27 : Int32, ∃ zs2_29 : Int32, r = some (.int (-4)) ∧ w = [(mo, .inr (10, M1R ma (mZ c c2 tk vc ln rn zs2_10 zs2_11 zs2_20 zs2_21 zs2_22 zs2_25 zs2_26 zs2_27 zs2_29))), ((ma 12), eI D 100 tb)]) := by
  refine Sp.of (by decide) (Nat.le_of_ble_eq_true rfl) (fun X O T => ?_)
  refine v_eq (lv' := [(0, .ref mo), (1, .int (nI s))]) rfl rfl rfl rfl ?_
  refine v_aload_n O dX10_feed_0 0 rfl ?_
  refine v_iload_n O dX10_feed_1 1 rfl ?_
  refine v_iconst (v := 0) O dX10_feed_2 (by decide) ?_
  refine v_bipush (v := 127) O dX10_feed_3 (by decide) ?_
  refine v_cV (T := TX10) (ci := 10) (As := [.int (nI s), .int 0, .int 127]) (wr := [(mo, .inr (10, M1R ma (mZ c c2 tk vc ln rn zs_10 zs_11 zs_20 zs_21 zs_22 zs_25 zs_26 zs_27 zs_29))), ((ma 12), eI D 100 tb)]) (st := []) O cf_X10_179 rfl (sp_X10_in_0 (mo := mo) (x := (nI s)) (h := 127) (zn := 128) (rfl) (by decide)) dX10_feed_5 rfl rfl 0 rfl [] [0, 1] (by decide) rfl rfl (by decide) (by decide) (by decide) (Nat.le_of_ble_eq_true rfl) (by decide) (by decide) (fun r_2 w_3 h_1 => ?_)
  obtain ⟨rfl, rfl⟩ := h_1
  refine v_eq (st' := [.int (b2i (isIx (nI s) 128))]) (ws' := [(mo, .inr (10, M1R ma (mZ c c2 tk vc ln rn zs_10 zs_11 zs_20 zs_21 zs_22 zs_25 zs_26 zs_27 zs_29))), ((ma 12), eI D 100 tb)]) rfl rfl rfl rfl ?_
  refine v_if_ne O 14 dX10_feed_8 (by decide) (fun z1 => ?_) (fun z1 => ?_)
  · skip
    have z1 := b2i_1.mp z1
    refine v_aload_n O dX10_feed_14 0 rfl ?_
    refine gf_X10_38 (v := .int (nI ln)) O rfl dX10_feed_15 0 rfl rfl ?_
    refine v_bipush (v := 100) O dX10_feed_18 (by decide) ?_
    refine v_icmp_ne O 26 dX10_feed_20 (by decide) (fun z2 => ?_) (fun z2 => ?_)
    · skip
      have z2 := (not_congr (c_eq (x := nI ln) (y := 100) (a := ln) (b := 100) rfl rfl (by omega) (by omega))).mp z2
      exact absurd z2 (by omega)
    · skip
      have z2 := (c_eq (x := nI ln) (y := 100) (a := ln) (b := 100) rfl rfl (by omega) (by omega)).mp z2
      refine v_bipush (v := -4) O dX10_feed_23 (by decide) ?_
      exact v_ireturn O T rfl rfl (by decide) (by decide) dX10_feed_25 (⟨zs_10, zs_11, zs_20, zs_21, zs_22, zs_25, zs_26, zs_27, zs_29, rfl, rfl⟩)
  · skip
    have z1 := b2i_0.mp z1
    exact absurd ((isIx_nI (by omega) (by omega)).mpr hs) z1
set_option maxRecDepth 100000 in
set_option maxHeartbeats 4000000 in
theorem sp_X10_feed_3 {D : G} {mo : Nat} {ma : Nat → Nat} {c : CS} {c2 : CS} {tk : Int32} {vc : Nat} {ln : Nat} {rn : Nat} {zs_10 : Int32} {zs_11 : Int32} {zs_20 : Int32} {zs_21 : Int32} {zs_22 : Int32} {zs_25 : Int32} {zs_26 : Int32} {zs_27 : Int32} {zs_29 : Int32} {tb : Nat → Int32} {s : Nat} (hs : s < 128) (hf : ln < 100) : Sp D mX10_feed 30 0 0 [.ref mo, .int (nI s)] [(mo, .inr (10, M1R ma (mZ c c2 tk vc ln rn zs_10 zs_11 zs_20 zs_21 zs_22 zs_25 zs_26 zs_27 zs_29))), ((ma 12), eI D 100 tb)] (fun r w => ∃ zs2_10 : Int32, ∃ zs2_11 : Int32, ∃ zs2_20 : Int32, ∃ zs2_21 : Int32, ∃ zs2_22 : Int32, ∃ zs2_25 : Int32, ∃ zs2_26 : Int32, ∃ zs2_27 : Int32, ∃ zs2_29 : Int32, r = some (.int (nI (ln + 1))) ∧ w = [(mo, .inr (10, M1R ma (mZ c c2 tk vc (ln + 1) rn zs2_10 zs2_11 zs2_20 zs2_21 zs2_22 zs2_25 zs2_26 zs2_27 zs2_29))), ((ma 12), eI D 100 (upd tb ln (nI s)))]) := by
  refine Sp.of (by decide) (Nat.le_of_ble_eq_true rfl) (fun X O T => ?_)
  refine v_eq (lv' := [(0, .ref mo), (1, .int (nI s))]) rfl rfl rfl rfl ?_
  refine v_aload_n O dX10_feed_0 0 rfl ?_
  refine v_iload_n O dX10_feed_1 1 rfl ?_
  refine v_iconst (v := 0) O dX10_feed_2 (by decide) ?_
  refine v_bipush (v := 127) O dX10_feed_3 (by decide) ?_
  refine v_cV (T := TX10) (ci := 10) (As := [.int (nI s), .int 0, .int 127]) (wr := [(mo, .inr (10, M1R ma (mZ c c2 tk vc ln rn zs_10 zs_11 zs_20 zs_21 zs_22 zs_25 zs_26 zs_27 zs_29))), ((ma 12), eI D 100 tb)]) (st := []) O cf_X10_179 rfl (sp_X10_in_0 (mo := mo) (x := (nI s)) (h := 127) (zn := 128) (rfl) (by decide)) dX10_feed_5 rfl rfl 0 rfl [] [0, 1] (by decide) rfl rfl (by decide) (by decide) (by decide) (Nat.le_of_ble_eq_true rfl) (by decide) (by decide) (fun r_2 w_3 h_1 => ?_)
  obtain ⟨rfl, rfl⟩ := h_1
  refine v_eq (st' := [.int (b2i (isIx (nI s) 128))]) (ws' := [(mo, .inr (10, M1R ma (mZ c c2 tk vc ln rn zs_10 zs_11 zs_20 zs_21 zs_22 zs_25 zs_26 zs_27 zs_29))), ((ma 12), eI D 100 tb)]) rfl rfl rfl rfl ?_
  refine v_if_ne O 14 dX10_feed_8 (by decide) (fun z1 => ?_) (fun z1 => ?_)
  · skip
    have z1 := b2i_1.mp z1
    refine v_aload_n O dX10_feed_14 0 rfl ?_
    refine gf_X10_38 (v := .int (nI ln)) O rfl dX10_feed_15 0 rfl rfl ?_
    refine v_bipush (v := 100) O dX10_feed_18 (by decide) ?_
    refine v_icmp_ne O 26 dX10_feed_20 (by decide) (fun z2 => ?_) (fun z2 => ?_)
    · skip
      have z2 := (not_congr (c_eq (x := nI ln) (y := 100) (a := ln) (b := 100) rfl rfl (by omega) (by omega))).mp z2
      refine v_aload_n O dX10_feed_26 0 rfl ?_
      refine gf_X10_47 (v := .ref (ma 12)) O rfl dX10_feed_27 0 rfl rfl ?_
      refine v_aload_n O dX10_feed_30 0 rfl ?_
      refine gf_X10_38 (v := .int (nI ln)) O rfl dX10_feed_31 0 rfl rfl ?_
      refine v_iload_n O dX10_feed_34 1 rfl ?_
      refine v_iastk (ws' := [(mo, .inr (10, M1R ma (mZ c c2 tk vc ln rn zs_10 zs_11 zs_20 zs_21 zs_22 zs_25 zs_26 zs_27 zs_29))), ((ma 12), eI D 100 (upd tb ln (nI s)))]) O dX10_feed_35 1 rfl ln (rfl) (by omega) (by decide) (rfl) ?_
      refine v_aload_n O dX10_feed_36 0 rfl ?_
      refine v_dup O dX10_feed_37 rfl ?_
      refine gf_X10_38 (v := .int (nI ln)) O rfl dX10_feed_38 0 rfl rfl ?_
      refine v_iconst (v := 1) O dX10_feed_41 (by decide) ?_
      refine v_iadd O dX10_feed_42 ?_
      refine v_top (y := nI (ln + 1)) (nI_add ln 1) ?_
      refine pf_X10_38 (fs' := M1R ma (mZ c c2 tk vc (ln + 1) rn zs_10 zs_11 zs_20 zs_21 zs_22 zs_25 zs_26 zs_27 zs_29)) (ws' := [(mo, .inr (10, M1R ma (mZ c c2 tk vc (ln + 1) rn zs_10 zs_11 zs_20 zs_21 zs_22 zs_25 zs_26 zs_27 zs_29))), ((ma 12), eI D 100 (upd tb ln (nI s)))]) O rfl dX10_feed_43 0 rfl (Nat.le_of_ble_eq_true rfl) rfl rfl ?_
      refine v_aload_n O dX10_feed_46 0 rfl ?_
      refine gf_X10_38 (v := .int (nI (ln + 1))) O rfl dX10_feed_47 0 rfl rfl ?_
      exact v_ireturn O T rfl rfl (by decide) (by decide) dX10_feed_50 (⟨zs_10, zs_11, zs_20, zs_21, zs_22, zs_25, zs_26, zs_27, zs_29, rfl, rfl⟩)
    · skip
      have z2 := (c_eq (x := nI ln) (y := 100) (a := ln) (b := 100) rfl rfl (by omega) (by omega)).mp z2
      exact absurd z2 (by omega)
  · skip
    have z1 := b2i_0.mp z1
    exact absurd ((isIx_nI (by omega) (by omega)).mpr hs) z1
set_option maxRecDepth 100000 in
set_option maxHeartbeats 4000000 in
theorem sp_X10_row_1 {D : G} {mo : Nat} {ma : Nat → Nat} {c : CS} {c2 : CS} {tk : Int32} {vc : Nat} {ln : Nat} {rn : Nat} {zs_10 : Int32} {zs_11 : Int32} {zs_20 : Int32} {zs_21 : Int32} {zs_22 : Int32} {zs_25 : Int32} {zs_26 : Int32} {zs_27 : Int32} {zs_29 : Int32} (hC : cOk c) : Sp D mX10_row 30 0 0 [.ref mo, .int (-1)] [(mo, .inr (10, M1R ma (mZ c c2 tk vc ln rn zs_10 zs_11 zs_20 zs_21 zs_22 zs_25 zs_26 zs_27 zs_29))), ((ma 4), eI D 6 (nF c.kk)), ((ma 5), eI D 6 (nF c.vv)), ((ma 6), eI D 6 c.hd), ((ma 30), eI D 8 (nF c.crf)), ((ma 35), eI D 12 (nF c.bo))] (fun r w => ∃ zs2_10 : Int32, ∃ zs2_11 : Int32, ∃ zs2_20 : Int32, ∃ zs2_21 : Int32, ∃ zs2_22 : Int32, ∃ zs2_25 : Int32, ∃ zs2_26 : Int32, ∃ zs2_27 : Int32, ∃ zs2_29 : Int32, r = some (.int 0) ∧ w = [(mo, .inr (10, M1R ma (mZ (cRow0 c) c2 tk vc ln rn zs2_10 zs2_11 zs2_20 zs2_21 zs2_22 zs2_25 zs2_26 zs2_27 zs2_29))), ((ma 4), eI D 6 (nF (cRow0 c).kk)), ((ma 5), eI D 6 (nF (cRow0 c).vv)), ((ma 6), eI D 6 ((cRow0 c).hd)), ((ma 30), eI D 8 (nF (cRow0 c).crf)), ((ma 35), eI D 12 (nF (cRow0 c).bo))]) := by
  refine Sp.of (by decide) (Nat.le_of_ble_eq_true rfl) (fun X O T => ?_)
  refine v_eq (lv' := [(0, .ref mo), (1, .int (-1))]) rfl rfl rfl rfl ?_
  have z_m := hC.1
  have z_hp := hC.2.2.2.1
  have z_wk := hC.2.2.2.2.1
  have z_rl := hC.2.2.2.2.2.1
  have z_pg := hC.2.2.2.2.2.2.2.1
  refine v_iload_n O dX10_row_0 1 rfl ?_
  refine v_iconst (v := -1) O dX10_row_1 (by decide) ?_
  refine v_icmp_ne O 12 dX10_row_2 (by decide) (fun z0 => ?_) (fun z0 => ?_)
  · skip
    exact absurd rfl z0
  · skip
    refine v_aload_n O dX10_row_5 0 rfl ?_
    refine v_iconst (v := 0) O dX10_row_6 (by decide) ?_
    refine pf_X10_96 (fs' := M1R ma (upd (mZ c c2 tk vc ln rn zs_10 zs_11 zs_20 zs_21 zs_22 zs_25 zs_26 zs_27 zs_29) 28 0)) (ws' := [(mo, .inr (10, M1R ma (upd (mZ c c2 tk vc ln rn zs_10 zs_11 zs_20 zs_21 zs_22 zs_25 zs_26 zs_27 zs_29) 28 0))), ((ma 4), eI D 6 (nF c.kk)), ((ma 5), eI D 6 (nF c.vv)), ((ma 6), eI D 6 c.hd), ((ma 30), eI D 8 (nF c.crf)), ((ma 35), eI D 12 (nF c.bo))]) O rfl dX10_row_7 0 rfl (Nat.le_of_ble_eq_true rfl) rfl rfl ?_
    refine v_iconst (v := 0) O dX10_row_10 (by decide) ?_
    exact v_ireturn O T rfl rfl (by decide) (by decide) dX10_row_11 (⟨zs_10, zs_11, zs_20, zs_21, zs_22, zs_25, zs_26, zs_27, zs_29, rfl, rfl⟩)
set_option maxRecDepth 100000 in
set_option maxHeartbeats 4000000 in
theorem sp_X10_row_2 {D : G} {mo : Nat} {ma : Nat → Nat} {c : CS} {c2 : CS} {tk : Int32} {vc : Nat} {ln : Nat} {rn : Nat} {zs_10 : Int32} {zs_11 : Int32} {zs_20 : Int32} {zs_21 : Int32} {zs_22 : Int32} {zs_25 : Int32} {zs_26 : Int32} {zs_27 : Int32} {zs_29 : Int32} {i : Int32} (hC : cOk c) (hi0 : ¬ i = -1) (hi : ¬ isIx i c.men) : Sp D mX10_row 30 0 0 [.ref mo, .int i] [(mo, .inr (10, M1R ma (mZ c c2 tk vc ln rn zs_10 zs_11 zs_20 zs_21 zs_22 zs_25 zs_26 zs_27 zs_29))), ((ma 4), eI D 6 (nF c.kk)), ((ma 5), eI D 6 (nF c.vv)), ((ma 6), eI D 6 c.hd), ((ma 30), eI D 8 (nF c.crf)), ((ma 35), eI D 12 (nF c.bo))] (fun r w => ∃ zs2_10 : Int32, ∃ zs2_11 : Int32, ∃ zs2_20 : Int32, ∃ zs2_21 : Int32, ∃ zs2_22 : Int32, ∃ zs2_25 : Int32, ∃ zs2_26 : Int32, ∃ zs2_27 : Int32, ∃ zs2_29 : Int32, r = some (.int (-1)) ∧ w = [(mo, .inr (10, M1R ma (mZ c c2 tk vc ln rn zs2_10 zs2_11 zs2_20 zs2_21 zs2_22 zs2_25 zs2_26 zs2_27 zs2_29))), ((ma 4), eI D 6 (nF c.kk)), ((ma 5), eI D 6 (nF c.vv)), ((ma 6), eI D 6 c.hd), ((ma 30), eI D 8 (nF c.crf)), ((ma 35), eI D 12 (nF c.bo))]) := by
  refine Sp.of (by decide) (Nat.le_of_ble_eq_true rfl) (fun X O T => ?_)
  refine v_eq (lv' := [(0, .ref mo), (1, .int i)]) rfl rfl rfl rfl ?_
  have z_m := hC.1
  have z_hp := hC.2.2.2.1
  have z_wk := hC.2.2.2.2.1
  have z_rl := hC.2.2.2.2.2.1
  have z_pg := hC.2.2.2.2.2.2.2.1
  refine v_iload_n O dX10_row_0 1 rfl ?_
  refine v_iconst (v := -1) O dX10_row_1 (by decide) ?_
  refine v_icmp_ne O 12 dX10_row_2 (by decide) (fun z0 => ?_) (fun z0 => ?_)
  · skip
    refine v_aload_n O dX10_row_12 0 rfl ?_
    refine v_iload_n O dX10_row_13 1 rfl ?_
    refine v_cV (T := TX10) (ci := 10) (As := [.int i]) (wr := [((ma 4), eI D 6 (nF c.kk)), ((ma 5), eI D 6 (nF c.vv)), ((ma 6), eI D 6 c.hd), ((ma 30), eI D 8 (nF c.crf)), ((ma 35), eI D 12 (nF c.bo))]) (st := []) O cf_X10_281 rfl (sp_X10_isMan (mo := mo) (ma := ma) (c := c) (c2 := c2) (tk := tk) (vc := vc) (ln := ln) (rn := rn) (zs_10 := zs_10) (zs_11 := zs_11) (zs_20 := zs_20) (zs_21 := zs_21) (zs_22 := zs_22) (zs_25 := zs_25) (zs_26 := zs_26) (zs_27 := zs_27) (zs_29 := zs_29) (i := i) (hC.1)) dX10_row_14 rfl rfl 0 rfl [0] [1, 2, 3, 4, 5] (by decide) rfl rfl (by decide) (by decide) (by decide) (Nat.le_of_ble_eq_true rfl) (by decide) (by decide) (fun r_2 w_3 h_1 => ?_)
    obtain ⟨rfl, rfl⟩ := h_1
    refine v_eq (st' := [.int (b2i (isIx i c.men))]) (ws' := [((ma 4), eI D 6 (nF c.kk)), ((ma 5), eI D 6 (nF c.vv)), ((ma 6), eI D 6 c.hd), ((ma 30), eI D 8 (nF c.crf)), ((ma 35), eI D 12 (nF c.bo)), (mo, .inr (10, M1R ma (mZ c c2 tk vc ln rn zs_10 zs_11 zs_20 zs_21 zs_22 zs_25 zs_26 zs_27 zs_29)))]) rfl rfl rfl rfl ?_
    refine v_if_ne O 22 dX10_row_17 (by decide) (fun z1 => ?_) (fun z1 => ?_)
    · skip
      have z1 := b2i_1.mp z1
      exact absurd z1 hi
    · skip
      have z1 := b2i_0.mp z1
      refine v_iconst (v := -1) O dX10_row_20 (by decide) ?_
      refine v_sub (ws' := [(mo, .inr (10, M1R ma (mZ c c2 tk vc ln rn zs_10 zs_11 zs_20 zs_21 zs_22 zs_25 zs_26 zs_27 zs_29))), ((ma 4), eI D 6 (nF c.kk)), ((ma 5), eI D 6 (nF c.vv)), ((ma 6), eI D 6 c.hd), ((ma 30), eI D 8 (nF c.crf)), ((ma 35), eI D 12 (nF c.bo))]) [5, 0, 1, 2, 3, 4] (by decide) rfl ?_
      exact v_ireturn O T rfl rfl (by decide) (by decide) dX10_row_21 (⟨zs_10, zs_11, zs_20, zs_21, zs_22, zs_25, zs_26, zs_27, zs_29, rfl, rfl⟩)
  · skip
    exact absurd z0 hi0
set_option maxRecDepth 100000 in
set_option maxHeartbeats 4000000 in
theorem sp_X10_row_3 {D : G} {mo : Nat} {ma : Nat → Nat} {c : CS} {c2 : CS} {tk : Int32} {vc : Nat} {ln : Nat} {rn : Nat} {zs_10 : Int32} {zs_11 : Int32} {zs_20 : Int32} {zs_21 : Int32} {zs_22 : Int32} {zs_25 : Int32} {zs_26 : Int32} {zs_27 : Int32} {zs_29 : Int32} {i : Nat} (hC : cOk c) (hi : i < c.men) (hr : c.rl = 8) : Sp D mX10_row 30 0 0 [.ref mo, .int (nI i)] [(mo, .inr (10, M1R ma (mZ c c2 tk vc ln rn zs_10 zs_11 zs_20 zs_21 zs_22 zs_25 zs_26 zs_27 zs_29))), ((ma 4), eI D 6 (nF c.kk)), ((ma 5), eI D 6 (nF c.vv)), ((ma 6), eI D 6 c.hd), ((ma 30), eI D 8 (nF c.crf)), ((ma 35), eI D 12 (nF c.bo))] (fun r w => ∃ zs2_10 : Int32, ∃ zs2_11 : Int32, ∃ zs2_20 : Int32, ∃ zs2_21 : Int32, ∃ zs2_22 : Int32, ∃ zs2_25 : Int32, ∃ zs2_26 : Int32, ∃ zs2_27 : Int32, ∃ zs2_29 : Int32, r = some (.int (-4)) ∧ w = [(mo, .inr (10, M1R ma (mZ c c2 tk vc ln rn zs2_10 zs2_11 zs2_20 zs2_21 zs2_22 zs2_25 zs2_26 zs2_27 zs2_29))), ((ma 4), eI D 6 (nF c.kk)), ((ma 5), eI D 6 (nF c.vv)), ((ma 6), eI D 6 c.hd), ((ma 30), eI D 8 (nF c.crf)), ((ma 35), eI D 12 (nF c.bo))]) := by
  refine Sp.of (by decide) (Nat.le_of_ble_eq_true rfl) (fun X O T => ?_)
  refine v_eq (lv' := [(0, .ref mo), (1, .int (nI i))]) rfl rfl rfl rfl ?_
  have z_m := hC.1
  have z_hp := hC.2.2.2.1
  have z_wk := hC.2.2.2.2.1
  have z_rl := hC.2.2.2.2.2.1
  have z_pg := hC.2.2.2.2.2.2.2.1
  refine v_iload_n O dX10_row_0 1 rfl ?_
  refine v_iconst (v := -1) O dX10_row_1 (by decide) ?_
  refine v_icmp_ne O 12 dX10_row_2 (by decide) (fun z0 => ?_) (fun z0 => ?_)
  · skip
    refine v_aload_n O dX10_row_12 0 rfl ?_
    refine v_iload_n O dX10_row_13 1 rfl ?_
    refine v_cV (T := TX10) (ci := 10) (As := [.int (nI i)]) (wr := [((ma 4), eI D 6 (nF c.kk)), ((ma 5), eI D 6 (nF c.vv)), ((ma 6), eI D 6 c.hd), ((ma 30), eI D 8 (nF c.crf)), ((ma 35), eI D 12 (nF c.bo))]) (st := []) O cf_X10_281 rfl (sp_X10_isMan (mo := mo) (ma := ma) (c := c) (c2 := c2) (tk := tk) (vc := vc) (ln := ln) (rn := rn) (zs_10 := zs_10) (zs_11 := zs_11) (zs_20 := zs_20) (zs_21 := zs_21) (zs_22 := zs_22) (zs_25 := zs_25) (zs_26 := zs_26) (zs_27 := zs_27) (zs_29 := zs_29) (i := (nI i)) (hC.1)) dX10_row_14 rfl rfl 0 rfl [0] [1, 2, 3, 4, 5] (by decide) rfl rfl (by decide) (by decide) (by decide) (Nat.le_of_ble_eq_true rfl) (by decide) (by decide) (fun r_2 w_3 h_1 => ?_)
    obtain ⟨rfl, rfl⟩ := h_1
    refine v_eq (st' := [.int (b2i (isIx (nI i) c.men))]) (ws' := [((ma 4), eI D 6 (nF c.kk)), ((ma 5), eI D 6 (nF c.vv)), ((ma 6), eI D 6 c.hd), ((ma 30), eI D 8 (nF c.crf)), ((ma 35), eI D 12 (nF c.bo)), (mo, .inr (10, M1R ma (mZ c c2 tk vc ln rn zs_10 zs_11 zs_20 zs_21 zs_22 zs_25 zs_26 zs_27 zs_29)))]) rfl rfl rfl rfl ?_
    refine v_if_ne O 22 dX10_row_17 (by decide) (fun z1 => ?_) (fun z1 => ?_)
    · skip
      have z1 := b2i_1.mp z1
      refine v_aload_n O dX10_row_22 0 rfl ?_
      refine gf_X10_96 (v := .int (nI c.rl)) O rfl dX10_row_23 5 rfl rfl ?_
      refine v_bipush (v := 8) O dX10_row_26 (by decide) ?_
      refine v_icmp_ne O 34 dX10_row_28 (by decide) (fun z2 => ?_) (fun z2 => ?_)
      · skip
        have z2 := (not_congr (c_eq (x := nI c.rl) (y := 8) (a := c.rl) (b := 8) rfl rfl (by omega) (by omega))).mp z2
        exact absurd z2 (by omega)
      · skip
        have z2 := (c_eq (x := nI c.rl) (y := 8) (a := c.rl) (b := 8) rfl rfl (by omega) (by omega)).mp z2
        refine v_bipush (v := -4) O dX10_row_31 (by decide) ?_
        refine v_sub (ws' := [(mo, .inr (10, M1R ma (mZ c c2 tk vc ln rn zs_10 zs_11 zs_20 zs_21 zs_22 zs_25 zs_26 zs_27 zs_29))), ((ma 4), eI D 6 (nF c.kk)), ((ma 5), eI D 6 (nF c.vv)), ((ma 6), eI D 6 c.hd), ((ma 30), eI D 8 (nF c.crf)), ((ma 35), eI D 12 (nF c.bo))]) [5, 0, 1, 2, 3, 4] (by decide) rfl ?_
        exact v_ireturn O T rfl rfl (by decide) (by decide) dX10_row_33 (⟨zs_10, zs_11, zs_20, zs_21, zs_22, zs_25, zs_26, zs_27, zs_29, rfl, rfl⟩)
    · skip
      have z1 := b2i_0.mp z1
      exact absurd ((isIx_nI (by omega) (by omega)).mpr hi) z1
  · skip
    exact absurd z0 (zI_m1 (by omega))
set_option maxRecDepth 100000 in
set_option maxHeartbeats 4000000 in
theorem sp_X10_row_4 {D : G} {mo : Nat} {ma : Nat → Nat} {c : CS} {c2 : CS} {tk : Int32} {vc : Nat} {ln : Nat} {rn : Nat} {zs_10 : Int32} {zs_11 : Int32} {zs_20 : Int32} {zs_21 : Int32} {zs_22 : Int32} {zs_25 : Int32} {zs_26 : Int32} {zs_27 : Int32} {zs_29 : Int32} {i : Nat} (hC : cOk c) (hi : i < c.men) (hr : c.rl < 8) : Sp D mX10_row 30 0 0 [.ref mo, .int (nI i)] [(mo, .inr (10, M1R ma (mZ c c2 tk vc ln rn zs_10 zs_11 zs_20 zs_21 zs_22 zs_25 zs_26 zs_27 zs_29))), ((ma 4), eI D 6 (nF c.kk)), ((ma 5), eI D 6 (nF c.vv)), ((ma 6), eI D 6 c.hd), ((ma 30), eI D 8 (nF c.crf)), ((ma 35), eI D 12 (nF c.bo))] (fun r w => ∃ zs2_10 : Int32, ∃ zs2_11 : Int32, ∃ zs2_20 : Int32, ∃ zs2_21 : Int32, ∃ zs2_22 : Int32, ∃ zs2_25 : Int32, ∃ zs2_26 : Int32, ∃ zs2_27 : Int32, ∃ zs2_29 : Int32, r = some (.int (nI (c.rl + 1))) ∧ w = [(mo, .inr (10, M1R ma (mZ (cRow c i) c2 tk vc ln rn zs2_10 zs2_11 zs2_20 zs2_21 zs2_22 zs2_25 zs2_26 zs2_27 zs2_29))), ((ma 4), eI D 6 (nF (cRow c i).kk)), ((ma 5), eI D 6 (nF (cRow c i).vv)), ((ma 6), eI D 6 ((cRow c i).hd)), ((ma 30), eI D 8 (nF (cRow c i).crf)), ((ma 35), eI D 12 (nF (cRow c i).bo))]) := by
  refine Sp.of (by decide) (Nat.le_of_ble_eq_true rfl) (fun X O T => ?_)
  refine v_eq (lv' := [(0, .ref mo), (1, .int (nI i))]) rfl rfl rfl rfl ?_
  have z_m := hC.1
  have z_hp := hC.2.2.2.1
  have z_wk := hC.2.2.2.2.1
  have z_rl := hC.2.2.2.2.2.1
  have z_pg := hC.2.2.2.2.2.2.2.1
  refine v_iload_n O dX10_row_0 1 rfl ?_
  refine v_iconst (v := -1) O dX10_row_1 (by decide) ?_
  refine v_icmp_ne O 12 dX10_row_2 (by decide) (fun z0 => ?_) (fun z0 => ?_)
  · skip
    refine v_aload_n O dX10_row_12 0 rfl ?_
    refine v_iload_n O dX10_row_13 1 rfl ?_
    refine v_cV (T := TX10) (ci := 10) (As := [.int (nI i)]) (wr := [((ma 4), eI D 6 (nF c.kk)), ((ma 5), eI D 6 (nF c.vv)), ((ma 6), eI D 6 c.hd), ((ma 30), eI D 8 (nF c.crf)), ((ma 35), eI D 12 (nF c.bo))]) (st := []) O cf_X10_281 rfl (sp_X10_isMan (mo := mo) (ma := ma) (c := c) (c2 := c2) (tk := tk) (vc := vc) (ln := ln) (rn := rn) (zs_10 := zs_10) (zs_11 := zs_11) (zs_20 := zs_20) (zs_21 := zs_21) (zs_22 := zs_22) (zs_25 := zs_25) (zs_26 := zs_26) (zs_27 := zs_27) (zs_29 := zs_29) (i := (nI i)) (hC.1)) dX10_row_14 rfl rfl 0 rfl [0] [1, 2, 3, 4, 5] (by decide) rfl rfl (by decide) (by decide) (by decide) (Nat.le_of_ble_eq_true rfl) (by decide) (by decide) (fun r_2 w_3 h_1 => ?_)
    obtain ⟨rfl, rfl⟩ := h_1
    refine v_eq (st' := [.int (b2i (isIx (nI i) c.men))]) (ws' := [((ma 4), eI D 6 (nF c.kk)), ((ma 5), eI D 6 (nF c.vv)), ((ma 6), eI D 6 c.hd), ((ma 30), eI D 8 (nF c.crf)), ((ma 35), eI D 12 (nF c.bo)), (mo, .inr (10, M1R ma (mZ c c2 tk vc ln rn zs_10 zs_11 zs_20 zs_21 zs_22 zs_25 zs_26 zs_27 zs_29)))]) rfl rfl rfl rfl ?_
    refine v_if_ne O 22 dX10_row_17 (by decide) (fun z1 => ?_) (fun z1 => ?_)
    · skip
      have z1 := b2i_1.mp z1
      refine v_aload_n O dX10_row_22 0 rfl ?_
      refine gf_X10_96 (v := .int (nI c.rl)) O rfl dX10_row_23 5 rfl rfl ?_
      refine v_bipush (v := 8) O dX10_row_26 (by decide) ?_
      refine v_icmp_ne O 34 dX10_row_28 (by decide) (fun z2 => ?_) (fun z2 => ?_)
      · skip
        have z2 := (not_congr (c_eq (x := nI c.rl) (y := 8) (a := c.rl) (b := 8) rfl rfl (by omega) (by omega))).mp z2
        refine v_aload_n O dX10_row_34 0 rfl ?_
        refine gf_X10_102 (v := .ref (ma 30)) O rfl dX10_row_35 5 rfl rfl ?_
        refine v_aload_n O dX10_row_38 0 rfl ?_
        refine gf_X10_96 (v := .int (nI c.rl)) O rfl dX10_row_39 5 rfl rfl ?_
        refine v_iload_n O dX10_row_42 1 rfl ?_
        refine v_iastk (ws' := [((ma 4), eI D 6 (nF c.kk)), ((ma 5), eI D 6 (nF c.vv)), ((ma 6), eI D 6 c.hd), ((ma 30), eI D 8 (nF (uN c.crf c.rl i))), ((ma 35), eI D 12 (nF c.bo)), (mo, .inr (10, M1R ma (mZ c c2 tk vc ln rn zs_10 zs_11 zs_20 zs_21 zs_22 zs_25 zs_26 zs_27 zs_29)))]) O dX10_row_43 3 rfl c.rl (rfl) (by omega) (by decide) (by rw [upd_nF]; rfl) ?_
        refine v_aload_n O dX10_row_44 0 rfl ?_
        refine v_dup O dX10_row_45 rfl ?_
        refine gf_X10_96 (v := .int (nI c.rl)) O rfl dX10_row_46 5 rfl rfl ?_
        refine v_iconst (v := 1) O dX10_row_49 (by decide) ?_
        refine v_iadd O dX10_row_50 ?_
        refine v_top (y := nI (c.rl + 1)) (nI_add c.rl 1) ?_
        refine pf_X10_96 (fs' := M1R ma (upd (mZ c c2 tk vc ln rn zs_10 zs_11 zs_20 zs_21 zs_22 zs_25 zs_26 zs_27 zs_29) 28 (nI (c.rl + 1)))) (ws' := [((ma 4), eI D 6 (nF c.kk)), ((ma 5), eI D 6 (nF c.vv)), ((ma 6), eI D 6 c.hd), ((ma 30), eI D 8 (nF (uN c.crf c.rl i))), ((ma 35), eI D 12 (nF c.bo)), (mo, .inr (10, M1R ma (upd (mZ c c2 tk vc ln rn zs_10 zs_11 zs_20 zs_21 zs_22 zs_25 zs_26 zs_27 zs_29) 28 (nI (c.rl + 1)))))]) O rfl dX10_row_51 5 rfl (Nat.le_of_ble_eq_true rfl) rfl rfl ?_
        refine v_aload_n O dX10_row_54 0 rfl ?_
        refine gf_X10_96 (v := .int (nI (c.rl + 1))) O rfl dX10_row_55 5 rfl rfl ?_
        refine v_sub (ws' := [(mo, .inr (10, M1R ma (upd (mZ c c2 tk vc ln rn zs_10 zs_11 zs_20 zs_21 zs_22 zs_25 zs_26 zs_27 zs_29) 28 (nI (c.rl + 1))))), ((ma 4), eI D 6 (nF c.kk)), ((ma 5), eI D 6 (nF c.vv)), ((ma 6), eI D 6 c.hd), ((ma 30), eI D 8 (nF (uN c.crf c.rl i))), ((ma 35), eI D 12 (nF c.bo))]) [5, 0, 1, 2, 3, 4] (by decide) rfl ?_
        exact v_ireturn O T rfl rfl (by decide) (by decide) dX10_row_58 (⟨zs_10, zs_11, zs_20, zs_21, zs_22, zs_25, zs_26, zs_27, zs_29, rfl, rfl⟩)
      · skip
        have z2 := (c_eq (x := nI c.rl) (y := 8) (a := c.rl) (b := 8) rfl rfl (by omega) (by omega)).mp z2
        exact absurd z2 (by omega)
    · skip
      have z1 := b2i_0.mp z1
      exact absurd ((isIx_nI (by omega) (by omega)).mpr hi) z1
  · skip
    exact absurd z0 (zI_m1 (by omega))
set_option maxRecDepth 100000 in
set_option maxHeartbeats 4000000 in
theorem sp_X10_book_1 {D : G} {mo : Nat} {ma : Nat → Nat} {c : CS} {c2 : CS} {tk : Int32} {vc : Nat} {ln : Nat} {rn : Nat} {zs_10 : Int32} {zs_11 : Int32} {zs_20 : Int32} {zs_21 : Int32} {zs_22 : Int32} {zs_25 : Int32} {zs_26 : Int32} {zs_27 : Int32} {zs_29 : Int32} (hC : cOk c) : Sp D mX10_book 30 0 0 [.ref mo, .int (-1)] [(mo, .inr (10, M1R ma (mZ c c2 tk vc ln rn zs_10 zs_11 zs_20 zs_21 zs_22 zs_25 zs_26 zs_27 zs_29))), ((ma 4), eI D 6 (nF c.kk)), ((ma 5), eI D 6 (nF c.vv)), ((ma 6), eI D 6 c.hd), ((ma 30), eI D 8 (nF c.crf)), ((ma 35), eI D 12 (nF c.bo))] (fun r w => ∃ zs2_10 : Int32, ∃ zs2_11 : Int32, ∃ zs2_20 : Int32, ∃ zs2_21 : Int32, ∃ zs2_22 : Int32, ∃ zs2_25 : Int32, ∃ zs2_26 : Int32, ∃ zs2_27 : Int32, ∃ zs2_29 : Int32, r = some (.int 0) ∧ w = [(mo, .inr (10, M1R ma (mZ (cBook0 c) c2 tk vc ln rn zs2_10 zs2_11 zs2_20 zs2_21 zs2_22 zs2_25 zs2_26 zs2_27 zs2_29))), ((ma 4), eI D 6 (nF (cBook0 c).kk)), ((ma 5), eI D 6 (nF (cBook0 c).vv)), ((ma 6), eI D 6 ((cBook0 c).hd)), ((ma 30), eI D 8 (nF (cBook0 c).crf)), ((ma 35), eI D 12 (nF (cBook0 c).bo))]) := by
  refine Sp.of (by decide) (Nat.le_of_ble_eq_true rfl) (fun X O T => ?_)
  refine v_eq (lv' := [(0, .ref mo), (1, .int (-1))]) rfl rfl rfl rfl ?_
  have z_m := hC.1
  have z_hp := hC.2.2.2.1
  have z_wk := hC.2.2.2.2.1
  have z_rl := hC.2.2.2.2.2.1
  have z_pg := hC.2.2.2.2.2.2.2.1
  refine v_iload_n O dX10_book_0 1 rfl ?_
  refine v_iconst (v := -1) O dX10_book_1 (by decide) ?_
  refine v_icmp_ne O 12 dX10_book_2 (by decide) (fun z0 => ?_) (fun z0 => ?_)
  · skip
    exact absurd rfl z0
  · skip
    refine v_aload_n O dX10_book_5 0 rfl ?_
    refine v_iconst (v := 0) O dX10_book_6 (by decide) ?_
    refine pf_X10_114 (fs' := M1R ma (upd (mZ c c2 tk vc ln rn zs_10 zs_11 zs_20 zs_21 zs_22 zs_25 zs_26 zs_27 zs_29) 34 0)) (ws' := [(mo, .inr (10, M1R ma (upd (mZ c c2 tk vc ln rn zs_10 zs_11 zs_20 zs_21 zs_22 zs_25 zs_26 zs_27 zs_29) 34 0))), ((ma 4), eI D 6 (nF c.kk)), ((ma 5), eI D 6 (nF c.vv)), ((ma 6), eI D 6 c.hd), ((ma 30), eI D 8 (nF c.crf)), ((ma 35), eI D 12 (nF c.bo))]) O rfl dX10_book_7 0 rfl (Nat.le_of_ble_eq_true rfl) rfl rfl ?_
    refine v_iconst (v := 0) O dX10_book_10 (by decide) ?_
    exact v_ireturn O T rfl rfl (by decide) (by decide) dX10_book_11 (⟨zs_10, zs_11, zs_20, zs_21, zs_22, zs_25, zs_26, zs_27, zs_29, rfl, rfl⟩)
set_option maxRecDepth 100000 in
set_option maxHeartbeats 4000000 in
theorem sp_X10_book_2 {D : G} {mo : Nat} {ma : Nat → Nat} {c : CS} {c2 : CS} {tk : Int32} {vc : Nat} {ln : Nat} {rn : Nat} {zs_10 : Int32} {zs_11 : Int32} {zs_20 : Int32} {zs_21 : Int32} {zs_22 : Int32} {zs_25 : Int32} {zs_26 : Int32} {zs_27 : Int32} {zs_29 : Int32} {h : Int32} (hC : cOk c) (hh0 : ¬ h = -1) (hh : ¬ isIx h 1000000) : Sp D mX10_book 30 0 0 [.ref mo, .int h] [(mo, .inr (10, M1R ma (mZ c c2 tk vc ln rn zs_10 zs_11 zs_20 zs_21 zs_22 zs_25 zs_26 zs_27 zs_29))), ((ma 4), eI D 6 (nF c.kk)), ((ma 5), eI D 6 (nF c.vv)), ((ma 6), eI D 6 c.hd), ((ma 30), eI D 8 (nF c.crf)), ((ma 35), eI D 12 (nF c.bo))] (fun r w => ∃ zs2_10 : Int32, ∃ zs2_11 : Int32, ∃ zs2_20 : Int32, ∃ zs2_21 : Int32, ∃ zs2_22 : Int32, ∃ zs2_25 : Int32, ∃ zs2_26 : Int32, ∃ zs2_27 : Int32, ∃ zs2_29 : Int32, r = some (.int (-2)) ∧ w = [(mo, .inr (10, M1R ma (mZ c c2 tk vc ln rn zs2_10 zs2_11 zs2_20 zs2_21 zs2_22 zs2_25 zs2_26 zs2_27 zs2_29))), ((ma 4), eI D 6 (nF c.kk)), ((ma 5), eI D 6 (nF c.vv)), ((ma 6), eI D 6 c.hd), ((ma 30), eI D 8 (nF c.crf)), ((ma 35), eI D 12 (nF c.bo))]) := by
  refine Sp.of (by decide) (Nat.le_of_ble_eq_true rfl) (fun X O T => ?_)
  refine v_eq (lv' := [(0, .ref mo), (1, .int h)]) rfl rfl rfl rfl ?_
  have z_m := hC.1
  have z_hp := hC.2.2.2.1
  have z_wk := hC.2.2.2.2.1
  have z_rl := hC.2.2.2.2.2.1
  have z_pg := hC.2.2.2.2.2.2.2.1
  refine v_iload_n O dX10_book_0 1 rfl ?_
  refine v_iconst (v := -1) O dX10_book_1 (by decide) ?_
  refine v_icmp_ne O 12 dX10_book_2 (by decide) (fun z0 => ?_) (fun z0 => ?_)
  · skip
    refine v_aload_n O dX10_book_12 0 rfl ?_
    refine v_iload_n O dX10_book_13 1 rfl ?_
    refine v_cV (T := TX10) (ci := 10) (As := [.int h]) (wr := [((ma 4), eI D 6 (nF c.kk)), ((ma 5), eI D 6 (nF c.vv)), ((ma 6), eI D 6 c.hd), ((ma 30), eI D 8 (nF c.crf)), ((ma 35), eI D 12 (nF c.bo))]) (st := []) O cf_X10_184 rfl (sp_X10_isHeap (mo := mo) (ma := ma) (c := c) (c2 := c2) (tk := tk) (vc := vc) (ln := ln) (rn := rn) (zs_10 := zs_10) (zs_11 := zs_11) (zs_20 := zs_20) (zs_21 := zs_21) (zs_22 := zs_22) (zs_25 := zs_25) (zs_26 := zs_26) (zs_27 := zs_27) (zs_29 := zs_29) (h := h) ) dX10_book_14 rfl rfl 0 rfl [0] [1, 2, 3, 4, 5] (by decide) rfl rfl (by decide) (by decide) (by decide) (Nat.le_of_ble_eq_true rfl) (by decide) (by decide) (fun r_2 w_3 h_1 => ?_)
    obtain ⟨rfl, rfl⟩ := h_1
    refine v_eq (st' := [.int (b2i (isIx h 1000000))]) (ws' := [((ma 4), eI D 6 (nF c.kk)), ((ma 5), eI D 6 (nF c.vv)), ((ma 6), eI D 6 c.hd), ((ma 30), eI D 8 (nF c.crf)), ((ma 35), eI D 12 (nF c.bo)), (mo, .inr (10, M1R ma (mZ c c2 tk vc ln rn zs_10 zs_11 zs_20 zs_21 zs_22 zs_25 zs_26 zs_27 zs_29)))]) rfl rfl rfl rfl ?_
    refine v_if_ne O 23 dX10_book_17 (by decide) (fun z1 => ?_) (fun z1 => ?_)
    · skip
      have z1 := b2i_1.mp z1
      exact absurd z1 hh
    · skip
      have z1 := b2i_0.mp z1
      refine v_bipush (v := -2) O dX10_book_20 (by decide) ?_
      refine v_sub (ws' := [(mo, .inr (10, M1R ma (mZ c c2 tk vc ln rn zs_10 zs_11 zs_20 zs_21 zs_22 zs_25 zs_26 zs_27 zs_29))), ((ma 4), eI D 6 (nF c.kk)), ((ma 5), eI D 6 (nF c.vv)), ((ma 6), eI D 6 c.hd), ((ma 30), eI D 8 (nF c.crf)), ((ma 35), eI D 12 (nF c.bo))]) [5, 0, 1, 2, 3, 4] (by decide) rfl ?_
      exact v_ireturn O T rfl rfl (by decide) (by decide) dX10_book_22 (⟨zs_10, zs_11, zs_20, zs_21, zs_22, zs_25, zs_26, zs_27, zs_29, rfl, rfl⟩)
  · skip
    exact absurd z0 hh0
set_option maxRecDepth 100000 in
set_option maxHeartbeats 4000000 in
theorem sp_X10_book_3 {D : G} {mo : Nat} {ma : Nat → Nat} {c : CS} {c2 : CS} {tk : Int32} {vc : Nat} {ln : Nat} {rn : Nat} {zs_10 : Int32} {zs_11 : Int32} {zs_20 : Int32} {zs_21 : Int32} {zs_22 : Int32} {zs_25 : Int32} {zs_26 : Int32} {zs_27 : Int32} {zs_29 : Int32} {h : Nat} (hC : cOk c) (hh : h < 1000000) (hp : c.pg = 12) : Sp D mX10_book 30 0 0 [.ref mo, .int (nI h)] [(mo, .inr (10, M1R ma (mZ c c2 tk vc ln rn zs_10 zs_11 zs_20 zs_21 zs_22 zs_25 zs_26 zs_27 zs_29))), ((ma 4), eI D 6 (nF c.kk)), ((ma 5), eI D 6 (nF c.vv)), ((ma 6), eI D 6 c.hd), ((ma 30), eI D 8 (nF c.crf)), ((ma 35), eI D 12 (nF c.bo))] (fun r w => ∃ zs2_10 : Int32, ∃ zs2_11 : Int32, ∃ zs2_20 : Int32, ∃ zs2_21 : Int32, ∃ zs2_22 : Int32, ∃ zs2_25 : Int32, ∃ zs2_26 : Int32, ∃ zs2_27 : Int32, ∃ zs2_29 : Int32, r = some (.int (-4)) ∧ w = [(mo, .inr (10, M1R ma (mZ c c2 tk vc ln rn zs2_10 zs2_11 zs2_20 zs2_21 zs2_22 zs2_25 zs2_26 zs2_27 zs2_29))), ((ma 4), eI D 6 (nF c.kk)), ((ma 5), eI D 6 (nF c.vv)), ((ma 6), eI D 6 c.hd), ((ma 30), eI D 8 (nF c.crf)), ((ma 35), eI D 12 (nF c.bo))]) := by
  refine Sp.of (by decide) (Nat.le_of_ble_eq_true rfl) (fun X O T => ?_)
  refine v_eq (lv' := [(0, .ref mo), (1, .int (nI h))]) rfl rfl rfl rfl ?_
  have z_m := hC.1
  have z_hp := hC.2.2.2.1
  have z_wk := hC.2.2.2.2.1
  have z_rl := hC.2.2.2.2.2.1
  have z_pg := hC.2.2.2.2.2.2.2.1
  refine v_iload_n O dX10_book_0 1 rfl ?_
  refine v_iconst (v := -1) O dX10_book_1 (by decide) ?_
  refine v_icmp_ne O 12 dX10_book_2 (by decide) (fun z0 => ?_) (fun z0 => ?_)
  · skip
    refine v_aload_n O dX10_book_12 0 rfl ?_
    refine v_iload_n O dX10_book_13 1 rfl ?_
    refine v_cV (T := TX10) (ci := 10) (As := [.int (nI h)]) (wr := [((ma 4), eI D 6 (nF c.kk)), ((ma 5), eI D 6 (nF c.vv)), ((ma 6), eI D 6 c.hd), ((ma 30), eI D 8 (nF c.crf)), ((ma 35), eI D 12 (nF c.bo))]) (st := []) O cf_X10_184 rfl (sp_X10_isHeap (mo := mo) (ma := ma) (c := c) (c2 := c2) (tk := tk) (vc := vc) (ln := ln) (rn := rn) (zs_10 := zs_10) (zs_11 := zs_11) (zs_20 := zs_20) (zs_21 := zs_21) (zs_22 := zs_22) (zs_25 := zs_25) (zs_26 := zs_26) (zs_27 := zs_27) (zs_29 := zs_29) (h := (nI h)) ) dX10_book_14 rfl rfl 0 rfl [0] [1, 2, 3, 4, 5] (by decide) rfl rfl (by decide) (by decide) (by decide) (Nat.le_of_ble_eq_true rfl) (by decide) (by decide) (fun r_2 w_3 h_1 => ?_)
    obtain ⟨rfl, rfl⟩ := h_1
    refine v_eq (st' := [.int (b2i (isIx (nI h) 1000000))]) (ws' := [((ma 4), eI D 6 (nF c.kk)), ((ma 5), eI D 6 (nF c.vv)), ((ma 6), eI D 6 c.hd), ((ma 30), eI D 8 (nF c.crf)), ((ma 35), eI D 12 (nF c.bo)), (mo, .inr (10, M1R ma (mZ c c2 tk vc ln rn zs_10 zs_11 zs_20 zs_21 zs_22 zs_25 zs_26 zs_27 zs_29)))]) rfl rfl rfl rfl ?_
    refine v_if_ne O 23 dX10_book_17 (by decide) (fun z1 => ?_) (fun z1 => ?_)
    · skip
      have z1 := b2i_1.mp z1
      refine v_aload_n O dX10_book_23 0 rfl ?_
      refine gf_X10_114 (v := .int (nI c.pg)) O rfl dX10_book_24 5 rfl rfl ?_
      refine v_bipush (v := 12) O dX10_book_27 (by decide) ?_
      refine v_icmp_ne O 35 dX10_book_29 (by decide) (fun z2 => ?_) (fun z2 => ?_)
      · skip
        have z2 := (not_congr (c_eq (x := nI c.pg) (y := 12) (a := c.pg) (b := 12) rfl rfl (by omega) (by omega))).mp z2
        exact absurd z2 (by omega)
      · skip
        have z2 := (c_eq (x := nI c.pg) (y := 12) (a := c.pg) (b := 12) rfl rfl (by omega) (by omega)).mp z2
        refine v_bipush (v := -4) O dX10_book_32 (by decide) ?_
        refine v_sub (ws' := [(mo, .inr (10, M1R ma (mZ c c2 tk vc ln rn zs_10 zs_11 zs_20 zs_21 zs_22 zs_25 zs_26 zs_27 zs_29))), ((ma 4), eI D 6 (nF c.kk)), ((ma 5), eI D 6 (nF c.vv)), ((ma 6), eI D 6 c.hd), ((ma 30), eI D 8 (nF c.crf)), ((ma 35), eI D 12 (nF c.bo))]) [5, 0, 1, 2, 3, 4] (by decide) rfl ?_
        exact v_ireturn O T rfl rfl (by decide) (by decide) dX10_book_34 (⟨zs_10, zs_11, zs_20, zs_21, zs_22, zs_25, zs_26, zs_27, zs_29, rfl, rfl⟩)
    · skip
      have z1 := b2i_0.mp z1
      exact absurd ((isIx_nI (by omega) (by omega)).mpr hh) z1
  · skip
    exact absurd z0 (zI_m1 (by omega))
set_option maxRecDepth 100000 in
set_option maxHeartbeats 4000000 in
theorem sp_X10_book_4 {D : G} {mo : Nat} {ma : Nat → Nat} {c : CS} {c2 : CS} {tk : Int32} {vc : Nat} {ln : Nat} {rn : Nat} {zs_10 : Int32} {zs_11 : Int32} {zs_20 : Int32} {zs_21 : Int32} {zs_22 : Int32} {zs_25 : Int32} {zs_26 : Int32} {zs_27 : Int32} {zs_29 : Int32} {h : Nat} (hC : cOk c) (hh : h < 1000000) (hp : c.pg < 12) : Sp D mX10_book 30 0 0 [.ref mo, .int (nI h)] [(mo, .inr (10, M1R ma (mZ c c2 tk vc ln rn zs_10 zs_11 zs_20 zs_21 zs_22 zs_25 zs_26 zs_27 zs_29))), ((ma 4), eI D 6 (nF c.kk)), ((ma 5), eI D 6 (nF c.vv)), ((ma 6), eI D 6 c.hd), ((ma 30), eI D 8 (nF c.crf)), ((ma 35), eI D 12 (nF c.bo))] (fun r w => ∃ zs2_10 : Int32, ∃ zs2_11 : Int32, ∃ zs2_20 : Int32, ∃ zs2_21 : Int32, ∃ zs2_22 : Int32, ∃ zs2_25 : Int32, ∃ zs2_26 : Int32, ∃ zs2_27 : Int32, ∃ zs2_29 : Int32, r = some (.int (nI (c.pg + 1))) ∧ w = [(mo, .inr (10, M1R ma (mZ (cBook c h) c2 tk vc ln rn zs2_10 zs2_11 zs2_20 zs2_21 zs2_22 zs2_25 zs2_26 zs2_27 zs2_29))), ((ma 4), eI D 6 (nF (cBook c h).kk)), ((ma 5), eI D 6 (nF (cBook c h).vv)), ((ma 6), eI D 6 ((cBook c h).hd)), ((ma 30), eI D 8 (nF (cBook c h).crf)), ((ma 35), eI D 12 (nF (cBook c h).bo))]) := by
  refine Sp.of (by decide) (Nat.le_of_ble_eq_true rfl) (fun X O T => ?_)
  refine v_eq (lv' := [(0, .ref mo), (1, .int (nI h))]) rfl rfl rfl rfl ?_
  have z_m := hC.1
  have z_hp := hC.2.2.2.1
  have z_wk := hC.2.2.2.2.1
  have z_rl := hC.2.2.2.2.2.1
  have z_pg := hC.2.2.2.2.2.2.2.1
  refine v_iload_n O dX10_book_0 1 rfl ?_
  refine v_iconst (v := -1) O dX10_book_1 (by decide) ?_
  refine v_icmp_ne O 12 dX10_book_2 (by decide) (fun z0 => ?_) (fun z0 => ?_)
  · skip
    refine v_aload_n O dX10_book_12 0 rfl ?_
    refine v_iload_n O dX10_book_13 1 rfl ?_
    refine v_cV (T := TX10) (ci := 10) (As := [.int (nI h)]) (wr := [((ma 4), eI D 6 (nF c.kk)), ((ma 5), eI D 6 (nF c.vv)), ((ma 6), eI D 6 c.hd), ((ma 30), eI D 8 (nF c.crf)), ((ma 35), eI D 12 (nF c.bo))]) (st := []) O cf_X10_184 rfl (sp_X10_isHeap (mo := mo) (ma := ma) (c := c) (c2 := c2) (tk := tk) (vc := vc) (ln := ln) (rn := rn) (zs_10 := zs_10) (zs_11 := zs_11) (zs_20 := zs_20) (zs_21 := zs_21) (zs_22 := zs_22) (zs_25 := zs_25) (zs_26 := zs_26) (zs_27 := zs_27) (zs_29 := zs_29) (h := (nI h)) ) dX10_book_14 rfl rfl 0 rfl [0] [1, 2, 3, 4, 5] (by decide) rfl rfl (by decide) (by decide) (by decide) (Nat.le_of_ble_eq_true rfl) (by decide) (by decide) (fun r_2 w_3 h_1 => ?_)
    obtain ⟨rfl, rfl⟩ := h_1
    refine v_eq (st' := [.int (b2i (isIx (nI h) 1000000))]) (ws' := [((ma 4), eI D 6 (nF c.kk)), ((ma 5), eI D 6 (nF c.vv)), ((ma 6), eI D 6 c.hd), ((ma 30), eI D 8 (nF c.crf)), ((ma 35), eI D 12 (nF c.bo)), (mo, .inr (10, M1R ma (mZ c c2 tk vc ln rn zs_10 zs_11 zs_20 zs_21 zs_22 zs_25 zs_26 zs_27 zs_29)))]) rfl rfl rfl rfl ?_
    refine v_if_ne O 23 dX10_book_17 (by decide) (fun z1 => ?_) (fun z1 => ?_)
    · skip
      have z1 := b2i_1.mp z1
      refine v_aload_n O dX10_book_23 0 rfl ?_
      refine gf_X10_114 (v := .int (nI c.pg)) O rfl dX10_book_24 5 rfl rfl ?_
      refine v_bipush (v := 12) O dX10_book_27 (by decide) ?_
      refine v_icmp_ne O 35 dX10_book_29 (by decide) (fun z2 => ?_) (fun z2 => ?_)
      · skip
        have z2 := (not_congr (c_eq (x := nI c.pg) (y := 12) (a := c.pg) (b := 12) rfl rfl (by omega) (by omega))).mp z2
        refine v_aload_n O dX10_book_35 0 rfl ?_
        refine gf_X10_117 (v := .ref (ma 35)) O rfl dX10_book_36 5 rfl rfl ?_
        refine v_aload_n O dX10_book_39 0 rfl ?_
        refine gf_X10_114 (v := .int (nI c.pg)) O rfl dX10_book_40 5 rfl rfl ?_
        refine v_iload_n O dX10_book_43 1 rfl ?_
        refine v_iastk (ws' := [((ma 4), eI D 6 (nF c.kk)), ((ma 5), eI D 6 (nF c.vv)), ((ma 6), eI D 6 c.hd), ((ma 30), eI D 8 (nF c.crf)), ((ma 35), eI D 12 (nF (uN c.bo c.pg h))), (mo, .inr (10, M1R ma (mZ c c2 tk vc ln rn zs_10 zs_11 zs_20 zs_21 zs_22 zs_25 zs_26 zs_27 zs_29)))]) O dX10_book_44 4 rfl c.pg (rfl) (by omega) (by decide) (by rw [upd_nF]; rfl) ?_
        refine v_aload_n O dX10_book_45 0 rfl ?_
        refine v_dup O dX10_book_46 rfl ?_
        refine gf_X10_114 (v := .int (nI c.pg)) O rfl dX10_book_47 5 rfl rfl ?_
        refine v_iconst (v := 1) O dX10_book_50 (by decide) ?_
        refine v_iadd O dX10_book_51 ?_
        refine v_top (y := nI (c.pg + 1)) (nI_add c.pg 1) ?_
        refine pf_X10_114 (fs' := M1R ma (upd (mZ c c2 tk vc ln rn zs_10 zs_11 zs_20 zs_21 zs_22 zs_25 zs_26 zs_27 zs_29) 34 (nI (c.pg + 1)))) (ws' := [((ma 4), eI D 6 (nF c.kk)), ((ma 5), eI D 6 (nF c.vv)), ((ma 6), eI D 6 c.hd), ((ma 30), eI D 8 (nF c.crf)), ((ma 35), eI D 12 (nF (uN c.bo c.pg h))), (mo, .inr (10, M1R ma (upd (mZ c c2 tk vc ln rn zs_10 zs_11 zs_20 zs_21 zs_22 zs_25 zs_26 zs_27 zs_29) 34 (nI (c.pg + 1)))))]) O rfl dX10_book_52 5 rfl (Nat.le_of_ble_eq_true rfl) rfl rfl ?_
        refine v_aload_n O dX10_book_55 0 rfl ?_
        refine gf_X10_114 (v := .int (nI (c.pg + 1))) O rfl dX10_book_56 5 rfl rfl ?_
        refine v_sub (ws' := [(mo, .inr (10, M1R ma (upd (mZ c c2 tk vc ln rn zs_10 zs_11 zs_20 zs_21 zs_22 zs_25 zs_26 zs_27 zs_29) 34 (nI (c.pg + 1))))), ((ma 4), eI D 6 (nF c.kk)), ((ma 5), eI D 6 (nF c.vv)), ((ma 6), eI D 6 c.hd), ((ma 30), eI D 8 (nF c.crf)), ((ma 35), eI D 12 (nF (uN c.bo c.pg h)))]) [5, 0, 1, 2, 3, 4] (by decide) rfl ?_
        exact v_ireturn O T rfl rfl (by decide) (by decide) dX10_book_59 (⟨zs_10, zs_11, zs_20, zs_21, zs_22, zs_25, zs_26, zs_27, zs_29, rfl, rfl⟩)
      · skip
        have z2 := (c_eq (x := nI c.pg) (y := 12) (a := c.pg) (b := 12) rfl rfl (by omega) (by omega)).mp z2
        exact absurd z2 (by omega)
    · skip
      have z1 := b2i_0.mp z1
      exact absurd ((isIx_nI (by omega) (by omega)).mpr hh) z1
  · skip
    exact absurd z0 (zI_m1 (by omega))
set_option maxRecDepth 100000 in
set_option maxHeartbeats 4000000 in
theorem sp_X10_image_1 {D : G} {mo : Nat} {ma : Nat → Nat} {c : CS} {c2 : CS} {tk : Int32} {vc : Nat} {ln : Nat} {rn : Nat} {zs_10 : Int32} {zs_11 : Int32} {zs_20 : Int32} {zs_21 : Int32} {zs_22 : Int32} {zs_25 : Int32} {zs_26 : Int32} {zs_27 : Int32} {zs_29 : Int32} (hC : cOk c) : Sp D mX10_image 30 0 0 [.ref mo] [(mo, .inr (10, M1R ma (mZ c c2 tk vc ln rn zs_10 zs_11 zs_20 zs_21 zs_22 zs_25 zs_26 zs_27 zs_29))), ((ma 4), eI D 6 (nF c.kk)), ((ma 5), eI D 6 (nF c.vv)), ((ma 6), eI D 6 c.hd), ((ma 30), eI D 8 (nF c.crf)), ((ma 35), eI D 12 (nF c.bo)), ((ma 44), eI D 6 (nF c2.kk)), ((ma 45), eI D 6 (nF c2.vv)), ((ma 46), eI D 6 c2.hd), ((ma 47), eI D 8 (nF c2.crf)), ((ma 48), eI D 12 (nF c2.bo))] (fun r w => ∃ zs2_10 : Int32, ∃ zs2_11 : Int32, ∃ zs2_20 : Int32, ∃ zs2_21 : Int32, ∃ zs2_22 : Int32, ∃ zs2_25 : Int32, ∃ zs2_26 : Int32, ∃ zs2_27 : Int32, ∃ zs2_29 : Int32, r = some (.int (nI c.men)) ∧ w = [(mo, .inr (10, M1R ma (mZ c c 1 vc ln rn zs2_10 zs2_11 zs2_20 zs2_21 zs2_22 zs2_25 zs2_26 zs2_27 zs2_29))), ((ma 4), eI D 6 (nF c.kk)), ((ma 5), eI D 6 (nF c.vv)), ((ma 6), eI D 6 c.hd), ((ma 30), eI D 8 (nF c.crf)), ((ma 35), eI D 12 (nF c.bo)), ((ma 44), eI D 6 (nF c.kk)), ((ma 45), eI D 6 (nF c.vv)), ((ma 46), eI D 6 c.hd), ((ma 47), eI D 8 (nF c.crf)), ((ma 48), eI D 12 (nF c.bo))]) := by
  refine Sp.of (by decide) (Nat.le_of_ble_eq_true rfl) (fun X O T => ?_)
  refine v_eq (lv' := [(0, .ref mo)]) rfl rfl rfl rfl ?_
  have z_m := hC.1
  have z_hp := hC.2.2.2.1
  have z_wk := hC.2.2.2.2.1
  have z_rl := hC.2.2.2.2.2.1
  have z_pg := hC.2.2.2.2.2.2.2.1
  refine v_aload_n O dX10_image_0 0 rfl ?_
  refine v_iconst (v := 1) O dX10_image_1 (by decide) ?_
  refine pf_X10_120 (fs' := M1R ma (mZ c c2 1 vc ln rn zs_10 zs_11 zs_20 zs_21 zs_22 zs_25 zs_26 zs_27 zs_29)) (ws' := [(mo, .inr (10, M1R ma (mZ c c2 1 vc ln rn zs_10 zs_11 zs_20 zs_21 zs_22 zs_25 zs_26 zs_27 zs_29))), ((ma 4), eI D 6 (nF c.kk)), ((ma 5), eI D 6 (nF c.vv)), ((ma 6), eI D 6 c.hd), ((ma 30), eI D 8 (nF c.crf)), ((ma 35), eI D 12 (nF c.bo)), ((ma 44), eI D 6 (nF c2.kk)), ((ma 45), eI D 6 (nF c2.vv)), ((ma 46), eI D 6 c2.hd), ((ma 47), eI D 8 (nF c2.crf)), ((ma 48), eI D 12 (nF c2.bo))]) O rfl dX10_image_2 0 rfl rfl rfl (Nat.le_of_ble_eq_true rfl) rfl rfl ?_
  refine v_aload_n O dX10_image_5 0 rfl ?_
  refine v_aload_n O dX10_image_6 0 rfl ?_
  refine gf_X10_35 (v := .int c.held) O rfl dX10_image_7 0 rfl rfl ?_
  refine pf_X10_124 (fs' := M1R ma (upd (mZ c c2 1 vc ln rn zs_10 zs_11 zs_20 zs_21 zs_22 zs_25 zs_26 zs_27 zs_29) 37 c.held)) (ws' := [(mo, .inr (10, M1R ma (upd (mZ c c2 1 vc ln rn zs_10 zs_11 zs_20 zs_21 zs_22 zs_25 zs_26 zs_27 zs_29) 37 c.held))), ((ma 4), eI D 6 (nF c.kk)), ((ma 5), eI D 6 (nF c.vv)), ((ma 6), eI D 6 c.hd), ((ma 30), eI D 8 (nF c.crf)), ((ma 35), eI D 12 (nF c.bo)), ((ma 44), eI D 6 (nF c2.kk)), ((ma 45), eI D 6 (nF c2.vv)), ((ma 46), eI D 6 c2.hd), ((ma 47), eI D 8 (nF c2.crf)), ((ma 48), eI D 12 (nF c2.bo))]) O rfl dX10_image_10 0 rfl (Nat.le_of_ble_eq_true rfl) rfl rfl ?_
  refine v_aload_n O dX10_image_13 0 rfl ?_
  refine v_aload_n O dX10_image_14 0 rfl ?_
  refine gf_X10_7 (v := .int (nI c.men)) O rfl dX10_image_15 0 rfl rfl ?_
  refine pf_X10_127 (fs' := M1R ma (upd (upd (mZ c c2 1 vc ln rn zs_10 zs_11 zs_20 zs_21 zs_22 zs_25 zs_26 zs_27 zs_29) 37 c.held) 38 (nI c.men))) (ws' := [(mo, .inr (10, M1R ma (upd (upd (mZ c c2 1 vc ln rn zs_10 zs_11 zs_20 zs_21 zs_22 zs_25 zs_26 zs_27 zs_29) 37 c.held) 38 (nI c.men)))), ((ma 4), eI D 6 (nF c.kk)), ((ma 5), eI D 6 (nF c.vv)), ((ma 6), eI D 6 c.hd), ((ma 30), eI D 8 (nF c.crf)), ((ma 35), eI D 12 (nF c.bo)), ((ma 44), eI D 6 (nF c2.kk)), ((ma 45), eI D 6 (nF c2.vv)), ((ma 46), eI D 6 c2.hd), ((ma 47), eI D 8 (nF c2.crf)), ((ma 48), eI D 12 (nF c2.bo))]) O rfl dX10_image_18 0 rfl (Nat.le_of_ble_eq_true rfl) rfl rfl ?_
  refine v_aload_n O dX10_image_21 0 rfl ?_
  refine v_aload_n O dX10_image_22 0 rfl ?_
  refine gf_X10_13 (v := .int (nI c.heap)) O rfl dX10_image_23 0 rfl rfl ?_
  refine pf_X10_130 (fs' := M1R ma (upd (upd (upd (mZ c c2 1 vc ln rn zs_10 zs_11 zs_20 zs_21 zs_22 zs_25 zs_26 zs_27 zs_29) 37 c.held) 38 (nI c.men)) 39 (nI c.heap))) (ws' := [(mo, .inr (10, M1R ma (upd (upd (upd (mZ c c2 1 vc ln rn zs_10 zs_11 zs_20 zs_21 zs_22 zs_25 zs_26 zs_27 zs_29) 37 c.held) 38 (nI c.men)) 39 (nI c.heap)))), ((ma 4), eI D 6 (nF c.kk)), ((ma 5), eI D 6 (nF c.vv)), ((ma 6), eI D 6 c.hd), ((ma 30), eI D 8 (nF c.crf)), ((ma 35), eI D 12 (nF c.bo)), ((ma 44), eI D 6 (nF c2.kk)), ((ma 45), eI D 6 (nF c2.vv)), ((ma 46), eI D 6 c2.hd), ((ma 47), eI D 8 (nF c2.crf)), ((ma 48), eI D 12 (nF c2.bo))]) O rfl dX10_image_26 0 rfl (Nat.le_of_ble_eq_true rfl) rfl rfl ?_
  refine v_aload_n O dX10_image_29 0 rfl ?_
  refine v_aload_n O dX10_image_30 0 rfl ?_
  refine gf_X10_16 (v := .int c.dogs) O rfl dX10_image_31 0 rfl rfl ?_
  refine pf_X10_133 (fs' := M1R ma (upd (upd (upd (upd (mZ c c2 1 vc ln rn zs_10 zs_11 zs_20 zs_21 zs_22 zs_25 zs_26 zs_27 zs_29) 37 c.held) 38 (nI c.men)) 39 (nI c.heap)) 40 c.dogs)) (ws' := [(mo, .inr (10, M1R ma (upd (upd (upd (upd (mZ c c2 1 vc ln rn zs_10 zs_11 zs_20 zs_21 zs_22 zs_25 zs_26 zs_27 zs_29) 37 c.held) 38 (nI c.men)) 39 (nI c.heap)) 40 c.dogs))), ((ma 4), eI D 6 (nF c.kk)), ((ma 5), eI D 6 (nF c.vv)), ((ma 6), eI D 6 c.hd), ((ma 30), eI D 8 (nF c.crf)), ((ma 35), eI D 12 (nF c.bo)), ((ma 44), eI D 6 (nF c2.kk)), ((ma 45), eI D 6 (nF c2.vv)), ((ma 46), eI D 6 c2.hd), ((ma 47), eI D 8 (nF c2.crf)), ((ma 48), eI D 12 (nF c2.bo))]) O rfl dX10_image_34 0 rfl (Nat.le_of_ble_eq_true rfl) rfl rfl ?_
  refine v_aload_n O dX10_image_37 0 rfl ?_
  refine v_aload_n O dX10_image_38 0 rfl ?_
  refine gf_X10_19 (v := .int (nI c.wak)) O rfl dX10_image_39 0 rfl rfl ?_
  refine pf_X10_136 (fs' := M1R ma (upd (upd (upd (upd (upd (mZ c c2 1 vc ln rn zs_10 zs_11 zs_20 zs_21 zs_22 zs_25 zs_26 zs_27 zs_29) 37 c.held) 38 (nI c.men)) 39 (nI c.heap)) 40 c.dogs) 41 (nI c.wak))) (ws' := [(mo, .inr (10, M1R ma (upd (upd (upd (upd (upd (mZ c c2 1 vc ln rn zs_10 zs_11 zs_20 zs_21 zs_22 zs_25 zs_26 zs_27 zs_29) 37 c.held) 38 (nI c.men)) 39 (nI c.heap)) 40 c.dogs) 41 (nI c.wak)))), ((ma 4), eI D 6 (nF c.kk)), ((ma 5), eI D 6 (nF c.vv)), ((ma 6), eI D 6 c.hd), ((ma 30), eI D 8 (nF c.crf)), ((ma 35), eI D 12 (nF c.bo)), ((ma 44), eI D 6 (nF c2.kk)), ((ma 45), eI D 6 (nF c2.vv)), ((ma 46), eI D 6 c2.hd), ((ma 47), eI D 8 (nF c2.crf)), ((ma 48), eI D 12 (nF c2.bo))]) O rfl dX10_image_42 0 rfl (Nat.le_of_ble_eq_true rfl) rfl rfl ?_
  refine v_aload_n O dX10_image_45 0 rfl ?_
  refine v_aload_n O dX10_image_46 0 rfl ?_
  refine gf_X10_96 (v := .int (nI c.rl)) O rfl dX10_image_47 0 rfl rfl ?_
  refine pf_X10_139 (fs' := M1R ma (upd (upd (upd (upd (upd (upd (mZ c c2 1 vc ln rn zs_10 zs_11 zs_20 zs_21 zs_22 zs_25 zs_26 zs_27 zs_29) 37 c.held) 38 (nI c.men)) 39 (nI c.heap)) 40 c.dogs) 41 (nI c.wak)) 42 (nI c.rl))) (ws' := [(mo, .inr (10, M1R ma (upd (upd (upd (upd (upd (upd (mZ c c2 1 vc ln rn zs_10 zs_11 zs_20 zs_21 zs_22 zs_25 zs_26 zs_27 zs_29) 37 c.held) 38 (nI c.men)) 39 (nI c.heap)) 40 c.dogs) 41 (nI c.wak)) 42 (nI c.rl)))), ((ma 4), eI D 6 (nF c.kk)), ((ma 5), eI D 6 (nF c.vv)), ((ma 6), eI D 6 c.hd), ((ma 30), eI D 8 (nF c.crf)), ((ma 35), eI D 12 (nF c.bo)), ((ma 44), eI D 6 (nF c2.kk)), ((ma 45), eI D 6 (nF c2.vv)), ((ma 46), eI D 6 c2.hd), ((ma 47), eI D 8 (nF c2.crf)), ((ma 48), eI D 12 (nF c2.bo))]) O rfl dX10_image_50 0 rfl (Nat.le_of_ble_eq_true rfl) rfl rfl ?_
  refine v_aload_n O dX10_image_53 0 rfl ?_
  refine v_aload_n O dX10_image_54 0 rfl ?_
  refine gf_X10_114 (v := .int (nI c.pg)) O rfl dX10_image_55 0 rfl rfl ?_
  refine pf_X10_142 (fs' := M1R ma (upd (upd (upd (upd (upd (upd (upd (mZ c c2 1 vc ln rn zs_10 zs_11 zs_20 zs_21 zs_22 zs_25 zs_26 zs_27 zs_29) 37 c.held) 38 (nI c.men)) 39 (nI c.heap)) 40 c.dogs) 41 (nI c.wak)) 42 (nI c.rl)) 43 (nI c.pg))) (ws' := [(mo, .inr (10, M1R ma (upd (upd (upd (upd (upd (upd (upd (mZ c c2 1 vc ln rn zs_10 zs_11 zs_20 zs_21 zs_22 zs_25 zs_26 zs_27 zs_29) 37 c.held) 38 (nI c.men)) 39 (nI c.heap)) 40 c.dogs) 41 (nI c.wak)) 42 (nI c.rl)) 43 (nI c.pg)))), ((ma 4), eI D 6 (nF c.kk)), ((ma 5), eI D 6 (nF c.vv)), ((ma 6), eI D 6 c.hd), ((ma 30), eI D 8 (nF c.crf)), ((ma 35), eI D 12 (nF c.bo)), ((ma 44), eI D 6 (nF c2.kk)), ((ma 45), eI D 6 (nF c2.vv)), ((ma 46), eI D 6 c2.hd), ((ma 47), eI D 8 (nF c2.crf)), ((ma 48), eI D 12 (nF c2.bo))]) O rfl dX10_image_58 0 rfl (Nat.le_of_ble_eq_true rfl) rfl rfl ?_
  refine v_iconst (v := 0) O dX10_image_61 (by decide) ?_
  refine v_istore_n (lv' := [(0, .ref mo), (1, .int 0)]) O dX10_image_62 (by decide) rfl ?_
  refine v_iload_n O dX10_image_63 1 rfl ?_
  refine v_bipush (v := 6) O dX10_image_64 (by decide) ?_
  refine v_icmp_ge O 111 dX10_image_66 (by decide) (fun c => absurd c (by decide)) (fun _ => ?_)
  refine v_aload_n O dX10_image_69 0 rfl ?_
  refine gf_X10_145 (v := .ref (ma 44)) O rfl dX10_image_70 0 rfl rfl ?_
  refine v_iload_n O dX10_image_73 1 rfl ?_
  refine v_aload_n O dX10_image_74 0 rfl ?_
  refine gf_X10_22 (v := .ref (ma 4)) O rfl dX10_image_75 0 rfl rfl ?_
  refine v_iload_n O dX10_image_78 1 rfl ?_
  refine v_ialdk O dX10_image_79 1 rfl 0 rfl (by omega) (by decide) ?_
  refine v_top (y := nI (c.kk 0)) rfl ?_
  refine v_iastk (ws' := [(mo, .inr (10, M1R ma (upd (upd (upd (upd (upd (upd (upd (mZ c c2 1 vc ln rn zs_10 zs_11 zs_20 zs_21 zs_22 zs_25 zs_26 zs_27 zs_29) 37 c.held) 38 (nI c.men)) 39 (nI c.heap)) 40 c.dogs) 41 (nI c.wak)) 42 (nI c.rl)) 43 (nI c.pg)))), ((ma 4), eI D 6 (nF c.kk)), ((ma 5), eI D 6 (nF c.vv)), ((ma 6), eI D 6 c.hd), ((ma 30), eI D 8 (nF c.crf)), ((ma 35), eI D 12 (nF c.bo)), ((ma 44), eI D 6 (nF (uN c2.kk 0 (c.kk 0)))), ((ma 45), eI D 6 (nF c2.vv)), ((ma 46), eI D 6 c2.hd), ((ma 47), eI D 8 (nF c2.crf)), ((ma 48), eI D 12 (nF c2.bo))]) O dX10_image_80 6 rfl 0 (rfl) (by omega) (by decide) (by rw [upd_nF]; rfl) ?_
  refine v_aload_n O dX10_image_81 0 rfl ?_
  refine gf_X10_148 (v := .ref (ma 45)) O rfl dX10_image_82 0 rfl rfl ?_
  refine v_iload_n O dX10_image_85 1 rfl ?_
  refine v_aload_n O dX10_image_86 0 rfl ?_
  refine gf_X10_26 (v := .ref (ma 5)) O rfl dX10_image_87 0 rfl rfl ?_
  refine v_iload_n O dX10_image_90 1 rfl ?_
  refine v_ialdk O dX10_image_91 2 rfl 0 rfl (by omega) (by decide) ?_
  refine v_top (y := nI (c.vv 0)) rfl ?_
  refine v_iastk (ws' := [(mo, .inr (10, M1R ma (upd (upd (upd (upd (upd (upd (upd (mZ c c2 1 vc ln rn zs_10 zs_11 zs_20 zs_21 zs_22 zs_25 zs_26 zs_27 zs_29) 37 c.held) 38 (nI c.men)) 39 (nI c.heap)) 40 c.dogs) 41 (nI c.wak)) 42 (nI c.rl)) 43 (nI c.pg)))), ((ma 4), eI D 6 (nF c.kk)), ((ma 5), eI D 6 (nF c.vv)), ((ma 6), eI D 6 c.hd), ((ma 30), eI D 8 (nF c.crf)), ((ma 35), eI D 12 (nF c.bo)), ((ma 44), eI D 6 (nF (uN c2.kk 0 (c.kk 0)))), ((ma 45), eI D 6 (nF (uN c2.vv 0 (c.vv 0)))), ((ma 46), eI D 6 c2.hd), ((ma 47), eI D 8 (nF c2.crf)), ((ma 48), eI D 12 (nF c2.bo))]) O dX10_image_92 7 rfl 0 (rfl) (by omega) (by decide) (by rw [upd_nF]; rfl) ?_
  refine v_aload_n O dX10_image_93 0 rfl ?_
  refine gf_X10_151 (v := .ref (ma 46)) O rfl dX10_image_94 0 rfl rfl ?_
  refine v_iload_n O dX10_image_97 1 rfl ?_
  refine v_aload_n O dX10_image_98 0 rfl ?_
  refine gf_X10_29 (v := .ref (ma 6)) O rfl dX10_image_99 0 rfl rfl ?_
  refine v_iload_n O dX10_image_102 1 rfl ?_
  refine v_ialdk O dX10_image_103 3 rfl 0 rfl (by omega) (by decide) ?_
  refine v_iastk (ws' := [(mo, .inr (10, M1R ma (upd (upd (upd (upd (upd (upd (upd (mZ c c2 1 vc ln rn zs_10 zs_11 zs_20 zs_21 zs_22 zs_25 zs_26 zs_27 zs_29) 37 c.held) 38 (nI c.men)) 39 (nI c.heap)) 40 c.dogs) 41 (nI c.wak)) 42 (nI c.rl)) 43 (nI c.pg)))), ((ma 4), eI D 6 (nF c.kk)), ((ma 5), eI D 6 (nF c.vv)), ((ma 6), eI D 6 c.hd), ((ma 30), eI D 8 (nF c.crf)), ((ma 35), eI D 12 (nF c.bo)), ((ma 44), eI D 6 (nF (uN c2.kk 0 (c.kk 0)))), ((ma 45), eI D 6 (nF (uN c2.vv 0 (c.vv 0)))), ((ma 46), eI D 6 (upd c2.hd 0 (c.hd 0))), ((ma 47), eI D 8 (nF c2.crf)), ((ma 48), eI D 12 (nF c2.bo))]) O dX10_image_104 8 rfl 0 (rfl) (by omega) (by decide) (rfl) ?_
  refine v_iinc (v := 1) (lv' := [(0, .ref mo), (1, .int 1)]) O dX10_image_105 1 rfl (by decide) (by decide) rfl ?_
  refine v_goto O 63 dX10_image_108 (by decide) ?_
  refine v_iload_n O dX10_image_63 1 rfl ?_
  refine v_bipush (v := 6) O dX10_image_64 (by decide) ?_
  refine v_icmp_ge O 111 dX10_image_66 (by decide) (fun c => absurd c (by decide)) (fun _ => ?_)
  refine v_aload_n O dX10_image_69 0 rfl ?_
  refine gf_X10_145 (v := .ref (ma 44)) O rfl dX10_image_70 0 rfl rfl ?_
  refine v_iload_n O dX10_image_73 1 rfl ?_
  refine v_aload_n O dX10_image_74 0 rfl ?_
  refine gf_X10_22 (v := .ref (ma 4)) O rfl dX10_image_75 0 rfl rfl ?_
  refine v_iload_n O dX10_image_78 1 rfl ?_
  refine v_ialdk O dX10_image_79 1 rfl 1 rfl (by omega) (by decide) ?_
  refine v_top (y := nI (c.kk 1)) rfl ?_
  refine v_iastk (ws' := [(mo, .inr (10, M1R ma (upd (upd (upd (upd (upd (upd (upd (mZ c c2 1 vc ln rn zs_10 zs_11 zs_20 zs_21 zs_22 zs_25 zs_26 zs_27 zs_29) 37 c.held) 38 (nI c.men)) 39 (nI c.heap)) 40 c.dogs) 41 (nI c.wak)) 42 (nI c.rl)) 43 (nI c.pg)))), ((ma 4), eI D 6 (nF c.kk)), ((ma 5), eI D 6 (nF c.vv)), ((ma 6), eI D 6 c.hd), ((ma 30), eI D 8 (nF c.crf)), ((ma 35), eI D 12 (nF c.bo)), ((ma 44), eI D 6 (nF (uN (uN c2.kk 0 (c.kk 0)) 1 (c.kk 1)))), ((ma 45), eI D 6 (nF (uN c2.vv 0 (c.vv 0)))), ((ma 46), eI D 6 (upd c2.hd 0 (c.hd 0))), ((ma 47), eI D 8 (nF c2.crf)), ((ma 48), eI D 12 (nF c2.bo))]) O dX10_image_80 6 rfl 1 (rfl) (by omega) (by decide) (by rw [upd_nF]; rfl) ?_
  refine v_aload_n O dX10_image_81 0 rfl ?_
  refine gf_X10_148 (v := .ref (ma 45)) O rfl dX10_image_82 0 rfl rfl ?_
  refine v_iload_n O dX10_image_85 1 rfl ?_
  refine v_aload_n O dX10_image_86 0 rfl ?_
  refine gf_X10_26 (v := .ref (ma 5)) O rfl dX10_image_87 0 rfl rfl ?_
  refine v_iload_n O dX10_image_90 1 rfl ?_
  refine v_ialdk O dX10_image_91 2 rfl 1 rfl (by omega) (by decide) ?_
  refine v_top (y := nI (c.vv 1)) rfl ?_
  refine v_iastk (ws' := [(mo, .inr (10, M1R ma (upd (upd (upd (upd (upd (upd (upd (mZ c c2 1 vc ln rn zs_10 zs_11 zs_20 zs_21 zs_22 zs_25 zs_26 zs_27 zs_29) 37 c.held) 38 (nI c.men)) 39 (nI c.heap)) 40 c.dogs) 41 (nI c.wak)) 42 (nI c.rl)) 43 (nI c.pg)))), ((ma 4), eI D 6 (nF c.kk)), ((ma 5), eI D 6 (nF c.vv)), ((ma 6), eI D 6 c.hd), ((ma 30), eI D 8 (nF c.crf)), ((ma 35), eI D 12 (nF c.bo)), ((ma 44), eI D 6 (nF (uN (uN c2.kk 0 (c.kk 0)) 1 (c.kk 1)))), ((ma 45), eI D 6 (nF (uN (uN c2.vv 0 (c.vv 0)) 1 (c.vv 1)))), ((ma 46), eI D 6 (upd c2.hd 0 (c.hd 0))), ((ma 47), eI D 8 (nF c2.crf)), ((ma 48), eI D 12 (nF c2.bo))]) O dX10_image_92 7 rfl 1 (rfl) (by omega) (by decide) (by rw [upd_nF]; rfl) ?_
  refine v_aload_n O dX10_image_93 0 rfl ?_
  refine gf_X10_151 (v := .ref (ma 46)) O rfl dX10_image_94 0 rfl rfl ?_
  refine v_iload_n O dX10_image_97 1 rfl ?_
  refine v_aload_n O dX10_image_98 0 rfl ?_
  refine gf_X10_29 (v := .ref (ma 6)) O rfl dX10_image_99 0 rfl rfl ?_
  refine v_iload_n O dX10_image_102 1 rfl ?_
  refine v_ialdk O dX10_image_103 3 rfl 1 rfl (by omega) (by decide) ?_
  refine v_iastk (ws' := [(mo, .inr (10, M1R ma (upd (upd (upd (upd (upd (upd (upd (mZ c c2 1 vc ln rn zs_10 zs_11 zs_20 zs_21 zs_22 zs_25 zs_26 zs_27 zs_29) 37 c.held) 38 (nI c.men)) 39 (nI c.heap)) 40 c.dogs) 41 (nI c.wak)) 42 (nI c.rl)) 43 (nI c.pg)))), ((ma 4), eI D 6 (nF c.kk)), ((ma 5), eI D 6 (nF c.vv)), ((ma 6), eI D 6 c.hd), ((ma 30), eI D 8 (nF c.crf)), ((ma 35), eI D 12 (nF c.bo)), ((ma 44), eI D 6 (nF (uN (uN c2.kk 0 (c.kk 0)) 1 (c.kk 1)))), ((ma 45), eI D 6 (nF (uN (uN c2.vv 0 (c.vv 0)) 1 (c.vv 1)))), ((ma 46), eI D 6 (upd (upd c2.hd 0 (c.hd 0)) 1 (c.hd 1))), ((ma 47), eI D 8 (nF c2.crf)), ((ma 48), eI D 12 (nF c2.bo))]) O dX10_image_104 8 rfl 1 (rfl) (by omega) (by decide) (rfl) ?_
  refine v_iinc (v := 2) (lv' := [(0, .ref mo), (1, .int 2)]) O dX10_image_105 1 rfl (by decide) (by decide) rfl ?_
  refine v_goto O 63 dX10_image_108 (by decide) ?_
  refine v_iload_n O dX10_image_63 1 rfl ?_
  refine v_bipush (v := 6) O dX10_image_64 (by decide) ?_
  refine v_icmp_ge O 111 dX10_image_66 (by decide) (fun c => absurd c (by decide)) (fun _ => ?_)
  refine v_aload_n O dX10_image_69 0 rfl ?_
  refine gf_X10_145 (v := .ref (ma 44)) O rfl dX10_image_70 0 rfl rfl ?_
  refine v_iload_n O dX10_image_73 1 rfl ?_
  refine v_aload_n O dX10_image_74 0 rfl ?_
  refine gf_X10_22 (v := .ref (ma 4)) O rfl dX10_image_75 0 rfl rfl ?_
  refine v_iload_n O dX10_image_78 1 rfl ?_
  refine v_ialdk O dX10_image_79 1 rfl 2 rfl (by omega) (by decide) ?_
  refine v_top (y := nI (c.kk 2)) rfl ?_
  refine v_iastk (ws' := [(mo, .inr (10, M1R ma (upd (upd (upd (upd (upd (upd (upd (mZ c c2 1 vc ln rn zs_10 zs_11 zs_20 zs_21 zs_22 zs_25 zs_26 zs_27 zs_29) 37 c.held) 38 (nI c.men)) 39 (nI c.heap)) 40 c.dogs) 41 (nI c.wak)) 42 (nI c.rl)) 43 (nI c.pg)))), ((ma 4), eI D 6 (nF c.kk)), ((ma 5), eI D 6 (nF c.vv)), ((ma 6), eI D 6 c.hd), ((ma 30), eI D 8 (nF c.crf)), ((ma 35), eI D 12 (nF c.bo)), ((ma 44), eI D 6 (nF (uN (uN (uN c2.kk 0 (c.kk 0)) 1 (c.kk 1)) 2 (c.kk 2)))), ((ma 45), eI D 6 (nF (uN (uN c2.vv 0 (c.vv 0)) 1 (c.vv 1)))), ((ma 46), eI D 6 (upd (upd c2.hd 0 (c.hd 0)) 1 (c.hd 1))), ((ma 47), eI D 8 (nF c2.crf)), ((ma 48), eI D 12 (nF c2.bo))]) O dX10_image_80 6 rfl 2 (rfl) (by omega) (by decide) (by rw [upd_nF]; rfl) ?_
  refine v_aload_n O dX10_image_81 0 rfl ?_
  refine gf_X10_148 (v := .ref (ma 45)) O rfl dX10_image_82 0 rfl rfl ?_
  refine v_iload_n O dX10_image_85 1 rfl ?_
  refine v_aload_n O dX10_image_86 0 rfl ?_
  refine gf_X10_26 (v := .ref (ma 5)) O rfl dX10_image_87 0 rfl rfl ?_
  refine v_iload_n O dX10_image_90 1 rfl ?_
  refine v_ialdk O dX10_image_91 2 rfl 2 rfl (by omega) (by decide) ?_
  refine v_top (y := nI (c.vv 2)) rfl ?_
  refine v_iastk (ws' := [(mo, .inr (10, M1R ma (upd (upd (upd (upd (upd (upd (upd (mZ c c2 1 vc ln rn zs_10 zs_11 zs_20 zs_21 zs_22 zs_25 zs_26 zs_27 zs_29) 37 c.held) 38 (nI c.men)) 39 (nI c.heap)) 40 c.dogs) 41 (nI c.wak)) 42 (nI c.rl)) 43 (nI c.pg)))), ((ma 4), eI D 6 (nF c.kk)), ((ma 5), eI D 6 (nF c.vv)), ((ma 6), eI D 6 c.hd), ((ma 30), eI D 8 (nF c.crf)), ((ma 35), eI D 12 (nF c.bo)), ((ma 44), eI D 6 (nF (uN (uN (uN c2.kk 0 (c.kk 0)) 1 (c.kk 1)) 2 (c.kk 2)))), ((ma 45), eI D 6 (nF (uN (uN (uN c2.vv 0 (c.vv 0)) 1 (c.vv 1)) 2 (c.vv 2)))), ((ma 46), eI D 6 (upd (upd c2.hd 0 (c.hd 0)) 1 (c.hd 1))), ((ma 47), eI D 8 (nF c2.crf)), ((ma 48), eI D 12 (nF c2.bo))]) O dX10_image_92 7 rfl 2 (rfl) (by omega) (by decide) (by rw [upd_nF]; rfl) ?_
  refine v_aload_n O dX10_image_93 0 rfl ?_
  refine gf_X10_151 (v := .ref (ma 46)) O rfl dX10_image_94 0 rfl rfl ?_
  refine v_iload_n O dX10_image_97 1 rfl ?_
  refine v_aload_n O dX10_image_98 0 rfl ?_
  refine gf_X10_29 (v := .ref (ma 6)) O rfl dX10_image_99 0 rfl rfl ?_
  refine v_iload_n O dX10_image_102 1 rfl ?_
  refine v_ialdk O dX10_image_103 3 rfl 2 rfl (by omega) (by decide) ?_
  refine v_iastk (ws' := [(mo, .inr (10, M1R ma (upd (upd (upd (upd (upd (upd (upd (mZ c c2 1 vc ln rn zs_10 zs_11 zs_20 zs_21 zs_22 zs_25 zs_26 zs_27 zs_29) 37 c.held) 38 (nI c.men)) 39 (nI c.heap)) 40 c.dogs) 41 (nI c.wak)) 42 (nI c.rl)) 43 (nI c.pg)))), ((ma 4), eI D 6 (nF c.kk)), ((ma 5), eI D 6 (nF c.vv)), ((ma 6), eI D 6 c.hd), ((ma 30), eI D 8 (nF c.crf)), ((ma 35), eI D 12 (nF c.bo)), ((ma 44), eI D 6 (nF (uN (uN (uN c2.kk 0 (c.kk 0)) 1 (c.kk 1)) 2 (c.kk 2)))), ((ma 45), eI D 6 (nF (uN (uN (uN c2.vv 0 (c.vv 0)) 1 (c.vv 1)) 2 (c.vv 2)))), ((ma 46), eI D 6 (upd (upd (upd c2.hd 0 (c.hd 0)) 1 (c.hd 1)) 2 (c.hd 2))), ((ma 47), eI D 8 (nF c2.crf)), ((ma 48), eI D 12 (nF c2.bo))]) O dX10_image_104 8 rfl 2 (rfl) (by omega) (by decide) (rfl) ?_
  refine v_iinc (v := 3) (lv' := [(0, .ref mo), (1, .int 3)]) O dX10_image_105 1 rfl (by decide) (by decide) rfl ?_
  refine v_goto O 63 dX10_image_108 (by decide) ?_
  refine v_iload_n O dX10_image_63 1 rfl ?_
  refine v_bipush (v := 6) O dX10_image_64 (by decide) ?_
  refine v_icmp_ge O 111 dX10_image_66 (by decide) (fun c => absurd c (by decide)) (fun _ => ?_)
  refine v_aload_n O dX10_image_69 0 rfl ?_
  refine gf_X10_145 (v := .ref (ma 44)) O rfl dX10_image_70 0 rfl rfl ?_
  refine v_iload_n O dX10_image_73 1 rfl ?_
  refine v_aload_n O dX10_image_74 0 rfl ?_
  refine gf_X10_22 (v := .ref (ma 4)) O rfl dX10_image_75 0 rfl rfl ?_
  refine v_iload_n O dX10_image_78 1 rfl ?_
  refine v_ialdk O dX10_image_79 1 rfl 3 rfl (by omega) (by decide) ?_
  refine v_top (y := nI (c.kk 3)) rfl ?_
  refine v_iastk (ws' := [(mo, .inr (10, M1R ma (upd (upd (upd (upd (upd (upd (upd (mZ c c2 1 vc ln rn zs_10 zs_11 zs_20 zs_21 zs_22 zs_25 zs_26 zs_27 zs_29) 37 c.held) 38 (nI c.men)) 39 (nI c.heap)) 40 c.dogs) 41 (nI c.wak)) 42 (nI c.rl)) 43 (nI c.pg)))), ((ma 4), eI D 6 (nF c.kk)), ((ma 5), eI D 6 (nF c.vv)), ((ma 6), eI D 6 c.hd), ((ma 30), eI D 8 (nF c.crf)), ((ma 35), eI D 12 (nF c.bo)), ((ma 44), eI D 6 (nF (uN (uN (uN (uN c2.kk 0 (c.kk 0)) 1 (c.kk 1)) 2 (c.kk 2)) 3 (c.kk 3)))), ((ma 45), eI D 6 (nF (uN (uN (uN c2.vv 0 (c.vv 0)) 1 (c.vv 1)) 2 (c.vv 2)))), ((ma 46), eI D 6 (upd (upd (upd c2.hd 0 (c.hd 0)) 1 (c.hd 1)) 2 (c.hd 2))), ((ma 47), eI D 8 (nF c2.crf)), ((ma 48), eI D 12 (nF c2.bo))]) O dX10_image_80 6 rfl 3 (rfl) (by omega) (by decide) (by rw [upd_nF]; rfl) ?_
  refine v_aload_n O dX10_image_81 0 rfl ?_
  refine gf_X10_148 (v := .ref (ma 45)) O rfl dX10_image_82 0 rfl rfl ?_
  refine v_iload_n O dX10_image_85 1 rfl ?_
  refine v_aload_n O dX10_image_86 0 rfl ?_
  refine gf_X10_26 (v := .ref (ma 5)) O rfl dX10_image_87 0 rfl rfl ?_
  refine v_iload_n O dX10_image_90 1 rfl ?_
  refine v_ialdk O dX10_image_91 2 rfl 3 rfl (by omega) (by decide) ?_
  refine v_top (y := nI (c.vv 3)) rfl ?_
  refine v_iastk (ws' := [(mo, .inr (10, M1R ma (upd (upd (upd (upd (upd (upd (upd (mZ c c2 1 vc ln rn zs_10 zs_11 zs_20 zs_21 zs_22 zs_25 zs_26 zs_27 zs_29) 37 c.held) 38 (nI c.men)) 39 (nI c.heap)) 40 c.dogs) 41 (nI c.wak)) 42 (nI c.rl)) 43 (nI c.pg)))), ((ma 4), eI D 6 (nF c.kk)), ((ma 5), eI D 6 (nF c.vv)), ((ma 6), eI D 6 c.hd), ((ma 30), eI D 8 (nF c.crf)), ((ma 35), eI D 12 (nF c.bo)), ((ma 44), eI D 6 (nF (uN (uN (uN (uN c2.kk 0 (c.kk 0)) 1 (c.kk 1)) 2 (c.kk 2)) 3 (c.kk 3)))), ((ma 45), eI D 6 (nF (uN (uN (uN (uN c2.vv 0 (c.vv 0)) 1 (c.vv 1)) 2 (c.vv 2)) 3 (c.vv 3)))), ((ma 46), eI D 6 (upd (upd (upd c2.hd 0 (c.hd 0)) 1 (c.hd 1)) 2 (c.hd 2))), ((ma 47), eI D 8 (nF c2.crf)), ((ma 48), eI D 12 (nF c2.bo))]) O dX10_image_92 7 rfl 3 (rfl) (by omega) (by decide) (by rw [upd_nF]; rfl) ?_
  refine v_aload_n O dX10_image_93 0 rfl ?_
  refine gf_X10_151 (v := .ref (ma 46)) O rfl dX10_image_94 0 rfl rfl ?_
  refine v_iload_n O dX10_image_97 1 rfl ?_
  refine v_aload_n O dX10_image_98 0 rfl ?_
  refine gf_X10_29 (v := .ref (ma 6)) O rfl dX10_image_99 0 rfl rfl ?_
  refine v_iload_n O dX10_image_102 1 rfl ?_
  refine v_ialdk O dX10_image_103 3 rfl 3 rfl (by omega) (by decide) ?_
  refine v_iastk (ws' := [(mo, .inr (10, M1R ma (upd (upd (upd (upd (upd (upd (upd (mZ c c2 1 vc ln rn zs_10 zs_11 zs_20 zs_21 zs_22 zs_25 zs_26 zs_27 zs_29) 37 c.held) 38 (nI c.men)) 39 (nI c.heap)) 40 c.dogs) 41 (nI c.wak)) 42 (nI c.rl)) 43 (nI c.pg)))), ((ma 4), eI D 6 (nF c.kk)), ((ma 5), eI D 6 (nF c.vv)), ((ma 6), eI D 6 c.hd), ((ma 30), eI D 8 (nF c.crf)), ((ma 35), eI D 12 (nF c.bo)), ((ma 44), eI D 6 (nF (uN (uN (uN (uN c2.kk 0 (c.kk 0)) 1 (c.kk 1)) 2 (c.kk 2)) 3 (c.kk 3)))), ((ma 45), eI D 6 (nF (uN (uN (uN (uN c2.vv 0 (c.vv 0)) 1 (c.vv 1)) 2 (c.vv 2)) 3 (c.vv 3)))), ((ma 46), eI D 6 (upd (upd (upd (upd c2.hd 0 (c.hd 0)) 1 (c.hd 1)) 2 (c.hd 2)) 3 (c.hd 3))), ((ma 47), eI D 8 (nF c2.crf)), ((ma 48), eI D 12 (nF c2.bo))]) O dX10_image_104 8 rfl 3 (rfl) (by omega) (by decide) (rfl) ?_
  refine v_iinc (v := 4) (lv' := [(0, .ref mo), (1, .int 4)]) O dX10_image_105 1 rfl (by decide) (by decide) rfl ?_
  refine v_goto O 63 dX10_image_108 (by decide) ?_
  refine v_iload_n O dX10_image_63 1 rfl ?_
  refine v_bipush (v := 6) O dX10_image_64 (by decide) ?_
  refine v_icmp_ge O 111 dX10_image_66 (by decide) (fun c => absurd c (by decide)) (fun _ => ?_)
  refine v_aload_n O dX10_image_69 0 rfl ?_
  refine gf_X10_145 (v := .ref (ma 44)) O rfl dX10_image_70 0 rfl rfl ?_
  refine v_iload_n O dX10_image_73 1 rfl ?_
  refine v_aload_n O dX10_image_74 0 rfl ?_
  refine gf_X10_22 (v := .ref (ma 4)) O rfl dX10_image_75 0 rfl rfl ?_
  refine v_iload_n O dX10_image_78 1 rfl ?_
  refine v_ialdk O dX10_image_79 1 rfl 4 rfl (by omega) (by decide) ?_
  refine v_top (y := nI (c.kk 4)) rfl ?_
  refine v_iastk (ws' := [(mo, .inr (10, M1R ma (upd (upd (upd (upd (upd (upd (upd (mZ c c2 1 vc ln rn zs_10 zs_11 zs_20 zs_21 zs_22 zs_25 zs_26 zs_27 zs_29) 37 c.held) 38 (nI c.men)) 39 (nI c.heap)) 40 c.dogs) 41 (nI c.wak)) 42 (nI c.rl)) 43 (nI c.pg)))), ((ma 4), eI D 6 (nF c.kk)), ((ma 5), eI D 6 (nF c.vv)), ((ma 6), eI D 6 c.hd), ((ma 30), eI D 8 (nF c.crf)), ((ma 35), eI D 12 (nF c.bo)), ((ma 44), eI D 6 (nF (uN (uN (uN (uN (uN c2.kk 0 (c.kk 0)) 1 (c.kk 1)) 2 (c.kk 2)) 3 (c.kk 3)) 4 (c.kk 4)))), ((ma 45), eI D 6 (nF (uN (uN (uN (uN c2.vv 0 (c.vv 0)) 1 (c.vv 1)) 2 (c.vv 2)) 3 (c.vv 3)))), ((ma 46), eI D 6 (upd (upd (upd (upd c2.hd 0 (c.hd 0)) 1 (c.hd 1)) 2 (c.hd 2)) 3 (c.hd 3))), ((ma 47), eI D 8 (nF c2.crf)), ((ma 48), eI D 12 (nF c2.bo))]) O dX10_image_80 6 rfl 4 (rfl) (by omega) (by decide) (by rw [upd_nF]; rfl) ?_
  refine v_aload_n O dX10_image_81 0 rfl ?_
  refine gf_X10_148 (v := .ref (ma 45)) O rfl dX10_image_82 0 rfl rfl ?_
  refine v_iload_n O dX10_image_85 1 rfl ?_
  refine v_aload_n O dX10_image_86 0 rfl ?_
  refine gf_X10_26 (v := .ref (ma 5)) O rfl dX10_image_87 0 rfl rfl ?_
  refine v_iload_n O dX10_image_90 1 rfl ?_
  refine v_ialdk O dX10_image_91 2 rfl 4 rfl (by omega) (by decide) ?_
  refine v_top (y := nI (c.vv 4)) rfl ?_
  refine v_iastk (ws' := [(mo, .inr (10, M1R ma (upd (upd (upd (upd (upd (upd (upd (mZ c c2 1 vc ln rn zs_10 zs_11 zs_20 zs_21 zs_22 zs_25 zs_26 zs_27 zs_29) 37 c.held) 38 (nI c.men)) 39 (nI c.heap)) 40 c.dogs) 41 (nI c.wak)) 42 (nI c.rl)) 43 (nI c.pg)))), ((ma 4), eI D 6 (nF c.kk)), ((ma 5), eI D 6 (nF c.vv)), ((ma 6), eI D 6 c.hd), ((ma 30), eI D 8 (nF c.crf)), ((ma 35), eI D 12 (nF c.bo)), ((ma 44), eI D 6 (nF (uN (uN (uN (uN (uN c2.kk 0 (c.kk 0)) 1 (c.kk 1)) 2 (c.kk 2)) 3 (c.kk 3)) 4 (c.kk 4)))), ((ma 45), eI D 6 (nF (uN (uN (uN (uN (uN c2.vv 0 (c.vv 0)) 1 (c.vv 1)) 2 (c.vv 2)) 3 (c.vv 3)) 4 (c.vv 4)))), ((ma 46), eI D 6 (upd (upd (upd (upd c2.hd 0 (c.hd 0)) 1 (c.hd 1)) 2 (c.hd 2)) 3 (c.hd 3))), ((ma 47), eI D 8 (nF c2.crf)), ((ma 48), eI D 12 (nF c2.bo))]) O dX10_image_92 7 rfl 4 (rfl) (by omega) (by decide) (by rw [upd_nF]; rfl) ?_
  refine v_aload_n O dX10_image_93 0 rfl ?_
  refine gf_X10_151 (v := .ref (ma 46)) O rfl dX10_image_94 0 rfl rfl ?_
  refine v_iload_n O dX10_image_97 1 rfl ?_
  refine v_aload_n O dX10_image_98 0 rfl ?_
  refine gf_X10_29 (v := .ref (ma 6)) O rfl dX10_image_99 0 rfl rfl ?_
  refine v_iload_n O dX10_image_102 1 rfl ?_
  refine v_ialdk O dX10_image_103 3 rfl 4 rfl (by omega) (by decide) ?_
  refine v_iastk (ws' := [(mo, .inr (10, M1R ma (upd (upd (upd (upd (upd (upd (upd (mZ c c2 1 vc ln rn zs_10 zs_11 zs_20 zs_21 zs_22 zs_25 zs_26 zs_27 zs_29) 37 c.held) 38 (nI c.men)) 39 (nI c.heap)) 40 c.dogs) 41 (nI c.wak)) 42 (nI c.rl)) 43 (nI c.pg)))), ((ma 4), eI D 6 (nF c.kk)), ((ma 5), eI D 6 (nF c.vv)), ((ma 6), eI D 6 c.hd), ((ma 30), eI D 8 (nF c.crf)), ((ma 35), eI D 12 (nF c.bo)), ((ma 44), eI D 6 (nF (uN (uN (uN (uN (uN c2.kk 0 (c.kk 0)) 1 (c.kk 1)) 2 (c.kk 2)) 3 (c.kk 3)) 4 (c.kk 4)))), ((ma 45), eI D 6 (nF (uN (uN (uN (uN (uN c2.vv 0 (c.vv 0)) 1 (c.vv 1)) 2 (c.vv 2)) 3 (c.vv 3)) 4 (c.vv 4)))), ((ma 46), eI D 6 (upd (upd (upd (upd (upd c2.hd 0 (c.hd 0)) 1 (c.hd 1)) 2 (c.hd 2)) 3 (c.hd 3)) 4 (c.hd 4))), ((ma 47), eI D 8 (nF c2.crf)), ((ma 48), eI D 12 (nF c2.bo))]) O dX10_image_104 8 rfl 4 (rfl) (by omega) (by decide) (rfl) ?_
  refine v_iinc (v := 5) (lv' := [(0, .ref mo), (1, .int 5)]) O dX10_image_105 1 rfl (by decide) (by decide) rfl ?_
  refine v_goto O 63 dX10_image_108 (by decide) ?_
  refine v_iload_n O dX10_image_63 1 rfl ?_
  refine v_bipush (v := 6) O dX10_image_64 (by decide) ?_
  refine v_icmp_ge O 111 dX10_image_66 (by decide) (fun c => absurd c (by decide)) (fun _ => ?_)
  refine v_aload_n O dX10_image_69 0 rfl ?_
  refine gf_X10_145 (v := .ref (ma 44)) O rfl dX10_image_70 0 rfl rfl ?_
  refine v_iload_n O dX10_image_73 1 rfl ?_
  refine v_aload_n O dX10_image_74 0 rfl ?_
  refine gf_X10_22 (v := .ref (ma 4)) O rfl dX10_image_75 0 rfl rfl ?_
  refine v_iload_n O dX10_image_78 1 rfl ?_
  refine v_ialdk O dX10_image_79 1 rfl 5 rfl (by omega) (by decide) ?_
  refine v_top (y := nI (c.kk 5)) rfl ?_
  refine v_iastk (ws' := [(mo, .inr (10, M1R ma (upd (upd (upd (upd (upd (upd (upd (mZ c c2 1 vc ln rn zs_10 zs_11 zs_20 zs_21 zs_22 zs_25 zs_26 zs_27 zs_29) 37 c.held) 38 (nI c.men)) 39 (nI c.heap)) 40 c.dogs) 41 (nI c.wak)) 42 (nI c.rl)) 43 (nI c.pg)))), ((ma 4), eI D 6 (nF c.kk)), ((ma 5), eI D 6 (nF c.vv)), ((ma 6), eI D 6 c.hd), ((ma 30), eI D 8 (nF c.crf)), ((ma 35), eI D 12 (nF c.bo)), ((ma 44), eI D 6 (nF (uN (uN (uN (uN (uN (uN c2.kk 0 (c.kk 0)) 1 (c.kk 1)) 2 (c.kk 2)) 3 (c.kk 3)) 4 (c.kk 4)) 5 (c.kk 5)))), ((ma 45), eI D 6 (nF (uN (uN (uN (uN (uN c2.vv 0 (c.vv 0)) 1 (c.vv 1)) 2 (c.vv 2)) 3 (c.vv 3)) 4 (c.vv 4)))), ((ma 46), eI D 6 (upd (upd (upd (upd (upd c2.hd 0 (c.hd 0)) 1 (c.hd 1)) 2 (c.hd 2)) 3 (c.hd 3)) 4 (c.hd 4))), ((ma 47), eI D 8 (nF c2.crf)), ((ma 48), eI D 12 (nF c2.bo))]) O dX10_image_80 6 rfl 5 (rfl) (by omega) (by decide) (by rw [upd_nF]; rfl) ?_
  refine v_aload_n O dX10_image_81 0 rfl ?_
  refine gf_X10_148 (v := .ref (ma 45)) O rfl dX10_image_82 0 rfl rfl ?_
  refine v_iload_n O dX10_image_85 1 rfl ?_
  refine v_aload_n O dX10_image_86 0 rfl ?_
  refine gf_X10_26 (v := .ref (ma 5)) O rfl dX10_image_87 0 rfl rfl ?_
  refine v_iload_n O dX10_image_90 1 rfl ?_
  refine v_ialdk O dX10_image_91 2 rfl 5 rfl (by omega) (by decide) ?_
  refine v_top (y := nI (c.vv 5)) rfl ?_
  refine v_iastk (ws' := [(mo, .inr (10, M1R ma (upd (upd (upd (upd (upd (upd (upd (mZ c c2 1 vc ln rn zs_10 zs_11 zs_20 zs_21 zs_22 zs_25 zs_26 zs_27 zs_29) 37 c.held) 38 (nI c.men)) 39 (nI c.heap)) 40 c.dogs) 41 (nI c.wak)) 42 (nI c.rl)) 43 (nI c.pg)))), ((ma 4), eI D 6 (nF c.kk)), ((ma 5), eI D 6 (nF c.vv)), ((ma 6), eI D 6 c.hd), ((ma 30), eI D 8 (nF c.crf)), ((ma 35), eI D 12 (nF c.bo)), ((ma 44), eI D 6 (nF (uN (uN (uN (uN (uN (uN c2.kk 0 (c.kk 0)) 1 (c.kk 1)) 2 (c.kk 2)) 3 (c.kk 3)) 4 (c.kk 4)) 5 (c.kk 5)))), ((ma 45), eI D 6 (nF (uN (uN (uN (uN (uN (uN c2.vv 0 (c.vv 0)) 1 (c.vv 1)) 2 (c.vv 2)) 3 (c.vv 3)) 4 (c.vv 4)) 5 (c.vv 5)))), ((ma 46), eI D 6 (upd (upd (upd (upd (upd c2.hd 0 (c.hd 0)) 1 (c.hd 1)) 2 (c.hd 2)) 3 (c.hd 3)) 4 (c.hd 4))), ((ma 47), eI D 8 (nF c2.crf)), ((ma 48), eI D 12 (nF c2.bo))]) O dX10_image_92 7 rfl 5 (rfl) (by omega) (by decide) (by rw [upd_nF]; rfl) ?_
  refine v_aload_n O dX10_image_93 0 rfl ?_
  refine gf_X10_151 (v := .ref (ma 46)) O rfl dX10_image_94 0 rfl rfl ?_
  refine v_iload_n O dX10_image_97 1 rfl ?_
  refine v_aload_n O dX10_image_98 0 rfl ?_
  refine gf_X10_29 (v := .ref (ma 6)) O rfl dX10_image_99 0 rfl rfl ?_
  refine v_iload_n O dX10_image_102 1 rfl ?_
  refine v_ialdk O dX10_image_103 3 rfl 5 rfl (by omega) (by decide) ?_
  refine v_iastk (ws' := [(mo, .inr (10, M1R ma (upd (upd (upd (upd (upd (upd (upd (mZ c c2 1 vc ln rn zs_10 zs_11 zs_20 zs_21 zs_22 zs_25 zs_26 zs_27 zs_29) 37 c.held) 38 (nI c.men)) 39 (nI c.heap)) 40 c.dogs) 41 (nI c.wak)) 42 (nI c.rl)) 43 (nI c.pg)))), ((ma 4), eI D 6 (nF c.kk)), ((ma 5), eI D 6 (nF c.vv)), ((ma 6), eI D 6 c.hd), ((ma 30), eI D 8 (nF c.crf)), ((ma 35), eI D 12 (nF c.bo)), ((ma 44), eI D 6 (nF (uN (uN (uN (uN (uN (uN c2.kk 0 (c.kk 0)) 1 (c.kk 1)) 2 (c.kk 2)) 3 (c.kk 3)) 4 (c.kk 4)) 5 (c.kk 5)))), ((ma 45), eI D 6 (nF (uN (uN (uN (uN (uN (uN c2.vv 0 (c.vv 0)) 1 (c.vv 1)) 2 (c.vv 2)) 3 (c.vv 3)) 4 (c.vv 4)) 5 (c.vv 5)))), ((ma 46), eI D 6 (upd (upd (upd (upd (upd (upd c2.hd 0 (c.hd 0)) 1 (c.hd 1)) 2 (c.hd 2)) 3 (c.hd 3)) 4 (c.hd 4)) 5 (c.hd 5))), ((ma 47), eI D 8 (nF c2.crf)), ((ma 48), eI D 12 (nF c2.bo))]) O dX10_image_104 8 rfl 5 (rfl) (by omega) (by decide) (rfl) ?_
  refine v_iinc (v := 6) (lv' := [(0, .ref mo), (1, .int 6)]) O dX10_image_105 1 rfl (by decide) (by decide) rfl ?_
  refine v_goto O 63 dX10_image_108 (by decide) ?_
  refine v_iload_n O dX10_image_63 1 rfl ?_
  refine v_bipush (v := 6) O dX10_image_64 (by decide) ?_
  refine v_icmp_ge O 111 dX10_image_66 (by decide) (fun _ => ?_) (fun c => absurd c (by decide))
  refine v_iconst (v := 0) O dX10_image_111 (by decide) ?_
  refine v_istore_n (lv' := [(0, .ref mo), (1, .int 0)]) O dX10_image_112 (by decide) rfl ?_
  refine v_iload_n O dX10_image_113 1 rfl ?_
  refine v_bipush (v := 8) O dX10_image_114 (by decide) ?_
  refine v_icmp_ge O 137 dX10_image_116 (by decide) (fun c => absurd c (by decide)) (fun _ => ?_)
  refine v_aload_n O dX10_image_119 0 rfl ?_
  refine gf_X10_154 (v := .ref (ma 47)) O rfl dX10_image_120 0 rfl rfl ?_
  refine v_iload_n O dX10_image_123 1 rfl ?_
  refine v_aload_n O dX10_image_124 0 rfl ?_
  refine gf_X10_102 (v := .ref (ma 30)) O rfl dX10_image_125 0 rfl rfl ?_
  refine v_iload_n O dX10_image_128 1 rfl ?_
  refine v_ialdk O dX10_image_129 4 rfl 0 rfl (by omega) (by decide) ?_
  refine v_top (y := nI (c.crf 0)) rfl ?_
  refine v_iastk (ws' := [(mo, .inr (10, M1R ma (upd (upd (upd (upd (upd (upd (upd (mZ c c2 1 vc ln rn zs_10 zs_11 zs_20 zs_21 zs_22 zs_25 zs_26 zs_27 zs_29) 37 c.held) 38 (nI c.men)) 39 (nI c.heap)) 40 c.dogs) 41 (nI c.wak)) 42 (nI c.rl)) 43 (nI c.pg)))), ((ma 4), eI D 6 (nF c.kk)), ((ma 5), eI D 6 (nF c.vv)), ((ma 6), eI D 6 c.hd), ((ma 30), eI D 8 (nF c.crf)), ((ma 35), eI D 12 (nF c.bo)), ((ma 44), eI D 6 (nF (uN (uN (uN (uN (uN (uN c2.kk 0 (c.kk 0)) 1 (c.kk 1)) 2 (c.kk 2)) 3 (c.kk 3)) 4 (c.kk 4)) 5 (c.kk 5)))), ((ma 45), eI D 6 (nF (uN (uN (uN (uN (uN (uN c2.vv 0 (c.vv 0)) 1 (c.vv 1)) 2 (c.vv 2)) 3 (c.vv 3)) 4 (c.vv 4)) 5 (c.vv 5)))), ((ma 46), eI D 6 (upd (upd (upd (upd (upd (upd c2.hd 0 (c.hd 0)) 1 (c.hd 1)) 2 (c.hd 2)) 3 (c.hd 3)) 4 (c.hd 4)) 5 (c.hd 5))), ((ma 47), eI D 8 (nF (uN c2.crf 0 (c.crf 0)))), ((ma 48), eI D 12 (nF c2.bo))]) O dX10_image_130 9 rfl 0 (rfl) (by omega) (by decide) (by rw [upd_nF]; rfl) ?_
  refine v_iinc (v := 1) (lv' := [(0, .ref mo), (1, .int 1)]) O dX10_image_131 1 rfl (by decide) (by decide) rfl ?_
  refine v_goto O 113 dX10_image_134 (by decide) ?_
  refine v_iload_n O dX10_image_113 1 rfl ?_
  refine v_bipush (v := 8) O dX10_image_114 (by decide) ?_
  refine v_icmp_ge O 137 dX10_image_116 (by decide) (fun c => absurd c (by decide)) (fun _ => ?_)
  refine v_aload_n O dX10_image_119 0 rfl ?_
  refine gf_X10_154 (v := .ref (ma 47)) O rfl dX10_image_120 0 rfl rfl ?_
  refine v_iload_n O dX10_image_123 1 rfl ?_
  refine v_aload_n O dX10_image_124 0 rfl ?_
  refine gf_X10_102 (v := .ref (ma 30)) O rfl dX10_image_125 0 rfl rfl ?_
  refine v_iload_n O dX10_image_128 1 rfl ?_
  refine v_ialdk O dX10_image_129 4 rfl 1 rfl (by omega) (by decide) ?_
  refine v_top (y := nI (c.crf 1)) rfl ?_
  refine v_iastk (ws' := [(mo, .inr (10, M1R ma (upd (upd (upd (upd (upd (upd (upd (mZ c c2 1 vc ln rn zs_10 zs_11 zs_20 zs_21 zs_22 zs_25 zs_26 zs_27 zs_29) 37 c.held) 38 (nI c.men)) 39 (nI c.heap)) 40 c.dogs) 41 (nI c.wak)) 42 (nI c.rl)) 43 (nI c.pg)))), ((ma 4), eI D 6 (nF c.kk)), ((ma 5), eI D 6 (nF c.vv)), ((ma 6), eI D 6 c.hd), ((ma 30), eI D 8 (nF c.crf)), ((ma 35), eI D 12 (nF c.bo)), ((ma 44), eI D 6 (nF (uN (uN (uN (uN (uN (uN c2.kk 0 (c.kk 0)) 1 (c.kk 1)) 2 (c.kk 2)) 3 (c.kk 3)) 4 (c.kk 4)) 5 (c.kk 5)))), ((ma 45), eI D 6 (nF (uN (uN (uN (uN (uN (uN c2.vv 0 (c.vv 0)) 1 (c.vv 1)) 2 (c.vv 2)) 3 (c.vv 3)) 4 (c.vv 4)) 5 (c.vv 5)))), ((ma 46), eI D 6 (upd (upd (upd (upd (upd (upd c2.hd 0 (c.hd 0)) 1 (c.hd 1)) 2 (c.hd 2)) 3 (c.hd 3)) 4 (c.hd 4)) 5 (c.hd 5))), ((ma 47), eI D 8 (nF (uN (uN c2.crf 0 (c.crf 0)) 1 (c.crf 1)))), ((ma 48), eI D 12 (nF c2.bo))]) O dX10_image_130 9 rfl 1 (rfl) (by omega) (by decide) (by rw [upd_nF]; rfl) ?_
  refine v_iinc (v := 2) (lv' := [(0, .ref mo), (1, .int 2)]) O dX10_image_131 1 rfl (by decide) (by decide) rfl ?_
  refine v_goto O 113 dX10_image_134 (by decide) ?_
  refine v_iload_n O dX10_image_113 1 rfl ?_
  refine v_bipush (v := 8) O dX10_image_114 (by decide) ?_
  refine v_icmp_ge O 137 dX10_image_116 (by decide) (fun c => absurd c (by decide)) (fun _ => ?_)
  refine v_aload_n O dX10_image_119 0 rfl ?_
  refine gf_X10_154 (v := .ref (ma 47)) O rfl dX10_image_120 0 rfl rfl ?_
  refine v_iload_n O dX10_image_123 1 rfl ?_
  refine v_aload_n O dX10_image_124 0 rfl ?_
  refine gf_X10_102 (v := .ref (ma 30)) O rfl dX10_image_125 0 rfl rfl ?_
  refine v_iload_n O dX10_image_128 1 rfl ?_
  refine v_ialdk O dX10_image_129 4 rfl 2 rfl (by omega) (by decide) ?_
  refine v_top (y := nI (c.crf 2)) rfl ?_
  refine v_iastk (ws' := [(mo, .inr (10, M1R ma (upd (upd (upd (upd (upd (upd (upd (mZ c c2 1 vc ln rn zs_10 zs_11 zs_20 zs_21 zs_22 zs_25 zs_26 zs_27 zs_29) 37 c.held) 38 (nI c.men)) 39 (nI c.heap)) 40 c.dogs) 41 (nI c.wak)) 42 (nI c.rl)) 43 (nI c.pg)))), ((ma 4), eI D 6 (nF c.kk)), ((ma 5), eI D 6 (nF c.vv)), ((ma 6), eI D 6 c.hd), ((ma 30), eI D 8 (nF c.crf)), ((ma 35), eI D 12 (nF c.bo)), ((ma 44), eI D 6 (nF (uN (uN (uN (uN (uN (uN c2.kk 0 (c.kk 0)) 1 (c.kk 1)) 2 (c.kk 2)) 3 (c.kk 3)) 4 (c.kk 4)) 5 (c.kk 5)))), ((ma 45), eI D 6 (nF (uN (uN (uN (uN (uN (uN c2.vv 0 (c.vv 0)) 1 (c.vv 1)) 2 (c.vv 2)) 3 (c.vv 3)) 4 (c.vv 4)) 5 (c.vv 5)))), ((ma 46), eI D 6 (upd (upd (upd (upd (upd (upd c2.hd 0 (c.hd 0)) 1 (c.hd 1)) 2 (c.hd 2)) 3 (c.hd 3)) 4 (c.hd 4)) 5 (c.hd 5))), ((ma 47), eI D 8 (nF (uN (uN (uN c2.crf 0 (c.crf 0)) 1 (c.crf 1)) 2 (c.crf 2)))), ((ma 48), eI D 12 (nF c2.bo))]) O dX10_image_130 9 rfl 2 (rfl) (by omega) (by decide) (by rw [upd_nF]; rfl) ?_
  refine v_iinc (v := 3) (lv' := [(0, .ref mo), (1, .int 3)]) O dX10_image_131 1 rfl (by decide) (by decide) rfl ?_
  refine v_goto O 113 dX10_image_134 (by decide) ?_
  refine v_iload_n O dX10_image_113 1 rfl ?_
  refine v_bipush (v := 8) O dX10_image_114 (by decide) ?_
  refine v_icmp_ge O 137 dX10_image_116 (by decide) (fun c => absurd c (by decide)) (fun _ => ?_)
  refine v_aload_n O dX10_image_119 0 rfl ?_
  refine gf_X10_154 (v := .ref (ma 47)) O rfl dX10_image_120 0 rfl rfl ?_
  refine v_iload_n O dX10_image_123 1 rfl ?_
  refine v_aload_n O dX10_image_124 0 rfl ?_
  refine gf_X10_102 (v := .ref (ma 30)) O rfl dX10_image_125 0 rfl rfl ?_
  refine v_iload_n O dX10_image_128 1 rfl ?_
  refine v_ialdk O dX10_image_129 4 rfl 3 rfl (by omega) (by decide) ?_
  refine v_top (y := nI (c.crf 3)) rfl ?_
  refine v_iastk (ws' := [(mo, .inr (10, M1R ma (upd (upd (upd (upd (upd (upd (upd (mZ c c2 1 vc ln rn zs_10 zs_11 zs_20 zs_21 zs_22 zs_25 zs_26 zs_27 zs_29) 37 c.held) 38 (nI c.men)) 39 (nI c.heap)) 40 c.dogs) 41 (nI c.wak)) 42 (nI c.rl)) 43 (nI c.pg)))), ((ma 4), eI D 6 (nF c.kk)), ((ma 5), eI D 6 (nF c.vv)), ((ma 6), eI D 6 c.hd), ((ma 30), eI D 8 (nF c.crf)), ((ma 35), eI D 12 (nF c.bo)), ((ma 44), eI D 6 (nF (uN (uN (uN (uN (uN (uN c2.kk 0 (c.kk 0)) 1 (c.kk 1)) 2 (c.kk 2)) 3 (c.kk 3)) 4 (c.kk 4)) 5 (c.kk 5)))), ((ma 45), eI D 6 (nF (uN (uN (uN (uN (uN (uN c2.vv 0 (c.vv 0)) 1 (c.vv 1)) 2 (c.vv 2)) 3 (c.vv 3)) 4 (c.vv 4)) 5 (c.vv 5)))), ((ma 46), eI D 6 (upd (upd (upd (upd (upd (upd c2.hd 0 (c.hd 0)) 1 (c.hd 1)) 2 (c.hd 2)) 3 (c.hd 3)) 4 (c.hd 4)) 5 (c.hd 5))), ((ma 47), eI D 8 (nF (uN (uN (uN (uN c2.crf 0 (c.crf 0)) 1 (c.crf 1)) 2 (c.crf 2)) 3 (c.crf 3)))), ((ma 48), eI D 12 (nF c2.bo))]) O dX10_image_130 9 rfl 3 (rfl) (by omega) (by decide) (by rw [upd_nF]; rfl) ?_
  refine v_iinc (v := 4) (lv' := [(0, .ref mo), (1, .int 4)]) O dX10_image_131 1 rfl (by decide) (by decide) rfl ?_
  refine v_goto O 113 dX10_image_134 (by decide) ?_
  refine v_iload_n O dX10_image_113 1 rfl ?_
  refine v_bipush (v := 8) O dX10_image_114 (by decide) ?_
  refine v_icmp_ge O 137 dX10_image_116 (by decide) (fun c => absurd c (by decide)) (fun _ => ?_)
  refine v_aload_n O dX10_image_119 0 rfl ?_
  refine gf_X10_154 (v := .ref (ma 47)) O rfl dX10_image_120 0 rfl rfl ?_
  refine v_iload_n O dX10_image_123 1 rfl ?_
  refine v_aload_n O dX10_image_124 0 rfl ?_
  refine gf_X10_102 (v := .ref (ma 30)) O rfl dX10_image_125 0 rfl rfl ?_
  refine v_iload_n O dX10_image_128 1 rfl ?_
  refine v_ialdk O dX10_image_129 4 rfl 4 rfl (by omega) (by decide) ?_
  refine v_top (y := nI (c.crf 4)) rfl ?_
  refine v_iastk (ws' := [(mo, .inr (10, M1R ma (upd (upd (upd (upd (upd (upd (upd (mZ c c2 1 vc ln rn zs_10 zs_11 zs_20 zs_21 zs_22 zs_25 zs_26 zs_27 zs_29) 37 c.held) 38 (nI c.men)) 39 (nI c.heap)) 40 c.dogs) 41 (nI c.wak)) 42 (nI c.rl)) 43 (nI c.pg)))), ((ma 4), eI D 6 (nF c.kk)), ((ma 5), eI D 6 (nF c.vv)), ((ma 6), eI D 6 c.hd), ((ma 30), eI D 8 (nF c.crf)), ((ma 35), eI D 12 (nF c.bo)), ((ma 44), eI D 6 (nF (uN (uN (uN (uN (uN (uN c2.kk 0 (c.kk 0)) 1 (c.kk 1)) 2 (c.kk 2)) 3 (c.kk 3)) 4 (c.kk 4)) 5 (c.kk 5)))), ((ma 45), eI D 6 (nF (uN (uN (uN (uN (uN (uN c2.vv 0 (c.vv 0)) 1 (c.vv 1)) 2 (c.vv 2)) 3 (c.vv 3)) 4 (c.vv 4)) 5 (c.vv 5)))), ((ma 46), eI D 6 (upd (upd (upd (upd (upd (upd c2.hd 0 (c.hd 0)) 1 (c.hd 1)) 2 (c.hd 2)) 3 (c.hd 3)) 4 (c.hd 4)) 5 (c.hd 5))), ((ma 47), eI D 8 (nF (uN (uN (uN (uN (uN c2.crf 0 (c.crf 0)) 1 (c.crf 1)) 2 (c.crf 2)) 3 (c.crf 3)) 4 (c.crf 4)))), ((ma 48), eI D 12 (nF c2.bo))]) O dX10_image_130 9 rfl 4 (rfl) (by omega) (by decide) (by rw [upd_nF]; rfl) ?_
  refine v_iinc (v := 5) (lv' := [(0, .ref mo), (1, .int 5)]) O dX10_image_131 1 rfl (by decide) (by decide) rfl ?_
  refine v_goto O 113 dX10_image_134 (by decide) ?_
  refine v_iload_n O dX10_image_113 1 rfl ?_
  refine v_bipush (v := 8) O dX10_image_114 (by decide) ?_
  refine v_icmp_ge O 137 dX10_image_116 (by decide) (fun c => absurd c (by decide)) (fun _ => ?_)
  refine v_aload_n O dX10_image_119 0 rfl ?_
  refine gf_X10_154 (v := .ref (ma 47)) O rfl dX10_image_120 0 rfl rfl ?_
  refine v_iload_n O dX10_image_123 1 rfl ?_
  refine v_aload_n O dX10_image_124 0 rfl ?_
  refine gf_X10_102 (v := .ref (ma 30)) O rfl dX10_image_125 0 rfl rfl ?_
  refine v_iload_n O dX10_image_128 1 rfl ?_
  refine v_ialdk O dX10_image_129 4 rfl 5 rfl (by omega) (by decide) ?_
  refine v_top (y := nI (c.crf 5)) rfl ?_
  refine v_iastk (ws' := [(mo, .inr (10, M1R ma (upd (upd (upd (upd (upd (upd (upd (mZ c c2 1 vc ln rn zs_10 zs_11 zs_20 zs_21 zs_22 zs_25 zs_26 zs_27 zs_29) 37 c.held) 38 (nI c.men)) 39 (nI c.heap)) 40 c.dogs) 41 (nI c.wak)) 42 (nI c.rl)) 43 (nI c.pg)))), ((ma 4), eI D 6 (nF c.kk)), ((ma 5), eI D 6 (nF c.vv)), ((ma 6), eI D 6 c.hd), ((ma 30), eI D 8 (nF c.crf)), ((ma 35), eI D 12 (nF c.bo)), ((ma 44), eI D 6 (nF (uN (uN (uN (uN (uN (uN c2.kk 0 (c.kk 0)) 1 (c.kk 1)) 2 (c.kk 2)) 3 (c.kk 3)) 4 (c.kk 4)) 5 (c.kk 5)))), ((ma 45), eI D 6 (nF (uN (uN (uN (uN (uN (uN c2.vv 0 (c.vv 0)) 1 (c.vv 1)) 2 (c.vv 2)) 3 (c.vv 3)) 4 (c.vv 4)) 5 (c.vv 5)))), ((ma 46), eI D 6 (upd (upd (upd (upd (upd (upd c2.hd 0 (c.hd 0)) 1 (c.hd 1)) 2 (c.hd 2)) 3 (c.hd 3)) 4 (c.hd 4)) 5 (c.hd 5))), ((ma 47), eI D 8 (nF (uN (uN (uN (uN (uN (uN c2.crf 0 (c.crf 0)) 1 (c.crf 1)) 2 (c.crf 2)) 3 (c.crf 3)) 4 (c.crf 4)) 5 (c.crf 5)))), ((ma 48), eI D 12 (nF c2.bo))]) O dX10_image_130 9 rfl 5 (rfl) (by omega) (by decide) (by rw [upd_nF]; rfl) ?_
  refine v_iinc (v := 6) (lv' := [(0, .ref mo), (1, .int 6)]) O dX10_image_131 1 rfl (by decide) (by decide) rfl ?_
  refine v_goto O 113 dX10_image_134 (by decide) ?_
  refine v_iload_n O dX10_image_113 1 rfl ?_
  refine v_bipush (v := 8) O dX10_image_114 (by decide) ?_
  refine v_icmp_ge O 137 dX10_image_116 (by decide) (fun c => absurd c (by decide)) (fun _ => ?_)
  refine v_aload_n O dX10_image_119 0 rfl ?_
  refine gf_X10_154 (v := .ref (ma 47)) O rfl dX10_image_120 0 rfl rfl ?_
  refine v_iload_n O dX10_image_123 1 rfl ?_
  refine v_aload_n O dX10_image_124 0 rfl ?_
  refine gf_X10_102 (v := .ref (ma 30)) O rfl dX10_image_125 0 rfl rfl ?_
  refine v_iload_n O dX10_image_128 1 rfl ?_
  refine v_ialdk O dX10_image_129 4 rfl 6 rfl (by omega) (by decide) ?_
  refine v_top (y := nI (c.crf 6)) rfl ?_
  refine v_iastk (ws' := [(mo, .inr (10, M1R ma (upd (upd (upd (upd (upd (upd (upd (mZ c c2 1 vc ln rn zs_10 zs_11 zs_20 zs_21 zs_22 zs_25 zs_26 zs_27 zs_29) 37 c.held) 38 (nI c.men)) 39 (nI c.heap)) 40 c.dogs) 41 (nI c.wak)) 42 (nI c.rl)) 43 (nI c.pg)))), ((ma 4), eI D 6 (nF c.kk)), ((ma 5), eI D 6 (nF c.vv)), ((ma 6), eI D 6 c.hd), ((ma 30), eI D 8 (nF c.crf)), ((ma 35), eI D 12 (nF c.bo)), ((ma 44), eI D 6 (nF (uN (uN (uN (uN (uN (uN c2.kk 0 (c.kk 0)) 1 (c.kk 1)) 2 (c.kk 2)) 3 (c.kk 3)) 4 (c.kk 4)) 5 (c.kk 5)))), ((ma 45), eI D 6 (nF (uN (uN (uN (uN (uN (uN c2.vv 0 (c.vv 0)) 1 (c.vv 1)) 2 (c.vv 2)) 3 (c.vv 3)) 4 (c.vv 4)) 5 (c.vv 5)))), ((ma 46), eI D 6 (upd (upd (upd (upd (upd (upd c2.hd 0 (c.hd 0)) 1 (c.hd 1)) 2 (c.hd 2)) 3 (c.hd 3)) 4 (c.hd 4)) 5 (c.hd 5))), ((ma 47), eI D 8 (nF (uN (uN (uN (uN (uN (uN (uN c2.crf 0 (c.crf 0)) 1 (c.crf 1)) 2 (c.crf 2)) 3 (c.crf 3)) 4 (c.crf 4)) 5 (c.crf 5)) 6 (c.crf 6)))), ((ma 48), eI D 12 (nF c2.bo))]) O dX10_image_130 9 rfl 6 (rfl) (by omega) (by decide) (by rw [upd_nF]; rfl) ?_
  refine v_iinc (v := 7) (lv' := [(0, .ref mo), (1, .int 7)]) O dX10_image_131 1 rfl (by decide) (by decide) rfl ?_
  refine v_goto O 113 dX10_image_134 (by decide) ?_
  refine v_iload_n O dX10_image_113 1 rfl ?_
  refine v_bipush (v := 8) O dX10_image_114 (by decide) ?_
  refine v_icmp_ge O 137 dX10_image_116 (by decide) (fun c => absurd c (by decide)) (fun _ => ?_)
  refine v_aload_n O dX10_image_119 0 rfl ?_
  refine gf_X10_154 (v := .ref (ma 47)) O rfl dX10_image_120 0 rfl rfl ?_
  refine v_iload_n O dX10_image_123 1 rfl ?_
  refine v_aload_n O dX10_image_124 0 rfl ?_
  refine gf_X10_102 (v := .ref (ma 30)) O rfl dX10_image_125 0 rfl rfl ?_
  refine v_iload_n O dX10_image_128 1 rfl ?_
  refine v_ialdk O dX10_image_129 4 rfl 7 rfl (by omega) (by decide) ?_
  refine v_top (y := nI (c.crf 7)) rfl ?_
  refine v_iastk (ws' := [(mo, .inr (10, M1R ma (upd (upd (upd (upd (upd (upd (upd (mZ c c2 1 vc ln rn zs_10 zs_11 zs_20 zs_21 zs_22 zs_25 zs_26 zs_27 zs_29) 37 c.held) 38 (nI c.men)) 39 (nI c.heap)) 40 c.dogs) 41 (nI c.wak)) 42 (nI c.rl)) 43 (nI c.pg)))), ((ma 4), eI D 6 (nF c.kk)), ((ma 5), eI D 6 (nF c.vv)), ((ma 6), eI D 6 c.hd), ((ma 30), eI D 8 (nF c.crf)), ((ma 35), eI D 12 (nF c.bo)), ((ma 44), eI D 6 (nF (uN (uN (uN (uN (uN (uN c2.kk 0 (c.kk 0)) 1 (c.kk 1)) 2 (c.kk 2)) 3 (c.kk 3)) 4 (c.kk 4)) 5 (c.kk 5)))), ((ma 45), eI D 6 (nF (uN (uN (uN (uN (uN (uN c2.vv 0 (c.vv 0)) 1 (c.vv 1)) 2 (c.vv 2)) 3 (c.vv 3)) 4 (c.vv 4)) 5 (c.vv 5)))), ((ma 46), eI D 6 (upd (upd (upd (upd (upd (upd c2.hd 0 (c.hd 0)) 1 (c.hd 1)) 2 (c.hd 2)) 3 (c.hd 3)) 4 (c.hd 4)) 5 (c.hd 5))), ((ma 47), eI D 8 (nF (uN (uN (uN (uN (uN (uN (uN (uN c2.crf 0 (c.crf 0)) 1 (c.crf 1)) 2 (c.crf 2)) 3 (c.crf 3)) 4 (c.crf 4)) 5 (c.crf 5)) 6 (c.crf 6)) 7 (c.crf 7)))), ((ma 48), eI D 12 (nF c2.bo))]) O dX10_image_130 9 rfl 7 (rfl) (by omega) (by decide) (by rw [upd_nF]; rfl) ?_
  refine v_iinc (v := 8) (lv' := [(0, .ref mo), (1, .int 8)]) O dX10_image_131 1 rfl (by decide) (by decide) rfl ?_
  refine v_goto O 113 dX10_image_134 (by decide) ?_
  refine v_iload_n O dX10_image_113 1 rfl ?_
  refine v_bipush (v := 8) O dX10_image_114 (by decide) ?_
  refine v_icmp_ge O 137 dX10_image_116 (by decide) (fun _ => ?_) (fun c => absurd c (by decide))
  refine v_iconst (v := 0) O dX10_image_137 (by decide) ?_
  refine v_istore_n (lv' := [(0, .ref mo), (1, .int 0)]) O dX10_image_138 (by decide) rfl ?_
  refine v_iload_n O dX10_image_139 1 rfl ?_
  refine v_bipush (v := 12) O dX10_image_140 (by decide) ?_
  refine v_icmp_ge O 163 dX10_image_142 (by decide) (fun c => absurd c (by decide)) (fun _ => ?_)
  refine v_aload_n O dX10_image_145 0 rfl ?_
  refine gf_X10_157 (v := .ref (ma 48)) O rfl dX10_image_146 0 rfl rfl ?_
  refine v_iload_n O dX10_image_149 1 rfl ?_
  refine v_aload_n O dX10_image_150 0 rfl ?_
  refine gf_X10_117 (v := .ref (ma 35)) O rfl dX10_image_151 0 rfl rfl ?_
  refine v_iload_n O dX10_image_154 1 rfl ?_
  refine v_ialdk O dX10_image_155 5 rfl 0 rfl (by omega) (by decide) ?_
  refine v_top (y := nI (c.bo 0)) rfl ?_
  refine v_iastk (ws' := [(mo, .inr (10, M1R ma (upd (upd (upd (upd (upd (upd (upd (mZ c c2 1 vc ln rn zs_10 zs_11 zs_20 zs_21 zs_22 zs_25 zs_26 zs_27 zs_29) 37 c.held) 38 (nI c.men)) 39 (nI c.heap)) 40 c.dogs) 41 (nI c.wak)) 42 (nI c.rl)) 43 (nI c.pg)))), ((ma 4), eI D 6 (nF c.kk)), ((ma 5), eI D 6 (nF c.vv)), ((ma 6), eI D 6 c.hd), ((ma 30), eI D 8 (nF c.crf)), ((ma 35), eI D 12 (nF c.bo)), ((ma 44), eI D 6 (nF (uN (uN (uN (uN (uN (uN c2.kk 0 (c.kk 0)) 1 (c.kk 1)) 2 (c.kk 2)) 3 (c.kk 3)) 4 (c.kk 4)) 5 (c.kk 5)))), ((ma 45), eI D 6 (nF (uN (uN (uN (uN (uN (uN c2.vv 0 (c.vv 0)) 1 (c.vv 1)) 2 (c.vv 2)) 3 (c.vv 3)) 4 (c.vv 4)) 5 (c.vv 5)))), ((ma 46), eI D 6 (upd (upd (upd (upd (upd (upd c2.hd 0 (c.hd 0)) 1 (c.hd 1)) 2 (c.hd 2)) 3 (c.hd 3)) 4 (c.hd 4)) 5 (c.hd 5))), ((ma 47), eI D 8 (nF (uN (uN (uN (uN (uN (uN (uN (uN c2.crf 0 (c.crf 0)) 1 (c.crf 1)) 2 (c.crf 2)) 3 (c.crf 3)) 4 (c.crf 4)) 5 (c.crf 5)) 6 (c.crf 6)) 7 (c.crf 7)))), ((ma 48), eI D 12 (nF (uN c2.bo 0 (c.bo 0))))]) O dX10_image_156 10 rfl 0 (rfl) (by omega) (by decide) (by rw [upd_nF]; rfl) ?_
  refine v_iinc (v := 1) (lv' := [(0, .ref mo), (1, .int 1)]) O dX10_image_157 1 rfl (by decide) (by decide) rfl ?_
  refine v_goto O 139 dX10_image_160 (by decide) ?_
  refine v_iload_n O dX10_image_139 1 rfl ?_
  refine v_bipush (v := 12) O dX10_image_140 (by decide) ?_
  refine v_icmp_ge O 163 dX10_image_142 (by decide) (fun c => absurd c (by decide)) (fun _ => ?_)
  refine v_aload_n O dX10_image_145 0 rfl ?_
  refine gf_X10_157 (v := .ref (ma 48)) O rfl dX10_image_146 0 rfl rfl ?_
  refine v_iload_n O dX10_image_149 1 rfl ?_
  refine v_aload_n O dX10_image_150 0 rfl ?_
  refine gf_X10_117 (v := .ref (ma 35)) O rfl dX10_image_151 0 rfl rfl ?_
  refine v_iload_n O dX10_image_154 1 rfl ?_
  refine v_ialdk O dX10_image_155 5 rfl 1 rfl (by omega) (by decide) ?_
  refine v_top (y := nI (c.bo 1)) rfl ?_
  refine v_iastk (ws' := [(mo, .inr (10, M1R ma (upd (upd (upd (upd (upd (upd (upd (mZ c c2 1 vc ln rn zs_10 zs_11 zs_20 zs_21 zs_22 zs_25 zs_26 zs_27 zs_29) 37 c.held) 38 (nI c.men)) 39 (nI c.heap)) 40 c.dogs) 41 (nI c.wak)) 42 (nI c.rl)) 43 (nI c.pg)))), ((ma 4), eI D 6 (nF c.kk)), ((ma 5), eI D 6 (nF c.vv)), ((ma 6), eI D 6 c.hd), ((ma 30), eI D 8 (nF c.crf)), ((ma 35), eI D 12 (nF c.bo)), ((ma 44), eI D 6 (nF (uN (uN (uN (uN (uN (uN c2.kk 0 (c.kk 0)) 1 (c.kk 1)) 2 (c.kk 2)) 3 (c.kk 3)) 4 (c.kk 4)) 5 (c.kk 5)))), ((ma 45), eI D 6 (nF (uN (uN (uN (uN (uN (uN c2.vv 0 (c.vv 0)) 1 (c.vv 1)) 2 (c.vv 2)) 3 (c.vv 3)) 4 (c.vv 4)) 5 (c.vv 5)))), ((ma 46), eI D 6 (upd (upd (upd (upd (upd (upd c2.hd 0 (c.hd 0)) 1 (c.hd 1)) 2 (c.hd 2)) 3 (c.hd 3)) 4 (c.hd 4)) 5 (c.hd 5))), ((ma 47), eI D 8 (nF (uN (uN (uN (uN (uN (uN (uN (uN c2.crf 0 (c.crf 0)) 1 (c.crf 1)) 2 (c.crf 2)) 3 (c.crf 3)) 4 (c.crf 4)) 5 (c.crf 5)) 6 (c.crf 6)) 7 (c.crf 7)))), ((ma 48), eI D 12 (nF (uN (uN c2.bo 0 (c.bo 0)) 1 (c.bo 1))))]) O dX10_image_156 10 rfl 1 (rfl) (by omega) (by decide) (by rw [upd_nF]; rfl) ?_
  refine v_iinc (v := 2) (lv' := [(0, .ref mo), (1, .int 2)]) O dX10_image_157 1 rfl (by decide) (by decide) rfl ?_
  refine v_goto O 139 dX10_image_160 (by decide) ?_
  refine v_iload_n O dX10_image_139 1 rfl ?_
  refine v_bipush (v := 12) O dX10_image_140 (by decide) ?_
  refine v_icmp_ge O 163 dX10_image_142 (by decide) (fun c => absurd c (by decide)) (fun _ => ?_)
  refine v_aload_n O dX10_image_145 0 rfl ?_
  refine gf_X10_157 (v := .ref (ma 48)) O rfl dX10_image_146 0 rfl rfl ?_
  refine v_iload_n O dX10_image_149 1 rfl ?_
  refine v_aload_n O dX10_image_150 0 rfl ?_
  refine gf_X10_117 (v := .ref (ma 35)) O rfl dX10_image_151 0 rfl rfl ?_
  refine v_iload_n O dX10_image_154 1 rfl ?_
  refine v_ialdk O dX10_image_155 5 rfl 2 rfl (by omega) (by decide) ?_
  refine v_top (y := nI (c.bo 2)) rfl ?_
  refine v_iastk (ws' := [(mo, .inr (10, M1R ma (upd (upd (upd (upd (upd (upd (upd (mZ c c2 1 vc ln rn zs_10 zs_11 zs_20 zs_21 zs_22 zs_25 zs_26 zs_27 zs_29) 37 c.held) 38 (nI c.men)) 39 (nI c.heap)) 40 c.dogs) 41 (nI c.wak)) 42 (nI c.rl)) 43 (nI c.pg)))), ((ma 4), eI D 6 (nF c.kk)), ((ma 5), eI D 6 (nF c.vv)), ((ma 6), eI D 6 c.hd), ((ma 30), eI D 8 (nF c.crf)), ((ma 35), eI D 12 (nF c.bo)), ((ma 44), eI D 6 (nF (uN (uN (uN (uN (uN (uN c2.kk 0 (c.kk 0)) 1 (c.kk 1)) 2 (c.kk 2)) 3 (c.kk 3)) 4 (c.kk 4)) 5 (c.kk 5)))), ((ma 45), eI D 6 (nF (uN (uN (uN (uN (uN (uN c2.vv 0 (c.vv 0)) 1 (c.vv 1)) 2 (c.vv 2)) 3 (c.vv 3)) 4 (c.vv 4)) 5 (c.vv 5)))), ((ma 46), eI D 6 (upd (upd (upd (upd (upd (upd c2.hd 0 (c.hd 0)) 1 (c.hd 1)) 2 (c.hd 2)) 3 (c.hd 3)) 4 (c.hd 4)) 5 (c.hd 5))), ((ma 47), eI D 8 (nF (uN (uN (uN (uN (uN (uN (uN (uN c2.crf 0 (c.crf 0)) 1 (c.crf 1)) 2 (c.crf 2)) 3 (c.crf 3)) 4 (c.crf 4)) 5 (c.crf 5)) 6 (c.crf 6)) 7 (c.crf 7)))), ((ma 48), eI D 12 (nF (uN (uN (uN c2.bo 0 (c.bo 0)) 1 (c.bo 1)) 2 (c.bo 2))))]) O dX10_image_156 10 rfl 2 (rfl) (by omega) (by decide) (by rw [upd_nF]; rfl) ?_
  refine v_iinc (v := 3) (lv' := [(0, .ref mo), (1, .int 3)]) O dX10_image_157 1 rfl (by decide) (by decide) rfl ?_
  refine v_goto O 139 dX10_image_160 (by decide) ?_
  refine v_iload_n O dX10_image_139 1 rfl ?_
  refine v_bipush (v := 12) O dX10_image_140 (by decide) ?_
  refine v_icmp_ge O 163 dX10_image_142 (by decide) (fun c => absurd c (by decide)) (fun _ => ?_)
  refine v_aload_n O dX10_image_145 0 rfl ?_
  refine gf_X10_157 (v := .ref (ma 48)) O rfl dX10_image_146 0 rfl rfl ?_
  refine v_iload_n O dX10_image_149 1 rfl ?_
  refine v_aload_n O dX10_image_150 0 rfl ?_
  refine gf_X10_117 (v := .ref (ma 35)) O rfl dX10_image_151 0 rfl rfl ?_
  refine v_iload_n O dX10_image_154 1 rfl ?_
  refine v_ialdk O dX10_image_155 5 rfl 3 rfl (by omega) (by decide) ?_
  refine v_top (y := nI (c.bo 3)) rfl ?_
  refine v_iastk (ws' := [(mo, .inr (10, M1R ma (upd (upd (upd (upd (upd (upd (upd (mZ c c2 1 vc ln rn zs_10 zs_11 zs_20 zs_21 zs_22 zs_25 zs_26 zs_27 zs_29) 37 c.held) 38 (nI c.men)) 39 (nI c.heap)) 40 c.dogs) 41 (nI c.wak)) 42 (nI c.rl)) 43 (nI c.pg)))), ((ma 4), eI D 6 (nF c.kk)), ((ma 5), eI D 6 (nF c.vv)), ((ma 6), eI D 6 c.hd), ((ma 30), eI D 8 (nF c.crf)), ((ma 35), eI D 12 (nF c.bo)), ((ma 44), eI D 6 (nF (uN (uN (uN (uN (uN (uN c2.kk 0 (c.kk 0)) 1 (c.kk 1)) 2 (c.kk 2)) 3 (c.kk 3)) 4 (c.kk 4)) 5 (c.kk 5)))), ((ma 45), eI D 6 (nF (uN (uN (uN (uN (uN (uN c2.vv 0 (c.vv 0)) 1 (c.vv 1)) 2 (c.vv 2)) 3 (c.vv 3)) 4 (c.vv 4)) 5 (c.vv 5)))), ((ma 46), eI D 6 (upd (upd (upd (upd (upd (upd c2.hd 0 (c.hd 0)) 1 (c.hd 1)) 2 (c.hd 2)) 3 (c.hd 3)) 4 (c.hd 4)) 5 (c.hd 5))), ((ma 47), eI D 8 (nF (uN (uN (uN (uN (uN (uN (uN (uN c2.crf 0 (c.crf 0)) 1 (c.crf 1)) 2 (c.crf 2)) 3 (c.crf 3)) 4 (c.crf 4)) 5 (c.crf 5)) 6 (c.crf 6)) 7 (c.crf 7)))), ((ma 48), eI D 12 (nF (uN (uN (uN (uN c2.bo 0 (c.bo 0)) 1 (c.bo 1)) 2 (c.bo 2)) 3 (c.bo 3))))]) O dX10_image_156 10 rfl 3 (rfl) (by omega) (by decide) (by rw [upd_nF]; rfl) ?_
  refine v_iinc (v := 4) (lv' := [(0, .ref mo), (1, .int 4)]) O dX10_image_157 1 rfl (by decide) (by decide) rfl ?_
  refine v_goto O 139 dX10_image_160 (by decide) ?_
  refine v_iload_n O dX10_image_139 1 rfl ?_
  refine v_bipush (v := 12) O dX10_image_140 (by decide) ?_
  refine v_icmp_ge O 163 dX10_image_142 (by decide) (fun c => absurd c (by decide)) (fun _ => ?_)
  refine v_aload_n O dX10_image_145 0 rfl ?_
  refine gf_X10_157 (v := .ref (ma 48)) O rfl dX10_image_146 0 rfl rfl ?_
  refine v_iload_n O dX10_image_149 1 rfl ?_
  refine v_aload_n O dX10_image_150 0 rfl ?_
  refine gf_X10_117 (v := .ref (ma 35)) O rfl dX10_image_151 0 rfl rfl ?_
  refine v_iload_n O dX10_image_154 1 rfl ?_
  refine v_ialdk O dX10_image_155 5 rfl 4 rfl (by omega) (by decide) ?_
  refine v_top (y := nI (c.bo 4)) rfl ?_
  refine v_iastk (ws' := [(mo, .inr (10, M1R ma (upd (upd (upd (upd (upd (upd (upd (mZ c c2 1 vc ln rn zs_10 zs_11 zs_20 zs_21 zs_22 zs_25 zs_26 zs_27 zs_29) 37 c.held) 38 (nI c.men)) 39 (nI c.heap)) 40 c.dogs) 41 (nI c.wak)) 42 (nI c.rl)) 43 (nI c.pg)))), ((ma 4), eI D 6 (nF c.kk)), ((ma 5), eI D 6 (nF c.vv)), ((ma 6), eI D 6 c.hd), ((ma 30), eI D 8 (nF c.crf)), ((ma 35), eI D 12 (nF c.bo)), ((ma 44), eI D 6 (nF (uN (uN (uN (uN (uN (uN c2.kk 0 (c.kk 0)) 1 (c.kk 1)) 2 (c.kk 2)) 3 (c.kk 3)) 4 (c.kk 4)) 5 (c.kk 5)))), ((ma 45), eI D 6 (nF (uN (uN (uN (uN (uN (uN c2.vv 0 (c.vv 0)) 1 (c.vv 1)) 2 (c.vv 2)) 3 (c.vv 3)) 4 (c.vv 4)) 5 (c.vv 5)))), ((ma 46), eI D 6 (upd (upd (upd (upd (upd (upd c2.hd 0 (c.hd 0)) 1 (c.hd 1)) 2 (c.hd 2)) 3 (c.hd 3)) 4 (c.hd 4)) 5 (c.hd 5))), ((ma 47), eI D 8 (nF (uN (uN (uN (uN (uN (uN (uN (uN c2.crf 0 (c.crf 0)) 1 (c.crf 1)) 2 (c.crf 2)) 3 (c.crf 3)) 4 (c.crf 4)) 5 (c.crf 5)) 6 (c.crf 6)) 7 (c.crf 7)))), ((ma 48), eI D 12 (nF (uN (uN (uN (uN (uN c2.bo 0 (c.bo 0)) 1 (c.bo 1)) 2 (c.bo 2)) 3 (c.bo 3)) 4 (c.bo 4))))]) O dX10_image_156 10 rfl 4 (rfl) (by omega) (by decide) (by rw [upd_nF]; rfl) ?_
  refine v_iinc (v := 5) (lv' := [(0, .ref mo), (1, .int 5)]) O dX10_image_157 1 rfl (by decide) (by decide) rfl ?_
  refine v_goto O 139 dX10_image_160 (by decide) ?_
  refine v_iload_n O dX10_image_139 1 rfl ?_
  refine v_bipush (v := 12) O dX10_image_140 (by decide) ?_
  refine v_icmp_ge O 163 dX10_image_142 (by decide) (fun c => absurd c (by decide)) (fun _ => ?_)
  refine v_aload_n O dX10_image_145 0 rfl ?_
  refine gf_X10_157 (v := .ref (ma 48)) O rfl dX10_image_146 0 rfl rfl ?_
  refine v_iload_n O dX10_image_149 1 rfl ?_
  refine v_aload_n O dX10_image_150 0 rfl ?_
  refine gf_X10_117 (v := .ref (ma 35)) O rfl dX10_image_151 0 rfl rfl ?_
  refine v_iload_n O dX10_image_154 1 rfl ?_
  refine v_ialdk O dX10_image_155 5 rfl 5 rfl (by omega) (by decide) ?_
  refine v_top (y := nI (c.bo 5)) rfl ?_
  refine v_iastk (ws' := [(mo, .inr (10, M1R ma (upd (upd (upd (upd (upd (upd (upd (mZ c c2 1 vc ln rn zs_10 zs_11 zs_20 zs_21 zs_22 zs_25 zs_26 zs_27 zs_29) 37 c.held) 38 (nI c.men)) 39 (nI c.heap)) 40 c.dogs) 41 (nI c.wak)) 42 (nI c.rl)) 43 (nI c.pg)))), ((ma 4), eI D 6 (nF c.kk)), ((ma 5), eI D 6 (nF c.vv)), ((ma 6), eI D 6 c.hd), ((ma 30), eI D 8 (nF c.crf)), ((ma 35), eI D 12 (nF c.bo)), ((ma 44), eI D 6 (nF (uN (uN (uN (uN (uN (uN c2.kk 0 (c.kk 0)) 1 (c.kk 1)) 2 (c.kk 2)) 3 (c.kk 3)) 4 (c.kk 4)) 5 (c.kk 5)))), ((ma 45), eI D 6 (nF (uN (uN (uN (uN (uN (uN c2.vv 0 (c.vv 0)) 1 (c.vv 1)) 2 (c.vv 2)) 3 (c.vv 3)) 4 (c.vv 4)) 5 (c.vv 5)))), ((ma 46), eI D 6 (upd (upd (upd (upd (upd (upd c2.hd 0 (c.hd 0)) 1 (c.hd 1)) 2 (c.hd 2)) 3 (c.hd 3)) 4 (c.hd 4)) 5 (c.hd 5))), ((ma 47), eI D 8 (nF (uN (uN (uN (uN (uN (uN (uN (uN c2.crf 0 (c.crf 0)) 1 (c.crf 1)) 2 (c.crf 2)) 3 (c.crf 3)) 4 (c.crf 4)) 5 (c.crf 5)) 6 (c.crf 6)) 7 (c.crf 7)))), ((ma 48), eI D 12 (nF (uN (uN (uN (uN (uN (uN c2.bo 0 (c.bo 0)) 1 (c.bo 1)) 2 (c.bo 2)) 3 (c.bo 3)) 4 (c.bo 4)) 5 (c.bo 5))))]) O dX10_image_156 10 rfl 5 (rfl) (by omega) (by decide) (by rw [upd_nF]; rfl) ?_
  refine v_iinc (v := 6) (lv' := [(0, .ref mo), (1, .int 6)]) O dX10_image_157 1 rfl (by decide) (by decide) rfl ?_
  refine v_goto O 139 dX10_image_160 (by decide) ?_
  refine v_iload_n O dX10_image_139 1 rfl ?_
  refine v_bipush (v := 12) O dX10_image_140 (by decide) ?_
  refine v_icmp_ge O 163 dX10_image_142 (by decide) (fun c => absurd c (by decide)) (fun _ => ?_)
  refine v_aload_n O dX10_image_145 0 rfl ?_
  refine gf_X10_157 (v := .ref (ma 48)) O rfl dX10_image_146 0 rfl rfl ?_
  refine v_iload_n O dX10_image_149 1 rfl ?_
  refine v_aload_n O dX10_image_150 0 rfl ?_
  refine gf_X10_117 (v := .ref (ma 35)) O rfl dX10_image_151 0 rfl rfl ?_
  refine v_iload_n O dX10_image_154 1 rfl ?_
  refine v_ialdk O dX10_image_155 5 rfl 6 rfl (by omega) (by decide) ?_
  refine v_top (y := nI (c.bo 6)) rfl ?_
  refine v_iastk (ws' := [(mo, .inr (10, M1R ma (upd (upd (upd (upd (upd (upd (upd (mZ c c2 1 vc ln rn zs_10 zs_11 zs_20 zs_21 zs_22 zs_25 zs_26 zs_27 zs_29) 37 c.held) 38 (nI c.men)) 39 (nI c.heap)) 40 c.dogs) 41 (nI c.wak)) 42 (nI c.rl)) 43 (nI c.pg)))), ((ma 4), eI D 6 (nF c.kk)), ((ma 5), eI D 6 (nF c.vv)), ((ma 6), eI D 6 c.hd), ((ma 30), eI D 8 (nF c.crf)), ((ma 35), eI D 12 (nF c.bo)), ((ma 44), eI D 6 (nF (uN (uN (uN (uN (uN (uN c2.kk 0 (c.kk 0)) 1 (c.kk 1)) 2 (c.kk 2)) 3 (c.kk 3)) 4 (c.kk 4)) 5 (c.kk 5)))), ((ma 45), eI D 6 (nF (uN (uN (uN (uN (uN (uN c2.vv 0 (c.vv 0)) 1 (c.vv 1)) 2 (c.vv 2)) 3 (c.vv 3)) 4 (c.vv 4)) 5 (c.vv 5)))), ((ma 46), eI D 6 (upd (upd (upd (upd (upd (upd c2.hd 0 (c.hd 0)) 1 (c.hd 1)) 2 (c.hd 2)) 3 (c.hd 3)) 4 (c.hd 4)) 5 (c.hd 5))), ((ma 47), eI D 8 (nF (uN (uN (uN (uN (uN (uN (uN (uN c2.crf 0 (c.crf 0)) 1 (c.crf 1)) 2 (c.crf 2)) 3 (c.crf 3)) 4 (c.crf 4)) 5 (c.crf 5)) 6 (c.crf 6)) 7 (c.crf 7)))), ((ma 48), eI D 12 (nF (uN (uN (uN (uN (uN (uN (uN c2.bo 0 (c.bo 0)) 1 (c.bo 1)) 2 (c.bo 2)) 3 (c.bo 3)) 4 (c.bo 4)) 5 (c.bo 5)) 6 (c.bo 6))))]) O dX10_image_156 10 rfl 6 (rfl) (by omega) (by decide) (by rw [upd_nF]; rfl) ?_
  refine v_iinc (v := 7) (lv' := [(0, .ref mo), (1, .int 7)]) O dX10_image_157 1 rfl (by decide) (by decide) rfl ?_
  refine v_goto O 139 dX10_image_160 (by decide) ?_
  refine v_iload_n O dX10_image_139 1 rfl ?_
  refine v_bipush (v := 12) O dX10_image_140 (by decide) ?_
  refine v_icmp_ge O 163 dX10_image_142 (by decide) (fun c => absurd c (by decide)) (fun _ => ?_)
  refine v_aload_n O dX10_image_145 0 rfl ?_
  refine gf_X10_157 (v := .ref (ma 48)) O rfl dX10_image_146 0 rfl rfl ?_
  refine v_iload_n O dX10_image_149 1 rfl ?_
  refine v_aload_n O dX10_image_150 0 rfl ?_
  refine gf_X10_117 (v := .ref (ma 35)) O rfl dX10_image_151 0 rfl rfl ?_
  refine v_iload_n O dX10_image_154 1 rfl ?_
  refine v_ialdk O dX10_image_155 5 rfl 7 rfl (by omega) (by decide) ?_
  refine v_top (y := nI (c.bo 7)) rfl ?_
  refine v_iastk (ws' := [(mo, .inr (10, M1R ma (upd (upd (upd (upd (upd (upd (upd (mZ c c2 1 vc ln rn zs_10 zs_11 zs_20 zs_21 zs_22 zs_25 zs_26 zs_27 zs_29) 37 c.held) 38 (nI c.men)) 39 (nI c.heap)) 40 c.dogs) 41 (nI c.wak)) 42 (nI c.rl)) 43 (nI c.pg)))), ((ma 4), eI D 6 (nF c.kk)), ((ma 5), eI D 6 (nF c.vv)), ((ma 6), eI D 6 c.hd), ((ma 30), eI D 8 (nF c.crf)), ((ma 35), eI D 12 (nF c.bo)), ((ma 44), eI D 6 (nF (uN (uN (uN (uN (uN (uN c2.kk 0 (c.kk 0)) 1 (c.kk 1)) 2 (c.kk 2)) 3 (c.kk 3)) 4 (c.kk 4)) 5 (c.kk 5)))), ((ma 45), eI D 6 (nF (uN (uN (uN (uN (uN (uN c2.vv 0 (c.vv 0)) 1 (c.vv 1)) 2 (c.vv 2)) 3 (c.vv 3)) 4 (c.vv 4)) 5 (c.vv 5)))), ((ma 46), eI D 6 (upd (upd (upd (upd (upd (upd c2.hd 0 (c.hd 0)) 1 (c.hd 1)) 2 (c.hd 2)) 3 (c.hd 3)) 4 (c.hd 4)) 5 (c.hd 5))), ((ma 47), eI D 8 (nF (uN (uN (uN (uN (uN (uN (uN (uN c2.crf 0 (c.crf 0)) 1 (c.crf 1)) 2 (c.crf 2)) 3 (c.crf 3)) 4 (c.crf 4)) 5 (c.crf 5)) 6 (c.crf 6)) 7 (c.crf 7)))), ((ma 48), eI D 12 (nF (uN (uN (uN (uN (uN (uN (uN (uN c2.bo 0 (c.bo 0)) 1 (c.bo 1)) 2 (c.bo 2)) 3 (c.bo 3)) 4 (c.bo 4)) 5 (c.bo 5)) 6 (c.bo 6)) 7 (c.bo 7))))]) O dX10_image_156 10 rfl 7 (rfl) (by omega) (by decide) (by rw [upd_nF]; rfl) ?_
  refine v_iinc (v := 8) (lv' := [(0, .ref mo), (1, .int 8)]) O dX10_image_157 1 rfl (by decide) (by decide) rfl ?_
  refine v_goto O 139 dX10_image_160 (by decide) ?_
  refine v_iload_n O dX10_image_139 1 rfl ?_
  refine v_bipush (v := 12) O dX10_image_140 (by decide) ?_
  refine v_icmp_ge O 163 dX10_image_142 (by decide) (fun c => absurd c (by decide)) (fun _ => ?_)
  refine v_aload_n O dX10_image_145 0 rfl ?_
  refine gf_X10_157 (v := .ref (ma 48)) O rfl dX10_image_146 0 rfl rfl ?_
  refine v_iload_n O dX10_image_149 1 rfl ?_
  refine v_aload_n O dX10_image_150 0 rfl ?_
  refine gf_X10_117 (v := .ref (ma 35)) O rfl dX10_image_151 0 rfl rfl ?_
  refine v_iload_n O dX10_image_154 1 rfl ?_
  refine v_ialdk O dX10_image_155 5 rfl 8 rfl (by omega) (by decide) ?_
  refine v_top (y := nI (c.bo 8)) rfl ?_
  refine v_iastk (ws' := [(mo, .inr (10, M1R ma (upd (upd (upd (upd (upd (upd (upd (mZ c c2 1 vc ln rn zs_10 zs_11 zs_20 zs_21 zs_22 zs_25 zs_26 zs_27 zs_29) 37 c.held) 38 (nI c.men)) 39 (nI c.heap)) 40 c.dogs) 41 (nI c.wak)) 42 (nI c.rl)) 43 (nI c.pg)))), ((ma 4), eI D 6 (nF c.kk)), ((ma 5), eI D 6 (nF c.vv)), ((ma 6), eI D 6 c.hd), ((ma 30), eI D 8 (nF c.crf)), ((ma 35), eI D 12 (nF c.bo)), ((ma 44), eI D 6 (nF (uN (uN (uN (uN (uN (uN c2.kk 0 (c.kk 0)) 1 (c.kk 1)) 2 (c.kk 2)) 3 (c.kk 3)) 4 (c.kk 4)) 5 (c.kk 5)))), ((ma 45), eI D 6 (nF (uN (uN (uN (uN (uN (uN c2.vv 0 (c.vv 0)) 1 (c.vv 1)) 2 (c.vv 2)) 3 (c.vv 3)) 4 (c.vv 4)) 5 (c.vv 5)))), ((ma 46), eI D 6 (upd (upd (upd (upd (upd (upd c2.hd 0 (c.hd 0)) 1 (c.hd 1)) 2 (c.hd 2)) 3 (c.hd 3)) 4 (c.hd 4)) 5 (c.hd 5))), ((ma 47), eI D 8 (nF (uN (uN (uN (uN (uN (uN (uN (uN c2.crf 0 (c.crf 0)) 1 (c.crf 1)) 2 (c.crf 2)) 3 (c.crf 3)) 4 (c.crf 4)) 5 (c.crf 5)) 6 (c.crf 6)) 7 (c.crf 7)))), ((ma 48), eI D 12 (nF (uN (uN (uN (uN (uN (uN (uN (uN (uN c2.bo 0 (c.bo 0)) 1 (c.bo 1)) 2 (c.bo 2)) 3 (c.bo 3)) 4 (c.bo 4)) 5 (c.bo 5)) 6 (c.bo 6)) 7 (c.bo 7)) 8 (c.bo 8))))]) O dX10_image_156 10 rfl 8 (rfl) (by omega) (by decide) (by rw [upd_nF]; rfl) ?_
  refine v_iinc (v := 9) (lv' := [(0, .ref mo), (1, .int 9)]) O dX10_image_157 1 rfl (by decide) (by decide) rfl ?_
  refine v_goto O 139 dX10_image_160 (by decide) ?_
  refine v_iload_n O dX10_image_139 1 rfl ?_
  refine v_bipush (v := 12) O dX10_image_140 (by decide) ?_
  refine v_icmp_ge O 163 dX10_image_142 (by decide) (fun c => absurd c (by decide)) (fun _ => ?_)
  refine v_aload_n O dX10_image_145 0 rfl ?_
  refine gf_X10_157 (v := .ref (ma 48)) O rfl dX10_image_146 0 rfl rfl ?_
  refine v_iload_n O dX10_image_149 1 rfl ?_
  refine v_aload_n O dX10_image_150 0 rfl ?_
  refine gf_X10_117 (v := .ref (ma 35)) O rfl dX10_image_151 0 rfl rfl ?_
  refine v_iload_n O dX10_image_154 1 rfl ?_
  refine v_ialdk O dX10_image_155 5 rfl 9 rfl (by omega) (by decide) ?_
  refine v_top (y := nI (c.bo 9)) rfl ?_
  refine v_iastk (ws' := [(mo, .inr (10, M1R ma (upd (upd (upd (upd (upd (upd (upd (mZ c c2 1 vc ln rn zs_10 zs_11 zs_20 zs_21 zs_22 zs_25 zs_26 zs_27 zs_29) 37 c.held) 38 (nI c.men)) 39 (nI c.heap)) 40 c.dogs) 41 (nI c.wak)) 42 (nI c.rl)) 43 (nI c.pg)))), ((ma 4), eI D 6 (nF c.kk)), ((ma 5), eI D 6 (nF c.vv)), ((ma 6), eI D 6 c.hd), ((ma 30), eI D 8 (nF c.crf)), ((ma 35), eI D 12 (nF c.bo)), ((ma 44), eI D 6 (nF (uN (uN (uN (uN (uN (uN c2.kk 0 (c.kk 0)) 1 (c.kk 1)) 2 (c.kk 2)) 3 (c.kk 3)) 4 (c.kk 4)) 5 (c.kk 5)))), ((ma 45), eI D 6 (nF (uN (uN (uN (uN (uN (uN c2.vv 0 (c.vv 0)) 1 (c.vv 1)) 2 (c.vv 2)) 3 (c.vv 3)) 4 (c.vv 4)) 5 (c.vv 5)))), ((ma 46), eI D 6 (upd (upd (upd (upd (upd (upd c2.hd 0 (c.hd 0)) 1 (c.hd 1)) 2 (c.hd 2)) 3 (c.hd 3)) 4 (c.hd 4)) 5 (c.hd 5))), ((ma 47), eI D 8 (nF (uN (uN (uN (uN (uN (uN (uN (uN c2.crf 0 (c.crf 0)) 1 (c.crf 1)) 2 (c.crf 2)) 3 (c.crf 3)) 4 (c.crf 4)) 5 (c.crf 5)) 6 (c.crf 6)) 7 (c.crf 7)))), ((ma 48), eI D 12 (nF (uN (uN (uN (uN (uN (uN (uN (uN (uN (uN c2.bo 0 (c.bo 0)) 1 (c.bo 1)) 2 (c.bo 2)) 3 (c.bo 3)) 4 (c.bo 4)) 5 (c.bo 5)) 6 (c.bo 6)) 7 (c.bo 7)) 8 (c.bo 8)) 9 (c.bo 9))))]) O dX10_image_156 10 rfl 9 (rfl) (by omega) (by decide) (by rw [upd_nF]; rfl) ?_
  refine v_iinc (v := 10) (lv' := [(0, .ref mo), (1, .int 10)]) O dX10_image_157 1 rfl (by decide) (by decide) rfl ?_
  refine v_goto O 139 dX10_image_160 (by decide) ?_
  refine v_iload_n O dX10_image_139 1 rfl ?_
  refine v_bipush (v := 12) O dX10_image_140 (by decide) ?_
  refine v_icmp_ge O 163 dX10_image_142 (by decide) (fun c => absurd c (by decide)) (fun _ => ?_)
  refine v_aload_n O dX10_image_145 0 rfl ?_
  refine gf_X10_157 (v := .ref (ma 48)) O rfl dX10_image_146 0 rfl rfl ?_
  refine v_iload_n O dX10_image_149 1 rfl ?_
  refine v_aload_n O dX10_image_150 0 rfl ?_
  refine gf_X10_117 (v := .ref (ma 35)) O rfl dX10_image_151 0 rfl rfl ?_
  refine v_iload_n O dX10_image_154 1 rfl ?_
  refine v_ialdk O dX10_image_155 5 rfl 10 rfl (by omega) (by decide) ?_
  refine v_top (y := nI (c.bo 10)) rfl ?_
  refine v_iastk (ws' := [(mo, .inr (10, M1R ma (upd (upd (upd (upd (upd (upd (upd (mZ c c2 1 vc ln rn zs_10 zs_11 zs_20 zs_21 zs_22 zs_25 zs_26 zs_27 zs_29) 37 c.held) 38 (nI c.men)) 39 (nI c.heap)) 40 c.dogs) 41 (nI c.wak)) 42 (nI c.rl)) 43 (nI c.pg)))), ((ma 4), eI D 6 (nF c.kk)), ((ma 5), eI D 6 (nF c.vv)), ((ma 6), eI D 6 c.hd), ((ma 30), eI D 8 (nF c.crf)), ((ma 35), eI D 12 (nF c.bo)), ((ma 44), eI D 6 (nF (uN (uN (uN (uN (uN (uN c2.kk 0 (c.kk 0)) 1 (c.kk 1)) 2 (c.kk 2)) 3 (c.kk 3)) 4 (c.kk 4)) 5 (c.kk 5)))), ((ma 45), eI D 6 (nF (uN (uN (uN (uN (uN (uN c2.vv 0 (c.vv 0)) 1 (c.vv 1)) 2 (c.vv 2)) 3 (c.vv 3)) 4 (c.vv 4)) 5 (c.vv 5)))), ((ma 46), eI D 6 (upd (upd (upd (upd (upd (upd c2.hd 0 (c.hd 0)) 1 (c.hd 1)) 2 (c.hd 2)) 3 (c.hd 3)) 4 (c.hd 4)) 5 (c.hd 5))), ((ma 47), eI D 8 (nF (uN (uN (uN (uN (uN (uN (uN (uN c2.crf 0 (c.crf 0)) 1 (c.crf 1)) 2 (c.crf 2)) 3 (c.crf 3)) 4 (c.crf 4)) 5 (c.crf 5)) 6 (c.crf 6)) 7 (c.crf 7)))), ((ma 48), eI D 12 (nF (uN (uN (uN (uN (uN (uN (uN (uN (uN (uN (uN c2.bo 0 (c.bo 0)) 1 (c.bo 1)) 2 (c.bo 2)) 3 (c.bo 3)) 4 (c.bo 4)) 5 (c.bo 5)) 6 (c.bo 6)) 7 (c.bo 7)) 8 (c.bo 8)) 9 (c.bo 9)) 10 (c.bo 10))))]) O dX10_image_156 10 rfl 10 (rfl) (by omega) (by decide) (by rw [upd_nF]; rfl) ?_
  refine v_iinc (v := 11) (lv' := [(0, .ref mo), (1, .int 11)]) O dX10_image_157 1 rfl (by decide) (by decide) rfl ?_
  refine v_goto O 139 dX10_image_160 (by decide) ?_
  refine v_iload_n O dX10_image_139 1 rfl ?_
  refine v_bipush (v := 12) O dX10_image_140 (by decide) ?_
  refine v_icmp_ge O 163 dX10_image_142 (by decide) (fun c => absurd c (by decide)) (fun _ => ?_)
  refine v_aload_n O dX10_image_145 0 rfl ?_
  refine gf_X10_157 (v := .ref (ma 48)) O rfl dX10_image_146 0 rfl rfl ?_
  refine v_iload_n O dX10_image_149 1 rfl ?_
  refine v_aload_n O dX10_image_150 0 rfl ?_
  refine gf_X10_117 (v := .ref (ma 35)) O rfl dX10_image_151 0 rfl rfl ?_
  refine v_iload_n O dX10_image_154 1 rfl ?_
  refine v_ialdk O dX10_image_155 5 rfl 11 rfl (by omega) (by decide) ?_
  refine v_top (y := nI (c.bo 11)) rfl ?_
  refine v_iastk (ws' := [(mo, .inr (10, M1R ma (upd (upd (upd (upd (upd (upd (upd (mZ c c2 1 vc ln rn zs_10 zs_11 zs_20 zs_21 zs_22 zs_25 zs_26 zs_27 zs_29) 37 c.held) 38 (nI c.men)) 39 (nI c.heap)) 40 c.dogs) 41 (nI c.wak)) 42 (nI c.rl)) 43 (nI c.pg)))), ((ma 4), eI D 6 (nF c.kk)), ((ma 5), eI D 6 (nF c.vv)), ((ma 6), eI D 6 c.hd), ((ma 30), eI D 8 (nF c.crf)), ((ma 35), eI D 12 (nF c.bo)), ((ma 44), eI D 6 (nF (uN (uN (uN (uN (uN (uN c2.kk 0 (c.kk 0)) 1 (c.kk 1)) 2 (c.kk 2)) 3 (c.kk 3)) 4 (c.kk 4)) 5 (c.kk 5)))), ((ma 45), eI D 6 (nF (uN (uN (uN (uN (uN (uN c2.vv 0 (c.vv 0)) 1 (c.vv 1)) 2 (c.vv 2)) 3 (c.vv 3)) 4 (c.vv 4)) 5 (c.vv 5)))), ((ma 46), eI D 6 (upd (upd (upd (upd (upd (upd c2.hd 0 (c.hd 0)) 1 (c.hd 1)) 2 (c.hd 2)) 3 (c.hd 3)) 4 (c.hd 4)) 5 (c.hd 5))), ((ma 47), eI D 8 (nF (uN (uN (uN (uN (uN (uN (uN (uN c2.crf 0 (c.crf 0)) 1 (c.crf 1)) 2 (c.crf 2)) 3 (c.crf 3)) 4 (c.crf 4)) 5 (c.crf 5)) 6 (c.crf 6)) 7 (c.crf 7)))), ((ma 48), eI D 12 (nF (uN (uN (uN (uN (uN (uN (uN (uN (uN (uN (uN (uN c2.bo 0 (c.bo 0)) 1 (c.bo 1)) 2 (c.bo 2)) 3 (c.bo 3)) 4 (c.bo 4)) 5 (c.bo 5)) 6 (c.bo 6)) 7 (c.bo 7)) 8 (c.bo 8)) 9 (c.bo 9)) 10 (c.bo 10)) 11 (c.bo 11))))]) O dX10_image_156 10 rfl 11 (rfl) (by omega) (by decide) (by rw [upd_nF]; rfl) ?_
  refine v_iinc (v := 12) (lv' := [(0, .ref mo), (1, .int 12)]) O dX10_image_157 1 rfl (by decide) (by decide) rfl ?_
  refine v_goto O 139 dX10_image_160 (by decide) ?_
  refine v_iload_n O dX10_image_139 1 rfl ?_
  refine v_bipush (v := 12) O dX10_image_140 (by decide) ?_
  refine v_icmp_ge O 163 dX10_image_142 (by decide) (fun _ => ?_) (fun c => absurd c (by decide))
  refine v_congI (g := nF c.kk) (ws' := [(mo, .inr (10, M1R ma (upd (upd (upd (upd (upd (upd (upd (mZ c c2 1 vc ln rn zs_10 zs_11 zs_20 zs_21 zs_22 zs_25 zs_26 zs_27 zs_29) 37 c.held) 38 (nI c.men)) 39 (nI c.heap)) 40 c.dogs) 41 (nI c.wak)) 42 (nI c.rl)) 43 (nI c.pg)))), ((ma 4), eI D 6 (nF c.kk)), ((ma 5), eI D 6 (nF c.vv)), ((ma 6), eI D 6 c.hd), ((ma 30), eI D 8 (nF c.crf)), ((ma 35), eI D 12 (nF c.bo)), ((ma 44), eI D 6 (nF c.kk)), ((ma 45), eI D 6 (nF (uN (uN (uN (uN (uN (uN c2.vv 0 (c.vv 0)) 1 (c.vv 1)) 2 (c.vv 2)) 3 (c.vv 3)) 4 (c.vv 4)) 5 (c.vv 5)))), ((ma 46), eI D 6 (upd (upd (upd (upd (upd (upd c2.hd 0 (c.hd 0)) 1 (c.hd 1)) 2 (c.hd 2)) 3 (c.hd 3)) 4 (c.hd 4)) 5 (c.hd 5))), ((ma 47), eI D 8 (nF (uN (uN (uN (uN (uN (uN (uN (uN c2.crf 0 (c.crf 0)) 1 (c.crf 1)) 2 (c.crf 2)) 3 (c.crf 3)) 4 (c.crf 4)) 5 (c.crf 5)) 6 (c.crf 6)) 7 (c.crf 7)))), ((ma 48), eI D 12 (nF (uN (uN (uN (uN (uN (uN (uN (uN (uN (uN (uN (uN c2.bo 0 (c.bo 0)) 1 (c.bo 1)) 2 (c.bo 2)) 3 (c.bo 3)) 4 (c.bo 4)) 5 (c.bo 5)) 6 (c.bo 6)) 7 (c.bo 7)) 8 (c.bo 8)) 9 (c.bo 9)) 10 (c.bo 10)) 11 (c.bo 11))))]) 6 rfl (fun j hj => by rcases (show j = 0 ∨ j = 1 ∨ j = 2 ∨ j = 3 ∨ j = 4 ∨ j = 5 by omega) with rfl | rfl | rfl | rfl | rfl | rfl <;> rfl) rfl ?_
  refine v_congI (g := nF c.vv) (ws' := [(mo, .inr (10, M1R ma (upd (upd (upd (upd (upd (upd (upd (mZ c c2 1 vc ln rn zs_10 zs_11 zs_20 zs_21 zs_22 zs_25 zs_26 zs_27 zs_29) 37 c.held) 38 (nI c.men)) 39 (nI c.heap)) 40 c.dogs) 41 (nI c.wak)) 42 (nI c.rl)) 43 (nI c.pg)))), ((ma 4), eI D 6 (nF c.kk)), ((ma 5), eI D 6 (nF c.vv)), ((ma 6), eI D 6 c.hd), ((ma 30), eI D 8 (nF c.crf)), ((ma 35), eI D 12 (nF c.bo)), ((ma 44), eI D 6 (nF c.kk)), ((ma 45), eI D 6 (nF c.vv)), ((ma 46), eI D 6 (upd (upd (upd (upd (upd (upd c2.hd 0 (c.hd 0)) 1 (c.hd 1)) 2 (c.hd 2)) 3 (c.hd 3)) 4 (c.hd 4)) 5 (c.hd 5))), ((ma 47), eI D 8 (nF (uN (uN (uN (uN (uN (uN (uN (uN c2.crf 0 (c.crf 0)) 1 (c.crf 1)) 2 (c.crf 2)) 3 (c.crf 3)) 4 (c.crf 4)) 5 (c.crf 5)) 6 (c.crf 6)) 7 (c.crf 7)))), ((ma 48), eI D 12 (nF (uN (uN (uN (uN (uN (uN (uN (uN (uN (uN (uN (uN c2.bo 0 (c.bo 0)) 1 (c.bo 1)) 2 (c.bo 2)) 3 (c.bo 3)) 4 (c.bo 4)) 5 (c.bo 5)) 6 (c.bo 6)) 7 (c.bo 7)) 8 (c.bo 8)) 9 (c.bo 9)) 10 (c.bo 10)) 11 (c.bo 11))))]) 7 rfl (fun j hj => by rcases (show j = 0 ∨ j = 1 ∨ j = 2 ∨ j = 3 ∨ j = 4 ∨ j = 5 by omega) with rfl | rfl | rfl | rfl | rfl | rfl <;> rfl) rfl ?_
  refine v_congI (g := c.hd) (ws' := [(mo, .inr (10, M1R ma (upd (upd (upd (upd (upd (upd (upd (mZ c c2 1 vc ln rn zs_10 zs_11 zs_20 zs_21 zs_22 zs_25 zs_26 zs_27 zs_29) 37 c.held) 38 (nI c.men)) 39 (nI c.heap)) 40 c.dogs) 41 (nI c.wak)) 42 (nI c.rl)) 43 (nI c.pg)))), ((ma 4), eI D 6 (nF c.kk)), ((ma 5), eI D 6 (nF c.vv)), ((ma 6), eI D 6 c.hd), ((ma 30), eI D 8 (nF c.crf)), ((ma 35), eI D 12 (nF c.bo)), ((ma 44), eI D 6 (nF c.kk)), ((ma 45), eI D 6 (nF c.vv)), ((ma 46), eI D 6 c.hd), ((ma 47), eI D 8 (nF (uN (uN (uN (uN (uN (uN (uN (uN c2.crf 0 (c.crf 0)) 1 (c.crf 1)) 2 (c.crf 2)) 3 (c.crf 3)) 4 (c.crf 4)) 5 (c.crf 5)) 6 (c.crf 6)) 7 (c.crf 7)))), ((ma 48), eI D 12 (nF (uN (uN (uN (uN (uN (uN (uN (uN (uN (uN (uN (uN c2.bo 0 (c.bo 0)) 1 (c.bo 1)) 2 (c.bo 2)) 3 (c.bo 3)) 4 (c.bo 4)) 5 (c.bo 5)) 6 (c.bo 6)) 7 (c.bo 7)) 8 (c.bo 8)) 9 (c.bo 9)) 10 (c.bo 10)) 11 (c.bo 11))))]) 8 rfl (fun j hj => by rcases (show j = 0 ∨ j = 1 ∨ j = 2 ∨ j = 3 ∨ j = 4 ∨ j = 5 by omega) with rfl | rfl | rfl | rfl | rfl | rfl <;> rfl) rfl ?_
  refine v_congI (g := nF c.crf) (ws' := [(mo, .inr (10, M1R ma (upd (upd (upd (upd (upd (upd (upd (mZ c c2 1 vc ln rn zs_10 zs_11 zs_20 zs_21 zs_22 zs_25 zs_26 zs_27 zs_29) 37 c.held) 38 (nI c.men)) 39 (nI c.heap)) 40 c.dogs) 41 (nI c.wak)) 42 (nI c.rl)) 43 (nI c.pg)))), ((ma 4), eI D 6 (nF c.kk)), ((ma 5), eI D 6 (nF c.vv)), ((ma 6), eI D 6 c.hd), ((ma 30), eI D 8 (nF c.crf)), ((ma 35), eI D 12 (nF c.bo)), ((ma 44), eI D 6 (nF c.kk)), ((ma 45), eI D 6 (nF c.vv)), ((ma 46), eI D 6 c.hd), ((ma 47), eI D 8 (nF c.crf)), ((ma 48), eI D 12 (nF (uN (uN (uN (uN (uN (uN (uN (uN (uN (uN (uN (uN c2.bo 0 (c.bo 0)) 1 (c.bo 1)) 2 (c.bo 2)) 3 (c.bo 3)) 4 (c.bo 4)) 5 (c.bo 5)) 6 (c.bo 6)) 7 (c.bo 7)) 8 (c.bo 8)) 9 (c.bo 9)) 10 (c.bo 10)) 11 (c.bo 11))))]) 9 rfl (fun j hj => by rcases (show j = 0 ∨ j = 1 ∨ j = 2 ∨ j = 3 ∨ j = 4 ∨ j = 5 ∨ j = 6 ∨ j = 7 by omega) with rfl | rfl | rfl | rfl | rfl | rfl | rfl | rfl <;> rfl) rfl ?_
  refine v_congI (g := nF c.bo) (ws' := [(mo, .inr (10, M1R ma (upd (upd (upd (upd (upd (upd (upd (mZ c c2 1 vc ln rn zs_10 zs_11 zs_20 zs_21 zs_22 zs_25 zs_26 zs_27 zs_29) 37 c.held) 38 (nI c.men)) 39 (nI c.heap)) 40 c.dogs) 41 (nI c.wak)) 42 (nI c.rl)) 43 (nI c.pg)))), ((ma 4), eI D 6 (nF c.kk)), ((ma 5), eI D 6 (nF c.vv)), ((ma 6), eI D 6 c.hd), ((ma 30), eI D 8 (nF c.crf)), ((ma 35), eI D 12 (nF c.bo)), ((ma 44), eI D 6 (nF c.kk)), ((ma 45), eI D 6 (nF c.vv)), ((ma 46), eI D 6 c.hd), ((ma 47), eI D 8 (nF c.crf)), ((ma 48), eI D 12 (nF c.bo))]) 10 rfl (fun j hj => by rcases (show j = 0 ∨ j = 1 ∨ j = 2 ∨ j = 3 ∨ j = 4 ∨ j = 5 ∨ j = 6 ∨ j = 7 ∨ j = 8 ∨ j = 9 ∨ j = 10 ∨ j = 11 by omega) with rfl | rfl | rfl | rfl | rfl | rfl | rfl | rfl | rfl | rfl | rfl | rfl <;> rfl) rfl ?_
  refine v_aload_n O dX10_image_163 0 rfl ?_
  refine gf_X10_7 (v := .int (nI c.men)) O rfl dX10_image_164 0 rfl rfl ?_
  exact v_ireturn O T rfl rfl (by decide) (by decide) dX10_image_167 (⟨zs_10, zs_11, zs_20, zs_21, zs_22, zs_25, zs_26, zs_27, zs_29, rfl, rfl⟩)
set_option maxRecDepth 100000 in
set_option maxHeartbeats 4000000 in
theorem sp_X10_undo_1 {D : G} {mo : Nat} {ma : Nat → Nat} {c : CS} {c2 : CS} {tk : Int32} {vc : Nat} {ln : Nat} {rn : Nat} {zs_10 : Int32} {zs_11 : Int32} {zs_20 : Int32} {zs_21 : Int32} {zs_22 : Int32} {zs_25 : Int32} {zs_26 : Int32} {zs_27 : Int32} {zs_29 : Int32} (ht : tk = 0) : Sp D mX10_undo 30 0 0 [.ref mo] [(mo, .inr (10, M1R ma (mZ c c2 tk vc ln rn zs_10 zs_11 zs_20 zs_21 zs_22 zs_25 zs_26 zs_27 zs_29)))] (fun r w => ∃ zs2_10 : Int32, ∃ zs2_11 : Int32, ∃ zs2_20 : Int32, ∃ zs2_21 : Int32, ∃ zs2_22 : Int32, ∃ zs2_25 : Int32, ∃ zs2_26 : Int32, ∃ zs2_27 : Int32, ∃ zs2_29 : Int32, r = some (.int (-3)) ∧ w = [(mo, .inr (10, M1R ma (mZ c c2 tk vc ln rn zs2_10 zs2_11 zs2_20 zs2_21 zs2_22 zs2_25 zs2_26 zs2_27 zs2_29)))]) := by
  refine Sp.of (by decide) (Nat.le_of_ble_eq_true rfl) (fun X O T => ?_)
  refine v_eq (lv' := [(0, .ref mo)]) rfl rfl rfl rfl ?_
  refine v_aload_n O dX10_undo_0 0 rfl ?_
  refine gf_X10_120 (v := .int tk) O rfl dX10_undo_1 0 rfl rfl ?_
  refine v_if_ne O 10 dX10_undo_4 (by decide) (fun z1 => ?_) (fun z1 => ?_)
  · skip
    exact absurd ht z1
  · skip
    refine v_bipush (v := -3) O dX10_undo_7 (by decide) ?_
    exact v_ireturn O T rfl rfl (by decide) (by decide) dX10_undo_9 (⟨zs_10, zs_11, zs_20, zs_21, zs_22, zs_25, zs_26, zs_27, zs_29, rfl, rfl⟩)
set_option maxRecDepth 100000 in
set_option maxHeartbeats 4000000 in
theorem sp_X10_undo_2 {D : G} {mo : Nat} {ma : Nat → Nat} {c : CS} {c2 : CS} {tk : Int32} {vc : Nat} {ln : Nat} {rn : Nat} {zs_10 : Int32} {zs_11 : Int32} {zs_20 : Int32} {zs_21 : Int32} {zs_22 : Int32} {zs_25 : Int32} {zs_26 : Int32} {zs_27 : Int32} {zs_29 : Int32} (hC : cOk c) (ht : tk = 1) : Sp D mX10_undo 30 0 0 [.ref mo] [(mo, .inr (10, M1R ma (mZ c c2 tk vc ln rn zs_10 zs_11 zs_20 zs_21 zs_22 zs_25 zs_26 zs_27 zs_29))), ((ma 4), eI D 6 (nF c.kk)), ((ma 5), eI D 6 (nF c.vv)), ((ma 6), eI D 6 c.hd), ((ma 30), eI D 8 (nF c.crf)), ((ma 35), eI D 12 (nF c.bo)), ((ma 44), eI D 6 (nF c2.kk)), ((ma 45), eI D 6 (nF c2.vv)), ((ma 46), eI D 6 c2.hd), ((ma 47), eI D 8 (nF c2.crf)), ((ma 48), eI D 12 (nF c2.bo))] (fun r w => ∃ zs2_10 : Int32, ∃ zs2_11 : Int32, ∃ zs2_20 : Int32, ∃ zs2_21 : Int32, ∃ zs2_22 : Int32, ∃ zs2_25 : Int32, ∃ zs2_26 : Int32, ∃ zs2_27 : Int32, ∃ zs2_29 : Int32, r = some (.int (nI c2.men)) ∧ w = [(mo, .inr (10, M1R ma (mZ c2 c2 tk vc ln rn zs2_10 zs2_11 zs2_20 zs2_21 zs2_22 zs2_25 zs2_26 zs2_27 zs2_29))), ((ma 4), eI D 6 (nF c2.kk)), ((ma 5), eI D 6 (nF c2.vv)), ((ma 6), eI D 6 c2.hd), ((ma 30), eI D 8 (nF c2.crf)), ((ma 35), eI D 12 (nF c2.bo)), ((ma 44), eI D 6 (nF c2.kk)), ((ma 45), eI D 6 (nF c2.vv)), ((ma 46), eI D 6 c2.hd), ((ma 47), eI D 8 (nF c2.crf)), ((ma 48), eI D 12 (nF c2.bo))]) := by
  refine Sp.of (by decide) (Nat.le_of_ble_eq_true rfl) (fun X O T => ?_)
  refine v_eq (lv' := [(0, .ref mo)]) rfl rfl rfl rfl ?_
  have z_m := hC.1
  have z_hp := hC.2.2.2.1
  have z_wk := hC.2.2.2.2.1
  have z_rl := hC.2.2.2.2.2.1
  have z_pg := hC.2.2.2.2.2.2.2.1
  refine v_aload_n O dX10_undo_0 0 rfl ?_
  refine gf_X10_120 (v := .int tk) O rfl dX10_undo_1 0 rfl rfl ?_
  refine v_if_ne O 10 dX10_undo_4 (by decide) (fun z1 => ?_) (fun z1 => ?_)
  · skip
    refine v_aload_n O dX10_undo_10 0 rfl ?_
    refine v_aload_n O dX10_undo_11 0 rfl ?_
    refine gf_X10_124 (v := .int c2.held) O rfl dX10_undo_12 0 rfl rfl ?_
    refine pf_X10_35 (fs' := M1R ma (upd (mZ c c2 tk vc ln rn zs_10 zs_11 zs_20 zs_21 zs_22 zs_25 zs_26 zs_27 zs_29) 8 c2.held)) (ws' := [(mo, .inr (10, M1R ma (upd (mZ c c2 tk vc ln rn zs_10 zs_11 zs_20 zs_21 zs_22 zs_25 zs_26 zs_27 zs_29) 8 c2.held))), ((ma 4), eI D 6 (nF c.kk)), ((ma 5), eI D 6 (nF c.vv)), ((ma 6), eI D 6 c.hd), ((ma 30), eI D 8 (nF c.crf)), ((ma 35), eI D 12 (nF c.bo)), ((ma 44), eI D 6 (nF c2.kk)), ((ma 45), eI D 6 (nF c2.vv)), ((ma 46), eI D 6 c2.hd), ((ma 47), eI D 8 (nF c2.crf)), ((ma 48), eI D 12 (nF c2.bo))]) O rfl dX10_undo_15 0 rfl (Nat.le_of_ble_eq_true rfl) rfl rfl ?_
    refine v_aload_n O dX10_undo_18 0 rfl ?_
    refine v_aload_n O dX10_undo_19 0 rfl ?_
    refine gf_X10_127 (v := .int (nI c2.men)) O rfl dX10_undo_20 0 rfl rfl ?_
    refine pf_X10_7 (fs' := M1R ma (upd (upd (mZ c c2 tk vc ln rn zs_10 zs_11 zs_20 zs_21 zs_22 zs_25 zs_26 zs_27 zs_29) 0 (nI c2.men)) 8 c2.held)) (ws' := [(mo, .inr (10, M1R ma (upd (upd (mZ c c2 tk vc ln rn zs_10 zs_11 zs_20 zs_21 zs_22 zs_25 zs_26 zs_27 zs_29) 0 (nI c2.men)) 8 c2.held))), ((ma 4), eI D 6 (nF c.kk)), ((ma 5), eI D 6 (nF c.vv)), ((ma 6), eI D 6 c.hd), ((ma 30), eI D 8 (nF c.crf)), ((ma 35), eI D 12 (nF c.bo)), ((ma 44), eI D 6 (nF c2.kk)), ((ma 45), eI D 6 (nF c2.vv)), ((ma 46), eI D 6 c2.hd), ((ma 47), eI D 8 (nF c2.crf)), ((ma 48), eI D 12 (nF c2.bo))]) O rfl dX10_undo_23 0 rfl (Nat.le_of_ble_eq_true rfl) rfl rfl ?_
    refine v_aload_n O dX10_undo_26 0 rfl ?_
    refine v_aload_n O dX10_undo_27 0 rfl ?_
    refine gf_X10_130 (v := .int (nI c2.heap)) O rfl dX10_undo_28 0 rfl rfl ?_
    refine pf_X10_13 (fs' := M1R ma (upd (upd (upd (mZ c c2 tk vc ln rn zs_10 zs_11 zs_20 zs_21 zs_22 zs_25 zs_26 zs_27 zs_29) 0 (nI c2.men)) 1 (nI c2.heap)) 8 c2.held)) (ws' := [(mo, .inr (10, M1R ma (upd (upd (upd (mZ c c2 tk vc ln rn zs_10 zs_11 zs_20 zs_21 zs_22 zs_25 zs_26 zs_27 zs_29) 0 (nI c2.men)) 1 (nI c2.heap)) 8 c2.held))), ((ma 4), eI D 6 (nF c.kk)), ((ma 5), eI D 6 (nF c.vv)), ((ma 6), eI D 6 c.hd), ((ma 30), eI D 8 (nF c.crf)), ((ma 35), eI D 12 (nF c.bo)), ((ma 44), eI D 6 (nF c2.kk)), ((ma 45), eI D 6 (nF c2.vv)), ((ma 46), eI D 6 c2.hd), ((ma 47), eI D 8 (nF c2.crf)), ((ma 48), eI D 12 (nF c2.bo))]) O rfl dX10_undo_31 0 rfl (Nat.le_of_ble_eq_true rfl) rfl rfl ?_
    refine v_aload_n O dX10_undo_34 0 rfl ?_
    refine v_aload_n O dX10_undo_35 0 rfl ?_
    refine gf_X10_133 (v := .int c2.dogs) O rfl dX10_undo_36 0 rfl rfl ?_
    refine pf_X10_16 (fs' := M1R ma (upd (upd (upd (upd (mZ c c2 tk vc ln rn zs_10 zs_11 zs_20 zs_21 zs_22 zs_25 zs_26 zs_27 zs_29) 0 (nI c2.men)) 1 (nI c2.heap)) 2 c2.dogs) 8 c2.held)) (ws' := [(mo, .inr (10, M1R ma (upd (upd (upd (upd (mZ c c2 tk vc ln rn zs_10 zs_11 zs_20 zs_21 zs_22 zs_25 zs_26 zs_27 zs_29) 0 (nI c2.men)) 1 (nI c2.heap)) 2 c2.dogs) 8 c2.held))), ((ma 4), eI D 6 (nF c.kk)), ((ma 5), eI D 6 (nF c.vv)), ((ma 6), eI D 6 c.hd), ((ma 30), eI D 8 (nF c.crf)), ((ma 35), eI D 12 (nF c.bo)), ((ma 44), eI D 6 (nF c2.kk)), ((ma 45), eI D 6 (nF c2.vv)), ((ma 46), eI D 6 c2.hd), ((ma 47), eI D 8 (nF c2.crf)), ((ma 48), eI D 12 (nF c2.bo))]) O rfl dX10_undo_39 0 rfl (Nat.le_of_ble_eq_true rfl) rfl rfl ?_
    refine v_aload_n O dX10_undo_42 0 rfl ?_
    refine v_aload_n O dX10_undo_43 0 rfl ?_
    refine gf_X10_136 (v := .int (nI c2.wak)) O rfl dX10_undo_44 0 rfl rfl ?_
    refine pf_X10_19 (fs' := M1R ma (upd (upd (upd (upd (upd (mZ c c2 tk vc ln rn zs_10 zs_11 zs_20 zs_21 zs_22 zs_25 zs_26 zs_27 zs_29) 0 (nI c2.men)) 1 (nI c2.heap)) 2 c2.dogs) 3 (nI c2.wak)) 8 c2.held)) (ws' := [(mo, .inr (10, M1R ma (upd (upd (upd (upd (upd (mZ c c2 tk vc ln rn zs_10 zs_11 zs_20 zs_21 zs_22 zs_25 zs_26 zs_27 zs_29) 0 (nI c2.men)) 1 (nI c2.heap)) 2 c2.dogs) 3 (nI c2.wak)) 8 c2.held))), ((ma 4), eI D 6 (nF c.kk)), ((ma 5), eI D 6 (nF c.vv)), ((ma 6), eI D 6 c.hd), ((ma 30), eI D 8 (nF c.crf)), ((ma 35), eI D 12 (nF c.bo)), ((ma 44), eI D 6 (nF c2.kk)), ((ma 45), eI D 6 (nF c2.vv)), ((ma 46), eI D 6 c2.hd), ((ma 47), eI D 8 (nF c2.crf)), ((ma 48), eI D 12 (nF c2.bo))]) O rfl dX10_undo_47 0 rfl (Nat.le_of_ble_eq_true rfl) rfl rfl ?_
    refine v_aload_n O dX10_undo_50 0 rfl ?_
    refine v_aload_n O dX10_undo_51 0 rfl ?_
    refine gf_X10_139 (v := .int (nI c2.rl)) O rfl dX10_undo_52 0 rfl rfl ?_
    refine pf_X10_96 (fs' := M1R ma (upd (upd (upd (upd (upd (upd (mZ c c2 tk vc ln rn zs_10 zs_11 zs_20 zs_21 zs_22 zs_25 zs_26 zs_27 zs_29) 0 (nI c2.men)) 1 (nI c2.heap)) 2 c2.dogs) 3 (nI c2.wak)) 8 c2.held) 28 (nI c2.rl))) (ws' := [(mo, .inr (10, M1R ma (upd (upd (upd (upd (upd (upd (mZ c c2 tk vc ln rn zs_10 zs_11 zs_20 zs_21 zs_22 zs_25 zs_26 zs_27 zs_29) 0 (nI c2.men)) 1 (nI c2.heap)) 2 c2.dogs) 3 (nI c2.wak)) 8 c2.held) 28 (nI c2.rl)))), ((ma 4), eI D 6 (nF c.kk)), ((ma 5), eI D 6 (nF c.vv)), ((ma 6), eI D 6 c.hd), ((ma 30), eI D 8 (nF c.crf)), ((ma 35), eI D 12 (nF c.bo)), ((ma 44), eI D 6 (nF c2.kk)), ((ma 45), eI D 6 (nF c2.vv)), ((ma 46), eI D 6 c2.hd), ((ma 47), eI D 8 (nF c2.crf)), ((ma 48), eI D 12 (nF c2.bo))]) O rfl dX10_undo_55 0 rfl (Nat.le_of_ble_eq_true rfl) rfl rfl ?_
    refine v_aload_n O dX10_undo_58 0 rfl ?_
    refine v_aload_n O dX10_undo_59 0 rfl ?_
    refine gf_X10_142 (v := .int (nI c2.pg)) O rfl dX10_undo_60 0 rfl rfl ?_
    refine pf_X10_114 (fs' := M1R ma (upd (upd (upd (upd (upd (upd (upd (mZ c c2 tk vc ln rn zs_10 zs_11 zs_20 zs_21 zs_22 zs_25 zs_26 zs_27 zs_29) 0 (nI c2.men)) 1 (nI c2.heap)) 2 c2.dogs) 3 (nI c2.wak)) 8 c2.held) 28 (nI c2.rl)) 34 (nI c2.pg))) (ws' := [(mo, .inr (10, M1R ma (upd (upd (upd (upd (upd (upd (upd (mZ c c2 tk vc ln rn zs_10 zs_11 zs_20 zs_21 zs_22 zs_25 zs_26 zs_27 zs_29) 0 (nI c2.men)) 1 (nI c2.heap)) 2 c2.dogs) 3 (nI c2.wak)) 8 c2.held) 28 (nI c2.rl)) 34 (nI c2.pg)))), ((ma 4), eI D 6 (nF c.kk)), ((ma 5), eI D 6 (nF c.vv)), ((ma 6), eI D 6 c.hd), ((ma 30), eI D 8 (nF c.crf)), ((ma 35), eI D 12 (nF c.bo)), ((ma 44), eI D 6 (nF c2.kk)), ((ma 45), eI D 6 (nF c2.vv)), ((ma 46), eI D 6 c2.hd), ((ma 47), eI D 8 (nF c2.crf)), ((ma 48), eI D 12 (nF c2.bo))]) O rfl dX10_undo_63 0 rfl (Nat.le_of_ble_eq_true rfl) rfl rfl ?_
    refine v_iconst (v := 0) O dX10_undo_66 (by decide) ?_
    refine v_istore_n (lv' := [(0, .ref mo), (1, .int 0)]) O dX10_undo_67 (by decide) rfl ?_
    refine v_iload_n O dX10_undo_68 1 rfl ?_
    refine v_bipush (v := 6) O dX10_undo_69 (by decide) ?_
    refine v_icmp_ge O 116 dX10_undo_71 (by decide) (fun c => absurd c (by decide)) (fun _ => ?_)
    refine v_aload_n O dX10_undo_74 0 rfl ?_
    refine gf_X10_22 (v := .ref (ma 4)) O rfl dX10_undo_75 0 rfl rfl ?_
    refine v_iload_n O dX10_undo_78 1 rfl ?_
    refine v_aload_n O dX10_undo_79 0 rfl ?_
    refine gf_X10_145 (v := .ref (ma 44)) O rfl dX10_undo_80 0 rfl rfl ?_
    refine v_iload_n O dX10_undo_83 1 rfl ?_
    refine v_ialdk O dX10_undo_84 6 rfl 0 rfl (by omega) (by decide) ?_
    refine v_top (y := nI (c2.kk 0)) rfl ?_
    refine v_iastk (ws' := [(mo, .inr (10, M1R ma (upd (upd (upd (upd (upd (upd (upd (mZ c c2 tk vc ln rn zs_10 zs_11 zs_20 zs_21 zs_22 zs_25 zs_26 zs_27 zs_29) 0 (nI c2.men)) 1 (nI c2.heap)) 2 c2.dogs) 3 (nI c2.wak)) 8 c2.held) 28 (nI c2.rl)) 34 (nI c2.pg)))), ((ma 4), eI D 6 (nF (uN c.kk 0 (c2.kk 0)))), ((ma 5), eI D 6 (nF c.vv)), ((ma 6), eI D 6 c.hd), ((ma 30), eI D 8 (nF c.crf)), ((ma 35), eI D 12 (nF c.bo)), ((ma 44), eI D 6 (nF c2.kk)), ((ma 45), eI D 6 (nF c2.vv)), ((ma 46), eI D 6 c2.hd), ((ma 47), eI D 8 (nF c2.crf)), ((ma 48), eI D 12 (nF c2.bo))]) O dX10_undo_85 1 rfl 0 (rfl) (by omega) (by decide) (by rw [upd_nF]; rfl) ?_
    refine v_aload_n O dX10_undo_86 0 rfl ?_
    refine gf_X10_26 (v := .ref (ma 5)) O rfl dX10_undo_87 0 rfl rfl ?_
    refine v_iload_n O dX10_undo_90 1 rfl ?_
    refine v_aload_n O dX10_undo_91 0 rfl ?_
    refine gf_X10_148 (v := .ref (ma 45)) O rfl dX10_undo_92 0 rfl rfl ?_
    refine v_iload_n O dX10_undo_95 1 rfl ?_
    refine v_ialdk O dX10_undo_96 7 rfl 0 rfl (by omega) (by decide) ?_
    refine v_top (y := nI (c2.vv 0)) rfl ?_
    refine v_iastk (ws' := [(mo, .inr (10, M1R ma (upd (upd (upd (upd (upd (upd (upd (mZ c c2 tk vc ln rn zs_10 zs_11 zs_20 zs_21 zs_22 zs_25 zs_26 zs_27 zs_29) 0 (nI c2.men)) 1 (nI c2.heap)) 2 c2.dogs) 3 (nI c2.wak)) 8 c2.held) 28 (nI c2.rl)) 34 (nI c2.pg)))), ((ma 4), eI D 6 (nF (uN c.kk 0 (c2.kk 0)))), ((ma 5), eI D 6 (nF (uN c.vv 0 (c2.vv 0)))), ((ma 6), eI D 6 c.hd), ((ma 30), eI D 8 (nF c.crf)), ((ma 35), eI D 12 (nF c.bo)), ((ma 44), eI D 6 (nF c2.kk)), ((ma 45), eI D 6 (nF c2.vv)), ((ma 46), eI D 6 c2.hd), ((ma 47), eI D 8 (nF c2.crf)), ((ma 48), eI D 12 (nF c2.bo))]) O dX10_undo_97 2 rfl 0 (rfl) (by omega) (by decide) (by rw [upd_nF]; rfl) ?_
    refine v_aload_n O dX10_undo_98 0 rfl ?_
    refine gf_X10_29 (v := .ref (ma 6)) O rfl dX10_undo_99 0 rfl rfl ?_
    refine v_iload_n O dX10_undo_102 1 rfl ?_
    refine v_aload_n O dX10_undo_103 0 rfl ?_
    refine gf_X10_151 (v := .ref (ma 46)) O rfl dX10_undo_104 0 rfl rfl ?_
    refine v_iload_n O dX10_undo_107 1 rfl ?_
    refine v_ialdk O dX10_undo_108 8 rfl 0 rfl (by omega) (by decide) ?_
    refine v_iastk (ws' := [(mo, .inr (10, M1R ma (upd (upd (upd (upd (upd (upd (upd (mZ c c2 tk vc ln rn zs_10 zs_11 zs_20 zs_21 zs_22 zs_25 zs_26 zs_27 zs_29) 0 (nI c2.men)) 1 (nI c2.heap)) 2 c2.dogs) 3 (nI c2.wak)) 8 c2.held) 28 (nI c2.rl)) 34 (nI c2.pg)))), ((ma 4), eI D 6 (nF (uN c.kk 0 (c2.kk 0)))), ((ma 5), eI D 6 (nF (uN c.vv 0 (c2.vv 0)))), ((ma 6), eI D 6 (upd c.hd 0 (c2.hd 0))), ((ma 30), eI D 8 (nF c.crf)), ((ma 35), eI D 12 (nF c.bo)), ((ma 44), eI D 6 (nF c2.kk)), ((ma 45), eI D 6 (nF c2.vv)), ((ma 46), eI D 6 c2.hd), ((ma 47), eI D 8 (nF c2.crf)), ((ma 48), eI D 12 (nF c2.bo))]) O dX10_undo_109 3 rfl 0 (rfl) (by omega) (by decide) (rfl) ?_
    refine v_iinc (v := 1) (lv' := [(0, .ref mo), (1, .int 1)]) O dX10_undo_110 1 rfl (by decide) (by decide) rfl ?_
    refine v_goto O 68 dX10_undo_113 (by decide) ?_
    refine v_iload_n O dX10_undo_68 1 rfl ?_
    refine v_bipush (v := 6) O dX10_undo_69 (by decide) ?_
    refine v_icmp_ge O 116 dX10_undo_71 (by decide) (fun c => absurd c (by decide)) (fun _ => ?_)
    refine v_aload_n O dX10_undo_74 0 rfl ?_
    refine gf_X10_22 (v := .ref (ma 4)) O rfl dX10_undo_75 0 rfl rfl ?_
    refine v_iload_n O dX10_undo_78 1 rfl ?_
    refine v_aload_n O dX10_undo_79 0 rfl ?_
    refine gf_X10_145 (v := .ref (ma 44)) O rfl dX10_undo_80 0 rfl rfl ?_
    refine v_iload_n O dX10_undo_83 1 rfl ?_
    refine v_ialdk O dX10_undo_84 6 rfl 1 rfl (by omega) (by decide) ?_
    refine v_top (y := nI (c2.kk 1)) rfl ?_
    refine v_iastk (ws' := [(mo, .inr (10, M1R ma (upd (upd (upd (upd (upd (upd (upd (mZ c c2 tk vc ln rn zs_10 zs_11 zs_20 zs_21 zs_22 zs_25 zs_26 zs_27 zs_29) 0 (nI c2.men)) 1 (nI c2.heap)) 2 c2.dogs) 3 (nI c2.wak)) 8 c2.held) 28 (nI c2.rl)) 34 (nI c2.pg)))), ((ma 4), eI D 6 (nF (uN (uN c.kk 0 (c2.kk 0)) 1 (c2.kk 1)))), ((ma 5), eI D 6 (nF (uN c.vv 0 (c2.vv 0)))), ((ma 6), eI D 6 (upd c.hd 0 (c2.hd 0))), ((ma 30), eI D 8 (nF c.crf)), ((ma 35), eI D 12 (nF c.bo)), ((ma 44), eI D 6 (nF c2.kk)), ((ma 45), eI D 6 (nF c2.vv)), ((ma 46), eI D 6 c2.hd), ((ma 47), eI D 8 (nF c2.crf)), ((ma 48), eI D 12 (nF c2.bo))]) O dX10_undo_85 1 rfl 1 (rfl) (by omega) (by decide) (by rw [upd_nF]; rfl) ?_
    refine v_aload_n O dX10_undo_86 0 rfl ?_
    refine gf_X10_26 (v := .ref (ma 5)) O rfl dX10_undo_87 0 rfl rfl ?_
    refine v_iload_n O dX10_undo_90 1 rfl ?_
    refine v_aload_n O dX10_undo_91 0 rfl ?_
    refine gf_X10_148 (v := .ref (ma 45)) O rfl dX10_undo_92 0 rfl rfl ?_
    refine v_iload_n O dX10_undo_95 1 rfl ?_
    refine v_ialdk O dX10_undo_96 7 rfl 1 rfl (by omega) (by decide) ?_
    refine v_top (y := nI (c2.vv 1)) rfl ?_
    refine v_iastk (ws' := [(mo, .inr (10, M1R ma (upd (upd (upd (upd (upd (upd (upd (mZ c c2 tk vc ln rn zs_10 zs_11 zs_20 zs_21 zs_22 zs_25 zs_26 zs_27 zs_29) 0 (nI c2.men)) 1 (nI c2.heap)) 2 c2.dogs) 3 (nI c2.wak)) 8 c2.held) 28 (nI c2.rl)) 34 (nI c2.pg)))), ((ma 4), eI D 6 (nF (uN (uN c.kk 0 (c2.kk 0)) 1 (c2.kk 1)))), ((ma 5), eI D 6 (nF (uN (uN c.vv 0 (c2.vv 0)) 1 (c2.vv 1)))), ((ma 6), eI D 6 (upd c.hd 0 (c2.hd 0))), ((ma 30), eI D 8 (nF c.crf)), ((ma 35), eI D 12 (nF c.bo)), ((ma 44), eI D 6 (nF c2.kk)), ((ma 45), eI D 6 (nF c2.vv)), ((ma 46), eI D 6 c2.hd), ((ma 47), eI D 8 (nF c2.crf)), ((ma 48), eI D 12 (nF c2.bo))]) O dX10_undo_97 2 rfl 1 (rfl) (by omega) (by decide) (by rw [upd_nF]; rfl) ?_
    refine v_aload_n O dX10_undo_98 0 rfl ?_
    refine gf_X10_29 (v := .ref (ma 6)) O rfl dX10_undo_99 0 rfl rfl ?_
    refine v_iload_n O dX10_undo_102 1 rfl ?_
    refine v_aload_n O dX10_undo_103 0 rfl ?_
    refine gf_X10_151 (v := .ref (ma 46)) O rfl dX10_undo_104 0 rfl rfl ?_
    refine v_iload_n O dX10_undo_107 1 rfl ?_
    refine v_ialdk O dX10_undo_108 8 rfl 1 rfl (by omega) (by decide) ?_
    refine v_iastk (ws' := [(mo, .inr (10, M1R ma (upd (upd (upd (upd (upd (upd (upd (mZ c c2 tk vc ln rn zs_10 zs_11 zs_20 zs_21 zs_22 zs_25 zs_26 zs_27 zs_29) 0 (nI c2.men)) 1 (nI c2.heap)) 2 c2.dogs) 3 (nI c2.wak)) 8 c2.held) 28 (nI c2.rl)) 34 (nI c2.pg)))), ((ma 4), eI D 6 (nF (uN (uN c.kk 0 (c2.kk 0)) 1 (c2.kk 1)))), ((ma 5), eI D 6 (nF (uN (uN c.vv 0 (c2.vv 0)) 1 (c2.vv 1)))), ((ma 6), eI D 6 (upd (upd c.hd 0 (c2.hd 0)) 1 (c2.hd 1))), ((ma 30), eI D 8 (nF c.crf)), ((ma 35), eI D 12 (nF c.bo)), ((ma 44), eI D 6 (nF c2.kk)), ((ma 45), eI D 6 (nF c2.vv)), ((ma 46), eI D 6 c2.hd), ((ma 47), eI D 8 (nF c2.crf)), ((ma 48), eI D 12 (nF c2.bo))]) O dX10_undo_109 3 rfl 1 (rfl) (by omega) (by decide) (rfl) ?_
    refine v_iinc (v := 2) (lv' := [(0, .ref mo), (1, .int 2)]) O dX10_undo_110 1 rfl (by decide) (by decide) rfl ?_
    refine v_goto O 68 dX10_undo_113 (by decide) ?_
    refine v_iload_n O dX10_undo_68 1 rfl ?_
    refine v_bipush (v := 6) O dX10_undo_69 (by decide) ?_
    refine v_icmp_ge O 116 dX10_undo_71 (by decide) (fun c => absurd c (by decide)) (fun _ => ?_)
    refine v_aload_n O dX10_undo_74 0 rfl ?_
    refine gf_X10_22 (v := .ref (ma 4)) O rfl dX10_undo_75 0 rfl rfl ?_
    refine v_iload_n O dX10_undo_78 1 rfl ?_
    refine v_aload_n O dX10_undo_79 0 rfl ?_
    refine gf_X10_145 (v := .ref (ma 44)) O rfl dX10_undo_80 0 rfl rfl ?_
    refine v_iload_n O dX10_undo_83 1 rfl ?_
    refine v_ialdk O dX10_undo_84 6 rfl 2 rfl (by omega) (by decide) ?_
    refine v_top (y := nI (c2.kk 2)) rfl ?_
    refine v_iastk (ws' := [(mo, .inr (10, M1R ma (upd (upd (upd (upd (upd (upd (upd (mZ c c2 tk vc ln rn zs_10 zs_11 zs_20 zs_21 zs_22 zs_25 zs_26 zs_27 zs_29) 0 (nI c2.men)) 1 (nI c2.heap)) 2 c2.dogs) 3 (nI c2.wak)) 8 c2.held) 28 (nI c2.rl)) 34 (nI c2.pg)))), ((ma 4), eI D 6 (nF (uN (uN (uN c.kk 0 (c2.kk 0)) 1 (c2.kk 1)) 2 (c2.kk 2)))), ((ma 5), eI D 6 (nF (uN (uN c.vv 0 (c2.vv 0)) 1 (c2.vv 1)))), ((ma 6), eI D 6 (upd (upd c.hd 0 (c2.hd 0)) 1 (c2.hd 1))), ((ma 30), eI D 8 (nF c.crf)), ((ma 35), eI D 12 (nF c.bo)), ((ma 44), eI D 6 (nF c2.kk)), ((ma 45), eI D 6 (nF c2.vv)), ((ma 46), eI D 6 c2.hd), ((ma 47), eI D 8 (nF c2.crf)), ((ma 48), eI D 12 (nF c2.bo))]) O dX10_undo_85 1 rfl 2 (rfl) (by omega) (by decide) (by rw [upd_nF]; rfl) ?_
    refine v_aload_n O dX10_undo_86 0 rfl ?_
    refine gf_X10_26 (v := .ref (ma 5)) O rfl dX10_undo_87 0 rfl rfl ?_
    refine v_iload_n O dX10_undo_90 1 rfl ?_
    refine v_aload_n O dX10_undo_91 0 rfl ?_
    refine gf_X10_148 (v := .ref (ma 45)) O rfl dX10_undo_92 0 rfl rfl ?_
    refine v_iload_n O dX10_undo_95 1 rfl ?_
    refine v_ialdk O dX10_undo_96 7 rfl 2 rfl (by omega) (by decide) ?_
    refine v_top (y := nI (c2.vv 2)) rfl ?_
    refine v_iastk (ws' := [(mo, .inr (10, M1R ma (upd (upd (upd (upd (upd (upd (upd (mZ c c2 tk vc ln rn zs_10 zs_11 zs_20 zs_21 zs_22 zs_25 zs_26 zs_27 zs_29) 0 (nI c2.men)) 1 (nI c2.heap)) 2 c2.dogs) 3 (nI c2.wak)) 8 c2.held) 28 (nI c2.rl)) 34 (nI c2.pg)))), ((ma 4), eI D 6 (nF (uN (uN (uN c.kk 0 (c2.kk 0)) 1 (c2.kk 1)) 2 (c2.kk 2)))), ((ma 5), eI D 6 (nF (uN (uN (uN c.vv 0 (c2.vv 0)) 1 (c2.vv 1)) 2 (c2.vv 2)))), ((ma 6), eI D 6 (upd (upd c.hd 0 (c2.hd 0)) 1 (c2.hd 1))), ((ma 30), eI D 8 (nF c.crf)), ((ma 35), eI D 12 (nF c.bo)), ((ma 44), eI D 6 (nF c2.kk)), ((ma 45), eI D 6 (nF c2.vv)), ((ma 46), eI D 6 c2.hd), ((ma 47), eI D 8 (nF c2.crf)), ((ma 48), eI D 12 (nF c2.bo))]) O dX10_undo_97 2 rfl 2 (rfl) (by omega) (by decide) (by rw [upd_nF]; rfl) ?_
    refine v_aload_n O dX10_undo_98 0 rfl ?_
    refine gf_X10_29 (v := .ref (ma 6)) O rfl dX10_undo_99 0 rfl rfl ?_
    refine v_iload_n O dX10_undo_102 1 rfl ?_
    refine v_aload_n O dX10_undo_103 0 rfl ?_
    refine gf_X10_151 (v := .ref (ma 46)) O rfl dX10_undo_104 0 rfl rfl ?_
    refine v_iload_n O dX10_undo_107 1 rfl ?_
    refine v_ialdk O dX10_undo_108 8 rfl 2 rfl (by omega) (by decide) ?_
    refine v_iastk (ws' := [(mo, .inr (10, M1R ma (upd (upd (upd (upd (upd (upd (upd (mZ c c2 tk vc ln rn zs_10 zs_11 zs_20 zs_21 zs_22 zs_25 zs_26 zs_27 zs_29) 0 (nI c2.men)) 1 (nI c2.heap)) 2 c2.dogs) 3 (nI c2.wak)) 8 c2.held) 28 (nI c2.rl)) 34 (nI c2.pg)))), ((ma 4), eI D 6 (nF (uN (uN (uN c.kk 0 (c2.kk 0)) 1 (c2.kk 1)) 2 (c2.kk 2)))), ((ma 5), eI D 6 (nF (uN (uN (uN c.vv 0 (c2.vv 0)) 1 (c2.vv 1)) 2 (c2.vv 2)))), ((ma 6), eI D 6 (upd (upd (upd c.hd 0 (c2.hd 0)) 1 (c2.hd 1)) 2 (c2.hd 2))), ((ma 30), eI D 8 (nF c.crf)), ((ma 35), eI D 12 (nF c.bo)), ((ma 44), eI D 6 (nF c2.kk)), ((ma 45), eI D 6 (nF c2.vv)), ((ma 46), eI D 6 c2.hd), ((ma 47), eI D 8 (nF c2.crf)), ((ma 48), eI D 12 (nF c2.bo))]) O dX10_undo_109 3 rfl 2 (rfl) (by omega) (by decide) (rfl) ?_
    refine v_iinc (v := 3) (lv' := [(0, .ref mo), (1, .int 3)]) O dX10_undo_110 1 rfl (by decide) (by decide) rfl ?_
    refine v_goto O 68 dX10_undo_113 (by decide) ?_
    refine v_iload_n O dX10_undo_68 1 rfl ?_
    refine v_bipush (v := 6) O dX10_undo_69 (by decide) ?_
    refine v_icmp_ge O 116 dX10_undo_71 (by decide) (fun c => absurd c (by decide)) (fun _ => ?_)
    refine v_aload_n O dX10_undo_74 0 rfl ?_
    refine gf_X10_22 (v := .ref (ma 4)) O rfl dX10_undo_75 0 rfl rfl ?_
    refine v_iload_n O dX10_undo_78 1 rfl ?_
    refine v_aload_n O dX10_undo_79 0 rfl ?_
    refine gf_X10_145 (v := .ref (ma 44)) O rfl dX10_undo_80 0 rfl rfl ?_
    refine v_iload_n O dX10_undo_83 1 rfl ?_
    refine v_ialdk O dX10_undo_84 6 rfl 3 rfl (by omega) (by decide) ?_
    refine v_top (y := nI (c2.kk 3)) rfl ?_
    refine v_iastk (ws' := [(mo, .inr (10, M1R ma (upd (upd (upd (upd (upd (upd (upd (mZ c c2 tk vc ln rn zs_10 zs_11 zs_20 zs_21 zs_22 zs_25 zs_26 zs_27 zs_29) 0 (nI c2.men)) 1 (nI c2.heap)) 2 c2.dogs) 3 (nI c2.wak)) 8 c2.held) 28 (nI c2.rl)) 34 (nI c2.pg)))), ((ma 4), eI D 6 (nF (uN (uN (uN (uN c.kk 0 (c2.kk 0)) 1 (c2.kk 1)) 2 (c2.kk 2)) 3 (c2.kk 3)))), ((ma 5), eI D 6 (nF (uN (uN (uN c.vv 0 (c2.vv 0)) 1 (c2.vv 1)) 2 (c2.vv 2)))), ((ma 6), eI D 6 (upd (upd (upd c.hd 0 (c2.hd 0)) 1 (c2.hd 1)) 2 (c2.hd 2))), ((ma 30), eI D 8 (nF c.crf)), ((ma 35), eI D 12 (nF c.bo)), ((ma 44), eI D 6 (nF c2.kk)), ((ma 45), eI D 6 (nF c2.vv)), ((ma 46), eI D 6 c2.hd), ((ma 47), eI D 8 (nF c2.crf)), ((ma 48), eI D 12 (nF c2.bo))]) O dX10_undo_85 1 rfl 3 (rfl) (by omega) (by decide) (by rw [upd_nF]; rfl) ?_
    refine v_aload_n O dX10_undo_86 0 rfl ?_
    refine gf_X10_26 (v := .ref (ma 5)) O rfl dX10_undo_87 0 rfl rfl ?_
    refine v_iload_n O dX10_undo_90 1 rfl ?_
    refine v_aload_n O dX10_undo_91 0 rfl ?_
    refine gf_X10_148 (v := .ref (ma 45)) O rfl dX10_undo_92 0 rfl rfl ?_
    refine v_iload_n O dX10_undo_95 1 rfl ?_
    refine v_ialdk O dX10_undo_96 7 rfl 3 rfl (by omega) (by decide) ?_
    refine v_top (y := nI (c2.vv 3)) rfl ?_
    refine v_iastk (ws' := [(mo, .inr (10, M1R ma (upd (upd (upd (upd (upd (upd (upd (mZ c c2 tk vc ln rn zs_10 zs_11 zs_20 zs_21 zs_22 zs_25 zs_26 zs_27 zs_29) 0 (nI c2.men)) 1 (nI c2.heap)) 2 c2.dogs) 3 (nI c2.wak)) 8 c2.held) 28 (nI c2.rl)) 34 (nI c2.pg)))), ((ma 4), eI D 6 (nF (uN (uN (uN (uN c.kk 0 (c2.kk 0)) 1 (c2.kk 1)) 2 (c2.kk 2)) 3 (c2.kk 3)))), ((ma 5), eI D 6 (nF (uN (uN (uN (uN c.vv 0 (c2.vv 0)) 1 (c2.vv 1)) 2 (c2.vv 2)) 3 (c2.vv 3)))), ((ma 6), eI D 6 (upd (upd (upd c.hd 0 (c2.hd 0)) 1 (c2.hd 1)) 2 (c2.hd 2))), ((ma 30), eI D 8 (nF c.crf)), ((ma 35), eI D 12 (nF c.bo)), ((ma 44), eI D 6 (nF c2.kk)), ((ma 45), eI D 6 (nF c2.vv)), ((ma 46), eI D 6 c2.hd), ((ma 47), eI D 8 (nF c2.crf)), ((ma 48), eI D 12 (nF c2.bo))]) O dX10_undo_97 2 rfl 3 (rfl) (by omega) (by decide) (by rw [upd_nF]; rfl) ?_
    refine v_aload_n O dX10_undo_98 0 rfl ?_
    refine gf_X10_29 (v := .ref (ma 6)) O rfl dX10_undo_99 0 rfl rfl ?_
    refine v_iload_n O dX10_undo_102 1 rfl ?_
    refine v_aload_n O dX10_undo_103 0 rfl ?_
    refine gf_X10_151 (v := .ref (ma 46)) O rfl dX10_undo_104 0 rfl rfl ?_
    refine v_iload_n O dX10_undo_107 1 rfl ?_
    refine v_ialdk O dX10_undo_108 8 rfl 3 rfl (by omega) (by decide) ?_
    refine v_iastk (ws' := [(mo, .inr (10, M1R ma (upd (upd (upd (upd (upd (upd (upd (mZ c c2 tk vc ln rn zs_10 zs_11 zs_20 zs_21 zs_22 zs_25 zs_26 zs_27 zs_29) 0 (nI c2.men)) 1 (nI c2.heap)) 2 c2.dogs) 3 (nI c2.wak)) 8 c2.held) 28 (nI c2.rl)) 34 (nI c2.pg)))), ((ma 4), eI D 6 (nF (uN (uN (uN (uN c.kk 0 (c2.kk 0)) 1 (c2.kk 1)) 2 (c2.kk 2)) 3 (c2.kk 3)))), ((ma 5), eI D 6 (nF (uN (uN (uN (uN c.vv 0 (c2.vv 0)) 1 (c2.vv 1)) 2 (c2.vv 2)) 3 (c2.vv 3)))), ((ma 6), eI D 6 (upd (upd (upd (upd c.hd 0 (c2.hd 0)) 1 (c2.hd 1)) 2 (c2.hd 2)) 3 (c2.hd 3))), ((ma 30), eI D 8 (nF c.crf)), ((ma 35), eI D 12 (nF c.bo)), ((ma 44), eI D 6 (nF c2.kk)), ((ma 45), eI D 6 (nF c2.vv)), ((ma 46), eI D 6 c2.hd), ((ma 47), eI D 8 (nF c2.crf)), ((ma 48), eI D 12 (nF c2.bo))]) O dX10_undo_109 3 rfl 3 (rfl) (by omega) (by decide) (rfl) ?_
    refine v_iinc (v := 4) (lv' := [(0, .ref mo), (1, .int 4)]) O dX10_undo_110 1 rfl (by decide) (by decide) rfl ?_
    refine v_goto O 68 dX10_undo_113 (by decide) ?_
    refine v_iload_n O dX10_undo_68 1 rfl ?_
    refine v_bipush (v := 6) O dX10_undo_69 (by decide) ?_
    refine v_icmp_ge O 116 dX10_undo_71 (by decide) (fun c => absurd c (by decide)) (fun _ => ?_)
    refine v_aload_n O dX10_undo_74 0 rfl ?_
    refine gf_X10_22 (v := .ref (ma 4)) O rfl dX10_undo_75 0 rfl rfl ?_
    refine v_iload_n O dX10_undo_78 1 rfl ?_
    refine v_aload_n O dX10_undo_79 0 rfl ?_
    refine gf_X10_145 (v := .ref (ma 44)) O rfl dX10_undo_80 0 rfl rfl ?_
    refine v_iload_n O dX10_undo_83 1 rfl ?_
    refine v_ialdk O dX10_undo_84 6 rfl 4 rfl (by omega) (by decide) ?_
    refine v_top (y := nI (c2.kk 4)) rfl ?_
    refine v_iastk (ws' := [(mo, .inr (10, M1R ma (upd (upd (upd (upd (upd (upd (upd (mZ c c2 tk vc ln rn zs_10 zs_11 zs_20 zs_21 zs_22 zs_25 zs_26 zs_27 zs_29) 0 (nI c2.men)) 1 (nI c2.heap)) 2 c2.dogs) 3 (nI c2.wak)) 8 c2.held) 28 (nI c2.rl)) 34 (nI c2.pg)))), ((ma 4), eI D 6 (nF (uN (uN (uN (uN (uN c.kk 0 (c2.kk 0)) 1 (c2.kk 1)) 2 (c2.kk 2)) 3 (c2.kk 3)) 4 (c2.kk 4)))), ((ma 5), eI D 6 (nF (uN (uN (uN (uN c.vv 0 (c2.vv 0)) 1 (c2.vv 1)) 2 (c2.vv 2)) 3 (c2.vv 3)))), ((ma 6), eI D 6 (upd (upd (upd (upd c.hd 0 (c2.hd 0)) 1 (c2.hd 1)) 2 (c2.hd 2)) 3 (c2.hd 3))), ((ma 30), eI D 8 (nF c.crf)), ((ma 35), eI D 12 (nF c.bo)), ((ma 44), eI D 6 (nF c2.kk)), ((ma 45), eI D 6 (nF c2.vv)), ((ma 46), eI D 6 c2.hd), ((ma 47), eI D 8 (nF c2.crf)), ((ma 48), eI D 12 (nF c2.bo))]) O dX10_undo_85 1 rfl 4 (rfl) (by omega) (by decide) (by rw [upd_nF]; rfl) ?_
    refine v_aload_n O dX10_undo_86 0 rfl ?_
    refine gf_X10_26 (v := .ref (ma 5)) O rfl dX10_undo_87 0 rfl rfl ?_
    refine v_iload_n O dX10_undo_90 1 rfl ?_
    refine v_aload_n O dX10_undo_91 0 rfl ?_
    refine gf_X10_148 (v := .ref (ma 45)) O rfl dX10_undo_92 0 rfl rfl ?_
    refine v_iload_n O dX10_undo_95 1 rfl ?_
    refine v_ialdk O dX10_undo_96 7 rfl 4 rfl (by omega) (by decide) ?_
    refine v_top (y := nI (c2.vv 4)) rfl ?_
    refine v_iastk (ws' := [(mo, .inr (10, M1R ma (upd (upd (upd (upd (upd (upd (upd (mZ c c2 tk vc ln rn zs_10 zs_11 zs_20 zs_21 zs_22 zs_25 zs_26 zs_27 zs_29) 0 (nI c2.men)) 1 (nI c2.heap)) 2 c2.dogs) 3 (nI c2.wak)) 8 c2.held) 28 (nI c2.rl)) 34 (nI c2.pg)))), ((ma 4), eI D 6 (nF (uN (uN (uN (uN (uN c.kk 0 (c2.kk 0)) 1 (c2.kk 1)) 2 (c2.kk 2)) 3 (c2.kk 3)) 4 (c2.kk 4)))), ((ma 5), eI D 6 (nF (uN (uN (uN (uN (uN c.vv 0 (c2.vv 0)) 1 (c2.vv 1)) 2 (c2.vv 2)) 3 (c2.vv 3)) 4 (c2.vv 4)))), ((ma 6), eI D 6 (upd (upd (upd (upd c.hd 0 (c2.hd 0)) 1 (c2.hd 1)) 2 (c2.hd 2)) 3 (c2.hd 3))), ((ma 30), eI D 8 (nF c.crf)), ((ma 35), eI D 12 (nF c.bo)), ((ma 44), eI D 6 (nF c2.kk)), ((ma 45), eI D 6 (nF c2.vv)), ((ma 46), eI D 6 c2.hd), ((ma 47), eI D 8 (nF c2.crf)), ((ma 48), eI D 12 (nF c2.bo))]) O dX10_undo_97 2 rfl 4 (rfl) (by omega) (by decide) (by rw [upd_nF]; rfl) ?_
    refine v_aload_n O dX10_undo_98 0 rfl ?_
    refine gf_X10_29 (v := .ref (ma 6)) O rfl dX10_undo_99 0 rfl rfl ?_
    refine v_iload_n O dX10_undo_102 1 rfl ?_
    refine v_aload_n O dX10_undo_103 0 rfl ?_
    refine gf_X10_151 (v := .ref (ma 46)) O rfl dX10_undo_104 0 rfl rfl ?_
    refine v_iload_n O dX10_undo_107 1 rfl ?_
    refine v_ialdk O dX10_undo_108 8 rfl 4 rfl (by omega) (by decide) ?_
    refine v_iastk (ws' := [(mo, .inr (10, M1R ma (upd (upd (upd (upd (upd (upd (upd (mZ c c2 tk vc ln rn zs_10 zs_11 zs_20 zs_21 zs_22 zs_25 zs_26 zs_27 zs_29) 0 (nI c2.men)) 1 (nI c2.heap)) 2 c2.dogs) 3 (nI c2.wak)) 8 c2.held) 28 (nI c2.rl)) 34 (nI c2.pg)))), ((ma 4), eI D 6 (nF (uN (uN (uN (uN (uN c.kk 0 (c2.kk 0)) 1 (c2.kk 1)) 2 (c2.kk 2)) 3 (c2.kk 3)) 4 (c2.kk 4)))), ((ma 5), eI D 6 (nF (uN (uN (uN (uN (uN c.vv 0 (c2.vv 0)) 1 (c2.vv 1)) 2 (c2.vv 2)) 3 (c2.vv 3)) 4 (c2.vv 4)))), ((ma 6), eI D 6 (upd (upd (upd (upd (upd c.hd 0 (c2.hd 0)) 1 (c2.hd 1)) 2 (c2.hd 2)) 3 (c2.hd 3)) 4 (c2.hd 4))), ((ma 30), eI D 8 (nF c.crf)), ((ma 35), eI D 12 (nF c.bo)), ((ma 44), eI D 6 (nF c2.kk)), ((ma 45), eI D 6 (nF c2.vv)), ((ma 46), eI D 6 c2.hd), ((ma 47), eI D 8 (nF c2.crf)), ((ma 48), eI D 12 (nF c2.bo))]) O dX10_undo_109 3 rfl 4 (rfl) (by omega) (by decide) (rfl) ?_
    refine v_iinc (v := 5) (lv' := [(0, .ref mo), (1, .int 5)]) O dX10_undo_110 1 rfl (by decide) (by decide) rfl ?_
    refine v_goto O 68 dX10_undo_113 (by decide) ?_
    refine v_iload_n O dX10_undo_68 1 rfl ?_
    refine v_bipush (v := 6) O dX10_undo_69 (by decide) ?_
    refine v_icmp_ge O 116 dX10_undo_71 (by decide) (fun c => absurd c (by decide)) (fun _ => ?_)
    refine v_aload_n O dX10_undo_74 0 rfl ?_
    refine gf_X10_22 (v := .ref (ma 4)) O rfl dX10_undo_75 0 rfl rfl ?_
    refine v_iload_n O dX10_undo_78 1 rfl ?_
    refine v_aload_n O dX10_undo_79 0 rfl ?_
    refine gf_X10_145 (v := .ref (ma 44)) O rfl dX10_undo_80 0 rfl rfl ?_
    refine v_iload_n O dX10_undo_83 1 rfl ?_
    refine v_ialdk O dX10_undo_84 6 rfl 5 rfl (by omega) (by decide) ?_
    refine v_top (y := nI (c2.kk 5)) rfl ?_
    refine v_iastk (ws' := [(mo, .inr (10, M1R ma (upd (upd (upd (upd (upd (upd (upd (mZ c c2 tk vc ln rn zs_10 zs_11 zs_20 zs_21 zs_22 zs_25 zs_26 zs_27 zs_29) 0 (nI c2.men)) 1 (nI c2.heap)) 2 c2.dogs) 3 (nI c2.wak)) 8 c2.held) 28 (nI c2.rl)) 34 (nI c2.pg)))), ((ma 4), eI D 6 (nF (uN (uN (uN (uN (uN (uN c.kk 0 (c2.kk 0)) 1 (c2.kk 1)) 2 (c2.kk 2)) 3 (c2.kk 3)) 4 (c2.kk 4)) 5 (c2.kk 5)))), ((ma 5), eI D 6 (nF (uN (uN (uN (uN (uN c.vv 0 (c2.vv 0)) 1 (c2.vv 1)) 2 (c2.vv 2)) 3 (c2.vv 3)) 4 (c2.vv 4)))), ((ma 6), eI D 6 (upd (upd (upd (upd (upd c.hd 0 (c2.hd 0)) 1 (c2.hd 1)) 2 (c2.hd 2)) 3 (c2.hd 3)) 4 (c2.hd 4))), ((ma 30), eI D 8 (nF c.crf)), ((ma 35), eI D 12 (nF c.bo)), ((ma 44), eI D 6 (nF c2.kk)), ((ma 45), eI D 6 (nF c2.vv)), ((ma 46), eI D 6 c2.hd), ((ma 47), eI D 8 (nF c2.crf)), ((ma 48), eI D 12 (nF c2.bo))]) O dX10_undo_85 1 rfl 5 (rfl) (by omega) (by decide) (by rw [upd_nF]; rfl) ?_
    refine v_aload_n O dX10_undo_86 0 rfl ?_
    refine gf_X10_26 (v := .ref (ma 5)) O rfl dX10_undo_87 0 rfl rfl ?_
    refine v_iload_n O dX10_undo_90 1 rfl ?_
    refine v_aload_n O dX10_undo_91 0 rfl ?_
    refine gf_X10_148 (v := .ref (ma 45)) O rfl dX10_undo_92 0 rfl rfl ?_
    refine v_iload_n O dX10_undo_95 1 rfl ?_
    refine v_ialdk O dX10_undo_96 7 rfl 5 rfl (by omega) (by decide) ?_
    refine v_top (y := nI (c2.vv 5)) rfl ?_
    refine v_iastk (ws' := [(mo, .inr (10, M1R ma (upd (upd (upd (upd (upd (upd (upd (mZ c c2 tk vc ln rn zs_10 zs_11 zs_20 zs_21 zs_22 zs_25 zs_26 zs_27 zs_29) 0 (nI c2.men)) 1 (nI c2.heap)) 2 c2.dogs) 3 (nI c2.wak)) 8 c2.held) 28 (nI c2.rl)) 34 (nI c2.pg)))), ((ma 4), eI D 6 (nF (uN (uN (uN (uN (uN (uN c.kk 0 (c2.kk 0)) 1 (c2.kk 1)) 2 (c2.kk 2)) 3 (c2.kk 3)) 4 (c2.kk 4)) 5 (c2.kk 5)))), ((ma 5), eI D 6 (nF (uN (uN (uN (uN (uN (uN c.vv 0 (c2.vv 0)) 1 (c2.vv 1)) 2 (c2.vv 2)) 3 (c2.vv 3)) 4 (c2.vv 4)) 5 (c2.vv 5)))), ((ma 6), eI D 6 (upd (upd (upd (upd (upd c.hd 0 (c2.hd 0)) 1 (c2.hd 1)) 2 (c2.hd 2)) 3 (c2.hd 3)) 4 (c2.hd 4))), ((ma 30), eI D 8 (nF c.crf)), ((ma 35), eI D 12 (nF c.bo)), ((ma 44), eI D 6 (nF c2.kk)), ((ma 45), eI D 6 (nF c2.vv)), ((ma 46), eI D 6 c2.hd), ((ma 47), eI D 8 (nF c2.crf)), ((ma 48), eI D 12 (nF c2.bo))]) O dX10_undo_97 2 rfl 5 (rfl) (by omega) (by decide) (by rw [upd_nF]; rfl) ?_
    refine v_aload_n O dX10_undo_98 0 rfl ?_
    refine gf_X10_29 (v := .ref (ma 6)) O rfl dX10_undo_99 0 rfl rfl ?_
    refine v_iload_n O dX10_undo_102 1 rfl ?_
    refine v_aload_n O dX10_undo_103 0 rfl ?_
    refine gf_X10_151 (v := .ref (ma 46)) O rfl dX10_undo_104 0 rfl rfl ?_
    refine v_iload_n O dX10_undo_107 1 rfl ?_
    refine v_ialdk O dX10_undo_108 8 rfl 5 rfl (by omega) (by decide) ?_
    refine v_iastk (ws' := [(mo, .inr (10, M1R ma (upd (upd (upd (upd (upd (upd (upd (mZ c c2 tk vc ln rn zs_10 zs_11 zs_20 zs_21 zs_22 zs_25 zs_26 zs_27 zs_29) 0 (nI c2.men)) 1 (nI c2.heap)) 2 c2.dogs) 3 (nI c2.wak)) 8 c2.held) 28 (nI c2.rl)) 34 (nI c2.pg)))), ((ma 4), eI D 6 (nF (uN (uN (uN (uN (uN (uN c.kk 0 (c2.kk 0)) 1 (c2.kk 1)) 2 (c2.kk 2)) 3 (c2.kk 3)) 4 (c2.kk 4)) 5 (c2.kk 5)))), ((ma 5), eI D 6 (nF (uN (uN (uN (uN (uN (uN c.vv 0 (c2.vv 0)) 1 (c2.vv 1)) 2 (c2.vv 2)) 3 (c2.vv 3)) 4 (c2.vv 4)) 5 (c2.vv 5)))), ((ma 6), eI D 6 (upd (upd (upd (upd (upd (upd c.hd 0 (c2.hd 0)) 1 (c2.hd 1)) 2 (c2.hd 2)) 3 (c2.hd 3)) 4 (c2.hd 4)) 5 (c2.hd 5))), ((ma 30), eI D 8 (nF c.crf)), ((ma 35), eI D 12 (nF c.bo)), ((ma 44), eI D 6 (nF c2.kk)), ((ma 45), eI D 6 (nF c2.vv)), ((ma 46), eI D 6 c2.hd), ((ma 47), eI D 8 (nF c2.crf)), ((ma 48), eI D 12 (nF c2.bo))]) O dX10_undo_109 3 rfl 5 (rfl) (by omega) (by decide) (rfl) ?_
    refine v_iinc (v := 6) (lv' := [(0, .ref mo), (1, .int 6)]) O dX10_undo_110 1 rfl (by decide) (by decide) rfl ?_
    refine v_goto O 68 dX10_undo_113 (by decide) ?_
    refine v_iload_n O dX10_undo_68 1 rfl ?_
    refine v_bipush (v := 6) O dX10_undo_69 (by decide) ?_
    refine v_icmp_ge O 116 dX10_undo_71 (by decide) (fun _ => ?_) (fun c => absurd c (by decide))
    refine v_iconst (v := 0) O dX10_undo_116 (by decide) ?_
    refine v_istore_n (lv' := [(0, .ref mo), (1, .int 0)]) O dX10_undo_117 (by decide) rfl ?_
    refine v_iload_n O dX10_undo_118 1 rfl ?_
    refine v_bipush (v := 8) O dX10_undo_119 (by decide) ?_
    refine v_icmp_ge O 142 dX10_undo_121 (by decide) (fun c => absurd c (by decide)) (fun _ => ?_)
    refine v_aload_n O dX10_undo_124 0 rfl ?_
    refine gf_X10_102 (v := .ref (ma 30)) O rfl dX10_undo_125 0 rfl rfl ?_
    refine v_iload_n O dX10_undo_128 1 rfl ?_
    refine v_aload_n O dX10_undo_129 0 rfl ?_
    refine gf_X10_154 (v := .ref (ma 47)) O rfl dX10_undo_130 0 rfl rfl ?_
    refine v_iload_n O dX10_undo_133 1 rfl ?_
    refine v_ialdk O dX10_undo_134 9 rfl 0 rfl (by omega) (by decide) ?_
    refine v_top (y := nI (c2.crf 0)) rfl ?_
    refine v_iastk (ws' := [(mo, .inr (10, M1R ma (upd (upd (upd (upd (upd (upd (upd (mZ c c2 tk vc ln rn zs_10 zs_11 zs_20 zs_21 zs_22 zs_25 zs_26 zs_27 zs_29) 0 (nI c2.men)) 1 (nI c2.heap)) 2 c2.dogs) 3 (nI c2.wak)) 8 c2.held) 28 (nI c2.rl)) 34 (nI c2.pg)))), ((ma 4), eI D 6 (nF (uN (uN (uN (uN (uN (uN c.kk 0 (c2.kk 0)) 1 (c2.kk 1)) 2 (c2.kk 2)) 3 (c2.kk 3)) 4 (c2.kk 4)) 5 (c2.kk 5)))), ((ma 5), eI D 6 (nF (uN (uN (uN (uN (uN (uN c.vv 0 (c2.vv 0)) 1 (c2.vv 1)) 2 (c2.vv 2)) 3 (c2.vv 3)) 4 (c2.vv 4)) 5 (c2.vv 5)))), ((ma 6), eI D 6 (upd (upd (upd (upd (upd (upd c.hd 0 (c2.hd 0)) 1 (c2.hd 1)) 2 (c2.hd 2)) 3 (c2.hd 3)) 4 (c2.hd 4)) 5 (c2.hd 5))), ((ma 30), eI D 8 (nF (uN c.crf 0 (c2.crf 0)))), ((ma 35), eI D 12 (nF c.bo)), ((ma 44), eI D 6 (nF c2.kk)), ((ma 45), eI D 6 (nF c2.vv)), ((ma 46), eI D 6 c2.hd), ((ma 47), eI D 8 (nF c2.crf)), ((ma 48), eI D 12 (nF c2.bo))]) O dX10_undo_135 4 rfl 0 (rfl) (by omega) (by decide) (by rw [upd_nF]; rfl) ?_
    refine v_iinc (v := 1) (lv' := [(0, .ref mo), (1, .int 1)]) O dX10_undo_136 1 rfl (by decide) (by decide) rfl ?_
    refine v_goto O 118 dX10_undo_139 (by decide) ?_
    refine v_iload_n O dX10_undo_118 1 rfl ?_
    refine v_bipush (v := 8) O dX10_undo_119 (by decide) ?_
    refine v_icmp_ge O 142 dX10_undo_121 (by decide) (fun c => absurd c (by decide)) (fun _ => ?_)
    refine v_aload_n O dX10_undo_124 0 rfl ?_
    refine gf_X10_102 (v := .ref (ma 30)) O rfl dX10_undo_125 0 rfl rfl ?_
    refine v_iload_n O dX10_undo_128 1 rfl ?_
    refine v_aload_n O dX10_undo_129 0 rfl ?_
    refine gf_X10_154 (v := .ref (ma 47)) O rfl dX10_undo_130 0 rfl rfl ?_
    refine v_iload_n O dX10_undo_133 1 rfl ?_
    refine v_ialdk O dX10_undo_134 9 rfl 1 rfl (by omega) (by decide) ?_
    refine v_top (y := nI (c2.crf 1)) rfl ?_
    refine v_iastk (ws' := [(mo, .inr (10, M1R ma (upd (upd (upd (upd (upd (upd (upd (mZ c c2 tk vc ln rn zs_10 zs_11 zs_20 zs_21 zs_22 zs_25 zs_26 zs_27 zs_29) 0 (nI c2.men)) 1 (nI c2.heap)) 2 c2.dogs) 3 (nI c2.wak)) 8 c2.held) 28 (nI c2.rl)) 34 (nI c2.pg)))), ((ma 4), eI D 6 (nF (uN (uN (uN (uN (uN (uN c.kk 0 (c2.kk 0)) 1 (c2.kk 1)) 2 (c2.kk 2)) 3 (c2.kk 3)) 4 (c2.kk 4)) 5 (c2.kk 5)))), ((ma 5), eI D 6 (nF (uN (uN (uN (uN (uN (uN c.vv 0 (c2.vv 0)) 1 (c2.vv 1)) 2 (c2.vv 2)) 3 (c2.vv 3)) 4 (c2.vv 4)) 5 (c2.vv 5)))), ((ma 6), eI D 6 (upd (upd (upd (upd (upd (upd c.hd 0 (c2.hd 0)) 1 (c2.hd 1)) 2 (c2.hd 2)) 3 (c2.hd 3)) 4 (c2.hd 4)) 5 (c2.hd 5))), ((ma 30), eI D 8 (nF (uN (uN c.crf 0 (c2.crf 0)) 1 (c2.crf 1)))), ((ma 35), eI D 12 (nF c.bo)), ((ma 44), eI D 6 (nF c2.kk)), ((ma 45), eI D 6 (nF c2.vv)), ((ma 46), eI D 6 c2.hd), ((ma 47), eI D 8 (nF c2.crf)), ((ma 48), eI D 12 (nF c2.bo))]) O dX10_undo_135 4 rfl 1 (rfl) (by omega) (by decide) (by rw [upd_nF]; rfl) ?_
    refine v_iinc (v := 2) (lv' := [(0, .ref mo), (1, .int 2)]) O dX10_undo_136 1 rfl (by decide) (by decide) rfl ?_
    refine v_goto O 118 dX10_undo_139 (by decide) ?_
    refine v_iload_n O dX10_undo_118 1 rfl ?_
    refine v_bipush (v := 8) O dX10_undo_119 (by decide) ?_
    refine v_icmp_ge O 142 dX10_undo_121 (by decide) (fun c => absurd c (by decide)) (fun _ => ?_)
    refine v_aload_n O dX10_undo_124 0 rfl ?_
    refine gf_X10_102 (v := .ref (ma 30)) O rfl dX10_undo_125 0 rfl rfl ?_
    refine v_iload_n O dX10_undo_128 1 rfl ?_
    refine v_aload_n O dX10_undo_129 0 rfl ?_
    refine gf_X10_154 (v := .ref (ma 47)) O rfl dX10_undo_130 0 rfl rfl ?_
    refine v_iload_n O dX10_undo_133 1 rfl ?_
    refine v_ialdk O dX10_undo_134 9 rfl 2 rfl (by omega) (by decide) ?_
    refine v_top (y := nI (c2.crf 2)) rfl ?_
    refine v_iastk (ws' := [(mo, .inr (10, M1R ma (upd (upd (upd (upd (upd (upd (upd (mZ c c2 tk vc ln rn zs_10 zs_11 zs_20 zs_21 zs_22 zs_25 zs_26 zs_27 zs_29) 0 (nI c2.men)) 1 (nI c2.heap)) 2 c2.dogs) 3 (nI c2.wak)) 8 c2.held) 28 (nI c2.rl)) 34 (nI c2.pg)))), ((ma 4), eI D 6 (nF (uN (uN (uN (uN (uN (uN c.kk 0 (c2.kk 0)) 1 (c2.kk 1)) 2 (c2.kk 2)) 3 (c2.kk 3)) 4 (c2.kk 4)) 5 (c2.kk 5)))), ((ma 5), eI D 6 (nF (uN (uN (uN (uN (uN (uN c.vv 0 (c2.vv 0)) 1 (c2.vv 1)) 2 (c2.vv 2)) 3 (c2.vv 3)) 4 (c2.vv 4)) 5 (c2.vv 5)))), ((ma 6), eI D 6 (upd (upd (upd (upd (upd (upd c.hd 0 (c2.hd 0)) 1 (c2.hd 1)) 2 (c2.hd 2)) 3 (c2.hd 3)) 4 (c2.hd 4)) 5 (c2.hd 5))), ((ma 30), eI D 8 (nF (uN (uN (uN c.crf 0 (c2.crf 0)) 1 (c2.crf 1)) 2 (c2.crf 2)))), ((ma 35), eI D 12 (nF c.bo)), ((ma 44), eI D 6 (nF c2.kk)), ((ma 45), eI D 6 (nF c2.vv)), ((ma 46), eI D 6 c2.hd), ((ma 47), eI D 8 (nF c2.crf)), ((ma 48), eI D 12 (nF c2.bo))]) O dX10_undo_135 4 rfl 2 (rfl) (by omega) (by decide) (by rw [upd_nF]; rfl) ?_
    refine v_iinc (v := 3) (lv' := [(0, .ref mo), (1, .int 3)]) O dX10_undo_136 1 rfl (by decide) (by decide) rfl ?_
    refine v_goto O 118 dX10_undo_139 (by decide) ?_
    refine v_iload_n O dX10_undo_118 1 rfl ?_
    refine v_bipush (v := 8) O dX10_undo_119 (by decide) ?_
    refine v_icmp_ge O 142 dX10_undo_121 (by decide) (fun c => absurd c (by decide)) (fun _ => ?_)
    refine v_aload_n O dX10_undo_124 0 rfl ?_
    refine gf_X10_102 (v := .ref (ma 30)) O rfl dX10_undo_125 0 rfl rfl ?_
    refine v_iload_n O dX10_undo_128 1 rfl ?_
    refine v_aload_n O dX10_undo_129 0 rfl ?_
    refine gf_X10_154 (v := .ref (ma 47)) O rfl dX10_undo_130 0 rfl rfl ?_
    refine v_iload_n O dX10_undo_133 1 rfl ?_
    refine v_ialdk O dX10_undo_134 9 rfl 3 rfl (by omega) (by decide) ?_
    refine v_top (y := nI (c2.crf 3)) rfl ?_
    refine v_iastk (ws' := [(mo, .inr (10, M1R ma (upd (upd (upd (upd (upd (upd (upd (mZ c c2 tk vc ln rn zs_10 zs_11 zs_20 zs_21 zs_22 zs_25 zs_26 zs_27 zs_29) 0 (nI c2.men)) 1 (nI c2.heap)) 2 c2.dogs) 3 (nI c2.wak)) 8 c2.held) 28 (nI c2.rl)) 34 (nI c2.pg)))), ((ma 4), eI D 6 (nF (uN (uN (uN (uN (uN (uN c.kk 0 (c2.kk 0)) 1 (c2.kk 1)) 2 (c2.kk 2)) 3 (c2.kk 3)) 4 (c2.kk 4)) 5 (c2.kk 5)))), ((ma 5), eI D 6 (nF (uN (uN (uN (uN (uN (uN c.vv 0 (c2.vv 0)) 1 (c2.vv 1)) 2 (c2.vv 2)) 3 (c2.vv 3)) 4 (c2.vv 4)) 5 (c2.vv 5)))), ((ma 6), eI D 6 (upd (upd (upd (upd (upd (upd c.hd 0 (c2.hd 0)) 1 (c2.hd 1)) 2 (c2.hd 2)) 3 (c2.hd 3)) 4 (c2.hd 4)) 5 (c2.hd 5))), ((ma 30), eI D 8 (nF (uN (uN (uN (uN c.crf 0 (c2.crf 0)) 1 (c2.crf 1)) 2 (c2.crf 2)) 3 (c2.crf 3)))), ((ma 35), eI D 12 (nF c.bo)), ((ma 44), eI D 6 (nF c2.kk)), ((ma 45), eI D 6 (nF c2.vv)), ((ma 46), eI D 6 c2.hd), ((ma 47), eI D 8 (nF c2.crf)), ((ma 48), eI D 12 (nF c2.bo))]) O dX10_undo_135 4 rfl 3 (rfl) (by omega) (by decide) (by rw [upd_nF]; rfl) ?_
    refine v_iinc (v := 4) (lv' := [(0, .ref mo), (1, .int 4)]) O dX10_undo_136 1 rfl (by decide) (by decide) rfl ?_
    refine v_goto O 118 dX10_undo_139 (by decide) ?_
    refine v_iload_n O dX10_undo_118 1 rfl ?_
    refine v_bipush (v := 8) O dX10_undo_119 (by decide) ?_
    refine v_icmp_ge O 142 dX10_undo_121 (by decide) (fun c => absurd c (by decide)) (fun _ => ?_)
    refine v_aload_n O dX10_undo_124 0 rfl ?_
    refine gf_X10_102 (v := .ref (ma 30)) O rfl dX10_undo_125 0 rfl rfl ?_
    refine v_iload_n O dX10_undo_128 1 rfl ?_
    refine v_aload_n O dX10_undo_129 0 rfl ?_
    refine gf_X10_154 (v := .ref (ma 47)) O rfl dX10_undo_130 0 rfl rfl ?_
    refine v_iload_n O dX10_undo_133 1 rfl ?_
    refine v_ialdk O dX10_undo_134 9 rfl 4 rfl (by omega) (by decide) ?_
    refine v_top (y := nI (c2.crf 4)) rfl ?_
    refine v_iastk (ws' := [(mo, .inr (10, M1R ma (upd (upd (upd (upd (upd (upd (upd (mZ c c2 tk vc ln rn zs_10 zs_11 zs_20 zs_21 zs_22 zs_25 zs_26 zs_27 zs_29) 0 (nI c2.men)) 1 (nI c2.heap)) 2 c2.dogs) 3 (nI c2.wak)) 8 c2.held) 28 (nI c2.rl)) 34 (nI c2.pg)))), ((ma 4), eI D 6 (nF (uN (uN (uN (uN (uN (uN c.kk 0 (c2.kk 0)) 1 (c2.kk 1)) 2 (c2.kk 2)) 3 (c2.kk 3)) 4 (c2.kk 4)) 5 (c2.kk 5)))), ((ma 5), eI D 6 (nF (uN (uN (uN (uN (uN (uN c.vv 0 (c2.vv 0)) 1 (c2.vv 1)) 2 (c2.vv 2)) 3 (c2.vv 3)) 4 (c2.vv 4)) 5 (c2.vv 5)))), ((ma 6), eI D 6 (upd (upd (upd (upd (upd (upd c.hd 0 (c2.hd 0)) 1 (c2.hd 1)) 2 (c2.hd 2)) 3 (c2.hd 3)) 4 (c2.hd 4)) 5 (c2.hd 5))), ((ma 30), eI D 8 (nF (uN (uN (uN (uN (uN c.crf 0 (c2.crf 0)) 1 (c2.crf 1)) 2 (c2.crf 2)) 3 (c2.crf 3)) 4 (c2.crf 4)))), ((ma 35), eI D 12 (nF c.bo)), ((ma 44), eI D 6 (nF c2.kk)), ((ma 45), eI D 6 (nF c2.vv)), ((ma 46), eI D 6 c2.hd), ((ma 47), eI D 8 (nF c2.crf)), ((ma 48), eI D 12 (nF c2.bo))]) O dX10_undo_135 4 rfl 4 (rfl) (by omega) (by decide) (by rw [upd_nF]; rfl) ?_
    refine v_iinc (v := 5) (lv' := [(0, .ref mo), (1, .int 5)]) O dX10_undo_136 1 rfl (by decide) (by decide) rfl ?_
    refine v_goto O 118 dX10_undo_139 (by decide) ?_
    refine v_iload_n O dX10_undo_118 1 rfl ?_
    refine v_bipush (v := 8) O dX10_undo_119 (by decide) ?_
    refine v_icmp_ge O 142 dX10_undo_121 (by decide) (fun c => absurd c (by decide)) (fun _ => ?_)
    refine v_aload_n O dX10_undo_124 0 rfl ?_
    refine gf_X10_102 (v := .ref (ma 30)) O rfl dX10_undo_125 0 rfl rfl ?_
    refine v_iload_n O dX10_undo_128 1 rfl ?_
    refine v_aload_n O dX10_undo_129 0 rfl ?_
    refine gf_X10_154 (v := .ref (ma 47)) O rfl dX10_undo_130 0 rfl rfl ?_
    refine v_iload_n O dX10_undo_133 1 rfl ?_
    refine v_ialdk O dX10_undo_134 9 rfl 5 rfl (by omega) (by decide) ?_
    refine v_top (y := nI (c2.crf 5)) rfl ?_
    refine v_iastk (ws' := [(mo, .inr (10, M1R ma (upd (upd (upd (upd (upd (upd (upd (mZ c c2 tk vc ln rn zs_10 zs_11 zs_20 zs_21 zs_22 zs_25 zs_26 zs_27 zs_29) 0 (nI c2.men)) 1 (nI c2.heap)) 2 c2.dogs) 3 (nI c2.wak)) 8 c2.held) 28 (nI c2.rl)) 34 (nI c2.pg)))), ((ma 4), eI D 6 (nF (uN (uN (uN (uN (uN (uN c.kk 0 (c2.kk 0)) 1 (c2.kk 1)) 2 (c2.kk 2)) 3 (c2.kk 3)) 4 (c2.kk 4)) 5 (c2.kk 5)))), ((ma 5), eI D 6 (nF (uN (uN (uN (uN (uN (uN c.vv 0 (c2.vv 0)) 1 (c2.vv 1)) 2 (c2.vv 2)) 3 (c2.vv 3)) 4 (c2.vv 4)) 5 (c2.vv 5)))), ((ma 6), eI D 6 (upd (upd (upd (upd (upd (upd c.hd 0 (c2.hd 0)) 1 (c2.hd 1)) 2 (c2.hd 2)) 3 (c2.hd 3)) 4 (c2.hd 4)) 5 (c2.hd 5))), ((ma 30), eI D 8 (nF (uN (uN (uN (uN (uN (uN c.crf 0 (c2.crf 0)) 1 (c2.crf 1)) 2 (c2.crf 2)) 3 (c2.crf 3)) 4 (c2.crf 4)) 5 (c2.crf 5)))), ((ma 35), eI D 12 (nF c.bo)), ((ma 44), eI D 6 (nF c2.kk)), ((ma 45), eI D 6 (nF c2.vv)), ((ma 46), eI D 6 c2.hd), ((ma 47), eI D 8 (nF c2.crf)), ((ma 48), eI D 12 (nF c2.bo))]) O dX10_undo_135 4 rfl 5 (rfl) (by omega) (by decide) (by rw [upd_nF]; rfl) ?_
    refine v_iinc (v := 6) (lv' := [(0, .ref mo), (1, .int 6)]) O dX10_undo_136 1 rfl (by decide) (by decide) rfl ?_
    refine v_goto O 118 dX10_undo_139 (by decide) ?_
    refine v_iload_n O dX10_undo_118 1 rfl ?_
    refine v_bipush (v := 8) O dX10_undo_119 (by decide) ?_
    refine v_icmp_ge O 142 dX10_undo_121 (by decide) (fun c => absurd c (by decide)) (fun _ => ?_)
    refine v_aload_n O dX10_undo_124 0 rfl ?_
    refine gf_X10_102 (v := .ref (ma 30)) O rfl dX10_undo_125 0 rfl rfl ?_
    refine v_iload_n O dX10_undo_128 1 rfl ?_
    refine v_aload_n O dX10_undo_129 0 rfl ?_
    refine gf_X10_154 (v := .ref (ma 47)) O rfl dX10_undo_130 0 rfl rfl ?_
    refine v_iload_n O dX10_undo_133 1 rfl ?_
    refine v_ialdk O dX10_undo_134 9 rfl 6 rfl (by omega) (by decide) ?_
    refine v_top (y := nI (c2.crf 6)) rfl ?_
    refine v_iastk (ws' := [(mo, .inr (10, M1R ma (upd (upd (upd (upd (upd (upd (upd (mZ c c2 tk vc ln rn zs_10 zs_11 zs_20 zs_21 zs_22 zs_25 zs_26 zs_27 zs_29) 0 (nI c2.men)) 1 (nI c2.heap)) 2 c2.dogs) 3 (nI c2.wak)) 8 c2.held) 28 (nI c2.rl)) 34 (nI c2.pg)))), ((ma 4), eI D 6 (nF (uN (uN (uN (uN (uN (uN c.kk 0 (c2.kk 0)) 1 (c2.kk 1)) 2 (c2.kk 2)) 3 (c2.kk 3)) 4 (c2.kk 4)) 5 (c2.kk 5)))), ((ma 5), eI D 6 (nF (uN (uN (uN (uN (uN (uN c.vv 0 (c2.vv 0)) 1 (c2.vv 1)) 2 (c2.vv 2)) 3 (c2.vv 3)) 4 (c2.vv 4)) 5 (c2.vv 5)))), ((ma 6), eI D 6 (upd (upd (upd (upd (upd (upd c.hd 0 (c2.hd 0)) 1 (c2.hd 1)) 2 (c2.hd 2)) 3 (c2.hd 3)) 4 (c2.hd 4)) 5 (c2.hd 5))), ((ma 30), eI D 8 (nF (uN (uN (uN (uN (uN (uN (uN c.crf 0 (c2.crf 0)) 1 (c2.crf 1)) 2 (c2.crf 2)) 3 (c2.crf 3)) 4 (c2.crf 4)) 5 (c2.crf 5)) 6 (c2.crf 6)))), ((ma 35), eI D 12 (nF c.bo)), ((ma 44), eI D 6 (nF c2.kk)), ((ma 45), eI D 6 (nF c2.vv)), ((ma 46), eI D 6 c2.hd), ((ma 47), eI D 8 (nF c2.crf)), ((ma 48), eI D 12 (nF c2.bo))]) O dX10_undo_135 4 rfl 6 (rfl) (by omega) (by decide) (by rw [upd_nF]; rfl) ?_
    refine v_iinc (v := 7) (lv' := [(0, .ref mo), (1, .int 7)]) O dX10_undo_136 1 rfl (by decide) (by decide) rfl ?_
    refine v_goto O 118 dX10_undo_139 (by decide) ?_
    refine v_iload_n O dX10_undo_118 1 rfl ?_
    refine v_bipush (v := 8) O dX10_undo_119 (by decide) ?_
    refine v_icmp_ge O 142 dX10_undo_121 (by decide) (fun c => absurd c (by decide)) (fun _ => ?_)
    refine v_aload_n O dX10_undo_124 0 rfl ?_
    refine gf_X10_102 (v := .ref (ma 30)) O rfl dX10_undo_125 0 rfl rfl ?_
    refine v_iload_n O dX10_undo_128 1 rfl ?_
    refine v_aload_n O dX10_undo_129 0 rfl ?_
    refine gf_X10_154 (v := .ref (ma 47)) O rfl dX10_undo_130 0 rfl rfl ?_
    refine v_iload_n O dX10_undo_133 1 rfl ?_
    refine v_ialdk O dX10_undo_134 9 rfl 7 rfl (by omega) (by decide) ?_
    refine v_top (y := nI (c2.crf 7)) rfl ?_
    refine v_iastk (ws' := [(mo, .inr (10, M1R ma (upd (upd (upd (upd (upd (upd (upd (mZ c c2 tk vc ln rn zs_10 zs_11 zs_20 zs_21 zs_22 zs_25 zs_26 zs_27 zs_29) 0 (nI c2.men)) 1 (nI c2.heap)) 2 c2.dogs) 3 (nI c2.wak)) 8 c2.held) 28 (nI c2.rl)) 34 (nI c2.pg)))), ((ma 4), eI D 6 (nF (uN (uN (uN (uN (uN (uN c.kk 0 (c2.kk 0)) 1 (c2.kk 1)) 2 (c2.kk 2)) 3 (c2.kk 3)) 4 (c2.kk 4)) 5 (c2.kk 5)))), ((ma 5), eI D 6 (nF (uN (uN (uN (uN (uN (uN c.vv 0 (c2.vv 0)) 1 (c2.vv 1)) 2 (c2.vv 2)) 3 (c2.vv 3)) 4 (c2.vv 4)) 5 (c2.vv 5)))), ((ma 6), eI D 6 (upd (upd (upd (upd (upd (upd c.hd 0 (c2.hd 0)) 1 (c2.hd 1)) 2 (c2.hd 2)) 3 (c2.hd 3)) 4 (c2.hd 4)) 5 (c2.hd 5))), ((ma 30), eI D 8 (nF (uN (uN (uN (uN (uN (uN (uN (uN c.crf 0 (c2.crf 0)) 1 (c2.crf 1)) 2 (c2.crf 2)) 3 (c2.crf 3)) 4 (c2.crf 4)) 5 (c2.crf 5)) 6 (c2.crf 6)) 7 (c2.crf 7)))), ((ma 35), eI D 12 (nF c.bo)), ((ma 44), eI D 6 (nF c2.kk)), ((ma 45), eI D 6 (nF c2.vv)), ((ma 46), eI D 6 c2.hd), ((ma 47), eI D 8 (nF c2.crf)), ((ma 48), eI D 12 (nF c2.bo))]) O dX10_undo_135 4 rfl 7 (rfl) (by omega) (by decide) (by rw [upd_nF]; rfl) ?_
    refine v_iinc (v := 8) (lv' := [(0, .ref mo), (1, .int 8)]) O dX10_undo_136 1 rfl (by decide) (by decide) rfl ?_
    refine v_goto O 118 dX10_undo_139 (by decide) ?_
    refine v_iload_n O dX10_undo_118 1 rfl ?_
    refine v_bipush (v := 8) O dX10_undo_119 (by decide) ?_
    refine v_icmp_ge O 142 dX10_undo_121 (by decide) (fun _ => ?_) (fun c => absurd c (by decide))
    refine v_iconst (v := 0) O dX10_undo_142 (by decide) ?_
    refine v_istore_n (lv' := [(0, .ref mo), (1, .int 0)]) O dX10_undo_143 (by decide) rfl ?_
    refine v_iload_n O dX10_undo_144 1 rfl ?_
    refine v_bipush (v := 12) O dX10_undo_145 (by decide) ?_
    refine v_icmp_ge O 168 dX10_undo_147 (by decide) (fun c => absurd c (by decide)) (fun _ => ?_)
    refine v_aload_n O dX10_undo_150 0 rfl ?_
    refine gf_X10_117 (v := .ref (ma 35)) O rfl dX10_undo_151 0 rfl rfl ?_
    refine v_iload_n O dX10_undo_154 1 rfl ?_
    refine v_aload_n O dX10_undo_155 0 rfl ?_
    refine gf_X10_157 (v := .ref (ma 48)) O rfl dX10_undo_156 0 rfl rfl ?_
    refine v_iload_n O dX10_undo_159 1 rfl ?_
    refine v_ialdk O dX10_undo_160 10 rfl 0 rfl (by omega) (by decide) ?_
    refine v_top (y := nI (c2.bo 0)) rfl ?_
    refine v_iastk (ws' := [(mo, .inr (10, M1R ma (upd (upd (upd (upd (upd (upd (upd (mZ c c2 tk vc ln rn zs_10 zs_11 zs_20 zs_21 zs_22 zs_25 zs_26 zs_27 zs_29) 0 (nI c2.men)) 1 (nI c2.heap)) 2 c2.dogs) 3 (nI c2.wak)) 8 c2.held) 28 (nI c2.rl)) 34 (nI c2.pg)))), ((ma 4), eI D 6 (nF (uN (uN (uN (uN (uN (uN c.kk 0 (c2.kk 0)) 1 (c2.kk 1)) 2 (c2.kk 2)) 3 (c2.kk 3)) 4 (c2.kk 4)) 5 (c2.kk 5)))), ((ma 5), eI D 6 (nF (uN (uN (uN (uN (uN (uN c.vv 0 (c2.vv 0)) 1 (c2.vv 1)) 2 (c2.vv 2)) 3 (c2.vv 3)) 4 (c2.vv 4)) 5 (c2.vv 5)))), ((ma 6), eI D 6 (upd (upd (upd (upd (upd (upd c.hd 0 (c2.hd 0)) 1 (c2.hd 1)) 2 (c2.hd 2)) 3 (c2.hd 3)) 4 (c2.hd 4)) 5 (c2.hd 5))), ((ma 30), eI D 8 (nF (uN (uN (uN (uN (uN (uN (uN (uN c.crf 0 (c2.crf 0)) 1 (c2.crf 1)) 2 (c2.crf 2)) 3 (c2.crf 3)) 4 (c2.crf 4)) 5 (c2.crf 5)) 6 (c2.crf 6)) 7 (c2.crf 7)))), ((ma 35), eI D 12 (nF (uN c.bo 0 (c2.bo 0)))), ((ma 44), eI D 6 (nF c2.kk)), ((ma 45), eI D 6 (nF c2.vv)), ((ma 46), eI D 6 c2.hd), ((ma 47), eI D 8 (nF c2.crf)), ((ma 48), eI D 12 (nF c2.bo))]) O dX10_undo_161 5 rfl 0 (rfl) (by omega) (by decide) (by rw [upd_nF]; rfl) ?_
    refine v_iinc (v := 1) (lv' := [(0, .ref mo), (1, .int 1)]) O dX10_undo_162 1 rfl (by decide) (by decide) rfl ?_
    refine v_goto O 144 dX10_undo_165 (by decide) ?_
    refine v_iload_n O dX10_undo_144 1 rfl ?_
    refine v_bipush (v := 12) O dX10_undo_145 (by decide) ?_
    refine v_icmp_ge O 168 dX10_undo_147 (by decide) (fun c => absurd c (by decide)) (fun _ => ?_)
    refine v_aload_n O dX10_undo_150 0 rfl ?_
    refine gf_X10_117 (v := .ref (ma 35)) O rfl dX10_undo_151 0 rfl rfl ?_
    refine v_iload_n O dX10_undo_154 1 rfl ?_
    refine v_aload_n O dX10_undo_155 0 rfl ?_
    refine gf_X10_157 (v := .ref (ma 48)) O rfl dX10_undo_156 0 rfl rfl ?_
    refine v_iload_n O dX10_undo_159 1 rfl ?_
    refine v_ialdk O dX10_undo_160 10 rfl 1 rfl (by omega) (by decide) ?_
    refine v_top (y := nI (c2.bo 1)) rfl ?_
    refine v_iastk (ws' := [(mo, .inr (10, M1R ma (upd (upd (upd (upd (upd (upd (upd (mZ c c2 tk vc ln rn zs_10 zs_11 zs_20 zs_21 zs_22 zs_25 zs_26 zs_27 zs_29) 0 (nI c2.men)) 1 (nI c2.heap)) 2 c2.dogs) 3 (nI c2.wak)) 8 c2.held) 28 (nI c2.rl)) 34 (nI c2.pg)))), ((ma 4), eI D 6 (nF (uN (uN (uN (uN (uN (uN c.kk 0 (c2.kk 0)) 1 (c2.kk 1)) 2 (c2.kk 2)) 3 (c2.kk 3)) 4 (c2.kk 4)) 5 (c2.kk 5)))), ((ma 5), eI D 6 (nF (uN (uN (uN (uN (uN (uN c.vv 0 (c2.vv 0)) 1 (c2.vv 1)) 2 (c2.vv 2)) 3 (c2.vv 3)) 4 (c2.vv 4)) 5 (c2.vv 5)))), ((ma 6), eI D 6 (upd (upd (upd (upd (upd (upd c.hd 0 (c2.hd 0)) 1 (c2.hd 1)) 2 (c2.hd 2)) 3 (c2.hd 3)) 4 (c2.hd 4)) 5 (c2.hd 5))), ((ma 30), eI D 8 (nF (uN (uN (uN (uN (uN (uN (uN (uN c.crf 0 (c2.crf 0)) 1 (c2.crf 1)) 2 (c2.crf 2)) 3 (c2.crf 3)) 4 (c2.crf 4)) 5 (c2.crf 5)) 6 (c2.crf 6)) 7 (c2.crf 7)))), ((ma 35), eI D 12 (nF (uN (uN c.bo 0 (c2.bo 0)) 1 (c2.bo 1)))), ((ma 44), eI D 6 (nF c2.kk)), ((ma 45), eI D 6 (nF c2.vv)), ((ma 46), eI D 6 c2.hd), ((ma 47), eI D 8 (nF c2.crf)), ((ma 48), eI D 12 (nF c2.bo))]) O dX10_undo_161 5 rfl 1 (rfl) (by omega) (by decide) (by rw [upd_nF]; rfl) ?_
    refine v_iinc (v := 2) (lv' := [(0, .ref mo), (1, .int 2)]) O dX10_undo_162 1 rfl (by decide) (by decide) rfl ?_
    refine v_goto O 144 dX10_undo_165 (by decide) ?_
    refine v_iload_n O dX10_undo_144 1 rfl ?_
    refine v_bipush (v := 12) O dX10_undo_145 (by decide) ?_
    refine v_icmp_ge O 168 dX10_undo_147 (by decide) (fun c => absurd c (by decide)) (fun _ => ?_)
    refine v_aload_n O dX10_undo_150 0 rfl ?_
    refine gf_X10_117 (v := .ref (ma 35)) O rfl dX10_undo_151 0 rfl rfl ?_
    refine v_iload_n O dX10_undo_154 1 rfl ?_
    refine v_aload_n O dX10_undo_155 0 rfl ?_
    refine gf_X10_157 (v := .ref (ma 48)) O rfl dX10_undo_156 0 rfl rfl ?_
    refine v_iload_n O dX10_undo_159 1 rfl ?_
    refine v_ialdk O dX10_undo_160 10 rfl 2 rfl (by omega) (by decide) ?_
    refine v_top (y := nI (c2.bo 2)) rfl ?_
    refine v_iastk (ws' := [(mo, .inr (10, M1R ma (upd (upd (upd (upd (upd (upd (upd (mZ c c2 tk vc ln rn zs_10 zs_11 zs_20 zs_21 zs_22 zs_25 zs_26 zs_27 zs_29) 0 (nI c2.men)) 1 (nI c2.heap)) 2 c2.dogs) 3 (nI c2.wak)) 8 c2.held) 28 (nI c2.rl)) 34 (nI c2.pg)))), ((ma 4), eI D 6 (nF (uN (uN (uN (uN (uN (uN c.kk 0 (c2.kk 0)) 1 (c2.kk 1)) 2 (c2.kk 2)) 3 (c2.kk 3)) 4 (c2.kk 4)) 5 (c2.kk 5)))), ((ma 5), eI D 6 (nF (uN (uN (uN (uN (uN (uN c.vv 0 (c2.vv 0)) 1 (c2.vv 1)) 2 (c2.vv 2)) 3 (c2.vv 3)) 4 (c2.vv 4)) 5 (c2.vv 5)))), ((ma 6), eI D 6 (upd (upd (upd (upd (upd (upd c.hd 0 (c2.hd 0)) 1 (c2.hd 1)) 2 (c2.hd 2)) 3 (c2.hd 3)) 4 (c2.hd 4)) 5 (c2.hd 5))), ((ma 30), eI D 8 (nF (uN (uN (uN (uN (uN (uN (uN (uN c.crf 0 (c2.crf 0)) 1 (c2.crf 1)) 2 (c2.crf 2)) 3 (c2.crf 3)) 4 (c2.crf 4)) 5 (c2.crf 5)) 6 (c2.crf 6)) 7 (c2.crf 7)))), ((ma 35), eI D 12 (nF (uN (uN (uN c.bo 0 (c2.bo 0)) 1 (c2.bo 1)) 2 (c2.bo 2)))), ((ma 44), eI D 6 (nF c2.kk)), ((ma 45), eI D 6 (nF c2.vv)), ((ma 46), eI D 6 c2.hd), ((ma 47), eI D 8 (nF c2.crf)), ((ma 48), eI D 12 (nF c2.bo))]) O dX10_undo_161 5 rfl 2 (rfl) (by omega) (by decide) (by rw [upd_nF]; rfl) ?_
    refine v_iinc (v := 3) (lv' := [(0, .ref mo), (1, .int 3)]) O dX10_undo_162 1 rfl (by decide) (by decide) rfl ?_
    refine v_goto O 144 dX10_undo_165 (by decide) ?_
    refine v_iload_n O dX10_undo_144 1 rfl ?_
    refine v_bipush (v := 12) O dX10_undo_145 (by decide) ?_
    refine v_icmp_ge O 168 dX10_undo_147 (by decide) (fun c => absurd c (by decide)) (fun _ => ?_)
    refine v_aload_n O dX10_undo_150 0 rfl ?_
    refine gf_X10_117 (v := .ref (ma 35)) O rfl dX10_undo_151 0 rfl rfl ?_
    refine v_iload_n O dX10_undo_154 1 rfl ?_
    refine v_aload_n O dX10_undo_155 0 rfl ?_
    refine gf_X10_157 (v := .ref (ma 48)) O rfl dX10_undo_156 0 rfl rfl ?_
    refine v_iload_n O dX10_undo_159 1 rfl ?_
    refine v_ialdk O dX10_undo_160 10 rfl 3 rfl (by omega) (by decide) ?_
    refine v_top (y := nI (c2.bo 3)) rfl ?_
    refine v_iastk (ws' := [(mo, .inr (10, M1R ma (upd (upd (upd (upd (upd (upd (upd (mZ c c2 tk vc ln rn zs_10 zs_11 zs_20 zs_21 zs_22 zs_25 zs_26 zs_27 zs_29) 0 (nI c2.men)) 1 (nI c2.heap)) 2 c2.dogs) 3 (nI c2.wak)) 8 c2.held) 28 (nI c2.rl)) 34 (nI c2.pg)))), ((ma 4), eI D 6 (nF (uN (uN (uN (uN (uN (uN c.kk 0 (c2.kk 0)) 1 (c2.kk 1)) 2 (c2.kk 2)) 3 (c2.kk 3)) 4 (c2.kk 4)) 5 (c2.kk 5)))), ((ma 5), eI D 6 (nF (uN (uN (uN (uN (uN (uN c.vv 0 (c2.vv 0)) 1 (c2.vv 1)) 2 (c2.vv 2)) 3 (c2.vv 3)) 4 (c2.vv 4)) 5 (c2.vv 5)))), ((ma 6), eI D 6 (upd (upd (upd (upd (upd (upd c.hd 0 (c2.hd 0)) 1 (c2.hd 1)) 2 (c2.hd 2)) 3 (c2.hd 3)) 4 (c2.hd 4)) 5 (c2.hd 5))), ((ma 30), eI D 8 (nF (uN (uN (uN (uN (uN (uN (uN (uN c.crf 0 (c2.crf 0)) 1 (c2.crf 1)) 2 (c2.crf 2)) 3 (c2.crf 3)) 4 (c2.crf 4)) 5 (c2.crf 5)) 6 (c2.crf 6)) 7 (c2.crf 7)))), ((ma 35), eI D 12 (nF (uN (uN (uN (uN c.bo 0 (c2.bo 0)) 1 (c2.bo 1)) 2 (c2.bo 2)) 3 (c2.bo 3)))), ((ma 44), eI D 6 (nF c2.kk)), ((ma 45), eI D 6 (nF c2.vv)), ((ma 46), eI D 6 c2.hd), ((ma 47), eI D 8 (nF c2.crf)), ((ma 48), eI D 12 (nF c2.bo))]) O dX10_undo_161 5 rfl 3 (rfl) (by omega) (by decide) (by rw [upd_nF]; rfl) ?_
    refine v_iinc (v := 4) (lv' := [(0, .ref mo), (1, .int 4)]) O dX10_undo_162 1 rfl (by decide) (by decide) rfl ?_
    refine v_goto O 144 dX10_undo_165 (by decide) ?_
    refine v_iload_n O dX10_undo_144 1 rfl ?_
    refine v_bipush (v := 12) O dX10_undo_145 (by decide) ?_
    refine v_icmp_ge O 168 dX10_undo_147 (by decide) (fun c => absurd c (by decide)) (fun _ => ?_)
    refine v_aload_n O dX10_undo_150 0 rfl ?_
    refine gf_X10_117 (v := .ref (ma 35)) O rfl dX10_undo_151 0 rfl rfl ?_
    refine v_iload_n O dX10_undo_154 1 rfl ?_
    refine v_aload_n O dX10_undo_155 0 rfl ?_
    refine gf_X10_157 (v := .ref (ma 48)) O rfl dX10_undo_156 0 rfl rfl ?_
    refine v_iload_n O dX10_undo_159 1 rfl ?_
    refine v_ialdk O dX10_undo_160 10 rfl 4 rfl (by omega) (by decide) ?_
    refine v_top (y := nI (c2.bo 4)) rfl ?_
    refine v_iastk (ws' := [(mo, .inr (10, M1R ma (upd (upd (upd (upd (upd (upd (upd (mZ c c2 tk vc ln rn zs_10 zs_11 zs_20 zs_21 zs_22 zs_25 zs_26 zs_27 zs_29) 0 (nI c2.men)) 1 (nI c2.heap)) 2 c2.dogs) 3 (nI c2.wak)) 8 c2.held) 28 (nI c2.rl)) 34 (nI c2.pg)))), ((ma 4), eI D 6 (nF (uN (uN (uN (uN (uN (uN c.kk 0 (c2.kk 0)) 1 (c2.kk 1)) 2 (c2.kk 2)) 3 (c2.kk 3)) 4 (c2.kk 4)) 5 (c2.kk 5)))), ((ma 5), eI D 6 (nF (uN (uN (uN (uN (uN (uN c.vv 0 (c2.vv 0)) 1 (c2.vv 1)) 2 (c2.vv 2)) 3 (c2.vv 3)) 4 (c2.vv 4)) 5 (c2.vv 5)))), ((ma 6), eI D 6 (upd (upd (upd (upd (upd (upd c.hd 0 (c2.hd 0)) 1 (c2.hd 1)) 2 (c2.hd 2)) 3 (c2.hd 3)) 4 (c2.hd 4)) 5 (c2.hd 5))), ((ma 30), eI D 8 (nF (uN (uN (uN (uN (uN (uN (uN (uN c.crf 0 (c2.crf 0)) 1 (c2.crf 1)) 2 (c2.crf 2)) 3 (c2.crf 3)) 4 (c2.crf 4)) 5 (c2.crf 5)) 6 (c2.crf 6)) 7 (c2.crf 7)))), ((ma 35), eI D 12 (nF (uN (uN (uN (uN (uN c.bo 0 (c2.bo 0)) 1 (c2.bo 1)) 2 (c2.bo 2)) 3 (c2.bo 3)) 4 (c2.bo 4)))), ((ma 44), eI D 6 (nF c2.kk)), ((ma 45), eI D 6 (nF c2.vv)), ((ma 46), eI D 6 c2.hd), ((ma 47), eI D 8 (nF c2.crf)), ((ma 48), eI D 12 (nF c2.bo))]) O dX10_undo_161 5 rfl 4 (rfl) (by omega) (by decide) (by rw [upd_nF]; rfl) ?_
    refine v_iinc (v := 5) (lv' := [(0, .ref mo), (1, .int 5)]) O dX10_undo_162 1 rfl (by decide) (by decide) rfl ?_
    refine v_goto O 144 dX10_undo_165 (by decide) ?_
    refine v_iload_n O dX10_undo_144 1 rfl ?_
    refine v_bipush (v := 12) O dX10_undo_145 (by decide) ?_
    refine v_icmp_ge O 168 dX10_undo_147 (by decide) (fun c => absurd c (by decide)) (fun _ => ?_)
    refine v_aload_n O dX10_undo_150 0 rfl ?_
    refine gf_X10_117 (v := .ref (ma 35)) O rfl dX10_undo_151 0 rfl rfl ?_
    refine v_iload_n O dX10_undo_154 1 rfl ?_
    refine v_aload_n O dX10_undo_155 0 rfl ?_
    refine gf_X10_157 (v := .ref (ma 48)) O rfl dX10_undo_156 0 rfl rfl ?_
    refine v_iload_n O dX10_undo_159 1 rfl ?_
    refine v_ialdk O dX10_undo_160 10 rfl 5 rfl (by omega) (by decide) ?_
    refine v_top (y := nI (c2.bo 5)) rfl ?_
    refine v_iastk (ws' := [(mo, .inr (10, M1R ma (upd (upd (upd (upd (upd (upd (upd (mZ c c2 tk vc ln rn zs_10 zs_11 zs_20 zs_21 zs_22 zs_25 zs_26 zs_27 zs_29) 0 (nI c2.men)) 1 (nI c2.heap)) 2 c2.dogs) 3 (nI c2.wak)) 8 c2.held) 28 (nI c2.rl)) 34 (nI c2.pg)))), ((ma 4), eI D 6 (nF (uN (uN (uN (uN (uN (uN c.kk 0 (c2.kk 0)) 1 (c2.kk 1)) 2 (c2.kk 2)) 3 (c2.kk 3)) 4 (c2.kk 4)) 5 (c2.kk 5)))), ((ma 5), eI D 6 (nF (uN (uN (uN (uN (uN (uN c.vv 0 (c2.vv 0)) 1 (c2.vv 1)) 2 (c2.vv 2)) 3 (c2.vv 3)) 4 (c2.vv 4)) 5 (c2.vv 5)))), ((ma 6), eI D 6 (upd (upd (upd (upd (upd (upd c.hd 0 (c2.hd 0)) 1 (c2.hd 1)) 2 (c2.hd 2)) 3 (c2.hd 3)) 4 (c2.hd 4)) 5 (c2.hd 5))), ((ma 30), eI D 8 (nF (uN (uN (uN (uN (uN (uN (uN (uN c.crf 0 (c2.crf 0)) 1 (c2.crf 1)) 2 (c2.crf 2)) 3 (c2.crf 3)) 4 (c2.crf 4)) 5 (c2.crf 5)) 6 (c2.crf 6)) 7 (c2.crf 7)))), ((ma 35), eI D 12 (nF (uN (uN (uN (uN (uN (uN c.bo 0 (c2.bo 0)) 1 (c2.bo 1)) 2 (c2.bo 2)) 3 (c2.bo 3)) 4 (c2.bo 4)) 5 (c2.bo 5)))), ((ma 44), eI D 6 (nF c2.kk)), ((ma 45), eI D 6 (nF c2.vv)), ((ma 46), eI D 6 c2.hd), ((ma 47), eI D 8 (nF c2.crf)), ((ma 48), eI D 12 (nF c2.bo))]) O dX10_undo_161 5 rfl 5 (rfl) (by omega) (by decide) (by rw [upd_nF]; rfl) ?_
    refine v_iinc (v := 6) (lv' := [(0, .ref mo), (1, .int 6)]) O dX10_undo_162 1 rfl (by decide) (by decide) rfl ?_
    refine v_goto O 144 dX10_undo_165 (by decide) ?_
    refine v_iload_n O dX10_undo_144 1 rfl ?_
    refine v_bipush (v := 12) O dX10_undo_145 (by decide) ?_
    refine v_icmp_ge O 168 dX10_undo_147 (by decide) (fun c => absurd c (by decide)) (fun _ => ?_)
    refine v_aload_n O dX10_undo_150 0 rfl ?_
    refine gf_X10_117 (v := .ref (ma 35)) O rfl dX10_undo_151 0 rfl rfl ?_
    refine v_iload_n O dX10_undo_154 1 rfl ?_
    refine v_aload_n O dX10_undo_155 0 rfl ?_
    refine gf_X10_157 (v := .ref (ma 48)) O rfl dX10_undo_156 0 rfl rfl ?_
    refine v_iload_n O dX10_undo_159 1 rfl ?_
    refine v_ialdk O dX10_undo_160 10 rfl 6 rfl (by omega) (by decide) ?_
    refine v_top (y := nI (c2.bo 6)) rfl ?_
    refine v_iastk (ws' := [(mo, .inr (10, M1R ma (upd (upd (upd (upd (upd (upd (upd (mZ c c2 tk vc ln rn zs_10 zs_11 zs_20 zs_21 zs_22 zs_25 zs_26 zs_27 zs_29) 0 (nI c2.men)) 1 (nI c2.heap)) 2 c2.dogs) 3 (nI c2.wak)) 8 c2.held) 28 (nI c2.rl)) 34 (nI c2.pg)))), ((ma 4), eI D 6 (nF (uN (uN (uN (uN (uN (uN c.kk 0 (c2.kk 0)) 1 (c2.kk 1)) 2 (c2.kk 2)) 3 (c2.kk 3)) 4 (c2.kk 4)) 5 (c2.kk 5)))), ((ma 5), eI D 6 (nF (uN (uN (uN (uN (uN (uN c.vv 0 (c2.vv 0)) 1 (c2.vv 1)) 2 (c2.vv 2)) 3 (c2.vv 3)) 4 (c2.vv 4)) 5 (c2.vv 5)))), ((ma 6), eI D 6 (upd (upd (upd (upd (upd (upd c.hd 0 (c2.hd 0)) 1 (c2.hd 1)) 2 (c2.hd 2)) 3 (c2.hd 3)) 4 (c2.hd 4)) 5 (c2.hd 5))), ((ma 30), eI D 8 (nF (uN (uN (uN (uN (uN (uN (uN (uN c.crf 0 (c2.crf 0)) 1 (c2.crf 1)) 2 (c2.crf 2)) 3 (c2.crf 3)) 4 (c2.crf 4)) 5 (c2.crf 5)) 6 (c2.crf 6)) 7 (c2.crf 7)))), ((ma 35), eI D 12 (nF (uN (uN (uN (uN (uN (uN (uN c.bo 0 (c2.bo 0)) 1 (c2.bo 1)) 2 (c2.bo 2)) 3 (c2.bo 3)) 4 (c2.bo 4)) 5 (c2.bo 5)) 6 (c2.bo 6)))), ((ma 44), eI D 6 (nF c2.kk)), ((ma 45), eI D 6 (nF c2.vv)), ((ma 46), eI D 6 c2.hd), ((ma 47), eI D 8 (nF c2.crf)), ((ma 48), eI D 12 (nF c2.bo))]) O dX10_undo_161 5 rfl 6 (rfl) (by omega) (by decide) (by rw [upd_nF]; rfl) ?_
    refine v_iinc (v := 7) (lv' := [(0, .ref mo), (1, .int 7)]) O dX10_undo_162 1 rfl (by decide) (by decide) rfl ?_
    refine v_goto O 144 dX10_undo_165 (by decide) ?_
    refine v_iload_n O dX10_undo_144 1 rfl ?_
    refine v_bipush (v := 12) O dX10_undo_145 (by decide) ?_
    refine v_icmp_ge O 168 dX10_undo_147 (by decide) (fun c => absurd c (by decide)) (fun _ => ?_)
    refine v_aload_n O dX10_undo_150 0 rfl ?_
    refine gf_X10_117 (v := .ref (ma 35)) O rfl dX10_undo_151 0 rfl rfl ?_
    refine v_iload_n O dX10_undo_154 1 rfl ?_
    refine v_aload_n O dX10_undo_155 0 rfl ?_
    refine gf_X10_157 (v := .ref (ma 48)) O rfl dX10_undo_156 0 rfl rfl ?_
    refine v_iload_n O dX10_undo_159 1 rfl ?_
    refine v_ialdk O dX10_undo_160 10 rfl 7 rfl (by omega) (by decide) ?_
    refine v_top (y := nI (c2.bo 7)) rfl ?_
    refine v_iastk (ws' := [(mo, .inr (10, M1R ma (upd (upd (upd (upd (upd (upd (upd (mZ c c2 tk vc ln rn zs_10 zs_11 zs_20 zs_21 zs_22 zs_25 zs_26 zs_27 zs_29) 0 (nI c2.men)) 1 (nI c2.heap)) 2 c2.dogs) 3 (nI c2.wak)) 8 c2.held) 28 (nI c2.rl)) 34 (nI c2.pg)))), ((ma 4), eI D 6 (nF (uN (uN (uN (uN (uN (uN c.kk 0 (c2.kk 0)) 1 (c2.kk 1)) 2 (c2.kk 2)) 3 (c2.kk 3)) 4 (c2.kk 4)) 5 (c2.kk 5)))), ((ma 5), eI D 6 (nF (uN (uN (uN (uN (uN (uN c.vv 0 (c2.vv 0)) 1 (c2.vv 1)) 2 (c2.vv 2)) 3 (c2.vv 3)) 4 (c2.vv 4)) 5 (c2.vv 5)))), ((ma 6), eI D 6 (upd (upd (upd (upd (upd (upd c.hd 0 (c2.hd 0)) 1 (c2.hd 1)) 2 (c2.hd 2)) 3 (c2.hd 3)) 4 (c2.hd 4)) 5 (c2.hd 5))), ((ma 30), eI D 8 (nF (uN (uN (uN (uN (uN (uN (uN (uN c.crf 0 (c2.crf 0)) 1 (c2.crf 1)) 2 (c2.crf 2)) 3 (c2.crf 3)) 4 (c2.crf 4)) 5 (c2.crf 5)) 6 (c2.crf 6)) 7 (c2.crf 7)))), ((ma 35), eI D 12 (nF (uN (uN (uN (uN (uN (uN (uN (uN c.bo 0 (c2.bo 0)) 1 (c2.bo 1)) 2 (c2.bo 2)) 3 (c2.bo 3)) 4 (c2.bo 4)) 5 (c2.bo 5)) 6 (c2.bo 6)) 7 (c2.bo 7)))), ((ma 44), eI D 6 (nF c2.kk)), ((ma 45), eI D 6 (nF c2.vv)), ((ma 46), eI D 6 c2.hd), ((ma 47), eI D 8 (nF c2.crf)), ((ma 48), eI D 12 (nF c2.bo))]) O dX10_undo_161 5 rfl 7 (rfl) (by omega) (by decide) (by rw [upd_nF]; rfl) ?_
    refine v_iinc (v := 8) (lv' := [(0, .ref mo), (1, .int 8)]) O dX10_undo_162 1 rfl (by decide) (by decide) rfl ?_
    refine v_goto O 144 dX10_undo_165 (by decide) ?_
    refine v_iload_n O dX10_undo_144 1 rfl ?_
    refine v_bipush (v := 12) O dX10_undo_145 (by decide) ?_
    refine v_icmp_ge O 168 dX10_undo_147 (by decide) (fun c => absurd c (by decide)) (fun _ => ?_)
    refine v_aload_n O dX10_undo_150 0 rfl ?_
    refine gf_X10_117 (v := .ref (ma 35)) O rfl dX10_undo_151 0 rfl rfl ?_
    refine v_iload_n O dX10_undo_154 1 rfl ?_
    refine v_aload_n O dX10_undo_155 0 rfl ?_
    refine gf_X10_157 (v := .ref (ma 48)) O rfl dX10_undo_156 0 rfl rfl ?_
    refine v_iload_n O dX10_undo_159 1 rfl ?_
    refine v_ialdk O dX10_undo_160 10 rfl 8 rfl (by omega) (by decide) ?_
    refine v_top (y := nI (c2.bo 8)) rfl ?_
    refine v_iastk (ws' := [(mo, .inr (10, M1R ma (upd (upd (upd (upd (upd (upd (upd (mZ c c2 tk vc ln rn zs_10 zs_11 zs_20 zs_21 zs_22 zs_25 zs_26 zs_27 zs_29) 0 (nI c2.men)) 1 (nI c2.heap)) 2 c2.dogs) 3 (nI c2.wak)) 8 c2.held) 28 (nI c2.rl)) 34 (nI c2.pg)))), ((ma 4), eI D 6 (nF (uN (uN (uN (uN (uN (uN c.kk 0 (c2.kk 0)) 1 (c2.kk 1)) 2 (c2.kk 2)) 3 (c2.kk 3)) 4 (c2.kk 4)) 5 (c2.kk 5)))), ((ma 5), eI D 6 (nF (uN (uN (uN (uN (uN (uN c.vv 0 (c2.vv 0)) 1 (c2.vv 1)) 2 (c2.vv 2)) 3 (c2.vv 3)) 4 (c2.vv 4)) 5 (c2.vv 5)))), ((ma 6), eI D 6 (upd (upd (upd (upd (upd (upd c.hd 0 (c2.hd 0)) 1 (c2.hd 1)) 2 (c2.hd 2)) 3 (c2.hd 3)) 4 (c2.hd 4)) 5 (c2.hd 5))), ((ma 30), eI D 8 (nF (uN (uN (uN (uN (uN (uN (uN (uN c.crf 0 (c2.crf 0)) 1 (c2.crf 1)) 2 (c2.crf 2)) 3 (c2.crf 3)) 4 (c2.crf 4)) 5 (c2.crf 5)) 6 (c2.crf 6)) 7 (c2.crf 7)))), ((ma 35), eI D 12 (nF (uN (uN (uN (uN (uN (uN (uN (uN (uN c.bo 0 (c2.bo 0)) 1 (c2.bo 1)) 2 (c2.bo 2)) 3 (c2.bo 3)) 4 (c2.bo 4)) 5 (c2.bo 5)) 6 (c2.bo 6)) 7 (c2.bo 7)) 8 (c2.bo 8)))), ((ma 44), eI D 6 (nF c2.kk)), ((ma 45), eI D 6 (nF c2.vv)), ((ma 46), eI D 6 c2.hd), ((ma 47), eI D 8 (nF c2.crf)), ((ma 48), eI D 12 (nF c2.bo))]) O dX10_undo_161 5 rfl 8 (rfl) (by omega) (by decide) (by rw [upd_nF]; rfl) ?_
    refine v_iinc (v := 9) (lv' := [(0, .ref mo), (1, .int 9)]) O dX10_undo_162 1 rfl (by decide) (by decide) rfl ?_
    refine v_goto O 144 dX10_undo_165 (by decide) ?_
    refine v_iload_n O dX10_undo_144 1 rfl ?_
    refine v_bipush (v := 12) O dX10_undo_145 (by decide) ?_
    refine v_icmp_ge O 168 dX10_undo_147 (by decide) (fun c => absurd c (by decide)) (fun _ => ?_)
    refine v_aload_n O dX10_undo_150 0 rfl ?_
    refine gf_X10_117 (v := .ref (ma 35)) O rfl dX10_undo_151 0 rfl rfl ?_
    refine v_iload_n O dX10_undo_154 1 rfl ?_
    refine v_aload_n O dX10_undo_155 0 rfl ?_
    refine gf_X10_157 (v := .ref (ma 48)) O rfl dX10_undo_156 0 rfl rfl ?_
    refine v_iload_n O dX10_undo_159 1 rfl ?_
    refine v_ialdk O dX10_undo_160 10 rfl 9 rfl (by omega) (by decide) ?_
    refine v_top (y := nI (c2.bo 9)) rfl ?_
    refine v_iastk (ws' := [(mo, .inr (10, M1R ma (upd (upd (upd (upd (upd (upd (upd (mZ c c2 tk vc ln rn zs_10 zs_11 zs_20 zs_21 zs_22 zs_25 zs_26 zs_27 zs_29) 0 (nI c2.men)) 1 (nI c2.heap)) 2 c2.dogs) 3 (nI c2.wak)) 8 c2.held) 28 (nI c2.rl)) 34 (nI c2.pg)))), ((ma 4), eI D 6 (nF (uN (uN (uN (uN (uN (uN c.kk 0 (c2.kk 0)) 1 (c2.kk 1)) 2 (c2.kk 2)) 3 (c2.kk 3)) 4 (c2.kk 4)) 5 (c2.kk 5)))), ((ma 5), eI D 6 (nF (uN (uN (uN (uN (uN (uN c.vv 0 (c2.vv 0)) 1 (c2.vv 1)) 2 (c2.vv 2)) 3 (c2.vv 3)) 4 (c2.vv 4)) 5 (c2.vv 5)))), ((ma 6), eI D 6 (upd (upd (upd (upd (upd (upd c.hd 0 (c2.hd 0)) 1 (c2.hd 1)) 2 (c2.hd 2)) 3 (c2.hd 3)) 4 (c2.hd 4)) 5 (c2.hd 5))), ((ma 30), eI D 8 (nF (uN (uN (uN (uN (uN (uN (uN (uN c.crf 0 (c2.crf 0)) 1 (c2.crf 1)) 2 (c2.crf 2)) 3 (c2.crf 3)) 4 (c2.crf 4)) 5 (c2.crf 5)) 6 (c2.crf 6)) 7 (c2.crf 7)))), ((ma 35), eI D 12 (nF (uN (uN (uN (uN (uN (uN (uN (uN (uN (uN c.bo 0 (c2.bo 0)) 1 (c2.bo 1)) 2 (c2.bo 2)) 3 (c2.bo 3)) 4 (c2.bo 4)) 5 (c2.bo 5)) 6 (c2.bo 6)) 7 (c2.bo 7)) 8 (c2.bo 8)) 9 (c2.bo 9)))), ((ma 44), eI D 6 (nF c2.kk)), ((ma 45), eI D 6 (nF c2.vv)), ((ma 46), eI D 6 c2.hd), ((ma 47), eI D 8 (nF c2.crf)), ((ma 48), eI D 12 (nF c2.bo))]) O dX10_undo_161 5 rfl 9 (rfl) (by omega) (by decide) (by rw [upd_nF]; rfl) ?_
    refine v_iinc (v := 10) (lv' := [(0, .ref mo), (1, .int 10)]) O dX10_undo_162 1 rfl (by decide) (by decide) rfl ?_
    refine v_goto O 144 dX10_undo_165 (by decide) ?_
    refine v_iload_n O dX10_undo_144 1 rfl ?_
    refine v_bipush (v := 12) O dX10_undo_145 (by decide) ?_
    refine v_icmp_ge O 168 dX10_undo_147 (by decide) (fun c => absurd c (by decide)) (fun _ => ?_)
    refine v_aload_n O dX10_undo_150 0 rfl ?_
    refine gf_X10_117 (v := .ref (ma 35)) O rfl dX10_undo_151 0 rfl rfl ?_
    refine v_iload_n O dX10_undo_154 1 rfl ?_
    refine v_aload_n O dX10_undo_155 0 rfl ?_
    refine gf_X10_157 (v := .ref (ma 48)) O rfl dX10_undo_156 0 rfl rfl ?_
    refine v_iload_n O dX10_undo_159 1 rfl ?_
    refine v_ialdk O dX10_undo_160 10 rfl 10 rfl (by omega) (by decide) ?_
    refine v_top (y := nI (c2.bo 10)) rfl ?_
    refine v_iastk (ws' := [(mo, .inr (10, M1R ma (upd (upd (upd (upd (upd (upd (upd (mZ c c2 tk vc ln rn zs_10 zs_11 zs_20 zs_21 zs_22 zs_25 zs_26 zs_27 zs_29) 0 (nI c2.men)) 1 (nI c2.heap)) 2 c2.dogs) 3 (nI c2.wak)) 8 c2.held) 28 (nI c2.rl)) 34 (nI c2.pg)))), ((ma 4), eI D 6 (nF (uN (uN (uN (uN (uN (uN c.kk 0 (c2.kk 0)) 1 (c2.kk 1)) 2 (c2.kk 2)) 3 (c2.kk 3)) 4 (c2.kk 4)) 5 (c2.kk 5)))), ((ma 5), eI D 6 (nF (uN (uN (uN (uN (uN (uN c.vv 0 (c2.vv 0)) 1 (c2.vv 1)) 2 (c2.vv 2)) 3 (c2.vv 3)) 4 (c2.vv 4)) 5 (c2.vv 5)))), ((ma 6), eI D 6 (upd (upd (upd (upd (upd (upd c.hd 0 (c2.hd 0)) 1 (c2.hd 1)) 2 (c2.hd 2)) 3 (c2.hd 3)) 4 (c2.hd 4)) 5 (c2.hd 5))), ((ma 30), eI D 8 (nF (uN (uN (uN (uN (uN (uN (uN (uN c.crf 0 (c2.crf 0)) 1 (c2.crf 1)) 2 (c2.crf 2)) 3 (c2.crf 3)) 4 (c2.crf 4)) 5 (c2.crf 5)) 6 (c2.crf 6)) 7 (c2.crf 7)))), ((ma 35), eI D 12 (nF (uN (uN (uN (uN (uN (uN (uN (uN (uN (uN (uN c.bo 0 (c2.bo 0)) 1 (c2.bo 1)) 2 (c2.bo 2)) 3 (c2.bo 3)) 4 (c2.bo 4)) 5 (c2.bo 5)) 6 (c2.bo 6)) 7 (c2.bo 7)) 8 (c2.bo 8)) 9 (c2.bo 9)) 10 (c2.bo 10)))), ((ma 44), eI D 6 (nF c2.kk)), ((ma 45), eI D 6 (nF c2.vv)), ((ma 46), eI D 6 c2.hd), ((ma 47), eI D 8 (nF c2.crf)), ((ma 48), eI D 12 (nF c2.bo))]) O dX10_undo_161 5 rfl 10 (rfl) (by omega) (by decide) (by rw [upd_nF]; rfl) ?_
    refine v_iinc (v := 11) (lv' := [(0, .ref mo), (1, .int 11)]) O dX10_undo_162 1 rfl (by decide) (by decide) rfl ?_
    refine v_goto O 144 dX10_undo_165 (by decide) ?_
    refine v_iload_n O dX10_undo_144 1 rfl ?_
    refine v_bipush (v := 12) O dX10_undo_145 (by decide) ?_
    refine v_icmp_ge O 168 dX10_undo_147 (by decide) (fun c => absurd c (by decide)) (fun _ => ?_)
    refine v_aload_n O dX10_undo_150 0 rfl ?_
    refine gf_X10_117 (v := .ref (ma 35)) O rfl dX10_undo_151 0 rfl rfl ?_
    refine v_iload_n O dX10_undo_154 1 rfl ?_
    refine v_aload_n O dX10_undo_155 0 rfl ?_
    refine gf_X10_157 (v := .ref (ma 48)) O rfl dX10_undo_156 0 rfl rfl ?_
    refine v_iload_n O dX10_undo_159 1 rfl ?_
    refine v_ialdk O dX10_undo_160 10 rfl 11 rfl (by omega) (by decide) ?_
    refine v_top (y := nI (c2.bo 11)) rfl ?_
    refine v_iastk (ws' := [(mo, .inr (10, M1R ma (upd (upd (upd (upd (upd (upd (upd (mZ c c2 tk vc ln rn zs_10 zs_11 zs_20 zs_21 zs_22 zs_25 zs_26 zs_27 zs_29) 0 (nI c2.men)) 1 (nI c2.heap)) 2 c2.dogs) 3 (nI c2.wak)) 8 c2.held) 28 (nI c2.rl)) 34 (nI c2.pg)))), ((ma 4), eI D 6 (nF (uN (uN (uN (uN (uN (uN c.kk 0 (c2.kk 0)) 1 (c2.kk 1)) 2 (c2.kk 2)) 3 (c2.kk 3)) 4 (c2.kk 4)) 5 (c2.kk 5)))), ((ma 5), eI D 6 (nF (uN (uN (uN (uN (uN (uN c.vv 0 (c2.vv 0)) 1 (c2.vv 1)) 2 (c2.vv 2)) 3 (c2.vv 3)) 4 (c2.vv 4)) 5 (c2.vv 5)))), ((ma 6), eI D 6 (upd (upd (upd (upd (upd (upd c.hd 0 (c2.hd 0)) 1 (c2.hd 1)) 2 (c2.hd 2)) 3 (c2.hd 3)) 4 (c2.hd 4)) 5 (c2.hd 5))), ((ma 30), eI D 8 (nF (uN (uN (uN (uN (uN (uN (uN (uN c.crf 0 (c2.crf 0)) 1 (c2.crf 1)) 2 (c2.crf 2)) 3 (c2.crf 3)) 4 (c2.crf 4)) 5 (c2.crf 5)) 6 (c2.crf 6)) 7 (c2.crf 7)))), ((ma 35), eI D 12 (nF (uN (uN (uN (uN (uN (uN (uN (uN (uN (uN (uN (uN c.bo 0 (c2.bo 0)) 1 (c2.bo 1)) 2 (c2.bo 2)) 3 (c2.bo 3)) 4 (c2.bo 4)) 5 (c2.bo 5)) 6 (c2.bo 6)) 7 (c2.bo 7)) 8 (c2.bo 8)) 9 (c2.bo 9)) 10 (c2.bo 10)) 11 (c2.bo 11)))), ((ma 44), eI D 6 (nF c2.kk)), ((ma 45), eI D 6 (nF c2.vv)), ((ma 46), eI D 6 c2.hd), ((ma 47), eI D 8 (nF c2.crf)), ((ma 48), eI D 12 (nF c2.bo))]) O dX10_undo_161 5 rfl 11 (rfl) (by omega) (by decide) (by rw [upd_nF]; rfl) ?_
    refine v_iinc (v := 12) (lv' := [(0, .ref mo), (1, .int 12)]) O dX10_undo_162 1 rfl (by decide) (by decide) rfl ?_
    refine v_goto O 144 dX10_undo_165 (by decide) ?_
    refine v_iload_n O dX10_undo_144 1 rfl ?_
    refine v_bipush (v := 12) O dX10_undo_145 (by decide) ?_
    refine v_icmp_ge O 168 dX10_undo_147 (by decide) (fun _ => ?_) (fun c => absurd c (by decide))
    refine v_congI (g := nF c2.kk) (ws' := [(mo, .inr (10, M1R ma (upd (upd (upd (upd (upd (upd (upd (mZ c c2 tk vc ln rn zs_10 zs_11 zs_20 zs_21 zs_22 zs_25 zs_26 zs_27 zs_29) 0 (nI c2.men)) 1 (nI c2.heap)) 2 c2.dogs) 3 (nI c2.wak)) 8 c2.held) 28 (nI c2.rl)) 34 (nI c2.pg)))), ((ma 4), eI D 6 (nF c2.kk)), ((ma 5), eI D 6 (nF (uN (uN (uN (uN (uN (uN c.vv 0 (c2.vv 0)) 1 (c2.vv 1)) 2 (c2.vv 2)) 3 (c2.vv 3)) 4 (c2.vv 4)) 5 (c2.vv 5)))), ((ma 6), eI D 6 (upd (upd (upd (upd (upd (upd c.hd 0 (c2.hd 0)) 1 (c2.hd 1)) 2 (c2.hd 2)) 3 (c2.hd 3)) 4 (c2.hd 4)) 5 (c2.hd 5))), ((ma 30), eI D 8 (nF (uN (uN (uN (uN (uN (uN (uN (uN c.crf 0 (c2.crf 0)) 1 (c2.crf 1)) 2 (c2.crf 2)) 3 (c2.crf 3)) 4 (c2.crf 4)) 5 (c2.crf 5)) 6 (c2.crf 6)) 7 (c2.crf 7)))), ((ma 35), eI D 12 (nF (uN (uN (uN (uN (uN (uN (uN (uN (uN (uN (uN (uN c.bo 0 (c2.bo 0)) 1 (c2.bo 1)) 2 (c2.bo 2)) 3 (c2.bo 3)) 4 (c2.bo 4)) 5 (c2.bo 5)) 6 (c2.bo 6)) 7 (c2.bo 7)) 8 (c2.bo 8)) 9 (c2.bo 9)) 10 (c2.bo 10)) 11 (c2.bo 11)))), ((ma 44), eI D 6 (nF c2.kk)), ((ma 45), eI D 6 (nF c2.vv)), ((ma 46), eI D 6 c2.hd), ((ma 47), eI D 8 (nF c2.crf)), ((ma 48), eI D 12 (nF c2.bo))]) 1 rfl (fun j hj => by rcases (show j = 0 ∨ j = 1 ∨ j = 2 ∨ j = 3 ∨ j = 4 ∨ j = 5 by omega) with rfl | rfl | rfl | rfl | rfl | rfl <;> rfl) rfl ?_
    refine v_congI (g := nF c2.vv) (ws' := [(mo, .inr (10, M1R ma (upd (upd (upd (upd (upd (upd (upd (mZ c c2 tk vc ln rn zs_10 zs_11 zs_20 zs_21 zs_22 zs_25 zs_26 zs_27 zs_29) 0 (nI c2.men)) 1 (nI c2.heap)) 2 c2.dogs) 3 (nI c2.wak)) 8 c2.held) 28 (nI c2.rl)) 34 (nI c2.pg)))), ((ma 4), eI D 6 (nF c2.kk)), ((ma 5), eI D 6 (nF c2.vv)), ((ma 6), eI D 6 (upd (upd (upd (upd (upd (upd c.hd 0 (c2.hd 0)) 1 (c2.hd 1)) 2 (c2.hd 2)) 3 (c2.hd 3)) 4 (c2.hd 4)) 5 (c2.hd 5))), ((ma 30), eI D 8 (nF (uN (uN (uN (uN (uN (uN (uN (uN c.crf 0 (c2.crf 0)) 1 (c2.crf 1)) 2 (c2.crf 2)) 3 (c2.crf 3)) 4 (c2.crf 4)) 5 (c2.crf 5)) 6 (c2.crf 6)) 7 (c2.crf 7)))), ((ma 35), eI D 12 (nF (uN (uN (uN (uN (uN (uN (uN (uN (uN (uN (uN (uN c.bo 0 (c2.bo 0)) 1 (c2.bo 1)) 2 (c2.bo 2)) 3 (c2.bo 3)) 4 (c2.bo 4)) 5 (c2.bo 5)) 6 (c2.bo 6)) 7 (c2.bo 7)) 8 (c2.bo 8)) 9 (c2.bo 9)) 10 (c2.bo 10)) 11 (c2.bo 11)))), ((ma 44), eI D 6 (nF c2.kk)), ((ma 45), eI D 6 (nF c2.vv)), ((ma 46), eI D 6 c2.hd), ((ma 47), eI D 8 (nF c2.crf)), ((ma 48), eI D 12 (nF c2.bo))]) 2 rfl (fun j hj => by rcases (show j = 0 ∨ j = 1 ∨ j = 2 ∨ j = 3 ∨ j = 4 ∨ j = 5 by omega) with rfl | rfl | rfl | rfl | rfl | rfl <;> rfl) rfl ?_
    refine v_congI (g := c2.hd) (ws' := [(mo, .inr (10, M1R ma (upd (upd (upd (upd (upd (upd (upd (mZ c c2 tk vc ln rn zs_10 zs_11 zs_20 zs_21 zs_22 zs_25 zs_26 zs_27 zs_29) 0 (nI c2.men)) 1 (nI c2.heap)) 2 c2.dogs) 3 (nI c2.wak)) 8 c2.held) 28 (nI c2.rl)) 34 (nI c2.pg)))), ((ma 4), eI D 6 (nF c2.kk)), ((ma 5), eI D 6 (nF c2.vv)), ((ma 6), eI D 6 c2.hd), ((ma 30), eI D 8 (nF (uN (uN (uN (uN (uN (uN (uN (uN c.crf 0 (c2.crf 0)) 1 (c2.crf 1)) 2 (c2.crf 2)) 3 (c2.crf 3)) 4 (c2.crf 4)) 5 (c2.crf 5)) 6 (c2.crf 6)) 7 (c2.crf 7)))), ((ma 35), eI D 12 (nF (uN (uN (uN (uN (uN (uN (uN (uN (uN (uN (uN (uN c.bo 0 (c2.bo 0)) 1 (c2.bo 1)) 2 (c2.bo 2)) 3 (c2.bo 3)) 4 (c2.bo 4)) 5 (c2.bo 5)) 6 (c2.bo 6)) 7 (c2.bo 7)) 8 (c2.bo 8)) 9 (c2.bo 9)) 10 (c2.bo 10)) 11 (c2.bo 11)))), ((ma 44), eI D 6 (nF c2.kk)), ((ma 45), eI D 6 (nF c2.vv)), ((ma 46), eI D 6 c2.hd), ((ma 47), eI D 8 (nF c2.crf)), ((ma 48), eI D 12 (nF c2.bo))]) 3 rfl (fun j hj => by rcases (show j = 0 ∨ j = 1 ∨ j = 2 ∨ j = 3 ∨ j = 4 ∨ j = 5 by omega) with rfl | rfl | rfl | rfl | rfl | rfl <;> rfl) rfl ?_
    refine v_congI (g := nF c2.crf) (ws' := [(mo, .inr (10, M1R ma (upd (upd (upd (upd (upd (upd (upd (mZ c c2 tk vc ln rn zs_10 zs_11 zs_20 zs_21 zs_22 zs_25 zs_26 zs_27 zs_29) 0 (nI c2.men)) 1 (nI c2.heap)) 2 c2.dogs) 3 (nI c2.wak)) 8 c2.held) 28 (nI c2.rl)) 34 (nI c2.pg)))), ((ma 4), eI D 6 (nF c2.kk)), ((ma 5), eI D 6 (nF c2.vv)), ((ma 6), eI D 6 c2.hd), ((ma 30), eI D 8 (nF c2.crf)), ((ma 35), eI D 12 (nF (uN (uN (uN (uN (uN (uN (uN (uN (uN (uN (uN (uN c.bo 0 (c2.bo 0)) 1 (c2.bo 1)) 2 (c2.bo 2)) 3 (c2.bo 3)) 4 (c2.bo 4)) 5 (c2.bo 5)) 6 (c2.bo 6)) 7 (c2.bo 7)) 8 (c2.bo 8)) 9 (c2.bo 9)) 10 (c2.bo 10)) 11 (c2.bo 11)))), ((ma 44), eI D 6 (nF c2.kk)), ((ma 45), eI D 6 (nF c2.vv)), ((ma 46), eI D 6 c2.hd), ((ma 47), eI D 8 (nF c2.crf)), ((ma 48), eI D 12 (nF c2.bo))]) 4 rfl (fun j hj => by rcases (show j = 0 ∨ j = 1 ∨ j = 2 ∨ j = 3 ∨ j = 4 ∨ j = 5 ∨ j = 6 ∨ j = 7 by omega) with rfl | rfl | rfl | rfl | rfl | rfl | rfl | rfl <;> rfl) rfl ?_
    refine v_congI (g := nF c2.bo) (ws' := [(mo, .inr (10, M1R ma (upd (upd (upd (upd (upd (upd (upd (mZ c c2 tk vc ln rn zs_10 zs_11 zs_20 zs_21 zs_22 zs_25 zs_26 zs_27 zs_29) 0 (nI c2.men)) 1 (nI c2.heap)) 2 c2.dogs) 3 (nI c2.wak)) 8 c2.held) 28 (nI c2.rl)) 34 (nI c2.pg)))), ((ma 4), eI D 6 (nF c2.kk)), ((ma 5), eI D 6 (nF c2.vv)), ((ma 6), eI D 6 c2.hd), ((ma 30), eI D 8 (nF c2.crf)), ((ma 35), eI D 12 (nF c2.bo)), ((ma 44), eI D 6 (nF c2.kk)), ((ma 45), eI D 6 (nF c2.vv)), ((ma 46), eI D 6 c2.hd), ((ma 47), eI D 8 (nF c2.crf)), ((ma 48), eI D 12 (nF c2.bo))]) 5 rfl (fun j hj => by rcases (show j = 0 ∨ j = 1 ∨ j = 2 ∨ j = 3 ∨ j = 4 ∨ j = 5 ∨ j = 6 ∨ j = 7 ∨ j = 8 ∨ j = 9 ∨ j = 10 ∨ j = 11 by omega) with rfl | rfl | rfl | rfl | rfl | rfl | rfl | rfl | rfl | rfl | rfl | rfl <;> rfl) rfl ?_
    refine v_aload_n O dX10_undo_168 0 rfl ?_
    refine gf_X10_7 (v := .int (nI c2.men)) O rfl dX10_undo_169 0 rfl rfl ?_
    exact v_ireturn O T rfl rfl (by decide) (by decide) dX10_undo_172 (⟨zs_10, zs_11, zs_20, zs_21, zs_22, zs_25, zs_26, zs_27, zs_29, rfl, rfl⟩)
  · skip
    rw [ht] at z1; exact absurd z1 (by decide)
set_option maxRecDepth 100000 in
set_option maxHeartbeats 4000000 in
theorem sp_X10_trace_1 {D : G} {mo : Nat} {ma : Nat → Nat} {c : CS} {c2 : CS} {tk : Int32} {vc : Nat} {ln : Nat} {rn : Nat} {zs_10 : Int32} {zs_11 : Int32} {zs_20 : Int32} {zs_21 : Int32} {zs_22 : Int32} {zs_25 : Int32} {zs_26 : Int32} {zs_27 : Int32} {zs_29 : Int32} {f : Nat → Int32} {i : Int32} (hi : ¬ isIx i rn) (hn : rn ≤ 20) : Sp D mX10_trace 30 0 0 [.ref mo, .int i] [(mo, .inr (10, M1R ma (mZ c c2 tk vc ln rn zs_10 zs_11 zs_20 zs_21 zs_22 zs_25 zs_26 zs_27 zs_29))), ((ma 50), eI D 20 f)] (fun r w => ∃ zs2_10 : Int32, ∃ zs2_11 : Int32, ∃ zs2_20 : Int32, ∃ zs2_21 : Int32, ∃ zs2_22 : Int32, ∃ zs2_25 : Int32, ∃ zs2_26 : Int32, ∃ zs2_27 : Int32, ∃ zs2_29 : Int32, r = some (.int (-1)) ∧ w = [(mo, .inr (10, M1R ma (mZ c c2 tk vc ln rn zs2_10 zs2_11 zs2_20 zs2_21 zs2_22 zs2_25 zs2_26 zs2_27 zs2_29))), ((ma 50), eI D 20 f)]) := by
  refine Sp.of (by decide) (Nat.le_of_ble_eq_true rfl) (fun X O T => ?_)
  refine v_eq (lv' := [(0, .ref mo), (1, .int i)]) rfl rfl rfl rfl ?_
  refine v_aload_n O dX10_trace_0 0 rfl ?_
  refine v_iload_n O dX10_trace_1 1 rfl ?_
  refine v_iconst (v := 0) O dX10_trace_2 (by decide) ?_
  refine v_bipush (v := 19) O dX10_trace_3 (by decide) ?_
  refine v_cV (T := TX10) (ci := 10) (As := [.int i, .int 0, .int 19]) (wr := [(mo, .inr (10, M1R ma (mZ c c2 tk vc ln rn zs_10 zs_11 zs_20 zs_21 zs_22 zs_25 zs_26 zs_27 zs_29))), ((ma 50), eI D 20 f)]) (st := []) O cf_X10_179 rfl (sp_X10_in_0 (mo := mo) (x := i) (h := 19) (zn := 20) (rfl) (by decide)) dX10_trace_5 rfl rfl 0 rfl [] [0, 1] (by decide) rfl rfl (by decide) (by decide) (by decide) (Nat.le_of_ble_eq_true rfl) (by decide) (by decide) (fun r_2 w_3 h_1 => ?_)
  obtain ⟨rfl, rfl⟩ := h_1
  refine v_eq (st' := [.int (b2i (isIx i 20))]) (ws' := [(mo, .inr (10, M1R ma (mZ c c2 tk vc ln rn zs_10 zs_11 zs_20 zs_21 zs_22 zs_25 zs_26 zs_27 zs_29))), ((ma 50), eI D 20 f)]) rfl rfl rfl rfl ?_
  refine v_if_eq O 28 dX10_trace_8 (by decide) (fun z1 => ?_) (fun z1 => ?_)
  · skip
    have z1 := b2i_0.mp z1
    refine v_iconst (v := -1) O dX10_trace_28 (by decide) ?_
    exact v_ireturn O T rfl rfl (by decide) (by decide) dX10_trace_29 (⟨zs_10, zs_11, zs_20, zs_21, zs_22, zs_25, zs_26, zs_27, zs_29, rfl, rfl⟩)
  · skip
    have z1 := b2i_1.mp z1
    refine v_iload_n O dX10_trace_11 1 rfl ?_
    refine v_aload_n O dX10_trace_12 0 rfl ?_
    refine gf_X10_160 (v := .int (nI rn)) O rfl dX10_trace_13 0 rfl rfl ?_
    refine v_icmp_ge O 28 dX10_trace_16 (by decide) (fun z2 => ?_) (fun z2 => ?_)
    · skip
      refine v_iconst (v := -1) O dX10_trace_28 (by decide) ?_
      exact v_ireturn O T rfl rfl (by decide) (by decide) dX10_trace_29 (⟨zs_10, zs_11, zs_20, zs_21, zs_22, zs_25, zs_26, zs_27, zs_29, rfl, rfl⟩)
    · skip
      exact absurd (by obtain ⟨k9, hk9, e9⟩ := z1; rw [e9] at z2 ⊢; exact ⟨k9, by have := (not_congr (c_le rfl rfl (show rn < 2147483648 by omega) (show k9 < 2147483648 by omega))).mp z2; omega, rfl⟩) hi
set_option maxRecDepth 100000 in
set_option maxHeartbeats 4000000 in
theorem sp_X10_trace_2 {D : G} {mo : Nat} {ma : Nat → Nat} {c : CS} {c2 : CS} {tk : Int32} {vc : Nat} {ln : Nat} {rn : Nat} {zs_10 : Int32} {zs_11 : Int32} {zs_20 : Int32} {zs_21 : Int32} {zs_22 : Int32} {zs_25 : Int32} {zs_26 : Int32} {zs_27 : Int32} {zs_29 : Int32} {f : Nat → Int32} {i : Nat} (hi : i < rn) (hn : rn ≤ 20) : Sp D mX10_trace 30 0 0 [.ref mo, .int (nI i)] [(mo, .inr (10, M1R ma (mZ c c2 tk vc ln rn zs_10 zs_11 zs_20 zs_21 zs_22 zs_25 zs_26 zs_27 zs_29))), ((ma 50), eI D 20 f)] (fun r w => ∃ zs2_10 : Int32, ∃ zs2_11 : Int32, ∃ zs2_20 : Int32, ∃ zs2_21 : Int32, ∃ zs2_22 : Int32, ∃ zs2_25 : Int32, ∃ zs2_26 : Int32, ∃ zs2_27 : Int32, ∃ zs2_29 : Int32, r = some (.int (f i)) ∧ w = [(mo, .inr (10, M1R ma (mZ c c2 tk vc ln rn zs2_10 zs2_11 zs2_20 zs2_21 zs2_22 zs2_25 zs2_26 zs2_27 zs2_29))), ((ma 50), eI D 20 f)]) := by
  refine Sp.of (by decide) (Nat.le_of_ble_eq_true rfl) (fun X O T => ?_)
  refine v_eq (lv' := [(0, .ref mo), (1, .int (nI i))]) rfl rfl rfl rfl ?_
  refine v_aload_n O dX10_trace_0 0 rfl ?_
  refine v_iload_n O dX10_trace_1 1 rfl ?_
  refine v_iconst (v := 0) O dX10_trace_2 (by decide) ?_
  refine v_bipush (v := 19) O dX10_trace_3 (by decide) ?_
  refine v_cV (T := TX10) (ci := 10) (As := [.int (nI i), .int 0, .int 19]) (wr := [(mo, .inr (10, M1R ma (mZ c c2 tk vc ln rn zs_10 zs_11 zs_20 zs_21 zs_22 zs_25 zs_26 zs_27 zs_29))), ((ma 50), eI D 20 f)]) (st := []) O cf_X10_179 rfl (sp_X10_in_0 (mo := mo) (x := (nI i)) (h := 19) (zn := 20) (rfl) (by decide)) dX10_trace_5 rfl rfl 0 rfl [] [0, 1] (by decide) rfl rfl (by decide) (by decide) (by decide) (Nat.le_of_ble_eq_true rfl) (by decide) (by decide) (fun r_2 w_3 h_1 => ?_)
  obtain ⟨rfl, rfl⟩ := h_1
  refine v_eq (st' := [.int (b2i (isIx (nI i) 20))]) (ws' := [(mo, .inr (10, M1R ma (mZ c c2 tk vc ln rn zs_10 zs_11 zs_20 zs_21 zs_22 zs_25 zs_26 zs_27 zs_29))), ((ma 50), eI D 20 f)]) rfl rfl rfl rfl ?_
  refine v_if_eq O 28 dX10_trace_8 (by decide) (fun z1 => ?_) (fun z1 => ?_)
  · skip
    have z1 := b2i_0.mp z1
    exact absurd ((isIx_nI (by omega) (by omega)).mpr (by omega)) z1
  · skip
    have z1 := b2i_1.mp z1
    refine v_iload_n O dX10_trace_11 1 rfl ?_
    refine v_aload_n O dX10_trace_12 0 rfl ?_
    refine gf_X10_160 (v := .int (nI rn)) O rfl dX10_trace_13 0 rfl rfl ?_
    refine v_icmp_ge O 28 dX10_trace_16 (by decide) (fun z2 => ?_) (fun z2 => ?_)
    · skip
      have z2 := (c_le' (x := nI i) (y := nI rn) (a := i) (b := rn) rfl rfl (by omega) (by omega)).mp z2
      exact absurd z2 (by omega)
    · skip
      have z2 := (not_congr (c_le' (x := nI i) (y := nI rn) (a := i) (b := rn) rfl rfl (by omega) (by omega))).mp z2
      refine v_aload_n O dX10_trace_19 0 rfl ?_
      refine gf_X10_163 (v := .ref (ma 50)) O rfl dX10_trace_20 0 rfl rfl ?_
      refine v_iload_n O dX10_trace_23 1 rfl ?_
      refine v_ialdk O dX10_trace_24 1 rfl i rfl (by omega) (by decide) ?_
      refine v_goto O 29 dX10_trace_25 (by decide) ?_
      exact v_ireturn O T rfl rfl (by decide) (by decide) dX10_trace_29 (⟨zs_10, zs_11, zs_20, zs_21, zs_22, zs_25, zs_26, zs_27, zs_29, rfl, rfl⟩)
set_option maxRecDepth 100000 in
set_option maxHeartbeats 4000000 in
theorem sp_X10_taken_1 {D : G} {mo : Nat} {ma : Nat → Nat} {c : CS} {c2 : CS} {tk : Int32} {vc : Nat} {ln : Nat} {rn : Nat} {zs_10 : Int32} {zs_11 : Int32} {zs_20 : Int32} {zs_21 : Int32} {zs_22 : Int32} {zs_25 : Int32} {zs_26 : Int32} {zs_27 : Int32} {zs_29 : Int32} {i : Int32} {k : Int32} (hC : cOk c) (hk : ¬ isIx k 7) : Sp D mX10_taken 30 0 0 [.ref mo, .int i, .int k] [(mo, .inr (10, M1R ma (mZ c c2 tk vc ln rn zs_10 zs_11 zs_20 zs_21 zs_22 zs_25 zs_26 zs_27 zs_29))), ((ma 4), eI D 6 (nF c.kk)), ((ma 5), eI D 6 (nF c.vv)), ((ma 6), eI D 6 c.hd), ((ma 30), eI D 8 (nF c.crf)), ((ma 35), eI D 12 (nF c.bo))] (fun r w => ∃ zs2_10 : Int32, ∃ zs2_11 : Int32, ∃ zs2_20 : Int32, ∃ zs2_21 : Int32, ∃ zs2_22 : Int32, ∃ zs2_25 : Int32, ∃ zs2_26 : Int32, ∃ zs2_27 : Int32, ∃ zs2_29 : Int32, r = some (.int (-2)) ∧ w = [(mo, .inr (10, M1R ma (mZ c c2 tk vc ln rn zs2_10 zs2_11 zs2_20 zs2_21 zs2_22 zs2_25 zs2_26 zs2_27 zs2_29))), ((ma 4), eI D 6 (nF c.kk)), ((ma 5), eI D 6 (nF c.vv)), ((ma 6), eI D 6 c.hd), ((ma 30), eI D 8 (nF c.crf)), ((ma 35), eI D 12 (nF c.bo))]) := by
  refine Sp.of (by decide) (Nat.le_of_ble_eq_true rfl) (fun X O T => ?_)
  refine v_eq (lv' := [(0, .ref mo), (1, .int i), (2, .int k)]) rfl rfl rfl rfl ?_
  have z_m := hC.1
  have z_hp := hC.2.2.2.1
  have z_wk := hC.2.2.2.2.1
  have z_rl := hC.2.2.2.2.2.1
  have z_pg := hC.2.2.2.2.2.2.2.1
  refine v_aload_n O dX10_taken_0 0 rfl ?_
  refine v_iload_n O dX10_taken_1 2 rfl ?_
  refine v_iconst (v := 0) O dX10_taken_2 (by decide) ?_
  refine v_bipush (v := 6) O dX10_taken_3 (by decide) ?_
  refine v_cV (T := TX10) (ci := 10) (As := [.int k, .int 0, .int 6]) (wr := [(mo, .inr (10, M1R ma (mZ c c2 tk vc ln rn zs_10 zs_11 zs_20 zs_21 zs_22 zs_25 zs_26 zs_27 zs_29))), ((ma 4), eI D 6 (nF c.kk)), ((ma 5), eI D 6 (nF c.vv)), ((ma 6), eI D 6 c.hd), ((ma 30), eI D 8 (nF c.crf)), ((ma 35), eI D 12 (nF c.bo))]) (st := []) O cf_X10_179 rfl (sp_X10_in_0 (mo := mo) (x := k) (h := 6) (zn := 7) (rfl) (by decide)) dX10_taken_5 rfl rfl 0 rfl [] [0, 1, 2, 3, 4, 5] (by decide) rfl rfl (by decide) (by decide) (by decide) (Nat.le_of_ble_eq_true rfl) (by decide) (by decide) (fun r_2 w_3 h_1 => ?_)
  obtain ⟨rfl, rfl⟩ := h_1
  refine v_eq (st' := [.int (b2i (isIx k 7))]) (ws' := [(mo, .inr (10, M1R ma (mZ c c2 tk vc ln rn zs_10 zs_11 zs_20 zs_21 zs_22 zs_25 zs_26 zs_27 zs_29))), ((ma 4), eI D 6 (nF c.kk)), ((ma 5), eI D 6 (nF c.vv)), ((ma 6), eI D 6 c.hd), ((ma 30), eI D 8 (nF c.crf)), ((ma 35), eI D 12 (nF c.bo))]) rfl rfl rfl rfl ?_
  refine v_if_ne O 14 dX10_taken_8 (by decide) (fun z1 => ?_) (fun z1 => ?_)
  · skip
    have z1 := b2i_1.mp z1
    exact absurd z1 hk
  · skip
    have z1 := b2i_0.mp z1
    refine v_bipush (v := -2) O dX10_taken_11 (by decide) ?_
    exact v_ireturn O T rfl rfl (by decide) (by decide) dX10_taken_13 (⟨zs_10, zs_11, zs_20, zs_21, zs_22, zs_25, zs_26, zs_27, zs_29, rfl, rfl⟩)
set_option maxRecDepth 100000 in
set_option maxHeartbeats 4000000 in
theorem sp_X10_taken_2 {D : G} {mo : Nat} {ma : Nat → Nat} {c : CS} {c2 : CS} {tk : Int32} {vc : Nat} {ln : Nat} {rn : Nat} {zs_10 : Int32} {zs_11 : Int32} {zs_20 : Int32} {zs_21 : Int32} {zs_22 : Int32} {zs_25 : Int32} {zs_26 : Int32} {zs_27 : Int32} {zs_29 : Int32} {i : Int32} {k : Nat} (hC : cOk c) (hk : k < 7) (hi : ¬ isIx i c.men) : Sp D mX10_taken 30 0 0 [.ref mo, .int i, .int (nI k)] [(mo, .inr (10, M1R ma (mZ c c2 tk vc ln rn zs_10 zs_11 zs_20 zs_21 zs_22 zs_25 zs_26 zs_27 zs_29))), ((ma 4), eI D 6 (nF c.kk)), ((ma 5), eI D 6 (nF c.vv)), ((ma 6), eI D 6 c.hd), ((ma 30), eI D 8 (nF c.crf)), ((ma 35), eI D 12 (nF c.bo))] (fun r w => ∃ zs2_10 : Int32, ∃ zs2_11 : Int32, ∃ zs2_20 : Int32, ∃ zs2_21 : Int32, ∃ zs2_22 : Int32, ∃ zs2_25 : Int32, ∃ zs2_26 : Int32, ∃ zs2_27 : Int32, ∃ zs2_29 : Int32, r = some (.int (-11)) ∧ w = [(mo, .inr (10, M1R ma (mZ c c2 tk vc ln rn zs2_10 zs2_11 zs2_20 zs2_21 zs2_22 zs2_25 zs2_26 zs2_27 zs2_29))), ((ma 4), eI D 6 (nF c.kk)), ((ma 5), eI D 6 (nF c.vv)), ((ma 6), eI D 6 c.hd), ((ma 30), eI D 8 (nF c.crf)), ((ma 35), eI D 12 (nF c.bo))]) := by
  refine Sp.of (by decide) (Nat.le_of_ble_eq_true rfl) (fun X O T => ?_)
  refine v_eq (lv' := [(0, .ref mo), (1, .int i), (2, .int (nI k))]) rfl rfl rfl rfl ?_
  have z_m := hC.1
  have z_hp := hC.2.2.2.1
  have z_wk := hC.2.2.2.2.1
  have z_rl := hC.2.2.2.2.2.1
  have z_pg := hC.2.2.2.2.2.2.2.1
  refine v_aload_n O dX10_taken_0 0 rfl ?_
  refine v_iload_n O dX10_taken_1 2 rfl ?_
  refine v_iconst (v := 0) O dX10_taken_2 (by decide) ?_
  refine v_bipush (v := 6) O dX10_taken_3 (by decide) ?_
  refine v_cV (T := TX10) (ci := 10) (As := [.int (nI k), .int 0, .int 6]) (wr := [(mo, .inr (10, M1R ma (mZ c c2 tk vc ln rn zs_10 zs_11 zs_20 zs_21 zs_22 zs_25 zs_26 zs_27 zs_29))), ((ma 4), eI D 6 (nF c.kk)), ((ma 5), eI D 6 (nF c.vv)), ((ma 6), eI D 6 c.hd), ((ma 30), eI D 8 (nF c.crf)), ((ma 35), eI D 12 (nF c.bo))]) (st := []) O cf_X10_179 rfl (sp_X10_in_0 (mo := mo) (x := (nI k)) (h := 6) (zn := 7) (rfl) (by decide)) dX10_taken_5 rfl rfl 0 rfl [] [0, 1, 2, 3, 4, 5] (by decide) rfl rfl (by decide) (by decide) (by decide) (Nat.le_of_ble_eq_true rfl) (by decide) (by decide) (fun r_2 w_3 h_1 => ?_)
  obtain ⟨rfl, rfl⟩ := h_1
  refine v_eq (st' := [.int (b2i (isIx (nI k) 7))]) (ws' := [(mo, .inr (10, M1R ma (mZ c c2 tk vc ln rn zs_10 zs_11 zs_20 zs_21 zs_22 zs_25 zs_26 zs_27 zs_29))), ((ma 4), eI D 6 (nF c.kk)), ((ma 5), eI D 6 (nF c.vv)), ((ma 6), eI D 6 c.hd), ((ma 30), eI D 8 (nF c.crf)), ((ma 35), eI D 12 (nF c.bo))]) rfl rfl rfl rfl ?_
  refine v_if_ne O 14 dX10_taken_8 (by decide) (fun z1 => ?_) (fun z1 => ?_)
  · skip
    have z1 := b2i_1.mp z1
    refine v_aload_n O dX10_taken_14 0 rfl ?_
    refine v_iload_n O dX10_taken_15 1 rfl ?_
    refine v_cV (T := TX10) (ci := 10) (As := [.int i]) (wr := [((ma 4), eI D 6 (nF c.kk)), ((ma 5), eI D 6 (nF c.vv)), ((ma 6), eI D 6 c.hd), ((ma 30), eI D 8 (nF c.crf)), ((ma 35), eI D 12 (nF c.bo))]) (st := []) O cf_X10_281 rfl (sp_X10_isMan (mo := mo) (ma := ma) (c := c) (c2 := c2) (tk := tk) (vc := vc) (ln := ln) (rn := rn) (zs_10 := zs_10) (zs_11 := zs_11) (zs_20 := zs_20) (zs_21 := zs_21) (zs_22 := zs_22) (zs_25 := zs_25) (zs_26 := zs_26) (zs_27 := zs_27) (zs_29 := zs_29) (i := i) (hC.1)) dX10_taken_16 rfl rfl 0 rfl [0] [1, 2, 3, 4, 5] (by decide) rfl rfl (by decide) (by decide) (by decide) (Nat.le_of_ble_eq_true rfl) (by decide) (by decide) (fun r_5 w_6 h_4 => ?_)
    obtain ⟨rfl, rfl⟩ := h_4
    refine v_eq (st' := [.int (b2i (isIx i c.men))]) (ws' := [((ma 4), eI D 6 (nF c.kk)), ((ma 5), eI D 6 (nF c.vv)), ((ma 6), eI D 6 c.hd), ((ma 30), eI D 8 (nF c.crf)), ((ma 35), eI D 12 (nF c.bo)), (mo, .inr (10, M1R ma (mZ c c2 tk vc ln rn zs_10 zs_11 zs_20 zs_21 zs_22 zs_25 zs_26 zs_27 zs_29)))]) rfl rfl rfl rfl ?_
    refine v_if_ne O 25 dX10_taken_19 (by decide) (fun z2 => ?_) (fun z2 => ?_)
    · skip
      have z2 := b2i_1.mp z2
      exact absurd z2 hi
    · skip
      have z2 := b2i_0.mp z2
      refine v_bipush (v := -11) O dX10_taken_22 (by decide) ?_
      refine v_sub (ws' := [(mo, .inr (10, M1R ma (mZ c c2 tk vc ln rn zs_10 zs_11 zs_20 zs_21 zs_22 zs_25 zs_26 zs_27 zs_29))), ((ma 4), eI D 6 (nF c.kk)), ((ma 5), eI D 6 (nF c.vv)), ((ma 6), eI D 6 c.hd), ((ma 30), eI D 8 (nF c.crf)), ((ma 35), eI D 12 (nF c.bo))]) [5, 0, 1, 2, 3, 4] (by decide) rfl ?_
      exact v_ireturn O T rfl rfl (by decide) (by decide) dX10_taken_24 (⟨zs_10, zs_11, zs_20, zs_21, zs_22, zs_25, zs_26, zs_27, zs_29, rfl, rfl⟩)
  · skip
    have z1 := b2i_0.mp z1
    exact absurd ((isIx_nI (by omega) (by omega)).mpr hk) z1
set_option maxRecDepth 100000 in
set_option maxHeartbeats 4000000 in
theorem sp_X10_taken_3 {D : G} {mo : Nat} {ma : Nat → Nat} {c : CS} {c2 : CS} {tk : Int32} {vc : Nat} {ln : Nat} {rn : Nat} {zs_10 : Int32} {zs_11 : Int32} {zs_20 : Int32} {zs_21 : Int32} {zs_22 : Int32} {zs_25 : Int32} {zs_26 : Int32} {zs_27 : Int32} {zs_29 : Int32} {i : Nat} {k : Nat} (hC : cOk c) (hk : k < 7) (hi : i < c.men) (hu : takN (c.kk i) k) : Sp D mX10_taken 30 0 0 [.ref mo, .int (nI i), .int (nI k)] [(mo, .inr (10, M1R ma (mZ c c2 tk vc ln rn zs_10 zs_11 zs_20 zs_21 zs_22 zs_25 zs_26 zs_27 zs_29))), ((ma 4), eI D 6 (nF c.kk)), ((ma 5), eI D 6 (nF c.vv)), ((ma 6), eI D 6 c.hd), ((ma 30), eI D 8 (nF c.crf)), ((ma 35), eI D 12 (nF c.bo))] (fun r w => ∃ zs2_10 : Int32, ∃ zs2_11 : Int32, ∃ zs2_20 : Int32, ∃ zs2_21 : Int32, ∃ zs2_22 : Int32, ∃ zs2_25 : Int32, ∃ zs2_26 : Int32, ∃ zs2_27 : Int32, ∃ zs2_29 : Int32, r = some (.int (nI (c.kk i))) ∧ w = [(mo, .inr (10, M1R ma (mZ c c2 tk vc ln rn zs2_10 zs2_11 zs2_20 zs2_21 zs2_22 zs2_25 zs2_26 zs2_27 zs2_29))), ((ma 4), eI D 6 (nF c.kk)), ((ma 5), eI D 6 (nF c.vv)), ((ma 6), eI D 6 c.hd), ((ma 30), eI D 8 (nF c.crf)), ((ma 35), eI D 12 (nF c.bo))]) := by
  refine Sp.of (by decide) (Nat.le_of_ble_eq_true rfl) (fun X O T => ?_)
  refine v_eq (lv' := [(0, .ref mo), (1, .int (nI i)), (2, .int (nI k))]) rfl rfl rfl rfl ?_
  have z_m := hC.1
  have z_hp := hC.2.2.2.1
  have z_wk := hC.2.2.2.2.1
  have z_rl := hC.2.2.2.2.2.1
  have z_pg := hC.2.2.2.2.2.2.2.1
  have z_kk := hC.2.1 i (by omega)
  refine v_aload_n O dX10_taken_0 0 rfl ?_
  refine v_iload_n O dX10_taken_1 2 rfl ?_
  refine v_iconst (v := 0) O dX10_taken_2 (by decide) ?_
  refine v_bipush (v := 6) O dX10_taken_3 (by decide) ?_
  refine v_cV (T := TX10) (ci := 10) (As := [.int (nI k), .int 0, .int 6]) (wr := [(mo, .inr (10, M1R ma (mZ c c2 tk vc ln rn zs_10 zs_11 zs_20 zs_21 zs_22 zs_25 zs_26 zs_27 zs_29))), ((ma 4), eI D 6 (nF c.kk)), ((ma 5), eI D 6 (nF c.vv)), ((ma 6), eI D 6 c.hd), ((ma 30), eI D 8 (nF c.crf)), ((ma 35), eI D 12 (nF c.bo))]) (st := []) O cf_X10_179 rfl (sp_X10_in_0 (mo := mo) (x := (nI k)) (h := 6) (zn := 7) (rfl) (by decide)) dX10_taken_5 rfl rfl 0 rfl [] [0, 1, 2, 3, 4, 5] (by decide) rfl rfl (by decide) (by decide) (by decide) (Nat.le_of_ble_eq_true rfl) (by decide) (by decide) (fun r_2 w_3 h_1 => ?_)
  obtain ⟨rfl, rfl⟩ := h_1
  refine v_eq (st' := [.int (b2i (isIx (nI k) 7))]) (ws' := [(mo, .inr (10, M1R ma (mZ c c2 tk vc ln rn zs_10 zs_11 zs_20 zs_21 zs_22 zs_25 zs_26 zs_27 zs_29))), ((ma 4), eI D 6 (nF c.kk)), ((ma 5), eI D 6 (nF c.vv)), ((ma 6), eI D 6 c.hd), ((ma 30), eI D 8 (nF c.crf)), ((ma 35), eI D 12 (nF c.bo))]) rfl rfl rfl rfl ?_
  refine v_if_ne O 14 dX10_taken_8 (by decide) (fun z1 => ?_) (fun z1 => ?_)
  · skip
    have z1 := b2i_1.mp z1
    refine v_aload_n O dX10_taken_14 0 rfl ?_
    refine v_iload_n O dX10_taken_15 1 rfl ?_
    refine v_cV (T := TX10) (ci := 10) (As := [.int (nI i)]) (wr := [((ma 4), eI D 6 (nF c.kk)), ((ma 5), eI D 6 (nF c.vv)), ((ma 6), eI D 6 c.hd), ((ma 30), eI D 8 (nF c.crf)), ((ma 35), eI D 12 (nF c.bo))]) (st := []) O cf_X10_281 rfl (sp_X10_isMan (mo := mo) (ma := ma) (c := c) (c2 := c2) (tk := tk) (vc := vc) (ln := ln) (rn := rn) (zs_10 := zs_10) (zs_11 := zs_11) (zs_20 := zs_20) (zs_21 := zs_21) (zs_22 := zs_22) (zs_25 := zs_25) (zs_26 := zs_26) (zs_27 := zs_27) (zs_29 := zs_29) (i := (nI i)) (hC.1)) dX10_taken_16 rfl rfl 0 rfl [0] [1, 2, 3, 4, 5] (by decide) rfl rfl (by decide) (by decide) (by decide) (Nat.le_of_ble_eq_true rfl) (by decide) (by decide) (fun r_5 w_6 h_4 => ?_)
    obtain ⟨rfl, rfl⟩ := h_4
    refine v_eq (st' := [.int (b2i (isIx (nI i) c.men))]) (ws' := [((ma 4), eI D 6 (nF c.kk)), ((ma 5), eI D 6 (nF c.vv)), ((ma 6), eI D 6 c.hd), ((ma 30), eI D 8 (nF c.crf)), ((ma 35), eI D 12 (nF c.bo)), (mo, .inr (10, M1R ma (mZ c c2 tk vc ln rn zs_10 zs_11 zs_20 zs_21 zs_22 zs_25 zs_26 zs_27 zs_29)))]) rfl rfl rfl rfl ?_
    refine v_if_ne O 25 dX10_taken_19 (by decide) (fun z2 => ?_) (fun z2 => ?_)
    · skip
      have z2 := b2i_1.mp z2
      refine v_aload_n O dX10_taken_25 0 rfl ?_
      refine gf_X10_22 (v := .ref (ma 4)) O rfl dX10_taken_26 5 rfl rfl ?_
      refine v_iload_n O dX10_taken_29 1 rfl ?_
      refine v_ialdk O dX10_taken_30 0 rfl i rfl (by omega) (by decide) ?_
      refine v_top (y := nI (c.kk i)) rfl ?_
      refine v_istore_n (lv' := [(0, .ref mo), (1, .int (nI i)), (2, .int (nI k)), (3, .int (nI (c.kk i)))]) O dX10_taken_31 (by decide) rfl ?_
      refine v_iload_n O dX10_taken_32 2 rfl ?_
      refine v_if_eq O 72 dX10_taken_33 (by decide) (fun c_7 => ?_) (fun c_7 => ?_)
      · skip
        have c_7 := (c_eq (x := nI k) (y := 0) (a := k) (b := 0) rfl rfl (by omega) (by omega)).mp c_7
        refine v_iload_n O dX10_taken_72 3 rfl ?_
        refine v_goto O 78 dX10_taken_73 (by decide) ?_
        refine v_sub (ws' := [(mo, .inr (10, M1R ma (mZ c c2 tk vc ln rn zs_10 zs_11 zs_20 zs_21 zs_22 zs_25 zs_26 zs_27 zs_29))), ((ma 4), eI D 6 (nF c.kk)), ((ma 5), eI D 6 (nF c.vv)), ((ma 6), eI D 6 c.hd), ((ma 30), eI D 8 (nF c.crf)), ((ma 35), eI D 12 (nF c.bo))]) [5, 0, 1, 2, 3, 4] (by decide) rfl ?_
        exact v_ireturn O T rfl rfl (by decide) (by decide) dX10_taken_78 (⟨zs_10, zs_11, zs_20, zs_21, zs_22, zs_25, zs_26, zs_27, zs_29, rfl, rfl⟩)
      · skip
        have c_7 := (not_congr (c_eq (x := nI k) (y := 0) (a := k) (b := 0) rfl rfl (by omega) (by omega))).mp c_7
        refine v_iload_n O dX10_taken_36 3 rfl ?_
        refine v_iload_n O dX10_taken_37 2 rfl ?_
        refine v_icmp_eq O 72 dX10_taken_38 (by decide) (fun c_8 => ?_) (fun c_8 => ?_)
        · skip
          have c_8 := (c_eq (x := nI (c.kk i)) (y := nI k) (a := c.kk i) (b := k) rfl rfl (by omega) (by omega)).mp c_8
          refine v_iload_n O dX10_taken_72 3 rfl ?_
          refine v_goto O 78 dX10_taken_73 (by decide) ?_
          refine v_sub (ws' := [(mo, .inr (10, M1R ma (mZ c c2 tk vc ln rn zs_10 zs_11 zs_20 zs_21 zs_22 zs_25 zs_26 zs_27 zs_29))), ((ma 4), eI D 6 (nF c.kk)), ((ma 5), eI D 6 (nF c.vv)), ((ma 6), eI D 6 c.hd), ((ma 30), eI D 8 (nF c.crf)), ((ma 35), eI D 12 (nF c.bo))]) [5, 0, 1, 2, 3, 4] (by decide) rfl ?_
          exact v_ireturn O T rfl rfl (by decide) (by decide) dX10_taken_78 (⟨zs_10, zs_11, zs_20, zs_21, zs_22, zs_25, zs_26, zs_27, zs_29, rfl, rfl⟩)
        · skip
          have c_8 := (not_congr (c_eq (x := nI (c.kk i)) (y := nI k) (a := c.kk i) (b := k) rfl rfl (by omega) (by omega))).mp c_8
          refine v_iload_n O dX10_taken_41 2 rfl ?_
          refine v_iconst (v := 1) O dX10_taken_42 (by decide) ?_
          refine v_icmp_ne O 51 dX10_taken_43 (by decide) (fun c_9 => ?_) (fun c_9 => ?_)
          · skip
            have c_9 := (not_congr (c_eq (x := nI k) (y := 1) (a := k) (b := 1) rfl rfl (by omega) (by omega))).mp c_9
            refine v_iload_n O dX10_taken_51 2 rfl ?_
            refine v_iconst (v := 2) O dX10_taken_52 (by decide) ?_
            refine v_icmp_ne O 61 dX10_taken_53 (by decide) (fun c_10 => ?_) (fun c_10 => ?_)
            · skip
              have c_10 := (not_congr (c_eq (x := nI k) (y := 2) (a := k) (b := 2) rfl rfl (by omega) (by omega))).mp c_10
              refine v_iload_n O dX10_taken_61 2 rfl ?_
              refine v_iconst (v := 3) O dX10_taken_62 (by decide) ?_
              refine v_icmp_ne O 76 dX10_taken_63 (by decide) (fun c_11 => ?_) (fun c_11 => ?_)
              · skip
                have c_11 := (not_congr (c_eq (x := nI k) (y := 3) (a := k) (b := 3) rfl rfl (by omega) (by omega))).mp c_11
                exact absurd hu (by unfold takN; omega)
              · skip
                have c_11 := (c_eq (x := nI k) (y := 3) (a := k) (b := 3) rfl rfl (by omega) (by omega)).mp c_11
                refine v_iload_n O dX10_taken_66 3 rfl ?_
                refine v_bipush (v := 6) O dX10_taken_67 (by decide) ?_
                refine v_icmp_ne O 76 dX10_taken_69 (by decide) (fun c_12 => ?_) (fun c_12 => ?_)
                · skip
                  have c_12 := (not_congr (c_eq (x := nI (c.kk i)) (y := 6) (a := c.kk i) (b := 6) rfl rfl (by omega) (by omega))).mp c_12
                  exact absurd hu (by unfold takN; omega)
                · skip
                  have c_12 := (c_eq (x := nI (c.kk i)) (y := 6) (a := c.kk i) (b := 6) rfl rfl (by omega) (by omega)).mp c_12
                  refine v_iload_n O dX10_taken_72 3 rfl ?_
                  refine v_goto O 78 dX10_taken_73 (by decide) ?_
                  refine v_sub (ws' := [(mo, .inr (10, M1R ma (mZ c c2 tk vc ln rn zs_10 zs_11 zs_20 zs_21 zs_22 zs_25 zs_26 zs_27 zs_29))), ((ma 4), eI D 6 (nF c.kk)), ((ma 5), eI D 6 (nF c.vv)), ((ma 6), eI D 6 c.hd), ((ma 30), eI D 8 (nF c.crf)), ((ma 35), eI D 12 (nF c.bo))]) [5, 0, 1, 2, 3, 4] (by decide) rfl ?_
                  exact v_ireturn O T rfl rfl (by decide) (by decide) dX10_taken_78 (⟨zs_10, zs_11, zs_20, zs_21, zs_22, zs_25, zs_26, zs_27, zs_29, rfl, rfl⟩)
            · skip
              have c_10 := (c_eq (x := nI k) (y := 2) (a := k) (b := 2) rfl rfl (by omega) (by omega)).mp c_10
              refine v_iload_n O dX10_taken_56 3 rfl ?_
              refine v_iconst (v := 5) O dX10_taken_57 (by decide) ?_
              refine v_icmp_eq O 72 dX10_taken_58 (by decide) (fun c_13 => ?_) (fun c_13 => ?_)
              · skip
                have c_13 := (c_eq (x := nI (c.kk i)) (y := 5) (a := c.kk i) (b := 5) rfl rfl (by omega) (by omega)).mp c_13
                refine v_iload_n O dX10_taken_72 3 rfl ?_
                refine v_goto O 78 dX10_taken_73 (by decide) ?_
                refine v_sub (ws' := [(mo, .inr (10, M1R ma (mZ c c2 tk vc ln rn zs_10 zs_11 zs_20 zs_21 zs_22 zs_25 zs_26 zs_27 zs_29))), ((ma 4), eI D 6 (nF c.kk)), ((ma 5), eI D 6 (nF c.vv)), ((ma 6), eI D 6 c.hd), ((ma 30), eI D 8 (nF c.crf)), ((ma 35), eI D 12 (nF c.bo))]) [5, 0, 1, 2, 3, 4] (by decide) rfl ?_
                exact v_ireturn O T rfl rfl (by decide) (by decide) dX10_taken_78 (⟨zs_10, zs_11, zs_20, zs_21, zs_22, zs_25, zs_26, zs_27, zs_29, rfl, rfl⟩)
              · skip
                have c_13 := (not_congr (c_eq (x := nI (c.kk i)) (y := 5) (a := c.kk i) (b := 5) rfl rfl (by omega) (by omega))).mp c_13
                refine v_iload_n O dX10_taken_61 2 rfl ?_
                refine v_iconst (v := 3) O dX10_taken_62 (by decide) ?_
                refine v_icmp_ne O 76 dX10_taken_63 (by decide) (fun c_14 => ?_) (fun c_14 => ?_)
                · skip
                  have c_14 := (not_congr (c_eq (x := nI k) (y := 3) (a := k) (b := 3) rfl rfl (by omega) (by omega))).mp c_14
                  exact absurd hu (by unfold takN; omega)
                · skip
                  have c_14 := (c_eq (x := nI k) (y := 3) (a := k) (b := 3) rfl rfl (by omega) (by omega)).mp c_14
                  refine v_iload_n O dX10_taken_66 3 rfl ?_
                  refine v_bipush (v := 6) O dX10_taken_67 (by decide) ?_
                  refine v_icmp_ne O 76 dX10_taken_69 (by decide) (fun c_15 => ?_) (fun c_15 => ?_)
                  · skip
                    have c_15 := (not_congr (c_eq (x := nI (c.kk i)) (y := 6) (a := c.kk i) (b := 6) rfl rfl (by omega) (by omega))).mp c_15
                    exact absurd hu (by unfold takN; omega)
                  · skip
                    have c_15 := (c_eq (x := nI (c.kk i)) (y := 6) (a := c.kk i) (b := 6) rfl rfl (by omega) (by omega)).mp c_15
                    refine v_iload_n O dX10_taken_72 3 rfl ?_
                    refine v_goto O 78 dX10_taken_73 (by decide) ?_
                    refine v_sub (ws' := [(mo, .inr (10, M1R ma (mZ c c2 tk vc ln rn zs_10 zs_11 zs_20 zs_21 zs_22 zs_25 zs_26 zs_27 zs_29))), ((ma 4), eI D 6 (nF c.kk)), ((ma 5), eI D 6 (nF c.vv)), ((ma 6), eI D 6 c.hd), ((ma 30), eI D 8 (nF c.crf)), ((ma 35), eI D 12 (nF c.bo))]) [5, 0, 1, 2, 3, 4] (by decide) rfl ?_
                    exact v_ireturn O T rfl rfl (by decide) (by decide) dX10_taken_78 (⟨zs_10, zs_11, zs_20, zs_21, zs_22, zs_25, zs_26, zs_27, zs_29, rfl, rfl⟩)
          · skip
            have c_9 := (c_eq (x := nI k) (y := 1) (a := k) (b := 1) rfl rfl (by omega) (by omega)).mp c_9
            refine v_iload_n O dX10_taken_46 3 rfl ?_
            refine v_iconst (v := 4) O dX10_taken_47 (by decide) ?_
            refine v_icmp_eq O 72 dX10_taken_48 (by decide) (fun c_16 => ?_) (fun c_16 => ?_)
            · skip
              have c_16 := (c_eq (x := nI (c.kk i)) (y := 4) (a := c.kk i) (b := 4) rfl rfl (by omega) (by omega)).mp c_16
              refine v_iload_n O dX10_taken_72 3 rfl ?_
              refine v_goto O 78 dX10_taken_73 (by decide) ?_
              refine v_sub (ws' := [(mo, .inr (10, M1R ma (mZ c c2 tk vc ln rn zs_10 zs_11 zs_20 zs_21 zs_22 zs_25 zs_26 zs_27 zs_29))), ((ma 4), eI D 6 (nF c.kk)), ((ma 5), eI D 6 (nF c.vv)), ((ma 6), eI D 6 c.hd), ((ma 30), eI D 8 (nF c.crf)), ((ma 35), eI D 12 (nF c.bo))]) [5, 0, 1, 2, 3, 4] (by decide) rfl ?_
              exact v_ireturn O T rfl rfl (by decide) (by decide) dX10_taken_78 (⟨zs_10, zs_11, zs_20, zs_21, zs_22, zs_25, zs_26, zs_27, zs_29, rfl, rfl⟩)
            · skip
              have c_16 := (not_congr (c_eq (x := nI (c.kk i)) (y := 4) (a := c.kk i) (b := 4) rfl rfl (by omega) (by omega))).mp c_16
              refine v_iload_n O dX10_taken_51 2 rfl ?_
              refine v_iconst (v := 2) O dX10_taken_52 (by decide) ?_
              refine v_icmp_ne O 61 dX10_taken_53 (by decide) (fun c_17 => ?_) (fun c_17 => ?_)
              · skip
                have c_17 := (not_congr (c_eq (x := nI k) (y := 2) (a := k) (b := 2) rfl rfl (by omega) (by omega))).mp c_17
                refine v_iload_n O dX10_taken_61 2 rfl ?_
                refine v_iconst (v := 3) O dX10_taken_62 (by decide) ?_
                refine v_icmp_ne O 76 dX10_taken_63 (by decide) (fun c_18 => ?_) (fun c_18 => ?_)
                · skip
                  have c_18 := (not_congr (c_eq (x := nI k) (y := 3) (a := k) (b := 3) rfl rfl (by omega) (by omega))).mp c_18
                  exact absurd hu (by unfold takN; omega)
                · skip
                  have c_18 := (c_eq (x := nI k) (y := 3) (a := k) (b := 3) rfl rfl (by omega) (by omega)).mp c_18
                  refine v_iload_n O dX10_taken_66 3 rfl ?_
                  refine v_bipush (v := 6) O dX10_taken_67 (by decide) ?_
                  refine v_icmp_ne O 76 dX10_taken_69 (by decide) (fun c_19 => ?_) (fun c_19 => ?_)
                  · skip
                    have c_19 := (not_congr (c_eq (x := nI (c.kk i)) (y := 6) (a := c.kk i) (b := 6) rfl rfl (by omega) (by omega))).mp c_19
                    exact absurd hu (by unfold takN; omega)
                  · skip
                    have c_19 := (c_eq (x := nI (c.kk i)) (y := 6) (a := c.kk i) (b := 6) rfl rfl (by omega) (by omega)).mp c_19
                    refine v_iload_n O dX10_taken_72 3 rfl ?_
                    refine v_goto O 78 dX10_taken_73 (by decide) ?_
                    refine v_sub (ws' := [(mo, .inr (10, M1R ma (mZ c c2 tk vc ln rn zs_10 zs_11 zs_20 zs_21 zs_22 zs_25 zs_26 zs_27 zs_29))), ((ma 4), eI D 6 (nF c.kk)), ((ma 5), eI D 6 (nF c.vv)), ((ma 6), eI D 6 c.hd), ((ma 30), eI D 8 (nF c.crf)), ((ma 35), eI D 12 (nF c.bo))]) [5, 0, 1, 2, 3, 4] (by decide) rfl ?_
                    exact v_ireturn O T rfl rfl (by decide) (by decide) dX10_taken_78 (⟨zs_10, zs_11, zs_20, zs_21, zs_22, zs_25, zs_26, zs_27, zs_29, rfl, rfl⟩)
              · skip
                have c_17 := (c_eq (x := nI k) (y := 2) (a := k) (b := 2) rfl rfl (by omega) (by omega)).mp c_17
                refine v_iload_n O dX10_taken_56 3 rfl ?_
                refine v_iconst (v := 5) O dX10_taken_57 (by decide) ?_
                refine v_icmp_eq O 72 dX10_taken_58 (by decide) (fun c_20 => ?_) (fun c_20 => ?_)
                · skip
                  have c_20 := (c_eq (x := nI (c.kk i)) (y := 5) (a := c.kk i) (b := 5) rfl rfl (by omega) (by omega)).mp c_20
                  refine v_iload_n O dX10_taken_72 3 rfl ?_
                  refine v_goto O 78 dX10_taken_73 (by decide) ?_
                  refine v_sub (ws' := [(mo, .inr (10, M1R ma (mZ c c2 tk vc ln rn zs_10 zs_11 zs_20 zs_21 zs_22 zs_25 zs_26 zs_27 zs_29))), ((ma 4), eI D 6 (nF c.kk)), ((ma 5), eI D 6 (nF c.vv)), ((ma 6), eI D 6 c.hd), ((ma 30), eI D 8 (nF c.crf)), ((ma 35), eI D 12 (nF c.bo))]) [5, 0, 1, 2, 3, 4] (by decide) rfl ?_
                  exact v_ireturn O T rfl rfl (by decide) (by decide) dX10_taken_78 (⟨zs_10, zs_11, zs_20, zs_21, zs_22, zs_25, zs_26, zs_27, zs_29, rfl, rfl⟩)
                · skip
                  have c_20 := (not_congr (c_eq (x := nI (c.kk i)) (y := 5) (a := c.kk i) (b := 5) rfl rfl (by omega) (by omega))).mp c_20
                  refine v_iload_n O dX10_taken_61 2 rfl ?_
                  refine v_iconst (v := 3) O dX10_taken_62 (by decide) ?_
                  refine v_icmp_ne O 76 dX10_taken_63 (by decide) (fun c_21 => ?_) (fun c_21 => ?_)
                  · skip
                    have c_21 := (not_congr (c_eq (x := nI k) (y := 3) (a := k) (b := 3) rfl rfl (by omega) (by omega))).mp c_21
                    exact absurd hu (by unfold takN; omega)
                  · skip
                    have c_21 := (c_eq (x := nI k) (y := 3) (a := k) (b := 3) rfl rfl (by omega) (by omega)).mp c_21
                    refine v_iload_n O dX10_taken_66 3 rfl ?_
                    refine v_bipush (v := 6) O dX10_taken_67 (by decide) ?_
                    refine v_icmp_ne O 76 dX10_taken_69 (by decide) (fun c_22 => ?_) (fun c_22 => ?_)
                    · skip
                      have c_22 := (not_congr (c_eq (x := nI (c.kk i)) (y := 6) (a := c.kk i) (b := 6) rfl rfl (by omega) (by omega))).mp c_22
                      exact absurd hu (by unfold takN; omega)
                    · skip
                      have c_22 := (c_eq (x := nI (c.kk i)) (y := 6) (a := c.kk i) (b := 6) rfl rfl (by omega) (by omega)).mp c_22
                      refine v_iload_n O dX10_taken_72 3 rfl ?_
                      refine v_goto O 78 dX10_taken_73 (by decide) ?_
                      refine v_sub (ws' := [(mo, .inr (10, M1R ma (mZ c c2 tk vc ln rn zs_10 zs_11 zs_20 zs_21 zs_22 zs_25 zs_26 zs_27 zs_29))), ((ma 4), eI D 6 (nF c.kk)), ((ma 5), eI D 6 (nF c.vv)), ((ma 6), eI D 6 c.hd), ((ma 30), eI D 8 (nF c.crf)), ((ma 35), eI D 12 (nF c.bo))]) [5, 0, 1, 2, 3, 4] (by decide) rfl ?_
                      exact v_ireturn O T rfl rfl (by decide) (by decide) dX10_taken_78 (⟨zs_10, zs_11, zs_20, zs_21, zs_22, zs_25, zs_26, zs_27, zs_29, rfl, rfl⟩)
    · skip
      have z2 := b2i_0.mp z2
      exact absurd ((isIx_nI (by omega) (by omega)).mpr hi) z2
  · skip
    have z1 := b2i_0.mp z1
    exact absurd ((isIx_nI (by omega) (by omega)).mpr hk) z1
set_option maxRecDepth 100000 in
set_option maxHeartbeats 4000000 in
theorem sp_X10_taken_4 {D : G} {mo : Nat} {ma : Nat → Nat} {c : CS} {c2 : CS} {tk : Int32} {vc : Nat} {ln : Nat} {rn : Nat} {zs_10 : Int32} {zs_11 : Int32} {zs_20 : Int32} {zs_21 : Int32} {zs_22 : Int32} {zs_25 : Int32} {zs_26 : Int32} {zs_27 : Int32} {zs_29 : Int32} {i : Nat} {k : Nat} (hC : cOk c) (hk : k < 7) (hi : i < c.men) (hu : ¬ takN (c.kk i) k) : Sp D mX10_taken 30 0 0 [.ref mo, .int (nI i), .int (nI k)] [(mo, .inr (10, M1R ma (mZ c c2 tk vc ln rn zs_10 zs_11 zs_20 zs_21 zs_22 zs_25 zs_26 zs_27 zs_29))), ((ma 4), eI D 6 (nF c.kk)), ((ma 5), eI D 6 (nF c.vv)), ((ma 6), eI D 6 c.hd), ((ma 30), eI D 8 (nF c.crf)), ((ma 35), eI D 12 (nF c.bo))] (fun r w => ∃ zs2_10 : Int32, ∃ zs2_11 : Int32, ∃ zs2_20 : Int32, ∃ zs2_21 : Int32, ∃ zs2_22 : Int32, ∃ zs2_25 : Int32, ∃ zs2_26 : Int32, ∃ zs2_27 : Int32, ∃ zs2_29 : Int32, r = some (.int (-12)) ∧ w = [(mo, .inr (10, M1R ma (mZ c c2 tk vc ln rn zs2_10 zs2_11 zs2_20 zs2_21 zs2_22 zs2_25 zs2_26 zs2_27 zs2_29))), ((ma 4), eI D 6 (nF c.kk)), ((ma 5), eI D 6 (nF c.vv)), ((ma 6), eI D 6 c.hd), ((ma 30), eI D 8 (nF c.crf)), ((ma 35), eI D 12 (nF c.bo))]) := by
  refine Sp.of (by decide) (Nat.le_of_ble_eq_true rfl) (fun X O T => ?_)
  refine v_eq (lv' := [(0, .ref mo), (1, .int (nI i)), (2, .int (nI k))]) rfl rfl rfl rfl ?_
  have z_m := hC.1
  have z_hp := hC.2.2.2.1
  have z_wk := hC.2.2.2.2.1
  have z_rl := hC.2.2.2.2.2.1
  have z_pg := hC.2.2.2.2.2.2.2.1
  have z_kk := hC.2.1 i (by omega)
  refine v_aload_n O dX10_taken_0 0 rfl ?_
  refine v_iload_n O dX10_taken_1 2 rfl ?_
  refine v_iconst (v := 0) O dX10_taken_2 (by decide) ?_
  refine v_bipush (v := 6) O dX10_taken_3 (by decide) ?_
  refine v_cV (T := TX10) (ci := 10) (As := [.int (nI k), .int 0, .int 6]) (wr := [(mo, .inr (10, M1R ma (mZ c c2 tk vc ln rn zs_10 zs_11 zs_20 zs_21 zs_22 zs_25 zs_26 zs_27 zs_29))), ((ma 4), eI D 6 (nF c.kk)), ((ma 5), eI D 6 (nF c.vv)), ((ma 6), eI D 6 c.hd), ((ma 30), eI D 8 (nF c.crf)), ((ma 35), eI D 12 (nF c.bo))]) (st := []) O cf_X10_179 rfl (sp_X10_in_0 (mo := mo) (x := (nI k)) (h := 6) (zn := 7) (rfl) (by decide)) dX10_taken_5 rfl rfl 0 rfl [] [0, 1, 2, 3, 4, 5] (by decide) rfl rfl (by decide) (by decide) (by decide) (Nat.le_of_ble_eq_true rfl) (by decide) (by decide) (fun r_2 w_3 h_1 => ?_)
  obtain ⟨rfl, rfl⟩ := h_1
  refine v_eq (st' := [.int (b2i (isIx (nI k) 7))]) (ws' := [(mo, .inr (10, M1R ma (mZ c c2 tk vc ln rn zs_10 zs_11 zs_20 zs_21 zs_22 zs_25 zs_26 zs_27 zs_29))), ((ma 4), eI D 6 (nF c.kk)), ((ma 5), eI D 6 (nF c.vv)), ((ma 6), eI D 6 c.hd), ((ma 30), eI D 8 (nF c.crf)), ((ma 35), eI D 12 (nF c.bo))]) rfl rfl rfl rfl ?_
  refine v_if_ne O 14 dX10_taken_8 (by decide) (fun z1 => ?_) (fun z1 => ?_)
  · skip
    have z1 := b2i_1.mp z1
    refine v_aload_n O dX10_taken_14 0 rfl ?_
    refine v_iload_n O dX10_taken_15 1 rfl ?_
    refine v_cV (T := TX10) (ci := 10) (As := [.int (nI i)]) (wr := [((ma 4), eI D 6 (nF c.kk)), ((ma 5), eI D 6 (nF c.vv)), ((ma 6), eI D 6 c.hd), ((ma 30), eI D 8 (nF c.crf)), ((ma 35), eI D 12 (nF c.bo))]) (st := []) O cf_X10_281 rfl (sp_X10_isMan (mo := mo) (ma := ma) (c := c) (c2 := c2) (tk := tk) (vc := vc) (ln := ln) (rn := rn) (zs_10 := zs_10) (zs_11 := zs_11) (zs_20 := zs_20) (zs_21 := zs_21) (zs_22 := zs_22) (zs_25 := zs_25) (zs_26 := zs_26) (zs_27 := zs_27) (zs_29 := zs_29) (i := (nI i)) (hC.1)) dX10_taken_16 rfl rfl 0 rfl [0] [1, 2, 3, 4, 5] (by decide) rfl rfl (by decide) (by decide) (by decide) (Nat.le_of_ble_eq_true rfl) (by decide) (by decide) (fun r_5 w_6 h_4 => ?_)
    obtain ⟨rfl, rfl⟩ := h_4
    refine v_eq (st' := [.int (b2i (isIx (nI i) c.men))]) (ws' := [((ma 4), eI D 6 (nF c.kk)), ((ma 5), eI D 6 (nF c.vv)), ((ma 6), eI D 6 c.hd), ((ma 30), eI D 8 (nF c.crf)), ((ma 35), eI D 12 (nF c.bo)), (mo, .inr (10, M1R ma (mZ c c2 tk vc ln rn zs_10 zs_11 zs_20 zs_21 zs_22 zs_25 zs_26 zs_27 zs_29)))]) rfl rfl rfl rfl ?_
    refine v_if_ne O 25 dX10_taken_19 (by decide) (fun z2 => ?_) (fun z2 => ?_)
    · skip
      have z2 := b2i_1.mp z2
      refine v_aload_n O dX10_taken_25 0 rfl ?_
      refine gf_X10_22 (v := .ref (ma 4)) O rfl dX10_taken_26 5 rfl rfl ?_
      refine v_iload_n O dX10_taken_29 1 rfl ?_
      refine v_ialdk O dX10_taken_30 0 rfl i rfl (by omega) (by decide) ?_
      refine v_top (y := nI (c.kk i)) rfl ?_
      refine v_istore_n (lv' := [(0, .ref mo), (1, .int (nI i)), (2, .int (nI k)), (3, .int (nI (c.kk i)))]) O dX10_taken_31 (by decide) rfl ?_
      refine v_iload_n O dX10_taken_32 2 rfl ?_
      refine v_if_eq O 72 dX10_taken_33 (by decide) (fun c_7 => ?_) (fun c_7 => ?_)
      · skip
        have c_7 := (c_eq (x := nI k) (y := 0) (a := k) (b := 0) rfl rfl (by omega) (by omega)).mp c_7
        exact absurd (by unfold takN; omega) hu
      · skip
        have c_7 := (not_congr (c_eq (x := nI k) (y := 0) (a := k) (b := 0) rfl rfl (by omega) (by omega))).mp c_7
        refine v_iload_n O dX10_taken_36 3 rfl ?_
        refine v_iload_n O dX10_taken_37 2 rfl ?_
        refine v_icmp_eq O 72 dX10_taken_38 (by decide) (fun c_8 => ?_) (fun c_8 => ?_)
        · skip
          have c_8 := (c_eq (x := nI (c.kk i)) (y := nI k) (a := c.kk i) (b := k) rfl rfl (by omega) (by omega)).mp c_8
          exact absurd (by unfold takN; omega) hu
        · skip
          have c_8 := (not_congr (c_eq (x := nI (c.kk i)) (y := nI k) (a := c.kk i) (b := k) rfl rfl (by omega) (by omega))).mp c_8
          refine v_iload_n O dX10_taken_41 2 rfl ?_
          refine v_iconst (v := 1) O dX10_taken_42 (by decide) ?_
          refine v_icmp_ne O 51 dX10_taken_43 (by decide) (fun c_9 => ?_) (fun c_9 => ?_)
          · skip
            have c_9 := (not_congr (c_eq (x := nI k) (y := 1) (a := k) (b := 1) rfl rfl (by omega) (by omega))).mp c_9
            refine v_iload_n O dX10_taken_51 2 rfl ?_
            refine v_iconst (v := 2) O dX10_taken_52 (by decide) ?_
            refine v_icmp_ne O 61 dX10_taken_53 (by decide) (fun c_10 => ?_) (fun c_10 => ?_)
            · skip
              have c_10 := (not_congr (c_eq (x := nI k) (y := 2) (a := k) (b := 2) rfl rfl (by omega) (by omega))).mp c_10
              refine v_iload_n O dX10_taken_61 2 rfl ?_
              refine v_iconst (v := 3) O dX10_taken_62 (by decide) ?_
              refine v_icmp_ne O 76 dX10_taken_63 (by decide) (fun c_11 => ?_) (fun c_11 => ?_)
              · skip
                have c_11 := (not_congr (c_eq (x := nI k) (y := 3) (a := k) (b := 3) rfl rfl (by omega) (by omega))).mp c_11
                refine v_bipush (v := -12) O dX10_taken_76 (by decide) ?_
                refine v_sub (ws' := [(mo, .inr (10, M1R ma (mZ c c2 tk vc ln rn zs_10 zs_11 zs_20 zs_21 zs_22 zs_25 zs_26 zs_27 zs_29))), ((ma 4), eI D 6 (nF c.kk)), ((ma 5), eI D 6 (nF c.vv)), ((ma 6), eI D 6 c.hd), ((ma 30), eI D 8 (nF c.crf)), ((ma 35), eI D 12 (nF c.bo))]) [5, 0, 1, 2, 3, 4] (by decide) rfl ?_
                exact v_ireturn O T rfl rfl (by decide) (by decide) dX10_taken_78 (⟨zs_10, zs_11, zs_20, zs_21, zs_22, zs_25, zs_26, zs_27, zs_29, rfl, rfl⟩)
              · skip
                have c_11 := (c_eq (x := nI k) (y := 3) (a := k) (b := 3) rfl rfl (by omega) (by omega)).mp c_11
                refine v_iload_n O dX10_taken_66 3 rfl ?_
                refine v_bipush (v := 6) O dX10_taken_67 (by decide) ?_
                refine v_icmp_ne O 76 dX10_taken_69 (by decide) (fun c_12 => ?_) (fun c_12 => ?_)
                · skip
                  have c_12 := (not_congr (c_eq (x := nI (c.kk i)) (y := 6) (a := c.kk i) (b := 6) rfl rfl (by omega) (by omega))).mp c_12
                  refine v_bipush (v := -12) O dX10_taken_76 (by decide) ?_
                  refine v_sub (ws' := [(mo, .inr (10, M1R ma (mZ c c2 tk vc ln rn zs_10 zs_11 zs_20 zs_21 zs_22 zs_25 zs_26 zs_27 zs_29))), ((ma 4), eI D 6 (nF c.kk)), ((ma 5), eI D 6 (nF c.vv)), ((ma 6), eI D 6 c.hd), ((ma 30), eI D 8 (nF c.crf)), ((ma 35), eI D 12 (nF c.bo))]) [5, 0, 1, 2, 3, 4] (by decide) rfl ?_
                  exact v_ireturn O T rfl rfl (by decide) (by decide) dX10_taken_78 (⟨zs_10, zs_11, zs_20, zs_21, zs_22, zs_25, zs_26, zs_27, zs_29, rfl, rfl⟩)
                · skip
                  have c_12 := (c_eq (x := nI (c.kk i)) (y := 6) (a := c.kk i) (b := 6) rfl rfl (by omega) (by omega)).mp c_12
                  exact absurd (by unfold takN; omega) hu
            · skip
              have c_10 := (c_eq (x := nI k) (y := 2) (a := k) (b := 2) rfl rfl (by omega) (by omega)).mp c_10
              refine v_iload_n O dX10_taken_56 3 rfl ?_
              refine v_iconst (v := 5) O dX10_taken_57 (by decide) ?_
              refine v_icmp_eq O 72 dX10_taken_58 (by decide) (fun c_13 => ?_) (fun c_13 => ?_)
              · skip
                have c_13 := (c_eq (x := nI (c.kk i)) (y := 5) (a := c.kk i) (b := 5) rfl rfl (by omega) (by omega)).mp c_13
                exact absurd (by unfold takN; omega) hu
              · skip
                have c_13 := (not_congr (c_eq (x := nI (c.kk i)) (y := 5) (a := c.kk i) (b := 5) rfl rfl (by omega) (by omega))).mp c_13
                refine v_iload_n O dX10_taken_61 2 rfl ?_
                refine v_iconst (v := 3) O dX10_taken_62 (by decide) ?_
                refine v_icmp_ne O 76 dX10_taken_63 (by decide) (fun c_14 => ?_) (fun c_14 => ?_)
                · skip
                  have c_14 := (not_congr (c_eq (x := nI k) (y := 3) (a := k) (b := 3) rfl rfl (by omega) (by omega))).mp c_14
                  refine v_bipush (v := -12) O dX10_taken_76 (by decide) ?_
                  refine v_sub (ws' := [(mo, .inr (10, M1R ma (mZ c c2 tk vc ln rn zs_10 zs_11 zs_20 zs_21 zs_22 zs_25 zs_26 zs_27 zs_29))), ((ma 4), eI D 6 (nF c.kk)), ((ma 5), eI D 6 (nF c.vv)), ((ma 6), eI D 6 c.hd), ((ma 30), eI D 8 (nF c.crf)), ((ma 35), eI D 12 (nF c.bo))]) [5, 0, 1, 2, 3, 4] (by decide) rfl ?_
                  exact v_ireturn O T rfl rfl (by decide) (by decide) dX10_taken_78 (⟨zs_10, zs_11, zs_20, zs_21, zs_22, zs_25, zs_26, zs_27, zs_29, rfl, rfl⟩)
                · skip
                  have c_14 := (c_eq (x := nI k) (y := 3) (a := k) (b := 3) rfl rfl (by omega) (by omega)).mp c_14
                  refine v_iload_n O dX10_taken_66 3 rfl ?_
                  refine v_bipush (v := 6) O dX10_taken_67 (by decide) ?_
                  refine v_icmp_ne O 76 dX10_taken_69 (by decide) (fun c_15 => ?_) (fun c_15 => ?_)
                  · skip
                    have c_15 := (not_congr (c_eq (x := nI (c.kk i)) (y := 6) (a := c.kk i) (b := 6) rfl rfl (by omega) (by omega))).mp c_15
                    refine v_bipush (v := -12) O dX10_taken_76 (by decide) ?_
                    refine v_sub (ws' := [(mo, .inr (10, M1R ma (mZ c c2 tk vc ln rn zs_10 zs_11 zs_20 zs_21 zs_22 zs_25 zs_26 zs_27 zs_29))), ((ma 4), eI D 6 (nF c.kk)), ((ma 5), eI D 6 (nF c.vv)), ((ma 6), eI D 6 c.hd), ((ma 30), eI D 8 (nF c.crf)), ((ma 35), eI D 12 (nF c.bo))]) [5, 0, 1, 2, 3, 4] (by decide) rfl ?_
                    exact v_ireturn O T rfl rfl (by decide) (by decide) dX10_taken_78 (⟨zs_10, zs_11, zs_20, zs_21, zs_22, zs_25, zs_26, zs_27, zs_29, rfl, rfl⟩)
                  · skip
                    have c_15 := (c_eq (x := nI (c.kk i)) (y := 6) (a := c.kk i) (b := 6) rfl rfl (by omega) (by omega)).mp c_15
                    exact absurd (by unfold takN; omega) hu
          · skip
            have c_9 := (c_eq (x := nI k) (y := 1) (a := k) (b := 1) rfl rfl (by omega) (by omega)).mp c_9
            refine v_iload_n O dX10_taken_46 3 rfl ?_
            refine v_iconst (v := 4) O dX10_taken_47 (by decide) ?_
            refine v_icmp_eq O 72 dX10_taken_48 (by decide) (fun c_16 => ?_) (fun c_16 => ?_)
            · skip
              have c_16 := (c_eq (x := nI (c.kk i)) (y := 4) (a := c.kk i) (b := 4) rfl rfl (by omega) (by omega)).mp c_16
              exact absurd (by unfold takN; omega) hu
            · skip
              have c_16 := (not_congr (c_eq (x := nI (c.kk i)) (y := 4) (a := c.kk i) (b := 4) rfl rfl (by omega) (by omega))).mp c_16
              refine v_iload_n O dX10_taken_51 2 rfl ?_
              refine v_iconst (v := 2) O dX10_taken_52 (by decide) ?_
              refine v_icmp_ne O 61 dX10_taken_53 (by decide) (fun c_17 => ?_) (fun c_17 => ?_)
              · skip
                have c_17 := (not_congr (c_eq (x := nI k) (y := 2) (a := k) (b := 2) rfl rfl (by omega) (by omega))).mp c_17
                refine v_iload_n O dX10_taken_61 2 rfl ?_
                refine v_iconst (v := 3) O dX10_taken_62 (by decide) ?_
                refine v_icmp_ne O 76 dX10_taken_63 (by decide) (fun c_18 => ?_) (fun c_18 => ?_)
                · skip
                  have c_18 := (not_congr (c_eq (x := nI k) (y := 3) (a := k) (b := 3) rfl rfl (by omega) (by omega))).mp c_18
                  refine v_bipush (v := -12) O dX10_taken_76 (by decide) ?_
                  refine v_sub (ws' := [(mo, .inr (10, M1R ma (mZ c c2 tk vc ln rn zs_10 zs_11 zs_20 zs_21 zs_22 zs_25 zs_26 zs_27 zs_29))), ((ma 4), eI D 6 (nF c.kk)), ((ma 5), eI D 6 (nF c.vv)), ((ma 6), eI D 6 c.hd), ((ma 30), eI D 8 (nF c.crf)), ((ma 35), eI D 12 (nF c.bo))]) [5, 0, 1, 2, 3, 4] (by decide) rfl ?_
                  exact v_ireturn O T rfl rfl (by decide) (by decide) dX10_taken_78 (⟨zs_10, zs_11, zs_20, zs_21, zs_22, zs_25, zs_26, zs_27, zs_29, rfl, rfl⟩)
                · skip
                  have c_18 := (c_eq (x := nI k) (y := 3) (a := k) (b := 3) rfl rfl (by omega) (by omega)).mp c_18
                  refine v_iload_n O dX10_taken_66 3 rfl ?_
                  refine v_bipush (v := 6) O dX10_taken_67 (by decide) ?_
                  refine v_icmp_ne O 76 dX10_taken_69 (by decide) (fun c_19 => ?_) (fun c_19 => ?_)
                  · skip
                    have c_19 := (not_congr (c_eq (x := nI (c.kk i)) (y := 6) (a := c.kk i) (b := 6) rfl rfl (by omega) (by omega))).mp c_19
                    refine v_bipush (v := -12) O dX10_taken_76 (by decide) ?_
                    refine v_sub (ws' := [(mo, .inr (10, M1R ma (mZ c c2 tk vc ln rn zs_10 zs_11 zs_20 zs_21 zs_22 zs_25 zs_26 zs_27 zs_29))), ((ma 4), eI D 6 (nF c.kk)), ((ma 5), eI D 6 (nF c.vv)), ((ma 6), eI D 6 c.hd), ((ma 30), eI D 8 (nF c.crf)), ((ma 35), eI D 12 (nF c.bo))]) [5, 0, 1, 2, 3, 4] (by decide) rfl ?_
                    exact v_ireturn O T rfl rfl (by decide) (by decide) dX10_taken_78 (⟨zs_10, zs_11, zs_20, zs_21, zs_22, zs_25, zs_26, zs_27, zs_29, rfl, rfl⟩)
                  · skip
                    have c_19 := (c_eq (x := nI (c.kk i)) (y := 6) (a := c.kk i) (b := 6) rfl rfl (by omega) (by omega)).mp c_19
                    exact absurd (by unfold takN; omega) hu
              · skip
                have c_17 := (c_eq (x := nI k) (y := 2) (a := k) (b := 2) rfl rfl (by omega) (by omega)).mp c_17
                refine v_iload_n O dX10_taken_56 3 rfl ?_
                refine v_iconst (v := 5) O dX10_taken_57 (by decide) ?_
                refine v_icmp_eq O 72 dX10_taken_58 (by decide) (fun c_20 => ?_) (fun c_20 => ?_)
                · skip
                  have c_20 := (c_eq (x := nI (c.kk i)) (y := 5) (a := c.kk i) (b := 5) rfl rfl (by omega) (by omega)).mp c_20
                  exact absurd (by unfold takN; omega) hu
                · skip
                  have c_20 := (not_congr (c_eq (x := nI (c.kk i)) (y := 5) (a := c.kk i) (b := 5) rfl rfl (by omega) (by omega))).mp c_20
                  refine v_iload_n O dX10_taken_61 2 rfl ?_
                  refine v_iconst (v := 3) O dX10_taken_62 (by decide) ?_
                  refine v_icmp_ne O 76 dX10_taken_63 (by decide) (fun c_21 => ?_) (fun c_21 => ?_)
                  · skip
                    have c_21 := (not_congr (c_eq (x := nI k) (y := 3) (a := k) (b := 3) rfl rfl (by omega) (by omega))).mp c_21
                    refine v_bipush (v := -12) O dX10_taken_76 (by decide) ?_
                    refine v_sub (ws' := [(mo, .inr (10, M1R ma (mZ c c2 tk vc ln rn zs_10 zs_11 zs_20 zs_21 zs_22 zs_25 zs_26 zs_27 zs_29))), ((ma 4), eI D 6 (nF c.kk)), ((ma 5), eI D 6 (nF c.vv)), ((ma 6), eI D 6 c.hd), ((ma 30), eI D 8 (nF c.crf)), ((ma 35), eI D 12 (nF c.bo))]) [5, 0, 1, 2, 3, 4] (by decide) rfl ?_
                    exact v_ireturn O T rfl rfl (by decide) (by decide) dX10_taken_78 (⟨zs_10, zs_11, zs_20, zs_21, zs_22, zs_25, zs_26, zs_27, zs_29, rfl, rfl⟩)
                  · skip
                    have c_21 := (c_eq (x := nI k) (y := 3) (a := k) (b := 3) rfl rfl (by omega) (by omega)).mp c_21
                    refine v_iload_n O dX10_taken_66 3 rfl ?_
                    refine v_bipush (v := 6) O dX10_taken_67 (by decide) ?_
                    refine v_icmp_ne O 76 dX10_taken_69 (by decide) (fun c_22 => ?_) (fun c_22 => ?_)
                    · skip
                      have c_22 := (not_congr (c_eq (x := nI (c.kk i)) (y := 6) (a := c.kk i) (b := 6) rfl rfl (by omega) (by omega))).mp c_22
                      refine v_bipush (v := -12) O dX10_taken_76 (by decide) ?_
                      refine v_sub (ws' := [(mo, .inr (10, M1R ma (mZ c c2 tk vc ln rn zs_10 zs_11 zs_20 zs_21 zs_22 zs_25 zs_26 zs_27 zs_29))), ((ma 4), eI D 6 (nF c.kk)), ((ma 5), eI D 6 (nF c.vv)), ((ma 6), eI D 6 c.hd), ((ma 30), eI D 8 (nF c.crf)), ((ma 35), eI D 12 (nF c.bo))]) [5, 0, 1, 2, 3, 4] (by decide) rfl ?_
                      exact v_ireturn O T rfl rfl (by decide) (by decide) dX10_taken_78 (⟨zs_10, zs_11, zs_20, zs_21, zs_22, zs_25, zs_26, zs_27, zs_29, rfl, rfl⟩)
                    · skip
                      have c_22 := (c_eq (x := nI (c.kk i)) (y := 6) (a := c.kk i) (b := 6) rfl rfl (by omega) (by omega)).mp c_22
                      exact absurd (by unfold takN; omega) hu
    · skip
      have z2 := b2i_0.mp z2
      exact absurd ((isIx_nI (by omega) (by omega)).mpr hi) z2
  · skip
    have z1 := b2i_0.mp z1
    exact absurd ((isIx_nI (by omega) (by omega)).mpr hk) z1
set_option maxRecDepth 100000 in
set_option maxHeartbeats 4000000 in
theorem sp_X10_count_1 {D : G} {mo : Nat} {ma : Nat → Nat} {c : CS} {c2 : CS} {tk : Int32} {vc : Nat} {ln : Nat} {rn : Nat} {zs_10 : Int32} {zs_11 : Int32} {zs_20 : Int32} {zs_21 : Int32} {zs_22 : Int32} {zs_25 : Int32} {zs_26 : Int32} {zs_27 : Int32} {zs_29 : Int32} {zw : Int32} (hw : ¬ isIx zw 6) : Sp D mX10_count 30 0 0 [.ref mo, .int zw] [(mo, .inr (10, M1R ma (mZ c c2 tk vc ln rn zs_10 zs_11 zs_20 zs_21 zs_22 zs_25 zs_26 zs_27 zs_29)))] (fun r w => ∃ zs2_10 : Int32, ∃ zs2_11 : Int32, ∃ zs2_20 : Int32, ∃ zs2_21 : Int32, ∃ zs2_22 : Int32, ∃ zs2_25 : Int32, ∃ zs2_26 : Int32, ∃ zs2_27 : Int32, ∃ zs2_29 : Int32, r = some (.int (-2)) ∧ w = [(mo, .inr (10, M1R ma (mZ c c2 tk vc ln rn zs2_10 zs2_11 zs2_20 zs2_21 zs2_22 zs2_25 zs2_26 zs2_27 zs2_29)))]) := by
  refine Sp.of (by decide) (Nat.le_of_ble_eq_true rfl) (fun X O T => ?_)
  refine v_eq (lv' := [(0, .ref mo), (1, .int zw)]) rfl rfl rfl rfl ?_
  refine v_iload_n O dX10_count_0 1 rfl ?_
  by_cases s_1 : zw = 0
  · skip
    refine v_top s_1 ?_
    refine v_tsIn (off := 39) O 40 dX10_count_1 (by decide) (by decide) (by decide) (by decide) ?_
    exact absurd ⟨0, by decide, s_1⟩ hw
  by_cases s_2 : zw = 1
  · skip
    refine v_top s_2 ?_
    refine v_tsIn (off := 44) O 45 dX10_count_1 (by decide) (by decide) (by decide) (by decide) ?_
    exact absurd ⟨1, by decide, s_2⟩ hw
  by_cases s_3 : zw = 2
  · skip
    refine v_top s_3 ?_
    refine v_tsIn (off := 49) O 50 dX10_count_1 (by decide) (by decide) (by decide) (by decide) ?_
    exact absurd ⟨2, by decide, s_3⟩ hw
  by_cases s_4 : zw = 3
  · skip
    refine v_top s_4 ?_
    refine v_tsIn (off := 54) O 55 dX10_count_1 (by decide) (by decide) (by decide) (by decide) ?_
    exact absurd ⟨3, by decide, s_4⟩ hw
  by_cases s_5 : zw = 4
  · skip
    refine v_top s_5 ?_
    refine v_tsIn (off := 59) O 60 dX10_count_1 (by decide) (by decide) (by decide) (by decide) ?_
    exact absurd ⟨4, by decide, s_5⟩ hw
  by_cases s_6 : zw = 5
  · skip
    refine v_top s_6 ?_
    refine v_tsIn (off := 64) O 65 dX10_count_1 (by decide) (by decide) (by decide) (by decide) ?_
    exact absurd ⟨5, by decide, s_6⟩ hw
  refine v_tsOut O 70 dX10_count_1 (ts_out (by decide) (by decide) (fun v h1 h2 => by rcases (show v = 0 ∨ v = 1 ∨ v = 2 ∨ v = 3 ∨ v = 4 ∨ v = 5 by omega) with rfl | rfl | rfl | rfl | rfl | rfl <;> assumption)) (by decide) ?_
  refine v_bipush (v := -2) O dX10_count_70 (by decide) ?_
  exact v_ireturn O T rfl rfl (by decide) (by decide) dX10_count_72 (⟨zs_10, zs_11, zs_20, zs_21, zs_22, zs_25, zs_26, zs_27, zs_29, rfl, rfl⟩)
set_option maxRecDepth 100000 in
set_option maxHeartbeats 4000000 in
theorem sp_X10_count_2 {D : G} {mo : Nat} {ma : Nat → Nat} {c : CS} {c2 : CS} {tk : Int32} {vc : Nat} {ln : Nat} {rn : Nat} {zs_10 : Int32} {zs_11 : Int32} {zs_20 : Int32} {zs_21 : Int32} {zs_22 : Int32} {zs_25 : Int32} {zs_26 : Int32} {zs_27 : Int32} {zs_29 : Int32} (hC : cOk c) : Sp D mX10_count 30 0 0 [.ref mo, .int 0] [(mo, .inr (10, M1R ma (mZ c c2 tk vc ln rn zs_10 zs_11 zs_20 zs_21 zs_22 zs_25 zs_26 zs_27 zs_29))), ((ma 4), eI D 6 (nF c.kk)), ((ma 5), eI D 6 (nF c.vv)), ((ma 6), eI D 6 c.hd), ((ma 30), eI D 8 (nF c.crf)), ((ma 35), eI D 12 (nF c.bo))] (fun r w => ∃ zs2_10 : Int32, ∃ zs2_11 : Int32, ∃ zs2_20 : Int32, ∃ zs2_21 : Int32, ∃ zs2_22 : Int32, ∃ zs2_25 : Int32, ∃ zs2_26 : Int32, ∃ zs2_27 : Int32, ∃ zs2_29 : Int32, r = some (.int (nI c.men)) ∧ w = [(mo, .inr (10, M1R ma (mZ c c2 tk vc ln rn zs2_10 zs2_11 zs2_20 zs2_21 zs2_22 zs2_25 zs2_26 zs2_27 zs2_29))), ((ma 4), eI D 6 (nF c.kk)), ((ma 5), eI D 6 (nF c.vv)), ((ma 6), eI D 6 c.hd), ((ma 30), eI D 8 (nF c.crf)), ((ma 35), eI D 12 (nF c.bo))]) := by
  refine Sp.of (by decide) (Nat.le_of_ble_eq_true rfl) (fun X O T => ?_)
  refine v_eq (lv' := [(0, .ref mo), (1, .int 0)]) rfl rfl rfl rfl ?_
  have z_m := hC.1
  have z_hp := hC.2.2.2.1
  have z_wk := hC.2.2.2.2.1
  have z_rl := hC.2.2.2.2.2.1
  have z_pg := hC.2.2.2.2.2.2.2.1
  refine v_iload_n O dX10_count_0 1 rfl ?_
  refine v_tsIn (off := 39) O 40 dX10_count_1 (by decide) (by decide) (by decide) (by decide) ?_
  refine v_aload_n O dX10_count_40 0 rfl ?_
  refine gf_X10_7 (v := .int (nI c.men)) O rfl dX10_count_41 0 rfl rfl ?_
  exact v_ireturn O T rfl rfl (by decide) (by decide) dX10_count_44 (⟨zs_10, zs_11, zs_20, zs_21, zs_22, zs_25, zs_26, zs_27, zs_29, rfl, rfl⟩)
set_option maxRecDepth 100000 in
set_option maxHeartbeats 4000000 in
theorem sp_X10_count_3 {D : G} {mo : Nat} {ma : Nat → Nat} {c : CS} {c2 : CS} {tk : Int32} {vc : Nat} {ln : Nat} {rn : Nat} {zs_10 : Int32} {zs_11 : Int32} {zs_20 : Int32} {zs_21 : Int32} {zs_22 : Int32} {zs_25 : Int32} {zs_26 : Int32} {zs_27 : Int32} {zs_29 : Int32} : Sp D mX10_count 30 0 0 [.ref mo, .int 1] [(mo, .inr (10, M1R ma (mZ c c2 tk vc ln rn zs_10 zs_11 zs_20 zs_21 zs_22 zs_25 zs_26 zs_27 zs_29)))] (fun r w => ∃ zs2_10 : Int32, ∃ zs2_11 : Int32, ∃ zs2_20 : Int32, ∃ zs2_21 : Int32, ∃ zs2_22 : Int32, ∃ zs2_25 : Int32, ∃ zs2_26 : Int32, ∃ zs2_27 : Int32, ∃ zs2_29 : Int32, r = some (.int (nI vc)) ∧ w = [(mo, .inr (10, M1R ma (mZ c c2 tk vc ln rn zs2_10 zs2_11 zs2_20 zs2_21 zs2_22 zs2_25 zs2_26 zs2_27 zs2_29)))]) := by
  refine Sp.of (by decide) (Nat.le_of_ble_eq_true rfl) (fun X O T => ?_)
  refine v_eq (lv' := [(0, .ref mo), (1, .int 1)]) rfl rfl rfl rfl ?_
  refine v_iload_n O dX10_count_0 1 rfl ?_
  refine v_tsIn (off := 44) O 45 dX10_count_1 (by decide) (by decide) (by decide) (by decide) ?_
  refine v_aload_n O dX10_count_45 0 rfl ?_
  refine gf_X10_32 (v := .int (nI vc)) O rfl dX10_count_46 0 rfl rfl ?_
  exact v_ireturn O T rfl rfl (by decide) (by decide) dX10_count_49 (⟨zs_10, zs_11, zs_20, zs_21, zs_22, zs_25, zs_26, zs_27, zs_29, rfl, rfl⟩)
set_option maxRecDepth 100000 in
set_option maxHeartbeats 4000000 in
theorem sp_X10_count_4 {D : G} {mo : Nat} {ma : Nat → Nat} {c : CS} {c2 : CS} {tk : Int32} {vc : Nat} {ln : Nat} {rn : Nat} {zs_10 : Int32} {zs_11 : Int32} {zs_20 : Int32} {zs_21 : Int32} {zs_22 : Int32} {zs_25 : Int32} {zs_26 : Int32} {zs_27 : Int32} {zs_29 : Int32} (hC : cOk c) : Sp D mX10_count 30 0 0 [.ref mo, .int 2] [(mo, .inr (10, M1R ma (mZ c c2 tk vc ln rn zs_10 zs_11 zs_20 zs_21 zs_22 zs_25 zs_26 zs_27 zs_29))), ((ma 4), eI D 6 (nF c.kk)), ((ma 5), eI D 6 (nF c.vv)), ((ma 6), eI D 6 c.hd), ((ma 30), eI D 8 (nF c.crf)), ((ma 35), eI D 12 (nF c.bo))] (fun r w => ∃ zs2_10 : Int32, ∃ zs2_11 : Int32, ∃ zs2_20 : Int32, ∃ zs2_21 : Int32, ∃ zs2_22 : Int32, ∃ zs2_25 : Int32, ∃ zs2_26 : Int32, ∃ zs2_27 : Int32, ∃ zs2_29 : Int32, r = some (.int (nI c.rl)) ∧ w = [(mo, .inr (10, M1R ma (mZ c c2 tk vc ln rn zs2_10 zs2_11 zs2_20 zs2_21 zs2_22 zs2_25 zs2_26 zs2_27 zs2_29))), ((ma 4), eI D 6 (nF c.kk)), ((ma 5), eI D 6 (nF c.vv)), ((ma 6), eI D 6 c.hd), ((ma 30), eI D 8 (nF c.crf)), ((ma 35), eI D 12 (nF c.bo))]) := by
  refine Sp.of (by decide) (Nat.le_of_ble_eq_true rfl) (fun X O T => ?_)
  refine v_eq (lv' := [(0, .ref mo), (1, .int 2)]) rfl rfl rfl rfl ?_
  have z_m := hC.1
  have z_hp := hC.2.2.2.1
  have z_wk := hC.2.2.2.2.1
  have z_rl := hC.2.2.2.2.2.1
  have z_pg := hC.2.2.2.2.2.2.2.1
  refine v_iload_n O dX10_count_0 1 rfl ?_
  refine v_tsIn (off := 49) O 50 dX10_count_1 (by decide) (by decide) (by decide) (by decide) ?_
  refine v_aload_n O dX10_count_50 0 rfl ?_
  refine gf_X10_96 (v := .int (nI c.rl)) O rfl dX10_count_51 0 rfl rfl ?_
  exact v_ireturn O T rfl rfl (by decide) (by decide) dX10_count_54 (⟨zs_10, zs_11, zs_20, zs_21, zs_22, zs_25, zs_26, zs_27, zs_29, rfl, rfl⟩)
set_option maxRecDepth 100000 in
set_option maxHeartbeats 4000000 in
theorem sp_X10_count_5 {D : G} {mo : Nat} {ma : Nat → Nat} {c : CS} {c2 : CS} {tk : Int32} {vc : Nat} {ln : Nat} {rn : Nat} {zs_10 : Int32} {zs_11 : Int32} {zs_20 : Int32} {zs_21 : Int32} {zs_22 : Int32} {zs_25 : Int32} {zs_26 : Int32} {zs_27 : Int32} {zs_29 : Int32} (hC : cOk c) : Sp D mX10_count 30 0 0 [.ref mo, .int 3] [(mo, .inr (10, M1R ma (mZ c c2 tk vc ln rn zs_10 zs_11 zs_20 zs_21 zs_22 zs_25 zs_26 zs_27 zs_29))), ((ma 4), eI D 6 (nF c.kk)), ((ma 5), eI D 6 (nF c.vv)), ((ma 6), eI D 6 c.hd), ((ma 30), eI D 8 (nF c.crf)), ((ma 35), eI D 12 (nF c.bo))] (fun r w => ∃ zs2_10 : Int32, ∃ zs2_11 : Int32, ∃ zs2_20 : Int32, ∃ zs2_21 : Int32, ∃ zs2_22 : Int32, ∃ zs2_25 : Int32, ∃ zs2_26 : Int32, ∃ zs2_27 : Int32, ∃ zs2_29 : Int32, r = some (.int (nI c.pg)) ∧ w = [(mo, .inr (10, M1R ma (mZ c c2 tk vc ln rn zs2_10 zs2_11 zs2_20 zs2_21 zs2_22 zs2_25 zs2_26 zs2_27 zs2_29))), ((ma 4), eI D 6 (nF c.kk)), ((ma 5), eI D 6 (nF c.vv)), ((ma 6), eI D 6 c.hd), ((ma 30), eI D 8 (nF c.crf)), ((ma 35), eI D 12 (nF c.bo))]) := by
  refine Sp.of (by decide) (Nat.le_of_ble_eq_true rfl) (fun X O T => ?_)
  refine v_eq (lv' := [(0, .ref mo), (1, .int 3)]) rfl rfl rfl rfl ?_
  have z_m := hC.1
  have z_hp := hC.2.2.2.1
  have z_wk := hC.2.2.2.2.1
  have z_rl := hC.2.2.2.2.2.1
  have z_pg := hC.2.2.2.2.2.2.2.1
  refine v_iload_n O dX10_count_0 1 rfl ?_
  refine v_tsIn (off := 54) O 55 dX10_count_1 (by decide) (by decide) (by decide) (by decide) ?_
  refine v_aload_n O dX10_count_55 0 rfl ?_
  refine gf_X10_114 (v := .int (nI c.pg)) O rfl dX10_count_56 0 rfl rfl ?_
  exact v_ireturn O T rfl rfl (by decide) (by decide) dX10_count_59 (⟨zs_10, zs_11, zs_20, zs_21, zs_22, zs_25, zs_26, zs_27, zs_29, rfl, rfl⟩)
set_option maxRecDepth 100000 in
set_option maxHeartbeats 4000000 in
theorem sp_X10_count_6 {D : G} {mo : Nat} {ma : Nat → Nat} {c : CS} {c2 : CS} {tk : Int32} {vc : Nat} {ln : Nat} {rn : Nat} {zs_10 : Int32} {zs_11 : Int32} {zs_20 : Int32} {zs_21 : Int32} {zs_22 : Int32} {zs_25 : Int32} {zs_26 : Int32} {zs_27 : Int32} {zs_29 : Int32} {tb : Nat → Int32} : Sp D mX10_count 30 0 0 [.ref mo, .int 4] [(mo, .inr (10, M1R ma (mZ c c2 tk vc ln rn zs_10 zs_11 zs_20 zs_21 zs_22 zs_25 zs_26 zs_27 zs_29))), ((ma 12), eI D 100 tb)] (fun r w => ∃ zs2_10 : Int32, ∃ zs2_11 : Int32, ∃ zs2_20 : Int32, ∃ zs2_21 : Int32, ∃ zs2_22 : Int32, ∃ zs2_25 : Int32, ∃ zs2_26 : Int32, ∃ zs2_27 : Int32, ∃ zs2_29 : Int32, r = some (.int (nI ln)) ∧ w = [(mo, .inr (10, M1R ma (mZ c c2 tk vc ln rn zs2_10 zs2_11 zs2_20 zs2_21 zs2_22 zs2_25 zs2_26 zs2_27 zs2_29))), ((ma 12), eI D 100 tb)]) := by
  refine Sp.of (by decide) (Nat.le_of_ble_eq_true rfl) (fun X O T => ?_)
  refine v_eq (lv' := [(0, .ref mo), (1, .int 4)]) rfl rfl rfl rfl ?_
  refine v_iload_n O dX10_count_0 1 rfl ?_
  refine v_tsIn (off := 59) O 60 dX10_count_1 (by decide) (by decide) (by decide) (by decide) ?_
  refine v_aload_n O dX10_count_60 0 rfl ?_
  refine gf_X10_38 (v := .int (nI ln)) O rfl dX10_count_61 0 rfl rfl ?_
  exact v_ireturn O T rfl rfl (by decide) (by decide) dX10_count_64 (⟨zs_10, zs_11, zs_20, zs_21, zs_22, zs_25, zs_26, zs_27, zs_29, rfl, rfl⟩)
set_option maxRecDepth 100000 in
set_option maxHeartbeats 4000000 in
theorem sp_X10_count_7 {D : G} {mo : Nat} {ma : Nat → Nat} {c : CS} {c2 : CS} {tk : Int32} {vc : Nat} {ln : Nat} {rn : Nat} {zs_10 : Int32} {zs_11 : Int32} {zs_20 : Int32} {zs_21 : Int32} {zs_22 : Int32} {zs_25 : Int32} {zs_26 : Int32} {zs_27 : Int32} {zs_29 : Int32} {f : Nat → Int32} : Sp D mX10_count 30 0 0 [.ref mo, .int 5] [(mo, .inr (10, M1R ma (mZ c c2 tk vc ln rn zs_10 zs_11 zs_20 zs_21 zs_22 zs_25 zs_26 zs_27 zs_29))), ((ma 50), eI D 20 f)] (fun r w => ∃ zs2_10 : Int32, ∃ zs2_11 : Int32, ∃ zs2_20 : Int32, ∃ zs2_21 : Int32, ∃ zs2_22 : Int32, ∃ zs2_25 : Int32, ∃ zs2_26 : Int32, ∃ zs2_27 : Int32, ∃ zs2_29 : Int32, r = some (.int (nI rn)) ∧ w = [(mo, .inr (10, M1R ma (mZ c c2 tk vc ln rn zs2_10 zs2_11 zs2_20 zs2_21 zs2_22 zs2_25 zs2_26 zs2_27 zs2_29))), ((ma 50), eI D 20 f)]) := by
  refine Sp.of (by decide) (Nat.le_of_ble_eq_true rfl) (fun X O T => ?_)
  refine v_eq (lv' := [(0, .ref mo), (1, .int 5)]) rfl rfl rfl rfl ?_
  refine v_iload_n O dX10_count_0 1 rfl ?_
  refine v_tsIn (off := 64) O 65 dX10_count_1 (by decide) (by decide) (by decide) (by decide) ?_
  refine v_aload_n O dX10_count_65 0 rfl ?_
  refine gf_X10_160 (v := .int (nI rn)) O rfl dX10_count_66 0 rfl rfl ?_
  exact v_ireturn O T rfl rfl (by decide) (by decide) dX10_count_69 (⟨zs_10, zs_11, zs_20, zs_21, zs_22, zs_25, zs_26, zs_27, zs_29, rfl, rfl⟩)
set_option maxRecDepth 100000 in
set_option maxHeartbeats 4000000 in
theorem sp_X10_told_1 {D : G} {mo : Nat} {ma : Nat → Nat} {c : CS} {c2 : CS} {tk : Int32} {vc : Nat} {ln : Nat} {rn : Nat} {zs_10 : Int32} {zs_11 : Int32} {zs_20 : Int32} {zs_21 : Int32} {zs_22 : Int32} {zs_25 : Int32} {zs_26 : Int32} {zs_27 : Int32} {zs_29 : Int32} {zw : Int32} (hw : ¬ isIx zw 5) : Sp D mX10_told 30 0 0 [.ref mo, .int zw] [(mo, .inr (10, M1R ma (mZ c c2 tk vc ln rn zs_10 zs_11 zs_20 zs_21 zs_22 zs_25 zs_26 zs_27 zs_29)))] (fun r w => ∃ zs2_10 : Int32, ∃ zs2_11 : Int32, ∃ zs2_20 : Int32, ∃ zs2_21 : Int32, ∃ zs2_22 : Int32, ∃ zs2_25 : Int32, ∃ zs2_26 : Int32, ∃ zs2_27 : Int32, ∃ zs2_29 : Int32, r = some (.int (-1)) ∧ w = [(mo, .inr (10, M1R ma (mZ c c2 tk vc ln rn zs2_10 zs2_11 zs2_20 zs2_21 zs2_22 zs2_25 zs2_26 zs2_27 zs2_29)))]) := by
  refine Sp.of (by decide) (Nat.le_of_ble_eq_true rfl) (fun X O T => ?_)
  refine v_eq (lv' := [(0, .ref mo), (1, .int zw)]) rfl rfl rfl rfl ?_
  refine v_iload_n O dX10_told_0 1 rfl ?_
  by_cases s_1 : zw = 0
  · skip
    refine v_top s_1 ?_
    refine v_tsIn (off := 35) O 36 dX10_told_1 (by decide) (by decide) (by decide) (by decide) ?_
    exact absurd ⟨0, by decide, s_1⟩ hw
  by_cases s_2 : zw = 1
  · skip
    refine v_top s_2 ?_
    refine v_tsIn (off := 40) O 41 dX10_told_1 (by decide) (by decide) (by decide) (by decide) ?_
    exact absurd ⟨1, by decide, s_2⟩ hw
  by_cases s_3 : zw = 2
  · skip
    refine v_top s_3 ?_
    refine v_tsIn (off := 47) O 48 dX10_told_1 (by decide) (by decide) (by decide) (by decide) ?_
    exact absurd ⟨2, by decide, s_3⟩ hw
  by_cases s_4 : zw = 3
  · skip
    refine v_top s_4 ?_
    refine v_tsIn (off := 52) O 53 dX10_told_1 (by decide) (by decide) (by decide) (by decide) ?_
    exact absurd ⟨3, by decide, s_4⟩ hw
  by_cases s_5 : zw = 4
  · skip
    refine v_top s_5 ?_
    refine v_tsIn (off := 57) O 58 dX10_told_1 (by decide) (by decide) (by decide) (by decide) ?_
    exact absurd ⟨4, by decide, s_5⟩ hw
  refine v_tsOut O 63 dX10_told_1 (ts_out (by decide) (by decide) (fun v h1 h2 => by rcases (show v = 0 ∨ v = 1 ∨ v = 2 ∨ v = 3 ∨ v = 4 by omega) with rfl | rfl | rfl | rfl | rfl <;> assumption)) (by decide) ?_
  refine v_iconst (v := -1) O dX10_told_63 (by decide) ?_
  exact v_ireturn O T rfl rfl (by decide) (by decide) dX10_told_64 (⟨zs_10, zs_11, zs_20, zs_21, zs_22, zs_25, zs_26, zs_27, zs_29, rfl, rfl⟩)
set_option maxRecDepth 100000 in
set_option maxHeartbeats 4000000 in
theorem sp_X10_told_4 {D : G} {mo : Nat} {ma : Nat → Nat} {c : CS} {c2 : CS} {tk : Int32} {vc : Nat} {ln : Nat} {rn : Nat} {zs_10 : Int32} {zs_11 : Int32} {zs_20 : Int32} {zs_21 : Int32} {zs_22 : Int32} {zs_25 : Int32} {zs_26 : Int32} {zs_27 : Int32} {zs_29 : Int32} (hC : cOk c) : Sp D mX10_told 30 0 0 [.ref mo, .int 2] [(mo, .inr (10, M1R ma (mZ c c2 tk vc ln rn zs_10 zs_11 zs_20 zs_21 zs_22 zs_25 zs_26 zs_27 zs_29))), ((ma 4), eI D 6 (nF c.kk)), ((ma 5), eI D 6 (nF c.vv)), ((ma 6), eI D 6 c.hd), ((ma 30), eI D 8 (nF c.crf)), ((ma 35), eI D 12 (nF c.bo))] (fun r w => ∃ zs2_10 : Int32, ∃ zs2_11 : Int32, ∃ zs2_20 : Int32, ∃ zs2_21 : Int32, ∃ zs2_22 : Int32, ∃ zs2_25 : Int32, ∃ zs2_26 : Int32, ∃ zs2_27 : Int32, ∃ zs2_29 : Int32, r = some (.int (nI c.heap)) ∧ w = [(mo, .inr (10, M1R ma (mZ c c2 tk vc ln rn zs2_10 zs2_11 zs2_20 zs2_21 zs2_22 zs2_25 zs2_26 zs2_27 zs2_29))), ((ma 4), eI D 6 (nF c.kk)), ((ma 5), eI D 6 (nF c.vv)), ((ma 6), eI D 6 c.hd), ((ma 30), eI D 8 (nF c.crf)), ((ma 35), eI D 12 (nF c.bo))]) := by
  refine Sp.of (by decide) (Nat.le_of_ble_eq_true rfl) (fun X O T => ?_)
  refine v_eq (lv' := [(0, .ref mo), (1, .int 2)]) rfl rfl rfl rfl ?_
  have z_m := hC.1
  have z_hp := hC.2.2.2.1
  have z_wk := hC.2.2.2.2.1
  have z_rl := hC.2.2.2.2.2.1
  have z_pg := hC.2.2.2.2.2.2.2.1
  refine v_iload_n O dX10_told_0 1 rfl ?_
  refine v_tsIn (off := 47) O 48 dX10_told_1 (by decide) (by decide) (by decide) (by decide) ?_
  refine v_aload_n O dX10_told_48 0 rfl ?_
  refine gf_X10_13 (v := .int (nI c.heap)) O rfl dX10_told_49 0 rfl rfl ?_
  exact v_ireturn O T rfl rfl (by decide) (by decide) dX10_told_52 (⟨zs_10, zs_11, zs_20, zs_21, zs_22, zs_25, zs_26, zs_27, zs_29, rfl, rfl⟩)
set_option maxRecDepth 100000 in
set_option maxHeartbeats 4000000 in
theorem sp_X10_told_5 {D : G} {mo : Nat} {ma : Nat → Nat} {c : CS} {c2 : CS} {tk : Int32} {vc : Nat} {ln : Nat} {rn : Nat} {zs_10 : Int32} {zs_11 : Int32} {zs_20 : Int32} {zs_21 : Int32} {zs_22 : Int32} {zs_25 : Int32} {zs_26 : Int32} {zs_27 : Int32} {zs_29 : Int32} (hC : cOk c) : Sp D mX10_told 30 0 0 [.ref mo, .int 3] [(mo, .inr (10, M1R ma (mZ c c2 tk vc ln rn zs_10 zs_11 zs_20 zs_21 zs_22 zs_25 zs_26 zs_27 zs_29))), ((ma 4), eI D 6 (nF c.kk)), ((ma 5), eI D 6 (nF c.vv)), ((ma 6), eI D 6 c.hd), ((ma 30), eI D 8 (nF c.crf)), ((ma 35), eI D 12 (nF c.bo))] (fun r w => ∃ zs2_10 : Int32, ∃ zs2_11 : Int32, ∃ zs2_20 : Int32, ∃ zs2_21 : Int32, ∃ zs2_22 : Int32, ∃ zs2_25 : Int32, ∃ zs2_26 : Int32, ∃ zs2_27 : Int32, ∃ zs2_29 : Int32, r = some (.int c.dogs) ∧ w = [(mo, .inr (10, M1R ma (mZ c c2 tk vc ln rn zs2_10 zs2_11 zs2_20 zs2_21 zs2_22 zs2_25 zs2_26 zs2_27 zs2_29))), ((ma 4), eI D 6 (nF c.kk)), ((ma 5), eI D 6 (nF c.vv)), ((ma 6), eI D 6 c.hd), ((ma 30), eI D 8 (nF c.crf)), ((ma 35), eI D 12 (nF c.bo))]) := by
  refine Sp.of (by decide) (Nat.le_of_ble_eq_true rfl) (fun X O T => ?_)
  refine v_eq (lv' := [(0, .ref mo), (1, .int 3)]) rfl rfl rfl rfl ?_
  have z_m := hC.1
  have z_hp := hC.2.2.2.1
  have z_wk := hC.2.2.2.2.1
  have z_rl := hC.2.2.2.2.2.1
  have z_pg := hC.2.2.2.2.2.2.2.1
  refine v_iload_n O dX10_told_0 1 rfl ?_
  refine v_tsIn (off := 52) O 53 dX10_told_1 (by decide) (by decide) (by decide) (by decide) ?_
  refine v_aload_n O dX10_told_53 0 rfl ?_
  refine gf_X10_16 (v := .int c.dogs) O rfl dX10_told_54 0 rfl rfl ?_
  exact v_ireturn O T rfl rfl (by decide) (by decide) dX10_told_57 (⟨zs_10, zs_11, zs_20, zs_21, zs_22, zs_25, zs_26, zs_27, zs_29, rfl, rfl⟩)
set_option maxRecDepth 100000 in
set_option maxHeartbeats 4000000 in
theorem sp_X10_told_6 {D : G} {mo : Nat} {ma : Nat → Nat} {c : CS} {c2 : CS} {tk : Int32} {vc : Nat} {ln : Nat} {rn : Nat} {zs_10 : Int32} {zs_11 : Int32} {zs_20 : Int32} {zs_21 : Int32} {zs_22 : Int32} {zs_25 : Int32} {zs_26 : Int32} {zs_27 : Int32} {zs_29 : Int32} (hC : cOk c) : Sp D mX10_told 30 0 0 [.ref mo, .int 4] [(mo, .inr (10, M1R ma (mZ c c2 tk vc ln rn zs_10 zs_11 zs_20 zs_21 zs_22 zs_25 zs_26 zs_27 zs_29))), ((ma 4), eI D 6 (nF c.kk)), ((ma 5), eI D 6 (nF c.vv)), ((ma 6), eI D 6 c.hd), ((ma 30), eI D 8 (nF c.crf)), ((ma 35), eI D 12 (nF c.bo))] (fun r w => ∃ zs2_10 : Int32, ∃ zs2_11 : Int32, ∃ zs2_20 : Int32, ∃ zs2_21 : Int32, ∃ zs2_22 : Int32, ∃ zs2_25 : Int32, ∃ zs2_26 : Int32, ∃ zs2_27 : Int32, ∃ zs2_29 : Int32, r = some (.int (nI c.wak)) ∧ w = [(mo, .inr (10, M1R ma (mZ c c2 tk vc ln rn zs2_10 zs2_11 zs2_20 zs2_21 zs2_22 zs2_25 zs2_26 zs2_27 zs2_29))), ((ma 4), eI D 6 (nF c.kk)), ((ma 5), eI D 6 (nF c.vv)), ((ma 6), eI D 6 c.hd), ((ma 30), eI D 8 (nF c.crf)), ((ma 35), eI D 12 (nF c.bo))]) := by
  refine Sp.of (by decide) (Nat.le_of_ble_eq_true rfl) (fun X O T => ?_)
  refine v_eq (lv' := [(0, .ref mo), (1, .int 4)]) rfl rfl rfl rfl ?_
  have z_m := hC.1
  have z_hp := hC.2.2.2.1
  have z_wk := hC.2.2.2.2.1
  have z_rl := hC.2.2.2.2.2.1
  have z_pg := hC.2.2.2.2.2.2.2.1
  refine v_iload_n O dX10_told_0 1 rfl ?_
  refine v_tsIn (off := 57) O 58 dX10_told_1 (by decide) (by decide) (by decide) (by decide) ?_
  refine v_aload_n O dX10_told_58 0 rfl ?_
  refine gf_X10_19 (v := .int (nI c.wak)) O rfl dX10_told_59 0 rfl rfl ?_
  exact v_ireturn O T rfl rfl (by decide) (by decide) dX10_told_62 (⟨zs_10, zs_11, zs_20, zs_21, zs_22, zs_25, zs_26, zs_27, zs_29, rfl, rfl⟩)
set_option maxRecDepth 100000 in
set_option maxHeartbeats 4000000 in
theorem sp_X10_of_1 {D : G} {mo : Nat} {ma : Nat → Nat} {c : CS} {c2 : CS} {tk : Int32} {vc : Nat} {ln : Nat} {rn : Nat} {zs_10 : Int32} {zs_11 : Int32} {zs_20 : Int32} {zs_21 : Int32} {zs_22 : Int32} {zs_25 : Int32} {zs_26 : Int32} {zs_27 : Int32} {zs_29 : Int32} {i : Int32} {zw : Int32} (hC : cOk c) (hi : ¬ isIx i c.men) : Sp D mX10_of 30 0 0 [.ref mo, .int i, .int zw] [(mo, .inr (10, M1R ma (mZ c c2 tk vc ln rn zs_10 zs_11 zs_20 zs_21 zs_22 zs_25 zs_26 zs_27 zs_29))), ((ma 4), eI D 6 (nF c.kk)), ((ma 5), eI D 6 (nF c.vv)), ((ma 6), eI D 6 c.hd), ((ma 30), eI D 8 (nF c.crf)), ((ma 35), eI D 12 (nF c.bo))] (fun r w => ∃ zs2_10 : Int32, ∃ zs2_11 : Int32, ∃ zs2_20 : Int32, ∃ zs2_21 : Int32, ∃ zs2_22 : Int32, ∃ zs2_25 : Int32, ∃ zs2_26 : Int32, ∃ zs2_27 : Int32, ∃ zs2_29 : Int32, r = some (.int (-10001)) ∧ w = [(mo, .inr (10, M1R ma (mZ c c2 tk vc ln rn zs2_10 zs2_11 zs2_20 zs2_21 zs2_22 zs2_25 zs2_26 zs2_27 zs2_29))), ((ma 4), eI D 6 (nF c.kk)), ((ma 5), eI D 6 (nF c.vv)), ((ma 6), eI D 6 c.hd), ((ma 30), eI D 8 (nF c.crf)), ((ma 35), eI D 12 (nF c.bo))]) := by
  refine Sp.of (by decide) (Nat.le_of_ble_eq_true rfl) (fun X O T => ?_)
  refine v_eq (lv' := [(0, .ref mo), (1, .int i), (2, .int zw)]) rfl rfl rfl rfl ?_
  have z_m := hC.1
  have z_hp := hC.2.2.2.1
  have z_wk := hC.2.2.2.2.1
  have z_rl := hC.2.2.2.2.2.1
  have z_pg := hC.2.2.2.2.2.2.2.1
  refine v_aload_n O dX10_of_0 0 rfl ?_
  refine v_iload_n O dX10_of_1 1 rfl ?_
  refine v_cV (T := TX10) (ci := 10) (As := [.int i]) (wr := [((ma 4), eI D 6 (nF c.kk)), ((ma 5), eI D 6 (nF c.vv)), ((ma 6), eI D 6 c.hd), ((ma 30), eI D 8 (nF c.crf)), ((ma 35), eI D 12 (nF c.bo))]) (st := []) O cf_X10_281 rfl (sp_X10_isMan (mo := mo) (ma := ma) (c := c) (c2 := c2) (tk := tk) (vc := vc) (ln := ln) (rn := rn) (zs_10 := zs_10) (zs_11 := zs_11) (zs_20 := zs_20) (zs_21 := zs_21) (zs_22 := zs_22) (zs_25 := zs_25) (zs_26 := zs_26) (zs_27 := zs_27) (zs_29 := zs_29) (i := i) (hC.1)) dX10_of_2 rfl rfl 0 rfl [0] [1, 2, 3, 4, 5] (by decide) rfl rfl (by decide) (by decide) (by decide) (Nat.le_of_ble_eq_true rfl) (by decide) (by decide) (fun r_2 w_3 h_1 => ?_)
  obtain ⟨rfl, rfl⟩ := h_1
  refine v_eq (st' := [.int (b2i (isIx i c.men))]) (ws' := [((ma 4), eI D 6 (nF c.kk)), ((ma 5), eI D 6 (nF c.vv)), ((ma 6), eI D 6 c.hd), ((ma 30), eI D 8 (nF c.crf)), ((ma 35), eI D 12 (nF c.bo)), (mo, .inr (10, M1R ma (mZ c c2 tk vc ln rn zs_10 zs_11 zs_20 zs_21 zs_22 zs_25 zs_26 zs_27 zs_29)))]) rfl rfl rfl rfl ?_
  refine v_if_ne O 12 dX10_of_5 (by decide) (fun z1 => ?_) (fun z1 => ?_)
  · skip
    have z1 := b2i_1.mp z1
    exact absurd z1 hi
  · skip
    have z1 := b2i_0.mp z1
    refine v_sipush (v := -10001) O dX10_of_8 (by decide) ?_
    refine v_sub (ws' := [(mo, .inr (10, M1R ma (mZ c c2 tk vc ln rn zs_10 zs_11 zs_20 zs_21 zs_22 zs_25 zs_26 zs_27 zs_29))), ((ma 4), eI D 6 (nF c.kk)), ((ma 5), eI D 6 (nF c.vv)), ((ma 6), eI D 6 c.hd), ((ma 30), eI D 8 (nF c.crf)), ((ma 35), eI D 12 (nF c.bo))]) [5, 0, 1, 2, 3, 4] (by decide) rfl ?_
    exact v_ireturn O T rfl rfl (by decide) (by decide) dX10_of_11 (⟨zs_10, zs_11, zs_20, zs_21, zs_22, zs_25, zs_26, zs_27, zs_29, rfl, rfl⟩)
set_option maxRecDepth 100000 in
set_option maxHeartbeats 4000000 in
theorem sp_X10_of_2 {D : G} {mo : Nat} {ma : Nat → Nat} {c : CS} {c2 : CS} {tk : Int32} {vc : Nat} {ln : Nat} {rn : Nat} {zs_10 : Int32} {zs_11 : Int32} {zs_20 : Int32} {zs_21 : Int32} {zs_22 : Int32} {zs_25 : Int32} {zs_26 : Int32} {zs_27 : Int32} {zs_29 : Int32} {i : Nat} {zw : Int32} (hC : cOk c) (hi : i < c.men) (hw : ¬ isIx zw 7) : Sp D mX10_of 30 0 0 [.ref mo, .int (nI i), .int zw] [(mo, .inr (10, M1R ma (mZ c c2 tk vc ln rn zs_10 zs_11 zs_20 zs_21 zs_22 zs_25 zs_26 zs_27 zs_29))), ((ma 4), eI D 6 (nF c.kk)), ((ma 5), eI D 6 (nF c.vv)), ((ma 6), eI D 6 c.hd), ((ma 30), eI D 8 (nF c.crf)), ((ma 35), eI D 12 (nF c.bo))] (fun r w => ∃ zs2_10 : Int32, ∃ zs2_11 : Int32, ∃ zs2_20 : Int32, ∃ zs2_21 : Int32, ∃ zs2_22 : Int32, ∃ zs2_25 : Int32, ∃ zs2_26 : Int32, ∃ zs2_27 : Int32, ∃ zs2_29 : Int32, r = some (.int (-10001)) ∧ w = [(mo, .inr (10, M1R ma (mZ c c2 tk vc ln rn zs2_10 zs2_11 zs2_20 zs2_21 zs2_22 zs2_25 zs2_26 zs2_27 zs2_29))), ((ma 4), eI D 6 (nF c.kk)), ((ma 5), eI D 6 (nF c.vv)), ((ma 6), eI D 6 c.hd), ((ma 30), eI D 8 (nF c.crf)), ((ma 35), eI D 12 (nF c.bo))]) := by
  refine Sp.of (by decide) (Nat.le_of_ble_eq_true rfl) (fun X O T => ?_)
  refine v_eq (lv' := [(0, .ref mo), (1, .int (nI i)), (2, .int zw)]) rfl rfl rfl rfl ?_
  have z_m := hC.1
  have z_hp := hC.2.2.2.1
  have z_wk := hC.2.2.2.2.1
  have z_rl := hC.2.2.2.2.2.1
  have z_pg := hC.2.2.2.2.2.2.2.1
  refine v_aload_n O dX10_of_0 0 rfl ?_
  refine v_iload_n O dX10_of_1 1 rfl ?_
  refine v_cV (T := TX10) (ci := 10) (As := [.int (nI i)]) (wr := [((ma 4), eI D 6 (nF c.kk)), ((ma 5), eI D 6 (nF c.vv)), ((ma 6), eI D 6 c.hd), ((ma 30), eI D 8 (nF c.crf)), ((ma 35), eI D 12 (nF c.bo))]) (st := []) O cf_X10_281 rfl (sp_X10_isMan (mo := mo) (ma := ma) (c := c) (c2 := c2) (tk := tk) (vc := vc) (ln := ln) (rn := rn) (zs_10 := zs_10) (zs_11 := zs_11) (zs_20 := zs_20) (zs_21 := zs_21) (zs_22 := zs_22) (zs_25 := zs_25) (zs_26 := zs_26) (zs_27 := zs_27) (zs_29 := zs_29) (i := (nI i)) (hC.1)) dX10_of_2 rfl rfl 0 rfl [0] [1, 2, 3, 4, 5] (by decide) rfl rfl (by decide) (by decide) (by decide) (Nat.le_of_ble_eq_true rfl) (by decide) (by decide) (fun r_2 w_3 h_1 => ?_)
  obtain ⟨rfl, rfl⟩ := h_1
  refine v_eq (st' := [.int (b2i (isIx (nI i) c.men))]) (ws' := [((ma 4), eI D 6 (nF c.kk)), ((ma 5), eI D 6 (nF c.vv)), ((ma 6), eI D 6 c.hd), ((ma 30), eI D 8 (nF c.crf)), ((ma 35), eI D 12 (nF c.bo)), (mo, .inr (10, M1R ma (mZ c c2 tk vc ln rn zs_10 zs_11 zs_20 zs_21 zs_22 zs_25 zs_26 zs_27 zs_29)))]) rfl rfl rfl rfl ?_
  refine v_if_ne O 12 dX10_of_5 (by decide) (fun z1 => ?_) (fun z1 => ?_)
  · skip
    have z1 := b2i_1.mp z1
    refine v_iload_n O dX10_of_12 2 rfl ?_
    by_cases s_4 : zw = 0
    · skip
      refine v_top s_4 ?_
      refine v_tsIn (off := 43) O 56 dX10_of_13 (by decide) (by decide) (by decide) (by decide) ?_
      exact absurd ⟨0, by decide, s_4⟩ hw
    by_cases s_5 : zw = 1
    · skip
      refine v_top s_5 ?_
      refine v_tsIn (off := 50) O 63 dX10_of_13 (by decide) (by decide) (by decide) (by decide) ?_
      exact absurd ⟨1, by decide, s_5⟩ hw
    by_cases s_6 : zw = 2
    · skip
      refine v_top s_6 ?_
      refine v_tsIn (off := 57) O 70 dX10_of_13 (by decide) (by decide) (by decide) (by decide) ?_
      exact absurd ⟨2, by decide, s_6⟩ hw
    by_cases s_7 : zw = 3
    · skip
      refine v_top s_7 ?_
      refine v_tsIn (off := 64) O 77 dX10_of_13 (by decide) (by decide) (by decide) (by decide) ?_
      exact absurd ⟨3, by decide, s_7⟩ hw
    by_cases s_8 : zw = 4
    · skip
      refine v_top s_8 ?_
      refine v_tsIn (off := 70) O 83 dX10_of_13 (by decide) (by decide) (by decide) (by decide) ?_
      exact absurd ⟨4, by decide, s_8⟩ hw
    by_cases s_9 : zw = 5
    · skip
      refine v_top s_9 ?_
      refine v_tsIn (off := 84) O 97 dX10_of_13 (by decide) (by decide) (by decide) (by decide) ?_
      exact absurd ⟨5, by decide, s_9⟩ hw
    by_cases s_10 : zw = 6
    · skip
      refine v_top s_10 ?_
      refine v_tsIn (off := 99) O 112 dX10_of_13 (by decide) (by decide) (by decide) (by decide) ?_
      exact absurd ⟨6, by decide, s_10⟩ hw
    refine v_tsOut O 134 dX10_of_13 (ts_out (by decide) (by decide) (fun v h1 h2 => by rcases (show v = 0 ∨ v = 1 ∨ v = 2 ∨ v = 3 ∨ v = 4 ∨ v = 5 ∨ v = 6 by omega) with rfl | rfl | rfl | rfl | rfl | rfl | rfl <;> assumption)) (by decide) ?_
    refine v_sipush (v := -10001) O dX10_of_134 (by decide) ?_
    refine v_sub (ws' := [(mo, .inr (10, M1R ma (mZ c c2 tk vc ln rn zs_10 zs_11 zs_20 zs_21 zs_22 zs_25 zs_26 zs_27 zs_29))), ((ma 4), eI D 6 (nF c.kk)), ((ma 5), eI D 6 (nF c.vv)), ((ma 6), eI D 6 c.hd), ((ma 30), eI D 8 (nF c.crf)), ((ma 35), eI D 12 (nF c.bo))]) [5, 0, 1, 2, 3, 4] (by decide) rfl ?_
    exact v_ireturn O T rfl rfl (by decide) (by decide) dX10_of_137 (⟨zs_10, zs_11, zs_20, zs_21, zs_22, zs_25, zs_26, zs_27, zs_29, rfl, rfl⟩)
  · skip
    have z1 := b2i_0.mp z1
    exact absurd ((isIx_nI (by omega) (by omega)).mpr hi) z1
set_option maxRecDepth 100000 in
set_option maxHeartbeats 4000000 in
theorem sp_X10_of_3 {D : G} {mo : Nat} {ma : Nat → Nat} {c : CS} {c2 : CS} {tk : Int32} {vc : Nat} {ln : Nat} {rn : Nat} {zs_10 : Int32} {zs_11 : Int32} {zs_20 : Int32} {zs_21 : Int32} {zs_22 : Int32} {zs_25 : Int32} {zs_26 : Int32} {zs_27 : Int32} {zs_29 : Int32} {i : Nat} (hC : cOk c) (hi : i < c.men) : Sp D mX10_of 30 0 0 [.ref mo, .int (nI i), .int 0] [(mo, .inr (10, M1R ma (mZ c c2 tk vc ln rn zs_10 zs_11 zs_20 zs_21 zs_22 zs_25 zs_26 zs_27 zs_29))), ((ma 4), eI D 6 (nF c.kk)), ((ma 5), eI D 6 (nF c.vv)), ((ma 6), eI D 6 c.hd), ((ma 30), eI D 8 (nF c.crf)), ((ma 35), eI D 12 (nF c.bo))] (fun r w => ∃ zs2_10 : Int32, ∃ zs2_11 : Int32, ∃ zs2_20 : Int32, ∃ zs2_21 : Int32, ∃ zs2_22 : Int32, ∃ zs2_25 : Int32, ∃ zs2_26 : Int32, ∃ zs2_27 : Int32, ∃ zs2_29 : Int32, r = some (.int (nI (c.kk i))) ∧ w = [(mo, .inr (10, M1R ma (mZ c c2 tk vc ln rn zs2_10 zs2_11 zs2_20 zs2_21 zs2_22 zs2_25 zs2_26 zs2_27 zs2_29))), ((ma 4), eI D 6 (nF c.kk)), ((ma 5), eI D 6 (nF c.vv)), ((ma 6), eI D 6 c.hd), ((ma 30), eI D 8 (nF c.crf)), ((ma 35), eI D 12 (nF c.bo))]) := by
  refine Sp.of (by decide) (Nat.le_of_ble_eq_true rfl) (fun X O T => ?_)
  refine v_eq (lv' := [(0, .ref mo), (1, .int (nI i)), (2, .int 0)]) rfl rfl rfl rfl ?_
  have z_m := hC.1
  have z_hp := hC.2.2.2.1
  have z_wk := hC.2.2.2.2.1
  have z_rl := hC.2.2.2.2.2.1
  have z_pg := hC.2.2.2.2.2.2.2.1
  refine v_aload_n O dX10_of_0 0 rfl ?_
  refine v_iload_n O dX10_of_1 1 rfl ?_
  refine v_cV (T := TX10) (ci := 10) (As := [.int (nI i)]) (wr := [((ma 4), eI D 6 (nF c.kk)), ((ma 5), eI D 6 (nF c.vv)), ((ma 6), eI D 6 c.hd), ((ma 30), eI D 8 (nF c.crf)), ((ma 35), eI D 12 (nF c.bo))]) (st := []) O cf_X10_281 rfl (sp_X10_isMan (mo := mo) (ma := ma) (c := c) (c2 := c2) (tk := tk) (vc := vc) (ln := ln) (rn := rn) (zs_10 := zs_10) (zs_11 := zs_11) (zs_20 := zs_20) (zs_21 := zs_21) (zs_22 := zs_22) (zs_25 := zs_25) (zs_26 := zs_26) (zs_27 := zs_27) (zs_29 := zs_29) (i := (nI i)) (hC.1)) dX10_of_2 rfl rfl 0 rfl [0] [1, 2, 3, 4, 5] (by decide) rfl rfl (by decide) (by decide) (by decide) (Nat.le_of_ble_eq_true rfl) (by decide) (by decide) (fun r_2 w_3 h_1 => ?_)
  obtain ⟨rfl, rfl⟩ := h_1
  refine v_eq (st' := [.int (b2i (isIx (nI i) c.men))]) (ws' := [((ma 4), eI D 6 (nF c.kk)), ((ma 5), eI D 6 (nF c.vv)), ((ma 6), eI D 6 c.hd), ((ma 30), eI D 8 (nF c.crf)), ((ma 35), eI D 12 (nF c.bo)), (mo, .inr (10, M1R ma (mZ c c2 tk vc ln rn zs_10 zs_11 zs_20 zs_21 zs_22 zs_25 zs_26 zs_27 zs_29)))]) rfl rfl rfl rfl ?_
  refine v_if_ne O 12 dX10_of_5 (by decide) (fun z1 => ?_) (fun z1 => ?_)
  · skip
    have z1 := b2i_1.mp z1
    refine v_iload_n O dX10_of_12 2 rfl ?_
    refine v_tsIn (off := 43) O 56 dX10_of_13 (by decide) (by decide) (by decide) (by decide) ?_
    refine v_aload_n O dX10_of_56 0 rfl ?_
    refine gf_X10_22 (v := .ref (ma 4)) O rfl dX10_of_57 5 rfl rfl ?_
    refine v_iload_n O dX10_of_60 1 rfl ?_
    refine v_ialdk O dX10_of_61 0 rfl i rfl (by omega) (by decide) ?_
    refine v_top (y := nI (c.kk i)) rfl ?_
    refine v_sub (ws' := [(mo, .inr (10, M1R ma (mZ c c2 tk vc ln rn zs_10 zs_11 zs_20 zs_21 zs_22 zs_25 zs_26 zs_27 zs_29))), ((ma 4), eI D 6 (nF c.kk)), ((ma 5), eI D 6 (nF c.vv)), ((ma 6), eI D 6 c.hd), ((ma 30), eI D 8 (nF c.crf)), ((ma 35), eI D 12 (nF c.bo))]) [5, 0, 1, 2, 3, 4] (by decide) rfl ?_
    exact v_ireturn O T rfl rfl (by decide) (by decide) dX10_of_62 (⟨zs_10, zs_11, zs_20, zs_21, zs_22, zs_25, zs_26, zs_27, zs_29, rfl, rfl⟩)
  · skip
    have z1 := b2i_0.mp z1
    exact absurd ((isIx_nI (by omega) (by omega)).mpr hi) z1
set_option maxRecDepth 100000 in
set_option maxHeartbeats 4000000 in
theorem sp_X10_of_4 {D : G} {mo : Nat} {ma : Nat → Nat} {c : CS} {c2 : CS} {tk : Int32} {vc : Nat} {ln : Nat} {rn : Nat} {zs_10 : Int32} {zs_11 : Int32} {zs_20 : Int32} {zs_21 : Int32} {zs_22 : Int32} {zs_25 : Int32} {zs_26 : Int32} {zs_27 : Int32} {zs_29 : Int32} {i : Nat} (hC : cOk c) (hi : i < c.men) : Sp D mX10_of 30 0 0 [.ref mo, .int (nI i), .int 1] [(mo, .inr (10, M1R ma (mZ c c2 tk vc ln rn zs_10 zs_11 zs_20 zs_21 zs_22 zs_25 zs_26 zs_27 zs_29))), ((ma 4), eI D 6 (nF c.kk)), ((ma 5), eI D 6 (nF c.vv)), ((ma 6), eI D 6 c.hd), ((ma 30), eI D 8 (nF c.crf)), ((ma 35), eI D 12 (nF c.bo))] (fun r w => ∃ zs2_10 : Int32, ∃ zs2_11 : Int32, ∃ zs2_20 : Int32, ∃ zs2_21 : Int32, ∃ zs2_22 : Int32, ∃ zs2_25 : Int32, ∃ zs2_26 : Int32, ∃ zs2_27 : Int32, ∃ zs2_29 : Int32, r = some (.int (nI (c.vv i))) ∧ w = [(mo, .inr (10, M1R ma (mZ c c2 tk vc ln rn zs2_10 zs2_11 zs2_20 zs2_21 zs2_22 zs2_25 zs2_26 zs2_27 zs2_29))), ((ma 4), eI D 6 (nF c.kk)), ((ma 5), eI D 6 (nF c.vv)), ((ma 6), eI D 6 c.hd), ((ma 30), eI D 8 (nF c.crf)), ((ma 35), eI D 12 (nF c.bo))]) := by
  refine Sp.of (by decide) (Nat.le_of_ble_eq_true rfl) (fun X O T => ?_)
  refine v_eq (lv' := [(0, .ref mo), (1, .int (nI i)), (2, .int 1)]) rfl rfl rfl rfl ?_
  have z_m := hC.1
  have z_hp := hC.2.2.2.1
  have z_wk := hC.2.2.2.2.1
  have z_rl := hC.2.2.2.2.2.1
  have z_pg := hC.2.2.2.2.2.2.2.1
  refine v_aload_n O dX10_of_0 0 rfl ?_
  refine v_iload_n O dX10_of_1 1 rfl ?_
  refine v_cV (T := TX10) (ci := 10) (As := [.int (nI i)]) (wr := [((ma 4), eI D 6 (nF c.kk)), ((ma 5), eI D 6 (nF c.vv)), ((ma 6), eI D 6 c.hd), ((ma 30), eI D 8 (nF c.crf)), ((ma 35), eI D 12 (nF c.bo))]) (st := []) O cf_X10_281 rfl (sp_X10_isMan (mo := mo) (ma := ma) (c := c) (c2 := c2) (tk := tk) (vc := vc) (ln := ln) (rn := rn) (zs_10 := zs_10) (zs_11 := zs_11) (zs_20 := zs_20) (zs_21 := zs_21) (zs_22 := zs_22) (zs_25 := zs_25) (zs_26 := zs_26) (zs_27 := zs_27) (zs_29 := zs_29) (i := (nI i)) (hC.1)) dX10_of_2 rfl rfl 0 rfl [0] [1, 2, 3, 4, 5] (by decide) rfl rfl (by decide) (by decide) (by decide) (Nat.le_of_ble_eq_true rfl) (by decide) (by decide) (fun r_2 w_3 h_1 => ?_)
  obtain ⟨rfl, rfl⟩ := h_1
  refine v_eq (st' := [.int (b2i (isIx (nI i) c.men))]) (ws' := [((ma 4), eI D 6 (nF c.kk)), ((ma 5), eI D 6 (nF c.vv)), ((ma 6), eI D 6 c.hd), ((ma 30), eI D 8 (nF c.crf)), ((ma 35), eI D 12 (nF c.bo)), (mo, .inr (10, M1R ma (mZ c c2 tk vc ln rn zs_10 zs_11 zs_20 zs_21 zs_22 zs_25 zs_26 zs_27 zs_29)))]) rfl rfl rfl rfl ?_
  refine v_if_ne O 12 dX10_of_5 (by decide) (fun z1 => ?_) (fun z1 => ?_)
  · skip
    have z1 := b2i_1.mp z1
    refine v_iload_n O dX10_of_12 2 rfl ?_
    refine v_tsIn (off := 50) O 63 dX10_of_13 (by decide) (by decide) (by decide) (by decide) ?_
    refine v_aload_n O dX10_of_63 0 rfl ?_
    refine gf_X10_26 (v := .ref (ma 5)) O rfl dX10_of_64 5 rfl rfl ?_
    refine v_iload_n O dX10_of_67 1 rfl ?_
    refine v_ialdk O dX10_of_68 1 rfl i rfl (by omega) (by decide) ?_
    refine v_top (y := nI (c.vv i)) rfl ?_
    refine v_sub (ws' := [(mo, .inr (10, M1R ma (mZ c c2 tk vc ln rn zs_10 zs_11 zs_20 zs_21 zs_22 zs_25 zs_26 zs_27 zs_29))), ((ma 4), eI D 6 (nF c.kk)), ((ma 5), eI D 6 (nF c.vv)), ((ma 6), eI D 6 c.hd), ((ma 30), eI D 8 (nF c.crf)), ((ma 35), eI D 12 (nF c.bo))]) [5, 0, 1, 2, 3, 4] (by decide) rfl ?_
    exact v_ireturn O T rfl rfl (by decide) (by decide) dX10_of_69 (⟨zs_10, zs_11, zs_20, zs_21, zs_22, zs_25, zs_26, zs_27, zs_29, rfl, rfl⟩)
  · skip
    have z1 := b2i_0.mp z1
    exact absurd ((isIx_nI (by omega) (by omega)).mpr hi) z1
set_option maxRecDepth 100000 in
set_option maxHeartbeats 4000000 in
theorem sp_X10_of_5 {D : G} {mo : Nat} {ma : Nat → Nat} {c : CS} {c2 : CS} {tk : Int32} {vc : Nat} {ln : Nat} {rn : Nat} {zs_10 : Int32} {zs_11 : Int32} {zs_20 : Int32} {zs_21 : Int32} {zs_22 : Int32} {zs_25 : Int32} {zs_26 : Int32} {zs_27 : Int32} {zs_29 : Int32} {i : Nat} (hC : cOk c) (hi : i < c.men) : Sp D mX10_of 30 0 0 [.ref mo, .int (nI i), .int 2] [(mo, .inr (10, M1R ma (mZ c c2 tk vc ln rn zs_10 zs_11 zs_20 zs_21 zs_22 zs_25 zs_26 zs_27 zs_29))), ((ma 4), eI D 6 (nF c.kk)), ((ma 5), eI D 6 (nF c.vv)), ((ma 6), eI D 6 c.hd), ((ma 30), eI D 8 (nF c.crf)), ((ma 35), eI D 12 (nF c.bo))] (fun r w => ∃ zs2_10 : Int32, ∃ zs2_11 : Int32, ∃ zs2_20 : Int32, ∃ zs2_21 : Int32, ∃ zs2_22 : Int32, ∃ zs2_25 : Int32, ∃ zs2_26 : Int32, ∃ zs2_27 : Int32, ∃ zs2_29 : Int32, r = some (.int (c.hd i)) ∧ w = [(mo, .inr (10, M1R ma (mZ c c2 tk vc ln rn zs2_10 zs2_11 zs2_20 zs2_21 zs2_22 zs2_25 zs2_26 zs2_27 zs2_29))), ((ma 4), eI D 6 (nF c.kk)), ((ma 5), eI D 6 (nF c.vv)), ((ma 6), eI D 6 c.hd), ((ma 30), eI D 8 (nF c.crf)), ((ma 35), eI D 12 (nF c.bo))]) := by
  refine Sp.of (by decide) (Nat.le_of_ble_eq_true rfl) (fun X O T => ?_)
  refine v_eq (lv' := [(0, .ref mo), (1, .int (nI i)), (2, .int 2)]) rfl rfl rfl rfl ?_
  have z_m := hC.1
  have z_hp := hC.2.2.2.1
  have z_wk := hC.2.2.2.2.1
  have z_rl := hC.2.2.2.2.2.1
  have z_pg := hC.2.2.2.2.2.2.2.1
  refine v_aload_n O dX10_of_0 0 rfl ?_
  refine v_iload_n O dX10_of_1 1 rfl ?_
  refine v_cV (T := TX10) (ci := 10) (As := [.int (nI i)]) (wr := [((ma 4), eI D 6 (nF c.kk)), ((ma 5), eI D 6 (nF c.vv)), ((ma 6), eI D 6 c.hd), ((ma 30), eI D 8 (nF c.crf)), ((ma 35), eI D 12 (nF c.bo))]) (st := []) O cf_X10_281 rfl (sp_X10_isMan (mo := mo) (ma := ma) (c := c) (c2 := c2) (tk := tk) (vc := vc) (ln := ln) (rn := rn) (zs_10 := zs_10) (zs_11 := zs_11) (zs_20 := zs_20) (zs_21 := zs_21) (zs_22 := zs_22) (zs_25 := zs_25) (zs_26 := zs_26) (zs_27 := zs_27) (zs_29 := zs_29) (i := (nI i)) (hC.1)) dX10_of_2 rfl rfl 0 rfl [0] [1, 2, 3, 4, 5] (by decide) rfl rfl (by decide) (by decide) (by decide) (Nat.le_of_ble_eq_true rfl) (by decide) (by decide) (fun r_2 w_3 h_1 => ?_)
  obtain ⟨rfl, rfl⟩ := h_1
  refine v_eq (st' := [.int (b2i (isIx (nI i) c.men))]) (ws' := [((ma 4), eI D 6 (nF c.kk)), ((ma 5), eI D 6 (nF c.vv)), ((ma 6), eI D 6 c.hd), ((ma 30), eI D 8 (nF c.crf)), ((ma 35), eI D 12 (nF c.bo)), (mo, .inr (10, M1R ma (mZ c c2 tk vc ln rn zs_10 zs_11 zs_20 zs_21 zs_22 zs_25 zs_26 zs_27 zs_29)))]) rfl rfl rfl rfl ?_
  refine v_if_ne O 12 dX10_of_5 (by decide) (fun z1 => ?_) (fun z1 => ?_)
  · skip
    have z1 := b2i_1.mp z1
    refine v_iload_n O dX10_of_12 2 rfl ?_
    refine v_tsIn (off := 57) O 70 dX10_of_13 (by decide) (by decide) (by decide) (by decide) ?_
    refine v_aload_n O dX10_of_70 0 rfl ?_
    refine gf_X10_29 (v := .ref (ma 6)) O rfl dX10_of_71 5 rfl rfl ?_
    refine v_iload_n O dX10_of_74 1 rfl ?_
    refine v_ialdk O dX10_of_75 2 rfl i rfl (by omega) (by decide) ?_
    refine v_sub (ws' := [(mo, .inr (10, M1R ma (mZ c c2 tk vc ln rn zs_10 zs_11 zs_20 zs_21 zs_22 zs_25 zs_26 zs_27 zs_29))), ((ma 4), eI D 6 (nF c.kk)), ((ma 5), eI D 6 (nF c.vv)), ((ma 6), eI D 6 c.hd), ((ma 30), eI D 8 (nF c.crf)), ((ma 35), eI D 12 (nF c.bo))]) [5, 0, 1, 2, 3, 4] (by decide) rfl ?_
    exact v_ireturn O T rfl rfl (by decide) (by decide) dX10_of_76 (⟨zs_10, zs_11, zs_20, zs_21, zs_22, zs_25, zs_26, zs_27, zs_29, rfl, rfl⟩)
  · skip
    have z1 := b2i_0.mp z1
    exact absurd ((isIx_nI (by omega) (by omega)).mpr hi) z1
set_option maxRecDepth 100000 in
set_option maxHeartbeats 4000000 in
theorem sp_X10_wake_1 {D : G} {mo : Nat} {ma : Nat → Nat} {c : CS} {c2 : CS} {tk : Int32} {vc : Nat} {ln : Nat} {rn : Nat} {zs_10 : Int32} {zs_11 : Int32} {zs_20 : Int32} {zs_21 : Int32} {zs_22 : Int32} {zs_25 : Int32} {zs_26 : Int32} {zs_27 : Int32} {zs_29 : Int32} {i : Int32} (hC : cOk c) (hi : ¬ isIx i c.men) : Sp D mX10_wake 30 0 0 [.ref mo, .int i] [(mo, .inr (10, M1R ma (mZ c c2 tk vc ln rn zs_10 zs_11 zs_20 zs_21 zs_22 zs_25 zs_26 zs_27 zs_29))), ((ma 4), eI D 6 (nF c.kk)), ((ma 5), eI D 6 (nF c.vv)), ((ma 6), eI D 6 c.hd), ((ma 30), eI D 8 (nF c.crf)), ((ma 35), eI D 12 (nF c.bo))] (fun r w => ∃ zs2_10 : Int32, ∃ zs2_11 : Int32, ∃ zs2_20 : Int32, ∃ zs2_21 : Int32, ∃ zs2_22 : Int32, ∃ zs2_25 : Int32, ∃ zs2_26 : Int32, ∃ zs2_27 : Int32, ∃ zs2_29 : Int32, r = some (.int (-1)) ∧ w = [(mo, .inr (10, M1R ma (mZ c c2 tk vc ln rn zs2_10 zs2_11 zs2_20 zs2_21 zs2_22 zs2_25 zs2_26 zs2_27 zs2_29))), ((ma 4), eI D 6 (nF c.kk)), ((ma 5), eI D 6 (nF c.vv)), ((ma 6), eI D 6 c.hd), ((ma 30), eI D 8 (nF c.crf)), ((ma 35), eI D 12 (nF c.bo))]) := by
  refine Sp.of (by decide) (Nat.le_of_ble_eq_true rfl) (fun X O T => ?_)
  refine v_eq (lv' := [(0, .ref mo), (1, .int i)]) rfl rfl rfl rfl ?_
  have z_m := hC.1
  have z_hp := hC.2.2.2.1
  have z_wk := hC.2.2.2.2.1
  have z_rl := hC.2.2.2.2.2.1
  have z_pg := hC.2.2.2.2.2.2.2.1
  refine v_aload_n O dX10_wake_0 0 rfl ?_
  refine v_iload_n O dX10_wake_1 1 rfl ?_
  refine v_cV (T := TX10) (ci := 10) (As := [.int i]) (wr := [((ma 4), eI D 6 (nF c.kk)), ((ma 5), eI D 6 (nF c.vv)), ((ma 6), eI D 6 c.hd), ((ma 30), eI D 8 (nF c.crf)), ((ma 35), eI D 12 (nF c.bo))]) (st := []) O cf_X10_281 rfl (sp_X10_isMan (mo := mo) (ma := ma) (c := c) (c2 := c2) (tk := tk) (vc := vc) (ln := ln) (rn := rn) (zs_10 := zs_10) (zs_11 := zs_11) (zs_20 := zs_20) (zs_21 := zs_21) (zs_22 := zs_22) (zs_25 := zs_25) (zs_26 := zs_26) (zs_27 := zs_27) (zs_29 := zs_29) (i := i) (hC.1)) dX10_wake_2 rfl rfl 0 rfl [0] [1, 2, 3, 4, 5] (by decide) rfl rfl (by decide) (by decide) (by decide) (Nat.le_of_ble_eq_true rfl) (by decide) (by decide) (fun r_2 w_3 h_1 => ?_)
  obtain ⟨rfl, rfl⟩ := h_1
  refine v_eq (st' := [.int (b2i (isIx i c.men))]) (ws' := [((ma 4), eI D 6 (nF c.kk)), ((ma 5), eI D 6 (nF c.vv)), ((ma 6), eI D 6 c.hd), ((ma 30), eI D 8 (nF c.crf)), ((ma 35), eI D 12 (nF c.bo)), (mo, .inr (10, M1R ma (mZ c c2 tk vc ln rn zs_10 zs_11 zs_20 zs_21 zs_22 zs_25 zs_26 zs_27 zs_29)))]) rfl rfl rfl rfl ?_
  refine v_if_ne O 10 dX10_wake_5 (by decide) (fun z1 => ?_) (fun z1 => ?_)
  · skip
    have z1 := b2i_1.mp z1
    exact absurd z1 hi
  · skip
    have z1 := b2i_0.mp z1
    refine v_iconst (v := -1) O dX10_wake_8 (by decide) ?_
    refine v_sub (ws' := [(mo, .inr (10, M1R ma (mZ c c2 tk vc ln rn zs_10 zs_11 zs_20 zs_21 zs_22 zs_25 zs_26 zs_27 zs_29))), ((ma 4), eI D 6 (nF c.kk)), ((ma 5), eI D 6 (nF c.vv)), ((ma 6), eI D 6 c.hd), ((ma 30), eI D 8 (nF c.crf)), ((ma 35), eI D 12 (nF c.bo))]) [5, 0, 1, 2, 3, 4] (by decide) rfl ?_
    exact v_ireturn O T rfl rfl (by decide) (by decide) dX10_wake_9 (⟨zs_10, zs_11, zs_20, zs_21, zs_22, zs_25, zs_26, zs_27, zs_29, rfl, rfl⟩)
set_option maxRecDepth 100000 in
set_option maxHeartbeats 4000000 in
theorem sp_X10_wake_2 {D : G} {mo : Nat} {ma : Nat → Nat} {c : CS} {c2 : CS} {tk : Int32} {vc : Nat} {ln : Nat} {rn : Nat} {zs_10 : Int32} {zs_11 : Int32} {zs_20 : Int32} {zs_21 : Int32} {zs_22 : Int32} {zs_25 : Int32} {zs_26 : Int32} {zs_27 : Int32} {zs_29 : Int32} {i : Nat} (hC : cOk c) (hi : i < c.men) (hw : c.wak = 9999) : Sp D mX10_wake 30 0 0 [.ref mo, .int (nI i)] [(mo, .inr (10, M1R ma (mZ c c2 tk vc ln rn zs_10 zs_11 zs_20 zs_21 zs_22 zs_25 zs_26 zs_27 zs_29))), ((ma 4), eI D 6 (nF c.kk)), ((ma 5), eI D 6 (nF c.vv)), ((ma 6), eI D 6 c.hd), ((ma 30), eI D 8 (nF c.crf)), ((ma 35), eI D 12 (nF c.bo))] (fun r w => ∃ zs2_10 : Int32, ∃ zs2_11 : Int32, ∃ zs2_20 : Int32, ∃ zs2_21 : Int32, ∃ zs2_22 : Int32, ∃ zs2_25 : Int32, ∃ zs2_26 : Int32, ∃ zs2_27 : Int32, ∃ zs2_29 : Int32, r = some (.int (-3)) ∧ w = [(mo, .inr (10, M1R ma (mZ c c2 tk vc ln rn zs2_10 zs2_11 zs2_20 zs2_21 zs2_22 zs2_25 zs2_26 zs2_27 zs2_29))), ((ma 4), eI D 6 (nF c.kk)), ((ma 5), eI D 6 (nF c.vv)), ((ma 6), eI D 6 c.hd), ((ma 30), eI D 8 (nF c.crf)), ((ma 35), eI D 12 (nF c.bo))]) := by
  refine Sp.of (by decide) (Nat.le_of_ble_eq_true rfl) (fun X O T => ?_)
  refine v_eq (lv' := [(0, .ref mo), (1, .int (nI i))]) rfl rfl rfl rfl ?_
  have z_m := hC.1
  have z_hp := hC.2.2.2.1
  have z_wk := hC.2.2.2.2.1
  have z_rl := hC.2.2.2.2.2.1
  have z_pg := hC.2.2.2.2.2.2.2.1
  refine v_aload_n O dX10_wake_0 0 rfl ?_
  refine v_iload_n O dX10_wake_1 1 rfl ?_
  refine v_cV (T := TX10) (ci := 10) (As := [.int (nI i)]) (wr := [((ma 4), eI D 6 (nF c.kk)), ((ma 5), eI D 6 (nF c.vv)), ((ma 6), eI D 6 c.hd), ((ma 30), eI D 8 (nF c.crf)), ((ma 35), eI D 12 (nF c.bo))]) (st := []) O cf_X10_281 rfl (sp_X10_isMan (mo := mo) (ma := ma) (c := c) (c2 := c2) (tk := tk) (vc := vc) (ln := ln) (rn := rn) (zs_10 := zs_10) (zs_11 := zs_11) (zs_20 := zs_20) (zs_21 := zs_21) (zs_22 := zs_22) (zs_25 := zs_25) (zs_26 := zs_26) (zs_27 := zs_27) (zs_29 := zs_29) (i := (nI i)) (hC.1)) dX10_wake_2 rfl rfl 0 rfl [0] [1, 2, 3, 4, 5] (by decide) rfl rfl (by decide) (by decide) (by decide) (Nat.le_of_ble_eq_true rfl) (by decide) (by decide) (fun r_2 w_3 h_1 => ?_)
  obtain ⟨rfl, rfl⟩ := h_1
  refine v_eq (st' := [.int (b2i (isIx (nI i) c.men))]) (ws' := [((ma 4), eI D 6 (nF c.kk)), ((ma 5), eI D 6 (nF c.vv)), ((ma 6), eI D 6 c.hd), ((ma 30), eI D 8 (nF c.crf)), ((ma 35), eI D 12 (nF c.bo)), (mo, .inr (10, M1R ma (mZ c c2 tk vc ln rn zs_10 zs_11 zs_20 zs_21 zs_22 zs_25 zs_26 zs_27 zs_29)))]) rfl rfl rfl rfl ?_
  refine v_if_ne O 10 dX10_wake_5 (by decide) (fun z1 => ?_) (fun z1 => ?_)
  · skip
    have z1 := b2i_1.mp z1
    refine v_aload_n O dX10_wake_10 0 rfl ?_
    refine v_aload_n O dX10_wake_11 0 rfl ?_
    refine gf_X10_13 (v := .int (nI c.heap)) O rfl dX10_wake_12 5 rfl rfl ?_
    refine pf_X10_87 (fs' := M1R ma (mZ c c2 tk vc ln rn zs_10 zs_11 zs_20 zs_21 zs_22 (nI c.heap) zs_26 zs_27 zs_29)) (ws' := [((ma 4), eI D 6 (nF c.kk)), ((ma 5), eI D 6 (nF c.vv)), ((ma 6), eI D 6 c.hd), ((ma 30), eI D 8 (nF c.crf)), ((ma 35), eI D 12 (nF c.bo)), (mo, .inr (10, M1R ma (mZ c c2 tk vc ln rn zs_10 zs_11 zs_20 zs_21 zs_22 (nI c.heap) zs_26 zs_27 zs_29)))]) O rfl dX10_wake_15 5 rfl (Nat.le_of_ble_eq_true rfl) rfl rfl ?_
    refine v_aload_n O dX10_wake_18 0 rfl ?_
    refine gf_X10_19 (v := .int (nI c.wak)) O rfl dX10_wake_19 5 rfl rfl ?_
    refine v_sipush (v := 9999) O dX10_wake_22 (by decide) ?_
    refine v_icmp_eq O 40 dX10_wake_25 (by decide) (fun z2 => ?_) (fun z2 => ?_)
    · skip
      have z2 := (c_eq (x := nI c.wak) (y := 9999) (a := c.wak) (b := 9999) rfl rfl (by omega) (by omega)).mp z2
      refine v_bipush (v := -3) O dX10_wake_40 (by decide) ?_
      refine v_sub (ws' := [(mo, .inr (10, M1R ma (mZ c c2 tk vc ln rn zs_10 zs_11 zs_20 zs_21 zs_22 (nI c.heap) zs_26 zs_27 zs_29))), ((ma 4), eI D 6 (nF c.kk)), ((ma 5), eI D 6 (nF c.vv)), ((ma 6), eI D 6 c.hd), ((ma 30), eI D 8 (nF c.crf)), ((ma 35), eI D 12 (nF c.bo))]) [5, 0, 1, 2, 3, 4] (by decide) rfl ?_
      exact v_ireturn O T rfl rfl (by decide) (by decide) dX10_wake_42 (⟨zs_10, zs_11, zs_20, zs_21, zs_22, nI c.heap, zs_26, zs_27, zs_29, rfl, rfl⟩)
    · skip
      have z2 := (not_congr (c_eq (x := nI c.wak) (y := 9999) (a := c.wak) (b := 9999) rfl rfl (by omega) (by omega))).mp z2
      exact absurd z2 (by omega)
  · skip
    have z1 := b2i_0.mp z1
    exact absurd ((isIx_nI (by omega) (by omega)).mpr hi) z1
