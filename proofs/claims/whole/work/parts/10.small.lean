-- small methods of the class
set_option maxRecDepth 100000 in
set_option maxHeartbeats 4000000 in
theorem sp_X9_isMan {D : G} {o : Nat} {man : Int32} {ca : Nat} {im : Nat} {it : Int32} {tx : Nat} {ba : Nat} {vs : Nat} {vc : Int32} {nw : Nat} {nt : Nat} {ro : Nat} {ln : Nat} {bo : Nat} {tp : Nat} {men : Nat} {ck : Nat} {cv : Nat} {chd : Nat} {heap : Int32} {dogs : Int32} {wak : Int32} {rl : Nat} {cr : Nat} {pg : Nat} {cb : Nat} {held : Int32} (hm : men ≤ 6) : Sp D mX9_isMan 0 0 0 [.ref o, .int man] [(o, .inr (9, [.ref ca, .ref im, .int it, .ref tx, .ref ba, .ref vs, .int vc, .ref nw, .ref nt, .ref ro, .ref ln, .ref bo, .ref tp])), (ca, .inr (1, [.int (nI men), .ref ck, .ref cv, .ref chd, .int heap, .int dogs, .int wak, .int (nI rl), .ref cr, .int (nI pg), .ref cb, .int held]))] (fun r w => r = some (.int (b2i (isIx man men))) ∧ w = [(o, .inr (9, [.ref ca, .ref im, .int it, .ref tx, .ref ba, .ref vs, .int vc, .ref nw, .ref nt, .ref ro, .ref ln, .ref bo, .ref tp])), (ca, .inr (1, [.int (nI men), .ref ck, .ref cv, .ref chd, .int heap, .int dogs, .int wak, .int (nI rl), .ref cr, .int (nI pg), .ref cb, .int held]))]) := by
  refine Sp.of (by decide) (Nat.le_of_ble_eq_true rfl) (fun X O T => ?_)
  refine v_eq (lv' := [(0, .ref o), (1, .int man)]) rfl rfl rfl rfl ?_
  refine v_iload_n O dX9_isMan_0 1 rfl ?_
  refine v_if_lt O 25 dX9_isMan_1 (by decide) (fun c1 => ?_) (fun c1 => ?_)
  · skip
    refine v_iconst (v := 0) O dX9_isMan_25 (by decide) ?_
    exact v_ireturn O T rfl rfl (by decide) (by decide) dX9_isMan_26 (⟨by rw [b2i_f (by first | exact isIx_neg (by omega) c1 | exact isIx_big (by omega) (Nat.le_refl _) c2 | exact isIx_big (m := 6) (by omega) (by omega) c3)], rfl⟩)
  · skip
    refine v_iload_n O dX9_isMan_4 1 rfl ?_
    refine v_aload_n O dX9_isMan_5 0 rfl ?_
    refine gf_X9_12 O rfl dX9_isMan_6 0 rfl rfl ?_
    refine gf_X9_89 O rfl dX9_isMan_9 1 rfl rfl ?_
    refine v_icmp_ge O 25 dX9_isMan_12 (by decide) (fun c2 => ?_) (fun c2 => ?_)
    · skip
      refine v_iconst (v := 0) O dX9_isMan_25 (by decide) ?_
      exact v_ireturn O T rfl rfl (by decide) (by decide) dX9_isMan_26 (⟨by rw [b2i_f (by first | exact isIx_neg (by omega) c1 | exact isIx_big (by omega) (Nat.le_refl _) c2 | exact isIx_big (m := 6) (by omega) (by omega) c3)], rfl⟩)
    · skip
      refine v_iload_n O dX9_isMan_15 1 rfl ?_
      refine v_bipush (v := 6) O dX9_isMan_16 (by decide) ?_
      refine v_icmp_ge O 25 dX9_isMan_18 (by decide) (fun c3 => ?_) (fun c3 => ?_)
      · skip
        refine v_iconst (v := 0) O dX9_isMan_25 (by decide) ?_
        exact v_ireturn O T rfl rfl (by decide) (by decide) dX9_isMan_26 (⟨by rw [b2i_f (by first | exact isIx_neg (by omega) c1 | exact isIx_big (by omega) (Nat.le_refl _) c2 | exact isIx_big (m := 6) (by omega) (by omega) c3)], rfl⟩)
      · skip
        refine v_iconst (v := 1) O dX9_isMan_21 (by decide) ?_
        refine v_goto O 26 dX9_isMan_22 (by decide) ?_
        exact v_ireturn O T rfl rfl (by decide) (by decide) dX9_isMan_26 (⟨by rw [b2i_t (isIx_t (by omega) c1 c2)], rfl⟩)
set_option maxRecDepth 100000 in
set_option maxHeartbeats 4000000 in
theorem sp_X9_isHeap {D : G} {n : Int32} : Sp D mX9_isHeap 0 0 0 [.int n] [] (fun r w => r = some (.int (b2i (isIx n 1000000))) ∧ w = []) := by
  refine Sp.of (by decide) (Nat.le_of_ble_eq_true rfl) (fun X O T => ?_)
  refine v_eq (lv' := [(0, .int n)]) rfl rfl rfl rfl ?_
  refine v_iload_n O dX9_isHeap_0 0 rfl ?_
  refine v_if_lt O 15 dX9_isHeap_1 (by decide) (fun c1 => ?_) (fun c1 => ?_)
  · skip
    refine v_iconst (v := 0) O dX9_isHeap_15 (by decide) ?_
    exact v_ireturn O T rfl rfl (by decide) (by decide) dX9_isHeap_16 (⟨by rw [b2i_f (by first | exact isIx_neg (by omega) c1 | exact isIx_gt (m := 999999) (by omega) (by omega) c2)], rfl⟩)
  · skip
    refine v_iload_n O dX9_isHeap_4 0 rfl ?_
    refine v_ldcw (v := 999999) O tw_522 dX9_isHeap_5 ?_
    refine v_icmp_gt O 15 dX9_isHeap_8 (by decide) (fun c2 => ?_) (fun c2 => ?_)
    · skip
      refine v_iconst (v := 0) O dX9_isHeap_15 (by decide) ?_
      exact v_ireturn O T rfl rfl (by decide) (by decide) dX9_isHeap_16 (⟨by rw [b2i_f (by first | exact isIx_neg (by omega) c1 | exact isIx_gt (m := 999999) (by omega) (by omega) c2)], rfl⟩)
    · skip
      refine v_iconst (v := 1) O dX9_isHeap_11 (by decide) ?_
      refine v_goto O 16 dX9_isHeap_12 (by decide) ?_
      exact v_ireturn O T rfl rfl (by decide) (by decide) dX9_isHeap_16 (⟨by rw [b2i_t (isIx_t' (m := 999999) (by omega) rfl c1 c2)], rfl⟩)
set_option maxRecDepth 100000 in
set_option maxHeartbeats 4000000 in
theorem sp_X9_heap {D : G} {o : Nat} {n : Int32} {ca : Nat} {im : Nat} {it : Int32} {tx : Nat} {ba : Nat} {vs : Nat} {vc : Int32} {nw : Nat} {nt : Nat} {ro : Nat} {ln : Nat} {bo : Nat} {tp : Nat} {men : Nat} {ck : Nat} {cv : Nat} {chd : Nat} {heap : Int32} {dogs : Int32} {wak : Int32} {rl : Nat} {cr : Nat} {pg : Nat} {cb : Nat} {held : Int32} : Sp D mX9_heap 1 0 0 [.ref o, .int n] [(o, .inr (9, [.ref ca, .ref im, .int it, .ref tx, .ref ba, .ref vs, .int vc, .ref nw, .ref nt, .ref ro, .ref ln, .ref bo, .ref tp])), (ca, .inr (1, [.int (nI men), .ref ck, .ref cv, .ref chd, .int heap, .int dogs, .int wak, .int (nI rl), .ref cr, .int (nI pg), .ref cb, .int held]))] (fun r w => r = some (.int (@ite Int32 (isIx n 1000000) (Classical.propDecidable _) heap (-2))) ∧ w = [(o, .inr (9, [.ref ca, .ref im, .int it, .ref tx, .ref ba, .ref vs, .int vc, .ref nw, .ref nt, .ref ro, .ref ln, .ref bo, .ref tp])), (ca, .inr (1, [.int (nI men), .ref ck, .ref cv, .ref chd, .int (@ite Int32 (isIx n 1000000) (Classical.propDecidable _) n heap), .int dogs, .int wak, .int (nI rl), .ref cr, .int (nI pg), .ref cb, .int held]))]) := by
  refine Sp.of (by decide) (Nat.le_of_ble_eq_true rfl) (fun X O T => ?_)
  refine v_eq (lv' := [(0, .ref o), (1, .int n)]) rfl rfl rfl rfl ?_
  refine v_iload_n O dX9_heap_0 1 rfl ?_
  refine v_cS (As := [.int n]) (wr := [(o, .inr (9, [.ref ca, .ref im, .int it, .ref tx, .ref ba, .ref vs, .int vc, .ref nw, .ref nt, .ref ro, .ref ln, .ref bo, .ref tp])), (ca, .inr (1, [.int (nI men), .ref ck, .ref cv, .ref chd, .int heap, .int dogs, .int wak, .int (nI rl), .ref cr, .int (nI pg), .ref cb, .int held]))]) (st := []) O cf_X9_128 (sp_X9_isHeap (n := n) ) dX9_heap_1 rfl rfl [] [0, 1] (by decide) rfl rfl (by decide) (by decide) (by decide) (Nat.le_of_ble_eq_true rfl) (by decide) (by decide) (fun r_2 w_3 h_1 => ?_)
  obtain ⟨rfl, rfl⟩ := h_1
  refine v_eq (st' := [.int (b2i (isIx n 1000000))]) (ws' := [(o, .inr (9, [.ref ca, .ref im, .int it, .ref tx, .ref ba, .ref vs, .int vc, .ref nw, .ref nt, .ref ro, .ref ln, .ref bo, .ref tp])), (ca, .inr (1, [.int (nI men), .ref ck, .ref cv, .ref chd, .int heap, .int dogs, .int wak, .int (nI rl), .ref cr, .int (nI pg), .ref cb, .int held]))]) rfl rfl rfl rfl ?_
  refine v_if_ne O 10 dX9_heap_4 (by decide) (fun c1 => ?_) (fun c1 => ?_)
  · skip
    have c1 := b2i_1.mp c1
    refine v_aload_n O dX9_heap_10 0 rfl ?_
    refine gf_X9_12 O rfl dX9_heap_11 0 rfl rfl ?_
    refine gf_X9_114 O rfl dX9_heap_14 1 rfl rfl ?_
    refine v_istore_n (lv' := [(0, .ref o), (1, .int n), (2, .int heap)]) O dX9_heap_17 (by decide) rfl ?_
    refine v_aload_n O dX9_heap_18 0 rfl ?_
    refine gf_X9_12 O rfl dX9_heap_19 0 rfl rfl ?_
    refine v_iload_n O dX9_heap_22 1 rfl ?_
    refine pf_X9_114 (fs' := [.int (nI men), .ref ck, .ref cv, .ref chd, .int n, .int dogs, .int wak, .int (nI rl), .ref cr, .int (nI pg), .ref cb, .int held]) (ws' := [(o, .inr (9, [.ref ca, .ref im, .int it, .ref tx, .ref ba, .ref vs, .int vc, .ref nw, .ref nt, .ref ro, .ref ln, .ref bo, .ref tp])), (ca, .inr (1, [.int (nI men), .ref ck, .ref cv, .ref chd, .int n, .int dogs, .int wak, .int (nI rl), .ref cr, .int (nI pg), .ref cb, .int held]))]) O rfl dX9_heap_23 1 rfl (Nat.le_of_ble_eq_true rfl) rfl rfl ?_
    refine v_iload_n O dX9_heap_26 2 rfl ?_
    exact v_ireturn O T rfl rfl (by decide) (by decide) dX9_heap_27 (⟨by rw [if_pos c1], by rw [if_pos c1]⟩)
  · skip
    have c1 := b2i_0.mp c1
    refine v_bipush (v := -2) O dX9_heap_7 (by decide) ?_
    exact v_ireturn O T rfl rfl (by decide) (by decide) dX9_heap_9 (⟨by rw [if_neg c1], by rw [if_neg c1]⟩)
