-- the law's loop
theorem law_loop {D : G} {X : CX} {nm : String} {kc ks cells slots b L : Nat} {xs : Nat → Int32} {xa : Nat → Nat} {vt tt : Nat → Option Nat} {mo : Nat} {ma : Nat → Nat} (O : Ok D X (mLn nm) 50 kc ks) (hx : LX X b L xs) (hL : L ≤ 3072) (hkc : cells ≤ kc) (hks : slots ≤ ks) (hvt : ∀ k, k < 6 → vt k = some (xa (16 + 5 * k))) (htt : ∀ k, k < 6 → tt k = some (xa (82 + 2 * k))) (hE : ∀ (lv : List (Nat × Value)) (ws : va_W), V D X cells slots 1125 lv [.int 1] ws) : ∀ (f k : Nat) (bx bm : Nat → va_W), 6 * k ≤ L → L - 6 * k < f → Inv D xa vt tt mo ma bx bm → V D X cells slots 18 (lwv b (xa 0) mo k) [] (wB 24 bx ++ wB 55 bm) := by
  intro f
  induction f with
  | zero => exact fun k bx bm _ h => absurd h (Nat.not_lt_zero _)
  | succ f ih =>
    intro k bx bm hk0 hf hI
    refine v_iload_n O dL_law_18 3 rfl ?_
    refine v_aload_n O dL_law_19 0 rfl ?_
    refine v_slen O hx dL_law_20 ?_
    refine v_bipush (v := 6) O dL_law_21 rfl ?_
    refine v_isub O dL_law_23 ?_
    refine v_icmp_gt O 1124 dL_law_24 rfl (fun hg => ?_) (fun hg => ?_)
    · exact v_iconst (v := 1) O dL_law_1124 rfl (hE _ _)
    · have hk : 6 * k + 6 ≤ L := law_gt hL hk0 hg
      have K : ∀ b2 b3 : Nat → va_W, Inv D xa vt tt mo ma b2 b3 → V D X cells slots 1118 (lwv b (xa 0) mo k) [] (wB 24 b2 ++ wB 55 b3) := fun b2 b3 h2 => by
        refine v_iinc (v := nI (6 * (k + 1))) O dL_law_1118 3 rfl (nI_add (6 * k) 6) (by decide : 3 < 4) rfl ?_
        exact v_goto O 18 dL_law_1121 rfl (ih (k + 1) b2 b3 (by omega) (by omega) h2)
      refine v_aload_n O dL_law_27 0 rfl ?_
      refine v_iload_n O dL_law_28 3 rfl ?_
      refine v_sld O hx (vp_in_nI (by omega) (by omega)) dL_law_29 ?_
      refine v_bipush (v := 31) O dL_law_30 rfl ?_
      refine v_iand O dL_law_32 ?_
      obtain ⟨j, hj, ej⟩ := and31 (xs (nI (6 * k)).toNatClampNeg)
      refine v_top ej ?_
      rcases (show j = 0 ∨ j = 1 ∨ j = 2 ∨ j = 3 ∨ j = 4 ∨ j = 5 ∨ j = 6 ∨ j = 7 ∨ j = 8 ∨ j = 9 ∨ j = 10 ∨ j = 11 ∨ j = 12 ∨ j = 13 ∨ j = 14 ∨ j = 15 ∨ j = 16 ∨ j = 17 ∨ j = 18 ∨ j = 19 ∨ j = 20 ∨ j = 21 ∨ j = 22 ∨ j = 23 ∨ j = 24 ∨ j = 25 ∨ j = 26 ∨ j = 27 ∨ j = 28 ∨ j = 29 ∨ j = 30 ∨ j = 31 by omega) with rfl | rfl | rfl | rfl | rfl | rfl | rfl | rfl | rfl | rfl | rfl | rfl | rfl | rfl | rfl | rfl | rfl | rfl | rfl | rfl | rfl | rfl | rfl | rfl | rfl | rfl | rfl | rfl | rfl | rfl | rfl | rfl
      · refine v_tsIn (off := 139) O 172 dL_law_33 (by decide) (by decide) (by decide) (by decide) ?_
        exact law_man O hx hL hk hkc hks hvt htt hI K
      · refine v_tsIn (off := 172) O 205 dL_law_33 (by decide) (by decide) (by decide) (by decide) ?_
        exact law_of O hx hL hk hkc hks hvt htt hI K
      · refine v_tsIn (off := 205) O 238 dL_law_33 (by decide) (by decide) (by decide) (by decide) ?_
        exact law_heap O hx hL hk hkc hks hvt htt hI K
      · refine v_tsIn (off := 228) O 261 dL_law_33 (by decide) (by decide) (by decide) (by decide) ?_
        exact law_feed O hx hL hk hkc hks hvt htt hI K
      · refine v_tsIn (off := 251) O 284 dL_law_33 (by decide) (by decide) (by decide) (by decide) ?_
        exact law_village O hx hL hk hkc hks hvt htt hI K
      · refine v_tsIn (off := 264) O 297 dL_law_33 (by decide) (by decide) (by decide) (by decide) ?_
        exact law_told O hx hL hk hkc hks hvt htt hI K
      · refine v_tsIn (off := 287) O 320 dL_law_33 (by decide) (by decide) (by decide) (by decide) ?_
        exact law_wake O hx hL hk hkc hks hvt htt hI K
      · refine v_tsIn (off := 310) O 343 dL_law_33 (by decide) (by decide) (by decide) (by decide) ?_
        exact law_row O hx hL hk hkc hks hvt htt hI K
      · refine v_tsIn (off := 333) O 366 dL_law_33 (by decide) (by decide) (by decide) (by decide) ?_
        exact law_night O hx hL hk hkc hks hvt htt hI K
      · refine v_tsIn (off := 356) O 389 dL_law_33 (by decide) (by decide) (by decide) (by decide) ?_
        exact law_least O hx hL hk hkc hks hvt htt hI K
      · refine v_tsIn (off := 379) O 412 dL_law_33 (by decide) (by decide) (by decide) (by decide) ?_
        exact law_all O hx hL hk hkc hks hvt htt hI K
      · refine v_tsIn (off := 402) O 435 dL_law_33 (by decide) (by decide) (by decide) (by decide) ?_
        exact law_greatest O hx hL hk hkc hks hvt htt hI K
      · refine v_tsIn (off := 425) O 458 dL_law_33 (by decide) (by decide) (by decide) (by decide) ?_
        exact law_left O hx hL hk hkc hks hvt htt hI K
      · refine v_tsIn (off := 458) O 491 dL_law_33 (by decide) (by decide) (by decide) (by decide) ?_
        exact law_was O hx hL hk hkc hks hvt htt hI K
      · refine v_tsIn (off := 481) O 514 dL_law_33 (by decide) (by decide) (by decide) (by decide) ?_
        exact law_up O hx hL hk hkc hks hvt htt hI K
      · refine v_tsIn (off := 524) O 557 dL_law_33 (by decide) (by decide) (by decide) (by decide) ?_
        exact law_fair O hx hL hk hkc hks hvt htt hI K
      · refine v_tsIn (off := 568) O 601 dL_law_33 (by decide) (by decide) (by decide) (by decide) ?_
        exact law_chance O hx hL hk hkc hks hvt htt hI K
      · refine v_tsIn (off := 602) O 635 dL_law_33 (by decide) (by decide) (by decide) (by decide) ?_
        exact law_big O hx hL hk hkc hks hvt htt hI K
      · refine v_tsIn (off := 655) O 688 dL_law_33 (by decide) (by decide) (by decide) (by decide) ?_
        exact law_book O hx hL hk hkc hks hvt htt hI K
      · refine v_tsIn (off := 678) O 711 dL_law_33 (by decide) (by decide) (by decide) (by decide) ?_
        exact law_looked O hx hL hk hkc hks hvt htt hI K
      · refine v_tsIn (off := 691) O 724 dL_law_33 (by decide) (by decide) (by decide) (by decide) ?_
        exact law_judge O hx hL hk hkc hks hvt htt hI K
      · refine v_tsIn (off := 724) O 757 dL_law_33 (by decide) (by decide) (by decide) (by decide) ?_
        exact law_image O hx hL hk hkc hks hvt htt hI K
      · refine v_tsIn (off := 737) O 770 dL_law_33 (by decide) (by decide) (by decide) (by decide) ?_
        exact law_undo O hx hL hk hkc hks hvt htt hI K
      · refine v_tsIn (off := 750) O 783 dL_law_33 (by decide) (by decide) (by decide) (by decide) ?_
        exact law_act O hx hL hk hkc hks hvt htt hI K
      · refine v_tsIn (off := 793) O 826 dL_law_33 (by decide) (by decide) (by decide) (by decide) ?_
        exact law_trace O hx hL hk hkc hks hvt htt hI K
      · refine v_tsIn (off := 816) O 849 dL_law_33 (by decide) (by decide) (by decide) (by decide) ?_
        exact law_taken O hx hL hk hkc hks hvt htt hI K
      · refine v_tsIn (off := 849) O 882 dL_law_33 (by decide) (by decide) (by decide) (by decide) ?_
        exact law_count O hx hL hk hkc hks hvt htt hI K
      · refine v_tsIn (off := 872) O 905 dL_law_33 (by decide) (by decide) (by decide) (by decide) ?_
        exact law_tape O hx hL hk hkc hks hvt htt hI K
      · refine v_tsIn (off := 915) O 948 dL_law_33 (by decide) (by decide) (by decide) (by decide) ?_
        exact law_item O hx hL hk hkc hks hvt htt hI K
      · refine v_tsIn (off := 988) O 1021 dL_law_33 (by decide) (by decide) (by decide) (by decide) ?_
        exact law_read O hx hL hk hkc hks hvt htt hI K
      · refine v_tsIn (off := 1022) O 1055 dL_law_33 (by decide) (by decide) (by decide) (by decide) ?_
        exact law_shift O hx hL hk hkc hks hvt htt hI K
      · refine v_tsOut O 1118 dL_law_33 (by decide) (by decide) ?_
        exact K _ _ hI
