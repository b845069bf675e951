-- the library's own methods that are reached
def maxJ (x y : Int32) : Int32 := if x < y then y else x
def minJ (x y : Int32) : Int32 := if y < x then y else x
def absL (x : Int64) : Int64 := if 0 ≤ x then x else -x
def fdivJ (x y : Int32) : Int32 := if 0 ≤ x ^^^ y then x / y else if (x / y) * y = x then x / y else x / y - 1
def fmodJ (x y : Int32) : Int32 := if 0 ≤ x ^^^ y then x - x / y * y else if x - x / y * y = 0 then x - x / y * y else (x - x / y * y) + y
def x_ch (i k : Nat) : Int32 := (x_byt.getD i []).getD k 0
theorem x_ch_c : ∀ i, i < 7 → ∀ k, k < 7 → ((x_ch i k &&& 255).toUInt32 % 65536).toInt32 = x_ch i k ∧ narrow .char (.int (x_ch i k)) = .int (x_ch i k) := by decide +kernel
theorem x_len_s : ∀ i, i < 7 → x_len.getD i 0 ≤ 7 ∧ nI (x_len.getD i 0) >>> ((0 : Int32) &&& 31) = nI (x_len.getD i 0) := by decide +kernel
theorem Sp.ofF {D : G} {mt : MT} {d mc ms : Nat} {args : List Value} {ws : va_W} {Post : Option Value → va_W → Prop} (hy : plainFor mt.1 = true) (hargs : (lg_sl args).length ≤ mt.2.2.1)
    (body : ∀ X : CX, Ok D X mt d mc ms → Rt D X Post mc ms → V D X 0 0 0 (lv_args 0 args) [] ws) : Sp D mt d mc ms args ws Post := by
  intro l sz
  refine MetFree.of_bodySF (code := mt.2.1) (maxLocals := mt.2.2.1) (ret := mt.2.2.2) hy ?_ ?_
  · intro args s m h hn
    obtain ⟨meth, c, h1, h2, h3, h4, h5, h6, -, -⟩ := Cond.code_spec hn (atoms_spec (ws := wsm mt) h _ List.mem_cons_self)
    exact ⟨meth, c, h1, h2, h3, h4, h5, h6⟩
  · intro p e s m args' below meth c s₁ B hml hv _
    obtain ⟨rfl, hsz, hP, hK, hD0, hE⟩ := hv
    have hh0 : s₁.heap = s.heap := by rw [B.state]; rfl
    have hts := atoms_spec (ws := wsm mt) B.pre
    subst hsz
    have hl := lv_entry args (n := mt.2.2.1) hargs
    have X0 := body (p, l, e, rmD d mc ms, s, m, args.toArray, below, meth, c, va_A ws s.heap.size, mt.2.2.1, MQ below (QQ D (va_A ws s.heap.size) Post) args.toArray s mc ms (va_A ws s.heap.size))
      ⟨B.exec, B.bytes, B.returns, hml, rfl, findClass_of_methodNamed B.named, fun w hw => hts w (List.mem_cons_of_mem _ hw), hK, B.notSynchronized, fun q h => Or.inr h, hE, (name_of_methodNamed B.named B.method).1, Nat.le_refl _, Nat.le_refl _, Nat.le_refl _, Nat.le_refl _⟩ rfl
    rw [lg_entry_eq]
    obtain ⟨t, a1, o, b1, b2, b3⟩ := X0 s.heap [] _ hP hD0.self va_S.rf hl s₁ hh0 (Stand.of_body B)
    exact ⟨t, o, a1, b1, b2, ⟨b3.1, b3.2⟩⟩
section VJ
variable {D : G} {X : CX} {mt : MT} {d kc ks cells slots pc : Nat} {lv : List (Nat × Value)} {st : List Value} {ws : va_W}
theorem v_getsC (O : Ok D X mt d kc ks) {index : Nat} (hl : Cond.fieldLink mt.1.cls index "java/lang/String" "COMPACT_STRINGS" "Z" ∈ Wd) (hdg : decode mt.2.1 pc = .ok (.getstatic index, 3)) (K : V D X cells slots (pc + 3) lv (.int 1 :: st) ws) : V D X cells slots pc lv st ws :=
  fun H locs ls hP hD hS hlv => va_gets O.1 O.2.1 O.2.2.2.2.2.2.2.2.2.2.1.2.2.2.2.1 hS O.2.2.2.2.2.1 (O.2.2.2.2.2.2.1 _ hl) (fun x h => h) hdg (K H locs ls hP hD hS hlv)
theorem v_getsQ (O : Ok D X mt d kc ks) {index : Nat} (hl : Cond.fieldLink mt.1.cls index "jdk/internal/util/Preconditions" "SIOOBE_FORMATTER" "Ljava/util/function/BiFunction;" ∈ Wd) (hdg : decode mt.2.1 pc = .ok (.getstatic index, 3)) (K0 : V D X cells slots (pc + 3) lv (.null :: st) ws) (K1 : ∀ t : Nat, V D X cells slots (pc + 3) lv (.ref t :: st) ws) : V D X cells slots pc lv st ws := by
  intro H locs ls hP hD hS hlv
  rcases O.2.2.2.2.2.2.2.2.2.2.1.2.2.2.2.2.1 with h | ⟨t, h⟩
  · exact va_gets O.1 O.2.1 h hS O.2.2.2.2.2.1 (O.2.2.2.2.2.2.1 _ hl) (fun x h => h) hdg (K0 H locs ls hP hD hS hlv)
  · exact va_gets O.1 O.2.1 h hS O.2.2.2.2.2.1 (O.2.2.2.2.2.2.1 _ hl) (fun x h => h) hdg (K1 t H locs ls hP hD hS hlv)
theorem v_getSV (O : Ok D X mt d kc ks) {index i : Nat} (hi : i < 7) (hl : Cond.fieldLink mt.1.cls index "java/lang/String" "value" "[B" ∈ Wd) (hdg : decode mt.2.1 pc = .ok (.getfield index, 3)) (K : V D X cells slots (pc + 3) lv (.ref (D.2.2 (20 + i)) :: st) ws) : V D X cells slots pc lv (.ref (D.2.2 (10 + i)) :: st) ws :=
  fun H locs ls hP hD hS hlv => vk_getf O.1 O.2.1 (O.2.2.2.2.2.2.2.2.2.2.1.2.2.2.2.2.2.2.1.1 i hi).2.2.1 hS O.2.2.2.2.2.1 (O.2.2.2.2.2.2.1 _ hl) (fun x h => h) hdg (K H locs ls hP hD hS hlv)
theorem v_getSC (O : Ok D X mt d kc ks) {index i : Nat} (hi : i < 7) (hl : Cond.fieldLink mt.1.cls index "java/lang/String" "coder" "B" ∈ Wd) (hdg : decode mt.2.1 pc = .ok (.getfield index, 3)) (K : V D X cells slots (pc + 3) lv (.int 0 :: st) ws) : V D X cells slots pc lv (.ref (D.2.2 (10 + i)) :: st) ws :=
  fun H locs ls hP hD hS hlv => vk_getf O.1 O.2.1 (O.2.2.2.2.2.2.2.2.2.2.1.2.2.2.2.2.2.2.1.1 i hi).2.1 hS O.2.2.2.2.2.1 (O.2.2.2.2.2.2.1 _ hl) (fun x h => h) hdg (K H locs ls hP hD hS hlv)
theorem v_alenS (O : Ok D X mt d kc ks) {i : Nat} (hi : i < 7) (hdg : decode mt.2.1 pc = .ok (.arraylength, 1)) (K : V D X cells slots (pc + 1) lv (.int (nI (x_len.getD i 0)) :: st) ws) : V D X cells slots pc lv (.ref (D.2.2 (20 + i)) :: st) ws := v_alenT O (O.2.2.2.2.2.2.2.2.2.2.1.2.2.2.2.2.2.2.1.1 i hi).2.2.2 hdg K
theorem v_baldS (O : Ok D X mt d kc ks) {i : Nat} {j : Int32} (hi : i < 7) (k : Nat) (hj : j = nI k) (hk : k < x_len.getD i 0) (hdg : decode mt.2.1 pc = .ok (.baload, 1)) (K : V D X cells slots (pc + 1) lv (.int (x_ch i k) :: st) ws) : V D X cells slots pc lv (.int j :: .ref (D.2.2 (20 + i)) :: st) ws :=
  fun H locs ls hP hD hS hlv => va_tb O.1 O.2.1 (O.2.2.2.2.2.2.2.2.2.2.1.2.2.2.2.2.2.2.1.1 i hi).2.2.2 hS (ix_in hj hk (by have := (x_len_s i hi).1; omega)) (by rw [ix_cl hj (by have := (x_len_s i hi).1; omega)]; rfl) hdg (K H locs ls hP hD hS hlv)
end VJ
theorem tw_s9 : Cond.fieldLink RJ0 9 "java/lang/String" "value" "[B" ∈ Wd := wd_of 1461 (by decide +kernel) (by decide +kernel)
theorem tw_s15 : Cond.fieldLink RJ0 15 "java/lang/String" "coder" "B" ∈ Wd := wd_of 1462 (by decide +kernel) (by decide +kernel)
set_option maxRecDepth 100000 in
set_option maxHeartbeats 4000000 in
theorem sp_J9_max_7cf53 {D : G} {x : Int32} {y : Int32} : Sp D mJ9_max_7cf53 0 0 0 [.int x, .int y] [] (fun r w => r = some (.int (maxJ x y)) ∧ w = []) := by
  refine Sp.ofF (by decide +kernel) (Nat.le_of_ble_eq_true rfl) (fun X O T => ?_)
  refine v_eq (lv' := [(0, .int x), (1, .int y)]) rfl rfl rfl rfl ?_
  refine v_iload_n O dJ9_max_7cf53_0 0 rfl ?_
  refine v_iload_n O dJ9_max_7cf53_1 1 rfl ?_
  refine v_icmp_lt O 9 dJ9_max_7cf53_2 (by decide) (fun c => ?_) (fun c => ?_)
  · skip
    refine v_iload_n O dJ9_max_7cf53_9 1 rfl ?_
    exact v_ireturn O T rfl rfl (by decide) (by decide) dJ9_max_7cf53_10 (⟨by unfold maxJ; first | rw [if_pos c] | rw [if_neg c], rfl⟩)
  · skip
    refine v_iload_n O dJ9_max_7cf53_5 0 rfl ?_
    refine v_goto O 10 dJ9_max_7cf53_6 (by decide) ?_
    exact v_ireturn O T rfl rfl (by decide) (by decide) dJ9_max_7cf53_10 (⟨by unfold maxJ; first | rw [if_pos c] | rw [if_neg c], rfl⟩)
set_option maxRecDepth 100000 in
set_option maxHeartbeats 4000000 in
theorem sp_J9_min_7cf53 {D : G} {x : Int32} {y : Int32} : Sp D mJ9_min_7cf53 0 0 0 [.int x, .int y] [] (fun r w => r = some (.int (minJ x y)) ∧ w = []) := by
  refine Sp.ofF (by decide +kernel) (Nat.le_of_ble_eq_true rfl) (fun X O T => ?_)
  refine v_eq (lv' := [(0, .int x), (1, .int y)]) rfl rfl rfl rfl ?_
  refine v_iload_n O dJ9_min_7cf53_0 0 rfl ?_
  refine v_iload_n O dJ9_min_7cf53_1 1 rfl ?_
  refine v_icmp_gt O 9 dJ9_min_7cf53_2 (by decide) (fun c => ?_) (fun c => ?_)
  · skip
    refine v_iload_n O dJ9_min_7cf53_9 1 rfl ?_
    exact v_ireturn O T rfl rfl (by decide) (by decide) dJ9_min_7cf53_10 (⟨by unfold minJ; first | rw [if_pos c] | rw [if_neg c], rfl⟩)
  · skip
    refine v_iload_n O dJ9_min_7cf53_5 0 rfl ?_
    refine v_goto O 10 dJ9_min_7cf53_6 (by decide) ?_
    exact v_ireturn O T rfl rfl (by decide) (by decide) dJ9_min_7cf53_10 (⟨by unfold minJ; first | rw [if_pos c] | rw [if_neg c], rfl⟩)
set_option maxRecDepth 100000 in
set_option maxHeartbeats 4000000 in
theorem sp_J9_abs_067f4 {D : G} {x : Int64} : Sp D mJ9_abs_067f4 0 0 0 [.long x] [] (fun r w => r = some (.long (absL x)) ∧ w = []) := by
  refine Sp.ofF (by decide +kernel) (Nat.le_of_ble_eq_true rfl) (fun X O T => ?_)
  refine v_eq (lv' := [(0, .long x)]) rfl rfl rfl rfl ?_
  refine v_lload_n O dJ9_abs_067f4_0 0 rfl ?_
  refine v_lconst (v := 0) O dJ9_abs_067f4_1 rfl ?_
  refine v_lcmp O dJ9_abs_067f4_2 ?_
  refine v_if_ge O 11 dJ9_abs_067f4_3 (by decide) (fun c => ?_) (fun c => ?_)
  · skip
    have c := (lg_cmp_ge _ _).mp c
    refine v_lload_n O dJ9_abs_067f4_11 0 rfl ?_
    exact v_lreturn O T rfl (by decide) (by decide) dJ9_abs_067f4_12 (⟨by unfold absL; first | rw [if_pos c] | rw [if_neg c], rfl⟩)
  · skip
    have c := (not_congr (lg_cmp_ge _ _)).mp c
    refine v_lload_n O dJ9_abs_067f4_6 0 rfl ?_
    refine v_lneg O dJ9_abs_067f4_7 ?_
    refine v_goto O 12 dJ9_abs_067f4_8 (by decide) ?_
    exact v_lreturn O T rfl (by decide) (by decide) dJ9_abs_067f4_12 (⟨by unfold absL; first | rw [if_pos c] | rw [if_neg c], rfl⟩)
set_option maxRecDepth 100000 in
set_option maxHeartbeats 4000000 in
theorem sp_J9_floorDiv_7cf53 {D : G} {x : Int32} {y : Int32} (hy : ¬ y = 0) : Sp D mJ9_floorDiv_7cf53 0 0 0 [.int x, .int y] [] (fun r w => r = some (.int (fdivJ x y)) ∧ w = []) := by
  refine Sp.ofF (by decide +kernel) (Nat.le_of_ble_eq_true rfl) (fun X O T => ?_)
  refine v_eq (lv' := [(0, .int x), (1, .int y)]) rfl rfl rfl rfl ?_
  refine v_iload_n O dJ9_floorDiv_7cf53_0 0 rfl ?_
  refine v_iload_n O dJ9_floorDiv_7cf53_1 1 rfl ?_
  refine v_idiv O dJ9_floorDiv_7cf53_2 (by assumption) ?_
  refine v_istore_n (lv' := [(0, .int x), (1, .int y), (2, .int (x / y))]) O dJ9_floorDiv_7cf53_3 (by decide) rfl ?_
  refine v_iload_n O dJ9_floorDiv_7cf53_4 0 rfl ?_
  refine v_iload_n O dJ9_floorDiv_7cf53_5 1 rfl ?_
  refine v_ixor O dJ9_floorDiv_7cf53_6 ?_
  refine v_if_ge O 21 dJ9_floorDiv_7cf53_7 (by decide) (fun c => ?_) (fun c => ?_)
  · skip
    refine v_iload_n O dJ9_floorDiv_7cf53_21 2 rfl ?_
    exact v_ireturn O T rfl rfl (by decide) (by decide) dJ9_floorDiv_7cf53_22 (⟨by unfold fdivJ; first | rw [if_pos c] | (rw [if_neg c]; first | rw [if_pos c2] | rw [if_neg c2]), rfl⟩)
  · skip
    refine v_iload_n O dJ9_floorDiv_7cf53_10 2 rfl ?_
    refine v_iload_n O dJ9_floorDiv_7cf53_11 1 rfl ?_
    refine v_imul O dJ9_floorDiv_7cf53_12 ?_
    refine v_iload_n O dJ9_floorDiv_7cf53_13 0 rfl ?_
    refine v_icmp_eq O 21 dJ9_floorDiv_7cf53_14 (by decide) (fun c2 => ?_) (fun c2 => ?_)
    · skip
      refine v_iload_n O dJ9_floorDiv_7cf53_21 2 rfl ?_
      exact v_ireturn O T rfl rfl (by decide) (by decide) dJ9_floorDiv_7cf53_22 (⟨by unfold fdivJ; first | rw [if_pos c] | (rw [if_neg c]; first | rw [if_pos c2] | rw [if_neg c2]), rfl⟩)
    · skip
      refine v_iload_n O dJ9_floorDiv_7cf53_17 2 rfl ?_
      refine v_iconst (v := 1) O dJ9_floorDiv_7cf53_18 (by decide) ?_
      refine v_isub O dJ9_floorDiv_7cf53_19 ?_
      exact v_ireturn O T rfl rfl (by decide) (by decide) dJ9_floorDiv_7cf53_20 (⟨by unfold fdivJ; first | rw [if_pos c] | (rw [if_neg c]; first | rw [if_pos c2] | rw [if_neg c2]), rfl⟩)
set_option maxRecDepth 100000 in
set_option maxHeartbeats 4000000 in
theorem sp_J9_floorMod_7cf53 {D : G} {x : Int32} {y : Int32} (hy : ¬ y = 0) : Sp D mJ9_floorMod_7cf53 0 0 0 [.int x, .int y] [] (fun r w => r = some (.int (fmodJ x y)) ∧ w = []) := by
  refine Sp.ofF (by decide +kernel) (Nat.le_of_ble_eq_true rfl) (fun X O T => ?_)
  refine v_eq (lv' := [(0, .int x), (1, .int y)]) rfl rfl rfl rfl ?_
  refine v_iload_n O dJ9_floorMod_7cf53_0 0 rfl ?_
  refine v_iload_n O dJ9_floorMod_7cf53_1 1 rfl ?_
  refine v_irem O dJ9_floorMod_7cf53_2 (by assumption) ?_
  refine v_istore_n (lv' := [(0, .int x), (1, .int y), (2, .int (x - x / y * y))]) O dJ9_floorMod_7cf53_3 (by decide) rfl ?_
  refine v_iload_n O dJ9_floorMod_7cf53_4 0 rfl ?_
  refine v_iload_n O dJ9_floorMod_7cf53_5 1 rfl ?_
  refine v_ixor O dJ9_floorMod_7cf53_6 ?_
  refine v_if_ge O 18 dJ9_floorMod_7cf53_7 (by decide) (fun c => ?_) (fun c => ?_)
  · skip
    refine v_iload_n O dJ9_floorMod_7cf53_18 2 rfl ?_
    exact v_ireturn O T rfl rfl (by decide) (by decide) dJ9_floorMod_7cf53_19 (⟨by unfold fmodJ; first | rw [if_pos c] | (rw [if_neg c]; first | rw [if_pos c2] | rw [if_neg c2]), rfl⟩)
  · skip
    refine v_iload_n O dJ9_floorMod_7cf53_10 2 rfl ?_
    refine v_if_eq O 18 dJ9_floorMod_7cf53_11 (by decide) (fun c2 => ?_) (fun c2 => ?_)
    · skip
      refine v_iload_n O dJ9_floorMod_7cf53_18 2 rfl ?_
      exact v_ireturn O T rfl rfl (by decide) (by decide) dJ9_floorMod_7cf53_19 (⟨by unfold fmodJ; first | rw [if_pos c] | (rw [if_neg c]; first | rw [if_pos c2] | rw [if_neg c2]), rfl⟩)
    · skip
      refine v_iload_n O dJ9_floorMod_7cf53_14 2 rfl ?_
      refine v_iload_n O dJ9_floorMod_7cf53_15 1 rfl ?_
      refine v_iadd O dJ9_floorMod_7cf53_16 ?_
      exact v_ireturn O T rfl rfl (by decide) (by decide) dJ9_floorMod_7cf53_17 (⟨by unfold fmodJ; first | rw [if_pos c] | (rw [if_neg c]; first | rw [if_pos c2] | rw [if_neg c2]), rfl⟩)
set_option maxRecDepth 100000 in
set_option maxHeartbeats 4000000 in
theorem l_fill_53178 {D : G} {X : CX} {a n : Nat} {v : Int32} (O : Ok D X mJ7_fill_53178 0 0 0) (hn : n < 2147483648) (T : Rt D X (fun r w => r = none ∧ ∃ g : Nat → Int32, (∀ j, j < n → g j = v) ∧ w = [(a, eI D n g)]) 0 0) : ∀ (t k : Nat), k + t = n → ∀ g : Nat → Int32, (∀ j, j < k → g j = v) → V D X 0 0 5 [(0, .ref a), (1, .int v), (2, .int (nI k)), (3, .int (nI n))] [] [(a, eI D n g)] := by
  intro t
  induction t with
  | zero =>
    intro k hk g hg
    refine v_iload_n O dJ7_fill_53178_5 2 rfl ?_
    refine v_iload_n O dJ7_fill_53178_6 3 rfl ?_
    refine v_icmp_ge O 20 dJ7_fill_53178_7 (by decide) (fun c => ?_) (fun c => ?_)
    · skip
      have c := (c_le' (x := nI k) (y := nI n) (a := k) (b := n) rfl rfl (by omega) (by omega)).mp c
      exact v_return O T rfl (by decide) (by decide) dJ7_fill_53178_20 (⟨rfl, g, fun j hj => hg j (by omega), rfl⟩)
    · skip
      have c := (not_congr (c_le' (x := nI k) (y := nI n) (a := k) (b := n) rfl rfl (by omega) (by omega))).mp c
      exact absurd c (by omega)
  | succ t ih =>
    intro k hk g hg
    refine v_iload_n O dJ7_fill_53178_5 2 rfl ?_
    refine v_iload_n O dJ7_fill_53178_6 3 rfl ?_
    refine v_icmp_ge O 20 dJ7_fill_53178_7 (by decide) (fun c => ?_) (fun c => ?_)
    · skip
      have c := (c_le' (x := nI k) (y := nI n) (a := k) (b := n) rfl rfl (by omega) (by omega)).mp c
      exact absurd c (by omega)
    · skip
      have c := (not_congr (c_le' (x := nI k) (y := nI n) (a := k) (b := n) rfl rfl (by omega) (by omega))).mp c
      refine v_aload_n O dJ7_fill_53178_10 0 rfl ?_
      refine v_iload_n O dJ7_fill_53178_11 2 rfl ?_
      refine v_iload_n O dJ7_fill_53178_12 1 rfl ?_
      refine v_iastk (ws' := [(a, eI D n (upd g k v))]) O dJ7_fill_53178_13 0 rfl k (rfl) (by omega) (by omega) (rfl) ?_
      refine v_iinc (v := nI (k + 1)) (lv' := [(0, .ref a), (1, .int v), (2, .int (nI (k + 1))), (3, .int (nI n))]) O dJ7_fill_53178_14 2 rfl (nI_1 k) (by decide) rfl ?_
      refine v_goto O 5 dJ7_fill_53178_17 (by decide) ?_
      exact ih (k + 1) (by omega) _ (fun j hj => by unfold upd; split <;> first | rfl | exact hg j (by omega))
set_option maxRecDepth 100000 in
set_option maxHeartbeats 4000000 in
theorem sf_fill_53178 {D : G} {a n : Nat} {f : Nat → Int32} {v : Int32} (hn : n < 2147483648) : Sp D mJ7_fill_53178 0 0 0 [.ref a, .int v] [(a, eI D n f)] (fun r w => r = none ∧ ∃ g : Nat → Int32, (∀ j, j < n → g j = v) ∧ w = [(a, eI D n g)]) := by
  refine Sp.of (by decide) (Nat.le_of_ble_eq_true rfl) (fun X O T => ?_)
  refine v_eq (lv' := [(0, .ref a), (1, .int v)]) rfl rfl rfl rfl ?_
  refine v_iconst (v := 0) O dJ7_fill_53178_0 (by decide) ?_
  refine v_istore_n (lv' := [(0, .ref a), (1, .int v), (2, .int 0)]) O dJ7_fill_53178_1 (by decide) rfl ?_
  refine v_aload_n O dJ7_fill_53178_2 0 rfl ?_
  refine v_alenI O dJ7_fill_53178_3 0 rfl ?_
  refine v_istore_n (lv' := [(0, .ref a), (1, .int v), (2, .int 0), (3, .int (nI n))]) O dJ7_fill_53178_4 (by decide) rfl ?_
  refine v_eq (lv' := [(0, .ref a), (1, .int v), (2, .int (nI 0)), (3, .int (nI n))]) rfl rfl rfl rfl ?_
  exact l_fill_53178 O hn T n 0 (by omega) f (fun j hj => absurd hj (Nat.not_lt_zero j))
theorem sg_fill_53178 {D : G} {a n : Nat} {f : Nat → Int32} {v : Int32} (hn : n < 2147483648) : Sp D mJ7_fill_53178 0 0 0 [.ref a, .int v] [(a, eI D n f)] (fun r w => ∃ g : Nat → Int32, r = none ∧ w = [(a, eI D n g)] ∧ (∀ j, j < n → g j = v)) := Sp.post (sf_fill_53178 hn) (fun r w h => by obtain ⟨h1, g, h2, h3⟩ := h; exact ⟨g, h1, h3, h2⟩)
set_option maxRecDepth 100000 in
set_option maxHeartbeats 4000000 in
theorem l_fill_d0a16 {D : G} {X : CX} {a n : Nat} {v : Int64} (O : Ok D X mJ7_fill_d0a16 0 0 0) (hn : n < 2147483648) (T : Rt D X (fun r w => r = none ∧ ∃ g : Nat → Int64, (∀ j, j < n → g j = v) ∧ w = [(a, eJ D n g)]) 0 0) : ∀ (t k : Nat), k + t = n → ∀ g : Nat → Int64, (∀ j, j < k → g j = v) → V D X 0 0 6 [(0, .ref a), (1, .long v), (3, .int (nI k)), (4, .int (nI n))] [] [(a, eJ D n g)] := by
  intro t
  induction t with
  | zero =>
    intro k hk g hg
    refine v_iload_n O dJ7_fill_d0a16_6 2 rfl ?_
    refine v_iload O dJ7_fill_d0a16_7 3 rfl ?_
    refine v_icmp_ge O 22 dJ7_fill_d0a16_9 (by decide) (fun c => ?_) (fun c => ?_)
    · skip
      have c := (c_le' (x := nI k) (y := nI n) (a := k) (b := n) rfl rfl (by omega) (by omega)).mp c
      exact v_return O T rfl (by decide) (by decide) dJ7_fill_d0a16_22 (⟨rfl, g, fun j hj => hg j (by omega), rfl⟩)
    · skip
      have c := (not_congr (c_le' (x := nI k) (y := nI n) (a := k) (b := n) rfl rfl (by omega) (by omega))).mp c
      exact absurd c (by omega)
  | succ t ih =>
    intro k hk g hg
    refine v_iload_n O dJ7_fill_d0a16_6 2 rfl ?_
    refine v_iload O dJ7_fill_d0a16_7 3 rfl ?_
    refine v_icmp_ge O 22 dJ7_fill_d0a16_9 (by decide) (fun c => ?_) (fun c => ?_)
    · skip
      have c := (c_le' (x := nI k) (y := nI n) (a := k) (b := n) rfl rfl (by omega) (by omega)).mp c
      exact absurd c (by omega)
    · skip
      have c := (not_congr (c_le' (x := nI k) (y := nI n) (a := k) (b := n) rfl rfl (by omega) (by omega))).mp c
      refine v_aload_n O dJ7_fill_d0a16_12 0 rfl ?_
      refine v_iload_n O dJ7_fill_d0a16_13 2 rfl ?_
      refine v_lload_n O dJ7_fill_d0a16_14 1 rfl ?_
      refine v_lastk (ws' := [(a, eJ D n (vp_updL g k v))]) O dJ7_fill_d0a16_15 0 rfl k (rfl) (by omega) (by omega) (rfl) ?_
      refine v_iinc (v := nI (k + 1)) (lv' := [(0, .ref a), (1, .long v), (3, .int (nI (k + 1))), (4, .int (nI n))]) O dJ7_fill_d0a16_16 2 rfl (nI_1 k) (by decide) rfl ?_
      refine v_goto O 6 dJ7_fill_d0a16_19 (by decide) ?_
      exact ih (k + 1) (by omega) _ (fun j hj => by unfold vp_updL; split <;> first | rfl | exact hg j (by omega))
set_option maxRecDepth 100000 in
set_option maxHeartbeats 4000000 in
theorem sf_fill_d0a16 {D : G} {a n : Nat} {f : Nat → Int64} {v : Int64} (hn : n < 2147483648) : Sp D mJ7_fill_d0a16 0 0 0 [.ref a, .long v] [(a, eJ D n f)] (fun r w => r = none ∧ ∃ g : Nat → Int64, (∀ j, j < n → g j = v) ∧ w = [(a, eJ D n g)]) := by
  refine Sp.of (by decide) (Nat.le_of_ble_eq_true rfl) (fun X O T => ?_)
  refine v_eq (lv' := [(0, .ref a), (1, .long v)]) rfl rfl rfl rfl ?_
  refine v_iconst (v := 0) O dJ7_fill_d0a16_0 (by decide) ?_
  refine v_istore_n (lv' := [(0, .ref a), (1, .long v), (3, .int 0)]) O dJ7_fill_d0a16_1 (by decide) rfl ?_
  refine v_aload_n O dJ7_fill_d0a16_2 0 rfl ?_
  refine v_alenJ O dJ7_fill_d0a16_3 0 rfl ?_
  refine v_istore (lv' := [(0, .ref a), (1, .long v), (3, .int 0), (4, .int (nI n))]) O dJ7_fill_d0a16_4 (by decide) rfl ?_
  refine v_eq (lv' := [(0, .ref a), (1, .long v), (3, .int (nI 0)), (4, .int (nI n))]) rfl rfl rfl rfl ?_
  exact l_fill_d0a16 O hn T n 0 (by omega) f (fun j hj => absurd hj (Nat.not_lt_zero j))
theorem sg_fill_d0a16 {D : G} {a n : Nat} {f : Nat → Int64} {v : Int64} (hn : n < 2147483648) : Sp D mJ7_fill_d0a16 0 0 0 [.ref a, .long v] [(a, eJ D n f)] (fun r w => ∃ g : Nat → Int64, r = none ∧ w = [(a, eJ D n g)] ∧ (∀ j, j < n → g j = v)) := Sp.post (sf_fill_d0a16 hn) (fun r w h => by obtain ⟨h1, g, h2, h3⟩ := h; exact ⟨g, h1, h3, h2⟩)
set_option maxRecDepth 100000 in
set_option maxHeartbeats 4000000 in
theorem sp_J0_coder_7d493 {D : G} {i : Nat} (hi : i < 7) : Sp D mJ0_coder_7d493 0 0 0 [.ref (D.2.2 (10 + i))] [] (fun r w => r = some (.int 0) ∧ w = []) := by
  refine Sp.of (by decide) (Nat.le_of_ble_eq_true rfl) (fun X O T => ?_)
  refine v_eq (lv' := [(0, .ref (D.2.2 (10 + i)))]) rfl rfl rfl rfl ?_
  refine v_getsC O tw_572 dJ0_coder_7d493_0 ?_
  refine v_if_eq O 13 dJ0_coder_7d493_3 (by decide) (fun c => absurd c (by decide)) (fun _ => ?_)
  refine v_aload_n O dJ0_coder_7d493_6 0 rfl ?_
  refine v_getSC O hi tw_s15 dJ0_coder_7d493_7 ?_
  refine v_goto O 14 dJ0_coder_7d493_10 (by decide) ?_
  exact v_ireturn O T rfl rfl (by decide) (by decide) dJ0_coder_7d493_14 (⟨rfl, rfl⟩)
set_option maxRecDepth 100000 in
set_option maxHeartbeats 4000000 in
theorem sp_J0_isLatin1_aae02 {D : G} {i : Nat} (hi : i < 7) : Sp D mJ0_isLatin1_aae02 0 0 0 [.ref (D.2.2 (10 + i))] [] (fun r w => r = some (.int 1) ∧ w = []) := by
  refine Sp.of (by decide) (Nat.le_of_ble_eq_true rfl) (fun X O T => ?_)
  refine v_eq (lv' := [(0, .ref (D.2.2 (10 + i)))]) rfl rfl rfl rfl ?_
  refine v_getsC O tw_572 dJ0_isLatin1_aae02_0 ?_
  refine v_if_eq O 17 dJ0_isLatin1_aae02_3 (by decide) (fun c => absurd c (by decide)) (fun _ => ?_)
  refine v_aload_n O dJ0_isLatin1_aae02_6 0 rfl ?_
  refine v_getSC O hi tw_s15 dJ0_isLatin1_aae02_7 ?_
  refine v_if_ne O 17 dJ0_isLatin1_aae02_10 (by decide) (fun c => absurd c (by decide)) (fun _ => ?_)
  refine v_iconst (v := 1) O dJ0_isLatin1_aae02_13 (by decide) ?_
  refine v_goto O 18 dJ0_isLatin1_aae02_14 (by decide) ?_
  exact v_ireturn O T rfl rfl (by decide) (by decide) dJ0_isLatin1_aae02_18 (⟨rfl, rfl⟩)
set_option maxRecDepth 100000 in
set_option maxHeartbeats 4000000 in
theorem sp_J0_length_8abf5 {D : G} {i : Nat} (hi : i < 7) : Sp D mJ0_length_8abf5 1 0 0 [.ref (D.2.2 (10 + i))] [] (fun r w => r = some (.int (nI (x_len.getD i 0))) ∧ w = []) := by
  refine Sp.of (by decide) (Nat.le_of_ble_eq_true rfl) (fun X O T => ?_)
  refine v_eq (lv' := [(0, .ref (D.2.2 (10 + i)))]) rfl rfl rfl rfl ?_
  refine v_aload_n O dJ0_length_8abf5_0 0 rfl ?_
  refine v_getSV O hi tw_s9 dJ0_length_8abf5_1 ?_
  refine v_alenS O hi dJ0_length_8abf5_4 ?_
  refine v_aload_n O dJ0_length_8abf5_5 0 rfl ?_
  refine v_cVS (As := []) (wr := []) (st := [.int (nI (x_len.getD i 0))]) O cf_J0_335 rfl i (hi) (sp_J0_coder_7d493 (i := i) (hi)) dJ0_length_8abf5_6 rfl rfl [] [] (by decide) rfl rfl (by decide) (by decide) (by decide) (Nat.le_of_ble_eq_true rfl) (by decide) (by decide) (fun r_2 w_3 h_1 => ?_)
  obtain ⟨rfl, rfl⟩ := h_1
  refine v_eq (st' := [.int 0, .int (nI (x_len.getD i 0))]) (ws' := []) rfl rfl rfl rfl ?_
  refine v_ishr O dJ0_length_8abf5_9 ?_
  refine v_top (y := nI (x_len.getD i 0)) ((x_len_s i hi).2) ?_
  exact v_ireturn O T rfl rfl (by decide) (by decide) dJ0_length_8abf5_10 (⟨rfl, rfl⟩)
set_option maxRecDepth 100000 in
set_option maxHeartbeats 4000000 in
theorem sp_J3_checkIndexN {D : G} {k : Nat} {n : Nat} (hk : k < n) (hn : n < 2147483648) : Sp D mJ3_checkIndex_8e157 0 0 0 [.int (nI k), .int (nI n), .null] [] (fun r w => r = some (.int (nI k)) ∧ w = []) := by
  refine Sp.of (by decide) (Nat.le_of_ble_eq_true rfl) (fun X O T => ?_)
  refine v_eq (lv' := [(0, .int (nI k)), (1, .int (nI n)), (2, .null)]) rfl rfl rfl rfl ?_
  refine v_iload_n O dJ3_checkIndex_8e157_0 0 rfl ?_
  refine v_if_lt O 9 dJ3_checkIndex_8e157_1 (by decide) (fun c_1 => ?_) (fun c_1 => ?_)
  · skip
    have c_1 := (c_lt (x := nI k) (y := 0) (a := k) (b := 0) rfl rfl (by omega) (by omega)).mp c_1
    exact absurd c_1 (by omega)
  · skip
    have c_1 := (not_congr (c_lt (x := nI k) (y := 0) (a := k) (b := 0) rfl rfl (by omega) (by omega))).mp c_1
    refine v_iload_n O dJ3_checkIndex_8e157_4 0 rfl ?_
    refine v_iload_n O dJ3_checkIndex_8e157_5 1 rfl ?_
    refine v_icmp_lt O 16 dJ3_checkIndex_8e157_6 (by decide) (fun c_2 => ?_) (fun c_2 => ?_)
    · skip
      have c_2 := (c_lt (x := nI k) (y := nI n) (a := k) (b := n) rfl rfl (by omega) (by omega)).mp c_2
      refine v_iload_n O dJ3_checkIndex_8e157_16 0 rfl ?_
      exact v_ireturn O T rfl rfl (by decide) (by decide) dJ3_checkIndex_8e157_17 (⟨rfl, rfl⟩)
    · skip
      have c_2 := (not_congr (c_lt (x := nI k) (y := nI n) (a := k) (b := n) rfl rfl (by omega) (by omega))).mp c_2
      exact absurd c_2 (by omega)
set_option maxRecDepth 100000 in
set_option maxHeartbeats 4000000 in
theorem sp_J3_checkIndexR {D : G} {k : Nat} {n : Nat} {t : Nat} (hk : k < n) (hn : n < 2147483648) : Sp D mJ3_checkIndex_8e157 0 0 0 [.int (nI k), .int (nI n), .ref t] [] (fun r w => r = some (.int (nI k)) ∧ w = []) := by
  refine Sp.of (by decide) (Nat.le_of_ble_eq_true rfl) (fun X O T => ?_)
  refine v_eq (lv' := [(0, .int (nI k)), (1, .int (nI n)), (2, .ref t)]) rfl rfl rfl rfl ?_
  refine v_iload_n O dJ3_checkIndex_8e157_0 0 rfl ?_
  refine v_if_lt O 9 dJ3_checkIndex_8e157_1 (by decide) (fun c_1 => ?_) (fun c_1 => ?_)
  · skip
    have c_1 := (c_lt (x := nI k) (y := 0) (a := k) (b := 0) rfl rfl (by omega) (by omega)).mp c_1
    exact absurd c_1 (by omega)
  · skip
    have c_1 := (not_congr (c_lt (x := nI k) (y := 0) (a := k) (b := 0) rfl rfl (by omega) (by omega))).mp c_1
    refine v_iload_n O dJ3_checkIndex_8e157_4 0 rfl ?_
    refine v_iload_n O dJ3_checkIndex_8e157_5 1 rfl ?_
    refine v_icmp_lt O 16 dJ3_checkIndex_8e157_6 (by decide) (fun c_2 => ?_) (fun c_2 => ?_)
    · skip
      have c_2 := (c_lt (x := nI k) (y := nI n) (a := k) (b := n) rfl rfl (by omega) (by omega)).mp c_2
      refine v_iload_n O dJ3_checkIndex_8e157_16 0 rfl ?_
      exact v_ireturn O T rfl rfl (by decide) (by decide) dJ3_checkIndex_8e157_17 (⟨rfl, rfl⟩)
    · skip
      have c_2 := (not_congr (c_lt (x := nI k) (y := nI n) (a := k) (b := n) rfl rfl (by omega) (by omega))).mp c_2
      exact absurd c_2 (by omega)
set_option maxRecDepth 100000 in
set_option maxHeartbeats 4000000 in
theorem sp_J0_checkIndex_df160 {D : G} {k : Nat} {n : Nat} (hk : k < n) (hn : n < 2147483648) : Sp D mJ0_checkIndex_df160 1 0 0 [.int (nI k), .int (nI n)] [] (fun r w => r = none ∧ w = []) := by
  refine Sp.of (by decide) (Nat.le_of_ble_eq_true rfl) (fun X O T => ?_)
  refine v_eq (lv' := [(0, .int (nI k)), (1, .int (nI n))]) rfl rfl rfl rfl ?_
  refine v_iload_n O dJ0_checkIndex_df160_0 0 rfl ?_
  refine v_iload_n O dJ0_checkIndex_df160_1 1 rfl ?_
  refine v_getsQ O tw_588 dJ0_checkIndex_df160_2 ?_ (fun t => ?_)
  · skip
    refine v_cS (As := [.int (nI k), .int (nI n), .null]) (wr := []) (st := []) O cf_J0_1059 (sp_J3_checkIndexN (k := k) (n := n) (hk) (hn)) dJ0_checkIndex_df160_5 rfl rfl [] [] (by decide) rfl rfl (by decide) (by decide) (by decide) (Nat.le_of_ble_eq_true rfl) (by decide) (by decide) (fun r_2 w_3 h_1 => ?_)
    obtain ⟨rfl, rfl⟩ := h_1
    refine v_eq (st' := [.int (nI k)]) (ws' := []) rfl rfl rfl rfl ?_
    refine v_pop O dJ0_checkIndex_df160_8 rfl ?_
    exact v_return O T rfl (by decide) (by decide) dJ0_checkIndex_df160_9 (⟨rfl, rfl⟩)
  · skip
    refine v_cS (As := [.int (nI k), .int (nI n), .ref t]) (wr := []) (st := []) O cf_J0_1059 (sp_J3_checkIndexR (k := k) (n := n) (t := t) (hk) (hn)) dJ0_checkIndex_df160_5 rfl rfl [] [] (by decide) rfl rfl (by decide) (by decide) (by decide) (Nat.le_of_ble_eq_true rfl) (by decide) (by decide) (fun r_5 w_6 h_4 => ?_)
    obtain ⟨rfl, rfl⟩ := h_4
    refine v_eq (st' := [.int (nI k)]) (ws' := []) rfl rfl rfl rfl ?_
    refine v_pop O dJ0_checkIndex_df160_8 rfl ?_
    exact v_return O T rfl (by decide) (by decide) dJ0_checkIndex_df160_9 (⟨rfl, rfl⟩)
set_option maxRecDepth 100000 in
set_option maxHeartbeats 4000000 in
theorem sp_J1_charAt_3b067 {D : G} {i : Nat} {k : Nat} (hi : i < 7) (hk : k < x_len.getD i 0) : Sp D mJ1_charAt_3b067 2 0 0 [.ref (D.2.2 (20 + i)), .int (nI k)] [] (fun r w => r = some (.int (x_ch i k)) ∧ w = []) := by
  refine Sp.of (by decide) (Nat.le_of_ble_eq_true rfl) (fun X O T => ?_)
  refine v_eq (lv' := [(0, .ref (D.2.2 (20 + i))), (1, .int (nI k))]) rfl rfl rfl rfl ?_
  refine v_iload_n O dJ1_charAt_3b067_0 1 rfl ?_
  refine v_aload_n O dJ1_charAt_3b067_1 0 rfl ?_
  refine v_alenS O hi dJ1_charAt_3b067_2 ?_
  refine v_cS (As := [.int (nI k), .int (nI (x_len.getD i 0))]) (wr := []) (st := []) O cf_J1_9 (sp_J0_checkIndex_df160 (k := k) (n := (x_len.getD i 0)) (hk) (by have := (x_len_s i hi).1; omega)) dJ1_charAt_3b067_3 rfl rfl [] [] (by decide) rfl rfl (by decide) (by decide) (by decide) (Nat.le_of_ble_eq_true rfl) (by decide) (by decide) (fun r_2 w_3 h_1 => ?_)
  obtain ⟨rfl, rfl⟩ := h_1
  refine v_eq (st' := []) (ws' := []) rfl rfl rfl rfl ?_
  refine v_aload_n O dJ1_charAt_3b067_6 0 rfl ?_
  refine v_iload_n O dJ1_charAt_3b067_7 1 rfl ?_
  refine v_baldS O hi k rfl hk dJ1_charAt_3b067_8 ?_
  refine v_sipush (v := 255) O dJ1_charAt_3b067_9 (by decide) ?_
  refine v_iand O dJ1_charAt_3b067_12 ?_
  refine v_i2c O dJ1_charAt_3b067_13 ?_
  refine v_top (y := x_ch i k) ((x_ch_c i hi k (by have := (x_len_s i hi).1; omega)).1) ?_
  exact v_ireturn O T rfl (x_ch_c i hi k (by have := (x_len_s i hi).1; omega)).2 (by decide) (by decide) dJ1_charAt_3b067_14 (⟨rfl, rfl⟩)
set_option maxRecDepth 100000 in
set_option maxHeartbeats 4000000 in
theorem sp_J0_charAt_5068e {D : G} {i : Nat} {k : Nat} (hi : i < 7) (hk : k < x_len.getD i 0) : Sp D mJ0_charAt_5068e 3 0 0 [.ref (D.2.2 (10 + i)), .int (nI k)] [] (fun r w => r = some (.int (x_ch i k)) ∧ w = []) := by
  refine Sp.of (by decide) (Nat.le_of_ble_eq_true rfl) (fun X O T => ?_)
  refine v_eq (lv' := [(0, .ref (D.2.2 (10 + i))), (1, .int (nI k))]) rfl rfl rfl rfl ?_
  refine v_aload_n O dJ0_charAt_5068e_0 0 rfl ?_
  refine v_cVS (As := []) (wr := []) (st := []) O cf_J0_492 rfl i (hi) (sp_J0_isLatin1_aae02 (i := i) (hi)) dJ0_charAt_5068e_1 rfl rfl [] [] (by decide) rfl rfl (by decide) (by decide) (by decide) (Nat.le_of_ble_eq_true rfl) (by decide) (by decide) (fun r_2 w_3 h_1 => ?_)
  obtain ⟨rfl, rfl⟩ := h_1
  refine v_eq (st' := [.int 1]) (ws' := []) rfl rfl rfl rfl ?_
  refine v_if_eq O 16 dJ0_charAt_5068e_4 (by decide) (fun c => absurd c (by decide)) (fun _ => ?_)
  refine v_aload_n O dJ0_charAt_5068e_7 0 rfl ?_
  refine v_getSV O hi tw_s9 dJ0_charAt_5068e_8 ?_
  refine v_iload_n O dJ0_charAt_5068e_11 1 rfl ?_
  refine v_cS (As := [.ref (D.2.2 (20 + i)), .int (nI k)]) (wr := []) (st := []) O cf_J0_495 (sp_J1_charAt_3b067 (i := i) (k := k) (hi) (hk)) dJ0_charAt_5068e_12 rfl rfl [] [] (by decide) rfl rfl (by decide) (by decide) (by decide) (Nat.le_of_ble_eq_true rfl) (by decide) (by decide) (fun r_6 w_7 h_5 => ?_)
  obtain ⟨rfl, rfl⟩ := h_5
  refine v_eq (st' := [.int (x_ch i k)]) (ws' := []) rfl rfl rfl rfl ?_
  exact v_ireturn O T rfl (x_ch_c i hi k (by have := (x_len_s i hi).1; omega)).2 (by decide) (by decide) dJ0_charAt_5068e_15 (⟨rfl, rfl⟩)
