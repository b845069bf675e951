-- small lemmas that the walks use
noncomputable def b2i (p : Prop) : Int32 := @ite Int32 p (Classical.propDecidable p) 1 0
theorem b2i_t {p : Prop} (h : p) : b2i p = 1 := by unfold b2i; rw [if_pos h]
theorem b2i_f {p : Prop} (h : ¬ p) : b2i p = 0 := by unfold b2i; rw [if_neg h]
theorem b2i_0 {p : Prop} : b2i p = 0 ↔ ¬ p := by
  by_cases h : p
  · rw [b2i_t h]; exact ⟨fun e => absurd e (by decide), fun n => absurd h n⟩
  · rw [b2i_f h]; exact ⟨fun _ => h, fun _ => rfl⟩
theorem b2i_1 {p : Prop} : ¬ b2i p = 0 ↔ p := by rw [b2i_0, Classical.not_not]
theorem b2i_nar {p : Prop} : narrow .boolean (.int (b2i p)) = .int (b2i p) := by
  by_cases h : p
  · rw [b2i_t h]; rfl
  · rw [b2i_f h]; rfl
theorem b2i_fit {p : Prop} : fits .boolean (.int (b2i p)) = true := by
  by_cases h : p
  · rw [b2i_t h]; rfl
  · rw [b2i_f h]; rfl
theorem b2i_vp {p : Prop} : vp_nar .boolean (b2i p) = b2i p := by
  by_cases h : p
  · rw [b2i_t h]; rfl
  · rw [b2i_f h]; rfl
theorem b2i_cg {p q : Prop} (h : p ↔ q) : b2i p = b2i q := by rw [propext h]
theorem c_eq {x y : Int32} {a b : Nat} (hx : x = nI a) (hy : y = nI b) (ha : a < 2147483648) (hb : b < 2147483648) : x = y ↔ a = b := by subst hx; subst hy; exact nI_eq ha hb
theorem c_lt {x y : Int32} {a b : Nat} (hx : x = nI a) (hy : y = nI b) (ha : a < 2147483648) (hb : b < 2147483648) : x < y ↔ a < b := by subst hx; subst hy; exact nI_ltI ha hb
theorem c_le {x y : Int32} {a b : Nat} (hx : x = nI a) (hy : y = nI b) (ha : a < 2147483648) (hb : b < 2147483648) : x ≤ y ↔ a ≤ b := by subst hx; subst hy; exact nI_leI ha hb
theorem c_lt' {x y : Int32} {a b : Nat} (hx : x = nI a) (hy : y = nI b) (ha : a < 2147483648) (hb : b < 2147483648) : y < x ↔ b < a := c_lt hy hx hb ha
theorem c_le' {x y : Int32} {a b : Nat} (hx : x = nI a) (hy : y = nI b) (ha : a < 2147483648) (hb : b < 2147483648) : y ≤ x ↔ b ≤ a := c_le hy hx hb ha
theorem ix_cl {i : Int32} {k : Nat} (hi : i = nI k) (hk : k < 2147483648) : i.toNatClampNeg = k := by subst hi; exact nI_clamp hk
theorem ix_in {i : Int32} {k n : Nat} (hi : i = nI k) (hk : k < n) (hn : n < 2147483648) : vp_in i n := by subst hi; exact vp_in_nI hk hn
theorem i32_ne {x : Int32} {v : Int} (h : ¬ x = Int32.ofInt v) (hv : (Int32.ofInt v).toInt = v) : ¬ x.toInt = v := fun e => h (Int32.toInt_inj.mp (by rw [hv]; exact e))
theorem ts_out {x : Int32} {lo hi : Int} (h1 : -2147483648 ≤ lo) (h2 : hi < 2147483648) (h : ∀ v : Int, lo ≤ v → v ≤ hi → ¬ x = Int32.ofInt v) : x.toInt < lo ∨ hi < x.toInt := by
  rcases Int.lt_or_le x.toInt lo with a | a
  · exact Or.inl a
  · rcases Int.lt_or_le hi x.toInt with b | b
    · exact Or.inr b
    · exact absurd (fb_asI x).symm (h x.toInt a b)
theorem lks_out {df : Int} {x : Int32} : ∀ {ps : List (Int × Int)}, (∀ p ∈ ps, ¬ x.toInt = p.1) → Op.lookupswitch.offset ps df x.toInt = df
  | [], _ => rfl
  | (a, o) :: l, h => by
    show (if a = x.toInt then o else Op.lookupswitch.offset l df x.toInt) = df
    rw [if_neg (fun e => h (a, o) List.mem_cons_self e.symm)]
    exact lks_out (fun p hp => h p (List.mem_cons_of_mem _ hp))

-- an int that is a place below n
def isIx (x : Int32) (n : Nat) : Prop := ∃ k : Nat, k < n ∧ x = nI k
theorem isIx_t {x : Int32} {n : Nat} (hn : n < 2147483648) (h1 : ¬ x < 0) (h2 : ¬ nI n ≤ x) : isIx x n := by
  rcases pk_ix x hn with a | a | ⟨j, hj, e⟩
  · exact absurd a h1
  · exact absurd a h2
  · exact ⟨j, hj, e⟩
theorem isIx_t' {x : Int32} {n m : Nat} (hn : n < 2147483648) (hm : n = m + 1) (h1 : ¬ x < 0) (h2 : ¬ nI m < x) : isIx x n := by
  obtain ⟨j, hj, rfl⟩ := nI_of h1
  exact ⟨j, by have := (not_congr (c_lt rfl rfl (by omega) hj)).mp h2; omega, rfl⟩
theorem isIx_neg {x : Int32} {n : Nat} (hn : n ≤ 2147483648) (h : x < 0) : ¬ isIx x n := by
  rintro ⟨k, hk, rfl⟩
  exact nI_pos (by omega) h
theorem isIx_big {x : Int32} {n m : Nat} (hm : m < 2147483648) (hnm : n ≤ m) (h : nI m ≤ x) : ¬ isIx x n := by
  rintro ⟨k, hk, rfl⟩
  have := (c_le rfl rfl hm (by omega)).mp h
  omega
theorem isIx_gt {x : Int32} {n m : Nat} (hm : m < 2147483648) (hnm : n ≤ m + 1) (h : nI m < x) : ¬ isIx x n := by
  rintro ⟨k, hk, rfl⟩
  have := (c_lt rfl rfl hm (by omega)).mp h
  omega
theorem isIx_mono {x : Int32} {n m : Nat} (h : n ≤ m) (hx : isIx x n) : isIx x m := by
  obtain ⟨k, hk, e⟩ := hx
  exact ⟨k, by omega, e⟩
theorem isIx_nI {k n : Nat} (hk : k < 2147483648) (hm : n < 2147483648) : isIx (nI k) n ↔ k < n := by
  refine ⟨?_, fun h => ⟨k, h, rfl⟩⟩
  rintro ⟨j, hj, e⟩
  have := (nI_eq hk (by omega)).mp e
  omega
theorem cl_eq {x y : Int64} {a b : Nat} (hx : x = lN a) (hy : y = lN b) (ha : a < 9223372036854775808) (hb : b < 9223372036854775808) : x = y ↔ a = b := by subst hx; subst hy; exact pk_lEQ ha hb
theorem cl_lt {x y : Int64} {a b : Nat} (hx : x = lN a) (hy : y = lN b) (ha : a < 9223372036854775808) (hb : b < 9223372036854775808) : x < y ↔ a < b := by subst hx; subst hy; exact pk_lLT ha hb
theorem cl_le {x y : Int64} {a b : Nat} (hx : x = lN a) (hy : y = lN b) (ha : a < 9223372036854775808) (hb : b < 9223372036854775808) : x ≤ y ↔ a ≤ b := by subst hx; subst hy; exact pk_lLE ha hb
theorem cl_lt' {x y : Int64} {a b : Nat} (hx : x = lN a) (hy : y = lN b) (ha : a < 9223372036854775808) (hb : b < 9223372036854775808) : y < x ↔ b < a := cl_lt hy hx hb ha
theorem cl_le' {x y : Int64} {a b : Nat} (hx : x = lN a) (hy : y = lN b) (ha : a < 9223372036854775808) (hb : b < 9223372036854775808) : y ≤ x ↔ b ≤ a := cl_le hy hx hb ha
def isIxL (x : Int64) (n : Nat) : Prop := ∃ k : Nat, k < n ∧ x = lN k
theorem isIxL_t {x : Int64} {n : Nat} (hn : n < 9223372036854775808) (h1 : ¬ x < 0) (h2 : ¬ lN n ≤ x) : isIxL x n := by
  obtain ⟨k, hk, rfl⟩ := pk_lOf h1
  exact ⟨k, by have := (not_congr (cl_le rfl rfl hn hk)).mp h2; omega, rfl⟩
theorem isIxL_neg {x : Int64} {n : Nat} (hn : n ≤ 9223372036854775808) (h : x < 0) : ¬ isIxL x n := by
  rintro ⟨k, hk, rfl⟩
  have := (cl_lt (a := k) (b := 0) rfl rfl (by omega) (by omega)).mp h
  omega
theorem isIxL_big {x : Int64} {n m : Nat} (hm : m < 9223372036854775808) (hnm : n ≤ m) (h : lN m ≤ x) : ¬ isIxL x n := by
  rintro ⟨k, hk, rfl⟩
  have := (cl_le rfl rfl hm (by omega)).mp h
  omega
theorem isIxL_lN {k n : Nat} (hk : k < 9223372036854775808) (hm : n < 9223372036854775808) : isIxL (lN k) n ↔ k < n := by
  refine ⟨?_, fun h => ⟨k, h, rfl⟩⟩
  rintro ⟨j, hj, e⟩
  have := (cl_eq rfl rfl hk (by omega)).mp e
  omega
theorem v_topx {D : G} {X : CX} {cells slots pc : Nat} {lv : List (Nat × Value)} {st : List Value} {ws : va_W} {x y : Int64} (h : x = y) (K : V D X cells slots pc lv (.long y :: st) ws) : V D X cells slots pc lv (.long x :: st) ws := h ▸ K
theorem upd_lt {f P : Nat → Int32} {i : Nat} {x : Int32} (h1 : ∀ j, j < i → f j = P j) (hx : x = P i) : ∀ j, j < i + 1 → upd f i x j = P j := fun j hj => by
  by_cases e : j = i
  · rw [e, pk_us]; exact hx
  · rw [pk_un e]; exact h1 j (by omega)
theorem upd_ge {f P : Nat → Int32} {i n : Nat} {x : Int32} (h2 : ∀ j, i ≤ j → j < n → f j = P j) : ∀ j, i + 1 ≤ j → j < n → upd f i x j = P j := fun j hj hj2 => by
  rw [pk_un (by omega)]; exact h2 j (by omega) hj2
noncomputable def iteP {α : Type} (p : Prop) (a b : α) : α := @ite α p (Classical.propDecidable p) a b
theorem iteP_t {α : Type} {p : Prop} {a b : α} (h : p) : iteP p a b = a := by unfold iteP; rw [if_pos h]
theorem iteP_f {α : Type} {p : Prop} {a b : α} (h : ¬ p) : iteP p a b = b := by unfold iteP; rw [if_neg h]
theorem i32_ofN (n : Nat) : (OfNat.ofNat n : Int32) = nI n := rfl
theorem Sp.up {D : G} {mt : MT} {d d2 mc ms : Nat} {args : List Value} {ws : va_W} {P : Option Value → va_W → Prop} (h : Sp D mt d mc ms args ws P) (hd : d ≤ d2) : Sp D mt d2 mc ms args ws P := by
  intro l sz
  have hM := h l sz
  unfold Met MetFree at hM ⊢
  intro p e ha hc hk s m a below hf happ hP hT
  obtain ⟨h1, h2, h3, h4, h5, h6, h7, h8⟩ := (Spec.appliesLoose_iff hf).mp happ
  refine hM p e ha hc hk s m a below hf ((Spec.appliesLoose_iff hf).mpr ⟨h1, h2, h3, h4, h5, h6, ?_, h8⟩) hP hT
  have h9 : s.hasRoom e.platform (rmD d2 mc ms) = true := h7
  show s.hasRoom e.platform (rmD d mc ms) = true
  simp only [State.hasRoom, Bool.and_eq_true, decide_eq_true_eq, rmD] at h9 ⊢
  obtain ⟨⟨⟨⟨x1, x2⟩, x7⟩, x8⟩, x9⟩ := h9
  have y1 := of_decide_eq_true x1
  have y2 := of_decide_eq_true x2
  exact ⟨⟨⟨⟨decide_eq_true (by omega), decide_eq_true ⟨by omega, by omega, by omega, by omega, y2.2.2.2.2⟩⟩, x7⟩, x8⟩, x9⟩
-- rows of numbers
def nF (f : Nat → Nat) : Nat → Int32 := fun j => nI (f j)
def uN (f : Nat → Nat) (k x : Nat) : Nat → Nat := fun j => if j = k then x else f j
theorem uN_s {f : Nat → Nat} {k x : Nat} : uN f k x k = x := if_pos rfl
theorem uN_n {f : Nat → Nat} {k x j : Nat} (h : j ≠ k) : uN f k x j = f j := if_neg h
theorem upd_nF (f : Nat → Nat) (k x : Nat) : upd (nF f) k (nI x) = nF (uN f k x) := funext fun j => by
  by_cases e : j = k
  · rw [e, pk_us]; unfold nF; rw [uN_s]
  · rw [pk_un e]; unfold nF; rw [uN_n e]
theorem arrV_cong {cA : ClassId} {n : Nat} {f g : Nat → Value} (h : ∀ j, j < n → f j = g j) : arrV cA n f = arrV cA n g := by
  unfold arrV
  congr 1
  exact Array.ext (by simp) (fun i h1 h2 => by simp at h1 ⊢; exact h i h1)
section VC
variable {D : G} {X : CX} {cells slots pc : Nat} {lv : List (Nat × Value)} {st : List Value} {ws : va_W}
theorem v_cell {ws' : va_W} (q0 : Nat) {a : Nat} {c0 c1 : ClassId × vp_A} (ha : ws[q0]? = some (a, .inl c0)) (h : vp_cell c0.1 c0.2 = vp_cell c1.1 c1.2) (hws : ws.set q0 (a, .inl c1) = ws') (K : V D X cells slots pc lv st ws') : V D X cells slots pc lv st ws := by
  subst hws
  intro H locs ls hP hD hS hlv
  refine K H locs ls (hP.set hD ha ?_ (fun q _ => rfl)) (hD.set ha) hS hlv
  show H[a]? = some (vp_cell c1.1 c1.2)
  rw [← h]
  exact hP q0 _ ha
theorem v_congI {ws' : va_W} (q0 : Nat) {a n : Nat} {f g : Nat → Int32} (ha : ws[q0]? = some (a, eI D n f)) (h : ∀ j, j < n → f j = g j) (hws : ws.set q0 (a, eI D n g) = ws') (K : V D X cells slots pc lv st ws') : V D X cells slots pc lv st ws :=
  v_cell q0 (c1 := (D.2.1 0, n, .inl g)) ha (arrV_cong (cA := D.2.1 0) (f := fun j => .int (f j)) (g := fun j => .int (g j)) (fun j hj => congrArg Value.int (h j hj))) hws K
theorem v_congJ {ws' : va_W} (q0 : Nat) {a n : Nat} {f g : Nat → Int64} (ha : ws[q0]? = some (a, eJ D n f)) (h : ∀ j, j < n → f j = g j) (hws : ws.set q0 (a, eJ D n g) = ws') (K : V D X cells slots pc lv st ws') : V D X cells slots pc lv st ws :=
  v_cell q0 (c1 := (D.2.1 3, n, .inr (.inl g))) ha (arrV_cong (cA := D.2.1 3) (f := fun j => .long (f j)) (g := fun j => .long (g j)) (fun j hj => congrArg Value.long (h j hj))) hws K
end VC
-- the reference's object: its ints by mf, its rows by ma
def M10 (ma : Nat → Nat) (mf : Nat → Int32) : List Value := [.int (mf 0), .int (mf 1), .int (mf 2), .int (mf 3), .int (mf 4), .int (mf 5), .int (mf 6), .int (mf 7), .int (mf 8), .int (mf 9), .int (mf 10), .int (mf 11), .int (mf 12), .int (mf 13), .int (mf 14), .int (mf 15), .int (mf 16), .int (mf 17), .int (mf 18), .int (mf 19), .int (mf 20), .int (mf 21), .int (mf 22), .int (mf 23), .int (mf 24), .int (mf 25), .int (mf 26), .int (mf 27), .int (mf 28), .int (mf 29), .int (mf 30), .int (mf 31), .int (mf 32), .int (mf 33), .int (mf 34), .int (mf 35), .int (mf 36), .int (mf 37), .int (mf 38), .int (mf 39), .int (mf 40), .int (mf 41), .int (mf 42), .int (mf 43), .int (mf 44), .int (mf 45), .int (mf 46), .int (mf 47), .int (mf 48), .int (mf 49), .int (mf 50), .int (mf 51), .int (mf 52), .int (mf 53), .int (mf 54)]
section VK
variable {D : G} {X : CX} {mt : MT} {d kc ks cells slots pc : Nat} {lv : List (Nat × Value)} {st : List Value} {ws : va_W}
theorem v_ialdk (O : Ok D X mt d kc ks) (hdg : decode mt.2.1 pc = .ok (.iaload, 1)) (q0 : Nat) {a n : Nat} {f : Nat → Int32} {i : Int32} (ha : ws[q0]? = some (a, eI D n f)) (k : Nat) (hi : i = nI k) (hk : k < n) (hn : n < 2147483648) (K : V D X cells slots (pc + 1) lv (.int (f k) :: st) ws) : V D X cells slots pc lv (.int i :: .ref a :: st) ws :=
  v_iald O hdg q0 ha (ix_in hi hk hn) (by rw [ix_cl hi (Nat.lt_trans hk hn)]; exact K)
theorem v_laldk (O : Ok D X mt d kc ks) (hdg : decode mt.2.1 pc = .ok (.laload, 1)) (q0 : Nat) {a n : Nat} {f : Nat → Int64} {i : Int32} (ha : ws[q0]? = some (a, eJ D n f)) (k : Nat) (hi : i = nI k) (hk : k < n) (hn : n < 2147483648) (K : V D X cells slots (pc + 1) lv (.long (f k) :: st) ws) : V D X cells slots pc lv (.int i :: .ref a :: st) ws :=
  v_lald O hdg q0 ha (ix_in hi hk hn) (by rw [ix_cl hi (Nat.lt_trans hk hn)]; exact K)
theorem v_baldk (O : Ok D X mt d kc ks) (hdg : decode mt.2.1 pc = .ok (.baload, 1)) (q0 : Nat) {a n : Nat} {f : Nat → Int32} {i : Int32} (ha : ws[q0]? = some (a, eB D n f)) (k : Nat) (hi : i = nI k) (hk : k < n) (hn : n < 2147483648) (K : V D X cells slots (pc + 1) lv (.int (f k) :: st) ws) : V D X cells slots pc lv (.int i :: .ref a :: st) ws :=
  v_bald O hdg q0 ha (ix_in hi hk hn) (by rw [ix_cl hi (Nat.lt_trans hk hn)]; exact K)
theorem v_zaldk (O : Ok D X mt d kc ks) (hdg : decode mt.2.1 pc = .ok (.baload, 1)) (q0 : Nat) {a n : Nat} {f : Nat → Int32} {i : Int32} (ha : ws[q0]? = some (a, eZ D n f)) (k : Nat) (hi : i = nI k) (hk : k < n) (hn : n < 2147483648) (K : V D X cells slots (pc + 1) lv (.int (f k) :: st) ws) : V D X cells slots pc lv (.int i :: .ref a :: st) ws :=
  v_zald O hdg q0 ha (ix_in hi hk hn) (by rw [ix_cl hi (Nat.lt_trans hk hn)]; exact K)
theorem v_aaldVk (O : Ok D X mt d kc ks) (hdg : decode mt.2.1 pc = .ok (.aaload, 1)) (q0 : Nat) {a n : Nat} {f : Nat → Option Nat} {i : Int32} {v : Value} (ha : ws[q0]? = some (a, eV D n f)) (k : Nat) (hi : i = nI k) (hk : k < n) (hn : n < 2147483648) (hv : va_rf (f k) = v) (K : V D X cells slots (pc + 1) lv (v :: st) ws) : V D X cells slots pc lv (.int i :: .ref a :: st) ws :=
  v_aaldV O hdg q0 ha (ix_in hi hk hn) (by rw [ix_cl hi (Nat.lt_trans hk hn)]; exact hv) K
theorem v_aaldTk (O : Ok D X mt d kc ks) (hdg : decode mt.2.1 pc = .ok (.aaload, 1)) (q0 : Nat) {a n : Nat} {f : Nat → Option Nat} {i : Int32} {v : Value} (ha : ws[q0]? = some (a, eT D n f)) (k : Nat) (hi : i = nI k) (hk : k < n) (hn : n < 2147483648) (hv : va_rf (f k) = v) (K : V D X cells slots (pc + 1) lv (v :: st) ws) : V D X cells slots pc lv (.int i :: .ref a :: st) ws :=
  v_aaldT O hdg q0 ha (ix_in hi hk hn) (by rw [ix_cl hi (Nat.lt_trans hk hn)]; exact hv) K
theorem v_iastk (O : Ok D X mt d kc ks) (hdg : decode mt.2.1 pc = .ok (.iastore, 1)) (q0 : Nat) {a n : Nat} {f : Nat → Int32} {i : Int32} {x : Int32} {ws' : va_W} (ha : ws[q0]? = some (a, eI D n f)) (k : Nat) (hi : i = nI k) (hk : k < n) (hn : n < 2147483648) (hws : ws.set q0 (a, eI D n (upd f k x)) = ws') (K : V D X cells slots (pc + 1) lv st ws') : V D X cells slots pc lv (.int x :: .int i :: .ref a :: st) ws :=
  v_iast O hdg q0 ha (ix_in hi hk hn) (by rw [ix_cl hi (Nat.lt_trans hk hn)]; exact hws) K
theorem v_lastk (O : Ok D X mt d kc ks) (hdg : decode mt.2.1 pc = .ok (.lastore, 1)) (q0 : Nat) {a n : Nat} {f : Nat → Int64} {i : Int32} {x : Int64} {ws' : va_W} (ha : ws[q0]? = some (a, eJ D n f)) (k : Nat) (hi : i = nI k) (hk : k < n) (hn : n < 2147483648) (hws : ws.set q0 (a, eJ D n (vp_updL f k x)) = ws') (K : V D X cells slots (pc + 1) lv st ws') : V D X cells slots pc lv (.long x :: .int i :: .ref a :: st) ws :=
  v_last O hdg q0 ha (ix_in hi hk hn) (by rw [ix_cl hi (Nat.lt_trans hk hn)]; exact hws) K
theorem v_bastk (O : Ok D X mt d kc ks) (hdg : decode mt.2.1 pc = .ok (.bastore, 1)) (q0 : Nat) {a n : Nat} {f : Nat → Int32} {i : Int32} {x : Int32} {ws' : va_W} (ha : ws[q0]? = some (a, eB D n f)) (k : Nat) (hi : i = nI k) (hk : k < n) (hn : n < 2147483648) (hws : ws.set q0 (a, eB D n (upd f k (vp_nar .byte x))) = ws') (K : V D X cells slots (pc + 1) lv st ws') : V D X cells slots pc lv (.int x :: .int i :: .ref a :: st) ws :=
  v_bast O hdg q0 ha (ix_in hi hk hn) (by rw [ix_cl hi (Nat.lt_trans hk hn)]; exact hws) K
theorem v_zastk (O : Ok D X mt d kc ks) (hdg : decode mt.2.1 pc = .ok (.bastore, 1)) (q0 : Nat) {a n : Nat} {f : Nat → Int32} {i : Int32} {x : Int32} {ws' : va_W} (ha : ws[q0]? = some (a, eZ D n f)) (k : Nat) (hi : i = nI k) (hk : k < n) (hn : n < 2147483648) (hws : ws.set q0 (a, eZ D n (upd f k (vp_nar .boolean x))) = ws') (K : V D X cells slots (pc + 1) lv st ws') : V D X cells slots pc lv (.int x :: .int i :: .ref a :: st) ws :=
  v_zast O hdg q0 ha (ix_in hi hk hn) (by rw [ix_cl hi (Nat.lt_trans hk hn)]; exact hws) K
theorem v_aastVk (O : Ok D X mt d kc ks) (hdg : decode mt.2.1 pc = .ok (.aastore, 1)) (q0 qk : Nat) {a n v : Nat} {vs : List Value} {f : Nat → Option Nat} {i : Int32} {ws' : va_W} (ha : ws[q0]? = some (a, eV D n f)) (hv : ws[qk]? = some (v, .inr (6, vs))) (k : Nat) (hi : i = nI k) (hk : k < n) (hn : n < 2147483648) (hws : ws.set q0 (a, eV D n (va_up f k (some v))) = ws') (K : V D X cells slots (pc + 1) lv st ws') : V D X cells slots pc lv (.ref v :: .int i :: .ref a :: st) ws :=
  v_aastV O hdg q0 qk ha hv (ix_in hi hk hn) (by rw [ix_cl hi (Nat.lt_trans hk hn)]; exact hws) K
theorem v_aastTk (O : Ok D X mt d kc ks) (hdg : decode mt.2.1 pc = .ok (.aastore, 1)) (q0 qk : Nat) {a n v : Nat} {vs : List Value} {f : Nat → Option Nat} {i : Int32} {ws' : va_W} (ha : ws[q0]? = some (a, eT D n f)) (hv : ws[qk]? = some (v, .inr (5, vs))) (k : Nat) (hi : i = nI k) (hk : k < n) (hn : n < 2147483648) (hws : ws.set q0 (a, eT D n (va_up f k (some v))) = ws') (K : V D X cells slots (pc + 1) lv st ws') : V D X cells slots pc lv (.ref v :: .int i :: .ref a :: st) ws :=
  v_aastT O hdg q0 qk ha hv (ix_in hi hk hn) (by rw [ix_cl hi (Nat.lt_trans hk hn)]; exact hws) K
theorem v_ialdAk (O : Ok D X mt d kc ks) {i : Int32} (hdg : decode mt.2.1 pc = .ok (.iaload, 1)) (k : Nat) (hi : i = nI k) (hk : k < 7) (K : V D X cells slots (pc + 1) lv (.int (x_abv k) :: st) ws) : V D X cells slots pc lv (.int i :: .ref (D.2.2 0) :: st) ws :=
  v_ialdA O (ix_in hi hk (by decide)) hdg (by rw [ix_cl hi (by omega)]; exact K)
theorem v_ialdNk (O : Ok D X mt d kc ks) {i : Int32} (hdg : decode mt.2.1 pc = .ok (.iaload, 1)) (k : Nat) (hi : i = nI k) (hk : k < 21) (K : V D X cells slots (pc + 1) lv (.int (x_num k) :: st) ws) : V D X cells slots pc lv (.int i :: .ref (D.2.2 1) :: st) ws :=
  v_ialdN O (ix_in hi hk (by decide)) hdg (by rw [ix_cl hi (by omega)]; exact K)
end VK
