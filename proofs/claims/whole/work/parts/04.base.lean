-- the methods' own logic: V is a walk at a program counter over a world of cells, Sp a method's contract; each row stands on one of the kit's
abbrev MT : Type := MethodName × ByteArray × Nat × Option FieldType
abbrev G : Type := va_G × (Nat → ClassId) × (Nat → Nat)
abbrev CX : Type := Program × Launch × Env × Room × State × MethodId × Array Value × List Frame × Method × Code × (Nat → Prop) × Nat × (State → Prop)
abbrev cx_p (X : CX) : Program := X.1
abbrev cx_l (X : CX) : Launch := X.2.1
abbrev cx_e (X : CX) : Env := X.2.2.1
abbrev cx_R (X : CX) : Room := X.2.2.2.1
abbrev cx_s (X : CX) : State := X.2.2.2.2.1
abbrev cx_m (X : CX) : MethodId := X.2.2.2.2.2.1
abbrev cx_a (X : CX) : Array Value := X.2.2.2.2.2.2.1
abbrev cx_b (X : CX) : List Frame := X.2.2.2.2.2.2.2.1
abbrev cx_t (X : CX) : Method := X.2.2.2.2.2.2.2.2.1
abbrev cx_c (X : CX) : Code := X.2.2.2.2.2.2.2.2.2.1
abbrev cx_A (X : CX) : Nat → Prop := X.2.2.2.2.2.2.2.2.2.2.1
abbrev cx_n (X : CX) : Nat := X.2.2.2.2.2.2.2.2.2.2.2.1
abbrev cx_Q (X : CX) : State → Prop := X.2.2.2.2.2.2.2.2.2.2.2.2
-- the tables' words that a method may carry to its callees
def Wd : List Cond := lw_tbl.filter goodWord
theorem wd_of {w : Cond} (i : Nat) (h : lw_tbl[i]? = some w) (hg : goodWord w = true) : w ∈ Wd := List.mem_filter.mpr ⟨List.mem_of_getElem? h, hg⟩
theorem wd_all {ws : List Cond} (h : ws.all (fun w => decide (w ∈ lw_tbl) && goodWord w) = true) : ∀ w ∈ ws, w ∈ Wd := by
  intro w hw
  have h1 := List.all_eq_true.mp h w hw
  simp only [Bool.and_eq_true, decide_eq_true_eq] at h1
  exact List.mem_filter.mpr h1
theorem wd_good : GoodIn Wd Wd := fun w hw => ⟨hw, good_of_word (List.mem_filter.mp hw).2⟩
abbrev mcode (mt : MT) : Cond := .code mt.1 mt.2.1 mt.2.2.1 mt.2.2.2
def wsm (mt : MT) : List Cond := mcode mt :: Wd
theorem wsm_good {mt : MT} (h : mcode mt ∈ Wd) : GoodIn Wd (wsm mt) := fun w hw => by
  rcases List.mem_cons.mp hw with rfl | h1
  · exact wd_good _ h
  · exact wd_good _ h1
-- room: by the depth of calls that are still to come
def rmD (d mc ms : Nat) : Room := { frames := d, cells := mc, slots := ms, locals := 40 * d }
-- the array classes: 0 int, 1 boolean, 2 byte, 3 long, 4 rows of villages, 5 rows of tapes
def tyl (D : G) : List (ClassId × FieldType) := [(D.2.1 0, .int), (D.2.1 1, .boolean), (D.2.1 2, .byte), (D.2.1 3, .long), (D.2.1 4, .object RX6), (D.2.1 5, .object RX5)]
abbrev eI (D : G) (n : Nat) (f : Nat → Int32) : va_E := .inl (D.2.1 0, n, .inl f)
abbrev eZ (D : G) (n : Nat) (f : Nat → Int32) : va_E := .inl (D.2.1 1, n, .inl f)
abbrev eB (D : G) (n : Nat) (f : Nat → Int32) : va_E := .inl (D.2.1 2, n, .inl f)
abbrev eJ (D : G) (n : Nat) (f : Nat → Int64) : va_E := .inl (D.2.1 3, n, .inr (.inl f))
abbrev eV (D : G) (n : Nat) (f : Nat → Option Nat) : va_E := .inl (D.2.1 4, n, .inr (.inr (.inr (.inr f))))
abbrev eT (D : G) (n : Nat) (f : Nat → Option Nat) : va_E := .inl (D.2.1 5, n, .inr (.inr (.inr (.inr f))))
-- what lies outside: two static tables, two of the library's statics, seven texts, the nest's links
def x_abv (j : Nat) : Int32 := [-1, 0, 0, 0, 1, 2, 3].getD j 0
def x_num (j : Nat) : Int32 := [10, 11, 12, 0, 20, 0, 30, 0, 0, 0, 0, 40, 50, 51, 0, 0, 0, 60, 71, 70, 0].getD j 0
def x_stI (j : Nat) : Nat := [65, 67, 69, 71, 51, 93, 99].getD j 0
def x_stT (j : Nat) : String := ["over ", "back ", "orning ", "en ", " ", "ikvwh", "<=>"].getD j ""
def x_len : List Nat := [5, 5, 7, 3, 1, 5, 3]
def x_byt : List (List Int32) := [[111, 118, 101, 114, 32], [98, 97, 99, 107, 32], [111, 114, 110, 105, 110, 103, 32], [101, 110, 32], [32], [105, 107, 118, 119, 104], [60, 61, 62]]
def x_nest : List (String × Nat × MethodName) := [(RX9, 11, yX1_init), (RX9, 27, yX7_init), (RX9, 34, yX6_init), (RX9, 49, yX8_init), (RX9, 56, yX3_init), (RX3, 11, yX8_init), (RX9, 63, yX4_init), (RX4, 11, yX8_init), (RX9, 70, yX2_init), (RX9, 77, yX0_init), (RX9, 88, yX5_init), (RX0, 40, yX9_aboveOf)]
def Ext (D : G) (A : Nat → Prop) (U : State) (H : Heap) : Prop :=
  va_Z RX9 "ABOVE" "[I" (.ref (D.2.2 0)) A U H ∧ va_T .int (D.2.2 0) 7 (fun j => .int (x_abv j)) A U H ∧
  va_Z RX0 "NUMBERS" "[I" (.ref (D.2.2 1)) A U H ∧ va_T .int (D.2.2 1) 21 (fun j => .int (x_num j)) A U H ∧
  va_Z "java/lang/String" "COMPACT_STRINGS" "Z" (.int 1) A U H ∧ va_Zq "jdk/internal/util/Preconditions" "SIOOBE_FORMATTER" "Ljava/util/function/BiFunction;" A U H ∧
  (∀ i : Nat, i < 7 → vk_R RX7 (x_stI i) (x_stT i) (D.2.2 (10 + i)) U) ∧ vk_S 7 x_len x_byt (fun i => D.2.2 (10 + i)) (fun i => D.2.2 (20 + i)) A U H ∧
  (∀ q ∈ x_nest, va_Nw (.methodLinkNest q.1 q.2.1 q.2.2 RX9) U) ∧ va_AO RX6 U ∧ va_AO RX5 U
theorem Ext.warm {D : G} {A : Nat → Prop} {s U : State} {H : Heap} (hW : s.WarmedH U.vm) (h : Ext D A s H) : Ext D A U H := by
  obtain ⟨h1, h2, h3, h4, h5, h6, h7, h8, h9, h10, h11⟩ := h
  exact ⟨va_Z.moved hW.alike h1, va_T.moved hW.alike h2, va_Z.moved hW.alike h3, va_T.moved hW.alike h4, va_Z.moved hW.alike h5, va_Zq.moved hW.alike h6, fun i hi => vk_R.warm hW (h7 i hi), vk_S.moved hW.alike h8, fun q hq => va_Nw.warmM hW (h9 q hq), va_AO.moved hW.alike h10, va_AO.moved hW.alike h11⟩
theorem Ext.kept {D : G} {A : Nat → Prop} {U : State} {H H1 : Heap} (h : Ext D A U H) (hq : ∀ a : Nat, a < H.size → ¬ A a → H1[a]? = H[a]?) : Ext D A U H1 := by
  obtain ⟨h1, h2, h3, h4, h5, h6, h7, h8, h9, h10, h11⟩ := h
  exact ⟨h1.kept hq, h2.kept hq, h3.kept hq, h4.kept hq, h5.kept hq, h6.kept hq, h7, h8.kept hq, h9, h10, h11⟩
theorem Ext.narrow {D : G} {A B : Nat → Prop} {U : State} {H : Heap} (h : Ext D A U H) (hAB : ∀ q, B q → A q) : Ext D B U H := by
  obtain ⟨h1, h2, h3, h4, h5, h6, h7, h8, h9, h10, h11⟩ := h
  exact ⟨h1.narrow hAB, h2.narrow hAB, h3.narrow hAB, h4.narrow hAB, h5.narrow hAB, h6.narrow hAB, h7, h8.narrow hAB, h9, h10, h11⟩
theorem Ext.same {D : G} {A : Nat → Prop} {u U : State} {H : Heap} (hv : U.vm = u.vm) (h : Ext D A u H) : Ext D A U H := by
  obtain ⟨h1, h2, h3, h4, h5, h6, h7, h8, h9, h10, h11⟩ := h
  have ha : u.vm.Alike U.vm := by rw [hv]; exact Vm.Alike.refl _
  exact ⟨va_Z.moved ha h1, va_T.moved ha h2, va_Z.moved ha h3, va_T.moved ha h4, va_Z.moved ha h5, va_Zq.moved ha h6, fun i hi => vk_R.same hv (h7 i hi), vk_S.moved ha h8, fun q hq => va_Nw.same rfl hv.symm (h9 q hq), va_AO.moved ha h10, va_AO.moved ha h11⟩
-- a method's contract
def spPre (D : G) (ws : va_W) (sz : Nat) : State → Prop := fun U => U.heap.size = sz ∧ va_P D.1 vwCl ws U.heap ∧ va_K D.1 vwCl (tyl D) U ∧ va_D (fun _ => True) ws ∧ Ext D (va_A ws sz) U U.heap
def QQ (D : G) (A : Nat → Prop) (Post : Option Value → va_W → Prop) : Array Value → State → Outcome → State → Prop := fun _ st oc t =>
  (∃ (r : Option Value) (ws' : va_W), oc = .returned r ∧ Post r ws' ∧ va_P D.1 vwCl ws' t.heap ∧ va_D A ws') ∧ va_F A st t
def Sp (D : G) (mt : MT) (d mc ms : Nat) (args : List Value) (ws : va_W) (Post : Option Value → va_W → Prop) : Prop :=
  ∀ (l : Launch) (sz : Nat), Met l mt.1 (wsm mt) (rmD d mc ms) (va_Pc args (spPre D ws sz)) (QQ D (va_A ws sz) Post) mc ms (va_A ws sz)
theorem spPre_blind {D : G} {args : List Value} {ws : va_W} {sz : Nat} : FrameBlind (va_Pc args (spPre D ws sz)) := fun a U g mk h => by
  obtain ⟨h1, h2, h3, h4, h5, h6⟩ := h
  exact ⟨h1, h2, h3, va_K.moved (u := U) (U := U.calling g mk a) (Vm.Alike.refl U.vm) h4, h5, Ext.same (u := U) (U := U.calling g mk a) rfl h6⟩
theorem Sp.post {D : G} {mt : MT} {d mc ms : Nat} {args : List Value} {ws : va_W} {P Q : Option Value → va_W → Prop} (h : Sp D mt d mc ms args ws P) (hPQ : ∀ r w, P r w → Q r w) : Sp D mt d mc ms args ws Q := by
  intro l sz
  have hM := h l sz
  unfold Met MetFree at hM ⊢
  intro p e ha hc hk s m a below hf happ hP hT
  obtain ⟨k, o, h1, h2, h3, ⟨⟨r, w, e1, e2, e3⟩, h5⟩, h6⟩ := hM p e ha hc hk s m a below hf happ hP hT
  exact ⟨k, o, h1, h2, h3, ⟨⟨r, w, e1, hPQ r w e2, e3⟩, h5⟩, h6⟩
-- a walk
def V (D : G) (X : CX) (cells slots pc : Nat) (lv : List (Nat × Value)) (st : List Value) (ws : va_W) : Prop :=
  ∀ (H : Heap) (locs : List Loc) (ls : Array Slot), va_P D.1 vwCl ws H → va_D (cx_A X) ws → va_S (cx_A X) (cx_s X).heap H locs → lv_has ls (cx_n X) lv →
    W (cx_p X) (cx_l X) (cx_e X) (cx_R X) (cx_s X) (cx_m X) (cx_a X) (cx_b X) (cx_t X) (cx_c X) H locs cells slots (cx_Q X) (F0 (cx_m X) pc ls st)
def Ok (D : G) (X : CX) (mt : MT) (d kc ks : Nat) : Prop :=
  (cx_p X).tables.exec = Jvm.exec ∧ (cx_c X).code = mt.2.1 ∧ (cx_t X).sig.returnType = mt.2.2.2 ∧ (cx_c X).maxLocals = mt.2.2.1 ∧ cx_n X = mt.2.2.1 ∧ (cx_s X).vm.findClass mt.1.cls = some (cx_m X).cls ∧
  (∀ w ∈ Wd, w.before (cx_a X) (cx_s X) = true) ∧ va_K D.1 vwCl (tyl D) (cx_s X) ∧ (cx_t X).locks = false ∧ (∀ q : Nat, (cx_s X).heap.size ≤ q → cx_A X q) ∧ Ext D (cx_A X) (cx_s X) (cx_s X).heap ∧ (cx_t X).name = mt.1.name ∧
  d ≤ (cx_R X).frames ∧ 40 * d ≤ (cx_R X).locals ∧ kc ≤ (cx_R X).cells ∧ ks ≤ (cx_R X).slots
def Rt (D : G) (X : CX) (Post : Option Value → va_W → Prop) (kc ks : Nat) : Prop := cx_Q X = MQ (cx_b X) (QQ D (cx_A X) Post) (cx_a X) (cx_s X) kc ks (cx_A X)
theorem Sp.of {D : G} {mt : MT} {d mc ms : Nat} {args : List Value} {ws : va_W} {Post : Option Value → va_W → Prop} (hy : plainName mt.1.cls = true) (hargs : (lg_sl args).length ≤ mt.2.2.1)
    (body : ∀ X : CX, Ok D X mt d mc ms → Rt D X Post mc ms → V D X 0 0 0 (lv_args 0 args) [] ws) : Sp D mt d mc ms args ws Post := by
  intro l sz
  refine Met.ofW (cc := mt.2.1) (maxL := mt.2.2.1) (ret := mt.2.2.2) hy rfl ?_
  intro p e s m args' below meth c s₁ B hml hv
  obtain ⟨rfl, hsz, hP, hK, hD0, hE⟩ := hv
  have hts := atoms_spec (ws := wsm mt) B.pre
  subst hsz
  have hl := lv_entry args (n := mt.2.2.1) hargs
  rw [lg_entry_eq]
  have X0 := body (p, l, e, rmD d mc ms, s, m, args.toArray, below, meth, c, va_A ws s.heap.size, mt.2.2.1, MQ below (QQ D (va_A ws s.heap.size) Post) args.toArray s mc ms (va_A ws s.heap.size))
    ⟨B.exec, B.bytes, B.returns, hml, rfl, findClass_of_methodNamed B.named, fun w hw => hts w (List.mem_cons_of_mem _ hw), hK, B.notSynchronized, fun q h => Or.inr h, hE, (name_of_methodNamed B.named B.method).1, Nat.le_refl _, Nat.le_refl _, Nat.le_refl _, Nat.le_refl _⟩ rfl
  exact X0 s.heap [] _ hP hD0.self va_S.rf hl
-- locals in the order of their places
def lvins (i : Nat) (v : Value) : List (Nat × Value) → List (Nat × Value)
  | [] => [(i, v)]
  | q :: l => if i < q.1 then (i, v) :: q :: l else q :: lvins i v l
def lvset (i : Nat) (v : Value) (lv : List (Nat × Value)) : List (Nat × Value) := lvins i v (lv.filter (fun q => !(q.1 == i) && (!(q.1 == i + 1 && v.category == 2) && !(q.1 + 1 == i && q.2.category == 2))))
theorem lvins_mem {i : Nat} {v : Value} {q : Nat × Value} : ∀ {l : List (Nat × Value)}, q ∈ lvins i v l → q = (i, v) ∨ q ∈ l
  | [], h => Or.inl (List.mem_singleton.mp h)
  | a :: l, h => by
    unfold lvins at h
    split at h
    · rcases List.mem_cons.mp h with h | h
      · exact Or.inl h
      · exact Or.inr h
    · rcases List.mem_cons.mp h with h | h
      · exact Or.inr (List.mem_cons.mpr (Or.inl h))
      · rcases lvins_mem h with h | h
        · exact Or.inl h
        · exact Or.inr (List.mem_cons.mpr (Or.inr h))
theorem lv_of1 {ls : Array Slot} {n i : Nat} {v : Value} {lv lv' : List (Nat × Value)} (hc : v.category = 1) (h : lv_has ls n ((i, v) :: lv.filter (fun q => !(q.1 == i) && !(q.1 + 1 == i && q.2.category == 2)))) (he : lvset i v lv = lv') : lv_has ls n lv' := by
  subst he
  refine ⟨h.1, h.2.1, fun q hq => h.2.2 q ?_⟩
  rcases lvins_mem hq with h1 | h1
  · exact List.mem_cons.mpr (Or.inl h1)
  · refine List.mem_cons.mpr (Or.inr ?_)
    rw [List.mem_filter] at h1 ⊢
    refine ⟨h1.1, ?_⟩
    have h2 := h1.2
    simp only [Bool.and_eq_true] at h2 ⊢
    exact ⟨h2.1, h2.2.2⟩
theorem lv_of2 {ls : Array Slot} {n i : Nat} {v : Value} {lv lv' : List (Nat × Value)} (hc : v.category = 2) (h : lv_has ls n ((i, v) :: lv.filter (fun q => !(q.1 == i) && (!(q.1 == i + 1) && !(q.1 + 1 == i && q.2.category == 2))))) (he : lvset i v lv = lv') : lv_has ls n lv' := by
  subst he
  refine ⟨h.1, h.2.1, fun q hq => h.2.2 q ?_⟩
  rcases lvins_mem hq with h1 | h1
  · exact List.mem_cons.mpr (Or.inl h1)
  · refine List.mem_cons.mpr (Or.inr ?_)
    rw [List.mem_filter] at h1 ⊢
    refine ⟨h1.1, ?_⟩
    have h2 := h1.2
    simp only [Bool.and_eq_true, hc] at h2 ⊢
    refine ⟨h2.1, ?_, h2.2.2⟩
    simpa using h2.2.1
section VR
variable {D : G} {X : CX} {mt : MT} {d kc ks cells slots pc : Nat} {lv : List (Nat × Value)} {st : List Value} {ws : va_W}
theorem v_eq {pc' : Nat} {lv' : List (Nat × Value)} {st' : List Value} {ws' : va_W} (h1 : pc = pc') (h2 : lv = lv') (h3 : st = st') (h4 : ws = ws') (K : V D X cells slots pc' lv' st' ws') : V D X cells slots pc lv st ws := by subst h1 h2 h3 h4; exact K
theorem v_topi {x : Int32} (K : ∀ y : Int32, y = x → V D X cells slots pc lv (.int y :: st) ws) : V D X cells slots pc lv (.int x :: st) ws := K x rfl
theorem v_topl {x : Int64} (K : ∀ y : Int64, y = x → V D X cells slots pc lv (.long y :: st) ws) : V D X cells slots pc lv (.long x :: st) ws := K x rfl
theorem v_top {x y : Int32} (h : x = y) (K : V D X cells slots pc lv (.int y :: st) ws) : V D X cells slots pc lv (.int x :: st) ws := h ▸ K
theorem v_lv {lv' : List (Nat × Value)} (h : ∀ q ∈ lv', q ∈ lv) (K : V D X cells slots pc lv' st ws) : V D X cells slots pc lv st ws := fun H locs ls hP hD hS hl => K H locs ls hP hD hS ⟨hl.1, hl.2.1, fun q hq => hl.2.2 q (h q hq)⟩
theorem v_lvp {lv' : List (Nat × Value)} (is : List Nat) (h : lv_pick lv is = lv') (K : V D X cells slots pc lv' st ws) : V D X cells slots pc lv st ws := fun H locs ls hP hD hS hl => K H locs ls hP hD hS (lv_sub hl is h)
theorem v_sub {ws' : va_W} (is : List Nat) (hn : va_nd is = true) (h : is.map (fun i => ws[i]?) = ws'.map some) (K : V D X cells slots pc lv st ws') : V D X cells slots pc lv st ws := fun H locs ls hP hD hS hl => by
  refine K H locs ls (fun k q hq => ?_) (hD.sub is hn h) hS hl
  have h1 : (is.map (fun i => ws[i]?))[k]? = some (some q) := by rw [h, List.getElem?_map, hq]; rfl
  rw [List.getElem?_map] at h1
  cases hi : is[k]? with
  | none => rw [hi] at h1; cases h1
  | some i => rw [hi] at h1; exact hP i q (Option.some.inj h1)
theorem v_widen {k n : Nat} (h1 : cells ≤ k) (h2 : slots ≤ n) (K : V D X k n pc lv st ws) : V D X cells slots pc lv st ws := fun H locs ls hP hD hS hl => W.widen h1 h2 (K H locs ls hP hD hS hl)
theorem v_iadd (O : Ok D X mt d kc ks) {x y : Int32} (hdg : decode mt.2.1 pc = .ok (.iadd, 1)) (K : V D X cells slots (pc + 1) lv (.int (x + y) :: st) ws) : V D X cells slots pc lv (.int y :: .int x :: st) ws :=
  fun H locs ls hP hD hS hl => lv_iadd O.1 O.2.1 hdg (K H locs ls hP hD hS hl)
theorem v_isub (O : Ok D X mt d kc ks) {x y : Int32} (hdg : decode mt.2.1 pc = .ok (.isub, 1)) (K : V D X cells slots (pc + 1) lv (.int (x - y) :: st) ws) : V D X cells slots pc lv (.int y :: .int x :: st) ws :=
  fun H locs ls hP hD hS hl => lv_isub O.1 O.2.1 hdg (K H locs ls hP hD hS hl)
theorem v_imul (O : Ok D X mt d kc ks) {x y : Int32} (hdg : decode mt.2.1 pc = .ok (.imul, 1)) (K : V D X cells slots (pc + 1) lv (.int (x * y) :: st) ws) : V D X cells slots pc lv (.int y :: .int x :: st) ws :=
  fun H locs ls hP hD hS hl => lv_imul O.1 O.2.1 hdg (K H locs ls hP hD hS hl)
theorem v_iand (O : Ok D X mt d kc ks) {x y : Int32} (hdg : decode mt.2.1 pc = .ok (.iand, 1)) (K : V D X cells slots (pc + 1) lv (.int (x &&& y) :: st) ws) : V D X cells slots pc lv (.int y :: .int x :: st) ws :=
  fun H locs ls hP hD hS hl => lv_iand O.1 O.2.1 hdg (K H locs ls hP hD hS hl)
theorem v_ior (O : Ok D X mt d kc ks) {x y : Int32} (hdg : decode mt.2.1 pc = .ok (.ior, 1)) (K : V D X cells slots (pc + 1) lv (.int (x ||| y) :: st) ws) : V D X cells slots pc lv (.int y :: .int x :: st) ws :=
  fun H locs ls hP hD hS hl => lv_ior O.1 O.2.1 hdg (K H locs ls hP hD hS hl)
theorem v_ixor (O : Ok D X mt d kc ks) {x y : Int32} (hdg : decode mt.2.1 pc = .ok (.ixor, 1)) (K : V D X cells slots (pc + 1) lv (.int (x ^^^ y) :: st) ws) : V D X cells slots pc lv (.int y :: .int x :: st) ws :=
  fun H locs ls hP hD hS hl => lv_ixor O.1 O.2.1 hdg (K H locs ls hP hD hS hl)
theorem v_ishl (O : Ok D X mt d kc ks) {x y : Int32} (hdg : decode mt.2.1 pc = .ok (.ishl, 1)) (K : V D X cells slots (pc + 1) lv (.int (x <<< (y &&& 31)) :: st) ws) : V D X cells slots pc lv (.int y :: .int x :: st) ws :=
  fun H locs ls hP hD hS hl => lv_ishl O.1 O.2.1 hdg (K H locs ls hP hD hS hl)
theorem v_ishr (O : Ok D X mt d kc ks) {x y : Int32} (hdg : decode mt.2.1 pc = .ok (.ishr, 1)) (K : V D X cells slots (pc + 1) lv (.int (x >>> (y &&& 31)) :: st) ws) : V D X cells slots pc lv (.int y :: .int x :: st) ws :=
  fun H locs ls hP hD hS hl => lv_ishr O.1 O.2.1 hdg (K H locs ls hP hD hS hl)
theorem v_idiv (O : Ok D X mt d kc ks) {x y : Int32} (hdg : decode mt.2.1 pc = .ok (.idiv, 1)) (hne : ¬ y = 0) (K : V D X cells slots (pc + 1) lv (.int (x / y) :: st) ws) : V D X cells slots pc lv (.int y :: .int x :: st) ws :=
  fun H locs ls hP hD hS hl => lv_idiv O.1 O.2.1 hdg hne (K H locs ls hP hD hS hl)
theorem v_irem (O : Ok D X mt d kc ks) {x y : Int32} (hdg : decode mt.2.1 pc = .ok (.irem, 1)) (hne : ¬ y = 0) (K : V D X cells slots (pc + 1) lv (.int (x - x / y * y) :: st) ws) : V D X cells slots pc lv (.int y :: .int x :: st) ws :=
  fun H locs ls hP hD hS hl => lv_irem O.1 O.2.1 hdg hne (K H locs ls hP hD hS hl)
theorem v_ineg (O : Ok D X mt d kc ks) {x : Int32} (hdg : decode mt.2.1 pc = .ok (.ineg, 1)) (K : V D X cells slots (pc + 1) lv (.int (-x) :: st) ws) : V D X cells slots pc lv (.int x :: st) ws :=
  fun H locs ls hP hD hS hl => lv_ineg O.1 O.2.1 hdg (K H locs ls hP hD hS hl)
theorem v_ladd (O : Ok D X mt d kc ks) {x y : Int64} (hdg : decode mt.2.1 pc = .ok (.ladd, 1)) (K : V D X cells slots (pc + 1) lv (.long (x + y) :: st) ws) : V D X cells slots pc lv (.long y :: .long x :: st) ws :=
  fun H locs ls hP hD hS hl => lv_ladd O.1 O.2.1 hdg (K H locs ls hP hD hS hl)
theorem v_lsub (O : Ok D X mt d kc ks) {x y : Int64} (hdg : decode mt.2.1 pc = .ok (.lsub, 1)) (K : V D X cells slots (pc + 1) lv (.long (x - y) :: st) ws) : V D X cells slots pc lv (.long y :: .long x :: st) ws :=
  fun H locs ls hP hD hS hl => lv_lsub O.1 O.2.1 hdg (K H locs ls hP hD hS hl)
theorem v_lmul (O : Ok D X mt d kc ks) {x y : Int64} (hdg : decode mt.2.1 pc = .ok (.lmul, 1)) (K : V D X cells slots (pc + 1) lv (.long (x * y) :: st) ws) : V D X cells slots pc lv (.long y :: .long x :: st) ws :=
  fun H locs ls hP hD hS hl => lv_lmul O.1 O.2.1 hdg (K H locs ls hP hD hS hl)
theorem v_land (O : Ok D X mt d kc ks) {x y : Int64} (hdg : decode mt.2.1 pc = .ok (.land, 1)) (K : V D X cells slots (pc + 1) lv (.long (x &&& y) :: st) ws) : V D X cells slots pc lv (.long y :: .long x :: st) ws :=
  fun H locs ls hP hD hS hl => lv_land O.1 O.2.1 hdg (K H locs ls hP hD hS hl)
theorem v_lor (O : Ok D X mt d kc ks) {x y : Int64} (hdg : decode mt.2.1 pc = .ok (.lor, 1)) (K : V D X cells slots (pc + 1) lv (.long (x ||| y) :: st) ws) : V D X cells slots pc lv (.long y :: .long x :: st) ws :=
  fun H locs ls hP hD hS hl => lv_lor O.1 O.2.1 hdg (K H locs ls hP hD hS hl)
theorem v_lxor (O : Ok D X mt d kc ks) {x y : Int64} (hdg : decode mt.2.1 pc = .ok (.lxor, 1)) (K : V D X cells slots (pc + 1) lv (.long (x ^^^ y) :: st) ws) : V D X cells slots pc lv (.long y :: .long x :: st) ws :=
  fun H locs ls hP hD hS hl => lv_lxor O.1 O.2.1 hdg (K H locs ls hP hD hS hl)
theorem v_ldiv (O : Ok D X mt d kc ks) {x y : Int64} (hdg : decode mt.2.1 pc = .ok (.ldiv, 1)) (hne : ¬ y = 0) (K : V D X cells slots (pc + 1) lv (.long (x / y) :: st) ws) : V D X cells slots pc lv (.long y :: .long x :: st) ws :=
  fun H locs ls hP hD hS hl => lv_ldiv O.1 O.2.1 hdg hne (K H locs ls hP hD hS hl)
theorem v_lrem (O : Ok D X mt d kc ks) {x y : Int64} (hdg : decode mt.2.1 pc = .ok (.lrem, 1)) (hne : ¬ y = 0) (K : V D X cells slots (pc + 1) lv (.long (x - x / y * y) :: st) ws) : V D X cells slots pc lv (.long y :: .long x :: st) ws :=
  fun H locs ls hP hD hS hl => lv_lrem O.1 O.2.1 hdg hne (K H locs ls hP hD hS hl)
theorem v_lneg (O : Ok D X mt d kc ks) {x : Int64} (hdg : decode mt.2.1 pc = .ok (.lneg, 1)) (K : V D X cells slots (pc + 1) lv (.long (-x) :: st) ws) : V D X cells slots pc lv (.long x :: st) ws :=
  fun H locs ls hP hD hS hl => lv_lneg O.1 O.2.1 hdg (K H locs ls hP hD hS hl)
theorem v_i2l (O : Ok D X mt d kc ks) {x : Int32} (hdg : decode mt.2.1 pc = .ok (.i2l, 1)) (K : V D X cells slots (pc + 1) lv (.long x.toInt64 :: st) ws) : V D X cells slots pc lv (.int x :: st) ws :=
  fun H locs ls hP hD hS hl => lv_i2l O.1 O.2.1 hdg rfl (K H locs ls hP hD hS hl)
theorem v_l2i (O : Ok D X mt d kc ks) {x : Int64} (hdg : decode mt.2.1 pc = .ok (.l2i, 1)) (K : V D X cells slots (pc + 1) lv (.int x.toInt32 :: st) ws) : V D X cells slots pc lv (.long x :: st) ws :=
  fun H locs ls hP hD hS hl => lv_l2i O.1 O.2.1 hdg rfl (K H locs ls hP hD hS hl)
theorem v_i2b (O : Ok D X mt d kc ks) {x : Int32} (hdg : decode mt.2.1 pc = .ok (.i2b, 1)) (K : V D X cells slots (pc + 1) lv (.int x.toInt8.toInt32 :: st) ws) : V D X cells slots pc lv (.int x :: st) ws :=
  fun H locs ls hP hD hS hl => lv_i2b O.1 O.2.1 hdg rfl (K H locs ls hP hD hS hl)
theorem v_i2s (O : Ok D X mt d kc ks) {x : Int32} (hdg : decode mt.2.1 pc = .ok (.i2s, 1)) (K : V D X cells slots (pc + 1) lv (.int x.toInt16.toInt32 :: st) ws) : V D X cells slots pc lv (.int x :: st) ws :=
  fun H locs ls hP hD hS hl => lv_i2s O.1 O.2.1 hdg rfl (K H locs ls hP hD hS hl)
theorem v_i2c (O : Ok D X mt d kc ks) {x : Int32} (hdg : decode mt.2.1 pc = .ok (.i2c, 1)) (K : V D X cells slots (pc + 1) lv (.int (x.toUInt32 % 65536).toInt32 :: st) ws) : V D X cells slots pc lv (.int x :: st) ws :=
  fun H locs ls hP hD hS hl => lv_i2c O.1 O.2.1 hdg rfl (K H locs ls hP hD hS hl)
theorem v_lshl (O : Ok D X mt d kc ks) {x : Int64} {y : Int32} (hdg : decode mt.2.1 pc = .ok (.lshl, 1)) (K : V D X cells slots (pc + 1) lv (.long (x <<< (y.toInt64 &&& 63)) :: st) ws) : V D X cells slots pc lv (.int y :: .long x :: st) ws :=
  fun H locs ls hP hD hS hl => lv_lshl O.1 O.2.1 hdg rfl (K H locs ls hP hD hS hl)
theorem v_lushr (O : Ok D X mt d kc ks) {x : Int64} {y : Int32} (hdg : decode mt.2.1 pc = .ok (.lushr, 1)) (K : V D X cells slots (pc + 1) lv (.long (x.toUInt64 >>> (y.toInt64.toUInt64 &&& Int64.toUInt64 63)).toInt64 :: st) ws) : V D X cells slots pc lv (.int y :: .long x :: st) ws :=
  fun H locs ls hP hD hS hl => lv_lushr O.1 O.2.1 hdg rfl (K H locs ls hP hD hS hl)
theorem v_lcmp (O : Ok D X mt d kc ks) {x y : Int64} (hdg : decode mt.2.1 pc = .ok (.lcmp, 1)) (K : V D X cells slots (pc + 1) lv (.int (lg_cmp x y) :: st) ws) : V D X cells slots pc lv (.long y :: .long x :: st) ws :=
  fun H locs ls hP hD hS hl => W.lcmp O.1 O.2.1 hdg (K H locs ls hP hD hS hl)
theorem v_dup (O : Ok D X mt d kc ks) {va : Value} (hdg : decode mt.2.1 pc = .ok (.dup, 1)) (hva : va.category = 1) (K : V D X cells slots (pc + 1) lv (va :: va :: st) ws) : V D X cells slots pc lv (va :: st) ws :=
  fun H locs ls hP hD hS hl => lv_dup O.1 O.2.1 hdg hva (K H locs ls hP hD hS hl)
theorem v_pop (O : Ok D X mt d kc ks) {va : Value} (hdg : decode mt.2.1 pc = .ok (.pop, 1)) (hva : va.category = 1) (K : V D X cells slots (pc + 1) lv (st) ws) : V D X cells slots pc lv (va :: st) ws :=
  fun H locs ls hP hD hS hl => lv_pop O.1 O.2.1 hdg hva (K H locs ls hP hD hS hl)
theorem v_dup_x1 (O : Ok D X mt d kc ks) {va vb : Value} (hdg : decode mt.2.1 pc = .ok (.dup_x1, 1)) (hva : va.category = 1) (hvb : vb.category = 1) (K : V D X cells slots (pc + 1) lv (va :: vb :: va :: st) ws) : V D X cells slots pc lv (va :: vb :: st) ws :=
  fun H locs ls hP hD hS hl => lv_dup_x1 O.1 O.2.1 hdg hva hvb (K H locs ls hP hD hS hl)
theorem v_dup2 (O : Ok D X mt d kc ks) {va vb : Value} (hdg : decode mt.2.1 pc = .ok (.dup2, 1)) (hva : va.category = 1) (hvb : vb.category = 1) (K : V D X cells slots (pc + 1) lv (va :: vb :: va :: vb :: st) ws) : V D X cells slots pc lv (va :: vb :: st) ws :=
  fun H locs ls hP hD hS hl => lv_dup2_11 O.1 O.2.1 hdg hva hvb (K H locs ls hP hD hS hl)
theorem v_iconst (O : Ok D X mt d kc ks) {n : Int} {v : Int32} (hdg : decode mt.2.1 pc = .ok (.iconst n, 1)) (hv : Int32.ofInt n = v) (K : V D X cells slots (pc + 1) lv (.int v :: st) ws) : V D X cells slots pc lv (st) ws :=
  fun H locs ls hP hD hS hl => lv_iconst O.1 O.2.1 hdg hv (K H locs ls hP hD hS hl)
theorem v_bipush (O : Ok D X mt d kc ks) {n : Int} {v : Int32} (hdg : decode mt.2.1 pc = .ok (.bipush n, 2)) (hv : (Int8.ofInt n).toInt32 = v) (K : V D X cells slots (pc + 2) lv (.int v :: st) ws) : V D X cells slots pc lv (st) ws :=
  fun H locs ls hP hD hS hl => lv_bipush O.1 O.2.1 hdg hv (K H locs ls hP hD hS hl)
theorem v_sipush (O : Ok D X mt d kc ks) {n : Int} {v : Int32} (hdg : decode mt.2.1 pc = .ok (.sipush n, 3)) (hv : (Int16.ofInt n).toInt32 = v) (K : V D X cells slots (pc + 3) lv (.int v :: st) ws) : V D X cells slots pc lv (st) ws :=
  fun H locs ls hP hD hS hl => lv_sipush O.1 O.2.1 hdg hv (K H locs ls hP hD hS hl)
theorem v_lconst (O : Ok D X mt d kc ks) {n : Fin 2} {v : Int64} (hdg : decode mt.2.1 pc = .ok (.lconst n, 1)) (hv : Int64.ofNat (n : Nat) = v) (K : V D X cells slots (pc + 1) lv (.long v :: st) ws) : V D X cells slots pc lv (st) ws :=
  fun H locs ls hP hD hS hl => lv_lconst O.1 O.2.1 hdg hv (K H locs ls hP hD hS hl)
theorem v_null (O : Ok D X mt d kc ks)  (hdg : decode mt.2.1 pc = .ok (.aconst_null, 1)) (K : V D X cells slots (pc + 1) lv (.null :: st) ws) : V D X cells slots pc lv (st) ws :=
  fun H locs ls hP hD hS hl => lv_null O.1 O.2.1 hdg (K H locs ls hP hD hS hl)
theorem v_ldc (O : Ok D X mt d kc ks) {index : Nat} {v : Int32} (hw : Cond.constant mt.1.cls index v ∈ Wd) (hdg : decode mt.2.1 pc = .ok (.ldc index, 2)) (K : V D X cells slots (pc + 2) lv (.int v :: st) ws) : V D X cells slots pc lv st ws :=
  fun H locs ls hP hD hS hl => lv_ldc O.1 O.2.1 O.2.2.2.2.2.1 (O.2.2.2.2.2.2.1 _ hw) hdg (K H locs ls hP hD hS hl)
theorem v_ldcw (O : Ok D X mt d kc ks) {index : Nat} {v : Int32} (hw : Cond.constant mt.1.cls index v ∈ Wd) (hdg : decode mt.2.1 pc = .ok (.ldc_w index, 3)) (K : V D X cells slots (pc + 3) lv (.int v :: st) ws) : V D X cells slots pc lv st ws := by
  intro H locs ls hP hD hS hl T hT X0
  obtain ⟨t, a, b⟩ := K H locs ls hP hD hS hl T hT X0
  exact ⟨t, va_ldcwI X0 O.1 O.2.2.2.2.2.1 (O.2.2.2.2.2.2.1 _ hw) (g := F0 (cx_m X) pc ls st) rfl (by rw [O.2.1]; exact hdg) t a, b⟩
theorem v_ldc2 (O : Ok D X mt d kc ks) {index : Nat} {v : Int64} (hw : Cond.constantLong mt.1.cls index v ∈ Wd) (hdg : decode mt.2.1 pc = .ok (.ldc2_w index, 3)) (K : V D X cells slots (pc + 3) lv (.long v :: st) ws) : V D X cells slots pc lv st ws :=
  fun H locs ls hP hD hS hl => lv_ldc2 O.1 O.2.1 O.2.2.2.2.2.1 (O.2.2.2.2.2.2.1 _ hw) hdg (K H locs ls hP hD hS hl)
theorem v_ldcS (O : Ok D X mt d kc ks) (i : Nat) (hi : i < 7) (hm : mt.1.cls = RX7) (hdg : decode mt.2.1 pc = .ok (.ldc (x_stI i), 2)) (K : V D X cells slots (pc + 2) lv (.ref (D.2.2 (10 + i)) :: st) ws) : V D X cells slots pc lv st ws :=
  fun H locs ls hP hD hS hl => va_ldcS O.1 O.2.1 (by rw [← hm]; exact O.2.2.2.2.2.1) (O.2.2.2.2.2.2.2.2.2.2.1.2.2.2.2.2.2.1 i hi) hdg (K H locs ls hP hD hS hl)
theorem v_iload_n (O : Ok D X mt d kc ks) {k : Fin 4} {x : Int32} (hdg : decode mt.2.1 pc = .ok (.iload_n k, 1)) (j : Nat) (hj : lv[j]? = some ((k : Nat), .int x)) (K : V D X cells slots (pc + 1) lv (.int x :: st) ws) : V D X cells slots pc lv st ws :=
  fun H locs ls hP hD hS hl => lv_iload_n O.1 O.2.1 hdg rfl (lv_at hl j hj) (K H locs ls hP hD hS hl)
theorem v_iload (O : Ok D X mt d kc ks) {i : Nat} {x : Int32} (hdg : decode mt.2.1 pc = .ok (.iload i, 2)) (j : Nat) (hj : lv[j]? = some (i, .int x)) (K : V D X cells slots (pc + 2) lv (.int x :: st) ws) : V D X cells slots pc lv st ws :=
  fun H locs ls hP hD hS hl => lv_iload O.1 O.2.1 hdg (lv_at hl j hj) (K H locs ls hP hD hS hl)
theorem v_istore_n (O : Ok D X mt d kc ks) {k : Fin 4} {x : Int32} {lv' : List (Nat × Value)} (hdg : decode mt.2.1 pc = .ok (.istore_n k, 1)) (hn : (k : Nat) < mt.2.2.1) (he : lvset (k : Nat) (.int x) lv = lv') (K : V D X cells slots (pc + 1) lv' st ws) : V D X cells slots pc lv (.int x :: st) ws :=
  fun H locs ls hP hD hS hl => lv_istore_n O.1 O.2.1 hdg rfl hl (by rw [O.2.2.2.2.1]; exact hn) rfl (fun ls' hl' => K H locs ls' hP hD hS (lv_of1 rfl hl' he))
theorem v_istore (O : Ok D X mt d kc ks) {i : Nat} {x : Int32} {lv' : List (Nat × Value)} (hdg : decode mt.2.1 pc = .ok (.istore i, 2)) (hn : i < mt.2.2.1) (he : lvset i (.int x) lv = lv') (K : V D X cells slots (pc + 2) lv' st ws) : V D X cells slots pc lv (.int x :: st) ws :=
  fun H locs ls hP hD hS hl => lv_istore O.1 O.2.1 hdg hl (by rw [O.2.2.2.2.1]; exact hn) rfl (fun ls' hl' => K H locs ls' hP hD hS (lv_of1 rfl hl' he))
theorem v_lload_n (O : Ok D X mt d kc ks) {k : Fin 4} {x : Int64} (hdg : decode mt.2.1 pc = .ok (.lload_n k, 1)) (j : Nat) (hj : lv[j]? = some ((k : Nat), .long x)) (K : V D X cells slots (pc + 1) lv (.long x :: st) ws) : V D X cells slots pc lv st ws :=
  fun H locs ls hP hD hS hl => lv_lload_n O.1 O.2.1 hdg rfl (lv_at hl j hj) (K H locs ls hP hD hS hl)
theorem v_lload (O : Ok D X mt d kc ks) {i : Nat} {x : Int64} (hdg : decode mt.2.1 pc = .ok (.lload i, 2)) (j : Nat) (hj : lv[j]? = some (i, .long x)) (K : V D X cells slots (pc + 2) lv (.long x :: st) ws) : V D X cells slots pc lv st ws :=
  fun H locs ls hP hD hS hl => lv_lload O.1 O.2.1 hdg (lv_at hl j hj) (K H locs ls hP hD hS hl)
theorem v_lstore_n (O : Ok D X mt d kc ks) {k : Fin 4} {x : Int64} {lv' : List (Nat × Value)} (hdg : decode mt.2.1 pc = .ok (.lstore_n k, 1)) (hn : (k : Nat) + 1 < mt.2.2.1) (he : lvset (k : Nat) (.long x) lv = lv') (K : V D X cells slots (pc + 1) lv' st ws) : V D X cells slots pc lv (.long x :: st) ws :=
  fun H locs ls hP hD hS hl => lv_lstore_n O.1 O.2.1 hdg rfl hl (by rw [O.2.2.2.2.1]; exact hn) rfl (fun ls' hl' => K H locs ls' hP hD hS (lv_of2 rfl hl' he))
theorem v_lstore (O : Ok D X mt d kc ks) {i : Nat} {x : Int64} {lv' : List (Nat × Value)} (hdg : decode mt.2.1 pc = .ok (.lstore i, 2)) (hn : i + 1 < mt.2.2.1) (he : lvset i (.long x) lv = lv') (K : V D X cells slots (pc + 2) lv' st ws) : V D X cells slots pc lv (.long x :: st) ws :=
  fun H locs ls hP hD hS hl => lv_lstore O.1 O.2.1 hdg hl (by rw [O.2.2.2.2.1]; exact hn) rfl (fun ls' hl' => K H locs ls' hP hD hS (lv_of2 rfl hl' he))
theorem v_aload_n (O : Ok D X mt d kc ks) {k : Fin 4} {x : Nat} (hdg : decode mt.2.1 pc = .ok (.aload_n k, 1)) (j : Nat) (hj : lv[j]? = some ((k : Nat), .ref x)) (K : V D X cells slots (pc + 1) lv (.ref x :: st) ws) : V D X cells slots pc lv st ws :=
  fun H locs ls hP hD hS hl => lv_aload_n O.1 O.2.1 hdg rfl (lv_at hl j hj) (K H locs ls hP hD hS hl)
theorem v_aload (O : Ok D X mt d kc ks) {i : Nat} {x : Nat} (hdg : decode mt.2.1 pc = .ok (.aload i, 2)) (j : Nat) (hj : lv[j]? = some (i, .ref x)) (K : V D X cells slots (pc + 2) lv (.ref x :: st) ws) : V D X cells slots pc lv st ws :=
  fun H locs ls hP hD hS hl => lv_aload O.1 O.2.1 hdg (lv_at hl j hj) (K H locs ls hP hD hS hl)
theorem v_astore_n (O : Ok D X mt d kc ks) {k : Fin 4} {x : Nat} {lv' : List (Nat × Value)} (hdg : decode mt.2.1 pc = .ok (.astore_n k, 1)) (hn : (k : Nat) < mt.2.2.1) (he : lvset (k : Nat) (.ref x) lv = lv') (K : V D X cells slots (pc + 1) lv' st ws) : V D X cells slots pc lv (.ref x :: st) ws :=
  fun H locs ls hP hD hS hl => lv_astore_n O.1 O.2.1 hdg rfl hl (by rw [O.2.2.2.2.1]; exact hn) rfl (fun ls' hl' => K H locs ls' hP hD hS (lv_of1 rfl hl' he))
theorem v_astore (O : Ok D X mt d kc ks) {i : Nat} {x : Nat} {lv' : List (Nat × Value)} (hdg : decode mt.2.1 pc = .ok (.astore i, 2)) (hn : i < mt.2.2.1) (he : lvset i (.ref x) lv = lv') (K : V D X cells slots (pc + 2) lv' st ws) : V D X cells slots pc lv (.ref x :: st) ws :=
  fun H locs ls hP hD hS hl => lv_astore O.1 O.2.1 hdg hl (by rw [O.2.2.2.2.1]; exact hn) rfl (fun ls' hl' => K H locs ls' hP hD hS (lv_of1 rfl hl' he))
theorem v_aload_nN (O : Ok D X mt d kc ks) {k : Fin 4} (hdg : decode mt.2.1 pc = .ok (.aload_n k, 1)) (j : Nat) (hj : lv[j]? = some ((k : Nat), .null)) (K : V D X cells slots (pc + 1) lv (.null :: st) ws) : V D X cells slots pc lv st ws :=
  fun H locs ls hP hD hS hl => lv_aload_nN O.1 O.2.1 hdg rfl (lv_at hl j hj) (K H locs ls hP hD hS hl)
theorem v_aloadN (O : Ok D X mt d kc ks) {i : Nat} (hdg : decode mt.2.1 pc = .ok (.aload i, 2)) (j : Nat) (hj : lv[j]? = some (i, .null)) (K : V D X cells slots (pc + 2) lv (.null :: st) ws) : V D X cells slots pc lv st ws :=
  fun H locs ls hP hD hS hl => lv_aloadN O.1 O.2.1 hdg (lv_at hl j hj) (K H locs ls hP hD hS hl)
theorem v_astore_nN (O : Ok D X mt d kc ks) {k : Fin 4} {lv' : List (Nat × Value)} (hdg : decode mt.2.1 pc = .ok (.astore_n k, 1)) (hn : (k : Nat) < mt.2.2.1) (he : lvset (k : Nat) .null lv = lv') (K : V D X cells slots (pc + 1) lv' st ws) : V D X cells slots pc lv (.null :: st) ws :=
  fun H locs ls hP hD hS hl => lv_astore_nN O.1 O.2.1 hdg rfl hl (by rw [O.2.2.2.2.1]; exact hn) rfl (fun ls' hl' => K H locs ls' hP hD hS (lv_of1 rfl hl' he))
theorem v_astoreN (O : Ok D X mt d kc ks) {i : Nat} {lv' : List (Nat × Value)} (hdg : decode mt.2.1 pc = .ok (.astore i, 2)) (hn : i < mt.2.2.1) (he : lvset i .null lv = lv') (K : V D X cells slots (pc + 2) lv' st ws) : V D X cells slots pc lv (.null :: st) ws :=
  fun H locs ls hP hD hS hl => lv_astoreN O.1 O.2.1 hdg hl (by rw [O.2.2.2.2.1]; exact hn) rfl (fun ls' hl' => K H locs ls' hP hD hS (lv_of1 rfl hl' he))
theorem v_iinc (O : Ok D X mt d kc ks) {i : Nat} {n : Int} {x v : Int32} {lv' : List (Nat × Value)} (hdg : decode mt.2.1 pc = .ok (.iinc i n, 3)) (j : Nat) (hj : lv[j]? = some (i, .int x)) (hv : x + Int32.ofInt n = v) (hn : i < mt.2.2.1) (he : lvset i (.int v) lv = lv') (K : V D X cells slots (pc + 3) lv' st ws) : V D X cells slots pc lv st ws :=
  fun H locs ls hP hD hS hl => lv_iinc O.1 O.2.1 hdg hl hj hv (by rw [O.2.2.2.2.1]; exact hn) rfl (fun ls' hl' => K H locs ls' hP hD hS (lv_of1 rfl hl' he))
theorem v_if_eq (O : Ok D X mt d kc ks) {x : Int32} {off : Int} (tgt : Nat) (hdg : decode mt.2.1 pc = .ok (.ifCond .eq off, 3)) (ht : (pc : Int) + off = (tgt : Int)) (kt : x = 0 → V D X cells slots tgt lv st ws) (kf : ¬ (x = 0) → V D X cells slots (pc + 3) lv st ws) : V D X cells slots pc lv (.int x :: st) ws :=
  fun H locs ls hP hD hS hl => lv_if_eq O.1 O.2.1 hdg ht (fun h => kt h H locs ls hP hD hS hl) (fun h => kf h H locs ls hP hD hS hl)
theorem v_icmp_eq (O : Ok D X mt d kc ks) {x y : Int32} {off : Int} (tgt : Nat) (hdg : decode mt.2.1 pc = .ok (.if_icmp .eq off, 3)) (ht : (pc : Int) + off = (tgt : Int)) (kt : x = y → V D X cells slots tgt lv st ws) (kf : ¬ (x = y) → V D X cells slots (pc + 3) lv st ws) : V D X cells slots pc lv (.int y :: .int x :: st) ws :=
  fun H locs ls hP hD hS hl => lv_icmp_eq O.1 O.2.1 hdg ht (fun h => kt h H locs ls hP hD hS hl) (fun h => kf h H locs ls hP hD hS hl)
theorem v_if_lt (O : Ok D X mt d kc ks) {x : Int32} {off : Int} (tgt : Nat) (hdg : decode mt.2.1 pc = .ok (.ifCond .lt off, 3)) (ht : (pc : Int) + off = (tgt : Int)) (kt : x < 0 → V D X cells slots tgt lv st ws) (kf : ¬ (x < 0) → V D X cells slots (pc + 3) lv st ws) : V D X cells slots pc lv (.int x :: st) ws :=
  fun H locs ls hP hD hS hl => lv_if_lt O.1 O.2.1 hdg ht (fun h => kt h H locs ls hP hD hS hl) (fun h => kf h H locs ls hP hD hS hl)
theorem v_icmp_lt (O : Ok D X mt d kc ks) {x y : Int32} {off : Int} (tgt : Nat) (hdg : decode mt.2.1 pc = .ok (.if_icmp .lt off, 3)) (ht : (pc : Int) + off = (tgt : Int)) (kt : x < y → V D X cells slots tgt lv st ws) (kf : ¬ (x < y) → V D X cells slots (pc + 3) lv st ws) : V D X cells slots pc lv (.int y :: .int x :: st) ws :=
  fun H locs ls hP hD hS hl => lv_icmp_lt O.1 O.2.1 hdg ht (fun h => kt h H locs ls hP hD hS hl) (fun h => kf h H locs ls hP hD hS hl)
theorem v_if_ge (O : Ok D X mt d kc ks) {x : Int32} {off : Int} (tgt : Nat) (hdg : decode mt.2.1 pc = .ok (.ifCond .ge off, 3)) (ht : (pc : Int) + off = (tgt : Int)) (kt : 0 ≤ x → V D X cells slots tgt lv st ws) (kf : ¬ (0 ≤ x) → V D X cells slots (pc + 3) lv st ws) : V D X cells slots pc lv (.int x :: st) ws :=
  fun H locs ls hP hD hS hl => lv_if_ge O.1 O.2.1 hdg ht (fun h => kt h H locs ls hP hD hS hl) (fun h => kf h H locs ls hP hD hS hl)
theorem v_icmp_ge (O : Ok D X mt d kc ks) {x y : Int32} {off : Int} (tgt : Nat) (hdg : decode mt.2.1 pc = .ok (.if_icmp .ge off, 3)) (ht : (pc : Int) + off = (tgt : Int)) (kt : y ≤ x → V D X cells slots tgt lv st ws) (kf : ¬ (y ≤ x) → V D X cells slots (pc + 3) lv st ws) : V D X cells slots pc lv (.int y :: .int x :: st) ws :=
  fun H locs ls hP hD hS hl => lv_icmp_ge O.1 O.2.1 hdg ht (fun h => kt h H locs ls hP hD hS hl) (fun h => kf h H locs ls hP hD hS hl)
theorem v_if_gt (O : Ok D X mt d kc ks) {x : Int32} {off : Int} (tgt : Nat) (hdg : decode mt.2.1 pc = .ok (.ifCond .gt off, 3)) (ht : (pc : Int) + off = (tgt : Int)) (kt : 0 < x → V D X cells slots tgt lv st ws) (kf : ¬ (0 < x) → V D X cells slots (pc + 3) lv st ws) : V D X cells slots pc lv (.int x :: st) ws :=
  fun H locs ls hP hD hS hl => lv_if_gt O.1 O.2.1 hdg ht (fun h => kt h H locs ls hP hD hS hl) (fun h => kf h H locs ls hP hD hS hl)
theorem v_icmp_gt (O : Ok D X mt d kc ks) {x y : Int32} {off : Int} (tgt : Nat) (hdg : decode mt.2.1 pc = .ok (.if_icmp .gt off, 3)) (ht : (pc : Int) + off = (tgt : Int)) (kt : y < x → V D X cells slots tgt lv st ws) (kf : ¬ (y < x) → V D X cells slots (pc + 3) lv st ws) : V D X cells slots pc lv (.int y :: .int x :: st) ws :=
  fun H locs ls hP hD hS hl => lv_icmp_gt O.1 O.2.1 hdg ht (fun h => kt h H locs ls hP hD hS hl) (fun h => kf h H locs ls hP hD hS hl)
theorem v_if_le (O : Ok D X mt d kc ks) {x : Int32} {off : Int} (tgt : Nat) (hdg : decode mt.2.1 pc = .ok (.ifCond .le off, 3)) (ht : (pc : Int) + off = (tgt : Int)) (kt : x ≤ 0 → V D X cells slots tgt lv st ws) (kf : ¬ (x ≤ 0) → V D X cells slots (pc + 3) lv st ws) : V D X cells slots pc lv (.int x :: st) ws :=
  fun H locs ls hP hD hS hl => lv_if_le O.1 O.2.1 hdg ht (fun h => kt h H locs ls hP hD hS hl) (fun h => kf h H locs ls hP hD hS hl)
theorem v_icmp_le (O : Ok D X mt d kc ks) {x y : Int32} {off : Int} (tgt : Nat) (hdg : decode mt.2.1 pc = .ok (.if_icmp .le off, 3)) (ht : (pc : Int) + off = (tgt : Int)) (kt : x ≤ y → V D X cells slots tgt lv st ws) (kf : ¬ (x ≤ y) → V D X cells slots (pc + 3) lv st ws) : V D X cells slots pc lv (.int y :: .int x :: st) ws :=
  fun H locs ls hP hD hS hl => lv_icmp_le O.1 O.2.1 hdg ht (fun h => kt h H locs ls hP hD hS hl) (fun h => kf h H locs ls hP hD hS hl)
theorem v_if_ne (O : Ok D X mt d kc ks) {x : Int32} {off : Int} (tgt : Nat) (hdg : decode mt.2.1 pc = .ok (.ifCond .ne off, 3)) (ht : (pc : Int) + off = (tgt : Int)) (kt : ¬ x = 0 → V D X cells slots tgt lv st ws) (kf : x = 0 → V D X cells slots (pc + 3) lv st ws) : V D X cells slots pc lv (.int x :: st) ws :=
  fun H locs ls hP hD hS hl => lv_if_ne O.1 O.2.1 hdg ht (fun h => kt h H locs ls hP hD hS hl) (fun h => kf h H locs ls hP hD hS hl)
theorem v_icmp_ne (O : Ok D X mt d kc ks) {x y : Int32} {off : Int} (tgt : Nat) (hdg : decode mt.2.1 pc = .ok (.if_icmp .ne off, 3)) (ht : (pc : Int) + off = (tgt : Int)) (kt : ¬ x = y → V D X cells slots tgt lv st ws) (kf : x = y → V D X cells slots (pc + 3) lv st ws) : V D X cells slots pc lv (.int y :: .int x :: st) ws :=
  fun H locs ls hP hD hS hl => lv_icmp_ne O.1 O.2.1 hdg ht (fun h => kt h H locs ls hP hD hS hl) (fun h => kf h H locs ls hP hD hS hl)
theorem v_goto (O : Ok D X mt d kc ks) {off : Int} (tgt : Nat) (hdg : decode mt.2.1 pc = .ok (.goto off, 3)) (ht : (pc : Int) + off = (tgt : Int)) (K : V D X cells slots tgt lv st ws) : V D X cells slots pc lv st ws :=
  fun H locs ls hP hD hS hl => lv_goto O.1 O.2.1 hdg ht (K H locs ls hP hD hS hl)
theorem v_ifnull (O : Ok D X mt d kc ks) {x : Nat} {off : Int} (hdg : decode mt.2.1 pc = .ok (.ifnull off, 3)) (K : V D X cells slots (pc + 3) lv st ws) : V D X cells slots pc lv (.ref x :: st) ws :=
  fun H locs ls hP hD hS hl => lv_ifnull O.1 O.2.1 hdg (K H locs ls hP hD hS hl)
theorem v_ifnullN (O : Ok D X mt d kc ks) {off : Int} (tgt : Nat) (hdg : decode mt.2.1 pc = .ok (.ifnull off, 3)) (ht : (pc : Int) + off = (tgt : Int)) (K : V D X cells slots tgt lv st ws) : V D X cells slots pc lv (.null :: st) ws :=
  fun H locs ls hP hD hS hl => lv_ifnullN O.1 O.2.1 hdg ht (K H locs ls hP hD hS hl)
theorem v_ifnonnull (O : Ok D X mt d kc ks) {x : Nat} {off : Int} (tgt : Nat) (hdg : decode mt.2.1 pc = .ok (.ifnonnull off, 3)) (ht : (pc : Int) + off = (tgt : Int)) (K : V D X cells slots tgt lv st ws) : V D X cells slots pc lv (.ref x :: st) ws :=
  fun H locs ls hP hD hS hl => lv_ifnonnull O.1 O.2.1 hdg ht (K H locs ls hP hD hS hl)
theorem v_ifnonnullN (O : Ok D X mt d kc ks) {off : Int} (hdg : decode mt.2.1 pc = .ok (.ifnonnull off, 3)) (K : V D X cells slots (pc + 3) lv st ws) : V D X cells slots pc lv (.null :: st) ws :=
  fun H locs ls hP hD hS hl => lv_ifnonnullN O.1 O.2.1 hdg (K H locs ls hP hD hS hl)
theorem v_tsIn (O : Ok D X mt d kc ks) {dflt lo hi : Int} {offs : Array Int} {len : Nat} {x : Int32} {off : Int} (tgt : Nat) (hdg : decode mt.2.1 pc = .ok (.tableswitch dflt lo hi offs, len)) (h1 : ¬ x.toInt < lo) (h2 : ¬ hi < x.toInt) (ho : offs[(x.toInt - lo).toNat]? = some off) (ht : (pc : Int) + off = (tgt : Int)) (K : V D X cells slots tgt lv st ws) : V D X cells slots pc lv (.int x :: st) ws :=
  fun H locs ls hP hD hS hl => lv_tableIn O.1 O.2.1 hdg h1 h2 ho ht (K H locs ls hP hD hS hl)
theorem v_tsOut (O : Ok D X mt d kc ks) {dflt lo hi : Int} {offs : Array Int} {len : Nat} {x : Int32} (tgt : Nat) (hdg : decode mt.2.1 pc = .ok (.tableswitch dflt lo hi offs, len)) (h : x.toInt < lo ∨ hi < x.toInt) (ht : (pc : Int) + dflt = (tgt : Int)) (K : V D X cells slots tgt lv st ws) : V D X cells slots pc lv (.int x :: st) ws :=
  fun H locs ls hP hD hS hl => lv_tableOut O.1 O.2.1 hdg h ht (K H locs ls hP hD hS hl)
theorem v_lks (O : Ok D X mt d kc ks) {dflt : Int} {ps : Array (Int × Int)} {len : Nat} {x : Int32} {off : Int} (tgt : Nat) (hdg : decode mt.2.1 pc = .ok (.lookupswitch dflt ps, len)) (hp : (ps.toList.zip (ps.toList.drop 1)).all (fun (a, next) => a.1 < next.1) = true) (ho : Op.lookupswitch.offset ps.toList dflt x.toInt = off) (ht : (pc : Int) + off = (tgt : Int)) (K : V D X cells slots tgt lv st ws) : V D X cells slots pc lv (.int x :: st) ws :=
  fun H locs ls hP hD hS hl => lv_lookup O.1 O.2.1 hdg hp ho ht (K H locs ls hP hD hS hl)
theorem v_get (O : Ok D X mt d kc ks) {ref C : String} {T : u_T} {N ci k index a : Nat} (hin : ∀ w ∈ u_ws C T N, w ∈ Wd) (hc : vwCl[ci]? = some (C, T, N)) (hk : k < N) (hl : Cond.fieldLink mt.1.cls index ref (T k).2.1 (T k).2.2.1 ∈ Wd) (hsame : (T k).1 = ref) (hdg : decode mt.2.1 pc = .ok (.getfield index, 3))
    (q0 : Nat) {fs : List Value} (he : ws[q0]? = some (a, .inr (ci, fs))) {v : Value} (hv : fs[k]? = some v) (K : V D X cells slots (pc + 3) lv (v :: st) ws) : V D X cells slots pc lv (.ref a :: st) ws :=
  fun H locs ls hP hD hS hlv => va_get O.1 O.2.1 O.2.2.2.2.2.2.1 hin O.2.2.2.2.2.1 O.2.2.2.2.2.2.2.1 hP q0 he hc k hk (O.2.2.2.2.2.2.1 _ hl) (fun x h => by rw [← hsame]; exact h) hv hdg (K H locs ls hP hD hS hlv)
theorem v_put (O : Ok D X mt d kc ks) {ref C : String} {T : u_T} {N ci k index a : Nat} (hin : ∀ w ∈ u_ws C T N, w ∈ Wd) (ty0 : Nat → FieldType) (hty : ∀ k, k < N → parseFieldDescriptor (T k).2.2.1 = some (ty0 k)) (hnm : ∀ a, a < N → ∀ b, b < N → a ≠ b → (T a).2.1 ≠ (T b).2.1) (hc : vwCl[ci]? = some (C, T, N)) (hk : k < N) (hl : Cond.fieldLink mt.1.cls index ref (T k).2.1 (T k).2.2.1 ∈ Wd) (hsame : (T k).1 = ref) (hfin : (T k).2.2.2 = false) {ty : FieldType} (hd : parseFieldDescriptor (T k).2.2.1 = some ty) (hdg : decode mt.2.1 pc = .ok (.putfield index, 3))
    (q0 : Nat) {fs fs' : List Value} {v : Value} (he : ws[q0]? = some (a, .inr (ci, fs))) (hn : narrow ty v = v) (hfit : fits ty v = true) (hlen : k < fs.length) (hfs : fs.set k v = fs') {ws' : va_W} (hws : ws.set q0 (a, .inr (ci, fs')) = ws') (K : V D X cells slots (pc + 3) lv st ws') : V D X cells slots pc lv (v :: .ref a :: st) ws := by
  subst hfs; subst hws
  exact fun H locs ls hP hD hS hlv => va_put O.1 O.2.1 O.2.2.2.2.2.2.1 hin ty0 hty hnm O.2.2.2.2.2.1 O.2.2.2.2.2.2.2.1 hP hD hS q0 he hc k hk (O.2.2.2.2.2.2.1 _ hl) (fun x h => by rw [← hsame]; exact h) hfin hd hn hfit hlen hdg (fun H1 locs1 hP1 hD1 hS1 => K H1 locs1 ls hP1 hD1 hS1 hlv)
theorem v_putF (O : Ok D X mt d kc ks) {ref C : String} {T : u_T} {N ci k index a : Nat} (hin : ∀ w ∈ u_ws C T N, w ∈ Wd) (ty0 : Nat → FieldType) (hty : ∀ k, k < N → parseFieldDescriptor (T k).2.2.1 = some (ty0 k)) (hnm : ∀ a, a < N → ∀ b, b < N → a ≠ b → (T a).2.1 ≠ (T b).2.1) (hc : vwCl[ci]? = some (C, T, N)) (hk : k < N) (hl : Cond.fieldLink mt.1.cls index ref (T k).2.1 (T k).2.2.1 ∈ Wd) (hsame : (T k).1 = ref) (hfin : (T k).2.2.2 = true) (hini : mt.1.name = "<init>") (hdecl : (T k).1 = mt.1.cls) {ty : FieldType} (hd : parseFieldDescriptor (T k).2.2.1 = some ty) (hdg : decode mt.2.1 pc = .ok (.putfield index, 3))
    (q0 : Nat) {fs fs' : List Value} {v : Value} (he : ws[q0]? = some (a, .inr (ci, fs))) (hn : narrow ty v = v) (hfit : fits ty v = true) (hlen : k < fs.length) (hfs : fs.set k v = fs') {ws' : va_W} (hws : ws.set q0 (a, .inr (ci, fs')) = ws') (K : V D X cells slots (pc + 3) lv st ws') : V D X cells slots pc lv (v :: .ref a :: st) ws := by
  subst hfs; subst hws
  exact fun H locs ls hP hD hS hlv => va_putF O.1 O.2.1 O.2.2.2.2.2.2.1 hin ty0 hty hnm O.2.2.2.2.2.1 O.2.2.2.2.2.2.2.1 hP hD hS q0 he hc k hk (O.2.2.2.2.2.2.1 _ hl) (fun x h => by rw [← hsame]; exact h) hfin (O.2.2.2.2.2.2.2.2.2.2.2.1.trans hini) hdecl hd hn hfit hlen hdg (fun H1 locs1 hP1 hD1 hS1 => K H1 locs1 ls hP1 hD1 hS1 hlv)
theorem v_getsA (O : Ok D X mt d kc ks) {index : Nat} (hl : Cond.fieldLink mt.1.cls index RX9 "ABOVE" "[I" ∈ Wd) (hdg : decode mt.2.1 pc = .ok (.getstatic index, 3)) (K : V D X cells slots (pc + 3) lv (.ref (D.2.2 0) :: st) ws) : V D X cells slots pc lv st ws :=
  fun H locs ls hP hD hS hlv => va_gets O.1 O.2.1 O.2.2.2.2.2.2.2.2.2.2.1.1 hS O.2.2.2.2.2.1 (O.2.2.2.2.2.2.1 _ hl) (fun x h => h) hdg (K H locs ls hP hD hS hlv)
theorem v_getsN (O : Ok D X mt d kc ks) {index : Nat} (hl : Cond.fieldLink mt.1.cls index RX0 "NUMBERS" "[I" ∈ Wd) (hdg : decode mt.2.1 pc = .ok (.getstatic index, 3)) (K : V D X cells slots (pc + 3) lv (.ref (D.2.2 1) :: st) ws) : V D X cells slots pc lv st ws :=
  fun H locs ls hP hD hS hlv => va_gets O.1 O.2.1 O.2.2.2.2.2.2.2.2.2.2.1.2.2.1 hS O.2.2.2.2.2.1 (O.2.2.2.2.2.2.1 _ hl) (fun x h => h) hdg (K H locs ls hP hD hS hlv)
theorem v_ialdA (O : Ok D X mt d kc ks) {i : Int32} (hin : vp_in i 7) (hdg : decode mt.2.1 pc = .ok (.iaload, 1)) (K : V D X cells slots (pc + 1) lv (.int (x_abv i.toNatClampNeg) :: st) ws) : V D X cells slots pc lv (.int i :: .ref (D.2.2 0) :: st) ws :=
  fun H locs ls hP hD hS hlv => va_ti O.1 O.2.1 O.2.2.2.2.2.2.2.2.2.2.1.2.1 hS hin rfl hdg (K H locs ls hP hD hS hlv)
theorem v_ialdN (O : Ok D X mt d kc ks) {i : Int32} (hin : vp_in i 21) (hdg : decode mt.2.1 pc = .ok (.iaload, 1)) (K : V D X cells slots (pc + 1) lv (.int (x_num i.toNatClampNeg) :: st) ws) : V D X cells slots pc lv (.int i :: .ref (D.2.2 1) :: st) ws :=
  fun H locs ls hP hD hS hlv => va_ti O.1 O.2.1 O.2.2.2.2.2.2.2.2.2.2.1.2.2.2.1 hS hin rfl hdg (K H locs ls hP hD hS hlv)
theorem v_alenT (O : Ok D X mt d kc ks) {t N : Nat} {f : Nat → Value} {ty : FieldType} (hT : va_T ty t N f (cx_A X) (cx_s X) (cx_s X).heap) (hdg : decode mt.2.1 pc = .ok (.arraylength, 1)) (K : V D X cells slots (pc + 1) lv (.int (nI N) :: st) ws) : V D X cells slots pc lv (.ref t :: st) ws := by
  intro H locs ls hP hD hS hlv
  obtain ⟨cell, h1, h2, h3, h4, h5, h6, h7⟩ := hT
  exact W.alen O.1 O.2.1 (by rw [hS.2.1 t (Array.getElem?_eq_some_iff.mp h1).1 h7]; exact h1) h2 h5 rfl rfl hdg (K H locs ls hP hD hS hlv)
theorem v_alenA (O : Ok D X mt d kc ks) (hdg : decode mt.2.1 pc = .ok (.arraylength, 1)) (K : V D X cells slots (pc + 1) lv (.int 7 :: st) ws) : V D X cells slots pc lv (.ref (D.2.2 0) :: st) ws := v_alenT O O.2.2.2.2.2.2.2.2.2.2.1.2.1 hdg K
theorem v_alenN (O : Ok D X mt d kc ks) (hdg : decode mt.2.1 pc = .ok (.arraylength, 1)) (K : V D X cells slots (pc + 1) lv (.int 21 :: st) ws) : V D X cells slots pc lv (.ref (D.2.2 1) :: st) ws := v_alenT O O.2.2.2.2.2.2.2.2.2.2.1.2.2.2.1 hdg K
theorem v_iald (O : Ok D X mt d kc ks) (hdg : decode mt.2.1 pc = .ok (.iaload, 1)) (q0 : Nat) {a n : Nat} {f : Nat → Int32} {i : Int32} (ha : ws[q0]? = some (a, eI D n f)) (hin : vp_in i n) (K : V D X cells slots (pc + 1) lv (.int (f i.toNatClampNeg) :: st) ws) : V D X cells slots pc lv (.int i :: .ref a :: st) ws :=
  fun H locs ls hP hD hS hlv => va_iald O.1 O.2.1 O.2.2.2.2.2.2.2.1 hP q0 0 ha rfl hin hdg (K H locs ls hP hD hS hlv)
theorem v_lald (O : Ok D X mt d kc ks) (hdg : decode mt.2.1 pc = .ok (.laload, 1)) (q0 : Nat) {a n : Nat} {f : Nat → Int64} {i : Int32} (ha : ws[q0]? = some (a, eJ D n f)) (hin : vp_in i n) (K : V D X cells slots (pc + 1) lv (.long (f i.toNatClampNeg) :: st) ws) : V D X cells slots pc lv (.int i :: .ref a :: st) ws :=
  fun H locs ls hP hD hS hlv => va_lald O.1 O.2.1 O.2.2.2.2.2.2.2.1 hP q0 3 ha rfl hin hdg (K H locs ls hP hD hS hlv)
theorem v_bald (O : Ok D X mt d kc ks) (hdg : decode mt.2.1 pc = .ok (.baload, 1)) (q0 : Nat) {a n : Nat} {f : Nat → Int32} {i : Int32} (ha : ws[q0]? = some (a, eB D n f)) (hin : vp_in i n) (K : V D X cells slots (pc + 1) lv (.int (f i.toNatClampNeg) :: st) ws) : V D X cells slots pc lv (.int i :: .ref a :: st) ws :=
  fun H locs ls hP hD hS hlv => va_bald O.1 O.2.1 O.2.2.2.2.2.2.2.1 hP q0 2 ha rfl hin hdg (K H locs ls hP hD hS hlv)
theorem v_zald (O : Ok D X mt d kc ks) (hdg : decode mt.2.1 pc = .ok (.baload, 1)) (q0 : Nat) {a n : Nat} {f : Nat → Int32} {i : Int32} (ha : ws[q0]? = some (a, eZ D n f)) (hin : vp_in i n) (K : V D X cells slots (pc + 1) lv (.int (f i.toNatClampNeg) :: st) ws) : V D X cells slots pc lv (.int i :: .ref a :: st) ws :=
  fun H locs ls hP hD hS hlv => va_zald O.1 O.2.1 O.2.2.2.2.2.2.2.1 hP q0 1 ha rfl hin hdg (K H locs ls hP hD hS hlv)
theorem v_aaldV (O : Ok D X mt d kc ks) (hdg : decode mt.2.1 pc = .ok (.aaload, 1)) (q0 : Nat) {a n : Nat} {f : Nat → Option Nat} {i : Int32} (ha : ws[q0]? = some (a, eV D n f)) (hin : vp_in i n) {v : Value} (hv : va_rf (f i.toNatClampNeg) = v) (K : V D X cells slots (pc + 1) lv (v :: st) ws) : V D X cells slots pc lv (.int i :: .ref a :: st) ws := by
  subst hv
  exact fun H locs ls hP hD hS hlv => va_aldq O.1 O.2.1 O.2.2.2.2.2.2.2.1 hP q0 4 ha rfl hin hdg (K H locs ls hP hD hS hlv)
theorem v_aaldT (O : Ok D X mt d kc ks) (hdg : decode mt.2.1 pc = .ok (.aaload, 1)) (q0 : Nat) {a n : Nat} {f : Nat → Option Nat} {i : Int32} (ha : ws[q0]? = some (a, eT D n f)) (hin : vp_in i n) {v : Value} (hv : va_rf (f i.toNatClampNeg) = v) (K : V D X cells slots (pc + 1) lv (v :: st) ws) : V D X cells slots pc lv (.int i :: .ref a :: st) ws := by
  subst hv
  exact fun H locs ls hP hD hS hlv => va_aldq O.1 O.2.1 O.2.2.2.2.2.2.2.1 hP q0 5 ha rfl hin hdg (K H locs ls hP hD hS hlv)
theorem v_iast (O : Ok D X mt d kc ks) (hdg : decode mt.2.1 pc = .ok (.iastore, 1)) (q0 : Nat) {a n : Nat} {f : Nat → Int32} {i : Int32} {x : Int32} (ha : ws[q0]? = some (a, eI D n f)) (hin : vp_in i n) {ws' : va_W} (hws : ws.set q0 (a, eI D n (upd f i.toNatClampNeg x)) = ws') (K : V D X cells slots (pc + 1) lv st ws') : V D X cells slots pc lv (.int x :: .int i :: .ref a :: st) ws := by
  subst hws
  exact fun H locs ls hP hD hS hlv => va_iast O.1 O.2.1 O.2.2.2.2.2.2.2.1 hP hD hS q0 0 ha rfl hin hdg (fun H1 locs1 hP1 hD1 hS1 => K H1 locs1 ls hP1 hD1 hS1 hlv)
theorem v_last (O : Ok D X mt d kc ks) (hdg : decode mt.2.1 pc = .ok (.lastore, 1)) (q0 : Nat) {a n : Nat} {f : Nat → Int64} {i : Int32} {x : Int64} (ha : ws[q0]? = some (a, eJ D n f)) (hin : vp_in i n) {ws' : va_W} (hws : ws.set q0 (a, eJ D n (vp_updL f i.toNatClampNeg x)) = ws') (K : V D X cells slots (pc + 1) lv st ws') : V D X cells slots pc lv (.long x :: .int i :: .ref a :: st) ws := by
  subst hws
  exact fun H locs ls hP hD hS hlv => va_last O.1 O.2.1 O.2.2.2.2.2.2.2.1 hP hD hS q0 3 ha rfl hin hdg (fun H1 locs1 hP1 hD1 hS1 => K H1 locs1 ls hP1 hD1 hS1 hlv)
theorem v_bast (O : Ok D X mt d kc ks) (hdg : decode mt.2.1 pc = .ok (.bastore, 1)) (q0 : Nat) {a n : Nat} {f : Nat → Int32} {i : Int32} {x : Int32} (ha : ws[q0]? = some (a, eB D n f)) (hin : vp_in i n) {ws' : va_W} (hws : ws.set q0 (a, eB D n (upd f i.toNatClampNeg (vp_nar .byte x))) = ws') (K : V D X cells slots (pc + 1) lv st ws') : V D X cells slots pc lv (.int x :: .int i :: .ref a :: st) ws := by
  subst hws
  exact fun H locs ls hP hD hS hlv => va_bast O.1 O.2.1 O.2.2.2.2.2.2.2.1 hP hD hS q0 2 ha rfl hin hdg (fun H1 locs1 hP1 hD1 hS1 => K H1 locs1 ls hP1 hD1 hS1 hlv)
theorem v_zast (O : Ok D X mt d kc ks) (hdg : decode mt.2.1 pc = .ok (.bastore, 1)) (q0 : Nat) {a n : Nat} {f : Nat → Int32} {i : Int32} {x : Int32} (ha : ws[q0]? = some (a, eZ D n f)) (hin : vp_in i n) {ws' : va_W} (hws : ws.set q0 (a, eZ D n (upd f i.toNatClampNeg (vp_nar .boolean x))) = ws') (K : V D X cells slots (pc + 1) lv st ws') : V D X cells slots pc lv (.int x :: .int i :: .ref a :: st) ws := by
  subst hws
  exact fun H locs ls hP hD hS hlv => va_zast O.1 O.2.1 O.2.2.2.2.2.2.2.1 hP hD hS q0 1 ha rfl hin hdg (fun H1 locs1 hP1 hD1 hS1 => K H1 locs1 ls hP1 hD1 hS1 hlv)
theorem v_aastV (O : Ok D X mt d kc ks) (hdg : decode mt.2.1 pc = .ok (.aastore, 1)) (q0 qk : Nat) {a n v : Nat} {vs : List Value} {f : Nat → Option Nat} {i : Int32} (ha : ws[q0]? = some (a, eV D n f)) (hv : ws[qk]? = some (v, .inr (6, vs))) (hin : vp_in i n) {ws' : va_W} (hws : ws.set q0 (a, eV D n (va_up f i.toNatClampNeg (some v))) = ws') (K : V D X cells slots (pc + 1) lv st ws') : V D X cells slots pc lv (.ref v :: .int i :: .ref a :: st) ws := by
  subst hws
  exact fun H locs ls hP hD hS hlv => va_astq O.1 O.2.1 O.2.2.2.2.2.2.2.1 hP hD hS q0 4 qk 6 ha rfl hv rfl hin hdg (fun H1 locs1 hP1 hD1 hS1 => K H1 locs1 ls hP1 hD1 hS1 hlv)
theorem v_aastT (O : Ok D X mt d kc ks) (hdg : decode mt.2.1 pc = .ok (.aastore, 1)) (q0 qk : Nat) {a n v : Nat} {vs : List Value} {f : Nat → Option Nat} {i : Int32} (ha : ws[q0]? = some (a, eT D n f)) (hv : ws[qk]? = some (v, .inr (5, vs))) (hin : vp_in i n) {ws' : va_W} (hws : ws.set q0 (a, eT D n (va_up f i.toNatClampNeg (some v))) = ws') (K : V D X cells slots (pc + 1) lv st ws') : V D X cells slots pc lv (.ref v :: .int i :: .ref a :: st) ws := by
  subst hws
  exact fun H locs ls hP hD hS hlv => va_astq O.1 O.2.1 O.2.2.2.2.2.2.2.1 hP hD hS q0 5 qk 5 ha rfl hv rfl hin hdg (fun H1 locs1 hP1 hD1 hS1 => K H1 locs1 ls hP1 hD1 hS1 hlv)
theorem v_alenI (O : Ok D X mt d kc ks) (hdg : decode mt.2.1 pc = .ok (.arraylength, 1)) (q0 : Nat) {a n : Nat} {f : Nat → Int32} (ha : ws[q0]? = some (a, eI D n f)) (K : V D X cells slots (pc + 1) lv (.int (nI n) :: st) ws) : V D X cells slots pc lv (.ref a :: st) ws :=
  fun H locs ls hP hD hS hlv => va_alen O.1 O.2.1 O.2.2.2.2.2.2.2.1 hP q0 0 ha rfl rfl hdg (K H locs ls hP hD hS hlv)
theorem v_alenZ (O : Ok D X mt d kc ks) (hdg : decode mt.2.1 pc = .ok (.arraylength, 1)) (q0 : Nat) {a n : Nat} {f : Nat → Int32} (ha : ws[q0]? = some (a, eZ D n f)) (K : V D X cells slots (pc + 1) lv (.int (nI n) :: st) ws) : V D X cells slots pc lv (.ref a :: st) ws :=
  fun H locs ls hP hD hS hlv => va_alen O.1 O.2.1 O.2.2.2.2.2.2.2.1 hP q0 1 ha rfl rfl hdg (K H locs ls hP hD hS hlv)
theorem v_alenB (O : Ok D X mt d kc ks) (hdg : decode mt.2.1 pc = .ok (.arraylength, 1)) (q0 : Nat) {a n : Nat} {f : Nat → Int32} (ha : ws[q0]? = some (a, eB D n f)) (K : V D X cells slots (pc + 1) lv (.int (nI n) :: st) ws) : V D X cells slots pc lv (.ref a :: st) ws :=
  fun H locs ls hP hD hS hlv => va_alen O.1 O.2.1 O.2.2.2.2.2.2.2.1 hP q0 2 ha rfl rfl hdg (K H locs ls hP hD hS hlv)
theorem v_alenJ (O : Ok D X mt d kc ks) (hdg : decode mt.2.1 pc = .ok (.arraylength, 1)) (q0 : Nat) {a n : Nat} {f : Nat → Int64} (ha : ws[q0]? = some (a, eJ D n f)) (K : V D X cells slots (pc + 1) lv (.int (nI n) :: st) ws) : V D X cells slots pc lv (.ref a :: st) ws :=
  fun H locs ls hP hD hS hlv => va_alen O.1 O.2.1 O.2.2.2.2.2.2.2.1 hP q0 3 ha rfl rfl hdg (K H locs ls hP hD hS hlv)
theorem v_alenV (O : Ok D X mt d kc ks) (hdg : decode mt.2.1 pc = .ok (.arraylength, 1)) (q0 : Nat) {a n : Nat} {f : Nat → Option Nat} (ha : ws[q0]? = some (a, eV D n f)) (K : V D X cells slots (pc + 1) lv (.int (nI n) :: st) ws) : V D X cells slots pc lv (.ref a :: st) ws :=
  fun H locs ls hP hD hS hlv => va_alen O.1 O.2.1 O.2.2.2.2.2.2.2.1 hP q0 4 ha rfl rfl hdg (K H locs ls hP hD hS hlv)
theorem v_alenTp (O : Ok D X mt d kc ks) (hdg : decode mt.2.1 pc = .ok (.arraylength, 1)) (q0 : Nat) {a n : Nat} {f : Nat → Option Nat} (ha : ws[q0]? = some (a, eT D n f)) (K : V D X cells slots (pc + 1) lv (.int (nI n) :: st) ws) : V D X cells slots pc lv (.ref a :: st) ws :=
  fun H locs ls hP hD hS hlv => va_alen O.1 O.2.1 O.2.2.2.2.2.2.2.1 hP q0 5 ha rfl rfl hdg (K H locs ls hP hD hS hlv)
end VR
