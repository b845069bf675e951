-- makings, returns, calls
theorem va_P_map {D : va_G} {cl : List vw_C} {ws ws' : va_W} {H : Heap} (h : va_P D cl ws H) (is : List Nat) (hs : is.map (fun i => ws[i]?) = ws'.map some) : va_P D cl ws' H := fun k q hq => by
  have h1 : (is.map (fun i => ws[i]?))[k]? = some (some q) := by rw [hs, List.getElem?_map, hq]; rfl
  rw [List.getElem?_map] at h1
  cases hi : is[k]? with
  | none => rw [hi] at h1; cases h1
  | some i => rw [hi] at h1; exact h i q (Option.some.inj h1)
section VM
variable {D : G} {X : CX} {mt : MT} {d kc ks cells slots pc : Nat} {lv : List (Nat × Value)} {st : List Value} {ws : va_W}
theorem v_newaI (O : Ok D X mt d kc ks) {n : Int32} {N : Nat} (hw : Cond.arrayClass .int ∈ Wd) (hdg : decode mt.2.1 pc = .ok (.newarray .int, 2)) (hn : ¬ n < 0) (hN : n.toNatClampNeg = N) (hb : N * componentBytes .int ≤ 536870912) (hc : cells + 1 ≤ kc) (hs : slots + N ≤ ks)
    (K : ∀ q : Nat, V D X (cells + 1) (slots + N) (pc + 2) lv (.ref q :: st) (ws ++ [(q, eI D N (fun _ => 0))])) : V D X cells slots pc lv (.int n :: st) ws := by
  intro H locs ls hP hD hS hlv
  refine va_newa (atype := .int) (ty := .int) (a0 := (N, .inl (fun _ => 0))) O.1 O.2.1 (O.2.2.2.2.2.2.1 _ hw) rfl O.2.2.2.2.2.2.2.1 hP hD hS O.2.2.2.2.2.2.2.2.2.1 (fun cA => rfl) hn hN hb (Nat.le_trans hc O.2.2.2.2.2.2.2.2.2.2.2.2.2.2.1) (Nat.le_trans hs O.2.2.2.2.2.2.2.2.2.2.2.2.2.2.2) hdg (fun q cA H1 hK1 hP1 hD1 hS1 => ?_)
  have e : cA = D.2.1 0 := Option.some.inj ((hK1.2 6 (cA, .int) rfl).2.symm.trans (O.2.2.2.2.2.2.2.1.2 0 (D.2.1 0, .int) rfl).2)
  subst e
  exact K q H1 locs ls hP1 hD1 hS1 hlv
theorem v_newaZ (O : Ok D X mt d kc ks) {n : Int32} {N : Nat} (hw : Cond.arrayClass .boolean ∈ Wd) (hdg : decode mt.2.1 pc = .ok (.newarray .boolean, 2)) (hn : ¬ n < 0) (hN : n.toNatClampNeg = N) (hb : N * componentBytes .boolean ≤ 536870912) (hc : cells + 1 ≤ kc) (hs : slots + N ≤ ks)
    (K : ∀ q : Nat, V D X (cells + 1) (slots + N) (pc + 2) lv (.ref q :: st) (ws ++ [(q, eZ D N (fun _ => 0))])) : V D X cells slots pc lv (.int n :: st) ws := by
  intro H locs ls hP hD hS hlv
  refine va_newa (atype := .boolean) (ty := .boolean) (a0 := (N, .inl (fun _ => 0))) O.1 O.2.1 (O.2.2.2.2.2.2.1 _ hw) rfl O.2.2.2.2.2.2.2.1 hP hD hS O.2.2.2.2.2.2.2.2.2.1 (fun cA => rfl) hn hN hb (Nat.le_trans hc O.2.2.2.2.2.2.2.2.2.2.2.2.2.2.1) (Nat.le_trans hs O.2.2.2.2.2.2.2.2.2.2.2.2.2.2.2) hdg (fun q cA H1 hK1 hP1 hD1 hS1 => ?_)
  have e : cA = D.2.1 1 := Option.some.inj ((hK1.2 6 (cA, .boolean) rfl).2.symm.trans (O.2.2.2.2.2.2.2.1.2 1 (D.2.1 1, .boolean) rfl).2)
  subst e
  exact K q H1 locs ls hP1 hD1 hS1 hlv
theorem v_newaB (O : Ok D X mt d kc ks) {n : Int32} {N : Nat} (hw : Cond.arrayClass .byte ∈ Wd) (hdg : decode mt.2.1 pc = .ok (.newarray .byte, 2)) (hn : ¬ n < 0) (hN : n.toNatClampNeg = N) (hb : N * componentBytes .byte ≤ 536870912) (hc : cells + 1 ≤ kc) (hs : slots + N ≤ ks)
    (K : ∀ q : Nat, V D X (cells + 1) (slots + N) (pc + 2) lv (.ref q :: st) (ws ++ [(q, eB D N (fun _ => 0))])) : V D X cells slots pc lv (.int n :: st) ws := by
  intro H locs ls hP hD hS hlv
  refine va_newa (atype := .byte) (ty := .byte) (a0 := (N, .inl (fun _ => 0))) O.1 O.2.1 (O.2.2.2.2.2.2.1 _ hw) rfl O.2.2.2.2.2.2.2.1 hP hD hS O.2.2.2.2.2.2.2.2.2.1 (fun cA => rfl) hn hN hb (Nat.le_trans hc O.2.2.2.2.2.2.2.2.2.2.2.2.2.2.1) (Nat.le_trans hs O.2.2.2.2.2.2.2.2.2.2.2.2.2.2.2) hdg (fun q cA H1 hK1 hP1 hD1 hS1 => ?_)
  have e : cA = D.2.1 2 := Option.some.inj ((hK1.2 6 (cA, .byte) rfl).2.symm.trans (O.2.2.2.2.2.2.2.1.2 2 (D.2.1 2, .byte) rfl).2)
  subst e
  exact K q H1 locs ls hP1 hD1 hS1 hlv
theorem v_newaJ (O : Ok D X mt d kc ks) {n : Int32} {N : Nat} (hw : Cond.arrayClass .long ∈ Wd) (hdg : decode mt.2.1 pc = .ok (.newarray .long, 2)) (hn : ¬ n < 0) (hN : n.toNatClampNeg = N) (hb : N * componentBytes .long ≤ 536870912) (hc : cells + 1 ≤ kc) (hs : slots + N ≤ ks)
    (K : ∀ q : Nat, V D X (cells + 1) (slots + N) (pc + 2) lv (.ref q :: st) (ws ++ [(q, eJ D N (fun _ => 0))])) : V D X cells slots pc lv (.int n :: st) ws := by
  intro H locs ls hP hD hS hlv
  refine va_newa (atype := .long) (ty := .long) (a0 := (N, .inr (.inl (fun _ => 0)))) O.1 O.2.1 (O.2.2.2.2.2.2.1 _ hw) rfl O.2.2.2.2.2.2.2.1 hP hD hS O.2.2.2.2.2.2.2.2.2.1 (fun cA => rfl) hn hN hb (Nat.le_trans hc O.2.2.2.2.2.2.2.2.2.2.2.2.2.2.1) (Nat.le_trans hs O.2.2.2.2.2.2.2.2.2.2.2.2.2.2.2) hdg (fun q cA H1 hK1 hP1 hD1 hS1 => ?_)
  have e : cA = D.2.1 3 := Option.some.inj ((hK1.2 6 (cA, .long) rfl).2.symm.trans (O.2.2.2.2.2.2.2.1.2 3 (D.2.1 3, .long) rfl).2)
  subst e
  exact K q H1 locs ls hP1 hD1 hS1 hlv
theorem v_newqV (O : Ok D X mt d kc ks) {n : Int32} {N index : Nat} (hw : Cond.classLink mt.1.cls index RX6 ∈ Wd) (hdg : decode mt.2.1 pc = .ok (.anewarray index, 3)) (hn : ¬ n < 0) (hN : n.toNatClampNeg = N) (hb : N * 4 ≤ 536870912) (hc : cells + 1 ≤ kc) (hs : slots + N ≤ ks)
    (K : ∀ q : Nat, V D X (cells + 1) (slots + N) (pc + 3) lv (.ref q :: st) (ws ++ [(q, eV D N (fun _ => none))])) : V D X cells slots pc lv (.int n :: st) ws := by
  intro H locs ls hP hD hS hlv
  refine va_newq (C := RX6) O.1 O.2.1 O.2.2.2.2.2.1 (O.2.2.2.2.2.2.1 _ hw) O.2.2.2.2.2.2.2.2.2.2.1.2.2.2.2.2.2.2.2.2.1 O.2.2.2.2.2.2.2.1 hP hD hS O.2.2.2.2.2.2.2.2.2.1 hn hN hb (Nat.le_trans hc O.2.2.2.2.2.2.2.2.2.2.2.2.2.2.1) (Nat.le_trans hs O.2.2.2.2.2.2.2.2.2.2.2.2.2.2.2) hdg (fun q cA H1 hK1 hP1 hD1 hS1 => ?_)
  obtain ⟨kA, comp, -, -, -, f1⟩ := (hK1.2 6 (cA, .object RX6) rfl).2
  obtain ⟨kA', comp', -, -, -, f2⟩ := (O.2.2.2.2.2.2.2.1.2 4 (D.2.1 4, .object RX6) rfl).2
  have e : cA = D.2.1 4 := Option.some.inj (f1.symm.trans f2)
  subst e
  exact K q H1 locs ls hP1 hD1 hS1 hlv
theorem v_newqT (O : Ok D X mt d kc ks) {n : Int32} {N index : Nat} (hw : Cond.classLink mt.1.cls index RX5 ∈ Wd) (hdg : decode mt.2.1 pc = .ok (.anewarray index, 3)) (hn : ¬ n < 0) (hN : n.toNatClampNeg = N) (hb : N * 4 ≤ 536870912) (hc : cells + 1 ≤ kc) (hs : slots + N ≤ ks)
    (K : ∀ q : Nat, V D X (cells + 1) (slots + N) (pc + 3) lv (.ref q :: st) (ws ++ [(q, eT D N (fun _ => none))])) : V D X cells slots pc lv (.int n :: st) ws := by
  intro H locs ls hP hD hS hlv
  refine va_newq (C := RX5) O.1 O.2.1 O.2.2.2.2.2.1 (O.2.2.2.2.2.2.1 _ hw) O.2.2.2.2.2.2.2.2.2.2.1.2.2.2.2.2.2.2.2.2.2 O.2.2.2.2.2.2.2.1 hP hD hS O.2.2.2.2.2.2.2.2.2.1 hn hN hb (Nat.le_trans hc O.2.2.2.2.2.2.2.2.2.2.2.2.2.2.1) (Nat.le_trans hs O.2.2.2.2.2.2.2.2.2.2.2.2.2.2.2) hdg (fun q cA H1 hK1 hP1 hD1 hS1 => ?_)
  obtain ⟨kA, comp, -, -, -, f1⟩ := (hK1.2 6 (cA, .object RX5) rfl).2
  obtain ⟨kA', comp', -, -, -, f2⟩ := (O.2.2.2.2.2.2.2.1.2 5 (D.2.1 5, .object RX5) rfl).2
  have e : cA = D.2.1 5 := Option.some.inj (f1.symm.trans f2)
  subst e
  exact K q H1 locs ls hP1 hD1 hS1 hlv
theorem v_new (O : Ok D X mt d kc ks) {C : String} {T : u_T} {N ci index : Nat} (hin : ∀ w ∈ u_ws C T N, w ∈ Wd) (ty : Nat → FieldType) (hty : ∀ k, k < N → parseFieldDescriptor (T k).2.2.1 = some (ty k)) (hcl : Cond.classLink mt.1.cls index C ∈ Wd) (hinst : Cond.instantiable C N ∈ Wd) (hini : Cond.initialized C ∈ Wd) (hc : vwCl[ci]? = some (C, T, N)) {fs : List Value} (hfs : ∀ j, j < N → defaultValue (ty j) = vp_V fs j) (hdg : decode mt.2.1 pc = .ok (.new index, 3)) (hkc : cells + 1 ≤ kc) (hks : slots + N ≤ ks)
    (K : ∀ q : Nat, V D X (cells + 1) (slots + N) (pc + 3) lv (.ref q :: st) (ws ++ [(q, .inr (ci, fs))])) : V D X cells slots pc lv st ws := by
  intro H locs ls hP hD hS hlv
  exact va_new O.1 O.2.1 O.2.2.2.2.2.2.1 hin ty hty O.2.2.2.2.2.1 (O.2.2.2.2.2.2.1 _ hcl) (O.2.2.2.2.2.2.1 _ hinst) (O.2.2.2.2.2.2.1 _ hini) O.2.2.2.2.2.2.2.1 hP hD hS O.2.2.2.2.2.2.2.2.2.1 hc hfs (Nat.le_trans hkc O.2.2.2.2.2.2.2.2.2.2.2.2.2.2.1) (Nat.le_trans hks O.2.2.2.2.2.2.2.2.2.2.2.2.2.2.2) hdg (fun q H1 hP1 hD1 hS1 => K q H1 locs ls hP1 hD1 hS1 hlv)
theorem v_objInit (O : Ok D X mt d kc ks) {idx a : Nat} (hl : Cond.methodLink mt.1.cls idx objectInit ∈ Wd) (hi : Cond.instanceMethod objectInit ∈ Wd) (hc : Cond.code objectInit ⟨#[0xb1]⟩ 1 none ∈ Wd) (hdg : decode mt.2.1 pc = .ok (.invokespecial idx, 3)) (hd : 1 ≤ d) (hst : (st.map fun v => v.category).sum + 12 ≤ 40) (K : V D X cells slots (pc + 3) lv st ws) : V D X cells slots pc lv (.ref a :: st) ws := by
  intro H locs ls hP hD hS hlv
  refine W.objInit (g := F0 (cx_m X) pc ls (.ref a :: st)) (a := a) (rest := st) O.1 O.2.1 O.2.2.2.2.2.1 (O.2.2.2.2.2.2.1 _ hl) (O.2.2.2.2.2.2.1 _ hi) (O.2.2.2.2.2.2.1 _ hc) rfl (by rw [O.2.2.2.1, ← O.2.2.2.2.1]; exact hlv.1) rfl hdg (Nat.le_trans hd O.2.2.2.2.2.2.2.2.2.2.2.2.1) ?_ (K H locs ls hP hD hS hlv)
  have h1 := O.2.2.2.2.2.2.2.2.2.2.2.2.2.1
  show 2 * 0 + _ + 12 ≤ _
  omega
theorem v_ireturn {Post : Option Value → va_W → Prop} (O : Ok D X mt d kc ks) (T : Rt D X Post kc ks) {v : Int32} {ty : FieldType} (hr : mt.2.2.2 = some ty) (hn : narrow ty (.int v) = .int v) (hc : cells ≤ kc) (hs : slots ≤ ks) (hdg : decode mt.2.1 pc = .ok (.ireturn, 1)) (hq : Post (some (.int v)) ws) : V D X cells slots pc lv [.int v] ws := fun H locs ls hP hD hS hl => by
  refine W.widen hc hs ?_
  unfold Rt at T
  rw [T]
  exact W.zret O.1 O.2.1 (O.2.2.1.trans hr) hn (fun t ht hW => ⟨⟨_, ws, rfl, hq, by rw [ht]; exact hP, hD⟩, hS.F ht⟩) hS.2.2 hdg O.2.2.2.2.2.2.2.2.1
theorem v_lreturn {Post : Option Value → va_W → Prop} (O : Ok D X mt d kc ks) (T : Rt D X Post kc ks) {v : Int64} (hr : mt.2.2.2 = some .long) (hc : cells ≤ kc) (hs : slots ≤ ks) (hdg : decode mt.2.1 pc = .ok (.lreturn, 1)) (hq : Post (some (.long v)) ws) : V D X cells slots pc lv [.long v] ws := fun H locs ls hP hD hS hl => by
  refine W.widen hc hs ?_
  unfold Rt at T
  rw [T]
  exact W.lret O.1 O.2.1 (O.2.2.1.trans hr) (fun t ht hW => ⟨⟨_, ws, rfl, hq, by rw [ht]; exact hP, hD⟩, hS.F ht⟩) hS.2.2 hdg O.2.2.2.2.2.2.2.2.1
theorem v_areturn {Post : Option Value → va_W → Prop} (O : Ok D X mt d kc ks) (T : Rt D X Post kc ks) {v : Value} {rt : FieldType} (hr : mt.2.2.2 = some rt) (hrt : (∃ n, rt = .object n) ∨ ∃ t, rt = .array t) (hv : v = .null ∨ ∃ a, v = .ref a) (hc : cells ≤ kc) (hs : slots ≤ ks) (hdg : decode mt.2.1 pc = .ok (.areturn, 1)) (hq : Post (some v) ws) : V D X cells slots pc lv [v] ws := fun H locs ls hP hD hS hl => by
  refine W.widen hc hs ?_
  unfold Rt at T
  rw [T]
  exact W.aret O.1 O.2.1 (O.2.2.1.trans hr) hrt hv (fun t ht hW => ⟨⟨_, ws, rfl, hq, by rw [ht]; exact hP, hD⟩, hS.F ht⟩) hS.2.2 hdg O.2.2.2.2.2.2.2.2.1
theorem v_return {Post : Option Value → va_W → Prop} (O : Ok D X mt d kc ks) (T : Rt D X Post kc ks) (hr : mt.2.2.2 = none) (hc : cells ≤ kc) (hs : slots ≤ ks) (hdg : decode mt.2.1 pc = .ok (.return_, 1)) (hq : Post none ws) : V D X cells slots pc lv [] ws := fun H locs ls hP hD hS hl => by
  refine W.widen hc hs ?_
  unfold Rt at T
  rw [T]
  exact W.vret O.1 O.2.1 (O.2.2.1.trans hr) (fun t ht hW => ⟨⟨_, ws, rfl, hq, by rw [ht]; exact hP, hD⟩, hS.F ht⟩) hS.2.2 hdg O.2.2.2.2.2.2.2.2.1
-- calls
theorem v_pre (O : Ok D X mt d kc ks) {H : Heap} {locs : List Loc} {wc : va_W} (hP : va_P D.1 vwCl ws H) (hD : va_D (cx_A X) ws) (hS : va_S (cx_A X) (cx_s X).heap H locs) (isC : List Nat) (hnC : va_nd isC = true) (hC : isC.map (fun i => ws[i]?) = wc.map some) : ∀ U : State, U.heap = H → (cx_s X).WarmedH U.vm → spPre D wc H.size U := by
  intro U hU hW
  refine ⟨by rw [hU], by rw [hU]; exact va_P_map hP isC hC, va_K.moved hW.alike O.2.2.2.2.2.2.2.1, (hD.sub isC hnC hC).weaken (fun _ _ _ _ => trivial), ?_⟩
  rw [hU]
  exact Ext.warm hW ((O.2.2.2.2.2.2.2.2.2.2.1.kept hS.2.1).narrow (va_free hD hS O.2.2.2.2.2.2.2.2.2.1 isC hC))
theorem v_call0 (O : Ok D X mt d kc ks) {wc wr : va_W} {Post : Option Value → va_W → Prop} {mc ms : Nat} {st0 rest : List Value} {a : Array Value} (isC isR : List Nat) (hC : isC.map (fun i => ws[i]?) = wc.map some) (hR : isR.map (fun i => ws[i]?) = wr.map some) (hn : va_nd isR = true) (hdis : ∀ i ∈ isR, i ∉ isC)
    (hrun : ∀ (H : Heap) (locs : List Loc) (ls : Array Slot), va_P D.1 vwCl ws H → va_D (cx_A X) ws → va_S (cx_A X) (cx_s X).heap H locs → lv_has ls (cx_n X) lv → va_Run (cx_p X) (cx_l X) (cx_e X) (cx_R X) (cx_s X) (cx_m X) (cx_a X) (cx_b X) (cx_t X) (cx_c X) H locs cells slots mc ms (F0 (cx_m X) pc ls st0) rest (QQ D (va_A wc H.size) Post a) (va_A wc H.size))
    (K : ∀ (r : Option Value) (w1 : va_W), Post r w1 → V D X (cells + mc) (slots + ms) (pc + 3) lv (r.toList ++ rest) (wr ++ w1)) : V D X cells slots pc lv st0 ws := by
  intro H locs ls hP hD hS hl T hT X0
  have hFc := va_free hD hS O.2.2.2.2.2.2.2.2.2.1 isC hC
  obtain ⟨v, st₀, t, T', L, h0, X', hL, e1, e2, ⟨⟨r, w1, hv, hp, hP1, hD1⟩, hz, hk⟩, sx⟩ := hrun H locs ls hP hD hS hl T hT X0
  cases hv
  rw [h0] at hz hk
  rw [← e1] at hz hk hP1
  obtain ⟨hP2, hD2⟩ := va_join (wr := wr) (w1 := w1) hP hD isC isR hC hR hn hdis hk hFc hP1 hD1
  obtain ⟨t2, a1, b1⟩ := K v w1 hp T'.heap (locs ++ L) ls hP2 hD2 ⟨Nat.le_trans hS.1 hz, fun q h1 h2 => by
      rw [hk q (Nat.lt_of_lt_of_le h1 hS.1) (fun z => h2 (hFc q z))]
      exact hS.2.1 q h1 h2, fun q hq => by
      rcases List.mem_append.mp hq with h | h
      · exact hS.2.2 q h
      · exact hFc _ (hL q h)⟩ hl T' rfl X'
  exact ⟨t2, sx t2 a1, b1⟩
def CFp (mt' : MT) (n : Nat) : Prop := mcode mt' ∈ Wd ∧ Cond.initialized mt'.1.cls ∈ Wd ∧ mt'.2.2.1 ≤ 21 ∧ mt'.1.cls ≠ "java/lang/invoke/MethodHandle" ∧ mt'.1.cls ≠ "java/lang/invoke/VarHandle" ∧ (parseMethodDescriptor mt'.1.desc).map (fun d => d.parameters.length) = some n
def CFv (own : String) (mt' : MT) (idx n : Nat) : Prop := CFp mt' n ∧ Cond.methodLink own idx mt'.1 ∈ Wd ∧ Cond.instanceMethod mt'.1 ∈ Wd ∧ Cond.selects mt'.1.cls mt'.1 mt'.1 ∈ Wd
def CFs (own : String) (mt' : MT) (idx n : Nat) : Prop := CFp mt' n ∧ Cond.methodLink own idx mt'.1 ∈ Wd ∧ Cond.static mt'.1 ∈ Wd
def CFi (own : String) (mt' : MT) (idx n : Nat) : Prop := CFp mt' n ∧ Cond.methodLink own idx mt'.1 ∈ Wd ∧ Cond.instanceMethod mt'.1 ∈ Wd ∧ mt'.1.name = "<init>" ∧ mt'.2.2.2 = none
def CFsN (own : String) (mt' : MT) (idx n : Nat) : Prop := CFp mt' n ∧ (own, idx, mt'.1) ∈ x_nest ∧ Cond.static mt'.1 ∈ Wd
def CFiN (own : String) (mt' : MT) (idx n : Nat) : Prop := CFp mt' n ∧ (own, idx, mt'.1) ∈ x_nest ∧ Cond.instanceMethod mt'.1 ∈ Wd ∧ mt'.1.name = "<init>" ∧ mt'.2.2.2 = none
theorem v_fix (O : Ok D X mt d kc ks) : CallFix (cx_p X) (cx_m X) (cx_c X) mt.2.1 (cx_n X) (cx_s X) (cx_a X) Wd mt.1.cls := ⟨O.1, O.2.1, O.2.2.2.1.trans O.2.2.2.2.1.symm, O.2.2.2.2.2.1, O.2.2.2.2.2.2.1⟩
theorem v_roomOk (O : Ok D X mt d kc ks) {d' mc ms mx : Nat} (hd : d' + 1 ≤ d) (hm : mx ≤ 21) : (rmD d' mc ms).frames + 1 ≤ (cx_R X).frames ∧ 8 + (mx + 11) + (rmD d' mc ms).locals ≤ (cx_R X).locals := by
  have h1 := O.2.2.2.2.2.2.2.2.2.2.2.2.1
  have h2 := O.2.2.2.2.2.2.2.2.2.2.2.2.2.1
  refine ⟨Nat.le_trans hd h1, ?_⟩
  show 8 + (mx + 11) + 40 * d' ≤ _
  omega
theorem v_cV' (O : Ok D X mt d kc ks) {mt' : MT} {d' mc ms b idx n : Nat} {As st0 : List Value} {wc wr : va_W} {Post : Option Value → va_W → Prop} (F : CFv mt.1.cls mt' idx n) (hsp : Sp D mt' d' mc ms (.ref b :: As) wc Post) (hdg : decode mt.2.1 pc = .ok (.invokevirtual idx, 3)) (hstk : st0 = As.reverse ++ .ref b :: st) (hn : As.length = n)
    (hrecv : ∀ (H : Heap) (locs : List Loc), va_P D.1 vwCl ws H → va_S (cx_A X) (cx_s X).heap H locs → ∃ cellB : Cell, H[b]? = some cellB ∧ cellB.vm.isStatics = false ∧ (cx_s X).vm.findClass mt'.1.cls = some cellB.cls)
    (isC isR : List Nat) (hnC : va_nd isC = true) (hC : isC.map (fun i => ws[i]?) = wc.map some) (hR : isR.map (fun i => ws[i]?) = wr.map some) (hnR : va_nd isR = true) (hdis : ∀ i ∈ isR, i ∉ isC) (hd : d' + 1 ≤ d) (hrest : (st.map fun v => v.category).sum ≤ 8) (hkc : cells + mc ≤ kc) (hks : slots + ms ≤ ks)
    (K : ∀ (r : Option Value) (w1 : va_W), Post r w1 → V D X (cells + mc) (slots + ms) (pc + 3) lv (r.toList ++ st) (wr ++ w1)) : V D X cells slots pc lv st0 ws := by
  subst hstk
  refine v_call0 O (a := (Value.ref b :: As).toArray) isC isR hC hR hnR hdis (fun H locs ls hP hD hS hl => ?_) K
  obtain ⟨⟨F1, F2, F3, F4, F5, F6⟩, F7, F8, F9⟩ := F
  have ht := O.2.2.2.2.2.2.1
  exact va_runV (rest := st) (v_fix O) (hsp (cx_l X) H.size) ⟨callB_of n ht (wsm_good F1) rfl rfl rfl (ht _ F2) (ht _ F7) ⟨F4, F5, F6⟩ (v_roomOk O hd F3), ht _ F8, ht _ F9⟩
    ⟨spPre_blind, hrecv H locs hP hS, fun U hU hW => ⟨rfl, v_pre O hP hD hS isC hnC hC U hU hW⟩⟩ rfl hn hl.1 rfl (lv_room hrest) hdg ⟨Nat.le_trans hkc O.2.2.2.2.2.2.2.2.2.2.2.2.2.2.1, Nat.le_trans hks O.2.2.2.2.2.2.2.2.2.2.2.2.2.2.2⟩
theorem v_cV (O : Ok D X mt d kc ks) {mt' : MT} {d' mc ms b idx n ci : Nat} {As st0 fs : List Value} {wc wr : va_W} {Post : Option Value → va_W → Prop} {T : u_T} {N : Nat} (F : CFv mt.1.cls mt' idx n) (hci : vwCl[ci]? = some (mt'.1.cls, T, N)) (hsp : Sp D mt' d' mc ms (.ref b :: As) wc Post) (hdg : decode mt.2.1 pc = .ok (.invokevirtual idx, 3)) (hstk : st0 = As.reverse ++ .ref b :: st) (hn : As.length = n)
    (q0 : Nat) (he : ws[q0]? = some (b, .inr (ci, fs)))
    (isC isR : List Nat) (hnC : va_nd isC = true) (hC : isC.map (fun i => ws[i]?) = wc.map some) (hR : isR.map (fun i => ws[i]?) = wr.map some) (hnR : va_nd isR = true) (hdis : ∀ i ∈ isR, i ∉ isC) (hd : d' + 1 ≤ d) (hrest : (st.map fun v => v.category).sum ≤ 8) (hkc : cells + mc ≤ kc) (hks : slots + ms ≤ ks)
    (K : ∀ (r : Option Value) (w1 : va_W), Post r w1 → V D X (cells + mc) (slots + ms) (pc + 3) lv (r.toList ++ st) (wr ++ w1)) : V D X cells slots pc lv st0 ws :=
  v_cV' O F hsp hdg hstk hn (fun H locs hP hS => va_recv O.2.2.2.2.2.2.2.1 hP hci he) isC isR hnC hC hR hnR hdis hd hrest hkc hks K
theorem v_cVS (O : Ok D X mt d kc ks) {mt' : MT} {d' mc ms idx n : Nat} {As st0 : List Value} {wc wr : va_W} {Post : Option Value → va_W → Prop} (F : CFv mt.1.cls mt' idx n) (hstr : mt'.1.cls = "java/lang/String") (i : Nat) (hi : i < 7) (hsp : Sp D mt' d' mc ms (.ref (D.2.2 (10 + i)) :: As) wc Post) (hdg : decode mt.2.1 pc = .ok (.invokevirtual idx, 3)) (hstk : st0 = As.reverse ++ .ref (D.2.2 (10 + i)) :: st) (hn : As.length = n)
    (isC isR : List Nat) (hnC : va_nd isC = true) (hC : isC.map (fun i => ws[i]?) = wc.map some) (hR : isR.map (fun i => ws[i]?) = wr.map some) (hnR : va_nd isR = true) (hdis : ∀ i ∈ isR, i ∉ isC) (hd : d' + 1 ≤ d) (hrest : (st.map fun v => v.category).sum ≤ 8) (hkc : cells + mc ≤ kc) (hks : slots + ms ≤ ks)
    (K : ∀ (r : Option Value) (w1 : va_W), Post r w1 → V D X (cells + mc) (slots + ms) (pc + 3) lv (r.toList ++ st) (wr ++ w1)) : V D X cells slots pc lv st0 ws :=
  v_cV' O F hsp hdg hstk hn (fun H locs hP hS => by rw [hstr]; exact vk_recv (i := i) O.2.2.2.2.2.2.2.2.2.2.1.2.2.2.2.2.2.2.1 hi hS) isC isR hnC hC hR hnR hdis hd hrest hkc hks K
theorem v_cS (O : Ok D X mt d kc ks) {mt' : MT} {d' mc ms idx n : Nat} {As st0 : List Value} {wc wr : va_W} {Post : Option Value → va_W → Prop} (F : CFs mt.1.cls mt' idx n) (hsp : Sp D mt' d' mc ms As wc Post) (hdg : decode mt.2.1 pc = .ok (.invokestatic idx, 3)) (hstk : st0 = As.reverse ++ st) (hn : As.length = n)
    (isC isR : List Nat) (hnC : va_nd isC = true) (hC : isC.map (fun i => ws[i]?) = wc.map some) (hR : isR.map (fun i => ws[i]?) = wr.map some) (hnR : va_nd isR = true) (hdis : ∀ i ∈ isR, i ∉ isC) (hd : d' + 1 ≤ d) (hrest : (st.map fun v => v.category).sum ≤ 8) (hkc : cells + mc ≤ kc) (hks : slots + ms ≤ ks)
    (K : ∀ (r : Option Value) (w1 : va_W), Post r w1 → V D X (cells + mc) (slots + ms) (pc + 3) lv (r.toList ++ st) (wr ++ w1)) : V D X cells slots pc lv st0 ws := by
  subst hstk
  refine v_call0 O (a := As.toArray) isC isR hC hR hnR hdis (fun H locs ls hP hD hS hl => ?_) K
  obtain ⟨⟨F1, F2, F3, F4, F5, F6⟩, F7, F8⟩ := F
  have ht := O.2.2.2.2.2.2.1
  exact va_runS (rest := st) (v_fix O) (hsp (cx_l X) H.size) ⟨callB_of n ht (wsm_good F1) rfl rfl rfl (ht _ F2) (ht _ F7) ⟨F4, F5, F6⟩ (v_roomOk O hd F3), ht _ F8⟩
    ⟨spPre_blind, fun U hU hW => ⟨rfl, v_pre O hP hD hS isC hnC hC U hU hW⟩⟩ rfl hn hl.1 rfl (lv_room hrest) hdg ⟨Nat.le_trans hkc O.2.2.2.2.2.2.2.2.2.2.2.2.2.2.1, Nat.le_trans hks O.2.2.2.2.2.2.2.2.2.2.2.2.2.2.2⟩
theorem v_cSN (O : Ok D X mt d kc ks) {mt' : MT} {d' mc ms idx n : Nat} {As st0 : List Value} {wc wr : va_W} {Post : Option Value → va_W → Prop} (F : CFsN mt.1.cls mt' idx n) (hsp : Sp D mt' d' mc ms As wc Post) (hdg : decode mt.2.1 pc = .ok (.invokestatic idx, 3)) (hstk : st0 = As.reverse ++ st) (hn : As.length = n)
    (isC isR : List Nat) (hnC : va_nd isC = true) (hC : isC.map (fun i => ws[i]?) = wc.map some) (hR : isR.map (fun i => ws[i]?) = wr.map some) (hnR : va_nd isR = true) (hdis : ∀ i ∈ isR, i ∉ isC) (hd : d' + 1 ≤ d) (hrest : (st.map fun v => v.category).sum ≤ 8) (hkc : cells + mc ≤ kc) (hks : slots + ms ≤ ks)
    (K : ∀ (r : Option Value) (w1 : va_W), Post r w1 → V D X (cells + mc) (slots + ms) (pc + 3) lv (r.toList ++ st) (wr ++ w1)) : V D X cells slots pc lv st0 ws := by
  subst hstk
  refine v_call0 O (a := As.toArray) isC isR hC hR hnR hdis (fun H locs ls hP hD hS hl => ?_) K
  obtain ⟨⟨F1, F2, F3, F4, F5, F6⟩, F7, F8⟩ := F
  have ht := O.2.2.2.2.2.2.1
  exact va_runSN (rest := st) (v_fix O) (hsp (cx_l X) H.size) ⟨va_cnB n ht (wsm_good F1) rfl rfl rfl (O.2.2.2.2.2.2.2.2.2.2.1.2.2.2.2.2.2.2.2.1 _ F7) (ht _ F2) ⟨F4, F5, F6⟩ (v_roomOk O hd F3), ht _ F8, trivial⟩
    ⟨spPre_blind, fun U hU hW => ⟨rfl, v_pre O hP hD hS isC hnC hC U hU hW⟩⟩ rfl hn hl.1 rfl (lv_room hrest) hdg ⟨Nat.le_trans hkc O.2.2.2.2.2.2.2.2.2.2.2.2.2.2.1, Nat.le_trans hks O.2.2.2.2.2.2.2.2.2.2.2.2.2.2.2⟩
theorem v_cI (O : Ok D X mt d kc ks) {mt' : MT} {d' mc ms b idx n : Nat} {As st0 : List Value} {wc wr : va_W} {Post : Option Value → va_W → Prop} (F : CFi mt.1.cls mt' idx n) (hsp : Sp D mt' d' mc ms (.ref b :: As) wc Post) (hdg : decode mt.2.1 pc = .ok (.invokespecial idx, 3)) (hstk : st0 = As.reverse ++ .ref b :: st) (hn : As.length = n)
    (isC isR : List Nat) (hnC : va_nd isC = true) (hC : isC.map (fun i => ws[i]?) = wc.map some) (hR : isR.map (fun i => ws[i]?) = wr.map some) (hnR : va_nd isR = true) (hdis : ∀ i ∈ isR, i ∉ isC) (hd : d' + 1 ≤ d) (hrest : (st.map fun v => v.category).sum ≤ 8) (hkc : cells + mc ≤ kc) (hks : slots + ms ≤ ks)
    (K : ∀ (r : Option Value) (w1 : va_W), Post r w1 → V D X (cells + mc) (slots + ms) (pc + 3) lv (r.toList ++ st) (wr ++ w1)) : V D X cells slots pc lv st0 ws := by
  subst hstk
  refine v_call0 O (a := (Value.ref b :: As).toArray) isC isR hC hR hnR hdis (fun H locs ls hP hD hS hl => ?_) K
  obtain ⟨⟨F1, F2, F3, F4, F5, F6⟩, F7, F8, F9, F10⟩ := F
  have ht := O.2.2.2.2.2.2.1
  have hM := hsp (cx_l X) H.size
  exact va_runI (rest := st) (maxL := mt'.2.2.1) (bytes := mt'.2.1) (v_fix O) hM ⟨callB_of n ht (wsm_good F1) (by unfold wsm mcode; rw [F10]) rfl rfl (ht _ F2) (ht _ F7) ⟨F4, F5, F6⟩ (v_roomOk O hd F3), F9, ht _ F8⟩
    ⟨spPre_blind, fun U hU hW => ⟨rfl, v_pre O hP hD hS isC hnC hC U hU hW⟩⟩ rfl hn hl.1 rfl (lv_room hrest) hdg ⟨Nat.le_trans hkc O.2.2.2.2.2.2.2.2.2.2.2.2.2.2.1, Nat.le_trans hks O.2.2.2.2.2.2.2.2.2.2.2.2.2.2.2⟩
theorem v_cIN (O : Ok D X mt d kc ks) {mt' : MT} {d' mc ms b idx n : Nat} {As st0 : List Value} {wc wr : va_W} {Post : Option Value → va_W → Prop} (F : CFiN mt.1.cls mt' idx n) (hsp : Sp D mt' d' mc ms (.ref b :: As) wc Post) (hdg : decode mt.2.1 pc = .ok (.invokespecial idx, 3)) (hstk : st0 = As.reverse ++ .ref b :: st) (hn : As.length = n)
    (isC isR : List Nat) (hnC : va_nd isC = true) (hC : isC.map (fun i => ws[i]?) = wc.map some) (hR : isR.map (fun i => ws[i]?) = wr.map some) (hnR : va_nd isR = true) (hdis : ∀ i ∈ isR, i ∉ isC) (hd : d' + 1 ≤ d) (hrest : (st.map fun v => v.category).sum ≤ 8) (hkc : cells + mc ≤ kc) (hks : slots + ms ≤ ks)
    (K : ∀ (r : Option Value) (w1 : va_W), Post r w1 → V D X (cells + mc) (slots + ms) (pc + 3) lv (r.toList ++ st) (wr ++ w1)) : V D X cells slots pc lv st0 ws := by
  subst hstk
  refine v_call0 O (a := (Value.ref b :: As).toArray) isC isR hC hR hnR hdis (fun H locs ls hP hD hS hl => ?_) K
  obtain ⟨⟨F1, F2, F3, F4, F5, F6⟩, F7, F8, F9, F10⟩ := F
  have ht := O.2.2.2.2.2.2.1
  have hM := hsp (cx_l X) H.size
  exact va_runIN (rest := st) (maxL := mt'.2.2.1) (bytes := mt'.2.1) (v_fix O) hM ⟨va_cnB n ht (wsm_good F1) (by unfold wsm mcode; rw [F10]) rfl rfl (O.2.2.2.2.2.2.2.2.2.2.1.2.2.2.2.2.2.2.2.1 _ F7) (ht _ F2) ⟨F4, F5, F6⟩ (v_roomOk O hd F3), F9, ht _ F8⟩
    ⟨spPre_blind, fun U hU hW => ⟨rfl, v_pre O hP hD hS isC hnC hC U hU hW⟩⟩ rfl hn hl.1 rfl (lv_room hrest) hdg ⟨Nat.le_trans hkc O.2.2.2.2.2.2.2.2.2.2.2.2.2.2.1, Nat.le_trans hks O.2.2.2.2.2.2.2.2.2.2.2.2.2.2.2⟩
theorem v_copyI (O : Ok D X mt d kc ks) {index a a0 : Nat} (F : Cond.methodLink mt.1.cls index arraycopyName ∈ Wd ∧ Cond.native arraycopyName ∈ Wd ∧ Cond.static arraycopyName ∈ Wd ∧ Cond.initialized "java/lang/System" ∈ Wd) (hdg : decode mt.2.1 pc = .ok (.invokestatic index, 3)) (q0 q1 : Nat) {n0 n1 : Nat} {f g : Nat → Int32} (ha0 : ws[q0]? = some (a0, eI D n0 f)) (ha1 : ws[q1]? = some (a, eI D n1 g))
    {sp dp n : Int32} (h1 : ¬ sp < 0) (h2 : ¬ dp < 0) (h3 : ¬ n < 0) (h4 : sp.toNatClampNeg + n.toNatClampNeg ≤ n0) (h5 : dp.toNatClampNeg + n.toNatClampNeg ≤ n1) (hd : 1 ≤ d) (hst : (st.map fun v => v.category).sum + (nativeFrameWords "java/lang/System" "arraycopy" 5 + 11) ≤ 40)
    {ws' : va_W} (hws : ws.set q1 (a, eI D n1 (va_cpy f g sp.toNatClampNeg dp.toNatClampNeg n.toNatClampNeg)) = ws') (K : V D X cells slots (pc + 3) lv st ws') : V D X cells slots pc lv (.int n :: .int dp :: .ref a :: .int sp :: .ref a0 :: st) ws := by
  subst hws
  intro H locs ls hP hD hS hlv
  have ht := O.2.2.2.2.2.2.1
  have hr := O.2.2.2.2.2.2.2.2.2.2.2.2.2.1
  exact va_copyi O.1 O.2.1 (by rw [O.2.2.2.1, ← O.2.2.2.2.1]; exact hlv.1.symm) O.2.2.2.2.2.1 (ht _ F.1) (ht _ F.2.1) (ht _ F.2.2.1) (ht _ F.2.2.2) O.2.2.2.2.2.2.2.1 hP hD hS q0 q1 0 0 ha0 ha1 rfl rfl rfl h1 h2 h3 h4 h5 (fun _ _ => rfl) (Nat.le_trans hd O.2.2.2.2.2.2.2.2.2.2.2.2.1) (by omega) hdg (fun H1 locs1 hP1 hD1 hS1 => K H1 locs1 ls hP1 hD1 hS1 hlv)
theorem v_copyJ (O : Ok D X mt d kc ks) {index a a0 : Nat} (F : Cond.methodLink mt.1.cls index arraycopyName ∈ Wd ∧ Cond.native arraycopyName ∈ Wd ∧ Cond.static arraycopyName ∈ Wd ∧ Cond.initialized "java/lang/System" ∈ Wd) (hdg : decode mt.2.1 pc = .ok (.invokestatic index, 3)) (q0 q1 : Nat) {n0 n1 : Nat} {f g : Nat → Int64} (ha0 : ws[q0]? = some (a0, eJ D n0 f)) (ha1 : ws[q1]? = some (a, eJ D n1 g))
    {sp dp n : Int32} (h1 : ¬ sp < 0) (h2 : ¬ dp < 0) (h3 : ¬ n < 0) (h4 : sp.toNatClampNeg + n.toNatClampNeg ≤ n0) (h5 : dp.toNatClampNeg + n.toNatClampNeg ≤ n1) (hd : 1 ≤ d) (hst : (st.map fun v => v.category).sum + (nativeFrameWords "java/lang/System" "arraycopy" 5 + 11) ≤ 40)
    {ws' : va_W} (hws : ws.set q1 (a, eJ D n1 (va_cpy f g sp.toNatClampNeg dp.toNatClampNeg n.toNatClampNeg)) = ws') (K : V D X cells slots (pc + 3) lv st ws') : V D X cells slots pc lv (.int n :: .int dp :: .ref a :: .int sp :: .ref a0 :: st) ws := by
  subst hws
  intro H locs ls hP hD hS hlv
  have ht := O.2.2.2.2.2.2.1
  have hr := O.2.2.2.2.2.2.2.2.2.2.2.2.2.1
  exact va_copyl O.1 O.2.1 (by rw [O.2.2.2.1, ← O.2.2.2.2.1]; exact hlv.1.symm) O.2.2.2.2.2.1 (ht _ F.1) (ht _ F.2.1) (ht _ F.2.2.1) (ht _ F.2.2.2) O.2.2.2.2.2.2.2.1 hP hD hS q0 q1 3 3 ha0 ha1 rfl rfl rfl h1 h2 h3 h4 h5 (fun _ _ => rfl) (Nat.le_trans hd O.2.2.2.2.2.2.2.2.2.2.2.2.1) (by omega) hdg (fun H1 locs1 hP1 hD1 hS1 => K H1 locs1 ls hP1 hD1 hS1 hlv)
end VM
