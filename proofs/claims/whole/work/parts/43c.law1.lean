def R_law : String := "OneForDogLaw"
def lw_P (b : Addr) (xs : List Int32) (args : Array Value) (s : State) : Prop := args = #[.ref b] ∧ s.IntsAt b xs ∧ xs.length ≤ 3072 ∧ (Jvm.Cond.and given_1 narrow_1).before args s = true
def lw_Q (_ : Array Value) (s : State) (o : Outcome) (t : State) : Prop := o = .returned (some (.int 1)) ∧ Framed s o t [] 600000 7302250
def lw_Z (below : List Frame) (a : Array Value) (s : State) : State → Prop := fun t => ∃ o, t.status = .running ∧ Ended t below o ∧ lw_Q a s o t
/-- the law's own end, with 1 on the stack, nothing written that was there before, its room as the claim has it -/
theorem lw_ret {p : Program} {l : Launch} {e : Env} {s : State} {m : MethodId} {below : List Frame} {meth : Method} {c : Code} {b : Nat} (hx : p.tables.exec = Jvm.exec) (hb : c.code = code) (hr : meth.sig.returnType = ret) (hlocks : meth.locks = false) {pc : Nat} {H : Heap} {ls : Array Slot} (hdg : decode code pc = .ok (.ireturn, 1)) : W p l e room_1 s m #[Value.ref b] below meth c H [] 600000 7302250 (lw_Z below #[Value.ref b] s) (F0 m pc ls [.int 1]) := by
  intro T hT X
  obtain ⟨fs, hret, hrun, hended, hW, hframe⟩ := X.leave (v := some (.int 1)) (hlocks := hlocks) (fun h => by rw [hr] at h; cases h)
  have hmeth' : T.vm.method? m = some meth := X.method'
  refine ⟨T.setFrames fs, ?_, .returned (some (.int 1)), hrun, hended, rfl, ⟨_, rfl⟩, hW, hframe⟩
  jvm_step X.here [X.here.top, hx, hb, hdg, hmeth', hr, ret, narrow_b1]
  (try refine ⟨rfl, ?_⟩); (try refine ⟨rfl, ?_⟩)
  first | (intro acts; rw [hret _ acts rfl rfl rfl]) | rw [hret _ _ rfl rfl rfl]
  exact Steps.refl _
/-- what holds at the law's entry: the machine, the code, the tables' words (any of lw_tbl by 'hts w (by decide +kernel)'), the script of L ints xs at the cell b, what the Statement gives of the start (any of its parts by flat_of_before) -/
def lw_At (p : Program) (s : State) (m : MethodId) (meth : Method) (c : Code) (b L : Nat) (xs : Nat → Int32) : Prop :=
  p.tables.exec = Jvm.exec ∧ c.code = code ∧ meth.sig.returnType = ret ∧ c.maxLocals = 4 ∧ s.vm.findClass R_law = some m.cls ∧ (∀ w ∈ lw_tbl, w.before #[Value.ref b] s = true) ∧ va_X b L xs s s.heap ∧ b < s.heap.size ∧ meth.locks = false ∧ (Jvm.Cond.and given_1 narrow_1).before #[Value.ref b] s = true
abbrev mLn (nm : String) : MT := (⟨RL, nm, "([I)Z"⟩, code, 4, ret)
abbrev lwF : List Cond := flatC (Jvm.Cond.and given_1 narrow_1)
theorem law_K {s : State} {b : Nat} (h6 : ∀ w ∈ lw_tbl, w.before #[Value.ref b] s = true) (hw : ∀ w ∈ Wd, w.before #[Value.ref b] s = true) : ∃ (D1 : va_G) (D2 : Nat → ClassId), ∀ ad : Nat → Nat, va_K D1 vwCl (tyl (D1, D2, ad)) s := by
  obtain ⟨c0, i0, k0⟩ := u_known (C := RX0) (T := TX0) (N := 5) (n := 5) hw inW0 (hw _ tw_349)
  obtain ⟨c1, i1, k1⟩ := u_known (C := RX1) (T := TX1) (N := 12) (n := 12) hw inW1 (hw _ tw_104)
  obtain ⟨c2, i2, k2⟩ := u_known (C := RX2) (T := TX2) (N := 1) (n := 1) hw inW2 (hw _ tw_339)
  obtain ⟨c3, i3, k3⟩ := u_known (C := RX3) (T := TX3) (N := 8) (n := 8) hw inW3 (hw _ tw_272)
  obtain ⟨c4, i4, k4⟩ := u_known (C := RX4) (T := TX4) (N := 7) (n := 7) hw inW4 (hw _ tw_308)
  obtain ⟨c5, i5, k5⟩ := u_known (C := RX5) (T := TX5) (N := 3) (n := 3) hw inW5 (hw _ tw_373)
  obtain ⟨c6, i6, k6⟩ := u_known (C := RX6) (T := TX6) (N := 9) (n := 9) hw inW6 (hw _ tw_186)
  obtain ⟨c7, i7, k7⟩ := u_known (C := RX7) (T := TX7) (N := 4) (n := 4) hw inW7 (hw _ tw_166)
  obtain ⟨c8, i8, k8⟩ := u_known (C := RX8) (T := TX8) (N := 10) (n := 10) hw inW8 (hw _ tw_228)
  obtain ⟨c9, i9, k9⟩ := u_known (C := RX9) (T := TX9) (N := 13) (n := 13) hw inW9 (hw _ tw_96)
  obtain ⟨c10, i10, k10⟩ := u_known (C := RX10) (T := TX10) (N := 55) (n := 55) hw inW10 (hw _ tw_963)
  obtain ⟨a0, q0, m0, e0, f0, g0⟩ := Cond.arrayClass_spec (hw _ tw_164)
  obtain ⟨a1, q1, m1, e1, f1, g1⟩ := Cond.arrayClass_spec (hw _ tw_225)
  obtain ⟨a2, q2, m2, e2, f2, g2⟩ := Cond.arrayClass_spec (hw _ tw_184)
  obtain ⟨a3, q3, m3, e3, f3, g3⟩ := Cond.arrayClass_spec (hw _ tw_390)
  obtain ⟨m4, a4, q4, d4, _, f4, g4, e4⟩ := Cond.arrayOver_spec (h6 (Cond.arrayOver (.object RX6)) (by decide +kernel))
  obtain ⟨m5, a5, q5, d5, _, f5, g5, e5⟩ := Cond.arrayOver_spec (h6 (Cond.arrayOver (.object RX5)) (by decide +kernel))
  refine ⟨(fun k => [c0, c1, c2, c3, c4, c5, c6, c7, c8, c9, c10].getD k c0, fun k => [i0, i1, i2, i3, i4, i5, i6, i7, i8, i9, i10].getD k i0), fun k => [a0, a1, a2, a3, a4, a5].getD k a0, fun ad => ⟨fun k q hq => ?_, fun k q hq => ?_⟩⟩
  · have hk : k < 11 := (List.getElem?_eq_some_iff.mp hq).1
    rcases (show k = 0 ∨ k = 1 ∨ k = 2 ∨ k = 3 ∨ k = 4 ∨ k = 5 ∨ k = 6 ∨ k = 7 ∨ k = 8 ∨ k = 9 ∨ k = 10 by omega) with rfl | rfl | rfl | rfl | rfl | rfl | rfl | rfl | rfl | rfl | rfl
    · obtain rfl := Option.some.inj (show some ((RX0, TX0, 5) : vw_C) = some q from hq)
      exact k0
    · obtain rfl := Option.some.inj (show some ((RX1, TX1, 12) : vw_C) = some q from hq)
      exact k1
    · obtain rfl := Option.some.inj (show some ((RX2, TX2, 1) : vw_C) = some q from hq)
      exact k2
    · obtain rfl := Option.some.inj (show some ((RX3, TX3, 8) : vw_C) = some q from hq)
      exact k3
    · obtain rfl := Option.some.inj (show some ((RX4, TX4, 7) : vw_C) = some q from hq)
      exact k4
    · obtain rfl := Option.some.inj (show some ((RX5, TX5, 3) : vw_C) = some q from hq)
      exact k5
    · obtain rfl := Option.some.inj (show some ((RX6, TX6, 9) : vw_C) = some q from hq)
      exact k6
    · obtain rfl := Option.some.inj (show some ((RX7, TX7, 4) : vw_C) = some q from hq)
      exact k7
    · obtain rfl := Option.some.inj (show some ((RX8, TX8, 10) : vw_C) = some q from hq)
      exact k8
    · obtain rfl := Option.some.inj (show some ((RX9, TX9, 13) : vw_C) = some q from hq)
      exact k9
    · obtain rfl := Option.some.inj (show some ((RX10, TX10, 55) : vw_C) = some q from hq)
      exact k10
  · have hk : k < 6 := (List.getElem?_eq_some_iff.mp hq).1
    rcases (show k = 0 ∨ k = 1 ∨ k = 2 ∨ k = 3 ∨ k = 4 ∨ k = 5 by omega) with rfl | rfl | rfl | rfl | rfl | rfl
    · obtain rfl := Option.some.inj (show some ((a0, .int) : ClassId × FieldType) = some q from hq)
      exact ⟨fun n z => ⟨(fun _ h => by cases h), q0, f0, m0, g0⟩, e0⟩
    · obtain rfl := Option.some.inj (show some ((a1, .boolean) : ClassId × FieldType) = some q from hq)
      exact ⟨fun n z => ⟨(fun _ h => by cases h), q1, f1, m1, g1⟩, e1⟩
    · obtain rfl := Option.some.inj (show some ((a2, .byte) : ClassId × FieldType) = some q from hq)
      exact ⟨fun n z => ⟨(fun _ h => by cases h), q2, f2, m2, g2⟩, e2⟩
    · obtain rfl := Option.some.inj (show some ((a3, .long) : ClassId × FieldType) = some q from hq)
      exact ⟨fun n z => ⟨(fun _ h => by cases h), q3, f3, m3, g3⟩, e3⟩
    · obtain rfl := Option.some.inj (show some ((a4, .object RX6) : ClassId × FieldType) = some q from hq)
      exact ⟨fun n z => ⟨(fun _ h => by cases h), q4, f4, m4, g4⟩, ⟨q4, m4, f4, g4, d4, e4⟩⟩
    · obtain rfl := Option.some.inj (show some ((a5, .object RX5) : ClassId × FieldType) = some q from hq)
      exact ⟨fun n z => ⟨(fun _ h => by cases h), q5, f5, m5, g5⟩, ⟨q5, m5, f5, g5, d5, e5⟩⟩
theorem nr_abv : ∀ j, j < 7 → Cond.eq (.elem (.static RX9 "ABOVE" "[I") (.int (Int32.ofNat j))) (.int (x_abv j)) ∈ lwF := by decide +kernel
theorem nr_num : ∀ j, j < 21 → Cond.eq (.elem (.static RX0 "NUMBERS" "[I") (.int (Int32.ofNat j))) (.int (x_num j)) ∈ lwF := by decide +kernel
abbrev x_tm (i : Nat) : Term := .string RX7 (x_stI i)
theorem nr_s1 : ∀ i, i < 7 → Cond.exactly (x_tm i) "java/lang/String" ∈ lwF := by decide +kernel
theorem nr_s2 : ∀ i, i < 7 → Cond.eq (.field (x_tm i) "java/lang/String" "coder" "B") (.int 0) ∈ lwF := by decide +kernel
theorem nr_s3 : ∀ i, i < 7 → Cond.arrayOf (.field (x_tm i) "java/lang/String" "value" "[B") .byte ∈ lwF := by decide +kernel
theorem nr_s4 : ∀ i, i < 7 → Cond.eq (.length (.field (x_tm i) "java/lang/String" "value" "[B")) (.int (Int32.ofNat (x_len.getD i 0))) ∈ lwF := by decide +kernel
theorem nr_s5 : ∀ i, i < 7 → ∀ j, j < x_len.getD i 0 → Cond.eq (.elem (.field (x_tm i) "java/lang/String" "value" "[B") (.int (Int32.ofNat j))) (.int ((x_byt.getD i []).getD j 0)) ∈ lwF := by decide +kernel
theorem nr_s6 : ∀ i, i < 7 → ∀ j, j < i → Cond.not (Cond.eq (x_tm j) (x_tm i)) ∈ lwF := by decide +kernel
theorem nr_s7 : ∀ i, i < 7 → Cond.stringRef RX7 (x_stI i) (x_stT i) ∈ lw_tbl := by decide +kernel
theorem nr_ne : ∀ q ∈ x_nest, Cond.methodLinkNest q.1 q.2.1 q.2.2 RX9 ∈ lw_tbl := by decide +kernel
theorem law_ext {s : State} {b : Nat} (h6 : ∀ w ∈ lw_tbl, w.before #[Value.ref b] s = true) (h10 : (Jvm.Cond.and given_1 narrow_1).before #[Value.ref b] s = true) : ∃ ad : Nat → Nat, ∀ (D1 : va_G) (D2 : Nat → ClassId), Ext (D1, D2, ad) (fun q => s.heap.size ≤ q) s s.heap := by
  have hs : ∀ w ∈ lwF, w.before #[Value.ref b] s = true := flat_of_before _ h10
  have hA : ∀ a : Nat, a < s.heap.size → ¬ (fun q : Nat => s.heap.size ≤ q) a := fun a h z => absurd h (Nat.not_lt.mpr z)
  obtain ⟨tA, hA1, hA2⟩ := va_Tof (tm := .static RX9 "ABOVE" "[I") (ty := .int) (N := 7) (f := fun j => .int (x_abv j)) (A := fun q => s.heap.size ≤ q) (by decide) (hs _ (by decide +kernel)) (va_eqt (hs _ (by decide +kernel))) (fun j hj => va_eqt (hs _ (nr_abv j hj))) hA
  obtain ⟨tN, hN1, hN2⟩ := va_Tof (tm := .static RX0 "NUMBERS" "[I") (ty := .int) (N := 21) (f := fun j => .int (x_num j)) (A := fun q => s.heap.size ≤ q) (by decide) (hs _ (by decide +kernel)) (va_eqt (hs _ (by decide +kernel))) (fun j hj => va_eqt (hs _ (nr_num j hj))) hA
  obtain ⟨aK, aV, hS1, hS2⟩ := vk_Sof (args := #[Value.ref b]) (s := s) (N := 7) (tm := x_tm) (len := x_len) (byt := x_byt) (A := fun q => s.heap.size ≤ q) (by decide) (fun i hi => hs _ (nr_s1 i hi)) (fun i hi => hs _ (nr_s2 i hi)) (fun i hi => hs _ (nr_s3 i hi)) (fun i hi => hs _ (nr_s4 i hi)) (fun i hi j hj => hs _ (nr_s5 i hi j hj)) (fun i j hi hj hne => by
    rcases Nat.lt_or_gt_of_ne hne with h | h
    · exact Or.inl (hs _ (nr_s6 j hj i h))
    · exact Or.inr (hs _ (nr_s6 i hi j h))) hA
  refine ⟨fun n => if n = 0 then tA else if n = 1 then tN else if n < 20 then aK (n - 10) else aV (n - 20), fun D1 D2 => ?_⟩
  have e1 : ∀ i, i < 7 → (if 10 + i = 0 then tA else if 10 + i = 1 then tN else if 10 + i < 20 then aK (10 + i - 10) else aV (10 + i - 20)) = aK i := fun i hi => by
    rw [if_neg (by omega), if_neg (by omega), if_pos (by omega), Nat.add_sub_cancel_left]
  have e2 : ∀ i, i < 7 → (if 20 + i = 0 then tA else if 20 + i = 1 then tN else if 20 + i < 20 then aK (20 + i - 10) else aV (20 + i - 20)) = aV i := fun i hi => by
    rw [if_neg (by omega), if_neg (by omega), if_neg (by omega), Nat.add_sub_cancel_left]
  refine ⟨va_Zref (h6 _ (by decide +kernel)) (h6 _ (by decide +kernel)) hA1 hA, hA2, va_Zref (h6 _ (by decide +kernel)) (h6 _ (by decide +kernel)) hN1 hA, hN2, va_Zof (h6 _ (by decide +kernel)) (h6 _ (by decide +kernel)) (va_eqi (hs _ (by decide +kernel))) hA, va_Zqof (h6 _ (by decide +kernel)) (h6 _ (by decide +kernel)) (hs _ (by decide +kernel)) hA, fun i hi => ?_, ⟨fun i hi => ?_, fun i j hi hj e => ?_⟩, fun q hq => va_Nw.of rfl (h6 _ (nr_ne q hq)), va_AO.of (h6 _ (by decide +kernel)), va_AO.of (h6 _ (by decide +kernel))⟩
  · refine vk_R.of (A := #[Value.ref b]) (h6 _ (nr_s7 i hi)) ?_
    show _ = some (Value.ref (if 10 + i = 0 then tA else if 10 + i = 1 then tN else if 10 + i < 20 then aK (10 + i - 10) else aV (10 + i - 20)))
    rw [e1 i hi]
    exact hS2 i hi
  · have h := hS1.1 i hi
    rw [← e1 i hi, ← e2 i hi] at h
    exact h
  · refine hS1.2 i j hi hj ?_
    rw [← e1 i hi, ← e1 j hj]
    exact e
theorem law_ok {p : Program} {s : State} {m : MethodId} {meth : Method} {c : Code} {b L : Nat} {xs : Nat → Int32} (C0 : lw_At p s m meth c b L xs) : ∃ D : G, ∀ (l : Launch) (e : Env) (below : List Frame) (Q : State → Prop), Ok D (p, l, e, room_1, s, m, #[Value.ref b], below, meth, c, (fun q => s.heap.size ≤ q), 4, Q) (mLn meth.name) 50 600000 7302250 := by
  obtain ⟨h1, h2, h3, h4, h5, h6, h7, h8, h9, h10⟩ := C0
  have hw : ∀ w ∈ Wd, w.before #[Value.ref b] s = true := fun w hw => h6 w (List.mem_filter.mp hw).1
  obtain ⟨D1, D2, hK⟩ := law_K h6 hw
  obtain ⟨ad, hE⟩ := law_ext h6 h10
  exact ⟨(D1, D2, ad), fun l e below Q => ⟨h1, h2, h3, h4, rfl, h5, hw, hK ad, h9, fun q h => h, hE D1 D2, rfl, (by decide : 50 ≤ 2048), (by decide : 40 * 50 ≤ 84000), Nat.le_refl _, Nat.le_refl _⟩⟩
-- the script
def LX (X : CX) (b L : Nat) (xs : Nat → Int32) : Prop := va_X b L xs (cx_s X) (cx_s X).heap ∧ b < (cx_s X).heap.size ∧ ¬ cx_A X b
abbrev lwv (b a m k : Nat) : List (Nat × Value) := [(0, .ref b), (1, .ref a), (2, .ref m), (3, .int (nI (6 * k)))]
theorem pk_all {ws : va_W} : (List.range ws.length).map (fun i => ws[i]?) = ws.map some := by
  have h := pk_one (wc := ws) (wr := [])
  rwa [List.append_nil] at h
theorem and31 (x : Int32) : ∃ j, j < 32 ∧ x &&& 31 = nI j := by
  refine ⟨x.toBitVec.toNat &&& 31, Nat.lt_succ_of_le Nat.and_le_right, ?_⟩
  apply Int32.toBitVec_inj.1
  show x.toBitVec &&& BitVec.ofNat 32 31 = BitVec.ofNat 32 (x.toBitVec.toNat &&& 31)
  apply BitVec.eq_of_toNat_eq
  rw [BitVec.toNat_and, BitVec.toNat_ofNat, BitVec.toNat_ofNat, Nat.mod_eq_of_lt (show 31 < 2 ^ 32 by decide), Nat.mod_eq_of_lt (Nat.lt_of_le_of_lt Nat.and_le_right (by decide))]
theorem law_gt {L k : Nat} (hL : L ≤ 3072) (hk : 6 * k ≤ L) (h : ¬ (nI L - 6 < nI (6 * k))) : 6 * k + 6 ≤ L := by
  by_cases h6 : 6 ≤ L
  · rw [show nI L - 6 = nI (L - 6) from pk_sub (a := L) (b := 6) h6] at h
    have := (not_congr (c_lt rfl rfl (by omega) (by omega))).mp h
    omega
  · have hk0 : k = 0 := by omega
    subst hk0
    rcases (show L = 0 ∨ L = 1 ∨ L = 2 ∨ L = 3 ∨ L = 4 ∨ L = 5 by omega) with rfl | rfl | rfl | rfl | rfl | rfl <;> exact absurd (by decide) h
section LW
variable {D : G} {X : CX} {mt : MT} {d kc ks cells slots pc b L : Nat} {xs : Nat → Int32} {lv : List (Nat × Value)} {st : List Value} {ws : va_W}
theorem v_sld (O : Ok D X mt d kc ks) (hx : LX X b L xs) {i : Int32} (hin : vp_in i L) (hdg : decode mt.2.1 pc = .ok (.iaload, 1)) (K : V D X cells slots (pc + 1) lv (.int (xs i.toNatClampNeg) :: st) ws) : V D X cells slots pc lv (.int i :: .ref b :: st) ws :=
  fun H locs ls hP hD hS hl => va_sld O.1 O.2.1 hx.1 hx.2.1 hx.2.2 hS hin hdg (K H locs ls hP hD hS hl)
theorem v_slen (O : Ok D X mt d kc ks) (hx : LX X b L xs) (hdg : decode mt.2.1 pc = .ok (.arraylength, 1)) (K : V D X cells slots (pc + 1) lv (.int (nI L) :: st) ws) : V D X cells slots pc lv (.ref b :: st) ws :=
  fun H locs ls hP hD hS hl => va_slen O.1 O.2.1 hx.1 hx.2.1 hx.2.2 hS hdg (K H locs ls hP hD hS hl)
theorem v_cA (O : Ok D X mt d kc ks) {mt' : MT} {d' a idx n ci N : Nat} {As st0 fs : List Value} {Post : Option Value → va_W → Prop} {T : u_T} (F : CFv mt.1.cls mt' idx n) (hci : vwCl[ci]? = some (mt'.1.cls, T, N)) (hsp : Sp D mt' d' 0 0 (.ref a :: As) ws Post) (hdg : decode mt.2.1 pc = .ok (.invokevirtual idx, 3)) (hstk : st0 = As.reverse ++ .ref a :: st) (hn : As.length = n) (he : ((a, .inr (ci, fs)) : Nat × va_E) ∈ ws) (hd : d' + 1 ≤ d) (hrest : (st.map fun v => v.category).sum ≤ 8) (hkc : cells ≤ kc) (hks : slots ≤ ks)
    (K : ∀ (r : Option Value) (w1 : va_W), Post r w1 → V D X cells slots (pc + 3) lv (r.toList ++ st) w1) : V D X cells slots pc lv st0 ws := by
  obtain ⟨q0, hq⟩ := List.mem_iff_getElem?.mp he
  exact v_cV (wr := []) O F hci hsp hdg hstk hn q0 hq (List.range ws.length) [] (nd_ok List.nodup_range) pk_all rfl rfl (fun i hi => absurd hi List.not_mem_nil) hd hrest hkc hks K
theorem v_cIl (O : Ok D X mt d kc ks) {mt' : MT} {d' mc ms a idx n : Nat} {As st0 : List Value} {q : Nat × va_E} {wr : va_W} {Post : Option Value → va_W → Prop} (F : CFi mt.1.cls mt' idx n) (hsp : Sp D mt' d' mc ms (.ref a :: As) [q] Post) (hdg : decode mt.2.1 pc = .ok (.invokespecial idx, 3)) (hstk : st0 = As.reverse ++ .ref a :: st) (hn : As.length = n) (hd : d' + 1 ≤ d) (hrest : (st.map fun v => v.category).sum ≤ 8) (hkc : cells + mc ≤ kc) (hks : slots + ms ≤ ks)
    (K : ∀ (r : Option Value) (w1 : va_W), Post r w1 → V D X (cells + mc) (slots + ms) (pc + 3) lv (r.toList ++ st) (wr ++ w1)) : V D X cells slots pc lv st0 (wr ++ [q]) :=
  v_cI O F hsp hdg hstk hn [wr.length] (List.range wr.length) rfl (by simp) pk_one (nd_ok List.nodup_range) (fun i hi hi2 => by
    have h1 := List.mem_range.mp hi
    have h2 := List.mem_singleton.mp hi2
    omega) hd hrest hkc hks K
theorem law_ld {nm : String} (O : Ok D X (mLn nm) d kc ks) (hx : LX X b L xs) {a m k : Nat} (j : Nat) {n : Int} (d0 : decode code pc = .ok (.aload_n 0, 1)) (d1 : decode code (pc + 1) = .ok (.iload_n 3, 1)) (d2 : decode code (pc + 2) = .ok (.iconst n, 1)) (d3 : decode code (pc + 3) = .ok (.iadd, 1)) (d4 : decode code (pc + 4) = .ok (.iaload, 1)) (hn : Int32.ofInt n = nI j) (hj : 6 * k + j < L) (hL : L ≤ 3072)
    (K : V D X cells slots (pc + 5) (lwv b a m k) (.int (xs (6 * k + j)) :: st) ws) : V D X cells slots pc (lwv b a m k) st ws := by
  refine v_aload_n O d0 0 rfl ?_
  refine v_iload_n O d1 3 rfl ?_
  refine v_iconst O d2 hn ?_
  refine v_iadd O d3 ?_
  refine v_top (y := nI (6 * k + j)) (nI_add (6 * k) j) ?_
  refine v_sld O hx (vp_in_nI hj (by omega)) d4 ?_
  rw [nI_clamp (show 6 * k + j < 2 ^ 31 by omega)]
  exact K
theorem law_c1 {nm : String} (O : Ok D X (mLn nm) d kc ks) {mx : MT} {idx n : Nat} {xa : Nat → Nat} {bx bm : Nat → va_W} {fs As st0 : List Value} {R : Value} {J : (Nat → va_W) → Prop} (F : CFv RL mx idx n) (hc : vwCl[9]? = some (mx.1.cls, TX9, 13)) (hX : bx 0 = [(xa 0, .inr (9, fs))]) (hsp : Sp D mx 30 0 0 (.ref (xa 0) :: As) (wB 24 bx) (fun r w => r = some R ∧ ∃ b2 : Nat → va_W, w = wB 24 b2 ∧ J b2)) (hdg : decode code pc = .ok (.invokevirtual idx, 3)) (hstk : st0 = As.reverse ++ .ref (xa 0) :: st) (hn : As.length = n) (hd : 31 ≤ d) (hrest : (st.map fun v => v.category).sum ≤ 8) (hkc : cells ≤ kc) (hks : slots ≤ ks)
    (K : ∀ b2 : Nat → va_W, J b2 → V D X cells slots (pc + 3) lv (R :: st) (wB 24 b2 ++ wB 55 bm)) : V D X cells slots pc lv st0 (wB 24 bx ++ wB 55 bm) := by
  refine v_cA O F hc (Sp.frP (wr := wB 55 bm) (Q := fun r w => r = some R ∧ ∃ b2 : Nat → va_W, w = wB 24 b2 ++ wB 55 bm ∧ J b2) hsp (List.Perm.refl _) (fun r w1 h => ?_)) hdg hstk hn (fs := fs) (List.mem_append_left _ (List.mem_flatMap.mpr ⟨0, by decide, by rw [hX]; exact List.mem_cons_self⟩)) hd hrest hkc hks (fun r w1 h => ?_)
  · obtain ⟨h1, b2, h2, h3⟩ := h
    exact ⟨_, List.Perm.refl _, h1, b2, by rw [h2], h3⟩
  · obtain ⟨h1, b2, h2, h3⟩ := h
    subst h1; subst h2
    exact K b2 h3
theorem law_c2 {nm : String} (O : Ok D X (mLn nm) d kc ks) {mx : MT} {idx n mo : Nat} {bx bm : Nat → va_W} {fs As st0 : List Value} {R : Value} {J : (Nat → va_W) → Prop} (F : CFv RL mx idx n) (hc : vwCl[10]? = some (mx.1.cls, TX10, 55)) (hM : bm 0 = [(mo, .inr (10, fs))]) (hsp : Sp D mx 30 0 0 (.ref mo :: As) (wB 55 bm) (fun r w => r = some R ∧ ∃ b2 : Nat → va_W, w = wB 55 b2 ∧ J b2)) (hdg : decode code pc = .ok (.invokevirtual idx, 3)) (hstk : st0 = As.reverse ++ .ref mo :: st) (hn : As.length = n) (hd : 31 ≤ d) (hrest : (st.map fun v => v.category).sum ≤ 8) (hkc : cells ≤ kc) (hks : slots ≤ ks)
    (K : ∀ b2 : Nat → va_W, J b2 → V D X cells slots (pc + 3) lv (R :: st) (wB 24 bx ++ wB 55 b2)) : V D X cells slots pc lv st0 (wB 24 bx ++ wB 55 bm) := by
  refine v_cA O F hc (Sp.frP (wr := wB 24 bx) (Q := fun r w => r = some R ∧ ∃ b2 : Nat → va_W, w = wB 24 bx ++ wB 55 b2 ∧ J b2) hsp List.perm_append_comm (fun r w1 h => ?_)) hdg hstk hn (fs := fs) (List.mem_append_right _ (List.mem_flatMap.mpr ⟨0, by decide, by rw [hM]; exact List.mem_cons_self⟩)) hd hrest hkc hks (fun r w1 h => ?_)
  · obtain ⟨h1, b2, h2, h3⟩ := h
    exact ⟨wB 24 bx ++ wB 55 b2, by rw [h2]; exact List.perm_append_comm, h1, b2, rfl, h3⟩
  · obtain ⟨h1, b2, h2, h3⟩ := h
    subst h1; subst h2
    exact K b2 h3
end LW
theorem v_end {D : G} {p : Program} {l : Launch} {e : Env} {s : State} {m : MethodId} {below : List Frame} {meth : Method} {c : Code} {b cells slots : Nat} {lv : List (Nat × Value)} {ws : va_W} (h1 : p.tables.exec = Jvm.exec) (h2 : c.code = code) (h3 : meth.sig.returnType = ret) (h9 : meth.locks = false) (hkc : cells ≤ 600000) (hks : slots ≤ 7302250) : V D (p, l, e, room_1, s, m, #[Value.ref b], below, meth, c, (fun q => s.heap.size ≤ q), 4, lw_Z below #[Value.ref b] s) cells slots 1125 lv [.int 1] ws :=
  fun _ _ _ _ _ hS _ => va_forget (fun q hq => hS.2.2 q hq) (W.widen hkc hks (lw_ret h1 h2 h3 h9 dL_law_1125))
-- what stands at the loop's head
def Inv (D : G) (xa : Nat → Nat) (vt tt : Nat → Option Nat) (mo : Nat) (ma : Nat → Nat) (bx bm : Nat → va_W) : Prop := ∃ c : CS, ∃ c2 : CS, ∃ tk : Int32, ∃ ln : Nat, ∃ tb : Nat → Int32, ∃ vc : Nat, ∃ vs : Nat → VS, ∃ ts : Nat → Int32, ∃ tl : Nat → Nat, ∃ ti : Nat → Nat → Int64, ∃ rn : Nat, ∃ f : Nat → Int32, AOk c c2 tk ln tb vc vs ts tl rn ∧ IX D xa vt tt c c2 tk ln tb vc vs ts tl ti rn f bx ∧ IM D mo ma c c2 tk ln tb vc vs ts tl ti rn f bm
