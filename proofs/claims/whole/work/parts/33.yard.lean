-- the reference's reading of a condition, by signs that wait; and that it comes to the same
def stk (wf : Nat → Int32) : List Int32 → Prop
  | [] => True
  | x :: W => wf W.length = x ∧ stk wf W
def whlW : List Int32 → List Int32
  | [] => []
  | x :: W => if x = 33 then whlW W else x :: W
def whlN : List Int32 → Nat
  | [] => 0
  | x :: W => if x = 33 then whlN W + 1 else 0
def stlW (s : Int32) : List Int32 → List Int32
  | [] => []
  | x :: W => if x = 38 ∨ (x = 124 ∧ ¬ s = 38) then stlW s W else x :: W
def stlL (s : Int32) : List Int32 → List Int32
  | [] => []
  | x :: W => if x = 38 ∨ (x = 124 ∧ ¬ s = 38) then (-x) :: stlL s W else []
def okT (sg : Nat → Int32) (p : Nat) : Prop := ¬ ixL (sg p) < 0 ∧ ¬ ixR (sg (p + 1)) < 0 ∧ isd (sg (p + 1 + 1))
noncomputable def cdR (sg : Nat → Int32) (p : Nat) : Int32 := 1000 * ixL (sg p) + 100 * (sg (p + 1) - 60) + nI (numN sg (p + 1 + 1))
theorem tst_y {sg : Nat → Int32} {p : Nat} (h : okT sg p) : tstP sg p = (numE sg (p + 1 + 1), true, [stp sg p]) := by unfold tstP; rw [if_neg h.1, if_neg h.2.1, if_pos h.2.2]
theorem tst_n {sg : Nat → Int32} {p : Nat} (h : ¬ okT sg p) : tstP sg p = ((tstP sg p).1, false, []) := by
  unfold tstP
  by_cases h1 : ixL (sg p) < 0
  · rw [if_pos h1]
  · rw [if_neg h1]
    by_cases h2 : ixR (sg (p + 1)) < 0
    · rw [if_pos h2]
    · rw [if_neg h2]
      by_cases h3 : isd (sg (p + 1 + 1))
      · exact absurd ⟨h1, h2, h3⟩ h
      · rw [if_neg h3]
noncomputable def yd (sg : Nat → Int32) : Nat → Nat → Bool → List Int32 → Nat → List Int32 → Nat × Bool × List Int32
  | 0, p, _, _, _, out => (p, false, out)
  | t + 1, p, true, W, op, out => iteP (sg p = 33 ∨ sg p = 40) (iteP (op = 4) (p, false, out) (yd sg t (p + 1) true (sg p :: W) (op + 1) out))
      (iteP (okT sg p) (yd sg t (numE sg (p + 1 + 1)) false (whlW W) (op - whlN W) (out ++ ([cdR sg p] ++ List.replicate (whlN W) (-33)))) ((tstP sg p).1, false, out))
  | t + 1, p, false, W, op, out => iteP (sg p = 38 ∨ sg p = 124) (yd sg t (p + 1) true (sg p :: stlW (sg p) W) op (out ++ stlL (sg p) W))
      (iteP (stlW 124 W = []) (p, true, out ++ stlL 124 W) (iteP (sg p = 41) (yd sg t (p + 1) false (whlW (stlW 124 W).tail) (op - 1 - whlN (stlW 124 W).tail) (out ++ (stlL 124 W ++ List.replicate (whlN (stlW 124 W).tail) (-33)))) (p, false, out ++ stlL 124 W)))
def enc (s : Int32) : Int32 := if s = -1 then -33 else if s = -2 then -38 else if s = -3 then -124 else nI (1000 * (s.toNatClampNeg / 300) + 100 * (s.toNatClampNeg / 100 % 3) + s.toNatClampNeg % 100)
theorem ixL_n {x : Int32} (h : ¬ ixL x < 0) : ∃ l, l < 5 ∧ ixL x = nI l := by
  unfold ixL at h ⊢
  by_cases h0 : (105 : Int32) = x
  · rw [if_pos h0]; exact ⟨0, by decide, rfl⟩
  · rw [if_neg h0] at h ⊢
    by_cases h1 : (107 : Int32) = x
    · rw [if_pos h1]; exact ⟨1, by decide, rfl⟩
    · rw [if_neg h1] at h ⊢
      by_cases h2 : (118 : Int32) = x
      · rw [if_pos h2]; exact ⟨2, by decide, rfl⟩
      · rw [if_neg h2] at h ⊢
        by_cases h3 : (119 : Int32) = x
        · rw [if_pos h3]; exact ⟨3, by decide, rfl⟩
        · rw [if_neg h3] at h ⊢
          by_cases h4 : (104 : Int32) = x
          · rw [if_pos h4]; exact ⟨4, by decide, rfl⟩
          · rw [if_neg h4] at h; exact absurd (by decide) h
theorem ixR_n {x : Int32} (h : ¬ ixR x < 0) : ∃ r, r < 3 ∧ ixR x = nI r ∧ x = nI (60 + r) := by
  unfold ixR at h ⊢
  by_cases h0 : (60 : Int32) = x
  · rw [if_pos h0]; exact ⟨0, by decide, rfl, h0.symm⟩
  · rw [if_neg h0] at h ⊢
    by_cases h1 : (61 : Int32) = x
    · rw [if_pos h1]; exact ⟨1, by decide, rfl, h1.symm⟩
    · rw [if_neg h1] at h ⊢
      by_cases h2 : (62 : Int32) = x
      · rw [if_pos h2]; exact ⟨2, by decide, rfl, h2.symm⟩
      · rw [if_neg h2] at h; exact absurd (by decide) h
theorem ixR_b {x : Int32} : ixR x < 0 ↔ ¬ ((60 : Int32) ≤ x ∧ x ≤ 62) := by
  constructor
  · intro h z
    obtain ⟨j, hj, rfl⟩ := nI_of (show ¬ x < 0 from fun q => Int32.lt_irrefl (Int32.lt_of_lt_of_le q (Int32.le_trans (show (0 : Int32) ≤ 60 by decide) z.1)))
    have h1 := (c_le (x := 60) (y := nI j) (a := 60) rfl rfl (by omega) hj).mp z.1
    have h2 := (c_le (x := nI j) (y := 62) (b := 62) rfl rfl hj (by omega)).mp z.2
    rcases (show j = 60 ∨ j = 61 ∨ j = 62 by omega) with rfl | rfl | rfl <;> exact absurd h (by decide)
  · intro h
    refine Classical.byContradiction (fun z => h ?_)
    obtain ⟨r, hr, _, e⟩ := ixR_n z
    rw [e]
    rcases (show r = 0 ∨ r = 1 ∨ r = 2 by omega) with rfl | rfl | rfl <;> decide
theorem stp_n {sg : Nat → Int32} {p : Nat} (h : okT sg p) : ∃ l r n, l < 5 ∧ r < 3 ∧ n ≤ 99 ∧ stp sg p = nI ((l * 3 + r) * 100 + n) ∧ cdR sg p = nI (1000 * l + 100 * r + n) ∧ ixL (sg p) = nI l ∧ ixR (sg (p + 1)) = nI r := by
  obtain ⟨l, hl, el⟩ := ixL_n h.1
  obtain ⟨r, hr, er, es⟩ := ixR_n h.2.1
  refine ⟨l, r, numN sg (p + 1 + 1), hl, hr, numN_le h.2.2, ?_, ?_, el, er⟩
  · unfold stp
    rw [el, er, show (3 : Int32) = nI 3 from rfl, show (100 : Int32) = nI 100 from rfl, pk_mul, nI_add, pk_mul, nI_add]
  · unfold cdR
    rw [el, es, show nI (60 + r) - 60 = nI r from (show nI (60 + r) - nI 60 = nI (60 + r - 60) from pk_sub (by omega)).trans (by rw [Nat.add_sub_cancel_left]), show (1000 : Int32) = nI 1000 from rfl, show (100 : Int32) = nI 100 from rfl, pk_mul, pk_mul, nI_add, nI_add]
theorem enc_n {k : Nat} (h : k < 2147483648) : enc (nI k) = nI (1000 * (k / 300) + 100 * (k / 100 % 3) + k % 100) := by
  have h1 : ¬ nI k = -1 := zI_m1 h
  have h2 : ¬ nI k = -2 := zI_m2 h
  have h3 : ¬ nI k = -3 := fun z => nI_pos h (by rw [z]; decide)
  unfold enc
  rw [if_neg h1, if_neg h2, if_neg h3, nI_clamp h]
theorem enc_stp {sg : Nat → Int32} {p : Nat} (h : okT sg p) : enc (stp sg p) = cdR sg p := by
  obtain ⟨l, r, n, hl, hr, hn, e1, e2, _⟩ := stp_n h
  rw [e1, e2, enc_n (by omega), show ((l * 3 + r) * 100 + n) / 300 = l by omega, show ((l * 3 + r) * 100 + n) / 100 % 3 = r by omega, show ((l * 3 + r) * 100 + n) % 100 = n by omega]
section
variable {sg : Nat → Int32} {ln : Nat}
-- a factor from p on, at depth op: the reading goes its way, or stops where it stops
def YF (sg : Nat → Int32) (g : Nat → Res) (op : Nat) : Prop := ∀ (p : Nat) (W out : List Int32),
  ((g p).2.1 = true → p < (g p).1 ∧ ∃ k, k ≤ (g p).1 - p ∧ ∀ t, yd sg (t + k) p true W op out = yd sg t (g p).1 false (whlW W) (op - whlN W) (out ++ ((g p).2.2.map enc ++ List.replicate (whlN W) (-33)))) ∧
  (¬ (g p).2.1 = true → p ≤ (g p).1 ∧ ∃ k o, k ≤ (g p).1 - p + (6 - op) ∧ ∀ t, yd sg (t + k) p true W op out = ((g p).1, false, o))
-- a chain of them, or of chains, while W waits
def YG (sg : Nat → Int32) (g : Nat → Res) (op : Nat) (C : Int32 → Prop) (P : List Int32 → Prop) : Prop := ∀ (p : Nat) (W out : List Int32), P W →
  ((g p).2.1 = true → p < (g p).1 ∧ C (sg (g p).1) ∧ ∃ k, k ≤ (g p).1 - p ∧ ∀ t, yd sg (t + 1 + k) p true W op out = yd sg (t + 1) (g p).1 false W op (out ++ (g p).2.2.map enc)) ∧
  (¬ (g p).2.1 = true → p ≤ (g p).1 ∧ ∃ k o, k ≤ (g p).1 - p + (6 - op) ∧ ∀ t, yd sg (t + 1 + k) p true W op out = ((g p).1, false, o))
theorem yd_38 {t p : Nat} {W out : List Int32} {op : Nat} : yd sg (t + 1) p false (38 :: W) op out = yd sg (t + 1) p false W op (out ++ [-38]) := by
  have e1 : ∀ s : Int32, stlW s (38 :: W) = stlW s W := fun s => by rw [stlW, if_pos (Or.inl rfl)]
  have e2 : ∀ s : Int32, stlL s (38 :: W) = (-38) :: stlL s W := fun s => by rw [stlL, if_pos (Or.inl rfl)]
  rw [yd, yd]
  simp only [e1, e2, List.append_assoc, List.cons_append, List.nil_append]
theorem yd_124 {t p : Nat} {W out : List Int32} {op : Nat} (h : ¬ sg p = 38) : yd sg (t + 1) p false (124 :: W) op out = yd sg (t + 1) p false W op (out ++ [-124]) := by
  have e1 : ∀ s : Int32, ¬ s = 38 → stlW s (124 :: W) = stlW s W := fun s hs => by rw [stlW, if_pos (Or.inr ⟨rfl, hs⟩)]
  have e2 : ∀ s : Int32, ¬ s = 38 → stlL s (124 :: W) = (-124) :: stlL s W := fun s hs => by rw [stlL, if_pos (Or.inr ⟨rfl, hs⟩)]
  rw [yd, yd, e1 _ h, e2 _ h, e1 124 (by decide), e2 124 (by decide)]
  simp only [List.append_assoc, List.cons_append, List.nil_append]
-- the chain itself
theorem yd_chn {g : Nat → Res} {c op' : Int32} {op : Nat} {C D : Int32 → Prop} {W : List Int32} (hc : c = 38 ∨ c = 124) (he : enc op' = -c) (hln : ∀ p, sg p = c → p < ln)
    (hW : stlW c W = W ∧ stlL c W = []) (hn : ∀ (t q : Nat) (o : List Int32), C (sg q) → yd sg (t + 1) q false (c :: W) op o = yd sg (t + 1) q false W op (o ++ [-c]))
    (hg : ∀ (p : Nat) (out : List Int32), ((g p).2.1 = true → p < (g p).1 ∧ C (sg (g p).1) ∧ ∃ k, k ≤ (g p).1 - p ∧ ∀ t, yd sg (t + 1 + k) p true (c :: W) op out = yd sg (t + 1) (g p).1 false (c :: W) op (out ++ (g p).2.2.map enc)) ∧ (¬ (g p).2.1 = true → p ≤ (g p).1 ∧ ∃ k o, k ≤ (g p).1 - p + (6 - op) ∧ ∀ t, yd sg (t + 1 + k) p true (c :: W) op out = ((g p).1, false, o))) :
    ∀ (n : Nat) (r : Res) (out : List Int32), r.2.1 = true → C (sg r.1) → ln < n + r.1 + 1 →
      ((chn g sg c op' n r).2.1 = true → r.1 ≤ (chn g sg c op' n r).1 ∧ C (sg (chn g sg c op' n r).1) ∧ ¬ sg (chn g sg c op' n r).1 = c ∧ ∃ k, k ≤ (chn g sg c op' n r).1 - r.1 ∧ ∀ t, yd sg (t + 1 + k) r.1 false W op (out ++ r.2.2.map enc) = yd sg (t + 1) (chn g sg c op' n r).1 false W op (out ++ (chn g sg c op' n r).2.2.map enc)) ∧
      (¬ (chn g sg c op' n r).2.1 = true → r.1 ≤ (chn g sg c op' n r).1 ∧ ∃ k o, k ≤ (chn g sg c op' n r).1 - r.1 + (6 - op) ∧ ∀ t, yd sg (t + 1 + k) r.1 false W op (out ++ r.2.2.map enc) = ((chn g sg c op' n r).1, false, o)) := by
  intro n
  induction n with
  | zero =>
    intro r out hr hC hl
    have h0 : ¬ sg r.1 = c := fun z => by have := hln _ z; omega
    refine ⟨fun _ => ⟨Nat.le_refl _, hC, h0, 0, Nat.zero_le _, fun t => rfl⟩, fun z => absurd hr z⟩
  | succ n ih =>
    intro r out hr hC hl
    by_cases z : sg r.1 = c
    · rw [chn_s ⟨hr, z⟩]
      have hstep : ∀ (s : Nat) (o : List Int32), yd sg (s + 1) r.1 false W op o = yd sg s (r.1 + 1) true (c :: W) op o := fun s o => by
        rw [yd, iteP_t (by rw [z]; exact hc), z, hW.1, hW.2, List.append_nil]
      obtain ⟨g1, g2⟩ := hg (r.1 + 1) (out ++ r.2.2.map enc)
      by_cases zg : (g (r.1 + 1)).2.1 = true
      · obtain ⟨q1, q2, k1, q3, q4⟩ := g1 zg
        obtain ⟨i1, i2⟩ := ih ((g (r.1 + 1)).1, (g (r.1 + 1)).2.1, r.2.2 ++ ((g (r.1 + 1)).2.2 ++ [op'])) out zg q2 (by show ln < n + (g (r.1 + 1)).1 + 1; omega)
        have hgo : ∀ s : Nat, yd sg (s + 1 + k1 + 1) r.1 false W op (out ++ r.2.2.map enc) = yd sg (s + 1) (g (r.1 + 1)).1 false W op (out ++ (r.2.2 ++ ((g (r.1 + 1)).2.2 ++ [op'])).map enc) := fun s => by
          rw [hstep, q4, hn _ _ _ q2, List.map_append, List.map_append, List.map_cons, List.map_nil, he]
          simp only [List.append_assoc]
        refine ⟨fun y => ?_, fun y => ?_⟩
        · obtain ⟨j1, j2, j3, k2, j4, j5⟩ := i1 y
          refine ⟨by have : (g (r.1 + 1)).1 ≤ _ := j1; omega, j2, j3, k2 + k1 + 1, by have : (g (r.1 + 1)).1 ≤ _ := j1; omega, fun t => ?_⟩
          have h5 := j5 t
          rw [show t + 1 + (k2 + k1 + 1) = (t + k2) + 1 + k1 + 1 by omega, hgo (t + k2), show t + k2 + 1 = t + 1 + k2 by omega]
          exact h5
        · obtain ⟨j1, k2, o, j4, j5⟩ := i2 y
          refine ⟨by have : (g (r.1 + 1)).1 ≤ _ := j1; omega, k2 + k1 + 1, o, by have : (g (r.1 + 1)).1 ≤ _ := j1; omega, fun t => ?_⟩
          have h5 := j5 t
          rw [show t + 1 + (k2 + k1 + 1) = (t + k2) + 1 + k1 + 1 by omega, hgo (t + k2), show t + k2 + 1 = t + 1 + k2 by omega]
          exact h5
      · obtain ⟨q1, k1, o, q3, q4⟩ := g2 zg
        rw [chn_n (r := ((g (r.1 + 1)).1, (g (r.1 + 1)).2.1, r.2.2 ++ ((g (r.1 + 1)).2.2 ++ [op']))) (fun y => zg y.1)]
        refine ⟨fun y => absurd y zg, fun _ => ⟨by show r.1 ≤ (g (r.1 + 1)).1; omega, k1 + 1, o, by show k1 + 1 ≤ (g (r.1 + 1)).1 - r.1 + (6 - op); omega, fun t => ?_⟩⟩
        rw [show t + 1 + (k1 + 1) = t + 1 + k1 + 1 by omega, hstep, q4]
    · rw [chn_n (fun y => z y.2)]
      refine ⟨fun _ => ⟨Nat.le_refl _, hC, z, 0, Nat.zero_le _, fun t => rfl⟩, fun y => absurd hr y⟩
theorem en_2 : enc (-2) = -38 := by decide
theorem en_3 : enc (-3) = -124 := by decide
theorem en_1 : enc (-1) = -33 := by decide
def PB (W : List Int32) : Prop := whlW W = W ∧ whlN W = 0 ∧ stlW 38 W = W ∧ stlL 38 W = []
def PE (W : List Int32) : Prop := PB W ∧ stlW 124 W = W ∧ stlL 124 W = []
theorem whl_o {x : Int32} {W : List Int32} (h : ¬ x = 33) : whlW (x :: W) = x :: W ∧ whlN (x :: W) = 0 := by
  constructor
  · rw [whlW, if_neg h]
  · rw [whlN, if_neg h]
theorem yd_bot {tb : Nat → Int32} {ln op : Nat} {g : Nat → Res} (hln : ln ≤ 100) (hop : op ≤ 4) (hg : YF (sgT tb ln) g op) : YG (sgT tb ln) (botP g (sgT tb ln)) op (fun x => ¬ x = 38) PB := by
  intro p W out hW
  obtain ⟨h1, h2, h3, h4⟩ := hW
  have hgo : ∀ (p : Nat) (W out : List Int32), whlW W = W → whlN W = 0 → ((g p).2.1 = true → p < (g p).1 ∧ ∃ k, k ≤ (g p).1 - p ∧ ∀ t, yd (sgT tb ln) (t + 1 + k) p true W op out = yd (sgT tb ln) (t + 1) (g p).1 false W op (out ++ (g p).2.2.map enc)) ∧ (¬ (g p).2.1 = true → p ≤ (g p).1 ∧ ∃ k o, k ≤ (g p).1 - p + (6 - op) ∧ ∀ t, yd (sgT tb ln) (t + 1 + k) p true W op out = ((g p).1, false, o)) := by
    intro p W out e1 e2
    obtain ⟨a, b⟩ := hg p W out
    refine ⟨fun y => ?_, fun y => ?_⟩
    · obtain ⟨a1, k, a2, a3⟩ := a y
      refine ⟨a1, k, a2, fun t => ?_⟩
      rw [a3, e1, e2, List.replicate_zero, List.append_nil, Nat.sub_zero]
    · obtain ⟨b1, k, o, b2, b3⟩ := b y
      exact ⟨b1, k, o, b2, fun t => b3 (t + 1)⟩
  have hC := yd_chn (sg := sgT tb ln) (ln := ln) (g := g) (c := 38) (op' := -2) (op := op) (C := fun _ => True) (D := fun _ => True) (W := W) (Or.inl rfl) en_2 (fun p hp => sgT_lt hp (by decide)) ⟨h3, h4⟩ (fun t q o _ => yd_38)
    (fun p out => ⟨fun y => by obtain ⟨a1, k, a2, a3⟩ := (hgo p (38 :: W) out (whl_o (by decide)).1 (whl_o (by decide)).2).1 y; exact ⟨a1, trivial, k, a2, a3⟩, (hgo p (38 :: W) out (whl_o (by decide)).1 (whl_o (by decide)).2).2⟩)
  unfold botP
  obtain ⟨f1, f2⟩ := hgo p W out h1 h2
  by_cases zg : (g p).2.1 = true
  · obtain ⟨a1, k1, a2, a3⟩ := f1 zg
    obtain ⟨i1, i2⟩ := hC 100 (g p) out zg trivial (by omega)
    refine ⟨fun y => ?_, fun y => ?_⟩
    · obtain ⟨j1, _, j3, k2, j4, j5⟩ := i1 y
      refine ⟨by omega, j3, k2 + k1, by omega, fun t => ?_⟩
      rw [show t + 1 + (k2 + k1) = (t + k2) + 1 + k1 by omega, a3, show t + k2 + 1 = t + 1 + k2 by omega]
      exact j5 t
    · obtain ⟨j1, k2, o, j4, j5⟩ := i2 y
      refine ⟨by omega, k2 + k1, o, by omega, fun t => ?_⟩
      rw [show t + 1 + (k2 + k1) = (t + k2) + 1 + k1 by omega, a3, show t + k2 + 1 = t + 1 + k2 by omega]
      exact j5 t
  · rw [chn_n (r := g p) (fun y => zg y.1)]
    exact ⟨fun y => absurd y zg, f2⟩
theorem yd_eit {tb : Nat → Int32} {ln op : Nat} {g : Nat → Res} (hln : ln ≤ 100) (hop : op ≤ 4) (hg : YF (sgT tb ln) g op) : YG (sgT tb ln) (eitP g (sgT tb ln)) op (fun x => ¬ x = 38 ∧ ¬ x = 124) PE := by
  intro p W out hW
  obtain ⟨h0, h1, h2⟩ := hW
  have hb := yd_bot hln hop hg
  have hP : PB (124 :: W) := ⟨(whl_o (by decide)).1, (whl_o (by decide)).2, by rw [stlW, if_neg (by decide)], by rw [stlL, if_neg (by decide)]⟩
  have hC := yd_chn (sg := sgT tb ln) (ln := ln) (g := botP g (sgT tb ln)) (c := 124) (op' := -3) (op := op) (C := fun x => ¬ x = 38) (D := fun _ => True) (W := W) (Or.inr rfl) en_3 (fun p hp => sgT_lt hp (by decide)) ⟨h1, h2⟩ (fun t q o hq => yd_124 hq) (fun p out => hb p (124 :: W) out hP)
  obtain ⟨f1, f2⟩ := hb p W out h0
  show ((eitP g (sgT tb ln) p).2.1 = true → _) ∧ _
  rw [show eitP g (sgT tb ln) p = chn (botP g (sgT tb ln)) (sgT tb ln) 124 (-3) 100 (botP g (sgT tb ln) p) from rfl]
  by_cases zg : (botP g (sgT tb ln) p).2.1 = true
  · obtain ⟨a1, a4, k1, a2, a3⟩ := f1 zg
    obtain ⟨i1, i2⟩ := hC 100 (botP g (sgT tb ln) p) out zg a4 (by omega)
    refine ⟨fun y => ?_, fun y => ?_⟩
    · obtain ⟨j1, j2, j3, k2, j4, j5⟩ := i1 y
      refine ⟨by omega, ⟨j2, j3⟩, k2 + k1, by omega, fun t => ?_⟩
      rw [show t + 1 + (k2 + k1) = (t + k2) + 1 + k1 by omega, a3, show t + k2 + 1 = t + 1 + k2 by omega]
      exact j5 t
    · obtain ⟨j1, k2, o, j4, j5⟩ := i2 y
      refine ⟨by omega, k2 + k1, o, by omega, fun t => ?_⟩
      rw [show t + 1 + (k2 + k1) = (t + k2) + 1 + k1 by omega, a3, show t + k2 + 1 = t + 1 + k2 by omega]
      exact j5 t
  · rw [chn_n (r := botP g (sgT tb ln) p) (fun y => zg y.1)]
    exact ⟨fun y => absurd y zg, f2⟩
theorem tst_ge {tb : Nat → Int32} {ln p : Nat} : p ≤ (tstP (sgT tb ln) p).1 := by
  unfold tstP
  split
  · exact Nat.le_refl _
  · split
    · exact Nat.le_succ _
    · split
      · rename_i z; have := numE_le z; show p ≤ numE (sgT tb ln) (p + 1 + 1); omega
      · show p ≤ p + 1 + 1; omega
theorem yd_tst {tb : Nat → Int32} {ln op p t : Nat} {W out : List Int32} (h : ¬ (sgT tb ln p = 40 ∨ sgT tb ln p = 33)) : yd (sgT tb ln) (t + 1) p true W op out = iteP (okT (sgT tb ln) p) (yd (sgT tb ln) t (numE (sgT tb ln) (p + 1 + 1)) false (whlW W) (op - whlN W) (out ++ ([cdR (sgT tb ln) p] ++ List.replicate (whlN W) (-33)))) ((tstP (sgT tb ln) p).1, false, out) := by
  rw [yd, iteP_f (fun z => h z.symm)]
theorem yd_fac {tb : Nat → Int32} {ln : Nat} (hln : ln ≤ 100) : ∀ (f op : Nat), op + f = 4 → YF (sgT tb ln) (facP (sgT tb ln) f) op := by
  have htst : ∀ (f op p : Nat) (W out : List Int32), op ≤ 4 → ¬ (sgT tb ln p = 40 ∨ sgT tb ln p = 33) →
      ((facP (sgT tb ln) f p).2.1 = true → p < (facP (sgT tb ln) f p).1 ∧ ∃ k, k ≤ (facP (sgT tb ln) f p).1 - p ∧ ∀ t, yd (sgT tb ln) (t + k) p true W op out = yd (sgT tb ln) t (facP (sgT tb ln) f p).1 false (whlW W) (op - whlN W) (out ++ ((facP (sgT tb ln) f p).2.2.map enc ++ List.replicate (whlN W) (-33)))) ∧
      (¬ (facP (sgT tb ln) f p).2.1 = true → p ≤ (facP (sgT tb ln) f p).1 ∧ ∃ k o, k ≤ (facP (sgT tb ln) f p).1 - p + (6 - op) ∧ ∀ t, yd (sgT tb ln) (t + k) p true W op out = ((facP (sgT tb ln) f p).1, false, o)) := by
    intro f op p W out hop z
    rw [facP_t z]
    by_cases y : okT (sgT tb ln) p
    · rw [tst_y y]
      have := numE_le y.2.2
      refine ⟨fun _ => ⟨by show p < numE (sgT tb ln) (p + 1 + 1); omega, 1, by show 1 ≤ numE (sgT tb ln) (p + 1 + 1) - p; omega, fun t => ?_⟩, fun q => absurd rfl q⟩
      rw [yd_tst z, iteP_t y]
      show yd _ t _ false _ _ (out ++ ([cdR (sgT tb ln) p] ++ _)) = yd _ t _ false _ _ (out ++ ([enc (stp (sgT tb ln) p)] ++ _))
      rw [enc_stp y]
    · have e := tst_n y
      have ef : ¬ (tstP (sgT tb ln) p).2.1 = true := by rw [e]; exact fun q => absurd (show false = true from q) (by decide)
      refine ⟨fun q => absurd q ef, fun _ => ⟨tst_ge, 1, out, by omega, fun t => ?_⟩⟩
      rw [yd_tst z, iteP_f y]
  intro f
  induction f with
  | zero =>
    intro op hop p W out
    by_cases z : sgT tb ln p = 40 ∨ sgT tb ln p = 33
    · rw [facP_0 z]
      refine ⟨fun q => absurd (show false = true from q) (by decide), fun _ => ⟨Nat.le_refl _, 1, out, by show 1 ≤ p - p + (6 - op); omega, fun t => ?_⟩⟩
      rw [yd, iteP_t z.symm, iteP_t (by omega)]
    · exact htst 0 op p W out (by omega) z
  | succ f ih =>
    intro op hop p W out
    by_cases z : sgT tb ln p = 40 ∨ sgT tb ln p = 33
    · rw [facP_n z]
      have hs : ∀ (t : Nat), yd (sgT tb ln) (t + 1) p true W op out = yd (sgT tb ln) t (p + 1) true (sgT tb ln p :: W) (op + 1) out := fun t => by
        rw [yd, iteP_t z.symm, iteP_f (by omega)]
      unfold nesP
      by_cases z3 : sgT tb ln p = 33
      · rw [if_pos z3]
        obtain ⟨a, b⟩ := ih (op + 1) (by omega) (p + 1) (33 :: W) out
        have w1 : whlW (33 :: W) = whlW W := by rw [whlW, if_pos rfl]
        have w2 : whlN (33 :: W) = whlN W + 1 := by rw [whlN, if_pos rfl]
        refine ⟨fun y => ?_, fun y => ?_⟩
        · obtain ⟨a1, k, a2, a3⟩ := a y
          refine ⟨by show p < (facP (sgT tb ln) f (p + 1)).1; omega, k + 1, by show k + 1 ≤ (facP (sgT tb ln) f (p + 1)).1 - p; omega, fun t => ?_⟩
          rw [show t + (k + 1) = t + k + 1 by omega, hs, z3, a3, w1, w2, show op + 1 - (whlN W + 1) = op - whlN W by omega]
          show yd _ t _ false _ _ _ = yd _ t (facP (sgT tb ln) f (p + 1)).1 false _ _ (out ++ (((facP (sgT tb ln) f (p + 1)).2.2 ++ [-1]).map enc ++ _))
          rw [List.map_append, List.map_cons, List.map_nil, en_1, List.replicate_succ]
          simp only [List.append_assoc, List.cons_append, List.nil_append]
        · obtain ⟨b1, k, o, b2, b3⟩ := b y
          refine ⟨by show p ≤ (facP (sgT tb ln) f (p + 1)).1; omega, k + 1, o, by show k + 1 ≤ (facP (sgT tb ln) f (p + 1)).1 - p + (6 - op); omega, fun t => ?_⟩
          rw [show t + (k + 1) = t + k + 1 by omega, hs, z3, b3]
      · rw [if_neg z3]
        have z4 : sgT tb ln p = 40 := z.resolve_right z3
        have hP : PE (40 :: W) := ⟨⟨(whl_o (by decide)).1, (whl_o (by decide)).2, by rw [stlW, if_neg (by decide)], by rw [stlL, if_neg (by decide)]⟩, by rw [stlW, if_neg (by decide)], by rw [stlL, if_neg (by decide)]⟩
        obtain ⟨a, b⟩ := yd_eit hln (by omega) (ih (op + 1) (by omega)) (p + 1) (40 :: W) out hP
        by_cases ze : (eitP (facP (sgT tb ln) f) (sgT tb ln) (p + 1)).2.1 = true
        · obtain ⟨a1, ⟨a5, a6⟩, k, a2, a3⟩ := a ze
          have hlast : ∀ (t : Nat) (o : List Int32), yd (sgT tb ln) (t + 1) (eitP (facP (sgT tb ln) f) (sgT tb ln) (p + 1)).1 false (40 :: W) (op + 1) o = iteP (sgT tb ln (eitP (facP (sgT tb ln) f) (sgT tb ln) (p + 1)).1 = 41) (yd (sgT tb ln) t ((eitP (facP (sgT tb ln) f) (sgT tb ln) (p + 1)).1 + 1) false (whlW W) (op - whlN W) (o ++ List.replicate (whlN W) (-33))) ((eitP (facP (sgT tb ln) f) (sgT tb ln) (p + 1)).1, false, o) := fun t o => by
            rw [yd, iteP_f (fun q => q.elim a5 a6), hP.2.1, hP.2.2, iteP_f (by intro q; cases q), List.append_nil, List.nil_append, Nat.add_sub_cancel]
            rfl
          by_cases zc : sgT tb ln (eitP (facP (sgT tb ln) f) (sgT tb ln) (p + 1)).1 = 41
          · rw [if_pos ⟨ze, zc⟩]
            refine ⟨fun _ => ⟨by show p < _ + 1; omega, k + 1 + 1, by show k + 1 + 1 ≤ (eitP (facP (sgT tb ln) f) (sgT tb ln) (p + 1)).1 + 1 - p; omega, fun t => ?_⟩, fun q => absurd rfl q⟩
            rw [show t + (k + 1 + 1) = t + 1 + k + 1 by omega, hs, z4, a3, hlast, iteP_t zc]
            simp only [List.append_assoc]
          · rw [if_neg (fun q => zc q.2)]
            refine ⟨fun q => absurd (show false = true from q) (by decide), fun _ => ⟨by show p ≤ (eitP (facP (sgT tb ln) f) (sgT tb ln) (p + 1)).1; omega, k + 1 + 1, out ++ (eitP (facP (sgT tb ln) f) (sgT tb ln) (p + 1)).2.2.map enc, by show k + 1 + 1 ≤ (eitP (facP (sgT tb ln) f) (sgT tb ln) (p + 1)).1 - p + (6 - op); omega, fun t => ?_⟩⟩
            rw [show t + (k + 1 + 1) = t + 1 + k + 1 by omega, hs, z4, a3, hlast, iteP_f zc]
        · rw [if_neg (fun q => ze q.1)]
          obtain ⟨b1, k, o, b2, b3⟩ := b ze
          refine ⟨fun q => absurd (show false = true from q) (by decide), fun _ => ⟨by show p ≤ (eitP (facP (sgT tb ln) f) (sgT tb ln) (p + 1)).1; omega, k + 1 + 1, o, ?_, fun t => ?_⟩⟩
          · show k + 1 + 1 ≤ (eitP (facP (sgT tb ln) f) (sgT tb ln) (p + 1)).1 - p + (6 - op)
            omega
          · rw [show t + (k + 1 + 1) = t + 1 + k + 1 by omega, hs, z4, b3]
    · exact htst (f + 1) op p W out (by omega) z
-- the whole of a condition
theorem yd_con {tb : Nat → Int32} {ln p : Nat} (hln : ln ≤ 100) (hp : p ≤ ln) : (yd (sgT tb ln) 110 p true [] 0 []).1 = (conP (sgT tb ln) p).1 ∧ ((yd (sgT tb ln) 110 p true [] 0 []).2.1 = true ↔ (conP (sgT tb ln) p).2.1 = true) ∧ ((conP (sgT tb ln) p).2.1 = true → (yd (sgT tb ln) 110 p true [] 0 []).2.2 = (conP (sgT tb ln) p).2.2.map enc) := by
  have h0 := (con_ok (tb := tb) (ln := ln) p hp).2
  obtain ⟨a, b⟩ := yd_eit hln (by decide) (yd_fac (tb := tb) hln 4 0 rfl) p [] [] ⟨⟨rfl, rfl, rfl, rfl⟩, rfl, rfl⟩
  rw [show eitP (facP (sgT tb ln) 4) (sgT tb ln) p = conP (sgT tb ln) p from rfl] at a b
  by_cases z : (conP (sgT tb ln) p).2.1 = true
  · obtain ⟨a1, ⟨a5, a6⟩, k, a2, a3⟩ := a z
    obtain ⟨t, ht⟩ : ∃ t, 110 = t + 1 + k := ⟨109 - k, by omega⟩
    have e : yd (sgT tb ln) 110 p true [] 0 [] = ((conP (sgT tb ln) p).1, true, (conP (sgT tb ln) p).2.2.map enc) := by
      rw [ht, a3, yd, iteP_f (fun q => q.elim a5 a6), iteP_t (show stlW 124 [] = [] from rfl)]
      show (_, true, [] ++ List.map enc _ ++ []) = _
      rw [List.append_nil, List.nil_append]
    rw [e]
    exact ⟨rfl, ⟨fun _ => z, fun _ => rfl⟩, fun _ => rfl⟩
  · obtain ⟨b1, k, o, b2, b3⟩ := b z
    obtain ⟨t, ht⟩ : ∃ t, 110 = t + 1 + k := ⟨109 - k, by omega⟩
    have e : yd (sgT tb ln) 110 p true [] 0 [] = ((conP (sgT tb ln) p).1, false, o) := by rw [ht, b3]
    rw [e]
    exact ⟨rfl, ⟨fun q => absurd (show false = true from q) (by decide), fun q => absurd q z⟩, fun q => absurd q z⟩
end
