-- what a condition comes to: the bits in a long, the pile of the reference
noncomputable def bitP (p : Prop) : Bool := @decide p (Classical.propDecidable p)
theorem bitP_t {p : Prop} : bitP p = true ↔ p := by unfold bitP; exact @decide_eq_true_iff p (Classical.propDecidable p)
def bN1 (b : Bool) : Nat := if b = true then 1 else 0
def cmpF (x : Int32) (r n : Nat) : Prop := if r = 0 then x < nI n else if r = 1 then x = nI n else nI n < x
noncomputable def runS (ff : Nat → Int32) (t : Int32) (s : List Bool) : Option (List Bool) :=
  if t = -33 then (match s with | b :: s' => some ((!b) :: s') | [] => none)
  else if t < 0 then (match s with | b :: a :: s' => some ((if t = -38 then (a && b) else (a || b)) :: s') | _ => none)
  else some (bitP (cmpF (ff (t.toNatClampNeg / 1000)) (t.toNatClampNeg / 100 % 10) (t.toNatClampNeg % 100)) :: s)
noncomputable def runR (ff : Nat → Int32) : List Int32 → List Bool → Option (List Bool)
  | [], s => some s
  | t :: l, s => (runS ff t s).bind (runR ff l)
theorem runR_app {ff : Nat → Int32} : ∀ {l k : List Int32} {s : List Bool}, runR ff (l ++ k) s = (runR ff l s).bind (runR ff k)
  | [], k, s => rfl
  | t :: l, k, s => by
    show (runS ff t s).bind (runR ff (l ++ k)) = ((runS ff t s).bind (runR ff l)).bind (runR ff k)
    cases runS ff t s with
    | none => rfl
    | some x => exact runR_app (l := l)
noncomputable def hL9 (ff : Nat → Int32) : List Int32 → Int64 → Int64
  | [], q => q
  | t :: l, q => hL9 ff l (hStep q t ff)
theorem hL9_app {ff : Nat → Int32} : ∀ {l k : List Int32} {q : Int64}, hL9 ff (l ++ k) q = hL9 ff k (hL9 ff l q)
  | [], k, q => rfl
  | t :: l, k, q => hL9_app (l := l)
theorem hF_L {fs ff : Nat → Int32} {a : Nat} : ∀ n : Nat, hF fs ff a n = hL9 ff ((List.range n).map (fun j => fs (a + j))) 0
  | 0 => rfl
  | n + 1 => by
    rw [List.range_succ, List.map_append, hL9_app, ← hF_L n]
    rfl
theorem hF_l {fs ff : Nat → Int32} {a : Nat} {l : List Int32} (h : ∀ j, j < l.length → fs (a + j) = l.getD j 0) : hF fs ff a l.length = hL9 ff l 0 := by
  rw [hF_L]
  refine congrArg (fun z => hL9 ff z 0) (List.ext_getElem (by simp) (fun j h1 h2 => ?_))
  simp only [List.getElem_map, List.getElem_range]
  rw [h j h2]
  simp [List.getD_eq_getElem?_getD, List.getElem?_eq_getElem h2]
def encQ : List Bool → Nat
  | [] => 0
  | b :: s => 2 * encQ s + bN1 b
theorem bN1_le (b : Bool) : bN1 b ≤ 1 := by cases b <;> decide
theorem encQ_lt : ∀ s : List Bool, encQ s < 2 ^ s.length
  | [] => by decide
  | b :: s => by
    have h := encQ_lt s
    have h2 := bN1_le b
    show 2 * encQ s + bN1 b < 2 ^ (s.length + 1)
    rw [Nat.pow_succ]
    omega
theorem q_not_ : ∀ a : Fin 64, ∀ b : Fin 64, lN (64 * a.val + b.val) ^^^ 1 = lN (if (64 * a.val + b.val) % 2 = 0 then 64 * a.val + b.val + 1 else 64 * a.val + b.val - 1) := by decide +kernel
theorem q_shl_ : ∀ a : Fin 64, ∀ b : Fin 64, (lN (64 * a.val + b.val) <<< ((1 : Int32).toInt64 &&& 63)) ||| Int32.toInt64 (1 : Int32) = lN (2 * (64 * a.val + b.val) + 1) ∧ (lN (64 * a.val + b.val) <<< ((1 : Int32).toInt64 &&& 63)) ||| Int32.toInt64 (0 : Int32) = lN (2 * (64 * a.val + b.val)) := by decide +kernel
theorem q_and_ : ∀ a : Fin 64, ∀ b : Fin 64, ((lN (64 * a.val + b.val)).toUInt64 >>> ((1 : Int32).toInt64.toUInt64 &&& Int64.toUInt64 63)).toInt64 &&& ((lN (64 * a.val + b.val) &&& 1) ||| (-2)) = lN (2 * ((64 * a.val + b.val) / 4) + (64 * a.val + b.val) % 2 * ((64 * a.val + b.val) / 2 % 2)) := by decide +kernel
theorem q_or_ : ∀ a : Fin 64, ∀ b : Fin 64, ((lN (64 * a.val + b.val)).toUInt64 >>> ((1 : Int32).toInt64.toUInt64 &&& Int64.toUInt64 63)).toInt64 ||| (lN (64 * a.val + b.val) &&& 1) = lN (2 * ((64 * a.val + b.val) / 4) + ((64 * a.val + b.val) % 2 + (64 * a.val + b.val) / 2 % 2 - (64 * a.val + b.val) % 2 * ((64 * a.val + b.val) / 2 % 2))) := by decide +kernel
theorem q_hp_ : ∀ b : Fin 2, lN b.val &&& 1 = 0 ↔ b.val = 0 := by decide +kernel
theorem q_cut {P : Nat → Prop} (h : ∀ a : Fin 64, ∀ b : Fin 64, P (64 * a.val + b.val)) {q : Nat} (hq : q < 4096) : P q := by
  have := h ⟨q / 64, by omega⟩ ⟨q % 64, by omega⟩
  rwa [show 64 * (q / 64) + q % 64 = q by omega] at this
theorem q_lt {s : List Bool} (h : s.length ≤ 12) : encQ s < 4096 := Nat.lt_of_lt_of_le (encQ_lt s) (Nat.pow_le_pow_right (by decide) h : 2 ^ s.length ≤ 2 ^ 12)
theorem hs_not {b : Bool} {s : List Bool} {ff : Nat → Int32} (h : (b :: s).length ≤ 12) : hStep (lN (encQ (b :: s))) (-1) ff = lN (encQ ((!b) :: s)) := by
  rw [hStep_n (by decide) rfl, q_cut (P := fun q => lN q ^^^ 1 = lN (if q % 2 = 0 then q + 1 else q - 1)) q_not_ (q_lt h)]
  refine congrArg lN ?_
  show (if (2 * encQ s + bN1 b) % 2 = 0 then 2 * encQ s + bN1 b + 1 else 2 * encQ s + bN1 b - 1) = 2 * encQ s + bN1 (!b)
  cases b
  · rw [show bN1 false = 0 from rfl, show bN1 (!false) = 1 from rfl, if_pos (by omega)]
  · rw [show bN1 true = 1 from rfl, show bN1 (!true) = 0 from rfl, if_neg (by omega)]; omega
theorem hs_and {a b : Bool} {s : List Bool} {ff : Nat → Int32} (h : (b :: a :: s).length ≤ 12) : hStep (lN (encQ (b :: a :: s))) (-2) ff = lN (encQ ((a && b) :: s)) := by
  rw [hStep_a (by decide) (by decide) rfl, q_cut (P := fun q => ((lN q).toUInt64 >>> ((1 : Int32).toInt64.toUInt64 &&& Int64.toUInt64 63)).toInt64 &&& ((lN q &&& 1) ||| (-2)) = lN (2 * (q / 4) + q % 2 * (q / 2 % 2))) q_and_ (q_lt h)]
  refine congrArg lN ?_
  show 2 * ((2 * (2 * encQ s + bN1 a) + bN1 b) / 4) + (2 * (2 * encQ s + bN1 a) + bN1 b) % 2 * ((2 * (2 * encQ s + bN1 a) + bN1 b) / 2 % 2) = 2 * encQ s + bN1 (a && b)
  have h1 := bN1_le a
  have h2 := bN1_le b
  rw [show (2 * (2 * encQ s + bN1 a) + bN1 b) / 4 = encQ s by omega, show (2 * (2 * encQ s + bN1 a) + bN1 b) % 2 = bN1 b by omega, show (2 * (2 * encQ s + bN1 a) + bN1 b) / 2 % 2 = bN1 a by omega]
  cases a <;> cases b <;> rfl
theorem hs_or {a b : Bool} {s : List Bool} {ff : Nat → Int32} (h : (b :: a :: s).length ≤ 12) : hStep (lN (encQ (b :: a :: s))) (-3) ff = lN (encQ ((a || b) :: s)) := by
  rw [hStep_o (by decide) (by decide) (by decide), q_cut (P := fun q => ((lN q).toUInt64 >>> ((1 : Int32).toInt64.toUInt64 &&& Int64.toUInt64 63)).toInt64 ||| (lN q &&& 1) = lN (2 * (q / 4) + (q % 2 + q / 2 % 2 - q % 2 * (q / 2 % 2)))) q_or_ (q_lt h)]
  refine congrArg lN ?_
  show 2 * ((2 * (2 * encQ s + bN1 a) + bN1 b) / 4) + ((2 * (2 * encQ s + bN1 a) + bN1 b) % 2 + (2 * (2 * encQ s + bN1 a) + bN1 b) / 2 % 2 - (2 * (2 * encQ s + bN1 a) + bN1 b) % 2 * ((2 * (2 * encQ s + bN1 a) + bN1 b) / 2 % 2)) = 2 * encQ s + bN1 (a || b)
  have h1 := bN1_le a
  have h2 := bN1_le b
  rw [show (2 * (2 * encQ s + bN1 a) + bN1 b) / 4 = encQ s by omega, show (2 * (2 * encQ s + bN1 a) + bN1 b) % 2 = bN1 b by omega, show (2 * (2 * encQ s + bN1 a) + bN1 b) / 2 % 2 = bN1 a by omega]
  cases a <;> cases b <;> rfl
theorem hs_tst {s : List Bool} {ff : Nat → Int32} {k : Nat} (hk : k < 2147483648) (h : s.length ≤ 12) : hStep (lN (encQ s)) (nI k) ff = lN (encQ (bitP (isSoP k ff) :: s)) := by
  have hq := q_cut (P := fun q => (lN q <<< ((1 : Int32).toInt64 &&& 63)) ||| Int32.toInt64 (1 : Int32) = lN (2 * q + 1) ∧ (lN q <<< ((1 : Int32).toInt64 &&& 63)) ||| Int32.toInt64 (0 : Int32) = lN (2 * q)) q_shl_ (q_lt h)
  by_cases z : isSoP k ff
  · rw [hStep_t (nI_pos hk) rfl hk z, bitP_t.mpr z, hq.1]; rfl
  · rw [hStep_f (nI_pos hk) rfl hk z, show bitP (isSoP k ff) = false from Bool.eq_false_iff.mpr (fun q => z (bitP_t.mp q)), hq.2]; rfl
-- steps that come to one answer, over at most h more
def EV (h : Nat) (l : List Int32) : Prop := ∀ ff : Nat → Int32, ∃ b : Bool, ∀ s : List Bool, s.length + h ≤ 12 → runR ff (l.map enc) s = some (b :: s) ∧ hL9 ff l (lN (encQ s)) = lN (encQ (b :: s))
theorem EV_le {h k : Nat} {l : List Int32} (e : EV h l) (hk : h ≤ k) : EV k l := fun ff => by
  obtain ⟨b, hb⟩ := e ff
  exact ⟨b, fun s hs => hb s (by omega)⟩
theorem EV_t {sg : Nat → Int32} {p : Nat} (h : okT sg p) : EV 1 [stp sg p] := fun ff => by
  obtain ⟨l, r, n, hl, hr, hn, e1, e2, _⟩ := stp_n h
  refine ⟨bitP (isSoP ((l * 3 + r) * 100 + n) ff), fun s hs => ?_⟩
  constructor
  · show (runS ff (enc (stp sg p)) s).bind (runR ff []) = _
    rw [enc_stp h, e2]
    unfold runS
    rw [if_neg (fun q => nI_pos (show 1000 * l + 100 * r + n < 2147483648 by omega) (by rw [q]; decide)), if_neg (nI_pos (by omega)), nI_clamp (by omega), show (1000 * l + 100 * r + n) / 1000 = l by omega, show (1000 * l + 100 * r + n) / 100 % 10 = r by omega, show (1000 * l + 100 * r + n) % 100 = n by omega]
    show some (bitP (cmpF (ff l) r n) :: s) = _
    refine congrArg (fun z => some (bitP z :: s)) (propext ?_)
    have g1 : ((l * 3 + r) * 100 + n) / 100 / 3 = l := by omega
    have g2 : ((l * 3 + r) * 100 + n) / 100 % 3 = r := by omega
    have g3 : ((l * 3 + r) * 100 + n) % 100 = n := by omega
    unfold isSoP cmpF
    rw [g1, g2, g3]
    exact ⟨fun q => ⟨hl, q⟩, fun q => q.2⟩
  · show hStep (lN (encQ s)) (stp sg p) ff = _
    rw [e1]
    exact hs_tst (by omega) (by omega)
theorem EV_1 {h : Nat} {l : List Int32} (e : EV h l) (hh : 1 ≤ h) : EV h (l ++ [-1]) := fun ff => by
  obtain ⟨b, hb⟩ := e ff
  refine ⟨!b, fun s hs => ?_⟩
  obtain ⟨h1, h2⟩ := hb s hs
  constructor
  · rw [List.map_append, runR_app, h1]
    show (runS ff (enc (-1)) (b :: s)).bind (runR ff []) = _
    rw [en_1]
    rfl
  · rw [hL9_app, h2]
    show hStep (lN (encQ (b :: s))) (-1) ff = _
    exact hs_not (ff := ff) (b := b) (s := s) (by rw [List.length_cons]; omega)
theorem EV_2 {h : Nat} {l k : List Int32} {op : Int32} (hop : op = -2 ∨ op = -3) (e1 : EV (h + 1) l) (e2 : EV h k) (hh : 1 ≤ h) : EV (h + 1) (l ++ (k ++ [op])) := fun ff => by
  obtain ⟨a, ha⟩ := e1 ff
  obtain ⟨b, hb⟩ := e2 ff
  rcases hop with rfl | rfl
  · refine ⟨a && b, fun s hs => ?_⟩
    obtain ⟨h1, h2⟩ := ha s hs
    obtain ⟨h3, h4⟩ := hb (a :: s) (by rw [List.length_cons]; omega)
    constructor
    · rw [List.map_append, runR_app, h1, Option.bind_some, List.map_append, runR_app, h3]
      show (runS ff (enc (-2)) (b :: a :: s)).bind (runR ff []) = _
      rw [en_2]
      unfold runS
      rw [if_neg (by decide), if_pos (by decide)]
      show (some ((if (-38 : Int32) = -38 then (a && b) else (a || b)) :: s)).bind (runR ff []) = _
      rw [if_pos rfl]
      rfl
    · rw [hL9_app, h2, hL9_app, h4]
      exact hs_and (ff := ff) (by rw [List.length_cons, List.length_cons]; omega)
  · refine ⟨a || b, fun s hs => ?_⟩
    obtain ⟨h1, h2⟩ := ha s hs
    obtain ⟨h3, h4⟩ := hb (a :: s) (by rw [List.length_cons]; omega)
    constructor
    · rw [List.map_append, runR_app, h1, Option.bind_some, List.map_append, runR_app, h3]
      show (runS ff (enc (-3)) (b :: a :: s)).bind (runR ff []) = _
      rw [en_3]
      unfold runS
      rw [if_neg (by decide), if_pos (by decide)]
      show (some ((if (-124 : Int32) = -38 then (a && b) else (a || b)) :: s)).bind (runR ff []) = _
      rw [if_neg (by decide)]
      rfl
    · rw [hL9_app, h2, hL9_app, h4]
      exact hs_or (ff := ff) (by rw [List.length_cons, List.length_cons]; omega)
def EVg (g : Nat → Res) (h : Nat) : Prop := ∀ p, (g p).2.1 = true → EV h (g p).2.2
theorem EV_chn {g : Nat → Res} {sg : Nat → Int32} {c op : Int32} {h : Nat} (hop : op = -2 ∨ op = -3) (hg : EVg g h) (hh : 1 ≤ h) : ∀ (n : Nat) (r : Res), (r.2.1 = true → EV (h + 1) r.2.2) → (chn g sg c op n r).2.1 = true → EV (h + 1) (chn g sg c op n r).2.2
  | 0, r, h1, h2 => h1 h2
  | n + 1, r, h1, h2 => by
    by_cases z : r.2.1 = true ∧ sg r.1 = c
    · rw [chn_s z] at h2 ⊢
      exact EV_chn hop hg hh n _ (fun q => EV_2 hop (h1 z.1) (hg _ q) hh) h2
    · rw [chn_n z] at h2 ⊢
      exact h1 h2
theorem EV_bot {g : Nat → Res} {sg : Nat → Int32} {h : Nat} (hg : EVg g h) (hh : 1 ≤ h) : EVg (botP g sg) (h + 1) := fun p q => EV_chn (Or.inl rfl) hg hh 100 _ (fun z => EV_le (hg p z) (Nat.le_succ h)) q
theorem EV_eit {g : Nat → Res} {sg : Nat → Int32} {h : Nat} (hg : EVg g h) (hh : 1 ≤ h) : EVg (eitP g sg) (h + 2) := fun p q => EV_chn (Or.inr rfl) (EV_bot hg hh) (Nat.le_succ_of_le hh) 100 _ (fun z => EV_le (EV_bot hg hh p z) (Nat.le_succ (h + 1))) q
theorem EV_fac {sg : Nat → Int32} : ∀ f : Nat, EVg (facP sg f) (2 * f + 1) := by
  have ht : ∀ p, (tstP sg p).2.1 = true → EV 1 (tstP sg p).2.2 := fun p q => by
    by_cases y : okT sg p
    · rw [tst_y y]; exact EV_t y
    · rw [tst_n y] at q; exact absurd (show false = true from q) (by decide)
  intro f
  induction f with
  | zero =>
    intro p q
    by_cases z : sg p = 40 ∨ sg p = 33
    · rw [facP_0 z] at q; exact absurd (show false = true from q) (by decide)
    · rw [facP_t z] at q ⊢; exact ht p q
  | succ f ih =>
    intro p q
    by_cases z : sg p = 40 ∨ sg p = 33
    · rw [facP_n z] at q ⊢
      unfold nesP at q ⊢
      by_cases z3 : sg p = 33
      · rw [if_pos z3] at q ⊢
        exact EV_le (EV_1 (ih (p + 1) q) (by omega)) (by omega)
      · rw [if_neg z3] at q ⊢
        by_cases z4 : (eitP (facP sg f) sg (p + 1)).2.1 = true ∧ sg (eitP (facP sg f) sg (p + 1)).1 = 41
        · rw [if_pos z4] at q ⊢
          exact EV_le (EV_eit ih (by omega) (p + 1) z4.1) (by omega)
        · rw [if_neg z4] at q; exact absurd (show false = true from q) (by decide)
    · rw [facP_t z] at q ⊢; exact EV_le (ht p q) (by omega)
theorem EV_con {sg : Nat → Int32} {p : Nat} (h : (conP sg p).2.1 = true) : EV 11 (conP sg p).2.2 := EV_eit (EV_fac 4) (by decide) p h
