-- worlds by named blocks: a contract over some of them is one over all
def hasL (b : Nat → va_W) : List (Nat × va_W) → Prop
  | [] => True
  | q :: l => b q.1 = q.2 ∧ hasL b l
def allL (B : Nat → va_W → Prop) : List (Nat × va_W) → Prop
  | [] => True
  | q :: l => B q.1 q.2 ∧ allL B l
def upL (b : Nat → va_W) : List (Nat × va_W) → Nat → va_W
  | [], x => b x
  | q :: l, x => if x = q.1 then q.2 else upL b l x
def kyL (l : List (Nat × va_W)) : List Nat := l.map (fun q => q.1)
def cel (l : List (Nat × va_W)) : va_W := l.flatMap (fun q => q.2)
theorem flm_cg {f g : Nat → va_W} : ∀ {l : List Nat}, (∀ x, x ∈ l → f x = g x) → l.flatMap f = l.flatMap g
  | [], _ => rfl
  | a :: l, h => by
    rw [List.flatMap_cons, List.flatMap_cons, h a List.mem_cons_self, flm_cg (fun x hx => h x (List.mem_cons_of_mem a hx))]
theorem upL_no {b : Nat → va_W} {x : Nat} : ∀ {l : List (Nat × va_W)}, x ∉ kyL l → upL b l x = b x
  | [], _ => rfl
  | q :: l, h => by
    have h1 : ¬ x = q.1 := fun z => h (by rw [z]; exact List.mem_cons_self)
    have h2 : x ∉ kyL l := fun z => h (List.mem_cons_of_mem _ z)
    show (if x = q.1 then q.2 else upL b l x) = b x
    rw [if_neg h1, upL_no h2]
theorem upL_fl {b : Nat → va_W} : ∀ {l : List (Nat × va_W)}, (kyL l).Nodup → (kyL l).flatMap (upL b l) = cel l
  | [], _ => rfl
  | q :: l, h => by
    have h1 := List.nodup_cons.mp (show (q.1 :: kyL l).Nodup from h)
    show (q.1 :: kyL l).flatMap (upL b (q :: l)) = q.2 ++ cel l
    have e1 : (kyL l).flatMap (upL b (q :: l)) = (kyL l).flatMap (upL b l) := flm_cg (fun x hx => by
      show (if x = q.1 then q.2 else upL b l x) = _
      exact if_neg (fun z => h1.1 (by rw [← z]; exact hx)))
    have e2 : upL b (q :: l) q.1 = q.2 := if_pos rfl
    rw [List.flatMap_cons, ← upL_fl (b := b) h1.2, e1, e2]
theorem hasL_fl {b : Nat → va_W} : ∀ {l : List (Nat × va_W)}, hasL b l → (kyL l).flatMap b = cel l
  | [], _ => rfl
  | q :: l, h => by
    show (q.1 :: kyL l).flatMap b = q.2 ++ cel l
    rw [List.flatMap_cons, hasL_fl h.2, h.1]
theorem allL_at {B : Nat → va_W → Prop} {b : Nat → va_W} {x : Nat} : ∀ {l : List (Nat × va_W)}, allL B l → x ∈ kyL l → B x (upL b l x)
  | [], _, h => absurd h List.not_mem_nil
  | q :: l, h, hx => by
    by_cases z : x = q.1
    · have e : upL b (q :: l) x = q.2 := if_pos z
      rw [e, z]
      exact h.1
    · have e : upL b (q :: l) x = upL b l x := if_neg z
      rw [e]
      rcases List.mem_cons.mp (show x ∈ q.1 :: kyL l from hx) with y | y
      · exact absurd y z
      · exact allL_at h.2 y
theorem rng_ky {n : Nat} {k : List Nat} (h : k.Nodup) (hn : ∀ x, x ∈ k → x < n) : (List.range n).Perm (k ++ (List.range n).filter (fun x => decide (x ∉ k))) := by
  refine (List.perm_ext_iff_of_nodup List.nodup_range ?_).mpr (fun a => ?_)
  · refine List.nodup_append.mpr ⟨h, List.nodup_range.filter _, fun a ha b hb e => ?_⟩
    have := (List.mem_filter.mp hb).2
    rw [← e] at this
    exact (of_decide_eq_true this) ha
  · rw [List.mem_append, List.mem_filter, List.mem_range, decide_eq_true_iff]
    exact ⟨fun z => if y : a ∈ k then Or.inl y else Or.inr ⟨z, y⟩, fun z => z.elim (hn a) (fun y => y.1)⟩
theorem Sp.fL {D : G} {mt : MT} {d mc ms n : Nat} {args : List Value} {b : Nat → va_W} {l : List (Nat × va_W)} {B : Nat → va_W → Prop} {S : (Nat → va_W) → Prop} {res : Value} {P : Option Value → va_W → Prop} (h : Sp D mt d mc ms args (cel l) P) (hl : hasL b l) (hnd : (kyL l).Nodup) (hlt : ∀ x, x ∈ kyL l → x < n) (hB : ∀ i, i < n → B i (b i))
    (hP : ∀ r w1, P r w1 → r = some res ∧ ∃ l2, kyL l2 = kyL l ∧ w1 = cel l2 ∧ ∃ B2 : Nat → va_W → Prop, allL B2 l2 ∧ (∀ i w, i ∉ kyL l → B i w → B2 i w) ∧ ∀ b2 : Nat → va_W, (∀ i, i < n → B2 i (b2 i)) → S b2) : Sp D mt d mc ms args (wB n b) (fun r w => r = some res ∧ ∃ b2 : Nat → va_W, w = wB n b2 ∧ S b2) := by
  have hpm := rng_ky (n := n) hnd hlt
  have e1 := hasL_fl hl
  rw [← e1] at h
  refine Sp.fB h hpm (fun r w1 hp => ?_)
  obtain ⟨hr, l2, hk, hw, B2, hB2, hch, hS⟩ := hP r w1 hp
  refine ⟨upL b l2, ?_, flm_cg (fun x hx => upL_no (by rw [hk]; exact of_decide_eq_true (List.mem_filter.mp hx).2)), hr, upL b l2, rfl, hS _ (fun i hi => ?_)⟩
  · rw [hw, ← hk]
    exact (upL_fl (by rw [hk]; exact hnd)).symm
  · by_cases z : i ∈ kyL l2
    · exact allL_at hB2 z
    · rw [upL_no z]
      exact hch i _ (by rw [← hk]; exact z) (hB i hi)
-- the class: its blocks
def O9 (xa : Nat → Nat) (tk : Int32) (vc : Nat) : va_W := [(xa 0, .inr (9, [.ref (xa 1), .ref (xa 7), .int tk, .ref (xa 13), .ref (xa 46), .ref (xa 15), .int (nI vc), .ref (xa 51), .ref (xa 58), .ref (xa 67), .ref (xa 77), .ref (xa 79), .ref (xa 81)]))]
def C9 (D : G) (xa : Nat → Nat) (s : Nat) (c : CS) : va_W := [(xa s, .inr (1, [.int (nI c.men), .ref (xa (s + 1)), .ref (xa (s + 2)), .ref (xa (s + 3)), .int (nI c.heap), .int c.dogs, .int (nI c.wak), .int (nI c.rl), .ref (xa (s + 4)), .int (nI c.pg), .ref (xa (s + 5)), .int c.held])), (xa (s + 1), eI D 6 (nF c.kk)), (xa (s + 2), eI D 6 (nF c.vv)), (xa (s + 3), eI D 6 c.hd), (xa (s + 4), eI D 8 (nF c.crf)), (xa (s + 5), eI D 12 (nF c.bo))]
def T9 (D : G) (xa : Nat → Nat) (ln : Nat) (tb : Nat → Int32) (pl si : Int32) : va_W := [(xa 13, .inr (7, [.ref (xa 14), .int (nI ln), .int pl, .int si])), (xa 14, eB D 100 tb)]
def VB (D : G) (xa : Nat → Nat) (k : Nat) (v : VS) : va_W := [(xa (16 + 5 * k), .inr (6, [.int (nI v.sh), .int (nI v.mo), .int (nI v.ov), .int (nI v.nr), .ref (xa (17 + 5 * k)), .ref (xa (18 + 5 * k)), .ref (xa (19 + 5 * k)), .int (nI v.nl), .ref (xa (20 + 5 * k))])), (xa (17 + 5 * k), eZ D 10 v.fo), (xa (18 + 5 * k), eI D 10 v.fa), (xa (19 + 5 * k), eI D 10 v.fe), (xa (20 + 5 * k), eI D 100 v.fs)]
def W9 (D : G) (xa : Nat → Nat) (s : Nat) (gz : Int32) (lf : Int32) (dg : Int32) (hd : Int32) (f1 : Nat → Int32) (f2 : Nat → Int32) (f3 : Nat → Int32) (ff : Nat → Int32) (ot : Nat → Nat) (bt : Nat → Nat) : va_W := [(xa s, .inr (8, [.ref (xa (s + 1)), .ref (xa (s + 2)), .ref (xa (s + 3)), .int gz, .ref (xa (s + 4)), .ref (xa (s + 5)), .ref (xa (s + 6)), .int lf, .int dg, .int hd])), (xa (s + 1), eI D 6 f1), (xa (s + 2), eI D 6 f2), (xa (s + 3), eI D 6 f3), (xa (s + 4), eI D 5 ff), (xa (s + 5), eI D 480 (nF ot)), (xa (s + 6), eI D 480 (nF bt))]
def N9 (D : G) (xa : Nat → Nat) (n0 : Int32) (s0 : Int32) (m0 : Int32) (l0 : Int32) (g0 : Int32) (d0 : Int32) (rw : Nat → Nat) : va_W := [(xa 58, .inr (3, [.ref (xa 60), .ref (xa 59), .int n0, .int s0, .int m0, .int l0, .int g0, .int d0])), (xa 59, eI D 8 (nF rw))]
def R9 (D : G) (xa : Nat → Nat) (bl0 : Int32) (rw0 : Int32) (rm0 : Int32) (dw0 : Int32) (u : Nat → Nat) (b : Nat → Nat) : va_W := [(xa 67, .inr (4, [.ref (xa 70), .ref (xa 68), .ref (xa 69), .int bl0, .int rm0, .int dw0, .int rw0])), (xa 68, eI D 6 (nF u)), (xa 69, eI D 6 (nF b))]
def L9 (D : G) (xa : Nat → Nat) (y : Nat → Int32) : va_W := [(xa 77, .inr (2, [.ref (xa 78)])), (xa 78, eI D 40 y)]
def B9 (D : G) (xa : Nat → Nat) (rn : Nat) (f : Nat → Int32) (y1 : Int32) (y2 : Nat) (y3 : Int32) : va_W := [(xa 79, .inr (0, [.ref (xa 80), .int (nI rn), .int y1, .int (nI y2), .int y3])), (xa 80, eI D 20 f)]
def TB (D : G) (xa : Nat → Nat) (k : Nat) (s : Int32) (n : Nat) (g : Nat → Int64) : va_W := [(xa (82 + 2 * k), .inr (5, [.int s, .int (nI n), .ref (xa (83 + 2 * k))])), (xa (83 + 2 * k), eJ D 60 g)]
def BX (D : G) (xa : Nat → Nat) (vt tt : Nat → Option Nat) (c : CS) (c2 : CS) (tk : Int32) (ln : Nat) (tb : Nat → Int32) (vc : Nat) (vs : Nat → VS) (ts : Nat → Int32) (tl : Nat → Nat) (ti : Nat → Nat → Int64) (rn : Nat) (f : Nat → Int32) (i : Nat) (w : va_W) : Prop :=
  if i = 0 then w = O9 xa tk vc else if i = 1 then w = C9 D xa 1 c else if i = 2 then w = C9 D xa 7 c2 else if i = 3 then ∃ pl si : Int32, w = T9 D xa ln tb pl si else if i = 4 then w = [(xa 15, eV D 6 vt)] else
  if i < 12 then w = VB D xa (i - 5) (vs (i - 5)) else if i = 12 then ∃ gz : Int32, ∃ lf : Int32, ∃ dg : Int32, ∃ hd : Int32, ∃ f1 : Nat → Int32, ∃ f2 : Nat → Int32, ∃ f3 : Nat → Int32, ∃ ff : Nat → Int32, ∃ ot : Nat → Nat, ∃ bt : Nat → Nat, w = W9 D xa 51 gz lf dg hd f1 f2 f3 ff ot bt else if i = 13 then ∃ n0 : Int32, ∃ s0 : Int32, ∃ m0 : Int32, ∃ l0 : Int32, ∃ g0 : Int32, ∃ d0 : Int32, ∃ rw : Nat → Nat, ∃ gz : Int32, ∃ lf : Int32, ∃ dg : Int32, ∃ hd : Int32, ∃ f1 : Nat → Int32, ∃ f2 : Nat → Int32, ∃ f3 : Nat → Int32, ∃ ff : Nat → Int32, ∃ ot : Nat → Nat, ∃ bt : Nat → Nat, w = N9 D xa n0 s0 m0 l0 g0 d0 rw ++ W9 D xa 60 gz lf dg hd f1 f2 f3 ff ot bt else if i = 14 then ∃ bl0 : Int32, ∃ rw0 : Int32, ∃ rm0 : Int32, ∃ dw0 : Int32, ∃ u : Nat → Nat, ∃ b : Nat → Nat, ∃ gz : Int32, ∃ lf : Int32, ∃ dg : Int32, ∃ hd : Int32, ∃ f1 : Nat → Int32, ∃ f2 : Nat → Int32, ∃ f3 : Nat → Int32, ∃ ff : Nat → Int32, ∃ ot : Nat → Nat, ∃ bt : Nat → Nat, w = R9 D xa bl0 rw0 rm0 dw0 u b ++ W9 D xa 70 gz lf dg hd f1 f2 f3 ff ot bt else
  if i = 15 then ∃ y : Nat → Int32, w = L9 D xa y else if i = 16 then ∃ (y1 : Int32) (y2 : Nat) (y3 : Int32), w = B9 D xa rn f y1 y2 y3 else if i = 17 then w = [(xa 81, eT D 6 tt)] else w = TB D xa (i - 18) (ts (i - 18)) (tl (i - 18)) (ti (i - 18))
def IX (D : G) (xa : Nat → Nat) (vt tt : Nat → Option Nat) (c : CS) (c2 : CS) (tk : Int32) (ln : Nat) (tb : Nat → Int32) (vc : Nat) (vs : Nat → VS) (ts : Nat → Int32) (tl : Nat → Nat) (ti : Nat → Nat → Int64) (rn : Nat) (f : Nat → Int32) (b : Nat → va_W) : Prop := ∀ i, i < 24 → BX D xa vt tt c c2 tk ln tb vc vs ts tl ti rn f i (b i)
theorem x_0 {D : G} {xa : Nat → Nat} {vt tt : Nat → Option Nat} {c : CS} {c2 : CS} {tk : Int32} {ln : Nat} {tb : Nat → Int32} {vc : Nat} {vs : Nat → VS} {ts : Nat → Int32} {tl : Nat → Nat} {ti : Nat → Nat → Int64} {rn : Nat} {f : Nat → Int32} {bb : Nat → va_W} (h : IX D xa vt tt c c2 tk ln tb vc vs ts tl ti rn f bb) : bb 0 = O9 xa tk vc := h 0 (by decide)
theorem k_0 {D : G} {xa : Nat → Nat} {vt tt : Nat → Option Nat} {c : CS} {c2 : CS} {tk : Int32} {ln : Nat} {tb : Nat → Int32} {vc : Nat} {vs : Nat → VS} {ts : Nat → Int32} {tl : Nat → Nat} {ti : Nat → Nat → Int64} {rn : Nat} {f : Nat → Int32} : BX D xa vt tt c c2 tk ln tb vc vs ts tl ti rn f 0 (O9 xa tk vc) := rfl
theorem x_1 {D : G} {xa : Nat → Nat} {vt tt : Nat → Option Nat} {c : CS} {c2 : CS} {tk : Int32} {ln : Nat} {tb : Nat → Int32} {vc : Nat} {vs : Nat → VS} {ts : Nat → Int32} {tl : Nat → Nat} {ti : Nat → Nat → Int64} {rn : Nat} {f : Nat → Int32} {bb : Nat → va_W} (h : IX D xa vt tt c c2 tk ln tb vc vs ts tl ti rn f bb) : bb 1 = C9 D xa 1 c := h 1 (by decide)
theorem k_1 {D : G} {xa : Nat → Nat} {vt tt : Nat → Option Nat} {c : CS} {c2 : CS} {tk : Int32} {ln : Nat} {tb : Nat → Int32} {vc : Nat} {vs : Nat → VS} {ts : Nat → Int32} {tl : Nat → Nat} {ti : Nat → Nat → Int64} {rn : Nat} {f : Nat → Int32} : BX D xa vt tt c c2 tk ln tb vc vs ts tl ti rn f 1 (C9 D xa 1 c) := rfl
theorem x_2 {D : G} {xa : Nat → Nat} {vt tt : Nat → Option Nat} {c : CS} {c2 : CS} {tk : Int32} {ln : Nat} {tb : Nat → Int32} {vc : Nat} {vs : Nat → VS} {ts : Nat → Int32} {tl : Nat → Nat} {ti : Nat → Nat → Int64} {rn : Nat} {f : Nat → Int32} {bb : Nat → va_W} (h : IX D xa vt tt c c2 tk ln tb vc vs ts tl ti rn f bb) : bb 2 = C9 D xa 7 c2 := h 2 (by decide)
theorem k_2 {D : G} {xa : Nat → Nat} {vt tt : Nat → Option Nat} {c : CS} {c2 : CS} {tk : Int32} {ln : Nat} {tb : Nat → Int32} {vc : Nat} {vs : Nat → VS} {ts : Nat → Int32} {tl : Nat → Nat} {ti : Nat → Nat → Int64} {rn : Nat} {f : Nat → Int32} : BX D xa vt tt c c2 tk ln tb vc vs ts tl ti rn f 2 (C9 D xa 7 c2) := rfl
theorem x_4 {D : G} {xa : Nat → Nat} {vt tt : Nat → Option Nat} {c : CS} {c2 : CS} {tk : Int32} {ln : Nat} {tb : Nat → Int32} {vc : Nat} {vs : Nat → VS} {ts : Nat → Int32} {tl : Nat → Nat} {ti : Nat → Nat → Int64} {rn : Nat} {f : Nat → Int32} {bb : Nat → va_W} (h : IX D xa vt tt c c2 tk ln tb vc vs ts tl ti rn f bb) : bb 4 = [(xa 15, eV D 6 vt)] := h 4 (by decide)
theorem k_4 {D : G} {xa : Nat → Nat} {vt tt : Nat → Option Nat} {c : CS} {c2 : CS} {tk : Int32} {ln : Nat} {tb : Nat → Int32} {vc : Nat} {vs : Nat → VS} {ts : Nat → Int32} {tl : Nat → Nat} {ti : Nat → Nat → Int64} {rn : Nat} {f : Nat → Int32} : BX D xa vt tt c c2 tk ln tb vc vs ts tl ti rn f 4 ([(xa 15, eV D 6 vt)]) := rfl
theorem x_17 {D : G} {xa : Nat → Nat} {vt tt : Nat → Option Nat} {c : CS} {c2 : CS} {tk : Int32} {ln : Nat} {tb : Nat → Int32} {vc : Nat} {vs : Nat → VS} {ts : Nat → Int32} {tl : Nat → Nat} {ti : Nat → Nat → Int64} {rn : Nat} {f : Nat → Int32} {bb : Nat → va_W} (h : IX D xa vt tt c c2 tk ln tb vc vs ts tl ti rn f bb) : bb 17 = [(xa 81, eT D 6 tt)] := h 17 (by decide)
theorem k_17 {D : G} {xa : Nat → Nat} {vt tt : Nat → Option Nat} {c : CS} {c2 : CS} {tk : Int32} {ln : Nat} {tb : Nat → Int32} {vc : Nat} {vs : Nat → VS} {ts : Nat → Int32} {tl : Nat → Nat} {ti : Nat → Nat → Int64} {rn : Nat} {f : Nat → Int32} : BX D xa vt tt c c2 tk ln tb vc vs ts tl ti rn f 17 ([(xa 81, eT D 6 tt)]) := rfl
theorem x_3 {D : G} {xa : Nat → Nat} {vt tt : Nat → Option Nat} {c : CS} {c2 : CS} {tk : Int32} {ln : Nat} {tb : Nat → Int32} {vc : Nat} {vs : Nat → VS} {ts : Nat → Int32} {tl : Nat → Nat} {ti : Nat → Nat → Int64} {rn : Nat} {f : Nat → Int32} {bb : Nat → va_W} (h : IX D xa vt tt c c2 tk ln tb vc vs ts tl ti rn f bb) : ∃ pl : Int32, ∃ si : Int32, bb 3 = T9 D xa ln tb pl si := h 3 (by decide)
theorem k_3 {D : G} {xa : Nat → Nat} {vt tt : Nat → Option Nat} {c : CS} {c2 : CS} {tk : Int32} {ln : Nat} {tb : Nat → Int32} {vc : Nat} {vs : Nat → VS} {ts : Nat → Int32} {tl : Nat → Nat} {ti : Nat → Nat → Int64} {rn : Nat} {f : Nat → Int32} {pl : Int32} {si : Int32} : BX D xa vt tt c c2 tk ln tb vc vs ts tl ti rn f 3 (T9 D xa ln tb pl si) := ⟨_, _, rfl⟩
theorem x_12 {D : G} {xa : Nat → Nat} {vt tt : Nat → Option Nat} {c : CS} {c2 : CS} {tk : Int32} {ln : Nat} {tb : Nat → Int32} {vc : Nat} {vs : Nat → VS} {ts : Nat → Int32} {tl : Nat → Nat} {ti : Nat → Nat → Int64} {rn : Nat} {f : Nat → Int32} {bb : Nat → va_W} (h : IX D xa vt tt c c2 tk ln tb vc vs ts tl ti rn f bb) : ∃ gz : Int32, ∃ lf : Int32, ∃ dg : Int32, ∃ hd : Int32, ∃ f1 : Nat → Int32, ∃ f2 : Nat → Int32, ∃ f3 : Nat → Int32, ∃ ff : Nat → Int32, ∃ ot : Nat → Nat, ∃ bt : Nat → Nat, bb 12 = W9 D xa 51 gz lf dg hd f1 f2 f3 ff ot bt := h 12 (by decide)
theorem k_12 {D : G} {xa : Nat → Nat} {vt tt : Nat → Option Nat} {c : CS} {c2 : CS} {tk : Int32} {ln : Nat} {tb : Nat → Int32} {vc : Nat} {vs : Nat → VS} {ts : Nat → Int32} {tl : Nat → Nat} {ti : Nat → Nat → Int64} {rn : Nat} {f : Nat → Int32} {gz : Int32} {lf : Int32} {dg : Int32} {hd : Int32} {f1 : Nat → Int32} {f2 : Nat → Int32} {f3 : Nat → Int32} {ff : Nat → Int32} {ot : Nat → Nat} {bt : Nat → Nat} : BX D xa vt tt c c2 tk ln tb vc vs ts tl ti rn f 12 (W9 D xa 51 gz lf dg hd f1 f2 f3 ff ot bt) := ⟨_, _, _, _, _, _, _, _, _, _, rfl⟩
theorem x_13 {D : G} {xa : Nat → Nat} {vt tt : Nat → Option Nat} {c : CS} {c2 : CS} {tk : Int32} {ln : Nat} {tb : Nat → Int32} {vc : Nat} {vs : Nat → VS} {ts : Nat → Int32} {tl : Nat → Nat} {ti : Nat → Nat → Int64} {rn : Nat} {f : Nat → Int32} {bb : Nat → va_W} (h : IX D xa vt tt c c2 tk ln tb vc vs ts tl ti rn f bb) : ∃ n0 : Int32, ∃ s0 : Int32, ∃ m0 : Int32, ∃ l0 : Int32, ∃ g0 : Int32, ∃ d0 : Int32, ∃ rw : Nat → Nat, ∃ gz : Int32, ∃ lf : Int32, ∃ dg : Int32, ∃ hd : Int32, ∃ f1 : Nat → Int32, ∃ f2 : Nat → Int32, ∃ f3 : Nat → Int32, ∃ ff : Nat → Int32, ∃ ot : Nat → Nat, ∃ bt : Nat → Nat, bb 13 = N9 D xa n0 s0 m0 l0 g0 d0 rw ++ W9 D xa 60 gz lf dg hd f1 f2 f3 ff ot bt := h 13 (by decide)
theorem k_13 {D : G} {xa : Nat → Nat} {vt tt : Nat → Option Nat} {c : CS} {c2 : CS} {tk : Int32} {ln : Nat} {tb : Nat → Int32} {vc : Nat} {vs : Nat → VS} {ts : Nat → Int32} {tl : Nat → Nat} {ti : Nat → Nat → Int64} {rn : Nat} {f : Nat → Int32} {n0 : Int32} {s0 : Int32} {m0 : Int32} {l0 : Int32} {g0 : Int32} {d0 : Int32} {rw : Nat → Nat} {gz : Int32} {lf : Int32} {dg : Int32} {hd : Int32} {f1 : Nat → Int32} {f2 : Nat → Int32} {f3 : Nat → Int32} {ff : Nat → Int32} {ot : Nat → Nat} {bt : Nat → Nat} : BX D xa vt tt c c2 tk ln tb vc vs ts tl ti rn f 13 (N9 D xa n0 s0 m0 l0 g0 d0 rw ++ W9 D xa 60 gz lf dg hd f1 f2 f3 ff ot bt) := ⟨_, _, _, _, _, _, _, _, _, _, _, _, _, _, _, _, _, rfl⟩
theorem x_14 {D : G} {xa : Nat → Nat} {vt tt : Nat → Option Nat} {c : CS} {c2 : CS} {tk : Int32} {ln : Nat} {tb : Nat → Int32} {vc : Nat} {vs : Nat → VS} {ts : Nat → Int32} {tl : Nat → Nat} {ti : Nat → Nat → Int64} {rn : Nat} {f : Nat → Int32} {bb : Nat → va_W} (h : IX D xa vt tt c c2 tk ln tb vc vs ts tl ti rn f bb) : ∃ bl0 : Int32, ∃ rw0 : Int32, ∃ rm0 : Int32, ∃ dw0 : Int32, ∃ u : Nat → Nat, ∃ b : Nat → Nat, ∃ gz : Int32, ∃ lf : Int32, ∃ dg : Int32, ∃ hd : Int32, ∃ f1 : Nat → Int32, ∃ f2 : Nat → Int32, ∃ f3 : Nat → Int32, ∃ ff : Nat → Int32, ∃ ot : Nat → Nat, ∃ bt : Nat → Nat, bb 14 = R9 D xa bl0 rw0 rm0 dw0 u b ++ W9 D xa 70 gz lf dg hd f1 f2 f3 ff ot bt := h 14 (by decide)
theorem k_14 {D : G} {xa : Nat → Nat} {vt tt : Nat → Option Nat} {c : CS} {c2 : CS} {tk : Int32} {ln : Nat} {tb : Nat → Int32} {vc : Nat} {vs : Nat → VS} {ts : Nat → Int32} {tl : Nat → Nat} {ti : Nat → Nat → Int64} {rn : Nat} {f : Nat → Int32} {bl0 : Int32} {rw0 : Int32} {rm0 : Int32} {dw0 : Int32} {u : Nat → Nat} {b : Nat → Nat} {gz : Int32} {lf : Int32} {dg : Int32} {hd : Int32} {f1 : Nat → Int32} {f2 : Nat → Int32} {f3 : Nat → Int32} {ff : Nat → Int32} {ot : Nat → Nat} {bt : Nat → Nat} : BX D xa vt tt c c2 tk ln tb vc vs ts tl ti rn f 14 (R9 D xa bl0 rw0 rm0 dw0 u b ++ W9 D xa 70 gz lf dg hd f1 f2 f3 ff ot bt) := ⟨_, _, _, _, _, _, _, _, _, _, _, _, _, _, _, _, rfl⟩
theorem x_15 {D : G} {xa : Nat → Nat} {vt tt : Nat → Option Nat} {c : CS} {c2 : CS} {tk : Int32} {ln : Nat} {tb : Nat → Int32} {vc : Nat} {vs : Nat → VS} {ts : Nat → Int32} {tl : Nat → Nat} {ti : Nat → Nat → Int64} {rn : Nat} {f : Nat → Int32} {bb : Nat → va_W} (h : IX D xa vt tt c c2 tk ln tb vc vs ts tl ti rn f bb) : ∃ y : Nat → Int32, bb 15 = L9 D xa y := h 15 (by decide)
theorem k_15 {D : G} {xa : Nat → Nat} {vt tt : Nat → Option Nat} {c : CS} {c2 : CS} {tk : Int32} {ln : Nat} {tb : Nat → Int32} {vc : Nat} {vs : Nat → VS} {ts : Nat → Int32} {tl : Nat → Nat} {ti : Nat → Nat → Int64} {rn : Nat} {f : Nat → Int32} {y : Nat → Int32} : BX D xa vt tt c c2 tk ln tb vc vs ts tl ti rn f 15 (L9 D xa y) := ⟨_, rfl⟩
theorem x_16 {D : G} {xa : Nat → Nat} {vt tt : Nat → Option Nat} {c : CS} {c2 : CS} {tk : Int32} {ln : Nat} {tb : Nat → Int32} {vc : Nat} {vs : Nat → VS} {ts : Nat → Int32} {tl : Nat → Nat} {ti : Nat → Nat → Int64} {rn : Nat} {f : Nat → Int32} {bb : Nat → va_W} (h : IX D xa vt tt c c2 tk ln tb vc vs ts tl ti rn f bb) : ∃ y1 : Int32, ∃ y2 : Nat, ∃ y3 : Int32, bb 16 = B9 D xa rn f y1 y2 y3 := h 16 (by decide)
theorem k_16 {D : G} {xa : Nat → Nat} {vt tt : Nat → Option Nat} {c : CS} {c2 : CS} {tk : Int32} {ln : Nat} {tb : Nat → Int32} {vc : Nat} {vs : Nat → VS} {ts : Nat → Int32} {tl : Nat → Nat} {ti : Nat → Nat → Int64} {rn : Nat} {f : Nat → Int32} {y1 : Int32} {y2 : Nat} {y3 : Int32} : BX D xa vt tt c c2 tk ln tb vc vs ts tl ti rn f 16 (B9 D xa rn f y1 y2 y3) := ⟨_, _, _, rfl⟩
theorem BX_V {D : G} {xa : Nat → Nat} {vt tt : Nat → Option Nat} {c : CS} {c2 : CS} {tk : Int32} {ln : Nat} {tb : Nat → Int32} {vc : Nat} {vs : Nat → VS} {ts : Nat → Int32} {tl : Nat → Nat} {ti : Nat → Nat → Int64} {rn : Nat} {f : Nat → Int32} {k : Nat} {w : va_W} (hk : k < 7) : BX D xa vt tt c c2 tk ln tb vc vs ts tl ti rn f (5 + k) w ↔ w = VB D xa k (vs k) := by
  unfold BX
  rw [if_neg (by omega), if_neg (by omega), if_neg (by omega), if_neg (by omega), if_neg (by omega), if_pos (by omega), Nat.add_sub_cancel_left]
theorem BX_T {D : G} {xa : Nat → Nat} {vt tt : Nat → Option Nat} {c : CS} {c2 : CS} {tk : Int32} {ln : Nat} {tb : Nat → Int32} {vc : Nat} {vs : Nat → VS} {ts : Nat → Int32} {tl : Nat → Nat} {ti : Nat → Nat → Int64} {rn : Nat} {f : Nat → Int32} {k : Nat} {w : va_W} (hk : k < 6) : BX D xa vt tt c c2 tk ln tb vc vs ts tl ti rn f (18 + k) w ↔ w = TB D xa k (ts k) (tl k) (ti k) := by
  unfold BX
  rw [if_neg (by omega), if_neg (by omega), if_neg (by omega), if_neg (by omega), if_neg (by omega), if_neg (by omega), if_neg (by omega), if_neg (by omega), if_neg (by omega), if_neg (by omega), if_neg (by omega), if_neg (by omega), Nat.add_sub_cancel_left]
theorem x_V {D : G} {xa : Nat → Nat} {vt tt : Nat → Option Nat} {c : CS} {c2 : CS} {tk : Int32} {ln : Nat} {tb : Nat → Int32} {vc : Nat} {vs : Nat → VS} {ts : Nat → Int32} {tl : Nat → Nat} {ti : Nat → Nat → Int64} {rn : Nat} {f : Nat → Int32} {bb : Nat → va_W} {k : Nat} (h : IX D xa vt tt c c2 tk ln tb vc vs ts tl ti rn f bb) (hk : k < 7) : bb (5 + k) = VB D xa k (vs k) := (BX_V hk).mp (h _ (by omega))
theorem x_T {D : G} {xa : Nat → Nat} {vt tt : Nat → Option Nat} {c : CS} {c2 : CS} {tk : Int32} {ln : Nat} {tb : Nat → Int32} {vc : Nat} {vs : Nat → VS} {ts : Nat → Int32} {tl : Nat → Nat} {ti : Nat → Nat → Int64} {rn : Nat} {f : Nat → Int32} {bb : Nat → va_W} {k : Nat} (h : IX D xa vt tt c c2 tk ln tb vc vs ts tl ti rn f bb) (hk : k < 6) : bb (18 + k) = TB D xa k (ts k) (tl k) (ti k) := (BX_T hk).mp (h _ (by omega))
theorem k_V {D : G} {xa : Nat → Nat} {vt tt : Nat → Option Nat} {c : CS} {c2 : CS} {tk : Int32} {ln : Nat} {tb : Nat → Int32} {vc : Nat} {vs : Nat → VS} {ts : Nat → Int32} {tl : Nat → Nat} {ti : Nat → Nat → Int64} {rn : Nat} {f : Nat → Int32} {k : Nat} (hk : k < 7) : BX D xa vt tt c c2 tk ln tb vc vs ts tl ti rn f (5 + k) (VB D xa k (vs k)) := (BX_V hk).mpr rfl
theorem k_T {D : G} {xa : Nat → Nat} {vt tt : Nat → Option Nat} {c : CS} {c2 : CS} {tk : Int32} {ln : Nat} {tb : Nat → Int32} {vc : Nat} {vs : Nat → VS} {ts : Nat → Int32} {tl : Nat → Nat} {ti : Nat → Nat → Int64} {rn : Nat} {f : Nat → Int32} {k : Nat} (hk : k < 6) : BX D xa vt tt c c2 tk ln tb vc vs ts tl ti rn f (18 + k) (TB D xa k (ts k) (tl k) (ti k)) := (BX_T hk).mpr rfl
def uV (vs : Nat → VS) (k : Nat) (v : VS) : Nat → VS := fun j => if j = k then v else vs j
theorem uV_at {vs : Nat → VS} {k : Nat} {v : VS} : uV vs k v k = v := if_pos rfl
theorem uV_no {vs : Nat → VS} {k j : Nat} {v : VS} (h : ¬ j = k) : uV vs k v j = vs j := if_neg h
theorem kV_u {D : G} {xa : Nat → Nat} {vt tt : Nat → Option Nat} {c : CS} {c2 : CS} {tk : Int32} {ln : Nat} {tb : Nat → Int32} {vc : Nat} {vs : Nat → VS} {ts : Nat → Int32} {tl : Nat → Nat} {ti : Nat → Nat → Int64} {rn : Nat} {f : Nat → Int32} {k : Nat} {v : VS} (hk : k < 7) : BX D xa vt tt c c2 tk ln tb vc (uV vs k v) ts tl ti rn f (5 + k) (VB D xa k v) := (BX_V hk).mpr (by rw [uV_at])
theorem updT_at {g : Nat → Nat → Int64} {k : Nat} {h : Nat → Int64} : updT g k h k = h := if_pos rfl
theorem updT_no {g : Nat → Nat → Int64} {k j : Nat} {h : Nat → Int64} (e : ¬ j = k) : updT g k h j = g j := if_neg e
theorem upd_at {g : Nat → Int32} {k : Nat} {x : Int32} : upd g k x k = x := if_pos rfl
theorem upd_no {g : Nat → Int32} {k j : Nat} {x : Int32} (e : ¬ j = k) : upd g k x j = g j := if_neg e
theorem uN_at {g : Nat → Nat} {k x : Nat} : uN g k x k = x := if_pos rfl
theorem uN_no {g : Nat → Nat} {k j x : Nat} (e : ¬ j = k) : uN g k x j = g j := if_neg e
theorem kT_u {D : G} {xa : Nat → Nat} {vt tt : Nat → Option Nat} {c : CS} {c2 : CS} {tk : Int32} {ln : Nat} {tb : Nat → Int32} {vc : Nat} {vs : Nat → VS} {ts : Nat → Int32} {tl : Nat → Nat} {ti : Nat → Nat → Int64} {rn : Nat} {f : Nat → Int32} {k n : Nat} {s : Int32} {g : Nat → Int64} (hk : k < 6) : BX D xa vt tt c c2 tk ln tb vc vs (upd ts k s) (uN tl k n) (updT ti k g) rn f (18 + k) (TB D xa k s n g) := (BX_T hk).mpr (by rw [upd_at, uN_at, updT_at])
theorem kT_i {D : G} {xa : Nat → Nat} {vt tt : Nat → Option Nat} {c : CS} {c2 : CS} {tk : Int32} {ln : Nat} {tb : Nat → Int32} {vc : Nat} {vs : Nat → VS} {ts : Nat → Int32} {tl : Nat → Nat} {ti : Nat → Nat → Int64} {rn : Nat} {f : Nat → Int32} {k : Nat} {g : Nat → Int64} (hk : k < 6) : BX D xa vt tt c c2 tk ln tb vc vs ts tl (updT ti k g) rn f (18 + k) (TB D xa k (ts k) (tl k) g) := (BX_T hk).mpr (by rw [updT_at])
theorem kT_n {D : G} {xa : Nat → Nat} {vt tt : Nat → Option Nat} {c : CS} {c2 : CS} {tk : Int32} {ln : Nat} {tb : Nat → Int32} {vc : Nat} {vs : Nat → VS} {ts : Nat → Int32} {tl : Nat → Nat} {ti : Nat → Nat → Int64} {rn : Nat} {f : Nat → Int32} {k j : Nat} {g : Nat → Int64} (hk : k < 6) (hj : ¬ k = j) : BX D xa vt tt c c2 tk ln tb vc vs ts tl (updT ti j g) rn f (18 + k) (TB D xa k (ts k) (tl k) (ti k)) := (BX_T hk).mpr (by rw [updT_no hj])
theorem BX_c {D : G} {xa : Nat → Nat} {vt tt : Nat → Option Nat} {c : CS} {c2 : CS} {tk : Int32} {ln : Nat} {tb : Nat → Int32} {vc : Nat} {vs : Nat → VS} {ts : Nat → Int32} {tl : Nat → Nat} {ti : Nat → Nat → Int64} {rn : Nat} {f : Nat → Int32} {c3 : CS} {i : Nat} {w : va_W} (h1 : ¬ i = 1) (h : BX D xa vt tt c c2 tk ln tb vc vs ts tl ti rn f i w) : BX D xa vt tt c3 c2 tk ln tb vc vs ts tl ti rn f i w := by
  unfold BX at h ⊢
  simp only [if_neg h1] at h ⊢
  exact h
theorem BX_i {D : G} {xa : Nat → Nat} {vt tt : Nat → Option Nat} {c : CS} {c2 : CS} {tk : Int32} {ln : Nat} {tb : Nat → Int32} {vc : Nat} {vs : Nat → VS} {ts : Nat → Int32} {tl : Nat → Nat} {ti : Nat → Nat → Int64} {rn : Nat} {f : Nat → Int32} {c3 : CS} {tk3 : Int32} {i : Nat} {w : va_W} (h0 : ¬ i = 0) (h2 : ¬ i = 2) (h : BX D xa vt tt c c2 tk ln tb vc vs ts tl ti rn f i w) : BX D xa vt tt c c3 tk3 ln tb vc vs ts tl ti rn f i w := by
  unfold BX at h ⊢
  simp only [if_neg h0, if_neg h2] at h ⊢
  exact h
theorem BX_tx {D : G} {xa : Nat → Nat} {vt tt : Nat → Option Nat} {c : CS} {c2 : CS} {tk : Int32} {ln : Nat} {tb : Nat → Int32} {vc : Nat} {vs : Nat → VS} {ts : Nat → Int32} {tl : Nat → Nat} {ti : Nat → Nat → Int64} {rn : Nat} {f : Nat → Int32} {ln3 : Nat} {tb3 : Nat → Int32} {i : Nat} {w : va_W} (h3 : ¬ i = 3) (h : BX D xa vt tt c c2 tk ln tb vc vs ts tl ti rn f i w) : BX D xa vt tt c c2 tk ln3 tb3 vc vs ts tl ti rn f i w := by
  unfold BX at h ⊢
  simp only [if_neg h3] at h ⊢
  exact h
theorem BX_vc {D : G} {xa : Nat → Nat} {vt tt : Nat → Option Nat} {c : CS} {c2 : CS} {tk : Int32} {ln : Nat} {tb : Nat → Int32} {vc : Nat} {vs : Nat → VS} {ts : Nat → Int32} {tl : Nat → Nat} {ti : Nat → Nat → Int64} {rn : Nat} {f : Nat → Int32} {vc3 : Nat} {i : Nat} {w : va_W} (h0 : ¬ i = 0) (h : BX D xa vt tt c c2 tk ln tb vc vs ts tl ti rn f i w) : BX D xa vt tt c c2 tk ln tb vc3 vs ts tl ti rn f i w := by
  unfold BX at h ⊢
  simp only [if_neg h0] at h ⊢
  exact h
theorem BX_bd {D : G} {xa : Nat → Nat} {vt tt : Nat → Option Nat} {c : CS} {c2 : CS} {tk : Int32} {ln : Nat} {tb : Nat → Int32} {vc : Nat} {vs : Nat → VS} {ts : Nat → Int32} {tl : Nat → Nat} {ti : Nat → Nat → Int64} {rn : Nat} {f : Nat → Int32} {rn3 : Nat} {f3 : Nat → Int32} {i : Nat} {w : va_W} (h16 : ¬ i = 16) (h : BX D xa vt tt c c2 tk ln tb vc vs ts tl ti rn f i w) : BX D xa vt tt c c2 tk ln tb vc vs ts tl ti rn3 f3 i w := by
  unfold BX at h ⊢
  simp only [if_neg h16] at h ⊢
  exact h
theorem BX_vs {D : G} {xa : Nat → Nat} {vt tt : Nat → Option Nat} {c : CS} {c2 : CS} {tk : Int32} {ln : Nat} {tb : Nat → Int32} {vc : Nat} {vs : Nat → VS} {ts : Nat → Int32} {tl : Nat → Nat} {ti : Nat → Nat → Int64} {rn : Nat} {f : Nat → Int32} {k : Nat} {v : VS} {i : Nat} {w : va_W} (hi : ¬ i = 5 + k) (h : BX D xa vt tt c c2 tk ln tb vc vs ts tl ti rn f i w) : BX D xa vt tt c c2 tk ln tb vc (uV vs k v) ts tl ti rn f i w := by
  unfold BX at h ⊢
  by_cases z : 5 ≤ i
  · rw [uV_no (show ¬ i - 5 = k by omega)]; exact h
  · rw [if_pos (show i < 12 by omega)] at h ⊢
    by_cases z0 : i = 0
    · rw [if_pos z0] at h ⊢; exact h
    · rw [if_neg z0] at h ⊢
      by_cases z1 : i = 1
      · rw [if_pos z1] at h ⊢; exact h
      · rw [if_neg z1] at h ⊢
        by_cases z2 : i = 2
        · rw [if_pos z2] at h ⊢; exact h
        · rw [if_neg z2] at h ⊢
          by_cases z3 : i = 3
          · rw [if_pos z3] at h ⊢; exact h
          · rw [if_neg z3, if_pos (show i = 4 by omega)] at h ⊢; exact h
theorem BX_tp {D : G} {xa : Nat → Nat} {vt tt : Nat → Option Nat} {c : CS} {c2 : CS} {tk : Int32} {ln : Nat} {tb : Nat → Int32} {vc : Nat} {vs : Nat → VS} {ts : Nat → Int32} {tl : Nat → Nat} {ti : Nat → Nat → Int64} {rn : Nat} {f : Nat → Int32} {k n : Nat} {s : Int32} {g : Nat → Int64} {i : Nat} {w : va_W} (hi : ¬ i = 18 + k) (h : BX D xa vt tt c c2 tk ln tb vc vs ts tl ti rn f i w) : BX D xa vt tt c c2 tk ln tb vc vs (upd ts k s) (uN tl k n) (updT ti k g) rn f i w := by
  by_cases z : 18 ≤ i
  · unfold BX at h ⊢
    rw [upd_no (show ¬ i - 18 = k by omega), uN_no (show ¬ i - 18 = k by omega), updT_no (show ¬ i - 18 = k by omega)]; exact h
  · by_cases z2 : i < 12
    · unfold BX at h ⊢; rw [if_pos z2] at h ⊢; exact h
    · rcases (show i = 12 ∨ i = 13 ∨ i = 14 ∨ i = 15 ∨ i = 16 ∨ i = 17 by omega) with y | y | y | y | y | y <;> subst y <;> exact h
theorem BX_ti {D : G} {xa : Nat → Nat} {vt tt : Nat → Option Nat} {c : CS} {c2 : CS} {tk : Int32} {ln : Nat} {tb : Nat → Int32} {vc : Nat} {vs : Nat → VS} {ts : Nat → Int32} {tl : Nat → Nat} {ti : Nat → Nat → Int64} {rn : Nat} {f : Nat → Int32} {k : Nat} {g : Nat → Int64} {i : Nat} {w : va_W} (hi : ¬ i = 18 + k) (h : BX D xa vt tt c c2 tk ln tb vc vs ts tl ti rn f i w) : BX D xa vt tt c c2 tk ln tb vc vs ts tl (updT ti k g) rn f i w := by
  by_cases z : 18 ≤ i
  · unfold BX at h ⊢
    rw [updT_no (show ¬ i - 18 = k by omega)]; exact h
  · by_cases z2 : i < 12
    · unfold BX at h ⊢; rw [if_pos z2] at h ⊢; exact h
    · rcases (show i = 12 ∨ i = 13 ∨ i = 14 ∨ i = 15 ∨ i = 16 ∨ i = 17 by omega) with y | y | y | y | y | y <;> subst y <;> exact h
-- the reference: its blocks, by the place in its object
def BM (D : G) (mo : Nat) (ma : Nat → Nat) (c : CS) (c2 : CS) (tk : Int32) (ln : Nat) (tb : Nat → Int32) (vc : Nat) (ts : Nat → Int32) (tl : Nat → Nat) (ti : Nat → Nat → Int64) (rn : Nat) (f : Nat → Int32) (wd : Nat → Int32) (nu : Nat → Int32) (fr : Nat → Int32) (tt9 : Nat → Int32) (sf : Nat → Int32) (cls : Nat → Int32) (i : Nat) (w : va_W) : Prop :=
  if i = 0 then ∃ z10 : Int32, ∃ z11 : Int32, ∃ z20 : Int32, ∃ z21 : Int32, ∃ z22 : Int32, ∃ z25 : Int32, ∃ z26 : Int32, ∃ z27 : Int32, ∃ z29 : Int32, w = [(mo, .inr (10, M1R ma (mZ c c2 tk vc ln rn z10 z11 z20 z21 z22 z25 z26 z27 z29)))] else
  if i = 4 then w = [((ma 4), eI D 6 (nF c.kk))] else
  if i = 5 then w = [((ma 5), eI D 6 (nF c.vv))] else
  if i = 6 then w = [((ma 6), eI D 6 c.hd)] else
  if i = 12 then w = [((ma 12), eI D 100 tb)] else
  if i = 13 then w = [((ma 13), eI D 6 cls)] else
  if i = 14 then w = [((ma 14), eI D 60 wd)] else
  if i = 15 then w = [((ma 15), eI D 60 nu)] else
  if i = 16 then w = [((ma 16), eI D 60 fr)] else
  if i = 17 then w = [((ma 17), eI D 60 tt9)] else
  if i = 18 then w = [((ma 18), eI D 600 sf)] else
  if i = 19 then ∃ y : Nat → Int32, w = [((ma 19), eI D 101 y)] else
  if i = 23 then w = [((ma 23), eI D 18 ltF)] else
  if i = 24 then ∃ y : Nat → Int32, w = [((ma 24), eZ D 100 y)] else
  if i = 30 then w = [((ma 30), eI D 8 (nF c.crf))] else
  if i = 31 then ∃ y : Nat → Int32, w = [((ma 31), eI D 6 y)] else
  if i = 32 then ∃ y : Nat → Int32, w = [((ma 32), eI D 6 y)] else
  if i = 33 then ∃ y : Nat → Int32, w = [((ma 33), eI D 42 y)] else
  if i = 35 then w = [((ma 35), eI D 12 (nF c.bo))] else
  if i = 44 then w = [((ma 44), eI D 6 (nF c2.kk))] else
  if i = 45 then w = [((ma 45), eI D 6 (nF c2.vv))] else
  if i = 46 then w = [((ma 46), eI D 6 c2.hd)] else
  if i = 47 then w = [((ma 47), eI D 8 (nF c2.crf))] else
  if i = 48 then w = [((ma 48), eI D 12 (nF c2.bo))] else
  if i = 50 then w = [((ma 50), eI D 20 f)] else
  if i = 51 then w = [((ma 51), eI D 6 ts)] else
  if i = 52 then w = [((ma 52), eI D 6 (nF tl))] else
  if i = 53 then w = [((ma 53), eJ D 360 (itm ti))] else
  if i = 54 then ∃ y : Nat → Int64, w = [((ma 54), eJ D 60 y)] else
  w = []
theorem m_0 {D : G} {mo : Nat} {ma : Nat → Nat} {c : CS} {c2 : CS} {tk : Int32} {ln : Nat} {tb : Nat → Int32} {vc : Nat} {ts : Nat → Int32} {tl : Nat → Nat} {ti : Nat → Nat → Int64} {rn : Nat} {f : Nat → Int32} {wd : Nat → Int32} {nu : Nat → Int32} {fr : Nat → Int32} {tt9 : Nat → Int32} {sf : Nat → Int32} {cls : Nat → Int32} {bb : Nat → va_W} (h : ∀ i, i < 55 → BM D mo ma c c2 tk ln tb vc ts tl ti rn f wd nu fr tt9 sf cls i (bb i)) : ∃ z10 : Int32, ∃ z11 : Int32, ∃ z20 : Int32, ∃ z21 : Int32, ∃ z22 : Int32, ∃ z25 : Int32, ∃ z26 : Int32, ∃ z27 : Int32, ∃ z29 : Int32, bb 0 = [(mo, .inr (10, M1R ma (mZ c c2 tk vc ln rn z10 z11 z20 z21 z22 z25 z26 z27 z29)))] := h 0 (by decide)
theorem j_0 {D : G} {mo : Nat} {ma : Nat → Nat} {c : CS} {c2 : CS} {tk : Int32} {ln : Nat} {tb : Nat → Int32} {vc : Nat} {ts : Nat → Int32} {tl : Nat → Nat} {ti : Nat → Nat → Int64} {rn : Nat} {f : Nat → Int32} {wd : Nat → Int32} {nu : Nat → Int32} {fr : Nat → Int32} {tt9 : Nat → Int32} {sf : Nat → Int32} {cls : Nat → Int32} {z10 : Int32} {z11 : Int32} {z20 : Int32} {z21 : Int32} {z22 : Int32} {z25 : Int32} {z26 : Int32} {z27 : Int32} {z29 : Int32} : BM D mo ma c c2 tk ln tb vc ts tl ti rn f wd nu fr tt9 sf cls 0 ([(mo, .inr (10, M1R ma (mZ c c2 tk vc ln rn z10 z11 z20 z21 z22 z25 z26 z27 z29)))]) := ⟨_, _, _, _, _, _, _, _, _, rfl⟩
theorem m_4 {D : G} {mo : Nat} {ma : Nat → Nat} {c : CS} {c2 : CS} {tk : Int32} {ln : Nat} {tb : Nat → Int32} {vc : Nat} {ts : Nat → Int32} {tl : Nat → Nat} {ti : Nat → Nat → Int64} {rn : Nat} {f : Nat → Int32} {wd : Nat → Int32} {nu : Nat → Int32} {fr : Nat → Int32} {tt9 : Nat → Int32} {sf : Nat → Int32} {cls : Nat → Int32} {bb : Nat → va_W} (h : ∀ i, i < 55 → BM D mo ma c c2 tk ln tb vc ts tl ti rn f wd nu fr tt9 sf cls i (bb i)) : bb 4 = [((ma 4), eI D 6 (nF c.kk))] := h 4 (by decide)
theorem j_4 {D : G} {mo : Nat} {ma : Nat → Nat} {c : CS} {c2 : CS} {tk : Int32} {ln : Nat} {tb : Nat → Int32} {vc : Nat} {ts : Nat → Int32} {tl : Nat → Nat} {ti : Nat → Nat → Int64} {rn : Nat} {f : Nat → Int32} {wd : Nat → Int32} {nu : Nat → Int32} {fr : Nat → Int32} {tt9 : Nat → Int32} {sf : Nat → Int32} {cls : Nat → Int32} : BM D mo ma c c2 tk ln tb vc ts tl ti rn f wd nu fr tt9 sf cls 4 [((ma 4), eI D 6 (nF c.kk))] := rfl
theorem m_5 {D : G} {mo : Nat} {ma : Nat → Nat} {c : CS} {c2 : CS} {tk : Int32} {ln : Nat} {tb : Nat → Int32} {vc : Nat} {ts : Nat → Int32} {tl : Nat → Nat} {ti : Nat → Nat → Int64} {rn : Nat} {f : Nat → Int32} {wd : Nat → Int32} {nu : Nat → Int32} {fr : Nat → Int32} {tt9 : Nat → Int32} {sf : Nat → Int32} {cls : Nat → Int32} {bb : Nat → va_W} (h : ∀ i, i < 55 → BM D mo ma c c2 tk ln tb vc ts tl ti rn f wd nu fr tt9 sf cls i (bb i)) : bb 5 = [((ma 5), eI D 6 (nF c.vv))] := h 5 (by decide)
theorem j_5 {D : G} {mo : Nat} {ma : Nat → Nat} {c : CS} {c2 : CS} {tk : Int32} {ln : Nat} {tb : Nat → Int32} {vc : Nat} {ts : Nat → Int32} {tl : Nat → Nat} {ti : Nat → Nat → Int64} {rn : Nat} {f : Nat → Int32} {wd : Nat → Int32} {nu : Nat → Int32} {fr : Nat → Int32} {tt9 : Nat → Int32} {sf : Nat → Int32} {cls : Nat → Int32} : BM D mo ma c c2 tk ln tb vc ts tl ti rn f wd nu fr tt9 sf cls 5 [((ma 5), eI D 6 (nF c.vv))] := rfl
theorem m_6 {D : G} {mo : Nat} {ma : Nat → Nat} {c : CS} {c2 : CS} {tk : Int32} {ln : Nat} {tb : Nat → Int32} {vc : Nat} {ts : Nat → Int32} {tl : Nat → Nat} {ti : Nat → Nat → Int64} {rn : Nat} {f : Nat → Int32} {wd : Nat → Int32} {nu : Nat → Int32} {fr : Nat → Int32} {tt9 : Nat → Int32} {sf : Nat → Int32} {cls : Nat → Int32} {bb : Nat → va_W} (h : ∀ i, i < 55 → BM D mo ma c c2 tk ln tb vc ts tl ti rn f wd nu fr tt9 sf cls i (bb i)) : bb 6 = [((ma 6), eI D 6 c.hd)] := h 6 (by decide)
theorem j_6 {D : G} {mo : Nat} {ma : Nat → Nat} {c : CS} {c2 : CS} {tk : Int32} {ln : Nat} {tb : Nat → Int32} {vc : Nat} {ts : Nat → Int32} {tl : Nat → Nat} {ti : Nat → Nat → Int64} {rn : Nat} {f : Nat → Int32} {wd : Nat → Int32} {nu : Nat → Int32} {fr : Nat → Int32} {tt9 : Nat → Int32} {sf : Nat → Int32} {cls : Nat → Int32} : BM D mo ma c c2 tk ln tb vc ts tl ti rn f wd nu fr tt9 sf cls 6 [((ma 6), eI D 6 c.hd)] := rfl
theorem m_12 {D : G} {mo : Nat} {ma : Nat → Nat} {c : CS} {c2 : CS} {tk : Int32} {ln : Nat} {tb : Nat → Int32} {vc : Nat} {ts : Nat → Int32} {tl : Nat → Nat} {ti : Nat → Nat → Int64} {rn : Nat} {f : Nat → Int32} {wd : Nat → Int32} {nu : Nat → Int32} {fr : Nat → Int32} {tt9 : Nat → Int32} {sf : Nat → Int32} {cls : Nat → Int32} {bb : Nat → va_W} (h : ∀ i, i < 55 → BM D mo ma c c2 tk ln tb vc ts tl ti rn f wd nu fr tt9 sf cls i (bb i)) : bb 12 = [((ma 12), eI D 100 tb)] := h 12 (by decide)
theorem j_12 {D : G} {mo : Nat} {ma : Nat → Nat} {c : CS} {c2 : CS} {tk : Int32} {ln : Nat} {tb : Nat → Int32} {vc : Nat} {ts : Nat → Int32} {tl : Nat → Nat} {ti : Nat → Nat → Int64} {rn : Nat} {f : Nat → Int32} {wd : Nat → Int32} {nu : Nat → Int32} {fr : Nat → Int32} {tt9 : Nat → Int32} {sf : Nat → Int32} {cls : Nat → Int32} : BM D mo ma c c2 tk ln tb vc ts tl ti rn f wd nu fr tt9 sf cls 12 [((ma 12), eI D 100 tb)] := rfl
theorem m_13 {D : G} {mo : Nat} {ma : Nat → Nat} {c : CS} {c2 : CS} {tk : Int32} {ln : Nat} {tb : Nat → Int32} {vc : Nat} {ts : Nat → Int32} {tl : Nat → Nat} {ti : Nat → Nat → Int64} {rn : Nat} {f : Nat → Int32} {wd : Nat → Int32} {nu : Nat → Int32} {fr : Nat → Int32} {tt9 : Nat → Int32} {sf : Nat → Int32} {cls : Nat → Int32} {bb : Nat → va_W} (h : ∀ i, i < 55 → BM D mo ma c c2 tk ln tb vc ts tl ti rn f wd nu fr tt9 sf cls i (bb i)) : bb 13 = [((ma 13), eI D 6 cls)] := h 13 (by decide)
theorem j_13 {D : G} {mo : Nat} {ma : Nat → Nat} {c : CS} {c2 : CS} {tk : Int32} {ln : Nat} {tb : Nat → Int32} {vc : Nat} {ts : Nat → Int32} {tl : Nat → Nat} {ti : Nat → Nat → Int64} {rn : Nat} {f : Nat → Int32} {wd : Nat → Int32} {nu : Nat → Int32} {fr : Nat → Int32} {tt9 : Nat → Int32} {sf : Nat → Int32} {cls : Nat → Int32} : BM D mo ma c c2 tk ln tb vc ts tl ti rn f wd nu fr tt9 sf cls 13 [((ma 13), eI D 6 cls)] := rfl
theorem m_14 {D : G} {mo : Nat} {ma : Nat → Nat} {c : CS} {c2 : CS} {tk : Int32} {ln : Nat} {tb : Nat → Int32} {vc : Nat} {ts : Nat → Int32} {tl : Nat → Nat} {ti : Nat → Nat → Int64} {rn : Nat} {f : Nat → Int32} {wd : Nat → Int32} {nu : Nat → Int32} {fr : Nat → Int32} {tt9 : Nat → Int32} {sf : Nat → Int32} {cls : Nat → Int32} {bb : Nat → va_W} (h : ∀ i, i < 55 → BM D mo ma c c2 tk ln tb vc ts tl ti rn f wd nu fr tt9 sf cls i (bb i)) : bb 14 = [((ma 14), eI D 60 wd)] := h 14 (by decide)
theorem j_14 {D : G} {mo : Nat} {ma : Nat → Nat} {c : CS} {c2 : CS} {tk : Int32} {ln : Nat} {tb : Nat → Int32} {vc : Nat} {ts : Nat → Int32} {tl : Nat → Nat} {ti : Nat → Nat → Int64} {rn : Nat} {f : Nat → Int32} {wd : Nat → Int32} {nu : Nat → Int32} {fr : Nat → Int32} {tt9 : Nat → Int32} {sf : Nat → Int32} {cls : Nat → Int32} : BM D mo ma c c2 tk ln tb vc ts tl ti rn f wd nu fr tt9 sf cls 14 [((ma 14), eI D 60 wd)] := rfl
theorem m_15 {D : G} {mo : Nat} {ma : Nat → Nat} {c : CS} {c2 : CS} {tk : Int32} {ln : Nat} {tb : Nat → Int32} {vc : Nat} {ts : Nat → Int32} {tl : Nat → Nat} {ti : Nat → Nat → Int64} {rn : Nat} {f : Nat → Int32} {wd : Nat → Int32} {nu : Nat → Int32} {fr : Nat → Int32} {tt9 : Nat → Int32} {sf : Nat → Int32} {cls : Nat → Int32} {bb : Nat → va_W} (h : ∀ i, i < 55 → BM D mo ma c c2 tk ln tb vc ts tl ti rn f wd nu fr tt9 sf cls i (bb i)) : bb 15 = [((ma 15), eI D 60 nu)] := h 15 (by decide)
theorem j_15 {D : G} {mo : Nat} {ma : Nat → Nat} {c : CS} {c2 : CS} {tk : Int32} {ln : Nat} {tb : Nat → Int32} {vc : Nat} {ts : Nat → Int32} {tl : Nat → Nat} {ti : Nat → Nat → Int64} {rn : Nat} {f : Nat → Int32} {wd : Nat → Int32} {nu : Nat → Int32} {fr : Nat → Int32} {tt9 : Nat → Int32} {sf : Nat → Int32} {cls : Nat → Int32} : BM D mo ma c c2 tk ln tb vc ts tl ti rn f wd nu fr tt9 sf cls 15 [((ma 15), eI D 60 nu)] := rfl
theorem m_16 {D : G} {mo : Nat} {ma : Nat → Nat} {c : CS} {c2 : CS} {tk : Int32} {ln : Nat} {tb : Nat → Int32} {vc : Nat} {ts : Nat → Int32} {tl : Nat → Nat} {ti : Nat → Nat → Int64} {rn : Nat} {f : Nat → Int32} {wd : Nat → Int32} {nu : Nat → Int32} {fr : Nat → Int32} {tt9 : Nat → Int32} {sf : Nat → Int32} {cls : Nat → Int32} {bb : Nat → va_W} (h : ∀ i, i < 55 → BM D mo ma c c2 tk ln tb vc ts tl ti rn f wd nu fr tt9 sf cls i (bb i)) : bb 16 = [((ma 16), eI D 60 fr)] := h 16 (by decide)
theorem j_16 {D : G} {mo : Nat} {ma : Nat → Nat} {c : CS} {c2 : CS} {tk : Int32} {ln : Nat} {tb : Nat → Int32} {vc : Nat} {ts : Nat → Int32} {tl : Nat → Nat} {ti : Nat → Nat → Int64} {rn : Nat} {f : Nat → Int32} {wd : Nat → Int32} {nu : Nat → Int32} {fr : Nat → Int32} {tt9 : Nat → Int32} {sf : Nat → Int32} {cls : Nat → Int32} : BM D mo ma c c2 tk ln tb vc ts tl ti rn f wd nu fr tt9 sf cls 16 [((ma 16), eI D 60 fr)] := rfl
theorem m_17 {D : G} {mo : Nat} {ma : Nat → Nat} {c : CS} {c2 : CS} {tk : Int32} {ln : Nat} {tb : Nat → Int32} {vc : Nat} {ts : Nat → Int32} {tl : Nat → Nat} {ti : Nat → Nat → Int64} {rn : Nat} {f : Nat → Int32} {wd : Nat → Int32} {nu : Nat → Int32} {fr : Nat → Int32} {tt9 : Nat → Int32} {sf : Nat → Int32} {cls : Nat → Int32} {bb : Nat → va_W} (h : ∀ i, i < 55 → BM D mo ma c c2 tk ln tb vc ts tl ti rn f wd nu fr tt9 sf cls i (bb i)) : bb 17 = [((ma 17), eI D 60 tt9)] := h 17 (by decide)
theorem j_17 {D : G} {mo : Nat} {ma : Nat → Nat} {c : CS} {c2 : CS} {tk : Int32} {ln : Nat} {tb : Nat → Int32} {vc : Nat} {ts : Nat → Int32} {tl : Nat → Nat} {ti : Nat → Nat → Int64} {rn : Nat} {f : Nat → Int32} {wd : Nat → Int32} {nu : Nat → Int32} {fr : Nat → Int32} {tt9 : Nat → Int32} {sf : Nat → Int32} {cls : Nat → Int32} : BM D mo ma c c2 tk ln tb vc ts tl ti rn f wd nu fr tt9 sf cls 17 [((ma 17), eI D 60 tt9)] := rfl
theorem m_18 {D : G} {mo : Nat} {ma : Nat → Nat} {c : CS} {c2 : CS} {tk : Int32} {ln : Nat} {tb : Nat → Int32} {vc : Nat} {ts : Nat → Int32} {tl : Nat → Nat} {ti : Nat → Nat → Int64} {rn : Nat} {f : Nat → Int32} {wd : Nat → Int32} {nu : Nat → Int32} {fr : Nat → Int32} {tt9 : Nat → Int32} {sf : Nat → Int32} {cls : Nat → Int32} {bb : Nat → va_W} (h : ∀ i, i < 55 → BM D mo ma c c2 tk ln tb vc ts tl ti rn f wd nu fr tt9 sf cls i (bb i)) : bb 18 = [((ma 18), eI D 600 sf)] := h 18 (by decide)
theorem j_18 {D : G} {mo : Nat} {ma : Nat → Nat} {c : CS} {c2 : CS} {tk : Int32} {ln : Nat} {tb : Nat → Int32} {vc : Nat} {ts : Nat → Int32} {tl : Nat → Nat} {ti : Nat → Nat → Int64} {rn : Nat} {f : Nat → Int32} {wd : Nat → Int32} {nu : Nat → Int32} {fr : Nat → Int32} {tt9 : Nat → Int32} {sf : Nat → Int32} {cls : Nat → Int32} : BM D mo ma c c2 tk ln tb vc ts tl ti rn f wd nu fr tt9 sf cls 18 [((ma 18), eI D 600 sf)] := rfl
theorem m_19 {D : G} {mo : Nat} {ma : Nat → Nat} {c : CS} {c2 : CS} {tk : Int32} {ln : Nat} {tb : Nat → Int32} {vc : Nat} {ts : Nat → Int32} {tl : Nat → Nat} {ti : Nat → Nat → Int64} {rn : Nat} {f : Nat → Int32} {wd : Nat → Int32} {nu : Nat → Int32} {fr : Nat → Int32} {tt9 : Nat → Int32} {sf : Nat → Int32} {cls : Nat → Int32} {bb : Nat → va_W} (h : ∀ i, i < 55 → BM D mo ma c c2 tk ln tb vc ts tl ti rn f wd nu fr tt9 sf cls i (bb i)) : ∃ y : Nat → Int32, bb 19 = [((ma 19), eI D 101 y)] := h 19 (by decide)
theorem j_19 {D : G} {mo : Nat} {ma : Nat → Nat} {c : CS} {c2 : CS} {tk : Int32} {ln : Nat} {tb : Nat → Int32} {vc : Nat} {ts : Nat → Int32} {tl : Nat → Nat} {ti : Nat → Nat → Int64} {rn : Nat} {f : Nat → Int32} {wd : Nat → Int32} {nu : Nat → Int32} {fr : Nat → Int32} {tt9 : Nat → Int32} {sf : Nat → Int32} {cls : Nat → Int32} {y : Nat → Int32} : BM D mo ma c c2 tk ln tb vc ts tl ti rn f wd nu fr tt9 sf cls 19 [((ma 19), eI D 101 y)] := ⟨_, rfl⟩
theorem m_23 {D : G} {mo : Nat} {ma : Nat → Nat} {c : CS} {c2 : CS} {tk : Int32} {ln : Nat} {tb : Nat → Int32} {vc : Nat} {ts : Nat → Int32} {tl : Nat → Nat} {ti : Nat → Nat → Int64} {rn : Nat} {f : Nat → Int32} {wd : Nat → Int32} {nu : Nat → Int32} {fr : Nat → Int32} {tt9 : Nat → Int32} {sf : Nat → Int32} {cls : Nat → Int32} {bb : Nat → va_W} (h : ∀ i, i < 55 → BM D mo ma c c2 tk ln tb vc ts tl ti rn f wd nu fr tt9 sf cls i (bb i)) : bb 23 = [((ma 23), eI D 18 ltF)] := h 23 (by decide)
theorem j_23 {D : G} {mo : Nat} {ma : Nat → Nat} {c : CS} {c2 : CS} {tk : Int32} {ln : Nat} {tb : Nat → Int32} {vc : Nat} {ts : Nat → Int32} {tl : Nat → Nat} {ti : Nat → Nat → Int64} {rn : Nat} {f : Nat → Int32} {wd : Nat → Int32} {nu : Nat → Int32} {fr : Nat → Int32} {tt9 : Nat → Int32} {sf : Nat → Int32} {cls : Nat → Int32} : BM D mo ma c c2 tk ln tb vc ts tl ti rn f wd nu fr tt9 sf cls 23 [((ma 23), eI D 18 ltF)] := rfl
theorem m_24 {D : G} {mo : Nat} {ma : Nat → Nat} {c : CS} {c2 : CS} {tk : Int32} {ln : Nat} {tb : Nat → Int32} {vc : Nat} {ts : Nat → Int32} {tl : Nat → Nat} {ti : Nat → Nat → Int64} {rn : Nat} {f : Nat → Int32} {wd : Nat → Int32} {nu : Nat → Int32} {fr : Nat → Int32} {tt9 : Nat → Int32} {sf : Nat → Int32} {cls : Nat → Int32} {bb : Nat → va_W} (h : ∀ i, i < 55 → BM D mo ma c c2 tk ln tb vc ts tl ti rn f wd nu fr tt9 sf cls i (bb i)) : ∃ y : Nat → Int32, bb 24 = [((ma 24), eZ D 100 y)] := h 24 (by decide)
theorem j_24 {D : G} {mo : Nat} {ma : Nat → Nat} {c : CS} {c2 : CS} {tk : Int32} {ln : Nat} {tb : Nat → Int32} {vc : Nat} {ts : Nat → Int32} {tl : Nat → Nat} {ti : Nat → Nat → Int64} {rn : Nat} {f : Nat → Int32} {wd : Nat → Int32} {nu : Nat → Int32} {fr : Nat → Int32} {tt9 : Nat → Int32} {sf : Nat → Int32} {cls : Nat → Int32} {y : Nat → Int32} : BM D mo ma c c2 tk ln tb vc ts tl ti rn f wd nu fr tt9 sf cls 24 [((ma 24), eZ D 100 y)] := ⟨_, rfl⟩
theorem m_30 {D : G} {mo : Nat} {ma : Nat → Nat} {c : CS} {c2 : CS} {tk : Int32} {ln : Nat} {tb : Nat → Int32} {vc : Nat} {ts : Nat → Int32} {tl : Nat → Nat} {ti : Nat → Nat → Int64} {rn : Nat} {f : Nat → Int32} {wd : Nat → Int32} {nu : Nat → Int32} {fr : Nat → Int32} {tt9 : Nat → Int32} {sf : Nat → Int32} {cls : Nat → Int32} {bb : Nat → va_W} (h : ∀ i, i < 55 → BM D mo ma c c2 tk ln tb vc ts tl ti rn f wd nu fr tt9 sf cls i (bb i)) : bb 30 = [((ma 30), eI D 8 (nF c.crf))] := h 30 (by decide)
theorem j_30 {D : G} {mo : Nat} {ma : Nat → Nat} {c : CS} {c2 : CS} {tk : Int32} {ln : Nat} {tb : Nat → Int32} {vc : Nat} {ts : Nat → Int32} {tl : Nat → Nat} {ti : Nat → Nat → Int64} {rn : Nat} {f : Nat → Int32} {wd : Nat → Int32} {nu : Nat → Int32} {fr : Nat → Int32} {tt9 : Nat → Int32} {sf : Nat → Int32} {cls : Nat → Int32} : BM D mo ma c c2 tk ln tb vc ts tl ti rn f wd nu fr tt9 sf cls 30 [((ma 30), eI D 8 (nF c.crf))] := rfl
theorem m_31 {D : G} {mo : Nat} {ma : Nat → Nat} {c : CS} {c2 : CS} {tk : Int32} {ln : Nat} {tb : Nat → Int32} {vc : Nat} {ts : Nat → Int32} {tl : Nat → Nat} {ti : Nat → Nat → Int64} {rn : Nat} {f : Nat → Int32} {wd : Nat → Int32} {nu : Nat → Int32} {fr : Nat → Int32} {tt9 : Nat → Int32} {sf : Nat → Int32} {cls : Nat → Int32} {bb : Nat → va_W} (h : ∀ i, i < 55 → BM D mo ma c c2 tk ln tb vc ts tl ti rn f wd nu fr tt9 sf cls i (bb i)) : ∃ y : Nat → Int32, bb 31 = [((ma 31), eI D 6 y)] := h 31 (by decide)
theorem j_31 {D : G} {mo : Nat} {ma : Nat → Nat} {c : CS} {c2 : CS} {tk : Int32} {ln : Nat} {tb : Nat → Int32} {vc : Nat} {ts : Nat → Int32} {tl : Nat → Nat} {ti : Nat → Nat → Int64} {rn : Nat} {f : Nat → Int32} {wd : Nat → Int32} {nu : Nat → Int32} {fr : Nat → Int32} {tt9 : Nat → Int32} {sf : Nat → Int32} {cls : Nat → Int32} {y : Nat → Int32} : BM D mo ma c c2 tk ln tb vc ts tl ti rn f wd nu fr tt9 sf cls 31 [((ma 31), eI D 6 y)] := ⟨_, rfl⟩
theorem m_32 {D : G} {mo : Nat} {ma : Nat → Nat} {c : CS} {c2 : CS} {tk : Int32} {ln : Nat} {tb : Nat → Int32} {vc : Nat} {ts : Nat → Int32} {tl : Nat → Nat} {ti : Nat → Nat → Int64} {rn : Nat} {f : Nat → Int32} {wd : Nat → Int32} {nu : Nat → Int32} {fr : Nat → Int32} {tt9 : Nat → Int32} {sf : Nat → Int32} {cls : Nat → Int32} {bb : Nat → va_W} (h : ∀ i, i < 55 → BM D mo ma c c2 tk ln tb vc ts tl ti rn f wd nu fr tt9 sf cls i (bb i)) : ∃ y : Nat → Int32, bb 32 = [((ma 32), eI D 6 y)] := h 32 (by decide)
theorem j_32 {D : G} {mo : Nat} {ma : Nat → Nat} {c : CS} {c2 : CS} {tk : Int32} {ln : Nat} {tb : Nat → Int32} {vc : Nat} {ts : Nat → Int32} {tl : Nat → Nat} {ti : Nat → Nat → Int64} {rn : Nat} {f : Nat → Int32} {wd : Nat → Int32} {nu : Nat → Int32} {fr : Nat → Int32} {tt9 : Nat → Int32} {sf : Nat → Int32} {cls : Nat → Int32} {y : Nat → Int32} : BM D mo ma c c2 tk ln tb vc ts tl ti rn f wd nu fr tt9 sf cls 32 [((ma 32), eI D 6 y)] := ⟨_, rfl⟩
theorem m_33 {D : G} {mo : Nat} {ma : Nat → Nat} {c : CS} {c2 : CS} {tk : Int32} {ln : Nat} {tb : Nat → Int32} {vc : Nat} {ts : Nat → Int32} {tl : Nat → Nat} {ti : Nat → Nat → Int64} {rn : Nat} {f : Nat → Int32} {wd : Nat → Int32} {nu : Nat → Int32} {fr : Nat → Int32} {tt9 : Nat → Int32} {sf : Nat → Int32} {cls : Nat → Int32} {bb : Nat → va_W} (h : ∀ i, i < 55 → BM D mo ma c c2 tk ln tb vc ts tl ti rn f wd nu fr tt9 sf cls i (bb i)) : ∃ y : Nat → Int32, bb 33 = [((ma 33), eI D 42 y)] := h 33 (by decide)
theorem j_33 {D : G} {mo : Nat} {ma : Nat → Nat} {c : CS} {c2 : CS} {tk : Int32} {ln : Nat} {tb : Nat → Int32} {vc : Nat} {ts : Nat → Int32} {tl : Nat → Nat} {ti : Nat → Nat → Int64} {rn : Nat} {f : Nat → Int32} {wd : Nat → Int32} {nu : Nat → Int32} {fr : Nat → Int32} {tt9 : Nat → Int32} {sf : Nat → Int32} {cls : Nat → Int32} {y : Nat → Int32} : BM D mo ma c c2 tk ln tb vc ts tl ti rn f wd nu fr tt9 sf cls 33 [((ma 33), eI D 42 y)] := ⟨_, rfl⟩
theorem m_35 {D : G} {mo : Nat} {ma : Nat → Nat} {c : CS} {c2 : CS} {tk : Int32} {ln : Nat} {tb : Nat → Int32} {vc : Nat} {ts : Nat → Int32} {tl : Nat → Nat} {ti : Nat → Nat → Int64} {rn : Nat} {f : Nat → Int32} {wd : Nat → Int32} {nu : Nat → Int32} {fr : Nat → Int32} {tt9 : Nat → Int32} {sf : Nat → Int32} {cls : Nat → Int32} {bb : Nat → va_W} (h : ∀ i, i < 55 → BM D mo ma c c2 tk ln tb vc ts tl ti rn f wd nu fr tt9 sf cls i (bb i)) : bb 35 = [((ma 35), eI D 12 (nF c.bo))] := h 35 (by decide)
theorem j_35 {D : G} {mo : Nat} {ma : Nat → Nat} {c : CS} {c2 : CS} {tk : Int32} {ln : Nat} {tb : Nat → Int32} {vc : Nat} {ts : Nat → Int32} {tl : Nat → Nat} {ti : Nat → Nat → Int64} {rn : Nat} {f : Nat → Int32} {wd : Nat → Int32} {nu : Nat → Int32} {fr : Nat → Int32} {tt9 : Nat → Int32} {sf : Nat → Int32} {cls : Nat → Int32} : BM D mo ma c c2 tk ln tb vc ts tl ti rn f wd nu fr tt9 sf cls 35 [((ma 35), eI D 12 (nF c.bo))] := rfl
theorem m_44 {D : G} {mo : Nat} {ma : Nat → Nat} {c : CS} {c2 : CS} {tk : Int32} {ln : Nat} {tb : Nat → Int32} {vc : Nat} {ts : Nat → Int32} {tl : Nat → Nat} {ti : Nat → Nat → Int64} {rn : Nat} {f : Nat → Int32} {wd : Nat → Int32} {nu : Nat → Int32} {fr : Nat → Int32} {tt9 : Nat → Int32} {sf : Nat → Int32} {cls : Nat → Int32} {bb : Nat → va_W} (h : ∀ i, i < 55 → BM D mo ma c c2 tk ln tb vc ts tl ti rn f wd nu fr tt9 sf cls i (bb i)) : bb 44 = [((ma 44), eI D 6 (nF c2.kk))] := h 44 (by decide)
theorem j_44 {D : G} {mo : Nat} {ma : Nat → Nat} {c : CS} {c2 : CS} {tk : Int32} {ln : Nat} {tb : Nat → Int32} {vc : Nat} {ts : Nat → Int32} {tl : Nat → Nat} {ti : Nat → Nat → Int64} {rn : Nat} {f : Nat → Int32} {wd : Nat → Int32} {nu : Nat → Int32} {fr : Nat → Int32} {tt9 : Nat → Int32} {sf : Nat → Int32} {cls : Nat → Int32} : BM D mo ma c c2 tk ln tb vc ts tl ti rn f wd nu fr tt9 sf cls 44 [((ma 44), eI D 6 (nF c2.kk))] := rfl
theorem m_45 {D : G} {mo : Nat} {ma : Nat → Nat} {c : CS} {c2 : CS} {tk : Int32} {ln : Nat} {tb : Nat → Int32} {vc : Nat} {ts : Nat → Int32} {tl : Nat → Nat} {ti : Nat → Nat → Int64} {rn : Nat} {f : Nat → Int32} {wd : Nat → Int32} {nu : Nat → Int32} {fr : Nat → Int32} {tt9 : Nat → Int32} {sf : Nat → Int32} {cls : Nat → Int32} {bb : Nat → va_W} (h : ∀ i, i < 55 → BM D mo ma c c2 tk ln tb vc ts tl ti rn f wd nu fr tt9 sf cls i (bb i)) : bb 45 = [((ma 45), eI D 6 (nF c2.vv))] := h 45 (by decide)
theorem j_45 {D : G} {mo : Nat} {ma : Nat → Nat} {c : CS} {c2 : CS} {tk : Int32} {ln : Nat} {tb : Nat → Int32} {vc : Nat} {ts : Nat → Int32} {tl : Nat → Nat} {ti : Nat → Nat → Int64} {rn : Nat} {f : Nat → Int32} {wd : Nat → Int32} {nu : Nat → Int32} {fr : Nat → Int32} {tt9 : Nat → Int32} {sf : Nat → Int32} {cls : Nat → Int32} : BM D mo ma c c2 tk ln tb vc ts tl ti rn f wd nu fr tt9 sf cls 45 [((ma 45), eI D 6 (nF c2.vv))] := rfl
theorem m_46 {D : G} {mo : Nat} {ma : Nat → Nat} {c : CS} {c2 : CS} {tk : Int32} {ln : Nat} {tb : Nat → Int32} {vc : Nat} {ts : Nat → Int32} {tl : Nat → Nat} {ti : Nat → Nat → Int64} {rn : Nat} {f : Nat → Int32} {wd : Nat → Int32} {nu : Nat → Int32} {fr : Nat → Int32} {tt9 : Nat → Int32} {sf : Nat → Int32} {cls : Nat → Int32} {bb : Nat → va_W} (h : ∀ i, i < 55 → BM D mo ma c c2 tk ln tb vc ts tl ti rn f wd nu fr tt9 sf cls i (bb i)) : bb 46 = [((ma 46), eI D 6 c2.hd)] := h 46 (by decide)
theorem j_46 {D : G} {mo : Nat} {ma : Nat → Nat} {c : CS} {c2 : CS} {tk : Int32} {ln : Nat} {tb : Nat → Int32} {vc : Nat} {ts : Nat → Int32} {tl : Nat → Nat} {ti : Nat → Nat → Int64} {rn : Nat} {f : Nat → Int32} {wd : Nat → Int32} {nu : Nat → Int32} {fr : Nat → Int32} {tt9 : Nat → Int32} {sf : Nat → Int32} {cls : Nat → Int32} : BM D mo ma c c2 tk ln tb vc ts tl ti rn f wd nu fr tt9 sf cls 46 [((ma 46), eI D 6 c2.hd)] := rfl
theorem m_47 {D : G} {mo : Nat} {ma : Nat → Nat} {c : CS} {c2 : CS} {tk : Int32} {ln : Nat} {tb : Nat → Int32} {vc : Nat} {ts : Nat → Int32} {tl : Nat → Nat} {ti : Nat → Nat → Int64} {rn : Nat} {f : Nat → Int32} {wd : Nat → Int32} {nu : Nat → Int32} {fr : Nat → Int32} {tt9 : Nat → Int32} {sf : Nat → Int32} {cls : Nat → Int32} {bb : Nat → va_W} (h : ∀ i, i < 55 → BM D mo ma c c2 tk ln tb vc ts tl ti rn f wd nu fr tt9 sf cls i (bb i)) : bb 47 = [((ma 47), eI D 8 (nF c2.crf))] := h 47 (by decide)
theorem j_47 {D : G} {mo : Nat} {ma : Nat → Nat} {c : CS} {c2 : CS} {tk : Int32} {ln : Nat} {tb : Nat → Int32} {vc : Nat} {ts : Nat → Int32} {tl : Nat → Nat} {ti : Nat → Nat → Int64} {rn : Nat} {f : Nat → Int32} {wd : Nat → Int32} {nu : Nat → Int32} {fr : Nat → Int32} {tt9 : Nat → Int32} {sf : Nat → Int32} {cls : Nat → Int32} : BM D mo ma c c2 tk ln tb vc ts tl ti rn f wd nu fr tt9 sf cls 47 [((ma 47), eI D 8 (nF c2.crf))] := rfl
theorem m_48 {D : G} {mo : Nat} {ma : Nat → Nat} {c : CS} {c2 : CS} {tk : Int32} {ln : Nat} {tb : Nat → Int32} {vc : Nat} {ts : Nat → Int32} {tl : Nat → Nat} {ti : Nat → Nat → Int64} {rn : Nat} {f : Nat → Int32} {wd : Nat → Int32} {nu : Nat → Int32} {fr : Nat → Int32} {tt9 : Nat → Int32} {sf : Nat → Int32} {cls : Nat → Int32} {bb : Nat → va_W} (h : ∀ i, i < 55 → BM D mo ma c c2 tk ln tb vc ts tl ti rn f wd nu fr tt9 sf cls i (bb i)) : bb 48 = [((ma 48), eI D 12 (nF c2.bo))] := h 48 (by decide)
theorem j_48 {D : G} {mo : Nat} {ma : Nat → Nat} {c : CS} {c2 : CS} {tk : Int32} {ln : Nat} {tb : Nat → Int32} {vc : Nat} {ts : Nat → Int32} {tl : Nat → Nat} {ti : Nat → Nat → Int64} {rn : Nat} {f : Nat → Int32} {wd : Nat → Int32} {nu : Nat → Int32} {fr : Nat → Int32} {tt9 : Nat → Int32} {sf : Nat → Int32} {cls : Nat → Int32} : BM D mo ma c c2 tk ln tb vc ts tl ti rn f wd nu fr tt9 sf cls 48 [((ma 48), eI D 12 (nF c2.bo))] := rfl
theorem m_50 {D : G} {mo : Nat} {ma : Nat → Nat} {c : CS} {c2 : CS} {tk : Int32} {ln : Nat} {tb : Nat → Int32} {vc : Nat} {ts : Nat → Int32} {tl : Nat → Nat} {ti : Nat → Nat → Int64} {rn : Nat} {f : Nat → Int32} {wd : Nat → Int32} {nu : Nat → Int32} {fr : Nat → Int32} {tt9 : Nat → Int32} {sf : Nat → Int32} {cls : Nat → Int32} {bb : Nat → va_W} (h : ∀ i, i < 55 → BM D mo ma c c2 tk ln tb vc ts tl ti rn f wd nu fr tt9 sf cls i (bb i)) : bb 50 = [((ma 50), eI D 20 f)] := h 50 (by decide)
theorem j_50 {D : G} {mo : Nat} {ma : Nat → Nat} {c : CS} {c2 : CS} {tk : Int32} {ln : Nat} {tb : Nat → Int32} {vc : Nat} {ts : Nat → Int32} {tl : Nat → Nat} {ti : Nat → Nat → Int64} {rn : Nat} {f : Nat → Int32} {wd : Nat → Int32} {nu : Nat → Int32} {fr : Nat → Int32} {tt9 : Nat → Int32} {sf : Nat → Int32} {cls : Nat → Int32} : BM D mo ma c c2 tk ln tb vc ts tl ti rn f wd nu fr tt9 sf cls 50 [((ma 50), eI D 20 f)] := rfl
theorem m_51 {D : G} {mo : Nat} {ma : Nat → Nat} {c : CS} {c2 : CS} {tk : Int32} {ln : Nat} {tb : Nat → Int32} {vc : Nat} {ts : Nat → Int32} {tl : Nat → Nat} {ti : Nat → Nat → Int64} {rn : Nat} {f : Nat → Int32} {wd : Nat → Int32} {nu : Nat → Int32} {fr : Nat → Int32} {tt9 : Nat → Int32} {sf : Nat → Int32} {cls : Nat → Int32} {bb : Nat → va_W} (h : ∀ i, i < 55 → BM D mo ma c c2 tk ln tb vc ts tl ti rn f wd nu fr tt9 sf cls i (bb i)) : bb 51 = [((ma 51), eI D 6 ts)] := h 51 (by decide)
theorem j_51 {D : G} {mo : Nat} {ma : Nat → Nat} {c : CS} {c2 : CS} {tk : Int32} {ln : Nat} {tb : Nat → Int32} {vc : Nat} {ts : Nat → Int32} {tl : Nat → Nat} {ti : Nat → Nat → Int64} {rn : Nat} {f : Nat → Int32} {wd : Nat → Int32} {nu : Nat → Int32} {fr : Nat → Int32} {tt9 : Nat → Int32} {sf : Nat → Int32} {cls : Nat → Int32} : BM D mo ma c c2 tk ln tb vc ts tl ti rn f wd nu fr tt9 sf cls 51 [((ma 51), eI D 6 ts)] := rfl
theorem m_52 {D : G} {mo : Nat} {ma : Nat → Nat} {c : CS} {c2 : CS} {tk : Int32} {ln : Nat} {tb : Nat → Int32} {vc : Nat} {ts : Nat → Int32} {tl : Nat → Nat} {ti : Nat → Nat → Int64} {rn : Nat} {f : Nat → Int32} {wd : Nat → Int32} {nu : Nat → Int32} {fr : Nat → Int32} {tt9 : Nat → Int32} {sf : Nat → Int32} {cls : Nat → Int32} {bb : Nat → va_W} (h : ∀ i, i < 55 → BM D mo ma c c2 tk ln tb vc ts tl ti rn f wd nu fr tt9 sf cls i (bb i)) : bb 52 = [((ma 52), eI D 6 (nF tl))] := h 52 (by decide)
theorem j_52 {D : G} {mo : Nat} {ma : Nat → Nat} {c : CS} {c2 : CS} {tk : Int32} {ln : Nat} {tb : Nat → Int32} {vc : Nat} {ts : Nat → Int32} {tl : Nat → Nat} {ti : Nat → Nat → Int64} {rn : Nat} {f : Nat → Int32} {wd : Nat → Int32} {nu : Nat → Int32} {fr : Nat → Int32} {tt9 : Nat → Int32} {sf : Nat → Int32} {cls : Nat → Int32} : BM D mo ma c c2 tk ln tb vc ts tl ti rn f wd nu fr tt9 sf cls 52 [((ma 52), eI D 6 (nF tl))] := rfl
theorem m_53 {D : G} {mo : Nat} {ma : Nat → Nat} {c : CS} {c2 : CS} {tk : Int32} {ln : Nat} {tb : Nat → Int32} {vc : Nat} {ts : Nat → Int32} {tl : Nat → Nat} {ti : Nat → Nat → Int64} {rn : Nat} {f : Nat → Int32} {wd : Nat → Int32} {nu : Nat → Int32} {fr : Nat → Int32} {tt9 : Nat → Int32} {sf : Nat → Int32} {cls : Nat → Int32} {bb : Nat → va_W} (h : ∀ i, i < 55 → BM D mo ma c c2 tk ln tb vc ts tl ti rn f wd nu fr tt9 sf cls i (bb i)) : bb 53 = [((ma 53), eJ D 360 (itm ti))] := h 53 (by decide)
theorem j_53 {D : G} {mo : Nat} {ma : Nat → Nat} {c : CS} {c2 : CS} {tk : Int32} {ln : Nat} {tb : Nat → Int32} {vc : Nat} {ts : Nat → Int32} {tl : Nat → Nat} {ti : Nat → Nat → Int64} {rn : Nat} {f : Nat → Int32} {wd : Nat → Int32} {nu : Nat → Int32} {fr : Nat → Int32} {tt9 : Nat → Int32} {sf : Nat → Int32} {cls : Nat → Int32} : BM D mo ma c c2 tk ln tb vc ts tl ti rn f wd nu fr tt9 sf cls 53 [((ma 53), eJ D 360 (itm ti))] := rfl
theorem m_54 {D : G} {mo : Nat} {ma : Nat → Nat} {c : CS} {c2 : CS} {tk : Int32} {ln : Nat} {tb : Nat → Int32} {vc : Nat} {ts : Nat → Int32} {tl : Nat → Nat} {ti : Nat → Nat → Int64} {rn : Nat} {f : Nat → Int32} {wd : Nat → Int32} {nu : Nat → Int32} {fr : Nat → Int32} {tt9 : Nat → Int32} {sf : Nat → Int32} {cls : Nat → Int32} {bb : Nat → va_W} (h : ∀ i, i < 55 → BM D mo ma c c2 tk ln tb vc ts tl ti rn f wd nu fr tt9 sf cls i (bb i)) : ∃ y : Nat → Int64, bb 54 = [((ma 54), eJ D 60 y)] := h 54 (by decide)
theorem j_54 {D : G} {mo : Nat} {ma : Nat → Nat} {c : CS} {c2 : CS} {tk : Int32} {ln : Nat} {tb : Nat → Int32} {vc : Nat} {ts : Nat → Int32} {tl : Nat → Nat} {ti : Nat → Nat → Int64} {rn : Nat} {f : Nat → Int32} {wd : Nat → Int32} {nu : Nat → Int32} {fr : Nat → Int32} {tt9 : Nat → Int32} {sf : Nat → Int32} {cls : Nat → Int32} {y : Nat → Int64} : BM D mo ma c c2 tk ln tb vc ts tl ti rn f wd nu fr tt9 sf cls 54 [((ma 54), eJ D 60 y)] := ⟨_, rfl⟩
-- what holds of the common state; what the reference's rows tell of the villages
def vBare : VS := (3, 1, 0, 0, 0, fun _ => 0, fun _ => 0, fun _ => 0, fun _ => 0)
def RV (vc : Nat) (vs : Nat → VS) (wd : Nat → Int32) (nu : Nat → Int32) (fr : Nat → Int32) (tt9 : Nat → Int32) (sf : Nat → Int32) (cls : Nat → Int32) : Prop := ∀ k, k < vc → ∃ (u : VS) (n g : Nat), n ≤ 10 ∧ g ≤ 100 * k + 100 ∧ cls k = nI n ∧ cRep wd nu fr tt9 sf k u n g (vs k)
def IM (D : G) (mo : Nat) (ma : Nat → Nat) (c : CS) (c2 : CS) (tk : Int32) (ln : Nat) (tb : Nat → Int32) (vc : Nat) (vs : Nat → VS) (ts : Nat → Int32) (tl : Nat → Nat) (ti : Nat → Nat → Int64) (rn : Nat) (f : Nat → Int32) (b : Nat → va_W) : Prop := ∃ wd : Nat → Int32, ∃ nu : Nat → Int32, ∃ fr : Nat → Int32, ∃ tt9 : Nat → Int32, ∃ sf : Nat → Int32, ∃ cls : Nat → Int32, RV vc vs wd nu fr tt9 sf cls ∧ ∀ i, i < 55 → BM D mo ma c c2 tk ln tb vc ts tl ti rn f wd nu fr tt9 sf cls i (b i)
def hOk (c : CS) (vc : Nat) : Prop := c.held = -1 ∨ ∃ z : Nat, z < vc ∧ c.held = nI z
def tOk (ts : Nat → Int32) (tl : Nat → Nat) : Prop := ∀ t, t < 6 → tl t ≤ 60 ∧ (ts t = -1 → tl t = 0) ∧ (ts t = -1 ∨ isIx (ts t) 5)
def AOk (c : CS) (c2 : CS) (tk : Int32) (ln : Nat) (tb : Nat → Int32) (vc : Nat) (vs : Nat → VS) (ts : Nat → Int32) (tl : Nat → Nat) (rn : Nat) : Prop := cOk c ∧ cOk c2 ∧ hOk c vc ∧ hOk c2 vc ∧ (tk = 0 ∨ tk = 1) ∧ (ln ≤ 100 ∧ ∀ j, j < ln → ¬ tb j = -1) ∧ vc ≤ 6 ∧ (∀ k, k < vc → vAsk (vs k)) ∧ vs 6 = vBare ∧ tOk ts tl ∧ rn ≤ 20
theorem vBare_ok : vAsk vBare := ⟨by decide, by decide, by decide, by decide, by decide, fun r hr => absurd hr (Nat.not_lt_zero r), fun r hr => absurd hr (Nat.not_lt_zero r)⟩
theorem vBare_MR {wd : Nat → Int32} {nu : Nat → Int32} {fr : Nat → Int32} {tt9 : Nat → Int32} {sf : Nat → Int32} : MR wd nu fr tt9 sf 0 0 vBare := by
  refine ⟨by decide, by decide, ⟨3, by decide, rfl, rfl⟩, rfl, ?_, fun ff => ⟨rfl, rfl⟩, fun z h1 h2 => absurd h2 (by omega), rfl, fun r hr => absurd hr (Nat.not_lt_zero r)⟩
  exact ⟨fun h => by obtain ⟨z, h⟩ := h; omega, fun h => absurd rfl h⟩
theorem held_x {xa : Nat → Nat} {vt : Nat → Option Nat} {c : CS} {c2 : CS} {tk : Int32} {ln : Nat} {tb : Nat → Int32} {vc : Nat} {vs : Nat → VS} {ts : Nat → Int32} {tl : Nat → Nat} {rn : Nat} (hA : AOk c c2 tk ln tb vc vs ts tl rn) (hvt : ∀ k, k < 6 → vt k = some (xa (16 + 5 * k))) : ∃ hz : Nat, hz < 7 ∧ vAsk (vs hz) ∧ ((c.held = -1 ∧ xa (16 + 5 * hz) = xa 46) ∨ (∃ zh : Nat, zh < 6 ∧ c.held = nI zh ∧ vt zh = some (xa (16 + 5 * hz)))) ∧
    ∀ (wd : Nat → Int32) (nu : Nat → Int32) (fr : Nat → Int32) (tt9 : Nat → Int32) (sf : Nat → Int32) (cls : Nat → Int32), RV vc vs wd nu fr tt9 sf cls → ∃ bg bn : Nat, hB c.held cls bg bn ∧ MR wd nu fr tt9 sf bg bn (vs hz) := by
  obtain ⟨_, _, hH, _, _, _, h6, hV, hb, _⟩ := hA
  rcases hH with h | ⟨z, hz, h⟩
  · refine ⟨6, by decide, by rw [hb]; exact vBare_ok, Or.inl ⟨h, rfl⟩, fun wd nu fr tt9 sf cls _ => ⟨0, 0, Or.inl ⟨h, rfl, rfl⟩, by rw [hb]; exact vBare_MR⟩⟩
  · refine ⟨z, by omega, hV z hz, Or.inr ⟨z, by omega, h, hvt z (by omega)⟩, fun wd nu fr tt9 sf cls hR => ?_⟩
    obtain ⟨u, n, g, hn, hg, hc, hR⟩ := hR z hz
    exact ⟨10 * z, n, Or.inr ⟨z, by omega, h, rfl, hc⟩, (cRep_MR (by omega) hn hg hR).1⟩
theorem hOk_le {c : CS} {vc vc2 : Nat} (h : hOk c vc) (hv : vc ≤ vc2) : hOk c vc2 := by
  rcases h with h | ⟨z, hz, h⟩
  · exact Or.inl h
  · exact Or.inr ⟨z, by omega, h⟩
theorem ok_man {c : CS} {c2 : CS} {tk : Int32} {ln : Nat} {tb : Nat → Int32} {vc : Nat} {vs : Nat → VS} {ts : Nat → Int32} {tl : Nat → Nat} {rn : Nat} {k v : Nat} (hk : k < 7) (hv : v < 10) (hm : c.men < 6) (hA : AOk c c2 tk ln tb vc vs ts tl rn) : AOk (cMan c k v) c2 tk ln tb vc vs ts tl rn := by
  obtain ⟨h1, h2, h3, h4, h5, h6, h7, h8, h9, h10, h11⟩ := hA
  obtain ⟨a1, a2, a3, a4, a5, a6, a7, a8, a9⟩ := h1
  refine ⟨⟨hm, fun m z => ?_, fun m z => ?_, a4, a5, a6, fun s z => Nat.lt_succ_of_lt (a7 s z), a8, a9⟩, h2, h3, h4, h5, h6, h7, h8, h9, h10, h11⟩
  · show uN c.kk c.men k m < 7
    by_cases y : m = c.men
    · rw [y, uN_at]; exact hk
    · rw [uN_no y]; exact a2 m z
  · show uN c.vv c.men v m ≤ 9
    by_cases y : m = c.men
    · rw [y, uN_at]; omega
    · rw [uN_no y]; exact a3 m z
theorem ok_heap {c : CS} {c2 : CS} {tk : Int32} {ln : Nat} {tb : Nat → Int32} {vc : Nat} {vs : Nat → VS} {ts : Nat → Int32} {tl : Nat → Nat} {rn : Nat} {n : Nat} (hn : n < 1000000) (hA : AOk c c2 tk ln tb vc vs ts tl rn) : AOk (cHeap c n) c2 tk ln tb vc vs ts tl rn := by
  obtain ⟨h1, h2, h3, h4, h5, h6, h7, h8, h9, h10, h11⟩ := hA
  obtain ⟨a1, a2, a3, a4, a5, a6, a7, a8, a9⟩ := h1
  exact ⟨⟨a1, a2, a3, hn, a5, a6, a7, a8, a9⟩, h2, h3, h4, h5, h6, h7, h8, h9, h10, h11⟩
theorem ok_wake {c : CS} {c2 : CS} {tk : Int32} {ln : Nat} {tb : Nat → Int32} {vc : Nat} {vs : Nat → VS} {ts : Nat → Int32} {tl : Nat → Nat} {rn : Nat} {i : Nat} {v : VS} (hv : vAsk v) (hw : c.wak < 9999) (hA : AOk c c2 tk ln tb vc vs ts tl rn) : AOk (cWake c i (wakA c v i 0 c.heap)) c2 tk ln tb vc vs ts tl rn := by
  obtain ⟨h1, h2, h3, h4, h5, h6, h7, h8, h9, h10, h11⟩ := hA
  obtain ⟨a1, a2, a3, a4, a5, a6, a7, a8, a9⟩ := h1
  have z : oL (wakA c v i 0 c.heap) c.heap ≤ c.heap := oL_lew (partsN_ge hv.2.2.1)
  exact ⟨⟨a1, a2, a3, Nat.lt_of_le_of_lt z a4, hw, a6, a7, a8, a9⟩, h2, h3, h4, h5, h6, h7, h8, h9, h10, h11⟩
theorem ok_row0 {c : CS} {c2 : CS} {tk : Int32} {ln : Nat} {tb : Nat → Int32} {vc : Nat} {vs : Nat → VS} {ts : Nat → Int32} {tl : Nat → Nat} {rn : Nat}  (hA : AOk c c2 tk ln tb vc vs ts tl rn) : AOk (cRow0 c) c2 tk ln tb vc vs ts tl rn := by
  obtain ⟨h1, h2, h3, h4, h5, h6, h7, h8, h9, h10, h11⟩ := hA
  obtain ⟨a1, a2, a3, a4, a5, a6, a7, a8, a9⟩ := h1
  exact ⟨⟨a1, a2, a3, a4, a5, Nat.zero_le _, fun s z => absurd z (Nat.not_lt_zero s), a8, a9⟩, h2, h3, h4, h5, h6, h7, h8, h9, h10, h11⟩
theorem ok_row {c : CS} {c2 : CS} {tk : Int32} {ln : Nat} {tb : Nat → Int32} {vc : Nat} {vs : Nat → VS} {ts : Nat → Int32} {tl : Nat → Nat} {rn : Nat} {i : Nat} (hi : i < c.men) (hr : c.rl < 8) (hA : AOk c c2 tk ln tb vc vs ts tl rn) : AOk (cRow c i) c2 tk ln tb vc vs ts tl rn := by
  obtain ⟨h1, h2, h3, h4, h5, h6, h7, h8, h9, h10, h11⟩ := hA
  obtain ⟨a1, a2, a3, a4, a5, a6, a7, a8, a9⟩ := h1
  refine ⟨⟨a1, a2, a3, a4, a5, hr, fun s z => ?_, a8, a9⟩, h2, h3, h4, h5, h6, h7, h8, h9, h10, h11⟩
  show uN c.crf c.rl i s < c.men
  by_cases y : s = c.rl
  · rw [y, uN_at]; exact hi
  · rw [uN_no y]; exact a7 s (by have z2 : s < c.rl + 1 := z; omega)
theorem ok_book0 {c : CS} {c2 : CS} {tk : Int32} {ln : Nat} {tb : Nat → Int32} {vc : Nat} {vs : Nat → VS} {ts : Nat → Int32} {tl : Nat → Nat} {rn : Nat}  (hA : AOk c c2 tk ln tb vc vs ts tl rn) : AOk (cBook0 c) c2 tk ln tb vc vs ts tl rn := by
  obtain ⟨h1, h2, h3, h4, h5, h6, h7, h8, h9, h10, h11⟩ := hA
  obtain ⟨a1, a2, a3, a4, a5, a6, a7, a8, a9⟩ := h1
  exact ⟨⟨a1, a2, a3, a4, a5, a6, a7, Nat.zero_le _, a9⟩, h2, h3, h4, h5, h6, h7, h8, h9, h10, h11⟩
theorem ok_book {c : CS} {c2 : CS} {tk : Int32} {ln : Nat} {tb : Nat → Int32} {vc : Nat} {vs : Nat → VS} {ts : Nat → Int32} {tl : Nat → Nat} {rn : Nat} {h : Nat} (hh : h < 1000000) (hp : c.pg < 12) (hA : AOk c c2 tk ln tb vc vs ts tl rn) : AOk (cBook c h) c2 tk ln tb vc vs ts tl rn := by
  obtain ⟨h1, h2, h3, h4, h5, h6, h7, h8, h9, h10, h11⟩ := hA
  obtain ⟨a1, a2, a3, a4, a5, a6, a7, a8, a9⟩ := h1
  refine ⟨⟨a1, a2, a3, a4, a5, a6, a7, hp, fun k z => ?_⟩, h2, h3, h4, h5, h6, h7, h8, h9, h10, h11⟩
  show uN c.bo c.pg h k < 1000000
  by_cases y : k = c.pg
  · rw [y, uN_at]; exact hh
  · rw [uN_no y]; exact a9 k z
theorem ok_image {c : CS} {c2 : CS} {tk : Int32} {ln : Nat} {tb : Nat → Int32} {vc : Nat} {vs : Nat → VS} {ts : Nat → Int32} {tl : Nat → Nat} {rn : Nat}  (hA : AOk c c2 tk ln tb vc vs ts tl rn) : AOk c c 1 ln tb vc vs ts tl rn := by
  obtain ⟨h1, h2, h3, h4, h5, h6, h7, h8, h9, h10, h11⟩ := hA
  exact ⟨h1, h1, h3, h3, Or.inr rfl, h6, h7, h8, h9, h10, h11⟩
theorem ok_undo {c : CS} {c2 : CS} {tk : Int32} {ln : Nat} {tb : Nat → Int32} {vc : Nat} {vs : Nat → VS} {ts : Nat → Int32} {tl : Nat → Nat} {rn : Nat}  (hA : AOk c c2 tk ln tb vc vs ts tl rn) : AOk c2 c2 tk ln tb vc vs ts tl rn := by
  obtain ⟨h1, h2, h3, h4, h5, h6, h7, h8, h9, h10, h11⟩ := hA
  exact ⟨h2, h2, h4, h4, h5, h6, h7, h8, h9, h10, h11⟩
theorem ok_feed {c : CS} {c2 : CS} {tk : Int32} {ln : Nat} {tb : Nat → Int32} {vc : Nat} {vs : Nat → VS} {ts : Nat → Int32} {tl : Nat → Nat} {rn : Nat} {s : Nat} (hs : s < 128) (hf : ln < 100) (hA : AOk c c2 tk ln tb vc vs ts tl rn) : AOk c c2 tk (ln + 1) (upd tb ln (nI s)) vc vs ts tl rn := by
  obtain ⟨h1, h2, h3, h4, h5, h6, h7, h8, h9, h10, h11⟩ := hA
  refine ⟨h1, h2, h3, h4, h5, ⟨hf, fun j z => ?_⟩, h7, h8, h9, h10, h11⟩
  by_cases y : j = ln
  · rw [y, upd_at]; exact fun q => nI_pos (n := s) (by omega) (by rw [q]; decide)
  · rw [upd_no y]; exact h6.2 j (by omega)
theorem ok_v2 {c : CS} {c2 : CS} {tk : Int32} {ln : Nat} {tb : Nat → Int32} {vc : Nat} {vs : Nat → VS} {ts : Nat → Int32} {tl : Nat → Nat} {rn : Nat} {v : VS} (hf : vc < 6) (hA : AOk c c2 tk ln tb vc vs ts tl rn) : AOk c c2 tk 0 tb vc (uV vs vc v) ts tl rn := by
  obtain ⟨h1, h2, h3, h4, h5, h6, h7, h8, h9, h10, h11⟩ := hA
  exact ⟨h1, h2, h3, h4, h5, ⟨by decide, fun j z => absurd z (Nat.not_lt_zero j)⟩, h7, fun k z => by rw [uV_no (by omega)]; exact h8 k z, by rw [uV_no (by omega)]; exact h9, h10, h11⟩
theorem ok_v3 {c : CS} {c2 : CS} {tk : Int32} {ln : Nat} {tb : Nat → Int32} {vc : Nat} {vs : Nat → VS} {ts : Nat → Int32} {tl : Nat → Nat} {rn : Nat} {v : VS} (hf : vc < 6) (hv : vAsk v) (hA : AOk c c2 tk ln tb vc vs ts tl rn) : AOk (cHeld c vc) c2 tk 0 tb (vc + 1) (uV vs vc v) ts tl rn := by
  obtain ⟨h1, h2, h3, h4, h5, h6, h7, h8, h9, h10, h11⟩ := hA
  refine ⟨h1, h2, Or.inr ⟨vc, by omega, rfl⟩, hOk_le h4 (by omega), h5, ⟨by decide, fun j z => absurd z (Nat.not_lt_zero j)⟩, by omega, fun k z => ?_, by rw [uV_no (by omega)]; exact h9, h10, h11⟩
  by_cases y : k = vc
  · rw [y, uV_at]; exact hv
  · rw [uV_no y]; exact h8 k (by omega)
theorem ok_rn {c : CS} {c2 : CS} {tk : Int32} {ln : Nat} {tb : Nat → Int32} {vc : Nat} {vs : Nat → VS} {ts : Nat → Int32} {tl : Nat → Nat} {rn : Nat} {n : Nat} (hn : n ≤ 20) (hA : AOk c c2 tk ln tb vc vs ts tl rn) : AOk c c2 tk ln tb vc vs ts tl n := by
  obtain ⟨h1, h2, h3, h4, h5, h6, h7, h8, h9, h10, h11⟩ := hA
  exact ⟨h1, h2, h3, h4, h5, h6, h7, h8, h9, h10, hn⟩
theorem ok_tp {c : CS} {c2 : CS} {tk : Int32} {ln : Nat} {tb : Nat → Int32} {vc : Nat} {vs : Nat → VS} {ts : Nat → Int32} {tl : Nat → Nat} {rn : Nat} {k n : Nat} {s : Int32} (hn : n ≤ 60) (h0 : s = -1 → n = 0) (hs : s = -1 ∨ isIx s 5) (hA : AOk c c2 tk ln tb vc vs ts tl rn) : AOk c c2 tk ln tb vc vs (upd ts k s) (uN tl k n) rn := by
  obtain ⟨h1, h2, h3, h4, h5, h6, h7, h8, h9, h10, h11⟩ := hA
  refine ⟨h1, h2, h3, h4, h5, h6, h7, h8, h9, fun t z => ?_, h11⟩
  by_cases y : t = k
  · rw [y, upd_at, uN_at]; exact ⟨hn, h0, hs⟩
  · rw [upd_no y, uN_no y]; exact h10 t z
-- the reference's rows when a village is read
theorem RV_2 {vc : Nat} {vs : Nat → VS} {v : VS} {wd : Nat → Int32} {nu : Nat → Int32} {fr : Nat → Int32} {tt9 : Nat → Int32} {sf : Nat → Int32} {cls : Nat → Int32} {wd2 nu2 fr2 tt2 sf2 cls2 : Nat → Int32} (h : RV vc vs wd nu fr tt9 sf cls) (h1 : ∀ j, ¬ (10 * vc ≤ j ∧ j < 10 * vc + 10) → wd2 j = wd j ∧ nu2 j = nu j ∧ fr2 j = fr j ∧ tt2 j = tt9 j) (h2 : ∀ j, j < 100 * vc → sf2 j = sf j) (h3 : ∀ j, ¬ j = vc → cls2 j = cls j) : RV vc (uV vs vc v) wd2 nu2 fr2 tt2 sf2 cls2 := fun k hk => by
  obtain ⟨u, n, g, a1, a2, a3, a4⟩ := h k hk
  exact ⟨u, n, g, a1, a2, by rw [h3 k (by omega)]; exact a3, by rw [uV_no (by omega)]; exact cRep_cg a4 (fun z b1 b2 => h1 z (by omega)) (fun j hj => h2 j (by omega))⟩
theorem RV_3 {vc : Nat} {vs : Nat → VS} {v u : VS} {wd : Nat → Int32} {nu : Nat → Int32} {fr : Nat → Int32} {tt9 : Nat → Int32} {sf : Nat → Int32} {cls : Nat → Int32} {wd2 nu2 fr2 tt2 sf2 cls2 : Nat → Int32} (h : RV vc vs wd nu fr tt9 sf cls) (h1 : ∀ j, ¬ (10 * vc ≤ j ∧ j < 10 * vc + 10) → wd2 j = wd j ∧ nu2 j = nu j ∧ fr2 j = fr j ∧ tt2 j = tt9 j) (h2 : ∀ j, j < 100 * vc → sf2 j = sf j) (h3 : ∀ j, ¬ j = vc → cls2 j = cls j)
    (h4 : ∃ n g : Nat, 1 ≤ n ∧ n ≤ 10 ∧ cls2 vc = nI n ∧ g ≤ 100 * vc + 100 ∧ cRep wd2 nu2 fr2 tt2 sf2 vc u n g v) : RV (vc + 1) (uV vs vc v) wd2 nu2 fr2 tt2 sf2 cls2 := fun k hk => by
  by_cases z : k = vc
  · obtain ⟨n, g, _, b2, b3, b4, b5⟩ := h4
    rw [z, uV_at]
    exact ⟨u, n, g, b2, b4, b3, b5⟩
  · exact RV_2 h h1 h2 h3 k (by omega)
-- both sides answer a call alike, and the state goes on
def StQ (D : G) (xa : Nat → Nat) (vt tt : Nat → Option Nat) (mo : Nat) (ma : Nat → Nat) (mx mm : MT) (args : List Value) (bx bm : Nat → va_W) : Prop := ∃ (R : Value) (c : CS) (c2 : CS) (tk : Int32) (ln : Nat) (tb : Nat → Int32) (vc : Nat) (vs : Nat → VS) (ts : Nat → Int32) (tl : Nat → Nat) (ti : Nat → Nat → Int64) (rn : Nat) (f : Nat → Int32), AOk c c2 tk ln tb vc vs ts tl rn ∧
  Sp D mx 30 0 0 (.ref (xa 0) :: args) (wB 24 bx) (fun r w => r = some R ∧ ∃ b2 : Nat → va_W, w = wB 24 b2 ∧ IX D xa vt tt c c2 tk ln tb vc vs ts tl ti rn f b2) ∧
  Sp D mm 30 0 0 (.ref mo :: args) (wB 55 bm) (fun r w => r = some R ∧ ∃ b2 : Nat → va_W, w = wB 55 b2 ∧ IM D mo ma c c2 tk ln tb vc vs ts tl ti rn f b2)
