-- the reference's rows of a village, and what they come to
def lastF (wd nu : Nat → Int32) (w : Int32) (b : Nat) (d : Int32) : Nat → Int32
  | 0 => d
  | n + 1 => if wd (b + n) = w then nu (b + n) else lastF wd nu w b d n
def hasF (wd : Nat → Int32) (w : Int32) (b n : Nat) : Prop := ∃ c, b ≤ c ∧ c < b + n ∧ wd c = w
def strF (sf : Nat → Int32) (a k : Nat) : List Int32 := (List.range k).map (fun j => sf (a + j))
def hR9 (fr tt sf ff : Nat → Int32) (c : Nat) : Prop := runR ff (strF sf (fr c).toNatClampNeg ((tt c).toNatClampNeg - (fr c).toNatClampNeg)) [] = some [true]
noncomputable def sumR (wd nu fr tt sf ff : Nat → Int32) (w : Int32) (b : Nat) : Nat → Nat
  | 0 => 0
  | n + 1 => iteP (wd (b + n) = w ∧ hR9 fr tt sf ff (b + n)) (sumR wd nu fr tt sf ff w b n + (nu (b + n)).toNatClampNeg) (sumR wd nu fr tt sf ff w b n)
def safeC (wd nu fr tt sf : Nat → Int32) (c : Nat) : Prop := (∃ m : Nat, m ≤ 99 ∧ nu c = nI m) ∧ ((wd c = 1 ∨ wd c = 2) → ∃ a k : Nat, fr c = nI a ∧ tt c = nI (a + k) ∧ k ≤ 100 ∧ a + k ≤ 600 ∧ ∀ ff, ∃ b : Bool, runR ff (strF sf a k) [] = some [b])
def MR (wd nu fr tt sf : Nat → Int32) (bg n : Nat) (v : VS) : Prop := n ≤ 10 ∧ bg + n ≤ 60 ∧ (∃ s : Nat, s ≤ 99 ∧ lastF wd nu 0 bg 3 n = nI s ∧ v.sh = max s 2) ∧ lastF wd nu 3 bg 1 n = nI v.mo ∧ (hasF wd 1 bg n ↔ ¬ v.ov = 0) ∧
  (∀ ff, sumR wd nu fr tt sf ff 1 bg n = sumN v.fo v.fs ff v.am9 v.E9 1 v.nr ∧ sumR wd nu fr tt sf ff 2 bg n = sumN v.fo v.fs ff v.am9 v.E9 0 v.nr) ∧ (∀ c, bg ≤ c → c < bg + n → safeC wd nu fr tt sf c) ∧ v.nl = sStart v.E9 v.nr ∧ (∀ r, r < v.nr → sStart v.E9 r ≤ v.E9 r ∧ v.E9 r ≤ v.nl)
theorem sSt_0 (E : Nat → Nat) : sStart E 0 = 0 := rfl
theorem sSt_s (E : Nat → Nat) (k : Nat) : sStart E (k + 1) = E k := rfl
theorem hF_cg {fs fs2 ff : Nat → Int32} {a : Nat} : ∀ {n : Nat}, (∀ j, a ≤ j → j < a + n → fs2 j = fs j) → hF fs2 ff a n = hF fs ff a n
  | 0, _ => rfl
  | n + 1, h => by
    show hStep (hF fs2 ff a n) (fs2 (a + n)) ff = hStep (hF fs ff a n) (fs (a + n)) ff
    rw [hF_cg (fun j h1 h2 => h j h1 (by omega)), h (a + n) (by omega) (by omega)]
theorem sumN_cg {fo fs fo2 fs2 ff : Nat → Int32} {am E am2 E2 : Nat → Nat} {ob : Int32} {nl : Nat} : ∀ {r : Nat}, (∀ j, j < r → fo2 j = fo j ∧ am2 j = am j ∧ E2 j = E j ∧ sStart E j ≤ E j ∧ E j ≤ nl) → (∀ j, j < nl → fs2 j = fs j) → sumN fo2 fs2 ff am2 E2 ob r = sumN fo fs ff am E ob r
  | 0, _, _ => rfl
  | r + 1, h, hs => by
    obtain ⟨a1, a2, a3, a4, a5⟩ := h r (Nat.lt_succ_self r)
    have e0 : sStart E2 r = sStart E r := by
      cases r with
      | zero => rw [sSt_0, sSt_0]
      | succ k => rw [sSt_s, sSt_s]; exact (h k (by omega)).2.2.1
    show iteP (fo2 r = ob ∧ hP fs2 ff (sStart E2 r) (E2 r)) (sumN fo2 fs2 ff am2 E2 ob r + am2 r) (sumN fo2 fs2 ff am2 E2 ob r) = iteP (fo r = ob ∧ hP fs ff (sStart E r) (E r)) (sumN fo fs ff am E ob r + am r) (sumN fo fs ff am E ob r)
    rw [sumN_cg (fun j hj => h j (by omega)) hs, a1, a2, a3, e0]
    unfold hP
    rw [hF_cg (fun j h1 h2 => hs j (by omega))]
theorem sumR_cg {wd nu fr tt sf wd2 nu2 fr2 tt2 sf2 ff : Nat → Int32} {w : Int32} {b : Nat} : ∀ {n : Nat}, (∀ c, b ≤ c → c < b + n → wd2 c = wd c ∧ nu2 c = nu c ∧ (wd c = w → hR9 fr2 tt2 sf2 ff c = hR9 fr tt sf ff c)) → sumR wd2 nu2 fr2 tt2 sf2 ff w b n = sumR wd nu fr tt sf ff w b n
  | 0, _ => rfl
  | n + 1, h => by
    obtain ⟨a1, a2, a3⟩ := h (b + n) (by omega) (by omega)
    show iteP _ (sumR wd2 nu2 fr2 tt2 sf2 ff w b n + _) (sumR wd2 nu2 fr2 tt2 sf2 ff w b n) = iteP _ (sumR wd nu fr tt sf ff w b n + _) (sumR wd nu fr tt sf ff w b n)
    rw [sumR_cg (fun c h1 h2 => h c h1 (by omega)), a1, a2]
    by_cases z : wd (b + n) = w
    · rw [a3 z]
    · rw [iteP_f (fun q => z q.1), iteP_f (fun q => z q.1)]
theorem E9_at (v : VS) (j : Nat) : v.E9 j = (v.fe j).toNatClampNeg := rfl
theorem am_at (v : VS) (j : Nat) : v.am9 j = (v.fa j).toNatClampNeg := rfl
theorem upd_am {f : Nat → Int32} {r x j : Nat} (hx : x < 2147483648) : (upd f r (nI x) j).toNatClampNeg = if j = r then x else (f j).toNatClampNeg := by
  by_cases z : j = r
  · rw [z, pk_us, if_pos rfl, nI_clamp hx]
  · rw [pk_un z, if_neg z]
theorem strF_l {sf : Nat → Int32} {a : Nat} {l : List Int32} (h : ∀ j, j < l.length → sf (a + j) = enc (l.getD j 0)) : strF sf a l.length = l.map enc := by
  refine List.ext_getElem (by simp [strF]) (fun j h1 h2 => ?_)
  have hj : j < l.length := by simpa using h2
  simp only [strF, List.getElem_map, List.getElem_range]
  rw [h j hj]
  simp [List.getD_eq_getElem?_getD, List.getElem?_eq_getElem hj]
theorem hasF_s {wd : Nat → Int32} {w : Int32} {b n : Nat} : hasF wd w b (n + 1) ↔ hasF wd w b n ∨ wd (b + n) = w := by
  constructor
  · rintro ⟨c, h1, h2, h3⟩
    by_cases z : c = b + n
    · exact Or.inr (z ▸ h3)
    · exact Or.inl ⟨c, h1, by omega, h3⟩
  · rintro (⟨c, h1, h2, h3⟩ | h)
    · exact ⟨c, h1, by omega, h3⟩
    · exact ⟨b + n, by omega, by omega, h⟩
theorem hp_b (b : Bool) : (¬ lN (encQ [b]) &&& 1 = 0) ↔ b = true := by
  cases b
  · rw [show encQ [false] = 0 from rfl]
    exact ⟨fun q => absurd ((q_hp_ ⟨0, by decide⟩).mpr rfl) q, fun q => absurd q (by decide)⟩
  · rw [show encQ [true] = 1 from rfl]
    exact ⟨fun _ => rfl, fun _ q => absurd ((q_hp_ ⟨1, by decide⟩).mp q) (by decide)⟩
theorem lN_e : (0 : Int64) = lN (encQ []) := rfl
-- a rule more
theorem MR_rule {wd nu fr tt sf : Nat → Int32} {bg n g m : Nat} {v v2 : VS} {l : List Int32} {ob : Int32} {w : Int32} (h : MR wd nu fr tt sf bg n v) (hn : n < 10) (hb : bg + n < 60) (hvl : v.nl + l.length ≤ 100) (hg : g + l.length ≤ 600) (hm : m ≤ 99) (e0 : nu (bg + n) = nI m) (ew : wd (bg + n) = w) (e1 : fr (bg + n) = nI g) (e2 : tt (bg + n) = nI (g + l.length)) (e3 : ∀ j, j < l.length → sf (g + j) = enc (l.getD j 0)) (he : EV 11 l)
    (f1 : v2.sh = v.sh) (f2 : v2.mo = v.mo) (f3 : v2.nr = v.nr + 1) (f4 : v2.nl = v.nl + l.length) (f5 : v2.fo = upd v.fo v.nr ob) (f6 : v2.fa = upd v.fa v.nr (nI m)) (f7 : v2.fe = upd v.fe v.nr (nI (v.nl + l.length))) (f8 : v2.fs = wr v.fs v.nl l)
    (hw : (w = 1 ∧ ob = 1 ∧ v2.ov = v.ov + 1) ∨ (w = 2 ∧ ob = 0 ∧ v2.ov = v.ov)) : MR wd nu fr tt sf bg (n + 1) v2 := by
  obtain ⟨a1, a2, ⟨s, a3, a4, a5⟩, a6, a7, a8, a9, a10, a11⟩ := h
  have hw0 : ¬ w = 0 := by rcases hw with z | z <;> rw [z.1] <;> decide
  have hw3 : ¬ w = 3 := by rcases hw with z | z <;> rw [z.1] <;> decide
  have hE : ∀ j, v2.E9 j = if j = v.nr then v.nl + l.length else v.E9 j := fun j => by rw [E9_at, f7, upd_am (by omega), ← E9_at]
  have hA : ∀ j, v2.am9 j = if j = v.nr then m else v.am9 j := fun j => by rw [am_at, f6, upd_am (by omega), ← am_at]
  have hE1 : v2.E9 v.nr = v.nl + l.length := by rw [hE, if_pos rfl]
  have hE2 : ∀ j, j < v.nr → v2.E9 j = v.E9 j := fun j hj => by rw [hE, if_neg (by omega)]
  have hst : sStart v2.E9 v.nr = v.nl := by
    rw [a10]
    cases e : v.nr with
    | zero => rw [sSt_0, sSt_0]
    | succ k => rw [sSt_s, sSt_s]; exact hE2 k (by omega)
  have hold : ∀ (ff : Nat → Int32) (o : Int32), sumN v2.fo v2.fs ff v2.am9 v2.E9 o v.nr = sumN v.fo v.fs ff v.am9 v.E9 o v.nr := fun ff o => sumN_cg (nl := v.nl) (fun j hj => ⟨by rw [f5, pk_un (by omega)], by rw [hA, if_neg (by omega)], hE2 j hj, (a11 j hj).1, (a11 j hj).2⟩) (fun j hj => by rw [f8]; exact wr_lo hj)
  have hval : ∀ ff : Nat → Int32, ∃ b : Bool, runR ff (strF sf g l.length) [] = some [b] ∧ (hR9 fr tt sf ff (bg + n) ↔ b = true) ∧ (hP v2.fs ff v.nl (v.nl + l.length) ↔ b = true) := fun ff => by
    obtain ⟨b, hb⟩ := he ff
    obtain ⟨h1, h2⟩ := hb [] (by show 0 + 11 ≤ 12; omega)
    rw [← strF_l (sf := sf) (a := g) e3] at h1
    refine ⟨b, h1, ?_, ?_⟩
    · unfold hR9
      rw [e1, e2, nI_clamp (by omega), nI_clamp (by omega), Nat.add_sub_cancel_left, h1]
      exact ⟨fun q => by have := Option.some.inj q; exact (List.cons.inj this).1, fun q => by rw [q]⟩
    · unfold hP
      rw [Nat.add_sub_cancel_left, f8, hF_l (fs := wr v.fs v.nl l) (ff := ff) (a := v.nl) (l := l) (fun j hj => wr_at hj), lN_e, h2]
      exact hp_b b
  refine ⟨by omega, by omega, ⟨s, a3, ?_, by rw [f1]; exact a5⟩, ?_, ?_, ?_, ?_, ?_, ?_⟩
  · show (if wd (bg + n) = 0 then nu (bg + n) else lastF wd nu 0 bg 3 n) = _
    rw [ew, if_neg hw0]; exact a4
  · show (if wd (bg + n) = 3 then nu (bg + n) else lastF wd nu 3 bg 1 n) = _
    rw [ew, if_neg hw3, f2]; exact a6
  · rw [hasF_s, ew]
    rcases hw with z | z
    · rw [z.1, z.2.2]; exact ⟨fun _ => by omega, fun _ => Or.inr rfl⟩
    · rw [z.1, z.2.2, a7]; exact ⟨fun q => q.resolve_right (by decide), Or.inl⟩
  · intro ff
    obtain ⟨b, _, h2, h3⟩ := hval ff
    have ea : (nu (bg + n)).toNatClampNeg = m := by rw [e0, nI_clamp (by omega)]
    have eo : v2.fo v.nr = ob := by rw [f5, pk_us]
    have em : v2.am9 v.nr = m := by rw [hA, if_pos rfl]
    have step : ∀ (wq oq : Int32), (w = wq ↔ ob = oq) → sumR wd nu fr tt sf ff wq bg n = sumN v.fo v.fs ff v.am9 v.E9 oq v.nr → sumR wd nu fr tt sf ff wq bg (n + 1) = sumN v2.fo v2.fs ff v2.am9 v2.E9 oq (v.nr + 1) := fun wq oq hq hs => by
      show iteP _ (sumR wd nu fr tt sf ff wq bg n + _) (sumR wd nu fr tt sf ff wq bg n) = iteP _ (sumN v2.fo v2.fs ff v2.am9 v2.E9 oq v.nr + _) (sumN v2.fo v2.fs ff v2.am9 v2.E9 oq v.nr)
      rw [hold, hs, ea, em, ew, eo, hst, hE1]
      by_cases z : w = wq ∧ b = true
      · rw [iteP_t ⟨z.1, h2.mpr z.2⟩, iteP_t ⟨hq.mp z.1, h3.mpr z.2⟩]
      · rw [iteP_f (fun q => z ⟨q.1, h2.mp q.2⟩), iteP_f (fun q => z ⟨hq.mpr q.1, h3.mp q.2⟩)]
    rw [f3]
    rcases hw with z | z
    · exact ⟨step 1 1 (by rw [z.1, z.2.1]) (a8 ff).1, step 2 0 (by rw [z.1, z.2.1]; decide) (a8 ff).2⟩
    · exact ⟨step 1 1 (by rw [z.1, z.2.1]; decide) (a8 ff).1, step 2 0 (by rw [z.1, z.2.1]; exact ⟨fun _ => rfl, fun _ => rfl⟩) (a8 ff).2⟩
  · intro c h1 h2
    by_cases z : c = bg + n
    · rw [z]
      exact ⟨⟨m, hm, e0⟩, fun _ => ⟨g, l.length, e1, e2, by omega, hg, fun ff => by obtain ⟨b, q, _⟩ := hval ff; exact ⟨b, q⟩⟩⟩
    · exact a9 c h1 (by omega)
  · rw [f3, f4]
    rw [sSt_s, hE1]
  · intro r hr
    rw [f3] at hr
    rw [f4]
    by_cases z : r = v.nr
    · rw [z, hst, hE1]; omega
    · have hr2 : r < v.nr := by omega
      have := a11 r hr2
      refine ⟨?_, by rw [hE2 r hr2]; omega⟩
      rw [hE2 r hr2]
      have e : sStart v2.E9 r = sStart v.E9 r := by
        cases r with
        | zero => rw [sSt_0, sSt_0]
        | succ k => rw [sSt_s, sSt_s]; exact hE2 k (by omega)
      rw [e]
      exact this.1
theorem MR_word {wd nu fr tt sf : Nat → Int32} {bg n m : Nat} {v : VS} (h : MR wd nu fr tt sf bg n v) (hn : n < 10) (hb : bg + n < 60) (hm : m ≤ 99) (e0 : nu (bg + n) = nI m) (ew : wd (bg + n) = 0 ∨ wd (bg + n) = 3) (sh2 mo2 : Nat) (hs : (wd (bg + n) = 0 ∧ sh2 = max m 2 ∧ mo2 = v.mo) ∨ (wd (bg + n) = 3 ∧ sh2 = v.sh ∧ mo2 = m)) : MR wd nu fr tt sf bg (n + 1) (sh2, mo2, v.ov, v.nr, v.nl, v.fo, v.fa, v.fe, v.fs) := by
  obtain ⟨a1, a2, ⟨s, a3, a4, a5⟩, a6, a7, a8, a9, a10, a11⟩ := h
  have h1 : ¬ wd (bg + n) = 1 := by rcases ew with z | z <;> rw [z] <;> decide
  have h2 : ¬ wd (bg + n) = 2 := by rcases ew with z | z <;> rw [z] <;> decide
  have hsum : ∀ ff, sumR wd nu fr tt sf ff 1 bg (n + 1) = sumR wd nu fr tt sf ff 1 bg n ∧ sumR wd nu fr tt sf ff 2 bg (n + 1) = sumR wd nu fr tt sf ff 2 bg n := fun ff => ⟨iteP_f (fun q => h1 q.1), iteP_f (fun q => h2 q.1)⟩
  refine ⟨by omega, by omega, ?_, ?_, ?_, fun ff => ⟨(hsum ff).1.trans (a8 ff).1, (hsum ff).2.trans (a8 ff).2⟩, ?_, a10, a11⟩
  · rcases hs with z | z
    · refine ⟨m, hm, ?_, z.2.1⟩
      show (if wd (bg + n) = 0 then nu (bg + n) else lastF wd nu 0 bg 3 n) = _
      rw [if_pos z.1, e0]
    · refine ⟨s, a3, ?_, by show sh2 = _; rw [z.2.1]; exact a5⟩
      show (if wd (bg + n) = 0 then nu (bg + n) else lastF wd nu 0 bg 3 n) = _
      rw [if_neg (by rw [z.1]; decide)]; exact a4
  · show (if wd (bg + n) = 3 then nu (bg + n) else lastF wd nu 3 bg 1 n) = nI mo2
    rcases hs with z | z
    · rw [if_neg (by rw [z.1]; decide), z.2.2]; exact a6
    · rw [if_pos z.1, z.2.2, e0]
  · rw [hasF_s, a7]
    exact ⟨fun q => q.resolve_right h1, Or.inl⟩
  · intro c h3 h4
    by_cases z : c = bg + n
    · rw [z]
      exact ⟨⟨m, hm, e0⟩, fun q => absurd q (fun q => q.elim h1 h2)⟩
    · exact a9 c h3 (by omega)
theorem cRep_MR {wd nu fr tt sf : Nat → Int32} {f : Nat} {u : VS} (hf : f < 6) : ∀ {n g : Nat} {v : VS}, n ≤ 10 → g ≤ 100 * f + 100 → cRep wd nu fr tt sf f u n g v → MR wd nu fr tt sf (10 * f) n v ∧ v.nl + 100 * f = g
  | 0, g, v, _, _, h => by
    obtain ⟨h1, rfl⟩ := h
    refine ⟨⟨by omega, by omega, ⟨3, by decide, rfl, rfl⟩, rfl, ?_, fun ff => ⟨rfl, rfl⟩, fun c h1 h2 => by omega, rfl, fun r hr => absurd hr (Nat.not_lt_zero r)⟩, by rw [h1]; exact Nat.zero_add _⟩
    exact ⟨fun ⟨c, h1, h2, _⟩ => by omega, fun q => absurd rfl q⟩
  | n + 1, g2, v2, hn, hg, h => by
    obtain ⟨g, v, h1, h2⟩ := h
    have hle := R1_le h2
    obtain ⟨i1, i2⟩ := cRep_MR hf (by omega) (by omega) h1
    obtain ⟨m, m1, m2, h3⟩ := h2
    rcases h3 with ⟨w1, w2, w3⟩ | ⟨w1, w2, w3⟩ | ⟨tb, ln, q, b0, b1, b2, b3, b4, b5, b6, b7⟩
    · rw [w2, w3]
      exact ⟨MR_word i1 (by omega) (by omega) m1 m2 (Or.inl w1) (max m 2) v.mo (Or.inl ⟨w1, rfl, rfl⟩), i2⟩
    · rw [w2, w3]
      exact ⟨MR_word i1 (by omega) (by omega) m1 m2 (Or.inr w1) v.sh m (Or.inr ⟨w1, rfl, rfl⟩), i2⟩
    · have hc := con_ok (tb := tb) (ln := ln) q b1
      have he := EV_con b2
      rw [b3] at b5 hg ⊢
      rcases b7 with ⟨w1, w2⟩ | ⟨w1, w2⟩
      · rw [w2]
        exact ⟨MR_rule (w := 1) (ob := 1) i1 (by omega) (by omega) (by omega) (by omega) m1 m2 w1 b4 b5 b6 he rfl rfl rfl rfl rfl rfl rfl rfl (Or.inl ⟨rfl, rfl, rfl⟩), by show v.nl + _ + 100 * f = _; omega⟩
      · rw [w2]
        exact ⟨MR_rule (w := 2) (ob := 0) i1 (by omega) (by omega) (by omega) (by omega) m1 m2 w1 b4 b5 b6 he rfl rfl rfl rfl rfl rfl rfl rfl (Or.inr ⟨rfl, rfl, rfl⟩), by show v.nl + _ + 100 * f = _; omega⟩
