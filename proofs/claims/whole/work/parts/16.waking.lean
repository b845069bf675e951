-- wakings, by numbers: what one man shares, hides, leaves
def partsN (k v sh : Nat) : Nat := if k = 1 ∨ k = 4 then v + 2 else if k = 3 ∨ k = 6 then 2 else sh
theorem partsN_ge {k v sh : Nat} (h : 2 ≤ sh) : 2 ≤ partsN k v sh := by
  unfold partsN
  split
  · omega
  · split <;> omega
theorem partsN_le {k v sh : Nat} (h : sh ≤ 99) (hv : v ≤ 9) : partsN k v sh ≤ 99 := by
  unfold partsN
  split
  · omega
  · split <;> omega
def hidN (k sh part b : Nat) : Nat := if k = 4 then 0 else if k = 2 ∨ k = 5 then 2 * part - b else if k = 6 then min (part + b) sh else part - b
theorem hidN_le {k sh p b : Nat} (hp : 2 ≤ p) : hidN k sh (sh / p) b ≤ sh := by
  have h2 : 2 * (sh / p) ≤ sh := Nat.le_trans (Nat.mul_le_mul_right _ hp) (Nat.mul_div_le sh p)
  unfold hidN
  generalize sh / p = part at h2 ⊢
  split
  · omega
  · split
    · omega
    · split <;> omega
-- left, the dog's, hidden
def shareN (k p : Nat) (o b : Nat → Nat) (h : Nat) : Option (Nat × Nat × Nat) :=
  if h < o (h % 10) ∨ ¬ (h - o (h % 10)) % p = 0 then none
  else some (h - o (h % 10) - hidN k (h - o (h % 10)) ((h - o (h % 10)) / p) (b (h % 10)), o (h % 10), hidN k (h - o (h % 10)) ((h - o (h % 10)) / p) (b (h % 10)))
def again (x : Nat × Nat × Nat) : Option (Nat × Nat × Nat) → Nat × Nat × Nat
  | none => x
  | some y => (y.1, x.2.1 + y.2.1, x.2.2 + y.2.2)
def wakeN (k p : Nat) (o b : Nat → Nat) (h : Nat) : Option (Nat × Nat × Nat) :=
  (shareN k p o b h).map (fun x => if k = 5 then again x (shareN k p o b x.1) else x)
theorem shareN_le {k p h l g d : Nat} {o b : Nat → Nat} (hp : 2 ≤ p) (e : shareN k p o b h = some (l, g, d)) : l + g + d = h := by
  unfold shareN at e
  split at e
  · cases e
  · rename_i q
    obtain ⟨rfl, rfl, rfl⟩ : h - o (h % 10) - hidN k (h - o (h % 10)) ((h - o (h % 10)) / p) (b (h % 10)) = l ∧ o (h % 10) = g ∧ hidN k (h - o (h % 10)) ((h - o (h % 10)) / p) (b (h % 10)) = d := by
      have := Option.some.inj e
      simp only [Prod.mk.injEq] at this
      exact this
    have h1 := hidN_le (k := k) (sh := h - o (h % 10)) (b := b (h % 10)) hp
    omega
theorem wakeN_le {k p h l g d : Nat} {o b : Nat → Nat} (hp : 2 ≤ p) (e : wakeN k p o b h = some (l, g, d)) : l + g + d = h := by
  unfold wakeN at e
  cases hs : shareN k p o b h with
  | none => rw [hs] at e; cases e
  | some x =>
    obtain ⟨l1, g1, d1⟩ := x
    have h1 := shareN_le hp hs
    rw [hs] at e
    have e := Option.some.inj e
    by_cases hk : k = 5
    · simp only [if_pos hk] at e
      cases hs2 : shareN k p o b l1 with
      | none =>
        rw [hs2] at e
        simp only [again, Prod.mk.injEq] at e
        omega
      | some y =>
        obtain ⟨l2, g2, d2⟩ := y
        have h2 := shareN_le hp hs2
        rw [hs2] at e
        simp only [again, Prod.mk.injEq] at e
        omega
    · simp only [if_neg hk, Prod.mk.injEq] at e
      omega
-- which place of the tables
def slotN (m s d : Nat) : Nat := (m * 8 + s) * 10 + d
theorem slotN_lt {m s d : Nat} (hm : m < 6) (hs : s < 8) (hd : d < 10) : slotN m s d < 480 := by unfold slotN; omega
theorem slotN_inj {m s d m2 s2 d2 : Nat} (hs : s < 8) (hd : d < 10) (hs2 : s2 < 8) (hd2 : d2 < 10) (e : slotN m s d = slotN m2 s2 d2) : m = m2 ∧ s = s2 ∧ d = d2 := by unfold slotN at e; omega
-- the row from a heap on: behind s wakings, what is left, the dog's, each man's
def walkN (K P : Nat → Nat) (O B : Nat → Nat → Nat → Nat) (row : Nat → Nat) (h : Nat) : Nat → Option (Nat × Nat × (Nat → Nat))
  | 0 => some (h, 0, fun _ => 0)
  | s + 1 => (walkN K P O B row h s).bind (fun x => (wakeN (K (row s)) (P (row s)) (O (row s) s) (B (row s) s) x.1).map (fun y => (y.1, x.2.1 + y.2.1, uN x.2.2 (row s) (x.2.2 (row s) + y.2.2))))
theorem walkN_none {K P : Nat → Nat} {O B : Nat → Nat → Nat → Nat} {row : Nat → Nat} {h s : Nat} (e : walkN K P O B row h s = none) : ∀ n, walkN K P O B row h (s + n) = none
  | 0 => e
  | n + 1 => by
    show (walkN K P O B row h (s + n)).bind _ = none
    rw [walkN_none e n]
    rfl
theorem walkN_stop {K P : Nat → Nat} {O B : Nat → Nat → Nat → Nat} {row : Nat → Nat} {h s n : Nat} (hs : s ≤ n) (e : walkN K P O B row h s = none) : walkN K P O B row h n = none := by
  have := walkN_none e (n - s)
  rwa [show s + (n - s) = n by omega] at this
theorem walkN_le {K P : Nat → Nat} {O B : Nat → Nat → Nat → Nat} {row : Nat → Nat} {h : Nat} (hP : ∀ m, 2 ≤ P m) : ∀ {s l g : Nat} {q : Nat → Nat}, walkN K P O B row h s = some (l, g, q) → l + g ≤ h ∧ ∀ m, l + g + q m ≤ h
  | 0, l, g, q, e => by
    have e := Option.some.inj e
    simp only [Prod.mk.injEq] at e
    obtain ⟨rfl, rfl, rfl⟩ := e
    exact ⟨Nat.le_refl _, fun m => Nat.le_refl _⟩
  | s + 1, l, g, q, e => by
    have e : (walkN K P O B row h s).bind (fun x => (wakeN (K (row s)) (P (row s)) (O (row s) s) (B (row s) s) x.1).map (fun y => (y.1, x.2.1 + y.2.1, uN x.2.2 (row s) (x.2.2 (row s) + y.2.2)))) = some (l, g, q) := e
    cases hw : walkN K P O B row h s with
    | none => rw [hw] at e; cases e
    | some x =>
      obtain ⟨l0, g0, q0⟩ := x
      have ih := walkN_le hP hw
      rw [hw] at e
      simp only [Option.bind_some] at e
      cases hy : wakeN (K (row s)) (P (row s)) (O (row s) s) (B (row s) s) l0 with
      | none => rw [hy] at e; cases e
      | some y =>
        obtain ⟨l1, g1, d1⟩ := y
        have h1 := wakeN_le (hP (row s)) hy
        rw [hy] at e
        have e := Option.some.inj e
        simp only [Prod.mk.injEq] at e
        obtain ⟨rfl, rfl, rfl⟩ := e
        refine ⟨by have := ih.1; omega, fun m => ?_⟩
        have h2 := ih.2 m
        by_cases hm : m = row s
        · rw [hm, uN_s]; rw [hm] at h2; omega
        · rw [uN_n hm]; omega
