-- long numbers: the plain facts
def digs (N i : Nat) : Int32 := nI (N / 10 ^ i % 10)
theorem digs_lt (N i : Nat) : N / 10 ^ i % 10 < 10 := Nat.mod_lt _ (by decide)
theorem ten_pos (i : Nat) : 0 < 10 ^ i := Nat.pow_pos (by decide)
theorem mul_step (N b i c : Nat) (hc : c = (N % 10 ^ i) * b / 10 ^ i) : (N / 10 ^ i % 10 * b + c) % 10 = N * b / 10 ^ i % 10 ∧ (N / 10 ^ i % 10 * b + c) / 10 = (N % 10 ^ (i + 1)) * b / 10 ^ (i + 1) := by
  have hP := ten_pos i
  rw [Nat.pow_succ]
  generalize 10 ^ i = P at hc hP ⊢
  have e1 : N % (P * 10) = N % P + P * (N / P % 10) := Nat.mod_mul
  have e2 : (N % (P * 10)) * b / P = N / P % 10 * b + c := by
    rw [e1, Nat.add_mul, Nat.mul_assoc, Nat.add_mul_div_left _ _ hP, ← hc, Nat.add_comm]
  have e3 : N * b = (N % (P * 10)) * b + P * (10 * (N / (P * 10) * b)) := by
    have h := Nat.mod_add_div N (P * 10)
    calc N * b = (N % (P * 10) + P * 10 * (N / (P * 10))) * b := by rw [h]
      _ = _ := by rw [Nat.add_mul, Nat.mul_assoc, Nat.mul_assoc]
  refine ⟨?_, ?_⟩
  · rw [e3, Nat.add_mul_div_left _ _ hP, e2, Nat.add_mul_mod_self_left]
  · rw [← e2, Nat.div_div_eq_div_mul]
theorem mul_carry (N b i : Nat) (hb : 0 < b) : (N % 10 ^ i) * b / 10 ^ i < b := by
  have hP := ten_pos i
  have h := Nat.mod_lt N hP
  rw [Nat.div_lt_iff_lt_mul hP, Nat.mul_comm b]
  exact Nat.mul_lt_mul_of_pos_right h hb
def sub_w (N a i : Nat) : Nat := (a - N % 10 ^ i + (10 ^ i - 1)) / 10 ^ i
theorem sub_w0 (N a : Nat) : sub_w N a 0 = a := by unfold sub_w; simp [Nat.mod_one]
theorem sub_w_le (N a i : Nat) : sub_w N a i ≤ a := by
  have hP := ten_pos i
  unfold sub_w
  generalize 10 ^ i = P at hP ⊢
  have h : a - N % P + (P - 1) < P * (a + 1) := by
    have : P * (a + 1) = P * a + P := Nat.mul_succ P a
    have h2 : a ≤ P * a := Nat.le_mul_of_pos_left a hP
    omega
  exact Nat.le_of_lt_succ (Nat.div_lt_of_lt_mul h)
theorem sub_step (N a i : Nat) : (sub_w N a i + 9 - N / 10 ^ i % 10) / 10 = sub_w N a (i + 1) := by
  have hP := ten_pos i
  have hd : N / 10 ^ i % 10 < 10 := Nat.mod_lt _ (by decide)
  unfold sub_w
  rw [Nat.pow_succ]
  generalize 10 ^ i = P at hP hd ⊢
  have e1 : N % (P * 10) = N % P + P * (N / P % 10) := Nat.mod_mul
  rw [e1]
  generalize N % P = x
  generalize N / P % 10 = d at hd ⊢
  rw [← Nat.div_div_eq_div_mul]
  by_cases h : x + P * d ≤ a
  · have e3 : a - (x + P * d) + (P * 10 - 1) = (a - x + (P - 1)) + P * (9 - d) := by
      have : P * (9 - d) = P * 9 - P * d := Nat.mul_sub P 9 d
      have h9 : P * d ≤ P * 9 := Nat.mul_le_mul_left P (by omega)
      omega
    rw [e3, Nat.add_mul_div_left _ _ hP]
    generalize (a - x + (P - 1)) / P = w
    congr 1
    omega
  · have e2 : a - (x + P * d) + (P * 10 - 1) = P * 10 - 1 := by omega
    rw [e2]
    have hw : (a - x + (P - 1)) / P < d + 1 := by
      apply Nat.div_lt_of_lt_mul
      have : P * (d + 1) = P * d + P := Nat.mul_succ P d
      omega
    have h10 : (P * 10 - 1) / P < 10 := Nat.div_lt_of_lt_mul (by omega)
    generalize (a - x + (P - 1)) / P = w at hw ⊢
    generalize (P * 10 - 1) / P = y at h10 ⊢
    omega
theorem sub_dig (N a i : Nat) (h : a ≤ N) (ha : a < 100) : (N / 10 ^ i % 10 + 100 - sub_w N a i) % 10 = (N - a) / 10 ^ i % 10 := by
  have hP := ten_pos i
  have hwa := sub_w_le N a i
  have key : (N - a) / 10 ^ i = N / 10 ^ i - sub_w N a i ∧ sub_w N a i ≤ N / 10 ^ i := by
    unfold sub_w
    generalize 10 ^ i = P at hP ⊢
    have hN := Nat.mod_add_div N P
    have hx := Nat.mod_lt N hP
    generalize N % P = x at hN hx ⊢
    generalize N / P = Q at hN ⊢
    have hw1 := Nat.div_mul_le_self (a - x + (P - 1)) P
    have hw2 := Nat.lt_mul_div_succ (a - x + (P - 1)) hP
    generalize (a - x + (P - 1)) / P = w at hw1 hw2 ⊢
    rw [Nat.mul_comm] at hw1
    have hwQ : w ≤ Q := by
      have : P * w < P * (Q + 1) := by
        have : P * (Q + 1) = P * Q + P := Nat.mul_succ P Q
        omega
      have := Nat.lt_of_mul_lt_mul_left this
      omega
    have h0 : a ≤ x → P * w = 0 := fun hax => by
      have h5 : P * w < P * 1 := by omega
      have h6 := Nat.lt_of_mul_lt_mul_left h5
      have h7 : w = 0 := by omega
      rw [h7]; rfl
    have h0' : a ≤ x ∨ x < a := (Nat.lt_or_ge x a).elim Or.inr Or.inl
    have hm : P * (Q - w) = P * Q - P * w := Nat.mul_sub P Q w
    have hpw : P * w ≤ P * Q := Nat.mul_le_mul_left P hwQ
    have hs : P * (w + 1) = P * w + P := Nat.mul_succ P w
    refine ⟨Nat.div_eq_of_lt_le ?_ ?_, hwQ⟩
    · show (Q - w) * P ≤ N - a
      rw [Nat.mul_comm (Q - w) P]
      omega
    · have : P * (Q - w + 1) = P * (Q - w) + P := Nat.mul_succ P (Q - w)
      show N - a < (Q - w + 1) * P
      rw [Nat.mul_comm (Q - w + 1) P, this]
      rcases h0' with q | q
      · have := h0 q; omega
      · omega
  rw [key.1]
  have := key.2
  omega
theorem sub_end (N a n : Nat) (hN : N < 10 ^ n) (ha : a ≤ 10 ^ n) : (sub_w N a n = 0 ↔ a ≤ N) ∧ sub_w N a n ≤ 1 := by
  unfold sub_w
  rw [Nat.mod_eq_of_lt hN]
  have hP := ten_pos n
  generalize 10 ^ n = P at hN hP ha ⊢
  refine ⟨⟨fun h => ?_, fun h => ?_⟩, ?_⟩
  · rcases Nat.lt_or_ge (a - N + (P - 1)) P with q | q
    · omega
    · have := Nat.div_pos q hP
      omega
  · exact Nat.div_eq_of_lt (by omega)
  · have : (a - N + (P - 1)) / P < 2 := Nat.div_lt_of_lt_mul (by omega)
    omega
theorem lb_fm10 : ∀ d, d < 10 → ∀ w, w < 100 → fmodJ (nI d - nI w) 10 = nI ((d + 100 - w) % 10) ∧ -(fdivJ (nI d - nI w) 10) = nI ((w + 9 - d) / 10) := by decide +kernel
def bigN (d m o : Nat) : Nat := d ^ (m + 1) - (d - 1) * o
theorem big_lt {d k : Nat} (hd : d ≤ 12) (hk : k ≤ 31) : d ^ k < 10 ^ 40 :=
  Nat.lt_of_le_of_lt (Nat.pow_le_pow_left hd k) (Nat.lt_of_le_of_lt (Nat.pow_le_pow_right (by decide) hk) (by decide))
theorem digs_high {N i n : Nat} (h : N < 10 ^ n) (hi : n ≤ i) : N / 10 ^ i % 10 = 0 := by
  rw [Nat.div_eq_of_lt (Nat.lt_of_lt_of_le h (Nat.pow_le_pow_right (by decide) hi))]
-- how many digits, and what it leaves
def topd (e : Nat → Nat) : Nat → Nat
  | 0 => 1
  | n + 1 => if e n = 0 then topd e n else n + 1
theorem topd_ge (e : Nat → Nat) : ∀ n, 1 ≤ topd e n
  | 0 => Nat.le_refl 1
  | n + 1 => by
    unfold topd
    split
    · exact topd_ge e n
    · omega
theorem topd_le (e : Nat → Nat) : ∀ n, topd e n ≤ n + 1
  | 0 => Nat.le_refl 1
  | n + 1 => by
    unfold topd
    split
    · have := topd_le e n; omega
    · omega
def hrn (e : Nat → Nat) (q : Nat) : Nat → Nat → Nat
  | 0, r => r
  | n + 1, r => hrn e q n ((r * 10 + e n) % q)
