-- the reference: rows of unlike men, told by numbers
def dgs (men code : Nat) : Nat → List Nat
  | 0 => []
  | n + 1 => (code / men ^ n % men) :: dgs men code n
theorem dgs_len {men code : Nat} : ∀ n, (dgs men code n).length = n
  | 0 => rfl
  | n + 1 => by
    show (dgs men code n).length + 1 = n + 1
    rw [dgs_len n]
theorem dgs_lt {men code : Nat} (hm : 0 < men) : ∀ (n : Nat) (x : Nat), x ∈ dgs men code n → x < men
  | 0, x, h => absurd h List.not_mem_nil
  | n + 1, x, h => by
    rcases List.mem_cons.mp h with rfl | h
    · exact Nat.mod_lt _ hm
    · exact dgs_lt hm n x h
theorem dgs_up {men i c m : Nat} (hm : 0 < men) : ∀ {n : Nat}, n ≤ m → dgs men (i * men ^ m + c) n = dgs men c n
  | 0, _ => rfl
  | n + 1, h => by
    show (_ :: dgs men (i * men ^ m + c) n) = (_ :: dgs men c n)
    rw [dgs_up hm (n := n) (by omega)]
    obtain ⟨k, rfl⟩ : ∃ k, m = n + 1 + k := ⟨m - (n + 1), by omega⟩
    have e : i * men ^ (n + 1 + k) + c = c + men ^ n * (men * (i * men ^ k)) := by
      rw [Nat.pow_add, Nat.pow_succ, Nat.add_comm, Nat.mul_assoc, Nat.mul_left_comm i, Nat.mul_left_comm i]
    rw [e, Nat.add_mul_div_left _ _ (Nat.pow_pos hm), Nat.add_mul_mod_self_left]
theorem dgs_s {men i c m : Nat} (hi : i < men) (hc : c < men ^ m) : dgs men (i * men ^ m + c) (m + 1) = i :: dgs men c m := by
  have hm : 0 < men := by omega
  show ((i * men ^ m + c) / men ^ m % men :: dgs men (i * men ^ m + c) m) = _
  rw [dgs_up hm (Nat.le_refl m), Nat.add_comm, Nat.mul_comm, Nat.add_mul_div_left _ _ (Nat.pow_pos hm), Nat.div_eq_of_lt hc, Nat.zero_add, Nat.mod_eq_of_lt hi]
theorem dgs_nd {men code n : Nat} : ∀ {k : Nat}, n ≤ k → (dgs men code k).Nodup → (dgs men code n).Nodup
  | 0, h, q => by
    have e : n = 0 := by omega
    rw [e]
    exact q
  | k + 1, h, q => by
    by_cases z : n = k + 1
    · rw [z]; exact q
    · exact dgs_nd (k := k) (by omega) (List.nodup_cons.mp (show ((code / men ^ k % men) :: dgs men code k).Nodup from q)).2
theorem pw6 {men n : Nat} (h : men ≤ 6) (hn : n ≤ 6) : men ^ n ≤ 46656 := Nat.le_trans (Nat.pow_le_pow_left h n) (Nat.le_trans (Nat.pow_le_pow_right (show 0 < 6 by decide) hn) (by decide))
theorem bitA_ : ∀ a : Fin 64, ∀ i : Fin 6, a.val / 2 ^ i.val % 2 = 0 → ∀ j : Fin 6, ((a.val + 2 ^ i.val) / 2 ^ j.val % 2 = 0 ↔ ¬ j.val = i.val ∧ a.val / 2 ^ j.val % 2 = 0) := by decide +kernel
theorem bitA {a i j : Nat} (ha : a < 64) (hi : i < 6) (hj : j < 6) (z : a / 2 ^ i % 2 = 0) : (a + 2 ^ i) / 2 ^ j % 2 = 0 ↔ ¬ j = i ∧ a / 2 ^ j % 2 = 0 := bitA_ ⟨a, ha⟩ ⟨i, hi⟩ z ⟨j, hj⟩
def mkM : List Nat → Nat
  | [] => 0
  | i :: r => mkM r + 2 ^ i
theorem mkM_ok : ∀ {r : List Nat}, r.Nodup → (∀ x, x ∈ r → x < 6) → mkM r < 64 ∧ ∀ d, d < 6 → (mkM r / 2 ^ d % 2 = 0 ↔ d ∉ r)
  | [], _, _ => ⟨by decide, fun d _ => ⟨fun _ => List.not_mem_nil, fun _ => by show 0 / 2 ^ d % 2 = 0; rw [Nat.zero_div]⟩⟩
  | i :: r, hn, hx => by
    have h1 := List.nodup_cons.mp hn
    have hi := hx i List.mem_cons_self
    obtain ⟨h2, h3⟩ := mkM_ok h1.2 (fun x h => hx x (List.mem_cons_of_mem _ h))
    have z := (h3 i hi).mpr h1.1
    refine ⟨bitL h2 hi z, fun d hd => ?_⟩
    show (mkM r + 2 ^ i) / 2 ^ d % 2 = 0 ↔ _
    rw [bitA h2 hi hd z, h3 d hd]
    exact ⟨fun q y => (List.mem_cons.mp y).elim q.1 q.2, fun q => ⟨fun y => q (by rw [y]; exact List.mem_cons_self), fun y => q (List.mem_cons_of_mem _ y)⟩⟩
noncomputable def selN (g : List Nat → Prop) (men m : Nat) : Nat → List (List Nat)
  | 0 => []
  | n + 1 => selN g men m n ++ iteP (g (dgs men n m)) [dgs men n m] []
theorem sel_t {g : List Nat → Prop} {men m n : Nat} (h : g (dgs men n m)) : selN g men m (n + 1) = selN g men m n ++ [dgs men n m] := by
  show selN g men m n ++ iteP _ _ _ = _
  rw [iteP_t h]
theorem sel_f {g : List Nat → Prop} {men m n : Nat} (h : ¬ g (dgs men n m)) : selN g men m (n + 1) = selN g men m n := by
  show selN g men m n ++ iteP _ _ _ = _
  rw [iteP_f h, List.append_nil]
theorem sel_cg {g g2 : List Nat → Prop} {men m : Nat} (hm : 0 < men) (h : ∀ r, (∀ x, x ∈ r → x < men) → (g r ↔ g2 r)) : ∀ n, selN g men m n = selN g2 men m n
  | 0 => rfl
  | n + 1 => by
    show selN g men m n ++ iteP (g _) _ _ = selN g2 men m n ++ iteP (g2 _) _ _
    rw [sel_cg hm h n, propext (h (dgs men n m) (fun x hx => dgs_lt hm m x hx))]
theorem sel_len {g : List Nat → Prop} {men m : Nat} : ∀ n, (selN g men m n).length ≤ n
  | 0 => Nat.le_refl 0
  | n + 1 => by
    have := sel_len (g := g) (men := men) (m := m) n
    by_cases z : g (dgs men n m)
    · rw [sel_t z, List.length_append]; show _ + 1 ≤ _; omega
    · rw [sel_f z]; omega
def okK (E : Nat → Nat → Nat → Option (Nat × Nat × Nat)) (dw : Nat) : List Nat → Nat → Nat → Nat → Prop
  | [], h, _, _ => h = dw
  | i :: r, h, s, a => a / 2 ^ i % 2 = 0 ∧ ∃ x, E i s h = some x ∧ okK E dw r x.1 (s + 1) (a + 2 ^ i)
def ledK (E : Nat → Nat → Nat → Option (Nat × Nat × Nat)) (dw : Nat) : List Nat → Nat → Nat → Prop
  | [], h, _ => h = dw
  | i :: r, h, s => ∃ x, E i s h = some x ∧ ledK E dw r x.1 (s + 1)
theorem okK_iff {E : Nat → Nat → Nat → Option (Nat × Nat × Nat)} {dw : Nat} : ∀ (r : List Nat) (h s a : Nat), a < 64 → (∀ x, x ∈ r → x < 6) → (okK E dw r h s a ↔ (∀ x, x ∈ r → a / 2 ^ x % 2 = 0) ∧ r.Nodup ∧ ledK E dw r h s)
  | [], h, s, a, _, _ => ⟨fun q => ⟨fun x hx => absurd hx List.not_mem_nil, List.nodup_nil, q⟩, fun q => q.2.2⟩
  | i :: r, h, s, a, ha, hx => by
    have hi := hx i List.mem_cons_self
    have hr : ∀ x, x ∈ r → x < 6 := fun x hx2 => hx x (List.mem_cons_of_mem _ hx2)
    show (a / 2 ^ i % 2 = 0 ∧ ∃ x, E i s h = some x ∧ okK E dw r x.1 (s + 1) (a + 2 ^ i)) ↔ _ ∧ _ ∧ ∃ x, E i s h = some x ∧ ledK E dw r x.1 (s + 1)
    constructor
    · rintro ⟨z, x, e, q⟩
      obtain ⟨q1, q2, q3⟩ := (okK_iff r x.1 (s + 1) (a + 2 ^ i) (bitL ha hi z) hr).mp q
      refine ⟨fun y hy => ?_, List.nodup_cons.mpr ⟨fun hy => ((bitA ha hi hi z).mp (q1 i hy)).1 rfl, q2⟩, x, e, q3⟩
      rcases List.mem_cons.mp hy with rfl | hy
      · exact z
      · exact ((bitA ha hi (hr y hy) z).mp (q1 y hy)).2
    · rintro ⟨q1, q2, x, e, q3⟩
      have z := q1 i List.mem_cons_self
      have q4 := List.nodup_cons.mp q2
      refine ⟨z, x, e, (okK_iff r x.1 (s + 1) (a + 2 ^ i) (bitL ha hi z) hr).mpr ⟨fun y hy => (bitA ha hi (hr y hy) z).mpr ⟨fun w => q4.1 (by rw [← w]; exact hy), q1 y (List.mem_cons_of_mem _ hy)⟩, q4.2, q3⟩⟩
def dpt (E : Nat → Nat → Nat → Option (Nat × Nat × Nat)) (men dw : Nat) : Nat → Nat → Nat → Nat → List (List Nat)
  | 0, h, _, _ => if h = dw then [[]] else []
  | m + 1, h, s, a => catN (fun i => if a / 2 ^ i % 2 = 0 then (match E i s h with | none => [] | some x => (dpt E men dw m x.1 (s + 1) (a + 2 ^ i)).map (fun zr => i :: zr)) else []) men
noncomputable def segN (E : Nat → Nat → Nat → Option (Nat × Nat × Nat)) (men dw m h s a i b : Nat) : List (List Nat) := if a / 2 ^ i % 2 = 0 then (match E i s h with | none => [] | some x => (selN (fun r => okK E dw r x.1 (s + 1) (a + 2 ^ i)) men m b).map (fun zr => i :: zr)) else []
theorem seg_0 {E : Nat → Nat → Nat → Option (Nat × Nat × Nat)} {men dw m h s a i : Nat} : segN E men dw m h s a i 0 = [] := by
  unfold segN
  by_cases z : a / 2 ^ i % 2 = 0
  · rw [if_pos z]
    cases E i s h <;> rfl
  · rw [if_neg z]
theorem seg_s {E : Nat → Nat → Nat → Option (Nat × Nat × Nat)} {men dw m h s a i b : Nat} : segN E men dw m h s a i b ++ iteP (okK E dw (i :: dgs men b m) h s a) [i :: dgs men b m] [] = segN E men dw m h s a i (b + 1) := by
  unfold segN
  by_cases z : a / 2 ^ i % 2 = 0
  · rw [if_pos z, if_pos z]
    cases e : E i s h with
    | none =>
      rw [iteP_f (fun q => by obtain ⟨_, x, e2, _⟩ := q; rw [e] at e2; cases e2)]
      rfl
    | some x =>
      show List.map _ _ ++ _ = List.map _ _
      by_cases y : okK E dw (dgs men b m) x.1 (s + 1) (a + 2 ^ i)
      · rw [sel_t (g := fun r => okK E dw r x.1 (s + 1) (a + 2 ^ i)) y, List.map_append, iteP_t (show okK E dw (i :: dgs men b m) h s a from ⟨z, x, e, y⟩)]
        rfl
      · rw [sel_f (g := fun r => okK E dw r x.1 (s + 1) (a + 2 ^ i)) y, iteP_f (fun q => by
          obtain ⟨_, x2, e2, q2⟩ := q
          rw [e] at e2
          cases e2
          exact y q2), List.append_nil]
  · rw [if_neg z, if_neg z, iteP_f (fun q => z q.1)]
    rfl
theorem sel_seg {E : Nat → Nat → Nat → Option (Nat × Nat × Nat)} {men dw m h s a i : Nat} (hi : i < men) : ∀ b, b ≤ men ^ m → selN (fun r => okK E dw r h s a) men (m + 1) (i * men ^ m + b) = selN (fun r => okK E dw r h s a) men (m + 1) (i * men ^ m) ++ segN E men dw m h s a i b
  | 0, _ => by rw [seg_0, List.append_nil]; rfl
  | b + 1, hb => by
    show selN _ men (m + 1) (i * men ^ m + b) ++ iteP (okK E dw (dgs men (i * men ^ m + b) (m + 1)) h s a) [dgs men (i * men ^ m + b) (m + 1)] [] = _
    rw [dgs_s hi (by omega), sel_seg hi b (by omega), List.append_assoc, seg_s]
theorem dpt_sel {E : Nat → Nat → Nat → Option (Nat × Nat × Nat)} {men dw : Nat} : ∀ (m h s a : Nat), dpt E men dw m h s a = selN (fun r => okK E dw r h s a) men m (men ^ m)
  | 0, h, s, a => by
    show (if h = dw then [[]] else []) = [] ++ iteP (okK E dw [] h s a) [[]] []
    by_cases z : h = dw
    · rw [if_pos z, iteP_t (show okK E dw [] h s a from z)]; rfl
    · rw [if_neg z, iteP_f (show ¬ okK E dw [] h s a from z)]; rfl
  | m + 1, h, s, a => by
    have key : ∀ i, i ≤ men → catN (fun i => if a / 2 ^ i % 2 = 0 then (match E i s h with | none => [] | some x => (dpt E men dw m x.1 (s + 1) (a + 2 ^ i)).map (fun zr => i :: zr)) else []) i = selN (fun r => okK E dw r h s a) men (m + 1) (i * men ^ m) := by
      intro i
      induction i with
      | zero => intro _; rw [Nat.zero_mul]; rfl
      | succ i ih =>
        intro hi
        show catN _ i ++ _ = _
        rw [ih (by omega), Nat.succ_mul, sel_seg (by omega) _ (Nat.le_refl _)]
        refine congrArg _ ?_
        unfold segN
        by_cases z : a / 2 ^ i % 2 = 0
        · skip
          show (if a / 2 ^ i % 2 = 0 then (match E i s h with | none => [] | some x => (dpt E men dw m x.1 (s + 1) (a + 2 ^ i)).map (fun zr => i :: zr)) else []) = _
          rw [if_pos z, if_pos z]
          cases E i s h with
          | none => rfl
          | some x =>
            show List.map _ (dpt E men dw m x.1 (s + 1) (a + 2 ^ i)) = List.map _ _
            rw [dpt_sel m]
        · skip
          show (if a / 2 ^ i % 2 = 0 then (match E i s h with | none => [] | some x => (dpt E men dw m x.1 (s + 1) (a + 2 ^ i)).map (fun zr => i :: zr)) else []) = _
          rw [if_neg z, if_neg z]
    rw [Nat.pow_succ, Nat.mul_comm]
    exact key men (Nat.le_refl _)
theorem cat_flt {f : Nat → List (List Nat)} {p : List Nat → Bool} : ∀ {n : Nat}, (catN f n).filter p = catN (fun i => (f i).filter p) n
  | 0 => rfl
  | n + 1 => by
    show (catN f n ++ f n).filter p = catN _ n ++ (f n).filter p
    rw [List.filter_append, cat_flt]
theorem cat_nil {f : Nat → List (List Nat)} : ∀ {n : Nat}, (∀ i, f i = []) → catN f n = []
  | 0, _ => rfl
  | n + 1, h => by
    show catN f n ++ f n = []
    rw [cat_nil h, h n]
    rfl
theorem cat_mem {f : Nat → List (List Nat)} {r : List Nat} : ∀ {n : Nat}, r ∈ catN f n → ∃ i, r ∈ f i
  | 0, h => absurd h List.not_mem_nil
  | n + 1, h => by
    rcases List.mem_append.mp (show r ∈ catN f n ++ f n from h) with h | h
    · exact cat_mem h
    · exact ⟨n, h⟩
theorem fl_map0 {i : Nat} {l : List (List Nat)} : (l.map (fun zr => i :: zr)).filter (fun r => r.length == 0) = [] := by
  rw [List.filter_eq_nil_iff]
  intro r hr
  obtain ⟨q, _, rfl⟩ := List.mem_map.mp hr
  simp
theorem fl_maps {i m : Nat} {l : List (List Nat)} : (l.map (fun zr => i :: zr)).filter (fun r => r.length == m + 1) = (l.filter (fun r => r.length == m)).map (fun zr => i :: zr) := by
  rw [List.filter_map]
  refine congrArg _ (List.filter_congr (fun r _ => ?_))
  show ((i :: r).length == m + 1) = (r.length == m)
  rw [List.length_cons]
  by_cases z : r.length = m
  · rw [z]; simp
  · rw [beq_eq_false_iff_ne.mpr z, beq_eq_false_iff_ne.mpr (fun q => z (Nat.succ.inj q))]
theorem dfs_flt {E : Nat → Nat → Nat → Option (Nat × Nat × Nat)} {men dw : Nat} : ∀ (f m h s a : Nat), m ≤ f → (dfsK E men dw f h s a).filter (fun r => r.length == m) = dpt E men dw m h s a
  | 0, m, h, s, a, hm => by
    have e : m = 0 := by omega
    subst e
    show (if h = dw then [[]] else []).filter _ = (if h = dw then [[]] else [])
    by_cases z : h = dw
    · rw [if_pos z]; rfl
    · rw [if_neg z]; rfl
  | f + 1, 0, h, s, a, hm => by
    rw [dfsK, List.filter_append, cat_flt, cat_nil, List.append_nil]
    · show (if h = dw then [[]] else []).filter _ = (if h = dw then [[]] else [])
      by_cases z : h = dw
      · rw [if_pos z]; rfl
      · rw [if_neg z]; rfl
    · intro i
      split
      · cases E i s h with
        | none => rfl
        | some x => exact fl_map0
      · rfl
  | f + 1, m + 1, h, s, a, hm => by
    rw [dfsK, List.filter_append, cat_flt]
    have e0 : (if h = dw then [[]] else ([] : List (List Nat))).filter (fun r => r.length == m + 1) = [] := by
      by_cases z : h = dw
      · rw [if_pos z]; rfl
      · rw [if_neg z]; rfl
    rw [e0, List.nil_append]
    show _ = catN _ men
    refine catN_cg (fun i _ => ?_)
    by_cases z : a / 2 ^ i % 2 = 0
    · rw [if_pos z, if_pos z]
      cases E i s h with
      | none => rfl
      | some x =>
        show (List.map _ _).filter _ = List.map _ _
        rw [fl_maps, dfs_flt f m x.1 (s + 1) (a + 2 ^ i) (by omega)]
    · rw [if_neg z, if_neg z]; rfl
theorem dfs_le {E : Nat → Nat → Nat → Option (Nat × Nat × Nat)} {men dw : Nat} : ∀ (f h s a : Nat) (r : List Nat), r ∈ dfsK E men dw f h s a → r.length ≤ f
  | 0, h, s, a, r, hr => by
    have e : r ∈ (if h = dw then [[]] else ([] : List (List Nat))) := hr
    by_cases z : h = dw
    · rw [if_pos z] at e; rw [List.mem_singleton.mp e]; exact Nat.le_refl 0
    · rw [if_neg z] at e; exact absurd e List.not_mem_nil
  | f + 1, h, s, a, r, hr => by
    rw [dfsK] at hr
    rcases List.mem_append.mp hr with e | e
    · by_cases z : h = dw
      · rw [if_pos z] at e; rw [List.mem_singleton.mp e]; exact Nat.zero_le _
      · rw [if_neg z] at e; exact absurd e List.not_mem_nil
    · obtain ⟨i, hi⟩ := cat_mem e
      split at hi
      · cases e2 : E i s h with
        | none => rw [e2] at hi; exact absurd hi List.not_mem_nil
        | some x =>
          rw [e2] at hi
          obtain ⟨q, hq, rfl⟩ := List.mem_map.mp hi
          rw [List.length_cons]
          have := dfs_le f x.1 (s + 1) (a + 2 ^ i) q hq
          omega
      · exact absurd hi List.not_mem_nil
def ccL (L : List (List Nat)) : Nat → List (List Nat)
  | 0 => L.filter (fun r => r.length == 0)
  | n + 1 => ccL L n ++ L.filter (fun r => r.length == n + 1)
theorem fl_len {L : List (List Nat)} {n : Nat} {r : List Nat} (h : r ∈ L.filter (fun r => r.length == n)) : r.length = n := by
  have := (List.mem_filter.mp h).2
  simpa using this
theorem ccL_le {L : List (List Nat)} : ∀ {n : Nat} {r : List Nat}, r ∈ ccL L n → r.length ≤ n
  | 0, r, h => Nat.le_of_eq (fl_len h)
  | n + 1, r, h => by
    rcases List.mem_append.mp (show r ∈ ccL L n ++ L.filter (fun r => r.length == n + 1) from h) with h | h
    · have := ccL_le h; omega
    · exact Nat.le_of_eq (fl_len h)
theorem fl_ap {L : List (List Nat)} {r : List Nat} {n : Nat} : (L ++ [r]).filter (fun r => r.length == n) = L.filter (fun r => r.length == n) ++ (if r.length = n then [r] else []) := by
  rw [List.filter_append]
  refine congrArg _ ?_
  by_cases z : r.length = n
  · rw [if_pos z]; simp [z]
  · rw [if_neg z]; simp [z]
theorem hd_mem {l : List (List Nat)} {b : List Nat} (h : l.head? = some b) : b ∈ l := by
  cases l with
  | nil => cases h
  | cons x l => cases h; exact List.mem_cons_self
theorem hd_ap {l l2 : List (List Nat)} {b : List Nat} (h : l.head? = some b) : (l ++ l2).head? = some b := by
  cases l with
  | nil => cases h
  | cons x l => exact h
theorem hd_no {l l2 : List (List Nat)} (h : l.head? = none) : (l ++ l2).head? = l2.head? := by
  cases l with
  | nil => rfl
  | cons x l => cases h
def kS (o : Option (List Nat)) (r : List Nat) : Option (List Nat) := match o with | none => some r | some b => if b.length ≤ r.length then some b else some r
theorem ccL_ap {L : List (List Nat)} {r : List Nat} : ∀ n, (ccL (L ++ [r]) n).length = (ccL L n).length + (if r.length ≤ n then 1 else 0) ∧ (ccL (L ++ [r]) n).head? = (if r.length ≤ n then kS (ccL L n).head? r else (ccL L n).head?)
  | 0 => by
    show ((L ++ [r]).filter _).length = (L.filter _).length + _ ∧ ((L ++ [r]).filter _).head? = _
    rw [fl_ap]
    by_cases z : r.length = 0
    · rw [if_pos z, if_pos (by omega), if_pos (by omega), List.length_append]
      refine ⟨rfl, ?_⟩
      show _ = kS (L.filter _).head? r
      cases e : (L.filter (fun r => r.length == 0)).head? with
      | none => rw [hd_no e]; rfl
      | some b =>
        rw [hd_ap e]
        show _ = (if b.length ≤ r.length then some b else some r)
        rw [if_pos (by rw [fl_len (hd_mem e)]; omega)]
    · rw [if_neg z, if_neg (by omega), if_neg (by omega), List.append_nil]
      exact ⟨rfl, rfl⟩
  | n + 1 => by
    obtain ⟨h1, h2⟩ := ccL_ap (L := L) (r := r) n
    show (ccL (L ++ [r]) n ++ (L ++ [r]).filter _).length = (ccL L n ++ L.filter _).length + _ ∧ (ccL (L ++ [r]) n ++ (L ++ [r]).filter _).head? = (if _ then kS (ccL L n ++ L.filter _).head? r else (ccL L n ++ L.filter _).head?)
    rw [fl_ap, List.length_append, List.length_append, h1]
    by_cases z : r.length = n + 1
    · rw [if_pos z, if_neg (by omega), if_pos (by omega), if_pos (by omega), List.length_append]
      rw [if_neg (by omega)] at h2
      refine ⟨by show _ + 0 + (_ + 1) = _; omega, ?_⟩
      cases e : (ccL L n).head? with
      | some b =>
        rw [e] at h2
        have := ccL_le (hd_mem e)
        rw [hd_ap h2, hd_ap e]
        show _ = (if b.length ≤ r.length then some b else some r)
        rw [if_pos (by omega)]
      | none =>
        rw [e] at h2
        rw [hd_no h2, hd_no e]
        cases e2 : (L.filter (fun r => r.length == n + 1)).head? with
        | none => rw [hd_no e2]; rfl
        | some b =>
          rw [hd_ap e2]
          show _ = (if b.length ≤ r.length then some b else some r)
          rw [if_pos (by rw [fl_len (hd_mem e2)]; omega)]
    · rw [if_neg z, List.append_nil]
      by_cases y : r.length ≤ n
      · rw [if_pos y, if_pos (by omega), if_pos (by omega)]
        rw [if_pos y] at h2
        refine ⟨by rw [List.length_append]; simp only [List.length_nil]; omega, ?_⟩
        cases e : (ccL L n).head? with
        | some b =>
          rw [e] at h2
          rw [hd_ap e]
          have h3 : (ccL (L ++ [r]) n).head? = (if b.length ≤ r.length then some b else some r) := h2
          show _ = (if b.length ≤ r.length then some b else some r)
          by_cases x : b.length ≤ r.length
          · rw [if_pos x] at h3 ⊢; exact hd_ap h3
          · rw [if_neg x] at h3 ⊢; exact hd_ap h3
        | none =>
          rw [e] at h2
          rw [hd_ap (show _ = some r from h2), hd_no e]
          cases e2 : (L.filter (fun r => r.length == n + 1)).head? with
          | none => rfl
          | some b =>
            show _ = (if b.length ≤ r.length then some b else some r)
            rw [if_neg (by rw [fl_len (hd_mem e2)]; omega)]
      · rw [if_neg y, if_neg (by omega), if_neg (by omega)]
        rw [if_neg y] at h2
        refine ⟨by rw [List.length_append]; simp only [List.length_nil]; omega, ?_⟩
        cases e : (ccL L n).head? with
        | some b => rw [e] at h2; rw [hd_ap h2, hd_ap e]
        | none => rw [e] at h2; rw [hd_no h2, hd_no e]
theorem kF_cc {n : Nat} : ∀ (L P : List (List Nat)), (∀ r, r ∈ L → r.length ≤ n) → List.foldl kF ((ccL P n).length, (ccL P n).head?) L = ((ccL (P ++ L) n).length, (ccL (P ++ L) n).head?)
  | [], P, _ => by rw [List.append_nil]; rfl
  | r :: L, P, h => by
    rw [List.foldl_cons, show P ++ r :: L = (P ++ [r]) ++ L by simp]
    rw [← kF_cc L (P ++ [r]) (fun x hx => h x (List.mem_cons_of_mem _ hx))]
    obtain ⟨h1, h2⟩ := ccL_ap (L := P) (r := r) n
    have h3 := h r List.mem_cons_self
    rw [if_pos h3] at h1 h2
    rw [h1, h2]
    rfl
theorem ccL_nil : ∀ {n : Nat}, ccL [] n = []
  | 0 => rfl
  | n + 1 => by
    show ccL [] n ++ [] = []
    rw [ccL_nil]; rfl
def okM (E : Nat → Nat → Nat → Option (Nat × Nat × Nat)) (dw h : Nat) (r : List Nat) : Prop := r.Nodup ∧ ledK E dw r h 0
noncomputable def rwL (E : Nat → Nat → Nat → Option (Nat × Nat × Nat)) (men dw h : Nat) : Nat → List (List Nat)
  | 0 => if h = dw then [[]] else []
  | n + 1 => rwL E men dw h n ++ selN (okM E dw h) men (n + 1) (men ^ (n + 1))
theorem cRow_cc {E : Nat → Nat → Nat → Option (Nat × Nat × Nat)} {men dw h : Nat} (h6 : men ≤ 6) : ∀ n, n ≤ men → ccL (dfsK E men dw men h 0 0) n = rwL E men dw h n
  | 0, _ => dfs_flt men 0 h 0 0 (Nat.zero_le _)
  | n + 1, hn => by
    show ccL _ n ++ _ = rwL E men dw h n ++ _
    rw [cRow_cc h6 n (by omega), dfs_flt men (n + 1) h 0 0 hn, dpt_sel]
    refine congrArg _ (sel_cg (by omega) (fun r hr => ?_) _)
    rw [okK_iff r h 0 0 (by decide) (fun x hx => by have := hr x hx; omega)]
    exact ⟨fun q => q.2, fun q => ⟨fun x _ => by rw [Nat.zero_div], q⟩⟩
theorem up_ref {c : CS} {v : VS} {d zw : Nat} (h6 : c.men ≤ 6) : upA c v d zw = ((rwL (wakA c v) c.men zw d c.men).length, (rwL (wakA c v) c.men zw d c.men).head?) := by
  have h := kF_cc (n := c.men) (dfsK (wakA c v) c.men zw c.men d 0 0) [] (fun r hr => dfs_le _ _ _ _ r hr)
  rw [ccL_nil, List.nil_append, cRow_cc h6 _ (Nat.le_refl _)] at h
  exact h
theorem cRow_len {E : Nat → Nat → Nat → Option (Nat × Nat × Nat)} {men dw h : Nat} (h6 : men ≤ 6) : ∀ n, n ≤ men → (rwL E men dw h n).length ≤ 1 + n * 46656
  | 0, _ => by
    show (if h = dw then [[]] else ([] : List (List Nat))).length ≤ _
    by_cases z : h = dw
    · rw [if_pos z]; exact Nat.le_refl 1
    · rw [if_neg z]; exact Nat.zero_le _
  | n + 1, hn => by
    show (rwL E men dw h n ++ selN _ _ _ _).length ≤ _
    rw [List.length_append]
    have h1 := cRow_len (E := E) (dw := dw) (h := h) h6 n (by omega)
    have h2 := sel_len (g := okM E dw h) (men := men) (m := n + 1) (men ^ (n + 1))
    have h3 := pw6 (n := n + 1) h6 (by omega)
    omega
theorem getD_mm {r : List Nat} {k : Nat} (h : k < r.length) : r.getD k 0 ∈ r := by
  rw [List.getD_eq_getElem?_getD, List.getElem?_eq_getElem h]
  exact List.getElem_mem h
theorem drop_c {r : List Nat} {k : Nat} (h : k < r.length) : r.drop k = r.getD k 0 :: r.drop (k + 1) := by
  rw [List.drop_eq_getElem_cons h, List.getD_eq_getElem?_getD, List.getElem?_eq_getElem h]
  rfl
theorem led_s {E : Nat → Nat → Nat → Option (Nat × Nat × Nat)} {dw k h : Nat} {r : List Nat} (hk : k < r.length) (z : ¬ E (r.getD k 0) k h = none) : ledK E dw (r.drop k) h k ↔ ledK E dw (r.drop (k + 1)) (oL (E (r.getD k 0) k h) h) (k + 1) := by
  rw [drop_c hk]
  show (∃ x, E (r.getD k 0) k h = some x ∧ _) ↔ _
  cases e : E (r.getD k 0) k h with
  | none => exact absurd e z
  | some y => exact ⟨fun q => by obtain ⟨x, e2, q⟩ := q; cases e2; exact q, fun q => ⟨y, rfl, q⟩⟩
theorem led_n {E : Nat → Nat → Nat → Option (Nat × Nat × Nat)} {dw k h : Nat} {r : List Nat} (hk : k < r.length) (z : E (r.getD k 0) k h = none) : ¬ ledK E dw (r.drop k) h k := by
  rw [drop_c hk]
  intro q
  obtain ⟨x, e, _⟩ := q
  rw [z] at e
  cases e
theorem led_e {E : Nat → Nat → Nat → Option (Nat × Nat × Nat)} {dw k h : Nat} {r : List Nat} (hk : r.length ≤ k) : ledK E dw (r.drop k) h k ↔ h = dw := by
  rw [List.drop_eq_nil_of_le hk]
  exact Iff.rfl
theorem in15 {k : Int32} (h : (-1 : Int32) ≤ k ∧ k ≤ 5) : k = -1 ∨ isIx k 6 := by
  by_cases z : k < 0
  · obtain ⟨h1, h2⟩ := h
    refine Or.inl ?_
    rw [fa_le] at h1
    rw [fa_lt] at z
    rw [fa_eq]
    have e1 : (-1 : Int32).toInt = -1 := by decide
    have e0 : (0 : Int32).toInt = 0 := by decide
    omega
  · exact Or.inr (isIx_t' (n := 6) (m := 5) (by decide) rfl z (Int32.not_lt.mpr h.2))
theorem ln_ap {l : List (List Nat)} {r : List Nat} : (l ++ [r]).length = l.length + 1 := by rw [List.length_append]; rfl
theorem hd_1 {l : List (List Nat)} {r : List Nat} (h : ¬ l.length = 0) : (l ++ [r]).head? = l.head? := by
  cases l with
  | nil => exact absurd rfl h
  | cons x l => rfl
theorem hd_2 {l : List (List Nat)} {r : List Nat} (h : l.length = 0) : (l ++ [r]).head? = some r := by
  cases l with
  | nil => rfl
  | cons x l => cases h
set_option maxRecDepth 100000 in
set_option maxHeartbeats 4000000 in
theorem l_X10_layUp {D : G} {X : CX} {mo : Nat} {ma : Nat → Nat} {c : CS} {c2 : CS} {tk : Int32} {vc : Nat} {ln : Nat} {rn : Nat} {zs_10 : Int32} {zs_11 : Int32} {zs_20 : Int32} {zs_21 : Int32} {zs_22 : Int32} {zs_25 : Int32} {zs_26 : Int32} {zs_27 : Int32} {zs_29 : Int32} {many : Nat} {code : Nat} (O : Ok D X mX10_layUp 0 0 0) (hm0 : 0 < c.men) (hm6 : c.men ≤ 6) (hmy : many ≤ 6) (hcd : code < 100000) (T : Rt D X (fun r w => ∃ up2 : Nat → Int32, r = some (.int (b2i ((dgs c.men code many).Nodup))) ∧ w = [(mo, .inr (10, M1R ma (mZ c c2 tk vc ln rn zs_10 zs_11 zs_20 zs_21 zs_22 zs_25 zs_26 zs_27 zs_29))), ((ma 32), eI D 6 up2)] ∧ ((dgs c.men code many).Nodup → ∀ j, j < many → up2 j = nI ((dgs c.men code many).getD j 0))) 0 0) : ∀ (t : Nat) (u : Int32), u = nI t - 1 → ∀ (n : Nat) (up : Nat → Int32), t + n = many → (dgs c.men code n).Nodup → (∀ j, j < n → up (t + j) = nI ((dgs c.men code n).getD j 0)) → V D X 0 0 10 [(0, .ref mo), (1, .int (nI many)), (2, .int (nI code)), (3, .int (nI (code / c.men ^ n))), (4, .int (nI (mkM (dgs c.men code n)))), (5, .int u)] [] [(mo, .inr (10, M1R ma (mZ c c2 tk vc ln rn zs_10 zs_11 zs_20 zs_21 zs_22 zs_25 zs_26 zs_27 zs_29))), ((ma 32), eI D 6 up)] := by
  intro t
  induction t with
  | zero =>
    intro u hu n up htn hN hup
    have z_x : code / c.men ^ n ≤ code := Nat.div_le_self _ _
    have z_mk := mkM_ok hN (fun x hx => by have := dgs_lt hm0 n x hx; omega)
    have z_d : (code / c.men ^ n % c.men) < c.men := Nat.mod_lt _ hm0
    refine v_iload O dX10_layUp_10 5 rfl ?_
    refine v_if_lt O 73 dX10_layUp_12 (by decide) (fun z0 => ?_) (fun z0 => ?_)
    · skip
      refine v_iconst (v := 1) O dX10_layUp_73 (by decide) ?_
      exact v_ireturn O T rfl rfl (by decide) (by decide) dX10_layUp_74 (⟨up, by rw [← show n = many by omega, b2i_t hN], rfl, fun _ j hj => by
      have h9 := hup j (by omega)
      rw [Nat.zero_add] at h9
      rw [h9, show n = many by omega]⟩)
    · skip
      subst hu; exact absurd z0 (by decide)
  | succ t ih =>
    intro u hu n up htn hN hup
    have z_x : code / c.men ^ n ≤ code := Nat.div_le_self _ _
    have z_mk := mkM_ok hN (fun x hx => by have := dgs_lt hm0 n x hx; omega)
    have z_d : (code / c.men ^ n % c.men) < c.men := Nat.mod_lt _ hm0
    refine v_iload O dX10_layUp_10 5 rfl ?_
    refine v_if_lt O 73 dX10_layUp_12 (by decide) (fun z0 => ?_) (fun z0 => ?_)
    · skip
      subst hu; rw [nI_p] at z0; exact absurd z0 (nI_pos (by omega))
    · skip
      have hu : u = nI t := hu.trans (nI_p t)
      subst hu
      refine v_aload_n O dX10_layUp_15 0 rfl ?_
      refine gf_X10_108 (v := .ref (ma 32)) O rfl dX10_layUp_16 0 rfl rfl ?_
      refine v_iload O dX10_layUp_19 5 rfl ?_
      refine v_iload_n O dX10_layUp_21 3 rfl ?_
      refine v_aload_n O dX10_layUp_22 0 rfl ?_
      refine gf_X10_7 (v := .int (nI c.men)) O rfl dX10_layUp_23 0 rfl rfl ?_
      refine v_irem O dX10_layUp_26 (nI_ne0 hm0 (by omega)) ?_
      refine v_top (y := nI (code / c.men ^ n % c.men)) (pk_rem (by omega) hm0 (by omega)) ?_
      refine v_iastk (ws' := [(mo, .inr (10, M1R ma (mZ c c2 tk vc ln rn zs_10 zs_11 zs_20 zs_21 zs_22 zs_25 zs_26 zs_27 zs_29))), ((ma 32), eI D 6 (upd up t (nI (code / c.men ^ n % c.men))))]) O dX10_layUp_27 1 rfl t (rfl) (by omega) (by decide) (rfl) ?_
      refine v_iload_n O dX10_layUp_28 3 rfl ?_
      refine v_aload_n O dX10_layUp_29 0 rfl ?_
      refine gf_X10_7 (v := .int (nI c.men)) O rfl dX10_layUp_30 0 rfl rfl ?_
      refine v_idiv O dX10_layUp_33 (nI_ne0 hm0 (by omega)) ?_
      refine v_top (y := nI (code / c.men ^ (n + 1))) ((pk_div (by omega) hm0 (by omega)).trans (congrArg nI (by rw [Nat.div_div_eq_div_mul, Nat.pow_succ]))) ?_
      refine v_istore_n (lv' := [(0, .ref mo), (1, .int (nI many)), (2, .int (nI code)), (3, .int (nI (code / c.men ^ (n + 1)))), (4, .int (nI (mkM (dgs c.men code n)))), (5, .int (nI t))]) O dX10_layUp_34 (by decide) rfl ?_
      refine v_iload O dX10_layUp_35 4 rfl ?_
      refine v_aload_n O dX10_layUp_37 0 rfl ?_
      refine gf_X10_108 (v := .ref (ma 32)) O rfl dX10_layUp_38 0 rfl rfl ?_
      refine v_iload O dX10_layUp_41 5 rfl ?_
      refine v_ialdk O dX10_layUp_43 1 rfl t rfl (by omega) (by decide) ?_
      refine v_top (y := nI (code / c.men ^ n % c.men)) (pk_us) ?_
      refine v_ishr O dX10_layUp_44 ?_
      refine v_iconst (v := 1) O dX10_layUp_45 (by decide) ?_
      refine v_iand O dX10_layUp_46 ?_
      refine v_top (y := nI (mkM (dgs c.men code n) / 2 ^ (code / c.men ^ n % c.men) % 2)) (bitS z_mk.1 (by omega)) ?_
      refine v_iconst (v := 1) O dX10_layUp_47 (by decide) ?_
      refine v_icmp_ne O 53 dX10_layUp_48 (by decide) (fun z1 => ?_) (fun z1 => ?_)
      · skip
        have z1 := (not_congr (c_eq (x := nI (mkM (dgs c.men code n) / 2 ^ (code / c.men ^ n % c.men) % 2)) (y := 1) (a := (mkM (dgs c.men code n) / 2 ^ (code / c.men ^ n % c.men) % 2)) (b := 1) rfl rfl (by omega) (by omega))).mp z1
        have z1 : mkM (dgs c.men code n) / 2 ^ (code / c.men ^ n % c.men) % 2 = 0 := by omega
        refine v_iload O dX10_layUp_53 4 rfl ?_
        refine v_iconst (v := 1) O dX10_layUp_55 (by decide) ?_
        refine v_aload_n O dX10_layUp_56 0 rfl ?_
        refine gf_X10_108 (v := .ref (ma 32)) O rfl dX10_layUp_57 0 rfl rfl ?_
        refine v_iload O dX10_layUp_60 5 rfl ?_
        refine v_ialdk O dX10_layUp_62 1 rfl t rfl (by omega) (by decide) ?_
        refine v_top (y := nI (code / c.men ^ n % c.men)) (pk_us) ?_
        refine v_ishl O dX10_layUp_63 ?_
        refine v_ior O dX10_layUp_64 ?_
        refine v_top (y := nI (mkM (dgs c.men code (n + 1)))) (bitO z_mk.1 (by omega) z1) ?_
        refine v_istore (lv' := [(0, .ref mo), (1, .int (nI many)), (2, .int (nI code)), (3, .int (nI (code / c.men ^ (n + 1)))), (4, .int (nI (mkM (dgs c.men code (n + 1))))), (5, .int (nI t))]) O dX10_layUp_65 (by decide) rfl ?_
        refine v_iinc (v := (nI t) + (-1)) (lv' := [(0, .ref mo), (1, .int (nI many)), (2, .int (nI code)), (3, .int (nI (code / c.men ^ (n + 1)))), (4, .int (nI (mkM (dgs c.men code (n + 1))))), (5, .int ((nI t) + (-1)))]) O dX10_layUp_67 5 rfl (rfl) (by decide) rfl ?_
        refine v_goto O 10 dX10_layUp_70 (by decide) ?_
        exact ih _ (by rw [Int32.sub_eq_add_neg]) (n + 1) _ (by omega) (List.nodup_cons.mpr ⟨(z_mk.2 (code / c.men ^ n % c.men) (by omega)).mp z1, hN⟩) (fun j hj => by
          cases j with
          | zero => rw [Nat.add_zero, pk_us]; rfl
          | succ j =>
            rw [pk_un (by omega)]
            have h9 := hup j (by omega)
            rw [show t + (j + 1) = t + 1 + j by omega]
            exact h9)
      · skip
        have z1 := (c_eq (x := nI (mkM (dgs c.men code n) / 2 ^ (code / c.men ^ n % c.men) % 2)) (y := 1) (a := (mkM (dgs c.men code n) / 2 ^ (code / c.men ^ n % c.men) % 2)) (b := 1) rfl rfl (by omega) (by omega)).mp z1
        have z9 : ¬ (dgs c.men code many).Nodup := fun q => absurd ((z_mk.2 (code / c.men ^ n % c.men) (by omega)).mpr (List.nodup_cons.mp (show ((code / c.men ^ n % c.men) :: dgs c.men code n).Nodup from dgs_nd (n := n + 1) (by omega) q)).1) (by rw [z1]; decide)
        refine v_iconst (v := 0) O dX10_layUp_51 (by decide) ?_
        exact v_ireturn O T rfl rfl (by decide) (by decide) dX10_layUp_52 (⟨_, by rw [b2i_f z9], rfl, fun q => absurd q z9⟩)
set_option maxRecDepth 100000 in
set_option maxHeartbeats 4000000 in
theorem sp_X10_layUp {D : G} {mo : Nat} {ma : Nat → Nat} {c : CS} {c2 : CS} {tk : Int32} {vc : Nat} {ln : Nat} {rn : Nat} {zs_10 : Int32} {zs_11 : Int32} {zs_20 : Int32} {zs_21 : Int32} {zs_22 : Int32} {zs_25 : Int32} {zs_26 : Int32} {zs_27 : Int32} {zs_29 : Int32} {up : Nat → Int32} {many : Nat} {code : Nat} (hm0 : 0 < c.men) (hm6 : c.men ≤ 6) (hmy : many ≤ 6) (hcd : code < 100000) : Sp D mX10_layUp 0 0 0 [.ref mo, .int (nI many), .int (nI code)] [(mo, .inr (10, M1R ma (mZ c c2 tk vc ln rn zs_10 zs_11 zs_20 zs_21 zs_22 zs_25 zs_26 zs_27 zs_29))), ((ma 32), eI D 6 up)] (fun r w => ∃ up2 : Nat → Int32, r = some (.int (b2i ((dgs c.men code many).Nodup))) ∧ w = [(mo, .inr (10, M1R ma (mZ c c2 tk vc ln rn zs_10 zs_11 zs_20 zs_21 zs_22 zs_25 zs_26 zs_27 zs_29))), ((ma 32), eI D 6 up2)] ∧ ((dgs c.men code many).Nodup → ∀ j, j < many → up2 j = nI ((dgs c.men code many).getD j 0))) := by
  refine Sp.of (by decide) (Nat.le_of_ble_eq_true rfl) (fun X O T => ?_)
  refine v_eq (lv' := [(0, .ref mo), (1, .int (nI many)), (2, .int (nI code))]) rfl rfl rfl rfl ?_
  refine v_iload_n O dX10_layUp_0 2 rfl ?_
  refine v_istore_n (lv' := [(0, .ref mo), (1, .int (nI many)), (2, .int (nI code)), (3, .int (nI code))]) O dX10_layUp_1 (by decide) rfl ?_
  refine v_iconst (v := 0) O dX10_layUp_2 (by decide) ?_
  refine v_istore (lv' := [(0, .ref mo), (1, .int (nI many)), (2, .int (nI code)), (3, .int (nI code)), (4, .int 0)]) O dX10_layUp_3 (by decide) rfl ?_
  refine v_iload_n O dX10_layUp_5 1 rfl ?_
  refine v_iconst (v := 1) O dX10_layUp_6 (by decide) ?_
  refine v_isub O dX10_layUp_7 ?_
  refine v_istore (lv' := [(0, .ref mo), (1, .int (nI many)), (2, .int (nI code)), (3, .int (nI code)), (4, .int 0), (5, .int ((nI many) - 1))]) O dX10_layUp_8 (by decide) rfl ?_
  refine v_eq (lv' := [(0, .ref mo), (1, .int (nI many)), (2, .int (nI code)), (3, .int (nI (code / c.men ^ 0))), (4, .int (nI (mkM (dgs c.men code 0)))), (5, .int (nI many - 1))]) rfl (by rw [Nat.pow_zero, Nat.div_one]; rfl) rfl rfl ?_
  exact l_X10_layUp O hm0 hm6 hmy hcd T many _ rfl 0 up (by omega) List.nodup_nil (fun j hj => absurd hj (Nat.not_lt_zero j))
set_option maxRecDepth 100000 in
set_option maxHeartbeats 4000000 in
theorem l_X10_leadsTo {D : G} {X : CX} {mo : Nat} {ma : Nat → Nat} {c : CS} {c2 : CS} {tk : Int32} {vc : Nat} {ln : Nat} {rn : Nat} {zs_10 : Int32} {zs_11 : Int32} {zs_20 : Int32} {zs_21 : Int32} {zs_22 : Int32} {zs_29 : Int32} {wd : Nat → Int32} {nu : Nat → Int32} {fr : Nat → Int32} {tt9 : Nat → Int32} {sf : Nat → Int32} {cls : Nat → Int32} {up : Nat → Int32} {bg : Nat} {bn : Nat} {v : VS} {many : Nat} {d : Nat} {zw : Nat} {R : List Nat} (O : Ok D X mX10_leadsTo 7 0 0) (hB9 : hB c.held cls bg bn) (hM : MR wd nu fr tt9 sf bg bn v) (hC : cOk c) (hva : vAsk v) (hmy : many ≤ 6) (hdu : d < 1000000) (hzw : zw < 1000000) (hR : R.length = many) (hR6 : ∀ x, x ∈ R → x < 6) (hup : ∀ j, j < many → up j = nI (R.getD j 0)) (T : Rt D X (fun r w => ∃ zs2_25 : Int32, ∃ zs2_26 : Int32, ∃ zs2_27 : Int32, ∃ pf2 : Nat → Int32, r = some (.int (b2i (ledK (wakA c v) zw R d 0))) ∧ w = [(mo, .inr (10, M1R ma (mZ c c2 tk vc ln rn zs_10 zs_11 zs_20 zs_21 zs_22 zs2_25 zs2_26 zs2_27 zs_29))), ((ma 4), eI D 6 (nF c.kk)), ((ma 5), eI D 6 (nF c.vv)), ((ma 13), eI D 6 cls), ((ma 14), eI D 60 wd), ((ma 15), eI D 60 nu), ((ma 16), eI D 60 fr), ((ma 17), eI D 60 tt9), ((ma 18), eI D 600 sf), ((ma 24), eZ D 100 pf2), ((ma 32), eI D 6 up)]) 0 0) : ∀ (t k : Nat), k + t = many → ∀ (h : Nat) (y26 y27 : Int32) (pf : Nat → Int32), h < 1000000 → (ledK (wakA c v) zw R d 0 ↔ ledK (wakA c v) zw (R.drop k) h k) → V D X 0 0 8 [(0, .ref mo), (1, .int (nI many)), (2, .int (nI d)), (3, .int (nI zw)), (4, .int (nI k))] [] [(mo, .inr (10, M1R ma (mZ c c2 tk vc ln rn zs_10 zs_11 zs_20 zs_21 zs_22 (nI h) y26 y27 zs_29))), ((ma 4), eI D 6 (nF c.kk)), ((ma 5), eI D 6 (nF c.vv)), ((ma 13), eI D 6 cls), ((ma 14), eI D 60 wd), ((ma 15), eI D 60 nu), ((ma 16), eI D 60 fr), ((ma 17), eI D 60 tt9), ((ma 18), eI D 600 sf), ((ma 24), eZ D 100 pf), ((ma 32), eI D 6 up)] := by
  intro t
  induction t with
  | zero =>
    intro k hk h y26 y27 pf hh hF
    have z_m := hC.1
    have z_hp := hC.2.2.2.1
    have z_wk := hC.2.2.2.2.1
    refine v_iload O dX10_leadsTo_8 4 rfl ?_
    refine v_iload_n O dX10_leadsTo_10 1 rfl ?_
    refine v_icmp_ge O 43 dX10_leadsTo_11 (by decide) (fun z1 => ?_) (fun z1 => ?_)
    · skip
      have z1 := (c_le' (x := nI k) (y := nI many) (a := k) (b := many) rfl rfl (by omega) (by omega)).mp z1
      refine v_aload_n O dX10_leadsTo_43 0 rfl ?_
      refine gf_X10_87 (v := .int (nI h)) O rfl dX10_leadsTo_44 0 rfl rfl ?_
      refine v_iload_n O dX10_leadsTo_47 3 rfl ?_
      refine v_icmp_ne O 55 dX10_leadsTo_48 (by decide) (fun z4 => ?_) (fun z4 => ?_)
      · skip
        have z4 := (not_congr (c_eq (x := nI h) (y := nI zw) (a := h) (b := zw) rfl rfl (by omega) (by omega))).mp z4
        refine v_iconst (v := 0) O dX10_leadsTo_55 (by decide) ?_
        exact v_ireturn O T rfl rfl (by decide) (by decide) dX10_leadsTo_56 (⟨nI h, y26, y27, _, by rw [b2i_f (fun q => z4 ((led_e (by omega)).mp (hF.mp q)))], rfl⟩)
      · skip
        have z4 := (c_eq (x := nI h) (y := nI zw) (a := h) (b := zw) rfl rfl (by omega) (by omega)).mp z4
        refine v_iconst (v := 1) O dX10_leadsTo_51 (by decide) ?_
        refine v_goto O 56 dX10_leadsTo_52 (by decide) ?_
        exact v_ireturn O T rfl rfl (by decide) (by decide) dX10_leadsTo_56 (⟨nI h, y26, y27, _, by rw [b2i_t (hF.mpr ((led_e (by omega)).mpr z4))], rfl⟩)
    · skip
      have z1 := (not_congr (c_le' (x := nI k) (y := nI many) (a := k) (b := many) rfl rfl (by omega) (by omega))).mp z1
      exact absurd z1 (by omega)
  | succ t ih =>
    intro k hk h y26 y27 pf hh hF
    have z_m := hC.1
    have z_hp := hC.2.2.2.1
    have z_wk := hC.2.2.2.2.1
    refine v_iload O dX10_leadsTo_8 4 rfl ?_
    refine v_iload_n O dX10_leadsTo_10 1 rfl ?_
    refine v_icmp_ge O 43 dX10_leadsTo_11 (by decide) (fun z1 => ?_) (fun z1 => ?_)
    · skip
      have z1 := (c_le' (x := nI k) (y := nI many) (a := k) (b := many) rfl rfl (by omega) (by omega)).mp z1
      exact absurd z1 (by omega)
    · skip
      have z1 := (not_congr (c_le' (x := nI k) (y := nI many) (a := k) (b := many) rfl rfl (by omega) (by omega))).mp z1
      have z_gi := hR6 _ (getD_mm (show k < R.length by omega))
      refine v_aload_n O dX10_leadsTo_14 0 rfl ?_
      refine v_aload_n O dX10_leadsTo_15 0 rfl ?_
      refine gf_X10_108 (v := .ref (ma 32)) O rfl dX10_leadsTo_16 0 rfl rfl ?_
      refine v_iload O dX10_leadsTo_19 4 rfl ?_
      refine v_ialdk O dX10_leadsTo_21 10 rfl k rfl (by omega) (by decide) ?_
      refine v_top (y := nI (R.getD k 0)) (hup k (by omega)) ?_
      refine v_aload_n O dX10_leadsTo_22 0 rfl ?_
      refine gf_X10_19 (v := .int (nI c.wak)) O rfl dX10_leadsTo_23 0 rfl rfl ?_
      refine v_iload O dX10_leadsTo_26 4 rfl ?_
      refine v_iadd O dX10_leadsTo_28 ?_
      refine v_top (y := nI (c.wak + k)) (nI_add c.wak k) ?_
      refine v_cV (T := TX10) (ci := 10) (As := [.int (nI (R.getD k 0)), .int (nI (c.wak + k))]) (wr := [((ma 32), eI D 6 up)]) (st := []) O cf_X10_284 rfl (sp_X10_wakes (mo := mo) (ma := ma) (c := c) (c2 := c2) (tk := tk) (vc := vc) (ln := ln) (rn := rn) (zs_10 := zs_10) (zs_11 := zs_11) (zs_20 := zs_20) (zs_21 := zs_21) (zs_22 := zs_22) (zs_26 := y26) (zs_27 := y27) (zs_29 := zs_29) (wd := wd) (nu := nu) (fr := fr) (tt9 := tt9) (sf := sf) (cls := cls) (pf := pf) (bg := bg) (bn := bn) (v := v) (i := (R.getD k 0)) (s := k) (h := h) (hB9) (hM) (hC) (hva) (by omega) (by omega) (by omega)) dX10_leadsTo_29 rfl rfl 0 rfl [0, 1, 2, 3, 4, 5, 6, 7, 8, 9] [10] (by decide) rfl rfl (by decide) (by decide) (by decide) (Nat.le_of_ble_eq_true rfl) (by decide) (by decide) (fun r_2 w_3 h_1 => ?_)
      obtain ⟨pf2_4, rfl, rfl⟩ := h_1
      refine v_eq (st' := [.int (b2i (¬ wakA c v (R.getD k 0) k h = none))]) (ws' := [((ma 32), eI D 6 up), (mo, .inr (10, M1R ma (mZ c c2 tk vc ln rn zs_10 zs_11 zs_20 zs_21 zs_22 (nI (oL (wakA c v (R.getD k 0) k h) h)) (nI (oG (wakA c v (R.getD k 0) k h) 0)) (nI (oD (wakA c v (R.getD k 0) k h) 0)) zs_29))), ((ma 4), eI D 6 (nF c.kk)), ((ma 5), eI D 6 (nF c.vv)), ((ma 13), eI D 6 cls), ((ma 14), eI D 60 wd), ((ma 15), eI D 60 nu), ((ma 16), eI D 60 fr), ((ma 17), eI D 60 tt9), ((ma 18), eI D 600 sf), ((ma 24), eZ D 100 pf2_4)]) rfl rfl rfl rfl ?_
      refine v_if_ne O 37 dX10_leadsTo_32 (by decide) (fun z3 => ?_) (fun z3 => ?_)
      · skip
        have z3 := b2i_1.mp z3
        have hF2 := hF.trans (led_s (by omega) z3)
        have z_hl : oL (wakA c v (R.getD k 0) k h) h ≤ h := oL_lew (partsN_ge hva.2.2.1)
        refine v_iinc (v := nI (k + 1)) (lv' := [(0, .ref mo), (1, .int (nI many)), (2, .int (nI d)), (3, .int (nI zw)), (4, .int (nI (k + 1)))]) O dX10_leadsTo_37 4 rfl (nI_1 k) (by decide) rfl ?_
        refine v_goto O 8 dX10_leadsTo_40 (by decide) ?_
        refine v_sub (ws' := [(mo, .inr (10, M1R ma (mZ c c2 tk vc ln rn zs_10 zs_11 zs_20 zs_21 zs_22 (nI (oL (wakA c v (R.getD k 0) k h) h)) (nI (oG (wakA c v (R.getD k 0) k h) 0)) (nI (oD (wakA c v (R.getD k 0) k h) 0)) zs_29))), ((ma 4), eI D 6 (nF c.kk)), ((ma 5), eI D 6 (nF c.vv)), ((ma 13), eI D 6 cls), ((ma 14), eI D 60 wd), ((ma 15), eI D 60 nu), ((ma 16), eI D 60 fr), ((ma 17), eI D 60 tt9), ((ma 18), eI D 600 sf), ((ma 24), eZ D 100 pf2_4), ((ma 32), eI D 6 up)]) [1, 2, 3, 4, 5, 6, 7, 8, 9, 10, 0] (by decide) rfl ?_
        exact ih (k + 1) (by omega) _ _ _ _ (by omega) hF2
      · skip
        have z3 := b2i_0.mp z3
        have z3 : wakA c v (R.getD k 0) k h = none := Classical.not_not.mp z3
        refine v_iconst (v := 0) O dX10_leadsTo_35 (by decide) ?_
        refine v_sub (ws' := [(mo, .inr (10, M1R ma (mZ c c2 tk vc ln rn zs_10 zs_11 zs_20 zs_21 zs_22 (nI (oL (wakA c v (R.getD k 0) k h) h)) (nI (oG (wakA c v (R.getD k 0) k h) 0)) (nI (oD (wakA c v (R.getD k 0) k h) 0)) zs_29))), ((ma 4), eI D 6 (nF c.kk)), ((ma 5), eI D 6 (nF c.vv)), ((ma 13), eI D 6 cls), ((ma 14), eI D 60 wd), ((ma 15), eI D 60 nu), ((ma 16), eI D 60 fr), ((ma 17), eI D 60 tt9), ((ma 18), eI D 600 sf), ((ma 24), eZ D 100 pf2_4), ((ma 32), eI D 6 up)]) [1, 2, 3, 4, 5, 6, 7, 8, 9, 10, 0] (by decide) rfl ?_
        exact v_ireturn O T rfl rfl (by decide) (by decide) dX10_leadsTo_36 (⟨nI (oL (wakA c v (R.getD k 0) k h) h), nI (oG (wakA c v (R.getD k 0) k h) 0), nI (oD (wakA c v (R.getD k 0) k h) 0), _, by rw [b2i_f (fun q => led_n (by omega) z3 (hF.mp q))], rfl⟩)
set_option maxRecDepth 100000 in
set_option maxHeartbeats 4000000 in
theorem sp_X10_leadsTo {D : G} {mo : Nat} {ma : Nat → Nat} {c : CS} {c2 : CS} {tk : Int32} {vc : Nat} {ln : Nat} {rn : Nat} {zs_10 : Int32} {zs_11 : Int32} {zs_20 : Int32} {zs_21 : Int32} {zs_22 : Int32} {zs_25 : Int32} {zs_26 : Int32} {zs_27 : Int32} {zs_29 : Int32} {wd : Nat → Int32} {nu : Nat → Int32} {fr : Nat → Int32} {tt9 : Nat → Int32} {sf : Nat → Int32} {cls : Nat → Int32} {pf : Nat → Int32} {up : Nat → Int32} {bg : Nat} {bn : Nat} {v : VS} {many : Nat} {d : Nat} {zw : Nat} {R : List Nat} (hB9 : hB c.held cls bg bn) (hM : MR wd nu fr tt9 sf bg bn v) (hC : cOk c) (hva : vAsk v) (hmy : many ≤ 6) (hdu : d < 1000000) (hzw : zw < 1000000) (hR : R.length = many) (hR6 : ∀ x, x ∈ R → x < 6) (hup : ∀ j, j < many → up j = nI (R.getD j 0)) : Sp D mX10_leadsTo 7 0 0 [.ref mo, .int (nI many), .int (nI d), .int (nI zw)] [(mo, .inr (10, M1R ma (mZ c c2 tk vc ln rn zs_10 zs_11 zs_20 zs_21 zs_22 zs_25 zs_26 zs_27 zs_29))), ((ma 4), eI D 6 (nF c.kk)), ((ma 5), eI D 6 (nF c.vv)), ((ma 13), eI D 6 cls), ((ma 14), eI D 60 wd), ((ma 15), eI D 60 nu), ((ma 16), eI D 60 fr), ((ma 17), eI D 60 tt9), ((ma 18), eI D 600 sf), ((ma 24), eZ D 100 pf), ((ma 32), eI D 6 up)] (fun r w => ∃ zs2_25 : Int32, ∃ zs2_26 : Int32, ∃ zs2_27 : Int32, ∃ pf2 : Nat → Int32, r = some (.int (b2i (ledK (wakA c v) zw R d 0))) ∧ w = [(mo, .inr (10, M1R ma (mZ c c2 tk vc ln rn zs_10 zs_11 zs_20 zs_21 zs_22 zs2_25 zs2_26 zs2_27 zs_29))), ((ma 4), eI D 6 (nF c.kk)), ((ma 5), eI D 6 (nF c.vv)), ((ma 13), eI D 6 cls), ((ma 14), eI D 60 wd), ((ma 15), eI D 60 nu), ((ma 16), eI D 60 fr), ((ma 17), eI D 60 tt9), ((ma 18), eI D 600 sf), ((ma 24), eZ D 100 pf2), ((ma 32), eI D 6 up)]) := by
  refine Sp.of (by decide) (Nat.le_of_ble_eq_true rfl) (fun X O T => ?_)
  refine v_eq (lv' := [(0, .ref mo), (1, .int (nI many)), (2, .int (nI d)), (3, .int (nI zw))]) rfl rfl rfl rfl ?_
  refine v_aload_n O dX10_leadsTo_0 0 rfl ?_
  refine v_iload_n O dX10_leadsTo_1 2 rfl ?_
  refine pf_X10_87 (fs' := M1R ma (mZ c c2 tk vc ln rn zs_10 zs_11 zs_20 zs_21 zs_22 (nI d) zs_26 zs_27 zs_29)) (ws' := [(mo, .inr (10, M1R ma (mZ c c2 tk vc ln rn zs_10 zs_11 zs_20 zs_21 zs_22 (nI d) zs_26 zs_27 zs_29))), ((ma 4), eI D 6 (nF c.kk)), ((ma 5), eI D 6 (nF c.vv)), ((ma 13), eI D 6 cls), ((ma 14), eI D 60 wd), ((ma 15), eI D 60 nu), ((ma 16), eI D 60 fr), ((ma 17), eI D 60 tt9), ((ma 18), eI D 600 sf), ((ma 24), eZ D 100 pf), ((ma 32), eI D 6 up)]) O rfl dX10_leadsTo_2 0 rfl (Nat.le_of_ble_eq_true rfl) rfl rfl ?_
  refine v_iconst (v := 0) O dX10_leadsTo_5 (by decide) ?_
  refine v_istore (lv' := [(0, .ref mo), (1, .int (nI many)), (2, .int (nI d)), (3, .int (nI zw)), (4, .int 0)]) O dX10_leadsTo_6 (by decide) rfl ?_
  refine v_eq (lv' := [(0, .ref mo), (1, .int (nI many)), (2, .int (nI d)), (3, .int (nI zw)), (4, .int (nI 0))]) (ws' := [(mo, .inr (10, M1R ma (mZ c c2 tk vc ln rn zs_10 zs_11 zs_20 zs_21 zs_22 (nI d) zs_26 zs_27 zs_29))), ((ma 4), eI D 6 (nF c.kk)), ((ma 5), eI D 6 (nF c.vv)), ((ma 13), eI D 6 cls), ((ma 14), eI D 60 wd), ((ma 15), eI D 60 nu), ((ma 16), eI D 60 fr), ((ma 17), eI D 60 tt9), ((ma 18), eI D 600 sf), ((ma 24), eZ D 100 pf), ((ma 32), eI D 6 up)]) rfl rfl rfl rfl ?_
  exact l_X10_leadsTo O hB9 hM hC hva hmy hdu hzw hR hR6 hup T many 0 (by omega) d _ _ _ hdu Iff.rfl
set_option maxRecDepth 100000 in
set_option maxHeartbeats 4000000 in
theorem sp_X10_up_1 {D : G} {mo : Nat} {ma : Nat → Nat} {c : CS} {c2 : CS} {tk : Int32} {vc : Nat} {ln : Nat} {rn : Nat} {zs_10 : Int32} {zs_11 : Int32} {zs_20 : Int32} {zs_21 : Int32} {zs_22 : Int32} {zs_25 : Int32} {zs_26 : Int32} {zs_27 : Int32} {zs_29 : Int32} {d : Int32} {zw : Int32} {k : Int32} (hk0 : ¬ k = -1) (hk : ¬ isIx k 6) : Sp D mX10_up 30 0 0 [.ref mo, .int d, .int zw, .int k] [(mo, .inr (10, M1R ma (mZ c c2 tk vc ln rn zs_10 zs_11 zs_20 zs_21 zs_22 zs_25 zs_26 zs_27 zs_29)))] (fun r w => ∃ zs2_10 : Int32, ∃ zs2_11 : Int32, ∃ zs2_20 : Int32, ∃ zs2_21 : Int32, ∃ zs2_22 : Int32, ∃ zs2_25 : Int32, ∃ zs2_26 : Int32, ∃ zs2_27 : Int32, ∃ zs2_29 : Int32, r = some (.int (-1)) ∧ w = [(mo, .inr (10, M1R ma (mZ c c2 tk vc ln rn zs2_10 zs2_11 zs2_20 zs2_21 zs2_22 zs2_25 zs2_26 zs2_27 zs2_29)))]) := by
  refine Sp.of (by decide) (Nat.le_of_ble_eq_true rfl) (fun X O T => ?_)
  refine v_eq (lv' := [(0, .ref mo), (1, .int d), (2, .int zw), (3, .int k)]) rfl rfl rfl rfl ?_
  refine v_aload_n O dX10_up_0 0 rfl ?_
  refine v_iload_n O dX10_up_1 3 rfl ?_
  refine v_iconst (v := -1) O dX10_up_2 (by decide) ?_
  refine v_iconst (v := 5) O dX10_up_3 (by decide) ?_
  refine v_cV (T := TX10) (ci := 10) (As := [.int k, .int (-1), .int 5]) (wr := [(mo, .inr (10, M1R ma (mZ c c2 tk vc ln rn zs_10 zs_11 zs_20 zs_21 zs_22 zs_25 zs_26 zs_27 zs_29)))]) (st := []) O cf_X10_179 rfl (sp_X10_in_m1_5 (mo := mo) (x := k) ) dX10_up_4 rfl rfl 0 rfl [] [0] (by decide) rfl rfl (by decide) (by decide) (by decide) (Nat.le_of_ble_eq_true rfl) (by decide) (by decide) (fun r_2 w_3 h_1 => ?_)
  obtain ⟨rfl, rfl⟩ := h_1
  refine v_eq (st' := [.int (b2i (-1 ≤ k ∧ k ≤ 5))]) (ws' := [(mo, .inr (10, M1R ma (mZ c c2 tk vc ln rn zs_10 zs_11 zs_20 zs_21 zs_22 zs_25 zs_26 zs_27 zs_29)))]) rfl rfl rfl rfl ?_
  refine v_if_ne O 12 dX10_up_7 (by decide) (fun z1 => ?_) (fun z1 => ?_)
  · skip
    have z1 := b2i_1.mp z1
    exact absurd (in15 z1) (fun q => q.elim hk0 hk)
  · skip
    have z1 := b2i_0.mp z1
    refine v_iconst (v := -1) O dX10_up_10 (by decide) ?_
    exact v_ireturn O T rfl rfl (by decide) (by decide) dX10_up_11 (⟨zs_10, zs_11, zs_20, zs_21, zs_22, zs_25, zs_26, zs_27, zs_29, rfl, rfl⟩)
set_option maxRecDepth 100000 in
set_option maxHeartbeats 4000000 in
theorem sp_X10_up_2 {D : G} {mo : Nat} {ma : Nat → Nat} {c : CS} {c2 : CS} {tk : Int32} {vc : Nat} {ln : Nat} {rn : Nat} {zs_10 : Int32} {zs_11 : Int32} {zs_20 : Int32} {zs_21 : Int32} {zs_22 : Int32} {zs_25 : Int32} {zs_26 : Int32} {zs_27 : Int32} {zs_29 : Int32} {d : Int32} {zw : Int32} (hdu : ¬ isIx d 10000) : Sp D mX10_up 30 0 0 [.ref mo, .int d, .int zw, .int (-1)] [(mo, .inr (10, M1R ma (mZ c c2 tk vc ln rn zs_10 zs_11 zs_20 zs_21 zs_22 zs_25 zs_26 zs_27 zs_29)))] (fun r w => ∃ zs2_10 : Int32, ∃ zs2_11 : Int32, ∃ zs2_20 : Int32, ∃ zs2_21 : Int32, ∃ zs2_22 : Int32, ∃ zs2_25 : Int32, ∃ zs2_26 : Int32, ∃ zs2_27 : Int32, ∃ zs2_29 : Int32, r = some (.int (-2)) ∧ w = [(mo, .inr (10, M1R ma (mZ c c2 tk vc ln rn zs2_10 zs2_11 zs2_20 zs2_21 zs2_22 zs2_25 zs2_26 zs2_27 zs2_29)))]) := by
  refine Sp.of (by decide) (Nat.le_of_ble_eq_true rfl) (fun X O T => ?_)
  refine v_eq (lv' := [(0, .ref mo), (1, .int d), (2, .int zw), (3, .int (-1))]) rfl rfl rfl rfl ?_
  refine v_aload_n O dX10_up_0 0 rfl ?_
  refine v_iload_n O dX10_up_1 3 rfl ?_
  refine v_iconst (v := -1) O dX10_up_2 (by decide) ?_
  refine v_iconst (v := 5) O dX10_up_3 (by decide) ?_
  refine v_cV (T := TX10) (ci := 10) (As := [.int (-1), .int (-1), .int 5]) (wr := [(mo, .inr (10, M1R ma (mZ c c2 tk vc ln rn zs_10 zs_11 zs_20 zs_21 zs_22 zs_25 zs_26 zs_27 zs_29)))]) (st := []) O cf_X10_179 rfl (sp_X10_in_m1_5 (mo := mo) (x := (-1)) ) dX10_up_4 rfl rfl 0 rfl [] [0] (by decide) rfl rfl (by decide) (by decide) (by decide) (Nat.le_of_ble_eq_true rfl) (by decide) (by decide) (fun r_2 w_3 h_1 => ?_)
  obtain ⟨rfl, rfl⟩ := h_1
  refine v_eq (st' := [.int (b2i (-1 ≤ (-1) ∧ (-1) ≤ 5))]) (ws' := [(mo, .inr (10, M1R ma (mZ c c2 tk vc ln rn zs_10 zs_11 zs_20 zs_21 zs_22 zs_25 zs_26 zs_27 zs_29)))]) rfl rfl rfl rfl ?_
  refine v_if_ne O 12 dX10_up_7 (by decide) (fun z1 => ?_) (fun z1 => ?_)
  · skip
    have z1 := b2i_1.mp z1
    refine v_aload_n O dX10_up_12 0 rfl ?_
    refine v_iload_n O dX10_up_13 1 rfl ?_
    refine v_iconst (v := 0) O dX10_up_14 (by decide) ?_
    refine v_sipush (v := 9999) O dX10_up_15 (by decide) ?_
    refine v_cV (T := TX10) (ci := 10) (As := [.int d, .int 0, .int 9999]) (wr := [(mo, .inr (10, M1R ma (mZ c c2 tk vc ln rn zs_10 zs_11 zs_20 zs_21 zs_22 zs_25 zs_26 zs_27 zs_29)))]) (st := []) O cf_X10_179 rfl (sp_X10_in_0 (mo := mo) (x := d) (h := 9999) (zn := 10000) (rfl) (by decide)) dX10_up_18 rfl rfl 0 rfl [] [0] (by decide) rfl rfl (by decide) (by decide) (by decide) (Nat.le_of_ble_eq_true rfl) (by decide) (by decide) (fun r_5 w_6 h_4 => ?_)
    obtain ⟨rfl, rfl⟩ := h_4
    refine v_eq (st' := [.int (b2i (isIx d 10000))]) (ws' := [(mo, .inr (10, M1R ma (mZ c c2 tk vc ln rn zs_10 zs_11 zs_20 zs_21 zs_22 zs_25 zs_26 zs_27 zs_29)))]) rfl rfl rfl rfl ?_
    refine v_if_eq O 36 dX10_up_21 (by decide) (fun z2 => ?_) (fun z2 => ?_)
    · skip
      have z2 := b2i_0.mp z2
      refine v_bipush (v := -2) O dX10_up_36 (by decide) ?_
      exact v_ireturn O T rfl rfl (by decide) (by decide) dX10_up_38 (⟨zs_10, zs_11, zs_20, zs_21, zs_22, zs_25, zs_26, zs_27, zs_29, rfl, rfl⟩)
    · skip
      have z2 := b2i_1.mp z2
      exact absurd z2 hdu
  · skip
    have z1 := b2i_0.mp z1
    exact absurd ⟨by decide, by decide⟩ z1
set_option maxRecDepth 100000 in
set_option maxHeartbeats 4000000 in
theorem sp_X10_up_3 {D : G} {mo : Nat} {ma : Nat → Nat} {c : CS} {c2 : CS} {tk : Int32} {vc : Nat} {ln : Nat} {rn : Nat} {zs_10 : Int32} {zs_11 : Int32} {zs_20 : Int32} {zs_21 : Int32} {zs_22 : Int32} {zs_25 : Int32} {zs_26 : Int32} {zs_27 : Int32} {zs_29 : Int32} {d : Nat} {zw : Int32} (hdu : d < 10000) (hw : ¬ isIx zw 10000) : Sp D mX10_up 30 0 0 [.ref mo, .int (nI d), .int zw, .int (-1)] [(mo, .inr (10, M1R ma (mZ c c2 tk vc ln rn zs_10 zs_11 zs_20 zs_21 zs_22 zs_25 zs_26 zs_27 zs_29)))] (fun r w => ∃ zs2_10 : Int32, ∃ zs2_11 : Int32, ∃ zs2_20 : Int32, ∃ zs2_21 : Int32, ∃ zs2_22 : Int32, ∃ zs2_25 : Int32, ∃ zs2_26 : Int32, ∃ zs2_27 : Int32, ∃ zs2_29 : Int32, r = some (.int (-2)) ∧ w = [(mo, .inr (10, M1R ma (mZ c c2 tk vc ln rn zs2_10 zs2_11 zs2_20 zs2_21 zs2_22 zs2_25 zs2_26 zs2_27 zs2_29)))]) := by
  refine Sp.of (by decide) (Nat.le_of_ble_eq_true rfl) (fun X O T => ?_)
  refine v_eq (lv' := [(0, .ref mo), (1, .int (nI d)), (2, .int zw), (3, .int (-1))]) rfl rfl rfl rfl ?_
  refine v_aload_n O dX10_up_0 0 rfl ?_
  refine v_iload_n O dX10_up_1 3 rfl ?_
  refine v_iconst (v := -1) O dX10_up_2 (by decide) ?_
  refine v_iconst (v := 5) O dX10_up_3 (by decide) ?_
  refine v_cV (T := TX10) (ci := 10) (As := [.int (-1), .int (-1), .int 5]) (wr := [(mo, .inr (10, M1R ma (mZ c c2 tk vc ln rn zs_10 zs_11 zs_20 zs_21 zs_22 zs_25 zs_26 zs_27 zs_29)))]) (st := []) O cf_X10_179 rfl (sp_X10_in_m1_5 (mo := mo) (x := (-1)) ) dX10_up_4 rfl rfl 0 rfl [] [0] (by decide) rfl rfl (by decide) (by decide) (by decide) (Nat.le_of_ble_eq_true rfl) (by decide) (by decide) (fun r_2 w_3 h_1 => ?_)
  obtain ⟨rfl, rfl⟩ := h_1
  refine v_eq (st' := [.int (b2i (-1 ≤ (-1) ∧ (-1) ≤ 5))]) (ws' := [(mo, .inr (10, M1R ma (mZ c c2 tk vc ln rn zs_10 zs_11 zs_20 zs_21 zs_22 zs_25 zs_26 zs_27 zs_29)))]) rfl rfl rfl rfl ?_
  refine v_if_ne O 12 dX10_up_7 (by decide) (fun z1 => ?_) (fun z1 => ?_)
  · skip
    have z1 := b2i_1.mp z1
    refine v_aload_n O dX10_up_12 0 rfl ?_
    refine v_iload_n O dX10_up_13 1 rfl ?_
    refine v_iconst (v := 0) O dX10_up_14 (by decide) ?_
    refine v_sipush (v := 9999) O dX10_up_15 (by decide) ?_
    refine v_cV (T := TX10) (ci := 10) (As := [.int (nI d), .int 0, .int 9999]) (wr := [(mo, .inr (10, M1R ma (mZ c c2 tk vc ln rn zs_10 zs_11 zs_20 zs_21 zs_22 zs_25 zs_26 zs_27 zs_29)))]) (st := []) O cf_X10_179 rfl (sp_X10_in_0 (mo := mo) (x := (nI d)) (h := 9999) (zn := 10000) (rfl) (by decide)) dX10_up_18 rfl rfl 0 rfl [] [0] (by decide) rfl rfl (by decide) (by decide) (by decide) (Nat.le_of_ble_eq_true rfl) (by decide) (by decide) (fun r_5 w_6 h_4 => ?_)
    obtain ⟨rfl, rfl⟩ := h_4
    refine v_eq (st' := [.int (b2i (isIx (nI d) 10000))]) (ws' := [(mo, .inr (10, M1R ma (mZ c c2 tk vc ln rn zs_10 zs_11 zs_20 zs_21 zs_22 zs_25 zs_26 zs_27 zs_29)))]) rfl rfl rfl rfl ?_
    refine v_if_eq O 36 dX10_up_21 (by decide) (fun z2 => ?_) (fun z2 => ?_)
    · skip
      have z2 := b2i_0.mp z2
      exact absurd ((isIx_nI (by omega) (by omega)).mpr hdu) z2
    · skip
      have z2 := b2i_1.mp z2
      refine v_aload_n O dX10_up_24 0 rfl ?_
      refine v_iload_n O dX10_up_25 2 rfl ?_
      refine v_iconst (v := 0) O dX10_up_26 (by decide) ?_
      refine v_sipush (v := 9999) O dX10_up_27 (by decide) ?_
      refine v_cV (T := TX10) (ci := 10) (As := [.int zw, .int 0, .int 9999]) (wr := [(mo, .inr (10, M1R ma (mZ c c2 tk vc ln rn zs_10 zs_11 zs_20 zs_21 zs_22 zs_25 zs_26 zs_27 zs_29)))]) (st := []) O cf_X10_179 rfl (sp_X10_in_0 (mo := mo) (x := zw) (h := 9999) (zn := 10000) (rfl) (by decide)) dX10_up_30 rfl rfl 0 rfl [] [0] (by decide) rfl rfl (by decide) (by decide) (by decide) (Nat.le_of_ble_eq_true rfl) (by decide) (by decide) (fun r_8 w_9 h_7 => ?_)
      obtain ⟨rfl, rfl⟩ := h_7
      refine v_eq (st' := [.int (b2i (isIx zw 10000))]) (ws' := [(mo, .inr (10, M1R ma (mZ c c2 tk vc ln rn zs_10 zs_11 zs_20 zs_21 zs_22 zs_25 zs_26 zs_27 zs_29)))]) rfl rfl rfl rfl ?_
      refine v_if_ne O 39 dX10_up_33 (by decide) (fun z3 => ?_) (fun z3 => ?_)
      · skip
        have z3 := b2i_1.mp z3
        exact absurd z3 hw
      · skip
        have z3 := b2i_0.mp z3
        refine v_bipush (v := -2) O dX10_up_36 (by decide) ?_
        exact v_ireturn O T rfl rfl (by decide) (by decide) dX10_up_38 (⟨zs_10, zs_11, zs_20, zs_21, zs_22, zs_25, zs_26, zs_27, zs_29, rfl, rfl⟩)
  · skip
    have z1 := b2i_0.mp z1
    exact absurd ⟨by decide, by decide⟩ z1
set_option maxRecDepth 100000 in
set_option maxHeartbeats 4000000 in
theorem l_X10_upIn_0 {D : G} {X : CX} {mo : Nat} {ma : Nat → Nat} {c : CS} {c2 : CS} {tk : Int32} {vc : Nat} {ln : Nat} {rn : Nat} {zs_10 : Int32} {zs_11 : Int32} {zs_20 : Int32} {zs_21 : Int32} {zs_22 : Int32} {zs_29 : Int32} {d : Nat} {zw : Nat} {wd : Nat → Int32} {nu : Nat → Int32} {fr : Nat → Int32} {tt9 : Nat → Int32} {sf : Nat → Int32} {cls : Nat → Int32} {bg : Nat} {bn : Nat} {v : VS} {n : Nat} (O : Ok D X mX10_up 30 0 0) (hC : cOk c) (hB9 : hB c.held cls bg bn) (hM : MR wd nu fr tt9 sf bg bn v) (hva : vAsk v) (hdu : d < 10000) (hw : zw < 10000) (hnm : n < c.men) (K : ∀ (fd : Nat) (ans : Int32), ∀ (zs_25 zs_26 zs_27 : Int32) (pf up : Nat → Int32), fd = (rwL (wakA c v) c.men zw d (n + 1)).length → V D X 0 0 61 [(0, .ref mo), (1, .int (nI d)), (2, .int (nI zw)), (3, .int (-1)), (4, .int (nI fd)), (5, .int ans), (6, .int (nI (c.men ^ (n + 1)))), (7, .int (nI (n + 1 + 1)))] [] [(mo, .inr (10, M1R ma (mZ c c2 tk vc ln rn zs_10 zs_11 zs_20 zs_21 zs_22 zs_25 zs_26 zs_27 zs_29))), ((ma 4), eI D 6 (nF c.kk)), ((ma 5), eI D 6 (nF c.vv)), ((ma 6), eI D 6 c.hd), ((ma 30), eI D 8 (nF c.crf)), ((ma 35), eI D 12 (nF c.bo)), ((ma 13), eI D 6 cls), ((ma 14), eI D 60 wd), ((ma 15), eI D 60 nu), ((ma 16), eI D 60 fr), ((ma 17), eI D 60 tt9), ((ma 18), eI D 600 sf), ((ma 24), eZ D 100 pf), ((ma 32), eI D 6 up)]) : ∀ (t code : Nat), code + t = c.men ^ (n + 1) → ∀ (fd : Nat) (ans : Int32), ∀ (zs_25 zs_26 zs_27 : Int32) (pf up : Nat → Int32), fd = (rwL (wakA c v) c.men zw d n ++ selN (okM (wakA c v) zw d) c.men (n + 1) code).length → V D X 0 0 82 [(0, .ref mo), (1, .int (nI d)), (2, .int (nI zw)), (3, .int (-1)), (4, .int (nI fd)), (5, .int ans), (6, .int (nI (c.men ^ (n + 1)))), (7, .int (nI (n + 1))), (8, .int (nI code))] [] [(mo, .inr (10, M1R ma (mZ c c2 tk vc ln rn zs_10 zs_11 zs_20 zs_21 zs_22 zs_25 zs_26 zs_27 zs_29))), ((ma 4), eI D 6 (nF c.kk)), ((ma 5), eI D 6 (nF c.vv)), ((ma 6), eI D 6 c.hd), ((ma 30), eI D 8 (nF c.crf)), ((ma 35), eI D 12 (nF c.bo)), ((ma 13), eI D 6 cls), ((ma 14), eI D 60 wd), ((ma 15), eI D 60 nu), ((ma 16), eI D 60 fr), ((ma 17), eI D 60 tt9), ((ma 18), eI D 600 sf), ((ma 24), eZ D 100 pf), ((ma 32), eI D 6 up)] := by
  intro t
  induction t with
  | zero =>
    intro code hct fd ans zs_25 zs_26 zs_27 pf up hfd
    have z_m := hC.1
    have z_hp := hC.2.2.2.1
    have z_wk := hC.2.2.2.2.1
    have z_pw := pw6 (n := n + 1) hC.1 (by omega)
    have z_fl : fd ≤ 1 + n * 46656 + 46656 := by rw [hfd, List.length_append]; exact Nat.add_le_add (cRow_len hC.1 n (by omega)) (Nat.le_trans (sel_len code) (by omega))
    refine v_iload O dX10_up_82 8 rfl ?_
    refine v_iload O dX10_up_84 6 rfl ?_
    refine v_icmp_ge O 151 dX10_up_86 (by decide) (fun z0 => ?_) (fun z0 => ?_)
    · skip
      have z0 := (c_le' (x := nI code) (y := nI (c.men ^ (n + 1))) (a := code) (b := (c.men ^ (n + 1))) rfl rfl (by omega) (by omega)).mp z0
      refine v_iinc (v := nI ((n + 1) + 1)) (lv' := [(0, .ref mo), (1, .int (nI d)), (2, .int (nI zw)), (3, .int (-1)), (4, .int (nI fd)), (5, .int ans), (6, .int (nI (c.men ^ (n + 1)))), (7, .int (nI ((n + 1) + 1))), (8, .int (nI code))]) O dX10_up_151 7 rfl (nI_1 (n + 1)) (by decide) rfl ?_
      refine v_goto O 61 dX10_up_154 (by decide) ?_
      refine v_lvp (lv' := [(0, .ref mo), (1, .int (nI d)), (2, .int (nI zw)), (3, .int (-1)), (4, .int (nI fd)), (5, .int ans), (6, .int (nI (c.men ^ (n + 1)))), (7, .int (nI ((n + 1) + 1)))]) [0, 1, 2, 3, 4, 5, 6, 7] rfl ?_
      exact K _ _ _ _ _ _ _ (by rw [hfd, show code = c.men ^ (n + 1) by omega]; rfl)
    · skip
      have z0 := (not_congr (c_le' (x := nI code) (y := nI (c.men ^ (n + 1))) (a := code) (b := (c.men ^ (n + 1))) rfl rfl (by omega) (by omega))).mp z0
      exact absurd z0 (by omega)
  | succ t ih =>
    intro code hct fd ans zs_25 zs_26 zs_27 pf up hfd
    have z_m := hC.1
    have z_hp := hC.2.2.2.1
    have z_wk := hC.2.2.2.2.1
    have z_pw := pw6 (n := n + 1) hC.1 (by omega)
    have z_fl : fd ≤ 1 + n * 46656 + 46656 := by rw [hfd, List.length_append]; exact Nat.add_le_add (cRow_len hC.1 n (by omega)) (Nat.le_trans (sel_len code) (by omega))
    refine v_iload O dX10_up_82 8 rfl ?_
    refine v_iload O dX10_up_84 6 rfl ?_
    refine v_icmp_ge O 151 dX10_up_86 (by decide) (fun z0 => ?_) (fun z0 => ?_)
    · skip
      have z0 := (c_le' (x := nI code) (y := nI (c.men ^ (n + 1))) (a := code) (b := (c.men ^ (n + 1))) rfl rfl (by omega) (by omega)).mp z0
      exact absurd z0 (by omega)
    · skip
      have z0 := (not_congr (c_le' (x := nI code) (y := nI (c.men ^ (n + 1))) (a := code) (b := (c.men ^ (n + 1))) rfl rfl (by omega) (by omega))).mp z0
      refine v_aload_n O dX10_up_89 0 rfl ?_
      refine v_iload O dX10_up_90 7 rfl ?_
      refine v_iload O dX10_up_92 8 rfl ?_
      refine v_cV (T := TX10) (ci := 10) (As := [.int (nI (n + 1)), .int (nI code)]) (wr := [((ma 4), eI D 6 (nF c.kk)), ((ma 5), eI D 6 (nF c.vv)), ((ma 6), eI D 6 c.hd), ((ma 30), eI D 8 (nF c.crf)), ((ma 35), eI D 12 (nF c.bo)), ((ma 13), eI D 6 cls), ((ma 14), eI D 60 wd), ((ma 15), eI D 60 nu), ((ma 16), eI D 60 fr), ((ma 17), eI D 60 tt9), ((ma 18), eI D 600 sf), ((ma 24), eZ D 100 pf)]) (st := []) O cf_X10_293 rfl (sp_X10_layUp (mo := mo) (ma := ma) (c := c) (c2 := c2) (tk := tk) (vc := vc) (ln := ln) (rn := rn) (zs_10 := zs_10) (zs_11 := zs_11) (zs_20 := zs_20) (zs_21 := zs_21) (zs_22 := zs_22) (zs_25 := zs_25) (zs_26 := zs_26) (zs_27 := zs_27) (zs_29 := zs_29) (up := up) (many := (n + 1)) (code := code) (by omega) (by omega) (by omega) (by omega)) dX10_up_94 rfl rfl 0 rfl [0, 13] [1, 2, 3, 4, 5, 6, 7, 8, 9, 10, 11, 12] (by decide) rfl rfl (by decide) (by decide) (by decide) (Nat.le_of_ble_eq_true rfl) (by decide) (by decide) (fun r_2 w_3 h_1 => ?_)
      obtain ⟨up2_4, rfl, rfl, h_u⟩ := h_1
      refine v_eq (st' := [.int (b2i ((dgs c.men code (n + 1)).Nodup))]) (ws' := [((ma 4), eI D 6 (nF c.kk)), ((ma 5), eI D 6 (nF c.vv)), ((ma 6), eI D 6 c.hd), ((ma 30), eI D 8 (nF c.crf)), ((ma 35), eI D 12 (nF c.bo)), ((ma 13), eI D 6 cls), ((ma 14), eI D 60 wd), ((ma 15), eI D 60 nu), ((ma 16), eI D 60 fr), ((ma 17), eI D 60 tt9), ((ma 18), eI D 600 sf), ((ma 24), eZ D 100 pf), (mo, .inr (10, M1R ma (mZ c c2 tk vc ln rn zs_10 zs_11 zs_20 zs_21 zs_22 zs_25 zs_26 zs_27 zs_29))), ((ma 32), eI D 6 up2_4)]) rfl rfl rfl rfl ?_
      refine v_if_eq O 145 dX10_up_97 (by decide) (fun z5 => ?_) (fun z5 => ?_)
      · skip
        have z5 := b2i_0.mp z5
        have z_ok : ¬ okM (wakA c v) zw d (dgs c.men code (n + 1)) := fun q => z5 q.1
        refine v_iinc (v := nI (code + 1)) (lv' := [(0, .ref mo), (1, .int (nI d)), (2, .int (nI zw)), (3, .int (-1)), (4, .int (nI fd)), (5, .int ans), (6, .int (nI (c.men ^ (n + 1)))), (7, .int (nI (n + 1))), (8, .int (nI (code + 1)))]) O dX10_up_145 8 rfl (nI_1 code) (by decide) rfl ?_
        refine v_goto O 82 dX10_up_148 (by decide) ?_
        refine v_sub (ws' := [(mo, .inr (10, M1R ma (mZ c c2 tk vc ln rn zs_10 zs_11 zs_20 zs_21 zs_22 zs_25 zs_26 zs_27 zs_29))), ((ma 4), eI D 6 (nF c.kk)), ((ma 5), eI D 6 (nF c.vv)), ((ma 6), eI D 6 c.hd), ((ma 30), eI D 8 (nF c.crf)), ((ma 35), eI D 12 (nF c.bo)), ((ma 13), eI D 6 cls), ((ma 14), eI D 60 wd), ((ma 15), eI D 60 nu), ((ma 16), eI D 60 fr), ((ma 17), eI D 60 tt9), ((ma 18), eI D 600 sf), ((ma 24), eZ D 100 pf), ((ma 32), eI D 6 up2_4)]) [12, 0, 1, 2, 3, 4, 5, 6, 7, 8, 9, 10, 11, 13] (by decide) rfl ?_
        exact ih (code + 1) (by omega) _ _ _ _ _ _ _ (by rw [sel_f z_ok]; exact hfd)
      · skip
        have z5 := b2i_1.mp z5
        have h_u := h_u z5
        refine v_aload_n O dX10_up_100 0 rfl ?_
        refine v_iload O dX10_up_101 7 rfl ?_
        refine v_iload_n O dX10_up_103 1 rfl ?_
        refine v_iload_n O dX10_up_104 2 rfl ?_
        refine v_cV (T := TX10) (ci := 10) (As := [.int (nI (n + 1)), .int (nI d), .int (nI zw)]) (wr := [((ma 6), eI D 6 c.hd), ((ma 30), eI D 8 (nF c.crf)), ((ma 35), eI D 12 (nF c.bo))]) (st := []) O cf_X10_296 rfl (sp_X10_leadsTo (mo := mo) (ma := ma) (c := c) (c2 := c2) (tk := tk) (vc := vc) (ln := ln) (rn := rn) (zs_10 := zs_10) (zs_11 := zs_11) (zs_20 := zs_20) (zs_21 := zs_21) (zs_22 := zs_22) (zs_25 := zs_25) (zs_26 := zs_26) (zs_27 := zs_27) (zs_29 := zs_29) (wd := wd) (nu := nu) (fr := fr) (tt9 := tt9) (sf := sf) (cls := cls) (pf := pf) (up := up2_4) (bg := bg) (bn := bn) (v := v) (many := (n + 1)) (d := d) (zw := zw) (R := (dgs c.men code (n + 1))) (hB9) (hM) (hC) (hva) (by omega) (by omega) (by omega) (dgs_len _) (fun x hx => by have := dgs_lt (show 0 < c.men by omega) _ x hx; omega) (h_u)) dX10_up_105 rfl rfl 12 rfl [12, 0, 1, 5, 6, 7, 8, 9, 10, 11, 13] [2, 3, 4] (by decide) rfl rfl (by decide) (by decide) (by decide) (Nat.le_of_ble_eq_true rfl) (by decide) (by decide) (fun r_6 w_7 h_5 => ?_)
        obtain ⟨zs2_25_8, zs2_26_9, zs2_27_10, pf2_11, rfl, rfl⟩ := h_5
        refine v_eq (st' := [.int (b2i (ledK (wakA c v) zw (dgs c.men code (n + 1)) d 0))]) (ws' := [((ma 6), eI D 6 c.hd), ((ma 30), eI D 8 (nF c.crf)), ((ma 35), eI D 12 (nF c.bo)), (mo, .inr (10, M1R ma (mZ c c2 tk vc ln rn zs_10 zs_11 zs_20 zs_21 zs_22 zs2_25_8 zs2_26_9 zs2_27_10 zs_29))), ((ma 4), eI D 6 (nF c.kk)), ((ma 5), eI D 6 (nF c.vv)), ((ma 13), eI D 6 cls), ((ma 14), eI D 60 wd), ((ma 15), eI D 60 nu), ((ma 16), eI D 60 fr), ((ma 17), eI D 60 tt9), ((ma 18), eI D 600 sf), ((ma 24), eZ D 100 pf2_11), ((ma 32), eI D 6 up2_4)]) rfl rfl rfl rfl ?_
        refine v_if_ne O 114 dX10_up_108 (by decide) (fun z6 => ?_) (fun z6 => ?_)
        · skip
          have z6 := b2i_1.mp z6
          have z_ok : okM (wakA c v) zw d (dgs c.men code (n + 1)) := ⟨z5, z6⟩
          have e_ok : selN (okM (wakA c v) zw d) c.men (n + 1) (code + 1) = selN (okM (wakA c v) zw d) c.men (n + 1) code ++ [dgs c.men code (n + 1)] := sel_t z_ok
          refine v_iload O dX10_up_114 4 rfl ?_
          refine v_if_ne O 142 dX10_up_116 (by decide) (fun z7 => ?_) (fun z7 => ?_)
          · skip
            have z7 := (not_congr (c_eq (x := nI fd) (y := 0) (a := fd) (b := 0) rfl rfl (by omega) (by omega))).mp z7
            refine v_iinc (v := nI (fd + 1)) (lv' := [(0, .ref mo), (1, .int (nI d)), (2, .int (nI zw)), (3, .int (-1)), (4, .int (nI (fd + 1))), (5, .int ans), (6, .int (nI (c.men ^ (n + 1)))), (7, .int (nI (n + 1))), (8, .int (nI code))]) O dX10_up_142 4 rfl (nI_1 fd) (by decide) rfl ?_
            refine v_iinc (v := nI (code + 1)) (lv' := [(0, .ref mo), (1, .int (nI d)), (2, .int (nI zw)), (3, .int (-1)), (4, .int (nI (fd + 1))), (5, .int ans), (6, .int (nI (c.men ^ (n + 1)))), (7, .int (nI (n + 1))), (8, .int (nI (code + 1)))]) O dX10_up_145 8 rfl (nI_1 code) (by decide) rfl ?_
            refine v_goto O 82 dX10_up_148 (by decide) ?_
            refine v_sub (ws' := [(mo, .inr (10, M1R ma (mZ c c2 tk vc ln rn zs_10 zs_11 zs_20 zs_21 zs_22 zs2_25_8 zs2_26_9 zs2_27_10 zs_29))), ((ma 4), eI D 6 (nF c.kk)), ((ma 5), eI D 6 (nF c.vv)), ((ma 6), eI D 6 c.hd), ((ma 30), eI D 8 (nF c.crf)), ((ma 35), eI D 12 (nF c.bo)), ((ma 13), eI D 6 cls), ((ma 14), eI D 60 wd), ((ma 15), eI D 60 nu), ((ma 16), eI D 60 fr), ((ma 17), eI D 60 tt9), ((ma 18), eI D 600 sf), ((ma 24), eZ D 100 pf2_11), ((ma 32), eI D 6 up2_4)]) [3, 4, 5, 0, 1, 2, 6, 7, 8, 9, 10, 11, 12, 13] (by decide) rfl ?_
            exact ih (code + 1) (by omega) _ _ _ _ _ _ _ (by rw [e_ok, ← List.append_assoc, ln_ap, ← hfd])
          · skip
            have z7 := (c_eq (x := nI fd) (y := 0) (a := fd) (b := 0) rfl rfl (by omega) (by omega)).mp z7
            refine v_iload_n O dX10_up_119 3 rfl ?_
            refine v_if_lt O 138 dX10_up_120 (by decide) (fun z8 => ?_) (fun z8 => ?_)
            · skip
              refine v_bipush (v := -5) O dX10_up_138 (by decide) ?_
              refine v_istore (lv' := [(0, .ref mo), (1, .int (nI d)), (2, .int (nI zw)), (3, .int (-1)), (4, .int (nI fd)), (5, .int (-5)), (6, .int (nI (c.men ^ (n + 1)))), (7, .int (nI (n + 1))), (8, .int (nI code))]) O dX10_up_140 (by decide) rfl ?_
              refine v_iinc (v := nI (fd + 1)) (lv' := [(0, .ref mo), (1, .int (nI d)), (2, .int (nI zw)), (3, .int (-1)), (4, .int (nI (fd + 1))), (5, .int (-5)), (6, .int (nI (c.men ^ (n + 1)))), (7, .int (nI (n + 1))), (8, .int (nI code))]) O dX10_up_142 4 rfl (nI_1 fd) (by decide) rfl ?_
              refine v_iinc (v := nI (code + 1)) (lv' := [(0, .ref mo), (1, .int (nI d)), (2, .int (nI zw)), (3, .int (-1)), (4, .int (nI (fd + 1))), (5, .int (-5)), (6, .int (nI (c.men ^ (n + 1)))), (7, .int (nI (n + 1))), (8, .int (nI (code + 1)))]) O dX10_up_145 8 rfl (nI_1 code) (by decide) rfl ?_
              refine v_goto O 82 dX10_up_148 (by decide) ?_
              refine v_sub (ws' := [(mo, .inr (10, M1R ma (mZ c c2 tk vc ln rn zs_10 zs_11 zs_20 zs_21 zs_22 zs2_25_8 zs2_26_9 zs2_27_10 zs_29))), ((ma 4), eI D 6 (nF c.kk)), ((ma 5), eI D 6 (nF c.vv)), ((ma 6), eI D 6 c.hd), ((ma 30), eI D 8 (nF c.crf)), ((ma 35), eI D 12 (nF c.bo)), ((ma 13), eI D 6 cls), ((ma 14), eI D 60 wd), ((ma 15), eI D 60 nu), ((ma 16), eI D 60 fr), ((ma 17), eI D 60 tt9), ((ma 18), eI D 600 sf), ((ma 24), eZ D 100 pf2_11), ((ma 32), eI D 6 up2_4)]) [3, 4, 5, 0, 1, 2, 6, 7, 8, 9, 10, 11, 12, 13] (by decide) rfl ?_
              exact ih (code + 1) (by omega) _ _ _ _ _ _ _ (by rw [e_ok, ← List.append_assoc, ln_ap, ← hfd])
            · skip
              exact absurd (by decide) z8
        · skip
          have z6 := b2i_0.mp z6
          have z_ok : ¬ okM (wakA c v) zw d (dgs c.men code (n + 1)) := fun q => z6 q.2
          refine v_goto O 145 dX10_up_111 (by decide) ?_
          refine v_iinc (v := nI (code + 1)) (lv' := [(0, .ref mo), (1, .int (nI d)), (2, .int (nI zw)), (3, .int (-1)), (4, .int (nI fd)), (5, .int ans), (6, .int (nI (c.men ^ (n + 1)))), (7, .int (nI (n + 1))), (8, .int (nI (code + 1)))]) O dX10_up_145 8 rfl (nI_1 code) (by decide) rfl ?_
          refine v_goto O 82 dX10_up_148 (by decide) ?_
          refine v_sub (ws' := [(mo, .inr (10, M1R ma (mZ c c2 tk vc ln rn zs_10 zs_11 zs_20 zs_21 zs_22 zs2_25_8 zs2_26_9 zs2_27_10 zs_29))), ((ma 4), eI D 6 (nF c.kk)), ((ma 5), eI D 6 (nF c.vv)), ((ma 6), eI D 6 c.hd), ((ma 30), eI D 8 (nF c.crf)), ((ma 35), eI D 12 (nF c.bo)), ((ma 13), eI D 6 cls), ((ma 14), eI D 60 wd), ((ma 15), eI D 60 nu), ((ma 16), eI D 60 fr), ((ma 17), eI D 60 tt9), ((ma 18), eI D 600 sf), ((ma 24), eZ D 100 pf2_11), ((ma 32), eI D 6 up2_4)]) [3, 4, 5, 0, 1, 2, 6, 7, 8, 9, 10, 11, 12, 13] (by decide) rfl ?_
          exact ih (code + 1) (by omega) _ _ _ _ _ _ _ (by rw [sel_f z_ok]; exact hfd)
set_option maxRecDepth 100000 in
set_option maxHeartbeats 4000000 in
theorem l_X10_up_0 {D : G} {X : CX} {mo : Nat} {ma : Nat → Nat} {c : CS} {c2 : CS} {tk : Int32} {vc : Nat} {ln : Nat} {rn : Nat} {zs_10 : Int32} {zs_11 : Int32} {zs_20 : Int32} {zs_21 : Int32} {zs_22 : Int32} {zs_29 : Int32} {d : Nat} {zw : Nat} {wd : Nat → Int32} {nu : Nat → Int32} {fr : Nat → Int32} {tt9 : Nat → Int32} {sf : Nat → Int32} {cls : Nat → Int32} {bg : Nat} {bn : Nat} {v : VS} (O : Ok D X mX10_up 30 0 0) (hC : cOk c) (hB9 : hB c.held cls bg bn) (hM : MR wd nu fr tt9 sf bg bn v) (hva : vAsk v) (hdu : d < 10000) (hw : zw < 10000) (T : Rt D X (fun r w => ∃ zs2_10 : Int32, ∃ zs2_11 : Int32, ∃ zs2_20 : Int32, ∃ zs2_21 : Int32, ∃ zs2_22 : Int32, ∃ zs2_25 : Int32, ∃ zs2_26 : Int32, ∃ zs2_27 : Int32, ∃ zs2_29 : Int32, ∃ pf2 : Nat → Int32, ∃ up2 : Nat → Int32, r = some (.int (nI ((upA c v d zw).1))) ∧ w = [(mo, .inr (10, M1R ma (mZ c c2 tk vc ln rn zs2_10 zs2_11 zs2_20 zs2_21 zs2_22 zs2_25 zs2_26 zs2_27 zs2_29))), ((ma 4), eI D 6 (nF c.kk)), ((ma 5), eI D 6 (nF c.vv)), ((ma 6), eI D 6 c.hd), ((ma 30), eI D 8 (nF c.crf)), ((ma 35), eI D 12 (nF c.bo)), ((ma 13), eI D 6 cls), ((ma 14), eI D 60 wd), ((ma 15), eI D 60 nu), ((ma 16), eI D 60 fr), ((ma 17), eI D 60 tt9), ((ma 18), eI D 600 sf), ((ma 24), eZ D 100 pf2), ((ma 32), eI D 6 up2)]) 0 0) : ∀ (t n : Nat), n + t = c.men → ∀ (fd : Nat) (ans : Int32), ∀ (zs_25 zs_26 zs_27 : Int32) (pf up : Nat → Int32), fd = (rwL (wakA c v) c.men zw d n).length → V D X 0 0 61 [(0, .ref mo), (1, .int (nI d)), (2, .int (nI zw)), (3, .int (-1)), (4, .int (nI fd)), (5, .int ans), (6, .int (nI (c.men ^ n))), (7, .int (nI (n + 1)))] [] [(mo, .inr (10, M1R ma (mZ c c2 tk vc ln rn zs_10 zs_11 zs_20 zs_21 zs_22 zs_25 zs_26 zs_27 zs_29))), ((ma 4), eI D 6 (nF c.kk)), ((ma 5), eI D 6 (nF c.vv)), ((ma 6), eI D 6 c.hd), ((ma 30), eI D 8 (nF c.crf)), ((ma 35), eI D 12 (nF c.bo)), ((ma 13), eI D 6 cls), ((ma 14), eI D 60 wd), ((ma 15), eI D 60 nu), ((ma 16), eI D 60 fr), ((ma 17), eI D 60 tt9), ((ma 18), eI D 600 sf), ((ma 24), eZ D 100 pf), ((ma 32), eI D 6 up)] := by
  intro t
  induction t with
  | zero =>
    intro n hn fd ans zs_25 zs_26 zs_27 pf up hfd
    have z_m := hC.1
    have z_hp := hC.2.2.2.1
    have z_wk := hC.2.2.2.2.1
    have z_fl : fd ≤ 1 + n * 46656 := by rw [hfd]; exact cRow_len hC.1 n (by omega)
    refine v_iload O dX10_up_61 7 rfl ?_
    refine v_aload_n O dX10_up_63 0 rfl ?_
    refine gf_X10_7 (v := .int (nI c.men)) O rfl dX10_up_64 0 rfl rfl ?_
    refine v_icmp_gt O 157 dX10_up_67 (by decide) (fun z0 => ?_) (fun z0 => ?_)
    · skip
      have z0 := (c_lt' (x := nI (n + 1)) (y := nI c.men) (a := (n + 1)) (b := c.men) rfl rfl (by omega) (by omega)).mp z0
      refine v_iload_n O dX10_up_157 3 rfl ?_
      refine v_if_ge O 166 dX10_up_158 (by decide) (fun y8 => ?_) (fun y8 => ?_)
      · skip
        exact absurd y8 (by decide)
      · skip
        refine v_iload O dX10_up_161 4 rfl ?_
        refine v_goto O 168 dX10_up_163 (by decide) ?_
        exact v_ireturn O T rfl rfl (by decide) (by decide) dX10_up_168 (⟨zs_10, zs_11, zs_20, zs_21, zs_22, zs_25, zs_26, zs_27, zs_29, _, _, by rw [up_ref hC.1, hfd, show n = c.men by omega], rfl⟩)
    · skip
      have z0 := (not_congr (c_lt' (x := nI (n + 1)) (y := nI c.men) (a := (n + 1)) (b := c.men) rfl rfl (by omega) (by omega))).mp z0
      exact absurd z0 (by omega)
  | succ t ih =>
    intro n hn fd ans zs_25 zs_26 zs_27 pf up hfd
    have z_m := hC.1
    have z_hp := hC.2.2.2.1
    have z_wk := hC.2.2.2.2.1
    have z_fl : fd ≤ 1 + n * 46656 := by rw [hfd]; exact cRow_len hC.1 n (by omega)
    refine v_iload O dX10_up_61 7 rfl ?_
    refine v_aload_n O dX10_up_63 0 rfl ?_
    refine gf_X10_7 (v := .int (nI c.men)) O rfl dX10_up_64 0 rfl rfl ?_
    refine v_icmp_gt O 157 dX10_up_67 (by decide) (fun z0 => ?_) (fun z0 => ?_)
    · skip
      have z0 := (c_lt' (x := nI (n + 1)) (y := nI c.men) (a := (n + 1)) (b := c.men) rfl rfl (by omega) (by omega)).mp z0
      exact absurd z0 (by omega)
    · skip
      have z0 := (not_congr (c_lt' (x := nI (n + 1)) (y := nI c.men) (a := (n + 1)) (b := c.men) rfl rfl (by omega) (by omega))).mp z0
      refine v_iload O dX10_up_70 6 rfl ?_
      refine v_aload_n O dX10_up_72 0 rfl ?_
      refine gf_X10_7 (v := .int (nI c.men)) O rfl dX10_up_73 0 rfl rfl ?_
      refine v_imul O dX10_up_76 ?_
      refine v_top (y := nI (c.men ^ (n + 1))) (pk_mul (c.men ^ n) c.men) ?_
      refine v_istore (lv' := [(0, .ref mo), (1, .int (nI d)), (2, .int (nI zw)), (3, .int (-1)), (4, .int (nI fd)), (5, .int ans), (6, .int (nI (c.men ^ (n + 1)))), (7, .int (nI (n + 1)))]) O dX10_up_77 (by decide) rfl ?_
      refine v_iconst (v := 0) O dX10_up_79 (by decide) ?_
      refine v_istore (lv' := [(0, .ref mo), (1, .int (nI d)), (2, .int (nI zw)), (3, .int (-1)), (4, .int (nI fd)), (5, .int ans), (6, .int (nI (c.men ^ (n + 1)))), (7, .int (nI (n + 1))), (8, .int 0)]) O dX10_up_80 (by decide) rfl ?_
      refine v_eq (lv' := [(0, .ref mo), (1, .int (nI d)), (2, .int (nI zw)), (3, .int (-1)), (4, .int (nI fd)), (5, .int ans), (6, .int (nI (c.men ^ (n + 1)))), (7, .int (nI (n + 1))), (8, .int (nI 0))]) rfl rfl rfl rfl ?_
      exact l_X10_upIn_0 O hC hB9 hM hva hdu hw (by omega) (fun fd ans zs_25 zs_26 zs_27 pf up h1 => ih (n + 1) (by omega) fd ans zs_25 zs_26 zs_27 pf up h1) (c.men ^ (n + 1)) 0 (by omega) _ _ _ _ _ _ _ (by rw [hfd]; exact (congrArg List.length (List.append_nil _)).symm)
set_option maxRecDepth 100000 in
set_option maxHeartbeats 4000000 in
theorem sp_X10_up_4 {D : G} {mo : Nat} {ma : Nat → Nat} {c : CS} {c2 : CS} {tk : Int32} {vc : Nat} {ln : Nat} {rn : Nat} {zs_10 : Int32} {zs_11 : Int32} {zs_20 : Int32} {zs_21 : Int32} {zs_22 : Int32} {zs_25 : Int32} {zs_26 : Int32} {zs_27 : Int32} {zs_29 : Int32} {d : Nat} {zw : Nat} {wd : Nat → Int32} {nu : Nat → Int32} {fr : Nat → Int32} {tt9 : Nat → Int32} {sf : Nat → Int32} {cls : Nat → Int32} {pf : Nat → Int32} {up : Nat → Int32} {bg : Nat} {bn : Nat} {v : VS} (hC : cOk c) (hB9 : hB c.held cls bg bn) (hM : MR wd nu fr tt9 sf bg bn v) (hva : vAsk v) (hdu : d < 10000) (hw : zw < 10000) : Sp D mX10_up 30 0 0 [.ref mo, .int (nI d), .int (nI zw), .int (-1)] [(mo, .inr (10, M1R ma (mZ c c2 tk vc ln rn zs_10 zs_11 zs_20 zs_21 zs_22 zs_25 zs_26 zs_27 zs_29))), ((ma 4), eI D 6 (nF c.kk)), ((ma 5), eI D 6 (nF c.vv)), ((ma 6), eI D 6 c.hd), ((ma 30), eI D 8 (nF c.crf)), ((ma 35), eI D 12 (nF c.bo)), ((ma 13), eI D 6 cls), ((ma 14), eI D 60 wd), ((ma 15), eI D 60 nu), ((ma 16), eI D 60 fr), ((ma 17), eI D 60 tt9), ((ma 18), eI D 600 sf), ((ma 24), eZ D 100 pf), ((ma 32), eI D 6 up)] (fun r w => ∃ zs2_10 : Int32, ∃ zs2_11 : Int32, ∃ zs2_20 : Int32, ∃ zs2_21 : Int32, ∃ zs2_22 : Int32, ∃ zs2_25 : Int32, ∃ zs2_26 : Int32, ∃ zs2_27 : Int32, ∃ zs2_29 : Int32, ∃ pf2 : Nat → Int32, ∃ up2 : Nat → Int32, r = some (.int (nI ((upA c v d zw).1))) ∧ w = [(mo, .inr (10, M1R ma (mZ c c2 tk vc ln rn zs2_10 zs2_11 zs2_20 zs2_21 zs2_22 zs2_25 zs2_26 zs2_27 zs2_29))), ((ma 4), eI D 6 (nF c.kk)), ((ma 5), eI D 6 (nF c.vv)), ((ma 6), eI D 6 c.hd), ((ma 30), eI D 8 (nF c.crf)), ((ma 35), eI D 12 (nF c.bo)), ((ma 13), eI D 6 cls), ((ma 14), eI D 60 wd), ((ma 15), eI D 60 nu), ((ma 16), eI D 60 fr), ((ma 17), eI D 60 tt9), ((ma 18), eI D 600 sf), ((ma 24), eZ D 100 pf2), ((ma 32), eI D 6 up2)]) := by
  refine Sp.of (by decide) (Nat.le_of_ble_eq_true rfl) (fun X O T => ?_)
  refine v_eq (lv' := [(0, .ref mo), (1, .int (nI d)), (2, .int (nI zw)), (3, .int (-1))]) rfl rfl rfl rfl ?_
  have z_m := hC.1
  have z_hp := hC.2.2.2.1
  have z_wk := hC.2.2.2.2.1
  refine v_aload_n O dX10_up_0 0 rfl ?_
  refine v_iload_n O dX10_up_1 3 rfl ?_
  refine v_iconst (v := -1) O dX10_up_2 (by decide) ?_
  refine v_iconst (v := 5) O dX10_up_3 (by decide) ?_
  refine v_cV (T := TX10) (ci := 10) (As := [.int (-1), .int (-1), .int 5]) (wr := [(mo, .inr (10, M1R ma (mZ c c2 tk vc ln rn zs_10 zs_11 zs_20 zs_21 zs_22 zs_25 zs_26 zs_27 zs_29))), ((ma 4), eI D 6 (nF c.kk)), ((ma 5), eI D 6 (nF c.vv)), ((ma 6), eI D 6 c.hd), ((ma 30), eI D 8 (nF c.crf)), ((ma 35), eI D 12 (nF c.bo)), ((ma 13), eI D 6 cls), ((ma 14), eI D 60 wd), ((ma 15), eI D 60 nu), ((ma 16), eI D 60 fr), ((ma 17), eI D 60 tt9), ((ma 18), eI D 600 sf), ((ma 24), eZ D 100 pf), ((ma 32), eI D 6 up)]) (st := []) O cf_X10_179 rfl (sp_X10_in_m1_5 (mo := mo) (x := (-1)) ) dX10_up_4 rfl rfl 0 rfl [] [0, 1, 2, 3, 4, 5, 6, 7, 8, 9, 10, 11, 12, 13] (by decide) rfl rfl (by decide) (by decide) (by decide) (Nat.le_of_ble_eq_true rfl) (by decide) (by decide) (fun r_2 w_3 h_1 => ?_)
  obtain ⟨rfl, rfl⟩ := h_1
  refine v_eq (st' := [.int (b2i (-1 ≤ (-1) ∧ (-1) ≤ 5))]) (ws' := [(mo, .inr (10, M1R ma (mZ c c2 tk vc ln rn zs_10 zs_11 zs_20 zs_21 zs_22 zs_25 zs_26 zs_27 zs_29))), ((ma 4), eI D 6 (nF c.kk)), ((ma 5), eI D 6 (nF c.vv)), ((ma 6), eI D 6 c.hd), ((ma 30), eI D 8 (nF c.crf)), ((ma 35), eI D 12 (nF c.bo)), ((ma 13), eI D 6 cls), ((ma 14), eI D 60 wd), ((ma 15), eI D 60 nu), ((ma 16), eI D 60 fr), ((ma 17), eI D 60 tt9), ((ma 18), eI D 600 sf), ((ma 24), eZ D 100 pf), ((ma 32), eI D 6 up)]) rfl rfl rfl rfl ?_
  refine v_if_ne O 12 dX10_up_7 (by decide) (fun z1 => ?_) (fun z1 => ?_)
  · skip
    have z1 := b2i_1.mp z1
    refine v_aload_n O dX10_up_12 0 rfl ?_
    refine v_iload_n O dX10_up_13 1 rfl ?_
    refine v_iconst (v := 0) O dX10_up_14 (by decide) ?_
    refine v_sipush (v := 9999) O dX10_up_15 (by decide) ?_
    refine v_cV (T := TX10) (ci := 10) (As := [.int (nI d), .int 0, .int 9999]) (wr := [(mo, .inr (10, M1R ma (mZ c c2 tk vc ln rn zs_10 zs_11 zs_20 zs_21 zs_22 zs_25 zs_26 zs_27 zs_29))), ((ma 4), eI D 6 (nF c.kk)), ((ma 5), eI D 6 (nF c.vv)), ((ma 6), eI D 6 c.hd), ((ma 30), eI D 8 (nF c.crf)), ((ma 35), eI D 12 (nF c.bo)), ((ma 13), eI D 6 cls), ((ma 14), eI D 60 wd), ((ma 15), eI D 60 nu), ((ma 16), eI D 60 fr), ((ma 17), eI D 60 tt9), ((ma 18), eI D 600 sf), ((ma 24), eZ D 100 pf), ((ma 32), eI D 6 up)]) (st := []) O cf_X10_179 rfl (sp_X10_in_0 (mo := mo) (x := (nI d)) (h := 9999) (zn := 10000) (rfl) (by decide)) dX10_up_18 rfl rfl 0 rfl [] [0, 1, 2, 3, 4, 5, 6, 7, 8, 9, 10, 11, 12, 13] (by decide) rfl rfl (by decide) (by decide) (by decide) (Nat.le_of_ble_eq_true rfl) (by decide) (by decide) (fun r_5 w_6 h_4 => ?_)
    obtain ⟨rfl, rfl⟩ := h_4
    refine v_eq (st' := [.int (b2i (isIx (nI d) 10000))]) (ws' := [(mo, .inr (10, M1R ma (mZ c c2 tk vc ln rn zs_10 zs_11 zs_20 zs_21 zs_22 zs_25 zs_26 zs_27 zs_29))), ((ma 4), eI D 6 (nF c.kk)), ((ma 5), eI D 6 (nF c.vv)), ((ma 6), eI D 6 c.hd), ((ma 30), eI D 8 (nF c.crf)), ((ma 35), eI D 12 (nF c.bo)), ((ma 13), eI D 6 cls), ((ma 14), eI D 60 wd), ((ma 15), eI D 60 nu), ((ma 16), eI D 60 fr), ((ma 17), eI D 60 tt9), ((ma 18), eI D 600 sf), ((ma 24), eZ D 100 pf), ((ma 32), eI D 6 up)]) rfl rfl rfl rfl ?_
    refine v_if_eq O 36 dX10_up_21 (by decide) (fun z2 => ?_) (fun z2 => ?_)
    · skip
      have z2 := b2i_0.mp z2
      exact absurd ((isIx_nI (by omega) (by omega)).mpr hdu) z2
    · skip
      have z2 := b2i_1.mp z2
      refine v_aload_n O dX10_up_24 0 rfl ?_
      refine v_iload_n O dX10_up_25 2 rfl ?_
      refine v_iconst (v := 0) O dX10_up_26 (by decide) ?_
      refine v_sipush (v := 9999) O dX10_up_27 (by decide) ?_
      refine v_cV (T := TX10) (ci := 10) (As := [.int (nI zw), .int 0, .int 9999]) (wr := [(mo, .inr (10, M1R ma (mZ c c2 tk vc ln rn zs_10 zs_11 zs_20 zs_21 zs_22 zs_25 zs_26 zs_27 zs_29))), ((ma 4), eI D 6 (nF c.kk)), ((ma 5), eI D 6 (nF c.vv)), ((ma 6), eI D 6 c.hd), ((ma 30), eI D 8 (nF c.crf)), ((ma 35), eI D 12 (nF c.bo)), ((ma 13), eI D 6 cls), ((ma 14), eI D 60 wd), ((ma 15), eI D 60 nu), ((ma 16), eI D 60 fr), ((ma 17), eI D 60 tt9), ((ma 18), eI D 600 sf), ((ma 24), eZ D 100 pf), ((ma 32), eI D 6 up)]) (st := []) O cf_X10_179 rfl (sp_X10_in_0 (mo := mo) (x := (nI zw)) (h := 9999) (zn := 10000) (rfl) (by decide)) dX10_up_30 rfl rfl 0 rfl [] [0, 1, 2, 3, 4, 5, 6, 7, 8, 9, 10, 11, 12, 13] (by decide) rfl rfl (by decide) (by decide) (by decide) (Nat.le_of_ble_eq_true rfl) (by decide) (by decide) (fun r_8 w_9 h_7 => ?_)
      obtain ⟨rfl, rfl⟩ := h_7
      refine v_eq (st' := [.int (b2i (isIx (nI zw) 10000))]) (ws' := [(mo, .inr (10, M1R ma (mZ c c2 tk vc ln rn zs_10 zs_11 zs_20 zs_21 zs_22 zs_25 zs_26 zs_27 zs_29))), ((ma 4), eI D 6 (nF c.kk)), ((ma 5), eI D 6 (nF c.vv)), ((ma 6), eI D 6 c.hd), ((ma 30), eI D 8 (nF c.crf)), ((ma 35), eI D 12 (nF c.bo)), ((ma 13), eI D 6 cls), ((ma 14), eI D 60 wd), ((ma 15), eI D 60 nu), ((ma 16), eI D 60 fr), ((ma 17), eI D 60 tt9), ((ma 18), eI D 600 sf), ((ma 24), eZ D 100 pf), ((ma 32), eI D 6 up)]) rfl rfl rfl rfl ?_
      refine v_if_ne O 39 dX10_up_33 (by decide) (fun z3 => ?_) (fun z3 => ?_)
      · skip
        have z3 := b2i_1.mp z3
        refine v_iload_n O dX10_up_39 1 rfl ?_
        refine v_iload_n O dX10_up_40 2 rfl ?_
        refine v_icmp_ne O 48 dX10_up_41 (by decide) (fun z4 => ?_) (fun z4 => ?_)
        · skip
          have z4 := (not_congr (c_eq (x := nI d) (y := nI zw) (a := d) (b := zw) rfl rfl (by omega) (by omega))).mp z4
          refine v_iconst (v := 0) O dX10_up_48 (by decide) ?_
          refine v_istore (lv' := [(0, .ref mo), (1, .int (nI d)), (2, .int (nI zw)), (3, .int (-1)), (4, .int 0)]) O dX10_up_49 (by decide) rfl ?_
          refine v_bipush (v := -5) O dX10_up_51 (by decide) ?_
          refine v_istore (lv' := [(0, .ref mo), (1, .int (nI d)), (2, .int (nI zw)), (3, .int (-1)), (4, .int 0), (5, .int (-5))]) O dX10_up_53 (by decide) rfl ?_
          refine v_iconst (v := 1) O dX10_up_55 (by decide) ?_
          refine v_istore (lv' := [(0, .ref mo), (1, .int (nI d)), (2, .int (nI zw)), (3, .int (-1)), (4, .int 0), (5, .int (-5)), (6, .int 1)]) O dX10_up_56 (by decide) rfl ?_
          refine v_iconst (v := 1) O dX10_up_58 (by decide) ?_
          refine v_istore (lv' := [(0, .ref mo), (1, .int (nI d)), (2, .int (nI zw)), (3, .int (-1)), (4, .int 0), (5, .int (-5)), (6, .int 1), (7, .int 1)]) O dX10_up_59 (by decide) rfl ?_
          refine v_eq (lv' := [(0, .ref mo), (1, .int (nI d)), (2, .int (nI zw)), (3, .int (-1)), (4, .int (nI 0)), (5, .int (-5)), (6, .int (nI (c.men ^ 0))), (7, .int (nI (0 + 1)))]) rfl rfl rfl rfl ?_
          exact l_X10_up_0 O hC hB9 hM hva hdu hw T c.men 0 (by omega) _ _ _ _ _ _ _ (by rw [(show rwL (wakA c v) c.men zw d 0 = [] from if_neg z4)]; rfl)
        · skip
          have z4 := (c_eq (x := nI d) (y := nI zw) (a := d) (b := zw) rfl rfl (by omega) (by omega)).mp z4
          refine v_iconst (v := 1) O dX10_up_44 (by decide) ?_
          refine v_goto O 49 dX10_up_45 (by decide) ?_
          refine v_istore (lv' := [(0, .ref mo), (1, .int (nI d)), (2, .int (nI zw)), (3, .int (-1)), (4, .int 1)]) O dX10_up_49 (by decide) rfl ?_
          refine v_bipush (v := -5) O dX10_up_51 (by decide) ?_
          refine v_istore (lv' := [(0, .ref mo), (1, .int (nI d)), (2, .int (nI zw)), (3, .int (-1)), (4, .int 1), (5, .int (-5))]) O dX10_up_53 (by decide) rfl ?_
          refine v_iconst (v := 1) O dX10_up_55 (by decide) ?_
          refine v_istore (lv' := [(0, .ref mo), (1, .int (nI d)), (2, .int (nI zw)), (3, .int (-1)), (4, .int 1), (5, .int (-5)), (6, .int 1)]) O dX10_up_56 (by decide) rfl ?_
          refine v_iconst (v := 1) O dX10_up_58 (by decide) ?_
          refine v_istore (lv' := [(0, .ref mo), (1, .int (nI d)), (2, .int (nI zw)), (3, .int (-1)), (4, .int 1), (5, .int (-5)), (6, .int 1), (7, .int 1)]) O dX10_up_59 (by decide) rfl ?_
          refine v_eq (lv' := [(0, .ref mo), (1, .int (nI d)), (2, .int (nI zw)), (3, .int (-1)), (4, .int (nI 1)), (5, .int (-5)), (6, .int (nI (c.men ^ 0))), (7, .int (nI (0 + 1)))]) rfl rfl rfl rfl ?_
          exact l_X10_up_0 O hC hB9 hM hva hdu hw T c.men 0 (by omega) _ _ _ _ _ _ _ (by rw [(show rwL (wakA c v) c.men zw d 0 = [[]] from if_pos z4)]; rfl)
      · skip
        have z3 := b2i_0.mp z3
        exact absurd ((isIx_nI (by omega) (by omega)).mpr hw) z3
  · skip
    have z1 := b2i_0.mp z1
    exact absurd ⟨by decide, by decide⟩ z1
set_option maxRecDepth 100000 in
set_option maxHeartbeats 4000000 in
theorem sp_X10_up_5 {D : G} {mo : Nat} {ma : Nat → Nat} {c : CS} {c2 : CS} {tk : Int32} {vc : Nat} {ln : Nat} {rn : Nat} {zs_10 : Int32} {zs_11 : Int32} {zs_20 : Int32} {zs_21 : Int32} {zs_22 : Int32} {zs_25 : Int32} {zs_26 : Int32} {zs_27 : Int32} {zs_29 : Int32} {d : Int32} {zw : Int32} {k : Nat} (hk : k < 6) (hdu : ¬ isIx d 10000) : Sp D mX10_up 30 0 0 [.ref mo, .int d, .int zw, .int (nI k)] [(mo, .inr (10, M1R ma (mZ c c2 tk vc ln rn zs_10 zs_11 zs_20 zs_21 zs_22 zs_25 zs_26 zs_27 zs_29)))] (fun r w => ∃ zs2_10 : Int32, ∃ zs2_11 : Int32, ∃ zs2_20 : Int32, ∃ zs2_21 : Int32, ∃ zs2_22 : Int32, ∃ zs2_25 : Int32, ∃ zs2_26 : Int32, ∃ zs2_27 : Int32, ∃ zs2_29 : Int32, r = some (.int (-2)) ∧ w = [(mo, .inr (10, M1R ma (mZ c c2 tk vc ln rn zs2_10 zs2_11 zs2_20 zs2_21 zs2_22 zs2_25 zs2_26 zs2_27 zs2_29)))]) := by
  refine Sp.of (by decide) (Nat.le_of_ble_eq_true rfl) (fun X O T => ?_)
  refine v_eq (lv' := [(0, .ref mo), (1, .int d), (2, .int zw), (3, .int (nI k))]) rfl rfl rfl rfl ?_
  refine v_aload_n O dX10_up_0 0 rfl ?_
  refine v_iload_n O dX10_up_1 3 rfl ?_
  refine v_iconst (v := -1) O dX10_up_2 (by decide) ?_
  refine v_iconst (v := 5) O dX10_up_3 (by decide) ?_
  refine v_cV (T := TX10) (ci := 10) (As := [.int (nI k), .int (-1), .int 5]) (wr := [(mo, .inr (10, M1R ma (mZ c c2 tk vc ln rn zs_10 zs_11 zs_20 zs_21 zs_22 zs_25 zs_26 zs_27 zs_29)))]) (st := []) O cf_X10_179 rfl (sp_X10_in_m1_5 (mo := mo) (x := (nI k)) ) dX10_up_4 rfl rfl 0 rfl [] [0] (by decide) rfl rfl (by decide) (by decide) (by decide) (Nat.le_of_ble_eq_true rfl) (by decide) (by decide) (fun r_2 w_3 h_1 => ?_)
  obtain ⟨rfl, rfl⟩ := h_1
  refine v_eq (st' := [.int (b2i (-1 ≤ (nI k) ∧ (nI k) ≤ 5))]) (ws' := [(mo, .inr (10, M1R ma (mZ c c2 tk vc ln rn zs_10 zs_11 zs_20 zs_21 zs_22 zs_25 zs_26 zs_27 zs_29)))]) rfl rfl rfl rfl ?_
  refine v_if_ne O 12 dX10_up_7 (by decide) (fun z1 => ?_) (fun z1 => ?_)
  · skip
    have z1 := b2i_1.mp z1
    refine v_aload_n O dX10_up_12 0 rfl ?_
    refine v_iload_n O dX10_up_13 1 rfl ?_
    refine v_iconst (v := 0) O dX10_up_14 (by decide) ?_
    refine v_sipush (v := 9999) O dX10_up_15 (by decide) ?_
    refine v_cV (T := TX10) (ci := 10) (As := [.int d, .int 0, .int 9999]) (wr := [(mo, .inr (10, M1R ma (mZ c c2 tk vc ln rn zs_10 zs_11 zs_20 zs_21 zs_22 zs_25 zs_26 zs_27 zs_29)))]) (st := []) O cf_X10_179 rfl (sp_X10_in_0 (mo := mo) (x := d) (h := 9999) (zn := 10000) (rfl) (by decide)) dX10_up_18 rfl rfl 0 rfl [] [0] (by decide) rfl rfl (by decide) (by decide) (by decide) (Nat.le_of_ble_eq_true rfl) (by decide) (by decide) (fun r_5 w_6 h_4 => ?_)
    obtain ⟨rfl, rfl⟩ := h_4
    refine v_eq (st' := [.int (b2i (isIx d 10000))]) (ws' := [(mo, .inr (10, M1R ma (mZ c c2 tk vc ln rn zs_10 zs_11 zs_20 zs_21 zs_22 zs_25 zs_26 zs_27 zs_29)))]) rfl rfl rfl rfl ?_
    refine v_if_eq O 36 dX10_up_21 (by decide) (fun z2 => ?_) (fun z2 => ?_)
    · skip
      have z2 := b2i_0.mp z2
      refine v_bipush (v := -2) O dX10_up_36 (by decide) ?_
      exact v_ireturn O T rfl rfl (by decide) (by decide) dX10_up_38 (⟨zs_10, zs_11, zs_20, zs_21, zs_22, zs_25, zs_26, zs_27, zs_29, rfl, rfl⟩)
    · skip
      have z2 := b2i_1.mp z2
      exact absurd z2 hdu
  · skip
    have z1 := b2i_0.mp z1
    exact absurd ⟨Int32.le_trans (show (-1 : Int32) ≤ 0 by decide) (Int32.not_lt.mp (nI_pos (by omega))), (c_le (x := nI k) (y := 5) (b := 5) rfl rfl (by omega) (by omega)).mpr (by omega)⟩ z1
set_option maxRecDepth 100000 in
set_option maxHeartbeats 4000000 in
theorem sp_X10_up_6 {D : G} {mo : Nat} {ma : Nat → Nat} {c : CS} {c2 : CS} {tk : Int32} {vc : Nat} {ln : Nat} {rn : Nat} {zs_10 : Int32} {zs_11 : Int32} {zs_20 : Int32} {zs_21 : Int32} {zs_22 : Int32} {zs_25 : Int32} {zs_26 : Int32} {zs_27 : Int32} {zs_29 : Int32} {d : Nat} {zw : Int32} {k : Nat} (hk : k < 6) (hdu : d < 10000) (hw : ¬ isIx zw 10000) : Sp D mX10_up 30 0 0 [.ref mo, .int (nI d), .int zw, .int (nI k)] [(mo, .inr (10, M1R ma (mZ c c2 tk vc ln rn zs_10 zs_11 zs_20 zs_21 zs_22 zs_25 zs_26 zs_27 zs_29)))] (fun r w => ∃ zs2_10 : Int32, ∃ zs2_11 : Int32, ∃ zs2_20 : Int32, ∃ zs2_21 : Int32, ∃ zs2_22 : Int32, ∃ zs2_25 : Int32, ∃ zs2_26 : Int32, ∃ zs2_27 : Int32, ∃ zs2_29 : Int32, r = some (.int (-2)) ∧ w = [(mo, .inr (10, M1R ma (mZ c c2 tk vc ln rn zs2_10 zs2_11 zs2_20 zs2_21 zs2_22 zs2_25 zs2_26 zs2_27 zs2_29)))]) := by
  refine Sp.of (by decide) (Nat.le_of_ble_eq_true rfl) (fun X O T => ?_)
  refine v_eq (lv' := [(0, .ref mo), (1, .int (nI d)), (2, .int zw), (3, .int (nI k))]) rfl rfl rfl rfl ?_
  refine v_aload_n O dX10_up_0 0 rfl ?_
  refine v_iload_n O dX10_up_1 3 rfl ?_
  refine v_iconst (v := -1) O dX10_up_2 (by decide) ?_
  refine v_iconst (v := 5) O dX10_up_3 (by decide) ?_
  refine v_cV (T := TX10) (ci := 10) (As := [.int (nI k), .int (-1), .int 5]) (wr := [(mo, .inr (10, M1R ma (mZ c c2 tk vc ln rn zs_10 zs_11 zs_20 zs_21 zs_22 zs_25 zs_26 zs_27 zs_29)))]) (st := []) O cf_X10_179 rfl (sp_X10_in_m1_5 (mo := mo) (x := (nI k)) ) dX10_up_4 rfl rfl 0 rfl [] [0] (by decide) rfl rfl (by decide) (by decide) (by decide) (Nat.le_of_ble_eq_true rfl) (by decide) (by decide) (fun r_2 w_3 h_1 => ?_)
  obtain ⟨rfl, rfl⟩ := h_1
  refine v_eq (st' := [.int (b2i (-1 ≤ (nI k) ∧ (nI k) ≤ 5))]) (ws' := [(mo, .inr (10, M1R ma (mZ c c2 tk vc ln rn zs_10 zs_11 zs_20 zs_21 zs_22 zs_25 zs_26 zs_27 zs_29)))]) rfl rfl rfl rfl ?_
  refine v_if_ne O 12 dX10_up_7 (by decide) (fun z1 => ?_) (fun z1 => ?_)
  · skip
    have z1 := b2i_1.mp z1
    refine v_aload_n O dX10_up_12 0 rfl ?_
    refine v_iload_n O dX10_up_13 1 rfl ?_
    refine v_iconst (v := 0) O dX10_up_14 (by decide) ?_
    refine v_sipush (v := 9999) O dX10_up_15 (by decide) ?_
    refine v_cV (T := TX10) (ci := 10) (As := [.int (nI d), .int 0, .int 9999]) (wr := [(mo, .inr (10, M1R ma (mZ c c2 tk vc ln rn zs_10 zs_11 zs_20 zs_21 zs_22 zs_25 zs_26 zs_27 zs_29)))]) (st := []) O cf_X10_179 rfl (sp_X10_in_0 (mo := mo) (x := (nI d)) (h := 9999) (zn := 10000) (rfl) (by decide)) dX10_up_18 rfl rfl 0 rfl [] [0] (by decide) rfl rfl (by decide) (by decide) (by decide) (Nat.le_of_ble_eq_true rfl) (by decide) (by decide) (fun r_5 w_6 h_4 => ?_)
    obtain ⟨rfl, rfl⟩ := h_4
    refine v_eq (st' := [.int (b2i (isIx (nI d) 10000))]) (ws' := [(mo, .inr (10, M1R ma (mZ c c2 tk vc ln rn zs_10 zs_11 zs_20 zs_21 zs_22 zs_25 zs_26 zs_27 zs_29)))]) rfl rfl rfl rfl ?_
    refine v_if_eq O 36 dX10_up_21 (by decide) (fun z2 => ?_) (fun z2 => ?_)
    · skip
      have z2 := b2i_0.mp z2
      exact absurd ((isIx_nI (by omega) (by omega)).mpr hdu) z2
    · skip
      have z2 := b2i_1.mp z2
      refine v_aload_n O dX10_up_24 0 rfl ?_
      refine v_iload_n O dX10_up_25 2 rfl ?_
      refine v_iconst (v := 0) O dX10_up_26 (by decide) ?_
      refine v_sipush (v := 9999) O dX10_up_27 (by decide) ?_
      refine v_cV (T := TX10) (ci := 10) (As := [.int zw, .int 0, .int 9999]) (wr := [(mo, .inr (10, M1R ma (mZ c c2 tk vc ln rn zs_10 zs_11 zs_20 zs_21 zs_22 zs_25 zs_26 zs_27 zs_29)))]) (st := []) O cf_X10_179 rfl (sp_X10_in_0 (mo := mo) (x := zw) (h := 9999) (zn := 10000) (rfl) (by decide)) dX10_up_30 rfl rfl 0 rfl [] [0] (by decide) rfl rfl (by decide) (by decide) (by decide) (Nat.le_of_ble_eq_true rfl) (by decide) (by decide) (fun r_8 w_9 h_7 => ?_)
      obtain ⟨rfl, rfl⟩ := h_7
      refine v_eq (st' := [.int (b2i (isIx zw 10000))]) (ws' := [(mo, .inr (10, M1R ma (mZ c c2 tk vc ln rn zs_10 zs_11 zs_20 zs_21 zs_22 zs_25 zs_26 zs_27 zs_29)))]) rfl rfl rfl rfl ?_
      refine v_if_ne O 39 dX10_up_33 (by decide) (fun z3 => ?_) (fun z3 => ?_)
      · skip
        have z3 := b2i_1.mp z3
        exact absurd z3 hw
      · skip
        have z3 := b2i_0.mp z3
        refine v_bipush (v := -2) O dX10_up_36 (by decide) ?_
        exact v_ireturn O T rfl rfl (by decide) (by decide) dX10_up_38 (⟨zs_10, zs_11, zs_20, zs_21, zs_22, zs_25, zs_26, zs_27, zs_29, rfl, rfl⟩)
  · skip
    have z1 := b2i_0.mp z1
    exact absurd ⟨Int32.le_trans (show (-1 : Int32) ≤ 0 by decide) (Int32.not_lt.mp (nI_pos (by omega))), (c_le (x := nI k) (y := 5) (b := 5) rfl rfl (by omega) (by omega)).mpr (by omega)⟩ z1
set_option maxRecDepth 100000 in
set_option maxHeartbeats 4000000 in
theorem l_X10_upIn_1 {D : G} {X : CX} {mo : Nat} {ma : Nat → Nat} {c : CS} {c2 : CS} {tk : Int32} {vc : Nat} {ln : Nat} {rn : Nat} {zs_10 : Int32} {zs_11 : Int32} {zs_20 : Int32} {zs_21 : Int32} {zs_22 : Int32} {zs_29 : Int32} {d : Nat} {zw : Nat} {k : Nat} {wd : Nat → Int32} {nu : Nat → Int32} {fr : Nat → Int32} {tt9 : Nat → Int32} {sf : Nat → Int32} {cls : Nat → Int32} {bg : Nat} {bn : Nat} {v : VS} {n : Nat} (O : Ok D X mX10_up 30 0 0) (hC : cOk c) (hB9 : hB c.held cls bg bn) (hM : MR wd nu fr tt9 sf bg bn v) (hva : vAsk v) (hk : k < 6) (hdu : d < 10000) (hw : zw < 10000) (hnm : n < c.men) (K : ∀ (fd : Nat) (ans : Int32), ∀ (zs_25 zs_26 zs_27 : Int32) (pf up : Nat → Int32), fd = (rwL (wakA c v) c.men zw d (n + 1)).length → ans = kAt (rwL (wakA c v) c.men zw d (n + 1)).head? k → V D X 0 0 61 [(0, .ref mo), (1, .int (nI d)), (2, .int (nI zw)), (3, .int (nI k)), (4, .int (nI fd)), (5, .int ans), (6, .int (nI (c.men ^ (n + 1)))), (7, .int (nI (n + 1 + 1)))] [] [(mo, .inr (10, M1R ma (mZ c c2 tk vc ln rn zs_10 zs_11 zs_20 zs_21 zs_22 zs_25 zs_26 zs_27 zs_29))), ((ma 4), eI D 6 (nF c.kk)), ((ma 5), eI D 6 (nF c.vv)), ((ma 6), eI D 6 c.hd), ((ma 30), eI D 8 (nF c.crf)), ((ma 35), eI D 12 (nF c.bo)), ((ma 13), eI D 6 cls), ((ma 14), eI D 60 wd), ((ma 15), eI D 60 nu), ((ma 16), eI D 60 fr), ((ma 17), eI D 60 tt9), ((ma 18), eI D 600 sf), ((ma 24), eZ D 100 pf), ((ma 32), eI D 6 up)]) : ∀ (t code : Nat), code + t = c.men ^ (n + 1) → ∀ (fd : Nat) (ans : Int32), ∀ (zs_25 zs_26 zs_27 : Int32) (pf up : Nat → Int32), fd = (rwL (wakA c v) c.men zw d n ++ selN (okM (wakA c v) zw d) c.men (n + 1) code).length → ans = kAt (rwL (wakA c v) c.men zw d n ++ selN (okM (wakA c v) zw d) c.men (n + 1) code).head? k → V D X 0 0 82 [(0, .ref mo), (1, .int (nI d)), (2, .int (nI zw)), (3, .int (nI k)), (4, .int (nI fd)), (5, .int ans), (6, .int (nI (c.men ^ (n + 1)))), (7, .int (nI (n + 1))), (8, .int (nI code))] [] [(mo, .inr (10, M1R ma (mZ c c2 tk vc ln rn zs_10 zs_11 zs_20 zs_21 zs_22 zs_25 zs_26 zs_27 zs_29))), ((ma 4), eI D 6 (nF c.kk)), ((ma 5), eI D 6 (nF c.vv)), ((ma 6), eI D 6 c.hd), ((ma 30), eI D 8 (nF c.crf)), ((ma 35), eI D 12 (nF c.bo)), ((ma 13), eI D 6 cls), ((ma 14), eI D 60 wd), ((ma 15), eI D 60 nu), ((ma 16), eI D 60 fr), ((ma 17), eI D 60 tt9), ((ma 18), eI D 600 sf), ((ma 24), eZ D 100 pf), ((ma 32), eI D 6 up)] := by
  intro t
  induction t with
  | zero =>
    intro code hct fd ans zs_25 zs_26 zs_27 pf up hfd han
    have z_m := hC.1
    have z_hp := hC.2.2.2.1
    have z_wk := hC.2.2.2.2.1
    have z_pw := pw6 (n := n + 1) hC.1 (by omega)
    have z_fl : fd ≤ 1 + n * 46656 + 46656 := by rw [hfd, List.length_append]; exact Nat.add_le_add (cRow_len hC.1 n (by omega)) (Nat.le_trans (sel_len code) (by omega))
    refine v_iload O dX10_up_82 8 rfl ?_
    refine v_iload O dX10_up_84 6 rfl ?_
    refine v_icmp_ge O 151 dX10_up_86 (by decide) (fun z0 => ?_) (fun z0 => ?_)
    · skip
      have z0 := (c_le' (x := nI code) (y := nI (c.men ^ (n + 1))) (a := code) (b := (c.men ^ (n + 1))) rfl rfl (by omega) (by omega)).mp z0
      refine v_iinc (v := nI ((n + 1) + 1)) (lv' := [(0, .ref mo), (1, .int (nI d)), (2, .int (nI zw)), (3, .int (nI k)), (4, .int (nI fd)), (5, .int ans), (6, .int (nI (c.men ^ (n + 1)))), (7, .int (nI ((n + 1) + 1))), (8, .int (nI code))]) O dX10_up_151 7 rfl (nI_1 (n + 1)) (by decide) rfl ?_
      refine v_goto O 61 dX10_up_154 (by decide) ?_
      refine v_lvp (lv' := [(0, .ref mo), (1, .int (nI d)), (2, .int (nI zw)), (3, .int (nI k)), (4, .int (nI fd)), (5, .int ans), (6, .int (nI (c.men ^ (n + 1)))), (7, .int (nI ((n + 1) + 1)))]) [0, 1, 2, 3, 4, 5, 6, 7] rfl ?_
      exact K _ _ _ _ _ _ _ (by rw [hfd, show code = c.men ^ (n + 1) by omega]; rfl) (by rw [han, show code = c.men ^ (n + 1) by omega]; rfl)
    · skip
      have z0 := (not_congr (c_le' (x := nI code) (y := nI (c.men ^ (n + 1))) (a := code) (b := (c.men ^ (n + 1))) rfl rfl (by omega) (by omega))).mp z0
      exact absurd z0 (by omega)
  | succ t ih =>
    intro code hct fd ans zs_25 zs_26 zs_27 pf up hfd han
    have z_m := hC.1
    have z_hp := hC.2.2.2.1
    have z_wk := hC.2.2.2.2.1
    have z_pw := pw6 (n := n + 1) hC.1 (by omega)
    have z_fl : fd ≤ 1 + n * 46656 + 46656 := by rw [hfd, List.length_append]; exact Nat.add_le_add (cRow_len hC.1 n (by omega)) (Nat.le_trans (sel_len code) (by omega))
    refine v_iload O dX10_up_82 8 rfl ?_
    refine v_iload O dX10_up_84 6 rfl ?_
    refine v_icmp_ge O 151 dX10_up_86 (by decide) (fun z0 => ?_) (fun z0 => ?_)
    · skip
      have z0 := (c_le' (x := nI code) (y := nI (c.men ^ (n + 1))) (a := code) (b := (c.men ^ (n + 1))) rfl rfl (by omega) (by omega)).mp z0
      exact absurd z0 (by omega)
    · skip
      have z0 := (not_congr (c_le' (x := nI code) (y := nI (c.men ^ (n + 1))) (a := code) (b := (c.men ^ (n + 1))) rfl rfl (by omega) (by omega))).mp z0
      refine v_aload_n O dX10_up_89 0 rfl ?_
      refine v_iload O dX10_up_90 7 rfl ?_
      refine v_iload O dX10_up_92 8 rfl ?_
      refine v_cV (T := TX10) (ci := 10) (As := [.int (nI (n + 1)), .int (nI code)]) (wr := [((ma 4), eI D 6 (nF c.kk)), ((ma 5), eI D 6 (nF c.vv)), ((ma 6), eI D 6 c.hd), ((ma 30), eI D 8 (nF c.crf)), ((ma 35), eI D 12 (nF c.bo)), ((ma 13), eI D 6 cls), ((ma 14), eI D 60 wd), ((ma 15), eI D 60 nu), ((ma 16), eI D 60 fr), ((ma 17), eI D 60 tt9), ((ma 18), eI D 600 sf), ((ma 24), eZ D 100 pf)]) (st := []) O cf_X10_293 rfl (sp_X10_layUp (mo := mo) (ma := ma) (c := c) (c2 := c2) (tk := tk) (vc := vc) (ln := ln) (rn := rn) (zs_10 := zs_10) (zs_11 := zs_11) (zs_20 := zs_20) (zs_21 := zs_21) (zs_22 := zs_22) (zs_25 := zs_25) (zs_26 := zs_26) (zs_27 := zs_27) (zs_29 := zs_29) (up := up) (many := (n + 1)) (code := code) (by omega) (by omega) (by omega) (by omega)) dX10_up_94 rfl rfl 0 rfl [0, 13] [1, 2, 3, 4, 5, 6, 7, 8, 9, 10, 11, 12] (by decide) rfl rfl (by decide) (by decide) (by decide) (Nat.le_of_ble_eq_true rfl) (by decide) (by decide) (fun r_2 w_3 h_1 => ?_)
      obtain ⟨up2_4, rfl, rfl, h_u⟩ := h_1
      refine v_eq (st' := [.int (b2i ((dgs c.men code (n + 1)).Nodup))]) (ws' := [((ma 4), eI D 6 (nF c.kk)), ((ma 5), eI D 6 (nF c.vv)), ((ma 6), eI D 6 c.hd), ((ma 30), eI D 8 (nF c.crf)), ((ma 35), eI D 12 (nF c.bo)), ((ma 13), eI D 6 cls), ((ma 14), eI D 60 wd), ((ma 15), eI D 60 nu), ((ma 16), eI D 60 fr), ((ma 17), eI D 60 tt9), ((ma 18), eI D 600 sf), ((ma 24), eZ D 100 pf), (mo, .inr (10, M1R ma (mZ c c2 tk vc ln rn zs_10 zs_11 zs_20 zs_21 zs_22 zs_25 zs_26 zs_27 zs_29))), ((ma 32), eI D 6 up2_4)]) rfl rfl rfl rfl ?_
      refine v_if_eq O 145 dX10_up_97 (by decide) (fun z5 => ?_) (fun z5 => ?_)
      · skip
        have z5 := b2i_0.mp z5
        have z_ok : ¬ okM (wakA c v) zw d (dgs c.men code (n + 1)) := fun q => z5 q.1
        refine v_iinc (v := nI (code + 1)) (lv' := [(0, .ref mo), (1, .int (nI d)), (2, .int (nI zw)), (3, .int (nI k)), (4, .int (nI fd)), (5, .int ans), (6, .int (nI (c.men ^ (n + 1)))), (7, .int (nI (n + 1))), (8, .int (nI (code + 1)))]) O dX10_up_145 8 rfl (nI_1 code) (by decide) rfl ?_
        refine v_goto O 82 dX10_up_148 (by decide) ?_
        refine v_sub (ws' := [(mo, .inr (10, M1R ma (mZ c c2 tk vc ln rn zs_10 zs_11 zs_20 zs_21 zs_22 zs_25 zs_26 zs_27 zs_29))), ((ma 4), eI D 6 (nF c.kk)), ((ma 5), eI D 6 (nF c.vv)), ((ma 6), eI D 6 c.hd), ((ma 30), eI D 8 (nF c.crf)), ((ma 35), eI D 12 (nF c.bo)), ((ma 13), eI D 6 cls), ((ma 14), eI D 60 wd), ((ma 15), eI D 60 nu), ((ma 16), eI D 60 fr), ((ma 17), eI D 60 tt9), ((ma 18), eI D 600 sf), ((ma 24), eZ D 100 pf), ((ma 32), eI D 6 up2_4)]) [12, 0, 1, 2, 3, 4, 5, 6, 7, 8, 9, 10, 11, 13] (by decide) rfl ?_
        exact ih (code + 1) (by omega) _ _ _ _ _ _ _ (by rw [sel_f z_ok]; exact hfd) (by rw [sel_f z_ok]; exact han)
      · skip
        have z5 := b2i_1.mp z5
        have h_u := h_u z5
        refine v_aload_n O dX10_up_100 0 rfl ?_
        refine v_iload O dX10_up_101 7 rfl ?_
        refine v_iload_n O dX10_up_103 1 rfl ?_
        refine v_iload_n O dX10_up_104 2 rfl ?_
        refine v_cV (T := TX10) (ci := 10) (As := [.int (nI (n + 1)), .int (nI d), .int (nI zw)]) (wr := [((ma 6), eI D 6 c.hd), ((ma 30), eI D 8 (nF c.crf)), ((ma 35), eI D 12 (nF c.bo))]) (st := []) O cf_X10_296 rfl (sp_X10_leadsTo (mo := mo) (ma := ma) (c := c) (c2 := c2) (tk := tk) (vc := vc) (ln := ln) (rn := rn) (zs_10 := zs_10) (zs_11 := zs_11) (zs_20 := zs_20) (zs_21 := zs_21) (zs_22 := zs_22) (zs_25 := zs_25) (zs_26 := zs_26) (zs_27 := zs_27) (zs_29 := zs_29) (wd := wd) (nu := nu) (fr := fr) (tt9 := tt9) (sf := sf) (cls := cls) (pf := pf) (up := up2_4) (bg := bg) (bn := bn) (v := v) (many := (n + 1)) (d := d) (zw := zw) (R := (dgs c.men code (n + 1))) (hB9) (hM) (hC) (hva) (by omega) (by omega) (by omega) (dgs_len _) (fun x hx => by have := dgs_lt (show 0 < c.men by omega) _ x hx; omega) (h_u)) dX10_up_105 rfl rfl 12 rfl [12, 0, 1, 5, 6, 7, 8, 9, 10, 11, 13] [2, 3, 4] (by decide) rfl rfl (by decide) (by decide) (by decide) (Nat.le_of_ble_eq_true rfl) (by decide) (by decide) (fun r_6 w_7 h_5 => ?_)
        obtain ⟨zs2_25_8, zs2_26_9, zs2_27_10, pf2_11, rfl, rfl⟩ := h_5
        refine v_eq (st' := [.int (b2i (ledK (wakA c v) zw (dgs c.men code (n + 1)) d 0))]) (ws' := [((ma 6), eI D 6 c.hd), ((ma 30), eI D 8 (nF c.crf)), ((ma 35), eI D 12 (nF c.bo)), (mo, .inr (10, M1R ma (mZ c c2 tk vc ln rn zs_10 zs_11 zs_20 zs_21 zs_22 zs2_25_8 zs2_26_9 zs2_27_10 zs_29))), ((ma 4), eI D 6 (nF c.kk)), ((ma 5), eI D 6 (nF c.vv)), ((ma 13), eI D 6 cls), ((ma 14), eI D 60 wd), ((ma 15), eI D 60 nu), ((ma 16), eI D 60 fr), ((ma 17), eI D 60 tt9), ((ma 18), eI D 600 sf), ((ma 24), eZ D 100 pf2_11), ((ma 32), eI D 6 up2_4)]) rfl rfl rfl rfl ?_
        refine v_if_ne O 114 dX10_up_108 (by decide) (fun z6 => ?_) (fun z6 => ?_)
        · skip
          have z6 := b2i_1.mp z6
          have z_ok : okM (wakA c v) zw d (dgs c.men code (n + 1)) := ⟨z5, z6⟩
          have e_ok : selN (okM (wakA c v) zw d) c.men (n + 1) (code + 1) = selN (okM (wakA c v) zw d) c.men (n + 1) code ++ [dgs c.men code (n + 1)] := sel_t z_ok
          refine v_iload O dX10_up_114 4 rfl ?_
          refine v_if_ne O 142 dX10_up_116 (by decide) (fun z7 => ?_) (fun z7 => ?_)
          · skip
            have z7 := (not_congr (c_eq (x := nI fd) (y := 0) (a := fd) (b := 0) rfl rfl (by omega) (by omega))).mp z7
            refine v_iinc (v := nI (fd + 1)) (lv' := [(0, .ref mo), (1, .int (nI d)), (2, .int (nI zw)), (3, .int (nI k)), (4, .int (nI (fd + 1))), (5, .int ans), (6, .int (nI (c.men ^ (n + 1)))), (7, .int (nI (n + 1))), (8, .int (nI code))]) O dX10_up_142 4 rfl (nI_1 fd) (by decide) rfl ?_
            refine v_iinc (v := nI (code + 1)) (lv' := [(0, .ref mo), (1, .int (nI d)), (2, .int (nI zw)), (3, .int (nI k)), (4, .int (nI (fd + 1))), (5, .int ans), (6, .int (nI (c.men ^ (n + 1)))), (7, .int (nI (n + 1))), (8, .int (nI (code + 1)))]) O dX10_up_145 8 rfl (nI_1 code) (by decide) rfl ?_
            refine v_goto O 82 dX10_up_148 (by decide) ?_
            refine v_sub (ws' := [(mo, .inr (10, M1R ma (mZ c c2 tk vc ln rn zs_10 zs_11 zs_20 zs_21 zs_22 zs2_25_8 zs2_26_9 zs2_27_10 zs_29))), ((ma 4), eI D 6 (nF c.kk)), ((ma 5), eI D 6 (nF c.vv)), ((ma 6), eI D 6 c.hd), ((ma 30), eI D 8 (nF c.crf)), ((ma 35), eI D 12 (nF c.bo)), ((ma 13), eI D 6 cls), ((ma 14), eI D 60 wd), ((ma 15), eI D 60 nu), ((ma 16), eI D 60 fr), ((ma 17), eI D 60 tt9), ((ma 18), eI D 600 sf), ((ma 24), eZ D 100 pf2_11), ((ma 32), eI D 6 up2_4)]) [3, 4, 5, 0, 1, 2, 6, 7, 8, 9, 10, 11, 12, 13] (by decide) rfl ?_
            exact ih (code + 1) (by omega) _ _ _ _ _ _ _ (by rw [e_ok, ← List.append_assoc, ln_ap, ← hfd]) (by rw [e_ok, ← List.append_assoc, hd_1 (by rw [← hfd]; exact z7)]; exact han)
          · skip
            have z7 := (c_eq (x := nI fd) (y := 0) (a := fd) (b := 0) rfl rfl (by omega) (by omega)).mp z7
            refine v_iload_n O dX10_up_119 3 rfl ?_
            refine v_if_lt O 138 dX10_up_120 (by decide) (fun c_12 => ?_) (fun c_12 => ?_)
            · skip
              have c_12 := (c_lt (x := nI k) (y := 0) (a := k) (b := 0) rfl rfl (by omega) (by omega)).mp c_12
              exact absurd c_12 (by omega)
            · skip
              have c_12 := (not_congr (c_lt (x := nI k) (y := 0) (a := k) (b := 0) rfl rfl (by omega) (by omega))).mp c_12
              refine v_iload_n O dX10_up_123 3 rfl ?_
              refine v_iload O dX10_up_124 7 rfl ?_
              refine v_icmp_ge O 138 dX10_up_126 (by decide) (fun z9 => ?_) (fun z9 => ?_)
              · skip
                have z9 := (c_le' (x := nI k) (y := nI (n + 1)) (a := k) (b := (n + 1)) rfl rfl (by omega) (by omega)).mp z9
                refine v_bipush (v := -5) O dX10_up_138 (by decide) ?_
                refine v_istore (lv' := [(0, .ref mo), (1, .int (nI d)), (2, .int (nI zw)), (3, .int (nI k)), (4, .int (nI fd)), (5, .int (-5)), (6, .int (nI (c.men ^ (n + 1)))), (7, .int (nI (n + 1))), (8, .int (nI code))]) O dX10_up_140 (by decide) rfl ?_
                refine v_iinc (v := nI (fd + 1)) (lv' := [(0, .ref mo), (1, .int (nI d)), (2, .int (nI zw)), (3, .int (nI k)), (4, .int (nI (fd + 1))), (5, .int (-5)), (6, .int (nI (c.men ^ (n + 1)))), (7, .int (nI (n + 1))), (8, .int (nI code))]) O dX10_up_142 4 rfl (nI_1 fd) (by decide) rfl ?_
                refine v_iinc (v := nI (code + 1)) (lv' := [(0, .ref mo), (1, .int (nI d)), (2, .int (nI zw)), (3, .int (nI k)), (4, .int (nI (fd + 1))), (5, .int (-5)), (6, .int (nI (c.men ^ (n + 1)))), (7, .int (nI (n + 1))), (8, .int (nI (code + 1)))]) O dX10_up_145 8 rfl (nI_1 code) (by decide) rfl ?_
                refine v_goto O 82 dX10_up_148 (by decide) ?_
                refine v_sub (ws' := [(mo, .inr (10, M1R ma (mZ c c2 tk vc ln rn zs_10 zs_11 zs_20 zs_21 zs_22 zs2_25_8 zs2_26_9 zs2_27_10 zs_29))), ((ma 4), eI D 6 (nF c.kk)), ((ma 5), eI D 6 (nF c.vv)), ((ma 6), eI D 6 c.hd), ((ma 30), eI D 8 (nF c.crf)), ((ma 35), eI D 12 (nF c.bo)), ((ma 13), eI D 6 cls), ((ma 14), eI D 60 wd), ((ma 15), eI D 60 nu), ((ma 16), eI D 60 fr), ((ma 17), eI D 60 tt9), ((ma 18), eI D 600 sf), ((ma 24), eZ D 100 pf2_11), ((ma 32), eI D 6 up2_4)]) [3, 4, 5, 0, 1, 2, 6, 7, 8, 9, 10, 11, 12, 13] (by decide) rfl ?_
                exact ih (code + 1) (by omega) _ _ _ _ _ _ _ (by rw [e_ok, ← List.append_assoc, ln_ap, ← hfd]) (by rw [e_ok, ← List.append_assoc, hd_2 (by rw [← hfd]; omega)]; show _ = (if k < (dgs c.men code (n + 1)).length then nI ((dgs c.men code (n + 1)).getD k 0) else -5); rw [dgs_len, if_neg (by omega)])
              · skip
                have z9 := (not_congr (c_le' (x := nI k) (y := nI (n + 1)) (a := k) (b := (n + 1)) rfl rfl (by omega) (by omega))).mp z9
                refine v_aload_n O dX10_up_129 0 rfl ?_
                refine gf_X10_108 (v := .ref (ma 32)) O rfl dX10_up_130 3 rfl rfl ?_
                refine v_iload_n O dX10_up_133 3 rfl ?_
                refine v_ialdk O dX10_up_134 13 rfl k rfl (by omega) (by decide) ?_
                refine v_top (y := nI ((dgs c.men code (n + 1)).getD k 0)) (h_u k (by omega)) ?_
                refine v_goto O 140 dX10_up_135 (by decide) ?_
                refine v_istore (lv' := [(0, .ref mo), (1, .int (nI d)), (2, .int (nI zw)), (3, .int (nI k)), (4, .int (nI fd)), (5, .int (nI ((dgs c.men code (n + 1)).getD k 0))), (6, .int (nI (c.men ^ (n + 1)))), (7, .int (nI (n + 1))), (8, .int (nI code))]) O dX10_up_140 (by decide) rfl ?_
                refine v_iinc (v := nI (fd + 1)) (lv' := [(0, .ref mo), (1, .int (nI d)), (2, .int (nI zw)), (3, .int (nI k)), (4, .int (nI (fd + 1))), (5, .int (nI ((dgs c.men code (n + 1)).getD k 0))), (6, .int (nI (c.men ^ (n + 1)))), (7, .int (nI (n + 1))), (8, .int (nI code))]) O dX10_up_142 4 rfl (nI_1 fd) (by decide) rfl ?_
                refine v_iinc (v := nI (code + 1)) (lv' := [(0, .ref mo), (1, .int (nI d)), (2, .int (nI zw)), (3, .int (nI k)), (4, .int (nI (fd + 1))), (5, .int (nI ((dgs c.men code (n + 1)).getD k 0))), (6, .int (nI (c.men ^ (n + 1)))), (7, .int (nI (n + 1))), (8, .int (nI (code + 1)))]) O dX10_up_145 8 rfl (nI_1 code) (by decide) rfl ?_
                refine v_goto O 82 dX10_up_148 (by decide) ?_
                refine v_sub (ws' := [(mo, .inr (10, M1R ma (mZ c c2 tk vc ln rn zs_10 zs_11 zs_20 zs_21 zs_22 zs2_25_8 zs2_26_9 zs2_27_10 zs_29))), ((ma 4), eI D 6 (nF c.kk)), ((ma 5), eI D 6 (nF c.vv)), ((ma 6), eI D 6 c.hd), ((ma 30), eI D 8 (nF c.crf)), ((ma 35), eI D 12 (nF c.bo)), ((ma 13), eI D 6 cls), ((ma 14), eI D 60 wd), ((ma 15), eI D 60 nu), ((ma 16), eI D 60 fr), ((ma 17), eI D 60 tt9), ((ma 18), eI D 600 sf), ((ma 24), eZ D 100 pf2_11), ((ma 32), eI D 6 up2_4)]) [3, 4, 5, 0, 1, 2, 6, 7, 8, 9, 10, 11, 12, 13] (by decide) rfl ?_
                exact ih (code + 1) (by omega) _ _ _ _ _ _ _ (by rw [e_ok, ← List.append_assoc, ln_ap, ← hfd]) (by rw [e_ok, ← List.append_assoc, hd_2 (by rw [← hfd]; omega)]; show _ = (if k < (dgs c.men code (n + 1)).length then nI ((dgs c.men code (n + 1)).getD k 0) else -5); rw [dgs_len, if_pos (by omega)])
        · skip
          have z6 := b2i_0.mp z6
          have z_ok : ¬ okM (wakA c v) zw d (dgs c.men code (n + 1)) := fun q => z6 q.2
          refine v_goto O 145 dX10_up_111 (by decide) ?_
          refine v_iinc (v := nI (code + 1)) (lv' := [(0, .ref mo), (1, .int (nI d)), (2, .int (nI zw)), (3, .int (nI k)), (4, .int (nI fd)), (5, .int ans), (6, .int (nI (c.men ^ (n + 1)))), (7, .int (nI (n + 1))), (8, .int (nI (code + 1)))]) O dX10_up_145 8 rfl (nI_1 code) (by decide) rfl ?_
          refine v_goto O 82 dX10_up_148 (by decide) ?_
          refine v_sub (ws' := [(mo, .inr (10, M1R ma (mZ c c2 tk vc ln rn zs_10 zs_11 zs_20 zs_21 zs_22 zs2_25_8 zs2_26_9 zs2_27_10 zs_29))), ((ma 4), eI D 6 (nF c.kk)), ((ma 5), eI D 6 (nF c.vv)), ((ma 6), eI D 6 c.hd), ((ma 30), eI D 8 (nF c.crf)), ((ma 35), eI D 12 (nF c.bo)), ((ma 13), eI D 6 cls), ((ma 14), eI D 60 wd), ((ma 15), eI D 60 nu), ((ma 16), eI D 60 fr), ((ma 17), eI D 60 tt9), ((ma 18), eI D 600 sf), ((ma 24), eZ D 100 pf2_11), ((ma 32), eI D 6 up2_4)]) [3, 4, 5, 0, 1, 2, 6, 7, 8, 9, 10, 11, 12, 13] (by decide) rfl ?_
          exact ih (code + 1) (by omega) _ _ _ _ _ _ _ (by rw [sel_f z_ok]; exact hfd) (by rw [sel_f z_ok]; exact han)
set_option maxRecDepth 100000 in
set_option maxHeartbeats 4000000 in
theorem l_X10_up_1 {D : G} {X : CX} {mo : Nat} {ma : Nat → Nat} {c : CS} {c2 : CS} {tk : Int32} {vc : Nat} {ln : Nat} {rn : Nat} {zs_10 : Int32} {zs_11 : Int32} {zs_20 : Int32} {zs_21 : Int32} {zs_22 : Int32} {zs_29 : Int32} {d : Nat} {zw : Nat} {k : Nat} {wd : Nat → Int32} {nu : Nat → Int32} {fr : Nat → Int32} {tt9 : Nat → Int32} {sf : Nat → Int32} {cls : Nat → Int32} {bg : Nat} {bn : Nat} {v : VS} (O : Ok D X mX10_up 30 0 0) (hC : cOk c) (hB9 : hB c.held cls bg bn) (hM : MR wd nu fr tt9 sf bg bn v) (hva : vAsk v) (hk : k < 6) (hdu : d < 10000) (hw : zw < 10000) (T : Rt D X (fun r w => ∃ zs2_10 : Int32, ∃ zs2_11 : Int32, ∃ zs2_20 : Int32, ∃ zs2_21 : Int32, ∃ zs2_22 : Int32, ∃ zs2_25 : Int32, ∃ zs2_26 : Int32, ∃ zs2_27 : Int32, ∃ zs2_29 : Int32, ∃ pf2 : Nat → Int32, ∃ up2 : Nat → Int32, r = some (.int (kAt (upA c v d zw).2 k)) ∧ w = [(mo, .inr (10, M1R ma (mZ c c2 tk vc ln rn zs2_10 zs2_11 zs2_20 zs2_21 zs2_22 zs2_25 zs2_26 zs2_27 zs2_29))), ((ma 4), eI D 6 (nF c.kk)), ((ma 5), eI D 6 (nF c.vv)), ((ma 6), eI D 6 c.hd), ((ma 30), eI D 8 (nF c.crf)), ((ma 35), eI D 12 (nF c.bo)), ((ma 13), eI D 6 cls), ((ma 14), eI D 60 wd), ((ma 15), eI D 60 nu), ((ma 16), eI D 60 fr), ((ma 17), eI D 60 tt9), ((ma 18), eI D 600 sf), ((ma 24), eZ D 100 pf2), ((ma 32), eI D 6 up2)]) 0 0) : ∀ (t n : Nat), n + t = c.men → ∀ (fd : Nat) (ans : Int32), ∀ (zs_25 zs_26 zs_27 : Int32) (pf up : Nat → Int32), fd = (rwL (wakA c v) c.men zw d n).length → ans = kAt (rwL (wakA c v) c.men zw d n).head? k → V D X 0 0 61 [(0, .ref mo), (1, .int (nI d)), (2, .int (nI zw)), (3, .int (nI k)), (4, .int (nI fd)), (5, .int ans), (6, .int (nI (c.men ^ n))), (7, .int (nI (n + 1)))] [] [(mo, .inr (10, M1R ma (mZ c c2 tk vc ln rn zs_10 zs_11 zs_20 zs_21 zs_22 zs_25 zs_26 zs_27 zs_29))), ((ma 4), eI D 6 (nF c.kk)), ((ma 5), eI D 6 (nF c.vv)), ((ma 6), eI D 6 c.hd), ((ma 30), eI D 8 (nF c.crf)), ((ma 35), eI D 12 (nF c.bo)), ((ma 13), eI D 6 cls), ((ma 14), eI D 60 wd), ((ma 15), eI D 60 nu), ((ma 16), eI D 60 fr), ((ma 17), eI D 60 tt9), ((ma 18), eI D 600 sf), ((ma 24), eZ D 100 pf), ((ma 32), eI D 6 up)] := by
  intro t
  induction t with
  | zero =>
    intro n hn fd ans zs_25 zs_26 zs_27 pf up hfd han
    have z_m := hC.1
    have z_hp := hC.2.2.2.1
    have z_wk := hC.2.2.2.2.1
    have z_fl : fd ≤ 1 + n * 46656 := by rw [hfd]; exact cRow_len hC.1 n (by omega)
    refine v_iload O dX10_up_61 7 rfl ?_
    refine v_aload_n O dX10_up_63 0 rfl ?_
    refine gf_X10_7 (v := .int (nI c.men)) O rfl dX10_up_64 0 rfl rfl ?_
    refine v_icmp_gt O 157 dX10_up_67 (by decide) (fun z0 => ?_) (fun z0 => ?_)
    · skip
      have z0 := (c_lt' (x := nI (n + 1)) (y := nI c.men) (a := (n + 1)) (b := c.men) rfl rfl (by omega) (by omega)).mp z0
      refine v_iload_n O dX10_up_157 3 rfl ?_
      refine v_if_ge O 166 dX10_up_158 (by decide) (fun y8 => ?_) (fun y8 => ?_)
      · skip
        have y8 := (c_le' (x := nI k) (y := 0) (a := k) (b := 0) rfl rfl (by omega) (by omega)).mp y8
        refine v_iload O dX10_up_166 5 rfl ?_
        exact v_ireturn O T rfl rfl (by decide) (by decide) dX10_up_168 (⟨zs_10, zs_11, zs_20, zs_21, zs_22, zs_25, zs_26, zs_27, zs_29, _, _, by rw [up_ref hC.1, han, show n = c.men by omega], rfl⟩)
      · skip
        have y8 := (not_congr (c_le' (x := nI k) (y := 0) (a := k) (b := 0) rfl rfl (by omega) (by omega))).mp y8
        exact absurd y8 (by omega)
    · skip
      have z0 := (not_congr (c_lt' (x := nI (n + 1)) (y := nI c.men) (a := (n + 1)) (b := c.men) rfl rfl (by omega) (by omega))).mp z0
      exact absurd z0 (by omega)
  | succ t ih =>
    intro n hn fd ans zs_25 zs_26 zs_27 pf up hfd han
    have z_m := hC.1
    have z_hp := hC.2.2.2.1
    have z_wk := hC.2.2.2.2.1
    have z_fl : fd ≤ 1 + n * 46656 := by rw [hfd]; exact cRow_len hC.1 n (by omega)
    refine v_iload O dX10_up_61 7 rfl ?_
    refine v_aload_n O dX10_up_63 0 rfl ?_
    refine gf_X10_7 (v := .int (nI c.men)) O rfl dX10_up_64 0 rfl rfl ?_
    refine v_icmp_gt O 157 dX10_up_67 (by decide) (fun z0 => ?_) (fun z0 => ?_)
    · skip
      have z0 := (c_lt' (x := nI (n + 1)) (y := nI c.men) (a := (n + 1)) (b := c.men) rfl rfl (by omega) (by omega)).mp z0
      exact absurd z0 (by omega)
    · skip
      have z0 := (not_congr (c_lt' (x := nI (n + 1)) (y := nI c.men) (a := (n + 1)) (b := c.men) rfl rfl (by omega) (by omega))).mp z0
      refine v_iload O dX10_up_70 6 rfl ?_
      refine v_aload_n O dX10_up_72 0 rfl ?_
      refine gf_X10_7 (v := .int (nI c.men)) O rfl dX10_up_73 0 rfl rfl ?_
      refine v_imul O dX10_up_76 ?_
      refine v_top (y := nI (c.men ^ (n + 1))) (pk_mul (c.men ^ n) c.men) ?_
      refine v_istore (lv' := [(0, .ref mo), (1, .int (nI d)), (2, .int (nI zw)), (3, .int (nI k)), (4, .int (nI fd)), (5, .int ans), (6, .int (nI (c.men ^ (n + 1)))), (7, .int (nI (n + 1)))]) O dX10_up_77 (by decide) rfl ?_
      refine v_iconst (v := 0) O dX10_up_79 (by decide) ?_
      refine v_istore (lv' := [(0, .ref mo), (1, .int (nI d)), (2, .int (nI zw)), (3, .int (nI k)), (4, .int (nI fd)), (5, .int ans), (6, .int (nI (c.men ^ (n + 1)))), (7, .int (nI (n + 1))), (8, .int 0)]) O dX10_up_80 (by decide) rfl ?_
      refine v_eq (lv' := [(0, .ref mo), (1, .int (nI d)), (2, .int (nI zw)), (3, .int (nI k)), (4, .int (nI fd)), (5, .int ans), (6, .int (nI (c.men ^ (n + 1)))), (7, .int (nI (n + 1))), (8, .int (nI 0))]) rfl rfl rfl rfl ?_
      exact l_X10_upIn_1 O hC hB9 hM hva hk hdu hw (by omega) (fun fd ans zs_25 zs_26 zs_27 pf up h1 h2 => ih (n + 1) (by omega) fd ans zs_25 zs_26 zs_27 pf up h1 h2) (c.men ^ (n + 1)) 0 (by omega) _ _ _ _ _ _ _ (by rw [hfd]; exact (congrArg List.length (List.append_nil _)).symm) (by rw [han]; exact congrArg (fun z => kAt (List.head? z) k) (List.append_nil _).symm)
set_option maxRecDepth 100000 in
set_option maxHeartbeats 4000000 in
theorem sp_X10_up_7 {D : G} {mo : Nat} {ma : Nat → Nat} {c : CS} {c2 : CS} {tk : Int32} {vc : Nat} {ln : Nat} {rn : Nat} {zs_10 : Int32} {zs_11 : Int32} {zs_20 : Int32} {zs_21 : Int32} {zs_22 : Int32} {zs_25 : Int32} {zs_26 : Int32} {zs_27 : Int32} {zs_29 : Int32} {d : Nat} {zw : Nat} {k : Nat} {wd : Nat → Int32} {nu : Nat → Int32} {fr : Nat → Int32} {tt9 : Nat → Int32} {sf : Nat → Int32} {cls : Nat → Int32} {pf : Nat → Int32} {up : Nat → Int32} {bg : Nat} {bn : Nat} {v : VS} (hC : cOk c) (hB9 : hB c.held cls bg bn) (hM : MR wd nu fr tt9 sf bg bn v) (hva : vAsk v) (hk : k < 6) (hdu : d < 10000) (hw : zw < 10000) : Sp D mX10_up 30 0 0 [.ref mo, .int (nI d), .int (nI zw), .int (nI k)] [(mo, .inr (10, M1R ma (mZ c c2 tk vc ln rn zs_10 zs_11 zs_20 zs_21 zs_22 zs_25 zs_26 zs_27 zs_29))), ((ma 4), eI D 6 (nF c.kk)), ((ma 5), eI D 6 (nF c.vv)), ((ma 6), eI D 6 c.hd), ((ma 30), eI D 8 (nF c.crf)), ((ma 35), eI D 12 (nF c.bo)), ((ma 13), eI D 6 cls), ((ma 14), eI D 60 wd), ((ma 15), eI D 60 nu), ((ma 16), eI D 60 fr), ((ma 17), eI D 60 tt9), ((ma 18), eI D 600 sf), ((ma 24), eZ D 100 pf), ((ma 32), eI D 6 up)] (fun r w => ∃ zs2_10 : Int32, ∃ zs2_11 : Int32, ∃ zs2_20 : Int32, ∃ zs2_21 : Int32, ∃ zs2_22 : Int32, ∃ zs2_25 : Int32, ∃ zs2_26 : Int32, ∃ zs2_27 : Int32, ∃ zs2_29 : Int32, ∃ pf2 : Nat → Int32, ∃ up2 : Nat → Int32, r = some (.int (kAt (upA c v d zw).2 k)) ∧ w = [(mo, .inr (10, M1R ma (mZ c c2 tk vc ln rn zs2_10 zs2_11 zs2_20 zs2_21 zs2_22 zs2_25 zs2_26 zs2_27 zs2_29))), ((ma 4), eI D 6 (nF c.kk)), ((ma 5), eI D 6 (nF c.vv)), ((ma 6), eI D 6 c.hd), ((ma 30), eI D 8 (nF c.crf)), ((ma 35), eI D 12 (nF c.bo)), ((ma 13), eI D 6 cls), ((ma 14), eI D 60 wd), ((ma 15), eI D 60 nu), ((ma 16), eI D 60 fr), ((ma 17), eI D 60 tt9), ((ma 18), eI D 600 sf), ((ma 24), eZ D 100 pf2), ((ma 32), eI D 6 up2)]) := by
  refine Sp.of (by decide) (Nat.le_of_ble_eq_true rfl) (fun X O T => ?_)
  refine v_eq (lv' := [(0, .ref mo), (1, .int (nI d)), (2, .int (nI zw)), (3, .int (nI k))]) rfl rfl rfl rfl ?_
  have z_m := hC.1
  have z_hp := hC.2.2.2.1
  have z_wk := hC.2.2.2.2.1
  refine v_aload_n O dX10_up_0 0 rfl ?_
  refine v_iload_n O dX10_up_1 3 rfl ?_
  refine v_iconst (v := -1) O dX10_up_2 (by decide) ?_
  refine v_iconst (v := 5) O dX10_up_3 (by decide) ?_
  refine v_cV (T := TX10) (ci := 10) (As := [.int (nI k), .int (-1), .int 5]) (wr := [(mo, .inr (10, M1R ma (mZ c c2 tk vc ln rn zs_10 zs_11 zs_20 zs_21 zs_22 zs_25 zs_26 zs_27 zs_29))), ((ma 4), eI D 6 (nF c.kk)), ((ma 5), eI D 6 (nF c.vv)), ((ma 6), eI D 6 c.hd), ((ma 30), eI D 8 (nF c.crf)), ((ma 35), eI D 12 (nF c.bo)), ((ma 13), eI D 6 cls), ((ma 14), eI D 60 wd), ((ma 15), eI D 60 nu), ((ma 16), eI D 60 fr), ((ma 17), eI D 60 tt9), ((ma 18), eI D 600 sf), ((ma 24), eZ D 100 pf), ((ma 32), eI D 6 up)]) (st := []) O cf_X10_179 rfl (sp_X10_in_m1_5 (mo := mo) (x := (nI k)) ) dX10_up_4 rfl rfl 0 rfl [] [0, 1, 2, 3, 4, 5, 6, 7, 8, 9, 10, 11, 12, 13] (by decide) rfl rfl (by decide) (by decide) (by decide) (Nat.le_of_ble_eq_true rfl) (by decide) (by decide) (fun r_2 w_3 h_1 => ?_)
  obtain ⟨rfl, rfl⟩ := h_1
  refine v_eq (st' := [.int (b2i (-1 ≤ (nI k) ∧ (nI k) ≤ 5))]) (ws' := [(mo, .inr (10, M1R ma (mZ c c2 tk vc ln rn zs_10 zs_11 zs_20 zs_21 zs_22 zs_25 zs_26 zs_27 zs_29))), ((ma 4), eI D 6 (nF c.kk)), ((ma 5), eI D 6 (nF c.vv)), ((ma 6), eI D 6 c.hd), ((ma 30), eI D 8 (nF c.crf)), ((ma 35), eI D 12 (nF c.bo)), ((ma 13), eI D 6 cls), ((ma 14), eI D 60 wd), ((ma 15), eI D 60 nu), ((ma 16), eI D 60 fr), ((ma 17), eI D 60 tt9), ((ma 18), eI D 600 sf), ((ma 24), eZ D 100 pf), ((ma 32), eI D 6 up)]) rfl rfl rfl rfl ?_
  refine v_if_ne O 12 dX10_up_7 (by decide) (fun z1 => ?_) (fun z1 => ?_)
  · skip
    have z1 := b2i_1.mp z1
    refine v_aload_n O dX10_up_12 0 rfl ?_
    refine v_iload_n O dX10_up_13 1 rfl ?_
    refine v_iconst (v := 0) O dX10_up_14 (by decide) ?_
    refine v_sipush (v := 9999) O dX10_up_15 (by decide) ?_
    refine v_cV (T := TX10) (ci := 10) (As := [.int (nI d), .int 0, .int 9999]) (wr := [(mo, .inr (10, M1R ma (mZ c c2 tk vc ln rn zs_10 zs_11 zs_20 zs_21 zs_22 zs_25 zs_26 zs_27 zs_29))), ((ma 4), eI D 6 (nF c.kk)), ((ma 5), eI D 6 (nF c.vv)), ((ma 6), eI D 6 c.hd), ((ma 30), eI D 8 (nF c.crf)), ((ma 35), eI D 12 (nF c.bo)), ((ma 13), eI D 6 cls), ((ma 14), eI D 60 wd), ((ma 15), eI D 60 nu), ((ma 16), eI D 60 fr), ((ma 17), eI D 60 tt9), ((ma 18), eI D 600 sf), ((ma 24), eZ D 100 pf), ((ma 32), eI D 6 up)]) (st := []) O cf_X10_179 rfl (sp_X10_in_0 (mo := mo) (x := (nI d)) (h := 9999) (zn := 10000) (rfl) (by decide)) dX10_up_18 rfl rfl 0 rfl [] [0, 1, 2, 3, 4, 5, 6, 7, 8, 9, 10, 11, 12, 13] (by decide) rfl rfl (by decide) (by decide) (by decide) (Nat.le_of_ble_eq_true rfl) (by decide) (by decide) (fun r_5 w_6 h_4 => ?_)
    obtain ⟨rfl, rfl⟩ := h_4
    refine v_eq (st' := [.int (b2i (isIx (nI d) 10000))]) (ws' := [(mo, .inr (10, M1R ma (mZ c c2 tk vc ln rn zs_10 zs_11 zs_20 zs_21 zs_22 zs_25 zs_26 zs_27 zs_29))), ((ma 4), eI D 6 (nF c.kk)), ((ma 5), eI D 6 (nF c.vv)), ((ma 6), eI D 6 c.hd), ((ma 30), eI D 8 (nF c.crf)), ((ma 35), eI D 12 (nF c.bo)), ((ma 13), eI D 6 cls), ((ma 14), eI D 60 wd), ((ma 15), eI D 60 nu), ((ma 16), eI D 60 fr), ((ma 17), eI D 60 tt9), ((ma 18), eI D 600 sf), ((ma 24), eZ D 100 pf), ((ma 32), eI D 6 up)]) rfl rfl rfl rfl ?_
    refine v_if_eq O 36 dX10_up_21 (by decide) (fun z2 => ?_) (fun z2 => ?_)
    · skip
      have z2 := b2i_0.mp z2
      exact absurd ((isIx_nI (by omega) (by omega)).mpr hdu) z2
    · skip
      have z2 := b2i_1.mp z2
      refine v_aload_n O dX10_up_24 0 rfl ?_
      refine v_iload_n O dX10_up_25 2 rfl ?_
      refine v_iconst (v := 0) O dX10_up_26 (by decide) ?_
      refine v_sipush (v := 9999) O dX10_up_27 (by decide) ?_
      refine v_cV (T := TX10) (ci := 10) (As := [.int (nI zw), .int 0, .int 9999]) (wr := [(mo, .inr (10, M1R ma (mZ c c2 tk vc ln rn zs_10 zs_11 zs_20 zs_21 zs_22 zs_25 zs_26 zs_27 zs_29))), ((ma 4), eI D 6 (nF c.kk)), ((ma 5), eI D 6 (nF c.vv)), ((ma 6), eI D 6 c.hd), ((ma 30), eI D 8 (nF c.crf)), ((ma 35), eI D 12 (nF c.bo)), ((ma 13), eI D 6 cls), ((ma 14), eI D 60 wd), ((ma 15), eI D 60 nu), ((ma 16), eI D 60 fr), ((ma 17), eI D 60 tt9), ((ma 18), eI D 600 sf), ((ma 24), eZ D 100 pf), ((ma 32), eI D 6 up)]) (st := []) O cf_X10_179 rfl (sp_X10_in_0 (mo := mo) (x := (nI zw)) (h := 9999) (zn := 10000) (rfl) (by decide)) dX10_up_30 rfl rfl 0 rfl [] [0, 1, 2, 3, 4, 5, 6, 7, 8, 9, 10, 11, 12, 13] (by decide) rfl rfl (by decide) (by decide) (by decide) (Nat.le_of_ble_eq_true rfl) (by decide) (by decide) (fun r_8 w_9 h_7 => ?_)
      obtain ⟨rfl, rfl⟩ := h_7
      refine v_eq (st' := [.int (b2i (isIx (nI zw) 10000))]) (ws' := [(mo, .inr (10, M1R ma (mZ c c2 tk vc ln rn zs_10 zs_11 zs_20 zs_21 zs_22 zs_25 zs_26 zs_27 zs_29))), ((ma 4), eI D 6 (nF c.kk)), ((ma 5), eI D 6 (nF c.vv)), ((ma 6), eI D 6 c.hd), ((ma 30), eI D 8 (nF c.crf)), ((ma 35), eI D 12 (nF c.bo)), ((ma 13), eI D 6 cls), ((ma 14), eI D 60 wd), ((ma 15), eI D 60 nu), ((ma 16), eI D 60 fr), ((ma 17), eI D 60 tt9), ((ma 18), eI D 600 sf), ((ma 24), eZ D 100 pf), ((ma 32), eI D 6 up)]) rfl rfl rfl rfl ?_
      refine v_if_ne O 39 dX10_up_33 (by decide) (fun z3 => ?_) (fun z3 => ?_)
      · skip
        have z3 := b2i_1.mp z3
        refine v_iload_n O dX10_up_39 1 rfl ?_
        refine v_iload_n O dX10_up_40 2 rfl ?_
        refine v_icmp_ne O 48 dX10_up_41 (by decide) (fun z4 => ?_) (fun z4 => ?_)
        · skip
          have z4 := (not_congr (c_eq (x := nI d) (y := nI zw) (a := d) (b := zw) rfl rfl (by omega) (by omega))).mp z4
          refine v_iconst (v := 0) O dX10_up_48 (by decide) ?_
          refine v_istore (lv' := [(0, .ref mo), (1, .int (nI d)), (2, .int (nI zw)), (3, .int (nI k)), (4, .int 0)]) O dX10_up_49 (by decide) rfl ?_
          refine v_bipush (v := -5) O dX10_up_51 (by decide) ?_
          refine v_istore (lv' := [(0, .ref mo), (1, .int (nI d)), (2, .int (nI zw)), (3, .int (nI k)), (4, .int 0), (5, .int (-5))]) O dX10_up_53 (by decide) rfl ?_
          refine v_iconst (v := 1) O dX10_up_55 (by decide) ?_
          refine v_istore (lv' := [(0, .ref mo), (1, .int (nI d)), (2, .int (nI zw)), (3, .int (nI k)), (4, .int 0), (5, .int (-5)), (6, .int 1)]) O dX10_up_56 (by decide) rfl ?_
          refine v_iconst (v := 1) O dX10_up_58 (by decide) ?_
          refine v_istore (lv' := [(0, .ref mo), (1, .int (nI d)), (2, .int (nI zw)), (3, .int (nI k)), (4, .int 0), (5, .int (-5)), (6, .int 1), (7, .int 1)]) O dX10_up_59 (by decide) rfl ?_
          refine v_eq (lv' := [(0, .ref mo), (1, .int (nI d)), (2, .int (nI zw)), (3, .int (nI k)), (4, .int (nI 0)), (5, .int (-5)), (6, .int (nI (c.men ^ 0))), (7, .int (nI (0 + 1)))]) rfl rfl rfl rfl ?_
          exact l_X10_up_1 O hC hB9 hM hva hk hdu hw T c.men 0 (by omega) _ _ _ _ _ _ _ (by rw [(show rwL (wakA c v) c.men zw d 0 = [] from if_neg z4)]; rfl) (by rw [(show rwL (wakA c v) c.men zw d 0 = [] from if_neg z4)]; rfl)
        · skip
          have z4 := (c_eq (x := nI d) (y := nI zw) (a := d) (b := zw) rfl rfl (by omega) (by omega)).mp z4
          refine v_iconst (v := 1) O dX10_up_44 (by decide) ?_
          refine v_goto O 49 dX10_up_45 (by decide) ?_
          refine v_istore (lv' := [(0, .ref mo), (1, .int (nI d)), (2, .int (nI zw)), (3, .int (nI k)), (4, .int 1)]) O dX10_up_49 (by decide) rfl ?_
          refine v_bipush (v := -5) O dX10_up_51 (by decide) ?_
          refine v_istore (lv' := [(0, .ref mo), (1, .int (nI d)), (2, .int (nI zw)), (3, .int (nI k)), (4, .int 1), (5, .int (-5))]) O dX10_up_53 (by decide) rfl ?_
          refine v_iconst (v := 1) O dX10_up_55 (by decide) ?_
          refine v_istore (lv' := [(0, .ref mo), (1, .int (nI d)), (2, .int (nI zw)), (3, .int (nI k)), (4, .int 1), (5, .int (-5)), (6, .int 1)]) O dX10_up_56 (by decide) rfl ?_
          refine v_iconst (v := 1) O dX10_up_58 (by decide) ?_
          refine v_istore (lv' := [(0, .ref mo), (1, .int (nI d)), (2, .int (nI zw)), (3, .int (nI k)), (4, .int 1), (5, .int (-5)), (6, .int 1), (7, .int 1)]) O dX10_up_59 (by decide) rfl ?_
          refine v_eq (lv' := [(0, .ref mo), (1, .int (nI d)), (2, .int (nI zw)), (3, .int (nI k)), (4, .int (nI 1)), (5, .int (-5)), (6, .int (nI (c.men ^ 0))), (7, .int (nI (0 + 1)))]) rfl rfl rfl rfl ?_
          exact l_X10_up_1 O hC hB9 hM hva hk hdu hw T c.men 0 (by omega) _ _ _ _ _ _ _ (by rw [(show rwL (wakA c v) c.men zw d 0 = [[]] from if_pos z4)]; rfl) (by rw [(show rwL (wakA c v) c.men zw d 0 = [[]] from if_pos z4)]; rfl)
      · skip
        have z3 := b2i_0.mp z3
        exact absurd ((isIx_nI (by omega) (by omega)).mpr hw) z3
  · skip
    have z1 := b2i_0.mp z1
    exact absurd ⟨Int32.le_trans (show (-1 : Int32) ≤ 0 by decide) (Int32.not_lt.mp (nI_pos (by omega))), (c_le (x := nI k) (y := 5) (b := 5) rfl rfl (by omega) (by omega)).mpr (by omega)⟩ z1
