-- a contract over a part of a world is one over the world
theorem nd_ok : ∀ {l : List Nat}, l.Nodup → va_nd l = true
  | [], _ => rfl
  | a :: l, h => by
    rw [List.nodup_cons] at h
    simp only [va_nd, Bool.and_eq_true, decide_eq_true_eq]
    exact ⟨h.1, nd_ok h.2⟩
theorem pk_one {wc wr : va_W} : (List.range wc.length).map (fun i => (wc ++ wr)[i]?) = wc.map some := by
  refine List.ext_getElem (by simp) (fun i h1 h2 => ?_)
  have hi : i < wc.length := by simpa using h2
  simp only [List.getElem_map, List.getElem_range]
  rw [List.getElem?_append_left hi, List.getElem?_eq_getElem hi]
theorem pk_two {wc wr : va_W} : ((List.range wr.length).map (fun i => wc.length + i)).map (fun i => (wc ++ wr)[i]?) = wr.map some := by
  refine List.ext_getElem (by simp) (fun i h1 h2 => ?_)
  have hi : i < wr.length := by simpa using h2
  simp only [List.getElem_map, List.getElem_range]
  rw [List.getElem?_append_right (Nat.le_add_right _ _), Nat.add_sub_cancel_left, List.getElem?_eq_getElem hi]
theorem nd_two {a n : Nat} : ((List.range n).map (fun i => a + i)).Nodup := by
  rw [List.Nodup, List.pairwise_map]
  exact List.Pairwise.imp (fun h q => h (Nat.add_left_cancel q)) List.nodup_range
theorem P_perm {D : va_G} {cl : List vw_C} {ws ws2 : va_W} {H : Heap} (h : ws.Perm ws2) (hP : va_P D cl ws H) : va_P D cl ws2 H := fun k q hk => by
  obtain ⟨i, hi⟩ := List.mem_iff_getElem?.mp (h.mem_iff.mpr (List.mem_of_getElem? hk))
  exact hP i q hi
theorem D_nd {A : Nat → Prop} {ws : va_W} : va_D A ws ↔ (ws.map (fun q => q.1)).Nodup ∧ ∀ q, q ∈ ws → A q.1 := by
  constructor
  · intro h
    refine ⟨?_, fun q hq => by obtain ⟨i, hi⟩ := List.mem_iff_getElem?.mp hq; exact h.2 i q hi⟩
    rw [List.Nodup, List.pairwise_map, List.pairwise_iff_getElem]
    intro i j hi hj hij e
    have := h.1 i j ws[i] ws[j] (List.getElem?_eq_getElem hi) (List.getElem?_eq_getElem hj) e
    omega
  · intro h
    refine ⟨fun i j p q hi hj e => ?_, fun k q hk => h.2 q (List.mem_of_getElem? hk)⟩
    have h1 := h.1
    rw [List.Nodup, List.pairwise_map, List.pairwise_iff_getElem] at h1
    obtain ⟨li, ei⟩ := List.getElem?_eq_some_iff.mp hi
    obtain ⟨lj, ej⟩ := List.getElem?_eq_some_iff.mp hj
    rcases Nat.lt_trichotomy i j with z | z | z
    · exact absurd (by rw [ei, ej]; exact e) (h1 i j li lj z)
    · exact z
    · exact absurd (by rw [ei, ej]; exact e.symm) (h1 j i lj li z)
theorem D_perm {A : Nat → Prop} {ws ws2 : va_W} (h : ws.Perm ws2) (hD : va_D A ws) : va_D A ws2 := by
  rw [D_nd] at hD ⊢
  exact ⟨(h.map _).nodup_iff.mp hD.1, fun q hq => hD.2 q (h.mem_iff.mpr hq)⟩
theorem A_part {ws wc wr : va_W} {sz q : Nat} (h : ws.Perm (wc ++ wr)) (hq : va_A wc sz q) : va_A ws sz q := by
  rcases hq with ⟨k, e, hk⟩ | hq
  · obtain ⟨i, hi⟩ := List.mem_iff_getElem?.mp (h.mem_iff.mpr (List.mem_append_left wr (List.mem_of_getElem? hk)))
    exact Or.inl ⟨i, e, hi⟩
  · exact Or.inr hq
theorem Sp.frP {D : G} {mt : MT} {d mc ms : Nat} {args : List Value} {ws wc wr : va_W} {P Q : Option Value → va_W → Prop} (h : Sp D mt d mc ms args wc P) (hp : ws.Perm (wc ++ wr)) (hPQ : ∀ r w1, P r w1 → ∃ w2, (w1 ++ wr).Perm w2 ∧ Q r w2) : Sp D mt d mc ms args ws Q := by
  intro l sz
  have hM := h l sz
  unfold Met MetFree at hM ⊢
  intro p e ha hc hk s m a below hf happ hpre hT
  obtain ⟨e0, hsz, hP, hK, hD, hE⟩ := hpre
  subst hsz
  have hP' := P_perm hp hP
  have hD' := D_perm hp hD
  obtain ⟨k, o, h1, h2, h3, ⟨⟨r, w1, e1, hp1, hP1, hD1⟩, hF⟩, L, hL1, hL2⟩ := hM p e ha hc hk s m a below hf happ ⟨e0, rfl, va_P_map hP' _ pk_one, hK, hD'.sub _ (nd_ok List.nodup_range) pk_one, hE.narrow (fun q hq => A_part hp hq)⟩ hT
  obtain ⟨w2, hw2, hQ⟩ := hPQ r w1 hp1
  obtain ⟨j1, j2⟩ := va_join (A0 := va_A ws s.heap.size) (wr := wr) (w1 := w1) hP' (D_perm hp hD.self) _ _ pk_one pk_two (nd_ok nd_two) (fun i hi hi2 => by
    obtain ⟨x, hx, rfl⟩ := List.mem_map.mp hi
    have := List.mem_range.mp hi2
    omega) hF.2 (fun q hq => A_part hp hq) hP1 hD1
  have hw3 : (wr ++ w1).Perm w2 := List.perm_append_comm.trans hw2
  exact ⟨k, o, h1, h2, h3, ⟨⟨r, w2, e1, hQ, P_perm hw3 j1, D_perm hw3 j2⟩, hF.1, fun q h4 h5 => hF.2 q h4 (fun z => h5 (A_part hp z))⟩, L, hL1, fun q hq => A_part hp (hL2 q hq)⟩
-- worlds by blocks
def wB (n : Nat) (b : Nat → va_W) : va_W := (List.range n).flatMap b
theorem wB_perm {n : Nat} {b : Nat → va_W} {is rest : List Nat} (h : (List.range n).Perm (is ++ rest)) : (wB n b).Perm (is.flatMap b ++ rest.flatMap b) := by
  unfold wB
  rw [← List.flatMap_append]
  exact h.flatMap_right b
theorem Sp.fB {D : G} {mt : MT} {d mc ms n : Nat} {args : List Value} {b : Nat → va_W} {is rest : List Nat} {P Q : Option Value → va_W → Prop} (h : Sp D mt d mc ms args (is.flatMap b) P) (hpm : (List.range n).Perm (is ++ rest)) (hPQ : ∀ r w1, P r w1 → ∃ b2 : Nat → va_W, w1 = is.flatMap b2 ∧ rest.flatMap b2 = rest.flatMap b ∧ Q r (wB n b2)) : Sp D mt d mc ms args (wB n b) Q := by
  refine Sp.frP h (wB_perm hpm) (fun r w1 hp => ?_)
  obtain ⟨b2, h1, h2, h3⟩ := hPQ r w1 hp
  refine ⟨wB n b2, ?_, h3⟩
  rw [h1, ← h2]
  exact (wB_perm hpm).symm
