-- from the entry
theorem whole_start {p : Program} {e : Env} {s : State} {m : MethodId} {below : List Frame} {meth : Method} {c : Code} (l : Launch) (hflags : l.flags = flags0) {b L : Nat} {xs : Nat → Int32} (hL : L ≤ 3072) (C0 : lw_At p s m meth c b L xs) : W p l e room_1 s m #[Value.ref b] below meth c s.heap [] 0 0 (lw_Z below #[Value.ref b] s) (entryFrame m ([Value.ref b] : List Value).toArray 4) := by
  obtain ⟨D, hO⟩ := law_ok C0
  obtain ⟨h1, h2, h3, h4, h5, h6, h7, h8, h9, h10⟩ := C0
  rw [lg_entry_eq]
  have X0 := law_go (hO l e below (lw_Z below #[Value.ref b] s)) ⟨h7, h8, fun z => absurd h8 (Nat.not_lt.mpr z)⟩ hL (fun cells slots lv ws hc hs => v_end h1 h2 h3 h9 hc hs)
  exact X0 s.heap [] _ (fun k q hq => by simp at hq) ⟨fun i j p q hp => (by simp at hp), fun k q hq => (by simp at hq)⟩ va_S.rf (lv_entry [Value.ref b] (n := 4) (Nat.le_of_ble_eq_true rfl))
