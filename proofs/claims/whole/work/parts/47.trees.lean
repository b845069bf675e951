-- each call, whatever its arguments
def StI (D : G) (xa : Nat → Nat) (vt tt : Nat → Option Nat) (mo : Nat) (ma : Nat → Nat) (mx mm : MT) (args : List Value) (bx bm : Nat → va_W) : Prop := ∃ r : Int32, StR D xa vt tt mo ma mx mm args bx bm (.int r)
def StJ (D : G) (xa : Nat → Nat) (vt tt : Nat → Option Nat) (mo : Nat) (ma : Nat → Nat) (mx mm : MT) (args : List Value) (bx bm : Nat → va_W) : Prop := ∃ r : Int64, StR D xa vt tt mo ma mx mm args bx bm (.long r)
theorem i_btw {x : Int32} {a b : Nat} (hb : b < 2147483647) (ha : a ≤ b) (h1 : nI a ≤ x) (h2 : x ≤ nI b) : ∃ k : Nat, x = nI k ∧ a ≤ k ∧ k ≤ b := by
  have h0 : ¬ x < 0 := fun z => absurd (Int32.lt_of_le_of_lt h1 z) (nI_pos (by omega))
  obtain ⟨k, hk, rfl⟩ := nI_of h0
  exact ⟨k, rfl, (c_le rfl rfl (by omega) hk).mp h1, (c_le rfl rfl hk (by omega)).mp h2⟩
set_option maxHeartbeats 1000000 in
theorem op_man {D : G} {xa : Nat → Nat} {vt tt : Nat → Option Nat} {c : CS} {c2 : CS} {tk : Int32} {ln : Nat} {tb : Nat → Int32} {vc : Nat} {vs : Nat → VS} {ts : Nat → Int32} {tl : Nat → Nat} {ti : Nat → Nat → Int64} {rn : Nat} {f : Nat → Int32} {mo : Nat} {ma : Nat → Nat} {bx bm : Nat → va_W} (hvt : ∀ k, k < 6 → vt k = some (xa (16 + 5 * k))) (htt : ∀ k, k < 6 → tt k = some (xa (82 + 2 * k))) (hA : AOk c c2 tk ln tb vc vs ts tl rn) (hX : IX D xa vt tt c c2 tk ln tb vc vs ts tl ti rn f bx) (hM9 : IM D mo ma c c2 tk ln tb vc vs ts tl ti rn f bm) (k : Int32) (v : Int32) : StI D xa vt tt mo ma mX9_man mX10_man [.int k, .int v] bx bm := by
  by_cases hk : isIx k 7
  · obtain ⟨k9, hk, rfl⟩ := hk
    by_cases hv : isIx v 10
    · obtain ⟨v9, hv, rfl⟩ := hv
      by_cases hm : c.men = 6
      · exact ⟨_, st_man_3 hvt htt hA hX hM9 hk hv hm⟩
      · exact ⟨_, st_man_4 hvt htt hA hX hM9 hk hv (by have := hA.1.1; omega)⟩
    · exact ⟨_, st_man_2 hvt htt hA hX hM9 hk hv⟩
  · exact ⟨_, st_man_1 hvt htt hA hX hM9 hk⟩
set_option maxHeartbeats 1000000 in
theorem op_of {D : G} {xa : Nat → Nat} {vt tt : Nat → Option Nat} {c : CS} {c2 : CS} {tk : Int32} {ln : Nat} {tb : Nat → Int32} {vc : Nat} {vs : Nat → VS} {ts : Nat → Int32} {tl : Nat → Nat} {ti : Nat → Nat → Int64} {rn : Nat} {f : Nat → Int32} {mo : Nat} {ma : Nat → Nat} {bx bm : Nat → va_W} (hvt : ∀ k, k < 6 → vt k = some (xa (16 + 5 * k))) (htt : ∀ k, k < 6 → tt k = some (xa (82 + 2 * k))) (hA : AOk c c2 tk ln tb vc vs ts tl rn) (hX : IX D xa vt tt c c2 tk ln tb vc vs ts tl ti rn f bx) (hM9 : IM D mo ma c c2 tk ln tb vc vs ts tl ti rn f bm) (i : Int32) (zw : Int32) : StI D xa vt tt mo ma mX9_of mX10_of [.int i, .int zw] bx bm := by
  obtain ⟨hz, hZ⟩ := held_x hA hvt
  by_cases hi : isIx i c.men
  · obtain ⟨i9, hi, rfl⟩ := hi
    by_cases hw : isIx zw 7
    · obtain ⟨zw9, hw, rfl⟩ := hw
      rcases (show zw9 = 0 ∨ zw9 = 1 ∨ zw9 = 2 ∨ zw9 = 3 ∨ zw9 = 4 ∨ zw9 = 5 ∨ zw9 = 6 by omega) with rfl | rfl | rfl | rfl | rfl | rfl | rfl
      · exact ⟨_, st_of_3 hvt htt hA hX hM9 hi⟩
      · exact ⟨_, st_of_4 hvt htt hA hX hM9 hi⟩
      · exact ⟨_, st_of_5 hvt htt hA hX hM9 hi⟩
      · exact ⟨_, st_of_6 hvt htt hA hX hM9 hZ hi⟩
      · exact ⟨_, st_of_7 hvt htt hA hX hM9 hZ hi⟩
      · exact ⟨_, st_of_8 hvt htt hA hX hM9 hZ hi⟩
      · exact ⟨_, st_of_9 hvt htt hA hX hM9 hZ hi⟩
    · exact ⟨_, st_of_2 hvt htt hA hX hM9 hi hw⟩
  · exact ⟨_, st_of_1 hvt htt hA hX hM9 hi⟩
set_option maxHeartbeats 1000000 in
theorem op_heap {D : G} {xa : Nat → Nat} {vt tt : Nat → Option Nat} {c : CS} {c2 : CS} {tk : Int32} {ln : Nat} {tb : Nat → Int32} {vc : Nat} {vs : Nat → VS} {ts : Nat → Int32} {tl : Nat → Nat} {ti : Nat → Nat → Int64} {rn : Nat} {f : Nat → Int32} {mo : Nat} {ma : Nat → Nat} {bx bm : Nat → va_W} (hvt : ∀ k, k < 6 → vt k = some (xa (16 + 5 * k))) (htt : ∀ k, k < 6 → tt k = some (xa (82 + 2 * k))) (hA : AOk c c2 tk ln tb vc vs ts tl rn) (hX : IX D xa vt tt c c2 tk ln tb vc vs ts tl ti rn f bx) (hM9 : IM D mo ma c c2 tk ln tb vc vs ts tl ti rn f bm) (n : Int32) : StI D xa vt tt mo ma mX9_heap mX10_heap [.int n] bx bm := by
  by_cases hn : isIx n 1000000
  · obtain ⟨n9, hn, rfl⟩ := hn
    exact ⟨_, st_heap_2 hvt htt hA hX hM9 hn⟩
  · exact ⟨_, st_heap_1 hvt htt hA hX hM9 hn⟩
set_option maxHeartbeats 1000000 in
theorem op_feed {D : G} {xa : Nat → Nat} {vt tt : Nat → Option Nat} {c : CS} {c2 : CS} {tk : Int32} {ln : Nat} {tb : Nat → Int32} {vc : Nat} {vs : Nat → VS} {ts : Nat → Int32} {tl : Nat → Nat} {ti : Nat → Nat → Int64} {rn : Nat} {f : Nat → Int32} {mo : Nat} {ma : Nat → Nat} {bx bm : Nat → va_W} (hvt : ∀ k, k < 6 → vt k = some (xa (16 + 5 * k))) (htt : ∀ k, k < 6 → tt k = some (xa (82 + 2 * k))) (hA : AOk c c2 tk ln tb vc vs ts tl rn) (hX : IX D xa vt tt c c2 tk ln tb vc vs ts tl ti rn f bx) (hM9 : IM D mo ma c c2 tk ln tb vc vs ts tl ti rn f bm) (s : Int32) : StI D xa vt tt mo ma mX9_feed mX10_feed [.int s] bx bm := by
  by_cases hs : isIx s 128
  · obtain ⟨s9, hs, rfl⟩ := hs
    by_cases hf : ln = 100
    · exact ⟨_, st_feed_2 hvt htt hA hX hM9 hs hf⟩
    · exact ⟨_, st_feed_3 hvt htt hA hX hM9 hs (by have := hA.2.2.2.2.2.1.1; omega)⟩
  · exact ⟨_, st_feed_1 hvt htt hA hX hM9 hs⟩
set_option maxHeartbeats 1000000 in
theorem op_village {D : G} {xa : Nat → Nat} {vt tt : Nat → Option Nat} {c : CS} {c2 : CS} {tk : Int32} {ln : Nat} {tb : Nat → Int32} {vc : Nat} {vs : Nat → VS} {ts : Nat → Int32} {tl : Nat → Nat} {ti : Nat → Nat → Int64} {rn : Nat} {f : Nat → Int32} {mo : Nat} {ma : Nat → Nat} {bx bm : Nat → va_W} (hvt : ∀ k, k < 6 → vt k = some (xa (16 + 5 * k))) (htt : ∀ k, k < 6 → tt k = some (xa (82 + 2 * k))) (hA : AOk c c2 tk ln tb vc vs ts tl rn) (hX : IX D xa vt tt c c2 tk ln tb vc vs ts tl ti rn f bx) (hM9 : IM D mo ma c c2 tk ln tb vc vs ts tl ti rn f bm)  : StI D xa vt tt mo ma mX9_village mX10_village [] bx bm := by
  by_cases hf : vc = 6
  · exact ⟨_, st_village_1 hvt htt hA hX hM9 hf⟩
  · have hf2 : vc < 6 := by have := hA.2.2.2.2.2.2.1; omega
    by_cases hg : (redP (sgT tb ln) (vs vc)).2.1 = true ∧ sgT tb ln (redP (sgT tb ln) (vs vc)).1 = -1
    · exact ⟨_, st_village_3 hvt htt hA hX hM9 hf2 hg⟩
    · exact ⟨_, st_village_2 hvt htt hA hX hM9 hf2 hg⟩
set_option maxHeartbeats 1000000 in
theorem op_told {D : G} {xa : Nat → Nat} {vt tt : Nat → Option Nat} {c : CS} {c2 : CS} {tk : Int32} {ln : Nat} {tb : Nat → Int32} {vc : Nat} {vs : Nat → VS} {ts : Nat → Int32} {tl : Nat → Nat} {ti : Nat → Nat → Int64} {rn : Nat} {f : Nat → Int32} {mo : Nat} {ma : Nat → Nat} {bx bm : Nat → va_W} (hvt : ∀ k, k < 6 → vt k = some (xa (16 + 5 * k))) (htt : ∀ k, k < 6 → tt k = some (xa (82 + 2 * k))) (hA : AOk c c2 tk ln tb vc vs ts tl rn) (hX : IX D xa vt tt c c2 tk ln tb vc vs ts tl ti rn f bx) (hM9 : IM D mo ma c c2 tk ln tb vc vs ts tl ti rn f bm) (zw : Int32) : StI D xa vt tt mo ma mX9_told mX10_told [.int zw] bx bm := by
  obtain ⟨hz, hZ⟩ := held_x hA hvt
  by_cases hw : isIx zw 5
  · obtain ⟨zw9, hw, rfl⟩ := hw
    rcases (show zw9 = 0 ∨ zw9 = 1 ∨ zw9 = 2 ∨ zw9 = 3 ∨ zw9 = 4 by omega) with rfl | rfl | rfl | rfl | rfl
    · exact ⟨_, st_told_2 hvt htt hA hX hM9 hZ⟩
    · exact ⟨_, st_told_3 hvt htt hA hX hM9 hZ⟩
    · exact ⟨_, st_told_4 hvt htt hA hX hM9⟩
    · exact ⟨_, st_told_5 hvt htt hA hX hM9⟩
    · exact ⟨_, st_told_6 hvt htt hA hX hM9⟩
  · exact ⟨_, st_told_1 hvt htt hA hX hM9 hw⟩
set_option maxHeartbeats 1000000 in
theorem op_wake {D : G} {xa : Nat → Nat} {vt tt : Nat → Option Nat} {c : CS} {c2 : CS} {tk : Int32} {ln : Nat} {tb : Nat → Int32} {vc : Nat} {vs : Nat → VS} {ts : Nat → Int32} {tl : Nat → Nat} {ti : Nat → Nat → Int64} {rn : Nat} {f : Nat → Int32} {mo : Nat} {ma : Nat → Nat} {bx bm : Nat → va_W} (hvt : ∀ k, k < 6 → vt k = some (xa (16 + 5 * k))) (htt : ∀ k, k < 6 → tt k = some (xa (82 + 2 * k))) (hA : AOk c c2 tk ln tb vc vs ts tl rn) (hX : IX D xa vt tt c c2 tk ln tb vc vs ts tl ti rn f bx) (hM9 : IM D mo ma c c2 tk ln tb vc vs ts tl ti rn f bm) (i : Int32) : StI D xa vt tt mo ma mX9_wake mX10_wake [.int i] bx bm := by
  obtain ⟨hz, hZ⟩ := held_x hA hvt
  by_cases hi : isIx i c.men
  · obtain ⟨i9, hi, rfl⟩ := hi
    by_cases hw : c.wak = 9999
    · exact ⟨_, st_wake_2 hvt htt hA hX hM9 hi hw⟩
    · have hw2 : c.wak < 9999 := by have := hA.1.2.2.2.2.1; omega
      by_cases hn : wakA c (vs hz) i9 0 c.heap = none
      · exact ⟨_, st_wake_3 hvt htt hA hX hM9 hZ hi hw2 hn⟩
      · exact ⟨_, st_wake_4 hvt htt hA hX hM9 hZ hi hw2 hn⟩
  · exact ⟨_, st_wake_1 hvt htt hA hX hM9 hi⟩
set_option maxHeartbeats 1000000 in
theorem op_row {D : G} {xa : Nat → Nat} {vt tt : Nat → Option Nat} {c : CS} {c2 : CS} {tk : Int32} {ln : Nat} {tb : Nat → Int32} {vc : Nat} {vs : Nat → VS} {ts : Nat → Int32} {tl : Nat → Nat} {ti : Nat → Nat → Int64} {rn : Nat} {f : Nat → Int32} {mo : Nat} {ma : Nat → Nat} {bx bm : Nat → va_W} (hvt : ∀ k, k < 6 → vt k = some (xa (16 + 5 * k))) (htt : ∀ k, k < 6 → tt k = some (xa (82 + 2 * k))) (hA : AOk c c2 tk ln tb vc vs ts tl rn) (hX : IX D xa vt tt c c2 tk ln tb vc vs ts tl ti rn f bx) (hM9 : IM D mo ma c c2 tk ln tb vc vs ts tl ti rn f bm) (i : Int32) : StI D xa vt tt mo ma mX9_row mX10_row [.int i] bx bm := by
  by_cases h0 : i = -1
  · subst h0
    exact ⟨_, st_row_1 hvt htt hA hX hM9⟩
  · by_cases hi : isIx i c.men
    · obtain ⟨i9, hi, rfl⟩ := hi
      by_cases hr : c.rl = 8
      · exact ⟨_, st_row_3 hvt htt hA hX hM9 hi hr⟩
      · exact ⟨_, st_row_4 hvt htt hA hX hM9 hi (by have := hA.1.2.2.2.2.2.1; omega)⟩
    · exact ⟨_, st_row_2 hvt htt hA hX hM9 h0 hi⟩
set_option maxHeartbeats 1000000 in
theorem op_night {D : G} {xa : Nat → Nat} {vt tt : Nat → Option Nat} {c : CS} {c2 : CS} {tk : Int32} {ln : Nat} {tb : Nat → Int32} {vc : Nat} {vs : Nat → VS} {ts : Nat → Int32} {tl : Nat → Nat} {ti : Nat → Nat → Int64} {rn : Nat} {f : Nat → Int32} {mo : Nat} {ma : Nat → Nat} {bx bm : Nat → va_W} (hvt : ∀ k, k < 6 → vt k = some (xa (16 + 5 * k))) (htt : ∀ k, k < 6 → tt k = some (xa (82 + 2 * k))) (hA : AOk c c2 tk ln tb vc vs ts tl rn) (hX : IX D xa vt tt c c2 tk ln tb vc vs ts tl ti rn f bx) (hM9 : IM D mo ma c c2 tk ln tb vc vs ts tl ti rn f bm) (h : Int32) : StI D xa vt tt mo ma mX9_night mX10_night [.int h] bx bm := by
  obtain ⟨hz, hZ⟩ := held_x hA hvt
  by_cases hh : isIx h 1000000
  · obtain ⟨h9, hh, rfl⟩ := hh
    exact ⟨_, st_night_2 hvt htt hA hX hM9 hZ hh⟩
  · exact ⟨_, st_night_1 hvt htt hA hX hM9 hh⟩
set_option maxHeartbeats 1000000 in
theorem op_least {D : G} {xa : Nat → Nat} {vt tt : Nat → Option Nat} {c : CS} {c2 : CS} {tk : Int32} {ln : Nat} {tb : Nat → Int32} {vc : Nat} {vs : Nat → VS} {ts : Nat → Int32} {tl : Nat → Nat} {ti : Nat → Nat → Int64} {rn : Nat} {f : Nat → Int32} {mo : Nat} {ma : Nat → Nat} {bx bm : Nat → va_W} (hvt : ∀ k, k < 6 → vt k = some (xa (16 + 5 * k))) (htt : ∀ k, k < 6 → tt k = some (xa (82 + 2 * k))) (hA : AOk c c2 tk ln tb vc vs ts tl rn) (hX : IX D xa vt tt c c2 tk ln tb vc vs ts tl ti rn f bx) (hM9 : IM D mo ma c c2 tk ln tb vc vs ts tl ti rn f bm) (n : Int32) : StI D xa vt tt mo ma mX9_least mX10_least [.int n] bx bm := by
  obtain ⟨hz, hZ⟩ := held_x hA hvt
  by_cases hn : isIx n 10000
  · obtain ⟨n9, hn, rfl⟩ := hn
    exact ⟨_, st_least_2 hvt htt hA hX hM9 hZ hn⟩
  · exact ⟨_, st_least_1 hvt htt hA hX hM9 hn⟩
set_option maxHeartbeats 1000000 in
theorem op_all {D : G} {xa : Nat → Nat} {vt tt : Nat → Option Nat} {c : CS} {c2 : CS} {tk : Int32} {ln : Nat} {tb : Nat → Int32} {vc : Nat} {vs : Nat → VS} {ts : Nat → Int32} {tl : Nat → Nat} {ti : Nat → Nat → Int64} {rn : Nat} {f : Nat → Int32} {mo : Nat} {ma : Nat → Nat} {bx bm : Nat → va_W} (hvt : ∀ k, k < 6 → vt k = some (xa (16 + 5 * k))) (htt : ∀ k, k < 6 → tt k = some (xa (82 + 2 * k))) (hA : AOk c c2 tk ln tb vc vs ts tl rn) (hX : IX D xa vt tt c c2 tk ln tb vc vs ts tl ti rn f bx) (hM9 : IM D mo ma c c2 tk ln tb vc vs ts tl ti rn f bm) (n : Int32) : StI D xa vt tt mo ma mX9_all mX10_all [.int n] bx bm := by
  obtain ⟨hz, hZ⟩ := held_x hA hvt
  by_cases hn : isIx n 10000
  · obtain ⟨n9, hn, rfl⟩ := hn
    by_cases h0 : n9 = 0
    · subst h0
      exact ⟨_, st_all_2 hvt htt hA hX hM9⟩
    · exact ⟨_, st_all_3 hvt htt hA hX hM9 hZ (by omega) hn⟩
  · exact ⟨_, st_all_1 hvt htt hA hX hM9 hn⟩
set_option maxHeartbeats 1000000 in
theorem op_greatest {D : G} {xa : Nat → Nat} {vt tt : Nat → Option Nat} {c : CS} {c2 : CS} {tk : Int32} {ln : Nat} {tb : Nat → Int32} {vc : Nat} {vs : Nat → VS} {ts : Nat → Int32} {tl : Nat → Nat} {ti : Nat → Nat → Int64} {rn : Nat} {f : Nat → Int32} {mo : Nat} {ma : Nat → Nat} {bx bm : Nat → va_W} (hvt : ∀ k, k < 6 → vt k = some (xa (16 + 5 * k))) (htt : ∀ k, k < 6 → tt k = some (xa (82 + 2 * k))) (hA : AOk c c2 tk ln tb vc vs ts tl rn) (hX : IX D xa vt tt c c2 tk ln tb vc vs ts tl ti rn f bx) (hM9 : IM D mo ma c c2 tk ln tb vc vs ts tl ti rn f bm) (n : Int32) : StI D xa vt tt mo ma mX9_greatest mX10_greatest [.int n] bx bm := by
  obtain ⟨hz, hZ⟩ := held_x hA hvt
  by_cases hn : isIx n 10000
  · obtain ⟨n9, hn, rfl⟩ := hn
    by_cases h0 : n9 = 0
    · subst h0
      exact ⟨_, st_greatest_2 hvt htt hA hX hM9⟩
    · exact ⟨_, st_greatest_3 hvt htt hA hX hM9 hZ (by omega) hn⟩
  · exact ⟨_, st_greatest_1 hvt htt hA hX hM9 hn⟩
set_option maxHeartbeats 1000000 in
theorem op_left {D : G} {xa : Nat → Nat} {vt tt : Nat → Option Nat} {c : CS} {c2 : CS} {tk : Int32} {ln : Nat} {tb : Nat → Int32} {vc : Nat} {vs : Nat → VS} {ts : Nat → Int32} {tl : Nat → Nat} {ti : Nat → Nat → Int64} {rn : Nat} {f : Nat → Int32} {mo : Nat} {ma : Nat → Nat} {bx bm : Nat → va_W} (hvt : ∀ k, k < 6 → vt k = some (xa (16 + 5 * k))) (htt : ∀ k, k < 6 → tt k = some (xa (82 + 2 * k))) (hA : AOk c c2 tk ln tb vc vs ts tl rn) (hX : IX D xa vt tt c c2 tk ln tb vc vs ts tl ti rn f bx) (hM9 : IM D mo ma c c2 tk ln tb vc vs ts tl ti rn f bm) (h : Int32) (zw : Int32) : StI D xa vt tt mo ma mX9_left mX10_left [.int h, .int zw] bx bm := by
  obtain ⟨hz, hZ⟩ := held_x hA hvt
  by_cases h0 : zw = -1
  · subst h0
    by_cases hh : isIx h 1000000
    · obtain ⟨h9, hh, rfl⟩ := hh
      cases hwl : wlkA c (vs hz) h9 c.rl with
      | none =>
        exact ⟨_, st_left_3 hvt htt hA hX hM9 hZ hh hwl⟩
      | some q =>
        obtain ⟨zL, zT, zQ⟩ := q
        exact ⟨_, st_left_4 hvt htt hA hX hM9 hZ hh hwl⟩
    · exact ⟨_, st_left_2 hvt htt hA hX hM9 hh⟩
  · by_cases h1 : zw = -2
    · subst h1
      by_cases hh : isIx h 1000000
      · obtain ⟨h9, hh, rfl⟩ := hh
        cases hwl : wlkA c (vs hz) h9 c.rl with
        | none =>
          exact ⟨_, st_left_6 hvt htt hA hX hM9 hZ hh hwl⟩
        | some q =>
          obtain ⟨zL, zT, zQ⟩ := q
          exact ⟨_, st_left_7 hvt htt hA hX hM9 hZ hh hwl⟩
      · exact ⟨_, st_left_5 hvt htt hA hX hM9 hh⟩
    · by_cases hw : isIx zw c.men
      · obtain ⟨zw9, hw, rfl⟩ := hw
        by_cases hh : isIx h 1000000
        · obtain ⟨h9, hh, rfl⟩ := hh
          cases hwl : wlkA c (vs hz) h9 c.rl with
          | none =>
            exact ⟨_, st_left_9 hvt htt hA hX hM9 hZ hw hh hwl⟩
          | some q =>
            obtain ⟨zL, zT, zQ⟩ := q
            exact ⟨_, st_left_10 hvt htt hA hX hM9 hZ hw hh hwl⟩
        · exact ⟨_, st_left_8 hvt htt hA hX hM9 hw hh⟩
      · exact ⟨_, st_left_1 hvt htt hA hX hM9 h0 h1 hw⟩
set_option maxHeartbeats 1000000 in
theorem op_was {D : G} {xa : Nat → Nat} {vt tt : Nat → Option Nat} {c : CS} {c2 : CS} {tk : Int32} {ln : Nat} {tb : Nat → Int32} {vc : Nat} {vs : Nat → VS} {ts : Nat → Int32} {tl : Nat → Nat} {ti : Nat → Nat → Int64} {rn : Nat} {f : Nat → Int32} {mo : Nat} {ma : Nat → Nat} {bx bm : Nat → va_W} (hvt : ∀ k, k < 6 → vt k = some (xa (16 + 5 * k))) (htt : ∀ k, k < 6 → tt k = some (xa (82 + 2 * k))) (hA : AOk c c2 tk ln tb vc vs ts tl rn) (hX : IX D xa vt tt c c2 tk ln tb vc vs ts tl ti rn f bx) (hM9 : IM D mo ma c c2 tk ln tb vc vs ts tl ti rn f bm) (n : Int32) : StI D xa vt tt mo ma mX9_was mX10_was [.int n] bx bm := by
  obtain ⟨hz, hZ⟩ := held_x hA hvt
  by_cases hn : isIx n 10000
  · obtain ⟨n9, hn, rfl⟩ := hn
    exact ⟨_, st_was_2 hvt htt hA hX hM9 hZ hn⟩
  · exact ⟨_, st_was_1 hvt htt hA hX hM9 hn⟩
set_option maxHeartbeats 1000000 in
theorem op_looked {D : G} {xa : Nat → Nat} {vt tt : Nat → Option Nat} {c : CS} {c2 : CS} {tk : Int32} {ln : Nat} {tb : Nat → Int32} {vc : Nat} {vs : Nat → VS} {ts : Nat → Int32} {tl : Nat → Nat} {ti : Nat → Nat → Int64} {rn : Nat} {f : Nat → Int32} {mo : Nat} {ma : Nat → Nat} {bx bm : Nat → va_W} (hvt : ∀ k, k < 6 → vt k = some (xa (16 + 5 * k))) (htt : ∀ k, k < 6 → tt k = some (xa (82 + 2 * k))) (hA : AOk c c2 tk ln tb vc vs ts tl rn) (hX : IX D xa vt tt c c2 tk ln tb vc vs ts tl ti rn f bx) (hM9 : IM D mo ma c c2 tk ln tb vc vs ts tl ti rn f bm)  : StI D xa vt tt mo ma mX9_looked mX10_looked [] bx bm := by
  obtain ⟨hz, hZ⟩ := held_x hA hvt
  exact ⟨_, st_looked_1 hvt htt hA hX hM9 hZ⟩
set_option maxHeartbeats 1000000 in
theorem op_up {D : G} {xa : Nat → Nat} {vt tt : Nat → Option Nat} {c : CS} {c2 : CS} {tk : Int32} {ln : Nat} {tb : Nat → Int32} {vc : Nat} {vs : Nat → VS} {ts : Nat → Int32} {tl : Nat → Nat} {ti : Nat → Nat → Int64} {rn : Nat} {f : Nat → Int32} {mo : Nat} {ma : Nat → Nat} {bx bm : Nat → va_W} (hvt : ∀ k, k < 6 → vt k = some (xa (16 + 5 * k))) (htt : ∀ k, k < 6 → tt k = some (xa (82 + 2 * k))) (hA : AOk c c2 tk ln tb vc vs ts tl rn) (hX : IX D xa vt tt c c2 tk ln tb vc vs ts tl ti rn f bx) (hM9 : IM D mo ma c c2 tk ln tb vc vs ts tl ti rn f bm) (d : Int32) (zw : Int32) (k : Int32) : StI D xa vt tt mo ma mX9_up mX10_up [.int d, .int zw, .int k] bx bm := by
  obtain ⟨hz, hZ⟩ := held_x hA hvt
  by_cases h0 : k = -1
  · subst h0
    by_cases hdu : isIx d 10000
    · obtain ⟨d9, hdu, rfl⟩ := hdu
      by_cases hw : isIx zw 10000
      · obtain ⟨zw9, hw, rfl⟩ := hw
        exact ⟨_, st_up_4 hvt htt hA hX hM9 hZ hdu hw⟩
      · exact ⟨_, st_up_3 hvt htt hA hX hM9 hdu hw⟩
    · exact ⟨_, st_up_2 hvt htt hA hX hM9 hdu⟩
  · by_cases hk : isIx k 6
    · obtain ⟨k9, hk, rfl⟩ := hk
      by_cases hdu : isIx d 10000
      · obtain ⟨d9, hdu, rfl⟩ := hdu
        by_cases hw : isIx zw 10000
        · obtain ⟨zw9, hw, rfl⟩ := hw
          exact ⟨_, st_up_7 hvt htt hA hX hM9 hZ hk hdu hw⟩
        · exact ⟨_, st_up_6 hvt htt hA hX hM9 hk hdu hw⟩
      · exact ⟨_, st_up_5 hvt htt hA hX hM9 hk hdu⟩
    · exact ⟨_, st_up_1 hvt htt hA hX hM9 h0 hk⟩
set_option maxHeartbeats 1000000 in
theorem op_fair {D : G} {xa : Nat → Nat} {vt tt : Nat → Option Nat} {c : CS} {c2 : CS} {tk : Int32} {ln : Nat} {tb : Nat → Int32} {vc : Nat} {vs : Nat → VS} {ts : Nat → Int32} {tl : Nat → Nat} {ti : Nat → Nat → Int64} {rn : Nat} {f : Nat → Int32} {mo : Nat} {ma : Nat → Nat} {bx bm : Nat → va_W} (hvt : ∀ k, k < 6 → vt k = some (xa (16 + 5 * k))) (htt : ∀ k, k < 6 → tt k = some (xa (82 + 2 * k))) (hA : AOk c c2 tk ln tb vc vs ts tl rn) (hX : IX D xa vt tt c c2 tk ln tb vc vs ts tl ti rn f bx) (hM9 : IM D mo ma c c2 tk ln tb vc vs ts tl ti rn f bm) (h : Int32) (i : Int32) (p : Int32) : StJ D xa vt tt mo ma mX9_fair mX10_fair [.int h, .int i, .int p] bx bm := by
  obtain ⟨hz, hZ⟩ := held_x hA hvt
  by_cases hi : isIx i c.men
  · obtain ⟨i9, hi, rfl⟩ := hi
    by_cases hh : isIx h 1000000
    · obtain ⟨h9, hh, rfl⟩ := hh
      cases hwl : wlkA c (vs hz) h9 c.rl with
      | none =>
        exact ⟨_, st_fair_3 hvt htt hA hX hM9 hZ hi hh hwl⟩
      | some q =>
        obtain ⟨zL, zT, zQ⟩ := q
        by_cases hp : isIx p 2
        · obtain ⟨p9, hp, rfl⟩ := hp
          rcases (show p9 = 0 ∨ p9 = 1 by omega) with rfl | rfl
          · exact ⟨_, st_fair_5 hvt htt hA hX hM9 hZ hi hh hwl⟩
          · exact ⟨_, st_fair_6 hvt htt hA hX hM9 hZ hi hh hwl⟩
        · exact ⟨_, st_fair_4 hvt htt hA hX hM9 hZ hi hh hwl hp⟩
    · exact ⟨_, st_fair_2 hvt htt hA hX hM9 hi hh⟩
  · exact ⟨_, st_fair_1 hvt htt hA hX hM9 hi⟩
set_option maxHeartbeats 1000000 in
theorem op_chance {D : G} {xa : Nat → Nat} {vt tt : Nat → Option Nat} {c : CS} {c2 : CS} {tk : Int32} {ln : Nat} {tb : Nat → Int32} {vc : Nat} {vs : Nat → VS} {ts : Nat → Int32} {tl : Nat → Nat} {ti : Nat → Nat → Int64} {rn : Nat} {f : Nat → Int32} {mo : Nat} {ma : Nat → Nat} {bx bm : Nat → va_W} (hvt : ∀ k, k < 6 → vt k = some (xa (16 + 5 * k))) (htt : ∀ k, k < 6 → tt k = some (xa (82 + 2 * k))) (hA : AOk c c2 tk ln tb vc vs ts tl rn) (hX : IX D xa vt tt c c2 tk ln tb vc vs ts tl ti rn f bx) (hM9 : IM D mo ma c c2 tk ln tb vc vs ts tl ti rn f bm) (n : Int32) (p : Int32) : StJ D xa vt tt mo ma mX9_chance mX10_chance [.int n, .int p] bx bm := by
  obtain ⟨hz, hZ⟩ := held_x hA hvt
  by_cases hn : isIx n 10000
  · obtain ⟨n9, hn, rfl⟩ := hn
    by_cases h0 : n9 = 0
    · subst h0
      exact ⟨_, st_chance_2 hvt htt hA hX hM9⟩
    · have h1 : 1 ≤ n9 := by omega
      by_cases hp : isIx p 2
      · obtain ⟨p9, hp, rfl⟩ := hp
        rcases (show p9 = 0 ∨ p9 = 1 by omega) with rfl | rfl
        · exact ⟨_, st_chance_4 hvt htt hA hX hM9 hZ h1 hn⟩
        · exact ⟨_, st_chance_5 hvt htt hA hX hM9 hZ h1 hn⟩
      · exact ⟨_, st_chance_3 hvt htt hA hX hM9 hZ h1 hn hp⟩
  · exact ⟨_, st_chance_1 hvt htt hA hX hM9 hn⟩
set_option maxHeartbeats 1000000 in
theorem op_big {D : G} {xa : Nat → Nat} {vt tt : Nat → Option Nat} {c : CS} {c2 : CS} {tk : Int32} {ln : Nat} {tb : Nat → Int32} {vc : Nat} {vs : Nat → VS} {ts : Nat → Int32} {tl : Nat → Nat} {ti : Nat → Nat → Int64} {rn : Nat} {f : Nat → Int32} {mo : Nat} {ma : Nat → Nat} {bx bm : Nat → va_W} (hvt : ∀ k, k < 6 → vt k = some (xa (16 + 5 * k))) (htt : ∀ k, k < 6 → tt k = some (xa (82 + 2 * k))) (hA : AOk c c2 tk ln tb vc vs ts tl rn) (hX : IX D xa vt tt c c2 tk ln tb vc vs ts tl ti rn f bx) (hM9 : IM D mo ma c c2 tk ln tb vc vs ts tl ti rn f bm) (d : Int32) (m : Int32) (q : Int32) (zw : Int32) : StI D xa vt tt mo ma mX9_big mX10_big [.int d, .int m, .int q, .int zw] bx bm := by
  by_cases h0 : zw = -1
  · subst h0
    by_cases hb : 2 ≤ d ∧ d ≤ 12 ∧ 1 ≤ m ∧ m ≤ 30 ∧ 0 ≤ q ∧ q ≤ 9
    · obtain ⟨b1, b2, b3, b4, b5, b6⟩ := hb
      obtain ⟨dn, rfl, b1, b2⟩ := i_btw (a := 2) (b := 12) (by decide) (by decide) b1 b2
      obtain ⟨mn, rfl, b3, b4⟩ := i_btw (a := 1) (b := 30) (by decide) (by decide) b3 b4
      obtain ⟨qn, rfl, b5, b6⟩ := i_btw (a := 0) (b := 9) (by decide) (by decide) b5 b6
      exact ⟨_, st_big_3 hvt htt hA hX hM9 b1 b2 b3 b4 b6⟩
    · exact ⟨_, st_big_2 hvt htt hA hX hM9 hb⟩
  · by_cases hw : isIx zw 40
    · obtain ⟨zw9, hw, rfl⟩ := hw
      by_cases hb : 2 ≤ d ∧ d ≤ 12 ∧ 1 ≤ m ∧ m ≤ 30 ∧ 0 ≤ q ∧ q ≤ 9
      · obtain ⟨b1, b2, b3, b4, b5, b6⟩ := hb
        obtain ⟨dn, rfl, b1, b2⟩ := i_btw (a := 2) (b := 12) (by decide) (by decide) b1 b2
        obtain ⟨mn, rfl, b3, b4⟩ := i_btw (a := 1) (b := 30) (by decide) (by decide) b3 b4
        obtain ⟨qn, rfl, b5, b6⟩ := i_btw (a := 0) (b := 9) (by decide) (by decide) b5 b6
        exact ⟨_, st_big_5 hvt htt hA hX hM9 hw b1 b2 b3 b4 b6⟩
      · exact ⟨_, st_big_4 hvt htt hA hX hM9 hw hb⟩
    · by_cases hr : 102 ≤ zw ∧ zw ≤ 199
      · obtain ⟨zn, rfl, r1, r2⟩ := i_btw (a := 102) (b := 199) (by decide) (by decide) hr.1 hr.2
        obtain ⟨zn, rfl⟩ : ∃ zk, zn = zk + 100 := ⟨zn - 100, by omega⟩
        have hw1 : 2 ≤ zn := by omega
        have hw : zn < 100 := by omega
        by_cases hb : 2 ≤ d ∧ d ≤ 12 ∧ 1 ≤ m ∧ m ≤ 30 ∧ 0 ≤ q ∧ q ≤ 9
        · obtain ⟨b1, b2, b3, b4, b5, b6⟩ := hb
          obtain ⟨dn, rfl, b1, b2⟩ := i_btw (a := 2) (b := 12) (by decide) (by decide) b1 b2
          obtain ⟨mn, rfl, b3, b4⟩ := i_btw (a := 1) (b := 30) (by decide) (by decide) b3 b4
          obtain ⟨qn, rfl, b5, b6⟩ := i_btw (a := 0) (b := 9) (by decide) (by decide) b5 b6
          exact ⟨_, st_big_7 hvt htt hA hX hM9 hw1 hw b1 b2 b3 b4 b6⟩
        · exact ⟨_, st_big_6 hvt htt hA hX hM9 hw1 hw hb⟩
      · exact ⟨_, st_big_1 hvt htt hA hX hM9 ⟨h0, hw, hr⟩⟩
set_option maxHeartbeats 1000000 in
theorem op_book {D : G} {xa : Nat → Nat} {vt tt : Nat → Option Nat} {c : CS} {c2 : CS} {tk : Int32} {ln : Nat} {tb : Nat → Int32} {vc : Nat} {vs : Nat → VS} {ts : Nat → Int32} {tl : Nat → Nat} {ti : Nat → Nat → Int64} {rn : Nat} {f : Nat → Int32} {mo : Nat} {ma : Nat → Nat} {bx bm : Nat → va_W} (hvt : ∀ k, k < 6 → vt k = some (xa (16 + 5 * k))) (htt : ∀ k, k < 6 → tt k = some (xa (82 + 2 * k))) (hA : AOk c c2 tk ln tb vc vs ts tl rn) (hX : IX D xa vt tt c c2 tk ln tb vc vs ts tl ti rn f bx) (hM9 : IM D mo ma c c2 tk ln tb vc vs ts tl ti rn f bm) (h : Int32) : StI D xa vt tt mo ma mX9_book mX10_book [.int h] bx bm := by
  by_cases h0 : h = -1
  · subst h0
    exact ⟨_, st_book_1 hvt htt hA hX hM9⟩
  · by_cases hh : isIx h 1000000
    · obtain ⟨h9, hh, rfl⟩ := hh
      by_cases hp : c.pg = 12
      · exact ⟨_, st_book_3 hvt htt hA hX hM9 hh hp⟩
      · exact ⟨_, st_book_4 hvt htt hA hX hM9 hh (by have := hA.1.2.2.2.2.2.2.2.1; omega)⟩
    · exact ⟨_, st_book_2 hvt htt hA hX hM9 h0 hh⟩
set_option maxHeartbeats 1000000 in
theorem op_judge {D : G} {xa : Nat → Nat} {vt tt : Nat → Option Nat} {c : CS} {c2 : CS} {tk : Int32} {ln : Nat} {tb : Nat → Int32} {vc : Nat} {vs : Nat → VS} {ts : Nat → Int32} {tl : Nat → Nat} {ti : Nat → Nat → Int64} {rn : Nat} {f : Nat → Int32} {mo : Nat} {ma : Nat → Nat} {bx bm : Nat → va_W} (hvt : ∀ k, k < 6 → vt k = some (xa (16 + 5 * k))) (htt : ∀ k, k < 6 → tt k = some (xa (82 + 2 * k))) (hA : AOk c c2 tk ln tb vc vs ts tl rn) (hX : IX D xa vt tt c c2 tk ln tb vc vs ts tl ti rn f bx) (hM9 : IM D mo ma c c2 tk ln tb vc vs ts tl ti rn f bm) (t : Int32) (i : Int32) : StI D xa vt tt mo ma mX9_judge mX10_judge [.int t, .int i] bx bm := by
  by_cases hk : isIx t 6
  · obtain ⟨t9, hk, rfl⟩ := hk
    by_cases hs : ts t9 = -1 ∨ ts t9 = 3
    · by_cases hm : c.men = 0
      · exact ⟨_, st_judge_3 hvt htt hA hX hM9 hk hs hm⟩
      · have hm2 : 0 < c.men := by omega
        by_cases hi : i < 0
        · exact ⟨_, st_judge_4 hvt htt hA hX hM9 hk hs hm2 hi⟩
        · obtain ⟨i9, hi9, rfl⟩ := nI_of hi
          exact ⟨_, st_judge_5 hvt htt hA hX hM9 hk hs hi9⟩
    · exact ⟨_, st_judge_2 hvt htt hA hX hM9 hk (fun z => hs (Or.inl z)) (fun z => hs (Or.inr z))⟩
  · exact ⟨_, st_judge_1 hvt htt hA hX hM9 hk⟩
set_option maxHeartbeats 1000000 in
theorem op_image {D : G} {xa : Nat → Nat} {vt tt : Nat → Option Nat} {c : CS} {c2 : CS} {tk : Int32} {ln : Nat} {tb : Nat → Int32} {vc : Nat} {vs : Nat → VS} {ts : Nat → Int32} {tl : Nat → Nat} {ti : Nat → Nat → Int64} {rn : Nat} {f : Nat → Int32} {mo : Nat} {ma : Nat → Nat} {bx bm : Nat → va_W} (hvt : ∀ k, k < 6 → vt k = some (xa (16 + 5 * k))) (htt : ∀ k, k < 6 → tt k = some (xa (82 + 2 * k))) (hA : AOk c c2 tk ln tb vc vs ts tl rn) (hX : IX D xa vt tt c c2 tk ln tb vc vs ts tl ti rn f bx) (hM9 : IM D mo ma c c2 tk ln tb vc vs ts tl ti rn f bm)  : StI D xa vt tt mo ma mX9_image mX10_image [] bx bm := by
  exact ⟨_, st_image_1 hvt htt hA hX hM9⟩
set_option maxHeartbeats 1000000 in
theorem op_undo {D : G} {xa : Nat → Nat} {vt tt : Nat → Option Nat} {c : CS} {c2 : CS} {tk : Int32} {ln : Nat} {tb : Nat → Int32} {vc : Nat} {vs : Nat → VS} {ts : Nat → Int32} {tl : Nat → Nat} {ti : Nat → Nat → Int64} {rn : Nat} {f : Nat → Int32} {mo : Nat} {ma : Nat → Nat} {bx bm : Nat → va_W} (hvt : ∀ k, k < 6 → vt k = some (xa (16 + 5 * k))) (htt : ∀ k, k < 6 → tt k = some (xa (82 + 2 * k))) (hA : AOk c c2 tk ln tb vc vs ts tl rn) (hX : IX D xa vt tt c c2 tk ln tb vc vs ts tl ti rn f bx) (hM9 : IM D mo ma c c2 tk ln tb vc vs ts tl ti rn f bm)  : StI D xa vt tt mo ma mX9_undo mX10_undo [] bx bm := by
  rcases hA.2.2.2.2.1 with ht | ht
  · exact ⟨_, st_undo_1 hvt htt hA hX hM9 ht⟩
  · exact ⟨_, st_undo_2 hvt htt hA hX hM9 ht⟩
set_option maxHeartbeats 1000000 in
theorem op_act {D : G} {xa : Nat → Nat} {vt tt : Nat → Option Nat} {c : CS} {c2 : CS} {tk : Int32} {ln : Nat} {tb : Nat → Int32} {vc : Nat} {vs : Nat → VS} {ts : Nat → Int32} {tl : Nat → Nat} {ti : Nat → Nat → Int64} {rn : Nat} {f : Nat → Int32} {mo : Nat} {ma : Nat → Nat} {bx bm : Nat → va_W} (hvt : ∀ k, k < 6 → vt k = some (xa (16 + 5 * k))) (htt : ∀ k, k < 6 → tt k = some (xa (82 + 2 * k))) (hA : AOk c c2 tk ln tb vc vs ts tl rn) (hX : IX D xa vt tt c c2 tk ln tb vc vs ts tl ti rn f bx) (hM9 : IM D mo ma c c2 tk ln tb vc vs ts tl ti rn f bm) (i : Int32) (a : Int32) (x : Int32) : StI D xa vt tt mo ma mX9_act mX10_act [.int i, .int a, .int x] bx bm := by
  by_cases hi : isIx i c.men
  · obtain ⟨i9, hi, rfl⟩ := hi
    by_cases ha : isIx a 3
    · obtain ⟨a9, ha, rfl⟩ := ha
      rcases (show a9 = 0 ∨ a9 = 1 ∨ a9 = 2 by omega) with rfl | rfl | rfl
      · exact ⟨_, st_act_3 hvt htt hA hX hM9 hi⟩
      · exact ⟨_, st_act_4 hvt htt hA hX hM9 hi⟩
      · exact ⟨_, st_act_5 hvt htt hA hX hM9 hi⟩
    · exact ⟨_, st_act_2 hvt htt hA hX hM9 hi ha⟩
  · exact ⟨_, st_act_1 hvt htt hA hX hM9 hi⟩
set_option maxHeartbeats 1000000 in
theorem op_trace {D : G} {xa : Nat → Nat} {vt tt : Nat → Option Nat} {c : CS} {c2 : CS} {tk : Int32} {ln : Nat} {tb : Nat → Int32} {vc : Nat} {vs : Nat → VS} {ts : Nat → Int32} {tl : Nat → Nat} {ti : Nat → Nat → Int64} {rn : Nat} {f : Nat → Int32} {mo : Nat} {ma : Nat → Nat} {bx bm : Nat → va_W} (hvt : ∀ k, k < 6 → vt k = some (xa (16 + 5 * k))) (htt : ∀ k, k < 6 → tt k = some (xa (82 + 2 * k))) (hA : AOk c c2 tk ln tb vc vs ts tl rn) (hX : IX D xa vt tt c c2 tk ln tb vc vs ts tl ti rn f bx) (hM9 : IM D mo ma c c2 tk ln tb vc vs ts tl ti rn f bm) (i : Int32) : StI D xa vt tt mo ma mX9_trace mX10_trace [.int i] bx bm := by
  by_cases hi : isIx i rn
  · obtain ⟨i9, hi, rfl⟩ := hi
    exact ⟨_, st_trace_2 hvt htt hA hX hM9 hi⟩
  · exact ⟨_, st_trace_1 hvt htt hA hX hM9 hi⟩
set_option maxHeartbeats 1000000 in
theorem op_taken {D : G} {xa : Nat → Nat} {vt tt : Nat → Option Nat} {c : CS} {c2 : CS} {tk : Int32} {ln : Nat} {tb : Nat → Int32} {vc : Nat} {vs : Nat → VS} {ts : Nat → Int32} {tl : Nat → Nat} {ti : Nat → Nat → Int64} {rn : Nat} {f : Nat → Int32} {mo : Nat} {ma : Nat → Nat} {bx bm : Nat → va_W} (hvt : ∀ k, k < 6 → vt k = some (xa (16 + 5 * k))) (htt : ∀ k, k < 6 → tt k = some (xa (82 + 2 * k))) (hA : AOk c c2 tk ln tb vc vs ts tl rn) (hX : IX D xa vt tt c c2 tk ln tb vc vs ts tl ti rn f bx) (hM9 : IM D mo ma c c2 tk ln tb vc vs ts tl ti rn f bm) (i : Int32) (k : Int32) : StI D xa vt tt mo ma mX9_taken mX10_taken [.int i, .int k] bx bm := by
  by_cases hk : isIx k 7
  · obtain ⟨k9, hk, rfl⟩ := hk
    by_cases hi : isIx i c.men
    · obtain ⟨i9, hi, rfl⟩ := hi
      by_cases hu : takN (c.kk i9) k9
      · exact ⟨_, st_taken_3 hvt htt hA hX hM9 hk hi hu⟩
      · exact ⟨_, st_taken_4 hvt htt hA hX hM9 hk hi hu⟩
    · exact ⟨_, st_taken_2 hvt htt hA hX hM9 hk hi⟩
  · exact ⟨_, st_taken_1 hvt htt hA hX hM9 hk⟩
set_option maxHeartbeats 1000000 in
theorem op_count {D : G} {xa : Nat → Nat} {vt tt : Nat → Option Nat} {c : CS} {c2 : CS} {tk : Int32} {ln : Nat} {tb : Nat → Int32} {vc : Nat} {vs : Nat → VS} {ts : Nat → Int32} {tl : Nat → Nat} {ti : Nat → Nat → Int64} {rn : Nat} {f : Nat → Int32} {mo : Nat} {ma : Nat → Nat} {bx bm : Nat → va_W} (hvt : ∀ k, k < 6 → vt k = some (xa (16 + 5 * k))) (htt : ∀ k, k < 6 → tt k = some (xa (82 + 2 * k))) (hA : AOk c c2 tk ln tb vc vs ts tl rn) (hX : IX D xa vt tt c c2 tk ln tb vc vs ts tl ti rn f bx) (hM9 : IM D mo ma c c2 tk ln tb vc vs ts tl ti rn f bm) (zw : Int32) : StI D xa vt tt mo ma mX9_count mX10_count [.int zw] bx bm := by
  by_cases hw : isIx zw 6
  · obtain ⟨zw9, hw, rfl⟩ := hw
    rcases (show zw9 = 0 ∨ zw9 = 1 ∨ zw9 = 2 ∨ zw9 = 3 ∨ zw9 = 4 ∨ zw9 = 5 by omega) with rfl | rfl | rfl | rfl | rfl | rfl
    · exact ⟨_, st_count_2 hvt htt hA hX hM9⟩
    · exact ⟨_, st_count_3 hvt htt hA hX hM9⟩
    · exact ⟨_, st_count_4 hvt htt hA hX hM9⟩
    · exact ⟨_, st_count_5 hvt htt hA hX hM9⟩
    · exact ⟨_, st_count_6 hvt htt hA hX hM9⟩
    · exact ⟨_, st_count_7 hvt htt hA hX hM9⟩
  · exact ⟨_, st_count_1 hvt htt hA hX hM9 hw⟩
set_option maxHeartbeats 1000000 in
theorem op_tape {D : G} {xa : Nat → Nat} {vt tt : Nat → Option Nat} {c : CS} {c2 : CS} {tk : Int32} {ln : Nat} {tb : Nat → Int32} {vc : Nat} {vs : Nat → VS} {ts : Nat → Int32} {tl : Nat → Nat} {ti : Nat → Nat → Int64} {rn : Nat} {f : Nat → Int32} {mo : Nat} {ma : Nat → Nat} {bx bm : Nat → va_W} (hvt : ∀ k, k < 6 → vt k = some (xa (16 + 5 * k))) (htt : ∀ k, k < 6 → tt k = some (xa (82 + 2 * k))) (hA : AOk c c2 tk ln tb vc vs ts tl rn) (hX : IX D xa vt tt c c2 tk ln tb vc vs ts tl ti rn f bx) (hM9 : IM D mo ma c c2 tk ln tb vc vs ts tl ti rn f bm) (t : Int32) (s : Int32) (n : Int32) : StI D xa vt tt mo ma mX9_tape mX10_tape [.int t, .int s, .int n] bx bm := by
  by_cases hk : isIx t 6
  · obtain ⟨t9, hk, rfl⟩ := hk
    by_cases h0 : s = -1
    · subst h0
      exact ⟨_, st_tape_2 hvt htt hA hX hM9 hk⟩
    · by_cases hs : isIx s 5
      · obtain ⟨s9, hs, rfl⟩ := hs
        by_cases hn : n < 0
        · exact ⟨_, st_tape_5 hvt htt hA hX hM9 hk hs hn⟩
        · obtain ⟨n, hn9, rfl⟩ := nI_of hn
          by_cases h60 : n ≤ 60
          · exact ⟨_, st_tape_6 hvt htt hA hX hM9 hk hs h60⟩
          · exact ⟨_, st_tape_4 hvt htt hA hX hM9 hk hs ((c_lt (a := 60) rfl rfl (by decide) hn9).mpr (by omega))⟩
      · exact ⟨_, st_tape_3 hvt htt hA hX hM9 hk h0 hs⟩
  · exact ⟨_, st_tape_1 hvt htt hA hX hM9 hk⟩
set_option maxHeartbeats 1000000 in
theorem op_item {D : G} {xa : Nat → Nat} {vt tt : Nat → Option Nat} {c : CS} {c2 : CS} {tk : Int32} {ln : Nat} {tb : Nat → Int32} {vc : Nat} {vs : Nat → VS} {ts : Nat → Int32} {tl : Nat → Nat} {ti : Nat → Nat → Int64} {rn : Nat} {f : Nat → Int32} {mo : Nat} {ma : Nat → Nat} {bx bm : Nat → va_W} (hvt : ∀ k, k < 6 → vt k = some (xa (16 + 5 * k))) (htt : ∀ k, k < 6 → tt k = some (xa (82 + 2 * k))) (hA : AOk c c2 tk ln tb vc vs ts tl rn) (hX : IX D xa vt tt c c2 tk ln tb vc vs ts tl ti rn f bx) (hM9 : IM D mo ma c c2 tk ln tb vc vs ts tl ti rn f bm) (t : Int32) (i : Int32) (z : Int64) : StI D xa vt tt mo ma mX9_item mX10_item [.int t, .int i, .long z] bx bm := by
  by_cases hk : isIx t 6
  · obtain ⟨t9, hk, rfl⟩ := hk
    by_cases hs : ts t9 = -1
    · exact ⟨_, st_item_2 hvt htt hA hX hM9 hk hs⟩
    · by_cases hi : isIx i (tl t9)
      · obtain ⟨i9, hi, rfl⟩ := hi
        exact ⟨_, st_item_4 hvt htt hA hX hM9 hk hs hi⟩
      · exact ⟨_, st_item_3 hvt htt hA hX hM9 hk hs hi⟩
  · exact ⟨_, st_item_1 hvt htt hA hX hM9 hk⟩
set_option maxHeartbeats 1000000 in
theorem op_read {D : G} {xa : Nat → Nat} {vt tt : Nat → Option Nat} {c : CS} {c2 : CS} {tk : Int32} {ln : Nat} {tb : Nat → Int32} {vc : Nat} {vs : Nat → VS} {ts : Nat → Int32} {tl : Nat → Nat} {ti : Nat → Nat → Int64} {rn : Nat} {f : Nat → Int32} {mo : Nat} {ma : Nat → Nat} {bx bm : Nat → va_W} (hvt : ∀ k, k < 6 → vt k = some (xa (16 + 5 * k))) (htt : ∀ k, k < 6 → tt k = some (xa (82 + 2 * k))) (hA : AOk c c2 tk ln tb vc vs ts tl rn) (hX : IX D xa vt tt c c2 tk ln tb vc vs ts tl ti rn f bx) (hM9 : IM D mo ma c c2 tk ln tb vc vs ts tl ti rn f bm) (t : Int32) (i : Int32) : StJ D xa vt tt mo ma mX9_read mX10_read [.int t, .int i] bx bm := by
  by_cases hk : isIx t 6
  · obtain ⟨t9, hk, rfl⟩ := hk
    by_cases hi : isIx i (tl t9)
    · obtain ⟨i9, hi, rfl⟩ := hi
      exact ⟨_, st_read_3 hvt htt hA hX hM9 hk hi⟩
    · exact ⟨_, st_read_2 hvt htt hA hX hM9 hk hi⟩
  · exact ⟨_, st_read_1 hvt htt hA hX hM9 hk⟩
set_option maxHeartbeats 1000000 in
theorem op_shift {D : G} {xa : Nat → Nat} {vt tt : Nat → Option Nat} {c : CS} {c2 : CS} {tk : Int32} {ln : Nat} {tb : Nat → Int32} {vc : Nat} {vs : Nat → VS} {ts : Nat → Int32} {tl : Nat → Nat} {ti : Nat → Nat → Int64} {rn : Nat} {f : Nat → Int32} {mo : Nat} {ma : Nat → Nat} {bx bm : Nat → va_W} (hvt : ∀ k, k < 6 → vt k = some (xa (16 + 5 * k))) (htt : ∀ k, k < 6 → tt k = some (xa (82 + 2 * k))) (hA : AOk c c2 tk ln tb vc vs ts tl rn) (hX : IX D xa vt tt c c2 tk ln tb vc vs ts tl ti rn f bx) (hM9 : IM D mo ma c c2 tk ln tb vc vs ts tl ti rn f bm) (t : Int32) (i : Int32) (u : Int32) (j : Int32) (n : Int32) : StI D xa vt tt mo ma mX9_shift mX10_shift [.int t, .int i, .int u, .int j, .int n] bx bm := by
  by_cases hk : isIx t 6
  · obtain ⟨t9, hk, rfl⟩ := hk
    by_cases hk2 : isIx u 6
    · obtain ⟨u9, hk2, rfl⟩ := hk2
      by_cases hne0 : t9 = u9
      · subst hne0
        by_cases hs : ts t9 = -1
        · exact ⟨_, st_shift_3 hvt htt hA hX hM9 hk (Or.inl hs)⟩
        · by_cases hn : isSt i n (tl t9)
          · by_cases hm : isSt j n (tl t9)
            · obtain ⟨i8, n8, rfl, rfl, hn⟩ := hn
              obtain ⟨j8, n7, rfl, e8, hm⟩ := hm
              have hl8 := (hA.2.2.2.2.2.2.2.2.2.1 t9 hk).1
              have hl7 := (hA.2.2.2.2.2.2.2.2.2.1 t9 hk).1
              have e9 := (nI_eq (by omega) (by omega)).mp e8
              subst e9
              exact ⟨_, st_shift_7 hvt htt hA hX hM9 hk hs hn hm⟩
            · exact ⟨_, st_shift_6 hvt htt hA hX hM9 hk hs hn hm⟩
          · exact ⟨_, st_shift_5 hvt htt hA hX hM9 hk hs hn⟩
      · by_cases hs : ts t9 = -1 ∨ ts u9 = -1
        · exact ⟨_, st_shift_8 hvt htt hA hX hM9 hk hk2 hs hne0⟩
        · have hs1 : ¬ ts t9 = -1 := fun z => hs (Or.inl z)
          have hs2 : ¬ ts u9 = -1 := fun z => hs (Or.inr z)
          by_cases heq : ts t9 = ts u9
          · by_cases hn : isSt i n (tl t9)
            · by_cases hm : isSt j n (tl u9)
              · obtain ⟨i8, n8, rfl, rfl, hn⟩ := hn
                obtain ⟨j8, n7, rfl, e8, hm⟩ := hm
                have hl8 := (hA.2.2.2.2.2.2.2.2.2.1 t9 hk).1
                have hl7 := (hA.2.2.2.2.2.2.2.2.2.1 u9 hk2).1
                have e9 := (nI_eq (by omega) (by omega)).mp e8
                subst e9
                exact ⟨_, st_shift_12 hvt htt hA hX hM9 hk hk2 hs1 hs2 heq hn hm hne0⟩
              · exact ⟨_, st_shift_11 hvt htt hA hX hM9 hk hk2 hs1 hs2 heq hn hm hne0⟩
            · exact ⟨_, st_shift_10 hvt htt hA hX hM9 hk hk2 hs1 hs2 heq hn hne0⟩
          · exact ⟨_, st_shift_9 hvt htt hA hX hM9 hk hk2 hs1 hs2 heq hne0⟩
    · exact ⟨_, st_shift_2 hvt htt hA hX hM9 hk hk2⟩
  · exact ⟨_, st_shift_1 hvt htt hA hX hM9 hk⟩
