-- the law, case by case
theorem law_man {D : G} {X : CX} {nm : String} {kc ks cells slots b L k : Nat} {xs : Nat → Int32} {xa : Nat → Nat} {vt tt : Nat → Option Nat} {mo : Nat} {ma : Nat → Nat} {bx bm : Nat → va_W} (O : Ok D X (mLn nm) 50 kc ks) (hx : LX X b L xs) (hL : L ≤ 3072) (hk : 6 * k + 6 ≤ L) (hkc : cells ≤ kc) (hks : slots ≤ ks) (hvt : ∀ k, k < 6 → vt k = some (xa (16 + 5 * k))) (htt : ∀ k, k < 6 → tt k = some (xa (82 + 2 * k))) (hI : Inv D xa vt tt mo ma bx bm) (K : ∀ b2 b3 : Nat → va_W, Inv D xa vt tt mo ma b2 b3 → V D X cells slots 1118 (lwv b (xa 0) mo k) [] (wB 24 b2 ++ wB 55 b3)) : V D X cells slots 172 (lwv b (xa 0) mo k) [] (wB 24 bx ++ wB 55 bm) := by
  obtain ⟨c, c2, tk, ln, tb, vc, vs, ts, tl, ti, rn, f, hA, hX, hM9⟩ := hI
  obtain ⟨r, c2, c22, tk2, ln2, tb2, vc2, vs2, ts2, tl2, ti2, rn2, f2, hA2, s1, s2⟩ := op_man hvt htt hA hX hM9 (xs (6 * k + 1)) (xs (6 * k + 2))
  obtain ⟨wd, nu, fr, tt9, sf, cls, hR, hM⟩ := hM9
  obtain ⟨z10, z11, z20, z21, z22, z25, z26, z27, z29, e0⟩ := m_0 hM
  refine v_aload_n O dL_law_172 1 rfl ?_
  refine law_ld O hx 1 dL_law_173 dL_law_174 dL_law_175 dL_law_176 dL_law_177 rfl (by omega) hL ?_
  refine law_ld O hx 2 dL_law_178 dL_law_179 dL_law_180 dL_law_181 dL_law_182 rfl (by omega) hL ?_
  refine law_c1 O cf_L_13 rfl (x_0 hX) s1 dL_law_183 rfl rfl (by decide) (Nat.le_of_ble_eq_true rfl) hkc hks (fun b2 h2 => ?_)
  refine v_aload_n O dL_law_186 2 rfl ?_
  refine law_ld O hx 1 dL_law_187 dL_law_188 dL_law_189 dL_law_190 dL_law_191 rfl (by omega) hL ?_
  refine law_ld O hx 2 dL_law_192 dL_law_193 dL_law_194 dL_law_195 dL_law_196 rfl (by omega) hL ?_
  refine law_c2 O cf_L_17 rfl e0 s2 dL_law_197 rfl rfl (by decide) (Nat.le_of_ble_eq_true rfl) hkc hks (fun b3 h3 => ?_)
  exact v_icmp_eq O 1118 dL_law_200 rfl (fun _ => K b2 b3 ⟨_, _, _, _, _, _, _, _, _, _, _, _, hA2, h2, h3⟩) (fun h => absurd rfl h)
theorem law_of {D : G} {X : CX} {nm : String} {kc ks cells slots b L k : Nat} {xs : Nat → Int32} {xa : Nat → Nat} {vt tt : Nat → Option Nat} {mo : Nat} {ma : Nat → Nat} {bx bm : Nat → va_W} (O : Ok D X (mLn nm) 50 kc ks) (hx : LX X b L xs) (hL : L ≤ 3072) (hk : 6 * k + 6 ≤ L) (hkc : cells ≤ kc) (hks : slots ≤ ks) (hvt : ∀ k, k < 6 → vt k = some (xa (16 + 5 * k))) (htt : ∀ k, k < 6 → tt k = some (xa (82 + 2 * k))) (hI : Inv D xa vt tt mo ma bx bm) (K : ∀ b2 b3 : Nat → va_W, Inv D xa vt tt mo ma b2 b3 → V D X cells slots 1118 (lwv b (xa 0) mo k) [] (wB 24 b2 ++ wB 55 b3)) : V D X cells slots 205 (lwv b (xa 0) mo k) [] (wB 24 bx ++ wB 55 bm) := by
  obtain ⟨c, c2, tk, ln, tb, vc, vs, ts, tl, ti, rn, f, hA, hX, hM9⟩ := hI
  obtain ⟨r, c2, c22, tk2, ln2, tb2, vc2, vs2, ts2, tl2, ti2, rn2, f2, hA2, s1, s2⟩ := op_of hvt htt hA hX hM9 (xs (6 * k + 1)) (xs (6 * k + 2))
  obtain ⟨wd, nu, fr, tt9, sf, cls, hR, hM⟩ := hM9
  obtain ⟨z10, z11, z20, z21, z22, z25, z26, z27, z29, e0⟩ := m_0 hM
  refine v_aload_n O dL_law_205 1 rfl ?_
  refine law_ld O hx 1 dL_law_206 dL_law_207 dL_law_208 dL_law_209 dL_law_210 rfl (by omega) hL ?_
  refine law_ld O hx 2 dL_law_211 dL_law_212 dL_law_213 dL_law_214 dL_law_215 rfl (by omega) hL ?_
  refine law_c1 O cf_L_18 rfl (x_0 hX) s1 dL_law_216 rfl rfl (by decide) (Nat.le_of_ble_eq_true rfl) hkc hks (fun b2 h2 => ?_)
  refine v_aload_n O dL_law_219 2 rfl ?_
  refine law_ld O hx 1 dL_law_220 dL_law_221 dL_law_222 dL_law_223 dL_law_224 rfl (by omega) hL ?_
  refine law_ld O hx 2 dL_law_225 dL_law_226 dL_law_227 dL_law_228 dL_law_229 rfl (by omega) hL ?_
  refine law_c2 O cf_L_21 rfl e0 s2 dL_law_230 rfl rfl (by decide) (Nat.le_of_ble_eq_true rfl) hkc hks (fun b3 h3 => ?_)
  exact v_icmp_eq O 1118 dL_law_233 rfl (fun _ => K b2 b3 ⟨_, _, _, _, _, _, _, _, _, _, _, _, hA2, h2, h3⟩) (fun h => absurd rfl h)
theorem law_heap {D : G} {X : CX} {nm : String} {kc ks cells slots b L k : Nat} {xs : Nat → Int32} {xa : Nat → Nat} {vt tt : Nat → Option Nat} {mo : Nat} {ma : Nat → Nat} {bx bm : Nat → va_W} (O : Ok D X (mLn nm) 50 kc ks) (hx : LX X b L xs) (hL : L ≤ 3072) (hk : 6 * k + 6 ≤ L) (hkc : cells ≤ kc) (hks : slots ≤ ks) (hvt : ∀ k, k < 6 → vt k = some (xa (16 + 5 * k))) (htt : ∀ k, k < 6 → tt k = some (xa (82 + 2 * k))) (hI : Inv D xa vt tt mo ma bx bm) (K : ∀ b2 b3 : Nat → va_W, Inv D xa vt tt mo ma b2 b3 → V D X cells slots 1118 (lwv b (xa 0) mo k) [] (wB 24 b2 ++ wB 55 b3)) : V D X cells slots 238 (lwv b (xa 0) mo k) [] (wB 24 bx ++ wB 55 bm) := by
  obtain ⟨c, c2, tk, ln, tb, vc, vs, ts, tl, ti, rn, f, hA, hX, hM9⟩ := hI
  obtain ⟨r, c2, c22, tk2, ln2, tb2, vc2, vs2, ts2, tl2, ti2, rn2, f2, hA2, s1, s2⟩ := op_heap hvt htt hA hX hM9 (xs (6 * k + 1))
  obtain ⟨wd, nu, fr, tt9, sf, cls, hR, hM⟩ := hM9
  obtain ⟨z10, z11, z20, z21, z22, z25, z26, z27, z29, e0⟩ := m_0 hM
  refine v_aload_n O dL_law_238 1 rfl ?_
  refine law_ld O hx 1 dL_law_239 dL_law_240 dL_law_241 dL_law_242 dL_law_243 rfl (by omega) hL ?_
  refine law_c1 O cf_L_22 rfl (x_0 hX) s1 dL_law_244 rfl rfl (by decide) (Nat.le_of_ble_eq_true rfl) hkc hks (fun b2 h2 => ?_)
  refine v_aload_n O dL_law_247 2 rfl ?_
  refine law_ld O hx 1 dL_law_248 dL_law_249 dL_law_250 dL_law_251 dL_law_252 rfl (by omega) hL ?_
  refine law_c2 O cf_L_26 rfl e0 s2 dL_law_253 rfl rfl (by decide) (Nat.le_of_ble_eq_true rfl) hkc hks (fun b3 h3 => ?_)
  exact v_icmp_eq O 1118 dL_law_256 rfl (fun _ => K b2 b3 ⟨_, _, _, _, _, _, _, _, _, _, _, _, hA2, h2, h3⟩) (fun h => absurd rfl h)
theorem law_feed {D : G} {X : CX} {nm : String} {kc ks cells slots b L k : Nat} {xs : Nat → Int32} {xa : Nat → Nat} {vt tt : Nat → Option Nat} {mo : Nat} {ma : Nat → Nat} {bx bm : Nat → va_W} (O : Ok D X (mLn nm) 50 kc ks) (hx : LX X b L xs) (hL : L ≤ 3072) (hk : 6 * k + 6 ≤ L) (hkc : cells ≤ kc) (hks : slots ≤ ks) (hvt : ∀ k, k < 6 → vt k = some (xa (16 + 5 * k))) (htt : ∀ k, k < 6 → tt k = some (xa (82 + 2 * k))) (hI : Inv D xa vt tt mo ma bx bm) (K : ∀ b2 b3 : Nat → va_W, Inv D xa vt tt mo ma b2 b3 → V D X cells slots 1118 (lwv b (xa 0) mo k) [] (wB 24 b2 ++ wB 55 b3)) : V D X cells slots 261 (lwv b (xa 0) mo k) [] (wB 24 bx ++ wB 55 bm) := by
  obtain ⟨c, c2, tk, ln, tb, vc, vs, ts, tl, ti, rn, f, hA, hX, hM9⟩ := hI
  obtain ⟨r, c2, c22, tk2, ln2, tb2, vc2, vs2, ts2, tl2, ti2, rn2, f2, hA2, s1, s2⟩ := op_feed hvt htt hA hX hM9 (xs (6 * k + 1))
  obtain ⟨wd, nu, fr, tt9, sf, cls, hR, hM⟩ := hM9
  obtain ⟨z10, z11, z20, z21, z22, z25, z26, z27, z29, e0⟩ := m_0 hM
  refine v_aload_n O dL_law_261 1 rfl ?_
  refine law_ld O hx 1 dL_law_262 dL_law_263 dL_law_264 dL_law_265 dL_law_266 rfl (by omega) hL ?_
  refine law_c1 O cf_L_27 rfl (x_0 hX) s1 dL_law_267 rfl rfl (by decide) (Nat.le_of_ble_eq_true rfl) hkc hks (fun b2 h2 => ?_)
  refine v_aload_n O dL_law_270 2 rfl ?_
  refine law_ld O hx 1 dL_law_271 dL_law_272 dL_law_273 dL_law_274 dL_law_275 rfl (by omega) hL ?_
  refine law_c2 O cf_L_30 rfl e0 s2 dL_law_276 rfl rfl (by decide) (Nat.le_of_ble_eq_true rfl) hkc hks (fun b3 h3 => ?_)
  exact v_icmp_eq O 1118 dL_law_279 rfl (fun _ => K b2 b3 ⟨_, _, _, _, _, _, _, _, _, _, _, _, hA2, h2, h3⟩) (fun h => absurd rfl h)
theorem law_village {D : G} {X : CX} {nm : String} {kc ks cells slots b L k : Nat} {xs : Nat → Int32} {xa : Nat → Nat} {vt tt : Nat → Option Nat} {mo : Nat} {ma : Nat → Nat} {bx bm : Nat → va_W} (O : Ok D X (mLn nm) 50 kc ks) (hx : LX X b L xs) (hL : L ≤ 3072) (hk : 6 * k + 6 ≤ L) (hkc : cells ≤ kc) (hks : slots ≤ ks) (hvt : ∀ k, k < 6 → vt k = some (xa (16 + 5 * k))) (htt : ∀ k, k < 6 → tt k = some (xa (82 + 2 * k))) (hI : Inv D xa vt tt mo ma bx bm) (K : ∀ b2 b3 : Nat → va_W, Inv D xa vt tt mo ma b2 b3 → V D X cells slots 1118 (lwv b (xa 0) mo k) [] (wB 24 b2 ++ wB 55 b3)) : V D X cells slots 284 (lwv b (xa 0) mo k) [] (wB 24 bx ++ wB 55 bm) := by
  obtain ⟨c, c2, tk, ln, tb, vc, vs, ts, tl, ti, rn, f, hA, hX, hM9⟩ := hI
  obtain ⟨r, c2, c22, tk2, ln2, tb2, vc2, vs2, ts2, tl2, ti2, rn2, f2, hA2, s1, s2⟩ := op_village hvt htt hA hX hM9 
  obtain ⟨wd, nu, fr, tt9, sf, cls, hR, hM⟩ := hM9
  obtain ⟨z10, z11, z20, z21, z22, z25, z26, z27, z29, e0⟩ := m_0 hM
  refine v_aload_n O dL_law_284 1 rfl ?_
  refine law_c1 O cf_L_31 rfl (x_0 hX) s1 dL_law_285 rfl rfl (by decide) (Nat.le_of_ble_eq_true rfl) hkc hks (fun b2 h2 => ?_)
  refine v_aload_n O dL_law_288 2 rfl ?_
  refine law_c2 O cf_L_35 rfl e0 s2 dL_law_289 rfl rfl (by decide) (Nat.le_of_ble_eq_true rfl) hkc hks (fun b3 h3 => ?_)
  exact v_icmp_eq O 1118 dL_law_292 rfl (fun _ => K b2 b3 ⟨_, _, _, _, _, _, _, _, _, _, _, _, hA2, h2, h3⟩) (fun h => absurd rfl h)
theorem law_told {D : G} {X : CX} {nm : String} {kc ks cells slots b L k : Nat} {xs : Nat → Int32} {xa : Nat → Nat} {vt tt : Nat → Option Nat} {mo : Nat} {ma : Nat → Nat} {bx bm : Nat → va_W} (O : Ok D X (mLn nm) 50 kc ks) (hx : LX X b L xs) (hL : L ≤ 3072) (hk : 6 * k + 6 ≤ L) (hkc : cells ≤ kc) (hks : slots ≤ ks) (hvt : ∀ k, k < 6 → vt k = some (xa (16 + 5 * k))) (htt : ∀ k, k < 6 → tt k = some (xa (82 + 2 * k))) (hI : Inv D xa vt tt mo ma bx bm) (K : ∀ b2 b3 : Nat → va_W, Inv D xa vt tt mo ma b2 b3 → V D X cells slots 1118 (lwv b (xa 0) mo k) [] (wB 24 b2 ++ wB 55 b3)) : V D X cells slots 297 (lwv b (xa 0) mo k) [] (wB 24 bx ++ wB 55 bm) := by
  obtain ⟨c, c2, tk, ln, tb, vc, vs, ts, tl, ti, rn, f, hA, hX, hM9⟩ := hI
  obtain ⟨r, c2, c22, tk2, ln2, tb2, vc2, vs2, ts2, tl2, ti2, rn2, f2, hA2, s1, s2⟩ := op_told hvt htt hA hX hM9 (xs (6 * k + 1))
  obtain ⟨wd, nu, fr, tt9, sf, cls, hR, hM⟩ := hM9
  obtain ⟨z10, z11, z20, z21, z22, z25, z26, z27, z29, e0⟩ := m_0 hM
  refine v_aload_n O dL_law_297 1 rfl ?_
  refine law_ld O hx 1 dL_law_298 dL_law_299 dL_law_300 dL_law_301 dL_law_302 rfl (by omega) hL ?_
  refine law_c1 O cf_L_36 rfl (x_0 hX) s1 dL_law_303 rfl rfl (by decide) (Nat.le_of_ble_eq_true rfl) hkc hks (fun b2 h2 => ?_)
  refine v_aload_n O dL_law_306 2 rfl ?_
  refine law_ld O hx 1 dL_law_307 dL_law_308 dL_law_309 dL_law_310 dL_law_311 rfl (by omega) hL ?_
  refine law_c2 O cf_L_39 rfl e0 s2 dL_law_312 rfl rfl (by decide) (Nat.le_of_ble_eq_true rfl) hkc hks (fun b3 h3 => ?_)
  exact v_icmp_eq O 1118 dL_law_315 rfl (fun _ => K b2 b3 ⟨_, _, _, _, _, _, _, _, _, _, _, _, hA2, h2, h3⟩) (fun h => absurd rfl h)
theorem law_wake {D : G} {X : CX} {nm : String} {kc ks cells slots b L k : Nat} {xs : Nat → Int32} {xa : Nat → Nat} {vt tt : Nat → Option Nat} {mo : Nat} {ma : Nat → Nat} {bx bm : Nat → va_W} (O : Ok D X (mLn nm) 50 kc ks) (hx : LX X b L xs) (hL : L ≤ 3072) (hk : 6 * k + 6 ≤ L) (hkc : cells ≤ kc) (hks : slots ≤ ks) (hvt : ∀ k, k < 6 → vt k = some (xa (16 + 5 * k))) (htt : ∀ k, k < 6 → tt k = some (xa (82 + 2 * k))) (hI : Inv D xa vt tt mo ma bx bm) (K : ∀ b2 b3 : Nat → va_W, Inv D xa vt tt mo ma b2 b3 → V D X cells slots 1118 (lwv b (xa 0) mo k) [] (wB 24 b2 ++ wB 55 b3)) : V D X cells slots 320 (lwv b (xa 0) mo k) [] (wB 24 bx ++ wB 55 bm) := by
  obtain ⟨c, c2, tk, ln, tb, vc, vs, ts, tl, ti, rn, f, hA, hX, hM9⟩ := hI
  obtain ⟨r, c2, c22, tk2, ln2, tb2, vc2, vs2, ts2, tl2, ti2, rn2, f2, hA2, s1, s2⟩ := op_wake hvt htt hA hX hM9 (xs (6 * k + 1))
  obtain ⟨wd, nu, fr, tt9, sf, cls, hR, hM⟩ := hM9
  obtain ⟨z10, z11, z20, z21, z22, z25, z26, z27, z29, e0⟩ := m_0 hM
  refine v_aload_n O dL_law_320 1 rfl ?_
  refine law_ld O hx 1 dL_law_321 dL_law_322 dL_law_323 dL_law_324 dL_law_325 rfl (by omega) hL ?_
  refine law_c1 O cf_L_40 rfl (x_0 hX) s1 dL_law_326 rfl rfl (by decide) (Nat.le_of_ble_eq_true rfl) hkc hks (fun b2 h2 => ?_)
  refine v_aload_n O dL_law_329 2 rfl ?_
  refine law_ld O hx 1 dL_law_330 dL_law_331 dL_law_332 dL_law_333 dL_law_334 rfl (by omega) hL ?_
  refine law_c2 O cf_L_43 rfl e0 s2 dL_law_335 rfl rfl (by decide) (Nat.le_of_ble_eq_true rfl) hkc hks (fun b3 h3 => ?_)
  exact v_icmp_eq O 1118 dL_law_338 rfl (fun _ => K b2 b3 ⟨_, _, _, _, _, _, _, _, _, _, _, _, hA2, h2, h3⟩) (fun h => absurd rfl h)
theorem law_row {D : G} {X : CX} {nm : String} {kc ks cells slots b L k : Nat} {xs : Nat → Int32} {xa : Nat → Nat} {vt tt : Nat → Option Nat} {mo : Nat} {ma : Nat → Nat} {bx bm : Nat → va_W} (O : Ok D X (mLn nm) 50 kc ks) (hx : LX X b L xs) (hL : L ≤ 3072) (hk : 6 * k + 6 ≤ L) (hkc : cells ≤ kc) (hks : slots ≤ ks) (hvt : ∀ k, k < 6 → vt k = some (xa (16 + 5 * k))) (htt : ∀ k, k < 6 → tt k = some (xa (82 + 2 * k))) (hI : Inv D xa vt tt mo ma bx bm) (K : ∀ b2 b3 : Nat → va_W, Inv D xa vt tt mo ma b2 b3 → V D X cells slots 1118 (lwv b (xa 0) mo k) [] (wB 24 b2 ++ wB 55 b3)) : V D X cells slots 343 (lwv b (xa 0) mo k) [] (wB 24 bx ++ wB 55 bm) := by
  obtain ⟨c, c2, tk, ln, tb, vc, vs, ts, tl, ti, rn, f, hA, hX, hM9⟩ := hI
  obtain ⟨r, c2, c22, tk2, ln2, tb2, vc2, vs2, ts2, tl2, ti2, rn2, f2, hA2, s1, s2⟩ := op_row hvt htt hA hX hM9 (xs (6 * k + 1))
  obtain ⟨wd, nu, fr, tt9, sf, cls, hR, hM⟩ := hM9
  obtain ⟨z10, z11, z20, z21, z22, z25, z26, z27, z29, e0⟩ := m_0 hM
  refine v_aload_n O dL_law_343 1 rfl ?_
  refine law_ld O hx 1 dL_law_344 dL_law_345 dL_law_346 dL_law_347 dL_law_348 rfl (by omega) hL ?_
  refine law_c1 O cf_L_44 rfl (x_0 hX) s1 dL_law_349 rfl rfl (by decide) (Nat.le_of_ble_eq_true rfl) hkc hks (fun b2 h2 => ?_)
  refine v_aload_n O dL_law_352 2 rfl ?_
  refine law_ld O hx 1 dL_law_353 dL_law_354 dL_law_355 dL_law_356 dL_law_357 rfl (by omega) hL ?_
  refine law_c2 O cf_L_47 rfl e0 s2 dL_law_358 rfl rfl (by decide) (Nat.le_of_ble_eq_true rfl) hkc hks (fun b3 h3 => ?_)
  exact v_icmp_eq O 1118 dL_law_361 rfl (fun _ => K b2 b3 ⟨_, _, _, _, _, _, _, _, _, _, _, _, hA2, h2, h3⟩) (fun h => absurd rfl h)
theorem law_night {D : G} {X : CX} {nm : String} {kc ks cells slots b L k : Nat} {xs : Nat → Int32} {xa : Nat → Nat} {vt tt : Nat → Option Nat} {mo : Nat} {ma : Nat → Nat} {bx bm : Nat → va_W} (O : Ok D X (mLn nm) 50 kc ks) (hx : LX X b L xs) (hL : L ≤ 3072) (hk : 6 * k + 6 ≤ L) (hkc : cells ≤ kc) (hks : slots ≤ ks) (hvt : ∀ k, k < 6 → vt k = some (xa (16 + 5 * k))) (htt : ∀ k, k < 6 → tt k = some (xa (82 + 2 * k))) (hI : Inv D xa vt tt mo ma bx bm) (K : ∀ b2 b3 : Nat → va_W, Inv D xa vt tt mo ma b2 b3 → V D X cells slots 1118 (lwv b (xa 0) mo k) [] (wB 24 b2 ++ wB 55 b3)) : V D X cells slots 366 (lwv b (xa 0) mo k) [] (wB 24 bx ++ wB 55 bm) := by
  obtain ⟨c, c2, tk, ln, tb, vc, vs, ts, tl, ti, rn, f, hA, hX, hM9⟩ := hI
  obtain ⟨r, c2, c22, tk2, ln2, tb2, vc2, vs2, ts2, tl2, ti2, rn2, f2, hA2, s1, s2⟩ := op_night hvt htt hA hX hM9 (xs (6 * k + 1))
  obtain ⟨wd, nu, fr, tt9, sf, cls, hR, hM⟩ := hM9
  obtain ⟨z10, z11, z20, z21, z22, z25, z26, z27, z29, e0⟩ := m_0 hM
  refine v_aload_n O dL_law_366 1 rfl ?_
  refine law_ld O hx 1 dL_law_367 dL_law_368 dL_law_369 dL_law_370 dL_law_371 rfl (by omega) hL ?_
  refine law_c1 O cf_L_48 rfl (x_0 hX) s1 dL_law_372 rfl rfl (by decide) (Nat.le_of_ble_eq_true rfl) hkc hks (fun b2 h2 => ?_)
  refine v_aload_n O dL_law_375 2 rfl ?_
  refine law_ld O hx 1 dL_law_376 dL_law_377 dL_law_378 dL_law_379 dL_law_380 rfl (by omega) hL ?_
  refine law_c2 O cf_L_51 rfl e0 s2 dL_law_381 rfl rfl (by decide) (Nat.le_of_ble_eq_true rfl) hkc hks (fun b3 h3 => ?_)
  exact v_icmp_eq O 1118 dL_law_384 rfl (fun _ => K b2 b3 ⟨_, _, _, _, _, _, _, _, _, _, _, _, hA2, h2, h3⟩) (fun h => absurd rfl h)
theorem law_least {D : G} {X : CX} {nm : String} {kc ks cells slots b L k : Nat} {xs : Nat → Int32} {xa : Nat → Nat} {vt tt : Nat → Option Nat} {mo : Nat} {ma : Nat → Nat} {bx bm : Nat → va_W} (O : Ok D X (mLn nm) 50 kc ks) (hx : LX X b L xs) (hL : L ≤ 3072) (hk : 6 * k + 6 ≤ L) (hkc : cells ≤ kc) (hks : slots ≤ ks) (hvt : ∀ k, k < 6 → vt k = some (xa (16 + 5 * k))) (htt : ∀ k, k < 6 → tt k = some (xa (82 + 2 * k))) (hI : Inv D xa vt tt mo ma bx bm) (K : ∀ b2 b3 : Nat → va_W, Inv D xa vt tt mo ma b2 b3 → V D X cells slots 1118 (lwv b (xa 0) mo k) [] (wB 24 b2 ++ wB 55 b3)) : V D X cells slots 389 (lwv b (xa 0) mo k) [] (wB 24 bx ++ wB 55 bm) := by
  obtain ⟨c, c2, tk, ln, tb, vc, vs, ts, tl, ti, rn, f, hA, hX, hM9⟩ := hI
  obtain ⟨r, c2, c22, tk2, ln2, tb2, vc2, vs2, ts2, tl2, ti2, rn2, f2, hA2, s1, s2⟩ := op_least hvt htt hA hX hM9 (xs (6 * k + 1))
  obtain ⟨wd, nu, fr, tt9, sf, cls, hR, hM⟩ := hM9
  obtain ⟨z10, z11, z20, z21, z22, z25, z26, z27, z29, e0⟩ := m_0 hM
  refine v_aload_n O dL_law_389 1 rfl ?_
  refine law_ld O hx 1 dL_law_390 dL_law_391 dL_law_392 dL_law_393 dL_law_394 rfl (by omega) hL ?_
  refine law_c1 O cf_L_52 rfl (x_0 hX) s1 dL_law_395 rfl rfl (by decide) (Nat.le_of_ble_eq_true rfl) hkc hks (fun b2 h2 => ?_)
  refine v_aload_n O dL_law_398 2 rfl ?_
  refine law_ld O hx 1 dL_law_399 dL_law_400 dL_law_401 dL_law_402 dL_law_403 rfl (by omega) hL ?_
  refine law_c2 O cf_L_55 rfl e0 s2 dL_law_404 rfl rfl (by decide) (Nat.le_of_ble_eq_true rfl) hkc hks (fun b3 h3 => ?_)
  exact v_icmp_eq O 1118 dL_law_407 rfl (fun _ => K b2 b3 ⟨_, _, _, _, _, _, _, _, _, _, _, _, hA2, h2, h3⟩) (fun h => absurd rfl h)
theorem law_all {D : G} {X : CX} {nm : String} {kc ks cells slots b L k : Nat} {xs : Nat → Int32} {xa : Nat → Nat} {vt tt : Nat → Option Nat} {mo : Nat} {ma : Nat → Nat} {bx bm : Nat → va_W} (O : Ok D X (mLn nm) 50 kc ks) (hx : LX X b L xs) (hL : L ≤ 3072) (hk : 6 * k + 6 ≤ L) (hkc : cells ≤ kc) (hks : slots ≤ ks) (hvt : ∀ k, k < 6 → vt k = some (xa (16 + 5 * k))) (htt : ∀ k, k < 6 → tt k = some (xa (82 + 2 * k))) (hI : Inv D xa vt tt mo ma bx bm) (K : ∀ b2 b3 : Nat → va_W, Inv D xa vt tt mo ma b2 b3 → V D X cells slots 1118 (lwv b (xa 0) mo k) [] (wB 24 b2 ++ wB 55 b3)) : V D X cells slots 412 (lwv b (xa 0) mo k) [] (wB 24 bx ++ wB 55 bm) := by
  obtain ⟨c, c2, tk, ln, tb, vc, vs, ts, tl, ti, rn, f, hA, hX, hM9⟩ := hI
  obtain ⟨r, c2, c22, tk2, ln2, tb2, vc2, vs2, ts2, tl2, ti2, rn2, f2, hA2, s1, s2⟩ := op_all hvt htt hA hX hM9 (xs (6 * k + 1))
  obtain ⟨wd, nu, fr, tt9, sf, cls, hR, hM⟩ := hM9
  obtain ⟨z10, z11, z20, z21, z22, z25, z26, z27, z29, e0⟩ := m_0 hM
  refine v_aload_n O dL_law_412 1 rfl ?_
  refine law_ld O hx 1 dL_law_413 dL_law_414 dL_law_415 dL_law_416 dL_law_417 rfl (by omega) hL ?_
  refine law_c1 O cf_L_56 rfl (x_0 hX) s1 dL_law_418 rfl rfl (by decide) (Nat.le_of_ble_eq_true rfl) hkc hks (fun b2 h2 => ?_)
  refine v_aload_n O dL_law_421 2 rfl ?_
  refine law_ld O hx 1 dL_law_422 dL_law_423 dL_law_424 dL_law_425 dL_law_426 rfl (by omega) hL ?_
  refine law_c2 O cf_L_59 rfl e0 s2 dL_law_427 rfl rfl (by decide) (Nat.le_of_ble_eq_true rfl) hkc hks (fun b3 h3 => ?_)
  exact v_icmp_eq O 1118 dL_law_430 rfl (fun _ => K b2 b3 ⟨_, _, _, _, _, _, _, _, _, _, _, _, hA2, h2, h3⟩) (fun h => absurd rfl h)
theorem law_greatest {D : G} {X : CX} {nm : String} {kc ks cells slots b L k : Nat} {xs : Nat → Int32} {xa : Nat → Nat} {vt tt : Nat → Option Nat} {mo : Nat} {ma : Nat → Nat} {bx bm : Nat → va_W} (O : Ok D X (mLn nm) 50 kc ks) (hx : LX X b L xs) (hL : L ≤ 3072) (hk : 6 * k + 6 ≤ L) (hkc : cells ≤ kc) (hks : slots ≤ ks) (hvt : ∀ k, k < 6 → vt k = some (xa (16 + 5 * k))) (htt : ∀ k, k < 6 → tt k = some (xa (82 + 2 * k))) (hI : Inv D xa vt tt mo ma bx bm) (K : ∀ b2 b3 : Nat → va_W, Inv D xa vt tt mo ma b2 b3 → V D X cells slots 1118 (lwv b (xa 0) mo k) [] (wB 24 b2 ++ wB 55 b3)) : V D X cells slots 435 (lwv b (xa 0) mo k) [] (wB 24 bx ++ wB 55 bm) := by
  obtain ⟨c, c2, tk, ln, tb, vc, vs, ts, tl, ti, rn, f, hA, hX, hM9⟩ := hI
  obtain ⟨r, c2, c22, tk2, ln2, tb2, vc2, vs2, ts2, tl2, ti2, rn2, f2, hA2, s1, s2⟩ := op_greatest hvt htt hA hX hM9 (xs (6 * k + 1))
  obtain ⟨wd, nu, fr, tt9, sf, cls, hR, hM⟩ := hM9
  obtain ⟨z10, z11, z20, z21, z22, z25, z26, z27, z29, e0⟩ := m_0 hM
  refine v_aload_n O dL_law_435 1 rfl ?_
  refine law_ld O hx 1 dL_law_436 dL_law_437 dL_law_438 dL_law_439 dL_law_440 rfl (by omega) hL ?_
  refine law_c1 O cf_L_60 rfl (x_0 hX) s1 dL_law_441 rfl rfl (by decide) (Nat.le_of_ble_eq_true rfl) hkc hks (fun b2 h2 => ?_)
  refine v_aload_n O dL_law_444 2 rfl ?_
  refine law_ld O hx 1 dL_law_445 dL_law_446 dL_law_447 dL_law_448 dL_law_449 rfl (by omega) hL ?_
  refine law_c2 O cf_L_63 rfl e0 s2 dL_law_450 rfl rfl (by decide) (Nat.le_of_ble_eq_true rfl) hkc hks (fun b3 h3 => ?_)
  exact v_icmp_eq O 1118 dL_law_453 rfl (fun _ => K b2 b3 ⟨_, _, _, _, _, _, _, _, _, _, _, _, hA2, h2, h3⟩) (fun h => absurd rfl h)
theorem law_left {D : G} {X : CX} {nm : String} {kc ks cells slots b L k : Nat} {xs : Nat → Int32} {xa : Nat → Nat} {vt tt : Nat → Option Nat} {mo : Nat} {ma : Nat → Nat} {bx bm : Nat → va_W} (O : Ok D X (mLn nm) 50 kc ks) (hx : LX X b L xs) (hL : L ≤ 3072) (hk : 6 * k + 6 ≤ L) (hkc : cells ≤ kc) (hks : slots ≤ ks) (hvt : ∀ k, k < 6 → vt k = some (xa (16 + 5 * k))) (htt : ∀ k, k < 6 → tt k = some (xa (82 + 2 * k))) (hI : Inv D xa vt tt mo ma bx bm) (K : ∀ b2 b3 : Nat → va_W, Inv D xa vt tt mo ma b2 b3 → V D X cells slots 1118 (lwv b (xa 0) mo k) [] (wB 24 b2 ++ wB 55 b3)) : V D X cells slots 458 (lwv b (xa 0) mo k) [] (wB 24 bx ++ wB 55 bm) := by
  obtain ⟨c, c2, tk, ln, tb, vc, vs, ts, tl, ti, rn, f, hA, hX, hM9⟩ := hI
  obtain ⟨r, c2, c22, tk2, ln2, tb2, vc2, vs2, ts2, tl2, ti2, rn2, f2, hA2, s1, s2⟩ := op_left hvt htt hA hX hM9 (xs (6 * k + 1)) (xs (6 * k + 2))
  obtain ⟨wd, nu, fr, tt9, sf, cls, hR, hM⟩ := hM9
  obtain ⟨z10, z11, z20, z21, z22, z25, z26, z27, z29, e0⟩ := m_0 hM
  refine v_aload_n O dL_law_458 1 rfl ?_
  refine law_ld O hx 1 dL_law_459 dL_law_460 dL_law_461 dL_law_462 dL_law_463 rfl (by omega) hL ?_
  refine law_ld O hx 2 dL_law_464 dL_law_465 dL_law_466 dL_law_467 dL_law_468 rfl (by omega) hL ?_
  refine law_c1 O cf_L_64 rfl (x_0 hX) s1 dL_law_469 rfl rfl (by decide) (Nat.le_of_ble_eq_true rfl) hkc hks (fun b2 h2 => ?_)
  refine v_aload_n O dL_law_472 2 rfl ?_
  refine law_ld O hx 1 dL_law_473 dL_law_474 dL_law_475 dL_law_476 dL_law_477 rfl (by omega) hL ?_
  refine law_ld O hx 2 dL_law_478 dL_law_479 dL_law_480 dL_law_481 dL_law_482 rfl (by omega) hL ?_
  refine law_c2 O cf_L_67 rfl e0 s2 dL_law_483 rfl rfl (by decide) (Nat.le_of_ble_eq_true rfl) hkc hks (fun b3 h3 => ?_)
  exact v_icmp_eq O 1118 dL_law_486 rfl (fun _ => K b2 b3 ⟨_, _, _, _, _, _, _, _, _, _, _, _, hA2, h2, h3⟩) (fun h => absurd rfl h)
theorem law_was {D : G} {X : CX} {nm : String} {kc ks cells slots b L k : Nat} {xs : Nat → Int32} {xa : Nat → Nat} {vt tt : Nat → Option Nat} {mo : Nat} {ma : Nat → Nat} {bx bm : Nat → va_W} (O : Ok D X (mLn nm) 50 kc ks) (hx : LX X b L xs) (hL : L ≤ 3072) (hk : 6 * k + 6 ≤ L) (hkc : cells ≤ kc) (hks : slots ≤ ks) (hvt : ∀ k, k < 6 → vt k = some (xa (16 + 5 * k))) (htt : ∀ k, k < 6 → tt k = some (xa (82 + 2 * k))) (hI : Inv D xa vt tt mo ma bx bm) (K : ∀ b2 b3 : Nat → va_W, Inv D xa vt tt mo ma b2 b3 → V D X cells slots 1118 (lwv b (xa 0) mo k) [] (wB 24 b2 ++ wB 55 b3)) : V D X cells slots 491 (lwv b (xa 0) mo k) [] (wB 24 bx ++ wB 55 bm) := by
  obtain ⟨c, c2, tk, ln, tb, vc, vs, ts, tl, ti, rn, f, hA, hX, hM9⟩ := hI
  obtain ⟨r, c2, c22, tk2, ln2, tb2, vc2, vs2, ts2, tl2, ti2, rn2, f2, hA2, s1, s2⟩ := op_was hvt htt hA hX hM9 (xs (6 * k + 1))
  obtain ⟨wd, nu, fr, tt9, sf, cls, hR, hM⟩ := hM9
  obtain ⟨z10, z11, z20, z21, z22, z25, z26, z27, z29, e0⟩ := m_0 hM
  refine v_aload_n O dL_law_491 1 rfl ?_
  refine law_ld O hx 1 dL_law_492 dL_law_493 dL_law_494 dL_law_495 dL_law_496 rfl (by omega) hL ?_
  refine law_c1 O cf_L_68 rfl (x_0 hX) s1 dL_law_497 rfl rfl (by decide) (Nat.le_of_ble_eq_true rfl) hkc hks (fun b2 h2 => ?_)
  refine v_aload_n O dL_law_500 2 rfl ?_
  refine law_ld O hx 1 dL_law_501 dL_law_502 dL_law_503 dL_law_504 dL_law_505 rfl (by omega) hL ?_
  refine law_c2 O cf_L_71 rfl e0 s2 dL_law_506 rfl rfl (by decide) (Nat.le_of_ble_eq_true rfl) hkc hks (fun b3 h3 => ?_)
  exact v_icmp_eq O 1118 dL_law_509 rfl (fun _ => K b2 b3 ⟨_, _, _, _, _, _, _, _, _, _, _, _, hA2, h2, h3⟩) (fun h => absurd rfl h)
theorem law_up {D : G} {X : CX} {nm : String} {kc ks cells slots b L k : Nat} {xs : Nat → Int32} {xa : Nat → Nat} {vt tt : Nat → Option Nat} {mo : Nat} {ma : Nat → Nat} {bx bm : Nat → va_W} (O : Ok D X (mLn nm) 50 kc ks) (hx : LX X b L xs) (hL : L ≤ 3072) (hk : 6 * k + 6 ≤ L) (hkc : cells ≤ kc) (hks : slots ≤ ks) (hvt : ∀ k, k < 6 → vt k = some (xa (16 + 5 * k))) (htt : ∀ k, k < 6 → tt k = some (xa (82 + 2 * k))) (hI : Inv D xa vt tt mo ma bx bm) (K : ∀ b2 b3 : Nat → va_W, Inv D xa vt tt mo ma b2 b3 → V D X cells slots 1118 (lwv b (xa 0) mo k) [] (wB 24 b2 ++ wB 55 b3)) : V D X cells slots 514 (lwv b (xa 0) mo k) [] (wB 24 bx ++ wB 55 bm) := by
  obtain ⟨c, c2, tk, ln, tb, vc, vs, ts, tl, ti, rn, f, hA, hX, hM9⟩ := hI
  obtain ⟨r, c2, c22, tk2, ln2, tb2, vc2, vs2, ts2, tl2, ti2, rn2, f2, hA2, s1, s2⟩ := op_up hvt htt hA hX hM9 (xs (6 * k + 1)) (xs (6 * k + 2)) (xs (6 * k + 3))
  obtain ⟨wd, nu, fr, tt9, sf, cls, hR, hM⟩ := hM9
  obtain ⟨z10, z11, z20, z21, z22, z25, z26, z27, z29, e0⟩ := m_0 hM
  refine v_aload_n O dL_law_514 1 rfl ?_
  refine law_ld O hx 1 dL_law_515 dL_law_516 dL_law_517 dL_law_518 dL_law_519 rfl (by omega) hL ?_
  refine law_ld O hx 2 dL_law_520 dL_law_521 dL_law_522 dL_law_523 dL_law_524 rfl (by omega) hL ?_
  refine law_ld O hx 3 dL_law_525 dL_law_526 dL_law_527 dL_law_528 dL_law_529 rfl (by omega) hL ?_
  refine law_c1 O cf_L_72 rfl (x_0 hX) s1 dL_law_530 rfl rfl (by decide) (Nat.le_of_ble_eq_true rfl) hkc hks (fun b2 h2 => ?_)
  refine v_aload_n O dL_law_533 2 rfl ?_
  refine law_ld O hx 1 dL_law_534 dL_law_535 dL_law_536 dL_law_537 dL_law_538 rfl (by omega) hL ?_
  refine law_ld O hx 2 dL_law_539 dL_law_540 dL_law_541 dL_law_542 dL_law_543 rfl (by omega) hL ?_
  refine law_ld O hx 3 dL_law_544 dL_law_545 dL_law_546 dL_law_547 dL_law_548 rfl (by omega) hL ?_
  refine law_c2 O cf_L_76 rfl e0 s2 dL_law_549 rfl rfl (by decide) (Nat.le_of_ble_eq_true rfl) hkc hks (fun b3 h3 => ?_)
  exact v_icmp_eq O 1118 dL_law_552 rfl (fun _ => K b2 b3 ⟨_, _, _, _, _, _, _, _, _, _, _, _, hA2, h2, h3⟩) (fun h => absurd rfl h)
theorem law_fair {D : G} {X : CX} {nm : String} {kc ks cells slots b L k : Nat} {xs : Nat → Int32} {xa : Nat → Nat} {vt tt : Nat → Option Nat} {mo : Nat} {ma : Nat → Nat} {bx bm : Nat → va_W} (O : Ok D X (mLn nm) 50 kc ks) (hx : LX X b L xs) (hL : L ≤ 3072) (hk : 6 * k + 6 ≤ L) (hkc : cells ≤ kc) (hks : slots ≤ ks) (hvt : ∀ k, k < 6 → vt k = some (xa (16 + 5 * k))) (htt : ∀ k, k < 6 → tt k = some (xa (82 + 2 * k))) (hI : Inv D xa vt tt mo ma bx bm) (K : ∀ b2 b3 : Nat → va_W, Inv D xa vt tt mo ma b2 b3 → V D X cells slots 1118 (lwv b (xa 0) mo k) [] (wB 24 b2 ++ wB 55 b3)) : V D X cells slots 557 (lwv b (xa 0) mo k) [] (wB 24 bx ++ wB 55 bm) := by
  obtain ⟨c, c2, tk, ln, tb, vc, vs, ts, tl, ti, rn, f, hA, hX, hM9⟩ := hI
  obtain ⟨r, c2, c22, tk2, ln2, tb2, vc2, vs2, ts2, tl2, ti2, rn2, f2, hA2, s1, s2⟩ := op_fair hvt htt hA hX hM9 (xs (6 * k + 1)) (xs (6 * k + 2)) (xs (6 * k + 3))
  obtain ⟨wd, nu, fr, tt9, sf, cls, hR, hM⟩ := hM9
  obtain ⟨z10, z11, z20, z21, z22, z25, z26, z27, z29, e0⟩ := m_0 hM
  refine v_aload_n O dL_law_557 1 rfl ?_
  refine law_ld O hx 1 dL_law_558 dL_law_559 dL_law_560 dL_law_561 dL_law_562 rfl (by omega) hL ?_
  refine law_ld O hx 2 dL_law_563 dL_law_564 dL_law_565 dL_law_566 dL_law_567 rfl (by omega) hL ?_
  refine law_ld O hx 3 dL_law_568 dL_law_569 dL_law_570 dL_law_571 dL_law_572 rfl (by omega) hL ?_
  refine law_c1 O cf_L_77 rfl (x_0 hX) s1 dL_law_573 rfl rfl (by decide) (Nat.le_of_ble_eq_true rfl) hkc hks (fun b2 h2 => ?_)
  refine v_aload_n O dL_law_576 2 rfl ?_
  refine law_ld O hx 1 dL_law_577 dL_law_578 dL_law_579 dL_law_580 dL_law_581 rfl (by omega) hL ?_
  refine law_ld O hx 2 dL_law_582 dL_law_583 dL_law_584 dL_law_585 dL_law_586 rfl (by omega) hL ?_
  refine law_ld O hx 3 dL_law_587 dL_law_588 dL_law_589 dL_law_590 dL_law_591 rfl (by omega) hL ?_
  refine law_c2 O cf_L_81 rfl e0 s2 dL_law_592 rfl rfl (by decide) (Nat.le_of_ble_eq_true rfl) hkc hks (fun b3 h3 => ?_)
  refine v_lcmp O dL_law_595 ?_
  exact v_if_eq O 1118 dL_law_596 rfl (fun _ => K b2 b3 ⟨_, _, _, _, _, _, _, _, _, _, _, _, hA2, h2, h3⟩) (fun h => absurd ((lg_cmp_eq _ _).mpr rfl) h)
theorem law_chance {D : G} {X : CX} {nm : String} {kc ks cells slots b L k : Nat} {xs : Nat → Int32} {xa : Nat → Nat} {vt tt : Nat → Option Nat} {mo : Nat} {ma : Nat → Nat} {bx bm : Nat → va_W} (O : Ok D X (mLn nm) 50 kc ks) (hx : LX X b L xs) (hL : L ≤ 3072) (hk : 6 * k + 6 ≤ L) (hkc : cells ≤ kc) (hks : slots ≤ ks) (hvt : ∀ k, k < 6 → vt k = some (xa (16 + 5 * k))) (htt : ∀ k, k < 6 → tt k = some (xa (82 + 2 * k))) (hI : Inv D xa vt tt mo ma bx bm) (K : ∀ b2 b3 : Nat → va_W, Inv D xa vt tt mo ma b2 b3 → V D X cells slots 1118 (lwv b (xa 0) mo k) [] (wB 24 b2 ++ wB 55 b3)) : V D X cells slots 601 (lwv b (xa 0) mo k) [] (wB 24 bx ++ wB 55 bm) := by
  obtain ⟨c, c2, tk, ln, tb, vc, vs, ts, tl, ti, rn, f, hA, hX, hM9⟩ := hI
  obtain ⟨r, c2, c22, tk2, ln2, tb2, vc2, vs2, ts2, tl2, ti2, rn2, f2, hA2, s1, s2⟩ := op_chance hvt htt hA hX hM9 (xs (6 * k + 1)) (xs (6 * k + 2))
  obtain ⟨wd, nu, fr, tt9, sf, cls, hR, hM⟩ := hM9
  obtain ⟨z10, z11, z20, z21, z22, z25, z26, z27, z29, e0⟩ := m_0 hM
  refine v_aload_n O dL_law_601 1 rfl ?_
  refine law_ld O hx 1 dL_law_602 dL_law_603 dL_law_604 dL_law_605 dL_law_606 rfl (by omega) hL ?_
  refine law_ld O hx 2 dL_law_607 dL_law_608 dL_law_609 dL_law_610 dL_law_611 rfl (by omega) hL ?_
  refine law_c1 O cf_L_82 rfl (x_0 hX) s1 dL_law_612 rfl rfl (by decide) (Nat.le_of_ble_eq_true rfl) hkc hks (fun b2 h2 => ?_)
  refine v_aload_n O dL_law_615 2 rfl ?_
  refine law_ld O hx 1 dL_law_616 dL_law_617 dL_law_618 dL_law_619 dL_law_620 rfl (by omega) hL ?_
  refine law_ld O hx 2 dL_law_621 dL_law_622 dL_law_623 dL_law_624 dL_law_625 rfl (by omega) hL ?_
  refine law_c2 O cf_L_86 rfl e0 s2 dL_law_626 rfl rfl (by decide) (Nat.le_of_ble_eq_true rfl) hkc hks (fun b3 h3 => ?_)
  refine v_lcmp O dL_law_629 ?_
  exact v_if_eq O 1118 dL_law_630 rfl (fun _ => K b2 b3 ⟨_, _, _, _, _, _, _, _, _, _, _, _, hA2, h2, h3⟩) (fun h => absurd ((lg_cmp_eq _ _).mpr rfl) h)
theorem law_big {D : G} {X : CX} {nm : String} {kc ks cells slots b L k : Nat} {xs : Nat → Int32} {xa : Nat → Nat} {vt tt : Nat → Option Nat} {mo : Nat} {ma : Nat → Nat} {bx bm : Nat → va_W} (O : Ok D X (mLn nm) 50 kc ks) (hx : LX X b L xs) (hL : L ≤ 3072) (hk : 6 * k + 6 ≤ L) (hkc : cells ≤ kc) (hks : slots ≤ ks) (hvt : ∀ k, k < 6 → vt k = some (xa (16 + 5 * k))) (htt : ∀ k, k < 6 → tt k = some (xa (82 + 2 * k))) (hI : Inv D xa vt tt mo ma bx bm) (K : ∀ b2 b3 : Nat → va_W, Inv D xa vt tt mo ma b2 b3 → V D X cells slots 1118 (lwv b (xa 0) mo k) [] (wB 24 b2 ++ wB 55 b3)) : V D X cells slots 635 (lwv b (xa 0) mo k) [] (wB 24 bx ++ wB 55 bm) := by
  obtain ⟨c, c2, tk, ln, tb, vc, vs, ts, tl, ti, rn, f, hA, hX, hM9⟩ := hI
  obtain ⟨r, c2, c22, tk2, ln2, tb2, vc2, vs2, ts2, tl2, ti2, rn2, f2, hA2, s1, s2⟩ := op_big hvt htt hA hX hM9 (xs (6 * k + 1)) (xs (6 * k + 2)) (xs (6 * k + 3)) (xs (6 * k + 4))
  obtain ⟨wd, nu, fr, tt9, sf, cls, hR, hM⟩ := hM9
  obtain ⟨z10, z11, z20, z21, z22, z25, z26, z27, z29, e0⟩ := m_0 hM
  refine v_aload_n O dL_law_635 1 rfl ?_
  refine law_ld O hx 1 dL_law_636 dL_law_637 dL_law_638 dL_law_639 dL_law_640 rfl (by omega) hL ?_
  refine law_ld O hx 2 dL_law_641 dL_law_642 dL_law_643 dL_law_644 dL_law_645 rfl (by omega) hL ?_
  refine law_ld O hx 3 dL_law_646 dL_law_647 dL_law_648 dL_law_649 dL_law_650 rfl (by omega) hL ?_
  refine law_ld O hx 4 dL_law_651 dL_law_652 dL_law_653 dL_law_654 dL_law_655 rfl (by omega) hL ?_
  refine law_c1 O cf_L_87 rfl (x_0 hX) s1 dL_law_656 rfl rfl (by decide) (Nat.le_of_ble_eq_true rfl) hkc hks (fun b2 h2 => ?_)
  refine v_aload_n O dL_law_659 2 rfl ?_
  refine law_ld O hx 1 dL_law_660 dL_law_661 dL_law_662 dL_law_663 dL_law_664 rfl (by omega) hL ?_
  refine law_ld O hx 2 dL_law_665 dL_law_666 dL_law_667 dL_law_668 dL_law_669 rfl (by omega) hL ?_
  refine law_ld O hx 3 dL_law_670 dL_law_671 dL_law_672 dL_law_673 dL_law_674 rfl (by omega) hL ?_
  refine law_ld O hx 4 dL_law_675 dL_law_676 dL_law_677 dL_law_678 dL_law_679 rfl (by omega) hL ?_
  refine law_c2 O cf_L_91 rfl e0 s2 dL_law_680 rfl rfl (by decide) (Nat.le_of_ble_eq_true rfl) hkc hks (fun b3 h3 => ?_)
  exact v_icmp_eq O 1118 dL_law_683 rfl (fun _ => K b2 b3 ⟨_, _, _, _, _, _, _, _, _, _, _, _, hA2, h2, h3⟩) (fun h => absurd rfl h)
theorem law_book {D : G} {X : CX} {nm : String} {kc ks cells slots b L k : Nat} {xs : Nat → Int32} {xa : Nat → Nat} {vt tt : Nat → Option Nat} {mo : Nat} {ma : Nat → Nat} {bx bm : Nat → va_W} (O : Ok D X (mLn nm) 50 kc ks) (hx : LX X b L xs) (hL : L ≤ 3072) (hk : 6 * k + 6 ≤ L) (hkc : cells ≤ kc) (hks : slots ≤ ks) (hvt : ∀ k, k < 6 → vt k = some (xa (16 + 5 * k))) (htt : ∀ k, k < 6 → tt k = some (xa (82 + 2 * k))) (hI : Inv D xa vt tt mo ma bx bm) (K : ∀ b2 b3 : Nat → va_W, Inv D xa vt tt mo ma b2 b3 → V D X cells slots 1118 (lwv b (xa 0) mo k) [] (wB 24 b2 ++ wB 55 b3)) : V D X cells slots 688 (lwv b (xa 0) mo k) [] (wB 24 bx ++ wB 55 bm) := by
  obtain ⟨c, c2, tk, ln, tb, vc, vs, ts, tl, ti, rn, f, hA, hX, hM9⟩ := hI
  obtain ⟨r, c2, c22, tk2, ln2, tb2, vc2, vs2, ts2, tl2, ti2, rn2, f2, hA2, s1, s2⟩ := op_book hvt htt hA hX hM9 (xs (6 * k + 1))
  obtain ⟨wd, nu, fr, tt9, sf, cls, hR, hM⟩ := hM9
  obtain ⟨z10, z11, z20, z21, z22, z25, z26, z27, z29, e0⟩ := m_0 hM
  refine v_aload_n O dL_law_688 1 rfl ?_
  refine law_ld O hx 1 dL_law_689 dL_law_690 dL_law_691 dL_law_692 dL_law_693 rfl (by omega) hL ?_
  refine law_c1 O cf_L_92 rfl (x_0 hX) s1 dL_law_694 rfl rfl (by decide) (Nat.le_of_ble_eq_true rfl) hkc hks (fun b2 h2 => ?_)
  refine v_aload_n O dL_law_697 2 rfl ?_
  refine law_ld O hx 1 dL_law_698 dL_law_699 dL_law_700 dL_law_701 dL_law_702 rfl (by omega) hL ?_
  refine law_c2 O cf_L_95 rfl e0 s2 dL_law_703 rfl rfl (by decide) (Nat.le_of_ble_eq_true rfl) hkc hks (fun b3 h3 => ?_)
  exact v_icmp_eq O 1118 dL_law_706 rfl (fun _ => K b2 b3 ⟨_, _, _, _, _, _, _, _, _, _, _, _, hA2, h2, h3⟩) (fun h => absurd rfl h)
theorem law_looked {D : G} {X : CX} {nm : String} {kc ks cells slots b L k : Nat} {xs : Nat → Int32} {xa : Nat → Nat} {vt tt : Nat → Option Nat} {mo : Nat} {ma : Nat → Nat} {bx bm : Nat → va_W} (O : Ok D X (mLn nm) 50 kc ks) (hx : LX X b L xs) (hL : L ≤ 3072) (hk : 6 * k + 6 ≤ L) (hkc : cells ≤ kc) (hks : slots ≤ ks) (hvt : ∀ k, k < 6 → vt k = some (xa (16 + 5 * k))) (htt : ∀ k, k < 6 → tt k = some (xa (82 + 2 * k))) (hI : Inv D xa vt tt mo ma bx bm) (K : ∀ b2 b3 : Nat → va_W, Inv D xa vt tt mo ma b2 b3 → V D X cells slots 1118 (lwv b (xa 0) mo k) [] (wB 24 b2 ++ wB 55 b3)) : V D X cells slots 711 (lwv b (xa 0) mo k) [] (wB 24 bx ++ wB 55 bm) := by
  obtain ⟨c, c2, tk, ln, tb, vc, vs, ts, tl, ti, rn, f, hA, hX, hM9⟩ := hI
  obtain ⟨r, c2, c22, tk2, ln2, tb2, vc2, vs2, ts2, tl2, ti2, rn2, f2, hA2, s1, s2⟩ := op_looked hvt htt hA hX hM9 
  obtain ⟨wd, nu, fr, tt9, sf, cls, hR, hM⟩ := hM9
  obtain ⟨z10, z11, z20, z21, z22, z25, z26, z27, z29, e0⟩ := m_0 hM
  refine v_aload_n O dL_law_711 1 rfl ?_
  refine law_c1 O cf_L_96 rfl (x_0 hX) s1 dL_law_712 rfl rfl (by decide) (Nat.le_of_ble_eq_true rfl) hkc hks (fun b2 h2 => ?_)
  refine v_aload_n O dL_law_715 2 rfl ?_
  refine law_c2 O cf_L_99 rfl e0 s2 dL_law_716 rfl rfl (by decide) (Nat.le_of_ble_eq_true rfl) hkc hks (fun b3 h3 => ?_)
  exact v_icmp_eq O 1118 dL_law_719 rfl (fun _ => K b2 b3 ⟨_, _, _, _, _, _, _, _, _, _, _, _, hA2, h2, h3⟩) (fun h => absurd rfl h)
theorem law_judge {D : G} {X : CX} {nm : String} {kc ks cells slots b L k : Nat} {xs : Nat → Int32} {xa : Nat → Nat} {vt tt : Nat → Option Nat} {mo : Nat} {ma : Nat → Nat} {bx bm : Nat → va_W} (O : Ok D X (mLn nm) 50 kc ks) (hx : LX X b L xs) (hL : L ≤ 3072) (hk : 6 * k + 6 ≤ L) (hkc : cells ≤ kc) (hks : slots ≤ ks) (hvt : ∀ k, k < 6 → vt k = some (xa (16 + 5 * k))) (htt : ∀ k, k < 6 → tt k = some (xa (82 + 2 * k))) (hI : Inv D xa vt tt mo ma bx bm) (K : ∀ b2 b3 : Nat → va_W, Inv D xa vt tt mo ma b2 b3 → V D X cells slots 1118 (lwv b (xa 0) mo k) [] (wB 24 b2 ++ wB 55 b3)) : V D X cells slots 724 (lwv b (xa 0) mo k) [] (wB 24 bx ++ wB 55 bm) := by
  obtain ⟨c, c2, tk, ln, tb, vc, vs, ts, tl, ti, rn, f, hA, hX, hM9⟩ := hI
  obtain ⟨r, c2, c22, tk2, ln2, tb2, vc2, vs2, ts2, tl2, ti2, rn2, f2, hA2, s1, s2⟩ := op_judge hvt htt hA hX hM9 (xs (6 * k + 1)) (xs (6 * k + 2))
  obtain ⟨wd, nu, fr, tt9, sf, cls, hR, hM⟩ := hM9
  obtain ⟨z10, z11, z20, z21, z22, z25, z26, z27, z29, e0⟩ := m_0 hM
  refine v_aload_n O dL_law_724 1 rfl ?_
  refine law_ld O hx 1 dL_law_725 dL_law_726 dL_law_727 dL_law_728 dL_law_729 rfl (by omega) hL ?_
  refine law_ld O hx 2 dL_law_730 dL_law_731 dL_law_732 dL_law_733 dL_law_734 rfl (by omega) hL ?_
  refine law_c1 O cf_L_100 rfl (x_0 hX) s1 dL_law_735 rfl rfl (by decide) (Nat.le_of_ble_eq_true rfl) hkc hks (fun b2 h2 => ?_)
  refine v_aload_n O dL_law_738 2 rfl ?_
  refine law_ld O hx 1 dL_law_739 dL_law_740 dL_law_741 dL_law_742 dL_law_743 rfl (by omega) hL ?_
  refine law_ld O hx 2 dL_law_744 dL_law_745 dL_law_746 dL_law_747 dL_law_748 rfl (by omega) hL ?_
  refine law_c2 O cf_L_103 rfl e0 s2 dL_law_749 rfl rfl (by decide) (Nat.le_of_ble_eq_true rfl) hkc hks (fun b3 h3 => ?_)
  exact v_icmp_eq O 1118 dL_law_752 rfl (fun _ => K b2 b3 ⟨_, _, _, _, _, _, _, _, _, _, _, _, hA2, h2, h3⟩) (fun h => absurd rfl h)
theorem law_image {D : G} {X : CX} {nm : String} {kc ks cells slots b L k : Nat} {xs : Nat → Int32} {xa : Nat → Nat} {vt tt : Nat → Option Nat} {mo : Nat} {ma : Nat → Nat} {bx bm : Nat → va_W} (O : Ok D X (mLn nm) 50 kc ks) (hx : LX X b L xs) (hL : L ≤ 3072) (hk : 6 * k + 6 ≤ L) (hkc : cells ≤ kc) (hks : slots ≤ ks) (hvt : ∀ k, k < 6 → vt k = some (xa (16 + 5 * k))) (htt : ∀ k, k < 6 → tt k = some (xa (82 + 2 * k))) (hI : Inv D xa vt tt mo ma bx bm) (K : ∀ b2 b3 : Nat → va_W, Inv D xa vt tt mo ma b2 b3 → V D X cells slots 1118 (lwv b (xa 0) mo k) [] (wB 24 b2 ++ wB 55 b3)) : V D X cells slots 757 (lwv b (xa 0) mo k) [] (wB 24 bx ++ wB 55 bm) := by
  obtain ⟨c, c2, tk, ln, tb, vc, vs, ts, tl, ti, rn, f, hA, hX, hM9⟩ := hI
  obtain ⟨r, c2, c22, tk2, ln2, tb2, vc2, vs2, ts2, tl2, ti2, rn2, f2, hA2, s1, s2⟩ := op_image hvt htt hA hX hM9 
  obtain ⟨wd, nu, fr, tt9, sf, cls, hR, hM⟩ := hM9
  obtain ⟨z10, z11, z20, z21, z22, z25, z26, z27, z29, e0⟩ := m_0 hM
  refine v_aload_n O dL_law_757 1 rfl ?_
  refine law_c1 O cf_L_104 rfl (x_0 hX) s1 dL_law_758 rfl rfl (by decide) (Nat.le_of_ble_eq_true rfl) hkc hks (fun b2 h2 => ?_)
  refine v_aload_n O dL_law_761 2 rfl ?_
  refine law_c2 O cf_L_107 rfl e0 s2 dL_law_762 rfl rfl (by decide) (Nat.le_of_ble_eq_true rfl) hkc hks (fun b3 h3 => ?_)
  exact v_icmp_eq O 1118 dL_law_765 rfl (fun _ => K b2 b3 ⟨_, _, _, _, _, _, _, _, _, _, _, _, hA2, h2, h3⟩) (fun h => absurd rfl h)
theorem law_undo {D : G} {X : CX} {nm : String} {kc ks cells slots b L k : Nat} {xs : Nat → Int32} {xa : Nat → Nat} {vt tt : Nat → Option Nat} {mo : Nat} {ma : Nat → Nat} {bx bm : Nat → va_W} (O : Ok D X (mLn nm) 50 kc ks) (hx : LX X b L xs) (hL : L ≤ 3072) (hk : 6 * k + 6 ≤ L) (hkc : cells ≤ kc) (hks : slots ≤ ks) (hvt : ∀ k, k < 6 → vt k = some (xa (16 + 5 * k))) (htt : ∀ k, k < 6 → tt k = some (xa (82 + 2 * k))) (hI : Inv D xa vt tt mo ma bx bm) (K : ∀ b2 b3 : Nat → va_W, Inv D xa vt tt mo ma b2 b3 → V D X cells slots 1118 (lwv b (xa 0) mo k) [] (wB 24 b2 ++ wB 55 b3)) : V D X cells slots 770 (lwv b (xa 0) mo k) [] (wB 24 bx ++ wB 55 bm) := by
  obtain ⟨c, c2, tk, ln, tb, vc, vs, ts, tl, ti, rn, f, hA, hX, hM9⟩ := hI
  obtain ⟨r, c2, c22, tk2, ln2, tb2, vc2, vs2, ts2, tl2, ti2, rn2, f2, hA2, s1, s2⟩ := op_undo hvt htt hA hX hM9 
  obtain ⟨wd, nu, fr, tt9, sf, cls, hR, hM⟩ := hM9
  obtain ⟨z10, z11, z20, z21, z22, z25, z26, z27, z29, e0⟩ := m_0 hM
  refine v_aload_n O dL_law_770 1 rfl ?_
  refine law_c1 O cf_L_108 rfl (x_0 hX) s1 dL_law_771 rfl rfl (by decide) (Nat.le_of_ble_eq_true rfl) hkc hks (fun b2 h2 => ?_)
  refine v_aload_n O dL_law_774 2 rfl ?_
  refine law_c2 O cf_L_111 rfl e0 s2 dL_law_775 rfl rfl (by decide) (Nat.le_of_ble_eq_true rfl) hkc hks (fun b3 h3 => ?_)
  exact v_icmp_eq O 1118 dL_law_778 rfl (fun _ => K b2 b3 ⟨_, _, _, _, _, _, _, _, _, _, _, _, hA2, h2, h3⟩) (fun h => absurd rfl h)
theorem law_act {D : G} {X : CX} {nm : String} {kc ks cells slots b L k : Nat} {xs : Nat → Int32} {xa : Nat → Nat} {vt tt : Nat → Option Nat} {mo : Nat} {ma : Nat → Nat} {bx bm : Nat → va_W} (O : Ok D X (mLn nm) 50 kc ks) (hx : LX X b L xs) (hL : L ≤ 3072) (hk : 6 * k + 6 ≤ L) (hkc : cells ≤ kc) (hks : slots ≤ ks) (hvt : ∀ k, k < 6 → vt k = some (xa (16 + 5 * k))) (htt : ∀ k, k < 6 → tt k = some (xa (82 + 2 * k))) (hI : Inv D xa vt tt mo ma bx bm) (K : ∀ b2 b3 : Nat → va_W, Inv D xa vt tt mo ma b2 b3 → V D X cells slots 1118 (lwv b (xa 0) mo k) [] (wB 24 b2 ++ wB 55 b3)) : V D X cells slots 783 (lwv b (xa 0) mo k) [] (wB 24 bx ++ wB 55 bm) := by
  obtain ⟨c, c2, tk, ln, tb, vc, vs, ts, tl, ti, rn, f, hA, hX, hM9⟩ := hI
  obtain ⟨r, c2, c22, tk2, ln2, tb2, vc2, vs2, ts2, tl2, ti2, rn2, f2, hA2, s1, s2⟩ := op_act hvt htt hA hX hM9 (xs (6 * k + 1)) (xs (6 * k + 2)) (xs (6 * k + 3))
  obtain ⟨wd, nu, fr, tt9, sf, cls, hR, hM⟩ := hM9
  obtain ⟨z10, z11, z20, z21, z22, z25, z26, z27, z29, e0⟩ := m_0 hM
  refine v_aload_n O dL_law_783 1 rfl ?_
  refine law_ld O hx 1 dL_law_784 dL_law_785 dL_law_786 dL_law_787 dL_law_788 rfl (by omega) hL ?_
  refine law_ld O hx 2 dL_law_789 dL_law_790 dL_law_791 dL_law_792 dL_law_793 rfl (by omega) hL ?_
  refine law_ld O hx 3 dL_law_794 dL_law_795 dL_law_796 dL_law_797 dL_law_798 rfl (by omega) hL ?_
  refine law_c1 O cf_L_112 rfl (x_0 hX) s1 dL_law_799 rfl rfl (by decide) (Nat.le_of_ble_eq_true rfl) hkc hks (fun b2 h2 => ?_)
  refine v_aload_n O dL_law_802 2 rfl ?_
  refine law_ld O hx 1 dL_law_803 dL_law_804 dL_law_805 dL_law_806 dL_law_807 rfl (by omega) hL ?_
  refine law_ld O hx 2 dL_law_808 dL_law_809 dL_law_810 dL_law_811 dL_law_812 rfl (by omega) hL ?_
  refine law_ld O hx 3 dL_law_813 dL_law_814 dL_law_815 dL_law_816 dL_law_817 rfl (by omega) hL ?_
  refine law_c2 O cf_L_115 rfl e0 s2 dL_law_818 rfl rfl (by decide) (Nat.le_of_ble_eq_true rfl) hkc hks (fun b3 h3 => ?_)
  exact v_icmp_eq O 1118 dL_law_821 rfl (fun _ => K b2 b3 ⟨_, _, _, _, _, _, _, _, _, _, _, _, hA2, h2, h3⟩) (fun h => absurd rfl h)
theorem law_trace {D : G} {X : CX} {nm : String} {kc ks cells slots b L k : Nat} {xs : Nat → Int32} {xa : Nat → Nat} {vt tt : Nat → Option Nat} {mo : Nat} {ma : Nat → Nat} {bx bm : Nat → va_W} (O : Ok D X (mLn nm) 50 kc ks) (hx : LX X b L xs) (hL : L ≤ 3072) (hk : 6 * k + 6 ≤ L) (hkc : cells ≤ kc) (hks : slots ≤ ks) (hvt : ∀ k, k < 6 → vt k = some (xa (16 + 5 * k))) (htt : ∀ k, k < 6 → tt k = some (xa (82 + 2 * k))) (hI : Inv D xa vt tt mo ma bx bm) (K : ∀ b2 b3 : Nat → va_W, Inv D xa vt tt mo ma b2 b3 → V D X cells slots 1118 (lwv b (xa 0) mo k) [] (wB 24 b2 ++ wB 55 b3)) : V D X cells slots 826 (lwv b (xa 0) mo k) [] (wB 24 bx ++ wB 55 bm) := by
  obtain ⟨c, c2, tk, ln, tb, vc, vs, ts, tl, ti, rn, f, hA, hX, hM9⟩ := hI
  obtain ⟨r, c2, c22, tk2, ln2, tb2, vc2, vs2, ts2, tl2, ti2, rn2, f2, hA2, s1, s2⟩ := op_trace hvt htt hA hX hM9 (xs (6 * k + 1))
  obtain ⟨wd, nu, fr, tt9, sf, cls, hR, hM⟩ := hM9
  obtain ⟨z10, z11, z20, z21, z22, z25, z26, z27, z29, e0⟩ := m_0 hM
  refine v_aload_n O dL_law_826 1 rfl ?_
  refine law_ld O hx 1 dL_law_827 dL_law_828 dL_law_829 dL_law_830 dL_law_831 rfl (by omega) hL ?_
  refine law_c1 O cf_L_116 rfl (x_0 hX) s1 dL_law_832 rfl rfl (by decide) (Nat.le_of_ble_eq_true rfl) hkc hks (fun b2 h2 => ?_)
  refine v_aload_n O dL_law_835 2 rfl ?_
  refine law_ld O hx 1 dL_law_836 dL_law_837 dL_law_838 dL_law_839 dL_law_840 rfl (by omega) hL ?_
  refine law_c2 O cf_L_119 rfl e0 s2 dL_law_841 rfl rfl (by decide) (Nat.le_of_ble_eq_true rfl) hkc hks (fun b3 h3 => ?_)
  exact v_icmp_eq O 1118 dL_law_844 rfl (fun _ => K b2 b3 ⟨_, _, _, _, _, _, _, _, _, _, _, _, hA2, h2, h3⟩) (fun h => absurd rfl h)
theorem law_taken {D : G} {X : CX} {nm : String} {kc ks cells slots b L k : Nat} {xs : Nat → Int32} {xa : Nat → Nat} {vt tt : Nat → Option Nat} {mo : Nat} {ma : Nat → Nat} {bx bm : Nat → va_W} (O : Ok D X (mLn nm) 50 kc ks) (hx : LX X b L xs) (hL : L ≤ 3072) (hk : 6 * k + 6 ≤ L) (hkc : cells ≤ kc) (hks : slots ≤ ks) (hvt : ∀ k, k < 6 → vt k = some (xa (16 + 5 * k))) (htt : ∀ k, k < 6 → tt k = some (xa (82 + 2 * k))) (hI : Inv D xa vt tt mo ma bx bm) (K : ∀ b2 b3 : Nat → va_W, Inv D xa vt tt mo ma b2 b3 → V D X cells slots 1118 (lwv b (xa 0) mo k) [] (wB 24 b2 ++ wB 55 b3)) : V D X cells slots 849 (lwv b (xa 0) mo k) [] (wB 24 bx ++ wB 55 bm) := by
  obtain ⟨c, c2, tk, ln, tb, vc, vs, ts, tl, ti, rn, f, hA, hX, hM9⟩ := hI
  obtain ⟨r, c2, c22, tk2, ln2, tb2, vc2, vs2, ts2, tl2, ti2, rn2, f2, hA2, s1, s2⟩ := op_taken hvt htt hA hX hM9 (xs (6 * k + 1)) (xs (6 * k + 2))
  obtain ⟨wd, nu, fr, tt9, sf, cls, hR, hM⟩ := hM9
  obtain ⟨z10, z11, z20, z21, z22, z25, z26, z27, z29, e0⟩ := m_0 hM
  refine v_aload_n O dL_law_849 1 rfl ?_
  refine law_ld O hx 1 dL_law_850 dL_law_851 dL_law_852 dL_law_853 dL_law_854 rfl (by omega) hL ?_
  refine law_ld O hx 2 dL_law_855 dL_law_856 dL_law_857 dL_law_858 dL_law_859 rfl (by omega) hL ?_
  refine law_c1 O cf_L_120 rfl (x_0 hX) s1 dL_law_860 rfl rfl (by decide) (Nat.le_of_ble_eq_true rfl) hkc hks (fun b2 h2 => ?_)
  refine v_aload_n O dL_law_863 2 rfl ?_
  refine law_ld O hx 1 dL_law_864 dL_law_865 dL_law_866 dL_law_867 dL_law_868 rfl (by omega) hL ?_
  refine law_ld O hx 2 dL_law_869 dL_law_870 dL_law_871 dL_law_872 dL_law_873 rfl (by omega) hL ?_
  refine law_c2 O cf_L_123 rfl e0 s2 dL_law_874 rfl rfl (by decide) (Nat.le_of_ble_eq_true rfl) hkc hks (fun b3 h3 => ?_)
  exact v_icmp_eq O 1118 dL_law_877 rfl (fun _ => K b2 b3 ⟨_, _, _, _, _, _, _, _, _, _, _, _, hA2, h2, h3⟩) (fun h => absurd rfl h)
theorem law_count {D : G} {X : CX} {nm : String} {kc ks cells slots b L k : Nat} {xs : Nat → Int32} {xa : Nat → Nat} {vt tt : Nat → Option Nat} {mo : Nat} {ma : Nat → Nat} {bx bm : Nat → va_W} (O : Ok D X (mLn nm) 50 kc ks) (hx : LX X b L xs) (hL : L ≤ 3072) (hk : 6 * k + 6 ≤ L) (hkc : cells ≤ kc) (hks : slots ≤ ks) (hvt : ∀ k, k < 6 → vt k = some (xa (16 + 5 * k))) (htt : ∀ k, k < 6 → tt k = some (xa (82 + 2 * k))) (hI : Inv D xa vt tt mo ma bx bm) (K : ∀ b2 b3 : Nat → va_W, Inv D xa vt tt mo ma b2 b3 → V D X cells slots 1118 (lwv b (xa 0) mo k) [] (wB 24 b2 ++ wB 55 b3)) : V D X cells slots 882 (lwv b (xa 0) mo k) [] (wB 24 bx ++ wB 55 bm) := by
  obtain ⟨c, c2, tk, ln, tb, vc, vs, ts, tl, ti, rn, f, hA, hX, hM9⟩ := hI
  obtain ⟨r, c2, c22, tk2, ln2, tb2, vc2, vs2, ts2, tl2, ti2, rn2, f2, hA2, s1, s2⟩ := op_count hvt htt hA hX hM9 (xs (6 * k + 1))
  obtain ⟨wd, nu, fr, tt9, sf, cls, hR, hM⟩ := hM9
  obtain ⟨z10, z11, z20, z21, z22, z25, z26, z27, z29, e0⟩ := m_0 hM
  refine v_aload_n O dL_law_882 1 rfl ?_
  refine law_ld O hx 1 dL_law_883 dL_law_884 dL_law_885 dL_law_886 dL_law_887 rfl (by omega) hL ?_
  refine law_c1 O cf_L_124 rfl (x_0 hX) s1 dL_law_888 rfl rfl (by decide) (Nat.le_of_ble_eq_true rfl) hkc hks (fun b2 h2 => ?_)
  refine v_aload_n O dL_law_891 2 rfl ?_
  refine law_ld O hx 1 dL_law_892 dL_law_893 dL_law_894 dL_law_895 dL_law_896 rfl (by omega) hL ?_
  refine law_c2 O cf_L_127 rfl e0 s2 dL_law_897 rfl rfl (by decide) (Nat.le_of_ble_eq_true rfl) hkc hks (fun b3 h3 => ?_)
  exact v_icmp_eq O 1118 dL_law_900 rfl (fun _ => K b2 b3 ⟨_, _, _, _, _, _, _, _, _, _, _, _, hA2, h2, h3⟩) (fun h => absurd rfl h)
theorem law_tape {D : G} {X : CX} {nm : String} {kc ks cells slots b L k : Nat} {xs : Nat → Int32} {xa : Nat → Nat} {vt tt : Nat → Option Nat} {mo : Nat} {ma : Nat → Nat} {bx bm : Nat → va_W} (O : Ok D X (mLn nm) 50 kc ks) (hx : LX X b L xs) (hL : L ≤ 3072) (hk : 6 * k + 6 ≤ L) (hkc : cells ≤ kc) (hks : slots ≤ ks) (hvt : ∀ k, k < 6 → vt k = some (xa (16 + 5 * k))) (htt : ∀ k, k < 6 → tt k = some (xa (82 + 2 * k))) (hI : Inv D xa vt tt mo ma bx bm) (K : ∀ b2 b3 : Nat → va_W, Inv D xa vt tt mo ma b2 b3 → V D X cells slots 1118 (lwv b (xa 0) mo k) [] (wB 24 b2 ++ wB 55 b3)) : V D X cells slots 905 (lwv b (xa 0) mo k) [] (wB 24 bx ++ wB 55 bm) := by
  obtain ⟨c, c2, tk, ln, tb, vc, vs, ts, tl, ti, rn, f, hA, hX, hM9⟩ := hI
  obtain ⟨r, c2, c22, tk2, ln2, tb2, vc2, vs2, ts2, tl2, ti2, rn2, f2, hA2, s1, s2⟩ := op_tape hvt htt hA hX hM9 (xs (6 * k + 1)) (xs (6 * k + 2)) (xs (6 * k + 3))
  obtain ⟨wd, nu, fr, tt9, sf, cls, hR, hM⟩ := hM9
  obtain ⟨z10, z11, z20, z21, z22, z25, z26, z27, z29, e0⟩ := m_0 hM
  refine v_aload_n O dL_law_905 1 rfl ?_
  refine law_ld O hx 1 dL_law_906 dL_law_907 dL_law_908 dL_law_909 dL_law_910 rfl (by omega) hL ?_
  refine law_ld O hx 2 dL_law_911 dL_law_912 dL_law_913 dL_law_914 dL_law_915 rfl (by omega) hL ?_
  refine law_ld O hx 3 dL_law_916 dL_law_917 dL_law_918 dL_law_919 dL_law_920 rfl (by omega) hL ?_
  refine law_c1 O cf_L_128 rfl (x_0 hX) s1 dL_law_921 rfl rfl (by decide) (Nat.le_of_ble_eq_true rfl) hkc hks (fun b2 h2 => ?_)
  refine v_aload_n O dL_law_924 2 rfl ?_
  refine law_ld O hx 1 dL_law_925 dL_law_926 dL_law_927 dL_law_928 dL_law_929 rfl (by omega) hL ?_
  refine law_ld O hx 2 dL_law_930 dL_law_931 dL_law_932 dL_law_933 dL_law_934 rfl (by omega) hL ?_
  refine law_ld O hx 3 dL_law_935 dL_law_936 dL_law_937 dL_law_938 dL_law_939 rfl (by omega) hL ?_
  refine law_c2 O cf_L_131 rfl e0 s2 dL_law_940 rfl rfl (by decide) (Nat.le_of_ble_eq_true rfl) hkc hks (fun b3 h3 => ?_)
  exact v_icmp_eq O 1118 dL_law_943 rfl (fun _ => K b2 b3 ⟨_, _, _, _, _, _, _, _, _, _, _, _, hA2, h2, h3⟩) (fun h => absurd rfl h)
theorem law_item {D : G} {X : CX} {nm : String} {kc ks cells slots b L k : Nat} {xs : Nat → Int32} {xa : Nat → Nat} {vt tt : Nat → Option Nat} {mo : Nat} {ma : Nat → Nat} {bx bm : Nat → va_W} (O : Ok D X (mLn nm) 50 kc ks) (hx : LX X b L xs) (hL : L ≤ 3072) (hk : 6 * k + 6 ≤ L) (hkc : cells ≤ kc) (hks : slots ≤ ks) (hvt : ∀ k, k < 6 → vt k = some (xa (16 + 5 * k))) (htt : ∀ k, k < 6 → tt k = some (xa (82 + 2 * k))) (hI : Inv D xa vt tt mo ma bx bm) (K : ∀ b2 b3 : Nat → va_W, Inv D xa vt tt mo ma b2 b3 → V D X cells slots 1118 (lwv b (xa 0) mo k) [] (wB 24 b2 ++ wB 55 b3)) : V D X cells slots 948 (lwv b (xa 0) mo k) [] (wB 24 bx ++ wB 55 bm) := by
  obtain ⟨c, c2, tk, ln, tb, vc, vs, ts, tl, ti, rn, f, hA, hX, hM9⟩ := hI
  obtain ⟨r, c2, c22, tk2, ln2, tb2, vc2, vs2, ts2, tl2, ti2, rn2, f2, hA2, s1, s2⟩ := op_item hvt htt hA hX hM9 (xs (6 * k + 1)) (xs (6 * k + 2)) ((((xs (6 * k + 3)).toInt64) <<< ((32 : Int32).toInt64 &&& 63)) ||| (((xs (6 * k + 4)).toInt64) &&& 4294967295))
  obtain ⟨wd, nu, fr, tt9, sf, cls, hR, hM⟩ := hM9
  obtain ⟨z10, z11, z20, z21, z22, z25, z26, z27, z29, e0⟩ := m_0 hM
  refine v_aload_n O dL_law_948 1 rfl ?_
  refine law_ld O hx 1 dL_law_949 dL_law_950 dL_law_951 dL_law_952 dL_law_953 rfl (by omega) hL ?_
  refine law_ld O hx 2 dL_law_954 dL_law_955 dL_law_956 dL_law_957 dL_law_958 rfl (by omega) hL ?_
  refine law_ld O hx 3 dL_law_959 dL_law_960 dL_law_961 dL_law_962 dL_law_963 rfl (by omega) hL ?_
  refine v_i2l O dL_law_964 ?_
  refine v_bipush (v := 32) O dL_law_965 rfl ?_
  refine v_lshl O dL_law_967 ?_
  refine law_ld O hx 4 dL_law_968 dL_law_969 dL_law_970 dL_law_971 dL_law_972 rfl (by omega) hL ?_
  refine v_i2l O dL_law_973 ?_
  refine v_ldc2 O tw_1460 dL_law_974 ?_
  refine v_land O dL_law_977 ?_
  refine v_lor O dL_law_978 ?_
  refine law_c1 O cf_L_134 rfl (x_0 hX) s1 dL_law_979 rfl rfl (by decide) (Nat.le_of_ble_eq_true rfl) hkc hks (fun b2 h2 => ?_)
  refine v_aload_n O dL_law_982 2 rfl ?_
  refine law_ld O hx 1 dL_law_983 dL_law_984 dL_law_985 dL_law_986 dL_law_987 rfl (by omega) hL ?_
  refine law_ld O hx 2 dL_law_988 dL_law_989 dL_law_990 dL_law_991 dL_law_992 rfl (by omega) hL ?_
  refine law_ld O hx 3 dL_law_993 dL_law_994 dL_law_995 dL_law_996 dL_law_997 rfl (by omega) hL ?_
  refine v_i2l O dL_law_998 ?_
  refine v_bipush (v := 32) O dL_law_999 rfl ?_
  refine v_lshl O dL_law_1001 ?_
  refine law_ld O hx 4 dL_law_1002 dL_law_1003 dL_law_1004 dL_law_1005 dL_law_1006 rfl (by omega) hL ?_
  refine v_i2l O dL_law_1007 ?_
  refine v_ldc2 O tw_1460 dL_law_1008 ?_
  refine v_land O dL_law_1011 ?_
  refine v_lor O dL_law_1012 ?_
  refine law_c2 O cf_L_138 rfl e0 s2 dL_law_1013 rfl rfl (by decide) (Nat.le_of_ble_eq_true rfl) hkc hks (fun b3 h3 => ?_)
  exact v_icmp_eq O 1118 dL_law_1016 rfl (fun _ => K b2 b3 ⟨_, _, _, _, _, _, _, _, _, _, _, _, hA2, h2, h3⟩) (fun h => absurd rfl h)
theorem law_read {D : G} {X : CX} {nm : String} {kc ks cells slots b L k : Nat} {xs : Nat → Int32} {xa : Nat → Nat} {vt tt : Nat → Option Nat} {mo : Nat} {ma : Nat → Nat} {bx bm : Nat → va_W} (O : Ok D X (mLn nm) 50 kc ks) (hx : LX X b L xs) (hL : L ≤ 3072) (hk : 6 * k + 6 ≤ L) (hkc : cells ≤ kc) (hks : slots ≤ ks) (hvt : ∀ k, k < 6 → vt k = some (xa (16 + 5 * k))) (htt : ∀ k, k < 6 → tt k = some (xa (82 + 2 * k))) (hI : Inv D xa vt tt mo ma bx bm) (K : ∀ b2 b3 : Nat → va_W, Inv D xa vt tt mo ma b2 b3 → V D X cells slots 1118 (lwv b (xa 0) mo k) [] (wB 24 b2 ++ wB 55 b3)) : V D X cells slots 1021 (lwv b (xa 0) mo k) [] (wB 24 bx ++ wB 55 bm) := by
  obtain ⟨c, c2, tk, ln, tb, vc, vs, ts, tl, ti, rn, f, hA, hX, hM9⟩ := hI
  obtain ⟨r, c2, c22, tk2, ln2, tb2, vc2, vs2, ts2, tl2, ti2, rn2, f2, hA2, s1, s2⟩ := op_read hvt htt hA hX hM9 (xs (6 * k + 1)) (xs (6 * k + 2))
  obtain ⟨wd, nu, fr, tt9, sf, cls, hR, hM⟩ := hM9
  obtain ⟨z10, z11, z20, z21, z22, z25, z26, z27, z29, e0⟩ := m_0 hM
  refine v_aload_n O dL_law_1021 1 rfl ?_
  refine law_ld O hx 1 dL_law_1022 dL_law_1023 dL_law_1024 dL_law_1025 dL_law_1026 rfl (by omega) hL ?_
  refine law_ld O hx 2 dL_law_1027 dL_law_1028 dL_law_1029 dL_law_1030 dL_law_1031 rfl (by omega) hL ?_
  refine law_c1 O cf_L_139 rfl (x_0 hX) s1 dL_law_1032 rfl rfl (by decide) (Nat.le_of_ble_eq_true rfl) hkc hks (fun b2 h2 => ?_)
  refine v_aload_n O dL_law_1035 2 rfl ?_
  refine law_ld O hx 1 dL_law_1036 dL_law_1037 dL_law_1038 dL_law_1039 dL_law_1040 rfl (by omega) hL ?_
  refine law_ld O hx 2 dL_law_1041 dL_law_1042 dL_law_1043 dL_law_1044 dL_law_1045 rfl (by omega) hL ?_
  refine law_c2 O cf_L_142 rfl e0 s2 dL_law_1046 rfl rfl (by decide) (Nat.le_of_ble_eq_true rfl) hkc hks (fun b3 h3 => ?_)
  refine v_lcmp O dL_law_1049 ?_
  exact v_if_eq O 1118 dL_law_1050 rfl (fun _ => K b2 b3 ⟨_, _, _, _, _, _, _, _, _, _, _, _, hA2, h2, h3⟩) (fun h => absurd ((lg_cmp_eq _ _).mpr rfl) h)
theorem law_shift {D : G} {X : CX} {nm : String} {kc ks cells slots b L k : Nat} {xs : Nat → Int32} {xa : Nat → Nat} {vt tt : Nat → Option Nat} {mo : Nat} {ma : Nat → Nat} {bx bm : Nat → va_W} (O : Ok D X (mLn nm) 50 kc ks) (hx : LX X b L xs) (hL : L ≤ 3072) (hk : 6 * k + 6 ≤ L) (hkc : cells ≤ kc) (hks : slots ≤ ks) (hvt : ∀ k, k < 6 → vt k = some (xa (16 + 5 * k))) (htt : ∀ k, k < 6 → tt k = some (xa (82 + 2 * k))) (hI : Inv D xa vt tt mo ma bx bm) (K : ∀ b2 b3 : Nat → va_W, Inv D xa vt tt mo ma b2 b3 → V D X cells slots 1118 (lwv b (xa 0) mo k) [] (wB 24 b2 ++ wB 55 b3)) : V D X cells slots 1055 (lwv b (xa 0) mo k) [] (wB 24 bx ++ wB 55 bm) := by
  obtain ⟨c, c2, tk, ln, tb, vc, vs, ts, tl, ti, rn, f, hA, hX, hM9⟩ := hI
  obtain ⟨r, c2, c22, tk2, ln2, tb2, vc2, vs2, ts2, tl2, ti2, rn2, f2, hA2, s1, s2⟩ := op_shift hvt htt hA hX hM9 (xs (6 * k + 1)) (xs (6 * k + 2)) (xs (6 * k + 3)) (xs (6 * k + 4)) (xs (6 * k + 5))
  obtain ⟨wd, nu, fr, tt9, sf, cls, hR, hM⟩ := hM9
  obtain ⟨z10, z11, z20, z21, z22, z25, z26, z27, z29, e0⟩ := m_0 hM
  refine v_aload_n O dL_law_1055 1 rfl ?_
  refine law_ld O hx 1 dL_law_1056 dL_law_1057 dL_law_1058 dL_law_1059 dL_law_1060 rfl (by omega) hL ?_
  refine law_ld O hx 2 dL_law_1061 dL_law_1062 dL_law_1063 dL_law_1064 dL_law_1065 rfl (by omega) hL ?_
  refine law_ld O hx 3 dL_law_1066 dL_law_1067 dL_law_1068 dL_law_1069 dL_law_1070 rfl (by omega) hL ?_
  refine law_ld O hx 4 dL_law_1071 dL_law_1072 dL_law_1073 dL_law_1074 dL_law_1075 rfl (by omega) hL ?_
  refine law_ld O hx 5 dL_law_1076 dL_law_1077 dL_law_1078 dL_law_1079 dL_law_1080 rfl (by omega) hL ?_
  refine law_c1 O cf_L_143 rfl (x_0 hX) s1 dL_law_1081 rfl rfl (by decide) (Nat.le_of_ble_eq_true rfl) hkc hks (fun b2 h2 => ?_)
  refine v_aload_n O dL_law_1084 2 rfl ?_
  refine law_ld O hx 1 dL_law_1085 dL_law_1086 dL_law_1087 dL_law_1088 dL_law_1089 rfl (by omega) hL ?_
  refine law_ld O hx 2 dL_law_1090 dL_law_1091 dL_law_1092 dL_law_1093 dL_law_1094 rfl (by omega) hL ?_
  refine law_ld O hx 3 dL_law_1095 dL_law_1096 dL_law_1097 dL_law_1098 dL_law_1099 rfl (by omega) hL ?_
  refine law_ld O hx 4 dL_law_1100 dL_law_1101 dL_law_1102 dL_law_1103 dL_law_1104 rfl (by omega) hL ?_
  refine law_ld O hx 5 dL_law_1105 dL_law_1106 dL_law_1107 dL_law_1108 dL_law_1109 rfl (by omega) hL ?_
  refine law_c2 O cf_L_147 rfl e0 s2 dL_law_1110 rfl rfl (by decide) (Nat.le_of_ble_eq_true rfl) hkc hks (fun b3 h3 => ?_)
  exact v_icmp_eq O 1118 dL_law_1113 rfl (fun _ => K b2 b3 ⟨_, _, _, _, _, _, _, _, _, _, _, _, hA2, h2, h3⟩) (fun h => absurd rfl h)
