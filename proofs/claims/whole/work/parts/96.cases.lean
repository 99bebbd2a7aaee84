section CASES
variable {p : Program} {e : Env} {s : State} {m : MethodId} {below : List Frame} {meth : Method} {c : Code} {l : Launch} {b L : Nat} {xs : Nat → Int32} {D : va_G} {cA : Nat → ClassId} {ad adV : Nat → Nat} {h : Hp} {H : Heap} {locs : List Loc} {ls : Array Slot} {cells slots i : Nat}
theorem law_0 (X : LX p e s m below meth c l b L xs D cA ad adV) (hi : 7 * i + 7 ≤ L) (hL : L ≤ 3584) (I : Inv i h) (B : Bo h) (hP : va_P D vwCl (wl cA ad h) H) (hS : va_S (AS s.heap.size) s.heap H locs) (hfit : cells ≤ 600000 ∧ slots ≤ 7302250) (hl : lv_has ls 4 [(3, .int (nI (7 * i))), (2, .ref (ad 600)), (1, .ref (ad 0)), (0, .ref b)])
    (kk : ∀ (h2 : Hp) (H1 : Heap) (locs1 : List Loc), Inv (i + 1) h2 → Bo h2 → va_P D vwCl (wl cA ad h2) H1 → va_S (AS s.heap.size) s.heap H1 locs1 → WL p l e s m below meth c b H1 locs1 cells slots (F0 m 1194 ls [])) : WL p l e s m below meth c b H locs cells slots (F0 m 176 ls []) := by
  obtain ⟨r, h1, h2, e1, e2, I2, B2⟩ := (SimB_of (Sim_of2 rfl rfl (S_station (sx xs i 1)))) i h (by omega) I B
  have hx := X.1.1
  have hb := X.1.2.1
  refine lv_aload_n hx hb dL_law_176 rfl (lv_at hl 2 rfl) ?_
  refine lv_aload_n hx hb dL_law_177 rfl (lv_at hl 3 rfl) ?_
  refine lv_iload_n hx hb dL_law_178 rfl (lv_at hl 0 rfl) ?_
  refine lv_iconst (v := 1) hx hb dL_law_179 (by decide) ?_
  refine lv_iadd hx hb dL_law_180 ?_
  refine law_ld X hi hL 1 (by decide) (by decide) hS dL_law_181 ?_
  refine law_call (y := 43) (i := 13) (k := 0) (as := [.int (sx xs i 1)]) (rest := []) X (by decide) rfl rfl rfl hl.1 (by simp [Value.category]) rfl dL_law_182 e1 hP hS (fun H locs hP hS => ?_) hfit
  refine lv_aload_n hx hb dL_law_185 rfl (lv_at hl 1 rfl) ?_
  refine lv_aload_n hx hb dL_law_186 rfl (lv_at hl 3 rfl) ?_
  refine lv_iload_n hx hb dL_law_187 rfl (lv_at hl 0 rfl) ?_
  refine lv_iconst (v := 1) hx hb dL_law_188 (by decide) ?_
  refine lv_iadd hx hb dL_law_189 ?_
  refine law_ld X hi hL 1 (by decide) (by decide) hS dL_law_190 ?_
  refine law_call (y := 91) (i := 17) (k := 600) (as := [.int (sx xs i 1)]) (rest := [.int r]) X (by decide) rfl rfl rfl hl.1 (by simp [Value.category]) rfl dL_law_191 e2 hP hS (fun H locs hP hS => ?_) hfit
  refine lv_icmp_eq (tgt := 1194) hx hb dL_law_194 (by decide) (fun _ => kk h2 H locs I2 B2 hP hS) (fun z => absurd rfl z)
theorem law_1 (X : LX p e s m below meth c l b L xs D cA ad adV) (hi : 7 * i + 7 ≤ L) (hL : L ≤ 3584) (I : Inv i h) (B : Bo h) (hP : va_P D vwCl (wl cA ad h) H) (hS : va_S (AS s.heap.size) s.heap H locs) (hfit : cells ≤ 600000 ∧ slots ≤ 7302250) (hl : lv_has ls 4 [(3, .int (nI (7 * i))), (2, .ref (ad 600)), (1, .ref (ad 0)), (0, .ref b)])
    (kk : ∀ (h2 : Hp) (H1 : Heap) (locs1 : List Loc), Inv (i + 1) h2 → Bo h2 → va_P D vwCl (wl cA ad h2) H1 → va_S (AS s.heap.size) s.heap H1 locs1 → WL p l e s m below meth c b H1 locs1 cells slots (F0 m 1194 ls [])) : WL p l e s m below meth c b H locs cells slots (F0 m 199 ls []) := by
  obtain ⟨r, h1, h2, e1, e2, I2, B2⟩ := (SimB_of (S_stock (sx xs i 1) (sx xs i 2))) i h (by omega) I B
  have hx := X.1.1
  have hb := X.1.2.1
  refine lv_aload_n hx hb dL_law_199 rfl (lv_at hl 2 rfl) ?_
  refine lv_aload_n hx hb dL_law_200 rfl (lv_at hl 3 rfl) ?_
  refine lv_iload_n hx hb dL_law_201 rfl (lv_at hl 0 rfl) ?_
  refine lv_iconst (v := 1) hx hb dL_law_202 (by decide) ?_
  refine lv_iadd hx hb dL_law_203 ?_
  refine law_ld X hi hL 1 (by decide) (by decide) hS dL_law_204 ?_
  refine lv_aload_n hx hb dL_law_205 rfl (lv_at hl 3 rfl) ?_
  refine lv_iload_n hx hb dL_law_206 rfl (lv_at hl 0 rfl) ?_
  refine lv_iconst (v := 2) hx hb dL_law_207 (by decide) ?_
  refine lv_iadd hx hb dL_law_208 ?_
  refine law_ld X hi hL 2 (by decide) (by decide) hS dL_law_209 ?_
  refine law_call (y := 46) (i := 18) (k := 0) (as := [.int (sx xs i 1), .int (sx xs i 2)]) (rest := []) X (by decide) rfl rfl rfl hl.1 (by simp [Value.category]) rfl dL_law_210 e1 hP hS (fun H locs hP hS => ?_) hfit
  refine lv_aload_n hx hb dL_law_213 rfl (lv_at hl 1 rfl) ?_
  refine lv_aload_n hx hb dL_law_214 rfl (lv_at hl 3 rfl) ?_
  refine lv_iload_n hx hb dL_law_215 rfl (lv_at hl 0 rfl) ?_
  refine lv_iconst (v := 1) hx hb dL_law_216 (by decide) ?_
  refine lv_iadd hx hb dL_law_217 ?_
  refine law_ld X hi hL 1 (by decide) (by decide) hS dL_law_218 ?_
  refine lv_aload_n hx hb dL_law_219 rfl (lv_at hl 3 rfl) ?_
  refine lv_iload_n hx hb dL_law_220 rfl (lv_at hl 0 rfl) ?_
  refine lv_iconst (v := 2) hx hb dL_law_221 (by decide) ?_
  refine lv_iadd hx hb dL_law_222 ?_
  refine law_ld X hi hL 2 (by decide) (by decide) hS dL_law_223 ?_
  refine law_call (y := 93) (i := 22) (k := 600) (as := [.int (sx xs i 1), .int (sx xs i 2)]) (rest := [.int r]) X (by decide) rfl rfl rfl hl.1 (by simp [Value.category]) rfl dL_law_224 e2 hP hS (fun H locs hP hS => ?_) hfit
  refine lv_icmp_eq (tgt := 1194) hx hb dL_law_227 (by decide) (fun _ => kk h2 H locs I2 B2 hP hS) (fun z => absurd rfl z)
theorem law_2 (X : LX p e s m below meth c l b L xs D cA ad adV) (hi : 7 * i + 7 ≤ L) (hL : L ≤ 3584) (I : Inv i h) (B : Bo h) (hP : va_P D vwCl (wl cA ad h) H) (hS : va_S (AS s.heap.size) s.heap H locs) (hfit : cells ≤ 600000 ∧ slots ≤ 7302250) (hl : lv_has ls 4 [(3, .int (nI (7 * i))), (2, .ref (ad 600)), (1, .ref (ad 0)), (0, .ref b)])
    (kk : ∀ (h2 : Hp) (H1 : Heap) (locs1 : List Loc), Inv (i + 1) h2 → Bo h2 → va_P D vwCl (wl cA ad h2) H1 → va_S (AS s.heap.size) s.heap H1 locs1 → WL p l e s m below meth c b H1 locs1 cells slots (F0 m 1194 ls [])) : WL p l e s m below meth c b H locs cells slots (F0 m 232 ls []) := by
  obtain ⟨r, h1, h2, e1, e2, I2, B2⟩ := (SimB_of (S_gang (sx xs i 1) (sx xs i 2))) i h (by omega) I B
  have hx := X.1.1
  have hb := X.1.2.1
  refine lv_aload_n hx hb dL_law_232 rfl (lv_at hl 2 rfl) ?_
  refine lv_aload_n hx hb dL_law_233 rfl (lv_at hl 3 rfl) ?_
  refine lv_iload_n hx hb dL_law_234 rfl (lv_at hl 0 rfl) ?_
  refine lv_iconst (v := 1) hx hb dL_law_235 (by decide) ?_
  refine lv_iadd hx hb dL_law_236 ?_
  refine law_ld X hi hL 1 (by decide) (by decide) hS dL_law_237 ?_
  refine lv_aload_n hx hb dL_law_238 rfl (lv_at hl 3 rfl) ?_
  refine lv_iload_n hx hb dL_law_239 rfl (lv_at hl 0 rfl) ?_
  refine lv_iconst (v := 2) hx hb dL_law_240 (by decide) ?_
  refine lv_iadd hx hb dL_law_241 ?_
  refine law_ld X hi hL 2 (by decide) (by decide) hS dL_law_242 ?_
  refine law_call (y := 48) (i := 23) (k := 0) (as := [.int (sx xs i 1), .int (sx xs i 2)]) (rest := []) X (by decide) rfl rfl rfl hl.1 (by simp [Value.category]) rfl dL_law_243 e1 hP hS (fun H locs hP hS => ?_) hfit
  refine lv_aload_n hx hb dL_law_246 rfl (lv_at hl 1 rfl) ?_
  refine lv_aload_n hx hb dL_law_247 rfl (lv_at hl 3 rfl) ?_
  refine lv_iload_n hx hb dL_law_248 rfl (lv_at hl 0 rfl) ?_
  refine lv_iconst (v := 1) hx hb dL_law_249 (by decide) ?_
  refine lv_iadd hx hb dL_law_250 ?_
  refine law_ld X hi hL 1 (by decide) (by decide) hS dL_law_251 ?_
  refine lv_aload_n hx hb dL_law_252 rfl (lv_at hl 3 rfl) ?_
  refine lv_iload_n hx hb dL_law_253 rfl (lv_at hl 0 rfl) ?_
  refine lv_iconst (v := 2) hx hb dL_law_254 (by decide) ?_
  refine lv_iadd hx hb dL_law_255 ?_
  refine law_ld X hi hL 2 (by decide) (by decide) hS dL_law_256 ?_
  refine law_call (y := 95) (i := 26) (k := 600) (as := [.int (sx xs i 1), .int (sx xs i 2)]) (rest := [.int r]) X (by decide) rfl rfl rfl hl.1 (by simp [Value.category]) rfl dL_law_257 e2 hP hS (fun H locs hP hS => ?_) hfit
  refine lv_icmp_eq (tgt := 1194) hx hb dL_law_260 (by decide) (fun _ => kk h2 H locs I2 B2 hP hS) (fun z => absurd rfl z)
theorem law_3 (X : LX p e s m below meth c l b L xs D cA ad adV) (hi : 7 * i + 7 ≤ L) (hL : L ≤ 3584) (I : Inv i h) (B : Bo h) (hP : va_P D vwCl (wl cA ad h) H) (hS : va_S (AS s.heap.size) s.heap H locs) (hfit : cells ≤ 600000 ∧ slots ≤ 7302250) (hl : lv_has ls 4 [(3, .int (nI (7 * i))), (2, .ref (ad 600)), (1, .ref (ad 0)), (0, .ref b)])
    (kk : ∀ (h2 : Hp) (H1 : Heap) (locs1 : List Loc), Inv (i + 1) h2 → Bo h2 → va_P D vwCl (wl cA ad h2) H1 → va_S (AS s.heap.size) s.heap H1 locs1 → WL p l e s m below meth c b H1 locs1 cells slots (F0 m 1194 ls [])) : WL p l e s m below meth c b H locs cells slots (F0 m 265 ls []) := by
  obtain ⟨r, h1, h2, e1, e2, I2, B2⟩ := (SimB_of (S_price (sx xs i 1) (sx xs i 2))) i h (by omega) I B
  have hx := X.1.1
  have hb := X.1.2.1
  refine lv_aload_n hx hb dL_law_265 rfl (lv_at hl 2 rfl) ?_
  refine lv_aload_n hx hb dL_law_266 rfl (lv_at hl 3 rfl) ?_
  refine lv_iload_n hx hb dL_law_267 rfl (lv_at hl 0 rfl) ?_
  refine lv_iconst (v := 1) hx hb dL_law_268 (by decide) ?_
  refine lv_iadd hx hb dL_law_269 ?_
  refine law_ld X hi hL 1 (by decide) (by decide) hS dL_law_270 ?_
  refine lv_aload_n hx hb dL_law_271 rfl (lv_at hl 3 rfl) ?_
  refine lv_iload_n hx hb dL_law_272 rfl (lv_at hl 0 rfl) ?_
  refine lv_iconst (v := 2) hx hb dL_law_273 (by decide) ?_
  refine lv_iadd hx hb dL_law_274 ?_
  refine law_ld X hi hL 2 (by decide) (by decide) hS dL_law_275 ?_
  refine law_call (y := 49) (i := 27) (k := 0) (as := [.int (sx xs i 1), .int (sx xs i 2)]) (rest := []) X (by decide) rfl rfl rfl hl.1 (by simp [Value.category]) rfl dL_law_276 e1 hP hS (fun H locs hP hS => ?_) hfit
  refine lv_aload_n hx hb dL_law_279 rfl (lv_at hl 1 rfl) ?_
  refine lv_aload_n hx hb dL_law_280 rfl (lv_at hl 3 rfl) ?_
  refine lv_iload_n hx hb dL_law_281 rfl (lv_at hl 0 rfl) ?_
  refine lv_iconst (v := 1) hx hb dL_law_282 (by decide) ?_
  refine lv_iadd hx hb dL_law_283 ?_
  refine law_ld X hi hL 1 (by decide) (by decide) hS dL_law_284 ?_
  refine lv_aload_n hx hb dL_law_285 rfl (lv_at hl 3 rfl) ?_
  refine lv_iload_n hx hb dL_law_286 rfl (lv_at hl 0 rfl) ?_
  refine lv_iconst (v := 2) hx hb dL_law_287 (by decide) ?_
  refine lv_iadd hx hb dL_law_288 ?_
  refine law_ld X hi hL 2 (by decide) (by decide) hS dL_law_289 ?_
  refine law_call (y := 96) (i := 30) (k := 600) (as := [.int (sx xs i 1), .int (sx xs i 2)]) (rest := [.int r]) X (by decide) rfl rfl rfl hl.1 (by simp [Value.category]) rfl dL_law_290 e2 hP hS (fun H locs hP hS => ?_) hfit
  refine lv_icmp_eq (tgt := 1194) hx hb dL_law_293 (by decide) (fun _ => kk h2 H locs I2 B2 hP hS) (fun z => absurd rfl z)
theorem law_4 (X : LX p e s m below meth c l b L xs D cA ad adV) (hi : 7 * i + 7 ≤ L) (hL : L ≤ 3584) (I : Inv i h) (B : Bo h) (hP : va_P D vwCl (wl cA ad h) H) (hS : va_S (AS s.heap.size) s.heap H locs) (hfit : cells ≤ 600000 ∧ slots ≤ 7302250) (hl : lv_has ls 4 [(3, .int (nI (7 * i))), (2, .ref (ad 600)), (1, .ref (ad 0)), (0, .ref b)])
    (kk : ∀ (h2 : Hp) (H1 : Heap) (locs1 : List Loc), Inv (i + 1) h2 → Bo h2 → va_P D vwCl (wl cA ad h2) H1 → va_S (AS s.heap.size) s.heap H1 locs1 → WL p l e s m below meth c b H1 locs1 cells slots (F0 m 1194 ls [])) : WL p l e s m below meth c b H locs cells slots (F0 m 298 ls []) := by
  obtain ⟨r, h1, h2, e1, e2, I2, B2⟩ := (SimB_of (Sim_of2 rfl rfl (S_weather (sx xs i 1) (sx xs i 2) (sx xs i 3)))) i h (by omega) I B
  have hx := X.1.1
  have hb := X.1.2.1
  refine lv_aload_n hx hb dL_law_298 rfl (lv_at hl 2 rfl) ?_
  refine lv_aload_n hx hb dL_law_299 rfl (lv_at hl 3 rfl) ?_
  refine lv_iload_n hx hb dL_law_300 rfl (lv_at hl 0 rfl) ?_
  refine lv_iconst (v := 1) hx hb dL_law_301 (by decide) ?_
  refine lv_iadd hx hb dL_law_302 ?_
  refine law_ld X hi hL 1 (by decide) (by decide) hS dL_law_303 ?_
  refine lv_aload_n hx hb dL_law_304 rfl (lv_at hl 3 rfl) ?_
  refine lv_iload_n hx hb dL_law_305 rfl (lv_at hl 0 rfl) ?_
  refine lv_iconst (v := 2) hx hb dL_law_306 (by decide) ?_
  refine lv_iadd hx hb dL_law_307 ?_
  refine law_ld X hi hL 2 (by decide) (by decide) hS dL_law_308 ?_
  refine lv_aload_n hx hb dL_law_309 rfl (lv_at hl 3 rfl) ?_
  refine lv_iload_n hx hb dL_law_310 rfl (lv_at hl 0 rfl) ?_
  refine lv_iconst (v := 3) hx hb dL_law_311 (by decide) ?_
  refine lv_iadd hx hb dL_law_312 ?_
  refine law_ld X hi hL 3 (by decide) (by decide) hS dL_law_313 ?_
  refine law_call (y := 50) (i := 31) (k := 0) (as := [.int (sx xs i 1), .int (sx xs i 2), .int (sx xs i 3)]) (rest := []) X (by decide) rfl rfl rfl hl.1 (by simp [Value.category]) rfl dL_law_314 e1 hP hS (fun H locs hP hS => ?_) hfit
  refine lv_aload_n hx hb dL_law_317 rfl (lv_at hl 1 rfl) ?_
  refine lv_aload_n hx hb dL_law_318 rfl (lv_at hl 3 rfl) ?_
  refine lv_iload_n hx hb dL_law_319 rfl (lv_at hl 0 rfl) ?_
  refine lv_iconst (v := 1) hx hb dL_law_320 (by decide) ?_
  refine lv_iadd hx hb dL_law_321 ?_
  refine law_ld X hi hL 1 (by decide) (by decide) hS dL_law_322 ?_
  refine lv_aload_n hx hb dL_law_323 rfl (lv_at hl 3 rfl) ?_
  refine lv_iload_n hx hb dL_law_324 rfl (lv_at hl 0 rfl) ?_
  refine lv_iconst (v := 2) hx hb dL_law_325 (by decide) ?_
  refine lv_iadd hx hb dL_law_326 ?_
  refine law_ld X hi hL 2 (by decide) (by decide) hS dL_law_327 ?_
  refine lv_aload_n hx hb dL_law_328 rfl (lv_at hl 3 rfl) ?_
  refine lv_iload_n hx hb dL_law_329 rfl (lv_at hl 0 rfl) ?_
  refine lv_iconst (v := 3) hx hb dL_law_330 (by decide) ?_
  refine lv_iadd hx hb dL_law_331 ?_
  refine law_ld X hi hL 3 (by decide) (by decide) hS dL_law_332 ?_
  refine law_call (y := 97) (i := 35) (k := 600) (as := [.int (sx xs i 1), .int (sx xs i 2), .int (sx xs i 3)]) (rest := [.int r]) X (by decide) rfl rfl rfl hl.1 (by simp [Value.category]) rfl dL_law_333 e2 hP hS (fun H locs hP hS => ?_) hfit
  refine lv_icmp_eq (tgt := 1194) hx hb dL_law_336 (by decide) (fun _ => kk h2 H locs I2 B2 hP hS) (fun z => absurd rfl z)
theorem law_5 (X : LX p e s m below meth c l b L xs D cA ad adV) (hi : 7 * i + 7 ≤ L) (hL : L ≤ 3584) (I : Inv i h) (B : Bo h) (hP : va_P D vwCl (wl cA ad h) H) (hS : va_S (AS s.heap.size) s.heap H locs) (hfit : cells ≤ 600000 ∧ slots ≤ 7302250) (hl : lv_has ls 4 [(3, .int (nI (7 * i))), (2, .ref (ad 600)), (1, .ref (ad 0)), (0, .ref b)])
    (kk : ∀ (h2 : Hp) (H1 : Heap) (locs1 : List Loc), Inv (i + 1) h2 → Bo h2 → va_P D vwCl (wl cA ad h2) H1 → va_S (AS s.heap.size) s.heap H1 locs1 → WL p l e s m below meth c b H1 locs1 cells slots (F0 m 1194 ls [])) : WL p l e s m below meth c b H locs cells slots (F0 m 341 ls []) := by
  obtain ⟨r, h1, h2, e1, e2, I2, B2⟩ := (SimB_of (Sim_of2 rfl rfl (S_read (sx xs i 1)))) i h (by omega) I B
  have hx := X.1.1
  have hb := X.1.2.1
  refine lv_aload_n hx hb dL_law_341 rfl (lv_at hl 2 rfl) ?_
  refine lv_aload_n hx hb dL_law_342 rfl (lv_at hl 3 rfl) ?_
  refine lv_iload_n hx hb dL_law_343 rfl (lv_at hl 0 rfl) ?_
  refine lv_iconst (v := 1) hx hb dL_law_344 (by decide) ?_
  refine lv_iadd hx hb dL_law_345 ?_
  refine law_ld X hi hL 1 (by decide) (by decide) hS dL_law_346 ?_
  refine law_call (y := 53) (i := 36) (k := 0) (as := [.int (sx xs i 1)]) (rest := []) X (by decide) rfl rfl rfl hl.1 (by simp [Value.category]) rfl dL_law_347 e1 hP hS (fun H locs hP hS => ?_) hfit
  refine lv_aload_n hx hb dL_law_350 rfl (lv_at hl 1 rfl) ?_
  refine lv_aload_n hx hb dL_law_351 rfl (lv_at hl 3 rfl) ?_
  refine lv_iload_n hx hb dL_law_352 rfl (lv_at hl 0 rfl) ?_
  refine lv_iconst (v := 1) hx hb dL_law_353 (by decide) ?_
  refine lv_iadd hx hb dL_law_354 ?_
  refine law_ld X hi hL 1 (by decide) (by decide) hS dL_law_355 ?_
  refine law_call (y := 99) (i := 39) (k := 600) (as := [.int (sx xs i 1)]) (rest := [.int r]) X (by decide) rfl rfl rfl hl.1 (by simp [Value.category]) rfl dL_law_356 e2 hP hS (fun H locs hP hS => ?_) hfit
  refine lv_icmp_eq (tgt := 1194) hx hb dL_law_359 (by decide) (fun _ => kk h2 H locs I2 B2 hP hS) (fun z => absurd rfl z)
theorem law_6 (X : LX p e s m below meth c l b L xs D cA ad adV) (hi : 7 * i + 7 ≤ L) (hL : L ≤ 3584) (I : Inv i h) (B : Bo h) (hP : va_P D vwCl (wl cA ad h) H) (hS : va_S (AS s.heap.size) s.heap H locs) (hfit : cells ≤ 600000 ∧ slots ≤ 7302250) (hl : lv_has ls 4 [(3, .int (nI (7 * i))), (2, .ref (ad 600)), (1, .ref (ad 0)), (0, .ref b)])
    (kk : ∀ (h2 : Hp) (H1 : Heap) (locs1 : List Loc), Inv (i + 1) h2 → Bo h2 → va_P D vwCl (wl cA ad h2) H1 → va_S (AS s.heap.size) s.heap H1 locs1 → WL p l e s m below meth c b H1 locs1 cells slots (F0 m 1194 ls [])) : WL p l e s m below meth c b H locs cells slots (F0 m 364 ls []) := by
  obtain ⟨r, h1, h2, e1, e2, I2, B2⟩ := (SimB_of (Sim_of2 rfl rfl (S_out (sx xs i 1) (sx xs i 2)))) i h (by omega) I B
  have hx := X.1.1
  have hb := X.1.2.1
  refine lv_aload_n hx hb dL_law_364 rfl (lv_at hl 2 rfl) ?_
  refine lv_aload_n hx hb dL_law_365 rfl (lv_at hl 3 rfl) ?_
  refine lv_iload_n hx hb dL_law_366 rfl (lv_at hl 0 rfl) ?_
  refine lv_iconst (v := 1) hx hb dL_law_367 (by decide) ?_
  refine lv_iadd hx hb dL_law_368 ?_
  refine law_ld X hi hL 1 (by decide) (by decide) hS dL_law_369 ?_
  refine lv_aload_n hx hb dL_law_370 rfl (lv_at hl 3 rfl) ?_
  refine lv_iload_n hx hb dL_law_371 rfl (lv_at hl 0 rfl) ?_
  refine lv_iconst (v := 2) hx hb dL_law_372 (by decide) ?_
  refine lv_iadd hx hb dL_law_373 ?_
  refine law_ld X hi hL 2 (by decide) (by decide) hS dL_law_374 ?_
  refine law_call (y := 54) (i := 40) (k := 0) (as := [.int (sx xs i 1), .int (sx xs i 2)]) (rest := []) X (by decide) rfl rfl rfl hl.1 (by simp [Value.category]) rfl dL_law_375 e1 hP hS (fun H locs hP hS => ?_) hfit
  refine lv_aload_n hx hb dL_law_378 rfl (lv_at hl 1 rfl) ?_
  refine lv_aload_n hx hb dL_law_379 rfl (lv_at hl 3 rfl) ?_
  refine lv_iload_n hx hb dL_law_380 rfl (lv_at hl 0 rfl) ?_
  refine lv_iconst (v := 1) hx hb dL_law_381 (by decide) ?_
  refine lv_iadd hx hb dL_law_382 ?_
  refine law_ld X hi hL 1 (by decide) (by decide) hS dL_law_383 ?_
  refine lv_aload_n hx hb dL_law_384 rfl (lv_at hl 3 rfl) ?_
  refine lv_iload_n hx hb dL_law_385 rfl (lv_at hl 0 rfl) ?_
  refine lv_iconst (v := 2) hx hb dL_law_386 (by decide) ?_
  refine lv_iadd hx hb dL_law_387 ?_
  refine law_ld X hi hL 2 (by decide) (by decide) hS dL_law_388 ?_
  refine law_call (y := 100) (i := 43) (k := 600) (as := [.int (sx xs i 1), .int (sx xs i 2)]) (rest := [.int r]) X (by decide) rfl rfl rfl hl.1 (by simp [Value.category]) rfl dL_law_389 e2 hP hS (fun H locs hP hS => ?_) hfit
  refine lv_icmp_eq (tgt := 1194) hx hb dL_law_392 (by decide) (fun _ => kk h2 H locs I2 B2 hP hS) (fun z => absurd rfl z)
theorem law_7 (X : LX p e s m below meth c l b L xs D cA ad adV) (hi : 7 * i + 7 ≤ L) (hL : L ≤ 3584) (I : Inv i h) (B : Bo h) (hP : va_P D vwCl (wl cA ad h) H) (hS : va_S (AS s.heap.size) s.heap H locs) (hfit : cells ≤ 600000 ∧ slots ≤ 7302250) (hl : lv_has ls 4 [(3, .int (nI (7 * i))), (2, .ref (ad 600)), (1, .ref (ad 0)), (0, .ref b)])
    (kk : ∀ (h2 : Hp) (H1 : Heap) (locs1 : List Loc), Inv (i + 1) h2 → Bo h2 → va_P D vwCl (wl cA ad h2) H1 → va_S (AS s.heap.size) s.heap H1 locs1 → WL p l e s m below meth c b H1 locs1 cells slots (F0 m 1194 ls [])) : WL p l e s m below meth c b H locs cells slots (F0 m 397 ls []) := by
  obtain ⟨r, h1, h2, e1, e2, I2, B2⟩ := (SimB_of (S_loss (sx xs i 1) (sx xs i 2))) i h (by omega) I B
  have hx := X.1.1
  have hb := X.1.2.1
  refine lv_aload_n hx hb dL_law_397 rfl (lv_at hl 2 rfl) ?_
  refine lv_aload_n hx hb dL_law_398 rfl (lv_at hl 3 rfl) ?_
  refine lv_iload_n hx hb dL_law_399 rfl (lv_at hl 0 rfl) ?_
  refine lv_iconst (v := 1) hx hb dL_law_400 (by decide) ?_
  refine lv_iadd hx hb dL_law_401 ?_
  refine law_ld X hi hL 1 (by decide) (by decide) hS dL_law_402 ?_
  refine lv_aload_n hx hb dL_law_403 rfl (lv_at hl 3 rfl) ?_
  refine lv_iload_n hx hb dL_law_404 rfl (lv_at hl 0 rfl) ?_
  refine lv_iconst (v := 2) hx hb dL_law_405 (by decide) ?_
  refine lv_iadd hx hb dL_law_406 ?_
  refine law_ld X hi hL 2 (by decide) (by decide) hS dL_law_407 ?_
  refine law_call (y := 55) (i := 44) (k := 0) (as := [.int (sx xs i 1), .int (sx xs i 2)]) (rest := []) X (by decide) rfl rfl rfl hl.1 (by simp [Value.category]) rfl dL_law_408 e1 hP hS (fun H locs hP hS => ?_) hfit
  refine lv_aload_n hx hb dL_law_411 rfl (lv_at hl 1 rfl) ?_
  refine lv_aload_n hx hb dL_law_412 rfl (lv_at hl 3 rfl) ?_
  refine lv_iload_n hx hb dL_law_413 rfl (lv_at hl 0 rfl) ?_
  refine lv_iconst (v := 1) hx hb dL_law_414 (by decide) ?_
  refine lv_iadd hx hb dL_law_415 ?_
  refine law_ld X hi hL 1 (by decide) (by decide) hS dL_law_416 ?_
  refine lv_aload_n hx hb dL_law_417 rfl (lv_at hl 3 rfl) ?_
  refine lv_iload_n hx hb dL_law_418 rfl (lv_at hl 0 rfl) ?_
  refine lv_iconst (v := 2) hx hb dL_law_419 (by decide) ?_
  refine lv_iadd hx hb dL_law_420 ?_
  refine law_ld X hi hL 2 (by decide) (by decide) hS dL_law_421 ?_
  refine law_call (y := 102) (i := 47) (k := 600) (as := [.int (sx xs i 1), .int (sx xs i 2)]) (rest := [.int r]) X (by decide) rfl rfl rfl hl.1 (by simp [Value.category]) rfl dL_law_422 e2 hP hS (fun H locs hP hS => ?_) hfit
  refine lv_icmp_eq (tgt := 1194) hx hb dL_law_425 (by decide) (fun _ => kk h2 H locs I2 B2 hP hS) (fun z => absurd rfl z)
theorem law_8 (X : LX p e s m below meth c l b L xs D cA ad adV) (hi : 7 * i + 7 ≤ L) (hL : L ≤ 3584) (I : Inv i h) (B : Bo h) (hP : va_P D vwCl (wl cA ad h) H) (hS : va_S (AS s.heap.size) s.heap H locs) (hfit : cells ≤ 600000 ∧ slots ≤ 7302250) (hl : lv_has ls 4 [(3, .int (nI (7 * i))), (2, .ref (ad 600)), (1, .ref (ad 0)), (0, .ref b)])
    (kk : ∀ (h2 : Hp) (H1 : Heap) (locs1 : List Loc), Inv (i + 1) h2 → Bo h2 → va_P D vwCl (wl cA ad h2) H1 → va_S (AS s.heap.size) s.heap H1 locs1 → WL p l e s m below meth c b H1 locs1 cells slots (F0 m 1194 ls [])) : WL p l e s m below meth c b H locs cells slots (F0 m 430 ls []) := by
  obtain ⟨r, h1, h2, e1, e2, I2, B2⟩ := (SimB_of (Sim_of2 rfl rfl (S_car (sx xs i 1) (sx xs i 2) (sx xs i 3)))) i h (by omega) I B
  have hx := X.1.1
  have hb := X.1.2.1
  refine lv_aload_n hx hb dL_law_430 rfl (lv_at hl 2 rfl) ?_
  refine lv_aload_n hx hb dL_law_431 rfl (lv_at hl 3 rfl) ?_
  refine lv_iload_n hx hb dL_law_432 rfl (lv_at hl 0 rfl) ?_
  refine lv_iconst (v := 1) hx hb dL_law_433 (by decide) ?_
  refine lv_iadd hx hb dL_law_434 ?_
  refine law_ld X hi hL 1 (by decide) (by decide) hS dL_law_435 ?_
  refine lv_aload_n hx hb dL_law_436 rfl (lv_at hl 3 rfl) ?_
  refine lv_iload_n hx hb dL_law_437 rfl (lv_at hl 0 rfl) ?_
  refine lv_iconst (v := 2) hx hb dL_law_438 (by decide) ?_
  refine lv_iadd hx hb dL_law_439 ?_
  refine law_ld X hi hL 2 (by decide) (by decide) hS dL_law_440 ?_
  refine lv_aload_n hx hb dL_law_441 rfl (lv_at hl 3 rfl) ?_
  refine lv_iload_n hx hb dL_law_442 rfl (lv_at hl 0 rfl) ?_
  refine lv_iconst (v := 3) hx hb dL_law_443 (by decide) ?_
  refine lv_iadd hx hb dL_law_444 ?_
  refine law_ld X hi hL 3 (by decide) (by decide) hS dL_law_445 ?_
  refine law_call (y := 56) (i := 48) (k := 0) (as := [.int (sx xs i 1), .int (sx xs i 2), .int (sx xs i 3)]) (rest := []) X (by decide) rfl rfl rfl hl.1 (by simp [Value.category]) rfl dL_law_446 e1 hP hS (fun H locs hP hS => ?_) hfit
  refine lv_aload_n hx hb dL_law_449 rfl (lv_at hl 1 rfl) ?_
  refine lv_aload_n hx hb dL_law_450 rfl (lv_at hl 3 rfl) ?_
  refine lv_iload_n hx hb dL_law_451 rfl (lv_at hl 0 rfl) ?_
  refine lv_iconst (v := 1) hx hb dL_law_452 (by decide) ?_
  refine lv_iadd hx hb dL_law_453 ?_
  refine law_ld X hi hL 1 (by decide) (by decide) hS dL_law_454 ?_
  refine lv_aload_n hx hb dL_law_455 rfl (lv_at hl 3 rfl) ?_
  refine lv_iload_n hx hb dL_law_456 rfl (lv_at hl 0 rfl) ?_
  refine lv_iconst (v := 2) hx hb dL_law_457 (by decide) ?_
  refine lv_iadd hx hb dL_law_458 ?_
  refine law_ld X hi hL 2 (by decide) (by decide) hS dL_law_459 ?_
  refine lv_aload_n hx hb dL_law_460 rfl (lv_at hl 3 rfl) ?_
  refine lv_iload_n hx hb dL_law_461 rfl (lv_at hl 0 rfl) ?_
  refine lv_iconst (v := 3) hx hb dL_law_462 (by decide) ?_
  refine lv_iadd hx hb dL_law_463 ?_
  refine law_ld X hi hL 3 (by decide) (by decide) hS dL_law_464 ?_
  refine law_call (y := 103) (i := 51) (k := 600) (as := [.int (sx xs i 1), .int (sx xs i 2), .int (sx xs i 3)]) (rest := [.int r]) X (by decide) rfl rfl rfl hl.1 (by simp [Value.category]) rfl dL_law_465 e2 hP hS (fun H locs hP hS => ?_) hfit
  refine lv_icmp_eq (tgt := 1194) hx hb dL_law_468 (by decide) (fun _ => kk h2 H locs I2 B2 hP hS) (fun z => absurd rfl z)
theorem law_9 (X : LX p e s m below meth c l b L xs D cA ad adV) (hi : 7 * i + 7 ≤ L) (hL : L ≤ 3584) (I : Inv i h) (B : Bo h) (hP : va_P D vwCl (wl cA ad h) H) (hS : va_S (AS s.heap.size) s.heap H locs) (hfit : cells ≤ 600000 ∧ slots ≤ 7302250) (hl : lv_has ls 4 [(3, .int (nI (7 * i))), (2, .ref (ad 600)), (1, .ref (ad 0)), (0, .ref b)])
    (kk : ∀ (h2 : Hp) (H1 : Heap) (locs1 : List Loc), Inv (i + 1) h2 → Bo h2 → va_P D vwCl (wl cA ad h2) H1 → va_S (AS s.heap.size) s.heap H1 locs1 → WL p l e s m below meth c b H1 locs1 cells slots (F0 m 1194 ls [])) : WL p l e s m below meth c b H locs cells slots (F0 m 473 ls []) := by
  obtain ⟨r, h1, h2, e1, e2, I2, B2⟩ := (SimB_of (Sim_of2 rfl rfl (S_load (sx xs i 1) (sx xs i 2) (sx xs i 3) (sx xs i 4) (sx xs i 5) (sx xs i 6)))) i h (by omega) I B
  have hx := X.1.1
  have hb := X.1.2.1
  refine lv_aload_n hx hb dL_law_473 rfl (lv_at hl 2 rfl) ?_
  refine lv_aload_n hx hb dL_law_474 rfl (lv_at hl 3 rfl) ?_
  refine lv_iload_n hx hb dL_law_475 rfl (lv_at hl 0 rfl) ?_
  refine lv_iconst (v := 1) hx hb dL_law_476 (by decide) ?_
  refine lv_iadd hx hb dL_law_477 ?_
  refine law_ld X hi hL 1 (by decide) (by decide) hS dL_law_478 ?_
  refine lv_aload_n hx hb dL_law_479 rfl (lv_at hl 3 rfl) ?_
  refine lv_iload_n hx hb dL_law_480 rfl (lv_at hl 0 rfl) ?_
  refine lv_iconst (v := 2) hx hb dL_law_481 (by decide) ?_
  refine lv_iadd hx hb dL_law_482 ?_
  refine law_ld X hi hL 2 (by decide) (by decide) hS dL_law_483 ?_
  refine lv_aload_n hx hb dL_law_484 rfl (lv_at hl 3 rfl) ?_
  refine lv_iload_n hx hb dL_law_485 rfl (lv_at hl 0 rfl) ?_
  refine lv_iconst (v := 3) hx hb dL_law_486 (by decide) ?_
  refine lv_iadd hx hb dL_law_487 ?_
  refine law_ld X hi hL 3 (by decide) (by decide) hS dL_law_488 ?_
  refine lv_aload_n hx hb dL_law_489 rfl (lv_at hl 3 rfl) ?_
  refine lv_iload_n hx hb dL_law_490 rfl (lv_at hl 0 rfl) ?_
  refine lv_iconst (v := 4) hx hb dL_law_491 (by decide) ?_
  refine lv_iadd hx hb dL_law_492 ?_
  refine law_ld X hi hL 4 (by decide) (by decide) hS dL_law_493 ?_
  refine lv_aload_n hx hb dL_law_494 rfl (lv_at hl 3 rfl) ?_
  refine lv_iload_n hx hb dL_law_495 rfl (lv_at hl 0 rfl) ?_
  refine lv_iconst (v := 5) hx hb dL_law_496 (by decide) ?_
  refine lv_iadd hx hb dL_law_497 ?_
  refine law_ld X hi hL 5 (by decide) (by decide) hS dL_law_498 ?_
  refine lv_aload_n hx hb dL_law_499 rfl (lv_at hl 3 rfl) ?_
  refine lv_iload_n hx hb dL_law_500 rfl (lv_at hl 0 rfl) ?_
  refine lv_bipush (v := 6) hx hb dL_law_501 (by decide) ?_
  refine lv_iadd hx hb dL_law_503 ?_
  refine law_ld X hi hL 6 (by decide) (by decide) hS dL_law_504 ?_
  refine law_call (y := 57) (i := 52) (k := 0) (as := [.int (sx xs i 1), .int (sx xs i 2), .int (sx xs i 3), .int (sx xs i 4), .int (sx xs i 5), .int (sx xs i 6)]) (rest := []) X (by decide) rfl rfl rfl hl.1 (by simp [Value.category]) rfl dL_law_505 e1 hP hS (fun H locs hP hS => ?_) hfit
  refine lv_aload_n hx hb dL_law_508 rfl (lv_at hl 1 rfl) ?_
  refine lv_aload_n hx hb dL_law_509 rfl (lv_at hl 3 rfl) ?_
  refine lv_iload_n hx hb dL_law_510 rfl (lv_at hl 0 rfl) ?_
  refine lv_iconst (v := 1) hx hb dL_law_511 (by decide) ?_
  refine lv_iadd hx hb dL_law_512 ?_
  refine law_ld X hi hL 1 (by decide) (by decide) hS dL_law_513 ?_
  refine lv_aload_n hx hb dL_law_514 rfl (lv_at hl 3 rfl) ?_
  refine lv_iload_n hx hb dL_law_515 rfl (lv_at hl 0 rfl) ?_
  refine lv_iconst (v := 2) hx hb dL_law_516 (by decide) ?_
  refine lv_iadd hx hb dL_law_517 ?_
  refine law_ld X hi hL 2 (by decide) (by decide) hS dL_law_518 ?_
  refine lv_aload_n hx hb dL_law_519 rfl (lv_at hl 3 rfl) ?_
  refine lv_iload_n hx hb dL_law_520 rfl (lv_at hl 0 rfl) ?_
  refine lv_iconst (v := 3) hx hb dL_law_521 (by decide) ?_
  refine lv_iadd hx hb dL_law_522 ?_
  refine law_ld X hi hL 3 (by decide) (by decide) hS dL_law_523 ?_
  refine lv_aload_n hx hb dL_law_524 rfl (lv_at hl 3 rfl) ?_
  refine lv_iload_n hx hb dL_law_525 rfl (lv_at hl 0 rfl) ?_
  refine lv_iconst (v := 4) hx hb dL_law_526 (by decide) ?_
  refine lv_iadd hx hb dL_law_527 ?_
  refine law_ld X hi hL 4 (by decide) (by decide) hS dL_law_528 ?_
  refine lv_aload_n hx hb dL_law_529 rfl (lv_at hl 3 rfl) ?_
  refine lv_iload_n hx hb dL_law_530 rfl (lv_at hl 0 rfl) ?_
  refine lv_iconst (v := 5) hx hb dL_law_531 (by decide) ?_
  refine lv_iadd hx hb dL_law_532 ?_
  refine law_ld X hi hL 5 (by decide) (by decide) hS dL_law_533 ?_
  refine lv_aload_n hx hb dL_law_534 rfl (lv_at hl 3 rfl) ?_
  refine lv_iload_n hx hb dL_law_535 rfl (lv_at hl 0 rfl) ?_
  refine lv_bipush (v := 6) hx hb dL_law_536 (by decide) ?_
  refine lv_iadd hx hb dL_law_538 ?_
  refine law_ld X hi hL 6 (by decide) (by decide) hS dL_law_539 ?_
  refine law_call (y := 104) (i := 56) (k := 600) (as := [.int (sx xs i 1), .int (sx xs i 2), .int (sx xs i 3), .int (sx xs i 4), .int (sx xs i 5), .int (sx xs i 6)]) (rest := [.int r]) X (by decide) rfl rfl rfl hl.1 (by simp [Value.category]) rfl dL_law_540 e2 hP hS (fun H locs hP hS => ?_) hfit
  refine lv_icmp_eq (tgt := 1194) hx hb dL_law_543 (by decide) (fun _ => kk h2 H locs I2 B2 hP hS) (fun z => absurd rfl z)
theorem law_10 (X : LX p e s m below meth c l b L xs D cA ad adV) (hi : 7 * i + 7 ≤ L) (hL : L ≤ 3584) (I : Inv i h) (B : Bo h) (hP : va_P D vwCl (wl cA ad h) H) (hS : va_S (AS s.heap.size) s.heap H locs) (hfit : cells ≤ 600000 ∧ slots ≤ 7302250) (hl : lv_has ls 4 [(3, .int (nI (7 * i))), (2, .ref (ad 600)), (1, .ref (ad 0)), (0, .ref b)])
    (kk : ∀ (h2 : Hp) (H1 : Heap) (locs1 : List Loc), Inv (i + 1) h2 → Bo h2 → va_P D vwCl (wl cA ad h2) H1 → va_S (AS s.heap.size) s.heap H1 locs1 → WL p l e s m below meth c b H1 locs1 cells slots (F0 m 1194 ls [])) : WL p l e s m below meth c b H locs cells slots (F0 m 548 ls []) := by
  obtain ⟨r, h1, h2, e1, e2, I2, B2⟩ := (SimB_of (Sim_of2 rfl rfl (S_tier (sx xs i 1) (sx xs i 2) (sx xs i 3)))) i h (by omega) I B
  have hx := X.1.1
  have hb := X.1.2.1
  refine lv_aload_n hx hb dL_law_548 rfl (lv_at hl 2 rfl) ?_
  refine lv_aload_n hx hb dL_law_549 rfl (lv_at hl 3 rfl) ?_
  refine lv_iload_n hx hb dL_law_550 rfl (lv_at hl 0 rfl) ?_
  refine lv_iconst (v := 1) hx hb dL_law_551 (by decide) ?_
  refine lv_iadd hx hb dL_law_552 ?_
  refine law_ld X hi hL 1 (by decide) (by decide) hS dL_law_553 ?_
  refine lv_aload_n hx hb dL_law_554 rfl (lv_at hl 3 rfl) ?_
  refine lv_iload_n hx hb dL_law_555 rfl (lv_at hl 0 rfl) ?_
  refine lv_iconst (v := 2) hx hb dL_law_556 (by decide) ?_
  refine lv_iadd hx hb dL_law_557 ?_
  refine law_ld X hi hL 2 (by decide) (by decide) hS dL_law_558 ?_
  refine lv_aload_n hx hb dL_law_559 rfl (lv_at hl 3 rfl) ?_
  refine lv_iload_n hx hb dL_law_560 rfl (lv_at hl 0 rfl) ?_
  refine lv_iconst (v := 3) hx hb dL_law_561 (by decide) ?_
  refine lv_iadd hx hb dL_law_562 ?_
  refine law_ld X hi hL 3 (by decide) (by decide) hS dL_law_563 ?_
  refine law_call (y := 59) (i := 57) (k := 0) (as := [.int (sx xs i 1), .int (sx xs i 2), .int (sx xs i 3)]) (rest := []) X (by decide) rfl rfl rfl hl.1 (by simp [Value.category]) rfl dL_law_564 e1 hP hS (fun H locs hP hS => ?_) hfit
  refine lv_aload_n hx hb dL_law_567 rfl (lv_at hl 1 rfl) ?_
  refine lv_aload_n hx hb dL_law_568 rfl (lv_at hl 3 rfl) ?_
  refine lv_iload_n hx hb dL_law_569 rfl (lv_at hl 0 rfl) ?_
  refine lv_iconst (v := 1) hx hb dL_law_570 (by decide) ?_
  refine lv_iadd hx hb dL_law_571 ?_
  refine law_ld X hi hL 1 (by decide) (by decide) hS dL_law_572 ?_
  refine lv_aload_n hx hb dL_law_573 rfl (lv_at hl 3 rfl) ?_
  refine lv_iload_n hx hb dL_law_574 rfl (lv_at hl 0 rfl) ?_
  refine lv_iconst (v := 2) hx hb dL_law_575 (by decide) ?_
  refine lv_iadd hx hb dL_law_576 ?_
  refine law_ld X hi hL 2 (by decide) (by decide) hS dL_law_577 ?_
  refine lv_aload_n hx hb dL_law_578 rfl (lv_at hl 3 rfl) ?_
  refine lv_iload_n hx hb dL_law_579 rfl (lv_at hl 0 rfl) ?_
  refine lv_iconst (v := 3) hx hb dL_law_580 (by decide) ?_
  refine lv_iadd hx hb dL_law_581 ?_
  refine law_ld X hi hL 3 (by decide) (by decide) hS dL_law_582 ?_
  refine law_call (y := 106) (i := 60) (k := 600) (as := [.int (sx xs i 1), .int (sx xs i 2), .int (sx xs i 3)]) (rest := [.int r]) X (by decide) rfl rfl rfl hl.1 (by simp [Value.category]) rfl dL_law_583 e2 hP hS (fun H locs hP hS => ?_) hfit
  refine lv_icmp_eq (tgt := 1194) hx hb dL_law_586 (by decide) (fun _ => kk h2 H locs I2 B2 hP hS) (fun z => absurd rfl z)
theorem law_11 (X : LX p e s m below meth c l b L xs D cA ad adV) (hi : 7 * i + 7 ≤ L) (hL : L ≤ 3584) (I : Inv i h) (B : Bo h) (hP : va_P D vwCl (wl cA ad h) H) (hS : va_S (AS s.heap.size) s.heap H locs) (hfit : cells ≤ 600000 ∧ slots ≤ 7302250) (hl : lv_has ls 4 [(3, .int (nI (7 * i))), (2, .ref (ad 600)), (1, .ref (ad 0)), (0, .ref b)])
    (kk : ∀ (h2 : Hp) (H1 : Heap) (locs1 : List Loc), Inv (i + 1) h2 → Bo h2 → va_P D vwCl (wl cA ad h2) H1 → va_S (AS s.heap.size) s.heap H1 locs1 → WL p l e s m below meth c b H1 locs1 cells slots (F0 m 1194 ls [])) : WL p l e s m below meth c b H locs cells slots (F0 m 591 ls []) := by
  obtain ⟨r, h1, h2, e1, e2, I2, B2⟩ := (SimB_of (Sim_of2 rfl rfl (S_fill (sx xs i 1) (sx xs i 2)))) i h (by omega) I B
  have hx := X.1.1
  have hb := X.1.2.1
  refine lv_aload_n hx hb dL_law_591 rfl (lv_at hl 2 rfl) ?_
  refine lv_aload_n hx hb dL_law_592 rfl (lv_at hl 3 rfl) ?_
  refine lv_iload_n hx hb dL_law_593 rfl (lv_at hl 0 rfl) ?_
  refine lv_iconst (v := 1) hx hb dL_law_594 (by decide) ?_
  refine lv_iadd hx hb dL_law_595 ?_
  refine law_ld X hi hL 1 (by decide) (by decide) hS dL_law_596 ?_
  refine lv_aload_n hx hb dL_law_597 rfl (lv_at hl 3 rfl) ?_
  refine lv_iload_n hx hb dL_law_598 rfl (lv_at hl 0 rfl) ?_
  refine lv_iconst (v := 2) hx hb dL_law_599 (by decide) ?_
  refine lv_iadd hx hb dL_law_600 ?_
  refine law_ld X hi hL 2 (by decide) (by decide) hS dL_law_601 ?_
  refine law_call (y := 60) (i := 61) (k := 0) (as := [.int (sx xs i 1), .int (sx xs i 2)]) (rest := []) X (by decide) rfl rfl rfl hl.1 (by simp [Value.category]) rfl dL_law_602 e1 hP hS (fun H locs hP hS => ?_) hfit
  refine lv_aload_n hx hb dL_law_605 rfl (lv_at hl 1 rfl) ?_
  refine lv_aload_n hx hb dL_law_606 rfl (lv_at hl 3 rfl) ?_
  refine lv_iload_n hx hb dL_law_607 rfl (lv_at hl 0 rfl) ?_
  refine lv_iconst (v := 1) hx hb dL_law_608 (by decide) ?_
  refine lv_iadd hx hb dL_law_609 ?_
  refine law_ld X hi hL 1 (by decide) (by decide) hS dL_law_610 ?_
  refine lv_aload_n hx hb dL_law_611 rfl (lv_at hl 3 rfl) ?_
  refine lv_iload_n hx hb dL_law_612 rfl (lv_at hl 0 rfl) ?_
  refine lv_iconst (v := 2) hx hb dL_law_613 (by decide) ?_
  refine lv_iadd hx hb dL_law_614 ?_
  refine law_ld X hi hL 2 (by decide) (by decide) hS dL_law_615 ?_
  refine law_call (y := 107) (i := 64) (k := 600) (as := [.int (sx xs i 1), .int (sx xs i 2)]) (rest := [.int r]) X (by decide) rfl rfl rfl hl.1 (by simp [Value.category]) rfl dL_law_616 e2 hP hS (fun H locs hP hS => ?_) hfit
  refine lv_icmp_eq (tgt := 1194) hx hb dL_law_619 (by decide) (fun _ => kk h2 H locs I2 B2 hP hS) (fun z => absurd rfl z)
theorem law_12 (X : LX p e s m below meth c l b L xs D cA ad adV) (hi : 7 * i + 7 ≤ L) (hL : L ≤ 3584) (I : Inv i h) (B : Bo h) (hP : va_P D vwCl (wl cA ad h) H) (hS : va_S (AS s.heap.size) s.heap H locs) (hfit : cells ≤ 600000 ∧ slots ≤ 7302250) (hl : lv_has ls 4 [(3, .int (nI (7 * i))), (2, .ref (ad 600)), (1, .ref (ad 0)), (0, .ref b)])
    (kk : ∀ (h2 : Hp) (H1 : Heap) (locs1 : List Loc), Inv (i + 1) h2 → Bo h2 → va_P D vwCl (wl cA ad h2) H1 → va_S (AS s.heap.size) s.heap H1 locs1 → WL p l e s m below meth c b H1 locs1 cells slots (F0 m 1194 ls [])) : WL p l e s m below meth c b H locs cells slots (F0 m 624 ls []) := by
  obtain ⟨r, h1, h2, e1, e2, I2, B2⟩ := (SimB_of (S_vent (sx xs i 1) (sx xs i 2))) i h (by omega) I B
  have hx := X.1.1
  have hb := X.1.2.1
  refine lv_aload_n hx hb dL_law_624 rfl (lv_at hl 2 rfl) ?_
  refine lv_aload_n hx hb dL_law_625 rfl (lv_at hl 3 rfl) ?_
  refine lv_iload_n hx hb dL_law_626 rfl (lv_at hl 0 rfl) ?_
  refine lv_iconst (v := 1) hx hb dL_law_627 (by decide) ?_
  refine lv_iadd hx hb dL_law_628 ?_
  refine law_ld X hi hL 1 (by decide) (by decide) hS dL_law_629 ?_
  refine lv_aload_n hx hb dL_law_630 rfl (lv_at hl 3 rfl) ?_
  refine lv_iload_n hx hb dL_law_631 rfl (lv_at hl 0 rfl) ?_
  refine lv_iconst (v := 2) hx hb dL_law_632 (by decide) ?_
  refine lv_iadd hx hb dL_law_633 ?_
  refine law_ld X hi hL 2 (by decide) (by decide) hS dL_law_634 ?_
  refine law_call (y := 61) (i := 65) (k := 0) (as := [.int (sx xs i 1), .int (sx xs i 2)]) (rest := []) X (by decide) rfl rfl rfl hl.1 (by simp [Value.category]) rfl dL_law_635 e1 hP hS (fun H locs hP hS => ?_) hfit
  refine lv_aload_n hx hb dL_law_638 rfl (lv_at hl 1 rfl) ?_
  refine lv_aload_n hx hb dL_law_639 rfl (lv_at hl 3 rfl) ?_
  refine lv_iload_n hx hb dL_law_640 rfl (lv_at hl 0 rfl) ?_
  refine lv_iconst (v := 1) hx hb dL_law_641 (by decide) ?_
  refine lv_iadd hx hb dL_law_642 ?_
  refine law_ld X hi hL 1 (by decide) (by decide) hS dL_law_643 ?_
  refine lv_aload_n hx hb dL_law_644 rfl (lv_at hl 3 rfl) ?_
  refine lv_iload_n hx hb dL_law_645 rfl (lv_at hl 0 rfl) ?_
  refine lv_iconst (v := 2) hx hb dL_law_646 (by decide) ?_
  refine lv_iadd hx hb dL_law_647 ?_
  refine law_ld X hi hL 2 (by decide) (by decide) hS dL_law_648 ?_
  refine law_call (y := 108) (i := 68) (k := 600) (as := [.int (sx xs i 1), .int (sx xs i 2)]) (rest := [.int r]) X (by decide) rfl rfl rfl hl.1 (by simp [Value.category]) rfl dL_law_649 e2 hP hS (fun H locs hP hS => ?_) hfit
  refine lv_icmp_eq (tgt := 1194) hx hb dL_law_652 (by decide) (fun _ => kk h2 H locs I2 B2 hP hS) (fun z => absurd rfl z)
theorem law_13 (X : LX p e s m below meth c l b L xs D cA ad adV) (hi : 7 * i + 7 ≤ L) (hL : L ≤ 3584) (I : Inv i h) (B : Bo h) (hP : va_P D vwCl (wl cA ad h) H) (hS : va_S (AS s.heap.size) s.heap H locs) (hfit : cells ≤ 600000 ∧ slots ≤ 7302250) (hl : lv_has ls 4 [(3, .int (nI (7 * i))), (2, .ref (ad 600)), (1, .ref (ad 0)), (0, .ref b)])
    (kk : ∀ (h2 : Hp) (H1 : Heap) (locs1 : List Loc), Inv (i + 1) h2 → Bo h2 → va_P D vwCl (wl cA ad h2) H1 → va_S (AS s.heap.size) s.heap H1 locs1 → WL p l e s m below meth c b H1 locs1 cells slots (F0 m 1194 ls [])) : WL p l e s m below meth c b H locs cells slots (F0 m 657 ls []) := by
  obtain ⟨r, h1, h2, e1, e2, I2, B2⟩ := (SimB_of (Sim_of2 rfl rfl (S_send (sx xs i 1) (sx xs i 2)))) i h (by omega) I B
  have hx := X.1.1
  have hb := X.1.2.1
  refine lv_aload_n hx hb dL_law_657 rfl (lv_at hl 2 rfl) ?_
  refine lv_aload_n hx hb dL_law_658 rfl (lv_at hl 3 rfl) ?_
  refine lv_iload_n hx hb dL_law_659 rfl (lv_at hl 0 rfl) ?_
  refine lv_iconst (v := 1) hx hb dL_law_660 (by decide) ?_
  refine lv_iadd hx hb dL_law_661 ?_
  refine law_ld X hi hL 1 (by decide) (by decide) hS dL_law_662 ?_
  refine lv_aload_n hx hb dL_law_663 rfl (lv_at hl 3 rfl) ?_
  refine lv_iload_n hx hb dL_law_664 rfl (lv_at hl 0 rfl) ?_
  refine lv_iconst (v := 2) hx hb dL_law_665 (by decide) ?_
  refine lv_iadd hx hb dL_law_666 ?_
  refine law_ld X hi hL 2 (by decide) (by decide) hS dL_law_667 ?_
  refine law_call (y := 62) (i := 69) (k := 0) (as := [.int (sx xs i 1), .int (sx xs i 2)]) (rest := []) X (by decide) rfl rfl rfl hl.1 (by simp [Value.category]) rfl dL_law_668 e1 hP hS (fun H locs hP hS => ?_) hfit
  refine lv_aload_n hx hb dL_law_671 rfl (lv_at hl 1 rfl) ?_
  refine lv_aload_n hx hb dL_law_672 rfl (lv_at hl 3 rfl) ?_
  refine lv_iload_n hx hb dL_law_673 rfl (lv_at hl 0 rfl) ?_
  refine lv_iconst (v := 1) hx hb dL_law_674 (by decide) ?_
  refine lv_iadd hx hb dL_law_675 ?_
  refine law_ld X hi hL 1 (by decide) (by decide) hS dL_law_676 ?_
  refine lv_aload_n hx hb dL_law_677 rfl (lv_at hl 3 rfl) ?_
  refine lv_iload_n hx hb dL_law_678 rfl (lv_at hl 0 rfl) ?_
  refine lv_iconst (v := 2) hx hb dL_law_679 (by decide) ?_
  refine lv_iadd hx hb dL_law_680 ?_
  refine law_ld X hi hL 2 (by decide) (by decide) hS dL_law_681 ?_
  refine law_call (y := 109) (i := 72) (k := 600) (as := [.int (sx xs i 1), .int (sx xs i 2)]) (rest := [.int r]) X (by decide) rfl rfl rfl hl.1 (by simp [Value.category]) rfl dL_law_682 e2 hP hS (fun H locs hP hS => ?_) hfit
  refine lv_icmp_eq (tgt := 1194) hx hb dL_law_685 (by decide) (fun _ => kk h2 H locs I2 B2 hP hS) (fun z => absurd rfl z)
theorem law_14 (X : LX p e s m below meth c l b L xs D cA ad adV) (hi : 7 * i + 7 ≤ L) (hL : L ≤ 3584) (I : Inv i h) (B : Bo h) (hP : va_P D vwCl (wl cA ad h) H) (hS : va_S (AS s.heap.size) s.heap H locs) (hfit : cells ≤ 600000 ∧ slots ≤ 7302250) (hl : lv_has ls 4 [(3, .int (nI (7 * i))), (2, .ref (ad 600)), (1, .ref (ad 0)), (0, .ref b)])
    (kk : ∀ (h2 : Hp) (H1 : Heap) (locs1 : List Loc), Inv (i + 1) h2 → Bo h2 → va_P D vwCl (wl cA ad h2) H1 → va_S (AS s.heap.size) s.heap H1 locs1 → WL p l e s m below meth c b H1 locs1 cells slots (F0 m 1194 ls [])) : WL p l e s m below meth c b H locs cells slots (F0 m 690 ls []) := by
  obtain ⟨r, h1, h2, e1, e2, I2, B2⟩ := (SimB_of (Sim_of2 rfl rfl (S_turn (sx xs i 1) (sx xs i 2)))) i h (by omega) I B
  have hx := X.1.1
  have hb := X.1.2.1
  refine lv_aload_n hx hb dL_law_690 rfl (lv_at hl 2 rfl) ?_
  refine lv_aload_n hx hb dL_law_691 rfl (lv_at hl 3 rfl) ?_
  refine lv_iload_n hx hb dL_law_692 rfl (lv_at hl 0 rfl) ?_
  refine lv_iconst (v := 1) hx hb dL_law_693 (by decide) ?_
  refine lv_iadd hx hb dL_law_694 ?_
  refine law_ld X hi hL 1 (by decide) (by decide) hS dL_law_695 ?_
  refine lv_aload_n hx hb dL_law_696 rfl (lv_at hl 3 rfl) ?_
  refine lv_iload_n hx hb dL_law_697 rfl (lv_at hl 0 rfl) ?_
  refine lv_iconst (v := 2) hx hb dL_law_698 (by decide) ?_
  refine lv_iadd hx hb dL_law_699 ?_
  refine law_ld X hi hL 2 (by decide) (by decide) hS dL_law_700 ?_
  refine law_call (y := 64) (i := 73) (k := 0) (as := [.int (sx xs i 1), .int (sx xs i 2)]) (rest := []) X (by decide) rfl rfl rfl hl.1 (by simp [Value.category]) rfl dL_law_701 e1 hP hS (fun H locs hP hS => ?_) hfit
  refine lv_aload_n hx hb dL_law_704 rfl (lv_at hl 1 rfl) ?_
  refine lv_aload_n hx hb dL_law_705 rfl (lv_at hl 3 rfl) ?_
  refine lv_iload_n hx hb dL_law_706 rfl (lv_at hl 0 rfl) ?_
  refine lv_iconst (v := 1) hx hb dL_law_707 (by decide) ?_
  refine lv_iadd hx hb dL_law_708 ?_
  refine law_ld X hi hL 1 (by decide) (by decide) hS dL_law_709 ?_
  refine lv_aload_n hx hb dL_law_710 rfl (lv_at hl 3 rfl) ?_
  refine lv_iload_n hx hb dL_law_711 rfl (lv_at hl 0 rfl) ?_
  refine lv_iconst (v := 2) hx hb dL_law_712 (by decide) ?_
  refine lv_iadd hx hb dL_law_713 ?_
  refine law_ld X hi hL 2 (by decide) (by decide) hS dL_law_714 ?_
  refine law_call (y := 112) (i := 76) (k := 600) (as := [.int (sx xs i 1), .int (sx xs i 2)]) (rest := [.int r]) X (by decide) rfl rfl rfl hl.1 (by simp [Value.category]) rfl dL_law_715 e2 hP hS (fun H locs hP hS => ?_) hfit
  refine lv_icmp_eq (tgt := 1194) hx hb dL_law_718 (by decide) (fun _ => kk h2 H locs I2 B2 hP hS) (fun z => absurd rfl z)
theorem law_15 (X : LX p e s m below meth c l b L xs D cA ad adV) (hi : 7 * i + 7 ≤ L) (hL : L ≤ 3584) (I : Inv i h) (B : Bo h) (hP : va_P D vwCl (wl cA ad h) H) (hS : va_S (AS s.heap.size) s.heap H locs) (hfit : cells ≤ 600000 ∧ slots ≤ 7302250) (hl : lv_has ls 4 [(3, .int (nI (7 * i))), (2, .ref (ad 600)), (1, .ref (ad 0)), (0, .ref b)])
    (kk : ∀ (h2 : Hp) (H1 : Heap) (locs1 : List Loc), Inv (i + 1) h2 → Bo h2 → va_P D vwCl (wl cA ad h2) H1 → va_S (AS s.heap.size) s.heap H1 locs1 → WL p l e s m below meth c b H1 locs1 cells slots (F0 m 1194 ls [])) : WL p l e s m below meth c b H locs cells slots (F0 m 723 ls []) := by
  obtain ⟨r, h1, h2, e1, e2, I2, B2⟩ := (SimB_of (S_late (sx xs i 1) (sx xs i 2))) i h (by omega) I B
  have hx := X.1.1
  have hb := X.1.2.1
  refine lv_aload_n hx hb dL_law_723 rfl (lv_at hl 2 rfl) ?_
  refine lv_aload_n hx hb dL_law_724 rfl (lv_at hl 3 rfl) ?_
  refine lv_iload_n hx hb dL_law_725 rfl (lv_at hl 0 rfl) ?_
  refine lv_iconst (v := 1) hx hb dL_law_726 (by decide) ?_
  refine lv_iadd hx hb dL_law_727 ?_
  refine law_ld X hi hL 1 (by decide) (by decide) hS dL_law_728 ?_
  refine lv_aload_n hx hb dL_law_729 rfl (lv_at hl 3 rfl) ?_
  refine lv_iload_n hx hb dL_law_730 rfl (lv_at hl 0 rfl) ?_
  refine lv_iconst (v := 2) hx hb dL_law_731 (by decide) ?_
  refine lv_iadd hx hb dL_law_732 ?_
  refine law_ld X hi hL 2 (by decide) (by decide) hS dL_law_733 ?_
  refine law_call (y := 65) (i := 77) (k := 0) (as := [.int (sx xs i 1), .int (sx xs i 2)]) (rest := []) X (by decide) rfl rfl rfl hl.1 (by simp [Value.category]) rfl dL_law_734 e1 hP hS (fun H locs hP hS => ?_) hfit
  refine lv_aload_n hx hb dL_law_737 rfl (lv_at hl 1 rfl) ?_
  refine lv_aload_n hx hb dL_law_738 rfl (lv_at hl 3 rfl) ?_
  refine lv_iload_n hx hb dL_law_739 rfl (lv_at hl 0 rfl) ?_
  refine lv_iconst (v := 1) hx hb dL_law_740 (by decide) ?_
  refine lv_iadd hx hb dL_law_741 ?_
  refine law_ld X hi hL 1 (by decide) (by decide) hS dL_law_742 ?_
  refine lv_aload_n hx hb dL_law_743 rfl (lv_at hl 3 rfl) ?_
  refine lv_iload_n hx hb dL_law_744 rfl (lv_at hl 0 rfl) ?_
  refine lv_iconst (v := 2) hx hb dL_law_745 (by decide) ?_
  refine lv_iadd hx hb dL_law_746 ?_
  refine law_ld X hi hL 2 (by decide) (by decide) hS dL_law_747 ?_
  refine law_call (y := 114) (i := 80) (k := 600) (as := [.int (sx xs i 1), .int (sx xs i 2)]) (rest := [.int r]) X (by decide) rfl rfl rfl hl.1 (by simp [Value.category]) rfl dL_law_748 e2 hP hS (fun H locs hP hS => ?_) hfit
  refine lv_icmp_eq (tgt := 1194) hx hb dL_law_751 (by decide) (fun _ => kk h2 H locs I2 B2 hP hS) (fun z => absurd rfl z)
theorem law_16 (X : LX p e s m below meth c l b L xs D cA ad adV) (hi : 7 * i + 7 ≤ L) (hL : L ≤ 3584) (I : Inv i h) (B : Bo h) (hP : va_P D vwCl (wl cA ad h) H) (hS : va_S (AS s.heap.size) s.heap H locs) (hfit : cells ≤ 600000 ∧ slots ≤ 7302250) (hl : lv_has ls 4 [(3, .int (nI (7 * i))), (2, .ref (ad 600)), (1, .ref (ad 0)), (0, .ref b)])
    (kk : ∀ (h2 : Hp) (H1 : Heap) (locs1 : List Loc), Inv (i + 1) h2 → Bo h2 → va_P D vwCl (wl cA ad h2) H1 → va_S (AS s.heap.size) s.heap H1 locs1 → WL p l e s m below meth c b H1 locs1 cells slots (F0 m 1194 ls [])) : WL p l e s m below meth c b H locs cells slots (F0 m 756 ls []) := by
  obtain ⟨r, h1, h2, e1, e2, I2, B2⟩ := (SimB_of (S_look (sx xs i 1) (sx xs i 2))) i h (by omega) I B
  have hx := X.1.1
  have hb := X.1.2.1
  refine lv_aload_n hx hb dL_law_756 rfl (lv_at hl 2 rfl) ?_
  refine lv_aload_n hx hb dL_law_757 rfl (lv_at hl 3 rfl) ?_
  refine lv_iload_n hx hb dL_law_758 rfl (lv_at hl 0 rfl) ?_
  refine lv_iconst (v := 1) hx hb dL_law_759 (by decide) ?_
  refine lv_iadd hx hb dL_law_760 ?_
  refine law_ld X hi hL 1 (by decide) (by decide) hS dL_law_761 ?_
  refine lv_aload_n hx hb dL_law_762 rfl (lv_at hl 3 rfl) ?_
  refine lv_iload_n hx hb dL_law_763 rfl (lv_at hl 0 rfl) ?_
  refine lv_iconst (v := 2) hx hb dL_law_764 (by decide) ?_
  refine lv_iadd hx hb dL_law_765 ?_
  refine law_ld X hi hL 2 (by decide) (by decide) hS dL_law_766 ?_
  refine law_call (y := 66) (i := 81) (k := 0) (as := [.int (sx xs i 1), .int (sx xs i 2)]) (rest := []) X (by decide) rfl rfl rfl hl.1 (by simp [Value.category]) rfl dL_law_767 e1 hP hS (fun H locs hP hS => ?_) hfit
  refine lv_aload_n hx hb dL_law_770 rfl (lv_at hl 1 rfl) ?_
  refine lv_aload_n hx hb dL_law_771 rfl (lv_at hl 3 rfl) ?_
  refine lv_iload_n hx hb dL_law_772 rfl (lv_at hl 0 rfl) ?_
  refine lv_iconst (v := 1) hx hb dL_law_773 (by decide) ?_
  refine lv_iadd hx hb dL_law_774 ?_
  refine law_ld X hi hL 1 (by decide) (by decide) hS dL_law_775 ?_
  refine lv_aload_n hx hb dL_law_776 rfl (lv_at hl 3 rfl) ?_
  refine lv_iload_n hx hb dL_law_777 rfl (lv_at hl 0 rfl) ?_
  refine lv_iconst (v := 2) hx hb dL_law_778 (by decide) ?_
  refine lv_iadd hx hb dL_law_779 ?_
  refine law_ld X hi hL 2 (by decide) (by decide) hS dL_law_780 ?_
  refine law_call (y := 115) (i := 84) (k := 600) (as := [.int (sx xs i 1), .int (sx xs i 2)]) (rest := [.int r]) X (by decide) rfl rfl rfl hl.1 (by simp [Value.category]) rfl dL_law_781 e2 hP hS (fun H locs hP hS => ?_) hfit
  refine lv_icmp_eq (tgt := 1194) hx hb dL_law_784 (by decide) (fun _ => kk h2 H locs I2 B2 hP hS) (fun z => absurd rfl z)
theorem law_17 (X : LX p e s m below meth c l b L xs D cA ad adV) (hi : 7 * i + 7 ≤ L) (hL : L ≤ 3584) (I : Inv i h) (B : Bo h) (hP : va_P D vwCl (wl cA ad h) H) (hS : va_S (AS s.heap.size) s.heap H locs) (hfit : cells ≤ 600000 ∧ slots ≤ 7302250) (hl : lv_has ls 4 [(3, .int (nI (7 * i))), (2, .ref (ad 600)), (1, .ref (ad 0)), (0, .ref b)])
    (kk : ∀ (h2 : Hp) (H1 : Heap) (locs1 : List Loc), Inv (i + 1) h2 → Bo h2 → va_P D vwCl (wl cA ad h2) H1 → va_S (AS s.heap.size) s.heap H1 locs1 → WL p l e s m below meth c b H1 locs1 cells slots (F0 m 1194 ls [])) : WL p l e s m below meth c b H locs cells slots (F0 m 789 ls []) := by
  obtain ⟨r, h1, h2, e1, e2, I2, B2⟩ := (SimB_of (Sim_of2 rfl rfl (S_feed (sx xs i 1) (sx xs i 2)))) i h (by omega) I B
  have hx := X.1.1
  have hb := X.1.2.1
  refine lv_aload_n hx hb dL_law_789 rfl (lv_at hl 2 rfl) ?_
  refine lv_aload_n hx hb dL_law_790 rfl (lv_at hl 3 rfl) ?_
  refine lv_iload_n hx hb dL_law_791 rfl (lv_at hl 0 rfl) ?_
  refine lv_iconst (v := 1) hx hb dL_law_792 (by decide) ?_
  refine lv_iadd hx hb dL_law_793 ?_
  refine law_ld X hi hL 1 (by decide) (by decide) hS dL_law_794 ?_
  refine lv_aload_n hx hb dL_law_795 rfl (lv_at hl 3 rfl) ?_
  refine lv_iload_n hx hb dL_law_796 rfl (lv_at hl 0 rfl) ?_
  refine lv_iconst (v := 2) hx hb dL_law_797 (by decide) ?_
  refine lv_iadd hx hb dL_law_798 ?_
  refine law_ld X hi hL 2 (by decide) (by decide) hS dL_law_799 ?_
  refine law_call (y := 67) (i := 85) (k := 0) (as := [.int (sx xs i 1), .int (sx xs i 2)]) (rest := []) X (by decide) rfl rfl rfl hl.1 (by simp [Value.category]) rfl dL_law_800 e1 hP hS (fun H locs hP hS => ?_) hfit
  refine lv_aload_n hx hb dL_law_803 rfl (lv_at hl 1 rfl) ?_
  refine lv_aload_n hx hb dL_law_804 rfl (lv_at hl 3 rfl) ?_
  refine lv_iload_n hx hb dL_law_805 rfl (lv_at hl 0 rfl) ?_
  refine lv_iconst (v := 1) hx hb dL_law_806 (by decide) ?_
  refine lv_iadd hx hb dL_law_807 ?_
  refine law_ld X hi hL 1 (by decide) (by decide) hS dL_law_808 ?_
  refine lv_aload_n hx hb dL_law_809 rfl (lv_at hl 3 rfl) ?_
  refine lv_iload_n hx hb dL_law_810 rfl (lv_at hl 0 rfl) ?_
  refine lv_iconst (v := 2) hx hb dL_law_811 (by decide) ?_
  refine lv_iadd hx hb dL_law_812 ?_
  refine law_ld X hi hL 2 (by decide) (by decide) hS dL_law_813 ?_
  refine law_call (y := 116) (i := 88) (k := 600) (as := [.int (sx xs i 1), .int (sx xs i 2)]) (rest := [.int r]) X (by decide) rfl rfl rfl hl.1 (by simp [Value.category]) rfl dL_law_814 e2 hP hS (fun H locs hP hS => ?_) hfit
  refine lv_icmp_eq (tgt := 1194) hx hb dL_law_817 (by decide) (fun _ => kk h2 H locs I2 B2 hP hS) (fun z => absurd rfl z)
theorem law_18 (X : LX p e s m below meth c l b L xs D cA ad adV) (hi : 7 * i + 7 ≤ L) (hL : L ≤ 3584) (I : Inv i h) (B : Bo h) (hP : va_P D vwCl (wl cA ad h) H) (hS : va_S (AS s.heap.size) s.heap H locs) (hfit : cells ≤ 600000 ∧ slots ≤ 7302250) (hl : lv_has ls 4 [(3, .int (nI (7 * i))), (2, .ref (ad 600)), (1, .ref (ad 0)), (0, .ref b)])
    (kk : ∀ (h2 : Hp) (H1 : Heap) (locs1 : List Loc), Inv (i + 1) h2 → Bo h2 → va_P D vwCl (wl cA ad h2) H1 → va_S (AS s.heap.size) s.heap H1 locs1 → WL p l e s m below meth c b H1 locs1 cells slots (F0 m 1194 ls [])) : WL p l e s m below meth c b H locs cells slots (F0 m 822 ls []) := by
  obtain ⟨r, h1, h2, e1, e2, I2, B2⟩ := (SimB_of (Sim_of2 rfl rfl (S_wipe))) i h (by omega) I B
  have hx := X.1.1
  have hb := X.1.2.1
  refine lv_aload_n hx hb dL_law_822 rfl (lv_at hl 2 rfl) ?_
  refine law_call (y := 68) (i := 89) (k := 0) (as := []) (rest := []) X (by decide) rfl rfl rfl hl.1 (by simp [Value.category]) rfl dL_law_823 e1 hP hS (fun H locs hP hS => ?_) hfit
  refine lv_aload_n hx hb dL_law_826 rfl (lv_at hl 1 rfl) ?_
  refine law_call (y := 117) (i := 93) (k := 600) (as := []) (rest := [.int r]) X (by decide) rfl rfl rfl hl.1 (by simp [Value.category]) rfl dL_law_827 e2 hP hS (fun H locs hP hS => ?_) hfit
  refine lv_icmp_eq (tgt := 1194) hx hb dL_law_830 (by decide) (fun _ => kk h2 H locs I2 B2 hP hS) (fun z => absurd rfl z)
theorem law_19 (X : LX p e s m below meth c l b L xs D cA ad adV) (hi : 7 * i + 7 ≤ L) (hL : L ≤ 3584) (I : Inv i h) (B : Bo h) (hP : va_P D vwCl (wl cA ad h) H) (hS : va_S (AS s.heap.size) s.heap H locs) (hfit : cells ≤ 600000 ∧ slots ≤ 7302250) (hl : lv_has ls 4 [(3, .int (nI (7 * i))), (2, .ref (ad 600)), (1, .ref (ad 0)), (0, .ref b)])
    (kk : ∀ (h2 : Hp) (H1 : Heap) (locs1 : List Loc), Inv (i + 1) h2 → Bo h2 → va_P D vwCl (wl cA ad h2) H1 → va_S (AS s.heap.size) s.heap H1 locs1 → WL p l e s m below meth c b H1 locs1 cells slots (F0 m 1194 ls [])) : WL p l e s m below meth c b H locs cells slots (F0 m 835 ls []) := by
  obtain ⟨r, h1, h2, e1, e2, I2, B2⟩ := (SimB_of (Sim_of2 rfl rfl (S_rule (sx xs i 1) (sx xs i 2)))) i h (by omega) I B
  have hx := X.1.1
  have hb := X.1.2.1
  refine lv_aload_n hx hb dL_law_835 rfl (lv_at hl 2 rfl) ?_
  refine lv_aload_n hx hb dL_law_836 rfl (lv_at hl 3 rfl) ?_
  refine lv_iload_n hx hb dL_law_837 rfl (lv_at hl 0 rfl) ?_
  refine lv_iconst (v := 1) hx hb dL_law_838 (by decide) ?_
  refine lv_iadd hx hb dL_law_839 ?_
  refine law_ld X hi hL 1 (by decide) (by decide) hS dL_law_840 ?_
  refine lv_aload_n hx hb dL_law_841 rfl (lv_at hl 3 rfl) ?_
  refine lv_iload_n hx hb dL_law_842 rfl (lv_at hl 0 rfl) ?_
  refine lv_iconst (v := 2) hx hb dL_law_843 (by decide) ?_
  refine lv_iadd hx hb dL_law_844 ?_
  refine law_ld X hi hL 2 (by decide) (by decide) hS dL_law_845 ?_
  refine law_call (y := 69) (i := 94) (k := 0) (as := [.int (sx xs i 1), .int (sx xs i 2)]) (rest := []) X (by decide) rfl rfl rfl hl.1 (by simp [Value.category]) rfl dL_law_846 e1 hP hS (fun H locs hP hS => ?_) hfit
  refine lv_aload_n hx hb dL_law_849 rfl (lv_at hl 1 rfl) ?_
  refine lv_aload_n hx hb dL_law_850 rfl (lv_at hl 3 rfl) ?_
  refine lv_iload_n hx hb dL_law_851 rfl (lv_at hl 0 rfl) ?_
  refine lv_iconst (v := 1) hx hb dL_law_852 (by decide) ?_
  refine lv_iadd hx hb dL_law_853 ?_
  refine law_ld X hi hL 1 (by decide) (by decide) hS dL_law_854 ?_
  refine lv_aload_n hx hb dL_law_855 rfl (lv_at hl 3 rfl) ?_
  refine lv_iload_n hx hb dL_law_856 rfl (lv_at hl 0 rfl) ?_
  refine lv_iconst (v := 2) hx hb dL_law_857 (by decide) ?_
  refine lv_iadd hx hb dL_law_858 ?_
  refine law_ld X hi hL 2 (by decide) (by decide) hS dL_law_859 ?_
  refine law_call (y := 118) (i := 97) (k := 600) (as := [.int (sx xs i 1), .int (sx xs i 2)]) (rest := [.int r]) X (by decide) rfl rfl rfl hl.1 (by simp [Value.category]) rfl dL_law_860 e2 hP hS (fun H locs hP hS => ?_) hfit
  refine lv_icmp_eq (tgt := 1194) hx hb dL_law_863 (by decide) (fun _ => kk h2 H locs I2 B2 hP hS) (fun z => absurd rfl z)
theorem law_20 (X : LX p e s m below meth c l b L xs D cA ad adV) (hi : 7 * i + 7 ≤ L) (hL : L ≤ 3584) (I : Inv i h) (B : Bo h) (hP : va_P D vwCl (wl cA ad h) H) (hS : va_S (AS s.heap.size) s.heap H locs) (hfit : cells ≤ 600000 ∧ slots ≤ 7302250) (hl : lv_has ls 4 [(3, .int (nI (7 * i))), (2, .ref (ad 600)), (1, .ref (ad 0)), (0, .ref b)])
    (kk : ∀ (h2 : Hp) (H1 : Heap) (locs1 : List Loc), Inv (i + 1) h2 → Bo h2 → va_P D vwCl (wl cA ad h2) H1 → va_S (AS s.heap.size) s.heap H1 locs1 → WL p l e s m below meth c b H1 locs1 cells slots (F0 m 1194 ls [])) : WL p l e s m below meth c b H locs cells slots (F0 m 868 ls []) := by
  obtain ⟨r, h1, h2, e1, e2, I2, B2⟩ := (SimB_of (Sim_of2 rfl rfl (S_run (sx xs i 1)))) i h (by omega) I B
  have hx := X.1.1
  have hb := X.1.2.1
  refine lv_aload_n hx hb dL_law_868 rfl (lv_at hl 2 rfl) ?_
  refine lv_aload_n hx hb dL_law_869 rfl (lv_at hl 3 rfl) ?_
  refine lv_iload_n hx hb dL_law_870 rfl (lv_at hl 0 rfl) ?_
  refine lv_iconst (v := 1) hx hb dL_law_871 (by decide) ?_
  refine lv_iadd hx hb dL_law_872 ?_
  refine law_ld X hi hL 1 (by decide) (by decide) hS dL_law_873 ?_
  refine law_call (y := 70) (i := 98) (k := 0) (as := [.int (sx xs i 1)]) (rest := []) X (by decide) rfl rfl rfl hl.1 (by simp [Value.category]) rfl dL_law_874 e1 hP hS (fun H locs hP hS => ?_) hfit
  refine lv_aload_n hx hb dL_law_877 rfl (lv_at hl 1 rfl) ?_
  refine lv_aload_n hx hb dL_law_878 rfl (lv_at hl 3 rfl) ?_
  refine lv_iload_n hx hb dL_law_879 rfl (lv_at hl 0 rfl) ?_
  refine lv_iconst (v := 1) hx hb dL_law_880 (by decide) ?_
  refine lv_iadd hx hb dL_law_881 ?_
  refine law_ld X hi hL 1 (by decide) (by decide) hS dL_law_882 ?_
  refine law_call (y := 124) (i := 101) (k := 600) (as := [.int (sx xs i 1)]) (rest := [.int r]) X (by decide) rfl rfl rfl hl.1 (by simp [Value.category]) rfl dL_law_883 e2 hP hS (fun H locs hP hS => ?_) hfit
  refine lv_icmp_eq (tgt := 1194) hx hb dL_law_886 (by decide) (fun _ => kk h2 H locs I2 B2 hP hS) (fun z => absurd rfl z)
theorem law_21 (X : LX p e s m below meth c l b L xs D cA ad adV) (hi : 7 * i + 7 ≤ L) (hL : L ≤ 3584) (I : Inv i h) (B : Bo h) (hP : va_P D vwCl (wl cA ad h) H) (hS : va_S (AS s.heap.size) s.heap H locs) (hfit : cells ≤ 600000 ∧ slots ≤ 7302250) (hl : lv_has ls 4 [(3, .int (nI (7 * i))), (2, .ref (ad 600)), (1, .ref (ad 0)), (0, .ref b)])
    (kk : ∀ (h2 : Hp) (H1 : Heap) (locs1 : List Loc), Inv (i + 1) h2 → Bo h2 → va_P D vwCl (wl cA ad h2) H1 → va_S (AS s.heap.size) s.heap H1 locs1 → WL p l e s m below meth c b H1 locs1 cells slots (F0 m 1194 ls [])) : WL p l e s m below meth c b H locs cells slots (F0 m 891 ls []) := by
  obtain ⟨r, h1, h2, e1, e2, I2, B2⟩ := (SimB_of (Sim_of2 rfl rfl (S_sell (sx xs i 1)))) i h (by omega) I B
  have hx := X.1.1
  have hb := X.1.2.1
  refine lv_aload_n hx hb dL_law_891 rfl (lv_at hl 2 rfl) ?_
  refine lv_aload_n hx hb dL_law_892 rfl (lv_at hl 3 rfl) ?_
  refine lv_iload_n hx hb dL_law_893 rfl (lv_at hl 0 rfl) ?_
  refine lv_iconst (v := 1) hx hb dL_law_894 (by decide) ?_
  refine lv_iadd hx hb dL_law_895 ?_
  refine law_ld X hi hL 1 (by decide) (by decide) hS dL_law_896 ?_
  refine law_call (y := 77) (i := 102) (k := 0) (as := [.int (sx xs i 1)]) (rest := []) X (by decide) rfl rfl rfl hl.1 (by simp [Value.category]) rfl dL_law_897 e1 hP hS (fun H locs hP hS => ?_) hfit
  refine lv_aload_n hx hb dL_law_900 rfl (lv_at hl 1 rfl) ?_
  refine lv_aload_n hx hb dL_law_901 rfl (lv_at hl 3 rfl) ?_
  refine lv_iload_n hx hb dL_law_902 rfl (lv_at hl 0 rfl) ?_
  refine lv_iconst (v := 1) hx hb dL_law_903 (by decide) ?_
  refine lv_iadd hx hb dL_law_904 ?_
  refine law_ld X hi hL 1 (by decide) (by decide) hS dL_law_905 ?_
  refine law_call (y := 132) (i := 105) (k := 600) (as := [.int (sx xs i 1)]) (rest := [.int r]) X (by decide) rfl rfl rfl hl.1 (by simp [Value.category]) rfl dL_law_906 e2 hP hS (fun H locs hP hS => ?_) hfit
  refine lv_icmp_eq (tgt := 1194) hx hb dL_law_909 (by decide) (fun _ => kk h2 H locs I2 B2 hP hS) (fun z => absurd rfl z)
theorem law_22 (X : LX p e s m below meth c l b L xs D cA ad adV) (hi : 7 * i + 7 ≤ L) (hL : L ≤ 3584) (I : Inv i h) (B : Bo h) (hP : va_P D vwCl (wl cA ad h) H) (hS : va_S (AS s.heap.size) s.heap H locs) (hfit : cells ≤ 600000 ∧ slots ≤ 7302250) (hl : lv_has ls 4 [(3, .int (nI (7 * i))), (2, .ref (ad 600)), (1, .ref (ad 0)), (0, .ref b)])
    (kk : ∀ (h2 : Hp) (H1 : Heap) (locs1 : List Loc), Inv (i + 1) h2 → Bo h2 → va_P D vwCl (wl cA ad h2) H1 → va_S (AS s.heap.size) s.heap H1 locs1 → WL p l e s m below meth c b H1 locs1 cells slots (F0 m 1194 ls [])) : WL p l e s m below meth c b H locs cells slots (F0 m 914 ls []) := by
  obtain ⟨r, h1, h2, e1, e2, I2, B2⟩ := (SimB_of2 rfl rfl (S_worth (sx xs i 1) (sx xs i 2))) i h (by omega) I B
  have hx := X.1.1
  have hb := X.1.2.1
  refine lv_aload_n hx hb dL_law_914 rfl (lv_at hl 2 rfl) ?_
  refine lv_aload_n hx hb dL_law_915 rfl (lv_at hl 3 rfl) ?_
  refine lv_iload_n hx hb dL_law_916 rfl (lv_at hl 0 rfl) ?_
  refine lv_iconst (v := 1) hx hb dL_law_917 (by decide) ?_
  refine lv_iadd hx hb dL_law_918 ?_
  refine law_ld X hi hL 1 (by decide) (by decide) hS dL_law_919 ?_
  refine lv_aload_n hx hb dL_law_920 rfl (lv_at hl 3 rfl) ?_
  refine lv_iload_n hx hb dL_law_921 rfl (lv_at hl 0 rfl) ?_
  refine lv_iconst (v := 2) hx hb dL_law_922 (by decide) ?_
  refine lv_iadd hx hb dL_law_923 ?_
  refine law_ld X hi hL 2 (by decide) (by decide) hS dL_law_924 ?_
  refine law_call (y := 78) (i := 106) (k := 0) (as := [.int (sx xs i 1), .int (sx xs i 2)]) (rest := []) X (by decide) rfl rfl rfl hl.1 (by simp [Value.category]) rfl dL_law_925 e1 hP hS (fun H locs hP hS => ?_) hfit
  refine lv_aload_n hx hb dL_law_928 rfl (lv_at hl 1 rfl) ?_
  refine lv_aload_n hx hb dL_law_929 rfl (lv_at hl 3 rfl) ?_
  refine lv_iload_n hx hb dL_law_930 rfl (lv_at hl 0 rfl) ?_
  refine lv_iconst (v := 1) hx hb dL_law_931 (by decide) ?_
  refine lv_iadd hx hb dL_law_932 ?_
  refine law_ld X hi hL 1 (by decide) (by decide) hS dL_law_933 ?_
  refine lv_aload_n hx hb dL_law_934 rfl (lv_at hl 3 rfl) ?_
  refine lv_iload_n hx hb dL_law_935 rfl (lv_at hl 0 rfl) ?_
  refine lv_iconst (v := 2) hx hb dL_law_936 (by decide) ?_
  refine lv_iadd hx hb dL_law_937 ?_
  refine law_ld X hi hL 2 (by decide) (by decide) hS dL_law_938 ?_
  refine law_call (y := 135) (i := 109) (k := 600) (as := [.int (sx xs i 1), .int (sx xs i 2)]) (rest := [.int r]) X (by decide) rfl rfl rfl hl.1 (by simp [Value.category]) rfl dL_law_939 e2 hP hS (fun H locs hP hS => ?_) hfit
  refine lv_icmp_eq (tgt := 1194) hx hb dL_law_942 (by decide) (fun _ => kk h2 H locs I2 B2 hP hS) (fun z => absurd rfl z)
theorem law_23 (X : LX p e s m below meth c l b L xs D cA ad adV) (hi : 7 * i + 7 ≤ L) (hL : L ≤ 3584) (I : Inv i h) (B : Bo h) (hP : va_P D vwCl (wl cA ad h) H) (hS : va_S (AS s.heap.size) s.heap H locs) (hfit : cells ≤ 600000 ∧ slots ≤ 7302250) (hl : lv_has ls 4 [(3, .int (nI (7 * i))), (2, .ref (ad 600)), (1, .ref (ad 0)), (0, .ref b)])
    (kk : ∀ (h2 : Hp) (H1 : Heap) (locs1 : List Loc), Inv (i + 1) h2 → Bo h2 → va_P D vwCl (wl cA ad h2) H1 → va_S (AS s.heap.size) s.heap H1 locs1 → WL p l e s m below meth c b H1 locs1 cells slots (F0 m 1194 ls [])) : WL p l e s m below meth c b H locs cells slots (F0 m 947 ls []) := by
  obtain ⟨r, h1, h2, e1, e2, I2, B2⟩ := (SimB_of2 rfl rfl (S_best (sx xs i 1))) i h (by omega) I B
  have hx := X.1.1
  have hb := X.1.2.1
  refine lv_aload_n hx hb dL_law_947 rfl (lv_at hl 2 rfl) ?_
  refine lv_aload_n hx hb dL_law_948 rfl (lv_at hl 3 rfl) ?_
  refine lv_iload_n hx hb dL_law_949 rfl (lv_at hl 0 rfl) ?_
  refine lv_iconst (v := 1) hx hb dL_law_950 (by decide) ?_
  refine lv_iadd hx hb dL_law_951 ?_
  refine law_ld X hi hL 1 (by decide) (by decide) hS dL_law_952 ?_
  refine law_call (y := 81) (i := 110) (k := 0) (as := [.int (sx xs i 1)]) (rest := []) X (by decide) rfl rfl rfl hl.1 (by simp [Value.category]) rfl dL_law_953 e1 hP hS (fun H locs hP hS => ?_) hfit
  refine lv_aload_n hx hb dL_law_956 rfl (lv_at hl 1 rfl) ?_
  refine lv_aload_n hx hb dL_law_957 rfl (lv_at hl 3 rfl) ?_
  refine lv_iload_n hx hb dL_law_958 rfl (lv_at hl 0 rfl) ?_
  refine lv_iconst (v := 1) hx hb dL_law_959 (by decide) ?_
  refine lv_iadd hx hb dL_law_960 ?_
  refine law_ld X hi hL 1 (by decide) (by decide) hS dL_law_961 ?_
  refine law_call (y := 138) (i := 113) (k := 600) (as := [.int (sx xs i 1)]) (rest := [.int r]) X (by decide) rfl rfl rfl hl.1 (by simp [Value.category]) rfl dL_law_962 e2 hP hS (fun H locs hP hS => ?_) hfit
  refine lv_icmp_eq (tgt := 1194) hx hb dL_law_965 (by decide) (fun _ => kk h2 H locs I2 B2 hP hS) (fun z => absurd rfl z)
theorem law_24 (X : LX p e s m below meth c l b L xs D cA ad adV) (hi : 7 * i + 7 ≤ L) (hL : L ≤ 3584) (I : Inv i h) (B : Bo h) (hP : va_P D vwCl (wl cA ad h) H) (hS : va_S (AS s.heap.size) s.heap H locs) (hfit : cells ≤ 600000 ∧ slots ≤ 7302250) (hl : lv_has ls 4 [(3, .int (nI (7 * i))), (2, .ref (ad 600)), (1, .ref (ad 0)), (0, .ref b)])
    (kk : ∀ (h2 : Hp) (H1 : Heap) (locs1 : List Loc), Inv (i + 1) h2 → Bo h2 → va_P D vwCl (wl cA ad h2) H1 → va_S (AS s.heap.size) s.heap H1 locs1 → WL p l e s m below meth c b H1 locs1 cells slots (F0 m 1194 ls [])) : WL p l e s m below meth c b H locs cells slots (F0 m 970 ls []) := by
  obtain ⟨r, h1, h2, e1, e2, I2, B2⟩ := (SimB_of (S_claim (sx xs i 1) (sx xs i 2))) i h (by omega) I B
  have hx := X.1.1
  have hb := X.1.2.1
  refine lv_aload_n hx hb dL_law_970 rfl (lv_at hl 2 rfl) ?_
  refine lv_aload_n hx hb dL_law_971 rfl (lv_at hl 3 rfl) ?_
  refine lv_iload_n hx hb dL_law_972 rfl (lv_at hl 0 rfl) ?_
  refine lv_iconst (v := 1) hx hb dL_law_973 (by decide) ?_
  refine lv_iadd hx hb dL_law_974 ?_
  refine law_ld X hi hL 1 (by decide) (by decide) hS dL_law_975 ?_
  refine lv_aload_n hx hb dL_law_976 rfl (lv_at hl 3 rfl) ?_
  refine lv_iload_n hx hb dL_law_977 rfl (lv_at hl 0 rfl) ?_
  refine lv_iconst (v := 2) hx hb dL_law_978 (by decide) ?_
  refine lv_iadd hx hb dL_law_979 ?_
  refine law_ld X hi hL 2 (by decide) (by decide) hS dL_law_980 ?_
  refine law_call (y := 82) (i := 114) (k := 0) (as := [.int (sx xs i 1), .int (sx xs i 2)]) (rest := []) X (by decide) rfl rfl rfl hl.1 (by simp [Value.category]) rfl dL_law_981 e1 hP hS (fun H locs hP hS => ?_) hfit
  refine lv_aload_n hx hb dL_law_984 rfl (lv_at hl 1 rfl) ?_
  refine lv_aload_n hx hb dL_law_985 rfl (lv_at hl 3 rfl) ?_
  refine lv_iload_n hx hb dL_law_986 rfl (lv_at hl 0 rfl) ?_
  refine lv_iconst (v := 1) hx hb dL_law_987 (by decide) ?_
  refine lv_iadd hx hb dL_law_988 ?_
  refine law_ld X hi hL 1 (by decide) (by decide) hS dL_law_989 ?_
  refine lv_aload_n hx hb dL_law_990 rfl (lv_at hl 3 rfl) ?_
  refine lv_iload_n hx hb dL_law_991 rfl (lv_at hl 0 rfl) ?_
  refine lv_iconst (v := 2) hx hb dL_law_992 (by decide) ?_
  refine lv_iadd hx hb dL_law_993 ?_
  refine law_ld X hi hL 2 (by decide) (by decide) hS dL_law_994 ?_
  refine law_call (y := 139) (i := 117) (k := 600) (as := [.int (sx xs i 1), .int (sx xs i 2)]) (rest := [.int r]) X (by decide) rfl rfl rfl hl.1 (by simp [Value.category]) rfl dL_law_995 e2 hP hS (fun H locs hP hS => ?_) hfit
  refine lv_icmp_eq (tgt := 1194) hx hb dL_law_998 (by decide) (fun _ => kk h2 H locs I2 B2 hP hS) (fun z => absurd rfl z)
theorem law_25 (X : LX p e s m below meth c l b L xs D cA ad adV) (hi : 7 * i + 7 ≤ L) (hL : L ≤ 3584) (I : Inv i h) (B : Bo h) (hP : va_P D vwCl (wl cA ad h) H) (hS : va_S (AS s.heap.size) s.heap H locs) (hfit : cells ≤ 600000 ∧ slots ≤ 7302250) (hl : lv_has ls 4 [(3, .int (nI (7 * i))), (2, .ref (ad 600)), (1, .ref (ad 0)), (0, .ref b)])
    (kk : ∀ (h2 : Hp) (H1 : Heap) (locs1 : List Loc), Inv (i + 1) h2 → Bo h2 → va_P D vwCl (wl cA ad h2) H1 → va_S (AS s.heap.size) s.heap H1 locs1 → WL p l e s m below meth c b H1 locs1 cells slots (F0 m 1194 ls [])) : WL p l e s m below meth c b H locs cells slots (F0 m 1003 ls []) := by
  obtain ⟨r, h1, h2, e1, e2, I2, B2⟩ := (SimB_of (S_count (sx xs i 1))) i h (by omega) I B
  have hx := X.1.1
  have hb := X.1.2.1
  refine lv_aload_n hx hb dL_law_1003 rfl (lv_at hl 2 rfl) ?_
  refine lv_aload_n hx hb dL_law_1004 rfl (lv_at hl 3 rfl) ?_
  refine lv_iload_n hx hb dL_law_1005 rfl (lv_at hl 0 rfl) ?_
  refine lv_iconst (v := 1) hx hb dL_law_1006 (by decide) ?_
  refine lv_iadd hx hb dL_law_1007 ?_
  refine law_ld X hi hL 1 (by decide) (by decide) hS dL_law_1008 ?_
  refine law_call (y := 83) (i := 118) (k := 0) (as := [.int (sx xs i 1)]) (rest := []) X (by decide) rfl rfl rfl hl.1 (by simp [Value.category]) rfl dL_law_1009 e1 hP hS (fun H locs hP hS => ?_) hfit
  refine lv_aload_n hx hb dL_law_1012 rfl (lv_at hl 1 rfl) ?_
  refine lv_aload_n hx hb dL_law_1013 rfl (lv_at hl 3 rfl) ?_
  refine lv_iload_n hx hb dL_law_1014 rfl (lv_at hl 0 rfl) ?_
  refine lv_iconst (v := 1) hx hb dL_law_1015 (by decide) ?_
  refine lv_iadd hx hb dL_law_1016 ?_
  refine law_ld X hi hL 1 (by decide) (by decide) hS dL_law_1017 ?_
  refine law_call (y := 140) (i := 121) (k := 600) (as := [.int (sx xs i 1)]) (rest := [.int r]) X (by decide) rfl rfl rfl hl.1 (by simp [Value.category]) rfl dL_law_1018 e2 hP hS (fun H locs hP hS => ?_) hfit
  refine lv_icmp_eq (tgt := 1194) hx hb dL_law_1021 (by decide) (fun _ => kk h2 H locs I2 B2 hP hS) (fun z => absurd rfl z)
theorem law_26 (X : LX p e s m below meth c l b L xs D cA ad adV) (hi : 7 * i + 7 ≤ L) (hL : L ≤ 3584) (I : Inv i h) (B : Bo h) (hP : va_P D vwCl (wl cA ad h) H) (hS : va_S (AS s.heap.size) s.heap H locs) (hfit : cells ≤ 600000 ∧ slots ≤ 7302250) (hl : lv_has ls 4 [(3, .int (nI (7 * i))), (2, .ref (ad 600)), (1, .ref (ad 0)), (0, .ref b)])
    (kk : ∀ (h2 : Hp) (H1 : Heap) (locs1 : List Loc), Inv (i + 1) h2 → Bo h2 → va_P D vwCl (wl cA ad h2) H1 → va_S (AS s.heap.size) s.heap H1 locs1 → WL p l e s m below meth c b H1 locs1 cells slots (F0 m 1194 ls [])) : WL p l e s m below meth c b H locs cells slots (F0 m 1026 ls []) := by
  obtain ⟨r, h1, h2, e1, e2, I2, B2⟩ := (SimB_of (S_at (sx xs i 1) (sx xs i 2))) i h (by omega) I B
  have hx := X.1.1
  have hb := X.1.2.1
  refine lv_aload_n hx hb dL_law_1026 rfl (lv_at hl 2 rfl) ?_
  refine lv_aload_n hx hb dL_law_1027 rfl (lv_at hl 3 rfl) ?_
  refine lv_iload_n hx hb dL_law_1028 rfl (lv_at hl 0 rfl) ?_
  refine lv_iconst (v := 1) hx hb dL_law_1029 (by decide) ?_
  refine lv_iadd hx hb dL_law_1030 ?_
  refine law_ld X hi hL 1 (by decide) (by decide) hS dL_law_1031 ?_
  refine lv_aload_n hx hb dL_law_1032 rfl (lv_at hl 3 rfl) ?_
  refine lv_iload_n hx hb dL_law_1033 rfl (lv_at hl 0 rfl) ?_
  refine lv_iconst (v := 2) hx hb dL_law_1034 (by decide) ?_
  refine lv_iadd hx hb dL_law_1035 ?_
  refine law_ld X hi hL 2 (by decide) (by decide) hS dL_law_1036 ?_
  refine law_call (y := 84) (i := 122) (k := 0) (as := [.int (sx xs i 1), .int (sx xs i 2)]) (rest := []) X (by decide) rfl rfl rfl hl.1 (by simp [Value.category]) rfl dL_law_1037 e1 hP hS (fun H locs hP hS => ?_) hfit
  refine lv_aload_n hx hb dL_law_1040 rfl (lv_at hl 1 rfl) ?_
  refine lv_aload_n hx hb dL_law_1041 rfl (lv_at hl 3 rfl) ?_
  refine lv_iload_n hx hb dL_law_1042 rfl (lv_at hl 0 rfl) ?_
  refine lv_iconst (v := 1) hx hb dL_law_1043 (by decide) ?_
  refine lv_iadd hx hb dL_law_1044 ?_
  refine law_ld X hi hL 1 (by decide) (by decide) hS dL_law_1045 ?_
  refine lv_aload_n hx hb dL_law_1046 rfl (lv_at hl 3 rfl) ?_
  refine lv_iload_n hx hb dL_law_1047 rfl (lv_at hl 0 rfl) ?_
  refine lv_iconst (v := 2) hx hb dL_law_1048 (by decide) ?_
  refine lv_iadd hx hb dL_law_1049 ?_
  refine law_ld X hi hL 2 (by decide) (by decide) hS dL_law_1050 ?_
  refine law_call (y := 141) (i := 125) (k := 600) (as := [.int (sx xs i 1), .int (sx xs i 2)]) (rest := [.int r]) X (by decide) rfl rfl rfl hl.1 (by simp [Value.category]) rfl dL_law_1051 e2 hP hS (fun H locs hP hS => ?_) hfit
  refine lv_icmp_eq (tgt := 1194) hx hb dL_law_1054 (by decide) (fun _ => kk h2 H locs I2 B2 hP hS) (fun z => absurd rfl z)
theorem law_27 (X : LX p e s m below meth c l b L xs D cA ad adV) (hi : 7 * i + 7 ≤ L) (hL : L ≤ 3584) (I : Inv i h) (B : Bo h) (hP : va_P D vwCl (wl cA ad h) H) (hS : va_S (AS s.heap.size) s.heap H locs) (hfit : cells ≤ 600000 ∧ slots ≤ 7302250) (hl : lv_has ls 4 [(3, .int (nI (7 * i))), (2, .ref (ad 600)), (1, .ref (ad 0)), (0, .ref b)])
    (kk : ∀ (h2 : Hp) (H1 : Heap) (locs1 : List Loc), Inv (i + 1) h2 → Bo h2 → va_P D vwCl (wl cA ad h2) H1 → va_S (AS s.heap.size) s.heap H1 locs1 → WL p l e s m below meth c b H1 locs1 cells slots (F0 m 1194 ls [])) : WL p l e s m below meth c b H locs cells slots (F0 m 1059 ls []) := by
  obtain ⟨r, h1, h2, e1, e2, I2, B2⟩ := (SimB_of (Sim_of2 rfl rfl (S_tell (sx xs i 1) (sx xs i 2)))) i h (by omega) I B
  have hx := X.1.1
  have hb := X.1.2.1
  refine lv_aload_n hx hb dL_law_1059 rfl (lv_at hl 2 rfl) ?_
  refine lv_aload_n hx hb dL_law_1060 rfl (lv_at hl 3 rfl) ?_
  refine lv_iload_n hx hb dL_law_1061 rfl (lv_at hl 0 rfl) ?_
  refine lv_iconst (v := 1) hx hb dL_law_1062 (by decide) ?_
  refine lv_iadd hx hb dL_law_1063 ?_
  refine law_ld X hi hL 1 (by decide) (by decide) hS dL_law_1064 ?_
  refine lv_aload_n hx hb dL_law_1065 rfl (lv_at hl 3 rfl) ?_
  refine lv_iload_n hx hb dL_law_1066 rfl (lv_at hl 0 rfl) ?_
  refine lv_iconst (v := 2) hx hb dL_law_1067 (by decide) ?_
  refine lv_iadd hx hb dL_law_1068 ?_
  refine law_ld X hi hL 2 (by decide) (by decide) hS dL_law_1069 ?_
  refine law_call (y := 85) (i := 126) (k := 0) (as := [.int (sx xs i 1), .int (sx xs i 2)]) (rest := []) X (by decide) rfl rfl rfl hl.1 (by simp [Value.category]) rfl dL_law_1070 e1 hP hS (fun H locs hP hS => ?_) hfit
  refine lv_aload_n hx hb dL_law_1073 rfl (lv_at hl 1 rfl) ?_
  refine lv_aload_n hx hb dL_law_1074 rfl (lv_at hl 3 rfl) ?_
  refine lv_iload_n hx hb dL_law_1075 rfl (lv_at hl 0 rfl) ?_
  refine lv_iconst (v := 1) hx hb dL_law_1076 (by decide) ?_
  refine lv_iadd hx hb dL_law_1077 ?_
  refine law_ld X hi hL 1 (by decide) (by decide) hS dL_law_1078 ?_
  refine lv_aload_n hx hb dL_law_1079 rfl (lv_at hl 3 rfl) ?_
  refine lv_iload_n hx hb dL_law_1080 rfl (lv_at hl 0 rfl) ?_
  refine lv_iconst (v := 2) hx hb dL_law_1081 (by decide) ?_
  refine lv_iadd hx hb dL_law_1082 ?_
  refine law_ld X hi hL 2 (by decide) (by decide) hS dL_law_1083 ?_
  refine law_call (y := 142) (i := 129) (k := 600) (as := [.int (sx xs i 1), .int (sx xs i 2)]) (rest := [.int r]) X (by decide) rfl rfl rfl hl.1 (by simp [Value.category]) rfl dL_law_1084 e2 hP hS (fun H locs hP hS => ?_) hfit
  refine lv_icmp_eq (tgt := 1194) hx hb dL_law_1087 (by decide) (fun _ => kk h2 H locs I2 B2 hP hS) (fun z => absurd rfl z)
theorem law_28 (X : LX p e s m below meth c l b L xs D cA ad adV) (hi : 7 * i + 7 ≤ L) (hL : L ≤ 3584) (I : Inv i h) (B : Bo h) (hP : va_P D vwCl (wl cA ad h) H) (hS : va_S (AS s.heap.size) s.heap H locs) (hfit : cells ≤ 600000 ∧ slots ≤ 7302250) (hl : lv_has ls 4 [(3, .int (nI (7 * i))), (2, .ref (ad 600)), (1, .ref (ad 0)), (0, .ref b)])
    (kk : ∀ (h2 : Hp) (H1 : Heap) (locs1 : List Loc), Inv (i + 1) h2 → Bo h2 → va_P D vwCl (wl cA ad h2) H1 → va_S (AS s.heap.size) s.heap H1 locs1 → WL p l e s m below meth c b H1 locs1 cells slots (F0 m 1194 ls [])) : WL p l e s m below meth c b H locs cells slots (F0 m 1092 ls []) := by
  obtain ⟨r, h1, h2, e1, e2, I2, B2⟩ := (SimB_of (Sim_of2 rfl rfl (S_tear))) i h (by omega) I B
  have hx := X.1.1
  have hb := X.1.2.1
  refine lv_aload_n hx hb dL_law_1092 rfl (lv_at hl 2 rfl) ?_
  refine law_call (y := 86) (i := 130) (k := 0) (as := []) (rest := []) X (by decide) rfl rfl rfl hl.1 (by simp [Value.category]) rfl dL_law_1093 e1 hP hS (fun H locs hP hS => ?_) hfit
  refine lv_aload_n hx hb dL_law_1096 rfl (lv_at hl 1 rfl) ?_
  refine law_call (y := 143) (i := 133) (k := 600) (as := []) (rest := [.int r]) X (by decide) rfl rfl rfl hl.1 (by simp [Value.category]) rfl dL_law_1097 e2 hP hS (fun H locs hP hS => ?_) hfit
  refine lv_icmp_eq (tgt := 1194) hx hb dL_law_1100 (by decide) (fun _ => kk h2 H locs I2 B2 hP hS) (fun z => absurd rfl z)
theorem law_29 (X : LX p e s m below meth c l b L xs D cA ad adV) (hi : 7 * i + 7 ≤ L) (hL : L ≤ 3584) (I : Inv i h) (B : Bo h) (hP : va_P D vwCl (wl cA ad h) H) (hS : va_S (AS s.heap.size) s.heap H locs) (hfit : cells ≤ 600000 ∧ slots ≤ 7302250) (hl : lv_has ls 4 [(3, .int (nI (7 * i))), (2, .ref (ad 600)), (1, .ref (ad 0)), (0, .ref b)])
    (kk : ∀ (h2 : Hp) (H1 : Heap) (locs1 : List Loc), Inv (i + 1) h2 → Bo h2 → va_P D vwCl (wl cA ad h2) H1 → va_S (AS s.heap.size) s.heap H1 locs1 → WL p l e s m below meth c b H1 locs1 cells slots (F0 m 1194 ls [])) : WL p l e s m below meth c b H locs cells slots (F0 m 1105 ls []) := by
  obtain ⟨r, h1, h2, e1, e2, I2, B2⟩ := (SimB_of (Sim_of2 rfl rfl (S_row (sx xs i 1)))) i h (by omega) I B
  have hx := X.1.1
  have hb := X.1.2.1
  refine lv_aload_n hx hb dL_law_1105 rfl (lv_at hl 2 rfl) ?_
  refine lv_aload_n hx hb dL_law_1106 rfl (lv_at hl 3 rfl) ?_
  refine lv_iload_n hx hb dL_law_1107 rfl (lv_at hl 0 rfl) ?_
  refine lv_iconst (v := 1) hx hb dL_law_1108 (by decide) ?_
  refine lv_iadd hx hb dL_law_1109 ?_
  refine law_ld X hi hL 1 (by decide) (by decide) hS dL_law_1110 ?_
  refine law_call (y := 87) (i := 134) (k := 0) (as := [.int (sx xs i 1)]) (rest := []) X (by decide) rfl rfl rfl hl.1 (by simp [Value.category]) rfl dL_law_1111 e1 hP hS (fun H locs hP hS => ?_) hfit
  refine lv_aload_n hx hb dL_law_1114 rfl (lv_at hl 1 rfl) ?_
  refine lv_aload_n hx hb dL_law_1115 rfl (lv_at hl 3 rfl) ?_
  refine lv_iload_n hx hb dL_law_1116 rfl (lv_at hl 0 rfl) ?_
  refine lv_iconst (v := 1) hx hb dL_law_1117 (by decide) ?_
  refine lv_iadd hx hb dL_law_1118 ?_
  refine law_ld X hi hL 1 (by decide) (by decide) hS dL_law_1119 ?_
  refine law_call (y := 144) (i := 137) (k := 600) (as := [.int (sx xs i 1)]) (rest := [.int r]) X (by decide) rfl rfl rfl hl.1 (by simp [Value.category]) rfl dL_law_1120 e2 hP hS (fun H locs hP hS => ?_) hfit
  refine lv_icmp_eq (tgt := 1194) hx hb dL_law_1123 (by decide) (fun _ => kk h2 H locs I2 B2 hP hS) (fun z => absurd rfl z)
theorem law_30 (X : LX p e s m below meth c l b L xs D cA ad adV) (hi : 7 * i + 7 ≤ L) (hL : L ≤ 3584) (I : Inv i h) (B : Bo h) (hP : va_P D vwCl (wl cA ad h) H) (hS : va_S (AS s.heap.size) s.heap H locs) (hfit : cells ≤ 600000 ∧ slots ≤ 7302250) (hl : lv_has ls 4 [(3, .int (nI (7 * i))), (2, .ref (ad 600)), (1, .ref (ad 0)), (0, .ref b)])
    (kk : ∀ (h2 : Hp) (H1 : Heap) (locs1 : List Loc), Inv (i + 1) h2 → Bo h2 → va_P D vwCl (wl cA ad h2) H1 → va_S (AS s.heap.size) s.heap H1 locs1 → WL p l e s m below meth c b H1 locs1 cells slots (F0 m 1194 ls [])) : WL p l e s m below meth c b H locs cells slots (F0 m 1128 ls []) := by
  obtain ⟨r, h1, h2, e1, e2, I2, B2⟩ := (SimB_of (Sim_of2 rfl rfl (S_copy (sx xs i 1) (sx xs i 2) (sx xs i 3)))) i h (by omega) I B
  have hx := X.1.1
  have hb := X.1.2.1
  refine lv_aload_n hx hb dL_law_1128 rfl (lv_at hl 2 rfl) ?_
  refine lv_aload_n hx hb dL_law_1129 rfl (lv_at hl 3 rfl) ?_
  refine lv_iload_n hx hb dL_law_1130 rfl (lv_at hl 0 rfl) ?_
  refine lv_iconst (v := 1) hx hb dL_law_1131 (by decide) ?_
  refine lv_iadd hx hb dL_law_1132 ?_
  refine law_ld X hi hL 1 (by decide) (by decide) hS dL_law_1133 ?_
  refine lv_aload_n hx hb dL_law_1134 rfl (lv_at hl 3 rfl) ?_
  refine lv_iload_n hx hb dL_law_1135 rfl (lv_at hl 0 rfl) ?_
  refine lv_iconst (v := 2) hx hb dL_law_1136 (by decide) ?_
  refine lv_iadd hx hb dL_law_1137 ?_
  refine law_ld X hi hL 2 (by decide) (by decide) hS dL_law_1138 ?_
  refine lv_aload_n hx hb dL_law_1139 rfl (lv_at hl 3 rfl) ?_
  refine lv_iload_n hx hb dL_law_1140 rfl (lv_at hl 0 rfl) ?_
  refine lv_iconst (v := 3) hx hb dL_law_1141 (by decide) ?_
  refine lv_iadd hx hb dL_law_1142 ?_
  refine law_ld X hi hL 3 (by decide) (by decide) hS dL_law_1143 ?_
  refine law_call (y := 88) (i := 138) (k := 0) (as := [.int (sx xs i 1), .int (sx xs i 2), .int (sx xs i 3)]) (rest := []) X (by decide) rfl rfl rfl hl.1 (by simp [Value.category]) rfl dL_law_1144 e1 hP hS (fun H locs hP hS => ?_) hfit
  refine lv_aload_n hx hb dL_law_1147 rfl (lv_at hl 1 rfl) ?_
  refine lv_aload_n hx hb dL_law_1148 rfl (lv_at hl 3 rfl) ?_
  refine lv_iload_n hx hb dL_law_1149 rfl (lv_at hl 0 rfl) ?_
  refine lv_iconst (v := 1) hx hb dL_law_1150 (by decide) ?_
  refine lv_iadd hx hb dL_law_1151 ?_
  refine law_ld X hi hL 1 (by decide) (by decide) hS dL_law_1152 ?_
  refine lv_aload_n hx hb dL_law_1153 rfl (lv_at hl 3 rfl) ?_
  refine lv_iload_n hx hb dL_law_1154 rfl (lv_at hl 0 rfl) ?_
  refine lv_iconst (v := 2) hx hb dL_law_1155 (by decide) ?_
  refine lv_iadd hx hb dL_law_1156 ?_
  refine law_ld X hi hL 2 (by decide) (by decide) hS dL_law_1157 ?_
  refine lv_aload_n hx hb dL_law_1158 rfl (lv_at hl 3 rfl) ?_
  refine lv_iload_n hx hb dL_law_1159 rfl (lv_at hl 0 rfl) ?_
  refine lv_iconst (v := 3) hx hb dL_law_1160 (by decide) ?_
  refine lv_iadd hx hb dL_law_1161 ?_
  refine law_ld X hi hL 3 (by decide) (by decide) hS dL_law_1162 ?_
  refine law_call (y := 145) (i := 141) (k := 600) (as := [.int (sx xs i 1), .int (sx xs i 2), .int (sx xs i 3)]) (rest := [.int r]) X (by decide) rfl rfl rfl hl.1 (by simp [Value.category]) rfl dL_law_1163 e2 hP hS (fun H locs hP hS => ?_) hfit
  refine lv_icmp_eq (tgt := 1194) hx hb dL_law_1166 (by decide) (fun _ => kk h2 H locs I2 B2 hP hS) (fun z => absurd rfl z)
theorem law_31 (X : LX p e s m below meth c l b L xs D cA ad adV) (hi : 7 * i + 7 ≤ L) (hL : L ≤ 3584) (I : Inv i h) (B : Bo h) (hP : va_P D vwCl (wl cA ad h) H) (hS : va_S (AS s.heap.size) s.heap H locs) (hfit : cells ≤ 600000 ∧ slots ≤ 7302250) (hl : lv_has ls 4 [(3, .int (nI (7 * i))), (2, .ref (ad 600)), (1, .ref (ad 0)), (0, .ref b)])
    (kk : ∀ (h2 : Hp) (H1 : Heap) (locs1 : List Loc), Inv (i + 1) h2 → Bo h2 → va_P D vwCl (wl cA ad h2) H1 → va_S (AS s.heap.size) s.heap H1 locs1 → WL p l e s m below meth c b H1 locs1 cells slots (F0 m 1194 ls [])) : WL p l e s m below meth c b H locs cells slots (F0 m 1171 ls []) := by
  obtain ⟨r, h1, h2, e1, e2, I2, B2⟩ := (SimB_of (S_status (sx xs i 1))) i h (by omega) I B
  have hx := X.1.1
  have hb := X.1.2.1
  refine lv_aload_n hx hb dL_law_1171 rfl (lv_at hl 2 rfl) ?_
  refine lv_aload_n hx hb dL_law_1172 rfl (lv_at hl 3 rfl) ?_
  refine lv_iload_n hx hb dL_law_1173 rfl (lv_at hl 0 rfl) ?_
  refine lv_iconst (v := 1) hx hb dL_law_1174 (by decide) ?_
  refine lv_iadd hx hb dL_law_1175 ?_
  refine law_ld X hi hL 1 (by decide) (by decide) hS dL_law_1176 ?_
  refine law_call (y := 89) (i := 142) (k := 0) (as := [.int (sx xs i 1)]) (rest := []) X (by decide) rfl rfl rfl hl.1 (by simp [Value.category]) rfl dL_law_1177 e1 hP hS (fun H locs hP hS => ?_) hfit
  refine lv_aload_n hx hb dL_law_1180 rfl (lv_at hl 1 rfl) ?_
  refine lv_aload_n hx hb dL_law_1181 rfl (lv_at hl 3 rfl) ?_
  refine lv_iload_n hx hb dL_law_1182 rfl (lv_at hl 0 rfl) ?_
  refine lv_iconst (v := 1) hx hb dL_law_1183 (by decide) ?_
  refine lv_iadd hx hb dL_law_1184 ?_
  refine law_ld X hi hL 1 (by decide) (by decide) hS dL_law_1185 ?_
  refine law_call (y := 146) (i := 145) (k := 600) (as := [.int (sx xs i 1)]) (rest := [.int r]) X (by decide) rfl rfl rfl hl.1 (by simp [Value.category]) rfl dL_law_1186 e2 hP hS (fun H locs hP hS => ?_) hfit
  refine lv_icmp_eq (tgt := 1194) hx hb dL_law_1189 (by decide) (fun _ => kk h2 H locs I2 B2 hP hS) (fun z => absurd rfl z)
end CASES
