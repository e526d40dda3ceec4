/-! the law's cases -/
theorem lR.mono {B C : Nat} {V X M : Nat → Nat → Int32} {S : Nat → Nat → Nat → Int32} {g : Nat → Option Nat} {sl : Nat → Nat → Nat} {cn : Nat} (R : lR B V X M S g sl cn) (hC : B ≤ C) : lR C V X M S g sl cn := by
  obtain ⟨h1, h2, h3⟩ := R
  exact ⟨h1.mono hC, h2.mono hC, h3⟩
/-- what is owed from the end of a call on -/
def lw_K (p : Program) (l : Launch) (e : Env) (s : State) (m : MethodId) (below : List Frame) (meth : Method) (c : Code) (D : va_G) (cy : Nat → ClassId) (o : Nat) (f a t h x b ad : Nat → Nat) (sc i B cells slots : Nat) (Q : State → Prop) : Prop :=
  ∀ (r : Nat → Int64) (sl : Nat → Nat → Nat) (g : Nat → Option Nat) (cn : Nat) (V T X : Nat → Nat → Int32) (vb : Option Nat) (S : Nat → Nat → Nat → Int32) (M : Nat → Nat → Int32) (hh : Int64) (H : Heap) (locs : List Loc) (ls : Array Slot), lR B V X M S g sl cn → va_P D vwCl (lwW cy o f a t h x b ad r sl g cn V T X vb S M hh) H → va_D (fun q : Nat => s.heap.size ≤ q) (lwW cy o f a t h x b ad r sl g cn V T X vb S M hh) → va_S (fun q : Nat => s.heap.size ≤ q) s.heap H locs → lv_has ls 7 [(0, .ref sc), (1, .ref (f 0)), (2, .ref (b 0)), (3, .ref o), (4, .int (nI i))] → W p l e room_1 s m #[Value.ref sc] below meth c H locs cells slots Q (F0 m 1677 ls [])
section LKS
variable {p : Program} {l : Launch} {e : Env} {s : State} {m : MethodId} {below : List Frame} {meth : Method} {c : Code} {H : Heap} {locs : List Loc} {cells slots : Nat} {Q : State → Prop} {ls : Array Slot} {D : va_G} {cy : Nat → ClassId} {sc L i B o : Nat} {xs : Nat → Int32} {f a t h x b ad adK adV : Nat → Nat} {r : Nat → Int64} {sl : Nat → Nat → Nat} {g : Nat → Option Nat} {cn : Nat} {V T X M : Nat → Nat → Int32} {vb : Option Nat} {S : Nat → Nat → Nat → Int32} {hh : Int64}
set_option maxHeartbeats 4000000 in
set_option maxRecDepth 100000 in
theorem lk_addTeam (C0 : lw_At p s m meth c sc L xs) (hst : l.stackTraces = false) (hK : va_K D vwCl (fz_TY cy) s) (hE : fz_Ew (fun q : Nat => s.heap.size ≤ q) s) (hEr : fz_Er ad adK adV (fun q : Nat => s.heap.size ≤ q) s) (hNw : fz_Nw s) (hi : i + 4 < L) (hL : L ≤ 2560) (R : lR B V X M S g sl cn) (hB : B < 1990000000) (hP : va_P D vwCl (lwW cy o f a t h x b ad r sl g cn V T X vb S M hh) H) (hD : va_D (fun q : Nat => s.heap.size ≤ q) (lwW cy o f a t h x b ad r sl g cn V T X vb S M hh)) (hS : va_S (fun q : Nat => s.heap.size ≤ q) s.heap H locs) (hl : lv_has ls 7 [(0, .ref sc), (1, .ref (f 0)), (2, .ref (b 0)), (3, .ref o), (4, .int (nI i))]) (hc : cells + 2 ≤ 601024) (hs : slots + 12 ≤ 7293034) (kk : lw_K p l e s m below meth c D cy o f a t h x b ad sc i (B + 1000000) (cells + 2) (slots + 12) Q) : W p l e room_1 s m #[Value.ref sc] below meth c H locs cells slots Q (F0 m 160 ls []) := by
  obtain ⟨hx, hb, hr, hml, hown, hts0, hX, hbl, hlocks, -⟩ := C0
  have hts : ∀ w ∈ wsL_law, w.before #[Value.ref sc] s = true := fun w z9 => hts0 w (wsL_law_in w z9)
  have hown : s.vm.findClass RL = some m.cls := hown
  have hb : c.code = cL_law := hb
  have hbA : ¬ s.heap.size ≤ sc := Nat.not_le.mpr hbl
  refine lv_aload_n hx hb dL_law_160 rfl (lv_at hl 1 rfl) ?_
  refine lw_elem (k := 1) (a := 0) (b := 4) hx hb hX hbl hbA hS hl rfl rfl (by omega) hL (by decide) dL_law_161 dL_law_162 dL_law_164 dL_law_165 dL_law_166 ?_
  refine lv_aload_n hx hb dL_law_167 rfl (lv_at hl 3 rfl) ?_
  obtain ⟨F, G, r1, sl1, g1, cn1, V1, T1, X1, vb1, S1, M1, h1, h2, h3, h4, h5⟩ := tw_addTeam l hst D cy o f a t h x b ad (T := T) R hB r vb hh (xs (i + 1))
  refine lw_callW (rest := []) h1 ⟨hx, hb, hml, hown, hts⟩ (vx_cwSW 3 hts gL_law_L_addTeam rfl rfl rfl (by decide +kernel) ⟨Nat.le_of_ble_eq_true rfl, Nat.le_of_ble_eq_true rfl⟩) hK hP hD hS hE rfl hl.1 rfl (by decide) dL_law_168 ⟨by show cells + 1 ≤ 601024; omega, by show slots + 6 ≤ 7293034; omega⟩ (fun H locs hP hD hS => ?_)
  refine lv_istore (lv' := [(5, .int F), (0, .ref sc), (1, .ref (f 0)), (2, .ref (b 0)), (3, .ref o), (4, .int (nI i))]) hx hb dL_law_171 hl (by decide) rfl (fun ls hl => ?_)
  refine lv_aload_n hx hb dL_law_173 rfl (lv_at hl 3 rfl) ?_
  refine lw_elem (k := 1) (a := 1) (b := 5) hx hb hX hbl hbA hS hl rfl rfl (by omega) hL (by decide) dL_law_174 dL_law_175 dL_law_177 dL_law_178 dL_law_179 ?_
  refine lw_callM (E := fun _ => fz_T) (rest := []) (lw_mw h2) ⟨hx, hb, hml, hown, hts⟩ (cwV 1 hts gL_law_X9_addTeam rfl rfl rfl (by decide +kernel) ⟨Nat.le_of_ble_eq_true rfl, Nat.le_of_ble_eq_true rfl⟩) rfl rfl hK hP hD hS (fun _ => fz_T_bl) (fun _ _ _ _ _ => trivial) rfl hl.1 rfl (by decide) dL_law_180 ⟨by show cells + 1 + 0 ≤ 601024; omega, by show slots + 6 + 0 ≤ 7293034; omega⟩ (fun H locs hP hD hS => ?_)
  refine lw_tail ⟨hx, hb, hml, hown, hts⟩ (cwV 0 hts gL_law_X9_thrown rfl rfl rfl (by decide +kernel) ⟨Nat.le_of_ble_eq_true rfl, Nat.le_of_ble_eq_true rfl⟩) hK hP hl h4 h5 dL_law_183 dL_law_185 dL_law_186 dL_law_189 dL_law_191 dL_law_196 dL_law_198 dL_law_201 dL_law_202 dL_law_203 dL_law_204 dL_law_206 dL_law_207 dL_law_208 dL_law_213 (by decide) ⟨by show cells + 1 + 0 ≤ 601024; omega, by show slots + 6 + 0 ≤ 7293034; omega⟩ (fun ls hl => ?_)
  exact W.widen (by omega) (by omega) (kk _ _ _ _ _ _ _ _ _ _ _ _ _ _ (h3.mono (by omega)) hP hD hS hl)
set_option maxHeartbeats 4000000 in
set_option maxRecDepth 100000 in
theorem lk_freeze (C0 : lw_At p s m meth c sc L xs) (hst : l.stackTraces = false) (hK : va_K D vwCl (fz_TY cy) s) (hE : fz_Ew (fun q : Nat => s.heap.size ≤ q) s) (hEr : fz_Er ad adK adV (fun q : Nat => s.heap.size ≤ q) s) (hNw : fz_Nw s) (hi : i + 4 < L) (hL : L ≤ 2560) (R : lR B V X M S g sl cn) (hB : B < 1990000000) (hP : va_P D vwCl (lwW cy o f a t h x b ad r sl g cn V T X vb S M hh) H) (hD : va_D (fun q : Nat => s.heap.size ≤ q) (lwW cy o f a t h x b ad r sl g cn V T X vb S M hh)) (hS : va_S (fun q : Nat => s.heap.size ≤ q) s.heap H locs) (hl : lv_has ls 7 [(0, .ref sc), (1, .ref (f 0)), (2, .ref (b 0)), (3, .ref o), (4, .int (nI i))]) (hc : cells + 2 ≤ 601024) (hs : slots + 12 ≤ 7293034) (kk : lw_K p l e s m below meth c D cy o f a t h x b ad sc i (B + 1000000) (cells + 2) (slots + 12) Q) : W p l e room_1 s m #[Value.ref sc] below meth c H locs cells slots Q (F0 m 216 ls []) := by
  obtain ⟨hx, hb, hr, hml, hown, hts0, hX, hbl, hlocks, -⟩ := C0
  have hts : ∀ w ∈ wsL_law, w.before #[Value.ref sc] s = true := fun w z9 => hts0 w (wsL_law_in w z9)
  have hown : s.vm.findClass RL = some m.cls := hown
  have hb : c.code = cL_law := hb
  have hbA : ¬ s.heap.size ≤ sc := Nat.not_le.mpr hbl
  refine lv_aload_n hx hb dL_law_216 rfl (lv_at hl 1 rfl) ?_
  refine lw_elem (k := 1) (a := 0) (b := 4) hx hb hX hbl hbA hS hl rfl rfl (by omega) hL (by decide) dL_law_217 dL_law_218 dL_law_220 dL_law_221 dL_law_222 ?_
  refine lw_elem (k := 2) (a := 0) (b := 4) hx hb hX hbl hbA hS hl rfl rfl (by omega) hL (by decide) dL_law_223 dL_law_224 dL_law_226 dL_law_227 dL_law_228 ?_
  refine lw_elem (k := 3) (a := 0) (b := 4) hx hb hX hbl hbA hS hl rfl rfl (by omega) hL (by decide) dL_law_229 dL_law_230 dL_law_232 dL_law_233 dL_law_234 ?_
  refine lw_bool hx hb dL_law_235 dL_law_238 dL_law_239 dL_law_242 ?_
  refine lv_aload_n hx hb dL_law_243 rfl (lv_at hl 3 rfl) ?_
  obtain ⟨F, G, r1, sl1, g1, cn1, V1, T1, X1, vb1, S1, M1, h1, h2, h3, h4, h5⟩ := tw_freeze l hst D cy o f a t h x b ad (T := T) R hB r vb hh (xs (i + 1)) (xs (i + 2)) (!(decide (xs (i + 3) = 0)))
  refine lw_callW (rest := []) h1 ⟨hx, hb, hml, hown, hts⟩ (vx_cwSW 5 hts gL_law_L_freeze rfl rfl rfl (by decide +kernel) ⟨Nat.le_of_ble_eq_true rfl, Nat.le_of_ble_eq_true rfl⟩) hK hP hD hS hE rfl hl.1 rfl (by decide) dL_law_244 ⟨by show cells + 1 ≤ 601024; omega, by show slots + 6 ≤ 7293034; omega⟩ (fun H locs hP hD hS => ?_)
  refine lv_istore (lv' := [(5, .int F), (0, .ref sc), (1, .ref (f 0)), (2, .ref (b 0)), (3, .ref o), (4, .int (nI i))]) hx hb dL_law_247 hl (by decide) rfl (fun ls hl => ?_)
  refine lv_aload_n hx hb dL_law_249 rfl (lv_at hl 3 rfl) ?_
  refine lw_elem (k := 1) (a := 1) (b := 5) hx hb hX hbl hbA hS hl rfl rfl (by omega) hL (by decide) dL_law_250 dL_law_251 dL_law_253 dL_law_254 dL_law_255 ?_
  refine lw_elem (k := 2) (a := 1) (b := 5) hx hb hX hbl hbA hS hl rfl rfl (by omega) hL (by decide) dL_law_256 dL_law_257 dL_law_259 dL_law_260 dL_law_261 ?_
  refine lw_elem (k := 3) (a := 1) (b := 5) hx hb hX hbl hbA hS hl rfl rfl (by omega) hL (by decide) dL_law_262 dL_law_263 dL_law_265 dL_law_266 dL_law_267 ?_
  refine lw_bool hx hb dL_law_268 dL_law_271 dL_law_272 dL_law_275 ?_
  refine lw_callM (E := fun _ => fz_T) (rest := []) (lw_mw h2) ⟨hx, hb, hml, hown, hts⟩ (cwV 3 hts gL_law_X9_freeze rfl rfl rfl (by decide +kernel) ⟨Nat.le_of_ble_eq_true rfl, Nat.le_of_ble_eq_true rfl⟩) rfl rfl hK hP hD hS (fun _ => fz_T_bl) (fun _ _ _ _ _ => trivial) rfl hl.1 rfl (by decide) dL_law_276 ⟨by show cells + 1 + 0 ≤ 601024; omega, by show slots + 6 + 0 ≤ 7293034; omega⟩ (fun H locs hP hD hS => ?_)
  refine lw_tail ⟨hx, hb, hml, hown, hts⟩ (cwV 0 hts gL_law_X9_thrown rfl rfl rfl (by decide +kernel) ⟨Nat.le_of_ble_eq_true rfl, Nat.le_of_ble_eq_true rfl⟩) hK hP hl h4 h5 dL_law_279 dL_law_281 dL_law_282 dL_law_285 dL_law_287 dL_law_292 dL_law_294 dL_law_297 dL_law_298 dL_law_299 dL_law_300 dL_law_302 dL_law_303 dL_law_304 dL_law_309 (by decide) ⟨by show cells + 1 + 0 ≤ 601024; omega, by show slots + 6 + 0 ≤ 7293034; omega⟩ (fun ls hl => ?_)
  exact W.widen (by omega) (by omega) (kk _ _ _ _ _ _ _ _ _ _ _ _ _ _ (h3.mono (by omega)) hP hD hS hl)
set_option maxHeartbeats 4000000 in
set_option maxRecDepth 100000 in
theorem lk_set (C0 : lw_At p s m meth c sc L xs) (hst : l.stackTraces = false) (hK : va_K D vwCl (fz_TY cy) s) (hE : fz_Ew (fun q : Nat => s.heap.size ≤ q) s) (hEr : fz_Er ad adK adV (fun q : Nat => s.heap.size ≤ q) s) (hNw : fz_Nw s) (hi : i + 4 < L) (hL : L ≤ 2560) (R : lR B V X M S g sl cn) (hB : B < 1990000000) (hP : va_P D vwCl (lwW cy o f a t h x b ad r sl g cn V T X vb S M hh) H) (hD : va_D (fun q : Nat => s.heap.size ≤ q) (lwW cy o f a t h x b ad r sl g cn V T X vb S M hh)) (hS : va_S (fun q : Nat => s.heap.size ≤ q) s.heap H locs) (hl : lv_has ls 7 [(0, .ref sc), (1, .ref (f 0)), (2, .ref (b 0)), (3, .ref o), (4, .int (nI i))]) (hc : cells + 2 ≤ 601024) (hs : slots + 12 ≤ 7293034) (kk : lw_K p l e s m below meth c D cy o f a t h x b ad sc i (B + 1000000) (cells + 2) (slots + 12) Q) : W p l e room_1 s m #[Value.ref sc] below meth c H locs cells slots Q (F0 m 312 ls []) := by
  obtain ⟨hx, hb, hr, hml, hown, hts0, hX, hbl, hlocks, -⟩ := C0
  have hts : ∀ w ∈ wsL_law, w.before #[Value.ref sc] s = true := fun w z9 => hts0 w (wsL_law_in w z9)
  have hown : s.vm.findClass RL = some m.cls := hown
  have hb : c.code = cL_law := hb
  have hbA : ¬ s.heap.size ≤ sc := Nat.not_le.mpr hbl
  refine lv_aload_n hx hb dL_law_312 rfl (lv_at hl 1 rfl) ?_
  refine lw_elem (k := 1) (a := 0) (b := 4) hx hb hX hbl hbA hS hl rfl rfl (by omega) hL (by decide) dL_law_313 dL_law_314 dL_law_316 dL_law_317 dL_law_318 ?_
  refine lw_elem (k := 2) (a := 0) (b := 4) hx hb hX hbl hbA hS hl rfl rfl (by omega) hL (by decide) dL_law_319 dL_law_320 dL_law_322 dL_law_323 dL_law_324 ?_
  refine lv_aload_n hx hb dL_law_325 rfl (lv_at hl 3 rfl) ?_
  obtain ⟨F, G, r1, sl1, g1, cn1, V1, T1, X1, vb1, S1, M1, h1, h2, h3, h4, h5⟩ := tw_set l hst D cy o f a t h x b ad (T := T) R hB r vb hh (xs (i + 1)) (xs (i + 2))
  refine lw_callW (rest := []) h1 ⟨hx, hb, hml, hown, hts⟩ (vx_cwSW 4 hts gL_law_L_set rfl rfl rfl (by decide +kernel) ⟨Nat.le_of_ble_eq_true rfl, Nat.le_of_ble_eq_true rfl⟩) hK hP hD hS hE rfl hl.1 rfl (by decide) dL_law_326 ⟨by show cells + 1 ≤ 601024; omega, by show slots + 6 ≤ 7293034; omega⟩ (fun H locs hP hD hS => ?_)
  refine lv_istore (lv' := [(5, .int F), (0, .ref sc), (1, .ref (f 0)), (2, .ref (b 0)), (3, .ref o), (4, .int (nI i))]) hx hb dL_law_329 hl (by decide) rfl (fun ls hl => ?_)
  refine lv_aload_n hx hb dL_law_331 rfl (lv_at hl 3 rfl) ?_
  refine lw_elem (k := 1) (a := 1) (b := 5) hx hb hX hbl hbA hS hl rfl rfl (by omega) hL (by decide) dL_law_332 dL_law_333 dL_law_335 dL_law_336 dL_law_337 ?_
  refine lw_elem (k := 2) (a := 1) (b := 5) hx hb hX hbl hbA hS hl rfl rfl (by omega) hL (by decide) dL_law_338 dL_law_339 dL_law_341 dL_law_342 dL_law_343 ?_
  refine lw_callM (E := fun _ => fz_T) (rest := []) (lw_mw h2) ⟨hx, hb, hml, hown, hts⟩ (cwV 2 hts gL_law_X9_set rfl rfl rfl (by decide +kernel) ⟨Nat.le_of_ble_eq_true rfl, Nat.le_of_ble_eq_true rfl⟩) rfl rfl hK hP hD hS (fun _ => fz_T_bl) (fun _ _ _ _ _ => trivial) rfl hl.1 rfl (by decide) dL_law_344 ⟨by show cells + 1 + 0 ≤ 601024; omega, by show slots + 6 + 0 ≤ 7293034; omega⟩ (fun H locs hP hD hS => ?_)
  refine lw_tail ⟨hx, hb, hml, hown, hts⟩ (cwV 0 hts gL_law_X9_thrown rfl rfl rfl (by decide +kernel) ⟨Nat.le_of_ble_eq_true rfl, Nat.le_of_ble_eq_true rfl⟩) hK hP hl h4 h5 dL_law_347 dL_law_349 dL_law_350 dL_law_353 dL_law_355 dL_law_360 dL_law_362 dL_law_365 dL_law_366 dL_law_367 dL_law_368 dL_law_370 dL_law_371 dL_law_372 dL_law_377 (by decide) ⟨by show cells + 1 + 0 ≤ 601024; omega, by show slots + 6 + 0 ≤ 7293034; omega⟩ (fun ls hl => ?_)
  exact W.widen (by omega) (by omega) (kk _ _ _ _ _ _ _ _ _ _ _ _ _ _ (h3.mono (by omega)) hP hD hS hl)
set_option maxHeartbeats 4000000 in
set_option maxRecDepth 100000 in
theorem lk_endWeek (C0 : lw_At p s m meth c sc L xs) (hst : l.stackTraces = false) (hK : va_K D vwCl (fz_TY cy) s) (hE : fz_Ew (fun q : Nat => s.heap.size ≤ q) s) (hEr : fz_Er ad adK adV (fun q : Nat => s.heap.size ≤ q) s) (hNw : fz_Nw s) (hi : i + 4 < L) (hL : L ≤ 2560) (R : lR B V X M S g sl cn) (hB : B < 1990000000) (hP : va_P D vwCl (lwW cy o f a t h x b ad r sl g cn V T X vb S M hh) H) (hD : va_D (fun q : Nat => s.heap.size ≤ q) (lwW cy o f a t h x b ad r sl g cn V T X vb S M hh)) (hS : va_S (fun q : Nat => s.heap.size ≤ q) s.heap H locs) (hl : lv_has ls 7 [(0, .ref sc), (1, .ref (f 0)), (2, .ref (b 0)), (3, .ref o), (4, .int (nI i))]) (hc : cells + 2 ≤ 601024) (hs : slots + 12 ≤ 7293034) (kk : lw_K p l e s m below meth c D cy o f a t h x b ad sc i (B + 1000000) (cells + 2) (slots + 12) Q) : W p l e room_1 s m #[Value.ref sc] below meth c H locs cells slots Q (F0 m 380 ls []) := by
  obtain ⟨hx, hb, hr, hml, hown, hts0, hX, hbl, hlocks, -⟩ := C0
  have hts : ∀ w ∈ wsL_law, w.before #[Value.ref sc] s = true := fun w z9 => hts0 w (wsL_law_in w z9)
  have hown : s.vm.findClass RL = some m.cls := hown
  have hb : c.code = cL_law := hb
  have hbA : ¬ s.heap.size ≤ sc := Nat.not_le.mpr hbl
  refine lv_aload_n hx hb dL_law_380 rfl (lv_at hl 1 rfl) ?_
  refine lv_aload_n hx hb dL_law_381 rfl (lv_at hl 3 rfl) ?_
  obtain ⟨F, G, r1, sl1, g1, cn1, V1, T1, X1, vb1, S1, M1, h1, h2, h3, h4, h5⟩ := tw_endWeek l hst D cy o f a t h x b ad (T := T) R hB r vb hh
  refine lw_callW (rest := []) h1 ⟨hx, hb, hml, hown, hts⟩ (vx_cwSW 2 hts gL_law_L_endWeek rfl rfl rfl (by decide +kernel) ⟨Nat.le_of_ble_eq_true rfl, Nat.le_of_ble_eq_true rfl⟩) hK hP hD hS hE rfl hl.1 rfl (by decide) dL_law_382 ⟨by show cells + 1 ≤ 601024; omega, by show slots + 6 ≤ 7293034; omega⟩ (fun H locs hP hD hS => ?_)
  refine lv_istore (lv' := [(5, .int F), (0, .ref sc), (1, .ref (f 0)), (2, .ref (b 0)), (3, .ref o), (4, .int (nI i))]) hx hb dL_law_385 hl (by decide) rfl (fun ls hl => ?_)
  refine lv_aload_n hx hb dL_law_387 rfl (lv_at hl 3 rfl) ?_
  refine lw_callM (E := fun _ => fz_T) (rest := []) (lw_mw h2) ⟨hx, hb, hml, hown, hts⟩ (cwV 0 hts gL_law_X9_endWeek rfl rfl rfl (by decide +kernel) ⟨Nat.le_of_ble_eq_true rfl, Nat.le_of_ble_eq_true rfl⟩) rfl rfl hK hP hD hS (fun _ => fz_T_bl) (fun _ _ _ _ _ => trivial) rfl hl.1 rfl (by decide) dL_law_388 ⟨by show cells + 1 + 0 ≤ 601024; omega, by show slots + 6 + 0 ≤ 7293034; omega⟩ (fun H locs hP hD hS => ?_)
  refine lw_tail ⟨hx, hb, hml, hown, hts⟩ (cwV 0 hts gL_law_X9_thrown rfl rfl rfl (by decide +kernel) ⟨Nat.le_of_ble_eq_true rfl, Nat.le_of_ble_eq_true rfl⟩) hK hP hl h4 h5 dL_law_391 dL_law_393 dL_law_394 dL_law_397 dL_law_399 dL_law_404 dL_law_406 dL_law_409 dL_law_410 dL_law_411 dL_law_412 dL_law_414 dL_law_415 dL_law_416 dL_law_421 (by decide) ⟨by show cells + 1 + 0 ≤ 601024; omega, by show slots + 6 + 0 ≤ 7293034; omega⟩ (fun ls hl => ?_)
  exact W.widen (by omega) (by omega) (kk _ _ _ _ _ _ _ _ _ _ _ _ _ _ (h3.mono (by omega)) hP hD hS hl)
set_option maxHeartbeats 4000000 in
set_option maxRecDepth 100000 in
theorem lk_ask (C0 : lw_At p s m meth c sc L xs) (hst : l.stackTraces = false) (hK : va_K D vwCl (fz_TY cy) s) (hE : fz_Ew (fun q : Nat => s.heap.size ≤ q) s) (hEr : fz_Er ad adK adV (fun q : Nat => s.heap.size ≤ q) s) (hNw : fz_Nw s) (hi : i + 4 < L) (hL : L ≤ 2560) (R : lR B V X M S g sl cn) (hB : B < 1990000000) (hP : va_P D vwCl (lwW cy o f a t h x b ad r sl g cn V T X vb S M hh) H) (hD : va_D (fun q : Nat => s.heap.size ≤ q) (lwW cy o f a t h x b ad r sl g cn V T X vb S M hh)) (hS : va_S (fun q : Nat => s.heap.size ≤ q) s.heap H locs) (hl : lv_has ls 7 [(0, .ref sc), (1, .ref (f 0)), (2, .ref (b 0)), (3, .ref o), (4, .int (nI i))]) (hc : cells + 2 ≤ 601024) (hs : slots + 12 ≤ 7293034) (kk : lw_K p l e s m below meth c D cy o f a t h x b ad sc i (B + 1000000) (cells + 2) (slots + 12) Q) : W p l e room_1 s m #[Value.ref sc] below meth c H locs cells slots Q (F0 m 424 ls []) := by
  obtain ⟨hx, hb, hr, hml, hown, hts0, hX, hbl, hlocks, -⟩ := C0
  have hts : ∀ w ∈ wsL_law, w.before #[Value.ref sc] s = true := fun w z9 => hts0 w (wsL_law_in w z9)
  have hown : s.vm.findClass RL = some m.cls := hown
  have hb : c.code = cL_law := hb
  have hbA : ¬ s.heap.size ≤ sc := Nat.not_le.mpr hbl
  refine lv_aload_n hx hb dL_law_424 rfl (lv_at hl 1 rfl) ?_
  refine lw_elem (k := 1) (a := 0) (b := 4) hx hb hX hbl hbA hS hl rfl rfl (by omega) hL (by decide) dL_law_425 dL_law_426 dL_law_428 dL_law_429 dL_law_430 ?_
  refine lw_elem (k := 2) (a := 0) (b := 4) hx hb hX hbl hbA hS hl rfl rfl (by omega) hL (by decide) dL_law_431 dL_law_432 dL_law_434 dL_law_435 dL_law_436 ?_
  refine lv_aload_n hx hb dL_law_437 rfl (lv_at hl 3 rfl) ?_
  obtain ⟨F, G, r1, sl1, g1, cn1, V1, T1, X1, vb1, S1, M1, h1, h2, h3, h4, h5⟩ := tw_ask l hst D cy o f a t h x b ad (T := T) R hB r vb hh (xs (i + 1)) (xs (i + 2))
  refine lw_callW (rest := []) h1 ⟨hx, hb, hml, hown, hts⟩ (vx_cwSW 4 hts gL_law_L_ask rfl rfl rfl (by decide +kernel) ⟨Nat.le_of_ble_eq_true rfl, Nat.le_of_ble_eq_true rfl⟩) hK hP hD hS hE rfl hl.1 rfl (by decide) dL_law_438 ⟨by show cells + 1 ≤ 601024; omega, by show slots + 6 ≤ 7293034; omega⟩ (fun H locs hP hD hS => ?_)
  refine lv_istore (lv' := [(5, .int F), (0, .ref sc), (1, .ref (f 0)), (2, .ref (b 0)), (3, .ref o), (4, .int (nI i))]) hx hb dL_law_441 hl (by decide) rfl (fun ls hl => ?_)
  refine lv_aload_n hx hb dL_law_443 rfl (lv_at hl 3 rfl) ?_
  refine lw_elem (k := 1) (a := 1) (b := 5) hx hb hX hbl hbA hS hl rfl rfl (by omega) hL (by decide) dL_law_444 dL_law_445 dL_law_447 dL_law_448 dL_law_449 ?_
  refine lw_elem (k := 2) (a := 1) (b := 5) hx hb hX hbl hbA hS hl rfl rfl (by omega) hL (by decide) dL_law_450 dL_law_451 dL_law_453 dL_law_454 dL_law_455 ?_
  refine lw_callM (E := fun _ => fz_T) (rest := []) (lw_mw h2) ⟨hx, hb, hml, hown, hts⟩ (cwV 2 hts gL_law_X9_ask rfl rfl rfl (by decide +kernel) ⟨Nat.le_of_ble_eq_true rfl, Nat.le_of_ble_eq_true rfl⟩) rfl rfl hK hP hD hS (fun _ => fz_T_bl) (fun _ _ _ _ _ => trivial) rfl hl.1 rfl (by decide) dL_law_456 ⟨by show cells + 1 + 0 ≤ 601024; omega, by show slots + 6 + 0 ≤ 7293034; omega⟩ (fun H locs hP hD hS => ?_)
  refine lw_tail ⟨hx, hb, hml, hown, hts⟩ (cwV 0 hts gL_law_X9_thrown rfl rfl rfl (by decide +kernel) ⟨Nat.le_of_ble_eq_true rfl, Nat.le_of_ble_eq_true rfl⟩) hK hP hl h4 h5 dL_law_459 dL_law_461 dL_law_462 dL_law_465 dL_law_467 dL_law_472 dL_law_474 dL_law_477 dL_law_478 dL_law_479 dL_law_480 dL_law_482 dL_law_483 dL_law_484 dL_law_489 (by decide) ⟨by show cells + 1 + 0 ≤ 601024; omega, by show slots + 6 + 0 ≤ 7293034; omega⟩ (fun ls hl => ?_)
  exact W.widen (by omega) (by omega) (kk _ _ _ _ _ _ _ _ _ _ _ _ _ _ (h3.mono (by omega)) hP hD hS hl)
set_option maxHeartbeats 4000000 in
set_option maxRecDepth 100000 in
theorem lk_exempt (C0 : lw_At p s m meth c sc L xs) (hst : l.stackTraces = false) (hK : va_K D vwCl (fz_TY cy) s) (hE : fz_Ew (fun q : Nat => s.heap.size ≤ q) s) (hEr : fz_Er ad adK adV (fun q : Nat => s.heap.size ≤ q) s) (hNw : fz_Nw s) (hi : i + 4 < L) (hL : L ≤ 2560) (R : lR B V X M S g sl cn) (hB : B < 1990000000) (hP : va_P D vwCl (lwW cy o f a t h x b ad r sl g cn V T X vb S M hh) H) (hD : va_D (fun q : Nat => s.heap.size ≤ q) (lwW cy o f a t h x b ad r sl g cn V T X vb S M hh)) (hS : va_S (fun q : Nat => s.heap.size ≤ q) s.heap H locs) (hl : lv_has ls 7 [(0, .ref sc), (1, .ref (f 0)), (2, .ref (b 0)), (3, .ref o), (4, .int (nI i))]) (hc : cells + 2 ≤ 601024) (hs : slots + 12 ≤ 7293034) (kk : lw_K p l e s m below meth c D cy o f a t h x b ad sc i (B + 1000000) (cells + 2) (slots + 12) Q) : W p l e room_1 s m #[Value.ref sc] below meth c H locs cells slots Q (F0 m 492 ls []) := by
  obtain ⟨hx, hb, hr, hml, hown, hts0, hX, hbl, hlocks, -⟩ := C0
  have hts : ∀ w ∈ wsL_law, w.before #[Value.ref sc] s = true := fun w z9 => hts0 w (wsL_law_in w z9)
  have hown : s.vm.findClass RL = some m.cls := hown
  have hb : c.code = cL_law := hb
  have hbA : ¬ s.heap.size ≤ sc := Nat.not_le.mpr hbl
  refine lv_aload_n hx hb dL_law_492 rfl (lv_at hl 1 rfl) ?_
  refine lw_elem (k := 1) (a := 0) (b := 4) hx hb hX hbl hbA hS hl rfl rfl (by omega) hL (by decide) dL_law_493 dL_law_494 dL_law_496 dL_law_497 dL_law_498 ?_
  refine lv_aload_n hx hb dL_law_499 rfl (lv_at hl 3 rfl) ?_
  obtain ⟨F, G, r1, sl1, g1, cn1, V1, T1, X1, vb1, S1, M1, h1, h2, h3, h4, h5⟩ := tw_exempt l hst D cy o f a t h x b ad (T := T) R hB r vb hh (xs (i + 1))
  refine lw_callW (rest := []) h1 ⟨hx, hb, hml, hown, hts⟩ (vx_cwSW 3 hts gL_law_L_exempt rfl rfl rfl (by decide +kernel) ⟨Nat.le_of_ble_eq_true rfl, Nat.le_of_ble_eq_true rfl⟩) hK hP hD hS hE rfl hl.1 rfl (by decide) dL_law_500 ⟨by show cells + 1 ≤ 601024; omega, by show slots + 6 ≤ 7293034; omega⟩ (fun H locs hP hD hS => ?_)
  refine lv_istore (lv' := [(5, .int F), (0, .ref sc), (1, .ref (f 0)), (2, .ref (b 0)), (3, .ref o), (4, .int (nI i))]) hx hb dL_law_503 hl (by decide) rfl (fun ls hl => ?_)
  refine lv_aload_n hx hb dL_law_505 rfl (lv_at hl 3 rfl) ?_
  refine lw_elem (k := 1) (a := 1) (b := 5) hx hb hX hbl hbA hS hl rfl rfl (by omega) hL (by decide) dL_law_506 dL_law_507 dL_law_509 dL_law_510 dL_law_511 ?_
  refine lw_callM (E := fun _ => fz_T) (rest := []) (lw_mw h2) ⟨hx, hb, hml, hown, hts⟩ (cwV 1 hts gL_law_X9_exempt rfl rfl rfl (by decide +kernel) ⟨Nat.le_of_ble_eq_true rfl, Nat.le_of_ble_eq_true rfl⟩) rfl rfl hK hP hD hS (fun _ => fz_T_bl) (fun _ _ _ _ _ => trivial) rfl hl.1 rfl (by decide) dL_law_512 ⟨by show cells + 1 + 0 ≤ 601024; omega, by show slots + 6 + 0 ≤ 7293034; omega⟩ (fun H locs hP hD hS => ?_)
  refine lw_tail ⟨hx, hb, hml, hown, hts⟩ (cwV 0 hts gL_law_X9_thrown rfl rfl rfl (by decide +kernel) ⟨Nat.le_of_ble_eq_true rfl, Nat.le_of_ble_eq_true rfl⟩) hK hP hl h4 h5 dL_law_515 dL_law_517 dL_law_518 dL_law_521 dL_law_523 dL_law_528 dL_law_530 dL_law_533 dL_law_534 dL_law_535 dL_law_536 dL_law_538 dL_law_539 dL_law_540 dL_law_545 (by decide) ⟨by show cells + 1 + 0 ≤ 601024; omega, by show slots + 6 + 0 ≤ 7293034; omega⟩ (fun ls hl => ?_)
  exact W.widen (by omega) (by omega) (kk _ _ _ _ _ _ _ _ _ _ _ _ _ _ (h3.mono (by omega)) hP hD hS hl)
set_option maxHeartbeats 4000000 in
set_option maxRecDepth 100000 in
theorem lk_make (C0 : lw_At p s m meth c sc L xs) (hst : l.stackTraces = false) (hK : va_K D vwCl (fz_TY cy) s) (hE : fz_Ew (fun q : Nat => s.heap.size ≤ q) s) (hEr : fz_Er ad adK adV (fun q : Nat => s.heap.size ≤ q) s) (hNw : fz_Nw s) (hi : i + 4 < L) (hL : L ≤ 2560) (R : lR B V X M S g sl cn) (hB : B < 1990000000) (hP : va_P D vwCl (lwW cy o f a t h x b ad r sl g cn V T X vb S M hh) H) (hD : va_D (fun q : Nat => s.heap.size ≤ q) (lwW cy o f a t h x b ad r sl g cn V T X vb S M hh)) (hS : va_S (fun q : Nat => s.heap.size ≤ q) s.heap H locs) (hl : lv_has ls 7 [(0, .ref sc), (1, .ref (f 0)), (2, .ref (b 0)), (3, .ref o), (4, .int (nI i))]) (hc : cells + 2 ≤ 601024) (hs : slots + 12 ≤ 7293034) (kk : lw_K p l e s m below meth c D cy o f a t h x b ad sc i (B + 1000000) (cells + 2) (slots + 12) Q) : W p l e room_1 s m #[Value.ref sc] below meth c H locs cells slots Q (F0 m 548 ls []) := by
  obtain ⟨hx, hb, hr, hml, hown, hts0, hX, hbl, hlocks, -⟩ := C0
  have hts : ∀ w ∈ wsL_law, w.before #[Value.ref sc] s = true := fun w z9 => hts0 w (wsL_law_in w z9)
  have hown : s.vm.findClass RL = some m.cls := hown
  have hb : c.code = cL_law := hb
  have hbA : ¬ s.heap.size ≤ sc := Nat.not_le.mpr hbl
  refine lv_aload_n hx hb dL_law_548 rfl (lv_at hl 1 rfl) ?_
  refine lw_elem (k := 1) (a := 0) (b := 4) hx hb hX hbl hbA hS hl rfl rfl (by omega) hL (by decide) dL_law_549 dL_law_550 dL_law_552 dL_law_553 dL_law_554 ?_
  refine lw_elem (k := 2) (a := 0) (b := 4) hx hb hX hbl hbA hS hl rfl rfl (by omega) hL (by decide) dL_law_555 dL_law_556 dL_law_558 dL_law_559 dL_law_560 ?_
  refine lw_bool hx hb dL_law_561 dL_law_564 dL_law_565 dL_law_568 ?_
  refine lv_aload_n hx hb dL_law_569 rfl (lv_at hl 3 rfl) ?_
  obtain ⟨F, G, r1, sl1, g1, cn1, V1, T1, X1, vb1, S1, M1, h1, h2, h3, h4, h5⟩ := tw_make l hst D cy o f a t h x b ad (T := T) R hB r vb hh (xs (i + 1)) (!(decide (xs (i + 2) = 0)))
  refine lw_callW (rest := []) h1 ⟨hx, hb, hml, hown, hts⟩ (vx_cwSW 4 hts gL_law_L_make rfl rfl rfl (by decide +kernel) ⟨Nat.le_of_ble_eq_true rfl, Nat.le_of_ble_eq_true rfl⟩) hK hP hD hS hE rfl hl.1 rfl (by decide) dL_law_570 ⟨by show cells + 1 ≤ 601024; omega, by show slots + 6 ≤ 7293034; omega⟩ (fun H locs hP hD hS => ?_)
  refine lv_istore (lv' := [(5, .int F), (0, .ref sc), (1, .ref (f 0)), (2, .ref (b 0)), (3, .ref o), (4, .int (nI i))]) hx hb dL_law_573 hl (by decide) rfl (fun ls hl => ?_)
  refine lv_aload_n hx hb dL_law_575 rfl (lv_at hl 3 rfl) ?_
  refine lw_elem (k := 1) (a := 1) (b := 5) hx hb hX hbl hbA hS hl rfl rfl (by omega) hL (by decide) dL_law_576 dL_law_577 dL_law_579 dL_law_580 dL_law_581 ?_
  refine lw_elem (k := 2) (a := 1) (b := 5) hx hb hX hbl hbA hS hl rfl rfl (by omega) hL (by decide) dL_law_582 dL_law_583 dL_law_585 dL_law_586 dL_law_587 ?_
  refine lw_bool hx hb dL_law_588 dL_law_591 dL_law_592 dL_law_595 ?_
  refine lw_callM (E := fun _ => fz_T) (rest := []) (lw_mw h2) ⟨hx, hb, hml, hown, hts⟩ (cwV 2 hts gL_law_X9_make rfl rfl rfl (by decide +kernel) ⟨Nat.le_of_ble_eq_true rfl, Nat.le_of_ble_eq_true rfl⟩) rfl rfl hK hP hD hS (fun _ => fz_T_bl) (fun _ _ _ _ _ => trivial) rfl hl.1 rfl (by decide) dL_law_596 ⟨by show cells + 1 + 0 ≤ 601024; omega, by show slots + 6 + 0 ≤ 7293034; omega⟩ (fun H locs hP hD hS => ?_)
  refine lw_tail ⟨hx, hb, hml, hown, hts⟩ (cwV 0 hts gL_law_X9_thrown rfl rfl rfl (by decide +kernel) ⟨Nat.le_of_ble_eq_true rfl, Nat.le_of_ble_eq_true rfl⟩) hK hP hl h4 h5 dL_law_599 dL_law_601 dL_law_602 dL_law_605 dL_law_607 dL_law_612 dL_law_614 dL_law_617 dL_law_618 dL_law_619 dL_law_620 dL_law_622 dL_law_623 dL_law_624 dL_law_629 (by decide) ⟨by show cells + 1 + 0 ≤ 601024; omega, by show slots + 6 + 0 ≤ 7293034; omega⟩ (fun ls hl => ?_)
  exact W.widen (by omega) (by omega) (kk _ _ _ _ _ _ _ _ _ _ _ _ _ _ (h3.mono (by omega)) hP hD hS hl)
set_option maxHeartbeats 4000000 in
set_option maxRecDepth 100000 in
theorem lk_giveUp (C0 : lw_At p s m meth c sc L xs) (hst : l.stackTraces = false) (hK : va_K D vwCl (fz_TY cy) s) (hE : fz_Ew (fun q : Nat => s.heap.size ≤ q) s) (hEr : fz_Er ad adK adV (fun q : Nat => s.heap.size ≤ q) s) (hNw : fz_Nw s) (hi : i + 4 < L) (hL : L ≤ 2560) (R : lR B V X M S g sl cn) (hB : B < 1990000000) (hP : va_P D vwCl (lwW cy o f a t h x b ad r sl g cn V T X vb S M hh) H) (hD : va_D (fun q : Nat => s.heap.size ≤ q) (lwW cy o f a t h x b ad r sl g cn V T X vb S M hh)) (hS : va_S (fun q : Nat => s.heap.size ≤ q) s.heap H locs) (hl : lv_has ls 7 [(0, .ref sc), (1, .ref (f 0)), (2, .ref (b 0)), (3, .ref o), (4, .int (nI i))]) (hc : cells + 2 ≤ 601024) (hs : slots + 12 ≤ 7293034) (kk : lw_K p l e s m below meth c D cy o f a t h x b ad sc i (B + 1000000) (cells + 2) (slots + 12) Q) : W p l e room_1 s m #[Value.ref sc] below meth c H locs cells slots Q (F0 m 632 ls []) := by
  obtain ⟨hx, hb, hr, hml, hown, hts0, hX, hbl, hlocks, -⟩ := C0
  have hts : ∀ w ∈ wsL_law, w.before #[Value.ref sc] s = true := fun w z9 => hts0 w (wsL_law_in w z9)
  have hown : s.vm.findClass RL = some m.cls := hown
  have hb : c.code = cL_law := hb
  have hbA : ¬ s.heap.size ≤ sc := Nat.not_le.mpr hbl
  refine lv_aload_n hx hb dL_law_632 rfl (lv_at hl 1 rfl) ?_
  refine lw_elem (k := 1) (a := 0) (b := 4) hx hb hX hbl hbA hS hl rfl rfl (by omega) hL (by decide) dL_law_633 dL_law_634 dL_law_636 dL_law_637 dL_law_638 ?_
  refine lv_aload_n hx hb dL_law_639 rfl (lv_at hl 3 rfl) ?_
  obtain ⟨F, G, r1, sl1, g1, cn1, V1, T1, X1, vb1, S1, M1, h1, h2, h3, h4, h5⟩ := tw_giveUp l hst D cy o f a t h x b ad (T := T) R hB r vb hh (xs (i + 1))
  refine lw_callW (rest := []) h1 ⟨hx, hb, hml, hown, hts⟩ (vx_cwSW 3 hts gL_law_L_giveUp rfl rfl rfl (by decide +kernel) ⟨Nat.le_of_ble_eq_true rfl, Nat.le_of_ble_eq_true rfl⟩) hK hP hD hS hE rfl hl.1 rfl (by decide) dL_law_640 ⟨by show cells + 1 ≤ 601024; omega, by show slots + 6 ≤ 7293034; omega⟩ (fun H locs hP hD hS => ?_)
  refine lv_istore (lv' := [(5, .int F), (0, .ref sc), (1, .ref (f 0)), (2, .ref (b 0)), (3, .ref o), (4, .int (nI i))]) hx hb dL_law_643 hl (by decide) rfl (fun ls hl => ?_)
  refine lv_aload_n hx hb dL_law_645 rfl (lv_at hl 3 rfl) ?_
  refine lw_elem (k := 1) (a := 1) (b := 5) hx hb hX hbl hbA hS hl rfl rfl (by omega) hL (by decide) dL_law_646 dL_law_647 dL_law_649 dL_law_650 dL_law_651 ?_
  refine lw_callM (E := fun _ => fz_T) (rest := []) (lw_mw h2) ⟨hx, hb, hml, hown, hts⟩ (cwV 1 hts gL_law_X9_giveUp rfl rfl rfl (by decide +kernel) ⟨Nat.le_of_ble_eq_true rfl, Nat.le_of_ble_eq_true rfl⟩) rfl rfl hK hP hD hS (fun _ => fz_T_bl) (fun _ _ _ _ _ => trivial) rfl hl.1 rfl (by decide) dL_law_652 ⟨by show cells + 1 + 0 ≤ 601024; omega, by show slots + 6 + 0 ≤ 7293034; omega⟩ (fun H locs hP hD hS => ?_)
  refine lw_tail ⟨hx, hb, hml, hown, hts⟩ (cwV 0 hts gL_law_X9_thrown rfl rfl rfl (by decide +kernel) ⟨Nat.le_of_ble_eq_true rfl, Nat.le_of_ble_eq_true rfl⟩) hK hP hl h4 h5 dL_law_655 dL_law_657 dL_law_658 dL_law_661 dL_law_663 dL_law_668 dL_law_670 dL_law_673 dL_law_674 dL_law_675 dL_law_676 dL_law_678 dL_law_679 dL_law_680 dL_law_685 (by decide) ⟨by show cells + 1 + 0 ≤ 601024; omega, by show slots + 6 + 0 ≤ 7293034; omega⟩ (fun ls hl => ?_)
  exact W.widen (by omega) (by omega) (kk _ _ _ _ _ _ _ _ _ _ _ _ _ _ (h3.mono (by omega)) hP hD hS hl)
set_option maxHeartbeats 4000000 in
set_option maxRecDepth 100000 in
theorem lk_lend (C0 : lw_At p s m meth c sc L xs) (hst : l.stackTraces = false) (hK : va_K D vwCl (fz_TY cy) s) (hE : fz_Ew (fun q : Nat => s.heap.size ≤ q) s) (hEr : fz_Er ad adK adV (fun q : Nat => s.heap.size ≤ q) s) (hNw : fz_Nw s) (hi : i + 4 < L) (hL : L ≤ 2560) (R : lR B V X M S g sl cn) (hB : B < 1990000000) (hP : va_P D vwCl (lwW cy o f a t h x b ad r sl g cn V T X vb S M hh) H) (hD : va_D (fun q : Nat => s.heap.size ≤ q) (lwW cy o f a t h x b ad r sl g cn V T X vb S M hh)) (hS : va_S (fun q : Nat => s.heap.size ≤ q) s.heap H locs) (hl : lv_has ls 7 [(0, .ref sc), (1, .ref (f 0)), (2, .ref (b 0)), (3, .ref o), (4, .int (nI i))]) (hc : cells + 2 ≤ 601024) (hs : slots + 12 ≤ 7293034) (kk : lw_K p l e s m below meth c D cy o f a t h x b ad sc i (B + 1000000) (cells + 2) (slots + 12) Q) : W p l e room_1 s m #[Value.ref sc] below meth c H locs cells slots Q (F0 m 688 ls []) := by
  obtain ⟨hx, hb, hr, hml, hown, hts0, hX, hbl, hlocks, -⟩ := C0
  have hts : ∀ w ∈ wsL_law, w.before #[Value.ref sc] s = true := fun w z9 => hts0 w (wsL_law_in w z9)
  have hown : s.vm.findClass RL = some m.cls := hown
  have hb : c.code = cL_law := hb
  have hbA : ¬ s.heap.size ≤ sc := Nat.not_le.mpr hbl
  refine lv_aload_n hx hb dL_law_688 rfl (lv_at hl 1 rfl) ?_
  refine lw_elem (k := 1) (a := 0) (b := 4) hx hb hX hbl hbA hS hl rfl rfl (by omega) hL (by decide) dL_law_689 dL_law_690 dL_law_692 dL_law_693 dL_law_694 ?_
  refine lw_elem (k := 2) (a := 0) (b := 4) hx hb hX hbl hbA hS hl rfl rfl (by omega) hL (by decide) dL_law_695 dL_law_696 dL_law_698 dL_law_699 dL_law_700 ?_
  refine lw_elem (k := 3) (a := 0) (b := 4) hx hb hX hbl hbA hS hl rfl rfl (by omega) hL (by decide) dL_law_701 dL_law_702 dL_law_704 dL_law_705 dL_law_706 ?_
  refine lw_elem (k := 4) (a := 0) (b := 4) hx hb hX hbl hbA hS hl rfl rfl (by omega) hL (by decide) dL_law_707 dL_law_708 dL_law_710 dL_law_711 dL_law_712 ?_
  refine lv_aload_n hx hb dL_law_713 rfl (lv_at hl 3 rfl) ?_
  obtain ⟨F, G, r1, sl1, g1, cn1, V1, T1, X1, vb1, S1, M1, h1, h2, h3, h4, h5⟩ := tw_lend l hst D cy o f a t h x b ad (T := T) R hB r vb hh (xs (i + 1)) (xs (i + 2)) (xs (i + 3)) (xs (i + 4))
  refine lw_callW (rest := []) h1 ⟨hx, hb, hml, hown, hts⟩ (vx_cwSW 6 hts gL_law_L_lend rfl rfl rfl (by decide +kernel) ⟨Nat.le_of_ble_eq_true rfl, Nat.le_of_ble_eq_true rfl⟩) hK hP hD hS hE rfl hl.1 rfl (by decide) dL_law_714 ⟨by show cells + 1 ≤ 601024; omega, by show slots + 6 ≤ 7293034; omega⟩ (fun H locs hP hD hS => ?_)
  refine lv_istore (lv' := [(5, .int F), (0, .ref sc), (1, .ref (f 0)), (2, .ref (b 0)), (3, .ref o), (4, .int (nI i))]) hx hb dL_law_717 hl (by decide) rfl (fun ls hl => ?_)
  refine lv_aload_n hx hb dL_law_719 rfl (lv_at hl 3 rfl) ?_
  refine lw_elem (k := 1) (a := 1) (b := 5) hx hb hX hbl hbA hS hl rfl rfl (by omega) hL (by decide) dL_law_720 dL_law_721 dL_law_723 dL_law_724 dL_law_725 ?_
  refine lw_elem (k := 2) (a := 1) (b := 5) hx hb hX hbl hbA hS hl rfl rfl (by omega) hL (by decide) dL_law_726 dL_law_727 dL_law_729 dL_law_730 dL_law_731 ?_
  refine lw_elem (k := 3) (a := 1) (b := 5) hx hb hX hbl hbA hS hl rfl rfl (by omega) hL (by decide) dL_law_732 dL_law_733 dL_law_735 dL_law_736 dL_law_737 ?_
  refine lw_elem (k := 4) (a := 1) (b := 5) hx hb hX hbl hbA hS hl rfl rfl (by omega) hL (by decide) dL_law_738 dL_law_739 dL_law_741 dL_law_742 dL_law_743 ?_
  refine lw_callM (E := fun _ => fz_T) (rest := []) (lw_mw h2) ⟨hx, hb, hml, hown, hts⟩ (cwV 4 hts gL_law_X9_lend rfl rfl rfl (by decide +kernel) ⟨Nat.le_of_ble_eq_true rfl, Nat.le_of_ble_eq_true rfl⟩) rfl rfl hK hP hD hS (fun _ => fz_T_bl) (fun _ _ _ _ _ => trivial) rfl hl.1 rfl (by decide) dL_law_744 ⟨by show cells + 1 + 0 ≤ 601024; omega, by show slots + 6 + 0 ≤ 7293034; omega⟩ (fun H locs hP hD hS => ?_)
  refine lw_tail ⟨hx, hb, hml, hown, hts⟩ (cwV 0 hts gL_law_X9_thrown rfl rfl rfl (by decide +kernel) ⟨Nat.le_of_ble_eq_true rfl, Nat.le_of_ble_eq_true rfl⟩) hK hP hl h4 h5 dL_law_747 dL_law_749 dL_law_750 dL_law_753 dL_law_755 dL_law_760 dL_law_762 dL_law_765 dL_law_766 dL_law_767 dL_law_768 dL_law_770 dL_law_771 dL_law_772 dL_law_777 (by decide) ⟨by show cells + 1 + 0 ≤ 601024; omega, by show slots + 6 + 0 ≤ 7293034; omega⟩ (fun ls hl => ?_)
  exact W.widen (by omega) (by omega) (kk _ _ _ _ _ _ _ _ _ _ _ _ _ _ (h3.mono (by omega)) hP hD hS hl)
set_option maxHeartbeats 4000000 in
set_option maxRecDepth 100000 in
theorem lk_repay (C0 : lw_At p s m meth c sc L xs) (hst : l.stackTraces = false) (hK : va_K D vwCl (fz_TY cy) s) (hE : fz_Ew (fun q : Nat => s.heap.size ≤ q) s) (hEr : fz_Er ad adK adV (fun q : Nat => s.heap.size ≤ q) s) (hNw : fz_Nw s) (hi : i + 4 < L) (hL : L ≤ 2560) (R : lR B V X M S g sl cn) (hB : B < 1990000000) (hP : va_P D vwCl (lwW cy o f a t h x b ad r sl g cn V T X vb S M hh) H) (hD : va_D (fun q : Nat => s.heap.size ≤ q) (lwW cy o f a t h x b ad r sl g cn V T X vb S M hh)) (hS : va_S (fun q : Nat => s.heap.size ≤ q) s.heap H locs) (hl : lv_has ls 7 [(0, .ref sc), (1, .ref (f 0)), (2, .ref (b 0)), (3, .ref o), (4, .int (nI i))]) (hc : cells + 2 ≤ 601024) (hs : slots + 12 ≤ 7293034) (kk : lw_K p l e s m below meth c D cy o f a t h x b ad sc i (B + 1000000) (cells + 2) (slots + 12) Q) : W p l e room_1 s m #[Value.ref sc] below meth c H locs cells slots Q (F0 m 780 ls []) := by
  obtain ⟨hx, hb, hr, hml, hown, hts0, hX, hbl, hlocks, -⟩ := C0
  have hts : ∀ w ∈ wsL_law, w.before #[Value.ref sc] s = true := fun w z9 => hts0 w (wsL_law_in w z9)
  have hown : s.vm.findClass RL = some m.cls := hown
  have hb : c.code = cL_law := hb
  have hbA : ¬ s.heap.size ≤ sc := Nat.not_le.mpr hbl
  refine lv_aload_n hx hb dL_law_780 rfl (lv_at hl 1 rfl) ?_
  refine lw_elem (k := 1) (a := 0) (b := 4) hx hb hX hbl hbA hS hl rfl rfl (by omega) hL (by decide) dL_law_781 dL_law_782 dL_law_784 dL_law_785 dL_law_786 ?_
  refine lw_elem (k := 2) (a := 0) (b := 4) hx hb hX hbl hbA hS hl rfl rfl (by omega) hL (by decide) dL_law_787 dL_law_788 dL_law_790 dL_law_791 dL_law_792 ?_
  refine lv_aload_n hx hb dL_law_793 rfl (lv_at hl 3 rfl) ?_
  obtain ⟨F, G, r1, sl1, g1, cn1, V1, T1, X1, vb1, S1, M1, h1, h2, h3, h4, h5⟩ := tw_repay l hst D cy o f a t h x b ad (T := T) R hB r vb hh (xs (i + 1)) (xs (i + 2))
  refine lw_callW (rest := []) h1 ⟨hx, hb, hml, hown, hts⟩ (vx_cwSW 4 hts gL_law_L_repay rfl rfl rfl (by decide +kernel) ⟨Nat.le_of_ble_eq_true rfl, Nat.le_of_ble_eq_true rfl⟩) hK hP hD hS hE rfl hl.1 rfl (by decide) dL_law_794 ⟨by show cells + 1 ≤ 601024; omega, by show slots + 6 ≤ 7293034; omega⟩ (fun H locs hP hD hS => ?_)
  refine lv_istore (lv' := [(5, .int F), (0, .ref sc), (1, .ref (f 0)), (2, .ref (b 0)), (3, .ref o), (4, .int (nI i))]) hx hb dL_law_797 hl (by decide) rfl (fun ls hl => ?_)
  refine lv_aload_n hx hb dL_law_799 rfl (lv_at hl 3 rfl) ?_
  refine lw_elem (k := 1) (a := 1) (b := 5) hx hb hX hbl hbA hS hl rfl rfl (by omega) hL (by decide) dL_law_800 dL_law_801 dL_law_803 dL_law_804 dL_law_805 ?_
  refine lw_elem (k := 2) (a := 1) (b := 5) hx hb hX hbl hbA hS hl rfl rfl (by omega) hL (by decide) dL_law_806 dL_law_807 dL_law_809 dL_law_810 dL_law_811 ?_
  refine lw_callM (E := fun _ => fz_T) (rest := []) (lw_mw h2) ⟨hx, hb, hml, hown, hts⟩ (cwV 2 hts gL_law_X9_repay rfl rfl rfl (by decide +kernel) ⟨Nat.le_of_ble_eq_true rfl, Nat.le_of_ble_eq_true rfl⟩) rfl rfl hK hP hD hS (fun _ => fz_T_bl) (fun _ _ _ _ _ => trivial) rfl hl.1 rfl (by decide) dL_law_812 ⟨by show cells + 1 + 0 ≤ 601024; omega, by show slots + 6 + 0 ≤ 7293034; omega⟩ (fun H locs hP hD hS => ?_)
  refine lw_tail ⟨hx, hb, hml, hown, hts⟩ (cwV 0 hts gL_law_X9_thrown rfl rfl rfl (by decide +kernel) ⟨Nat.le_of_ble_eq_true rfl, Nat.le_of_ble_eq_true rfl⟩) hK hP hl h4 h5 dL_law_815 dL_law_817 dL_law_818 dL_law_821 dL_law_823 dL_law_828 dL_law_830 dL_law_833 dL_law_834 dL_law_835 dL_law_836 dL_law_838 dL_law_839 dL_law_840 dL_law_845 (by decide) ⟨by show cells + 1 + 0 ≤ 601024; omega, by show slots + 6 + 0 ≤ 7293034; omega⟩ (fun ls hl => ?_)
  exact W.widen (by omega) (by omega) (kk _ _ _ _ _ _ _ _ _ _ _ _ _ _ (h3.mono (by omega)) hP hD hS hl)
set_option maxHeartbeats 4000000 in
set_option maxRecDepth 100000 in
theorem lk_team (C0 : lw_At p s m meth c sc L xs) (hst : l.stackTraces = false) (hK : va_K D vwCl (fz_TY cy) s) (hE : fz_Ew (fun q : Nat => s.heap.size ≤ q) s) (hEr : fz_Er ad adK adV (fun q : Nat => s.heap.size ≤ q) s) (hNw : fz_Nw s) (hi : i + 4 < L) (hL : L ≤ 2560) (R : lR B V X M S g sl cn) (hB : B < 1990000000) (hP : va_P D vwCl (lwW cy o f a t h x b ad r sl g cn V T X vb S M hh) H) (hD : va_D (fun q : Nat => s.heap.size ≤ q) (lwW cy o f a t h x b ad r sl g cn V T X vb S M hh)) (hS : va_S (fun q : Nat => s.heap.size ≤ q) s.heap H locs) (hl : lv_has ls 7 [(0, .ref sc), (1, .ref (f 0)), (2, .ref (b 0)), (3, .ref o), (4, .int (nI i))]) (hc : cells + 2 ≤ 601024) (hs : slots + 12 ≤ 7293034) (kk : lw_K p l e s m below meth c D cy o f a t h x b ad sc i (B + 1000000) (cells + 2) (slots + 12) Q) : W p l e room_1 s m #[Value.ref sc] below meth c H locs cells slots Q (F0 m 848 ls []) := by
  obtain ⟨hx, hb, hr, hml, hown, hts0, hX, hbl, hlocks, -⟩ := C0
  have hts : ∀ w ∈ wsL_law, w.before #[Value.ref sc] s = true := fun w z9 => hts0 w (wsL_law_in w z9)
  have hown : s.vm.findClass RL = some m.cls := hown
  have hb : c.code = cL_law := hb
  have hbA : ¬ s.heap.size ≤ sc := Nat.not_le.mpr hbl
  refine lv_aload_n hx hb dL_law_848 rfl (lv_at hl 1 rfl) ?_
  refine lw_elem (k := 1) (a := 0) (b := 4) hx hb hX hbl hbA hS hl rfl rfl (by omega) hL (by decide) dL_law_849 dL_law_850 dL_law_852 dL_law_853 dL_law_854 ?_
  refine lw_elem (k := 2) (a := 0) (b := 4) hx hb hX hbl hbA hS hl rfl rfl (by omega) hL (by decide) dL_law_855 dL_law_856 dL_law_858 dL_law_859 dL_law_860 ?_
  refine lv_aload_n hx hb dL_law_861 rfl (lv_at hl 3 rfl) ?_
  obtain ⟨F, G, r1, sl1, g1, cn1, V1, T1, X1, vb1, S1, M1, h1, h2, h3, h4, h5⟩ := tw_team l hst D cy o f a t h x b ad (T := T) R hB r vb hh (xs (i + 1)) (xs (i + 2))
  refine lw_callW (rest := []) h1 ⟨hx, hb, hml, hown, hts⟩ (vx_cwSW 4 hts gL_law_L_team rfl rfl rfl (by decide +kernel) ⟨Nat.le_of_ble_eq_true rfl, Nat.le_of_ble_eq_true rfl⟩) hK hP hD hS hE rfl hl.1 rfl (by decide) dL_law_862 ⟨by show cells + 2 ≤ 601024; omega, by show slots + 12 ≤ 7293034; omega⟩ (fun H locs hP hD hS => ?_)
  refine lv_istore (lv' := [(5, .int F), (0, .ref sc), (1, .ref (f 0)), (2, .ref (b 0)), (3, .ref o), (4, .int (nI i))]) hx hb dL_law_865 hl (by decide) rfl (fun ls hl => ?_)
  refine lv_aload_n hx hb dL_law_867 rfl (lv_at hl 3 rfl) ?_
  refine lw_elem (k := 1) (a := 1) (b := 5) hx hb hX hbl hbA hS hl rfl rfl (by omega) hL (by decide) dL_law_868 dL_law_869 dL_law_871 dL_law_872 dL_law_873 ?_
  refine lw_elem (k := 2) (a := 1) (b := 5) hx hb hX hbl hbA hS hl rfl rfl (by omega) hL (by decide) dL_law_874 dL_law_875 dL_law_877 dL_law_878 dL_law_879 ?_
  refine lw_callM (E := fun _ => fz_T) (rest := []) (lw_mw h2) ⟨hx, hb, hml, hown, hts⟩ (cwV 2 hts gL_law_X9_team rfl rfl rfl (by decide +kernel) ⟨Nat.le_of_ble_eq_true rfl, Nat.le_of_ble_eq_true rfl⟩) rfl rfl hK hP hD hS (fun _ => fz_T_bl) (fun _ _ _ _ _ => trivial) rfl hl.1 rfl (by decide) dL_law_880 ⟨by show cells + 2 + 0 ≤ 601024; omega, by show slots + 12 + 0 ≤ 7293034; omega⟩ (fun H locs hP hD hS => ?_)
  refine lw_tail ⟨hx, hb, hml, hown, hts⟩ (cwV 0 hts gL_law_X9_thrown rfl rfl rfl (by decide +kernel) ⟨Nat.le_of_ble_eq_true rfl, Nat.le_of_ble_eq_true rfl⟩) hK hP hl h4 h5 dL_law_883 dL_law_885 dL_law_886 dL_law_889 dL_law_891 dL_law_896 dL_law_898 dL_law_901 dL_law_902 dL_law_903 dL_law_904 dL_law_906 dL_law_907 dL_law_908 dL_law_913 (by decide) ⟨by show cells + 2 + 0 ≤ 601024; omega, by show slots + 12 + 0 ≤ 7293034; omega⟩ (fun ls hl => ?_)
  exact W.widen (by omega) (by omega) (kk _ _ _ _ _ _ _ _ _ _ _ _ _ _ (h3.mono (by omega)) hP hD hS hl)
set_option maxHeartbeats 4000000 in
set_option maxRecDepth 100000 in
theorem lk_change (C0 : lw_At p s m meth c sc L xs) (hst : l.stackTraces = false) (hK : va_K D vwCl (fz_TY cy) s) (hE : fz_Ew (fun q : Nat => s.heap.size ≤ q) s) (hEr : fz_Er ad adK adV (fun q : Nat => s.heap.size ≤ q) s) (hNw : fz_Nw s) (hi : i + 4 < L) (hL : L ≤ 2560) (R : lR B V X M S g sl cn) (hB : B < 1990000000) (hP : va_P D vwCl (lwW cy o f a t h x b ad r sl g cn V T X vb S M hh) H) (hD : va_D (fun q : Nat => s.heap.size ≤ q) (lwW cy o f a t h x b ad r sl g cn V T X vb S M hh)) (hS : va_S (fun q : Nat => s.heap.size ≤ q) s.heap H locs) (hl : lv_has ls 7 [(0, .ref sc), (1, .ref (f 0)), (2, .ref (b 0)), (3, .ref o), (4, .int (nI i))]) (hc : cells + 2 ≤ 601024) (hs : slots + 12 ≤ 7293034) (kk : lw_K p l e s m below meth c D cy o f a t h x b ad sc i (B + 1000000) (cells + 2) (slots + 12) Q) : W p l e room_1 s m #[Value.ref sc] below meth c H locs cells slots Q (F0 m 916 ls []) := by
  obtain ⟨hx, hb, hr, hml, hown, hts0, hX, hbl, hlocks, -⟩ := C0
  have hts : ∀ w ∈ wsL_law, w.before #[Value.ref sc] s = true := fun w z9 => hts0 w (wsL_law_in w z9)
  have hown : s.vm.findClass RL = some m.cls := hown
  have hb : c.code = cL_law := hb
  have hbA : ¬ s.heap.size ≤ sc := Nat.not_le.mpr hbl
  refine lv_aload_n hx hb dL_law_916 rfl (lv_at hl 1 rfl) ?_
  refine lw_elem (k := 1) (a := 0) (b := 4) hx hb hX hbl hbA hS hl rfl rfl (by omega) hL (by decide) dL_law_917 dL_law_918 dL_law_920 dL_law_921 dL_law_922 ?_
  refine lw_elem (k := 2) (a := 0) (b := 4) hx hb hX hbl hbA hS hl rfl rfl (by omega) hL (by decide) dL_law_923 dL_law_924 dL_law_926 dL_law_927 dL_law_928 ?_
  refine lv_aload_n hx hb dL_law_929 rfl (lv_at hl 3 rfl) ?_
  obtain ⟨F, G, r1, sl1, g1, cn1, V1, T1, X1, vb1, S1, M1, h1, h2, h3, h4, h5⟩ := tw_change l hst D cy o f a t h x b ad (T := T) R hB r vb hh (xs (i + 1)) (xs (i + 2))
  refine lw_callW (rest := []) h1 ⟨hx, hb, hml, hown, hts⟩ (vx_cwSW 4 hts gL_law_L_change rfl rfl rfl (by decide +kernel) ⟨Nat.le_of_ble_eq_true rfl, Nat.le_of_ble_eq_true rfl⟩) hK hP hD hS hE rfl hl.1 rfl (by decide) dL_law_930 ⟨by show cells + 2 ≤ 601024; omega, by show slots + 12 ≤ 7293034; omega⟩ (fun H locs hP hD hS => ?_)
  refine lv_istore (lv' := [(5, .int F), (0, .ref sc), (1, .ref (f 0)), (2, .ref (b 0)), (3, .ref o), (4, .int (nI i))]) hx hb dL_law_933 hl (by decide) rfl (fun ls hl => ?_)
  refine lv_aload_n hx hb dL_law_935 rfl (lv_at hl 3 rfl) ?_
  refine lw_elem (k := 1) (a := 1) (b := 5) hx hb hX hbl hbA hS hl rfl rfl (by omega) hL (by decide) dL_law_936 dL_law_937 dL_law_939 dL_law_940 dL_law_941 ?_
  refine lw_elem (k := 2) (a := 1) (b := 5) hx hb hX hbl hbA hS hl rfl rfl (by omega) hL (by decide) dL_law_942 dL_law_943 dL_law_945 dL_law_946 dL_law_947 ?_
  refine lw_callM (E := fun _ => fz_T) (rest := []) (lw_mw h2) ⟨hx, hb, hml, hown, hts⟩ (cwV 2 hts gL_law_X9_change rfl rfl rfl (by decide +kernel) ⟨Nat.le_of_ble_eq_true rfl, Nat.le_of_ble_eq_true rfl⟩) rfl rfl hK hP hD hS (fun _ => fz_T_bl) (fun _ _ _ _ _ => trivial) rfl hl.1 rfl (by decide) dL_law_948 ⟨by show cells + 2 + 0 ≤ 601024; omega, by show slots + 12 + 0 ≤ 7293034; omega⟩ (fun H locs hP hD hS => ?_)
  refine lw_tail ⟨hx, hb, hml, hown, hts⟩ (cwV 0 hts gL_law_X9_thrown rfl rfl rfl (by decide +kernel) ⟨Nat.le_of_ble_eq_true rfl, Nat.le_of_ble_eq_true rfl⟩) hK hP hl h4 h5 dL_law_951 dL_law_953 dL_law_954 dL_law_957 dL_law_959 dL_law_964 dL_law_966 dL_law_969 dL_law_970 dL_law_971 dL_law_972 dL_law_974 dL_law_975 dL_law_976 dL_law_981 (by decide) ⟨by show cells + 2 + 0 ≤ 601024; omega, by show slots + 12 + 0 ≤ 7293034; omega⟩ (fun ls hl => ?_)
  exact W.widen (by omega) (by omega) (kk _ _ _ _ _ _ _ _ _ _ _ _ _ _ (h3.mono (by omega)) hP hD hS hl)
set_option maxHeartbeats 4000000 in
set_option maxRecDepth 100000 in
theorem lk_loan (C0 : lw_At p s m meth c sc L xs) (hst : l.stackTraces = false) (hK : va_K D vwCl (fz_TY cy) s) (hE : fz_Ew (fun q : Nat => s.heap.size ≤ q) s) (hEr : fz_Er ad adK adV (fun q : Nat => s.heap.size ≤ q) s) (hNw : fz_Nw s) (hi : i + 4 < L) (hL : L ≤ 2560) (R : lR B V X M S g sl cn) (hB : B < 1990000000) (hP : va_P D vwCl (lwW cy o f a t h x b ad r sl g cn V T X vb S M hh) H) (hD : va_D (fun q : Nat => s.heap.size ≤ q) (lwW cy o f a t h x b ad r sl g cn V T X vb S M hh)) (hS : va_S (fun q : Nat => s.heap.size ≤ q) s.heap H locs) (hl : lv_has ls 7 [(0, .ref sc), (1, .ref (f 0)), (2, .ref (b 0)), (3, .ref o), (4, .int (nI i))]) (hc : cells + 2 ≤ 601024) (hs : slots + 12 ≤ 7293034) (kk : lw_K p l e s m below meth c D cy o f a t h x b ad sc i (B + 1000000) (cells + 2) (slots + 12) Q) : W p l e room_1 s m #[Value.ref sc] below meth c H locs cells slots Q (F0 m 984 ls []) := by
  obtain ⟨hx, hb, hr, hml, hown, hts0, hX, hbl, hlocks, -⟩ := C0
  have hts : ∀ w ∈ wsL_law, w.before #[Value.ref sc] s = true := fun w z9 => hts0 w (wsL_law_in w z9)
  have hown : s.vm.findClass RL = some m.cls := hown
  have hb : c.code = cL_law := hb
  have hbA : ¬ s.heap.size ≤ sc := Nat.not_le.mpr hbl
  refine lv_aload_n hx hb dL_law_984 rfl (lv_at hl 1 rfl) ?_
  refine lw_elem (k := 1) (a := 0) (b := 4) hx hb hX hbl hbA hS hl rfl rfl (by omega) hL (by decide) dL_law_985 dL_law_986 dL_law_988 dL_law_989 dL_law_990 ?_
  refine lw_elem (k := 2) (a := 0) (b := 4) hx hb hX hbl hbA hS hl rfl rfl (by omega) hL (by decide) dL_law_991 dL_law_992 dL_law_994 dL_law_995 dL_law_996 ?_
  refine lv_aload_n hx hb dL_law_997 rfl (lv_at hl 3 rfl) ?_
  obtain ⟨F, G, r1, sl1, g1, cn1, V1, T1, X1, vb1, S1, M1, h1, h2, h3, h4, h5⟩ := tw_loan l hst D cy o f a t h x b ad (T := T) R hB r vb hh (xs (i + 1)) (xs (i + 2))
  refine lw_callW (rest := []) h1 ⟨hx, hb, hml, hown, hts⟩ (vx_cwSW 4 hts gL_law_L_loan rfl rfl rfl (by decide +kernel) ⟨Nat.le_of_ble_eq_true rfl, Nat.le_of_ble_eq_true rfl⟩) hK hP hD hS hE rfl hl.1 rfl (by decide) dL_law_998 ⟨by show cells + 1 ≤ 601024; omega, by show slots + 6 ≤ 7293034; omega⟩ (fun H locs hP hD hS => ?_)
  refine lv_istore (lv' := [(5, .int F), (0, .ref sc), (1, .ref (f 0)), (2, .ref (b 0)), (3, .ref o), (4, .int (nI i))]) hx hb dL_law_1001 hl (by decide) rfl (fun ls hl => ?_)
  refine lv_aload_n hx hb dL_law_1003 rfl (lv_at hl 3 rfl) ?_
  refine lw_elem (k := 1) (a := 1) (b := 5) hx hb hX hbl hbA hS hl rfl rfl (by omega) hL (by decide) dL_law_1004 dL_law_1005 dL_law_1007 dL_law_1008 dL_law_1009 ?_
  refine lw_elem (k := 2) (a := 1) (b := 5) hx hb hX hbl hbA hS hl rfl rfl (by omega) hL (by decide) dL_law_1010 dL_law_1011 dL_law_1013 dL_law_1014 dL_law_1015 ?_
  refine lw_callM (E := fun _ => fz_T) (rest := []) (lw_mw h2) ⟨hx, hb, hml, hown, hts⟩ (cwV 2 hts gL_law_X9_loan rfl rfl rfl (by decide +kernel) ⟨Nat.le_of_ble_eq_true rfl, Nat.le_of_ble_eq_true rfl⟩) rfl rfl hK hP hD hS (fun _ => fz_T_bl) (fun _ _ _ _ _ => trivial) rfl hl.1 rfl (by decide) dL_law_1016 ⟨by show cells + 1 + 0 ≤ 601024; omega, by show slots + 6 + 0 ≤ 7293034; omega⟩ (fun H locs hP hD hS => ?_)
  refine lw_tail ⟨hx, hb, hml, hown, hts⟩ (cwV 0 hts gL_law_X9_thrown rfl rfl rfl (by decide +kernel) ⟨Nat.le_of_ble_eq_true rfl, Nat.le_of_ble_eq_true rfl⟩) hK hP hl h4 h5 dL_law_1019 dL_law_1021 dL_law_1022 dL_law_1025 dL_law_1027 dL_law_1032 dL_law_1034 dL_law_1037 dL_law_1038 dL_law_1039 dL_law_1040 dL_law_1042 dL_law_1043 dL_law_1044 dL_law_1049 (by decide) ⟨by show cells + 1 + 0 ≤ 601024; omega, by show slots + 6 + 0 ≤ 7293034; omega⟩ (fun ls hl => ?_)
  exact W.widen (by omega) (by omega) (kk _ _ _ _ _ _ _ _ _ _ _ _ _ _ (h3.mono (by omega)) hP hD hS hl)
set_option maxHeartbeats 4000000 in
set_option maxRecDepth 100000 in
theorem lk_waiting (C0 : lw_At p s m meth c sc L xs) (hst : l.stackTraces = false) (hK : va_K D vwCl (fz_TY cy) s) (hE : fz_Ew (fun q : Nat => s.heap.size ≤ q) s) (hEr : fz_Er ad adK adV (fun q : Nat => s.heap.size ≤ q) s) (hNw : fz_Nw s) (hi : i + 4 < L) (hL : L ≤ 2560) (R : lR B V X M S g sl cn) (hB : B < 1990000000) (hP : va_P D vwCl (lwW cy o f a t h x b ad r sl g cn V T X vb S M hh) H) (hD : va_D (fun q : Nat => s.heap.size ≤ q) (lwW cy o f a t h x b ad r sl g cn V T X vb S M hh)) (hS : va_S (fun q : Nat => s.heap.size ≤ q) s.heap H locs) (hl : lv_has ls 7 [(0, .ref sc), (1, .ref (f 0)), (2, .ref (b 0)), (3, .ref o), (4, .int (nI i))]) (hc : cells + 2 ≤ 601024) (hs : slots + 12 ≤ 7293034) (kk : lw_K p l e s m below meth c D cy o f a t h x b ad sc i (B + 1000000) (cells + 2) (slots + 12) Q) : W p l e room_1 s m #[Value.ref sc] below meth c H locs cells slots Q (F0 m 1052 ls []) := by
  obtain ⟨hx, hb, hr, hml, hown, hts0, hX, hbl, hlocks, -⟩ := C0
  have hts : ∀ w ∈ wsL_law, w.before #[Value.ref sc] s = true := fun w z9 => hts0 w (wsL_law_in w z9)
  have hown : s.vm.findClass RL = some m.cls := hown
  have hb : c.code = cL_law := hb
  have hbA : ¬ s.heap.size ≤ sc := Nat.not_le.mpr hbl
  refine lv_aload_n hx hb dL_law_1052 rfl (lv_at hl 1 rfl) ?_
  refine lw_elem (k := 1) (a := 0) (b := 4) hx hb hX hbl hbA hS hl rfl rfl (by omega) hL (by decide) dL_law_1053 dL_law_1054 dL_law_1056 dL_law_1057 dL_law_1058 ?_
  refine lv_aload_n hx hb dL_law_1059 rfl (lv_at hl 3 rfl) ?_
  obtain ⟨F, G, r1, sl1, g1, cn1, V1, T1, X1, vb1, S1, M1, h1, h2, h3, h4, h5⟩ := tw_waiting l hst D cy o f a t h x b ad (T := T) R hB r vb hh (xs (i + 1))
  refine lw_callW (rest := []) h1 ⟨hx, hb, hml, hown, hts⟩ (vx_cwSW 3 hts gL_law_L_waiting rfl rfl rfl (by decide +kernel) ⟨Nat.le_of_ble_eq_true rfl, Nat.le_of_ble_eq_true rfl⟩) hK hP hD hS hE rfl hl.1 rfl (by decide) dL_law_1060 ⟨by show cells + 1 ≤ 601024; omega, by show slots + 6 ≤ 7293034; omega⟩ (fun H locs hP hD hS => ?_)
  refine lv_istore (lv' := [(5, .int F), (0, .ref sc), (1, .ref (f 0)), (2, .ref (b 0)), (3, .ref o), (4, .int (nI i))]) hx hb dL_law_1063 hl (by decide) rfl (fun ls hl => ?_)
  refine lv_aload_n hx hb dL_law_1065 rfl (lv_at hl 3 rfl) ?_
  refine lw_elem (k := 1) (a := 1) (b := 5) hx hb hX hbl hbA hS hl rfl rfl (by omega) hL (by decide) dL_law_1066 dL_law_1067 dL_law_1069 dL_law_1070 dL_law_1071 ?_
  refine lw_callM (E := fun _ => fz_T) (rest := []) (lw_mw h2) ⟨hx, hb, hml, hown, hts⟩ (cwV 1 hts gL_law_X9_waiting rfl rfl rfl (by decide +kernel) ⟨Nat.le_of_ble_eq_true rfl, Nat.le_of_ble_eq_true rfl⟩) rfl rfl hK hP hD hS (fun _ => fz_T_bl) (fun _ _ _ _ _ => trivial) rfl hl.1 rfl (by decide) dL_law_1072 ⟨by show cells + 1 + 0 ≤ 601024; omega, by show slots + 6 + 0 ≤ 7293034; omega⟩ (fun H locs hP hD hS => ?_)
  refine lw_tail ⟨hx, hb, hml, hown, hts⟩ (cwV 0 hts gL_law_X9_thrown rfl rfl rfl (by decide +kernel) ⟨Nat.le_of_ble_eq_true rfl, Nat.le_of_ble_eq_true rfl⟩) hK hP hl h4 h5 dL_law_1075 dL_law_1077 dL_law_1078 dL_law_1081 dL_law_1083 dL_law_1088 dL_law_1090 dL_law_1093 dL_law_1094 dL_law_1095 dL_law_1096 dL_law_1098 dL_law_1099 dL_law_1100 dL_law_1105 (by decide) ⟨by show cells + 1 + 0 ≤ 601024; omega, by show slots + 6 + 0 ≤ 7293034; omega⟩ (fun ls hl => ?_)
  exact W.widen (by omega) (by omega) (kk _ _ _ _ _ _ _ _ _ _ _ _ _ _ (h3.mono (by omega)) hP hD hS hl)
set_option maxHeartbeats 4000000 in
set_option maxRecDepth 100000 in
theorem lk_frozen (C0 : lw_At p s m meth c sc L xs) (hst : l.stackTraces = false) (hK : va_K D vwCl (fz_TY cy) s) (hE : fz_Ew (fun q : Nat => s.heap.size ≤ q) s) (hEr : fz_Er ad adK adV (fun q : Nat => s.heap.size ≤ q) s) (hNw : fz_Nw s) (hi : i + 4 < L) (hL : L ≤ 2560) (R : lR B V X M S g sl cn) (hB : B < 1990000000) (hP : va_P D vwCl (lwW cy o f a t h x b ad r sl g cn V T X vb S M hh) H) (hD : va_D (fun q : Nat => s.heap.size ≤ q) (lwW cy o f a t h x b ad r sl g cn V T X vb S M hh)) (hS : va_S (fun q : Nat => s.heap.size ≤ q) s.heap H locs) (hl : lv_has ls 7 [(0, .ref sc), (1, .ref (f 0)), (2, .ref (b 0)), (3, .ref o), (4, .int (nI i))]) (hc : cells + 2 ≤ 601024) (hs : slots + 12 ≤ 7293034) (kk : lw_K p l e s m below meth c D cy o f a t h x b ad sc i (B + 1000000) (cells + 2) (slots + 12) Q) : W p l e room_1 s m #[Value.ref sc] below meth c H locs cells slots Q (F0 m 1108 ls []) := by
  obtain ⟨hx, hb, hr, hml, hown, hts0, hX, hbl, hlocks, -⟩ := C0
  have hts : ∀ w ∈ wsL_law, w.before #[Value.ref sc] s = true := fun w z9 => hts0 w (wsL_law_in w z9)
  have hown : s.vm.findClass RL = some m.cls := hown
  have hb : c.code = cL_law := hb
  have hbA : ¬ s.heap.size ≤ sc := Nat.not_le.mpr hbl
  refine lv_aload_n hx hb dL_law_1108 rfl (lv_at hl 1 rfl) ?_
  refine lw_elem (k := 1) (a := 0) (b := 4) hx hb hX hbl hbA hS hl rfl rfl (by omega) hL (by decide) dL_law_1109 dL_law_1110 dL_law_1112 dL_law_1113 dL_law_1114 ?_
  refine lv_aload_n hx hb dL_law_1115 rfl (lv_at hl 3 rfl) ?_
  obtain ⟨F, G, r1, sl1, g1, cn1, V1, T1, X1, vb1, S1, M1, h1, h2, h3, h4, h5⟩ := tw_frozen l hst D cy o f a t h x b ad (T := T) R hB r vb hh (xs (i + 1))
  refine lw_callW (rest := []) h1 ⟨hx, hb, hml, hown, hts⟩ (vx_cwSW 3 hts gL_law_L_frozen rfl rfl rfl (by decide +kernel) ⟨Nat.le_of_ble_eq_true rfl, Nat.le_of_ble_eq_true rfl⟩) hK hP hD hS hE rfl hl.1 rfl (by decide) dL_law_1116 ⟨by show cells + 1 ≤ 601024; omega, by show slots + 6 ≤ 7293034; omega⟩ (fun H locs hP hD hS => ?_)
  refine lv_istore (lv' := [(5, .int F), (0, .ref sc), (1, .ref (f 0)), (2, .ref (b 0)), (3, .ref o), (4, .int (nI i))]) hx hb dL_law_1119 hl (by decide) rfl (fun ls hl => ?_)
  refine lv_aload_n hx hb dL_law_1121 rfl (lv_at hl 3 rfl) ?_
  refine lw_elem (k := 1) (a := 1) (b := 5) hx hb hX hbl hbA hS hl rfl rfl (by omega) hL (by decide) dL_law_1122 dL_law_1123 dL_law_1125 dL_law_1126 dL_law_1127 ?_
  refine lw_callM (E := fun _ => fz_T) (rest := []) (lw_mw h2) ⟨hx, hb, hml, hown, hts⟩ (cwV 1 hts gL_law_X9_frozen rfl rfl rfl (by decide +kernel) ⟨Nat.le_of_ble_eq_true rfl, Nat.le_of_ble_eq_true rfl⟩) rfl rfl hK hP hD hS (fun _ => fz_T_bl) (fun _ _ _ _ _ => trivial) rfl hl.1 rfl (by decide) dL_law_1128 ⟨by show cells + 1 + 0 ≤ 601024; omega, by show slots + 6 + 0 ≤ 7293034; omega⟩ (fun H locs hP hD hS => ?_)
  refine lw_tail ⟨hx, hb, hml, hown, hts⟩ (cwV 0 hts gL_law_X9_thrown rfl rfl rfl (by decide +kernel) ⟨Nat.le_of_ble_eq_true rfl, Nat.le_of_ble_eq_true rfl⟩) hK hP hl h4 h5 dL_law_1131 dL_law_1133 dL_law_1134 dL_law_1137 dL_law_1139 dL_law_1144 dL_law_1146 dL_law_1149 dL_law_1150 dL_law_1151 dL_law_1152 dL_law_1154 dL_law_1155 dL_law_1156 dL_law_1161 (by decide) ⟨by show cells + 1 + 0 ≤ 601024; omega, by show slots + 6 + 0 ≤ 7293034; omega⟩ (fun ls hl => ?_)
  exact W.widen (by omega) (by omega) (kk _ _ _ _ _ _ _ _ _ _ _ _ _ _ (h3.mono (by omega)) hP hD hS hl)
set_option maxHeartbeats 4000000 in
set_option maxRecDepth 100000 in
theorem lk_whole (C0 : lw_At p s m meth c sc L xs) (hst : l.stackTraces = false) (hK : va_K D vwCl (fz_TY cy) s) (hE : fz_Ew (fun q : Nat => s.heap.size ≤ q) s) (hEr : fz_Er ad adK adV (fun q : Nat => s.heap.size ≤ q) s) (hNw : fz_Nw s) (hi : i + 4 < L) (hL : L ≤ 2560) (R : lR B V X M S g sl cn) (hB : B < 1990000000) (hP : va_P D vwCl (lwW cy o f a t h x b ad r sl g cn V T X vb S M hh) H) (hD : va_D (fun q : Nat => s.heap.size ≤ q) (lwW cy o f a t h x b ad r sl g cn V T X vb S M hh)) (hS : va_S (fun q : Nat => s.heap.size ≤ q) s.heap H locs) (hl : lv_has ls 7 [(0, .ref sc), (1, .ref (f 0)), (2, .ref (b 0)), (3, .ref o), (4, .int (nI i))]) (hc : cells + 2 ≤ 601024) (hs : slots + 12 ≤ 7293034) (kk : lw_K p l e s m below meth c D cy o f a t h x b ad sc i (B + 1000000) (cells + 2) (slots + 12) Q) : W p l e room_1 s m #[Value.ref sc] below meth c H locs cells slots Q (F0 m 1164 ls []) := by
  obtain ⟨hx, hb, hr, hml, hown, hts0, hX, hbl, hlocks, -⟩ := C0
  have hts : ∀ w ∈ wsL_law, w.before #[Value.ref sc] s = true := fun w z9 => hts0 w (wsL_law_in w z9)
  have hown : s.vm.findClass RL = some m.cls := hown
  have hb : c.code = cL_law := hb
  have hbA : ¬ s.heap.size ≤ sc := Nat.not_le.mpr hbl
  refine lv_aload_n hx hb dL_law_1164 rfl (lv_at hl 1 rfl) ?_
  refine lw_elem (k := 1) (a := 0) (b := 4) hx hb hX hbl hbA hS hl rfl rfl (by omega) hL (by decide) dL_law_1165 dL_law_1166 dL_law_1168 dL_law_1169 dL_law_1170 ?_
  refine lv_aload_n hx hb dL_law_1171 rfl (lv_at hl 3 rfl) ?_
  obtain ⟨F, G, r1, sl1, g1, cn1, V1, T1, X1, vb1, S1, M1, h1, h2, h3, h4, h5⟩ := tw_whole l hst D cy o f a t h x b ad (T := T) R hB r vb hh (xs (i + 1))
  refine lw_callW (rest := []) h1 ⟨hx, hb, hml, hown, hts⟩ (vx_cwSW 3 hts gL_law_L_whole rfl rfl rfl (by decide +kernel) ⟨Nat.le_of_ble_eq_true rfl, Nat.le_of_ble_eq_true rfl⟩) hK hP hD hS hE rfl hl.1 rfl (by decide) dL_law_1172 ⟨by show cells + 1 ≤ 601024; omega, by show slots + 6 ≤ 7293034; omega⟩ (fun H locs hP hD hS => ?_)
  refine lv_istore (lv' := [(5, .int F), (0, .ref sc), (1, .ref (f 0)), (2, .ref (b 0)), (3, .ref o), (4, .int (nI i))]) hx hb dL_law_1175 hl (by decide) rfl (fun ls hl => ?_)
  refine lv_aload_n hx hb dL_law_1177 rfl (lv_at hl 3 rfl) ?_
  refine lw_elem (k := 1) (a := 1) (b := 5) hx hb hX hbl hbA hS hl rfl rfl (by omega) hL (by decide) dL_law_1178 dL_law_1179 dL_law_1181 dL_law_1182 dL_law_1183 ?_
  refine lw_callM (E := fun _ => fz_T) (rest := []) (lw_mw h2) ⟨hx, hb, hml, hown, hts⟩ (cwV 1 hts gL_law_X9_whole rfl rfl rfl (by decide +kernel) ⟨Nat.le_of_ble_eq_true rfl, Nat.le_of_ble_eq_true rfl⟩) rfl rfl hK hP hD hS (fun _ => fz_T_bl) (fun _ _ _ _ _ => trivial) rfl hl.1 rfl (by decide) dL_law_1184 ⟨by show cells + 1 + 0 ≤ 601024; omega, by show slots + 6 + 0 ≤ 7293034; omega⟩ (fun H locs hP hD hS => ?_)
  refine lw_tail ⟨hx, hb, hml, hown, hts⟩ (cwV 0 hts gL_law_X9_thrown rfl rfl rfl (by decide +kernel) ⟨Nat.le_of_ble_eq_true rfl, Nat.le_of_ble_eq_true rfl⟩) hK hP hl h4 h5 dL_law_1187 dL_law_1189 dL_law_1190 dL_law_1193 dL_law_1195 dL_law_1200 dL_law_1202 dL_law_1205 dL_law_1206 dL_law_1207 dL_law_1208 dL_law_1210 dL_law_1211 dL_law_1212 dL_law_1217 (by decide) ⟨by show cells + 1 + 0 ≤ 601024; omega, by show slots + 6 + 0 ≤ 7293034; omega⟩ (fun ls hl => ?_)
  exact W.widen (by omega) (by omega) (kk _ _ _ _ _ _ _ _ _ _ _ _ _ _ (h3.mono (by omega)) hP hD hS hl)
set_option maxHeartbeats 4000000 in
set_option maxRecDepth 100000 in
theorem lk_reason (C0 : lw_At p s m meth c sc L xs) (hst : l.stackTraces = false) (hK : va_K D vwCl (fz_TY cy) s) (hE : fz_Ew (fun q : Nat => s.heap.size ≤ q) s) (hEr : fz_Er ad adK adV (fun q : Nat => s.heap.size ≤ q) s) (hNw : fz_Nw s) (hi : i + 4 < L) (hL : L ≤ 2560) (R : lR B V X M S g sl cn) (hB : B < 1990000000) (hP : va_P D vwCl (lwW cy o f a t h x b ad r sl g cn V T X vb S M hh) H) (hD : va_D (fun q : Nat => s.heap.size ≤ q) (lwW cy o f a t h x b ad r sl g cn V T X vb S M hh)) (hS : va_S (fun q : Nat => s.heap.size ≤ q) s.heap H locs) (hl : lv_has ls 7 [(0, .ref sc), (1, .ref (f 0)), (2, .ref (b 0)), (3, .ref o), (4, .int (nI i))]) (hc : cells + 2 ≤ 601024) (hs : slots + 12 ≤ 7293034) (kk : lw_K p l e s m below meth c D cy o f a t h x b ad sc i (B + 1000000) (cells + 2) (slots + 12) Q) : W p l e room_1 s m #[Value.ref sc] below meth c H locs cells slots Q (F0 m 1220 ls []) := by
  obtain ⟨hx, hb, hr, hml, hown, hts0, hX, hbl, hlocks, -⟩ := C0
  have hts : ∀ w ∈ wsL_law, w.before #[Value.ref sc] s = true := fun w z9 => hts0 w (wsL_law_in w z9)
  have hown : s.vm.findClass RL = some m.cls := hown
  have hb : c.code = cL_law := hb
  have hbA : ¬ s.heap.size ≤ sc := Nat.not_le.mpr hbl
  refine lv_aload_n hx hb dL_law_1220 rfl (lv_at hl 1 rfl) ?_
  refine lw_elem (k := 1) (a := 0) (b := 4) hx hb hX hbl hbA hS hl rfl rfl (by omega) hL (by decide) dL_law_1221 dL_law_1222 dL_law_1224 dL_law_1225 dL_law_1226 ?_
  refine lv_aload_n hx hb dL_law_1227 rfl (lv_at hl 3 rfl) ?_
  obtain ⟨F, G, r1, sl1, g1, cn1, V1, T1, X1, vb1, S1, M1, h1, h2, h3, h4, h5⟩ := tw_reason l hst D cy o f a t h x b ad (T := T) R hB r vb hh (xs (i + 1))
  refine lw_callW (rest := []) h1 ⟨hx, hb, hml, hown, hts⟩ (vx_cwSW 3 hts gL_law_L_reason rfl rfl rfl (by decide +kernel) ⟨Nat.le_of_ble_eq_true rfl, Nat.le_of_ble_eq_true rfl⟩) hK hP hD hS hE rfl hl.1 rfl (by decide) dL_law_1228 ⟨by show cells + 1 ≤ 601024; omega, by show slots + 6 ≤ 7293034; omega⟩ (fun H locs hP hD hS => ?_)
  refine lv_istore (lv' := [(5, .int F), (0, .ref sc), (1, .ref (f 0)), (2, .ref (b 0)), (3, .ref o), (4, .int (nI i))]) hx hb dL_law_1231 hl (by decide) rfl (fun ls hl => ?_)
  refine lv_aload_n hx hb dL_law_1233 rfl (lv_at hl 3 rfl) ?_
  refine lw_elem (k := 1) (a := 1) (b := 5) hx hb hX hbl hbA hS hl rfl rfl (by omega) hL (by decide) dL_law_1234 dL_law_1235 dL_law_1237 dL_law_1238 dL_law_1239 ?_
  refine lw_callM (E := fun _ => fz_T) (rest := []) (lw_mw h2) ⟨hx, hb, hml, hown, hts⟩ (cwV 1 hts gL_law_X9_reason rfl rfl rfl (by decide +kernel) ⟨Nat.le_of_ble_eq_true rfl, Nat.le_of_ble_eq_true rfl⟩) rfl rfl hK hP hD hS (fun _ => fz_T_bl) (fun _ _ _ _ _ => trivial) rfl hl.1 rfl (by decide) dL_law_1240 ⟨by show cells + 1 + 0 ≤ 601024; omega, by show slots + 6 + 0 ≤ 7293034; omega⟩ (fun H locs hP hD hS => ?_)
  refine lw_tail ⟨hx, hb, hml, hown, hts⟩ (cwV 0 hts gL_law_X9_thrown rfl rfl rfl (by decide +kernel) ⟨Nat.le_of_ble_eq_true rfl, Nat.le_of_ble_eq_true rfl⟩) hK hP hl h4 h5 dL_law_1243 dL_law_1245 dL_law_1246 dL_law_1249 dL_law_1251 dL_law_1256 dL_law_1258 dL_law_1261 dL_law_1262 dL_law_1263 dL_law_1264 dL_law_1266 dL_law_1267 dL_law_1268 dL_law_1273 (by decide) ⟨by show cells + 1 + 0 ≤ 601024; omega, by show slots + 6 + 0 ≤ 7293034; omega⟩ (fun ls hl => ?_)
  exact W.widen (by omega) (by omega) (kk _ _ _ _ _ _ _ _ _ _ _ _ _ _ (h3.mono (by omega)) hP hD hS hl)
set_option maxHeartbeats 4000000 in
set_option maxRecDepth 100000 in
theorem lk_exemptible (C0 : lw_At p s m meth c sc L xs) (hst : l.stackTraces = false) (hK : va_K D vwCl (fz_TY cy) s) (hE : fz_Ew (fun q : Nat => s.heap.size ≤ q) s) (hEr : fz_Er ad adK adV (fun q : Nat => s.heap.size ≤ q) s) (hNw : fz_Nw s) (hi : i + 4 < L) (hL : L ≤ 2560) (R : lR B V X M S g sl cn) (hB : B < 1990000000) (hP : va_P D vwCl (lwW cy o f a t h x b ad r sl g cn V T X vb S M hh) H) (hD : va_D (fun q : Nat => s.heap.size ≤ q) (lwW cy o f a t h x b ad r sl g cn V T X vb S M hh)) (hS : va_S (fun q : Nat => s.heap.size ≤ q) s.heap H locs) (hl : lv_has ls 7 [(0, .ref sc), (1, .ref (f 0)), (2, .ref (b 0)), (3, .ref o), (4, .int (nI i))]) (hc : cells + 2 ≤ 601024) (hs : slots + 12 ≤ 7293034) (kk : lw_K p l e s m below meth c D cy o f a t h x b ad sc i (B + 1000000) (cells + 2) (slots + 12) Q) : W p l e room_1 s m #[Value.ref sc] below meth c H locs cells slots Q (F0 m 1276 ls []) := by
  obtain ⟨hx, hb, hr, hml, hown, hts0, hX, hbl, hlocks, -⟩ := C0
  have hts : ∀ w ∈ wsL_law, w.before #[Value.ref sc] s = true := fun w z9 => hts0 w (wsL_law_in w z9)
  have hown : s.vm.findClass RL = some m.cls := hown
  have hb : c.code = cL_law := hb
  have hbA : ¬ s.heap.size ≤ sc := Nat.not_le.mpr hbl
  refine lv_aload_n hx hb dL_law_1276 rfl (lv_at hl 1 rfl) ?_
  refine lw_elem (k := 1) (a := 0) (b := 4) hx hb hX hbl hbA hS hl rfl rfl (by omega) hL (by decide) dL_law_1277 dL_law_1278 dL_law_1280 dL_law_1281 dL_law_1282 ?_
  refine lv_aload_n hx hb dL_law_1283 rfl (lv_at hl 3 rfl) ?_
  obtain ⟨F, G, r1, sl1, g1, cn1, V1, T1, X1, vb1, S1, M1, h1, h2, h3, h4, h5⟩ := tw_exemptible l hst D cy o f a t h x b ad (T := T) R hB r vb hh (xs (i + 1))
  refine lw_callW (rest := []) h1 ⟨hx, hb, hml, hown, hts⟩ (vx_cwSW 3 hts gL_law_L_exemptible rfl rfl rfl (by decide +kernel) ⟨Nat.le_of_ble_eq_true rfl, Nat.le_of_ble_eq_true rfl⟩) hK hP hD hS hE rfl hl.1 rfl (by decide) dL_law_1284 ⟨by show cells + 1 ≤ 601024; omega, by show slots + 6 ≤ 7293034; omega⟩ (fun H locs hP hD hS => ?_)
  refine lv_istore (lv' := [(5, .int F), (0, .ref sc), (1, .ref (f 0)), (2, .ref (b 0)), (3, .ref o), (4, .int (nI i))]) hx hb dL_law_1287 hl (by decide) rfl (fun ls hl => ?_)
  refine lv_aload_n hx hb dL_law_1289 rfl (lv_at hl 3 rfl) ?_
  refine lw_elem (k := 1) (a := 1) (b := 5) hx hb hX hbl hbA hS hl rfl rfl (by omega) hL (by decide) dL_law_1290 dL_law_1291 dL_law_1293 dL_law_1294 dL_law_1295 ?_
  refine lw_callM (E := fun _ => fz_T) (rest := []) (lw_mw h2) ⟨hx, hb, hml, hown, hts⟩ (cwV 1 hts gL_law_X9_exemptible rfl rfl rfl (by decide +kernel) ⟨Nat.le_of_ble_eq_true rfl, Nat.le_of_ble_eq_true rfl⟩) rfl rfl hK hP hD hS (fun _ => fz_T_bl) (fun _ _ _ _ _ => trivial) rfl hl.1 rfl (by decide) dL_law_1296 ⟨by show cells + 1 + 0 ≤ 601024; omega, by show slots + 6 + 0 ≤ 7293034; omega⟩ (fun H locs hP hD hS => ?_)
  refine lw_tail ⟨hx, hb, hml, hown, hts⟩ (cwV 0 hts gL_law_X9_thrown rfl rfl rfl (by decide +kernel) ⟨Nat.le_of_ble_eq_true rfl, Nat.le_of_ble_eq_true rfl⟩) hK hP hl h4 h5 dL_law_1299 dL_law_1301 dL_law_1302 dL_law_1305 dL_law_1307 dL_law_1312 dL_law_1314 dL_law_1317 dL_law_1318 dL_law_1319 dL_law_1320 dL_law_1322 dL_law_1323 dL_law_1324 dL_law_1329 (by decide) ⟨by show cells + 1 + 0 ≤ 601024; omega, by show slots + 6 + 0 ≤ 7293034; omega⟩ (fun ls hl => ?_)
  exact W.widen (by omega) (by omega) (kk _ _ _ _ _ _ _ _ _ _ _ _ _ _ (h3.mono (by omega)) hP hD hS hl)
set_option maxHeartbeats 4000000 in
set_option maxRecDepth 100000 in
theorem lk_weeksUntil (C0 : lw_At p s m meth c sc L xs) (hst : l.stackTraces = false) (hK : va_K D vwCl (fz_TY cy) s) (hE : fz_Ew (fun q : Nat => s.heap.size ≤ q) s) (hEr : fz_Er ad adK adV (fun q : Nat => s.heap.size ≤ q) s) (hNw : fz_Nw s) (hi : i + 4 < L) (hL : L ≤ 2560) (R : lR B V X M S g sl cn) (hB : B < 1990000000) (hP : va_P D vwCl (lwW cy o f a t h x b ad r sl g cn V T X vb S M hh) H) (hD : va_D (fun q : Nat => s.heap.size ≤ q) (lwW cy o f a t h x b ad r sl g cn V T X vb S M hh)) (hS : va_S (fun q : Nat => s.heap.size ≤ q) s.heap H locs) (hl : lv_has ls 7 [(0, .ref sc), (1, .ref (f 0)), (2, .ref (b 0)), (3, .ref o), (4, .int (nI i))]) (hc : cells + 2 ≤ 601024) (hs : slots + 12 ≤ 7293034) (kk : lw_K p l e s m below meth c D cy o f a t h x b ad sc i (B + 1000000) (cells + 2) (slots + 12) Q) : W p l e room_1 s m #[Value.ref sc] below meth c H locs cells slots Q (F0 m 1332 ls []) := by
  obtain ⟨hx, hb, hr, hml, hown, hts0, hX, hbl, hlocks, -⟩ := C0
  have hts : ∀ w ∈ wsL_law, w.before #[Value.ref sc] s = true := fun w z9 => hts0 w (wsL_law_in w z9)
  have hown : s.vm.findClass RL = some m.cls := hown
  have hb : c.code = cL_law := hb
  have hbA : ¬ s.heap.size ≤ sc := Nat.not_le.mpr hbl
  refine lv_aload_n hx hb dL_law_1332 rfl (lv_at hl 1 rfl) ?_
  refine lw_elem (k := 1) (a := 0) (b := 4) hx hb hX hbl hbA hS hl rfl rfl (by omega) hL (by decide) dL_law_1333 dL_law_1334 dL_law_1336 dL_law_1337 dL_law_1338 ?_
  refine lw_elem (k := 2) (a := 0) (b := 4) hx hb hX hbl hbA hS hl rfl rfl (by omega) hL (by decide) dL_law_1339 dL_law_1340 dL_law_1342 dL_law_1343 dL_law_1344 ?_
  refine lv_aload_n hx hb dL_law_1345 rfl (lv_at hl 3 rfl) ?_
  obtain ⟨F, G, r1, sl1, g1, cn1, V1, T1, X1, vb1, S1, M1, h1, h2, h3, h4, h5⟩ := tw_weeksUntil l hst D cy o f a t h x b ad (T := T) R hB r vb hh (xs (i + 1)) (xs (i + 2))
  refine lw_callW (rest := []) h1 ⟨hx, hb, hml, hown, hts⟩ (vx_cwSW 4 hts gL_law_L_weeksUntil rfl rfl rfl (by decide +kernel) ⟨Nat.le_of_ble_eq_true rfl, Nat.le_of_ble_eq_true rfl⟩) hK hP hD hS hE rfl hl.1 rfl (by decide) dL_law_1346 ⟨by show cells + 2 ≤ 601024; omega, by show slots + 12 ≤ 7293034; omega⟩ (fun H locs hP hD hS => ?_)
  refine lv_istore (lv' := [(5, .int F), (0, .ref sc), (1, .ref (f 0)), (2, .ref (b 0)), (3, .ref o), (4, .int (nI i))]) hx hb dL_law_1349 hl (by decide) rfl (fun ls hl => ?_)
  refine lv_aload_n hx hb dL_law_1351 rfl (lv_at hl 3 rfl) ?_
  refine lw_elem (k := 1) (a := 1) (b := 5) hx hb hX hbl hbA hS hl rfl rfl (by omega) hL (by decide) dL_law_1352 dL_law_1353 dL_law_1355 dL_law_1356 dL_law_1357 ?_
  refine lw_elem (k := 2) (a := 1) (b := 5) hx hb hX hbl hbA hS hl rfl rfl (by omega) hL (by decide) dL_law_1358 dL_law_1359 dL_law_1361 dL_law_1362 dL_law_1363 ?_
  refine lw_callM (E := fun _ => fz_T) (rest := []) (lw_mw h2) ⟨hx, hb, hml, hown, hts⟩ (cwV 2 hts gL_law_X9_weeksUntil rfl rfl rfl (by decide +kernel) ⟨Nat.le_of_ble_eq_true rfl, Nat.le_of_ble_eq_true rfl⟩) rfl rfl hK hP hD hS (fun _ => fz_T_bl) (fun _ _ _ _ _ => trivial) rfl hl.1 rfl (by decide) dL_law_1364 ⟨by show cells + 2 + 0 ≤ 601024; omega, by show slots + 12 + 0 ≤ 7293034; omega⟩ (fun H locs hP hD hS => ?_)
  refine lw_tail ⟨hx, hb, hml, hown, hts⟩ (cwV 0 hts gL_law_X9_thrown rfl rfl rfl (by decide +kernel) ⟨Nat.le_of_ble_eq_true rfl, Nat.le_of_ble_eq_true rfl⟩) hK hP hl h4 h5 dL_law_1367 dL_law_1369 dL_law_1370 dL_law_1373 dL_law_1375 dL_law_1380 dL_law_1382 dL_law_1385 dL_law_1386 dL_law_1387 dL_law_1388 dL_law_1390 dL_law_1391 dL_law_1392 dL_law_1397 (by decide) ⟨by show cells + 2 + 0 ≤ 601024; omega, by show slots + 12 + 0 ≤ 7293034; omega⟩ (fun ls hl => ?_)
  exact W.widen (by omega) (by omega) (kk _ _ _ _ _ _ _ _ _ _ _ _ _ _ (h3.mono (by omega)) hP hD hS hl)
set_option maxHeartbeats 4000000 in
set_option maxRecDepth 100000 in
theorem lk_lender (C0 : lw_At p s m meth c sc L xs) (hst : l.stackTraces = false) (hK : va_K D vwCl (fz_TY cy) s) (hE : fz_Ew (fun q : Nat => s.heap.size ≤ q) s) (hEr : fz_Er ad adK adV (fun q : Nat => s.heap.size ≤ q) s) (hNw : fz_Nw s) (hi : i + 4 < L) (hL : L ≤ 2560) (R : lR B V X M S g sl cn) (hB : B < 1990000000) (hP : va_P D vwCl (lwW cy o f a t h x b ad r sl g cn V T X vb S M hh) H) (hD : va_D (fun q : Nat => s.heap.size ≤ q) (lwW cy o f a t h x b ad r sl g cn V T X vb S M hh)) (hS : va_S (fun q : Nat => s.heap.size ≤ q) s.heap H locs) (hl : lv_has ls 7 [(0, .ref sc), (1, .ref (f 0)), (2, .ref (b 0)), (3, .ref o), (4, .int (nI i))]) (hc : cells + 2 ≤ 601024) (hs : slots + 12 ≤ 7293034) (kk : lw_K p l e s m below meth c D cy o f a t h x b ad sc i (B + 1000000) (cells + 2) (slots + 12) Q) : W p l e room_1 s m #[Value.ref sc] below meth c H locs cells slots Q (F0 m 1400 ls []) := by
  obtain ⟨hx, hb, hr, hml, hown, hts0, hX, hbl, hlocks, -⟩ := C0
  have hts : ∀ w ∈ wsL_law, w.before #[Value.ref sc] s = true := fun w z9 => hts0 w (wsL_law_in w z9)
  have hown : s.vm.findClass RL = some m.cls := hown
  have hb : c.code = cL_law := hb
  have hbA : ¬ s.heap.size ≤ sc := Nat.not_le.mpr hbl
  refine lv_aload_n hx hb dL_law_1400 rfl (lv_at hl 1 rfl) ?_
  refine lw_elem (k := 1) (a := 0) (b := 4) hx hb hX hbl hbA hS hl rfl rfl (by omega) hL (by decide) dL_law_1401 dL_law_1402 dL_law_1404 dL_law_1405 dL_law_1406 ?_
  refine lw_elem (k := 2) (a := 0) (b := 4) hx hb hX hbl hbA hS hl rfl rfl (by omega) hL (by decide) dL_law_1407 dL_law_1408 dL_law_1410 dL_law_1411 dL_law_1412 ?_
  refine lv_aload_n hx hb dL_law_1413 rfl (lv_at hl 3 rfl) ?_
  obtain ⟨F, G, r1, sl1, g1, cn1, V1, T1, X1, vb1, S1, M1, h1, h2, h3, h4, h5⟩ := tw_lender l hst D cy o f a t h x b ad (T := T) R hB r vb hh (xs (i + 1)) (xs (i + 2))
  refine lw_callW (rest := []) h1 ⟨hx, hb, hml, hown, hts⟩ (vx_cwSW 4 hts gL_law_L_lender rfl rfl rfl (by decide +kernel) ⟨Nat.le_of_ble_eq_true rfl, Nat.le_of_ble_eq_true rfl⟩) hK hP hD hS hE rfl hl.1 rfl (by decide) dL_law_1414 ⟨by show cells + 2 ≤ 601024; omega, by show slots + 12 ≤ 7293034; omega⟩ (fun H locs hP hD hS => ?_)
  refine lv_istore (lv' := [(5, .int F), (0, .ref sc), (1, .ref (f 0)), (2, .ref (b 0)), (3, .ref o), (4, .int (nI i))]) hx hb dL_law_1417 hl (by decide) rfl (fun ls hl => ?_)
  refine lv_aload_n hx hb dL_law_1419 rfl (lv_at hl 3 rfl) ?_
  refine lw_elem (k := 1) (a := 1) (b := 5) hx hb hX hbl hbA hS hl rfl rfl (by omega) hL (by decide) dL_law_1420 dL_law_1421 dL_law_1423 dL_law_1424 dL_law_1425 ?_
  refine lw_elem (k := 2) (a := 1) (b := 5) hx hb hX hbl hbA hS hl rfl rfl (by omega) hL (by decide) dL_law_1426 dL_law_1427 dL_law_1429 dL_law_1430 dL_law_1431 ?_
  refine lw_callM (E := fun _ => fz_T) (rest := []) (lw_mw h2) ⟨hx, hb, hml, hown, hts⟩ (cwV 2 hts gL_law_X9_lender rfl rfl rfl (by decide +kernel) ⟨Nat.le_of_ble_eq_true rfl, Nat.le_of_ble_eq_true rfl⟩) rfl rfl hK hP hD hS (fun _ => fz_T_bl) (fun _ _ _ _ _ => trivial) rfl hl.1 rfl (by decide) dL_law_1432 ⟨by show cells + 2 + 0 ≤ 601024; omega, by show slots + 12 + 0 ≤ 7293034; omega⟩ (fun H locs hP hD hS => ?_)
  refine lw_tail ⟨hx, hb, hml, hown, hts⟩ (cwV 0 hts gL_law_X9_thrown rfl rfl rfl (by decide +kernel) ⟨Nat.le_of_ble_eq_true rfl, Nat.le_of_ble_eq_true rfl⟩) hK hP hl h4 h5 dL_law_1435 dL_law_1437 dL_law_1438 dL_law_1441 dL_law_1443 dL_law_1448 dL_law_1450 dL_law_1453 dL_law_1454 dL_law_1455 dL_law_1456 dL_law_1458 dL_law_1459 dL_law_1460 dL_law_1465 (by decide) ⟨by show cells + 2 + 0 ≤ 601024; omega, by show slots + 12 + 0 ≤ 7293034; omega⟩ (fun ls hl => ?_)
  exact W.widen (by omega) (by omega) (kk _ _ _ _ _ _ _ _ _ _ _ _ _ _ (h3.mono (by omega)) hP hD hS hl)
set_option maxHeartbeats 4000000 in
set_option maxRecDepth 100000 in
theorem lk_inBeing (C0 : lw_At p s m meth c sc L xs) (hst : l.stackTraces = false) (hK : va_K D vwCl (fz_TY cy) s) (hE : fz_Ew (fun q : Nat => s.heap.size ≤ q) s) (hEr : fz_Er ad adK adV (fun q : Nat => s.heap.size ≤ q) s) (hNw : fz_Nw s) (hi : i + 4 < L) (hL : L ≤ 2560) (R : lR B V X M S g sl cn) (hB : B < 1990000000) (hP : va_P D vwCl (lwW cy o f a t h x b ad r sl g cn V T X vb S M hh) H) (hD : va_D (fun q : Nat => s.heap.size ≤ q) (lwW cy o f a t h x b ad r sl g cn V T X vb S M hh)) (hS : va_S (fun q : Nat => s.heap.size ≤ q) s.heap H locs) (hl : lv_has ls 7 [(0, .ref sc), (1, .ref (f 0)), (2, .ref (b 0)), (3, .ref o), (4, .int (nI i))]) (hc : cells + 2 ≤ 601024) (hs : slots + 12 ≤ 7293034) (kk : lw_K p l e s m below meth c D cy o f a t h x b ad sc i (B + 1000000) (cells + 2) (slots + 12) Q) : W p l e room_1 s m #[Value.ref sc] below meth c H locs cells slots Q (F0 m 1481 ls []) := by
  obtain ⟨hx, hb, hr, hml, hown, hts0, hX, hbl, hlocks, -⟩ := C0
  have hts : ∀ w ∈ wsL_law, w.before #[Value.ref sc] s = true := fun w z9 => hts0 w (wsL_law_in w z9)
  have hown : s.vm.findClass RL = some m.cls := hown
  have hb : c.code = cL_law := hb
  have hbA : ¬ s.heap.size ≤ sc := Nat.not_le.mpr hbl
  refine lv_aload_n hx hb dL_law_1481 rfl (lv_at hl 1 rfl) ?_
  refine lw_elem (k := 1) (a := 0) (b := 4) hx hb hX hbl hbA hS hl rfl rfl (by omega) hL (by decide) dL_law_1482 dL_law_1483 dL_law_1485 dL_law_1486 dL_law_1487 ?_
  refine lv_aload_n hx hb dL_law_1488 rfl (lv_at hl 3 rfl) ?_
  obtain ⟨F, G, r1, sl1, g1, cn1, V1, T1, X1, vb1, S1, M1, h1, h2, h3, h4, h5⟩ := tw_inBeing l hst D cy o f a t h x b ad (T := T) R hB r vb hh (xs (i + 1))
  refine lw_callW (rest := []) h1 ⟨hx, hb, hml, hown, hts⟩ (vx_cwSW 3 hts gL_law_L_inBeing rfl rfl rfl (by decide +kernel) ⟨Nat.le_of_ble_eq_true rfl, Nat.le_of_ble_eq_true rfl⟩) hK hP hD hS hE rfl hl.1 rfl (by decide) dL_law_1489 ⟨by show cells + 1 ≤ 601024; omega, by show slots + 6 ≤ 7293034; omega⟩ (fun H locs hP hD hS => ?_)
  refine lv_istore (lv' := [(5, .int F), (0, .ref sc), (1, .ref (f 0)), (2, .ref (b 0)), (3, .ref o), (4, .int (nI i))]) hx hb dL_law_1492 hl (by decide) rfl (fun ls hl => ?_)
  refine lv_aload_n hx hb dL_law_1494 rfl (lv_at hl 3 rfl) ?_
  refine lw_elem (k := 1) (a := 1) (b := 5) hx hb hX hbl hbA hS hl rfl rfl (by omega) hL (by decide) dL_law_1495 dL_law_1496 dL_law_1498 dL_law_1499 dL_law_1500 ?_
  refine lw_callM (E := fun _ => fz_T) (rest := []) (lw_mw h2) ⟨hx, hb, hml, hown, hts⟩ (cwV 1 hts gL_law_X9_inBeing rfl rfl rfl (by decide +kernel) ⟨Nat.le_of_ble_eq_true rfl, Nat.le_of_ble_eq_true rfl⟩) rfl rfl hK hP hD hS (fun _ => fz_T_bl) (fun _ _ _ _ _ => trivial) rfl hl.1 rfl (by decide) dL_law_1501 ⟨by show cells + 1 + 0 ≤ 601024; omega, by show slots + 6 + 0 ≤ 7293034; omega⟩ (fun H locs hP hD hS => ?_)
  refine lw_tail ⟨hx, hb, hml, hown, hts⟩ (cwV 0 hts gL_law_X9_thrown rfl rfl rfl (by decide +kernel) ⟨Nat.le_of_ble_eq_true rfl, Nat.le_of_ble_eq_true rfl⟩) hK hP hl h4 h5 dL_law_1504 dL_law_1506 dL_law_1507 dL_law_1510 dL_law_1512 dL_law_1517 dL_law_1519 dL_law_1522 dL_law_1523 dL_law_1524 dL_law_1525 dL_law_1527 dL_law_1528 dL_law_1529 dL_law_1534 (by decide) ⟨by show cells + 1 + 0 ≤ 601024; omega, by show slots + 6 + 0 ≤ 7293034; omega⟩ (fun ls hl => ?_)
  exact W.widen (by omega) (by omega) (kk _ _ _ _ _ _ _ _ _ _ _ _ _ _ (h3.mono (by omega)) hP hD hS hl)
set_option maxHeartbeats 4000000 in
set_option maxRecDepth 100000 in
theorem lk_type (C0 : lw_At p s m meth c sc L xs) (hst : l.stackTraces = false) (hK : va_K D vwCl (fz_TY cy) s) (hE : fz_Ew (fun q : Nat => s.heap.size ≤ q) s) (hEr : fz_Er ad adK adV (fun q : Nat => s.heap.size ≤ q) s) (hNw : fz_Nw s) (hi : i + 4 < L) (hL : L ≤ 2560) (R : lR B V X M S g sl cn) (hB : B < 1990000000) (hP : va_P D vwCl (lwW cy o f a t h x b ad r sl g cn V T X vb S M hh) H) (hD : va_D (fun q : Nat => s.heap.size ≤ q) (lwW cy o f a t h x b ad r sl g cn V T X vb S M hh)) (hS : va_S (fun q : Nat => s.heap.size ≤ q) s.heap H locs) (hl : lv_has ls 7 [(0, .ref sc), (1, .ref (f 0)), (2, .ref (b 0)), (3, .ref o), (4, .int (nI i))]) (hc : cells + 2 ≤ 601024) (hs : slots + 12 ≤ 7293034) (kk : lw_K p l e s m below meth c D cy o f a t h x b ad sc i (B + 1000000) (cells + 2) (slots + 12) Q) : W p l e room_1 s m #[Value.ref sc] below meth c H locs cells slots Q (F0 m 1537 ls []) := by
  obtain ⟨hx, hb, hr, hml, hown, hts0, hX, hbl, hlocks, -⟩ := C0
  have hts : ∀ w ∈ wsL_law, w.before #[Value.ref sc] s = true := fun w z9 => hts0 w (wsL_law_in w z9)
  have hown : s.vm.findClass RL = some m.cls := hown
  have hb : c.code = cL_law := hb
  have hbA : ¬ s.heap.size ≤ sc := Nat.not_le.mpr hbl
  refine lv_aload_n hx hb dL_law_1537 rfl (lv_at hl 1 rfl) ?_
  refine lw_elem (k := 1) (a := 0) (b := 4) hx hb hX hbl hbA hS hl rfl rfl (by omega) hL (by decide) dL_law_1538 dL_law_1539 dL_law_1541 dL_law_1542 dL_law_1543 ?_
  refine lv_aload_n hx hb dL_law_1544 rfl (lv_at hl 3 rfl) ?_
  obtain ⟨F, G, r1, sl1, g1, cn1, V1, T1, X1, vb1, S1, M1, h1, h2, h3, h4, h5⟩ := tw_type l hst D cy o f a t h x b ad (T := T) R hB r vb hh (xs (i + 1))
  refine lw_callW (rest := []) h1 ⟨hx, hb, hml, hown, hts⟩ (vx_cwSW 3 hts gL_law_L_type rfl rfl rfl (by decide +kernel) ⟨Nat.le_of_ble_eq_true rfl, Nat.le_of_ble_eq_true rfl⟩) hK hP hD hS hE rfl hl.1 rfl (by decide) dL_law_1545 ⟨by show cells + 1 ≤ 601024; omega, by show slots + 6 ≤ 7293034; omega⟩ (fun H locs hP hD hS => ?_)
  refine lv_istore (lv' := [(5, .int F), (0, .ref sc), (1, .ref (f 0)), (2, .ref (b 0)), (3, .ref o), (4, .int (nI i))]) hx hb dL_law_1548 hl (by decide) rfl (fun ls hl => ?_)
  refine lv_aload_n hx hb dL_law_1550 rfl (lv_at hl 3 rfl) ?_
  refine lw_elem (k := 1) (a := 1) (b := 5) hx hb hX hbl hbA hS hl rfl rfl (by omega) hL (by decide) dL_law_1551 dL_law_1552 dL_law_1554 dL_law_1555 dL_law_1556 ?_
  refine lw_callM (E := fun _ => fz_T) (rest := []) (lw_mw h2) ⟨hx, hb, hml, hown, hts⟩ (cwV 1 hts gL_law_X9_type rfl rfl rfl (by decide +kernel) ⟨Nat.le_of_ble_eq_true rfl, Nat.le_of_ble_eq_true rfl⟩) rfl rfl hK hP hD hS (fun _ => fz_T_bl) (fun _ _ _ _ _ => trivial) rfl hl.1 rfl (by decide) dL_law_1557 ⟨by show cells + 1 + 0 ≤ 601024; omega, by show slots + 6 + 0 ≤ 7293034; omega⟩ (fun H locs hP hD hS => ?_)
  refine lw_tail ⟨hx, hb, hml, hown, hts⟩ (cwV 0 hts gL_law_X9_thrown rfl rfl rfl (by decide +kernel) ⟨Nat.le_of_ble_eq_true rfl, Nat.le_of_ble_eq_true rfl⟩) hK hP hl h4 h5 dL_law_1560 dL_law_1562 dL_law_1563 dL_law_1566 dL_law_1568 dL_law_1573 dL_law_1575 dL_law_1578 dL_law_1579 dL_law_1580 dL_law_1581 dL_law_1583 dL_law_1584 dL_law_1585 dL_law_1590 (by decide) ⟨by show cells + 1 + 0 ≤ 601024; omega, by show slots + 6 + 0 ≤ 7293034; omega⟩ (fun ls hl => ?_)
  exact W.widen (by omega) (by omega) (kk _ _ _ _ _ _ _ _ _ _ _ _ _ _ (h3.mono (by omega)) hP hD hS hl)
set_option maxHeartbeats 4000000 in
set_option maxRecDepth 100000 in
theorem lk_undo (C0 : lw_At p s m meth c sc L xs) (hst : l.stackTraces = false) (hK : va_K D vwCl (fz_TY cy) s) (hE : fz_Ew (fun q : Nat => s.heap.size ≤ q) s) (hEr : fz_Er ad adK adV (fun q : Nat => s.heap.size ≤ q) s) (hNw : fz_Nw s) (hi : i + 4 < L) (hL : L ≤ 2560) (R : lR B V X M S g sl cn) (hB : B < 1990000000) (hP : va_P D vwCl (lwW cy o f a t h x b ad r sl g cn V T X vb S M hh) H) (hD : va_D (fun q : Nat => s.heap.size ≤ q) (lwW cy o f a t h x b ad r sl g cn V T X vb S M hh)) (hS : va_S (fun q : Nat => s.heap.size ≤ q) s.heap H locs) (hl : lv_has ls 7 [(0, .ref sc), (1, .ref (f 0)), (2, .ref (b 0)), (3, .ref o), (4, .int (nI i))]) (hc : cells + 2 ≤ 601024) (hs : slots + 12 ≤ 7293034) (kk : lw_K p l e s m below meth c D cy o f a t h x b ad sc i (B + 1000000) (cells + 2) (slots + 12) Q) : W p l e room_1 s m #[Value.ref sc] below meth c H locs cells slots Q (F0 m 1619 ls []) := by
  obtain ⟨hx, hb, hr, hml, hown, hts0, hX, hbl, hlocks, -⟩ := C0
  have hts : ∀ w ∈ wsL_law, w.before #[Value.ref sc] s = true := fun w z9 => hts0 w (wsL_law_in w z9)
  have hown : s.vm.findClass RL = some m.cls := hown
  have hb : c.code = cL_law := hb
  have hbA : ¬ s.heap.size ≤ sc := Nat.not_le.mpr hbl
  refine lv_aload_n hx hb dL_law_1619 rfl (lv_at hl 1 rfl) ?_
  refine lv_aload_n hx hb dL_law_1620 rfl (lv_at hl 3 rfl) ?_
  obtain ⟨F, G, r1, sl1, g1, cn1, V1, T1, X1, vb1, S1, M1, h1, h2, h3, h4, h5⟩ := tw_undo l hst D cy o f a t h x b ad (T := T) R hB r vb hh
  refine lw_callW (rest := []) h1 ⟨hx, hb, hml, hown, hts⟩ (vx_cwSW 2 hts gL_law_L_undo rfl rfl rfl (by decide +kernel) ⟨Nat.le_of_ble_eq_true rfl, Nat.le_of_ble_eq_true rfl⟩) hK hP hD hS hE rfl hl.1 rfl (by decide) dL_law_1621 ⟨by show cells + 1 ≤ 601024; omega, by show slots + 6 ≤ 7293034; omega⟩ (fun H locs hP hD hS => ?_)
  refine lv_istore (lv' := [(5, .int F), (0, .ref sc), (1, .ref (f 0)), (2, .ref (b 0)), (3, .ref o), (4, .int (nI i))]) hx hb dL_law_1624 hl (by decide) rfl (fun ls hl => ?_)
  refine lv_aload_n hx hb dL_law_1626 rfl (lv_at hl 3 rfl) ?_
  refine lw_callM (E := fun _ => fz_T) (rest := []) (lw_mw h2) ⟨hx, hb, hml, hown, hts⟩ (cwV 0 hts gL_law_X9_undo rfl rfl rfl (by decide +kernel) ⟨Nat.le_of_ble_eq_true rfl, Nat.le_of_ble_eq_true rfl⟩) rfl rfl hK hP hD hS (fun _ => fz_T_bl) (fun _ _ _ _ _ => trivial) rfl hl.1 rfl (by decide) dL_law_1627 ⟨by show cells + 1 + 0 ≤ 601024; omega, by show slots + 6 + 0 ≤ 7293034; omega⟩ (fun H locs hP hD hS => ?_)
  refine lw_tail ⟨hx, hb, hml, hown, hts⟩ (cwV 0 hts gL_law_X9_thrown rfl rfl rfl (by decide +kernel) ⟨Nat.le_of_ble_eq_true rfl, Nat.le_of_ble_eq_true rfl⟩) hK hP hl h4 h5 dL_law_1630 dL_law_1632 dL_law_1633 dL_law_1636 dL_law_1638 dL_law_1643 dL_law_1645 dL_law_1648 dL_law_1649 dL_law_1650 dL_law_1651 dL_law_1653 dL_law_1654 dL_law_1655 dL_law_1660 (by decide) ⟨by show cells + 1 + 0 ≤ 601024; omega, by show slots + 6 + 0 ≤ 7293034; omega⟩ (fun ls hl => ?_)
  exact W.widen (by omega) (by omega) (kk _ _ _ _ _ _ _ _ _ _ _ _ _ _ (h3.mono (by omega)) hP hD hS hl)
set_option maxHeartbeats 4000000 in
set_option maxRecDepth 100000 in
theorem lk_nextThaw (C0 : lw_At p s m meth c sc L xs) (hst : l.stackTraces = false) (hK : va_K D vwCl (fz_TY cy) s) (hE : fz_Ew (fun q : Nat => s.heap.size ≤ q) s) (hEr : fz_Er ad adK adV (fun q : Nat => s.heap.size ≤ q) s) (hNw : fz_Nw s) (hi : i + 4 < L) (hL : L ≤ 2560) (R : lR B V X M S g sl cn) (hB : B < 1990000000) (hP : va_P D vwCl (lwW cy o f a t h x b ad r sl g cn V T X vb S M hh) H) (hD : va_D (fun q : Nat => s.heap.size ≤ q) (lwW cy o f a t h x b ad r sl g cn V T X vb S M hh)) (hS : va_S (fun q : Nat => s.heap.size ≤ q) s.heap H locs) (hl : lv_has ls 7 [(0, .ref sc), (1, .ref (f 0)), (2, .ref (b 0)), (3, .ref o), (4, .int (nI i))]) (hc : cells + 2 ≤ 601024) (hs : slots + 12 ≤ 7293034) (kk : lw_K p l e s m below meth c D cy o f a t h x b ad sc i (B + 1000000) (cells + 2) (slots + 12) Q) : W p l e room_1 s m #[Value.ref sc] below meth c H locs cells slots Q (F0 m 1468 ls []) := by
  obtain ⟨hx, hb, hr, hml, hown, hts0, hX, hbl, hlocks, -⟩ := C0
  have hts : ∀ w ∈ wsL_law, w.before #[Value.ref sc] s = true := fun w z9 => hts0 w (wsL_law_in w z9)
  have hown : s.vm.findClass RL = some m.cls := hown
  have hb : c.code = cL_law := hb
  have hbA : ¬ s.heap.size ≤ sc := Nat.not_le.mpr hbl
  obtain ⟨nt, nc, nq, nl, wk, c1, cb⟩ := R.1
  refine lv_aload_n hx hb dL_law_1468 rfl (lv_at hl 1 rfl) ?_
  refine lw_callR (rest := []) (As := []) (S := fz_cat (lwB cy o f a t h x b ad r sl g cn V T X vb S M hh) [0, 2, 4, 5, 6, 7, 8, 9, 10, 11]) (c_X8_nextThaw l D cy f t h x a V nt nc nq nl wk c1.wf) rfl (by
    rw [List.append_assoc]
    exact fz_cat_P (lwB cy o f a t h x b ad r sl g cn V T X vb S M hh) (L' := [1, 3, 0, 2, 4, 5, 6, 7, 8, 9, 10, 11]) (by decide)) ⟨hx, hb, hml, hown, hts⟩ (cwV 0 hts gL_law_X8_nextThaw rfl rfl rfl (by decide +kernel) ⟨Nat.le_of_ble_eq_true rfl, Nat.le_of_ble_eq_true rfl⟩) rfl rfl hK hP fz_T_bl (fun _ _ _ => trivial) rfl hl.1 rfl (Nat.le_of_ble_eq_true rfl) dL_law_1469 ⟨by show cells + 0 ≤ 601024; omega, by show slots + 0 ≤ 7293034; omega⟩ ?_
  refine lv_aload_n hx hb dL_law_1472 rfl (lv_at hl 2 rfl) ?_
  refine lw_callM (E := fun _ => fz_T) (As := []) (rest := [.int (fz_thaw (V 2) wk)]) (lw_mw (c_X9_nextThaw l D cy b M hh nt nc nl wk c1.mf)) ⟨hx, hb, hml, hown, hts⟩ (cwV 0 hts gL_law_X9_nextThaw rfl rfl rfl (by decide +kernel) ⟨Nat.le_of_ble_eq_true rfl, Nat.le_of_ble_eq_true rfl⟩) rfl rfl hK hP hD hS (fun _ => fz_T_bl) (fun _ _ _ _ _ => trivial) rfl hl.1 rfl (Nat.le_of_ble_eq_true rfl) dL_law_1473 ⟨by show cells + 0 ≤ 601024; omega, by show slots + 0 ≤ 7293034; omega⟩ (fun H locs hP hD hS => ?_)
  refine lv_icmp_eq (tgt := 1677) hx hb dL_law_1476 (by decide) (fun _ => W.widen (by omega) (by omega) (kk _ _ _ _ _ _ _ _ _ _ _ _ _ _ (R.code (k := 0) (by omega)) hP hD hS hl)) (fun z => absurd ?_ z)
  exact ag_thaw (f := V 2) (g := fun i => M 1 (9 + i)) (fun i hi => c1.eq.a2 i hi) (40 - wk) wk (by have := c1.wf.2.2.2.2.2.2.2.2.2.1; omega)
set_option maxHeartbeats 4000000 in
set_option maxRecDepth 100000 in
theorem lk_clearCommands (C0 : lw_At p s m meth c sc L xs) (hst : l.stackTraces = false) (hK : va_K D vwCl (fz_TY cy) s) (hE : fz_Ew (fun q : Nat => s.heap.size ≤ q) s) (hEr : fz_Er ad adK adV (fun q : Nat => s.heap.size ≤ q) s) (hNw : fz_Nw s) (hi : i + 4 < L) (hL : L ≤ 2560) (R : lR B V X M S g sl cn) (hB : B < 1990000000) (hP : va_P D vwCl (lwW cy o f a t h x b ad r sl g cn V T X vb S M hh) H) (hD : va_D (fun q : Nat => s.heap.size ≤ q) (lwW cy o f a t h x b ad r sl g cn V T X vb S M hh)) (hS : va_S (fun q : Nat => s.heap.size ≤ q) s.heap H locs) (hl : lv_has ls 7 [(0, .ref sc), (1, .ref (f 0)), (2, .ref (b 0)), (3, .ref o), (4, .int (nI i))]) (hc : cells + 2 ≤ 601024) (hs : slots + 12 ≤ 7293034) (kk : lw_K p l e s m below meth c D cy o f a t h x b ad sc i (B + 1000000) (cells + 2) (slots + 12) Q) : W p l e room_1 s m #[Value.ref sc] below meth c H locs cells slots Q (F0 m 1593 ls []) := by
  obtain ⟨hx, hb, hr, hml, hown, hts0, hX, hbl, hlocks, -⟩ := C0
  have hts : ∀ w ∈ wsL_law, w.before #[Value.ref sc] s = true := fun w z9 => hts0 w (wsL_law_in w z9)
  have hown : s.vm.findClass RL = some m.cls := hown
  have hb : c.code = cL_law := hb
  have hbA : ¬ s.heap.size ≤ sc := Nat.not_le.mpr hbl
  refine lv_aload_n hx hb dL_law_1593 rfl (lv_at hl 1 rfl) ?_
  refine lw_callM (E := fun _ => fz_T) (As := []) (rest := []) (Wn' := lwW cy o f a t h x b ad r sl g cn V T (fz_up X 0 (upd (X 0) 0 0)) vb S M hh) ⟨fz_cat (lwB cy o f a t h x b ad r sl g cn V T X vb S M hh) [0, 2, 3, 4, 6, 7, 8, 9, 10, 11], _, _, _, c_X8_clearCommands l D cy f a t h x ad X vb, rfl, (by
    rw [List.append_assoc]
    exact fz_cat_P (lwB cy o f a t h x b ad r sl g cn V T X vb S M hh) (L' := [1, 5, 0, 2, 3, 4, 6, 7, 8, 9, 10, 11]) (by decide)), (by
    rw [List.append_assoc]
    exact fz_cat_P (lwB cy o f a t h x b ad r sl g cn V T (fz_up X 0 (upd (X 0) 0 0)) vb S M hh) (L := [1, 5, 0, 2, 3, 4, 6, 7, 8, 9, 10, 11]) (by decide)), rfl⟩ ⟨hx, hb, hml, hown, hts⟩ (cwV 0 hts gL_law_X8_clearCommands rfl rfl rfl (by decide +kernel) ⟨Nat.le_of_ble_eq_true rfl, Nat.le_of_ble_eq_true rfl⟩) rfl rfl hK hP hD hS (fun _ => fz_T_bl) (fun _ _ _ _ _ => trivial) rfl hl.1 rfl (Nat.le_of_ble_eq_true rfl) dL_law_1594 ⟨by show cells + 0 ≤ 601024; omega, by show slots + 0 ≤ 7293034; omega⟩ (fun H locs hP hD hS => ?_)
  refine lv_aload_n hx hb dL_law_1597 rfl (lv_at hl 2 rfl) ?_
  refine lw_callM (E := fun _ => fz_T) (As := []) (rest := [.int (X 0 0)]) (lw_mw (c_X9_clearCommands l D cy b M hh)) ⟨hx, hb, hml, hown, hts⟩ (cwV 0 hts gL_law_X9_clearCommands rfl rfl rfl (by decide +kernel) ⟨Nat.le_of_ble_eq_true rfl, Nat.le_of_ble_eq_true rfl⟩) rfl rfl hK hP hD hS (fun _ => fz_T_bl) (fun _ _ _ _ _ => trivial) rfl hl.1 rfl (Nat.le_of_ble_eq_true rfl) dL_law_1598 ⟨by show cells + 0 ≤ 601024; omega, by show slots + 0 ≤ 7293034; omega⟩ (fun H locs hP hD hS => ?_)
  refine lv_icmp_eq (tgt := 1677) hx hb dL_law_1601 (by decide) (fun _ => W.widen (by omega) (by omega) (kk _ _ _ _ _ _ _ _ _ _ _ _ _ _ ?_ hP hD hS hl)) (fun z => absurd R.ln.symm z)
  obtain ⟨hc1, hS1, h0, -, hT, hg⟩ := R
  exact ⟨hc1.mono (by omega), hS1.mono (by omega), h0, ⟨0, by omega, nI_0.symm, nI_0.symm⟩, hT, hg⟩
set_option maxHeartbeats 4000000 in
set_option maxRecDepth 100000 in
theorem lk_digest (C0 : lw_At p s m meth c sc L xs) (hst : l.stackTraces = false) (hK : va_K D vwCl (fz_TY cy) s) (hE : fz_Ew (fun q : Nat => s.heap.size ≤ q) s) (hEr : fz_Er ad adK adV (fun q : Nat => s.heap.size ≤ q) s) (hNw : fz_Nw s) (hi : i + 4 < L) (hL : L ≤ 2560) (R : lR B V X M S g sl cn) (hB : B < 1990000000) (hP : va_P D vwCl (lwW cy o f a t h x b ad r sl g cn V T X vb S M hh) H) (hD : va_D (fun q : Nat => s.heap.size ≤ q) (lwW cy o f a t h x b ad r sl g cn V T X vb S M hh)) (hS : va_S (fun q : Nat => s.heap.size ≤ q) s.heap H locs) (hl : lv_has ls 7 [(0, .ref sc), (1, .ref (f 0)), (2, .ref (b 0)), (3, .ref o), (4, .int (nI i))]) (hc : cells + 2 ≤ 601024) (hs : slots + 12 ≤ 7293034) (kk : lw_K p l e s m below meth c D cy o f a t h x b ad sc i (B + 1000000) (cells + 2) (slots + 12) Q) : W p l e room_1 s m #[Value.ref sc] below meth c H locs cells slots Q (F0 m 1663 ls []) := by
  obtain ⟨hx, hb, hr, hml, hown, hts0, hX, hbl, hlocks, -⟩ := C0
  have hts : ∀ w ∈ wsL_law, w.before #[Value.ref sc] s = true := fun w z9 => hts0 w (wsL_law_in w z9)
  have hown : s.vm.findClass RL = some m.cls := hown
  have hb : c.code = cL_law := hb
  have hbA : ¬ s.heap.size ≤ sc := Nat.not_le.mpr hbl
  obtain ⟨nt, nc, nq, nl, wk, c1, cb⟩ := R.1
  refine lv_aload_n hx hb dL_law_1663 rfl (lv_at hl 1 rfl) ?_
  refine lw_callRL (rest := []) (As := []) (S := fz_cat (lwB cy o f a t h x b ad r sl g cn V T X vb S M hh) [0, 4, 6, 7, 8, 9, 10, 11]) (c_X8_digest l D cy f t x ad X vb h g (nI cn) a V nt nc nq nl wk c1.wf) rfl (by
    rw [List.append_assoc, List.append_assoc, List.append_assoc]
    exact fz_cat_P (lwB cy o f a t h x b ad r sl g cn V T X vb S M hh) (L' := [1, 5, 2, 3, 0, 4, 6, 7, 8, 9, 10, 11]) (by decide)) ⟨hx, hb, hml, hown, hts⟩ (cwV 0 hts gL_law_X8_digest rfl rfl rfl (by decide +kernel) ⟨Nat.le_of_ble_eq_true rfl, Nat.le_of_ble_eq_true rfl⟩) rfl rfl hK hP fz_Nw_bl (fun U hU hW => fz_Nw_warm hW hNw) rfl hl.1 rfl (Nat.le_of_ble_eq_true rfl) dL_law_1664 ⟨by show cells + 0 ≤ 601024; omega, by show slots + 0 ≤ 7293034; omega⟩ ?_
  refine lv_aload_n hx hb dL_law_1667 rfl (lv_at hl 2 rfl) ?_
  refine lw_callML (Wn' := lwW cy o f a t h x b ad r sl g cn V T X vb S (fz_up M 0 (upd (M 0) 2 0)) (fm_dg (fz_up M 0 (upd (M 0) 2 0)) nt nc nl wk)) (As := []) (rest := [.long (cx_dg V (X 0 0) (nI cn) nt nc nq nl wk)]) (S := fz_cat (lwB cy o f a t h x b ad r sl g cn V T X vb S M hh) [0, 1, 2, 3, 4, 5, 7, 8, 9, 10, 11]) (c_X9_digest l D cy b M hh nt nc nl wk c1.mf) rfl (fz_cat_P (lwB cy o f a t h x b ad r sl g cn V T X vb S M hh) (L' := [6, 0, 1, 2, 3, 4, 5, 7, 8, 9, 10, 11]) (by decide)) (fz_cat_P (lwB cy o f a t h x b ad r sl g cn V T X vb S (fz_up M 0 (upd (M 0) 2 0)) (fm_dg (fz_up M 0 (upd (M 0) 2 0)) nt nc nl wk)) (L := [6, 0, 1, 2, 3, 4, 5, 7, 8, 9, 10, 11]) (L' := [0, 1, 2, 3, 4, 5, 6, 7, 8, 9, 10, 11]) (by decide)) rfl ⟨hx, hb, hml, hown, hts⟩ (cwV 0 hts gL_law_X9_digest rfl rfl rfl (by decide +kernel) ⟨Nat.le_of_ble_eq_true rfl, Nat.le_of_ble_eq_true rfl⟩) rfl rfl hK hP hD hS fz_T_bl (fun _ _ _ => trivial) rfl hl.1 rfl (Nat.le_of_ble_eq_true rfl) dL_law_1668 ⟨by show cells + 0 ≤ 601024; omega, by show slots + 0 ≤ 7293034; omega⟩ (fun H locs hP hD hS => ?_)
  refine W.lcmp hx hb dL_law_1671 ?_
  refine lv_if_eq (tgt := 1677) hx hb dL_law_1672 (by decide) (fun _ => W.widen (by omega) (by omega) (kk _ _ _ _ _ _ _ _ _ _ _ _ _ _ (R.code (k := 0) (by omega)) hP hD hS hl)) (fun z => absurd ?_ z)
  rw [cR.dg (M := fz_up M 0 (upd (M 0) 2 0)) (x0 := X 0 0) (cn := nI cn) c1 R.ln R.2.2.1]
  exact lg_same _
def fz_rest2 : Nat → List Nat
  | 0 => [0, 4, 6, 8, 9, 10, 11]
  | 1 => [0, 4, 6, 7, 9, 10, 11]
  | 2 => [0, 4, 6, 7, 8, 10, 11]
  | 3 => [0, 4, 6, 7, 8, 9, 11]
  | _ => [0, 4, 6, 7, 8, 9, 10]
theorem fz_rest2_P : ∀ cn, cn < 5 → ([0, 1, 2, 3, 4, 5, 6, 7, 8, 9, 10, 11] : List Nat).Perm (1 :: 5 :: 2 :: 3 :: (cn + 7) :: fz_rest2 cn) := by decide
theorem fz_rest2_in : ∀ cn, cn < 5 → ∀ k, k < 5 → (k + 7) ∈ (cn + 7) :: fz_rest2 cn := by decide
theorem lwR_old (hc : cn < 5) : (lwW cy o f a t h x b ad r sl g cn V T X vb S M hh).Perm (FW f a t h x ++ (XW cy ad x X vb ++ (HW cy h g (nI cn) ++ (CW cy a V ++ (CW cy (sl cn) (S cn) ++ fz_cat (lwB cy o f a t h x b ad r sl g cn V T X vb S M hh) (fz_rest2 cn)))))) :=
  fz_cat_P (lwB cy o f a t h x b ad r sl g cn V T X vb S M hh) (fz_rest2_P cn hc)
theorem lwR_new {V' X' : Nat → Nat → Int32} {vb' : Option Nat} (hc : cn < 5) : (FW f a t h x ++ (XW cy ad x X' vb' ++ (HW cy h (hs_g g cn) (nI (hs_n cn)) ++ (CW cy a V' ++ (CW cy (sl cn) V ++ fz_cat (lwB cy o f a t h x b ad r sl g cn V T X vb S M hh) (fz_rest2 cn)))))).Perm (lwW cy o f a t h x b ad r (hs_sl sl cn) (hs_g g cn) (hs_n cn) V' T X' vb' (hs_S S V cn) M hh) := by
  match cn, hc with
  | 0, _ => exact fz_cat_P (lwB cy o f a t h x b ad r (hs_sl sl 0) (hs_g g 0) (hs_n 0) V' T X' vb' (hs_S S V 0) M hh) (L := [1, 5, 2, 3, 7, 0, 4, 6, 8, 9, 10, 11]) (by decide)
  | 1, _ => exact fz_cat_P (lwB cy o f a t h x b ad r (hs_sl sl 1) (hs_g g 1) (hs_n 1) V' T X' vb' (hs_S S V 1) M hh) (L := [1, 5, 2, 3, 8, 0, 4, 6, 7, 9, 10, 11]) (by decide)
  | 2, _ => exact fz_cat_P (lwB cy o f a t h x b ad r (hs_sl sl 2) (hs_g g 2) (hs_n 2) V' T X' vb' (hs_S S V 2) M hh) (L := [1, 5, 2, 3, 9, 0, 4, 6, 7, 8, 10, 11]) (by decide)
  | 3, _ => exact fz_cat_P (lwB cy o f a t h x b ad r (hs_sl sl 3) (hs_g g 3) (hs_n 3) V' T X' vb' (hs_S S V 3) M hh) (L := [1, 5, 2, 3, 10, 0, 4, 6, 7, 8, 9, 11]) (by decide)
  | 4, _ => exact fz_cat_P (lwB cy o f a t h x b ad r (hs_sl sl 4) (hs_g g 4) (hs_n 4) V' T X' vb' (hs_S S V 4) M hh) (L := [1, 5, 2, 3, 10, 0, 4, 6, 11, 7, 8, 9]) (by decide)
theorem lwR_hh (hc : cn < 5) (hg : ∀ k, k < 5 → g k = some (sl k 0)) : ∀ k, k < 5 → ∃ y, g k = some y ∧ fz_hd (CW cy (sl cn) (S cn) ++ fz_cat (lwB cy o f a t h x b ad r sl g cn V T X vb S M hh) (fz_rest2 cn)) y := fun k hk =>
  ⟨sl k 0, hg k hk, _, fz_cat_in (lwB cy o f a t h x b ad r sl g cn V T X vb S M hh) (L := (cn + 7) :: fz_rest2 cn) (i := k + 7) (fz_rest2_in cn hc k hk) (show (sl k 0, _) ∈ CW cy (sl k) (S k) from List.mem_cons_self)⟩
/-- a text is run, on the class's side and the model's -/
theorem run_two (R : lR B V X M S g sl cn) (hB : B < 1990000000) : ∃ (F : Int32) (sl' : Nat → Nat → Nat) (g' : Nat → Option Nat) (cn' : Nat) (V' X' : Nat → Nat → Int32) (vb' : Option Nat) (S' : Nat → Nat → Nat → Int32) (M' : Nat → Nat → Int32),
    lw_mal (fz_Er ad adK adV) l yX8_runCommands wsX8_runCommands 8 176 D cy (f 0) 6 [] (lwW cy o f a t h x b ad r sl g cn V T X vb S M hh) F (lwW cy o f a t h x b ad r sl' g' cn' V' T X' vb' S' M hh) ∧ fz_MI l yX9_runCommands wsX9_runCommands 5 112 D cy [.ref (b 0)] (MW cy b M hh) fz_T F (MW cy b M' hh) ∧ lR (B + 1000000) V' X' M' S' g' sl' cn' := by
  obtain ⟨hc, hS, h0, ⟨ln, hl150, hlx, hlm⟩, hT, hg⟩ := id R
  obtain ⟨nt, nc, nq, nl, wk, c, cb⟩ := id hc
  have hn : cn < 5 := Nat.lt_succ_of_le hS.1
  have hm := c_X9_runCommands l D cy b M hh nt nc nl wk c.mf cn h0 hS.1 ln hlm hl150
  have hfa := run_fault (X := X) (M := M) (vb := vb) hl150 hT
  by_cases hf : (cx_F X ln vb).1 = -1
  · obtain ⟨q1, q2, q3, q4, q5, q6⟩ := run_rel (X := X) (M := M) (V := V) (ns := cn) (vb := vb) hl150 hT hc (by omega) hf
    have e : fm_run M ln cn = (nI (fm_run1 (fm_st M (tx_fa (M 4) ln (M 0 5) (M 5))) ln cn).1, fz_up (fm_run1 (fm_st M (tx_fa (M 4) ln (M 0 5) (M 5))) ln cn).2 0 (upd ((fm_run1 (fm_st M (tx_fa (M 4) ln (M 0 5) (M 5))) ln cn).2 0) 2 0)) := by
      rw [fm_run, if_pos (hfa.symm.trans hf)]
    rw [e] at hm
    refine ⟨_, hs_sl sl cn, hs_g g cn, hs_n cn, (cx_C X ln vb V).2.1, cx_X2 X ln vb V, (cx_C X ln vb V).2.2.2.1, hs_S S V cn, _, ⟨[], _, _, _, c_X8_runCommands_n l D cy f a t h x g ad adK adV X vb ln hlx hl150 cn V (sl cn) (S cn) _ hf ⟨nt, nc, nq, nl, wk, c.wf⟩ hn (hg cn hn) c.zo (lwR_hh hn hg), rfl, (lwR_old hn).trans lw_nil, lw_nil'.trans (lwR_new hn), rfl⟩, by rw [q1]; exact hm, ?_⟩
    refine ⟨q2.mono (by omega), ?_, ?_, ⟨ln, hl150, hlx, q6.trans hlm⟩, hT.trans q4.symm, hs_gsl hn hg⟩
    · show hR (hs_S S V cn) ((fm_run1 (fm_st M (tx_fa (M 4) ln (M 0 5) (M 5))) ln cn).2 2) (hs_n cn) (B + 1000000)
      rw [q3]
      exact (hR_keep hS hc).mono (by omega)
    · show (fm_run1 (fm_st M (tx_fa (M 4) ln (M 0 5) (M 5))) ln cn).2 0 0 = nI (hs_n cn)
      rw [q5, hs_ns hS.1]
  · have e : fm_run M ln cn = ((-10) - (tx_fa (M 4) ln (M 0 5) (M 5)).2.2.1, fz_up (fm_st M (tx_fa (M 4) ln (M 0 5) (M 5))) 0 (upd (fm_st M (tx_fa (M 4) ln (M 0 5) (M 5)) 0) 2 0)) := by
      rw [fm_run, if_neg (fun z => hf (hfa.trans z))]
    rw [e, ← hfa] at hm
    exact ⟨_, sl, g, cn, V, cx_X1 X ln vb, (cx_F X ln vb).2.2.1, S, _, ⟨[], _, _, _, c_X8_runCommands_f l D cy f a t h x g ad adK adV X vb ln hlx hl150 (fz_cat (lwB cy o f a t h x b ad r sl g cn V T X vb S M hh) [0, 2, 3, 4, 6, 7, 8, 9, 10, 11]) hf, rfl, (fz_cat_P (lwB cy o f a t h x b ad r sl g cn V T X vb S M hh) (L' := [1, 5, 0, 2, 3, 4, 6, 7, 8, 9, 10, 11]) (by decide)).trans lw_nil, lw_nil'.trans (fz_cat_P (lwB cy o f a t h x b ad r sl g cn V T (cx_X1 X ln vb) (cx_F X ln vb).2.2.1 S M hh) (L := [1, 5, 0, 2, 3, 4, 6, 7, 8, 9, 10, 11]) (by decide)), rfl⟩, hm,
      ⟨hc.mono (by omega), hS.mono (by omega), h0, ⟨ln, hl150, hlx, hlm⟩, hT, hg⟩⟩
set_option maxHeartbeats 4000000 in
set_option maxRecDepth 100000 in
theorem lk_runCommands (C0 : lw_At p s m meth c sc L xs) (hst : l.stackTraces = false) (hK : va_K D vwCl (fz_TY cy) s) (hE : fz_Ew (fun q : Nat => s.heap.size ≤ q) s) (hEr : fz_Er ad adK adV (fun q : Nat => s.heap.size ≤ q) s) (hNw : fz_Nw s) (hi : i + 4 < L) (hL : L ≤ 2560) (R : lR B V X M S g sl cn) (hB : B < 1990000000) (hP : va_P D vwCl (lwW cy o f a t h x b ad r sl g cn V T X vb S M hh) H) (hD : va_D (fun q : Nat => s.heap.size ≤ q) (lwW cy o f a t h x b ad r sl g cn V T X vb S M hh)) (hS : va_S (fun q : Nat => s.heap.size ≤ q) s.heap H locs) (hl : lv_has ls 7 [(0, .ref sc), (1, .ref (f 0)), (2, .ref (b 0)), (3, .ref o), (4, .int (nI i))]) (hc : cells + 2 ≤ 601024) (hs : slots + 12 ≤ 7293034) (kk : lw_K p l e s m below meth c D cy o f a t h x b ad sc i (B + 1000000) (cells + 2) (slots + 12) Q) : W p l e room_1 s m #[Value.ref sc] below meth c H locs cells slots Q (F0 m 1606 ls []) := by
  obtain ⟨hx, hb, hr, hml, hown, hts0, hX, hbl, hlocks, -⟩ := C0
  have hts : ∀ w ∈ wsL_law, w.before #[Value.ref sc] s = true := fun w z9 => hts0 w (wsL_law_in w z9)
  have hown : s.vm.findClass RL = some m.cls := hown
  have hb : c.code = cL_law := hb
  have hbA : ¬ s.heap.size ≤ sc := Nat.not_le.mpr hbl
  obtain ⟨F, sl1, g1, cn1, V1, X1, vb1, S1, M1, h1, h2, h3⟩ := run_two (l := l) (D := D) (cy := cy) (o := o) (f := f) (a := a) (t := t) (h := h) (x := x) (b := b) (ad := ad) (adK := adK) (adV := adV) (T := T) (r := r) (vb := vb) (hh := hh) R hB
  refine lv_aload_n hx hb dL_law_1606 rfl (lv_at hl 1 rfl) ?_
  refine lw_callM (rest := []) h1 ⟨hx, hb, hml, hown, hts⟩ (cwV 0 hts gL_law_X8_runCommands rfl rfl rfl (by decide +kernel) ⟨Nat.le_of_ble_eq_true rfl, Nat.le_of_ble_eq_true rfl⟩) rfl rfl hK hP hD hS (fun _ => fz_Er_bl) (fun B9 hB9 U hU hW => hEr.up hU hS hW hB9) rfl hl.1 rfl (Nat.le_of_ble_eq_true rfl) dL_law_1607 ⟨by show cells + 0 ≤ 601024; omega, by show slots + 0 ≤ 7293034; omega⟩ (fun H locs hP hD hS => ?_)
  refine lv_aload_n hx hb dL_law_1610 rfl (lv_at hl 2 rfl) ?_
  refine lw_callM (E := fun _ => fz_T) (As := []) (rest := [.int F]) (lw_mw h2) ⟨hx, hb, hml, hown, hts⟩ (cwV 0 hts gL_law_X9_runCommands rfl rfl rfl (by decide +kernel) ⟨Nat.le_of_ble_eq_true rfl, Nat.le_of_ble_eq_true rfl⟩) rfl rfl hK hP hD hS (fun _ => fz_T_bl) (fun _ _ _ _ _ => trivial) rfl hl.1 rfl (Nat.le_of_ble_eq_true rfl) dL_law_1611 ⟨by show cells + 0 ≤ 601024; omega, by show slots + 0 ≤ 7293034; omega⟩ (fun H locs hP hD hS => ?_)
  exact lv_icmp_eq (tgt := 1677) hx hb dL_law_1614 (by decide) (fun _ => W.widen (by omega) (by omega) (kk _ _ _ _ _ _ _ _ _ _ _ _ _ _ h3 hP hD hS hl)) (fun z => absurd rfl z)
end LKS
