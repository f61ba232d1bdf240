section
/-! the cases of the law's switch -/
def NX (p : Program) (l : Launch) (e : Env) (s : State) (m : MethodId) (args : Array Value) (below : List Frame) (meth : Method) (c : Code) (b : Nat) (D : va_G) (cI cZ cL : ClassId) (ad am : Nat → Nat) (ao i cells slots : Nat) (Q : State → Prop) : Prop :=
  ∀ (S' M' : Mem) (th' : Int32) (f' : Nat → Int64) (H : Heap) (locs : List Loc) (ls : Array Slot), Rel S' M' → LW s D cI cZ cL ad am ao S' M' th' f' H locs → lv_has ls 7 [(0, .ref b), (1, .ref (ad 0)), (2, .ref (am 0)), (3, .ref ao), (4, .int (nI i))] → W p l e room_1 s m args below meth c H locs cells slots Q (F0 m 1767 ls [])
variable {p : Program} {l : Launch} {e : Env} {s : State} {m : MethodId} {args : Array Value} {below : List Frame} {meth : Method} {c : Code} {H : Heap} {locs : List Loc} {cells slots : Nat} {Q : State → Prop}
variable {b L : Nat} {xs : Nat → Int32} {D : va_G} {cI cZ cL : ClassId} {ad am : Nat → Nat} {ao : Nat} {S M : Mem} {th : Int32} {f : Nat → Int64} {i : Nat} {ls : Array Slot}
/-! the cases of the law's switch -/
set_option maxHeartbeats 4000000 in
set_option maxRecDepth 100000 in
theorem lc_pass (C : LC p l s m meth c b L xs D cI cZ cL ad am ao) (hR : Rel S M) (hw : LW s D cI cZ cL ad am ao S M th f H locs) (hcs : cells + 1 ≤ 1091 ∧ slots + 6 ≤ 11970) (hi : i + 5 ≤ L) (hl : lv_has ls 7 [(0, .ref b), (1, .ref (ad 0)), (2, .ref (am 0)), (3, .ref ao), (4, .int (nI i))]) (next : NX p l e s m args below meth c b D cI cZ cL ad am ao i (cells + 1) (slots + 6) Q) : W p l e room_1 s m args below meth c H locs cells slots Q (F0 m 156 ls []) := by
  obtain ⟨hx, hb, hr, hml, hown, hlk, hfl, hL⟩ := C.1
  obtain ⟨S', f', v, hM, hv, hR', hz⟩ := hh_pass l hfl D cI cZ cL ad ao f (aW (wO ao cL f ++ wC ad cI S)) (aW_D (D_left (by have h9 := C.2.2.2 S M th f; rw [← List.append_assoc] at h9; exact h9))) (xs (i + 1)) hR
  refine lv_aload_n hx hb dw_156 rfl (lv_at hl 1 rfl) ?_
  refine l_arg (k := 1) (j0 := 0) (j4 := 4) C hw hl rfl rfl (by omega) rfl dw_157 dw_158 dw_160 dw_161 dw_162 ?_
  refine lv_aload_n hx hb dw_163 rfl (lv_at hl 3 rfl) ?_
  refine s_hlp (idx := 100) (rest := []) C hw ⟨by omega, by omega⟩ hM ckL_pass w_319 hl.1 rfl ⟨Nat.le_of_ble_eq_true rfl, Nat.le_of_ble_eq_true rfl⟩ (Nat.le_of_ble_eq_true rfl) dw_164 (fun H locs hw => ?_)
  refine lv_istore (lv' := [(5, .int v), (0, .ref b), (1, .ref (ad 0)), (2, .ref (am 0)), (3, .ref ao), (4, .int (nI i))]) hx hb dw_167 hl (by decide) rfl (fun ls hl => ?_)
  refine lv_aload_n hx hb dw_169 rfl (lv_at hl 3 rfl) ?_
  refine l_arg (k := 1) (j0 := 1) (j4 := 5) C hw hl rfl rfl (by omega) rfl dw_170 dw_171 dw_173 dw_174 dw_175 ?_
  refine s_mod (idx := 105) (rest := []) C hw ⟨by omega, by omega⟩ (c_X6_pass l D cI cZ cL am M th (aW (wQ am cI cZ M th)) (aW_D (D_right (D_right (C.2.2.2 S M th f)))) (xs (i + 1)) hR.J) ck_X6_pass w_830 rfl hl.1 rfl ⟨Nat.le_of_ble_eq_true rfl, Nat.le_of_ble_eq_true rfl⟩ (Nat.le_of_ble_eq_true rfl) dw_176 (fun H locs hw => ?_)
  exact tI C hw ⟨by omega, by omega⟩ ⟨dw_179, dw_181, dw_182, dw_185, dw_187, dw_192, dw_194, dw_197, dw_198, dw_199, dw_200, dw_202, dw_203, dw_204, dw_209⟩ (by decide) hl hv hz (fun ls hl => next _ _ _ _ H locs ls hR' hw hl)
set_option maxHeartbeats 4000000 in
set_option maxRecDepth 100000 in
theorem lc_addRiddle (C : LC p l s m meth c b L xs D cI cZ cL ad am ao) (hR : Rel S M) (hw : LW s D cI cZ cL ad am ao S M th f H locs) (hcs : cells + 1 ≤ 1091 ∧ slots + 6 ≤ 11970) (hi : i + 5 ≤ L) (hl : lv_has ls 7 [(0, .ref b), (1, .ref (ad 0)), (2, .ref (am 0)), (3, .ref ao), (4, .int (nI i))]) (next : NX p l e s m args below meth c b D cI cZ cL ad am ao i (cells + 1) (slots + 6) Q) : W p l e room_1 s m args below meth c H locs cells slots Q (F0 m 225 ls []) := by
  obtain ⟨hx, hb, hr, hml, hown, hlk, hfl, hL⟩ := C.1
  obtain ⟨S', f', v, hM, hv, hR', hz⟩ := hh_addRiddle l hfl D cI cZ cL ad ao f (aW (wO ao cL f ++ wC ad cI S)) (aW_D (D_left (by have h9 := C.2.2.2 S M th f; rw [← List.append_assoc] at h9; exact h9))) (xs (i + 1)) (xs (i + 2)) (xs (i + 3)) (xs (i + 4)) hR
  refine lv_aload_n hx hb dw_225 rfl (lv_at hl 1 rfl) ?_
  refine l_arg (k := 1) (j0 := 0) (j4 := 4) C hw hl rfl rfl (by omega) rfl dw_226 dw_227 dw_229 dw_230 dw_231 ?_
  refine l_arg (k := 2) (j0 := 0) (j4 := 4) C hw hl rfl rfl (by omega) rfl dw_232 dw_233 dw_235 dw_236 dw_237 ?_
  refine l_arg (k := 3) (j0 := 0) (j4 := 4) C hw hl rfl rfl (by omega) rfl dw_238 dw_239 dw_241 dw_242 dw_243 ?_
  refine l_arg (k := 4) (j0 := 0) (j4 := 4) C hw hl rfl rfl (by omega) rfl dw_244 dw_245 dw_247 dw_248 dw_249 ?_
  refine lv_aload_n hx hb dw_250 rfl (lv_at hl 3 rfl) ?_
  refine s_hlp (idx := 113) (rest := []) C hw ⟨by omega, by omega⟩ hM ckL_addRiddle w_416 hl.1 rfl ⟨Nat.le_of_ble_eq_true rfl, Nat.le_of_ble_eq_true rfl⟩ (Nat.le_of_ble_eq_true rfl) dw_251 (fun H locs hw => ?_)
  refine lv_istore (lv' := [(5, .int v), (0, .ref b), (1, .ref (ad 0)), (2, .ref (am 0)), (3, .ref ao), (4, .int (nI i))]) hx hb dw_254 hl (by decide) rfl (fun ls hl => ?_)
  refine lv_aload_n hx hb dw_256 rfl (lv_at hl 3 rfl) ?_
  refine l_arg (k := 1) (j0 := 1) (j4 := 5) C hw hl rfl rfl (by omega) rfl dw_257 dw_258 dw_260 dw_261 dw_262 ?_
  refine l_arg (k := 2) (j0 := 1) (j4 := 5) C hw hl rfl rfl (by omega) rfl dw_263 dw_264 dw_266 dw_267 dw_268 ?_
  refine l_arg (k := 3) (j0 := 1) (j4 := 5) C hw hl rfl rfl (by omega) rfl dw_269 dw_270 dw_272 dw_273 dw_274 ?_
  refine l_arg (k := 4) (j0 := 1) (j4 := 5) C hw hl rfl rfl (by omega) rfl dw_275 dw_276 dw_278 dw_279 dw_280 ?_
  refine s_mod (idx := 116) (rest := []) C hw ⟨by omega, by omega⟩ (c_X6_addRiddle l D cI cZ cL am M th (aW (wQ am cI cZ M th)) (aW_D (D_right (D_right (C.2.2.2 S M th f)))) (xs (i + 1)) (xs (i + 2)) (xs (i + 3)) (xs (i + 4)) hR.J) ck_X6_addRiddle w_845 rfl hl.1 rfl ⟨Nat.le_of_ble_eq_true rfl, Nat.le_of_ble_eq_true rfl⟩ (Nat.le_of_ble_eq_true rfl) dw_281 (fun H locs hw => ?_)
  exact tI C hw ⟨by omega, by omega⟩ ⟨dw_284, dw_286, dw_287, dw_290, dw_292, dw_297, dw_299, dw_302, dw_303, dw_304, dw_305, dw_307, dw_308, dw_309, dw_314⟩ (by decide) hl hv hz (fun ls hl => next _ _ _ _ H locs ls hR' hw hl)
set_option maxHeartbeats 4000000 in
set_option maxRecDepth 100000 in
theorem lc_need (C : LC p l s m meth c b L xs D cI cZ cL ad am ao) (hR : Rel S M) (hw : LW s D cI cZ cL ad am ao S M th f H locs) (hcs : cells + 1 ≤ 1091 ∧ slots + 6 ≤ 11970) (hi : i + 5 ≤ L) (hl : lv_has ls 7 [(0, .ref b), (1, .ref (ad 0)), (2, .ref (am 0)), (3, .ref ao), (4, .int (nI i))]) (next : NX p l e s m args below meth c b D cI cZ cL ad am ao i (cells + 1) (slots + 6) Q) : W p l e room_1 s m args below meth c H locs cells slots Q (F0 m 317 ls []) := by
  obtain ⟨hx, hb, hr, hml, hown, hlk, hfl, hL⟩ := C.1
  obtain ⟨S', f', v, hM, hv, hR', hz⟩ := hh_need l hfl D cI cZ cL ad ao f (aW (wO ao cL f ++ wC ad cI S)) (aW_D (D_left (by have h9 := C.2.2.2 S M th f; rw [← List.append_assoc] at h9; exact h9))) (xs (i + 1)) (xs (i + 2)) hR
  refine lv_aload_n hx hb dw_317 rfl (lv_at hl 1 rfl) ?_
  refine l_arg (k := 1) (j0 := 0) (j4 := 4) C hw hl rfl rfl (by omega) rfl dw_318 dw_319 dw_321 dw_322 dw_323 ?_
  refine l_arg (k := 2) (j0 := 0) (j4 := 4) C hw hl rfl rfl (by omega) rfl dw_324 dw_325 dw_327 dw_328 dw_329 ?_
  refine lv_aload_n hx hb dw_330 rfl (lv_at hl 3 rfl) ?_
  refine s_hlp (idx := 117) (rest := []) C hw ⟨by omega, by omega⟩ hM ckL_need w_428 hl.1 rfl ⟨Nat.le_of_ble_eq_true rfl, Nat.le_of_ble_eq_true rfl⟩ (Nat.le_of_ble_eq_true rfl) dw_331 (fun H locs hw => ?_)
  refine lv_istore (lv' := [(5, .int v), (0, .ref b), (1, .ref (ad 0)), (2, .ref (am 0)), (3, .ref ao), (4, .int (nI i))]) hx hb dw_334 hl (by decide) rfl (fun ls hl => ?_)
  refine lv_aload_n hx hb dw_336 rfl (lv_at hl 3 rfl) ?_
  refine l_arg (k := 1) (j0 := 1) (j4 := 5) C hw hl rfl rfl (by omega) rfl dw_337 dw_338 dw_340 dw_341 dw_342 ?_
  refine l_arg (k := 2) (j0 := 1) (j4 := 5) C hw hl rfl rfl (by omega) rfl dw_343 dw_344 dw_346 dw_347 dw_348 ?_
  refine s_mod (idx := 120) (rest := []) C hw ⟨by omega, by omega⟩ (c_X6_need l D cI cZ cL am M th (aW (wQ am cI cZ M th)) (aW_D (D_right (D_right (C.2.2.2 S M th f)))) (xs (i + 1)) (xs (i + 2)) hR.J) ck_X6_need w_849 rfl hl.1 rfl ⟨Nat.le_of_ble_eq_true rfl, Nat.le_of_ble_eq_true rfl⟩ (Nat.le_of_ble_eq_true rfl) dw_349 (fun H locs hw => ?_)
  exact tI C hw ⟨by omega, by omega⟩ ⟨dw_352, dw_354, dw_355, dw_358, dw_360, dw_365, dw_367, dw_370, dw_371, dw_372, dw_373, dw_375, dw_376, dw_377, dw_382⟩ (by decide) hl hv hz (fun ls hl => next _ _ _ _ H locs ls hR' hw hl)
set_option maxHeartbeats 4000000 in
set_option maxRecDepth 100000 in
theorem lc_addTeam (C : LC p l s m meth c b L xs D cI cZ cL ad am ao) (hR : Rel S M) (hw : LW s D cI cZ cL ad am ao S M th f H locs) (hcs : cells + 1 ≤ 1091 ∧ slots + 6 ≤ 11970) (hi : i + 5 ≤ L) (hl : lv_has ls 7 [(0, .ref b), (1, .ref (ad 0)), (2, .ref (am 0)), (3, .ref ao), (4, .int (nI i))]) (next : NX p l e s m args below meth c b D cI cZ cL ad am ao i (cells + 1) (slots + 6) Q) : W p l e room_1 s m args below meth c H locs cells slots Q (F0 m 385 ls []) := by
  obtain ⟨hx, hb, hr, hml, hown, hlk, hfl, hL⟩ := C.1
  obtain ⟨S', f', v, hM, hv, hR', hz⟩ := hh_addTeam l hfl D cI cZ cL ad ao f (aW (wO ao cL f ++ wC ad cI S)) (aW_D (D_left (by have h9 := C.2.2.2 S M th f; rw [← List.append_assoc] at h9; exact h9))) hR
  refine lv_aload_n hx hb dw_385 rfl (lv_at hl 1 rfl) ?_
  refine lv_aload_n hx hb dw_386 rfl (lv_at hl 3 rfl) ?_
  refine s_hlp (idx := 121) (rest := []) C hw ⟨by omega, by omega⟩ hM ckL_addTeam w_465 hl.1 rfl ⟨Nat.le_of_ble_eq_true rfl, Nat.le_of_ble_eq_true rfl⟩ (Nat.le_of_ble_eq_true rfl) dw_387 (fun H locs hw => ?_)
  refine lv_istore (lv' := [(5, .int v), (0, .ref b), (1, .ref (ad 0)), (2, .ref (am 0)), (3, .ref ao), (4, .int (nI i))]) hx hb dw_390 hl (by decide) rfl (fun ls hl => ?_)
  refine lv_aload_n hx hb dw_392 rfl (lv_at hl 3 rfl) ?_
  refine s_mod (idx := 124) (rest := []) C hw ⟨by omega, by omega⟩ (c_X6_addTeam l D cI cZ cL am M th (aW (wQ am cI cZ M th)) (aW_D (D_right (D_right (C.2.2.2 S M th f)))) hR.J) ck_X6_addTeam w_871 rfl hl.1 rfl ⟨Nat.le_of_ble_eq_true rfl, Nat.le_of_ble_eq_true rfl⟩ (Nat.le_of_ble_eq_true rfl) dw_393 (fun H locs hw => ?_)
  exact tI C hw ⟨by omega, by omega⟩ ⟨dw_396, dw_398, dw_399, dw_402, dw_404, dw_409, dw_411, dw_414, dw_415, dw_416, dw_417, dw_419, dw_420, dw_421, dw_426⟩ (by decide) hl hv hz (fun ls hl => next _ _ _ _ H locs ls hR' hw hl)
set_option maxHeartbeats 4000000 in
set_option maxRecDepth 100000 in
theorem lc_end (C : LC p l s m meth c b L xs D cI cZ cL ad am ao) (hR : Rel S M) (hw : LW s D cI cZ cL ad am ao S M th f H locs) (hcs : cells + 1 ≤ 1091 ∧ slots + 6 ≤ 11970) (hi : i + 5 ≤ L) (hl : lv_has ls 7 [(0, .ref b), (1, .ref (ad 0)), (2, .ref (am 0)), (3, .ref ao), (4, .int (nI i))]) (next : NX p l e s m args below meth c b D cI cZ cL ad am ao i (cells + 1) (slots + 6) Q) : W p l e room_1 s m args below meth c H locs cells slots Q (F0 m 429 ls []) := by
  obtain ⟨hx, hb, hr, hml, hown, hlk, hfl, hL⟩ := C.1
  obtain ⟨S', f', v, hM, hv, hR', hz⟩ := hh_end l hfl D cI cZ cL ad ao f (aW (wO ao cL f ++ wC ad cI S)) (aW_D (D_left (by have h9 := C.2.2.2 S M th f; rw [← List.append_assoc] at h9; exact h9))) hR
  refine lv_aload_n hx hb dw_429 rfl (lv_at hl 1 rfl) ?_
  refine lv_aload_n hx hb dw_430 rfl (lv_at hl 3 rfl) ?_
  refine s_hlp (idx := 125) (rest := []) C hw ⟨by omega, by omega⟩ hM ckL_end w_473 hl.1 rfl ⟨Nat.le_of_ble_eq_true rfl, Nat.le_of_ble_eq_true rfl⟩ (Nat.le_of_ble_eq_true rfl) dw_431 (fun H locs hw => ?_)
  refine lv_istore (lv' := [(5, .int v), (0, .ref b), (1, .ref (ad 0)), (2, .ref (am 0)), (3, .ref ao), (4, .int (nI i))]) hx hb dw_434 hl (by decide) rfl (fun ls hl => ?_)
  refine lv_aload_n hx hb dw_436 rfl (lv_at hl 3 rfl) ?_
  refine s_mod (idx := 127) (rest := []) C hw ⟨by omega, by omega⟩ (c_X6_end l D cI cZ cL am M th (aW (wQ am cI cZ M th)) (aW_D (D_right (D_right (C.2.2.2 S M th f)))) hR.J) ck_X6_end w_875 rfl hl.1 rfl ⟨Nat.le_of_ble_eq_true rfl, Nat.le_of_ble_eq_true rfl⟩ (Nat.le_of_ble_eq_true rfl) dw_437 (fun H locs hw => ?_)
  exact tI C hw ⟨by omega, by omega⟩ ⟨dw_440, dw_442, dw_443, dw_446, dw_448, dw_453, dw_455, dw_458, dw_459, dw_460, dw_461, dw_463, dw_464, dw_465, dw_470⟩ (by decide) hl hv hz (fun ls hl => next _ _ _ _ H locs ls hR' hw hl)
set_option maxHeartbeats 4000000 in
set_option maxRecDepth 100000 in
theorem lc_answer (C : LC p l s m meth c b L xs D cI cZ cL ad am ao) (hR : Rel S M) (hw : LW s D cI cZ cL ad am ao S M th f H locs) (hcs : cells + 1 ≤ 1091 ∧ slots + 6 ≤ 11970) (hi : i + 5 ≤ L) (hl : lv_has ls 7 [(0, .ref b), (1, .ref (ad 0)), (2, .ref (am 0)), (3, .ref ao), (4, .int (nI i))]) (next : NX p l e s m args below meth c b D cI cZ cL ad am ao i (cells + 1) (slots + 6) Q) : W p l e room_1 s m args below meth c H locs cells slots Q (F0 m 473 ls []) := by
  obtain ⟨hx, hb, hr, hml, hown, hlk, hfl, hL⟩ := C.1
  obtain ⟨S', f', v, hM, hv, hR', hz⟩ := hh_answer l hfl D cI cZ cL ad ao f (aW (wO ao cL f ++ wC ad cI S)) (aW_D (D_left (by have h9 := C.2.2.2 S M th f; rw [← List.append_assoc] at h9; exact h9))) (xs (i + 1)) (xs (i + 2)) (xs (i + 3)) hR
  refine lv_aload_n hx hb dw_473 rfl (lv_at hl 1 rfl) ?_
  refine l_arg (k := 1) (j0 := 0) (j4 := 4) C hw hl rfl rfl (by omega) rfl dw_474 dw_475 dw_477 dw_478 dw_479 ?_
  refine l_arg (k := 2) (j0 := 0) (j4 := 4) C hw hl rfl rfl (by omega) rfl dw_480 dw_481 dw_483 dw_484 dw_485 ?_
  refine l_arg (k := 3) (j0 := 0) (j4 := 4) C hw hl rfl rfl (by omega) rfl dw_486 dw_487 dw_489 dw_490 dw_491 ?_
  refine lv_aload_n hx hb dw_492 rfl (lv_at hl 3 rfl) ?_
  refine s_hlp (idx := 128) (rest := []) C hw ⟨by omega, by omega⟩ hM ckL_answer w_481 hl.1 rfl ⟨Nat.le_of_ble_eq_true rfl, Nat.le_of_ble_eq_true rfl⟩ (Nat.le_of_ble_eq_true rfl) dw_493 (fun H locs hw => ?_)
  refine lv_istore (lv' := [(5, .int v), (0, .ref b), (1, .ref (ad 0)), (2, .ref (am 0)), (3, .ref ao), (4, .int (nI i))]) hx hb dw_496 hl (by decide) rfl (fun ls hl => ?_)
  refine lv_aload_n hx hb dw_498 rfl (lv_at hl 3 rfl) ?_
  refine l_arg (k := 1) (j0 := 1) (j4 := 5) C hw hl rfl rfl (by omega) rfl dw_499 dw_500 dw_502 dw_503 dw_504 ?_
  refine l_arg (k := 2) (j0 := 1) (j4 := 5) C hw hl rfl rfl (by omega) rfl dw_505 dw_506 dw_508 dw_509 dw_510 ?_
  refine l_arg (k := 3) (j0 := 1) (j4 := 5) C hw hl rfl rfl (by omega) rfl dw_511 dw_512 dw_514 dw_515 dw_516 ?_
  refine s_mod (idx := 131) (rest := []) C hw ⟨by omega, by omega⟩ (c_X6_answer l D cI cZ cL am M th (aW (wQ am cI cZ M th)) (aW_D (D_right (D_right (C.2.2.2 S M th f)))) (xs (i + 1)) (xs (i + 2)) (xs (i + 3)) hR.J) ck_X6_answer w_883 rfl hl.1 rfl ⟨Nat.le_of_ble_eq_true rfl, Nat.le_of_ble_eq_true rfl⟩ (Nat.le_of_ble_eq_true rfl) dw_517 (fun H locs hw => ?_)
  exact tB C hw ⟨by omega, by omega⟩ ⟨dw_520, dw_522, dw_523, dw_526, dw_528, dw_533, dw_535, dw_538, dw_539, dw_540, dw_541, dw_543, dw_546, dw_547, dw_550, dw_551, dw_552, dw_557⟩ (by decide) hl hv hz (fun ls hl => next _ _ _ _ H locs ls hR' hw hl)
set_option maxHeartbeats 4000000 in
set_option maxRecDepth 100000 in
theorem lc_hint (C : LC p l s m meth c b L xs D cI cZ cL ad am ao) (hR : Rel S M) (hw : LW s D cI cZ cL ad am ao S M th f H locs) (hcs : cells + 1 ≤ 1091 ∧ slots + 6 ≤ 11970) (hi : i + 5 ≤ L) (hl : lv_has ls 7 [(0, .ref b), (1, .ref (ad 0)), (2, .ref (am 0)), (3, .ref ao), (4, .int (nI i))]) (next : NX p l e s m args below meth c b D cI cZ cL ad am ao i (cells + 1) (slots + 6) Q) : W p l e room_1 s m args below meth c H locs cells slots Q (F0 m 560 ls []) := by
  obtain ⟨hx, hb, hr, hml, hown, hlk, hfl, hL⟩ := C.1
  obtain ⟨S', f', v, hM, hv, hR', hz⟩ := hh_hint l hfl D cI cZ cL ad ao f (aW (wO ao cL f ++ wC ad cI S)) (aW_D (D_left (by have h9 := C.2.2.2 S M th f; rw [← List.append_assoc] at h9; exact h9))) (xs (i + 1)) (xs (i + 2)) hR
  refine lv_aload_n hx hb dw_560 rfl (lv_at hl 1 rfl) ?_
  refine l_arg (k := 1) (j0 := 0) (j4 := 4) C hw hl rfl rfl (by omega) rfl dw_561 dw_562 dw_564 dw_565 dw_566 ?_
  refine l_arg (k := 2) (j0 := 0) (j4 := 4) C hw hl rfl rfl (by omega) rfl dw_567 dw_568 dw_570 dw_571 dw_572 ?_
  refine lv_aload_n hx hb dw_573 rfl (lv_at hl 3 rfl) ?_
  refine s_hlp (idx := 132) (rest := []) C hw ⟨by omega, by omega⟩ hM ckL_hint w_529 hl.1 rfl ⟨Nat.le_of_ble_eq_true rfl, Nat.le_of_ble_eq_true rfl⟩ (Nat.le_of_ble_eq_true rfl) dw_574 (fun H locs hw => ?_)
  refine lv_istore (lv' := [(5, .int v), (0, .ref b), (1, .ref (ad 0)), (2, .ref (am 0)), (3, .ref ao), (4, .int (nI i))]) hx hb dw_577 hl (by decide) rfl (fun ls hl => ?_)
  refine lv_aload_n hx hb dw_579 rfl (lv_at hl 3 rfl) ?_
  refine l_arg (k := 1) (j0 := 1) (j4 := 5) C hw hl rfl rfl (by omega) rfl dw_580 dw_581 dw_583 dw_584 dw_585 ?_
  refine l_arg (k := 2) (j0 := 1) (j4 := 5) C hw hl rfl rfl (by omega) rfl dw_586 dw_587 dw_589 dw_590 dw_591 ?_
  refine s_mod (idx := 134) (rest := []) C hw ⟨by omega, by omega⟩ (c_X6_hint l D cI cZ cL am M th (aW (wQ am cI cZ M th)) (aW_D (D_right (D_right (C.2.2.2 S M th f)))) (xs (i + 1)) (xs (i + 2)) hR.J) ck_X6_hint w_903 rfl hl.1 rfl ⟨Nat.le_of_ble_eq_true rfl, Nat.le_of_ble_eq_true rfl⟩ (Nat.le_of_ble_eq_true rfl) dw_592 (fun H locs hw => ?_)
  exact tI C hw ⟨by omega, by omega⟩ ⟨dw_595, dw_597, dw_598, dw_601, dw_603, dw_608, dw_610, dw_613, dw_614, dw_615, dw_616, dw_618, dw_619, dw_620, dw_625⟩ (by decide) hl hv hz (fun ls hl => next _ _ _ _ H locs ls hR' hw hl)
set_option maxHeartbeats 4000000 in
set_option maxRecDepth 100000 in
theorem lc_price (C : LC p l s m meth c b L xs D cI cZ cL ad am ao) (hR : Rel S M) (hw : LW s D cI cZ cL ad am ao S M th f H locs) (hcs : cells + 1 ≤ 1091 ∧ slots + 6 ≤ 11970) (hi : i + 5 ≤ L) (hl : lv_has ls 7 [(0, .ref b), (1, .ref (ad 0)), (2, .ref (am 0)), (3, .ref ao), (4, .int (nI i))]) (next : NX p l e s m args below meth c b D cI cZ cL ad am ao i (cells + 1) (slots + 6) Q) : W p l e room_1 s m args below meth c H locs cells slots Q (F0 m 628 ls []) := by
  obtain ⟨hx, hb, hr, hml, hown, hlk, hfl, hL⟩ := C.1
  obtain ⟨S', f', v, hM, hv, hR', hz⟩ := hh_price l hfl D cI cZ cL ad ao f (aW (wO ao cL f ++ wC ad cI S)) (aW_D (D_left (by have h9 := C.2.2.2 S M th f; rw [← List.append_assoc] at h9; exact h9))) (xs (i + 1)) (xs (i + 2)) hR
  refine lv_aload_n hx hb dw_628 rfl (lv_at hl 1 rfl) ?_
  refine l_arg (k := 1) (j0 := 0) (j4 := 4) C hw hl rfl rfl (by omega) rfl dw_629 dw_630 dw_632 dw_633 dw_634 ?_
  refine l_arg (k := 2) (j0 := 0) (j4 := 4) C hw hl rfl rfl (by omega) rfl dw_635 dw_636 dw_638 dw_639 dw_640 ?_
  refine lv_aload_n hx hb dw_641 rfl (lv_at hl 3 rfl) ?_
  refine s_hlp (idx := 135) (rest := []) C hw ⟨by omega, by omega⟩ hM ckL_price w_562 hl.1 rfl ⟨Nat.le_of_ble_eq_true rfl, Nat.le_of_ble_eq_true rfl⟩ (Nat.le_of_ble_eq_true rfl) dw_642 (fun H locs hw => ?_)
  refine lv_istore (lv' := [(5, .int v), (0, .ref b), (1, .ref (ad 0)), (2, .ref (am 0)), (3, .ref ao), (4, .int (nI i))]) hx hb dw_645 hl (by decide) rfl (fun ls hl => ?_)
  refine lv_aload_n hx hb dw_647 rfl (lv_at hl 3 rfl) ?_
  refine l_arg (k := 1) (j0 := 1) (j4 := 5) C hw hl rfl rfl (by omega) rfl dw_648 dw_649 dw_651 dw_652 dw_653 ?_
  refine l_arg (k := 2) (j0 := 1) (j4 := 5) C hw hl rfl rfl (by omega) rfl dw_654 dw_655 dw_657 dw_658 dw_659 ?_
  refine s_mod (idx := 137) (rest := []) C hw ⟨by omega, by omega⟩ (c_X6_price l D cI cZ cL am M th (aW (wQ am cI cZ M th)) (aW_D (D_right (D_right (C.2.2.2 S M th f)))) (xs (i + 1)) (xs (i + 2)) hR.J) ck_X6_price w_911 rfl hl.1 rfl ⟨Nat.le_of_ble_eq_true rfl, Nat.le_of_ble_eq_true rfl⟩ (Nat.le_of_ble_eq_true rfl) dw_660 (fun H locs hw => ?_)
  exact tI C hw ⟨by omega, by omega⟩ ⟨dw_663, dw_665, dw_666, dw_669, dw_671, dw_676, dw_678, dw_681, dw_682, dw_683, dw_684, dw_686, dw_687, dw_688, dw_693⟩ (by decide) hl hv hz (fun ls hl => next _ _ _ _ H locs ls hR' hw hl)
set_option maxHeartbeats 4000000 in
set_option maxRecDepth 100000 in
theorem lc_openedAt (C : LC p l s m meth c b L xs D cI cZ cL ad am ao) (hR : Rel S M) (hw : LW s D cI cZ cL ad am ao S M th f H locs) (hcs : cells + 1 ≤ 1091 ∧ slots + 6 ≤ 11970) (hi : i + 5 ≤ L) (hl : lv_has ls 7 [(0, .ref b), (1, .ref (ad 0)), (2, .ref (am 0)), (3, .ref ao), (4, .int (nI i))]) (next : NX p l e s m args below meth c b D cI cZ cL ad am ao i (cells + 1) (slots + 6) Q) : W p l e room_1 s m args below meth c H locs cells slots Q (F0 m 696 ls []) := by
  obtain ⟨hx, hb, hr, hml, hown, hlk, hfl, hL⟩ := C.1
  obtain ⟨S', f', v, hM, hv, hR', hz⟩ := hh_openedAt l hfl D cI cZ cL ad ao f (aW (wO ao cL f ++ wC ad cI S)) (aW_D (D_left (by have h9 := C.2.2.2 S M th f; rw [← List.append_assoc] at h9; exact h9))) (xs (i + 1)) (xs (i + 2)) hR
  refine lv_aload_n hx hb dw_696 rfl (lv_at hl 1 rfl) ?_
  refine l_arg (k := 1) (j0 := 0) (j4 := 4) C hw hl rfl rfl (by omega) rfl dw_697 dw_698 dw_700 dw_701 dw_702 ?_
  refine l_arg (k := 2) (j0 := 0) (j4 := 4) C hw hl rfl rfl (by omega) rfl dw_703 dw_704 dw_706 dw_707 dw_708 ?_
  refine lv_aload_n hx hb dw_709 rfl (lv_at hl 3 rfl) ?_
  refine s_hlp (idx := 138) (rest := []) C hw ⟨by omega, by omega⟩ hM ckL_openedAt w_586 hl.1 rfl ⟨Nat.le_of_ble_eq_true rfl, Nat.le_of_ble_eq_true rfl⟩ (Nat.le_of_ble_eq_true rfl) dw_710 (fun H locs hw => ?_)
  refine lv_istore (lv' := [(5, .int v), (0, .ref b), (1, .ref (ad 0)), (2, .ref (am 0)), (3, .ref ao), (4, .int (nI i))]) hx hb dw_713 hl (by decide) rfl (fun ls hl => ?_)
  refine lv_aload_n hx hb dw_715 rfl (lv_at hl 3 rfl) ?_
  refine l_arg (k := 1) (j0 := 1) (j4 := 5) C hw hl rfl rfl (by omega) rfl dw_716 dw_717 dw_719 dw_720 dw_721 ?_
  refine l_arg (k := 2) (j0 := 1) (j4 := 5) C hw hl rfl rfl (by omega) rfl dw_722 dw_723 dw_725 dw_726 dw_727 ?_
  refine s_mod (idx := 140) (rest := []) C hw ⟨by omega, by omega⟩ (c_X6_openedAt l D cI cZ cL am M th (aW (wQ am cI cZ M th)) (aW_D (D_right (D_right (C.2.2.2 S M th f)))) (xs (i + 1)) (xs (i + 2)) hR.J) ck_X6_openedAt w_915 rfl hl.1 rfl ⟨Nat.le_of_ble_eq_true rfl, Nat.le_of_ble_eq_true rfl⟩ (Nat.le_of_ble_eq_true rfl) dw_728 (fun H locs hw => ?_)
  exact tI C hw ⟨by omega, by omega⟩ ⟨dw_731, dw_733, dw_734, dw_737, dw_739, dw_744, dw_746, dw_749, dw_750, dw_751, dw_752, dw_754, dw_755, dw_756, dw_761⟩ (by decide) hl hv hz (fun ls hl => next _ _ _ _ H locs ls hR' hw hl)
set_option maxHeartbeats 4000000 in
set_option maxRecDepth 100000 in
theorem lc_solvedAt (C : LC p l s m meth c b L xs D cI cZ cL ad am ao) (hR : Rel S M) (hw : LW s D cI cZ cL ad am ao S M th f H locs) (hcs : cells + 1 ≤ 1091 ∧ slots + 6 ≤ 11970) (hi : i + 5 ≤ L) (hl : lv_has ls 7 [(0, .ref b), (1, .ref (ad 0)), (2, .ref (am 0)), (3, .ref ao), (4, .int (nI i))]) (next : NX p l e s m args below meth c b D cI cZ cL ad am ao i (cells + 1) (slots + 6) Q) : W p l e room_1 s m args below meth c H locs cells slots Q (F0 m 764 ls []) := by
  obtain ⟨hx, hb, hr, hml, hown, hlk, hfl, hL⟩ := C.1
  obtain ⟨S', f', v, hM, hv, hR', hz⟩ := hh_solvedAt l hfl D cI cZ cL ad ao f (aW (wO ao cL f ++ wC ad cI S)) (aW_D (D_left (by have h9 := C.2.2.2 S M th f; rw [← List.append_assoc] at h9; exact h9))) (xs (i + 1)) (xs (i + 2)) hR
  refine lv_aload_n hx hb dw_764 rfl (lv_at hl 1 rfl) ?_
  refine l_arg (k := 1) (j0 := 0) (j4 := 4) C hw hl rfl rfl (by omega) rfl dw_765 dw_766 dw_768 dw_769 dw_770 ?_
  refine l_arg (k := 2) (j0 := 0) (j4 := 4) C hw hl rfl rfl (by omega) rfl dw_771 dw_772 dw_774 dw_775 dw_776 ?_
  refine lv_aload_n hx hb dw_777 rfl (lv_at hl 3 rfl) ?_
  refine s_hlp (idx := 141) (rest := []) C hw ⟨by omega, by omega⟩ hM ckL_solvedAt w_593 hl.1 rfl ⟨Nat.le_of_ble_eq_true rfl, Nat.le_of_ble_eq_true rfl⟩ (Nat.le_of_ble_eq_true rfl) dw_778 (fun H locs hw => ?_)
  refine lv_istore (lv' := [(5, .int v), (0, .ref b), (1, .ref (ad 0)), (2, .ref (am 0)), (3, .ref ao), (4, .int (nI i))]) hx hb dw_781 hl (by decide) rfl (fun ls hl => ?_)
  refine lv_aload_n hx hb dw_783 rfl (lv_at hl 3 rfl) ?_
  refine l_arg (k := 1) (j0 := 1) (j4 := 5) C hw hl rfl rfl (by omega) rfl dw_784 dw_785 dw_787 dw_788 dw_789 ?_
  refine l_arg (k := 2) (j0 := 1) (j4 := 5) C hw hl rfl rfl (by omega) rfl dw_790 dw_791 dw_793 dw_794 dw_795 ?_
  refine s_mod (idx := 143) (rest := []) C hw ⟨by omega, by omega⟩ (c_X6_solvedAt l D cI cZ cL am M th (aW (wQ am cI cZ M th)) (aW_D (D_right (D_right (C.2.2.2 S M th f)))) (xs (i + 1)) (xs (i + 2)) hR.J) ck_X6_solvedAt w_919 rfl hl.1 rfl ⟨Nat.le_of_ble_eq_true rfl, Nat.le_of_ble_eq_true rfl⟩ (Nat.le_of_ble_eq_true rfl) dw_796 (fun H locs hw => ?_)
  exact tI C hw ⟨by omega, by omega⟩ ⟨dw_799, dw_801, dw_802, dw_805, dw_807, dw_812, dw_814, dw_817, dw_818, dw_819, dw_820, dw_822, dw_823, dw_824, dw_829⟩ (by decide) hl hv hz (fun ls hl => next _ _ _ _ H locs ls hR' hw hl)
set_option maxHeartbeats 4000000 in
set_option maxRecDepth 100000 in
theorem lc_clear (C : LC p l s m meth c b L xs D cI cZ cL ad am ao) (hR : Rel S M) (hw : LW s D cI cZ cL ad am ao S M th f H locs) (hcs : cells + 1 ≤ 1091 ∧ slots + 6 ≤ 11970) (hi : i + 5 ≤ L) (hl : lv_has ls 7 [(0, .ref b), (1, .ref (ad 0)), (2, .ref (am 0)), (3, .ref ao), (4, .int (nI i))]) (next : NX p l e s m args below meth c b D cI cZ cL ad am ao i (cells + 1) (slots + 6) Q) : W p l e room_1 s m args below meth c H locs cells slots Q (F0 m 832 ls []) := by
  obtain ⟨hx, hb, hr, hml, hown, hlk, hfl, hL⟩ := C.1
  obtain ⟨S', f', v, hM, hv, hR', hz⟩ := hh_clear l hfl D cI cZ cL ad ao f (aW (wO ao cL f ++ wC ad cI S)) (aW_D (D_left (by have h9 := C.2.2.2 S M th f; rw [← List.append_assoc] at h9; exact h9))) (xs (i + 1)) (xs (i + 2)) hR
  refine lv_aload_n hx hb dw_832 rfl (lv_at hl 1 rfl) ?_
  refine l_arg (k := 1) (j0 := 0) (j4 := 4) C hw hl rfl rfl (by omega) rfl dw_833 dw_834 dw_836 dw_837 dw_838 ?_
  refine l_arg (k := 2) (j0 := 0) (j4 := 4) C hw hl rfl rfl (by omega) rfl dw_839 dw_840 dw_842 dw_843 dw_844 ?_
  refine lv_aload_n hx hb dw_845 rfl (lv_at hl 3 rfl) ?_
  refine s_hlp (idx := 144) (rest := []) C hw ⟨by omega, by omega⟩ hM ckL_clear w_600 hl.1 rfl ⟨Nat.le_of_ble_eq_true rfl, Nat.le_of_ble_eq_true rfl⟩ (Nat.le_of_ble_eq_true rfl) dw_846 (fun H locs hw => ?_)
  refine lv_istore (lv' := [(5, .int v), (0, .ref b), (1, .ref (ad 0)), (2, .ref (am 0)), (3, .ref ao), (4, .int (nI i))]) hx hb dw_849 hl (by decide) rfl (fun ls hl => ?_)
  refine lv_aload_n hx hb dw_851 rfl (lv_at hl 3 rfl) ?_
  refine l_arg (k := 1) (j0 := 1) (j4 := 5) C hw hl rfl rfl (by omega) rfl dw_852 dw_853 dw_855 dw_856 dw_857 ?_
  refine l_arg (k := 2) (j0 := 1) (j4 := 5) C hw hl rfl rfl (by omega) rfl dw_858 dw_859 dw_861 dw_862 dw_863 ?_
  refine s_mod (idx := 146) (rest := []) C hw ⟨by omega, by omega⟩ (c_X6_clear l D cI cZ cL am M th (aW (wQ am cI cZ M th)) (aW_D (D_right (D_right (C.2.2.2 S M th f)))) (xs (i + 1)) (xs (i + 2)) hR.J) ck_X6_clear w_923 rfl hl.1 rfl ⟨Nat.le_of_ble_eq_true rfl, Nat.le_of_ble_eq_true rfl⟩ (Nat.le_of_ble_eq_true rfl) dw_864 (fun H locs hw => ?_)
  exact tB C hw ⟨by omega, by omega⟩ ⟨dw_867, dw_869, dw_870, dw_873, dw_875, dw_880, dw_882, dw_885, dw_886, dw_887, dw_888, dw_890, dw_893, dw_894, dw_897, dw_898, dw_899, dw_904⟩ (by decide) hl hv hz (fun ls hl => next _ _ _ _ H locs ls hR' hw hl)
set_option maxHeartbeats 4000000 in
set_option maxRecDepth 100000 in
theorem lc_pardon (C : LC p l s m meth c b L xs D cI cZ cL ad am ao) (hR : Rel S M) (hw : LW s D cI cZ cL ad am ao S M th f H locs) (hcs : cells + 1 ≤ 1091 ∧ slots + 6 ≤ 11970) (hi : i + 5 ≤ L) (hl : lv_has ls 7 [(0, .ref b), (1, .ref (ad 0)), (2, .ref (am 0)), (3, .ref ao), (4, .int (nI i))]) (next : NX p l e s m args below meth c b D cI cZ cL ad am ao i (cells + 1) (slots + 6) Q) : W p l e room_1 s m args below meth c H locs cells slots Q (F0 m 907 ls []) := by
  obtain ⟨hx, hb, hr, hml, hown, hlk, hfl, hL⟩ := C.1
  obtain ⟨S', f', v, hM, hv, hR', hz⟩ := hh_pardon l hfl D cI cZ cL ad ao f (aW (wO ao cL f ++ wC ad cI S)) (aW_D (D_left (by have h9 := C.2.2.2 S M th f; rw [← List.append_assoc] at h9; exact h9))) (xs (i + 1)) (xs (i + 2)) hR
  refine lv_aload_n hx hb dw_907 rfl (lv_at hl 1 rfl) ?_
  refine l_arg (k := 1) (j0 := 0) (j4 := 4) C hw hl rfl rfl (by omega) rfl dw_908 dw_909 dw_911 dw_912 dw_913 ?_
  refine l_arg (k := 2) (j0 := 0) (j4 := 4) C hw hl rfl rfl (by omega) rfl dw_914 dw_915 dw_917 dw_918 dw_919 ?_
  refine lv_aload_n hx hb dw_920 rfl (lv_at hl 3 rfl) ?_
  refine s_hlp (idx := 147) (rest := []) C hw ⟨by omega, by omega⟩ hM ckL_pardon w_608 hl.1 rfl ⟨Nat.le_of_ble_eq_true rfl, Nat.le_of_ble_eq_true rfl⟩ (Nat.le_of_ble_eq_true rfl) dw_921 (fun H locs hw => ?_)
  refine lv_istore (lv' := [(5, .int v), (0, .ref b), (1, .ref (ad 0)), (2, .ref (am 0)), (3, .ref ao), (4, .int (nI i))]) hx hb dw_924 hl (by decide) rfl (fun ls hl => ?_)
  refine lv_aload_n hx hb dw_926 rfl (lv_at hl 3 rfl) ?_
  refine l_arg (k := 1) (j0 := 1) (j4 := 5) C hw hl rfl rfl (by omega) rfl dw_927 dw_928 dw_930 dw_931 dw_932 ?_
  refine l_arg (k := 2) (j0 := 1) (j4 := 5) C hw hl rfl rfl (by omega) rfl dw_933 dw_934 dw_936 dw_937 dw_938 ?_
  refine s_mod (idx := 149) (rest := []) C hw ⟨by omega, by omega⟩ (c_X6_pardon l D cI cZ cL am M th (aW (wQ am cI cZ M th)) (aW_D (D_right (D_right (C.2.2.2 S M th f)))) (xs (i + 1)) (xs (i + 2)) hR.J) ck_X6_pardon w_927 rfl hl.1 rfl ⟨Nat.le_of_ble_eq_true rfl, Nat.le_of_ble_eq_true rfl⟩ (Nat.le_of_ble_eq_true rfl) dw_939 (fun H locs hw => ?_)
  exact tB C hw ⟨by omega, by omega⟩ ⟨dw_942, dw_944, dw_945, dw_948, dw_950, dw_955, dw_957, dw_960, dw_961, dw_962, dw_963, dw_965, dw_968, dw_969, dw_972, dw_973, dw_974, dw_979⟩ (by decide) hl hv hz (fun ls hl => next _ _ _ _ H locs ls hR' hw hl)
set_option maxHeartbeats 4000000 in
set_option maxRecDepth 100000 in
theorem lc_setBound (C : LC p l s m meth c b L xs D cI cZ cL ad am ao) (hR : Rel S M) (hw : LW s D cI cZ cL ad am ao S M th f H locs) (hcs : cells + 1 ≤ 1091 ∧ slots + 6 ≤ 11970) (hi : i + 5 ≤ L) (hl : lv_has ls 7 [(0, .ref b), (1, .ref (ad 0)), (2, .ref (am 0)), (3, .ref ao), (4, .int (nI i))]) (next : NX p l e s m args below meth c b D cI cZ cL ad am ao i (cells + 1) (slots + 6) Q) : W p l e room_1 s m args below meth c H locs cells slots Q (F0 m 982 ls []) := by
  obtain ⟨hx, hb, hr, hml, hown, hlk, hfl, hL⟩ := C.1
  obtain ⟨S', f', v, hM, hv, hR', hz⟩ := hh_setBound l hfl D cI cZ cL ad ao f (aW (wO ao cL f ++ wC ad cI S)) (aW_D (D_left (by have h9 := C.2.2.2 S M th f; rw [← List.append_assoc] at h9; exact h9))) (xs (i + 1)) hR
  refine lv_aload_n hx hb dw_982 rfl (lv_at hl 1 rfl) ?_
  refine l_arg (k := 1) (j0 := 0) (j4 := 4) C hw hl rfl rfl (by omega) rfl dw_983 dw_984 dw_986 dw_987 dw_988 ?_
  refine lv_aload_n hx hb dw_989 rfl (lv_at hl 3 rfl) ?_
  refine s_hlp (idx := 150) (rest := []) C hw ⟨by omega, by omega⟩ hM ckL_setBound w_621 hl.1 rfl ⟨Nat.le_of_ble_eq_true rfl, Nat.le_of_ble_eq_true rfl⟩ (Nat.le_of_ble_eq_true rfl) dw_990 (fun H locs hw => ?_)
  refine lv_istore (lv' := [(5, .int v), (0, .ref b), (1, .ref (ad 0)), (2, .ref (am 0)), (3, .ref ao), (4, .int (nI i))]) hx hb dw_993 hl (by decide) rfl (fun ls hl => ?_)
  refine lv_aload_n hx hb dw_995 rfl (lv_at hl 3 rfl) ?_
  refine l_arg (k := 1) (j0 := 1) (j4 := 5) C hw hl rfl rfl (by omega) rfl dw_996 dw_997 dw_999 dw_1000 dw_1001 ?_
  refine s_mod (idx := 152) (rest := []) C hw ⟨by omega, by omega⟩ (c_X6_setBound l D cI cZ cL am M th (aW (wQ am cI cZ M th)) (aW_D (D_right (D_right (C.2.2.2 S M th f)))) (xs (i + 1)) hR.J) ck_X6_setBound w_931 rfl hl.1 rfl ⟨Nat.le_of_ble_eq_true rfl, Nat.le_of_ble_eq_true rfl⟩ (Nat.le_of_ble_eq_true rfl) dw_1002 (fun H locs hw => ?_)
  exact tI C hw ⟨by omega, by omega⟩ ⟨dw_1005, dw_1007, dw_1008, dw_1011, dw_1013, dw_1018, dw_1020, dw_1023, dw_1024, dw_1025, dw_1026, dw_1028, dw_1029, dw_1030, dw_1035⟩ (by decide) hl hv hz (fun ls hl => next _ _ _ _ H locs ls hR' hw hl)
set_option maxHeartbeats 4000000 in
set_option maxRecDepth 100000 in
theorem lc_isFree (C : LC p l s m meth c b L xs D cI cZ cL ad am ao) (hR : Rel S M) (hw : LW s D cI cZ cL ad am ao S M th f H locs) (hcs : cells + 1 ≤ 1091 ∧ slots + 6 ≤ 11970) (hi : i + 5 ≤ L) (hl : lv_has ls 7 [(0, .ref b), (1, .ref (ad 0)), (2, .ref (am 0)), (3, .ref ao), (4, .int (nI i))]) (next : NX p l e s m args below meth c b D cI cZ cL ad am ao i (cells + 1) (slots + 6) Q) : W p l e room_1 s m args below meth c H locs cells slots Q (F0 m 1038 ls []) := by
  obtain ⟨hx, hb, hr, hml, hown, hlk, hfl, hL⟩ := C.1
  obtain ⟨S', f', v, hM, hv, hR', hz⟩ := hh_isFree l hfl D cI cZ cL ad ao f (aW (wO ao cL f ++ wC ad cI S)) (aW_D (D_left (by have h9 := C.2.2.2 S M th f; rw [← List.append_assoc] at h9; exact h9))) (xs (i + 1)) hR
  refine lv_aload_n hx hb dw_1038 rfl (lv_at hl 1 rfl) ?_
  refine l_arg (k := 1) (j0 := 0) (j4 := 4) C hw hl rfl rfl (by omega) rfl dw_1039 dw_1040 dw_1042 dw_1043 dw_1044 ?_
  refine lv_aload_n hx hb dw_1045 rfl (lv_at hl 3 rfl) ?_
  refine s_hlp (idx := 153) (rest := []) C hw ⟨by omega, by omega⟩ hM ckL_isFree w_628 hl.1 rfl ⟨Nat.le_of_ble_eq_true rfl, Nat.le_of_ble_eq_true rfl⟩ (Nat.le_of_ble_eq_true rfl) dw_1046 (fun H locs hw => ?_)
  refine lv_istore (lv' := [(5, .int v), (0, .ref b), (1, .ref (ad 0)), (2, .ref (am 0)), (3, .ref ao), (4, .int (nI i))]) hx hb dw_1049 hl (by decide) rfl (fun ls hl => ?_)
  refine lv_aload_n hx hb dw_1051 rfl (lv_at hl 3 rfl) ?_
  refine l_arg (k := 1) (j0 := 1) (j4 := 5) C hw hl rfl rfl (by omega) rfl dw_1052 dw_1053 dw_1055 dw_1056 dw_1057 ?_
  refine s_mod (idx := 155) (rest := []) C hw ⟨by omega, by omega⟩ (c_X6_isFree l D cI cZ cL am M th (aW (wQ am cI cZ M th)) (aW_D (D_right (D_right (C.2.2.2 S M th f)))) (xs (i + 1)) hR.J) ck_X6_isFree w_935 rfl hl.1 rfl ⟨Nat.le_of_ble_eq_true rfl, Nat.le_of_ble_eq_true rfl⟩ (Nat.le_of_ble_eq_true rfl) dw_1058 (fun H locs hw => ?_)
  exact tB C hw ⟨by omega, by omega⟩ ⟨dw_1061, dw_1063, dw_1064, dw_1067, dw_1069, dw_1074, dw_1076, dw_1079, dw_1080, dw_1081, dw_1082, dw_1084, dw_1087, dw_1088, dw_1091, dw_1092, dw_1093, dw_1098⟩ (by decide) hl hv hz (fun ls hl => next _ _ _ _ H locs ls hR' hw hl)
set_option maxHeartbeats 4000000 in
set_option maxRecDepth 100000 in
theorem lc_likeness (C : LC p l s m meth c b L xs D cI cZ cL ad am ao) (hR : Rel S M) (hw : LW s D cI cZ cL ad am ao S M th f H locs) (hcs : cells + 1 ≤ 1091 ∧ slots + 6 ≤ 11970) (hi : i + 5 ≤ L) (hl : lv_has ls 7 [(0, .ref b), (1, .ref (ad 0)), (2, .ref (am 0)), (3, .ref ao), (4, .int (nI i))]) (next : NX p l e s m args below meth c b D cI cZ cL ad am ao i (cells + 1) (slots + 6) Q) : W p l e room_1 s m args below meth c H locs cells slots Q (F0 m 1101 ls []) := by
  obtain ⟨hx, hb, hr, hml, hown, hlk, hfl, hL⟩ := C.1
  obtain ⟨S', f', v, hM, hv, hR', hz⟩ := hh_likeness l hfl D cI cZ cL ad ao f (aW (wO ao cL f ++ wC ad cI S)) (aW_D (D_left (by have h9 := C.2.2.2 S M th f; rw [← List.append_assoc] at h9; exact h9))) (xs (i + 1)) (xs (i + 2)) hR
  refine lv_aload_n hx hb dw_1101 rfl (lv_at hl 1 rfl) ?_
  refine l_arg (k := 1) (j0 := 0) (j4 := 4) C hw hl rfl rfl (by omega) rfl dw_1102 dw_1103 dw_1105 dw_1106 dw_1107 ?_
  refine l_arg (k := 2) (j0 := 0) (j4 := 4) C hw hl rfl rfl (by omega) rfl dw_1108 dw_1109 dw_1111 dw_1112 dw_1113 ?_
  refine lv_aload_n hx hb dw_1114 rfl (lv_at hl 3 rfl) ?_
  refine s_hlp (idx := 156) (rest := []) C hw ⟨by omega, by omega⟩ hM ckL_likeness w_635 hl.1 rfl ⟨Nat.le_of_ble_eq_true rfl, Nat.le_of_ble_eq_true rfl⟩ (Nat.le_of_ble_eq_true rfl) dw_1115 (fun H locs hw => ?_)
  refine lv_istore (lv' := [(5, .int v), (0, .ref b), (1, .ref (ad 0)), (2, .ref (am 0)), (3, .ref ao), (4, .int (nI i))]) hx hb dw_1118 hl (by decide) rfl (fun ls hl => ?_)
  refine lv_aload_n hx hb dw_1120 rfl (lv_at hl 3 rfl) ?_
  refine l_arg (k := 1) (j0 := 1) (j4 := 5) C hw hl rfl rfl (by omega) rfl dw_1121 dw_1122 dw_1124 dw_1125 dw_1126 ?_
  refine l_arg (k := 2) (j0 := 1) (j4 := 5) C hw hl rfl rfl (by omega) rfl dw_1127 dw_1128 dw_1130 dw_1131 dw_1132 ?_
  refine s_mod (idx := 158) (rest := []) C hw ⟨by omega, by omega⟩ (c_X6_likeness l D cI cZ cL am M th (aW (wQ am cI cZ M th)) (aW_D (D_right (D_right (C.2.2.2 S M th f)))) (xs (i + 1)) (xs (i + 2)) hR.J) ck_X6_likeness w_939 rfl hl.1 rfl ⟨Nat.le_of_ble_eq_true rfl, Nat.le_of_ble_eq_true rfl⟩ (Nat.le_of_ble_eq_true rfl) dw_1133 (fun H locs hw => ?_)
  exact tI C hw ⟨by omega, by omega⟩ ⟨dw_1136, dw_1138, dw_1139, dw_1142, dw_1144, dw_1149, dw_1151, dw_1154, dw_1155, dw_1156, dw_1157, dw_1159, dw_1160, dw_1161, dw_1166⟩ (by decide) hl hv hz (fun ls hl => next _ _ _ _ H locs ls hR' hw hl)
set_option maxHeartbeats 4000000 in
set_option maxRecDepth 100000 in
theorem lc_areLinked (C : LC p l s m meth c b L xs D cI cZ cL ad am ao) (hR : Rel S M) (hw : LW s D cI cZ cL ad am ao S M th f H locs) (hcs : cells + 1 ≤ 1091 ∧ slots + 6 ≤ 11970) (hi : i + 5 ≤ L) (hl : lv_has ls 7 [(0, .ref b), (1, .ref (ad 0)), (2, .ref (am 0)), (3, .ref ao), (4, .int (nI i))]) (next : NX p l e s m args below meth c b D cI cZ cL ad am ao i (cells + 1) (slots + 6) Q) : W p l e room_1 s m args below meth c H locs cells slots Q (F0 m 1169 ls []) := by
  obtain ⟨hx, hb, hr, hml, hown, hlk, hfl, hL⟩ := C.1
  obtain ⟨S', f', v, hM, hv, hR', hz⟩ := hh_areLinked l hfl D cI cZ cL ad ao f (aW (wO ao cL f ++ wC ad cI S)) (aW_D (D_left (by have h9 := C.2.2.2 S M th f; rw [← List.append_assoc] at h9; exact h9))) (xs (i + 1)) (xs (i + 2)) hR
  refine lv_aload_n hx hb dw_1169 rfl (lv_at hl 1 rfl) ?_
  refine l_arg (k := 1) (j0 := 0) (j4 := 4) C hw hl rfl rfl (by omega) rfl dw_1170 dw_1171 dw_1173 dw_1174 dw_1175 ?_
  refine l_arg (k := 2) (j0 := 0) (j4 := 4) C hw hl rfl rfl (by omega) rfl dw_1176 dw_1177 dw_1179 dw_1180 dw_1181 ?_
  refine lv_aload_n hx hb dw_1182 rfl (lv_at hl 3 rfl) ?_
  refine s_hlp (idx := 159) (rest := []) C hw ⟨by omega, by omega⟩ hM ckL_areLinked w_642 hl.1 rfl ⟨Nat.le_of_ble_eq_true rfl, Nat.le_of_ble_eq_true rfl⟩ (Nat.le_of_ble_eq_true rfl) dw_1183 (fun H locs hw => ?_)
  refine lv_istore (lv' := [(5, .int v), (0, .ref b), (1, .ref (ad 0)), (2, .ref (am 0)), (3, .ref ao), (4, .int (nI i))]) hx hb dw_1186 hl (by decide) rfl (fun ls hl => ?_)
  refine lv_aload_n hx hb dw_1188 rfl (lv_at hl 3 rfl) ?_
  refine l_arg (k := 1) (j0 := 1) (j4 := 5) C hw hl rfl rfl (by omega) rfl dw_1189 dw_1190 dw_1192 dw_1193 dw_1194 ?_
  refine l_arg (k := 2) (j0 := 1) (j4 := 5) C hw hl rfl rfl (by omega) rfl dw_1195 dw_1196 dw_1198 dw_1199 dw_1200 ?_
  refine s_mod (idx := 161) (rest := []) C hw ⟨by omega, by omega⟩ (c_X6_areLinked l D cI cZ cL am M th (aW (wQ am cI cZ M th)) (aW_D (D_right (D_right (C.2.2.2 S M th f)))) (xs (i + 1)) (xs (i + 2)) hR.J) ck_X6_areLinked w_955 rfl hl.1 rfl ⟨Nat.le_of_ble_eq_true rfl, Nat.le_of_ble_eq_true rfl⟩ (Nat.le_of_ble_eq_true rfl) dw_1201 (fun H locs hw => ?_)
  exact tB C hw ⟨by omega, by omega⟩ ⟨dw_1204, dw_1206, dw_1207, dw_1210, dw_1212, dw_1217, dw_1219, dw_1222, dw_1223, dw_1224, dw_1225, dw_1227, dw_1230, dw_1231, dw_1234, dw_1235, dw_1236, dw_1241⟩ (by decide) hl hv hz (fun ls hl => next _ _ _ _ H locs ls hR' hw hl)
set_option maxHeartbeats 4000000 in
set_option maxRecDepth 100000 in
theorem lc_isCheated (C : LC p l s m meth c b L xs D cI cZ cL ad am ao) (hR : Rel S M) (hw : LW s D cI cZ cL ad am ao S M th f H locs) (hcs : cells + 1 ≤ 1091 ∧ slots + 6 ≤ 11970) (hi : i + 5 ≤ L) (hl : lv_has ls 7 [(0, .ref b), (1, .ref (ad 0)), (2, .ref (am 0)), (3, .ref ao), (4, .int (nI i))]) (next : NX p l e s m args below meth c b D cI cZ cL ad am ao i (cells + 1) (slots + 6) Q) : W p l e room_1 s m args below meth c H locs cells slots Q (F0 m 1244 ls []) := by
  obtain ⟨hx, hb, hr, hml, hown, hlk, hfl, hL⟩ := C.1
  obtain ⟨S', f', v, hM, hv, hR', hz⟩ := hh_isCheated l hfl D cI cZ cL ad ao f (aW (wO ao cL f ++ wC ad cI S)) (aW_D (D_left (by have h9 := C.2.2.2 S M th f; rw [← List.append_assoc] at h9; exact h9))) (xs (i + 1)) (xs (i + 2)) hR
  refine lv_aload_n hx hb dw_1244 rfl (lv_at hl 1 rfl) ?_
  refine l_arg (k := 1) (j0 := 0) (j4 := 4) C hw hl rfl rfl (by omega) rfl dw_1245 dw_1246 dw_1248 dw_1249 dw_1250 ?_
  refine l_arg (k := 2) (j0 := 0) (j4 := 4) C hw hl rfl rfl (by omega) rfl dw_1251 dw_1252 dw_1254 dw_1255 dw_1256 ?_
  refine lv_aload_n hx hb dw_1257 rfl (lv_at hl 3 rfl) ?_
  refine s_hlp (idx := 162) (rest := []) C hw ⟨by omega, by omega⟩ hM ckL_isCheated w_649 hl.1 rfl ⟨Nat.le_of_ble_eq_true rfl, Nat.le_of_ble_eq_true rfl⟩ (Nat.le_of_ble_eq_true rfl) dw_1258 (fun H locs hw => ?_)
  refine lv_istore (lv' := [(5, .int v), (0, .ref b), (1, .ref (ad 0)), (2, .ref (am 0)), (3, .ref ao), (4, .int (nI i))]) hx hb dw_1261 hl (by decide) rfl (fun ls hl => ?_)
  refine lv_aload_n hx hb dw_1263 rfl (lv_at hl 3 rfl) ?_
  refine l_arg (k := 1) (j0 := 1) (j4 := 5) C hw hl rfl rfl (by omega) rfl dw_1264 dw_1265 dw_1267 dw_1268 dw_1269 ?_
  refine l_arg (k := 2) (j0 := 1) (j4 := 5) C hw hl rfl rfl (by omega) rfl dw_1270 dw_1271 dw_1273 dw_1274 dw_1275 ?_
  refine s_mod (idx := 164) (rest := []) C hw ⟨by omega, by omega⟩ (c_X6_isCheated l D cI cZ cL am M th (aW (wQ am cI cZ M th)) (aW_D (D_right (D_right (C.2.2.2 S M th f)))) (xs (i + 1)) (xs (i + 2)) hR.J) ck_X6_isCheated w_963 rfl hl.1 rfl ⟨Nat.le_of_ble_eq_true rfl, Nat.le_of_ble_eq_true rfl⟩ (Nat.le_of_ble_eq_true rfl) dw_1276 (fun H locs hw => ?_)
  exact tB C hw ⟨by omega, by omega⟩ ⟨dw_1279, dw_1281, dw_1282, dw_1285, dw_1287, dw_1292, dw_1294, dw_1297, dw_1298, dw_1299, dw_1300, dw_1302, dw_1305, dw_1306, dw_1309, dw_1310, dw_1311, dw_1316⟩ (by decide) hl hv hz (fun ls hl => next _ _ _ _ H locs ls hR' hw hl)
set_option maxHeartbeats 4000000 in
set_option maxRecDepth 100000 in
theorem lc_isVoid (C : LC p l s m meth c b L xs D cI cZ cL ad am ao) (hR : Rel S M) (hw : LW s D cI cZ cL ad am ao S M th f H locs) (hcs : cells + 1 ≤ 1091 ∧ slots + 6 ≤ 11970) (hi : i + 5 ≤ L) (hl : lv_has ls 7 [(0, .ref b), (1, .ref (ad 0)), (2, .ref (am 0)), (3, .ref ao), (4, .int (nI i))]) (next : NX p l e s m args below meth c b D cI cZ cL ad am ao i (cells + 1) (slots + 6) Q) : W p l e room_1 s m args below meth c H locs cells slots Q (F0 m 1319 ls []) := by
  obtain ⟨hx, hb, hr, hml, hown, hlk, hfl, hL⟩ := C.1
  obtain ⟨S', f', v, hM, hv, hR', hz⟩ := hh_isVoid l hfl D cI cZ cL ad ao f (aW (wO ao cL f ++ wC ad cI S)) (aW_D (D_left (by have h9 := C.2.2.2 S M th f; rw [← List.append_assoc] at h9; exact h9))) (xs (i + 1)) (xs (i + 2)) hR
  refine lv_aload_n hx hb dw_1319 rfl (lv_at hl 1 rfl) ?_
  refine l_arg (k := 1) (j0 := 0) (j4 := 4) C hw hl rfl rfl (by omega) rfl dw_1320 dw_1321 dw_1323 dw_1324 dw_1325 ?_
  refine l_arg (k := 2) (j0 := 0) (j4 := 4) C hw hl rfl rfl (by omega) rfl dw_1326 dw_1327 dw_1329 dw_1330 dw_1331 ?_
  refine lv_aload_n hx hb dw_1332 rfl (lv_at hl 3 rfl) ?_
  refine s_hlp (idx := 165) (rest := []) C hw ⟨by omega, by omega⟩ hM ckL_isVoid w_656 hl.1 rfl ⟨Nat.le_of_ble_eq_true rfl, Nat.le_of_ble_eq_true rfl⟩ (Nat.le_of_ble_eq_true rfl) dw_1333 (fun H locs hw => ?_)
  refine lv_istore (lv' := [(5, .int v), (0, .ref b), (1, .ref (ad 0)), (2, .ref (am 0)), (3, .ref ao), (4, .int (nI i))]) hx hb dw_1336 hl (by decide) rfl (fun ls hl => ?_)
  refine lv_aload_n hx hb dw_1338 rfl (lv_at hl 3 rfl) ?_
  refine l_arg (k := 1) (j0 := 1) (j4 := 5) C hw hl rfl rfl (by omega) rfl dw_1339 dw_1340 dw_1342 dw_1343 dw_1344 ?_
  refine l_arg (k := 2) (j0 := 1) (j4 := 5) C hw hl rfl rfl (by omega) rfl dw_1345 dw_1346 dw_1348 dw_1349 dw_1350 ?_
  refine s_mod (idx := 167) (rest := []) C hw ⟨by omega, by omega⟩ (c_X6_isVoid l D cI cZ cL am M th (aW (wQ am cI cZ M th)) (aW_D (D_right (D_right (C.2.2.2 S M th f)))) (xs (i + 1)) (xs (i + 2)) hR.J) ck_X6_isVoid w_971 rfl hl.1 rfl ⟨Nat.le_of_ble_eq_true rfl, Nat.le_of_ble_eq_true rfl⟩ (Nat.le_of_ble_eq_true rfl) dw_1351 (fun H locs hw => ?_)
  exact tB C hw ⟨by omega, by omega⟩ ⟨dw_1354, dw_1356, dw_1357, dw_1360, dw_1362, dw_1367, dw_1369, dw_1372, dw_1373, dw_1374, dw_1375, dw_1377, dw_1380, dw_1381, dw_1384, dw_1385, dw_1386, dw_1391⟩ (by decide) hl hv hz (fun ls hl => next _ _ _ _ H locs ls hR' hw hl)
set_option maxHeartbeats 4000000 in
set_option maxRecDepth 100000 in
theorem lc_hanging (C : LC p l s m meth c b L xs D cI cZ cL ad am ao) (hR : Rel S M) (hw : LW s D cI cZ cL ad am ao S M th f H locs) (hcs : cells + 1 ≤ 1091 ∧ slots + 6 ≤ 11970) (hi : i + 5 ≤ L) (hl : lv_has ls 7 [(0, .ref b), (1, .ref (ad 0)), (2, .ref (am 0)), (3, .ref ao), (4, .int (nI i))]) (next : NX p l e s m args below meth c b D cI cZ cL ad am ao i (cells + 1) (slots + 6) Q) : W p l e room_1 s m args below meth c H locs cells slots Q (F0 m 1394 ls []) := by
  obtain ⟨hx, hb, hr, hml, hown, hlk, hfl, hL⟩ := C.1
  obtain ⟨S', f', v, hM, hv, hR', hz⟩ := hh_hanging l hfl D cI cZ cL ad ao f (aW (wO ao cL f ++ wC ad cI S)) (aW_D (D_left (by have h9 := C.2.2.2 S M th f; rw [← List.append_assoc] at h9; exact h9))) (xs (i + 1)) hR
  refine lv_aload_n hx hb dw_1394 rfl (lv_at hl 1 rfl) ?_
  refine l_arg (k := 1) (j0 := 0) (j4 := 4) C hw hl rfl rfl (by omega) rfl dw_1395 dw_1396 dw_1398 dw_1399 dw_1400 ?_
  refine lv_aload_n hx hb dw_1401 rfl (lv_at hl 3 rfl) ?_
  refine s_hlp (idx := 168) (rest := []) C hw ⟨by omega, by omega⟩ hM ckL_hanging w_663 hl.1 rfl ⟨Nat.le_of_ble_eq_true rfl, Nat.le_of_ble_eq_true rfl⟩ (Nat.le_of_ble_eq_true rfl) dw_1402 (fun H locs hw => ?_)
  refine lv_istore (lv' := [(5, .int v), (0, .ref b), (1, .ref (ad 0)), (2, .ref (am 0)), (3, .ref ao), (4, .int (nI i))]) hx hb dw_1405 hl (by decide) rfl (fun ls hl => ?_)
  refine lv_aload_n hx hb dw_1407 rfl (lv_at hl 3 rfl) ?_
  refine l_arg (k := 1) (j0 := 1) (j4 := 5) C hw hl rfl rfl (by omega) rfl dw_1408 dw_1409 dw_1411 dw_1412 dw_1413 ?_
  refine s_mod (idx := 170) (rest := []) C hw ⟨by omega, by omega⟩ (c_X6_hanging l D cI cZ cL am M th (aW (wQ am cI cZ M th)) (aW_D (D_right (D_right (C.2.2.2 S M th f)))) (xs (i + 1)) hR.J) ck_X6_hanging w_979 rfl hl.1 rfl ⟨Nat.le_of_ble_eq_true rfl, Nat.le_of_ble_eq_true rfl⟩ (Nat.le_of_ble_eq_true rfl) dw_1414 (fun H locs hw => ?_)
  exact tI C hw ⟨by omega, by omega⟩ ⟨dw_1417, dw_1419, dw_1420, dw_1423, dw_1425, dw_1430, dw_1432, dw_1435, dw_1436, dw_1437, dw_1438, dw_1440, dw_1441, dw_1442, dw_1447⟩ (by decide) hl hv hz (fun ls hl => next _ _ _ _ H locs ls hR' hw hl)
set_option maxHeartbeats 4000000 in
set_option maxRecDepth 100000 in
theorem lc_score (C : LC p l s m meth c b L xs D cI cZ cL ad am ao) (hR : Rel S M) (hw : LW s D cI cZ cL ad am ao S M th f H locs) (hcs : cells + 1 ≤ 1091 ∧ slots + 6 ≤ 11970) (hi : i + 5 ≤ L) (hl : lv_has ls 7 [(0, .ref b), (1, .ref (ad 0)), (2, .ref (am 0)), (3, .ref ao), (4, .int (nI i))]) (next : NX p l e s m args below meth c b D cI cZ cL ad am ao i (cells + 1) (slots + 6) Q) : W p l e room_1 s m args below meth c H locs cells slots Q (F0 m 1450 ls []) := by
  obtain ⟨hx, hb, hr, hml, hown, hlk, hfl, hL⟩ := C.1
  obtain ⟨S', f', v, hM, hv, hR', hz⟩ := hh_score l hfl D cI cZ cL ad ao f (aW (wO ao cL f ++ wC ad cI S)) (aW_D (D_left (by have h9 := C.2.2.2 S M th f; rw [← List.append_assoc] at h9; exact h9))) (xs (i + 1)) hR
  refine lv_aload_n hx hb dw_1450 rfl (lv_at hl 1 rfl) ?_
  refine l_arg (k := 1) (j0 := 0) (j4 := 4) C hw hl rfl rfl (by omega) rfl dw_1451 dw_1452 dw_1454 dw_1455 dw_1456 ?_
  refine lv_aload_n hx hb dw_1457 rfl (lv_at hl 3 rfl) ?_
  refine s_hlp (idx := 171) (rest := []) C hw ⟨by omega, by omega⟩ hM ckL_score w_675 hl.1 rfl ⟨Nat.le_of_ble_eq_true rfl, Nat.le_of_ble_eq_true rfl⟩ (Nat.le_of_ble_eq_true rfl) dw_1458 (fun H locs hw => ?_)
  refine lv_istore (lv' := [(5, .int v), (0, .ref b), (1, .ref (ad 0)), (2, .ref (am 0)), (3, .ref ao), (4, .int (nI i))]) hx hb dw_1461 hl (by decide) rfl (fun ls hl => ?_)
  refine lv_aload_n hx hb dw_1463 rfl (lv_at hl 3 rfl) ?_
  refine l_arg (k := 1) (j0 := 1) (j4 := 5) C hw hl rfl rfl (by omega) rfl dw_1464 dw_1465 dw_1467 dw_1468 dw_1469 ?_
  refine s_mod (idx := 173) (rest := []) C hw ⟨by omega, by omega⟩ (c_X6_score l D cI cZ cL am M th (aW (wQ am cI cZ M th)) (aW_D (D_right (D_right (C.2.2.2 S M th f)))) (xs (i + 1)) hR.J) ck_X6_score w_983 rfl hl.1 rfl ⟨Nat.le_of_ble_eq_true rfl, Nat.le_of_ble_eq_true rfl⟩ (Nat.le_of_ble_eq_true rfl) dw_1470 (fun H locs hw => ?_)
  exact tI C hw ⟨by omega, by omega⟩ ⟨dw_1473, dw_1475, dw_1476, dw_1479, dw_1481, dw_1486, dw_1488, dw_1491, dw_1492, dw_1493, dw_1494, dw_1496, dw_1497, dw_1498, dw_1503⟩ (by decide) hl hv hz (fun ls hl => next _ _ _ _ H locs ls hR' hw hl)
set_option maxHeartbeats 4000000 in
set_option maxRecDepth 100000 in
theorem lc_scoreAnew (C : LC p l s m meth c b L xs D cI cZ cL ad am ao) (hR : Rel S M) (hw : LW s D cI cZ cL ad am ao S M th f H locs) (hcs : cells + 1 ≤ 1091 ∧ slots + 6 ≤ 11970) (hi : i + 5 ≤ L) (hl : lv_has ls 7 [(0, .ref b), (1, .ref (ad 0)), (2, .ref (am 0)), (3, .ref ao), (4, .int (nI i))]) (next : NX p l e s m args below meth c b D cI cZ cL ad am ao i (cells + 1) (slots + 6) Q) : W p l e room_1 s m args below meth c H locs cells slots Q (F0 m 1506 ls []) := by
  obtain ⟨hx, hb, hr, hml, hown, hlk, hfl, hL⟩ := C.1
  obtain ⟨S', f', v, hM, hv, hR', hz⟩ := hh_scoreAnew l hfl D cI cZ cL ad ao f (aW (wO ao cL f ++ wC ad cI S)) (aW_D (D_left (by have h9 := C.2.2.2 S M th f; rw [← List.append_assoc] at h9; exact h9))) (xs (i + 1)) hR
  refine lv_aload_n hx hb dw_1506 rfl (lv_at hl 1 rfl) ?_
  refine l_arg (k := 1) (j0 := 0) (j4 := 4) C hw hl rfl rfl (by omega) rfl dw_1507 dw_1508 dw_1510 dw_1511 dw_1512 ?_
  refine lv_aload_n hx hb dw_1513 rfl (lv_at hl 3 rfl) ?_
  refine s_hlp (idx := 174) (rest := []) C hw ⟨by omega, by omega⟩ hM ckL_scoreAnew w_682 hl.1 rfl ⟨Nat.le_of_ble_eq_true rfl, Nat.le_of_ble_eq_true rfl⟩ (Nat.le_of_ble_eq_true rfl) dw_1514 (fun H locs hw => ?_)
  refine lv_istore (lv' := [(5, .int v), (0, .ref b), (1, .ref (ad 0)), (2, .ref (am 0)), (3, .ref ao), (4, .int (nI i))]) hx hb dw_1517 hl (by decide) rfl (fun ls hl => ?_)
  refine lv_aload_n hx hb dw_1519 rfl (lv_at hl 3 rfl) ?_
  refine l_arg (k := 1) (j0 := 1) (j4 := 5) C hw hl rfl rfl (by omega) rfl dw_1520 dw_1521 dw_1523 dw_1524 dw_1525 ?_
  refine s_mod (idx := 176) (rest := []) C hw ⟨by omega, by omega⟩ (c_X6_scoreAnew l D cI cZ cL am M th (aW (wQ am cI cZ M th)) (aW_D (D_right (D_right (C.2.2.2 S M th f)))) (xs (i + 1)) hR.J) ck_X6_scoreAnew w_999 rfl hl.1 rfl ⟨Nat.le_of_ble_eq_true rfl, Nat.le_of_ble_eq_true rfl⟩ (Nat.le_of_ble_eq_true rfl) dw_1526 (fun H locs hw => ?_)
  exact tI C hw ⟨by omega, by omega⟩ ⟨dw_1529, dw_1531, dw_1532, dw_1535, dw_1537, dw_1542, dw_1544, dw_1547, dw_1548, dw_1549, dw_1550, dw_1552, dw_1553, dw_1554, dw_1559⟩ (by decide) hl hv hz (fun ls hl => next _ _ _ _ H locs ls hR' hw hl)
set_option maxHeartbeats 4000000 in
set_option maxRecDepth 100000 in
theorem lc_place (C : LC p l s m meth c b L xs D cI cZ cL ad am ao) (hR : Rel S M) (hw : LW s D cI cZ cL ad am ao S M th f H locs) (hcs : cells + 1 ≤ 1091 ∧ slots + 6 ≤ 11970) (hi : i + 5 ≤ L) (hl : lv_has ls 7 [(0, .ref b), (1, .ref (ad 0)), (2, .ref (am 0)), (3, .ref ao), (4, .int (nI i))]) (next : NX p l e s m args below meth c b D cI cZ cL ad am ao i (cells + 1) (slots + 6) Q) : W p l e room_1 s m args below meth c H locs cells slots Q (F0 m 1562 ls []) := by
  obtain ⟨hx, hb, hr, hml, hown, hlk, hfl, hL⟩ := C.1
  obtain ⟨S', f', v, hM, hv, hR', hz⟩ := hh_place l hfl D cI cZ cL ad ao f (aW (wO ao cL f ++ wC ad cI S)) (aW_D (D_left (by have h9 := C.2.2.2 S M th f; rw [← List.append_assoc] at h9; exact h9))) (xs (i + 1)) hR
  refine lv_aload_n hx hb dw_1562 rfl (lv_at hl 1 rfl) ?_
  refine l_arg (k := 1) (j0 := 0) (j4 := 4) C hw hl rfl rfl (by omega) rfl dw_1563 dw_1564 dw_1566 dw_1567 dw_1568 ?_
  refine lv_aload_n hx hb dw_1569 rfl (lv_at hl 3 rfl) ?_
  refine s_hlp (idx := 177) (rest := []) C hw ⟨by omega, by omega⟩ hM ckL_place w_726 hl.1 rfl ⟨Nat.le_of_ble_eq_true rfl, Nat.le_of_ble_eq_true rfl⟩ (Nat.le_of_ble_eq_true rfl) dw_1570 (fun H locs hw => ?_)
  refine lv_istore (lv' := [(5, .int v), (0, .ref b), (1, .ref (ad 0)), (2, .ref (am 0)), (3, .ref ao), (4, .int (nI i))]) hx hb dw_1573 hl (by decide) rfl (fun ls hl => ?_)
  refine lv_aload_n hx hb dw_1575 rfl (lv_at hl 3 rfl) ?_
  refine l_arg (k := 1) (j0 := 1) (j4 := 5) C hw hl rfl rfl (by omega) rfl dw_1576 dw_1577 dw_1579 dw_1580 dw_1581 ?_
  refine s_mod (idx := 179) (rest := []) C hw ⟨by omega, by omega⟩ (c_X6_place l D cI cZ cL am M th (aW (wQ am cI cZ M th)) (aW_D (D_right (D_right (C.2.2.2 S M th f)))) (xs (i + 1)) hR.J) ck_X6_place w_1003 rfl hl.1 rfl ⟨Nat.le_of_ble_eq_true rfl, Nat.le_of_ble_eq_true rfl⟩ (Nat.le_of_ble_eq_true rfl) dw_1582 (fun H locs hw => ?_)
  exact tI C hw ⟨by omega, by omega⟩ ⟨dw_1585, dw_1587, dw_1588, dw_1591, dw_1593, dw_1598, dw_1600, dw_1603, dw_1604, dw_1605, dw_1606, dw_1608, dw_1609, dw_1610, dw_1615⟩ (by decide) hl hv hz (fun ls hl => next _ _ _ _ H locs ls hR' hw hl)
set_option maxHeartbeats 4000000 in
set_option maxRecDepth 100000 in
theorem lc_setPrize (C : LC p l s m meth c b L xs D cI cZ cL ad am ao) (hR : Rel S M) (hw : LW s D cI cZ cL ad am ao S M th f H locs) (hcs : cells + 1 ≤ 1091 ∧ slots + 6 ≤ 11970) (hi : i + 5 ≤ L) (hl : lv_has ls 7 [(0, .ref b), (1, .ref (ad 0)), (2, .ref (am 0)), (3, .ref ao), (4, .int (nI i))]) (next : NX p l e s m args below meth c b D cI cZ cL ad am ao i (cells + 1) (slots + 6) Q) : W p l e room_1 s m args below meth c H locs cells slots Q (F0 m 1643 ls []) := by
  obtain ⟨hx, hb, hr, hml, hown, hlk, hfl, hL⟩ := C.1
  obtain ⟨S', f', v, hM, hv, hR', hz⟩ := hh_setPrize l hfl D cI cZ cL ad ao f (aW (wO ao cL f ++ wC ad cI S)) (aW_D (D_left (by have h9 := C.2.2.2 S M th f; rw [← List.append_assoc] at h9; exact h9))) (xs (i + 1)) (xs (i + 2)) hR
  refine lv_aload_n hx hb dw_1643 rfl (lv_at hl 1 rfl) ?_
  refine l_arg (k := 1) (j0 := 0) (j4 := 4) C hw hl rfl rfl (by omega) rfl dw_1644 dw_1645 dw_1647 dw_1648 dw_1649 ?_
  refine l_arg (k := 2) (j0 := 0) (j4 := 4) C hw hl rfl rfl (by omega) rfl dw_1650 dw_1651 dw_1653 dw_1654 dw_1655 ?_
  refine lv_aload_n hx hb dw_1656 rfl (lv_at hl 3 rfl) ?_
  refine s_hlp (idx := 184) (rest := []) C hw ⟨by omega, by omega⟩ hM ckL_setPrize w_733 hl.1 rfl ⟨Nat.le_of_ble_eq_true rfl, Nat.le_of_ble_eq_true rfl⟩ (Nat.le_of_ble_eq_true rfl) dw_1657 (fun H locs hw => ?_)
  refine lv_istore (lv' := [(5, .int v), (0, .ref b), (1, .ref (ad 0)), (2, .ref (am 0)), (3, .ref ao), (4, .int (nI i))]) hx hb dw_1660 hl (by decide) rfl (fun ls hl => ?_)
  refine lv_aload_n hx hb dw_1662 rfl (lv_at hl 3 rfl) ?_
  refine l_arg (k := 1) (j0 := 1) (j4 := 5) C hw hl rfl rfl (by omega) rfl dw_1663 dw_1664 dw_1666 dw_1667 dw_1668 ?_
  refine l_arg (k := 2) (j0 := 1) (j4 := 5) C hw hl rfl rfl (by omega) rfl dw_1669 dw_1670 dw_1672 dw_1673 dw_1674 ?_
  refine s_mod (idx := 186) (rest := []) C hw ⟨by omega, by omega⟩ (c_X6_setPrize l D cI cZ cL am M th (aW (wQ am cI cZ M th)) (aW_D (D_right (D_right (C.2.2.2 S M th f)))) (xs (i + 1)) (xs (i + 2)) hR.J) ck_X6_setPrize w_1019 rfl hl.1 rfl ⟨Nat.le_of_ble_eq_true rfl, Nat.le_of_ble_eq_true rfl⟩ (Nat.le_of_ble_eq_true rfl) dw_1675 (fun H locs hw => ?_)
  exact tI C hw ⟨by omega, by omega⟩ ⟨dw_1678, dw_1680, dw_1681, dw_1684, dw_1686, dw_1691, dw_1693, dw_1696, dw_1697, dw_1698, dw_1699, dw_1701, dw_1702, dw_1703, dw_1708⟩ (by decide) hl hv hz (fun ls hl => next _ _ _ _ H locs ls hR' hw hl)
set_option maxHeartbeats 4000000 in
set_option maxRecDepth 100000 in
theorem lc_prize (C : LC p l s m meth c b L xs D cI cZ cL ad am ao) (hR : Rel S M) (hw : LW s D cI cZ cL ad am ao S M th f H locs) (hcs : cells + 1 ≤ 1091 ∧ slots + 6 ≤ 11970) (hi : i + 5 ≤ L) (hl : lv_has ls 7 [(0, .ref b), (1, .ref (ad 0)), (2, .ref (am 0)), (3, .ref ao), (4, .int (nI i))]) (next : NX p l e s m args below meth c b D cI cZ cL ad am ao i (cells + 1) (slots + 6) Q) : W p l e room_1 s m args below meth c H locs cells slots Q (F0 m 1711 ls []) := by
  obtain ⟨hx, hb, hr, hml, hown, hlk, hfl, hL⟩ := C.1
  obtain ⟨S', f', v, hM, hv, hR', hz⟩ := hh_prize l hfl D cI cZ cL ad ao f (aW (wO ao cL f ++ wC ad cI S)) (aW_D (D_left (by have h9 := C.2.2.2 S M th f; rw [← List.append_assoc] at h9; exact h9))) (xs (i + 1)) hR
  refine lv_aload_n hx hb dw_1711 rfl (lv_at hl 1 rfl) ?_
  refine l_arg (k := 1) (j0 := 0) (j4 := 4) C hw hl rfl rfl (by omega) rfl dw_1712 dw_1713 dw_1715 dw_1716 dw_1717 ?_
  refine lv_aload_n hx hb dw_1718 rfl (lv_at hl 3 rfl) ?_
  refine s_hlp (idx := 187) (rest := []) C hw ⟨by omega, by omega⟩ hM ckL_prize w_740 hl.1 rfl ⟨Nat.le_of_ble_eq_true rfl, Nat.le_of_ble_eq_true rfl⟩ (Nat.le_of_ble_eq_true rfl) dw_1719 (fun H locs hw => ?_)
  refine lv_istore (lv' := [(5, .int v), (0, .ref b), (1, .ref (ad 0)), (2, .ref (am 0)), (3, .ref ao), (4, .int (nI i))]) hx hb dw_1722 hl (by decide) rfl (fun ls hl => ?_)
  refine lv_aload_n hx hb dw_1724 rfl (lv_at hl 3 rfl) ?_
  refine l_arg (k := 1) (j0 := 1) (j4 := 5) C hw hl rfl rfl (by omega) rfl dw_1725 dw_1726 dw_1728 dw_1729 dw_1730 ?_
  refine s_mod (idx := 189) (rest := []) C hw ⟨by omega, by omega⟩ (c_X6_prize l D cI cZ cL am M th (aW (wQ am cI cZ M th)) (aW_D (D_right (D_right (C.2.2.2 S M th f)))) (xs (i + 1)) hR.J (r_hfm hR) (r_hpos hR)) ck_X6_prize w_1023 rfl hl.1 rfl ⟨Nat.le_of_ble_eq_true rfl, Nat.le_of_ble_eq_true rfl⟩ (Nat.le_of_ble_eq_true rfl) dw_1731 (fun H locs hw => ?_)
  exact tI C hw ⟨by omega, by omega⟩ ⟨dw_1734, dw_1736, dw_1737, dw_1740, dw_1742, dw_1747, dw_1749, dw_1752, dw_1753, dw_1754, dw_1755, dw_1757, dw_1758, dw_1759, dw_1764⟩ (by decide) hl hv hz (fun ls hl => next _ _ _ _ H locs ls hR' hw hl)
set_option maxHeartbeats 4000000 in
set_option maxRecDepth 100000 in
theorem lc_now (C : LC p l s m meth c b L xs D cI cZ cL ad am ao) (hR : Rel S M) (hw : LW s D cI cZ cL ad am ao S M th f H locs) (hcs : cells + 1 ≤ 1091 ∧ slots + 6 ≤ 11970) (hi : i + 5 ≤ L) (hl : lv_has ls 7 [(0, .ref b), (1, .ref (ad 0)), (2, .ref (am 0)), (3, .ref ao), (4, .int (nI i))]) (next : NX p l e s m args below meth c b D cI cZ cL ad am ao i (cells + 1) (slots + 6) Q) : W p l e room_1 s m args below meth c H locs cells slots Q (F0 m 212 ls []) := by
  obtain ⟨hx, hb, hr, hml, hown, hlk, hfl, hL⟩ := C.1
  refine lv_aload_n hx hb dw_212 rfl (lv_at hl 1 rfl) ?_
  refine q_rd (q_runV (rest := []) hx hb hml hown C.2.1.1 (c_X5_now l D cI cZ cL ad S hR.inv.i0) ck_X5_now w_249 hw.1 0 rfl rfl hl.1 rfl ⟨Nat.le_of_ble_eq_true rfl, Nat.le_of_ble_eq_true rfl⟩ (Nat.le_of_ble_eq_true rfl) dw_213 ⟨show cells + 0 ≤ 1091 by omega, show slots + 0 ≤ 11970 by omega⟩) ?_
  refine lv_aload_n hx hb dw_216 rfl (lv_at hl 2 rfl) ?_
  refine s_mod (idx := 112) (rest := [.int ((oNow S).2.1)]) C hw ⟨by omega, by omega⟩ (c_X6_now l D cI cZ cL am M th (aW (wQ am cI cZ M th)) (aW_D (D_right (D_right (C.2.2.2 S M th f)))) hR.J) ck_X6_now w_841 rfl hl.1 rfl ⟨Nat.le_of_ble_eq_true rfl, Nat.le_of_ble_eq_true rfl⟩ (Nat.le_of_ble_eq_true rfl) dw_217 (fun H locs hw => ?_)
  refine W.widen (k := cells + 1) (n := slots + 6) (by omega) (by omega) ?_
  refine lv_icmp_eq (tgt := 1767) hx hb dw_220 (by decide) (fun _ => ?_) (fun c1 => absurd hR.eW c1)
  exact next _ _ _ _ H locs ls hR hw hl
set_option maxHeartbeats 4000000 in
set_option maxRecDepth 100000 in
theorem lc_teamAt (C : LC p l s m meth c b L xs D cI cZ cL ad am ao) (hR : Rel S M) (hw : LW s D cI cZ cL ad am ao S M th f H locs) (hcs : cells + 1 ≤ 1091 ∧ slots + 6 ≤ 11970) (hi : i + 5 ≤ L) (hl : lv_has ls 7 [(0, .ref b), (1, .ref (ad 0)), (2, .ref (am 0)), (3, .ref ao), (4, .int (nI i))]) (next : NX p l e s m args below meth c b D cI cZ cL ad am ao i (cells + 1) (slots + 6) Q) : W p l e room_1 s m args below meth c H locs cells slots Q (F0 m 1618 ls []) := by
  obtain ⟨hx, hb, hr, hml, hown, hlk, hfl, hL⟩ := C.1
  have hR2 : Rel (oAt S (xs (i + 1))).2.2 M := by
    rcases sim_at hR (xs (i + 1)) with ⟨_, _, _, h4⟩ | ⟨k, E, hk, _⟩
    · exact h4
    · exact nomatch (show (none : Option String) = some E from hk)
  have hA : (oAt S (xs (i + 1))).2.1 = m_tat M (xs (i + 1)) (mT M) := r_at hR (xs (i + 1))
  refine lv_aload_n hx hb dw_1618 rfl (lv_at hl 1 rfl) ?_
  refine l_arg (k := 1) (j0 := 0) (j4 := 4) C hw hl rfl rfl (by omega) rfl dw_1619 dw_1620 dw_1622 dw_1623 dw_1624 ?_
  refine s_cls (idx := 180) (rest := []) C hw ⟨by omega, by omega⟩ (c_X5_teamAt l D cI cZ cL ad S (aW (wC ad cI S)) (aW_D (D_left (D_right (C.2.2.2 S M th f)))) (xs (i + 1)) hR.inv.i0) ck_X5_teamAt w_253 rfl hl.1 rfl ⟨Nat.le_of_ble_eq_true rfl, Nat.le_of_ble_eq_true rfl⟩ (Nat.le_of_ble_eq_true rfl) dw_1625 (fun H locs hw => ?_)
  refine lv_aload_n hx hb dw_1628 rfl (lv_at hl 2 rfl) ?_
  refine l_arg (k := 1) (j0 := 0) (j4 := 4) C hw hl rfl rfl (by omega) rfl dw_1629 dw_1630 dw_1632 dw_1633 dw_1634 ?_
  refine s_mod (idx := 183) (rest := [.int ((oAt S (xs (i + 1))).2.1)]) C hw ⟨by omega, by omega⟩ (c_X6_teamAt l D cI cZ cL am M th (aW (wQ am cI cZ M th)) (aW_D (D_right (D_right (C.2.2.2 S M th f)))) (xs (i + 1)) hR.J) ck_X6_teamAt w_1015 rfl hl.1 rfl ⟨Nat.le_of_ble_eq_true rfl, Nat.le_of_ble_eq_true rfl⟩ (Nat.le_of_ble_eq_true rfl) dw_1635 (fun H locs hw => ?_)
  refine W.widen (k := cells + 1) (n := slots + 6) (by omega) (by omega) ?_
  refine lv_icmp_eq (tgt := 1767) hx hb dw_1638 (by decide) (fun _ => ?_) (fun c1 => absurd hA c1)
  exact next _ _ _ _ H locs ls hR2 hw hl
end
