/-! WirelessCellModel.make(I)Z -/
def rmX12_make : Room := { frames := 5, cells := 0, slots := 0, locals := 124 }
def L_X12_make_377  (v1 : Int32) (v3 : Int32) (v10 : Int32) (S : Mm) : Option (Int32 × Mm) :=
  cl (F_X12_putCheck 245 0 v3 v10 S) fun r47 S48 =>
  stA S48 246 0 9 1 v1 (v10 + 4) fun S50 =>
  stA S50 244 0 9 1 v1 (1 &&& 1) fun S51 =>
  some (1, S51)
def L_X12_make_335  (v1 : Int32) (v3 : Int32) (v8 : Int32) (v9 : Int32) (v10 : Int32) : Nat → Int32 → Mm → Option (Int32 × Mm)
  | 0, _, _ => none
  | n + 1, v11, S => 
    if v9 ≤ v11 then (
    tp (v10 + v9) fun x52 =>
    L_X12_make_377  v1 v3 x52 S)
    else (
    ldA S 242 0 22464 1 (v8 + v11) fun x53 =>
    stA S 245 0 2700 1 ((v3 + 24) + v11) x53 fun S54 =>
    (L_X12_make_335 v1 v3 v8 v9 v10 n) (v11 + 1) S54)
def L_X12_make_297  (v1 : Int32) (v3 : Int32) (v4 : Int32) (v5 : Int32) (v8 : Int32) (s0 : Int32) (S : Mm) : Option (Int32 × Mm) :=
  if v4 = 0 then (
  L_X12_make_335  v1 v3 v8 s0 24 fu 0 S)
  else (
  cl (F_X12_seal v3 v8 s0 v5 S) fun r43 S44 =>
  tp (24 + (16 + s0)) fun x46 =>
  L_X12_make_377  v1 v3 x46 S44)
def L_X12_make_130  (v1 : Int32) (v2 : Int32) (v3 : Int32) (v4 : Int32) (v5 : Int32) (v6 : Int32) (s1 : Int32) (s2 : Int32) (s3 : Int32) (S : Mm) : Option (Int32 × Mm) :=
  stA S 245 0 2700 1 s1 (s2 ||| s3) fun S17 =>
  stA S17 245 0 2700 1 (v3 + 2) 0 fun S18 =>
  stA S18 245 0 2700 1 (v3 + 3) 0 fun S19 =>
  ldA S19 236 0 108 1 v2 fun x20 =>
  cl (F_X12_putAddress 245 0 (v3 + 4) x20 S19) fun r21 S22 =>
  cl (F_X12_putAddress 245 0 (v3 + 10) v1 S22) fun r24 S25 =>
  ldA S25 237 0 108 1 v2 fun x27 =>
  cl (F_X12_putAddress 245 0 (v3 + 16) x27 S25) fun r28 S29 =>
  ldA S29 243 0 9 1 v1 fun x31 =>
  ldA S29 238 0 108 1 v2 fun x32 =>
  tp (x31 + (16 * x32)) fun x33 =>
  stA S29 245 0 2700 1 (v3 + 22) (x33 &&& 255) fun S34 =>
  stA S34 245 0 2700 1 (v3 + 23) (x33 >>> (8 &&& 31)) fun S35 =>
  ldA S35 243 0 9 1 v1 fun x36 =>
  ldA S35 239 0 108 1 v2 fun x37 =>
  tp ((208 * v2) + (x36 * x37)) fun x38 =>
  if v6 = 0 then (
  ldA S35 240 0 108 1 v2 fun x39 =>
  ldA S35 243 0 9 1 v1 fun x40 =>
  ldA S35 239 0 108 1 v2 fun x41 =>
  L_X12_make_297  v1 v3 v4 v5 x38 (x39 - (x40 * x41)) S35)
  else (
  ldA S35 239 0 108 1 v2 fun x42 =>
  L_X12_make_297  v1 v3 v4 v5 x38 x42 S35)
def L_X12_make_118  (v1 : Int32) (v2 : Int32) (v3 : Int32) (v4 : Int32) (v5 : Int32) (v6 : Int32) (s1 : Int32) (s2 : Int32) (s3 : Int32) (S : Mm) : Option (Int32 × Mm) :=
  if v4 = 0 then (
  L_X12_make_130  v1 v2 v3 v4 v5 v6 s1 (s2 ||| s3) 0 S)
  else (
  L_X12_make_130  v1 v2 v3 v4 v5 v6 s1 (s2 ||| s3) 64 S)
def L_X12_make_108  (v1 : Int32) (v2 : Int32) (v3 : Int32) (v4 : Int32) (v5 : Int32) (v6 : Int32) (s1 : Int32) (s2 : Int32) (S : Mm) : Option (Int32 × Mm) :=
  if v6 = 0 then (
  L_X12_make_118  v1 v2 v3 v4 v5 v6 s1 s2 0 S)
  else (
  L_X12_make_118  v1 v2 v3 v4 v5 v6 s1 s2 4 S)
def L_X12_make_63  (v1 : Int32) (v2 : Int32) (v3 : Int32) (v4 : Int32) (v5 : Int32) (s0 : Int32) (S : Mm) : Option (Int32 × Mm) :=
  ldA S 235 0 108 1 v2 fun x14 =>
  stA S 245 0 2700 1 v3 x14 fun S15 =>
  ldA S15 235 0 108 1 v2 fun x16 =>
  if x16 = 8 then (
  if v1 ≤ 0 then (
  L_X12_make_108  v1 v2 v3 v4 v5 s0 (v3 + 1) 2 S15)
  else (
  L_X12_make_108  v1 v2 v3 v4 v5 s0 (v3 + 1) 1 S15))
  else (
  L_X12_make_108  v1 v2 v3 v4 v5 s0 (v3 + 1) 0 S15)
def L_X12_make_42  (v1 : Int32) (v2 : Int32) (v3 : Int32) (v4 : Int32) (v5 : Int32) (S : Mm) : Option (Int32 × Mm) :=
  ldA S 243 0 9 1 v1 fun x10 =>
  cl (F_X12_partsOf v1 S) fun r11 S12 =>
  if (r11 - 1) ≤ x10 then (
  L_X12_make_63  v1 v2 v3 v4 v5 0 S12)
  else (
  L_X12_make_63  v1 v2 v3 v4 v5 1 S12)
def F_X12_make (v1 : Int32) (S : Mm) : Option (Int32 × Mm) :=
  tp (12 * v1) fun x1 =>
  tp (300 * v1) fun x2 =>
  cl (F_X12_isSealed v1 S) fun r3 S4 =>
  cl (F_X12_pairOf v1 S4) fun r6 S7 =>
  if r3 = 0 then (
  L_X12_make_42  v1 x1 x2 r3 r6 S7)
  else (
  ldA S7 222 0 18 1 r6 fun x9 =>
  if x9 = 0 then (
  some (0, S7))
  else (
  L_X12_make_42  v1 x1 x2 r3 r6 S7))
set_option maxRecDepth 100000 in
set_option maxHeartbeats 4000000 in
theorem w_X12_make_377 {p : Program} {l : Launch} {e : Env} {s : State} {m : MethodId} {args : Array Value} {below : List Frame} {meth : Method} {c : Code} {G : xG} {sz : Nat} {o : Int32 × Mm} (X : xC G true sz p s m args c cX12_make 12 wsX12_make RX12 meth (some .boolean)) (v1 : Int32) (v3 : Int32) (v10 : Int32)   {S : Mm} {H : Heap} {locs : List Loc} {ls : Array Slot} (hW : xW G true sz s H locs S) (hl : lv_has ls 12 [(0, .ref (G.2.2 200 0)), (1, .int v1), (3, .int v3), (10, .int v10)]) (h : L_X12_make_377  v1 v3 v10 S = some o) : wX p l e rmX12_make s m args below meth c H locs (xQi G true sz o) (XA G true sz) 377 ls [] := by
  unfold L_X12_make_377 at h
  refine lv_aload_n X.1 X.2.1 dX12_make_377 rfl (lv_at hl 0 rfl) ?_
  refine lv_aload_n X.1 X.2.1 dX12_make_378 rfl (lv_at hl 0 rfl) ?_
  refine x_getR X hW fd_Model_frames (fun w h => List.mem_cons_of_mem _ (gin_X12 w h)) (List.mem_cons_of_mem _ gw196) z_1 dX12_make_379 ?_
  refine lv_iload_n X.1 X.2.1 dX12_make_382 rfl (lv_at hl 2 rfl) ?_
  refine lv_iload X.1 X.2.1 dX12_make_383 (lv_at hl 3 rfl) ?_
  obtain ⟨r47, S48, h49, h⟩ := cl_some h
  refine x_aftV X hW (x_runV (C := RX12) (a := G.2.2 200 0) (As := [.ref (G.2.2 245 0), .int v3, .int v10]) (rest := []) X hW (c_X12_putCheck l G X.2.2.2.2.2.2.2.2.2.1 _ S 245 0 v3 v10 _ h49) (cwV 3 X.2.2.2.2.1 (gV gw1015 gw1016 gw1017 gw5 gw1018) rfl rfl rfl ⟨rfl, hd_X12_putCheck⟩ ⟨Nat.le_of_ble_eq_true rfl, Nat.le_of_ble_eq_true rfl⟩) (x_recv X hW ob_Model z_1) rfl hl.1 rfl (Nat.le_of_ble_eq_true rfl) dX12_make_385 ⟨Nat.zero_le _, Nat.zero_le _⟩) (fun H locs hW => ?_)
  refine lv_aload_n X.1 X.2.1 dX12_make_388 rfl (lv_at hl 0 rfl) ?_
  refine x_getR X hW fd_Model_frameLen (fun w h => List.mem_cons_of_mem _ (gin_X12 w h)) (List.mem_cons_of_mem _ gw197) z_1 dX12_make_389 ?_
  refine lv_iload_n X.1 X.2.1 dX12_make_392 rfl (lv_at hl 1 rfl) ?_
  refine lv_iload X.1 X.2.1 dX12_make_393 (lv_at hl 3 rfl) ?_
  refine lv_iconst (v := 4) X.1 X.2.1 dX12_make_395 rfl ?_
  refine lv_iadd X.1 X.2.1 dX12_make_396 ?_
  refine x_iast X hW ar_246 dX12_make_397 h (fun S50 H locs h hW => ?_)
  refine lv_aload_n X.1 X.2.1 dX12_make_398 rfl (lv_at hl 0 rfl) ?_
  refine x_getR X hW fd_Model_isMade (fun w h => List.mem_cons_of_mem _ (gin_X12 w h)) (List.mem_cons_of_mem _ gw195) z_1 dX12_make_399 ?_
  refine lv_iload_n X.1 X.2.1 dX12_make_402 rfl (lv_at hl 1 rfl) ?_
  refine lv_iconst (v := 1) X.1 X.2.1 dX12_make_403 rfl ?_
  refine x_zast X hW ar_244 dX12_make_404 h (fun S51 H locs h hW => ?_)
  refine lv_iconst (v := 1) X.1 X.2.1 dX12_make_405 rfl ?_
  exact x_zret X hW h rfl dX12_make_406
set_option maxRecDepth 100000 in
set_option maxHeartbeats 4000000 in
theorem w_X12_make_335 {p : Program} {l : Launch} {e : Env} {s : State} {m : MethodId} {args : Array Value} {below : List Frame} {meth : Method} {c : Code} {G : xG} {sz : Nat} {o : Int32 × Mm} (X : xC G true sz p s m args c cX12_make 12 wsX12_make RX12 meth (some .boolean)) (v1 : Int32) (v3 : Int32) (v8 : Int32) (v9 : Int32) (v10 : Int32)   : ∀ (n : Nat) (v11 : Int32) (S : Mm) (H : Heap) (locs : List Loc) (ls : Array Slot), L_X12_make_335 v1 v3 v8 v9 v10 n v11 S = some o → xW G true sz s H locs S → lv_has ls 12 [(0, .ref (G.2.2 200 0)), (1, .int v1), (3, .int v3), (8, .int v8), (9, .int v9), (10, .int v10), (11, .int v11)] → wX p l e rmX12_make s m args below meth c H locs (xQi G true sz o) (XA G true sz) 335 ls [] := by
  intro n
  induction n with
  | zero =>
    intro v11 S H locs ls h
    cases h
  | succ n ih =>
    intro v11 S H locs ls h hW  hl
    rw [L_X12_make_335] at h
    refine lv_iload X.1 X.2.1 dX12_make_335 (lv_at hl 6 rfl) ?_
    refine lv_iload X.1 X.2.1 dX12_make_337 (lv_at hl 4 rfl) ?_
    refine x_icmp_ge X (tgt := 370) dX12_make_339 (by decide) h (fun h => ?_) (fun h => ?_)
    · refine lv_iload X.1 X.2.1 dX12_make_370 (lv_at hl 5 rfl) ?_
      refine lv_iload X.1 X.2.1 dX12_make_372 (lv_at hl 4 rfl) ?_
      refine lv_iadd X.1 X.2.1 dX12_make_374 ?_
      refine x_top h (fun x52 h => ?_)
      refine lv_istore (lv' := [(10, .int x52), (0, .ref (G.2.2 200 0)), (1, .int v1), (3, .int v3), (8, .int v8), (9, .int v9), (11, .int v11)]) X.1 X.2.1 dX12_make_375 hl (by decide) rfl (fun ls hl => ?_)
      exact w_X12_make_377 X v1 v3 x52   hW (lv_sub hl [1, 2, 3, 0] rfl) h
    · refine lv_aload_n X.1 X.2.1 dX12_make_342 rfl (lv_at hl 0 rfl) ?_
      refine x_getR X hW fd_Model_frames (fun w h => List.mem_cons_of_mem _ (gin_X12 w h)) (List.mem_cons_of_mem _ gw196) z_1 dX12_make_343 ?_
      refine lv_iload_n X.1 X.2.1 dX12_make_346 rfl (lv_at hl 2 rfl) ?_
      refine lv_bipush (v := 24) X.1 X.2.1 dX12_make_347 rfl ?_
      refine lv_iadd X.1 X.2.1 dX12_make_349 ?_
      refine lv_iload X.1 X.2.1 dX12_make_350 (lv_at hl 6 rfl) ?_
      refine lv_iadd X.1 X.2.1 dX12_make_352 ?_
      refine lv_aload_n X.1 X.2.1 dX12_make_353 rfl (lv_at hl 0 rfl) ?_
      refine x_getR X hW fd_Model_qBytes (fun w h => List.mem_cons_of_mem _ (gin_X12 w h)) (List.mem_cons_of_mem _ gw193) z_1 dX12_make_354 ?_
      refine lv_iload X.1 X.2.1 dX12_make_357 (lv_at hl 3 rfl) ?_
      refine lv_iload X.1 X.2.1 dX12_make_359 (lv_at hl 6 rfl) ?_
      refine lv_iadd X.1 X.2.1 dX12_make_361 ?_
      refine x_iald X hW ar_242 dX12_make_362 h (fun x53 h => ?_)
      refine x_iast X hW ar_245 dX12_make_363 h (fun S54 H locs h hW => ?_)
      refine lv_iinc (v := (v11 + 1)) (lv' := [(11, .int (v11 + 1)), (0, .ref (G.2.2 200 0)), (1, .int v1), (3, .int v3), (8, .int v8), (9, .int v9), (10, .int v10)]) X.1 X.2.1 dX12_make_364 hl (k := 6) rfl rfl (by decide) rfl (fun ls hl => ?_)
      refine lv_goto (tgt := 335) X.1 X.2.1 dX12_make_367 (by decide) ?_
      exact ih (v11 + 1) S54 _ _ _ h hW  (lv_sub hl [1, 2, 3, 4, 5, 6, 0] rfl)
set_option maxRecDepth 100000 in
set_option maxHeartbeats 4000000 in
theorem w_X12_make_297 {p : Program} {l : Launch} {e : Env} {s : State} {m : MethodId} {args : Array Value} {below : List Frame} {meth : Method} {c : Code} {G : xG} {sz : Nat} {o : Int32 × Mm} (X : xC G true sz p s m args c cX12_make 12 wsX12_make RX12 meth (some .boolean)) (v1 : Int32) (v3 : Int32) (v4 : Int32) (v5 : Int32) (v8 : Int32) (s0 : Int32)   {S : Mm} {H : Heap} {locs : List Loc} {ls : Array Slot} (hW : xW G true sz s H locs S) (hl : lv_has ls 12 [(0, .ref (G.2.2 200 0)), (1, .int v1), (3, .int v3), (4, .int v4), (5, .int v5), (8, .int v8)]) (h : L_X12_make_297  v1 v3 v4 v5 v8 s0 S = some o) : wX p l e rmX12_make s m args below meth c H locs (xQi G true sz o) (XA G true sz) 297 ls [.int s0] := by
  unfold L_X12_make_297 at h
  refine lv_istore (lv' := [(9, .int s0), (0, .ref (G.2.2 200 0)), (1, .int v1), (3, .int v3), (4, .int v4), (5, .int v5), (8, .int v8)]) X.1 X.2.1 dX12_make_297 hl (by decide) rfl (fun ls hl => ?_)
  refine lv_bipush (v := 24) X.1 X.2.1 dX12_make_299 rfl ?_
  refine lv_istore (lv' := [(10, .int 24), (9, .int s0), (0, .ref (G.2.2 200 0)), (1, .int v1), (3, .int v3), (4, .int v4), (5, .int v5), (8, .int v8)]) X.1 X.2.1 dX12_make_301 hl (by decide) rfl (fun ls hl => ?_)
  refine lv_iload X.1 X.2.1 dX12_make_303 (lv_at hl 5 rfl) ?_
  refine x_if_eq X (tgt := 332) dX12_make_305 (by decide) h (fun h => ?_) (fun h => ?_)
  · refine lv_iconst (v := 0) X.1 X.2.1 dX12_make_332 rfl ?_
    refine lv_istore (lv' := [(11, .int 0), (10, .int 24), (9, .int s0), (0, .ref (G.2.2 200 0)), (1, .int v1), (3, .int v3), (4, .int v4), (5, .int v5), (8, .int v8)]) X.1 X.2.1 dX12_make_333 hl (by decide) rfl (fun ls hl => ?_)
    exact w_X12_make_335 X v1 v3 v8 s0 24   fu 0 S _ _ _ h hW  (lv_sub hl [3, 4, 5, 8, 2, 1, 0] rfl)
  · refine lv_aload_n X.1 X.2.1 dX12_make_308 rfl (lv_at hl 2 rfl) ?_
    refine lv_iload_n X.1 X.2.1 dX12_make_309 rfl (lv_at hl 4 rfl) ?_
    refine lv_iload X.1 X.2.1 dX12_make_310 (lv_at hl 7 rfl) ?_
    refine lv_iload X.1 X.2.1 dX12_make_312 (lv_at hl 1 rfl) ?_
    refine lv_iload X.1 X.2.1 dX12_make_314 (lv_at hl 6 rfl) ?_
    obtain ⟨r43, S44, h45, h⟩ := cl_some h
    refine x_aftV X hW (x_runV (C := RX12) (a := G.2.2 200 0) (As := [.int v3, .int v8, .int s0, .int v5]) (rest := []) X hW (c_X12_seal l G X.2.2.2.2.2.2.2.2.2.1 _ S v3 v8 s0 v5 _ h45) (cwV 4 X.2.2.2.2.1 (gV gw1046 gw1047 gw1048 gw5 gw1049) rfl rfl rfl ⟨rfl, hd_X12_seal⟩ ⟨Nat.le_of_ble_eq_true rfl, Nat.le_of_ble_eq_true rfl⟩) (x_recv X hW ob_Model z_1) rfl hl.1 rfl (Nat.le_of_ble_eq_true rfl) dX12_make_316 ⟨Nat.zero_le _, Nat.zero_le _⟩) (fun H locs hW => ?_)
    refine lv_iload X.1 X.2.1 dX12_make_319 (lv_at hl 0 rfl) ?_
    refine lv_bipush (v := 16) X.1 X.2.1 dX12_make_321 rfl ?_
    refine lv_iload X.1 X.2.1 dX12_make_323 (lv_at hl 1 rfl) ?_
    refine lv_iadd X.1 X.2.1 dX12_make_325 ?_
    refine lv_iadd X.1 X.2.1 dX12_make_326 ?_
    refine x_top h (fun x46 h => ?_)
    refine lv_istore (lv' := [(10, .int x46), (9, .int s0), (0, .ref (G.2.2 200 0)), (1, .int v1), (3, .int v3), (4, .int v4), (5, .int v5), (8, .int v8)]) X.1 X.2.1 dX12_make_327 hl (by decide) rfl (fun ls hl => ?_)
    refine lv_goto (tgt := 377) X.1 X.2.1 dX12_make_329 (by decide) ?_
    exact w_X12_make_377 X v1 v3 x46   hW (lv_sub hl [2, 3, 4, 0] rfl) h
set_option maxRecDepth 100000 in
set_option maxHeartbeats 4000000 in
theorem w_X12_make_130 {p : Program} {l : Launch} {e : Env} {s : State} {m : MethodId} {args : Array Value} {below : List Frame} {meth : Method} {c : Code} {G : xG} {sz : Nat} {o : Int32 × Mm} (X : xC G true sz p s m args c cX12_make 12 wsX12_make RX12 meth (some .boolean)) (v1 : Int32) (v2 : Int32) (v3 : Int32) (v4 : Int32) (v5 : Int32) (v6 : Int32) (s1 : Int32) (s2 : Int32) (s3 : Int32)   {S : Mm} {H : Heap} {locs : List Loc} {ls : Array Slot} (hW : xW G true sz s H locs S) (hl : lv_has ls 12 [(0, .ref (G.2.2 200 0)), (1, .int v1), (2, .int v2), (3, .int v3), (4, .int v4), (5, .int v5), (6, .int v6)]) (h : L_X12_make_130  v1 v2 v3 v4 v5 v6 s1 s2 s3 S = some o) : wX p l e rmX12_make s m args below meth c H locs (xQi G true sz o) (XA G true sz) 130 ls [.int s3, .int s2, .int s1, .ref (G.2.2 245 0)] := by
  unfold L_X12_make_130 at h
  refine lv_ior X.1 X.2.1 dX12_make_130 ?_
  refine x_iast X hW ar_245 dX12_make_131 h (fun S17 H locs h hW => ?_)
  refine lv_aload_n X.1 X.2.1 dX12_make_132 rfl (lv_at hl 0 rfl) ?_
  refine x_getR X hW fd_Model_frames (fun w h => List.mem_cons_of_mem _ (gin_X12 w h)) (List.mem_cons_of_mem _ gw196) z_1 dX12_make_133 ?_
  refine lv_iload_n X.1 X.2.1 dX12_make_136 rfl (lv_at hl 3 rfl) ?_
  refine lv_iconst (v := 2) X.1 X.2.1 dX12_make_137 rfl ?_
  refine lv_iadd X.1 X.2.1 dX12_make_138 ?_
  refine lv_iconst (v := 0) X.1 X.2.1 dX12_make_139 rfl ?_
  refine x_iast X hW ar_245 dX12_make_140 h (fun S18 H locs h hW => ?_)
  refine lv_aload_n X.1 X.2.1 dX12_make_141 rfl (lv_at hl 0 rfl) ?_
  refine x_getR X hW fd_Model_frames (fun w h => List.mem_cons_of_mem _ (gin_X12 w h)) (List.mem_cons_of_mem _ gw196) z_1 dX12_make_142 ?_
  refine lv_iload_n X.1 X.2.1 dX12_make_145 rfl (lv_at hl 3 rfl) ?_
  refine lv_iconst (v := 3) X.1 X.2.1 dX12_make_146 rfl ?_
  refine lv_iadd X.1 X.2.1 dX12_make_147 ?_
  refine lv_iconst (v := 0) X.1 X.2.1 dX12_make_148 rfl ?_
  refine x_iast X hW ar_245 dX12_make_149 h (fun S19 H locs h hW => ?_)
  refine lv_aload_n X.1 X.2.1 dX12_make_150 rfl (lv_at hl 0 rfl) ?_
  refine x_getR X hW fd_Model_frames (fun w h => List.mem_cons_of_mem _ (gin_X12 w h)) (List.mem_cons_of_mem _ gw196) z_1 dX12_make_151 ?_
  refine lv_iload_n X.1 X.2.1 dX12_make_154 rfl (lv_at hl 3 rfl) ?_
  refine lv_iconst (v := 4) X.1 X.2.1 dX12_make_155 rfl ?_
  refine lv_iadd X.1 X.2.1 dX12_make_156 ?_
  refine lv_aload_n X.1 X.2.1 dX12_make_157 rfl (lv_at hl 0 rfl) ?_
  refine x_getR X hW fd_Model_qTo (fun w h => List.mem_cons_of_mem _ (gin_X12 w h)) (List.mem_cons_of_mem _ gw187) z_1 dX12_make_158 ?_
  refine lv_iload_n X.1 X.2.1 dX12_make_161 rfl (lv_at hl 2 rfl) ?_
  refine x_iald X hW ar_236 dX12_make_162 h (fun x20 h => ?_)
  obtain ⟨r21, S22, h23, h⟩ := cl_some h
  refine x_aftV X hW (x_runS (As := [.ref (G.2.2 245 0), .int (v3 + 4), .int x20]) (rest := []) X hW (c_X12_putAddress l G X.2.2.2.2.2.2.2.2.2.1 _ S19 245 0 (v3 + 4) x20 _ h23) (va_cwS 3 X.2.2.2.2.1 (gS gw1043 gw1044 gw5 gw1045) rfl rfl rfl hd_X12_putAddress ⟨Nat.le_of_ble_eq_true rfl, Nat.le_of_ble_eq_true rfl⟩) rfl hl.1 rfl (Nat.le_of_ble_eq_true rfl) dX12_make_163 ⟨Nat.zero_le _, Nat.zero_le _⟩) (fun H locs hW => ?_)
  refine lv_aload_n X.1 X.2.1 dX12_make_166 rfl (lv_at hl 0 rfl) ?_
  refine x_getR X hW fd_Model_frames (fun w h => List.mem_cons_of_mem _ (gin_X12 w h)) (List.mem_cons_of_mem _ gw196) z_1 dX12_make_167 ?_
  refine lv_iload_n X.1 X.2.1 dX12_make_170 rfl (lv_at hl 3 rfl) ?_
  refine lv_bipush (v := 10) X.1 X.2.1 dX12_make_171 rfl ?_
  refine lv_iadd X.1 X.2.1 dX12_make_173 ?_
  refine lv_iload_n X.1 X.2.1 dX12_make_174 rfl (lv_at hl 1 rfl) ?_
  obtain ⟨r24, S25, h26, h⟩ := cl_some h
  refine x_aftV X hW (x_runS (As := [.ref (G.2.2 245 0), .int (v3 + 10), .int v1]) (rest := []) X hW (c_X12_putAddress l G X.2.2.2.2.2.2.2.2.2.1 _ S22 245 0 (v3 + 10) v1 _ h26) (va_cwS 3 X.2.2.2.2.1 (gS gw1043 gw1044 gw5 gw1045) rfl rfl rfl hd_X12_putAddress ⟨Nat.le_of_ble_eq_true rfl, Nat.le_of_ble_eq_true rfl⟩) rfl hl.1 rfl (Nat.le_of_ble_eq_true rfl) dX12_make_175 ⟨Nat.zero_le _, Nat.zero_le _⟩) (fun H locs hW => ?_)
  refine lv_aload_n X.1 X.2.1 dX12_make_178 rfl (lv_at hl 0 rfl) ?_
  refine x_getR X hW fd_Model_frames (fun w h => List.mem_cons_of_mem _ (gin_X12 w h)) (List.mem_cons_of_mem _ gw196) z_1 dX12_make_179 ?_
  refine lv_iload_n X.1 X.2.1 dX12_make_182 rfl (lv_at hl 3 rfl) ?_
  refine lv_bipush (v := 16) X.1 X.2.1 dX12_make_183 rfl ?_
  refine lv_iadd X.1 X.2.1 dX12_make_185 ?_
  refine lv_aload_n X.1 X.2.1 dX12_make_186 rfl (lv_at hl 0 rfl) ?_
  refine x_getR X hW fd_Model_qThird (fun w h => List.mem_cons_of_mem _ (gin_X12 w h)) (List.mem_cons_of_mem _ gw188) z_1 dX12_make_187 ?_
  refine lv_iload_n X.1 X.2.1 dX12_make_190 rfl (lv_at hl 2 rfl) ?_
  refine x_iald X hW ar_237 dX12_make_191 h (fun x27 h => ?_)
  obtain ⟨r28, S29, h30, h⟩ := cl_some h
  refine x_aftV X hW (x_runS (As := [.ref (G.2.2 245 0), .int (v3 + 16), .int x27]) (rest := []) X hW (c_X12_putAddress l G X.2.2.2.2.2.2.2.2.2.1 _ S25 245 0 (v3 + 16) x27 _ h30) (va_cwS 3 X.2.2.2.2.1 (gS gw1043 gw1044 gw5 gw1045) rfl rfl rfl hd_X12_putAddress ⟨Nat.le_of_ble_eq_true rfl, Nat.le_of_ble_eq_true rfl⟩) rfl hl.1 rfl (Nat.le_of_ble_eq_true rfl) dX12_make_192 ⟨Nat.zero_le _, Nat.zero_le _⟩) (fun H locs hW => ?_)
  refine lv_aload_n X.1 X.2.1 dX12_make_195 rfl (lv_at hl 0 rfl) ?_
  refine x_getR X hW fd_Model_part (fun w h => List.mem_cons_of_mem _ (gin_X12 w h)) (List.mem_cons_of_mem _ gw194) z_1 dX12_make_196 ?_
  refine lv_iload_n X.1 X.2.1 dX12_make_199 rfl (lv_at hl 1 rfl) ?_
  refine x_iald X hW ar_243 dX12_make_200 h (fun x31 h => ?_)
  refine lv_bipush (v := 16) X.1 X.2.1 dX12_make_201 rfl ?_
  refine lv_aload_n X.1 X.2.1 dX12_make_203 rfl (lv_at hl 0 rfl) ?_
  refine x_getR X hW fd_Model_qSeq (fun w h => List.mem_cons_of_mem _ (gin_X12 w h)) (List.mem_cons_of_mem _ gw189) z_1 dX12_make_204 ?_
  refine lv_iload_n X.1 X.2.1 dX12_make_207 rfl (lv_at hl 2 rfl) ?_
  refine x_iald X hW ar_238 dX12_make_208 h (fun x32 h => ?_)
  refine lv_imul X.1 X.2.1 dX12_make_209 ?_
  refine lv_iadd X.1 X.2.1 dX12_make_210 ?_
  refine x_top h (fun x33 h => ?_)
  refine lv_istore (lv' := [(7, .int x33), (0, .ref (G.2.2 200 0)), (1, .int v1), (2, .int v2), (3, .int v3), (4, .int v4), (5, .int v5), (6, .int v6)]) X.1 X.2.1 dX12_make_211 hl (by decide) rfl (fun ls hl => ?_)
  refine lv_aload_n X.1 X.2.1 dX12_make_213 rfl (lv_at hl 1 rfl) ?_
  refine x_getR X hW fd_Model_frames (fun w h => List.mem_cons_of_mem _ (gin_X12 w h)) (List.mem_cons_of_mem _ gw196) z_1 dX12_make_214 ?_
  refine lv_iload_n X.1 X.2.1 dX12_make_217 rfl (lv_at hl 4 rfl) ?_
  refine lv_bipush (v := 22) X.1 X.2.1 dX12_make_218 rfl ?_
  refine lv_iadd X.1 X.2.1 dX12_make_220 ?_
  refine lv_iload X.1 X.2.1 dX12_make_221 (lv_at hl 0 rfl) ?_
  refine lv_sipush (v := 255) X.1 X.2.1 dX12_make_223 rfl ?_
  refine lv_iand X.1 X.2.1 dX12_make_226 ?_
  refine x_iast X hW ar_245 dX12_make_227 h (fun S34 H locs h hW => ?_)
  refine lv_aload_n X.1 X.2.1 dX12_make_228 rfl (lv_at hl 1 rfl) ?_
  refine x_getR X hW fd_Model_frames (fun w h => List.mem_cons_of_mem _ (gin_X12 w h)) (List.mem_cons_of_mem _ gw196) z_1 dX12_make_229 ?_
  refine lv_iload_n X.1 X.2.1 dX12_make_232 rfl (lv_at hl 4 rfl) ?_
  refine lv_bipush (v := 23) X.1 X.2.1 dX12_make_233 rfl ?_
  refine lv_iadd X.1 X.2.1 dX12_make_235 ?_
  refine lv_iload X.1 X.2.1 dX12_make_236 (lv_at hl 0 rfl) ?_
  refine lv_bipush (v := 8) X.1 X.2.1 dX12_make_238 rfl ?_
  refine lv_ishr X.1 X.2.1 dX12_make_240 ?_
  refine x_iast X hW ar_245 dX12_make_241 h (fun S35 H locs h hW => ?_)
  refine lv_sipush (v := 208) X.1 X.2.1 dX12_make_242 rfl ?_
  refine lv_iload_n X.1 X.2.1 dX12_make_245 rfl (lv_at hl 3 rfl) ?_
  refine lv_imul X.1 X.2.1 dX12_make_246 ?_
  refine lv_aload_n X.1 X.2.1 dX12_make_247 rfl (lv_at hl 1 rfl) ?_
  refine x_getR X hW fd_Model_part (fun w h => List.mem_cons_of_mem _ (gin_X12 w h)) (List.mem_cons_of_mem _ gw194) z_1 dX12_make_248 ?_
  refine lv_iload_n X.1 X.2.1 dX12_make_251 rfl (lv_at hl 2 rfl) ?_
  refine x_iald X hW ar_243 dX12_make_252 h (fun x36 h => ?_)
  refine lv_aload_n X.1 X.2.1 dX12_make_253 rfl (lv_at hl 1 rfl) ?_
  refine x_getR X hW fd_Model_qSize (fun w h => List.mem_cons_of_mem _ (gin_X12 w h)) (List.mem_cons_of_mem _ gw190) z_1 dX12_make_254 ?_
  refine lv_iload_n X.1 X.2.1 dX12_make_257 rfl (lv_at hl 3 rfl) ?_
  refine x_iald X hW ar_239 dX12_make_258 h (fun x37 h => ?_)
  refine lv_imul X.1 X.2.1 dX12_make_259 ?_
  refine lv_iadd X.1 X.2.1 dX12_make_260 ?_
  refine x_top h (fun x38 h => ?_)
  refine lv_istore (lv' := [(8, .int x38), (7, .int x33), (0, .ref (G.2.2 200 0)), (1, .int v1), (2, .int v2), (3, .int v3), (4, .int v4), (5, .int v5), (6, .int v6)]) X.1 X.2.1 dX12_make_261 hl (by decide) rfl (fun ls hl => ?_)
  refine lv_iload X.1 X.2.1 dX12_make_263 (lv_at hl 8 rfl) ?_
  refine x_if_eq X (tgt := 277) dX12_make_265 (by decide) h (fun h => ?_) (fun h => ?_)
  · refine lv_aload_n X.1 X.2.1 dX12_make_277 rfl (lv_at hl 2 rfl) ?_
    refine x_getR X hW fd_Model_qLen (fun w h => List.mem_cons_of_mem _ (gin_X12 w h)) (List.mem_cons_of_mem _ gw191) z_1 dX12_make_278 ?_
    refine lv_iload_n X.1 X.2.1 dX12_make_281 rfl (lv_at hl 4 rfl) ?_
    refine x_iald X hW ar_240 dX12_make_282 h (fun x39 h => ?_)
    refine lv_aload_n X.1 X.2.1 dX12_make_283 rfl (lv_at hl 2 rfl) ?_
    refine x_getR X hW fd_Model_part (fun w h => List.mem_cons_of_mem _ (gin_X12 w h)) (List.mem_cons_of_mem _ gw194) z_1 dX12_make_284 ?_
    refine lv_iload_n X.1 X.2.1 dX12_make_287 rfl (lv_at hl 3 rfl) ?_
    refine x_iald X hW ar_243 dX12_make_288 h (fun x40 h => ?_)
    refine lv_aload_n X.1 X.2.1 dX12_make_289 rfl (lv_at hl 2 rfl) ?_
    refine x_getR X hW fd_Model_qSize (fun w h => List.mem_cons_of_mem _ (gin_X12 w h)) (List.mem_cons_of_mem _ gw190) z_1 dX12_make_290 ?_
    refine lv_iload_n X.1 X.2.1 dX12_make_293 rfl (lv_at hl 4 rfl) ?_
    refine x_iald X hW ar_239 dX12_make_294 h (fun x41 h => ?_)
    refine lv_imul X.1 X.2.1 dX12_make_295 ?_
    refine lv_isub X.1 X.2.1 dX12_make_296 ?_
    exact w_X12_make_297 X v1 v3 v4 v5 x38 (x39 - (x40 * x41))   hW (lv_sub hl [2, 3, 5, 6, 7, 0] rfl) h
  · refine lv_aload_n X.1 X.2.1 dX12_make_268 rfl (lv_at hl 2 rfl) ?_
    refine x_getR X hW fd_Model_qSize (fun w h => List.mem_cons_of_mem _ (gin_X12 w h)) (List.mem_cons_of_mem _ gw190) z_1 dX12_make_269 ?_
    refine lv_iload_n X.1 X.2.1 dX12_make_272 rfl (lv_at hl 4 rfl) ?_
    refine x_iald X hW ar_239 dX12_make_273 h (fun x42 h => ?_)
    refine lv_goto (tgt := 297) X.1 X.2.1 dX12_make_274 (by decide) ?_
    exact w_X12_make_297 X v1 v3 v4 v5 x38 x42   hW (lv_sub hl [2, 3, 5, 6, 7, 0] rfl) h
set_option maxRecDepth 100000 in
set_option maxHeartbeats 4000000 in
theorem w_X12_make_118 {p : Program} {l : Launch} {e : Env} {s : State} {m : MethodId} {args : Array Value} {below : List Frame} {meth : Method} {c : Code} {G : xG} {sz : Nat} {o : Int32 × Mm} (X : xC G true sz p s m args c cX12_make 12 wsX12_make RX12 meth (some .boolean)) (v1 : Int32) (v2 : Int32) (v3 : Int32) (v4 : Int32) (v5 : Int32) (v6 : Int32) (s1 : Int32) (s2 : Int32) (s3 : Int32)   {S : Mm} {H : Heap} {locs : List Loc} {ls : Array Slot} (hW : xW G true sz s H locs S) (hl : lv_has ls 12 [(0, .ref (G.2.2 200 0)), (1, .int v1), (2, .int v2), (3, .int v3), (4, .int v4), (5, .int v5), (6, .int v6)]) (h : L_X12_make_118  v1 v2 v3 v4 v5 v6 s1 s2 s3 S = some o) : wX p l e rmX12_make s m args below meth c H locs (xQi G true sz o) (XA G true sz) 118 ls [.int s3, .int s2, .int s1, .ref (G.2.2 245 0)] := by
  unfold L_X12_make_118 at h
  refine lv_ior X.1 X.2.1 dX12_make_118 ?_
  refine lv_iload X.1 X.2.1 dX12_make_119 (lv_at hl 4 rfl) ?_
  refine x_if_eq X (tgt := 129) dX12_make_121 (by decide) h (fun h => ?_) (fun h => ?_)
  · refine lv_iconst (v := 0) X.1 X.2.1 dX12_make_129 rfl ?_
    exact w_X12_make_130 X v1 v2 v3 v4 v5 v6 s1 (s2 ||| s3) 0   hW (lv_sub hl [0, 1, 2, 3, 4, 5, 6] rfl) h
  · refine lv_bipush (v := 64) X.1 X.2.1 dX12_make_124 rfl ?_
    refine lv_goto (tgt := 130) X.1 X.2.1 dX12_make_126 (by decide) ?_
    exact w_X12_make_130 X v1 v2 v3 v4 v5 v6 s1 (s2 ||| s3) 64   hW (lv_sub hl [0, 1, 2, 3, 4, 5, 6] rfl) h
set_option maxRecDepth 100000 in
set_option maxHeartbeats 4000000 in
theorem w_X12_make_108 {p : Program} {l : Launch} {e : Env} {s : State} {m : MethodId} {args : Array Value} {below : List Frame} {meth : Method} {c : Code} {G : xG} {sz : Nat} {o : Int32 × Mm} (X : xC G true sz p s m args c cX12_make 12 wsX12_make RX12 meth (some .boolean)) (v1 : Int32) (v2 : Int32) (v3 : Int32) (v4 : Int32) (v5 : Int32) (v6 : Int32) (s1 : Int32) (s2 : Int32)   {S : Mm} {H : Heap} {locs : List Loc} {ls : Array Slot} (hW : xW G true sz s H locs S) (hl : lv_has ls 12 [(0, .ref (G.2.2 200 0)), (1, .int v1), (2, .int v2), (3, .int v3), (4, .int v4), (5, .int v5), (6, .int v6)]) (h : L_X12_make_108  v1 v2 v3 v4 v5 v6 s1 s2 S = some o) : wX p l e rmX12_make s m args below meth c H locs (xQi G true sz o) (XA G true sz) 108 ls [.int s2, .int s1, .ref (G.2.2 245 0)] := by
  unfold L_X12_make_108 at h
  refine lv_iload X.1 X.2.1 dX12_make_108 (lv_at hl 6 rfl) ?_
  refine x_if_eq X (tgt := 117) dX12_make_110 (by decide) h (fun h => ?_) (fun h => ?_)
  · refine lv_iconst (v := 0) X.1 X.2.1 dX12_make_117 rfl ?_
    exact w_X12_make_118 X v1 v2 v3 v4 v5 v6 s1 s2 0   hW (lv_sub hl [0, 1, 2, 3, 4, 5, 6] rfl) h
  · refine lv_iconst (v := 4) X.1 X.2.1 dX12_make_113 rfl ?_
    refine lv_goto (tgt := 118) X.1 X.2.1 dX12_make_114 (by decide) ?_
    exact w_X12_make_118 X v1 v2 v3 v4 v5 v6 s1 s2 4   hW (lv_sub hl [0, 1, 2, 3, 4, 5, 6] rfl) h
set_option maxRecDepth 100000 in
set_option maxHeartbeats 4000000 in
theorem w_X12_make_63 {p : Program} {l : Launch} {e : Env} {s : State} {m : MethodId} {args : Array Value} {below : List Frame} {meth : Method} {c : Code} {G : xG} {sz : Nat} {o : Int32 × Mm} (X : xC G true sz p s m args c cX12_make 12 wsX12_make RX12 meth (some .boolean)) (v1 : Int32) (v2 : Int32) (v3 : Int32) (v4 : Int32) (v5 : Int32) (s0 : Int32)   {S : Mm} {H : Heap} {locs : List Loc} {ls : Array Slot} (hW : xW G true sz s H locs S) (hl : lv_has ls 12 [(0, .ref (G.2.2 200 0)), (1, .int v1), (2, .int v2), (3, .int v3), (4, .int v4), (5, .int v5)]) (h : L_X12_make_63  v1 v2 v3 v4 v5 s0 S = some o) : wX p l e rmX12_make s m args below meth c H locs (xQi G true sz o) (XA G true sz) 63 ls [.int s0] := by
  unfold L_X12_make_63 at h
  refine lv_istore (lv' := [(6, .int s0), (0, .ref (G.2.2 200 0)), (1, .int v1), (2, .int v2), (3, .int v3), (4, .int v4), (5, .int v5)]) X.1 X.2.1 dX12_make_63 hl (by decide) rfl (fun ls hl => ?_)
  refine lv_aload_n X.1 X.2.1 dX12_make_65 rfl (lv_at hl 1 rfl) ?_
  refine x_getR X hW fd_Model_frames (fun w h => List.mem_cons_of_mem _ (gin_X12 w h)) (List.mem_cons_of_mem _ gw196) z_1 dX12_make_66 ?_
  refine lv_iload_n X.1 X.2.1 dX12_make_69 rfl (lv_at hl 4 rfl) ?_
  refine lv_aload_n X.1 X.2.1 dX12_make_70 rfl (lv_at hl 1 rfl) ?_
  refine x_getR X hW fd_Model_qType (fun w h => List.mem_cons_of_mem _ (gin_X12 w h)) (List.mem_cons_of_mem _ gw186) z_1 dX12_make_71 ?_
  refine lv_iload_n X.1 X.2.1 dX12_make_74 rfl (lv_at hl 3 rfl) ?_
  refine x_iald X hW ar_235 dX12_make_75 h (fun x14 h => ?_)
  refine x_iast X hW ar_245 dX12_make_76 h (fun S15 H locs h hW => ?_)
  refine lv_aload_n X.1 X.2.1 dX12_make_77 rfl (lv_at hl 1 rfl) ?_
  refine x_getR X hW fd_Model_frames (fun w h => List.mem_cons_of_mem _ (gin_X12 w h)) (List.mem_cons_of_mem _ gw196) z_1 dX12_make_78 ?_
  refine lv_iload_n X.1 X.2.1 dX12_make_81 rfl (lv_at hl 4 rfl) ?_
  refine lv_iconst (v := 1) X.1 X.2.1 dX12_make_82 rfl ?_
  refine lv_iadd X.1 X.2.1 dX12_make_83 ?_
  refine lv_aload_n X.1 X.2.1 dX12_make_84 rfl (lv_at hl 1 rfl) ?_
  refine x_getR X hW fd_Model_qType (fun w h => List.mem_cons_of_mem _ (gin_X12 w h)) (List.mem_cons_of_mem _ gw186) z_1 dX12_make_85 ?_
  refine lv_iload_n X.1 X.2.1 dX12_make_88 rfl (lv_at hl 3 rfl) ?_
  refine x_iald X hW ar_235 dX12_make_89 h (fun x16 h => ?_)
  refine lv_bipush (v := 8) X.1 X.2.1 dX12_make_90 rfl ?_
  refine x_icmp_eq X (tgt := 99) dX12_make_92 (by decide) h (fun h => ?_) (fun h => ?_)
  · refine lv_iload_n X.1 X.2.1 dX12_make_99 rfl (lv_at hl 2 rfl) ?_
    refine x_if_le X (tgt := 107) dX12_make_100 (by decide) h (fun h => ?_) (fun h => ?_)
    · refine lv_iconst (v := 2) X.1 X.2.1 dX12_make_107 rfl ?_
      exact w_X12_make_108 X v1 v2 v3 v4 v5 s0 (v3 + 1) 2   hW (lv_sub hl [1, 2, 3, 4, 5, 6, 0] rfl) h
    · refine lv_iconst (v := 1) X.1 X.2.1 dX12_make_103 rfl ?_
      refine lv_goto (tgt := 108) X.1 X.2.1 dX12_make_104 (by decide) ?_
      exact w_X12_make_108 X v1 v2 v3 v4 v5 s0 (v3 + 1) 1   hW (lv_sub hl [1, 2, 3, 4, 5, 6, 0] rfl) h
  · refine lv_iconst (v := 0) X.1 X.2.1 dX12_make_95 rfl ?_
    refine lv_goto (tgt := 108) X.1 X.2.1 dX12_make_96 (by decide) ?_
    exact w_X12_make_108 X v1 v2 v3 v4 v5 s0 (v3 + 1) 0   hW (lv_sub hl [1, 2, 3, 4, 5, 6, 0] rfl) h
set_option maxRecDepth 100000 in
set_option maxHeartbeats 4000000 in
theorem w_X12_make_42 {p : Program} {l : Launch} {e : Env} {s : State} {m : MethodId} {args : Array Value} {below : List Frame} {meth : Method} {c : Code} {G : xG} {sz : Nat} {o : Int32 × Mm} (X : xC G true sz p s m args c cX12_make 12 wsX12_make RX12 meth (some .boolean)) (v1 : Int32) (v2 : Int32) (v3 : Int32) (v4 : Int32) (v5 : Int32)   {S : Mm} {H : Heap} {locs : List Loc} {ls : Array Slot} (hW : xW G true sz s H locs S) (hl : lv_has ls 12 [(0, .ref (G.2.2 200 0)), (1, .int v1), (2, .int v2), (3, .int v3), (4, .int v4), (5, .int v5)]) (h : L_X12_make_42  v1 v2 v3 v4 v5 S = some o) : wX p l e rmX12_make s m args below meth c H locs (xQi G true sz o) (XA G true sz) 42 ls [] := by
  unfold L_X12_make_42 at h
  refine lv_aload_n X.1 X.2.1 dX12_make_42 rfl (lv_at hl 0 rfl) ?_
  refine x_getR X hW fd_Model_part (fun w h => List.mem_cons_of_mem _ (gin_X12 w h)) (List.mem_cons_of_mem _ gw194) z_1 dX12_make_43 ?_
  refine lv_iload_n X.1 X.2.1 dX12_make_46 rfl (lv_at hl 1 rfl) ?_
  refine x_iald X hW ar_243 dX12_make_47 h (fun x10 h => ?_)
  refine lv_aload_n X.1 X.2.1 dX12_make_48 rfl (lv_at hl 0 rfl) ?_
  refine lv_iload_n X.1 X.2.1 dX12_make_49 rfl (lv_at hl 1 rfl) ?_
  obtain ⟨r11, S12, h13, h⟩ := cl_some h
  refine x_aftI X hW (x_runV (C := RX12) (a := G.2.2 200 0) (As := [.int v1]) (rest := [.int x10]) X hW (c_X12_partsOf l G X.2.2.2.2.2.2.2.2.2.1 _ S v1 _ h13) (cwV 1 X.2.2.2.2.1 (gV gw1039 gw1040 gw1041 gw5 gw1042) rfl rfl rfl ⟨rfl, hd_X12_partsOf⟩ ⟨Nat.le_of_ble_eq_true rfl, Nat.le_of_ble_eq_true rfl⟩) (x_recv X hW ob_Model z_1) rfl hl.1 rfl (Nat.le_of_ble_eq_true rfl) dX12_make_50 ⟨Nat.zero_le _, Nat.zero_le _⟩) (fun H locs hW => ?_)
  refine lv_iconst (v := 1) X.1 X.2.1 dX12_make_53 rfl ?_
  refine lv_isub X.1 X.2.1 dX12_make_54 ?_
  refine x_icmp_ge X (tgt := 62) dX12_make_55 (by decide) h (fun h => ?_) (fun h => ?_)
  · refine lv_iconst (v := 0) X.1 X.2.1 dX12_make_62 rfl ?_
    exact w_X12_make_63 X v1 v2 v3 v4 v5 0   hW (lv_sub hl [0, 1, 2, 3, 4, 5] rfl) h
  · refine lv_iconst (v := 1) X.1 X.2.1 dX12_make_58 rfl ?_
    refine lv_goto (tgt := 63) X.1 X.2.1 dX12_make_59 (by decide) ?_
    exact w_X12_make_63 X v1 v2 v3 v4 v5 1   hW (lv_sub hl [0, 1, 2, 3, 4, 5] rfl) h
set_option maxRecDepth 100000 in
set_option maxHeartbeats 4000000 in
theorem w_X12_make_0 {p : Program} {l : Launch} {e : Env} {s : State} {m : MethodId} {args : Array Value} {below : List Frame} {meth : Method} {c : Code} {G : xG} {sz : Nat} {o : Int32 × Mm} (X : xC G true sz p s m args c cX12_make 12 wsX12_make RX12 meth (some .boolean)) (v1 : Int32) {S : Mm} {H : Heap} {locs : List Loc} {ls : Array Slot} (hW : xW G true sz s H locs S) (hl : lv_has ls 12 [(0, .ref (G.2.2 200 0)), (1, .int v1)]) (h : F_X12_make v1 S = some o) : wX p l e rmX12_make s m args below meth c H locs (xQi G true sz o) (XA G true sz) 0 ls [] := by
  unfold F_X12_make at h
  refine lv_bipush (v := 12) X.1 X.2.1 dX12_make_0 rfl ?_
  refine lv_iload_n X.1 X.2.1 dX12_make_2 rfl (lv_at hl 1 rfl) ?_
  refine lv_imul X.1 X.2.1 dX12_make_3 ?_
  refine x_top h (fun x1 h => ?_)
  refine lv_istore_n (lv' := [(2, .int x1), (0, .ref (G.2.2 200 0)), (1, .int v1)]) X.1 X.2.1 dX12_make_4 rfl hl (by decide) rfl (fun ls hl => ?_)
  refine lv_sipush (v := 300) X.1 X.2.1 dX12_make_5 rfl ?_
  refine lv_iload_n X.1 X.2.1 dX12_make_8 rfl (lv_at hl 2 rfl) ?_
  refine lv_imul X.1 X.2.1 dX12_make_9 ?_
  refine x_top h (fun x2 h => ?_)
  refine lv_istore_n (lv' := [(3, .int x2), (2, .int x1), (0, .ref (G.2.2 200 0)), (1, .int v1)]) X.1 X.2.1 dX12_make_10 rfl hl (by decide) rfl (fun ls hl => ?_)
  refine lv_aload_n X.1 X.2.1 dX12_make_11 rfl (lv_at hl 2 rfl) ?_
  refine lv_iload_n X.1 X.2.1 dX12_make_12 rfl (lv_at hl 3 rfl) ?_
  obtain ⟨r3, S4, h5, h⟩ := cl_some h
  refine x_aftI X hW (x_runV (C := RX12) (a := G.2.2 200 0) (As := [.int v1]) (rest := []) X hW (c_X12_isSealed l G X.2.2.2.2.2.2.2.2.2.1 _ S v1 _ h5) (cwV 1 X.2.2.2.2.1 (gV gw1031 gw1032 gw1033 gw5 gw1034) rfl rfl rfl ⟨rfl, hd_X12_isSealed⟩ ⟨Nat.le_of_ble_eq_true rfl, Nat.le_of_ble_eq_true rfl⟩) (x_recv X hW ob_Model z_1) rfl hl.1 rfl (Nat.le_of_ble_eq_true rfl) dX12_make_13 ⟨Nat.zero_le _, Nat.zero_le _⟩) (fun H locs hW => ?_)
  refine lv_istore (lv' := [(4, .int r3), (3, .int x2), (2, .int x1), (0, .ref (G.2.2 200 0)), (1, .int v1)]) X.1 X.2.1 dX12_make_16 hl (by decide) rfl (fun ls hl => ?_)
  refine lv_aload_n X.1 X.2.1 dX12_make_18 rfl (lv_at hl 3 rfl) ?_
  refine lv_iload_n X.1 X.2.1 dX12_make_19 rfl (lv_at hl 4 rfl) ?_
  obtain ⟨r6, S7, h8, h⟩ := cl_some h
  refine x_aftI X hW (x_runV (C := RX12) (a := G.2.2 200 0) (As := [.int v1]) (rest := []) X hW (c_X12_pairOf l G X.2.2.2.2.2.2.2.2.2.1 _ S4 v1 _ h8) (cwV 1 X.2.2.2.2.1 (gV gw1035 gw1036 gw1037 gw5 gw1038) rfl rfl rfl ⟨rfl, hd_X12_pairOf⟩ ⟨Nat.le_of_ble_eq_true rfl, Nat.le_of_ble_eq_true rfl⟩) (x_recv X hW ob_Model z_1) rfl hl.1 rfl (Nat.le_of_ble_eq_true rfl) dX12_make_20 ⟨Nat.zero_le _, Nat.zero_le _⟩) (fun H locs hW => ?_)
  refine lv_istore (lv' := [(5, .int r6), (4, .int r3), (3, .int x2), (2, .int x1), (0, .ref (G.2.2 200 0)), (1, .int v1)]) X.1 X.2.1 dX12_make_23 hl (by decide) rfl (fun ls hl => ?_)
  refine lv_iload X.1 X.2.1 dX12_make_25 (lv_at hl 1 rfl) ?_
  refine x_if_eq X (tgt := 42) dX12_make_27 (by decide) h (fun h => ?_) (fun h => ?_)
  · exact w_X12_make_42 X v1 x1 x2 r3 r6   hW (lv_sub hl [4, 5, 3, 2, 1, 0] rfl) h
  · refine lv_aload_n X.1 X.2.1 dX12_make_30 rfl (lv_at hl 4 rfl) ?_
    refine x_getR X hW fd_Model_hasKey (fun w h => List.mem_cons_of_mem _ (gin_X12 w h)) (List.mem_cons_of_mem _ gw172) z_1 dX12_make_31 ?_
    refine lv_iload X.1 X.2.1 dX12_make_34 (lv_at hl 0 rfl) ?_
    refine x_zald X hW ar_222 dX12_make_36 h (fun x9 h => ?_)
    refine x_if_ne X (tgt := 42) dX12_make_37 (by decide) h (fun h => ?_) (fun h => ?_)
    · exact w_X12_make_42 X v1 x1 x2 r3 r6   hW (lv_sub hl [4, 5, 3, 2, 1, 0] rfl) h
    · refine lv_iconst (v := 0) X.1 X.2.1 dX12_make_40 rfl ?_
      exact x_zret X hW h rfl dX12_make_41
theorem c_X12_make (l : Launch) (G : xG) (hD : xD G true) (sz : Nat) (S : Mm) (v1 : Int32) (o : Int32 × Mm) (h : F_X12_make v1 S = some o) : Met l yX12_make wsX12_make rmX12_make (xPre G true S sz [.ref (G.2.2 200 0), .int v1]) (xQi G true sz o) 0 0 (XA G true sz) :=
  x_start hD (by decide) rfl (Nat.le_of_ble_eq_true rfl) (fun p e s m below meth c X hW ls hl => w_X12_make_0 X v1 hW hl h)

/-! WirelessCellModel.goesOut(I[III)V -/
def rmX12_goesOut : Room := { frames := 0, cells := 0, slots := 0, locals := 0 }
def L_X12_goesOut_137  (v1 : Int32) (cv2 : Nat) (v2 : Nat) (v3 : Int32) (v4 : Int32) (v5 : Int32) (v7 : Int32) : Nat → Int32 → Mm → Option (Unit × Mm)
  | 0, _, _ => none
  | n + 1, v8, S => 
    if v4 ≤ v8 then (
    gf S 301 0 fun x20 =>
    pf S 301 0 (x20 + 1) fun S21 =>
    if 9 ≤ v1 then (
    some ((), S21))
    else (
    stA S21 254 0 9 1 v1 v5 fun S22 =>
    some ((), S22)))
    else (
    ldP true S cv2 v2 (v3 + v8) fun x23 =>
    stA S 265 0 90000 1 ((300 * v5) + v8) x23 fun S24 =>
    ldP true S24 cv2 v2 (v3 + v8) fun x25 =>
    stA S24 271 0 12000 1 ((300 * v7) + v8) x25 fun S26 =>
    (L_X12_goesOut_137 v1 cv2 v2 v3 v4 v5 v7 n) (v8 + 1) S26)
def F_X12_goesOut (v1 : Int32) (cv2 : Nat) (v2 : Nat) (v3 : Int32) (v4 : Int32) (S : Mm) : Option (Unit × Mm) :=
  gf S 304 0 fun x1 =>
  gf S 304 0 fun x2 =>
  pf S 304 0 (x2 + 1) fun S3 =>
  tp (2 + ((v4 + 31) / 32)) fun x4 =>
  stA S3 260 0 300 1 x1 v1 fun S5 =>
  gf S5 298 0 fun x6 =>
  stA S5 261 0 300 1 x1 ((x6 + x4) - 1) fun S7 =>
  stA S7 262 0 300 1 x1 v4 fun S8 =>
  stA S8 263 0 300 1 x1 (1 &&& 1) fun S9 =>
  gf S9 301 0 fun x10 =>
  stA S9 264 0 300 1 x1 x10 fun S11 =>
  gf S11 301 0 fun x12 =>
  tp (x12 - x12 / 40 * 40) fun x13 =>
  stA S11 266 0 40 1 x13 v1 fun S14 =>
  gf S14 298 0 fun x15 =>
  stA S14 267 0 40 1 x13 x15 fun S16 =>
  stA S16 268 0 40 1 x13 v4 fun S17 =>
  stA S17 269 0 40 1 x13 x4 fun S18 =>
  stA S18 270 0 40 1 x13 2 fun S19 =>
  L_X12_goesOut_137  v1 cv2 v2 v3 v4 x1 x13 fu 0 S19
set_option maxRecDepth 100000 in
set_option maxHeartbeats 4000000 in
theorem w_X12_goesOut_137 {p : Program} {l : Launch} {e : Env} {s : State} {m : MethodId} {args : Array Value} {below : List Frame} {meth : Method} {c : Code} {G : xG} {sz : Nat} {o : Unit × Mm} (X : xC G true sz p s m args c cX12_goesOut 9 wsX12_goesOut RX12 meth none) (v1 : Int32) (cv2 : Nat) (v2 : Nat) (v3 : Int32) (v4 : Int32) (v5 : Int32) (v7 : Int32)   : ∀ (n : Nat) (v8 : Int32) (S : Mm) (H : Heap) (locs : List Loc) (ls : Array Slot), L_X12_goesOut_137 v1 cv2 v2 v3 v4 v5 v7 n v8 S = some o → xW G true sz s H locs S → lv_has ls 9 [(0, .ref (G.2.2 200 0)), (1, .int v1), (2, .ref (G.2.2 cv2 v2)), (3, .int v3), (4, .int v4), (5, .int v5), (7, .int v7), (8, .int v8)] → wX p l e rmX12_goesOut s m args below meth c H locs (xQv G true sz o) (XA G true sz) 137 ls [] := by
  intro n
  induction n with
  | zero =>
    intro v8 S H locs ls h
    cases h
  | succ n ih =>
    intro v8 S H locs ls h hW  hl
    rw [L_X12_goesOut_137] at h
    refine lv_iload X.1 X.2.1 dX12_goesOut_137 (lv_at hl 7 rfl) ?_
    refine lv_iload X.1 X.2.1 dX12_goesOut_139 (lv_at hl 4 rfl) ?_
    refine x_icmp_ge X (tgt := 190) dX12_goesOut_141 (by decide) h (fun h => ?_) (fun h => ?_)
    · refine lv_aload_n X.1 X.2.1 dX12_goesOut_190 rfl (lv_at hl 0 rfl) ?_
      refine lv_dup X.1 X.2.1 dX12_goesOut_191 rfl ?_
      refine x_getI X hW fd_Model_began (fun w h => List.mem_cons_of_mem _ (gin_X12 w h)) (List.mem_cons_of_mem _ gw341) z_1 dX12_goesOut_192 h (fun x20 h => ?_)
      refine lv_iconst (v := 1) X.1 X.2.1 dX12_goesOut_195 rfl ?_
      refine lv_iadd X.1 X.2.1 dX12_goesOut_196 ?_
      refine x_putI X hW fd_Model_began (fun w h => List.mem_cons_of_mem _ (gin_X12 w h)) (List.mem_cons_of_mem _ gw341) z_1 dX12_goesOut_197 tyX12 tyX12_ok nmX12 rfl rfl rfl h (fun S21 H locs h hW => ?_)
      refine lv_iload_n X.1 X.2.1 dX12_goesOut_200 rfl (lv_at hl 1 rfl) ?_
      refine lv_bipush (v := 9) X.1 X.2.1 dX12_goesOut_201 rfl ?_
      refine x_icmp_ge X (tgt := 214) dX12_goesOut_203 (by decide) h (fun h => ?_) (fun h => ?_)
      · exact x_vret X hW h dX12_goesOut_214
      · refine lv_aload_n X.1 X.2.1 dX12_goesOut_206 rfl (lv_at hl 0 rfl) ?_
        refine x_getR X hW fd_Model_sending (fun w h => List.mem_cons_of_mem _ (gin_X12 w h)) (List.mem_cons_of_mem _ gw208) z_1 dX12_goesOut_207 ?_
        refine lv_iload_n X.1 X.2.1 dX12_goesOut_210 rfl (lv_at hl 1 rfl) ?_
        refine lv_iload X.1 X.2.1 dX12_goesOut_211 (lv_at hl 5 rfl) ?_
        refine x_iast X hW ar_254 dX12_goesOut_213 h (fun S22 H locs h hW => ?_)
        exact x_vret X hW h dX12_goesOut_214
    · refine lv_aload_n X.1 X.2.1 dX12_goesOut_144 rfl (lv_at hl 0 rfl) ?_
      refine x_getR X hW fd_Model_vBytes (fun w h => List.mem_cons_of_mem _ (gin_X12 w h)) (List.mem_cons_of_mem _ gw220) z_1 dX12_goesOut_145 ?_
      refine lv_sipush (v := 300) X.1 X.2.1 dX12_goesOut_148 rfl ?_
      refine lv_iload X.1 X.2.1 dX12_goesOut_151 (lv_at hl 5 rfl) ?_
      refine lv_imul X.1 X.2.1 dX12_goesOut_153 ?_
      refine lv_iload X.1 X.2.1 dX12_goesOut_154 (lv_at hl 7 rfl) ?_
      refine lv_iadd X.1 X.2.1 dX12_goesOut_156 ?_
      refine lv_aload_n X.1 X.2.1 dX12_goesOut_157 rfl (lv_at hl 2 rfl) ?_
      refine lv_iload_n X.1 X.2.1 dX12_goesOut_158 rfl (lv_at hl 3 rfl) ?_
      refine lv_iload X.1 X.2.1 dX12_goesOut_159 (lv_at hl 7 rfl) ?_
      refine lv_iadd X.1 X.2.1 dX12_goesOut_161 ?_
      refine x_ialdP X hW dX12_goesOut_162 h (fun x23 h => ?_)
      refine x_iast X hW ar_265 dX12_goesOut_163 h (fun S24 H locs h hW => ?_)
      refine lv_aload_n X.1 X.2.1 dX12_goesOut_164 rfl (lv_at hl 0 rfl) ?_
      refine x_getR X hW fd_Model_hBytes (fun w h => List.mem_cons_of_mem _ (gin_X12 w h)) (List.mem_cons_of_mem _ gw226) z_1 dX12_goesOut_165 ?_
      refine lv_sipush (v := 300) X.1 X.2.1 dX12_goesOut_168 rfl ?_
      refine lv_iload X.1 X.2.1 dX12_goesOut_171 (lv_at hl 6 rfl) ?_
      refine lv_imul X.1 X.2.1 dX12_goesOut_173 ?_
      refine lv_iload X.1 X.2.1 dX12_goesOut_174 (lv_at hl 7 rfl) ?_
      refine lv_iadd X.1 X.2.1 dX12_goesOut_176 ?_
      refine lv_aload_n X.1 X.2.1 dX12_goesOut_177 rfl (lv_at hl 2 rfl) ?_
      refine lv_iload_n X.1 X.2.1 dX12_goesOut_178 rfl (lv_at hl 3 rfl) ?_
      refine lv_iload X.1 X.2.1 dX12_goesOut_179 (lv_at hl 7 rfl) ?_
      refine lv_iadd X.1 X.2.1 dX12_goesOut_181 ?_
      refine x_ialdP X hW dX12_goesOut_182 h (fun x25 h => ?_)
      refine x_iast X hW ar_271 dX12_goesOut_183 h (fun S26 H locs h hW => ?_)
      refine lv_iinc (v := (v8 + 1)) (lv' := [(8, .int (v8 + 1)), (0, .ref (G.2.2 200 0)), (1, .int v1), (2, .ref (G.2.2 cv2 v2)), (3, .int v3), (4, .int v4), (5, .int v5), (7, .int v7)]) X.1 X.2.1 dX12_goesOut_184 hl (k := 7) rfl rfl (by decide) rfl (fun ls hl => ?_)
      refine lv_goto (tgt := 137) X.1 X.2.1 dX12_goesOut_187 (by decide) ?_
      exact ih (v8 + 1) S26 _ _ _ h hW  (lv_sub hl [1, 2, 3, 4, 5, 6, 7, 0] rfl)
set_option maxRecDepth 100000 in
set_option maxHeartbeats 4000000 in
theorem w_X12_goesOut_0 {p : Program} {l : Launch} {e : Env} {s : State} {m : MethodId} {args : Array Value} {below : List Frame} {meth : Method} {c : Code} {G : xG} {sz : Nat} {o : Unit × Mm} (X : xC G true sz p s m args c cX12_goesOut 9 wsX12_goesOut RX12 meth none) (v1 : Int32) (cv2 : Nat) (v2 : Nat) (v3 : Int32) (v4 : Int32) {S : Mm} {H : Heap} {locs : List Loc} {ls : Array Slot} (hW : xW G true sz s H locs S) (hl : lv_has ls 9 [(0, .ref (G.2.2 200 0)), (1, .int v1), (2, .ref (G.2.2 cv2 v2)), (3, .int v3), (4, .int v4)]) (h : F_X12_goesOut v1 cv2 v2 v3 v4 S = some o) : wX p l e rmX12_goesOut s m args below meth c H locs (xQv G true sz o) (XA G true sz) 0 ls [] := by
  unfold F_X12_goesOut at h
  refine lv_aload_n X.1 X.2.1 dX12_goesOut_0 rfl (lv_at hl 0 rfl) ?_
  refine x_getI X hW fd_Model_live (fun w h => List.mem_cons_of_mem _ (gin_X12 w h)) (List.mem_cons_of_mem _ gw1005) z_1 dX12_goesOut_1 h (fun x1 h => ?_)
  refine lv_istore (lv' := [(5, .int x1), (0, .ref (G.2.2 200 0)), (1, .int v1), (2, .ref (G.2.2 cv2 v2)), (3, .int v3), (4, .int v4)]) X.1 X.2.1 dX12_goesOut_4 hl (by decide) rfl (fun ls hl => ?_)
  refine lv_aload_n X.1 X.2.1 dX12_goesOut_6 rfl (lv_at hl 1 rfl) ?_
  refine lv_dup X.1 X.2.1 dX12_goesOut_7 rfl ?_
  refine x_getI X hW fd_Model_live (fun w h => List.mem_cons_of_mem _ (gin_X12 w h)) (List.mem_cons_of_mem _ gw1005) z_1 dX12_goesOut_8 h (fun x2 h => ?_)
  refine lv_iconst (v := 1) X.1 X.2.1 dX12_goesOut_11 rfl ?_
  refine lv_iadd X.1 X.2.1 dX12_goesOut_12 ?_
  refine x_putI X hW fd_Model_live (fun w h => List.mem_cons_of_mem _ (gin_X12 w h)) (List.mem_cons_of_mem _ gw1005) z_1 dX12_goesOut_13 tyX12 tyX12_ok nmX12 rfl rfl rfl h (fun S3 H locs h hW => ?_)
  refine lv_iconst (v := 2) X.1 X.2.1 dX12_goesOut_16 rfl ?_
  refine lv_iload X.1 X.2.1 dX12_goesOut_17 (lv_at hl 5 rfl) ?_
  refine lv_bipush (v := 31) X.1 X.2.1 dX12_goesOut_19 rfl ?_
  refine lv_iadd X.1 X.2.1 dX12_goesOut_21 ?_
  refine lv_bipush (v := 32) X.1 X.2.1 dX12_goesOut_22 rfl ?_
  refine lv_idiv X.1 X.2.1 dX12_goesOut_24 (by decide) ?_
  refine lv_iadd X.1 X.2.1 dX12_goesOut_25 ?_
  refine x_top h (fun x4 h => ?_)
  refine lv_istore (lv' := [(6, .int x4), (5, .int x1), (0, .ref (G.2.2 200 0)), (1, .int v1), (2, .ref (G.2.2 cv2 v2)), (3, .int v3), (4, .int v4)]) X.1 X.2.1 dX12_goesOut_26 hl (by decide) rfl (fun ls hl => ?_)
  refine lv_aload_n X.1 X.2.1 dX12_goesOut_28 rfl (lv_at hl 2 rfl) ?_
  refine x_getR X hW fd_Model_vSender (fun w h => List.mem_cons_of_mem _ (gin_X12 w h)) (List.mem_cons_of_mem _ gw214) z_1 dX12_goesOut_29 ?_
  refine lv_iload X.1 X.2.1 dX12_goesOut_32 (lv_at hl 1 rfl) ?_
  refine lv_iload_n X.1 X.2.1 dX12_goesOut_34 rfl (lv_at hl 3 rfl) ?_
  refine x_iast X hW ar_260 dX12_goesOut_35 h (fun S5 H locs h hW => ?_)
  refine lv_aload_n X.1 X.2.1 dX12_goesOut_36 rfl (lv_at hl 2 rfl) ?_
  refine x_getR X hW fd_Model_vLast (fun w h => List.mem_cons_of_mem _ (gin_X12 w h)) (List.mem_cons_of_mem _ gw215) z_1 dX12_goesOut_37 ?_
  refine lv_iload X.1 X.2.1 dX12_goesOut_40 (lv_at hl 1 rfl) ?_
  refine lv_aload_n X.1 X.2.1 dX12_goesOut_42 rfl (lv_at hl 2 rfl) ?_
  refine x_getI X hW fd_Model_slot (fun w h => List.mem_cons_of_mem _ (gin_X12 w h)) (List.mem_cons_of_mem _ gw451) z_1 dX12_goesOut_43 h (fun x6 h => ?_)
  refine lv_iload X.1 X.2.1 dX12_goesOut_46 (lv_at hl 0 rfl) ?_
  refine lv_iadd X.1 X.2.1 dX12_goesOut_48 ?_
  refine lv_iconst (v := 1) X.1 X.2.1 dX12_goesOut_49 rfl ?_
  refine lv_isub X.1 X.2.1 dX12_goesOut_50 ?_
  refine x_iast X hW ar_261 dX12_goesOut_51 h (fun S7 H locs h hW => ?_)
  refine lv_aload_n X.1 X.2.1 dX12_goesOut_52 rfl (lv_at hl 2 rfl) ?_
  refine x_getR X hW fd_Model_vLen (fun w h => List.mem_cons_of_mem _ (gin_X12 w h)) (List.mem_cons_of_mem _ gw216) z_1 dX12_goesOut_53 ?_
  refine lv_iload X.1 X.2.1 dX12_goesOut_56 (lv_at hl 1 rfl) ?_
  refine lv_iload X.1 X.2.1 dX12_goesOut_58 (lv_at hl 6 rfl) ?_
  refine x_iast X hW ar_262 dX12_goesOut_60 h (fun S8 H locs h hW => ?_)
  refine lv_aload_n X.1 X.2.1 dX12_goesOut_61 rfl (lv_at hl 2 rfl) ?_
  refine x_getR X hW fd_Model_vClean (fun w h => List.mem_cons_of_mem _ (gin_X12 w h)) (List.mem_cons_of_mem _ gw217) z_1 dX12_goesOut_62 ?_
  refine lv_iload X.1 X.2.1 dX12_goesOut_65 (lv_at hl 1 rfl) ?_
  refine lv_iconst (v := 1) X.1 X.2.1 dX12_goesOut_67 rfl ?_
  refine x_zast X hW ar_263 dX12_goesOut_68 h (fun S9 H locs h hW => ?_)
  refine lv_aload_n X.1 X.2.1 dX12_goesOut_69 rfl (lv_at hl 2 rfl) ?_
  refine x_getR X hW fd_Model_vNumber (fun w h => List.mem_cons_of_mem _ (gin_X12 w h)) (List.mem_cons_of_mem _ gw218) z_1 dX12_goesOut_70 ?_
  refine lv_iload X.1 X.2.1 dX12_goesOut_73 (lv_at hl 1 rfl) ?_
  refine lv_aload_n X.1 X.2.1 dX12_goesOut_75 rfl (lv_at hl 2 rfl) ?_
  refine x_getI X hW fd_Model_began (fun w h => List.mem_cons_of_mem _ (gin_X12 w h)) (List.mem_cons_of_mem _ gw341) z_1 dX12_goesOut_76 h (fun x10 h => ?_)
  refine x_iast X hW ar_264 dX12_goesOut_79 h (fun S11 H locs h hW => ?_)
  refine lv_aload_n X.1 X.2.1 dX12_goesOut_80 rfl (lv_at hl 2 rfl) ?_
  refine x_getI X hW fd_Model_began (fun w h => List.mem_cons_of_mem _ (gin_X12 w h)) (List.mem_cons_of_mem _ gw341) z_1 dX12_goesOut_81 h (fun x12 h => ?_)
  refine lv_bipush (v := 40) X.1 X.2.1 dX12_goesOut_84 rfl ?_
  refine lv_irem X.1 X.2.1 dX12_goesOut_86 (by decide) ?_
  refine x_top h (fun x13 h => ?_)
  refine lv_istore (lv' := [(7, .int x13), (6, .int x4), (5, .int x1), (0, .ref (G.2.2 200 0)), (1, .int v1), (2, .ref (G.2.2 cv2 v2)), (3, .int v3), (4, .int v4)]) X.1 X.2.1 dX12_goesOut_87 hl (by decide) rfl (fun ls hl => ?_)
  refine lv_aload_n X.1 X.2.1 dX12_goesOut_89 rfl (lv_at hl 3 rfl) ?_
  refine x_getR X hW fd_Model_hSender (fun w h => List.mem_cons_of_mem _ (gin_X12 w h)) (List.mem_cons_of_mem _ gw221) z_1 dX12_goesOut_90 ?_
  refine lv_iload X.1 X.2.1 dX12_goesOut_93 (lv_at hl 0 rfl) ?_
  refine lv_iload_n X.1 X.2.1 dX12_goesOut_95 rfl (lv_at hl 4 rfl) ?_
  refine x_iast X hW ar_266 dX12_goesOut_96 h (fun S14 H locs h hW => ?_)
  refine lv_aload_n X.1 X.2.1 dX12_goesOut_97 rfl (lv_at hl 3 rfl) ?_
  refine x_getR X hW fd_Model_hFirst (fun w h => List.mem_cons_of_mem _ (gin_X12 w h)) (List.mem_cons_of_mem _ gw222) z_1 dX12_goesOut_98 ?_
  refine lv_iload X.1 X.2.1 dX12_goesOut_101 (lv_at hl 0 rfl) ?_
  refine lv_aload_n X.1 X.2.1 dX12_goesOut_103 rfl (lv_at hl 3 rfl) ?_
  refine x_getI X hW fd_Model_slot (fun w h => List.mem_cons_of_mem _ (gin_X12 w h)) (List.mem_cons_of_mem _ gw451) z_1 dX12_goesOut_104 h (fun x15 h => ?_)
  refine x_iast X hW ar_267 dX12_goesOut_107 h (fun S16 H locs h hW => ?_)
  refine lv_aload_n X.1 X.2.1 dX12_goesOut_108 rfl (lv_at hl 3 rfl) ?_
  refine x_getR X hW fd_Model_hLen (fun w h => List.mem_cons_of_mem _ (gin_X12 w h)) (List.mem_cons_of_mem _ gw223) z_1 dX12_goesOut_109 ?_
  refine lv_iload X.1 X.2.1 dX12_goesOut_112 (lv_at hl 0 rfl) ?_
  refine lv_iload X.1 X.2.1 dX12_goesOut_114 (lv_at hl 7 rfl) ?_
  refine x_iast X hW ar_268 dX12_goesOut_116 h (fun S17 H locs h hW => ?_)
  refine lv_aload_n X.1 X.2.1 dX12_goesOut_117 rfl (lv_at hl 3 rfl) ?_
  refine x_getR X hW fd_Model_hSlots (fun w h => List.mem_cons_of_mem _ (gin_X12 w h)) (List.mem_cons_of_mem _ gw224) z_1 dX12_goesOut_118 ?_
  refine lv_iload X.1 X.2.1 dX12_goesOut_121 (lv_at hl 0 rfl) ?_
  refine lv_iload X.1 X.2.1 dX12_goesOut_123 (lv_at hl 1 rfl) ?_
  refine x_iast X hW ar_269 dX12_goesOut_125 h (fun S18 H locs h hW => ?_)
  refine lv_aload_n X.1 X.2.1 dX12_goesOut_126 rfl (lv_at hl 3 rfl) ?_
  refine x_getR X hW fd_Model_hClean (fun w h => List.mem_cons_of_mem _ (gin_X12 w h)) (List.mem_cons_of_mem _ gw225) z_1 dX12_goesOut_127 ?_
  refine lv_iload X.1 X.2.1 dX12_goesOut_130 (lv_at hl 0 rfl) ?_
  refine lv_iconst (v := 2) X.1 X.2.1 dX12_goesOut_132 rfl ?_
  refine x_iast X hW ar_270 dX12_goesOut_133 h (fun S19 H locs h hW => ?_)
  refine lv_iconst (v := 0) X.1 X.2.1 dX12_goesOut_134 rfl ?_
  refine lv_istore (lv' := [(8, .int 0), (7, .int x13), (6, .int x4), (5, .int x1), (0, .ref (G.2.2 200 0)), (1, .int v1), (2, .ref (G.2.2 cv2 v2)), (3, .int v3), (4, .int v4)]) X.1 X.2.1 dX12_goesOut_135 hl (by decide) rfl (fun ls hl => ?_)
  exact w_X12_goesOut_137 X v1 cv2 v2 v3 v4 x1 x13   fu 0 S19 _ _ _ h hW  (lv_sub hl [4, 5, 6, 7, 8, 3, 1, 0] rfl)
theorem c_X12_goesOut (l : Launch) (G : xG) (hD : xD G true) (sz : Nat) (S : Mm) (v1 : Int32) (cv2 : Nat) (v2 : Nat) (v3 : Int32) (v4 : Int32) (o : Unit × Mm) (h : F_X12_goesOut v1 cv2 v2 v3 v4 S = some o) : Met l yX12_goesOut wsX12_goesOut rmX12_goesOut (xPre G true S sz [.ref (G.2.2 200 0), .int v1, .ref (G.2.2 cv2 v2), .int v3, .int v4]) (xQv G true sz o) 0 0 (XA G true sz) :=
  x_start hD (by decide) rfl (Nat.le_of_ble_eq_true rfl) (fun p e s m below meth c X hW ls hl => w_X12_goesOut_0 X v1 cv2 v2 v3 v4 hW hl h)

/-! WirelessCellModel.acknowledge(I)V -/
def rmX12_acknowledge : Room := { frames := 2, cells := 0, slots := 0, locals := 50 }
def L_X12_acknowledge_53 (k2 : Int32 → Mm → Option (Unit × Mm)) (v1 : Int32) (v2 : Int32) (s1 : Int32) (s2 : Int32) (S : Mm) : Option (Unit × Mm) :=
  stA S 277 0 14 1 s1 s2 fun S8 =>
  k2 (v2 + 1) S8
def L_X12_acknowledge_2  (v1 : Int32) : Nat → Int32 → Mm → Option (Unit × Mm)
  | 0, _, _ => none
  | n + 1, v2, S => 
    if 10 ≤ v2 then (
    cl (F_X12_putCheck 277 0 0 10 S) fun r1 S2 =>
    cl (F_X12_goesOut v1 277 0 0 14 S2) fun r4 S5 =>
    some ((), S5))
    else (
    if v2 = 0 then (
    L_X12_acknowledge_53 (L_X12_acknowledge_2 v1 n) v1 v2 v2 212 S)
    else (
    if 4 ≤ v2 then (
    ldL S 259 0 9 1 v1 fun x7 =>
    L_X12_acknowledge_53 (L_X12_acknowledge_2 v1 n) v1 v2 v2 ((Int64.toInt32 (x7 >>> (Int32.toInt64 (40 - (8 * (v2 - 4))) &&& 63))) &&& 255) S)
    else (
    L_X12_acknowledge_53 (L_X12_acknowledge_2 v1 n) v1 v2 v2 0 S)))
def F_X12_acknowledge (v1 : Int32) (S : Mm) : Option (Unit × Mm) :=
  L_X12_acknowledge_2  v1 fu 0 S
set_option maxRecDepth 100000 in
set_option maxHeartbeats 4000000 in
theorem w_X12_acknowledge_53 {p : Program} {l : Launch} {e : Env} {s : State} {m : MethodId} {args : Array Value} {below : List Frame} {meth : Method} {c : Code} {G : xG} {sz : Nat} {o : Unit × Mm} (X : xC G true sz p s m args c cX12_acknowledge 3 wsX12_acknowledge RX12 meth none) (v1 : Int32) (v2 : Int32) (s1 : Int32) (s2 : Int32)  (k2 : Int32 → Mm → Option (Unit × Mm)) (hk2 : ∀ (v2 : Int32) (S : Mm) (H : Heap) (locs : List Loc) (ls : Array Slot), k2 v2 S = some o → xW G true sz s H locs S → lv_has ls 3 [(0, .ref (G.2.2 200 0)), (1, .int v1), (2, .int v2)] → wX p l e rmX12_acknowledge s m args below meth c H locs (xQv G true sz o) (XA G true sz) 2 ls []) {S : Mm} {H : Heap} {locs : List Loc} {ls : Array Slot} (hW : xW G true sz s H locs S) (hl : lv_has ls 3 [(0, .ref (G.2.2 200 0)), (1, .int v1), (2, .int v2)]) (h : L_X12_acknowledge_53 k2 v1 v2 s1 s2 S = some o) : wX p l e rmX12_acknowledge s m args below meth c H locs (xQv G true sz o) (XA G true sz) 53 ls [.int s2, .int s1, .ref (G.2.2 277 0)] := by
  unfold L_X12_acknowledge_53 at h
  refine x_iast X hW ar_277 dX12_acknowledge_53 h (fun S8 H locs h hW => ?_)
  refine lv_iinc (v := (v2 + 1)) (lv' := [(2, .int (v2 + 1)), (0, .ref (G.2.2 200 0)), (1, .int v1)]) X.1 X.2.1 dX12_acknowledge_54 hl (k := 2) rfl rfl (by decide) rfl (fun ls hl => ?_)
  refine lv_goto (tgt := 2) X.1 X.2.1 dX12_acknowledge_57 (by decide) ?_
  exact hk2 (v2 + 1) S8 _ _ _ h hW  (lv_sub hl [1, 2, 0] rfl)
set_option maxRecDepth 100000 in
set_option maxHeartbeats 4000000 in
theorem w_X12_acknowledge_2 {p : Program} {l : Launch} {e : Env} {s : State} {m : MethodId} {args : Array Value} {below : List Frame} {meth : Method} {c : Code} {G : xG} {sz : Nat} {o : Unit × Mm} (X : xC G true sz p s m args c cX12_acknowledge 3 wsX12_acknowledge RX12 meth none) (v1 : Int32)   : ∀ (n : Nat) (v2 : Int32) (S : Mm) (H : Heap) (locs : List Loc) (ls : Array Slot), L_X12_acknowledge_2 v1 n v2 S = some o → xW G true sz s H locs S → lv_has ls 3 [(0, .ref (G.2.2 200 0)), (1, .int v1), (2, .int v2)] → wX p l e rmX12_acknowledge s m args below meth c H locs (xQv G true sz o) (XA G true sz) 2 ls [] := by
  intro n
  induction n with
  | zero =>
    intro v2 S H locs ls h
    cases h
  | succ n ih =>
    intro v2 S H locs ls h hW  hl
    rw [L_X12_acknowledge_2] at h
    refine lv_iload_n X.1 X.2.1 dX12_acknowledge_2 rfl (lv_at hl 2 rfl) ?_
    refine lv_bipush (v := 10) X.1 X.2.1 dX12_acknowledge_3 rfl ?_
    refine x_icmp_ge X (tgt := 60) dX12_acknowledge_5 (by decide) h (fun h => ?_) (fun h => ?_)
    · refine lv_aload_n X.1 X.2.1 dX12_acknowledge_60 rfl (lv_at hl 0 rfl) ?_
      refine lv_aload_n X.1 X.2.1 dX12_acknowledge_61 rfl (lv_at hl 0 rfl) ?_
      refine x_getR X hW fd_Model_answer (fun w h => List.mem_cons_of_mem _ (gin_X12 w h)) (List.mem_cons_of_mem _ gw232) z_1 dX12_acknowledge_62 ?_
      refine lv_iconst (v := 0) X.1 X.2.1 dX12_acknowledge_65 rfl ?_
      refine lv_bipush (v := 10) X.1 X.2.1 dX12_acknowledge_66 rfl ?_
      obtain ⟨r1, S2, h3, h⟩ := cl_some h
      refine x_aftV X hW (x_runV (C := RX12) (a := G.2.2 200 0) (As := [.ref (G.2.2 277 0), .int 0, .int 10]) (rest := []) X hW (c_X12_putCheck l G X.2.2.2.2.2.2.2.2.2.1 _ S 277 0 0 10 _ h3) (cwV 3 X.2.2.2.2.1 (gV gw1015 gw1016 gw1017 gw5 gw1018) rfl rfl rfl ⟨rfl, hd_X12_putCheck⟩ ⟨Nat.le_of_ble_eq_true rfl, Nat.le_of_ble_eq_true rfl⟩) (x_recv X hW ob_Model z_1) rfl hl.1 rfl (Nat.le_of_ble_eq_true rfl) dX12_acknowledge_68 ⟨Nat.zero_le _, Nat.zero_le _⟩) (fun H locs hW => ?_)
      refine lv_aload_n X.1 X.2.1 dX12_acknowledge_71 rfl (lv_at hl 0 rfl) ?_
      refine lv_iload_n X.1 X.2.1 dX12_acknowledge_72 rfl (lv_at hl 1 rfl) ?_
      refine lv_aload_n X.1 X.2.1 dX12_acknowledge_73 rfl (lv_at hl 0 rfl) ?_
      refine x_getR X hW fd_Model_answer (fun w h => List.mem_cons_of_mem _ (gin_X12 w h)) (List.mem_cons_of_mem _ gw232) z_1 dX12_acknowledge_74 ?_
      refine lv_iconst (v := 0) X.1 X.2.1 dX12_acknowledge_77 rfl ?_
      refine lv_bipush (v := 14) X.1 X.2.1 dX12_acknowledge_78 rfl ?_
      obtain ⟨r4, S5, h6, h⟩ := cl_some h
      refine x_aftV X hW (x_runV (C := RX12) (a := G.2.2 200 0) (As := [.int v1, .ref (G.2.2 277 0), .int 0, .int 14]) (rest := []) X hW (c_X12_goesOut l G X.2.2.2.2.2.2.2.2.2.1 _ S2 v1 277 0 0 14 _ h6) (cwV 4 X.2.2.2.2.1 (gV gw1019 gw1020 gw1021 gw5 gw1022) rfl rfl rfl ⟨rfl, hd_X12_goesOut⟩ ⟨Nat.le_of_ble_eq_true rfl, Nat.le_of_ble_eq_true rfl⟩) (x_recv X hW ob_Model z_1) rfl hl.1 rfl (Nat.le_of_ble_eq_true rfl) dX12_acknowledge_80 ⟨Nat.zero_le _, Nat.zero_le _⟩) (fun H locs hW => ?_)
      exact x_vret X hW h dX12_acknowledge_83
    · refine lv_aload_n X.1 X.2.1 dX12_acknowledge_8 rfl (lv_at hl 0 rfl) ?_
      refine x_getR X hW fd_Model_answer (fun w h => List.mem_cons_of_mem _ (gin_X12 w h)) (List.mem_cons_of_mem _ gw232) z_1 dX12_acknowledge_9 ?_
      refine lv_iload_n X.1 X.2.1 dX12_acknowledge_12 rfl (lv_at hl 2 rfl) ?_
      refine lv_iload_n X.1 X.2.1 dX12_acknowledge_13 rfl (lv_at hl 2 rfl) ?_
      refine x_if_ne X (tgt := 23) dX12_acknowledge_14 (by decide) h (fun h => ?_) (fun h => ?_)
      · refine lv_iload_n X.1 X.2.1 dX12_acknowledge_23 rfl (lv_at hl 2 rfl) ?_
        refine lv_iconst (v := 4) X.1 X.2.1 dX12_acknowledge_24 rfl ?_
        refine x_icmp_ge X (tgt := 32) dX12_acknowledge_25 (by decide) h (fun h => ?_) (fun h => ?_)
        · refine lv_aload_n X.1 X.2.1 dX12_acknowledge_32 rfl (lv_at hl 0 rfl) ?_
          refine x_getR X hW fd_Model_dueFor (fun w h => List.mem_cons_of_mem _ (gin_X12 w h)) (List.mem_cons_of_mem _ gw213) z_1 dX12_acknowledge_33 ?_
          refine lv_iload_n X.1 X.2.1 dX12_acknowledge_36 rfl (lv_at hl 1 rfl) ?_
          refine x_lald X hW ar_259 dX12_acknowledge_37 h (fun x7 h => ?_)
          refine lv_bipush (v := 40) X.1 X.2.1 dX12_acknowledge_38 rfl ?_
          refine lv_bipush (v := 8) X.1 X.2.1 dX12_acknowledge_40 rfl ?_
          refine lv_iload_n X.1 X.2.1 dX12_acknowledge_42 rfl (lv_at hl 2 rfl) ?_
          refine lv_iconst (v := 4) X.1 X.2.1 dX12_acknowledge_43 rfl ?_
          refine lv_isub X.1 X.2.1 dX12_acknowledge_44 ?_
          refine lv_imul X.1 X.2.1 dX12_acknowledge_45 ?_
          refine lv_isub X.1 X.2.1 dX12_acknowledge_46 ?_
          refine lv_lshr (v := (x7 >>> (Int32.toInt64 (40 - (8 * (v2 - 4))) &&& 63))) X.1 X.2.1 dX12_acknowledge_47 rfl ?_
          refine lv_l2i (v := (Int64.toInt32 (x7 >>> (Int32.toInt64 (40 - (8 * (v2 - 4))) &&& 63)))) X.1 X.2.1 dX12_acknowledge_48 rfl ?_
          refine lv_sipush (v := 255) X.1 X.2.1 dX12_acknowledge_49 rfl ?_
          refine lv_iand X.1 X.2.1 dX12_acknowledge_52 ?_
          exact w_X12_acknowledge_53 X v1 v2 v2 ((Int64.toInt32 (x7 >>> (Int32.toInt64 (40 - (8 * (v2 - 4))) &&& 63))) &&& 255)  (L_X12_acknowledge_2 v1 n) ih hW (lv_sub hl [0, 1, 2] rfl) h
        · refine lv_iconst (v := 0) X.1 X.2.1 dX12_acknowledge_28 rfl ?_
          refine lv_goto (tgt := 53) X.1 X.2.1 dX12_acknowledge_29 (by decide) ?_
          exact w_X12_acknowledge_53 X v1 v2 v2 0  (L_X12_acknowledge_2 v1 n) ih hW (lv_sub hl [0, 1, 2] rfl) h
      · refine lv_sipush (v := 212) X.1 X.2.1 dX12_acknowledge_17 rfl ?_
        refine lv_goto (tgt := 53) X.1 X.2.1 dX12_acknowledge_20 (by decide) ?_
        exact w_X12_acknowledge_53 X v1 v2 v2 212  (L_X12_acknowledge_2 v1 n) ih hW (lv_sub hl [0, 1, 2] rfl) h
set_option maxRecDepth 100000 in
set_option maxHeartbeats 4000000 in
theorem w_X12_acknowledge_0 {p : Program} {l : Launch} {e : Env} {s : State} {m : MethodId} {args : Array Value} {below : List Frame} {meth : Method} {c : Code} {G : xG} {sz : Nat} {o : Unit × Mm} (X : xC G true sz p s m args c cX12_acknowledge 3 wsX12_acknowledge RX12 meth none) (v1 : Int32) {S : Mm} {H : Heap} {locs : List Loc} {ls : Array Slot} (hW : xW G true sz s H locs S) (hl : lv_has ls 3 [(0, .ref (G.2.2 200 0)), (1, .int v1)]) (h : F_X12_acknowledge v1 S = some o) : wX p l e rmX12_acknowledge s m args below meth c H locs (xQv G true sz o) (XA G true sz) 0 ls [] := by
  unfold F_X12_acknowledge at h
  refine lv_iconst (v := 0) X.1 X.2.1 dX12_acknowledge_0 rfl ?_
  refine lv_istore_n (lv' := [(2, .int 0), (0, .ref (G.2.2 200 0)), (1, .int v1)]) X.1 X.2.1 dX12_acknowledge_1 rfl hl (by decide) rfl (fun ls hl => ?_)
  exact w_X12_acknowledge_2 X v1   fu 0 S _ _ _ h hW  (lv_sub hl [1, 2, 0] rfl)
theorem c_X12_acknowledge (l : Launch) (G : xG) (hD : xD G true) (sz : Nat) (S : Mm) (v1 : Int32) (o : Unit × Mm) (h : F_X12_acknowledge v1 S = some o) : Met l yX12_acknowledge wsX12_acknowledge rmX12_acknowledge (xPre G true S sz [.ref (G.2.2 200 0), .int v1]) (xQv G true sz o) 0 0 (XA G true sz) :=
  x_start hD (by decide) rfl (Nat.le_of_ble_eq_true rfl) (fun p e s m below meth c X hW ls hl => w_X12_acknowledge_0 X v1 hW hl h)

/-! WirelessCellModel.sendsAtHand(I)V -/
def rmX12_sendsAtHand : Room := { frames := 6, cells := 0, slots := 0, locals := 155 }
def L_X12_sendsAtHand_24  (v1 : Int32) (S : Mm) : Option (Unit × Mm) :=
  ldA S 246 0 9 1 v1 fun x8 =>
  cl (F_X12_goesOut v1 245 0 (300 * v1) x8 S) fun r9 S10 =>
  some ((), S10)
def F_X12_sendsAtHand (v1 : Int32) (S : Mm) : Option (Unit × Mm) :=
  ldA S 244 0 9 1 v1 fun x1 =>
  if x1 = 0 then (
  cl (F_X12_make v1 S) fun r2 S3 =>
  if r2 = 0 then (
  cl (F_X12_leaves v1 5 S3) fun r5 S6 =>
  some ((), S6))
  else (
  L_X12_sendsAtHand_24  v1 S3))
  else (
  L_X12_sendsAtHand_24  v1 S)
set_option maxRecDepth 100000 in
set_option maxHeartbeats 4000000 in
theorem w_X12_sendsAtHand_24 {p : Program} {l : Launch} {e : Env} {s : State} {m : MethodId} {args : Array Value} {below : List Frame} {meth : Method} {c : Code} {G : xG} {sz : Nat} {o : Unit × Mm} (X : xC G true sz p s m args c cX12_sendsAtHand 2 wsX12_sendsAtHand RX12 meth none) (v1 : Int32)   {S : Mm} {H : Heap} {locs : List Loc} {ls : Array Slot} (hW : xW G true sz s H locs S) (hl : lv_has ls 2 [(0, .ref (G.2.2 200 0)), (1, .int v1)]) (h : L_X12_sendsAtHand_24  v1 S = some o) : wX p l e rmX12_sendsAtHand s m args below meth c H locs (xQv G true sz o) (XA G true sz) 24 ls [] := by
  unfold L_X12_sendsAtHand_24 at h
  refine lv_aload_n X.1 X.2.1 dX12_sendsAtHand_24 rfl (lv_at hl 0 rfl) ?_
  refine lv_iload_n X.1 X.2.1 dX12_sendsAtHand_25 rfl (lv_at hl 1 rfl) ?_
  refine lv_aload_n X.1 X.2.1 dX12_sendsAtHand_26 rfl (lv_at hl 0 rfl) ?_
  refine x_getR X hW fd_Model_frames (fun w h => List.mem_cons_of_mem _ (gin_X12 w h)) (List.mem_cons_of_mem _ gw196) z_1 dX12_sendsAtHand_27 ?_
  refine lv_sipush (v := 300) X.1 X.2.1 dX12_sendsAtHand_30 rfl ?_
  refine lv_iload_n X.1 X.2.1 dX12_sendsAtHand_33 rfl (lv_at hl 1 rfl) ?_
  refine lv_imul X.1 X.2.1 dX12_sendsAtHand_34 ?_
  refine lv_aload_n X.1 X.2.1 dX12_sendsAtHand_35 rfl (lv_at hl 0 rfl) ?_
  refine x_getR X hW fd_Model_frameLen (fun w h => List.mem_cons_of_mem _ (gin_X12 w h)) (List.mem_cons_of_mem _ gw197) z_1 dX12_sendsAtHand_36 ?_
  refine lv_iload_n X.1 X.2.1 dX12_sendsAtHand_39 rfl (lv_at hl 1 rfl) ?_
  refine x_iald X hW ar_246 dX12_sendsAtHand_40 h (fun x8 h => ?_)
  obtain ⟨r9, S10, h11, h⟩ := cl_some h
  refine x_aftV X hW (x_runV (C := RX12) (a := G.2.2 200 0) (As := [.int v1, .ref (G.2.2 245 0), .int (300 * v1), .int x8]) (rest := []) X hW (c_X12_goesOut l G X.2.2.2.2.2.2.2.2.2.1 _ S v1 245 0 (300 * v1) x8 _ h11) (cwV 4 X.2.2.2.2.1 (gV gw1019 gw1020 gw1021 gw5 gw1022) rfl rfl rfl ⟨rfl, hd_X12_goesOut⟩ ⟨Nat.le_of_ble_eq_true rfl, Nat.le_of_ble_eq_true rfl⟩) (x_recv X hW ob_Model z_1) rfl hl.1 rfl (Nat.le_of_ble_eq_true rfl) dX12_sendsAtHand_41 ⟨Nat.zero_le _, Nat.zero_le _⟩) (fun H locs hW => ?_)
  exact x_vret X hW h dX12_sendsAtHand_44
set_option maxRecDepth 100000 in
set_option maxHeartbeats 4000000 in
theorem w_X12_sendsAtHand_0 {p : Program} {l : Launch} {e : Env} {s : State} {m : MethodId} {args : Array Value} {below : List Frame} {meth : Method} {c : Code} {G : xG} {sz : Nat} {o : Unit × Mm} (X : xC G true sz p s m args c cX12_sendsAtHand 2 wsX12_sendsAtHand RX12 meth none) (v1 : Int32) {S : Mm} {H : Heap} {locs : List Loc} {ls : Array Slot} (hW : xW G true sz s H locs S) (hl : lv_has ls 2 [(0, .ref (G.2.2 200 0)), (1, .int v1)]) (h : F_X12_sendsAtHand v1 S = some o) : wX p l e rmX12_sendsAtHand s m args below meth c H locs (xQv G true sz o) (XA G true sz) 0 ls [] := by
  unfold F_X12_sendsAtHand at h
  refine lv_aload_n X.1 X.2.1 dX12_sendsAtHand_0 rfl (lv_at hl 0 rfl) ?_
  refine x_getR X hW fd_Model_isMade (fun w h => List.mem_cons_of_mem _ (gin_X12 w h)) (List.mem_cons_of_mem _ gw195) z_1 dX12_sendsAtHand_1 ?_
  refine lv_iload_n X.1 X.2.1 dX12_sendsAtHand_4 rfl (lv_at hl 1 rfl) ?_
  refine x_zald X hW ar_244 dX12_sendsAtHand_5 h (fun x1 h => ?_)
  refine x_if_ne X (tgt := 24) dX12_sendsAtHand_6 (by decide) h (fun h => ?_) (fun h => ?_)
  · exact w_X12_sendsAtHand_24 X v1   hW (lv_sub hl [0, 1] rfl) h
  · refine lv_aload_n X.1 X.2.1 dX12_sendsAtHand_9 rfl (lv_at hl 0 rfl) ?_
    refine lv_iload_n X.1 X.2.1 dX12_sendsAtHand_10 rfl (lv_at hl 1 rfl) ?_
    obtain ⟨r2, S3, h4, h⟩ := cl_some h
    refine x_aftI X hW (x_runV (C := RX12) (a := G.2.2 200 0) (As := [.int v1]) (rest := []) X hW (c_X12_make l G X.2.2.2.2.2.2.2.2.2.1 _ S v1 _ h4) (cwV 1 X.2.2.2.2.1 (gV gw1027 gw1028 gw1029 gw5 gw1030) rfl rfl rfl ⟨rfl, hd_X12_make⟩ ⟨Nat.le_of_ble_eq_true rfl, Nat.le_of_ble_eq_true rfl⟩) (x_recv X hW ob_Model z_1) rfl hl.1 rfl (Nat.le_of_ble_eq_true rfl) dX12_sendsAtHand_11 ⟨Nat.zero_le _, Nat.zero_le _⟩) (fun H locs hW => ?_)
    refine x_if_ne X (tgt := 24) dX12_sendsAtHand_14 (by decide) h (fun h => ?_) (fun h => ?_)
    · exact w_X12_sendsAtHand_24 X v1   hW (lv_sub hl [0, 1] rfl) h
    · refine lv_aload_n X.1 X.2.1 dX12_sendsAtHand_17 rfl (lv_at hl 0 rfl) ?_
      refine lv_iload_n X.1 X.2.1 dX12_sendsAtHand_18 rfl (lv_at hl 1 rfl) ?_
      refine lv_iconst (v := 5) X.1 X.2.1 dX12_sendsAtHand_19 rfl ?_
      obtain ⟨r5, S6, h7, h⟩ := cl_some h
      refine x_aftV X hW (x_runV (C := RX12) (a := G.2.2 200 0) (As := [.int v1, .int 5]) (rest := []) X hW (c_X12_leaves l G X.2.2.2.2.2.2.2.2.2.1 _ S3 v1 5 _ h7) (cwV 2 X.2.2.2.2.1 (gV gw1081 gw1082 gw1083 gw5 gw1084) rfl rfl rfl ⟨rfl, hd_X12_leaves⟩ ⟨Nat.le_of_ble_eq_true rfl, Nat.le_of_ble_eq_true rfl⟩) (x_recv X hW ob_Model z_1) rfl hl.1 rfl (Nat.le_of_ble_eq_true rfl) dX12_sendsAtHand_20 ⟨Nat.zero_le _, Nat.zero_le _⟩) (fun H locs hW => ?_)
      exact x_vret X hW h dX12_sendsAtHand_23
theorem c_X12_sendsAtHand (l : Launch) (G : xG) (hD : xD G true) (sz : Nat) (S : Mm) (v1 : Int32) (o : Unit × Mm) (h : F_X12_sendsAtHand v1 S = some o) : Met l yX12_sendsAtHand wsX12_sendsAtHand rmX12_sendsAtHand (xPre G true S sz [.ref (G.2.2 200 0), .int v1]) (xQv G true sz o) 0 0 (XA G true sz) :=
  x_start hD (by decide) rfl (Nat.le_of_ble_eq_true rfl) (fun p e s m below meth c X hW ls hl => w_X12_sendsAtHand_0 X v1 hW hl h)

/-! WirelessCellModel.begin()V -/
def rmX12_begin : Room := { frames := 7, cells := 0, slots := 0, locals := 176 }
def L_X12_begin_123 (k2 : Int32 → Mm → Option (Unit × Mm)) (v1 : Int32) (S : Mm) : Option (Unit × Mm) :=
  k2 (v1 + 1) S
def L_X12_begin_247 (k133 : Int32 → Int32 → Mm → Option (Unit × Mm)) (v1 : Int32) (v2 : Int32) (S : Mm) : Option (Unit × Mm) :=
  k133 v1 (v2 + 1) S
def L_X12_begin_62 (k2 : Int32 → Mm → Option (Unit × Mm)) (v1 : Int32) (S : Mm) : Option (Unit × Mm) :=
  L_X12_begin_123 k2 v1 S
def L_X12_begin_65 (k2 : Int32 → Mm → Option (Unit × Mm)) (v1 : Int32) (S : Mm) : Option (Unit × Mm) :=
  ldA S 254 0 9 1 v1 fun x12 =>
  if 0 ≤ x12 then (
  L_X12_begin_123 k2 v1 S)
  else (
  ldA S 257 0 9 1 v1 fun x13 =>
  if x13 = 0 then (
  ldA S 255 0 9 1 v1 fun x14 =>
  if x14 = 0 then (
  ldA S 234 0 9 1 v1 fun x15 =>
  if x15 ≤ 0 then (
  L_X12_begin_123 k2 v1 S)
  else (
  ldA S 248 0 9 1 v1 fun x16 =>
  if x16 = 0 then (
  gf S 299 0 fun x17 =>
  if x17 < 3 then (
  L_X12_begin_123 k2 v1 S)
  else (
  cl (F_X12_sendsAtHand v1 S) fun r18 S19 =>
  L_X12_begin_123 k2 v1 S19))
  else (
  L_X12_begin_123 k2 v1 S)))
  else (
  L_X12_begin_123 k2 v1 S))
  else (
  L_X12_begin_123 k2 v1 S))
def L_X12_begin_204 (k133 : Int32 → Int32 → Mm → Option (Unit × Mm)) (v1 : Int32) (v2 : Int32) : Nat → Int32 → Mm → Option (Unit × Mm)
  | 0, _, _ => none
  | n + 1, v3, S => 
    ldA S 275 0 20 1 v2 fun x33 =>
    if x33 ≤ v3 then (
    L_X12_begin_247 k133 (v1 + 1) v2 S)
    else (
    ldA S 276 0 6000 1 ((300 * v2) + v3) fun x34 =>
    stA S 276 0 6000 1 ((300 * v1) + v3) x34 fun S35 =>
    (L_X12_begin_204 k133 v1 v2 n) (v3 + 1) S35)
def L_X12_begin_133   : Nat → Int32 → Int32 → Mm → Option (Unit × Mm)
  | 0, _, _, _ => none
  | n + 1, v1, v2, S => 
    gf S 306 0 fun x21 =>
    if x21 ≤ v2 then (
    pf S 306 0 v1 fun S22 =>
    some ((), S22))
    else (
    ldA S 274 0 20 1 v2 fun x23 =>
    gf S 298 0 fun x24 =>
    if x23 = x24 then (
    ldA S 275 0 20 1 v2 fun x29 =>
    cl (F_X12_goesOut 9 276 0 (300 * v2) x29 S) fun r30 S31 =>
    L_X12_begin_247 (L_X12_begin_133  n) v1 v2 S31)
    else (
    ldA S 274 0 20 1 v2 fun x25 =>
    stA S 274 0 20 1 v1 x25 fun S26 =>
    ldA S26 275 0 20 1 v2 fun x27 =>
    stA S26 275 0 20 1 v1 x27 fun S28 =>
    L_X12_begin_204 (L_X12_begin_133  n) v1 v2 fu 0 S28))
def L_X12_begin_2   : Nat → Int32 → Mm → Option (Unit × Mm)
  | 0, _, _ => none
  | n + 1, v1, S => 
    if 9 ≤ v1 then (
    L_X12_begin_133   fu 0 0 S)
    else (
    ldA S 257 0 9 1 v1 fun x1 =>
    if x1 ≤ 0 then (
    L_X12_begin_65 (L_X12_begin_2  n) v1 S)
    else (
    ldA S 258 0 9 1 v1 fun x2 =>
    gf S 298 0 fun x3 =>
    if x2 = x3 then (
    ldA S 257 0 9 1 v1 fun x4 =>
    stA S 257 0 9 1 v1 0 fun S5 =>
    if x4 = 1 then (
    cl (F_X12_acknowledge v1 S5) fun r9 S10 =>
    L_X12_begin_62 (L_X12_begin_2  n) v1 S10)
    else (
    cl (F_X12_sendsAtHand v1 S5) fun r6 S7 =>
    L_X12_begin_62 (L_X12_begin_2  n) v1 S7))
    else (
    L_X12_begin_65 (L_X12_begin_2  n) v1 S)))
def F_X12_begin  (S : Mm) : Option (Unit × Mm) :=
  L_X12_begin_2   fu 0 S
set_option maxRecDepth 100000 in
set_option maxHeartbeats 4000000 in
theorem w_X12_begin_123 {p : Program} {l : Launch} {e : Env} {s : State} {m : MethodId} {args : Array Value} {below : List Frame} {meth : Method} {c : Code} {G : xG} {sz : Nat} {o : Unit × Mm} (X : xC G true sz p s m args c cX12_begin 4 wsX12_begin RX12 meth none) (v1 : Int32)  (k2 : Int32 → Mm → Option (Unit × Mm)) (hk2 : ∀ (v1 : Int32) (S : Mm) (H : Heap) (locs : List Loc) (ls : Array Slot), k2 v1 S = some o → xW G true sz s H locs S → lv_has ls 4 [(0, .ref (G.2.2 200 0)), (1, .int v1)] → wX p l e rmX12_begin s m args below meth c H locs (xQv G true sz o) (XA G true sz) 2 ls []) {S : Mm} {H : Heap} {locs : List Loc} {ls : Array Slot} (hW : xW G true sz s H locs S) (hl : lv_has ls 4 [(0, .ref (G.2.2 200 0)), (1, .int v1)]) (h : L_X12_begin_123 k2 v1 S = some o) : wX p l e rmX12_begin s m args below meth c H locs (xQv G true sz o) (XA G true sz) 123 ls [] := by
  unfold L_X12_begin_123 at h
  refine lv_iinc (v := (v1 + 1)) (lv' := [(1, .int (v1 + 1)), (0, .ref (G.2.2 200 0))]) X.1 X.2.1 dX12_begin_123 hl (k := 1) rfl rfl (by decide) rfl (fun ls hl => ?_)
  refine lv_goto (tgt := 2) X.1 X.2.1 dX12_begin_126 (by decide) ?_
  exact hk2 (v1 + 1) S _ _ _ h hW  (lv_sub hl [1, 0] rfl)
set_option maxRecDepth 100000 in
set_option maxHeartbeats 4000000 in
theorem w_X12_begin_247 {p : Program} {l : Launch} {e : Env} {s : State} {m : MethodId} {args : Array Value} {below : List Frame} {meth : Method} {c : Code} {G : xG} {sz : Nat} {o : Unit × Mm} (X : xC G true sz p s m args c cX12_begin 4 wsX12_begin RX12 meth none) (v1 : Int32) (v2 : Int32)  (k133 : Int32 → Int32 → Mm → Option (Unit × Mm)) (hk133 : ∀ (v1 : Int32) (v2 : Int32) (S : Mm) (H : Heap) (locs : List Loc) (ls : Array Slot), k133 v1 v2 S = some o → xW G true sz s H locs S → lv_has ls 4 [(0, .ref (G.2.2 200 0)), (1, .int v1), (2, .int v2)] → wX p l e rmX12_begin s m args below meth c H locs (xQv G true sz o) (XA G true sz) 133 ls []) {S : Mm} {H : Heap} {locs : List Loc} {ls : Array Slot} (hW : xW G true sz s H locs S) (hl : lv_has ls 4 [(0, .ref (G.2.2 200 0)), (1, .int v1), (2, .int v2)]) (h : L_X12_begin_247 k133 v1 v2 S = some o) : wX p l e rmX12_begin s m args below meth c H locs (xQv G true sz o) (XA G true sz) 247 ls [] := by
  unfold L_X12_begin_247 at h
  refine lv_iinc (v := (v2 + 1)) (lv' := [(2, .int (v2 + 1)), (0, .ref (G.2.2 200 0)), (1, .int v1)]) X.1 X.2.1 dX12_begin_247 hl (k := 2) rfl rfl (by decide) rfl (fun ls hl => ?_)
  refine lv_goto (tgt := 133) X.1 X.2.1 dX12_begin_250 (by decide) ?_
  exact hk133 v1 (v2 + 1) S _ _ _ h hW  (lv_sub hl [1, 2, 0] rfl)
set_option maxRecDepth 100000 in
set_option maxHeartbeats 4000000 in
theorem w_X12_begin_62 {p : Program} {l : Launch} {e : Env} {s : State} {m : MethodId} {args : Array Value} {below : List Frame} {meth : Method} {c : Code} {G : xG} {sz : Nat} {o : Unit × Mm} (X : xC G true sz p s m args c cX12_begin 4 wsX12_begin RX12 meth none) (v1 : Int32)  (k2 : Int32 → Mm → Option (Unit × Mm)) (hk2 : ∀ (v1 : Int32) (S : Mm) (H : Heap) (locs : List Loc) (ls : Array Slot), k2 v1 S = some o → xW G true sz s H locs S → lv_has ls 4 [(0, .ref (G.2.2 200 0)), (1, .int v1)] → wX p l e rmX12_begin s m args below meth c H locs (xQv G true sz o) (XA G true sz) 2 ls []) {S : Mm} {H : Heap} {locs : List Loc} {ls : Array Slot} (hW : xW G true sz s H locs S) (hl : lv_has ls 4 [(0, .ref (G.2.2 200 0)), (1, .int v1)]) (h : L_X12_begin_62 k2 v1 S = some o) : wX p l e rmX12_begin s m args below meth c H locs (xQv G true sz o) (XA G true sz) 62 ls [] := by
  unfold L_X12_begin_62 at h
  refine lv_goto (tgt := 123) X.1 X.2.1 dX12_begin_62 (by decide) ?_
  exact w_X12_begin_123 X v1  k2 hk2 hW (lv_sub hl [0, 1] rfl) h
set_option maxRecDepth 100000 in
set_option maxHeartbeats 4000000 in
theorem w_X12_begin_65 {p : Program} {l : Launch} {e : Env} {s : State} {m : MethodId} {args : Array Value} {below : List Frame} {meth : Method} {c : Code} {G : xG} {sz : Nat} {o : Unit × Mm} (X : xC G true sz p s m args c cX12_begin 4 wsX12_begin RX12 meth none) (v1 : Int32)  (k2 : Int32 → Mm → Option (Unit × Mm)) (hk2 : ∀ (v1 : Int32) (S : Mm) (H : Heap) (locs : List Loc) (ls : Array Slot), k2 v1 S = some o → xW G true sz s H locs S → lv_has ls 4 [(0, .ref (G.2.2 200 0)), (1, .int v1)] → wX p l e rmX12_begin s m args below meth c H locs (xQv G true sz o) (XA G true sz) 2 ls []) {S : Mm} {H : Heap} {locs : List Loc} {ls : Array Slot} (hW : xW G true sz s H locs S) (hl : lv_has ls 4 [(0, .ref (G.2.2 200 0)), (1, .int v1)]) (h : L_X12_begin_65 k2 v1 S = some o) : wX p l e rmX12_begin s m args below meth c H locs (xQv G true sz o) (XA G true sz) 65 ls [] := by
  unfold L_X12_begin_65 at h
  refine lv_aload_n X.1 X.2.1 dX12_begin_65 rfl (lv_at hl 0 rfl) ?_
  refine x_getR X hW fd_Model_sending (fun w h => List.mem_cons_of_mem _ (gin_X12 w h)) (List.mem_cons_of_mem _ gw208) z_1 dX12_begin_66 ?_
  refine lv_iload_n X.1 X.2.1 dX12_begin_69 rfl (lv_at hl 1 rfl) ?_
  refine x_iald X hW ar_254 dX12_begin_70 h (fun x12 h => ?_)
  refine x_if_ge X (tgt := 123) dX12_begin_71 (by decide) h (fun h => ?_) (fun h => ?_)
  · exact w_X12_begin_123 X v1  k2 hk2 hW (lv_sub hl [0, 1] rfl) h
  · refine lv_aload_n X.1 X.2.1 dX12_begin_74 rfl (lv_at hl 0 rfl) ?_
    refine x_getR X hW fd_Model_due (fun w h => List.mem_cons_of_mem _ (gin_X12 w h)) (List.mem_cons_of_mem _ gw211) z_1 dX12_begin_75 ?_
    refine lv_iload_n X.1 X.2.1 dX12_begin_78 rfl (lv_at hl 1 rfl) ?_
    refine x_iald X hW ar_257 dX12_begin_79 h (fun x13 h => ?_)
    refine x_if_ne X (tgt := 123) dX12_begin_80 (by decide) h (fun h => ?_) (fun h => ?_)
    · exact w_X12_begin_123 X v1  k2 hk2 hW (lv_sub hl [0, 1] rfl) h
    · refine lv_aload_n X.1 X.2.1 dX12_begin_83 rfl (lv_at hl 0 rfl) ?_
      refine x_getR X hW fd_Model_waits (fun w h => List.mem_cons_of_mem _ (gin_X12 w h)) (List.mem_cons_of_mem _ gw209) z_1 dX12_begin_84 ?_
      refine lv_iload_n X.1 X.2.1 dX12_begin_87 rfl (lv_at hl 1 rfl) ?_
      refine x_zald X hW ar_255 dX12_begin_88 h (fun x14 h => ?_)
      refine x_if_ne X (tgt := 123) dX12_begin_89 (by decide) h (fun h => ?_) (fun h => ?_)
      · exact w_X12_begin_123 X v1  k2 hk2 hW (lv_sub hl [0, 1] rfl) h
      · refine lv_aload_n X.1 X.2.1 dX12_begin_92 rfl (lv_at hl 0 rfl) ?_
        refine x_getR X hW fd_Model_qMany (fun w h => List.mem_cons_of_mem _ (gin_X12 w h)) (List.mem_cons_of_mem _ gw185) z_1 dX12_begin_93 ?_
        refine lv_iload_n X.1 X.2.1 dX12_begin_96 rfl (lv_at hl 1 rfl) ?_
        refine x_iald X hW ar_234 dX12_begin_97 h (fun x15 h => ?_)
        refine x_if_le X (tgt := 123) dX12_begin_98 (by decide) h (fun h => ?_) (fun h => ?_)
        · exact w_X12_begin_123 X v1  k2 hk2 hW (lv_sub hl [0, 1] rfl) h
        · refine lv_aload_n X.1 X.2.1 dX12_begin_101 rfl (lv_at hl 0 rfl) ?_
          refine x_getR X hW fd_Model_backoff (fun w h => List.mem_cons_of_mem _ (gin_X12 w h)) (List.mem_cons_of_mem _ gw199) z_1 dX12_begin_102 ?_
          refine lv_iload_n X.1 X.2.1 dX12_begin_105 rfl (lv_at hl 1 rfl) ?_
          refine x_iald X hW ar_248 dX12_begin_106 h (fun x16 h => ?_)
          refine x_if_ne X (tgt := 123) dX12_begin_107 (by decide) h (fun h => ?_) (fun h => ?_)
          · exact w_X12_begin_123 X v1  k2 hk2 hW (lv_sub hl [0, 1] rfl) h
          · refine lv_aload_n X.1 X.2.1 dX12_begin_110 rfl (lv_at hl 0 rfl) ?_
            refine x_getI X hW fd_Model_quiet (fun w h => List.mem_cons_of_mem _ (gin_X12 w h)) (List.mem_cons_of_mem _ gw207) z_1 dX12_begin_111 h (fun x17 h => ?_)
            refine lv_iconst (v := 3) X.1 X.2.1 dX12_begin_114 rfl ?_
            refine x_icmp_lt X (tgt := 123) dX12_begin_115 (by decide) h (fun h => ?_) (fun h => ?_)
            · exact w_X12_begin_123 X v1  k2 hk2 hW (lv_sub hl [0, 1] rfl) h
            · refine lv_aload_n X.1 X.2.1 dX12_begin_118 rfl (lv_at hl 0 rfl) ?_
              refine lv_iload_n X.1 X.2.1 dX12_begin_119 rfl (lv_at hl 1 rfl) ?_
              obtain ⟨r18, S19, h20, h⟩ := cl_some h
              refine x_aftV X hW (x_runV (C := RX12) (a := G.2.2 200 0) (As := [.int v1]) (rest := []) X hW (c_X12_sendsAtHand l G X.2.2.2.2.2.2.2.2.2.1 _ S v1 _ h20) (cwV 1 X.2.2.2.2.1 (gV gw1023 gw1024 gw1025 gw5 gw1026) rfl rfl rfl ⟨rfl, hd_X12_sendsAtHand⟩ ⟨Nat.le_of_ble_eq_true rfl, Nat.le_of_ble_eq_true rfl⟩) (x_recv X hW ob_Model z_1) rfl hl.1 rfl (Nat.le_of_ble_eq_true rfl) dX12_begin_120 ⟨Nat.zero_le _, Nat.zero_le _⟩) (fun H locs hW => ?_)
              exact w_X12_begin_123 X v1  k2 hk2 hW (lv_sub hl [0, 1] rfl) h
set_option maxRecDepth 100000 in
set_option maxHeartbeats 4000000 in
theorem w_X12_begin_204 {p : Program} {l : Launch} {e : Env} {s : State} {m : MethodId} {args : Array Value} {below : List Frame} {meth : Method} {c : Code} {G : xG} {sz : Nat} {o : Unit × Mm} (X : xC G true sz p s m args c cX12_begin 4 wsX12_begin RX12 meth none) (v1 : Int32) (v2 : Int32)  (k133 : Int32 → Int32 → Mm → Option (Unit × Mm)) (hk133 : ∀ (v1 : Int32) (v2 : Int32) (S : Mm) (H : Heap) (locs : List Loc) (ls : Array Slot), k133 v1 v2 S = some o → xW G true sz s H locs S → lv_has ls 4 [(0, .ref (G.2.2 200 0)), (1, .int v1), (2, .int v2)] → wX p l e rmX12_begin s m args below meth c H locs (xQv G true sz o) (XA G true sz) 133 ls []) : ∀ (n : Nat) (v3 : Int32) (S : Mm) (H : Heap) (locs : List Loc) (ls : Array Slot), L_X12_begin_204 k133 v1 v2 n v3 S = some o → xW G true sz s H locs S → lv_has ls 4 [(0, .ref (G.2.2 200 0)), (1, .int v1), (2, .int v2), (3, .int v3)] → wX p l e rmX12_begin s m args below meth c H locs (xQv G true sz o) (XA G true sz) 204 ls [] := by
  intro n
  induction n with
  | zero =>
    intro v3 S H locs ls h
    cases h
  | succ n ih =>
    intro v3 S H locs ls h hW  hl
    rw [L_X12_begin_204] at h
    refine lv_iload_n X.1 X.2.1 dX12_begin_204 rfl (lv_at hl 3 rfl) ?_
    refine lv_aload_n X.1 X.2.1 dX12_begin_205 rfl (lv_at hl 0 rfl) ?_
    refine x_getR X hW fd_Model_pLen (fun w h => List.mem_cons_of_mem _ (gin_X12 w h)) (List.mem_cons_of_mem _ gw230) z_1 dX12_begin_206 ?_
    refine lv_iload_n X.1 X.2.1 dX12_begin_209 rfl (lv_at hl 2 rfl) ?_
    refine x_iald X hW ar_275 dX12_begin_210 h (fun x33 h => ?_)
    refine x_icmp_ge X (tgt := 244) dX12_begin_211 (by decide) h (fun h => ?_) (fun h => ?_)
    · refine lv_iinc (v := (v1 + 1)) (lv' := [(1, .int (v1 + 1)), (0, .ref (G.2.2 200 0)), (2, .int v2), (3, .int v3)]) X.1 X.2.1 dX12_begin_244 hl (k := 1) rfl rfl (by decide) rfl (fun ls hl => ?_)
      exact w_X12_begin_247 X (v1 + 1) v2  k133 hk133 hW (lv_sub hl [1, 0, 2] rfl) h
    · refine lv_aload_n X.1 X.2.1 dX12_begin_214 rfl (lv_at hl 0 rfl) ?_
      refine x_getR X hW fd_Model_pBytes (fun w h => List.mem_cons_of_mem _ (gin_X12 w h)) (List.mem_cons_of_mem _ gw231) z_1 dX12_begin_215 ?_
      refine lv_sipush (v := 300) X.1 X.2.1 dX12_begin_218 rfl ?_
      refine lv_iload_n X.1 X.2.1 dX12_begin_221 rfl (lv_at hl 1 rfl) ?_
      refine lv_imul X.1 X.2.1 dX12_begin_222 ?_
      refine lv_iload_n X.1 X.2.1 dX12_begin_223 rfl (lv_at hl 3 rfl) ?_
      refine lv_iadd X.1 X.2.1 dX12_begin_224 ?_
      refine lv_aload_n X.1 X.2.1 dX12_begin_225 rfl (lv_at hl 0 rfl) ?_
      refine x_getR X hW fd_Model_pBytes (fun w h => List.mem_cons_of_mem _ (gin_X12 w h)) (List.mem_cons_of_mem _ gw231) z_1 dX12_begin_226 ?_
      refine lv_sipush (v := 300) X.1 X.2.1 dX12_begin_229 rfl ?_
      refine lv_iload_n X.1 X.2.1 dX12_begin_232 rfl (lv_at hl 2 rfl) ?_
      refine lv_imul X.1 X.2.1 dX12_begin_233 ?_
      refine lv_iload_n X.1 X.2.1 dX12_begin_234 rfl (lv_at hl 3 rfl) ?_
      refine lv_iadd X.1 X.2.1 dX12_begin_235 ?_
      refine x_iald X hW ar_276 dX12_begin_236 h (fun x34 h => ?_)
      refine x_iast X hW ar_276 dX12_begin_237 h (fun S35 H locs h hW => ?_)
      refine lv_iinc (v := (v3 + 1)) (lv' := [(3, .int (v3 + 1)), (0, .ref (G.2.2 200 0)), (1, .int v1), (2, .int v2)]) X.1 X.2.1 dX12_begin_238 hl (k := 3) rfl rfl (by decide) rfl (fun ls hl => ?_)
      refine lv_goto (tgt := 204) X.1 X.2.1 dX12_begin_241 (by decide) ?_
      exact ih (v3 + 1) S35 _ _ _ h hW  (lv_sub hl [1, 2, 3, 0] rfl)
set_option maxRecDepth 100000 in
set_option maxHeartbeats 4000000 in
theorem w_X12_begin_133 {p : Program} {l : Launch} {e : Env} {s : State} {m : MethodId} {args : Array Value} {below : List Frame} {meth : Method} {c : Code} {G : xG} {sz : Nat} {o : Unit × Mm} (X : xC G true sz p s m args c cX12_begin 4 wsX12_begin RX12 meth none)    : ∀ (n : Nat) (v1 : Int32) (v2 : Int32) (S : Mm) (H : Heap) (locs : List Loc) (ls : Array Slot), L_X12_begin_133  n v1 v2 S = some o → xW G true sz s H locs S → lv_has ls 4 [(0, .ref (G.2.2 200 0)), (1, .int v1), (2, .int v2)] → wX p l e rmX12_begin s m args below meth c H locs (xQv G true sz o) (XA G true sz) 133 ls [] := by
  intro n
  induction n with
  | zero =>
    intro v1 v2 S H locs ls h
    cases h
  | succ n ih =>
    intro v1 v2 S H locs ls h hW  hl
    rw [L_X12_begin_133] at h
    refine lv_iload_n X.1 X.2.1 dX12_begin_133 rfl (lv_at hl 2 rfl) ?_
    refine lv_aload_n X.1 X.2.1 dX12_begin_134 rfl (lv_at hl 0 rfl) ?_
    refine x_getI X hW fd_Model_putMany (fun w h => List.mem_cons_of_mem _ (gin_X12 w h)) (List.mem_cons_of_mem _ gw468) z_1 dX12_begin_135 h (fun x21 h => ?_)
    refine x_icmp_ge X (tgt := 253) dX12_begin_138 (by decide) h (fun h => ?_) (fun h => ?_)
    · refine lv_aload_n X.1 X.2.1 dX12_begin_253 rfl (lv_at hl 0 rfl) ?_
      refine lv_iload_n X.1 X.2.1 dX12_begin_254 rfl (lv_at hl 1 rfl) ?_
      refine x_putI X hW fd_Model_putMany (fun w h => List.mem_cons_of_mem _ (gin_X12 w h)) (List.mem_cons_of_mem _ gw468) z_1 dX12_begin_255 tyX12 tyX12_ok nmX12 rfl rfl rfl h (fun S22 H locs h hW => ?_)
      exact x_vret X hW h dX12_begin_258
    · refine lv_aload_n X.1 X.2.1 dX12_begin_141 rfl (lv_at hl 0 rfl) ?_
      refine x_getR X hW fd_Model_pSlot (fun w h => List.mem_cons_of_mem _ (gin_X12 w h)) (List.mem_cons_of_mem _ gw229) z_1 dX12_begin_142 ?_
      refine lv_iload_n X.1 X.2.1 dX12_begin_145 rfl (lv_at hl 2 rfl) ?_
      refine x_iald X hW ar_274 dX12_begin_146 h (fun x23 h => ?_)
      refine lv_aload_n X.1 X.2.1 dX12_begin_147 rfl (lv_at hl 0 rfl) ?_
      refine x_getI X hW fd_Model_slot (fun w h => List.mem_cons_of_mem _ (gin_X12 w h)) (List.mem_cons_of_mem _ gw451) z_1 dX12_begin_148 h (fun x24 h => ?_)
      refine x_icmp_ne X (tgt := 178) dX12_begin_151 (by decide) h (fun h => ?_) (fun h => ?_)
      · refine lv_aload_n X.1 X.2.1 dX12_begin_178 rfl (lv_at hl 0 rfl) ?_
        refine x_getR X hW fd_Model_pSlot (fun w h => List.mem_cons_of_mem _ (gin_X12 w h)) (List.mem_cons_of_mem _ gw229) z_1 dX12_begin_179 ?_
        refine lv_iload_n X.1 X.2.1 dX12_begin_182 rfl (lv_at hl 1 rfl) ?_
        refine lv_aload_n X.1 X.2.1 dX12_begin_183 rfl (lv_at hl 0 rfl) ?_
        refine x_getR X hW fd_Model_pSlot (fun w h => List.mem_cons_of_mem _ (gin_X12 w h)) (List.mem_cons_of_mem _ gw229) z_1 dX12_begin_184 ?_
        refine lv_iload_n X.1 X.2.1 dX12_begin_187 rfl (lv_at hl 2 rfl) ?_
        refine x_iald X hW ar_274 dX12_begin_188 h (fun x25 h => ?_)
        refine x_iast X hW ar_274 dX12_begin_189 h (fun S26 H locs h hW => ?_)
        refine lv_aload_n X.1 X.2.1 dX12_begin_190 rfl (lv_at hl 0 rfl) ?_
        refine x_getR X hW fd_Model_pLen (fun w h => List.mem_cons_of_mem _ (gin_X12 w h)) (List.mem_cons_of_mem _ gw230) z_1 dX12_begin_191 ?_
        refine lv_iload_n X.1 X.2.1 dX12_begin_194 rfl (lv_at hl 1 rfl) ?_
        refine lv_aload_n X.1 X.2.1 dX12_begin_195 rfl (lv_at hl 0 rfl) ?_
        refine x_getR X hW fd_Model_pLen (fun w h => List.mem_cons_of_mem _ (gin_X12 w h)) (List.mem_cons_of_mem _ gw230) z_1 dX12_begin_196 ?_
        refine lv_iload_n X.1 X.2.1 dX12_begin_199 rfl (lv_at hl 2 rfl) ?_
        refine x_iald X hW ar_275 dX12_begin_200 h (fun x27 h => ?_)
        refine x_iast X hW ar_275 dX12_begin_201 h (fun S28 H locs h hW => ?_)
        refine lv_iconst (v := 0) X.1 X.2.1 dX12_begin_202 rfl ?_
        refine lv_istore_n (lv' := [(3, .int 0), (0, .ref (G.2.2 200 0)), (1, .int v1), (2, .int v2)]) X.1 X.2.1 dX12_begin_203 rfl hl (by decide) rfl (fun ls hl => ?_)
        exact w_X12_begin_204 X v1 v2  (L_X12_begin_133  n) ih fu 0 S28 _ _ _ h hW  (lv_sub hl [1, 2, 3, 0] rfl)
      · refine lv_aload_n X.1 X.2.1 dX12_begin_154 rfl (lv_at hl 0 rfl) ?_
        refine lv_bipush (v := 9) X.1 X.2.1 dX12_begin_155 rfl ?_
        refine lv_aload_n X.1 X.2.1 dX12_begin_157 rfl (lv_at hl 0 rfl) ?_
        refine x_getR X hW fd_Model_pBytes (fun w h => List.mem_cons_of_mem _ (gin_X12 w h)) (List.mem_cons_of_mem _ gw231) z_1 dX12_begin_158 ?_
        refine lv_sipush (v := 300) X.1 X.2.1 dX12_begin_161 rfl ?_
        refine lv_iload_n X.1 X.2.1 dX12_begin_164 rfl (lv_at hl 2 rfl) ?_
        refine lv_imul X.1 X.2.1 dX12_begin_165 ?_
        refine lv_aload_n X.1 X.2.1 dX12_begin_166 rfl (lv_at hl 0 rfl) ?_
        refine x_getR X hW fd_Model_pLen (fun w h => List.mem_cons_of_mem _ (gin_X12 w h)) (List.mem_cons_of_mem _ gw230) z_1 dX12_begin_167 ?_
        refine lv_iload_n X.1 X.2.1 dX12_begin_170 rfl (lv_at hl 2 rfl) ?_
        refine x_iald X hW ar_275 dX12_begin_171 h (fun x29 h => ?_)
        obtain ⟨r30, S31, h32, h⟩ := cl_some h
        refine x_aftV X hW (x_runV (C := RX12) (a := G.2.2 200 0) (As := [.int 9, .ref (G.2.2 276 0), .int (300 * v2), .int x29]) (rest := []) X hW (c_X12_goesOut l G X.2.2.2.2.2.2.2.2.2.1 _ S 9 276 0 (300 * v2) x29 _ h32) (cwV 4 X.2.2.2.2.1 (gV gw1019 gw1020 gw1021 gw5 gw1022) rfl rfl rfl ⟨rfl, hd_X12_goesOut⟩ ⟨Nat.le_of_ble_eq_true rfl, Nat.le_of_ble_eq_true rfl⟩) (x_recv X hW ob_Model z_1) rfl hl.1 rfl (Nat.le_of_ble_eq_true rfl) dX12_begin_172 ⟨Nat.zero_le _, Nat.zero_le _⟩) (fun H locs hW => ?_)
        refine lv_goto (tgt := 247) X.1 X.2.1 dX12_begin_175 (by decide) ?_
        exact w_X12_begin_247 X v1 v2  (L_X12_begin_133  n) ih hW (lv_sub hl [0, 1, 2] rfl) h
set_option maxRecDepth 100000 in
set_option maxHeartbeats 4000000 in
theorem w_X12_begin_2 {p : Program} {l : Launch} {e : Env} {s : State} {m : MethodId} {args : Array Value} {below : List Frame} {meth : Method} {c : Code} {G : xG} {sz : Nat} {o : Unit × Mm} (X : xC G true sz p s m args c cX12_begin 4 wsX12_begin RX12 meth none)    : ∀ (n : Nat) (v1 : Int32) (S : Mm) (H : Heap) (locs : List Loc) (ls : Array Slot), L_X12_begin_2  n v1 S = some o → xW G true sz s H locs S → lv_has ls 4 [(0, .ref (G.2.2 200 0)), (1, .int v1)] → wX p l e rmX12_begin s m args below meth c H locs (xQv G true sz o) (XA G true sz) 2 ls [] := by
  intro n
  induction n with
  | zero =>
    intro v1 S H locs ls h
    cases h
  | succ n ih =>
    intro v1 S H locs ls h hW  hl
    rw [L_X12_begin_2] at h
    refine lv_iload_n X.1 X.2.1 dX12_begin_2 rfl (lv_at hl 1 rfl) ?_
    refine lv_bipush (v := 9) X.1 X.2.1 dX12_begin_3 rfl ?_
    refine x_icmp_ge X (tgt := 129) dX12_begin_5 (by decide) h (fun h => ?_) (fun h => ?_)
    · refine lv_iconst (v := 0) X.1 X.2.1 dX12_begin_129 rfl ?_
      refine lv_istore_n (lv' := [(1, .int 0), (0, .ref (G.2.2 200 0))]) X.1 X.2.1 dX12_begin_130 rfl hl (by decide) rfl (fun ls hl => ?_)
      refine lv_iconst (v := 0) X.1 X.2.1 dX12_begin_131 rfl ?_
      refine lv_istore_n (lv' := [(2, .int 0), (1, .int 0), (0, .ref (G.2.2 200 0))]) X.1 X.2.1 dX12_begin_132 rfl hl (by decide) rfl (fun ls hl => ?_)
      exact w_X12_begin_133 X    fu 0 0 S _ _ _ h hW  (lv_sub hl [2, 1, 0] rfl)
    · refine lv_aload_n X.1 X.2.1 dX12_begin_8 rfl (lv_at hl 0 rfl) ?_
      refine x_getR X hW fd_Model_due (fun w h => List.mem_cons_of_mem _ (gin_X12 w h)) (List.mem_cons_of_mem _ gw211) z_1 dX12_begin_9 ?_
      refine lv_iload_n X.1 X.2.1 dX12_begin_12 rfl (lv_at hl 1 rfl) ?_
      refine x_iald X hW ar_257 dX12_begin_13 h (fun x1 h => ?_)
      refine x_if_le X (tgt := 65) dX12_begin_14 (by decide) h (fun h => ?_) (fun h => ?_)
      · exact w_X12_begin_65 X v1  (L_X12_begin_2  n) ih hW (lv_sub hl [0, 1] rfl) h
      · refine lv_aload_n X.1 X.2.1 dX12_begin_17 rfl (lv_at hl 0 rfl) ?_
        refine x_getR X hW fd_Model_dueAt (fun w h => List.mem_cons_of_mem _ (gin_X12 w h)) (List.mem_cons_of_mem _ gw212) z_1 dX12_begin_18 ?_
        refine lv_iload_n X.1 X.2.1 dX12_begin_21 rfl (lv_at hl 1 rfl) ?_
        refine x_iald X hW ar_258 dX12_begin_22 h (fun x2 h => ?_)
        refine lv_aload_n X.1 X.2.1 dX12_begin_23 rfl (lv_at hl 0 rfl) ?_
        refine x_getI X hW fd_Model_slot (fun w h => List.mem_cons_of_mem _ (gin_X12 w h)) (List.mem_cons_of_mem _ gw451) z_1 dX12_begin_24 h (fun x3 h => ?_)
        refine x_icmp_ne X (tgt := 65) dX12_begin_27 (by decide) h (fun h => ?_) (fun h => ?_)
        · exact w_X12_begin_65 X v1  (L_X12_begin_2  n) ih hW (lv_sub hl [0, 1] rfl) h
        · refine lv_aload_n X.1 X.2.1 dX12_begin_30 rfl (lv_at hl 0 rfl) ?_
          refine x_getR X hW fd_Model_due (fun w h => List.mem_cons_of_mem _ (gin_X12 w h)) (List.mem_cons_of_mem _ gw211) z_1 dX12_begin_31 ?_
          refine lv_iload_n X.1 X.2.1 dX12_begin_34 rfl (lv_at hl 1 rfl) ?_
          refine x_iald X hW ar_257 dX12_begin_35 h (fun x4 h => ?_)
          refine lv_istore_n (lv' := [(2, .int x4), (0, .ref (G.2.2 200 0)), (1, .int v1)]) X.1 X.2.1 dX12_begin_36 rfl hl (by decide) rfl (fun ls hl => ?_)
          refine lv_aload_n X.1 X.2.1 dX12_begin_37 rfl (lv_at hl 1 rfl) ?_
          refine x_getR X hW fd_Model_due (fun w h => List.mem_cons_of_mem _ (gin_X12 w h)) (List.mem_cons_of_mem _ gw211) z_1 dX12_begin_38 ?_
          refine lv_iload_n X.1 X.2.1 dX12_begin_41 rfl (lv_at hl 2 rfl) ?_
          refine lv_iconst (v := 0) X.1 X.2.1 dX12_begin_42 rfl ?_
          refine x_iast X hW ar_257 dX12_begin_43 h (fun S5 H locs h hW => ?_)
          refine lv_iload_n X.1 X.2.1 dX12_begin_44 rfl (lv_at hl 0 rfl) ?_
          refine lv_iconst (v := 1) X.1 X.2.1 dX12_begin_45 rfl ?_
          refine x_icmp_ne X (tgt := 57) dX12_begin_46 (by decide) h (fun h => ?_) (fun h => ?_)
          · refine lv_aload_n X.1 X.2.1 dX12_begin_57 rfl (lv_at hl 1 rfl) ?_
            refine lv_iload_n X.1 X.2.1 dX12_begin_58 rfl (lv_at hl 2 rfl) ?_
            obtain ⟨r6, S7, h8, h⟩ := cl_some h
            refine x_aftV X hW (x_runV (C := RX12) (a := G.2.2 200 0) (As := [.int v1]) (rest := []) X hW (c_X12_sendsAtHand l G X.2.2.2.2.2.2.2.2.2.1 _ S5 v1 _ h8) (cwV 1 X.2.2.2.2.1 (gV gw1023 gw1024 gw1025 gw5 gw1026) rfl rfl rfl ⟨rfl, hd_X12_sendsAtHand⟩ ⟨Nat.le_of_ble_eq_true rfl, Nat.le_of_ble_eq_true rfl⟩) (x_recv X hW ob_Model z_1) rfl hl.1 rfl (Nat.le_of_ble_eq_true rfl) dX12_begin_59 ⟨Nat.zero_le _, Nat.zero_le _⟩) (fun H locs hW => ?_)
            exact w_X12_begin_62 X v1  (L_X12_begin_2  n) ih hW (lv_sub hl [1, 2] rfl) h
          · refine lv_aload_n X.1 X.2.1 dX12_begin_49 rfl (lv_at hl 1 rfl) ?_
            refine lv_iload_n X.1 X.2.1 dX12_begin_50 rfl (lv_at hl 2 rfl) ?_
            obtain ⟨r9, S10, h11, h⟩ := cl_some h
            refine x_aftV X hW (x_runV (C := RX12) (a := G.2.2 200 0) (As := [.int v1]) (rest := []) X hW (c_X12_acknowledge l G X.2.2.2.2.2.2.2.2.2.1 _ S5 v1 _ h11) (cwV 1 X.2.2.2.2.1 (gV gw1011 gw1012 gw1013 gw5 gw1014) rfl rfl rfl ⟨rfl, hd_X12_acknowledge⟩ ⟨Nat.le_of_ble_eq_true rfl, Nat.le_of_ble_eq_true rfl⟩) (x_recv X hW ob_Model z_1) rfl hl.1 rfl (Nat.le_of_ble_eq_true rfl) dX12_begin_51 ⟨Nat.zero_le _, Nat.zero_le _⟩) (fun H locs hW => ?_)
            refine lv_goto (tgt := 62) X.1 X.2.1 dX12_begin_54 (by decide) ?_
            exact w_X12_begin_62 X v1  (L_X12_begin_2  n) ih hW (lv_sub hl [1, 2] rfl) h
set_option maxRecDepth 100000 in
set_option maxHeartbeats 4000000 in
theorem w_X12_begin_0 {p : Program} {l : Launch} {e : Env} {s : State} {m : MethodId} {args : Array Value} {below : List Frame} {meth : Method} {c : Code} {G : xG} {sz : Nat} {o : Unit × Mm} (X : xC G true sz p s m args c cX12_begin 4 wsX12_begin RX12 meth none)  {S : Mm} {H : Heap} {locs : List Loc} {ls : Array Slot} (hW : xW G true sz s H locs S) (hl : lv_has ls 4 [(0, .ref (G.2.2 200 0))]) (h : F_X12_begin  S = some o) : wX p l e rmX12_begin s m args below meth c H locs (xQv G true sz o) (XA G true sz) 0 ls [] := by
  unfold F_X12_begin at h
  refine lv_iconst (v := 0) X.1 X.2.1 dX12_begin_0 rfl ?_
  refine lv_istore_n (lv' := [(1, .int 0), (0, .ref (G.2.2 200 0))]) X.1 X.2.1 dX12_begin_1 rfl hl (by decide) rfl (fun ls hl => ?_)
  exact w_X12_begin_2 X    fu 0 S _ _ _ h hW  (lv_sub hl [1, 0] rfl)
theorem c_X12_begin (l : Launch) (G : xG) (hD : xD G true) (sz : Nat) (S : Mm)  (o : Unit × Mm) (h : F_X12_begin  S = some o) : Met l yX12_begin wsX12_begin rmX12_begin (xPre G true S sz [.ref (G.2.2 200 0)]) (xQv G true sz o) 0 0 (XA G true sz) :=
  x_start hD (by decide) rfl (Nat.le_of_ble_eq_true rfl) (fun p e s m below meth c X hW ls hl => w_X12_begin_0 X  hW hl h)

/-! WirelessCellModel.isNoisy()Z -/
def rmX12_isNoisy : Room := { frames := 1, cells := 0, slots := 0, locals := 25 }
def L_X12_isNoisy_46 (k4 : Int32 → Int32 → Mm → Option (Int32 × Mm)) (v2 : Int32) (s0 : Int32) (S : Mm) : Option (Int32 × Mm) :=
  k4 s0 (v2 + 1) S
def L_X12_isNoisy_41 (k4 : Int32 → Int32 → Mm → Option (Int32 × Mm)) (v2 : Int32) (S : Mm) : Option (Int32 × Mm) :=
  L_X12_isNoisy_46 k4 v2 1 S
def L_X12_isNoisy_4   : Nat → Int32 → Int32 → Mm → Option (Int32 × Mm)
  | 0, _, _, _ => none
  | n + 1, v1, v2, S => 
    gf S 305 0 fun x1 =>
    if x1 ≤ v2 then (
    gd (v1 &&& 1 = v1) (some (v1, S)))
    else (
    if v1 = 0 then (
    gf S 298 0 fun x3 =>
    ldA S 272 0 30 1 v2 fun x4 =>
    ldA S 273 0 30 1 v2 fun x5 =>
    cl (F_X12_in (Int32.toInt64 x3) (Int32.toInt64 x4) (Int32.toInt64 x5) S) fun r6 S7 =>
    if r6 = 0 then (
    L_X12_isNoisy_46 (L_X12_isNoisy_4  n) v2 0 S7)
    else (
    L_X12_isNoisy_41 (L_X12_isNoisy_4  n) v2 S7))
    else (
    L_X12_isNoisy_41 (L_X12_isNoisy_4  n) v2 S))
def F_X12_isNoisy  (S : Mm) : Option (Int32 × Mm) :=
  L_X12_isNoisy_4   fu 0 0 S
set_option maxRecDepth 100000 in
set_option maxHeartbeats 4000000 in
theorem w_X12_isNoisy_46 {p : Program} {l : Launch} {e : Env} {s : State} {m : MethodId} {args : Array Value} {below : List Frame} {meth : Method} {c : Code} {G : xG} {sz : Nat} {o : Int32 × Mm} (X : xC G true sz p s m args c cX12_isNoisy 3 wsX12_isNoisy RX12 meth (some .boolean)) (v2 : Int32) (s0 : Int32)  (k4 : Int32 → Int32 → Mm → Option (Int32 × Mm)) (hk4 : ∀ (v1 : Int32) (v2 : Int32) (S : Mm) (H : Heap) (locs : List Loc) (ls : Array Slot), k4 v1 v2 S = some o → xW G true sz s H locs S → lv_has ls 3 [(0, .ref (G.2.2 200 0)), (1, .int v1), (2, .int v2)] → wX p l e rmX12_isNoisy s m args below meth c H locs (xQi G true sz o) (XA G true sz) 4 ls []) {S : Mm} {H : Heap} {locs : List Loc} {ls : Array Slot} (hW : xW G true sz s H locs S) (hl : lv_has ls 3 [(0, .ref (G.2.2 200 0)), (2, .int v2)]) (h : L_X12_isNoisy_46 k4 v2 s0 S = some o) : wX p l e rmX12_isNoisy s m args below meth c H locs (xQi G true sz o) (XA G true sz) 46 ls [.int s0] := by
  unfold L_X12_isNoisy_46 at h
  refine lv_istore_n (lv' := [(1, .int s0), (0, .ref (G.2.2 200 0)), (2, .int v2)]) X.1 X.2.1 dX12_isNoisy_46 rfl hl (by decide) rfl (fun ls hl => ?_)
  refine lv_iinc (v := (v2 + 1)) (lv' := [(2, .int (v2 + 1)), (1, .int s0), (0, .ref (G.2.2 200 0))]) X.1 X.2.1 dX12_isNoisy_47 hl (k := 2) rfl rfl (by decide) rfl (fun ls hl => ?_)
  refine lv_goto (tgt := 4) X.1 X.2.1 dX12_isNoisy_50 (by decide) ?_
  exact hk4 s0 (v2 + 1) S _ _ _ h hW  (lv_sub hl [2, 1, 0] rfl)
set_option maxRecDepth 100000 in
set_option maxHeartbeats 4000000 in
theorem w_X12_isNoisy_41 {p : Program} {l : Launch} {e : Env} {s : State} {m : MethodId} {args : Array Value} {below : List Frame} {meth : Method} {c : Code} {G : xG} {sz : Nat} {o : Int32 × Mm} (X : xC G true sz p s m args c cX12_isNoisy 3 wsX12_isNoisy RX12 meth (some .boolean)) (v2 : Int32)  (k4 : Int32 → Int32 → Mm → Option (Int32 × Mm)) (hk4 : ∀ (v1 : Int32) (v2 : Int32) (S : Mm) (H : Heap) (locs : List Loc) (ls : Array Slot), k4 v1 v2 S = some o → xW G true sz s H locs S → lv_has ls 3 [(0, .ref (G.2.2 200 0)), (1, .int v1), (2, .int v2)] → wX p l e rmX12_isNoisy s m args below meth c H locs (xQi G true sz o) (XA G true sz) 4 ls []) {S : Mm} {H : Heap} {locs : List Loc} {ls : Array Slot} (hW : xW G true sz s H locs S) (hl : lv_has ls 3 [(0, .ref (G.2.2 200 0)), (2, .int v2)]) (h : L_X12_isNoisy_41 k4 v2 S = some o) : wX p l e rmX12_isNoisy s m args below meth c H locs (xQi G true sz o) (XA G true sz) 41 ls [] := by
  unfold L_X12_isNoisy_41 at h
  refine lv_iconst (v := 1) X.1 X.2.1 dX12_isNoisy_41 rfl ?_
  refine lv_goto (tgt := 46) X.1 X.2.1 dX12_isNoisy_42 (by decide) ?_
  exact w_X12_isNoisy_46 X v2 1  k4 hk4 hW (lv_sub hl [0, 1] rfl) h
set_option maxRecDepth 100000 in
set_option maxHeartbeats 4000000 in
theorem w_X12_isNoisy_4 {p : Program} {l : Launch} {e : Env} {s : State} {m : MethodId} {args : Array Value} {below : List Frame} {meth : Method} {c : Code} {G : xG} {sz : Nat} {o : Int32 × Mm} (X : xC G true sz p s m args c cX12_isNoisy 3 wsX12_isNoisy RX12 meth (some .boolean))    : ∀ (n : Nat) (v1 : Int32) (v2 : Int32) (S : Mm) (H : Heap) (locs : List Loc) (ls : Array Slot), L_X12_isNoisy_4  n v1 v2 S = some o → xW G true sz s H locs S → lv_has ls 3 [(0, .ref (G.2.2 200 0)), (1, .int v1), (2, .int v2)] → wX p l e rmX12_isNoisy s m args below meth c H locs (xQi G true sz o) (XA G true sz) 4 ls [] := by
  intro n
  induction n with
  | zero =>
    intro v1 v2 S H locs ls h
    cases h
  | succ n ih =>
    intro v1 v2 S H locs ls h hW  hl
    rw [L_X12_isNoisy_4] at h
    refine lv_iload_n X.1 X.2.1 dX12_isNoisy_4 rfl (lv_at hl 2 rfl) ?_
    refine lv_aload_n X.1 X.2.1 dX12_isNoisy_5 rfl (lv_at hl 0 rfl) ?_
    refine x_getI X hW fd_Model_noises (fun w h => List.mem_cons_of_mem _ (gin_X12 w h)) (List.mem_cons_of_mem _ gw450) z_1 dX12_isNoisy_6 h (fun x1 h => ?_)
    refine x_icmp_ge X (tgt := 53) dX12_isNoisy_9 (by decide) h (fun h => ?_) (fun h => ?_)
    · refine lv_iload_n X.1 X.2.1 dX12_isNoisy_53 rfl (lv_at hl 1 rfl) ?_
      obtain ⟨g2, h⟩ := if_some h
      exact x_zret X hW h g2 dX12_isNoisy_54
    · refine lv_iload_n X.1 X.2.1 dX12_isNoisy_12 rfl (lv_at hl 1 rfl) ?_
      refine x_if_ne X (tgt := 41) dX12_isNoisy_13 (by decide) h (fun h => ?_) (fun h => ?_)
      · exact w_X12_isNoisy_41 X v2  (L_X12_isNoisy_4  n) ih hW (lv_sub hl [0, 2] rfl) h
      · refine lv_aload_n X.1 X.2.1 dX12_isNoisy_16 rfl (lv_at hl 0 rfl) ?_
        refine x_getI X hW fd_Model_slot (fun w h => List.mem_cons_of_mem _ (gin_X12 w h)) (List.mem_cons_of_mem _ gw451) z_1 dX12_isNoisy_17 h (fun x3 h => ?_)
        refine lv_i2l (v := (Int32.toInt64 x3)) X.1 X.2.1 dX12_isNoisy_20 rfl ?_
        refine lv_aload_n X.1 X.2.1 dX12_isNoisy_21 rfl (lv_at hl 0 rfl) ?_
        refine x_getR X hW fd_Model_noiseFrom (fun w h => List.mem_cons_of_mem _ (gin_X12 w h)) (List.mem_cons_of_mem _ gw227) z_1 dX12_isNoisy_22 ?_
        refine lv_iload_n X.1 X.2.1 dX12_isNoisy_25 rfl (lv_at hl 2 rfl) ?_
        refine x_iald X hW ar_272 dX12_isNoisy_26 h (fun x4 h => ?_)
        refine lv_i2l (v := (Int32.toInt64 x4)) X.1 X.2.1 dX12_isNoisy_27 rfl ?_
        refine lv_aload_n X.1 X.2.1 dX12_isNoisy_28 rfl (lv_at hl 0 rfl) ?_
        refine x_getR X hW fd_Model_noiseTo (fun w h => List.mem_cons_of_mem _ (gin_X12 w h)) (List.mem_cons_of_mem _ gw228) z_1 dX12_isNoisy_29 ?_
        refine lv_iload_n X.1 X.2.1 dX12_isNoisy_32 rfl (lv_at hl 2 rfl) ?_
        refine x_iald X hW ar_273 dX12_isNoisy_33 h (fun x5 h => ?_)
        refine lv_i2l (v := (Int32.toInt64 x5)) X.1 X.2.1 dX12_isNoisy_34 rfl ?_
        obtain ⟨r6, S7, h8, h⟩ := cl_some h
        refine x_aftI X hW (x_runS (As := [.long (Int32.toInt64 x3), .long (Int32.toInt64 x4), .long (Int32.toInt64 x5)]) (rest := []) X hW (c_X12_in l G X.2.2.2.2.2.2.2.2.2.1 _ S (Int32.toInt64 x3) (Int32.toInt64 x4) (Int32.toInt64 x5) _ h8) (va_cwS 3 X.2.2.2.2.1 (gS gw296 gw297 gw5 gw298) rfl rfl rfl hd_X12_in ⟨Nat.le_of_ble_eq_true rfl, Nat.le_of_ble_eq_true rfl⟩) rfl hl.1 rfl (Nat.le_of_ble_eq_true rfl) dX12_isNoisy_35 ⟨Nat.zero_le _, Nat.zero_le _⟩) (fun H locs hW => ?_)
        refine x_if_eq X (tgt := 45) dX12_isNoisy_38 (by decide) h (fun h => ?_) (fun h => ?_)
        · refine lv_iconst (v := 0) X.1 X.2.1 dX12_isNoisy_45 rfl ?_
          exact w_X12_isNoisy_46 X v2 0  (L_X12_isNoisy_4  n) ih hW (lv_sub hl [0, 2] rfl) h
        · exact w_X12_isNoisy_41 X v2  (L_X12_isNoisy_4  n) ih hW (lv_sub hl [0, 2] rfl) h
set_option maxRecDepth 100000 in
set_option maxHeartbeats 4000000 in
theorem w_X12_isNoisy_0 {p : Program} {l : Launch} {e : Env} {s : State} {m : MethodId} {args : Array Value} {below : List Frame} {meth : Method} {c : Code} {G : xG} {sz : Nat} {o : Int32 × Mm} (X : xC G true sz p s m args c cX12_isNoisy 3 wsX12_isNoisy RX12 meth (some .boolean))  {S : Mm} {H : Heap} {locs : List Loc} {ls : Array Slot} (hW : xW G true sz s H locs S) (hl : lv_has ls 3 [(0, .ref (G.2.2 200 0))]) (h : F_X12_isNoisy  S = some o) : wX p l e rmX12_isNoisy s m args below meth c H locs (xQi G true sz o) (XA G true sz) 0 ls [] := by
  unfold F_X12_isNoisy at h
  refine lv_iconst (v := 0) X.1 X.2.1 dX12_isNoisy_0 rfl ?_
  refine lv_istore_n (lv' := [(1, .int 0), (0, .ref (G.2.2 200 0))]) X.1 X.2.1 dX12_isNoisy_1 rfl hl (by decide) rfl (fun ls hl => ?_)
  refine lv_iconst (v := 0) X.1 X.2.1 dX12_isNoisy_2 rfl ?_
  refine lv_istore_n (lv' := [(2, .int 0), (1, .int 0), (0, .ref (G.2.2 200 0))]) X.1 X.2.1 dX12_isNoisy_3 rfl hl (by decide) rfl (fun ls hl => ?_)
  exact w_X12_isNoisy_4 X    fu 0 0 S _ _ _ h hW  (lv_sub hl [2, 1, 0] rfl)
theorem c_X12_isNoisy (l : Launch) (G : xG) (hD : xD G true) (sz : Nat) (S : Mm)  (o : Int32 × Mm) (h : F_X12_isNoisy  S = some o) : Met l yX12_isNoisy wsX12_isNoisy rmX12_isNoisy (xPre G true S sz [.ref (G.2.2 200 0)]) (xQi G true sz o) 0 0 (XA G true sz) :=
  x_start hD (by decide) rfl (Nat.le_of_ble_eq_true rfl) (fun p e s m below meth c X hW ls hl => w_X12_isNoisy_0 X  hW hl h)

/-! WirelessCellModel.isWhole()Z -/
def rmX12_isWhole : Room := { frames := 1, cells := 0, slots := 0, locals := 25 }
def L_X12_isWhole_70 (k30 : Int32 → Int32 → Mm → Option (Int32 × Mm)) (v1 : Int32) (v3 : Int32) (s0 : Int32) (S : Mm) : Option (Int32 × Mm) :=
  k30 s0 (v3 + 1) S
def L_X12_isWhole_69 (k30 : Int32 → Int32 → Mm → Option (Int32 × Mm)) (v1 : Int32) (v3 : Int32) (S : Mm) : Option (Int32 × Mm) :=
  L_X12_isWhole_70 k30 v1 v3 0 S
def L_X12_isWhole_30  (v1 : Int32) : Nat → Int32 → Int32 → Mm → Option (Int32 × Mm)
  | 0, _, _, _ => none
  | n + 1, v2, v3, S => 
    if 4 ≤ v3 then (
    gd (v2 &&& 1 = v2) (some (v2, S)))
    else (
    if v2 = 0 then (
    L_X12_isWhole_69 (L_X12_isWhole_30 v1 n) v1 v3 S)
    else (
    gf S 307 0 fun x7 =>
    ldA S 278 0 300 1 ((x7 - 4) + v3) fun x8 =>
    if x8 = ((v1 >>> ((8 * v3) &&& 31)) &&& 255) then (
    L_X12_isWhole_70 (L_X12_isWhole_30 v1 n) v1 v3 1 S)
    else (
    L_X12_isWhole_69 (L_X12_isWhole_30 v1 n) v1 v3 S)))
def F_X12_isWhole  (S : Mm) : Option (Int32 × Mm) :=
  gf S 307 0 fun x1 =>
  if 14 ≤ x1 then (
  gf S 307 0 fun x2 =>
  cl (F_X12_crc 278 0 0 (x2 - 4) S) fun r3 S4 =>
  L_X12_isWhole_30  r3 fu 1 0 S4)
  else (
  some (0, S))
set_option maxRecDepth 100000 in
set_option maxHeartbeats 4000000 in
theorem w_X12_isWhole_70 {p : Program} {l : Launch} {e : Env} {s : State} {m : MethodId} {args : Array Value} {below : List Frame} {meth : Method} {c : Code} {G : xG} {sz : Nat} {o : Int32 × Mm} (X : xC G true sz p s m args c cX12_isWhole 4 wsX12_isWhole RX12 meth (some .boolean)) (v1 : Int32) (v3 : Int32) (s0 : Int32)  (k30 : Int32 → Int32 → Mm → Option (Int32 × Mm)) (hk30 : ∀ (v2 : Int32) (v3 : Int32) (S : Mm) (H : Heap) (locs : List Loc) (ls : Array Slot), k30 v2 v3 S = some o → xW G true sz s H locs S → lv_has ls 4 [(0, .ref (G.2.2 200 0)), (1, .int v1), (2, .int v2), (3, .int v3)] → wX p l e rmX12_isWhole s m args below meth c H locs (xQi G true sz o) (XA G true sz) 30 ls []) {S : Mm} {H : Heap} {locs : List Loc} {ls : Array Slot} (hW : xW G true sz s H locs S) (hl : lv_has ls 4 [(0, .ref (G.2.2 200 0)), (1, .int v1), (3, .int v3)]) (h : L_X12_isWhole_70 k30 v1 v3 s0 S = some o) : wX p l e rmX12_isWhole s m args below meth c H locs (xQi G true sz o) (XA G true sz) 70 ls [.int s0] := by
  unfold L_X12_isWhole_70 at h
  refine lv_istore_n (lv' := [(2, .int s0), (0, .ref (G.2.2 200 0)), (1, .int v1), (3, .int v3)]) X.1 X.2.1 dX12_isWhole_70 rfl hl (by decide) rfl (fun ls hl => ?_)
  refine lv_iinc (v := (v3 + 1)) (lv' := [(3, .int (v3 + 1)), (2, .int s0), (0, .ref (G.2.2 200 0)), (1, .int v1)]) X.1 X.2.1 dX12_isWhole_71 hl (k := 3) rfl rfl (by decide) rfl (fun ls hl => ?_)
  refine lv_goto (tgt := 30) X.1 X.2.1 dX12_isWhole_74 (by decide) ?_
  exact hk30 s0 (v3 + 1) S _ _ _ h hW  (lv_sub hl [2, 3, 1, 0] rfl)
set_option maxRecDepth 100000 in
set_option maxHeartbeats 4000000 in
theorem w_X12_isWhole_69 {p : Program} {l : Launch} {e : Env} {s : State} {m : MethodId} {args : Array Value} {below : List Frame} {meth : Method} {c : Code} {G : xG} {sz : Nat} {o : Int32 × Mm} (X : xC G true sz p s m args c cX12_isWhole 4 wsX12_isWhole RX12 meth (some .boolean)) (v1 : Int32) (v3 : Int32)  (k30 : Int32 → Int32 → Mm → Option (Int32 × Mm)) (hk30 : ∀ (v2 : Int32) (v3 : Int32) (S : Mm) (H : Heap) (locs : List Loc) (ls : Array Slot), k30 v2 v3 S = some o → xW G true sz s H locs S → lv_has ls 4 [(0, .ref (G.2.2 200 0)), (1, .int v1), (2, .int v2), (3, .int v3)] → wX p l e rmX12_isWhole s m args below meth c H locs (xQi G true sz o) (XA G true sz) 30 ls []) {S : Mm} {H : Heap} {locs : List Loc} {ls : Array Slot} (hW : xW G true sz s H locs S) (hl : lv_has ls 4 [(0, .ref (G.2.2 200 0)), (1, .int v1), (3, .int v3)]) (h : L_X12_isWhole_69 k30 v1 v3 S = some o) : wX p l e rmX12_isWhole s m args below meth c H locs (xQi G true sz o) (XA G true sz) 69 ls [] := by
  unfold L_X12_isWhole_69 at h
  refine lv_iconst (v := 0) X.1 X.2.1 dX12_isWhole_69 rfl ?_
  exact w_X12_isWhole_70 X v1 v3 0  k30 hk30 hW (lv_sub hl [0, 1, 2] rfl) h
set_option maxRecDepth 100000 in
set_option maxHeartbeats 4000000 in
theorem w_X12_isWhole_30 {p : Program} {l : Launch} {e : Env} {s : State} {m : MethodId} {args : Array Value} {below : List Frame} {meth : Method} {c : Code} {G : xG} {sz : Nat} {o : Int32 × Mm} (X : xC G true sz p s m args c cX12_isWhole 4 wsX12_isWhole RX12 meth (some .boolean)) (v1 : Int32)   : ∀ (n : Nat) (v2 : Int32) (v3 : Int32) (S : Mm) (H : Heap) (locs : List Loc) (ls : Array Slot), L_X12_isWhole_30 v1 n v2 v3 S = some o → xW G true sz s H locs S → lv_has ls 4 [(0, .ref (G.2.2 200 0)), (1, .int v1), (2, .int v2), (3, .int v3)] → wX p l e rmX12_isWhole s m args below meth c H locs (xQi G true sz o) (XA G true sz) 30 ls [] := by
  intro n
  induction n with
  | zero =>
    intro v2 v3 S H locs ls h
    cases h
  | succ n ih =>
    intro v2 v3 S H locs ls h hW  hl
    rw [L_X12_isWhole_30] at h
    refine lv_iload_n X.1 X.2.1 dX12_isWhole_30 rfl (lv_at hl 3 rfl) ?_
    refine lv_iconst (v := 4) X.1 X.2.1 dX12_isWhole_31 rfl ?_
    refine x_icmp_ge X (tgt := 77) dX12_isWhole_32 (by decide) h (fun h => ?_) (fun h => ?_)
    · refine lv_iload_n X.1 X.2.1 dX12_isWhole_77 rfl (lv_at hl 2 rfl) ?_
      obtain ⟨g6, h⟩ := if_some h
      exact x_zret X hW h g6 dX12_isWhole_78
    · refine lv_iload_n X.1 X.2.1 dX12_isWhole_35 rfl (lv_at hl 2 rfl) ?_
      refine x_if_eq X (tgt := 69) dX12_isWhole_36 (by decide) h (fun h => ?_) (fun h => ?_)
      · exact w_X12_isWhole_69 X v1 v3  (L_X12_isWhole_30 v1 n) ih hW (lv_sub hl [0, 1, 3] rfl) h
      · refine lv_aload_n X.1 X.2.1 dX12_isWhole_39 rfl (lv_at hl 0 rfl) ?_
        refine x_getR X hW fd_Model_seen (fun w h => List.mem_cons_of_mem _ (gin_X12 w h)) (List.mem_cons_of_mem _ gw233) z_1 dX12_isWhole_40 ?_
        refine lv_aload_n X.1 X.2.1 dX12_isWhole_43 rfl (lv_at hl 0 rfl) ?_
        refine x_getI X hW fd_Model_seenLen (fun w h => List.mem_cons_of_mem _ (gin_X12 w h)) (List.mem_cons_of_mem _ gw1097) z_1 dX12_isWhole_44 h (fun x7 h => ?_)
        refine lv_iconst (v := 4) X.1 X.2.1 dX12_isWhole_47 rfl ?_
        refine lv_isub X.1 X.2.1 dX12_isWhole_48 ?_
        refine lv_iload_n X.1 X.2.1 dX12_isWhole_49 rfl (lv_at hl 3 rfl) ?_
        refine lv_iadd X.1 X.2.1 dX12_isWhole_50 ?_
        refine x_iald X hW ar_278 dX12_isWhole_51 h (fun x8 h => ?_)
        refine lv_iload_n X.1 X.2.1 dX12_isWhole_52 rfl (lv_at hl 1 rfl) ?_
        refine lv_bipush (v := 8) X.1 X.2.1 dX12_isWhole_53 rfl ?_
        refine lv_iload_n X.1 X.2.1 dX12_isWhole_55 rfl (lv_at hl 3 rfl) ?_
        refine lv_imul X.1 X.2.1 dX12_isWhole_56 ?_
        refine lv_ishr X.1 X.2.1 dX12_isWhole_57 ?_
        refine lv_sipush (v := 255) X.1 X.2.1 dX12_isWhole_58 rfl ?_
        refine lv_iand X.1 X.2.1 dX12_isWhole_61 ?_
        refine x_icmp_ne X (tgt := 69) dX12_isWhole_62 (by decide) h (fun h => ?_) (fun h => ?_)
        · exact w_X12_isWhole_69 X v1 v3  (L_X12_isWhole_30 v1 n) ih hW (lv_sub hl [0, 1, 3] rfl) h
        · refine lv_iconst (v := 1) X.1 X.2.1 dX12_isWhole_65 rfl ?_
          refine lv_goto (tgt := 70) X.1 X.2.1 dX12_isWhole_66 (by decide) ?_
          exact w_X12_isWhole_70 X v1 v3 1  (L_X12_isWhole_30 v1 n) ih hW (lv_sub hl [0, 1, 3] rfl) h
set_option maxRecDepth 100000 in
set_option maxHeartbeats 4000000 in
theorem w_X12_isWhole_0 {p : Program} {l : Launch} {e : Env} {s : State} {m : MethodId} {args : Array Value} {below : List Frame} {meth : Method} {c : Code} {G : xG} {sz : Nat} {o : Int32 × Mm} (X : xC G true sz p s m args c cX12_isWhole 4 wsX12_isWhole RX12 meth (some .boolean))  {S : Mm} {H : Heap} {locs : List Loc} {ls : Array Slot} (hW : xW G true sz s H locs S) (hl : lv_has ls 4 [(0, .ref (G.2.2 200 0))]) (h : F_X12_isWhole  S = some o) : wX p l e rmX12_isWhole s m args below meth c H locs (xQi G true sz o) (XA G true sz) 0 ls [] := by
  unfold F_X12_isWhole at h
  refine lv_aload_n X.1 X.2.1 dX12_isWhole_0 rfl (lv_at hl 0 rfl) ?_
  refine x_getI X hW fd_Model_seenLen (fun w h => List.mem_cons_of_mem _ (gin_X12 w h)) (List.mem_cons_of_mem _ gw1097) z_1 dX12_isWhole_1 h (fun x1 h => ?_)
  refine lv_bipush (v := 14) X.1 X.2.1 dX12_isWhole_4 rfl ?_
  refine x_icmp_ge X (tgt := 11) dX12_isWhole_6 (by decide) h (fun h => ?_) (fun h => ?_)
  · refine lv_aload_n X.1 X.2.1 dX12_isWhole_11 rfl (lv_at hl 0 rfl) ?_
    refine x_getR X hW fd_Model_seen (fun w h => List.mem_cons_of_mem _ (gin_X12 w h)) (List.mem_cons_of_mem _ gw233) z_1 dX12_isWhole_12 ?_
    refine lv_iconst (v := 0) X.1 X.2.1 dX12_isWhole_15 rfl ?_
    refine lv_aload_n X.1 X.2.1 dX12_isWhole_16 rfl (lv_at hl 0 rfl) ?_
    refine x_getI X hW fd_Model_seenLen (fun w h => List.mem_cons_of_mem _ (gin_X12 w h)) (List.mem_cons_of_mem _ gw1097) z_1 dX12_isWhole_17 h (fun x2 h => ?_)
    refine lv_iconst (v := 4) X.1 X.2.1 dX12_isWhole_20 rfl ?_
    refine lv_isub X.1 X.2.1 dX12_isWhole_21 ?_
    obtain ⟨r3, S4, h5, h⟩ := cl_some h
    refine x_aftI X hW (x_runS (As := [.ref (G.2.2 278 0), .int 0, .int (x2 - 4)]) (rest := []) X hW (c_X12_crc l G X.2.2.2.2.2.2.2.2.2.1 _ S 278 0 0 (x2 - 4) _ h5) (va_cwS 3 X.2.2.2.2.1 (gS gw314 gw315 gw5 gw316) rfl rfl rfl hd_X12_crc ⟨Nat.le_of_ble_eq_true rfl, Nat.le_of_ble_eq_true rfl⟩) rfl hl.1 rfl (Nat.le_of_ble_eq_true rfl) dX12_isWhole_22 ⟨Nat.zero_le _, Nat.zero_le _⟩) (fun H locs hW => ?_)
    refine lv_istore_n (lv' := [(1, .int r3), (0, .ref (G.2.2 200 0))]) X.1 X.2.1 dX12_isWhole_25 rfl hl (by decide) rfl (fun ls hl => ?_)
    refine lv_iconst (v := 1) X.1 X.2.1 dX12_isWhole_26 rfl ?_
    refine lv_istore_n (lv' := [(2, .int 1), (1, .int r3), (0, .ref (G.2.2 200 0))]) X.1 X.2.1 dX12_isWhole_27 rfl hl (by decide) rfl (fun ls hl => ?_)
    refine lv_iconst (v := 0) X.1 X.2.1 dX12_isWhole_28 rfl ?_
    refine lv_istore_n (lv' := [(3, .int 0), (2, .int 1), (1, .int r3), (0, .ref (G.2.2 200 0))]) X.1 X.2.1 dX12_isWhole_29 rfl hl (by decide) rfl (fun ls hl => ?_)
    exact w_X12_isWhole_30 X r3   fu 1 0 S4 _ _ _ h hW  (lv_sub hl [3, 2, 1, 0] rfl)
  · refine lv_iconst (v := 0) X.1 X.2.1 dX12_isWhole_9 rfl ?_
    exact x_zret X hW h rfl dX12_isWhole_10
theorem c_X12_isWhole (l : Launch) (G : xG) (hD : xD G true) (sz : Nat) (S : Mm)  (o : Int32 × Mm) (h : F_X12_isWhole  S = some o) : Met l yX12_isWhole wsX12_isWhole rmX12_isWhole (xPre G true S sz [.ref (G.2.2 200 0)]) (xQi G true sz o) 0 0 (XA G true sz) :=
  x_start hD (by decide) rfl (Nat.le_of_ble_eq_true rfl) (fun p e s m below meth c X hW ls hl => w_X12_isWhole_0 X  hW hl h)
