/-! WirelessCellModel.keyBy(I)V -/
def rmX12_keyBy : Room := { frames := 0, cells := 0, slots := 0, locals := 0 }
def L_X12_keyBy_2  (v1 : Int32) : Nat → Int32 → Mm → Option (Unit × Mm)
  | 0, _, _ => none
  | n + 1, v2, S => 
    if 16 ≤ v2 then (
    stA S 222 0 18 1 v1 (1 &&& 1) fun S1 =>
    stL S1 226 0 18 1 v1 0 fun S2 =>
    stL S2 227 0 18 1 v1 1 fun S3 =>
    stA S3 228 0 18 1 v1 (0 &&& 1) fun S4 =>
    some ((), S4))
    else (
    ldA S 223 0 864 1 (((48 * v1) + 32) + v2) fun x5 =>
    stA S 221 0 288 1 ((16 * v1) + v2) x5 fun S6 =>
    (L_X12_keyBy_2 v1 n) (v2 + 1) S6)
def F_X12_keyBy (v1 : Int32) (S : Mm) : Option (Unit × Mm) :=
  L_X12_keyBy_2  v1 fu 0 S
set_option maxRecDepth 100000 in
set_option maxHeartbeats 4000000 in
theorem w_X12_keyBy_2 {p : Program} {l : Launch} {e : Env} {s : State} {m : MethodId} {args : Array Value} {below : List Frame} {meth : Method} {c : Code} {G : xG} {sz : Nat} {o : Unit × Mm} (X : xC G true sz p s m args c cX12_keyBy 3 wsX12_keyBy RX12 meth none) (v1 : Int32)   : ∀ (n : Nat) (v2 : Int32) (S : Mm) (H : Heap) (locs : List Loc) (ls : Array Slot), L_X12_keyBy_2 v1 n v2 S = some o → xW G true sz s H locs S → lv_has ls 3 [(0, .ref (G.2.2 200 0)), (1, .int v1), (2, .int v2)] → wX p l e rmX12_keyBy s m args below meth c H locs (xQv G true sz o) (XA G true sz) 2 ls [] := by
  intro n
  induction n with
  | zero =>
    intro v2 S H locs ls h
    cases h
  | succ n ih =>
    intro v2 S H locs ls h hW  hl
    rw [L_X12_keyBy_2] at h
    refine lv_iload_n X.1 X.2.1 dX12_keyBy_2 rfl (lv_at hl 2 rfl) ?_
    refine lv_bipush (v := 16) X.1 X.2.1 dX12_keyBy_3 rfl ?_
    refine x_icmp_ge X (tgt := 39) dX12_keyBy_5 (by decide) h (fun h => ?_) (fun h => ?_)
    · refine lv_aload_n X.1 X.2.1 dX12_keyBy_39 rfl (lv_at hl 0 rfl) ?_
      refine x_getR X hW fd_Model_hasKey (fun w h => List.mem_cons_of_mem _ (gin_X12 w h)) (List.mem_cons_of_mem _ gw172) z_1 dX12_keyBy_40 ?_
      refine lv_iload_n X.1 X.2.1 dX12_keyBy_43 rfl (lv_at hl 1 rfl) ?_
      refine lv_iconst (v := 1) X.1 X.2.1 dX12_keyBy_44 rfl ?_
      refine x_zast X hW ar_222 dX12_keyBy_45 h (fun S1 H locs h hW => ?_)
      refine lv_aload_n X.1 X.2.1 dX12_keyBy_46 rfl (lv_at hl 0 rfl) ?_
      refine x_getR X hW fd_Model_pnTaken (fun w h => List.mem_cons_of_mem _ (gin_X12 w h)) (List.mem_cons_of_mem _ gw177) z_1 dX12_keyBy_47 ?_
      refine lv_iload_n X.1 X.2.1 dX12_keyBy_50 rfl (lv_at hl 1 rfl) ?_
      refine lv_lconst (v := 0) X.1 X.2.1 dX12_keyBy_51 rfl ?_
      refine x_last X hW ar_226 dX12_keyBy_52 h (fun S2 H locs h hW => ?_)
      refine lv_aload_n X.1 X.2.1 dX12_keyBy_53 rfl (lv_at hl 0 rfl) ?_
      refine x_getR X hW fd_Model_pnNext (fun w h => List.mem_cons_of_mem _ (gin_X12 w h)) (List.mem_cons_of_mem _ gw178) z_1 dX12_keyBy_54 ?_
      refine lv_iload_n X.1 X.2.1 dX12_keyBy_57 rfl (lv_at hl 1 rfl) ?_
      refine lv_lconst (v := 1) X.1 X.2.1 dX12_keyBy_58 rfl ?_
      refine x_last X hW ar_227 dX12_keyBy_59 h (fun S3 H locs h hW => ?_)
      refine lv_aload_n X.1 X.2.1 dX12_keyBy_60 rfl (lv_at hl 0 rfl) ?_
      refine x_getR X hW fd_Model_begun (fun w h => List.mem_cons_of_mem _ (gin_X12 w h)) (List.mem_cons_of_mem _ gw179) z_1 dX12_keyBy_61 ?_
      refine lv_iload_n X.1 X.2.1 dX12_keyBy_64 rfl (lv_at hl 1 rfl) ?_
      refine lv_iconst (v := 0) X.1 X.2.1 dX12_keyBy_65 rfl ?_
      refine x_zast X hW ar_228 dX12_keyBy_66 h (fun S4 H locs h hW => ?_)
      exact x_vret X hW h dX12_keyBy_67
    · refine lv_aload_n X.1 X.2.1 dX12_keyBy_8 rfl (lv_at hl 0 rfl) ?_
      refine x_getR X hW fd_Model_tk (fun w h => List.mem_cons_of_mem _ (gin_X12 w h)) (List.mem_cons_of_mem _ gw171) z_1 dX12_keyBy_9 ?_
      refine lv_bipush (v := 16) X.1 X.2.1 dX12_keyBy_12 rfl ?_
      refine lv_iload_n X.1 X.2.1 dX12_keyBy_14 rfl (lv_at hl 1 rfl) ?_
      refine lv_imul X.1 X.2.1 dX12_keyBy_15 ?_
      refine lv_iload_n X.1 X.2.1 dX12_keyBy_16 rfl (lv_at hl 2 rfl) ?_
      refine lv_iadd X.1 X.2.1 dX12_keyBy_17 ?_
      refine lv_aload_n X.1 X.2.1 dX12_keyBy_18 rfl (lv_at hl 0 rfl) ?_
      refine x_getR X hW fd_Model_tried (fun w h => List.mem_cons_of_mem _ (gin_X12 w h)) (List.mem_cons_of_mem _ gw173) z_1 dX12_keyBy_19 ?_
      refine lv_bipush (v := 48) X.1 X.2.1 dX12_keyBy_22 rfl ?_
      refine lv_iload_n X.1 X.2.1 dX12_keyBy_24 rfl (lv_at hl 1 rfl) ?_
      refine lv_imul X.1 X.2.1 dX12_keyBy_25 ?_
      refine lv_bipush (v := 32) X.1 X.2.1 dX12_keyBy_26 rfl ?_
      refine lv_iadd X.1 X.2.1 dX12_keyBy_28 ?_
      refine lv_iload_n X.1 X.2.1 dX12_keyBy_29 rfl (lv_at hl 2 rfl) ?_
      refine lv_iadd X.1 X.2.1 dX12_keyBy_30 ?_
      refine x_iald X hW ar_223 dX12_keyBy_31 h (fun x5 h => ?_)
      refine x_iast X hW ar_221 dX12_keyBy_32 h (fun S6 H locs h hW => ?_)
      refine lv_iinc (v := (v2 + 1)) (lv' := [(2, .int (v2 + 1)), (0, .ref (G.2.2 200 0)), (1, .int v1)]) X.1 X.2.1 dX12_keyBy_33 hl (k := 2) rfl rfl (by decide) rfl (fun ls hl => ?_)
      refine lv_goto (tgt := 2) X.1 X.2.1 dX12_keyBy_36 (by decide) ?_
      exact ih (v2 + 1) S6 _ _ _ h hW  (lv_sub hl [1, 2, 0] rfl)
set_option maxRecDepth 100000 in
set_option maxHeartbeats 4000000 in
theorem w_X12_keyBy_0 {p : Program} {l : Launch} {e : Env} {s : State} {m : MethodId} {args : Array Value} {below : List Frame} {meth : Method} {c : Code} {G : xG} {sz : Nat} {o : Unit × Mm} (X : xC G true sz p s m args c cX12_keyBy 3 wsX12_keyBy RX12 meth none) (v1 : Int32) {S : Mm} {H : Heap} {locs : List Loc} {ls : Array Slot} (hW : xW G true sz s H locs S) (hl : lv_has ls 3 [(0, .ref (G.2.2 200 0)), (1, .int v1)]) (h : F_X12_keyBy v1 S = some o) : wX p l e rmX12_keyBy s m args below meth c H locs (xQv G true sz o) (XA G true sz) 0 ls [] := by
  unfold F_X12_keyBy at h
  refine lv_iconst (v := 0) X.1 X.2.1 dX12_keyBy_0 rfl ?_
  refine lv_istore_n (lv' := [(2, .int 0), (0, .ref (G.2.2 200 0)), (1, .int v1)]) X.1 X.2.1 dX12_keyBy_1 rfl hl (by decide) rfl (fun ls hl => ?_)
  exact w_X12_keyBy_2 X v1   fu 0 S _ _ _ h hW  (lv_sub hl [1, 2, 0] rfl)
theorem c_X12_keyBy (l : Launch) (G : xG) (hD : xD G true) (sz : Nat) (S : Mm) (v1 : Int32) (o : Unit × Mm) (h : F_X12_keyBy v1 S = some o) : Met l yX12_keyBy wsX12_keyBy rmX12_keyBy (xPre G true S sz [.ref (G.2.2 200 0), .int v1]) (xQv G true sz o) 0 0 (XA G true sz) :=
  x_start hD (by decide) rfl (Nat.le_of_ble_eq_true rfl) (fun p e s m below meth c X hW ls hl => w_X12_keyBy_0 X v1 hW hl h)

/-! WirelessCellModel.drawn()I -/
def rmX12_drawn : Room := { frames := 0, cells := 0, slots := 0, locals := 0 }
def F_X12_drawn  (S : Mm) : Option (Int32 × Mm) :=
  gf S 294 0 fun x1 =>
  gf S 295 0 fun x2 =>
  if x1 = x2 then (
  some (0, S))
  else (
  gf S 294 0 fun x3 =>
  pf S 294 0 (x3 + 1) fun S4 =>
  gf S4 294 0 fun x5 =>
  ldA S4 251 0 200 1 (x5 - 1) fun x6 =>
  some (x6, S4))
set_option maxRecDepth 100000 in
set_option maxHeartbeats 4000000 in
theorem w_X12_drawn_0 {p : Program} {l : Launch} {e : Env} {s : State} {m : MethodId} {args : Array Value} {below : List Frame} {meth : Method} {c : Code} {G : xG} {sz : Nat} {o : Int32 × Mm} (X : xC G true sz p s m args c cX12_drawn 1 wsX12_drawn RX12 meth (some .int))  {S : Mm} {H : Heap} {locs : List Loc} {ls : Array Slot} (hW : xW G true sz s H locs S) (hl : lv_has ls 1 [(0, .ref (G.2.2 200 0))]) (h : F_X12_drawn  S = some o) : wX p l e rmX12_drawn s m args below meth c H locs (xQi G true sz o) (XA G true sz) 0 ls [] := by
  unfold F_X12_drawn at h
  refine lv_aload_n X.1 X.2.1 dX12_drawn_0 rfl (lv_at hl 0 rfl) ?_
  refine x_getI X hW fd_Model_drawFrom (fun w h => List.mem_cons_of_mem _ (gin_X12 w h)) (List.mem_cons_of_mem _ gw433) z_1 dX12_drawn_1 h (fun x1 h => ?_)
  refine lv_aload_n X.1 X.2.1 dX12_drawn_4 rfl (lv_at hl 0 rfl) ?_
  refine x_getI X hW fd_Model_drawTo (fun w h => List.mem_cons_of_mem _ (gin_X12 w h)) (List.mem_cons_of_mem _ gw432) z_1 dX12_drawn_5 h (fun x2 h => ?_)
  refine x_icmp_ne X (tgt := 13) dX12_drawn_8 (by decide) h (fun h => ?_) (fun h => ?_)
  · refine lv_aload_n X.1 X.2.1 dX12_drawn_13 rfl (lv_at hl 0 rfl) ?_
    refine lv_dup X.1 X.2.1 dX12_drawn_14 rfl ?_
    refine x_getI X hW fd_Model_drawFrom (fun w h => List.mem_cons_of_mem _ (gin_X12 w h)) (List.mem_cons_of_mem _ gw433) z_1 dX12_drawn_15 h (fun x3 h => ?_)
    refine lv_iconst (v := 1) X.1 X.2.1 dX12_drawn_18 rfl ?_
    refine lv_iadd X.1 X.2.1 dX12_drawn_19 ?_
    refine x_putI X hW fd_Model_drawFrom (fun w h => List.mem_cons_of_mem _ (gin_X12 w h)) (List.mem_cons_of_mem _ gw433) z_1 dX12_drawn_20 tyX12 tyX12_ok nmX12 rfl rfl rfl h (fun S4 H locs h hW => ?_)
    refine lv_aload_n X.1 X.2.1 dX12_drawn_23 rfl (lv_at hl 0 rfl) ?_
    refine x_getR X hW fd_Model_draws (fun w h => List.mem_cons_of_mem _ (gin_X12 w h)) (List.mem_cons_of_mem _ gw204) z_1 dX12_drawn_24 ?_
    refine lv_aload_n X.1 X.2.1 dX12_drawn_27 rfl (lv_at hl 0 rfl) ?_
    refine x_getI X hW fd_Model_drawFrom (fun w h => List.mem_cons_of_mem _ (gin_X12 w h)) (List.mem_cons_of_mem _ gw433) z_1 dX12_drawn_28 h (fun x5 h => ?_)
    refine lv_iconst (v := 1) X.1 X.2.1 dX12_drawn_31 rfl ?_
    refine lv_isub X.1 X.2.1 dX12_drawn_32 ?_
    refine x_iald X hW ar_251 dX12_drawn_33 h (fun x6 h => ?_)
    exact x_iret X hW h dX12_drawn_34
  · refine lv_iconst (v := 0) X.1 X.2.1 dX12_drawn_11 rfl ?_
    exact x_iret X hW h dX12_drawn_12
theorem c_X12_drawn (l : Launch) (G : xG) (hD : xD G true) (sz : Nat) (S : Mm)  (o : Int32 × Mm) (h : F_X12_drawn  S = some o) : Met l yX12_drawn wsX12_drawn rmX12_drawn (xPre G true S sz [.ref (G.2.2 200 0)]) (xQi G true sz o) 0 0 (XA G true sz) :=
  x_start hD (by decide) rfl (Nat.le_of_ble_eq_true rfl) (fun p e s m below meth c X hW ls hl => w_X12_drawn_0 X  hW hl h)

/-! WirelessCellModel.add(I)V -/
def rmX12_add : Room := { frames := 0, cells := 0, slots := 0, locals := 0 }
def F_X12_add (v1 : Int32) (S : Mm) : Option (Unit × Mm) :=
  gf S 297 0 fun x1 =>
  stA S 253 0 208 1 x1 (v1 &&& 255) fun S2 =>
  gf S2 297 0 fun x3 =>
  pf S2 297 0 (x3 + 1) fun S4 =>
  some ((), S4)
set_option maxRecDepth 100000 in
set_option maxHeartbeats 4000000 in
theorem w_X12_add_0 {p : Program} {l : Launch} {e : Env} {s : State} {m : MethodId} {args : Array Value} {below : List Frame} {meth : Method} {c : Code} {G : xG} {sz : Nat} {o : Unit × Mm} (X : xC G true sz p s m args c cX12_add 2 wsX12_add RX12 meth none) (v1 : Int32) {S : Mm} {H : Heap} {locs : List Loc} {ls : Array Slot} (hW : xW G true sz s H locs S) (hl : lv_has ls 2 [(0, .ref (G.2.2 200 0)), (1, .int v1)]) (h : F_X12_add v1 S = some o) : wX p l e rmX12_add s m args below meth c H locs (xQv G true sz o) (XA G true sz) 0 ls [] := by
  unfold F_X12_add at h
  refine lv_aload_n X.1 X.2.1 dX12_add_0 rfl (lv_at hl 0 rfl) ?_
  refine x_getR X hW fd_Model_message (fun w h => List.mem_cons_of_mem _ (gin_X12 w h)) (List.mem_cons_of_mem _ gw206) z_1 dX12_add_1 ?_
  refine lv_aload_n X.1 X.2.1 dX12_add_4 rfl (lv_at hl 0 rfl) ?_
  refine x_getI X hW fd_Model_length (fun w h => List.mem_cons_of_mem _ (gin_X12 w h)) (List.mem_cons_of_mem _ gw525) z_1 dX12_add_5 h (fun x1 h => ?_)
  refine lv_iload_n X.1 X.2.1 dX12_add_8 rfl (lv_at hl 1 rfl) ?_
  refine lv_sipush (v := 255) X.1 X.2.1 dX12_add_9 rfl ?_
  refine lv_iand X.1 X.2.1 dX12_add_12 ?_
  refine x_iast X hW ar_253 dX12_add_13 h (fun S2 H locs h hW => ?_)
  refine lv_aload_n X.1 X.2.1 dX12_add_14 rfl (lv_at hl 0 rfl) ?_
  refine lv_dup X.1 X.2.1 dX12_add_15 rfl ?_
  refine x_getI X hW fd_Model_length (fun w h => List.mem_cons_of_mem _ (gin_X12 w h)) (List.mem_cons_of_mem _ gw525) z_1 dX12_add_16 h (fun x3 h => ?_)
  refine lv_iconst (v := 1) X.1 X.2.1 dX12_add_19 rfl ?_
  refine lv_iadd X.1 X.2.1 dX12_add_20 ?_
  refine x_putI X hW fd_Model_length (fun w h => List.mem_cons_of_mem _ (gin_X12 w h)) (List.mem_cons_of_mem _ gw525) z_1 dX12_add_21 tyX12 tyX12_ok nmX12 rfl rfl rfl h (fun S4 H locs h hW => ?_)
  exact x_vret X hW h dX12_add_24
theorem c_X12_add (l : Launch) (G : xG) (hD : xD G true) (sz : Nat) (S : Mm) (v1 : Int32) (o : Unit × Mm) (h : F_X12_add v1 S = some o) : Met l yX12_add wsX12_add rmX12_add (xPre G true S sz [.ref (G.2.2 200 0), .int v1]) (xQv G true sz o) 0 0 (XA G true sz) :=
  x_start hD (by decide) rfl (Nat.le_of_ble_eq_true rfl) (fun p e s m below meth c X hW ls hl => w_X12_add_0 X v1 hW hl h)

/-! WirelessCellModel.isEnded(II)V -/
def rmX12_isEnded : Room := { frames := 0, cells := 0, slots := 0, locals := 0 }
def F_X12_isEnded (v1 : Int32) (v2 : Int32) (S : Mm) : Option (Unit × Mm) :=
  if v1 < 0 then (
  some ((), S))
  else (
  stA S 252 0 200 1 v1 v2 fun S1 =>
  some ((), S1))
set_option maxRecDepth 100000 in
set_option maxHeartbeats 4000000 in
theorem w_X12_isEnded_0 {p : Program} {l : Launch} {e : Env} {s : State} {m : MethodId} {args : Array Value} {below : List Frame} {meth : Method} {c : Code} {G : xG} {sz : Nat} {o : Unit × Mm} (X : xC G true sz p s m args c cX12_isEnded 3 wsX12_isEnded RX12 meth none) (v1 : Int32) (v2 : Int32) {S : Mm} {H : Heap} {locs : List Loc} {ls : Array Slot} (hW : xW G true sz s H locs S) (hl : lv_has ls 3 [(0, .ref (G.2.2 200 0)), (1, .int v1), (2, .int v2)]) (h : F_X12_isEnded v1 v2 S = some o) : wX p l e rmX12_isEnded s m args below meth c H locs (xQv G true sz o) (XA G true sz) 0 ls [] := by
  unfold F_X12_isEnded at h
  refine lv_iload_n X.1 X.2.1 dX12_isEnded_0 rfl (lv_at hl 1 rfl) ?_
  refine x_if_lt X (tgt := 11) dX12_isEnded_1 (by decide) h (fun h => ?_) (fun h => ?_)
  · exact x_vret X hW h dX12_isEnded_11
  · refine lv_aload_n X.1 X.2.1 dX12_isEnded_4 rfl (lv_at hl 0 rfl) ?_
    refine x_getR X hW fd_Model_ends (fun w h => List.mem_cons_of_mem _ (gin_X12 w h)) (List.mem_cons_of_mem _ gw205) z_1 dX12_isEnded_5 ?_
    refine lv_iload_n X.1 X.2.1 dX12_isEnded_8 rfl (lv_at hl 1 rfl) ?_
    refine lv_iload_n X.1 X.2.1 dX12_isEnded_9 rfl (lv_at hl 2 rfl) ?_
    refine x_iast X hW ar_252 dX12_isEnded_10 h (fun S1 H locs h hW => ?_)
    exact x_vret X hW h dX12_isEnded_11
theorem c_X12_isEnded (l : Launch) (G : xG) (hD : xD G true) (sz : Nat) (S : Mm) (v1 : Int32) (v2 : Int32) (o : Unit × Mm) (h : F_X12_isEnded v1 v2 S = some o) : Met l yX12_isEnded wsX12_isEnded rmX12_isEnded (xPre G true S sz [.ref (G.2.2 200 0), .int v1, .int v2]) (xQv G true sz o) 0 0 (XA G true sz) :=
  x_start hD (by decide) rfl (Nat.le_of_ble_eq_true rfl) (fun p e s m below meth c X hW ls hl => w_X12_isEnded_0 X v1 v2 hW hl h)

/-! WirelessCellModel.begins(I)V -/
def rmX12_begins : Room := { frames := 1, cells := 0, slots := 0, locals := 20 }
def F_X12_begins (v1 : Int32) (S : Mm) : Option (Unit × Mm) :=
  stA S 243 0 9 1 v1 0 fun S1 =>
  stA S1 244 0 9 1 v1 (0 &&& 1) fun S2 =>
  cl (F_X12_drawn S2) fun r3 S4 =>
  ldA S4 249 0 9 1 v1 fun x6 =>
  stA S4 248 0 9 1 v1 (r3 &&& x6) fun S7 =>
  some ((), S7)
set_option maxRecDepth 100000 in
set_option maxHeartbeats 4000000 in
theorem w_X12_begins_0 {p : Program} {l : Launch} {e : Env} {s : State} {m : MethodId} {args : Array Value} {below : List Frame} {meth : Method} {c : Code} {G : xG} {sz : Nat} {o : Unit × Mm} (X : xC G true sz p s m args c cX12_begins 2 wsX12_begins RX12 meth none) (v1 : Int32) {S : Mm} {H : Heap} {locs : List Loc} {ls : Array Slot} (hW : xW G true sz s H locs S) (hl : lv_has ls 2 [(0, .ref (G.2.2 200 0)), (1, .int v1)]) (h : F_X12_begins v1 S = some o) : wX p l e rmX12_begins s m args below meth c H locs (xQv G true sz o) (XA G true sz) 0 ls [] := by
  unfold F_X12_begins at h
  refine lv_aload_n X.1 X.2.1 dX12_begins_0 rfl (lv_at hl 0 rfl) ?_
  refine x_getR X hW fd_Model_part (fun w h => List.mem_cons_of_mem _ (gin_X12 w h)) (List.mem_cons_of_mem _ gw194) z_1 dX12_begins_1 ?_
  refine lv_iload_n X.1 X.2.1 dX12_begins_4 rfl (lv_at hl 1 rfl) ?_
  refine lv_iconst (v := 0) X.1 X.2.1 dX12_begins_5 rfl ?_
  refine x_iast X hW ar_243 dX12_begins_6 h (fun S1 H locs h hW => ?_)
  refine lv_aload_n X.1 X.2.1 dX12_begins_7 rfl (lv_at hl 0 rfl) ?_
  refine x_getR X hW fd_Model_isMade (fun w h => List.mem_cons_of_mem _ (gin_X12 w h)) (List.mem_cons_of_mem _ gw195) z_1 dX12_begins_8 ?_
  refine lv_iload_n X.1 X.2.1 dX12_begins_11 rfl (lv_at hl 1 rfl) ?_
  refine lv_iconst (v := 0) X.1 X.2.1 dX12_begins_12 rfl ?_
  refine x_zast X hW ar_244 dX12_begins_13 h (fun S2 H locs h hW => ?_)
  refine lv_aload_n X.1 X.2.1 dX12_begins_14 rfl (lv_at hl 0 rfl) ?_
  refine x_getR X hW fd_Model_backoff (fun w h => List.mem_cons_of_mem _ (gin_X12 w h)) (List.mem_cons_of_mem _ gw199) z_1 dX12_begins_15 ?_
  refine lv_iload_n X.1 X.2.1 dX12_begins_18 rfl (lv_at hl 1 rfl) ?_
  refine lv_aload_n X.1 X.2.1 dX12_begins_19 rfl (lv_at hl 0 rfl) ?_
  obtain ⟨r3, S4, h5, h⟩ := cl_some h
  refine x_aftI X hW (x_runV (C := RX12) (a := G.2.2 200 0) (As := []) (rest := [.int v1, .ref (G.2.2 248 0)]) X hW (c_X12_drawn l G X.2.2.2.2.2.2.2.2.2.1 _ S2 _ h5) (cwV 0 X.2.2.2.2.1 (gV gw546 gw547 gw548 gw5 gw549) rfl rfl rfl ⟨rfl, hd_X12_drawn⟩ ⟨Nat.le_of_ble_eq_true rfl, Nat.le_of_ble_eq_true rfl⟩) (x_recv X hW ob_Model z_1) rfl hl.1 rfl (Nat.le_of_ble_eq_true rfl) dX12_begins_20 ⟨Nat.zero_le _, Nat.zero_le _⟩) (fun H locs hW => ?_)
  refine lv_aload_n X.1 X.2.1 dX12_begins_23 rfl (lv_at hl 0 rfl) ?_
  refine x_getR X hW fd_Model_cw (fun w h => List.mem_cons_of_mem _ (gin_X12 w h)) (List.mem_cons_of_mem _ gw200) z_1 dX12_begins_24 ?_
  refine lv_iload_n X.1 X.2.1 dX12_begins_27 rfl (lv_at hl 1 rfl) ?_
  refine x_iald X hW ar_249 dX12_begins_28 h (fun x6 h => ?_)
  refine lv_iand X.1 X.2.1 dX12_begins_29 ?_
  refine x_iast X hW ar_248 dX12_begins_30 h (fun S7 H locs h hW => ?_)
  exact x_vret X hW h dX12_begins_31
theorem c_X12_begins (l : Launch) (G : xG) (hD : xD G true) (sz : Nat) (S : Mm) (v1 : Int32) (o : Unit × Mm) (h : F_X12_begins v1 S = some o) : Met l yX12_begins wsX12_begins rmX12_begins (xPre G true S sz [.ref (G.2.2 200 0), .int v1]) (xQv G true sz o) 0 0 (XA G true sz) :=
  x_start hD (by decide) rfl (Nat.le_of_ble_eq_true rfl) (fun p e s m below meth c X hW ls hl => w_X12_begins_0 X v1 hW hl h)

/-! WirelessCellModel.enqueue(IIIII)V -/
def rmX12_enqueue : Room := { frames := 2, cells := 0, slots := 0, locals := 41 }
def L_X12_enqueue_116  (v1 : Int32) (v6 : Int32) : Nat → Int32 → Mm → Option (Unit × Mm)
  | 0, _, _ => none
  | n + 1, v7, S => 
    gf S 297 0 fun x17 =>
    if x17 ≤ v7 then (
    ldA S 247 0 9 1 v1 fun x18 =>
    stA S 247 0 9 1 v1 ((x18 + 1) &&& 4095) fun S19 =>
    ldA S19 234 0 9 1 v1 fun x20 =>
    stA S19 234 0 9 1 v1 (x20 + 1) fun S21 =>
    ldA S21 234 0 9 1 v1 fun x22 =>
    if x22 = 1 then (
    cl (F_X12_begins v1 S21) fun r23 S24 =>
    some ((), S24))
    else (
    some ((), S21)))
    else (
    ldA S 253 0 208 1 v7 fun x26 =>
    stA S 242 0 22464 1 ((208 * v6) + v7) x26 fun S27 =>
    (L_X12_enqueue_116 v1 v6 n) (v7 + 1) S27)
def L_X12_enqueue_92  (v1 : Int32) (v5 : Int32) (v6 : Int32) (s1 : Int32) (s2 : Int32) (S : Mm) : Option (Unit × Mm) :=
  stA S 239 0 108 1 s1 s2 fun S13 =>
  gf S13 297 0 fun x14 =>
  stA S13 240 0 108 1 v6 x14 fun S15 =>
  stA S15 241 0 108 1 v6 v5 fun S16 =>
  L_X12_enqueue_116  v1 v6 fu 0 S16
def F_X12_enqueue (v1 : Int32) (v2 : Int32) (v3 : Int32) (v4 : Int32) (v5 : Int32) (S : Mm) : Option (Unit × Mm) :=
  ldA S 234 0 9 1 v1 fun x1 =>
  if x1 = 12 then (
  cl (F_X12_isEnded v5 3 S) fun r10 S11 =>
  some ((), S11))
  else (
  ldA S 234 0 9 1 v1 fun x2 =>
  tp ((12 * v1) + x2) fun x3 =>
  stA S 235 0 108 1 x3 v2 fun S4 =>
  stA S4 236 0 108 1 x3 v3 fun S5 =>
  stA S5 237 0 108 1 x3 v4 fun S6 =>
  ldA S6 247 0 9 1 v1 fun x7 =>
  stA S6 238 0 108 1 x3 x7 fun S8 =>
  if v2 = 8 then (
  gf S8 292 0 fun x9 =>
  L_X12_enqueue_92  v1 v5 x3 x3 x9 S8)
  else (
  L_X12_enqueue_92  v1 v5 x3 x3 255 S8))
set_option maxRecDepth 100000 in
set_option maxHeartbeats 4000000 in
theorem w_X12_enqueue_116 {p : Program} {l : Launch} {e : Env} {s : State} {m : MethodId} {args : Array Value} {below : List Frame} {meth : Method} {c : Code} {G : xG} {sz : Nat} {o : Unit × Mm} (X : xC G true sz p s m args c cX12_enqueue 8 wsX12_enqueue RX12 meth none) (v1 : Int32) (v6 : Int32)   : ∀ (n : Nat) (v7 : Int32) (S : Mm) (H : Heap) (locs : List Loc) (ls : Array Slot), L_X12_enqueue_116 v1 v6 n v7 S = some o → xW G true sz s H locs S → lv_has ls 8 [(0, .ref (G.2.2 200 0)), (1, .int v1), (6, .int v6), (7, .int v7)] → wX p l e rmX12_enqueue s m args below meth c H locs (xQv G true sz o) (XA G true sz) 116 ls [] := by
  intro n
  induction n with
  | zero =>
    intro v7 S H locs ls h
    cases h
  | succ n ih =>
    intro v7 S H locs ls h hW  hl
    rw [L_X12_enqueue_116] at h
    refine lv_iload X.1 X.2.1 dX12_enqueue_116 (lv_at hl 3 rfl) ?_
    refine lv_aload_n X.1 X.2.1 dX12_enqueue_118 rfl (lv_at hl 0 rfl) ?_
    refine x_getI X hW fd_Model_length (fun w h => List.mem_cons_of_mem _ (gin_X12 w h)) (List.mem_cons_of_mem _ gw525) z_1 dX12_enqueue_119 h (fun x17 h => ?_)
    refine x_icmp_ge X (tgt := 152) dX12_enqueue_122 (by decide) h (fun h => ?_) (fun h => ?_)
    · refine lv_aload_n X.1 X.2.1 dX12_enqueue_152 rfl (lv_at hl 0 rfl) ?_
      refine x_getR X hW fd_Model_seq (fun w h => List.mem_cons_of_mem _ (gin_X12 w h)) (List.mem_cons_of_mem _ gw198) z_1 dX12_enqueue_153 ?_
      refine lv_iload_n X.1 X.2.1 dX12_enqueue_156 rfl (lv_at hl 1 rfl) ?_
      refine lv_aload_n X.1 X.2.1 dX12_enqueue_157 rfl (lv_at hl 0 rfl) ?_
      refine x_getR X hW fd_Model_seq (fun w h => List.mem_cons_of_mem _ (gin_X12 w h)) (List.mem_cons_of_mem _ gw198) z_1 dX12_enqueue_158 ?_
      refine lv_iload_n X.1 X.2.1 dX12_enqueue_161 rfl (lv_at hl 1 rfl) ?_
      refine x_iald X hW ar_247 dX12_enqueue_162 h (fun x18 h => ?_)
      refine lv_iconst (v := 1) X.1 X.2.1 dX12_enqueue_163 rfl ?_
      refine lv_iadd X.1 X.2.1 dX12_enqueue_164 ?_
      refine lv_sipush (v := 4095) X.1 X.2.1 dX12_enqueue_165 rfl ?_
      refine lv_iand X.1 X.2.1 dX12_enqueue_168 ?_
      refine x_iast X hW ar_247 dX12_enqueue_169 h (fun S19 H locs h hW => ?_)
      refine lv_aload_n X.1 X.2.1 dX12_enqueue_170 rfl (lv_at hl 0 rfl) ?_
      refine x_getR X hW fd_Model_qMany (fun w h => List.mem_cons_of_mem _ (gin_X12 w h)) (List.mem_cons_of_mem _ gw185) z_1 dX12_enqueue_171 ?_
      refine lv_iload_n X.1 X.2.1 dX12_enqueue_174 rfl (lv_at hl 1 rfl) ?_
      refine lv_dup2_11 X.1 X.2.1 dX12_enqueue_175 rfl rfl ?_
      refine x_iald X hW ar_234 dX12_enqueue_176 h (fun x20 h => ?_)
      refine lv_iconst (v := 1) X.1 X.2.1 dX12_enqueue_177 rfl ?_
      refine lv_iadd X.1 X.2.1 dX12_enqueue_178 ?_
      refine x_iast X hW ar_234 dX12_enqueue_179 h (fun S21 H locs h hW => ?_)
      refine lv_aload_n X.1 X.2.1 dX12_enqueue_180 rfl (lv_at hl 0 rfl) ?_
      refine x_getR X hW fd_Model_qMany (fun w h => List.mem_cons_of_mem _ (gin_X12 w h)) (List.mem_cons_of_mem _ gw185) z_1 dX12_enqueue_181 ?_
      refine lv_iload_n X.1 X.2.1 dX12_enqueue_184 rfl (lv_at hl 1 rfl) ?_
      refine x_iald X hW ar_234 dX12_enqueue_185 h (fun x22 h => ?_)
      refine lv_iconst (v := 1) X.1 X.2.1 dX12_enqueue_186 rfl ?_
      refine x_icmp_ne X (tgt := 195) dX12_enqueue_187 (by decide) h (fun h => ?_) (fun h => ?_)
      · exact x_vret X hW h dX12_enqueue_195
      · refine lv_aload_n X.1 X.2.1 dX12_enqueue_190 rfl (lv_at hl 0 rfl) ?_
        refine lv_iload_n X.1 X.2.1 dX12_enqueue_191 rfl (lv_at hl 1 rfl) ?_
        obtain ⟨r23, S24, h25, h⟩ := cl_some h
        refine x_aftV X hW (x_runV (C := RX12) (a := G.2.2 200 0) (As := [.int v1]) (rest := []) X hW (c_X12_begins l G X.2.2.2.2.2.2.2.2.2.1 _ S21 v1 _ h25) (cwV 1 X.2.2.2.2.1 (gV gw542 gw543 gw544 gw5 gw545) rfl rfl rfl ⟨rfl, hd_X12_begins⟩ ⟨Nat.le_of_ble_eq_true rfl, Nat.le_of_ble_eq_true rfl⟩) (x_recv X hW ob_Model z_1) rfl hl.1 rfl (Nat.le_of_ble_eq_true rfl) dX12_enqueue_192 ⟨Nat.zero_le _, Nat.zero_le _⟩) (fun H locs hW => ?_)
        exact x_vret X hW h dX12_enqueue_195
    · refine lv_aload_n X.1 X.2.1 dX12_enqueue_125 rfl (lv_at hl 0 rfl) ?_
      refine x_getR X hW fd_Model_qBytes (fun w h => List.mem_cons_of_mem _ (gin_X12 w h)) (List.mem_cons_of_mem _ gw193) z_1 dX12_enqueue_126 ?_
      refine lv_sipush (v := 208) X.1 X.2.1 dX12_enqueue_129 rfl ?_
      refine lv_iload X.1 X.2.1 dX12_enqueue_132 (lv_at hl 2 rfl) ?_
      refine lv_imul X.1 X.2.1 dX12_enqueue_134 ?_
      refine lv_iload X.1 X.2.1 dX12_enqueue_135 (lv_at hl 3 rfl) ?_
      refine lv_iadd X.1 X.2.1 dX12_enqueue_137 ?_
      refine lv_aload_n X.1 X.2.1 dX12_enqueue_138 rfl (lv_at hl 0 rfl) ?_
      refine x_getR X hW fd_Model_message (fun w h => List.mem_cons_of_mem _ (gin_X12 w h)) (List.mem_cons_of_mem _ gw206) z_1 dX12_enqueue_139 ?_
      refine lv_iload X.1 X.2.1 dX12_enqueue_142 (lv_at hl 3 rfl) ?_
      refine x_iald X hW ar_253 dX12_enqueue_144 h (fun x26 h => ?_)
      refine x_iast X hW ar_242 dX12_enqueue_145 h (fun S27 H locs h hW => ?_)
      refine lv_iinc (v := (v7 + 1)) (lv' := [(7, .int (v7 + 1)), (0, .ref (G.2.2 200 0)), (1, .int v1), (6, .int v6)]) X.1 X.2.1 dX12_enqueue_146 hl (k := 3) rfl rfl (by decide) rfl (fun ls hl => ?_)
      refine lv_goto (tgt := 116) X.1 X.2.1 dX12_enqueue_149 (by decide) ?_
      exact ih (v7 + 1) S27 _ _ _ h hW  (lv_sub hl [1, 2, 3, 0] rfl)
set_option maxRecDepth 100000 in
set_option maxHeartbeats 4000000 in
theorem w_X12_enqueue_92 {p : Program} {l : Launch} {e : Env} {s : State} {m : MethodId} {args : Array Value} {below : List Frame} {meth : Method} {c : Code} {G : xG} {sz : Nat} {o : Unit × Mm} (X : xC G true sz p s m args c cX12_enqueue 8 wsX12_enqueue RX12 meth none) (v1 : Int32) (v5 : Int32) (v6 : Int32) (s1 : Int32) (s2 : Int32)   {S : Mm} {H : Heap} {locs : List Loc} {ls : Array Slot} (hW : xW G true sz s H locs S) (hl : lv_has ls 8 [(0, .ref (G.2.2 200 0)), (1, .int v1), (5, .int v5), (6, .int v6)]) (h : L_X12_enqueue_92  v1 v5 v6 s1 s2 S = some o) : wX p l e rmX12_enqueue s m args below meth c H locs (xQv G true sz o) (XA G true sz) 92 ls [.int s2, .int s1, .ref (G.2.2 239 0)] := by
  unfold L_X12_enqueue_92 at h
  refine x_iast X hW ar_239 dX12_enqueue_92 h (fun S13 H locs h hW => ?_)
  refine lv_aload_n X.1 X.2.1 dX12_enqueue_93 rfl (lv_at hl 0 rfl) ?_
  refine x_getR X hW fd_Model_qLen (fun w h => List.mem_cons_of_mem _ (gin_X12 w h)) (List.mem_cons_of_mem _ gw191) z_1 dX12_enqueue_94 ?_
  refine lv_iload X.1 X.2.1 dX12_enqueue_97 (lv_at hl 3 rfl) ?_
  refine lv_aload_n X.1 X.2.1 dX12_enqueue_99 rfl (lv_at hl 0 rfl) ?_
  refine x_getI X hW fd_Model_length (fun w h => List.mem_cons_of_mem _ (gin_X12 w h)) (List.mem_cons_of_mem _ gw525) z_1 dX12_enqueue_100 h (fun x14 h => ?_)
  refine x_iast X hW ar_240 dX12_enqueue_103 h (fun S15 H locs h hW => ?_)
  refine lv_aload_n X.1 X.2.1 dX12_enqueue_104 rfl (lv_at hl 0 rfl) ?_
  refine x_getR X hW fd_Model_qSub (fun w h => List.mem_cons_of_mem _ (gin_X12 w h)) (List.mem_cons_of_mem _ gw192) z_1 dX12_enqueue_105 ?_
  refine lv_iload X.1 X.2.1 dX12_enqueue_108 (lv_at hl 3 rfl) ?_
  refine lv_iload X.1 X.2.1 dX12_enqueue_110 (lv_at hl 2 rfl) ?_
  refine x_iast X hW ar_241 dX12_enqueue_112 h (fun S16 H locs h hW => ?_)
  refine lv_iconst (v := 0) X.1 X.2.1 dX12_enqueue_113 rfl ?_
  refine lv_istore (lv' := [(7, .int 0), (0, .ref (G.2.2 200 0)), (1, .int v1), (5, .int v5), (6, .int v6)]) X.1 X.2.1 dX12_enqueue_114 hl (by decide) rfl (fun ls hl => ?_)
  exact w_X12_enqueue_116 X v1 v6   fu 0 S16 _ _ _ h hW  (lv_sub hl [1, 2, 4, 0] rfl)
set_option maxRecDepth 100000 in
set_option maxHeartbeats 4000000 in
theorem w_X12_enqueue_0 {p : Program} {l : Launch} {e : Env} {s : State} {m : MethodId} {args : Array Value} {below : List Frame} {meth : Method} {c : Code} {G : xG} {sz : Nat} {o : Unit × Mm} (X : xC G true sz p s m args c cX12_enqueue 8 wsX12_enqueue RX12 meth none) (v1 : Int32) (v2 : Int32) (v3 : Int32) (v4 : Int32) (v5 : Int32) {S : Mm} {H : Heap} {locs : List Loc} {ls : Array Slot} (hW : xW G true sz s H locs S) (hl : lv_has ls 8 [(0, .ref (G.2.2 200 0)), (1, .int v1), (2, .int v2), (3, .int v3), (4, .int v4), (5, .int v5)]) (h : F_X12_enqueue v1 v2 v3 v4 v5 S = some o) : wX p l e rmX12_enqueue s m args below meth c H locs (xQv G true sz o) (XA G true sz) 0 ls [] := by
  unfold F_X12_enqueue at h
  refine lv_aload_n X.1 X.2.1 dX12_enqueue_0 rfl (lv_at hl 0 rfl) ?_
  refine x_getR X hW fd_Model_qMany (fun w h => List.mem_cons_of_mem _ (gin_X12 w h)) (List.mem_cons_of_mem _ gw185) z_1 dX12_enqueue_1 ?_
  refine lv_iload_n X.1 X.2.1 dX12_enqueue_4 rfl (lv_at hl 1 rfl) ?_
  refine x_iald X hW ar_234 dX12_enqueue_5 h (fun x1 h => ?_)
  refine lv_bipush (v := 12) X.1 X.2.1 dX12_enqueue_6 rfl ?_
  refine x_icmp_ne X (tgt := 19) dX12_enqueue_8 (by decide) h (fun h => ?_) (fun h => ?_)
  · refine lv_bipush (v := 12) X.1 X.2.1 dX12_enqueue_19 rfl ?_
    refine lv_iload_n X.1 X.2.1 dX12_enqueue_21 rfl (lv_at hl 1 rfl) ?_
    refine lv_imul X.1 X.2.1 dX12_enqueue_22 ?_
    refine lv_aload_n X.1 X.2.1 dX12_enqueue_23 rfl (lv_at hl 0 rfl) ?_
    refine x_getR X hW fd_Model_qMany (fun w h => List.mem_cons_of_mem _ (gin_X12 w h)) (List.mem_cons_of_mem _ gw185) z_1 dX12_enqueue_24 ?_
    refine lv_iload_n X.1 X.2.1 dX12_enqueue_27 rfl (lv_at hl 1 rfl) ?_
    refine x_iald X hW ar_234 dX12_enqueue_28 h (fun x2 h => ?_)
    refine lv_iadd X.1 X.2.1 dX12_enqueue_29 ?_
    refine x_top h (fun x3 h => ?_)
    refine lv_istore (lv' := [(6, .int x3), (0, .ref (G.2.2 200 0)), (1, .int v1), (2, .int v2), (3, .int v3), (4, .int v4), (5, .int v5)]) X.1 X.2.1 dX12_enqueue_30 hl (by decide) rfl (fun ls hl => ?_)
    refine lv_aload_n X.1 X.2.1 dX12_enqueue_32 rfl (lv_at hl 1 rfl) ?_
    refine x_getR X hW fd_Model_qType (fun w h => List.mem_cons_of_mem _ (gin_X12 w h)) (List.mem_cons_of_mem _ gw186) z_1 dX12_enqueue_33 ?_
    refine lv_iload X.1 X.2.1 dX12_enqueue_36 (lv_at hl 0 rfl) ?_
    refine lv_iload_n X.1 X.2.1 dX12_enqueue_38 rfl (lv_at hl 3 rfl) ?_
    refine x_iast X hW ar_235 dX12_enqueue_39 h (fun S4 H locs h hW => ?_)
    refine lv_aload_n X.1 X.2.1 dX12_enqueue_40 rfl (lv_at hl 1 rfl) ?_
    refine x_getR X hW fd_Model_qTo (fun w h => List.mem_cons_of_mem _ (gin_X12 w h)) (List.mem_cons_of_mem _ gw187) z_1 dX12_enqueue_41 ?_
    refine lv_iload X.1 X.2.1 dX12_enqueue_44 (lv_at hl 0 rfl) ?_
    refine lv_iload_n X.1 X.2.1 dX12_enqueue_46 rfl (lv_at hl 4 rfl) ?_
    refine x_iast X hW ar_236 dX12_enqueue_47 h (fun S5 H locs h hW => ?_)
    refine lv_aload_n X.1 X.2.1 dX12_enqueue_48 rfl (lv_at hl 1 rfl) ?_
    refine x_getR X hW fd_Model_qThird (fun w h => List.mem_cons_of_mem _ (gin_X12 w h)) (List.mem_cons_of_mem _ gw188) z_1 dX12_enqueue_49 ?_
    refine lv_iload X.1 X.2.1 dX12_enqueue_52 (lv_at hl 0 rfl) ?_
    refine lv_iload X.1 X.2.1 dX12_enqueue_54 (lv_at hl 5 rfl) ?_
    refine x_iast X hW ar_237 dX12_enqueue_56 h (fun S6 H locs h hW => ?_)
    refine lv_aload_n X.1 X.2.1 dX12_enqueue_57 rfl (lv_at hl 1 rfl) ?_
    refine x_getR X hW fd_Model_qSeq (fun w h => List.mem_cons_of_mem _ (gin_X12 w h)) (List.mem_cons_of_mem _ gw189) z_1 dX12_enqueue_58 ?_
    refine lv_iload X.1 X.2.1 dX12_enqueue_61 (lv_at hl 0 rfl) ?_
    refine lv_aload_n X.1 X.2.1 dX12_enqueue_63 rfl (lv_at hl 1 rfl) ?_
    refine x_getR X hW fd_Model_seq (fun w h => List.mem_cons_of_mem _ (gin_X12 w h)) (List.mem_cons_of_mem _ gw198) z_1 dX12_enqueue_64 ?_
    refine lv_iload_n X.1 X.2.1 dX12_enqueue_67 rfl (lv_at hl 2 rfl) ?_
    refine x_iald X hW ar_247 dX12_enqueue_68 h (fun x7 h => ?_)
    refine x_iast X hW ar_238 dX12_enqueue_69 h (fun S8 H locs h hW => ?_)
    refine lv_aload_n X.1 X.2.1 dX12_enqueue_70 rfl (lv_at hl 1 rfl) ?_
    refine x_getR X hW fd_Model_qSize (fun w h => List.mem_cons_of_mem _ (gin_X12 w h)) (List.mem_cons_of_mem _ gw190) z_1 dX12_enqueue_71 ?_
    refine lv_iload X.1 X.2.1 dX12_enqueue_74 (lv_at hl 0 rfl) ?_
    refine lv_iload_n X.1 X.2.1 dX12_enqueue_76 rfl (lv_at hl 3 rfl) ?_
    refine lv_bipush (v := 8) X.1 X.2.1 dX12_enqueue_77 rfl ?_
    refine x_icmp_ne X (tgt := 89) dX12_enqueue_79 (by decide) h (fun h => ?_) (fun h => ?_)
    · refine lv_sipush (v := 255) X.1 X.2.1 dX12_enqueue_89 rfl ?_
      exact w_X12_enqueue_92 X v1 v5 x3 x3 255   hW (lv_sub hl [1, 2, 6, 0] rfl) h
    · refine lv_aload_n X.1 X.2.1 dX12_enqueue_82 rfl (lv_at hl 1 rfl) ?_
      refine x_getI X hW fd_Model_sizeNow (fun w h => List.mem_cons_of_mem _ (gin_X12 w h)) (List.mem_cons_of_mem _ gw202) z_1 dX12_enqueue_83 h (fun x9 h => ?_)
      refine lv_goto (tgt := 92) X.1 X.2.1 dX12_enqueue_86 (by decide) ?_
      exact w_X12_enqueue_92 X v1 v5 x3 x3 x9   hW (lv_sub hl [1, 2, 6, 0] rfl) h
  · refine lv_aload_n X.1 X.2.1 dX12_enqueue_11 rfl (lv_at hl 0 rfl) ?_
    refine lv_iload X.1 X.2.1 dX12_enqueue_12 (lv_at hl 5 rfl) ?_
    refine lv_iconst (v := 3) X.1 X.2.1 dX12_enqueue_14 rfl ?_
    obtain ⟨r10, S11, h12, h⟩ := cl_some h
    refine x_aftV X hW (x_runV (C := RX12) (a := G.2.2 200 0) (As := [.int v5, .int 3]) (rest := []) X hW (c_X12_isEnded l G X.2.2.2.2.2.2.2.2.2.1 _ S v5 3 _ h12) (cwV 2 X.2.2.2.2.1 (gV gw538 gw539 gw540 gw5 gw541) rfl rfl rfl ⟨rfl, hd_X12_isEnded⟩ ⟨Nat.le_of_ble_eq_true rfl, Nat.le_of_ble_eq_true rfl⟩) (x_recv X hW ob_Model z_1) rfl hl.1 rfl (Nat.le_of_ble_eq_true rfl) dX12_enqueue_15 ⟨Nat.zero_le _, Nat.zero_le _⟩) (fun H locs hW => ?_)
    exact x_vret X hW h dX12_enqueue_18
theorem c_X12_enqueue (l : Launch) (G : xG) (hD : xD G true) (sz : Nat) (S : Mm) (v1 : Int32) (v2 : Int32) (v3 : Int32) (v4 : Int32) (v5 : Int32) (o : Unit × Mm) (h : F_X12_enqueue v1 v2 v3 v4 v5 S = some o) : Met l yX12_enqueue wsX12_enqueue rmX12_enqueue (xPre G true S sz [.ref (G.2.2 200 0), .int v1, .int v2, .int v3, .int v4, .int v5]) (xQv G true sz o) 0 0 (XA G true sz) :=
  x_start hD (by decide) rfl (Nat.le_of_ble_eq_true rfl) (fun p e s m below meth c X hW ls hl => w_X12_enqueue_0 X v1 v2 v3 v4 v5 hW hl h)

/-! WirelessCellModel.leaves(II)V -/
def rmX12_leaves : Room := { frames := 2, cells := 0, slots := 0, locals := 41 }
def L_X12_leaves_137 (k19 : Int32 → Mm → Option (Unit × Mm)) (v1 : Int32) (v3 : Int32) : Nat → Int32 → Mm → Option (Unit × Mm)
  | 0, _, _ => none
  | n + 1, v4, S => 
    if 208 ≤ v4 then (
    k19 (v3 + 1) S)
    else (
    ldA S 242 0 22464 1 (((208 * v3) + 208) + v4) fun x29 =>
    stA S 242 0 22464 1 ((208 * v3) + v4) x29 fun S30 =>
    (L_X12_leaves_137 k19 v1 v3 n) (v4 + 1) S30)
def L_X12_leaves_19  (v1 : Int32) : Nat → Int32 → Mm → Option (Unit × Mm)
  | 0, _, _ => none
  | n + 1, v3, S => 
    ldA S 234 0 9 1 v1 fun x6 =>
    if (((12 * v1) + x6) - 1) ≤ v3 then (
    ldA S 234 0 9 1 v1 fun x7 =>
    stA S 234 0 9 1 v1 (x7 - 1) fun S8 =>
    stA S8 250 0 9 1 v1 0 fun S9 =>
    stA S9 249 0 9 1 v1 7 fun S10 =>
    ldA S10 234 0 9 1 v1 fun x11 =>
    if x11 ≤ 0 then (
    some ((), S10))
    else (
    cl (F_X12_begins v1 S10) fun r12 S13 =>
    some ((), S13)))
    else (
    ldA S 235 0 108 1 (v3 + 1) fun x15 =>
    stA S 235 0 108 1 v3 x15 fun S16 =>
    ldA S16 236 0 108 1 (v3 + 1) fun x17 =>
    stA S16 236 0 108 1 v3 x17 fun S18 =>
    ldA S18 237 0 108 1 (v3 + 1) fun x19 =>
    stA S18 237 0 108 1 v3 x19 fun S20 =>
    ldA S20 238 0 108 1 (v3 + 1) fun x21 =>
    stA S20 238 0 108 1 v3 x21 fun S22 =>
    ldA S22 239 0 108 1 (v3 + 1) fun x23 =>
    stA S22 239 0 108 1 v3 x23 fun S24 =>
    ldA S24 240 0 108 1 (v3 + 1) fun x25 =>
    stA S24 240 0 108 1 v3 x25 fun S26 =>
    ldA S26 241 0 108 1 (v3 + 1) fun x27 =>
    stA S26 241 0 108 1 v3 x27 fun S28 =>
    L_X12_leaves_137 (L_X12_leaves_19 v1 n) v1 v3 fu 0 S28)
def F_X12_leaves (v1 : Int32) (v2 : Int32) (S : Mm) : Option (Unit × Mm) :=
  ldA S 241 0 108 1 (12 * v1) fun x1 =>
  cl (F_X12_isEnded x1 v2 S) fun r2 S3 =>
  tp (12 * v1) fun x5 =>
  L_X12_leaves_19  v1 fu x5 S3
set_option maxRecDepth 100000 in
set_option maxHeartbeats 4000000 in
theorem w_X12_leaves_137 {p : Program} {l : Launch} {e : Env} {s : State} {m : MethodId} {args : Array Value} {below : List Frame} {meth : Method} {c : Code} {G : xG} {sz : Nat} {o : Unit × Mm} (X : xC G true sz p s m args c cX12_leaves 5 wsX12_leaves RX12 meth none) (v1 : Int32) (v3 : Int32)  (k19 : Int32 → Mm → Option (Unit × Mm)) (hk19 : ∀ (v3 : Int32) (S : Mm) (H : Heap) (locs : List Loc) (ls : Array Slot), k19 v3 S = some o → xW G true sz s H locs S → lv_has ls 5 [(0, .ref (G.2.2 200 0)), (1, .int v1), (3, .int v3)] → wX p l e rmX12_leaves s m args below meth c H locs (xQv G true sz o) (XA G true sz) 19 ls []) : ∀ (n : Nat) (v4 : Int32) (S : Mm) (H : Heap) (locs : List Loc) (ls : Array Slot), L_X12_leaves_137 k19 v1 v3 n v4 S = some o → xW G true sz s H locs S → lv_has ls 5 [(0, .ref (G.2.2 200 0)), (1, .int v1), (3, .int v3), (4, .int v4)] → wX p l e rmX12_leaves s m args below meth c H locs (xQv G true sz o) (XA G true sz) 137 ls [] := by
  intro n
  induction n with
  | zero =>
    intro v4 S H locs ls h
    cases h
  | succ n ih =>
    intro v4 S H locs ls h hW  hl
    rw [L_X12_leaves_137] at h
    refine lv_iload X.1 X.2.1 dX12_leaves_137 (lv_at hl 3 rfl) ?_
    refine lv_sipush (v := 208) X.1 X.2.1 dX12_leaves_139 rfl ?_
    refine x_icmp_ge X (tgt := 181) dX12_leaves_142 (by decide) h (fun h => ?_) (fun h => ?_)
    · refine lv_iinc (v := (v3 + 1)) (lv' := [(3, .int (v3 + 1)), (0, .ref (G.2.2 200 0)), (1, .int v1), (4, .int v4)]) X.1 X.2.1 dX12_leaves_181 hl (k := 2) rfl rfl (by decide) rfl (fun ls hl => ?_)
      refine lv_goto (tgt := 19) X.1 X.2.1 dX12_leaves_184 (by decide) ?_
      exact hk19 (v3 + 1) S _ _ _ h hW  (lv_sub hl [1, 2, 0] rfl)
    · refine lv_aload_n X.1 X.2.1 dX12_leaves_145 rfl (lv_at hl 0 rfl) ?_
      refine x_getR X hW fd_Model_qBytes (fun w h => List.mem_cons_of_mem _ (gin_X12 w h)) (List.mem_cons_of_mem _ gw193) z_1 dX12_leaves_146 ?_
      refine lv_sipush (v := 208) X.1 X.2.1 dX12_leaves_149 rfl ?_
      refine lv_iload_n X.1 X.2.1 dX12_leaves_152 rfl (lv_at hl 2 rfl) ?_
      refine lv_imul X.1 X.2.1 dX12_leaves_153 ?_
      refine lv_iload X.1 X.2.1 dX12_leaves_154 (lv_at hl 3 rfl) ?_
      refine lv_iadd X.1 X.2.1 dX12_leaves_156 ?_
      refine lv_aload_n X.1 X.2.1 dX12_leaves_157 rfl (lv_at hl 0 rfl) ?_
      refine x_getR X hW fd_Model_qBytes (fun w h => List.mem_cons_of_mem _ (gin_X12 w h)) (List.mem_cons_of_mem _ gw193) z_1 dX12_leaves_158 ?_
      refine lv_sipush (v := 208) X.1 X.2.1 dX12_leaves_161 rfl ?_
      refine lv_iload_n X.1 X.2.1 dX12_leaves_164 rfl (lv_at hl 2 rfl) ?_
      refine lv_imul X.1 X.2.1 dX12_leaves_165 ?_
      refine lv_sipush (v := 208) X.1 X.2.1 dX12_leaves_166 rfl ?_
      refine lv_iadd X.1 X.2.1 dX12_leaves_169 ?_
      refine lv_iload X.1 X.2.1 dX12_leaves_170 (lv_at hl 3 rfl) ?_
      refine lv_iadd X.1 X.2.1 dX12_leaves_172 ?_
      refine x_iald X hW ar_242 dX12_leaves_173 h (fun x29 h => ?_)
      refine x_iast X hW ar_242 dX12_leaves_174 h (fun S30 H locs h hW => ?_)
      refine lv_iinc (v := (v4 + 1)) (lv' := [(4, .int (v4 + 1)), (0, .ref (G.2.2 200 0)), (1, .int v1), (3, .int v3)]) X.1 X.2.1 dX12_leaves_175 hl (k := 3) rfl rfl (by decide) rfl (fun ls hl => ?_)
      refine lv_goto (tgt := 137) X.1 X.2.1 dX12_leaves_178 (by decide) ?_
      exact ih (v4 + 1) S30 _ _ _ h hW  (lv_sub hl [1, 2, 3, 0] rfl)
set_option maxRecDepth 100000 in
set_option maxHeartbeats 4000000 in
theorem w_X12_leaves_19 {p : Program} {l : Launch} {e : Env} {s : State} {m : MethodId} {args : Array Value} {below : List Frame} {meth : Method} {c : Code} {G : xG} {sz : Nat} {o : Unit × Mm} (X : xC G true sz p s m args c cX12_leaves 5 wsX12_leaves RX12 meth none) (v1 : Int32)   : ∀ (n : Nat) (v3 : Int32) (S : Mm) (H : Heap) (locs : List Loc) (ls : Array Slot), L_X12_leaves_19 v1 n v3 S = some o → xW G true sz s H locs S → lv_has ls 5 [(0, .ref (G.2.2 200 0)), (1, .int v1), (3, .int v3)] → wX p l e rmX12_leaves s m args below meth c H locs (xQv G true sz o) (XA G true sz) 19 ls [] := by
  intro n
  induction n with
  | zero =>
    intro v3 S H locs ls h
    cases h
  | succ n ih =>
    intro v3 S H locs ls h hW  hl
    rw [L_X12_leaves_19] at h
    refine lv_iload_n X.1 X.2.1 dX12_leaves_19 rfl (lv_at hl 2 rfl) ?_
    refine lv_bipush (v := 12) X.1 X.2.1 dX12_leaves_20 rfl ?_
    refine lv_iload_n X.1 X.2.1 dX12_leaves_22 rfl (lv_at hl 1 rfl) ?_
    refine lv_imul X.1 X.2.1 dX12_leaves_23 ?_
    refine lv_aload_n X.1 X.2.1 dX12_leaves_24 rfl (lv_at hl 0 rfl) ?_
    refine x_getR X hW fd_Model_qMany (fun w h => List.mem_cons_of_mem _ (gin_X12 w h)) (List.mem_cons_of_mem _ gw185) z_1 dX12_leaves_25 ?_
    refine lv_iload_n X.1 X.2.1 dX12_leaves_28 rfl (lv_at hl 1 rfl) ?_
    refine x_iald X hW ar_234 dX12_leaves_29 h (fun x6 h => ?_)
    refine lv_iadd X.1 X.2.1 dX12_leaves_30 ?_
    refine lv_iconst (v := 1) X.1 X.2.1 dX12_leaves_31 rfl ?_
    refine lv_isub X.1 X.2.1 dX12_leaves_32 ?_
    refine x_icmp_ge X (tgt := 187) dX12_leaves_33 (by decide) h (fun h => ?_) (fun h => ?_)
    · refine lv_aload_n X.1 X.2.1 dX12_leaves_187 rfl (lv_at hl 0 rfl) ?_
      refine x_getR X hW fd_Model_qMany (fun w h => List.mem_cons_of_mem _ (gin_X12 w h)) (List.mem_cons_of_mem _ gw185) z_1 dX12_leaves_188 ?_
      refine lv_iload_n X.1 X.2.1 dX12_leaves_191 rfl (lv_at hl 1 rfl) ?_
      refine lv_dup2_11 X.1 X.2.1 dX12_leaves_192 rfl rfl ?_
      refine x_iald X hW ar_234 dX12_leaves_193 h (fun x7 h => ?_)
      refine lv_iconst (v := 1) X.1 X.2.1 dX12_leaves_194 rfl ?_
      refine lv_isub X.1 X.2.1 dX12_leaves_195 ?_
      refine x_iast X hW ar_234 dX12_leaves_196 h (fun S8 H locs h hW => ?_)
      refine lv_aload_n X.1 X.2.1 dX12_leaves_197 rfl (lv_at hl 0 rfl) ?_
      refine x_getR X hW fd_Model_tries (fun w h => List.mem_cons_of_mem _ (gin_X12 w h)) (List.mem_cons_of_mem _ gw201) z_1 dX12_leaves_198 ?_
      refine lv_iload_n X.1 X.2.1 dX12_leaves_201 rfl (lv_at hl 1 rfl) ?_
      refine lv_iconst (v := 0) X.1 X.2.1 dX12_leaves_202 rfl ?_
      refine x_iast X hW ar_250 dX12_leaves_203 h (fun S9 H locs h hW => ?_)
      refine lv_aload_n X.1 X.2.1 dX12_leaves_204 rfl (lv_at hl 0 rfl) ?_
      refine x_getR X hW fd_Model_cw (fun w h => List.mem_cons_of_mem _ (gin_X12 w h)) (List.mem_cons_of_mem _ gw200) z_1 dX12_leaves_205 ?_
      refine lv_iload_n X.1 X.2.1 dX12_leaves_208 rfl (lv_at hl 1 rfl) ?_
      refine lv_bipush (v := 7) X.1 X.2.1 dX12_leaves_209 rfl ?_
      refine x_iast X hW ar_249 dX12_leaves_211 h (fun S10 H locs h hW => ?_)
      refine lv_aload_n X.1 X.2.1 dX12_leaves_212 rfl (lv_at hl 0 rfl) ?_
      refine x_getR X hW fd_Model_qMany (fun w h => List.mem_cons_of_mem _ (gin_X12 w h)) (List.mem_cons_of_mem _ gw185) z_1 dX12_leaves_213 ?_
      refine lv_iload_n X.1 X.2.1 dX12_leaves_216 rfl (lv_at hl 1 rfl) ?_
      refine x_iald X hW ar_234 dX12_leaves_217 h (fun x11 h => ?_)
      refine x_if_le X (tgt := 226) dX12_leaves_218 (by decide) h (fun h => ?_) (fun h => ?_)
      · exact x_vret X hW h dX12_leaves_226
      · refine lv_aload_n X.1 X.2.1 dX12_leaves_221 rfl (lv_at hl 0 rfl) ?_
        refine lv_iload_n X.1 X.2.1 dX12_leaves_222 rfl (lv_at hl 1 rfl) ?_
        obtain ⟨r12, S13, h14, h⟩ := cl_some h
        refine x_aftV X hW (x_runV (C := RX12) (a := G.2.2 200 0) (As := [.int v1]) (rest := []) X hW (c_X12_begins l G X.2.2.2.2.2.2.2.2.2.1 _ S10 v1 _ h14) (cwV 1 X.2.2.2.2.1 (gV gw542 gw543 gw544 gw5 gw545) rfl rfl rfl ⟨rfl, hd_X12_begins⟩ ⟨Nat.le_of_ble_eq_true rfl, Nat.le_of_ble_eq_true rfl⟩) (x_recv X hW ob_Model z_1) rfl hl.1 rfl (Nat.le_of_ble_eq_true rfl) dX12_leaves_223 ⟨Nat.zero_le _, Nat.zero_le _⟩) (fun H locs hW => ?_)
        exact x_vret X hW h dX12_leaves_226
    · refine lv_aload_n X.1 X.2.1 dX12_leaves_36 rfl (lv_at hl 0 rfl) ?_
      refine x_getR X hW fd_Model_qType (fun w h => List.mem_cons_of_mem _ (gin_X12 w h)) (List.mem_cons_of_mem _ gw186) z_1 dX12_leaves_37 ?_
      refine lv_iload_n X.1 X.2.1 dX12_leaves_40 rfl (lv_at hl 2 rfl) ?_
      refine lv_aload_n X.1 X.2.1 dX12_leaves_41 rfl (lv_at hl 0 rfl) ?_
      refine x_getR X hW fd_Model_qType (fun w h => List.mem_cons_of_mem _ (gin_X12 w h)) (List.mem_cons_of_mem _ gw186) z_1 dX12_leaves_42 ?_
      refine lv_iload_n X.1 X.2.1 dX12_leaves_45 rfl (lv_at hl 2 rfl) ?_
      refine lv_iconst (v := 1) X.1 X.2.1 dX12_leaves_46 rfl ?_
      refine lv_iadd X.1 X.2.1 dX12_leaves_47 ?_
      refine x_iald X hW ar_235 dX12_leaves_48 h (fun x15 h => ?_)
      refine x_iast X hW ar_235 dX12_leaves_49 h (fun S16 H locs h hW => ?_)
      refine lv_aload_n X.1 X.2.1 dX12_leaves_50 rfl (lv_at hl 0 rfl) ?_
      refine x_getR X hW fd_Model_qTo (fun w h => List.mem_cons_of_mem _ (gin_X12 w h)) (List.mem_cons_of_mem _ gw187) z_1 dX12_leaves_51 ?_
      refine lv_iload_n X.1 X.2.1 dX12_leaves_54 rfl (lv_at hl 2 rfl) ?_
      refine lv_aload_n X.1 X.2.1 dX12_leaves_55 rfl (lv_at hl 0 rfl) ?_
      refine x_getR X hW fd_Model_qTo (fun w h => List.mem_cons_of_mem _ (gin_X12 w h)) (List.mem_cons_of_mem _ gw187) z_1 dX12_leaves_56 ?_
      refine lv_iload_n X.1 X.2.1 dX12_leaves_59 rfl (lv_at hl 2 rfl) ?_
      refine lv_iconst (v := 1) X.1 X.2.1 dX12_leaves_60 rfl ?_
      refine lv_iadd X.1 X.2.1 dX12_leaves_61 ?_
      refine x_iald X hW ar_236 dX12_leaves_62 h (fun x17 h => ?_)
      refine x_iast X hW ar_236 dX12_leaves_63 h (fun S18 H locs h hW => ?_)
      refine lv_aload_n X.1 X.2.1 dX12_leaves_64 rfl (lv_at hl 0 rfl) ?_
      refine x_getR X hW fd_Model_qThird (fun w h => List.mem_cons_of_mem _ (gin_X12 w h)) (List.mem_cons_of_mem _ gw188) z_1 dX12_leaves_65 ?_
      refine lv_iload_n X.1 X.2.1 dX12_leaves_68 rfl (lv_at hl 2 rfl) ?_
      refine lv_aload_n X.1 X.2.1 dX12_leaves_69 rfl (lv_at hl 0 rfl) ?_
      refine x_getR X hW fd_Model_qThird (fun w h => List.mem_cons_of_mem _ (gin_X12 w h)) (List.mem_cons_of_mem _ gw188) z_1 dX12_leaves_70 ?_
      refine lv_iload_n X.1 X.2.1 dX12_leaves_73 rfl (lv_at hl 2 rfl) ?_
      refine lv_iconst (v := 1) X.1 X.2.1 dX12_leaves_74 rfl ?_
      refine lv_iadd X.1 X.2.1 dX12_leaves_75 ?_
      refine x_iald X hW ar_237 dX12_leaves_76 h (fun x19 h => ?_)
      refine x_iast X hW ar_237 dX12_leaves_77 h (fun S20 H locs h hW => ?_)
      refine lv_aload_n X.1 X.2.1 dX12_leaves_78 rfl (lv_at hl 0 rfl) ?_
      refine x_getR X hW fd_Model_qSeq (fun w h => List.mem_cons_of_mem _ (gin_X12 w h)) (List.mem_cons_of_mem _ gw189) z_1 dX12_leaves_79 ?_
      refine lv_iload_n X.1 X.2.1 dX12_leaves_82 rfl (lv_at hl 2 rfl) ?_
      refine lv_aload_n X.1 X.2.1 dX12_leaves_83 rfl (lv_at hl 0 rfl) ?_
      refine x_getR X hW fd_Model_qSeq (fun w h => List.mem_cons_of_mem _ (gin_X12 w h)) (List.mem_cons_of_mem _ gw189) z_1 dX12_leaves_84 ?_
      refine lv_iload_n X.1 X.2.1 dX12_leaves_87 rfl (lv_at hl 2 rfl) ?_
      refine lv_iconst (v := 1) X.1 X.2.1 dX12_leaves_88 rfl ?_
      refine lv_iadd X.1 X.2.1 dX12_leaves_89 ?_
      refine x_iald X hW ar_238 dX12_leaves_90 h (fun x21 h => ?_)
      refine x_iast X hW ar_238 dX12_leaves_91 h (fun S22 H locs h hW => ?_)
      refine lv_aload_n X.1 X.2.1 dX12_leaves_92 rfl (lv_at hl 0 rfl) ?_
      refine x_getR X hW fd_Model_qSize (fun w h => List.mem_cons_of_mem _ (gin_X12 w h)) (List.mem_cons_of_mem _ gw190) z_1 dX12_leaves_93 ?_
      refine lv_iload_n X.1 X.2.1 dX12_leaves_96 rfl (lv_at hl 2 rfl) ?_
      refine lv_aload_n X.1 X.2.1 dX12_leaves_97 rfl (lv_at hl 0 rfl) ?_
      refine x_getR X hW fd_Model_qSize (fun w h => List.mem_cons_of_mem _ (gin_X12 w h)) (List.mem_cons_of_mem _ gw190) z_1 dX12_leaves_98 ?_
      refine lv_iload_n X.1 X.2.1 dX12_leaves_101 rfl (lv_at hl 2 rfl) ?_
      refine lv_iconst (v := 1) X.1 X.2.1 dX12_leaves_102 rfl ?_
      refine lv_iadd X.1 X.2.1 dX12_leaves_103 ?_
      refine x_iald X hW ar_239 dX12_leaves_104 h (fun x23 h => ?_)
      refine x_iast X hW ar_239 dX12_leaves_105 h (fun S24 H locs h hW => ?_)
      refine lv_aload_n X.1 X.2.1 dX12_leaves_106 rfl (lv_at hl 0 rfl) ?_
      refine x_getR X hW fd_Model_qLen (fun w h => List.mem_cons_of_mem _ (gin_X12 w h)) (List.mem_cons_of_mem _ gw191) z_1 dX12_leaves_107 ?_
      refine lv_iload_n X.1 X.2.1 dX12_leaves_110 rfl (lv_at hl 2 rfl) ?_
      refine lv_aload_n X.1 X.2.1 dX12_leaves_111 rfl (lv_at hl 0 rfl) ?_
      refine x_getR X hW fd_Model_qLen (fun w h => List.mem_cons_of_mem _ (gin_X12 w h)) (List.mem_cons_of_mem _ gw191) z_1 dX12_leaves_112 ?_
      refine lv_iload_n X.1 X.2.1 dX12_leaves_115 rfl (lv_at hl 2 rfl) ?_
      refine lv_iconst (v := 1) X.1 X.2.1 dX12_leaves_116 rfl ?_
      refine lv_iadd X.1 X.2.1 dX12_leaves_117 ?_
      refine x_iald X hW ar_240 dX12_leaves_118 h (fun x25 h => ?_)
      refine x_iast X hW ar_240 dX12_leaves_119 h (fun S26 H locs h hW => ?_)
      refine lv_aload_n X.1 X.2.1 dX12_leaves_120 rfl (lv_at hl 0 rfl) ?_
      refine x_getR X hW fd_Model_qSub (fun w h => List.mem_cons_of_mem _ (gin_X12 w h)) (List.mem_cons_of_mem _ gw192) z_1 dX12_leaves_121 ?_
      refine lv_iload_n X.1 X.2.1 dX12_leaves_124 rfl (lv_at hl 2 rfl) ?_
      refine lv_aload_n X.1 X.2.1 dX12_leaves_125 rfl (lv_at hl 0 rfl) ?_
      refine x_getR X hW fd_Model_qSub (fun w h => List.mem_cons_of_mem _ (gin_X12 w h)) (List.mem_cons_of_mem _ gw192) z_1 dX12_leaves_126 ?_
      refine lv_iload_n X.1 X.2.1 dX12_leaves_129 rfl (lv_at hl 2 rfl) ?_
      refine lv_iconst (v := 1) X.1 X.2.1 dX12_leaves_130 rfl ?_
      refine lv_iadd X.1 X.2.1 dX12_leaves_131 ?_
      refine x_iald X hW ar_241 dX12_leaves_132 h (fun x27 h => ?_)
      refine x_iast X hW ar_241 dX12_leaves_133 h (fun S28 H locs h hW => ?_)
      refine lv_iconst (v := 0) X.1 X.2.1 dX12_leaves_134 rfl ?_
      refine lv_istore (lv' := [(4, .int 0), (0, .ref (G.2.2 200 0)), (1, .int v1), (3, .int v3)]) X.1 X.2.1 dX12_leaves_135 hl (by decide) rfl (fun ls hl => ?_)
      exact w_X12_leaves_137 X v1 v3  (L_X12_leaves_19 v1 n) ih fu 0 S28 _ _ _ h hW  (lv_sub hl [1, 2, 3, 0] rfl)
set_option maxRecDepth 100000 in
set_option maxHeartbeats 4000000 in
theorem w_X12_leaves_0 {p : Program} {l : Launch} {e : Env} {s : State} {m : MethodId} {args : Array Value} {below : List Frame} {meth : Method} {c : Code} {G : xG} {sz : Nat} {o : Unit × Mm} (X : xC G true sz p s m args c cX12_leaves 5 wsX12_leaves RX12 meth none) (v1 : Int32) (v2 : Int32) {S : Mm} {H : Heap} {locs : List Loc} {ls : Array Slot} (hW : xW G true sz s H locs S) (hl : lv_has ls 5 [(0, .ref (G.2.2 200 0)), (1, .int v1), (2, .int v2)]) (h : F_X12_leaves v1 v2 S = some o) : wX p l e rmX12_leaves s m args below meth c H locs (xQv G true sz o) (XA G true sz) 0 ls [] := by
  unfold F_X12_leaves at h
  refine lv_aload_n X.1 X.2.1 dX12_leaves_0 rfl (lv_at hl 0 rfl) ?_
  refine lv_aload_n X.1 X.2.1 dX12_leaves_1 rfl (lv_at hl 0 rfl) ?_
  refine x_getR X hW fd_Model_qSub (fun w h => List.mem_cons_of_mem _ (gin_X12 w h)) (List.mem_cons_of_mem _ gw192) z_1 dX12_leaves_2 ?_
  refine lv_bipush (v := 12) X.1 X.2.1 dX12_leaves_5 rfl ?_
  refine lv_iload_n X.1 X.2.1 dX12_leaves_7 rfl (lv_at hl 1 rfl) ?_
  refine lv_imul X.1 X.2.1 dX12_leaves_8 ?_
  refine x_iald X hW ar_241 dX12_leaves_9 h (fun x1 h => ?_)
  refine lv_iload_n X.1 X.2.1 dX12_leaves_10 rfl (lv_at hl 2 rfl) ?_
  obtain ⟨r2, S3, h4, h⟩ := cl_some h
  refine x_aftV X hW (x_runV (C := RX12) (a := G.2.2 200 0) (As := [.int x1, .int v2]) (rest := []) X hW (c_X12_isEnded l G X.2.2.2.2.2.2.2.2.2.1 _ S x1 v2 _ h4) (cwV 2 X.2.2.2.2.1 (gV gw538 gw539 gw540 gw5 gw541) rfl rfl rfl ⟨rfl, hd_X12_isEnded⟩ ⟨Nat.le_of_ble_eq_true rfl, Nat.le_of_ble_eq_true rfl⟩) (x_recv X hW ob_Model z_1) rfl hl.1 rfl (Nat.le_of_ble_eq_true rfl) dX12_leaves_11 ⟨Nat.zero_le _, Nat.zero_le _⟩) (fun H locs hW => ?_)
  refine lv_bipush (v := 12) X.1 X.2.1 dX12_leaves_14 rfl ?_
  refine lv_iload_n X.1 X.2.1 dX12_leaves_16 rfl (lv_at hl 1 rfl) ?_
  refine lv_imul X.1 X.2.1 dX12_leaves_17 ?_
  refine x_top h (fun x5 h => ?_)
  refine lv_istore_n (lv' := [(3, .int x5), (0, .ref (G.2.2 200 0)), (1, .int v1), (2, .int v2)]) X.1 X.2.1 dX12_leaves_18 rfl hl (by decide) rfl (fun ls hl => ?_)
  exact w_X12_leaves_19 X v1   fu x5 S3 _ _ _ h hW  (lv_sub hl [1, 2, 0] rfl)
theorem c_X12_leaves (l : Launch) (G : xG) (hD : xD G true) (sz : Nat) (S : Mm) (v1 : Int32) (v2 : Int32) (o : Unit × Mm) (h : F_X12_leaves v1 v2 S = some o) : Met l yX12_leaves wsX12_leaves rmX12_leaves (xPre G true S sz [.ref (G.2.2 200 0), .int v1, .int v2]) (xQv G true sz o) 0 0 (XA G true sz) :=
  x_start hD (by decide) rfl (Nat.le_of_ble_eq_true rfl) (fun p e s m below meth c X hW ls hl => w_X12_leaves_0 X v1 v2 hW hl h)

/-! WirelessCellModel.partsOf(I)I -/
def rmX12_partsOf : Room := { frames := 0, cells := 0, slots := 0, locals := 0 }
def F_X12_partsOf (v1 : Int32) (S : Mm) : Option (Int32 × Mm) :=
  tp (12 * v1) fun x1 =>
  ldA S 235 0 108 1 x1 fun x2 =>
  if x2 = 8 then (
  ldA S 240 0 108 1 x1 fun x3 =>
  ldA S 239 0 108 1 x1 fun x4 =>
  ldA S 239 0 108 1 x1 fun x5 =>
  gd (¬ x5 = 0) (
  some ((((x3 + x4) - 1) / x5), S)))
  else (
  some (1, S))
set_option maxRecDepth 100000 in
set_option maxHeartbeats 4000000 in
theorem w_X12_partsOf_0 {p : Program} {l : Launch} {e : Env} {s : State} {m : MethodId} {args : Array Value} {below : List Frame} {meth : Method} {c : Code} {G : xG} {sz : Nat} {o : Int32 × Mm} (X : xC G true sz p s m args c cX12_partsOf 3 wsX12_partsOf RX12 meth (some .int)) (v1 : Int32) {S : Mm} {H : Heap} {locs : List Loc} {ls : Array Slot} (hW : xW G true sz s H locs S) (hl : lv_has ls 3 [(0, .ref (G.2.2 200 0)), (1, .int v1)]) (h : F_X12_partsOf v1 S = some o) : wX p l e rmX12_partsOf s m args below meth c H locs (xQi G true sz o) (XA G true sz) 0 ls [] := by
  unfold F_X12_partsOf at h
  refine lv_bipush (v := 12) X.1 X.2.1 dX12_partsOf_0 rfl ?_
  refine lv_iload_n X.1 X.2.1 dX12_partsOf_2 rfl (lv_at hl 1 rfl) ?_
  refine lv_imul X.1 X.2.1 dX12_partsOf_3 ?_
  refine x_top h (fun x1 h => ?_)
  refine lv_istore_n (lv' := [(2, .int x1), (0, .ref (G.2.2 200 0)), (1, .int v1)]) X.1 X.2.1 dX12_partsOf_4 rfl hl (by decide) rfl (fun ls hl => ?_)
  refine lv_aload_n X.1 X.2.1 dX12_partsOf_5 rfl (lv_at hl 1 rfl) ?_
  refine x_getR X hW fd_Model_qType (fun w h => List.mem_cons_of_mem _ (gin_X12 w h)) (List.mem_cons_of_mem _ gw186) z_1 dX12_partsOf_6 ?_
  refine lv_iload_n X.1 X.2.1 dX12_partsOf_9 rfl (lv_at hl 0 rfl) ?_
  refine x_iald X hW ar_235 dX12_partsOf_10 h (fun x2 h => ?_)
  refine lv_bipush (v := 8) X.1 X.2.1 dX12_partsOf_11 rfl ?_
  refine x_icmp_eq X (tgt := 20) dX12_partsOf_13 (by decide) h (fun h => ?_) (fun h => ?_)
  · refine lv_aload_n X.1 X.2.1 dX12_partsOf_20 rfl (lv_at hl 1 rfl) ?_
    refine x_getR X hW fd_Model_qLen (fun w h => List.mem_cons_of_mem _ (gin_X12 w h)) (List.mem_cons_of_mem _ gw191) z_1 dX12_partsOf_21 ?_
    refine lv_iload_n X.1 X.2.1 dX12_partsOf_24 rfl (lv_at hl 0 rfl) ?_
    refine x_iald X hW ar_240 dX12_partsOf_25 h (fun x3 h => ?_)
    refine lv_aload_n X.1 X.2.1 dX12_partsOf_26 rfl (lv_at hl 1 rfl) ?_
    refine x_getR X hW fd_Model_qSize (fun w h => List.mem_cons_of_mem _ (gin_X12 w h)) (List.mem_cons_of_mem _ gw190) z_1 dX12_partsOf_27 ?_
    refine lv_iload_n X.1 X.2.1 dX12_partsOf_30 rfl (lv_at hl 0 rfl) ?_
    refine x_iald X hW ar_239 dX12_partsOf_31 h (fun x4 h => ?_)
    refine lv_iadd X.1 X.2.1 dX12_partsOf_32 ?_
    refine lv_iconst (v := 1) X.1 X.2.1 dX12_partsOf_33 rfl ?_
    refine lv_isub X.1 X.2.1 dX12_partsOf_34 ?_
    refine lv_aload_n X.1 X.2.1 dX12_partsOf_35 rfl (lv_at hl 1 rfl) ?_
    refine x_getR X hW fd_Model_qSize (fun w h => List.mem_cons_of_mem _ (gin_X12 w h)) (List.mem_cons_of_mem _ gw190) z_1 dX12_partsOf_36 ?_
    refine lv_iload_n X.1 X.2.1 dX12_partsOf_39 rfl (lv_at hl 0 rfl) ?_
    refine x_iald X hW ar_239 dX12_partsOf_40 h (fun x5 h => ?_)
    obtain ⟨g6, h⟩ := if_some h
    refine lv_idiv X.1 X.2.1 dX12_partsOf_41 g6 ?_
    exact x_iret X hW h dX12_partsOf_42
  · refine lv_iconst (v := 1) X.1 X.2.1 dX12_partsOf_16 rfl ?_
    refine lv_goto (tgt := 42) X.1 X.2.1 dX12_partsOf_17 (by decide) ?_
    exact x_iret X hW h dX12_partsOf_42
theorem c_X12_partsOf (l : Launch) (G : xG) (hD : xD G true) (sz : Nat) (S : Mm) (v1 : Int32) (o : Int32 × Mm) (h : F_X12_partsOf v1 S = some o) : Met l yX12_partsOf wsX12_partsOf rmX12_partsOf (xPre G true S sz [.ref (G.2.2 200 0), .int v1]) (xQi G true sz o) 0 0 (XA G true sz) :=
  x_start hD (by decide) rfl (Nat.le_of_ble_eq_true rfl) (fun p e s m below meth c X hW ls hl => w_X12_partsOf_0 X v1 hW hl h)

/-! WirelessCellModel.isSealed(I)Z -/
def rmX12_isSealed : Room := { frames := 0, cells := 0, slots := 0, locals := 0 }
def L_X12_isSealed_38   (S : Mm) : Option (Int32 × Mm) :=
  some (0, S)
def F_X12_isSealed (v1 : Int32) (S : Mm) : Option (Int32 × Mm) :=
  tp (12 * v1) fun x1 =>
  ldA S 235 0 108 1 x1 fun x2 =>
  if x2 = 8 then (
  ldA S 242 0 22464 1 ((208 * x1) + 6) fun x3 =>
  if x3 = 8 then (
  some (1, S))
  else (
  L_X12_isSealed_38  S))
  else (
  L_X12_isSealed_38  S)
set_option maxRecDepth 100000 in
set_option maxHeartbeats 4000000 in
theorem w_X12_isSealed_38 {p : Program} {l : Launch} {e : Env} {s : State} {m : MethodId} {args : Array Value} {below : List Frame} {meth : Method} {c : Code} {G : xG} {sz : Nat} {o : Int32 × Mm} (X : xC G true sz p s m args c cX12_isSealed 3 wsX12_isSealed RX12 meth (some .boolean))    {S : Mm} {H : Heap} {locs : List Loc} {ls : Array Slot} (hW : xW G true sz s H locs S) (hl : lv_has ls 3 []) (h : L_X12_isSealed_38   S = some o) : wX p l e rmX12_isSealed s m args below meth c H locs (xQi G true sz o) (XA G true sz) 38 ls [] := by
  unfold L_X12_isSealed_38 at h
  refine lv_iconst (v := 0) X.1 X.2.1 dX12_isSealed_38 rfl ?_
  exact x_zret X hW h rfl dX12_isSealed_39
set_option maxRecDepth 100000 in
set_option maxHeartbeats 4000000 in
theorem w_X12_isSealed_0 {p : Program} {l : Launch} {e : Env} {s : State} {m : MethodId} {args : Array Value} {below : List Frame} {meth : Method} {c : Code} {G : xG} {sz : Nat} {o : Int32 × Mm} (X : xC G true sz p s m args c cX12_isSealed 3 wsX12_isSealed RX12 meth (some .boolean)) (v1 : Int32) {S : Mm} {H : Heap} {locs : List Loc} {ls : Array Slot} (hW : xW G true sz s H locs S) (hl : lv_has ls 3 [(0, .ref (G.2.2 200 0)), (1, .int v1)]) (h : F_X12_isSealed v1 S = some o) : wX p l e rmX12_isSealed s m args below meth c H locs (xQi G true sz o) (XA G true sz) 0 ls [] := by
  unfold F_X12_isSealed at h
  refine lv_bipush (v := 12) X.1 X.2.1 dX12_isSealed_0 rfl ?_
  refine lv_iload_n X.1 X.2.1 dX12_isSealed_2 rfl (lv_at hl 1 rfl) ?_
  refine lv_imul X.1 X.2.1 dX12_isSealed_3 ?_
  refine x_top h (fun x1 h => ?_)
  refine lv_istore_n (lv' := [(2, .int x1), (0, .ref (G.2.2 200 0)), (1, .int v1)]) X.1 X.2.1 dX12_isSealed_4 rfl hl (by decide) rfl (fun ls hl => ?_)
  refine lv_aload_n X.1 X.2.1 dX12_isSealed_5 rfl (lv_at hl 1 rfl) ?_
  refine x_getR X hW fd_Model_qType (fun w h => List.mem_cons_of_mem _ (gin_X12 w h)) (List.mem_cons_of_mem _ gw186) z_1 dX12_isSealed_6 ?_
  refine lv_iload_n X.1 X.2.1 dX12_isSealed_9 rfl (lv_at hl 0 rfl) ?_
  refine x_iald X hW ar_235 dX12_isSealed_10 h (fun x2 h => ?_)
  refine lv_bipush (v := 8) X.1 X.2.1 dX12_isSealed_11 rfl ?_
  refine x_icmp_ne X (tgt := 38) dX12_isSealed_13 (by decide) h (fun h => ?_) (fun h => ?_)
  · exact w_X12_isSealed_38 X    hW (lv_sub hl [] rfl) h
  · refine lv_aload_n X.1 X.2.1 dX12_isSealed_16 rfl (lv_at hl 1 rfl) ?_
    refine x_getR X hW fd_Model_qBytes (fun w h => List.mem_cons_of_mem _ (gin_X12 w h)) (List.mem_cons_of_mem _ gw193) z_1 dX12_isSealed_17 ?_
    refine lv_sipush (v := 208) X.1 X.2.1 dX12_isSealed_20 rfl ?_
    refine lv_iload_n X.1 X.2.1 dX12_isSealed_23 rfl (lv_at hl 0 rfl) ?_
    refine lv_imul X.1 X.2.1 dX12_isSealed_24 ?_
    refine lv_bipush (v := 6) X.1 X.2.1 dX12_isSealed_25 rfl ?_
    refine lv_iadd X.1 X.2.1 dX12_isSealed_27 ?_
    refine x_iald X hW ar_242 dX12_isSealed_28 h (fun x3 h => ?_)
    refine lv_bipush (v := 8) X.1 X.2.1 dX12_isSealed_29 rfl ?_
    refine x_icmp_ne X (tgt := 38) dX12_isSealed_31 (by decide) h (fun h => ?_) (fun h => ?_)
    · exact w_X12_isSealed_38 X    hW (lv_sub hl [] rfl) h
    · refine lv_iconst (v := 1) X.1 X.2.1 dX12_isSealed_34 rfl ?_
      refine lv_goto (tgt := 39) X.1 X.2.1 dX12_isSealed_35 (by decide) ?_
      exact x_zret X hW h rfl dX12_isSealed_39
theorem c_X12_isSealed (l : Launch) (G : xG) (hD : xD G true) (sz : Nat) (S : Mm) (v1 : Int32) (o : Int32 × Mm) (h : F_X12_isSealed v1 S = some o) : Met l yX12_isSealed wsX12_isSealed rmX12_isSealed (xPre G true S sz [.ref (G.2.2 200 0), .int v1]) (xQi G true sz o) 0 0 (XA G true sz) :=
  x_start hD (by decide) rfl (Nat.le_of_ble_eq_true rfl) (fun p e s m below meth c X hW ls hl => w_X12_isSealed_0 X v1 hW hl h)

/-! WirelessCellModel.putAddress([III)V -/
def rmX12_putAddress : Room := { frames := 0, cells := 0, slots := 0, locals := 0 }
def L_X12_putAddress_30 (k2 : Int32 → Mm → Option (Unit × Mm)) (cv0 : Nat) (v0 : Nat) (v1 : Int32) (v2 : Int32) (v3 : Int32) (cs0 : Nat) (s0 : Nat) (s1 : Int32) (s2 : Int32) (S : Mm) : Option (Unit × Mm) :=
  stP true S cs0 s0 s1 s2 fun S1 =>
  k2 (v3 + 1) S1
def L_X12_putAddress_2  (cv0 : Nat) (v0 : Nat) (v1 : Int32) (v2 : Int32) : Nat → Int32 → Mm → Option (Unit × Mm)
  | 0, _, _ => none
  | n + 1, v3, S => 
    if 6 ≤ v3 then (
    some ((), S))
    else (
    if v3 = 0 then (
    L_X12_putAddress_30 (L_X12_putAddress_2 cv0 v0 v1 v2 n) cv0 v0 v1 v2 v3 cv0 v0 (v1 + v3) 2 S)
    else (
    if v3 = 5 then (
    L_X12_putAddress_30 (L_X12_putAddress_2 cv0 v0 v1 v2 n) cv0 v0 v1 v2 v3 cv0 v0 (v1 + v3) v2 S)
    else (
    L_X12_putAddress_30 (L_X12_putAddress_2 cv0 v0 v1 v2 n) cv0 v0 v1 v2 v3 cv0 v0 (v1 + v3) 0 S)))
def F_X12_putAddress (cv0 : Nat) (v0 : Nat) (v1 : Int32) (v2 : Int32) (S : Mm) : Option (Unit × Mm) :=
  L_X12_putAddress_2  cv0 v0 v1 v2 fu 0 S
set_option maxRecDepth 100000 in
set_option maxHeartbeats 4000000 in
theorem w_X12_putAddress_30 {p : Program} {l : Launch} {e : Env} {s : State} {m : MethodId} {args : Array Value} {below : List Frame} {meth : Method} {c : Code} {G : xG} {sz : Nat} {o : Unit × Mm} (X : xC G true sz p s m args c cX12_putAddress 4 wsX12_putAddress RX12 meth none) (cv0 : Nat) (v0 : Nat) (v1 : Int32) (v2 : Int32) (v3 : Int32) (cs0 : Nat) (s0 : Nat) (s1 : Int32) (s2 : Int32)  (k2 : Int32 → Mm → Option (Unit × Mm)) (hk2 : ∀ (v3 : Int32) (S : Mm) (H : Heap) (locs : List Loc) (ls : Array Slot), k2 v3 S = some o → xW G true sz s H locs S → lv_has ls 4 [(0, .ref (G.2.2 cv0 v0)), (1, .int v1), (2, .int v2), (3, .int v3)] → wX p l e rmX12_putAddress s m args below meth c H locs (xQv G true sz o) (XA G true sz) 2 ls []) {S : Mm} {H : Heap} {locs : List Loc} {ls : Array Slot} (hW : xW G true sz s H locs S) (hl : lv_has ls 4 [(0, .ref (G.2.2 cv0 v0)), (1, .int v1), (2, .int v2), (3, .int v3)]) (h : L_X12_putAddress_30 k2 cv0 v0 v1 v2 v3 cs0 s0 s1 s2 S = some o) : wX p l e rmX12_putAddress s m args below meth c H locs (xQv G true sz o) (XA G true sz) 30 ls [.int s2, .int s1, .ref (G.2.2 cs0 s0)] := by
  unfold L_X12_putAddress_30 at h
  refine x_iastP X hW dX12_putAddress_30 h (fun S1 H locs h hW => ?_)
  refine lv_iinc (v := (v3 + 1)) (lv' := [(3, .int (v3 + 1)), (0, .ref (G.2.2 cv0 v0)), (1, .int v1), (2, .int v2)]) X.1 X.2.1 dX12_putAddress_31 hl (k := 3) rfl rfl (by decide) rfl (fun ls hl => ?_)
  refine lv_goto (tgt := 2) X.1 X.2.1 dX12_putAddress_34 (by decide) ?_
  exact hk2 (v3 + 1) S1 _ _ _ h hW  (lv_sub hl [1, 2, 3, 0] rfl)
set_option maxRecDepth 100000 in
set_option maxHeartbeats 4000000 in
theorem w_X12_putAddress_2 {p : Program} {l : Launch} {e : Env} {s : State} {m : MethodId} {args : Array Value} {below : List Frame} {meth : Method} {c : Code} {G : xG} {sz : Nat} {o : Unit × Mm} (X : xC G true sz p s m args c cX12_putAddress 4 wsX12_putAddress RX12 meth none) (cv0 : Nat) (v0 : Nat) (v1 : Int32) (v2 : Int32)   : ∀ (n : Nat) (v3 : Int32) (S : Mm) (H : Heap) (locs : List Loc) (ls : Array Slot), L_X12_putAddress_2 cv0 v0 v1 v2 n v3 S = some o → xW G true sz s H locs S → lv_has ls 4 [(0, .ref (G.2.2 cv0 v0)), (1, .int v1), (2, .int v2), (3, .int v3)] → wX p l e rmX12_putAddress s m args below meth c H locs (xQv G true sz o) (XA G true sz) 2 ls [] := by
  intro n
  induction n with
  | zero =>
    intro v3 S H locs ls h
    cases h
  | succ n ih =>
    intro v3 S H locs ls h hW  hl
    rw [L_X12_putAddress_2] at h
    refine lv_iload_n X.1 X.2.1 dX12_putAddress_2 rfl (lv_at hl 3 rfl) ?_
    refine lv_bipush (v := 6) X.1 X.2.1 dX12_putAddress_3 rfl ?_
    refine x_icmp_ge X (tgt := 37) dX12_putAddress_5 (by decide) h (fun h => ?_) (fun h => ?_)
    · exact x_vret X hW h dX12_putAddress_37
    · refine lv_aload_n X.1 X.2.1 dX12_putAddress_8 rfl (lv_at hl 0 rfl) ?_
      refine lv_iload_n X.1 X.2.1 dX12_putAddress_9 rfl (lv_at hl 1 rfl) ?_
      refine lv_iload_n X.1 X.2.1 dX12_putAddress_10 rfl (lv_at hl 3 rfl) ?_
      refine lv_iadd X.1 X.2.1 dX12_putAddress_11 ?_
      refine lv_iload_n X.1 X.2.1 dX12_putAddress_12 rfl (lv_at hl 3 rfl) ?_
      refine x_if_ne X (tgt := 20) dX12_putAddress_13 (by decide) h (fun h => ?_) (fun h => ?_)
      · refine lv_iload_n X.1 X.2.1 dX12_putAddress_20 rfl (lv_at hl 3 rfl) ?_
        refine lv_iconst (v := 5) X.1 X.2.1 dX12_putAddress_21 rfl ?_
        refine x_icmp_ne X (tgt := 29) dX12_putAddress_22 (by decide) h (fun h => ?_) (fun h => ?_)
        · refine lv_iconst (v := 0) X.1 X.2.1 dX12_putAddress_29 rfl ?_
          exact w_X12_putAddress_30 X cv0 v0 v1 v2 v3 cv0 v0 (v1 + v3) 0  (L_X12_putAddress_2 cv0 v0 v1 v2 n) ih hW (lv_sub hl [0, 1, 2, 3] rfl) h
        · refine lv_iload_n X.1 X.2.1 dX12_putAddress_25 rfl (lv_at hl 2 rfl) ?_
          refine lv_goto (tgt := 30) X.1 X.2.1 dX12_putAddress_26 (by decide) ?_
          exact w_X12_putAddress_30 X cv0 v0 v1 v2 v3 cv0 v0 (v1 + v3) v2  (L_X12_putAddress_2 cv0 v0 v1 v2 n) ih hW (lv_sub hl [0, 1, 2, 3] rfl) h
      · refine lv_iconst (v := 2) X.1 X.2.1 dX12_putAddress_16 rfl ?_
        refine lv_goto (tgt := 30) X.1 X.2.1 dX12_putAddress_17 (by decide) ?_
        exact w_X12_putAddress_30 X cv0 v0 v1 v2 v3 cv0 v0 (v1 + v3) 2  (L_X12_putAddress_2 cv0 v0 v1 v2 n) ih hW (lv_sub hl [0, 1, 2, 3] rfl) h
set_option maxRecDepth 100000 in
set_option maxHeartbeats 4000000 in
theorem w_X12_putAddress_0 {p : Program} {l : Launch} {e : Env} {s : State} {m : MethodId} {args : Array Value} {below : List Frame} {meth : Method} {c : Code} {G : xG} {sz : Nat} {o : Unit × Mm} (X : xC G true sz p s m args c cX12_putAddress 4 wsX12_putAddress RX12 meth none) (cv0 : Nat) (v0 : Nat) (v1 : Int32) (v2 : Int32) {S : Mm} {H : Heap} {locs : List Loc} {ls : Array Slot} (hW : xW G true sz s H locs S) (hl : lv_has ls 4 [(0, .ref (G.2.2 cv0 v0)), (1, .int v1), (2, .int v2)]) (h : F_X12_putAddress cv0 v0 v1 v2 S = some o) : wX p l e rmX12_putAddress s m args below meth c H locs (xQv G true sz o) (XA G true sz) 0 ls [] := by
  unfold F_X12_putAddress at h
  refine lv_iconst (v := 0) X.1 X.2.1 dX12_putAddress_0 rfl ?_
  refine lv_istore_n (lv' := [(3, .int 0), (0, .ref (G.2.2 cv0 v0)), (1, .int v1), (2, .int v2)]) X.1 X.2.1 dX12_putAddress_1 rfl hl (by decide) rfl (fun ls hl => ?_)
  exact w_X12_putAddress_2 X cv0 v0 v1 v2   fu 0 S _ _ _ h hW  (lv_sub hl [1, 2, 3, 0] rfl)
theorem c_X12_putAddress (l : Launch) (G : xG) (hD : xD G true) (sz : Nat) (S : Mm) (cv0 : Nat) (v0 : Nat) (v1 : Int32) (v2 : Int32) (o : Unit × Mm) (h : F_X12_putAddress cv0 v0 v1 v2 S = some o) : Met l yX12_putAddress wsX12_putAddress rmX12_putAddress (xPre G true S sz [.ref (G.2.2 cv0 v0), .int v1, .int v2]) (xQv G true sz o) 0 0 (XA G true sz) :=
  x_start hD (by decide) rfl (Nat.le_of_ble_eq_true rfl) (fun p e s m below meth c X hW ls hl => w_X12_putAddress_0 X cv0 v0 v1 v2 hW hl h)

/-! WirelessCellModel.putCheck([III)V -/
def rmX12_putCheck : Room := { frames := 1, cells := 0, slots := 0, locals := 25 }
def L_X12_putCheck_11  (cv1 : Nat) (v1 : Nat) (v2 : Int32) (v3 : Int32) (v4 : Int32) : Nat → Int32 → Mm → Option (Unit × Mm)
  | 0, _, _ => none
  | n + 1, v5, S => 
    if 4 ≤ v5 then (
    some ((), S))
    else (
    stP true S cv1 v1 ((v2 + v3) + v5) ((v4 >>> ((8 * v5) &&& 31)) &&& 255) fun S4 =>
    (L_X12_putCheck_11 cv1 v1 v2 v3 v4 n) (v5 + 1) S4)
def F_X12_putCheck (cv1 : Nat) (v1 : Nat) (v2 : Int32) (v3 : Int32) (S : Mm) : Option (Unit × Mm) :=
  cl (F_X12_crc cv1 v1 v2 v3 S) fun r1 S2 =>
  L_X12_putCheck_11  cv1 v1 v2 v3 r1 fu 0 S2
set_option maxRecDepth 100000 in
set_option maxHeartbeats 4000000 in
theorem w_X12_putCheck_11 {p : Program} {l : Launch} {e : Env} {s : State} {m : MethodId} {args : Array Value} {below : List Frame} {meth : Method} {c : Code} {G : xG} {sz : Nat} {o : Unit × Mm} (X : xC G true sz p s m args c cX12_putCheck 6 wsX12_putCheck RX12 meth none) (cv1 : Nat) (v1 : Nat) (v2 : Int32) (v3 : Int32) (v4 : Int32)   : ∀ (n : Nat) (v5 : Int32) (S : Mm) (H : Heap) (locs : List Loc) (ls : Array Slot), L_X12_putCheck_11 cv1 v1 v2 v3 v4 n v5 S = some o → xW G true sz s H locs S → lv_has ls 6 [(1, .ref (G.2.2 cv1 v1)), (2, .int v2), (3, .int v3), (4, .int v4), (5, .int v5)] → wX p l e rmX12_putCheck s m args below meth c H locs (xQv G true sz o) (XA G true sz) 11 ls [] := by
  intro n
  induction n with
  | zero =>
    intro v5 S H locs ls h
    cases h
  | succ n ih =>
    intro v5 S H locs ls h hW  hl
    rw [L_X12_putCheck_11] at h
    refine lv_iload X.1 X.2.1 dX12_putCheck_11 (lv_at hl 4 rfl) ?_
    refine lv_iconst (v := 4) X.1 X.2.1 dX12_putCheck_13 rfl ?_
    refine x_icmp_ge X (tgt := 43) dX12_putCheck_14 (by decide) h (fun h => ?_) (fun h => ?_)
    · exact x_vret X hW h dX12_putCheck_43
    · refine lv_aload_n X.1 X.2.1 dX12_putCheck_17 rfl (lv_at hl 0 rfl) ?_
      refine lv_iload_n X.1 X.2.1 dX12_putCheck_18 rfl (lv_at hl 1 rfl) ?_
      refine lv_iload_n X.1 X.2.1 dX12_putCheck_19 rfl (lv_at hl 2 rfl) ?_
      refine lv_iadd X.1 X.2.1 dX12_putCheck_20 ?_
      refine lv_iload X.1 X.2.1 dX12_putCheck_21 (lv_at hl 4 rfl) ?_
      refine lv_iadd X.1 X.2.1 dX12_putCheck_23 ?_
      refine lv_iload X.1 X.2.1 dX12_putCheck_24 (lv_at hl 3 rfl) ?_
      refine lv_bipush (v := 8) X.1 X.2.1 dX12_putCheck_26 rfl ?_
      refine lv_iload X.1 X.2.1 dX12_putCheck_28 (lv_at hl 4 rfl) ?_
      refine lv_imul X.1 X.2.1 dX12_putCheck_30 ?_
      refine lv_ishr X.1 X.2.1 dX12_putCheck_31 ?_
      refine lv_sipush (v := 255) X.1 X.2.1 dX12_putCheck_32 rfl ?_
      refine lv_iand X.1 X.2.1 dX12_putCheck_35 ?_
      refine x_iastP X hW dX12_putCheck_36 h (fun S4 H locs h hW => ?_)
      refine lv_iinc (v := (v5 + 1)) (lv' := [(5, .int (v5 + 1)), (1, .ref (G.2.2 cv1 v1)), (2, .int v2), (3, .int v3), (4, .int v4)]) X.1 X.2.1 dX12_putCheck_37 hl (k := 4) rfl rfl (by decide) rfl (fun ls hl => ?_)
      refine lv_goto (tgt := 11) X.1 X.2.1 dX12_putCheck_40 (by decide) ?_
      exact ih (v5 + 1) S4 _ _ _ h hW  (lv_sub hl [1, 2, 3, 4, 0] rfl)
set_option maxRecDepth 100000 in
set_option maxHeartbeats 4000000 in
theorem w_X12_putCheck_0 {p : Program} {l : Launch} {e : Env} {s : State} {m : MethodId} {args : Array Value} {below : List Frame} {meth : Method} {c : Code} {G : xG} {sz : Nat} {o : Unit × Mm} (X : xC G true sz p s m args c cX12_putCheck 6 wsX12_putCheck RX12 meth none) (cv1 : Nat) (v1 : Nat) (v2 : Int32) (v3 : Int32) {S : Mm} {H : Heap} {locs : List Loc} {ls : Array Slot} (hW : xW G true sz s H locs S) (hl : lv_has ls 6 [(0, .ref (G.2.2 200 0)), (1, .ref (G.2.2 cv1 v1)), (2, .int v2), (3, .int v3)]) (h : F_X12_putCheck cv1 v1 v2 v3 S = some o) : wX p l e rmX12_putCheck s m args below meth c H locs (xQv G true sz o) (XA G true sz) 0 ls [] := by
  unfold F_X12_putCheck at h
  refine lv_aload_n X.1 X.2.1 dX12_putCheck_0 rfl (lv_at hl 1 rfl) ?_
  refine lv_iload_n X.1 X.2.1 dX12_putCheck_1 rfl (lv_at hl 2 rfl) ?_
  refine lv_iload_n X.1 X.2.1 dX12_putCheck_2 rfl (lv_at hl 3 rfl) ?_
  obtain ⟨r1, S2, h3, h⟩ := cl_some h
  refine x_aftI X hW (x_runS (As := [.ref (G.2.2 cv1 v1), .int v2, .int v3]) (rest := []) X hW (c_X12_crc l G X.2.2.2.2.2.2.2.2.2.1 _ S cv1 v1 v2 v3 _ h3) (va_cwS 3 X.2.2.2.2.1 (gS gw314 gw315 gw5 gw316) rfl rfl rfl hd_X12_crc ⟨Nat.le_of_ble_eq_true rfl, Nat.le_of_ble_eq_true rfl⟩) rfl hl.1 rfl (Nat.le_of_ble_eq_true rfl) dX12_putCheck_3 ⟨Nat.zero_le _, Nat.zero_le _⟩) (fun H locs hW => ?_)
  refine lv_istore (lv' := [(4, .int r1), (0, .ref (G.2.2 200 0)), (1, .ref (G.2.2 cv1 v1)), (2, .int v2), (3, .int v3)]) X.1 X.2.1 dX12_putCheck_6 hl (by decide) rfl (fun ls hl => ?_)
  refine lv_iconst (v := 0) X.1 X.2.1 dX12_putCheck_8 rfl ?_
  refine lv_istore (lv' := [(5, .int 0), (4, .int r1), (0, .ref (G.2.2 200 0)), (1, .ref (G.2.2 cv1 v1)), (2, .int v2), (3, .int v3)]) X.1 X.2.1 dX12_putCheck_9 hl (by decide) rfl (fun ls hl => ?_)
  exact w_X12_putCheck_11 X cv1 v1 v2 v3 r1   fu 0 S2 _ _ _ h hW  (lv_sub hl [3, 4, 5, 1, 0] rfl)
theorem c_X12_putCheck (l : Launch) (G : xG) (hD : xD G true) (sz : Nat) (S : Mm) (cv1 : Nat) (v1 : Nat) (v2 : Int32) (v3 : Int32) (o : Unit × Mm) (h : F_X12_putCheck cv1 v1 v2 v3 S = some o) : Met l yX12_putCheck wsX12_putCheck rmX12_putCheck (xPre G true S sz [.ref (G.2.2 200 0), .ref (G.2.2 cv1 v1), .int v2, .int v3]) (xQv G true sz o) 0 0 (XA G true sz) :=
  x_start hD (by decide) rfl (Nat.le_of_ble_eq_true rfl) (fun p e s m below meth c X hW ls hl => w_X12_putCheck_0 X cv1 v1 v2 v3 hW hl h)

/-! WirelessCellModel.pairOf(I)I -/
def rmX12_pairOf : Room := { frames := 0, cells := 0, slots := 0, locals := 0 }
def F_X12_pairOf (v1 : Int32) (S : Mm) : Option (Int32 × Mm) :=
  if v1 = 0 then (
  ldA S 236 0 108 1 0 fun x1 =>
  some ((9 + x1), S))
  else (
  some (v1, S))
set_option maxRecDepth 100000 in
set_option maxHeartbeats 4000000 in
theorem w_X12_pairOf_0 {p : Program} {l : Launch} {e : Env} {s : State} {m : MethodId} {args : Array Value} {below : List Frame} {meth : Method} {c : Code} {G : xG} {sz : Nat} {o : Int32 × Mm} (X : xC G true sz p s m args c cX12_pairOf 2 wsX12_pairOf RX12 meth (some .int)) (v1 : Int32) {S : Mm} {H : Heap} {locs : List Loc} {ls : Array Slot} (hW : xW G true sz s H locs S) (hl : lv_has ls 2 [(0, .ref (G.2.2 200 0)), (1, .int v1)]) (h : F_X12_pairOf v1 S = some o) : wX p l e rmX12_pairOf s m args below meth c H locs (xQi G true sz o) (XA G true sz) 0 ls [] := by
  unfold F_X12_pairOf at h
  refine lv_iload_n X.1 X.2.1 dX12_pairOf_0 rfl (lv_at hl 1 rfl) ?_
  refine x_if_ne X (tgt := 16) dX12_pairOf_1 (by decide) h (fun h => ?_) (fun h => ?_)
  · refine lv_iload_n X.1 X.2.1 dX12_pairOf_16 rfl (lv_at hl 1 rfl) ?_
    exact x_iret X hW h dX12_pairOf_17
  · refine lv_bipush (v := 9) X.1 X.2.1 dX12_pairOf_4 rfl ?_
    refine lv_aload_n X.1 X.2.1 dX12_pairOf_6 rfl (lv_at hl 0 rfl) ?_
    refine x_getR X hW fd_Model_qTo (fun w h => List.mem_cons_of_mem _ (gin_X12 w h)) (List.mem_cons_of_mem _ gw187) z_1 dX12_pairOf_7 ?_
    refine lv_iconst (v := 0) X.1 X.2.1 dX12_pairOf_10 rfl ?_
    refine x_iald X hW ar_236 dX12_pairOf_11 h (fun x1 h => ?_)
    refine lv_iadd X.1 X.2.1 dX12_pairOf_12 ?_
    refine lv_goto (tgt := 17) X.1 X.2.1 dX12_pairOf_13 (by decide) ?_
    exact x_iret X hW h dX12_pairOf_17
theorem c_X12_pairOf (l : Launch) (G : xG) (hD : xD G true) (sz : Nat) (S : Mm) (v1 : Int32) (o : Int32 × Mm) (h : F_X12_pairOf v1 S = some o) : Met l yX12_pairOf wsX12_pairOf rmX12_pairOf (xPre G true S sz [.ref (G.2.2 200 0), .int v1]) (xQi G true sz o) 0 0 (XA G true sz) :=
  x_start hD (by decide) rfl (Nat.le_of_ble_eq_true rfl) (fun p e s m below meth c X hW ls hl => w_X12_pairOf_0 X v1 hW hl h)

/-! WirelessCellModel.seal(IIII)V -/
def rmX12_seal : Room := { frames := 4, cells := 0, slots := 0, locals := 96 }
def L_X12_seal_101 (k23 : Int32 → Mm → Option (Unit × Mm)) (v1 : Int32) (v2 : Int32) (v3 : Int32) (v4 : Int32) (v5 : Int64) (v7 : Int32) (s1 : Int32) (s2 : Int32) (S : Mm) : Option (Unit × Mm) :=
  stA S 245 0 2700 1 s1 s2 fun S16 =>
  k23 (v7 + 1) S16
def L_X12_seal_168  (v1 : Int32) (v3 : Int32) : Nat → Int32 → Mm → Option (Unit × Mm)
  | 0, _, _ => none
  | n + 1, v7, S => 
    if 8 ≤ v7 then (
    some ((), S))
    else (
    ldA S 214 0 8 1 v7 fun x17 =>
    stA S 245 0 2700 1 (((v1 + 32) + v3) + v7) x17 fun S18 =>
    (L_X12_seal_168 v1 v3 n) (v7 + 1) S18)
def L_X12_seal_55 (k23 : Int32 → Mm → Option (Unit × Mm)) (v1 : Int32) (v2 : Int32) (v3 : Int32) (v4 : Int32) (v5 : Int64) (v7 : Int32) (s0 : Int32) (S : Mm) : Option (Unit × Mm) :=
  if s0 < 0 then (
  if v7 = 3 then (
  L_X12_seal_101 k23 v1 v2 v3 v4 v5 v7 ((v1 + 24) + v7) 32 S)
  else (
  L_X12_seal_101 k23 v1 v2 v3 v4 v5 v7 ((v1 + 24) + v7) 0 S))
  else (
  L_X12_seal_101 k23 v1 v2 v3 v4 v5 v7 ((v1 + 24) + v7) ((Int64.toInt32 (v5 >>> (Int32.toInt64 (8 * s0) &&& 63))) &&& 255) S)
def L_X12_seal_23  (v1 : Int32) (v2 : Int32) (v3 : Int32) (v4 : Int32) (v5 : Int64) : Nat → Int32 → Mm → Option (Unit × Mm)
  | 0, _, _ => none
  | n + 1, v7, S => 
    if 8 ≤ v7 then (
    cl (F_X12_expand 221 0 (16 * v4) S) fun r4 S5 =>
    cl (F_X12_nonceOf 245 0 v1 v5 S5) fun r7 S8 =>
    cl (F_X12_findTag 245 0 v1 242 0 v2 v3 S8) fun r10 S11 =>
    cl (F_X12_cover 242 0 v2 245 0 (v1 + 32) v3 S11) fun r13 S14 =>
    L_X12_seal_168  v1 v3 fu 0 S14)
    else (
    if 2 ≤ v7 then (
    if 4 ≤ v7 then (
    L_X12_seal_55 (L_X12_seal_23 v1 v2 v3 v4 v5 n) v1 v2 v3 v4 v5 v7 (v7 - 2) S)
    else (
    L_X12_seal_55 (L_X12_seal_23 v1 v2 v3 v4 v5 n) v1 v2 v3 v4 v5 v7 (-1) S))
    else (
    L_X12_seal_55 (L_X12_seal_23 v1 v2 v3 v4 v5 n) v1 v2 v3 v4 v5 v7 v7 S))
def F_X12_seal (v1 : Int32) (v2 : Int32) (v3 : Int32) (v4 : Int32) (S : Mm) : Option (Unit × Mm) :=
  ldL S 227 0 18 1 v4 fun x1 =>
  ldL S 227 0 18 1 v4 fun x2 =>
  stL S 227 0 18 1 v4 (x2 + 1) fun S3 =>
  L_X12_seal_23  v1 v2 v3 v4 x1 fu 0 S3
set_option maxRecDepth 100000 in
set_option maxHeartbeats 4000000 in
theorem w_X12_seal_101 {p : Program} {l : Launch} {e : Env} {s : State} {m : MethodId} {args : Array Value} {below : List Frame} {meth : Method} {c : Code} {G : xG} {sz : Nat} {o : Unit × Mm} (X : xC G true sz p s m args c cX12_seal 9 wsX12_seal RX12 meth none) (v1 : Int32) (v2 : Int32) (v3 : Int32) (v4 : Int32) (v5 : Int64) (v7 : Int32) (s1 : Int32) (s2 : Int32)  (k23 : Int32 → Mm → Option (Unit × Mm)) (hk23 : ∀ (v7 : Int32) (S : Mm) (H : Heap) (locs : List Loc) (ls : Array Slot), k23 v7 S = some o → xW G true sz s H locs S → lv_has ls 9 [(0, .ref (G.2.2 200 0)), (1, .int v1), (2, .int v2), (3, .int v3), (4, .int v4), (5, .long v5), (7, .int v7)] → wX p l e rmX12_seal s m args below meth c H locs (xQv G true sz o) (XA G true sz) 23 ls []) {S : Mm} {H : Heap} {locs : List Loc} {ls : Array Slot} (hW : xW G true sz s H locs S) (hl : lv_has ls 9 [(0, .ref (G.2.2 200 0)), (1, .int v1), (2, .int v2), (3, .int v3), (4, .int v4), (5, .long v5), (7, .int v7)]) (h : L_X12_seal_101 k23 v1 v2 v3 v4 v5 v7 s1 s2 S = some o) : wX p l e rmX12_seal s m args below meth c H locs (xQv G true sz o) (XA G true sz) 101 ls [.int s2, .int s1, .ref (G.2.2 245 0)] := by
  unfold L_X12_seal_101 at h
  refine x_iast X hW ar_245 dX12_seal_101 h (fun S16 H locs h hW => ?_)
  refine lv_iinc (v := (v7 + 1)) (lv' := [(7, .int (v7 + 1)), (0, .ref (G.2.2 200 0)), (1, .int v1), (2, .int v2), (3, .int v3), (4, .int v4), (5, .long v5)]) X.1 X.2.1 dX12_seal_102 hl (k := 6) rfl rfl (by decide) rfl (fun ls hl => ?_)
  refine lv_goto (tgt := 23) X.1 X.2.1 dX12_seal_105 (by decide) ?_
  exact hk23 (v7 + 1) S16 _ _ _ h hW  (lv_sub hl [1, 2, 3, 4, 5, 6, 0] rfl)
set_option maxRecDepth 100000 in
set_option maxHeartbeats 4000000 in
theorem w_X12_seal_168 {p : Program} {l : Launch} {e : Env} {s : State} {m : MethodId} {args : Array Value} {below : List Frame} {meth : Method} {c : Code} {G : xG} {sz : Nat} {o : Unit × Mm} (X : xC G true sz p s m args c cX12_seal 9 wsX12_seal RX12 meth none) (v1 : Int32) (v3 : Int32)   : ∀ (n : Nat) (v7 : Int32) (S : Mm) (H : Heap) (locs : List Loc) (ls : Array Slot), L_X12_seal_168 v1 v3 n v7 S = some o → xW G true sz s H locs S → lv_has ls 9 [(0, .ref (G.2.2 200 0)), (1, .int v1), (3, .int v3), (7, .int v7)] → wX p l e rmX12_seal s m args below meth c H locs (xQv G true sz o) (XA G true sz) 168 ls [] := by
  intro n
  induction n with
  | zero =>
    intro v7 S H locs ls h
    cases h
  | succ n ih =>
    intro v7 S H locs ls h hW  hl
    rw [L_X12_seal_168] at h
    refine lv_iload X.1 X.2.1 dX12_seal_168 (lv_at hl 3 rfl) ?_
    refine lv_bipush (v := 8) X.1 X.2.1 dX12_seal_170 rfl ?_
    refine x_icmp_ge X (tgt := 202) dX12_seal_172 (by decide) h (fun h => ?_) (fun h => ?_)
    · exact x_vret X hW h dX12_seal_202
    · refine lv_aload_n X.1 X.2.1 dX12_seal_175 rfl (lv_at hl 0 rfl) ?_
      refine x_getR X hW fd_Model_frames (fun w h => List.mem_cons_of_mem _ (gin_X12 w h)) (List.mem_cons_of_mem _ gw196) z_1 dX12_seal_176 ?_
      refine lv_iload_n X.1 X.2.1 dX12_seal_179 rfl (lv_at hl 1 rfl) ?_
      refine lv_bipush (v := 32) X.1 X.2.1 dX12_seal_180 rfl ?_
      refine lv_iadd X.1 X.2.1 dX12_seal_182 ?_
      refine lv_iload_n X.1 X.2.1 dX12_seal_183 rfl (lv_at hl 2 rfl) ?_
      refine lv_iadd X.1 X.2.1 dX12_seal_184 ?_
      refine lv_iload X.1 X.2.1 dX12_seal_185 (lv_at hl 3 rfl) ?_
      refine lv_iadd X.1 X.2.1 dX12_seal_187 ?_
      refine lv_aload_n X.1 X.2.1 dX12_seal_188 rfl (lv_at hl 0 rfl) ?_
      refine x_getR X hW fd_Model_tag (fun w h => List.mem_cons_of_mem _ (gin_X12 w h)) (List.mem_cons_of_mem _ gw164) z_1 dX12_seal_189 ?_
      refine lv_iload X.1 X.2.1 dX12_seal_192 (lv_at hl 3 rfl) ?_
      refine x_iald X hW ar_214 dX12_seal_194 h (fun x17 h => ?_)
      refine x_iast X hW ar_245 dX12_seal_195 h (fun S18 H locs h hW => ?_)
      refine lv_iinc (v := (v7 + 1)) (lv' := [(7, .int (v7 + 1)), (0, .ref (G.2.2 200 0)), (1, .int v1), (3, .int v3)]) X.1 X.2.1 dX12_seal_196 hl (k := 3) rfl rfl (by decide) rfl (fun ls hl => ?_)
      refine lv_goto (tgt := 168) X.1 X.2.1 dX12_seal_199 (by decide) ?_
      exact ih (v7 + 1) S18 _ _ _ h hW  (lv_sub hl [1, 2, 3, 0] rfl)
set_option maxRecDepth 100000 in
set_option maxHeartbeats 4000000 in
theorem w_X12_seal_55 {p : Program} {l : Launch} {e : Env} {s : State} {m : MethodId} {args : Array Value} {below : List Frame} {meth : Method} {c : Code} {G : xG} {sz : Nat} {o : Unit × Mm} (X : xC G true sz p s m args c cX12_seal 9 wsX12_seal RX12 meth none) (v1 : Int32) (v2 : Int32) (v3 : Int32) (v4 : Int32) (v5 : Int64) (v7 : Int32) (s0 : Int32)  (k23 : Int32 → Mm → Option (Unit × Mm)) (hk23 : ∀ (v7 : Int32) (S : Mm) (H : Heap) (locs : List Loc) (ls : Array Slot), k23 v7 S = some o → xW G true sz s H locs S → lv_has ls 9 [(0, .ref (G.2.2 200 0)), (1, .int v1), (2, .int v2), (3, .int v3), (4, .int v4), (5, .long v5), (7, .int v7)] → wX p l e rmX12_seal s m args below meth c H locs (xQv G true sz o) (XA G true sz) 23 ls []) {S : Mm} {H : Heap} {locs : List Loc} {ls : Array Slot} (hW : xW G true sz s H locs S) (hl : lv_has ls 9 [(0, .ref (G.2.2 200 0)), (1, .int v1), (2, .int v2), (3, .int v3), (4, .int v4), (5, .long v5), (7, .int v7)]) (h : L_X12_seal_55 k23 v1 v2 v3 v4 v5 v7 s0 S = some o) : wX p l e rmX12_seal s m args below meth c H locs (xQv G true sz o) (XA G true sz) 55 ls [.int s0] := by
  unfold L_X12_seal_55 at h
  refine lv_istore (lv' := [(8, .int s0), (0, .ref (G.2.2 200 0)), (1, .int v1), (2, .int v2), (3, .int v3), (4, .int v4), (5, .long v5), (7, .int v7)]) X.1 X.2.1 dX12_seal_55 hl (by decide) rfl (fun ls hl => ?_)
  refine lv_aload_n X.1 X.2.1 dX12_seal_57 rfl (lv_at hl 1 rfl) ?_
  refine x_getR X hW fd_Model_frames (fun w h => List.mem_cons_of_mem _ (gin_X12 w h)) (List.mem_cons_of_mem _ gw196) z_1 dX12_seal_58 ?_
  refine lv_iload_n X.1 X.2.1 dX12_seal_61 rfl (lv_at hl 2 rfl) ?_
  refine lv_bipush (v := 24) X.1 X.2.1 dX12_seal_62 rfl ?_
  refine lv_iadd X.1 X.2.1 dX12_seal_64 ?_
  refine lv_iload X.1 X.2.1 dX12_seal_65 (lv_at hl 7 rfl) ?_
  refine lv_iadd X.1 X.2.1 dX12_seal_67 ?_
  refine lv_iload X.1 X.2.1 dX12_seal_68 (lv_at hl 0 rfl) ?_
  refine x_if_lt X (tgt := 89) dX12_seal_70 (by decide) h (fun h => ?_) (fun h => ?_)
  · refine lv_iload X.1 X.2.1 dX12_seal_89 (lv_at hl 7 rfl) ?_
    refine lv_iconst (v := 3) X.1 X.2.1 dX12_seal_91 rfl ?_
    refine x_icmp_ne X (tgt := 100) dX12_seal_92 (by decide) h (fun h => ?_) (fun h => ?_)
    · refine lv_iconst (v := 0) X.1 X.2.1 dX12_seal_100 rfl ?_
      exact w_X12_seal_101 X v1 v2 v3 v4 v5 v7 ((v1 + 24) + v7) 0  k23 hk23 hW (lv_sub hl [1, 2, 3, 4, 5, 6, 7] rfl) h
    · refine lv_bipush (v := 32) X.1 X.2.1 dX12_seal_95 rfl ?_
      refine lv_goto (tgt := 101) X.1 X.2.1 dX12_seal_97 (by decide) ?_
      exact w_X12_seal_101 X v1 v2 v3 v4 v5 v7 ((v1 + 24) + v7) 32  k23 hk23 hW (lv_sub hl [1, 2, 3, 4, 5, 6, 7] rfl) h
  · refine lv_lload X.1 X.2.1 dX12_seal_73 (lv_at hl 6 rfl) ?_
    refine lv_bipush (v := 8) X.1 X.2.1 dX12_seal_75 rfl ?_
    refine lv_iload X.1 X.2.1 dX12_seal_77 (lv_at hl 0 rfl) ?_
    refine lv_imul X.1 X.2.1 dX12_seal_79 ?_
    refine lv_lshr (v := (v5 >>> (Int32.toInt64 (8 * s0) &&& 63))) X.1 X.2.1 dX12_seal_80 rfl ?_
    refine lv_l2i (v := (Int64.toInt32 (v5 >>> (Int32.toInt64 (8 * s0) &&& 63)))) X.1 X.2.1 dX12_seal_81 rfl ?_
    refine lv_sipush (v := 255) X.1 X.2.1 dX12_seal_82 rfl ?_
    refine lv_iand X.1 X.2.1 dX12_seal_85 ?_
    refine lv_goto (tgt := 101) X.1 X.2.1 dX12_seal_86 (by decide) ?_
    exact w_X12_seal_101 X v1 v2 v3 v4 v5 v7 ((v1 + 24) + v7) ((Int64.toInt32 (v5 >>> (Int32.toInt64 (8 * s0) &&& 63))) &&& 255)  k23 hk23 hW (lv_sub hl [1, 2, 3, 4, 5, 6, 7] rfl) h
set_option maxRecDepth 100000 in
set_option maxHeartbeats 4000000 in
theorem w_X12_seal_23 {p : Program} {l : Launch} {e : Env} {s : State} {m : MethodId} {args : Array Value} {below : List Frame} {meth : Method} {c : Code} {G : xG} {sz : Nat} {o : Unit × Mm} (X : xC G true sz p s m args c cX12_seal 9 wsX12_seal RX12 meth none) (v1 : Int32) (v2 : Int32) (v3 : Int32) (v4 : Int32) (v5 : Int64)   : ∀ (n : Nat) (v7 : Int32) (S : Mm) (H : Heap) (locs : List Loc) (ls : Array Slot), L_X12_seal_23 v1 v2 v3 v4 v5 n v7 S = some o → xW G true sz s H locs S → lv_has ls 9 [(0, .ref (G.2.2 200 0)), (1, .int v1), (2, .int v2), (3, .int v3), (4, .int v4), (5, .long v5), (7, .int v7)] → wX p l e rmX12_seal s m args below meth c H locs (xQv G true sz o) (XA G true sz) 23 ls [] := by
  intro n
  induction n with
  | zero =>
    intro v7 S H locs ls h
    cases h
  | succ n ih =>
    intro v7 S H locs ls h hW  hl
    rw [L_X12_seal_23] at h
    refine lv_iload X.1 X.2.1 dX12_seal_23 (lv_at hl 6 rfl) ?_
    refine lv_bipush (v := 8) X.1 X.2.1 dX12_seal_25 rfl ?_
    refine x_icmp_ge X (tgt := 108) dX12_seal_27 (by decide) h (fun h => ?_) (fun h => ?_)
    · refine lv_aload_n X.1 X.2.1 dX12_seal_108 rfl (lv_at hl 0 rfl) ?_
      refine lv_aload_n X.1 X.2.1 dX12_seal_109 rfl (lv_at hl 0 rfl) ?_
      refine x_getR X hW fd_Model_tk (fun w h => List.mem_cons_of_mem _ (gin_X12 w h)) (List.mem_cons_of_mem _ gw171) z_1 dX12_seal_110 ?_
      refine lv_bipush (v := 16) X.1 X.2.1 dX12_seal_113 rfl ?_
      refine lv_iload X.1 X.2.1 dX12_seal_115 (lv_at hl 4 rfl) ?_
      refine lv_imul X.1 X.2.1 dX12_seal_117 ?_
      obtain ⟨r4, S5, h6, h⟩ := cl_some h
      refine x_aftV X hW (x_runV (C := RX12) (a := G.2.2 200 0) (As := [.ref (G.2.2 221 0), .int (16 * v4)]) (rest := []) X hW (c_X12_expand l G X.2.2.2.2.2.2.2.2.2.1 _ S 221 0 (16 * v4) _ h6) (cwV 2 X.2.2.2.2.1 (gV gw1050 gw1051 gw1052 gw5 gw1053) rfl rfl rfl ⟨rfl, hd_X12_expand⟩ ⟨Nat.le_of_ble_eq_true rfl, Nat.le_of_ble_eq_true rfl⟩) (x_recv X hW ob_Model z_1) rfl hl.1 rfl (Nat.le_of_ble_eq_true rfl) dX12_seal_118 ⟨Nat.zero_le _, Nat.zero_le _⟩) (fun H locs hW => ?_)
      refine lv_aload_n X.1 X.2.1 dX12_seal_121 rfl (lv_at hl 0 rfl) ?_
      refine lv_aload_n X.1 X.2.1 dX12_seal_122 rfl (lv_at hl 0 rfl) ?_
      refine x_getR X hW fd_Model_frames (fun w h => List.mem_cons_of_mem _ (gin_X12 w h)) (List.mem_cons_of_mem _ gw196) z_1 dX12_seal_123 ?_
      refine lv_iload_n X.1 X.2.1 dX12_seal_126 rfl (lv_at hl 1 rfl) ?_
      refine lv_lload X.1 X.2.1 dX12_seal_127 (lv_at hl 5 rfl) ?_
      obtain ⟨r7, S8, h9, h⟩ := cl_some h
      refine x_aftV X hW (x_runV (C := RX12) (a := G.2.2 200 0) (As := [.ref (G.2.2 245 0), .int v1, .long v5]) (rest := []) X hW (c_X12_nonceOf l G X.2.2.2.2.2.2.2.2.2.1 _ S5 245 0 v1 v5 _ h9) (cwV 3 X.2.2.2.2.1 (gV gw1054 gw1055 gw1056 gw5 gw1057) rfl rfl rfl ⟨rfl, hd_X12_nonceOf⟩ ⟨Nat.le_of_ble_eq_true rfl, Nat.le_of_ble_eq_true rfl⟩) (x_recv X hW ob_Model z_1) rfl hl.1 rfl (Nat.le_of_ble_eq_true rfl) dX12_seal_129 ⟨Nat.zero_le _, Nat.zero_le _⟩) (fun H locs hW => ?_)
      refine lv_aload_n X.1 X.2.1 dX12_seal_132 rfl (lv_at hl 0 rfl) ?_
      refine lv_aload_n X.1 X.2.1 dX12_seal_133 rfl (lv_at hl 0 rfl) ?_
      refine x_getR X hW fd_Model_frames (fun w h => List.mem_cons_of_mem _ (gin_X12 w h)) (List.mem_cons_of_mem _ gw196) z_1 dX12_seal_134 ?_
      refine lv_iload_n X.1 X.2.1 dX12_seal_137 rfl (lv_at hl 1 rfl) ?_
      refine lv_aload_n X.1 X.2.1 dX12_seal_138 rfl (lv_at hl 0 rfl) ?_
      refine x_getR X hW fd_Model_qBytes (fun w h => List.mem_cons_of_mem _ (gin_X12 w h)) (List.mem_cons_of_mem _ gw193) z_1 dX12_seal_139 ?_
      refine lv_iload_n X.1 X.2.1 dX12_seal_142 rfl (lv_at hl 2 rfl) ?_
      refine lv_iload_n X.1 X.2.1 dX12_seal_143 rfl (lv_at hl 3 rfl) ?_
      obtain ⟨r10, S11, h12, h⟩ := cl_some h
      refine x_aftV X hW (x_runV (C := RX12) (a := G.2.2 200 0) (As := [.ref (G.2.2 245 0), .int v1, .ref (G.2.2 242 0), .int v2, .int v3]) (rest := []) X hW (c_X12_findTag l G X.2.2.2.2.2.2.2.2.2.1 _ S8 245 0 v1 242 0 v2 v3 _ h12) (cwV 5 X.2.2.2.2.1 (gV gw1058 gw1059 gw1060 gw5 gw1061) rfl rfl rfl ⟨rfl, hd_X12_findTag⟩ ⟨Nat.le_of_ble_eq_true rfl, Nat.le_of_ble_eq_true rfl⟩) (x_recv X hW ob_Model z_1) rfl hl.1 rfl (Nat.le_of_ble_eq_true rfl) dX12_seal_144 ⟨Nat.zero_le _, Nat.zero_le _⟩) (fun H locs hW => ?_)
      refine lv_aload_n X.1 X.2.1 dX12_seal_147 rfl (lv_at hl 0 rfl) ?_
      refine lv_aload_n X.1 X.2.1 dX12_seal_148 rfl (lv_at hl 0 rfl) ?_
      refine x_getR X hW fd_Model_qBytes (fun w h => List.mem_cons_of_mem _ (gin_X12 w h)) (List.mem_cons_of_mem _ gw193) z_1 dX12_seal_149 ?_
      refine lv_iload_n X.1 X.2.1 dX12_seal_152 rfl (lv_at hl 2 rfl) ?_
      refine lv_aload_n X.1 X.2.1 dX12_seal_153 rfl (lv_at hl 0 rfl) ?_
      refine x_getR X hW fd_Model_frames (fun w h => List.mem_cons_of_mem _ (gin_X12 w h)) (List.mem_cons_of_mem _ gw196) z_1 dX12_seal_154 ?_
      refine lv_iload_n X.1 X.2.1 dX12_seal_157 rfl (lv_at hl 1 rfl) ?_
      refine lv_bipush (v := 32) X.1 X.2.1 dX12_seal_158 rfl ?_
      refine lv_iadd X.1 X.2.1 dX12_seal_160 ?_
      refine lv_iload_n X.1 X.2.1 dX12_seal_161 rfl (lv_at hl 3 rfl) ?_
      obtain ⟨r13, S14, h15, h⟩ := cl_some h
      refine x_aftV X hW (x_runV (C := RX12) (a := G.2.2 200 0) (As := [.ref (G.2.2 242 0), .int v2, .ref (G.2.2 245 0), .int (v1 + 32), .int v3]) (rest := []) X hW (c_X12_cover l G X.2.2.2.2.2.2.2.2.2.1 _ S11 242 0 v2 245 0 (v1 + 32) v3 _ h15) (cwV 5 X.2.2.2.2.1 (gV gw1077 gw1078 gw1079 gw5 gw1080) rfl rfl rfl ⟨rfl, hd_X12_cover⟩ ⟨Nat.le_of_ble_eq_true rfl, Nat.le_of_ble_eq_true rfl⟩) (x_recv X hW ob_Model z_1) rfl hl.1 rfl (Nat.le_of_ble_eq_true rfl) dX12_seal_162 ⟨Nat.zero_le _, Nat.zero_le _⟩) (fun H locs hW => ?_)
      refine lv_iconst (v := 0) X.1 X.2.1 dX12_seal_165 rfl ?_
      refine lv_istore (lv' := [(7, .int 0), (0, .ref (G.2.2 200 0)), (1, .int v1), (2, .int v2), (3, .int v3), (4, .int v4), (5, .long v5)]) X.1 X.2.1 dX12_seal_166 hl (by decide) rfl (fun ls hl => ?_)
      exact w_X12_seal_168 X v1 v3   fu 0 S14 _ _ _ h hW  (lv_sub hl [1, 2, 4, 0] rfl)
    · refine lv_iload X.1 X.2.1 dX12_seal_30 (lv_at hl 6 rfl) ?_
      refine lv_iconst (v := 2) X.1 X.2.1 dX12_seal_32 rfl ?_
      refine x_icmp_ge X (tgt := 41) dX12_seal_33 (by decide) h (fun h => ?_) (fun h => ?_)
      · refine lv_iload X.1 X.2.1 dX12_seal_41 (lv_at hl 6 rfl) ?_
        refine lv_iconst (v := 4) X.1 X.2.1 dX12_seal_43 rfl ?_
        refine x_icmp_ge X (tgt := 51) dX12_seal_44 (by decide) h (fun h => ?_) (fun h => ?_)
        · refine lv_iload X.1 X.2.1 dX12_seal_51 (lv_at hl 6 rfl) ?_
          refine lv_iconst (v := 2) X.1 X.2.1 dX12_seal_53 rfl ?_
          refine lv_isub X.1 X.2.1 dX12_seal_54 ?_
          exact w_X12_seal_55 X v1 v2 v3 v4 v5 v7 (v7 - 2)  (L_X12_seal_23 v1 v2 v3 v4 v5 n) ih hW (lv_sub hl [0, 1, 2, 3, 4, 5, 6] rfl) h
        · refine lv_iconst (v := (-1)) X.1 X.2.1 dX12_seal_47 rfl ?_
          refine lv_goto (tgt := 55) X.1 X.2.1 dX12_seal_48 (by decide) ?_
          exact w_X12_seal_55 X v1 v2 v3 v4 v5 v7 (-1)  (L_X12_seal_23 v1 v2 v3 v4 v5 n) ih hW (lv_sub hl [0, 1, 2, 3, 4, 5, 6] rfl) h
      · refine lv_iload X.1 X.2.1 dX12_seal_36 (lv_at hl 6 rfl) ?_
        refine lv_goto (tgt := 55) X.1 X.2.1 dX12_seal_38 (by decide) ?_
        exact w_X12_seal_55 X v1 v2 v3 v4 v5 v7 v7  (L_X12_seal_23 v1 v2 v3 v4 v5 n) ih hW (lv_sub hl [0, 1, 2, 3, 4, 5, 6] rfl) h
set_option maxRecDepth 100000 in
set_option maxHeartbeats 4000000 in
theorem w_X12_seal_0 {p : Program} {l : Launch} {e : Env} {s : State} {m : MethodId} {args : Array Value} {below : List Frame} {meth : Method} {c : Code} {G : xG} {sz : Nat} {o : Unit × Mm} (X : xC G true sz p s m args c cX12_seal 9 wsX12_seal RX12 meth none) (v1 : Int32) (v2 : Int32) (v3 : Int32) (v4 : Int32) {S : Mm} {H : Heap} {locs : List Loc} {ls : Array Slot} (hW : xW G true sz s H locs S) (hl : lv_has ls 9 [(0, .ref (G.2.2 200 0)), (1, .int v1), (2, .int v2), (3, .int v3), (4, .int v4)]) (h : F_X12_seal v1 v2 v3 v4 S = some o) : wX p l e rmX12_seal s m args below meth c H locs (xQv G true sz o) (XA G true sz) 0 ls [] := by
  unfold F_X12_seal at h
  refine lv_aload_n X.1 X.2.1 dX12_seal_0 rfl (lv_at hl 0 rfl) ?_
  refine x_getR X hW fd_Model_pnNext (fun w h => List.mem_cons_of_mem _ (gin_X12 w h)) (List.mem_cons_of_mem _ gw178) z_1 dX12_seal_1 ?_
  refine lv_iload X.1 X.2.1 dX12_seal_4 (lv_at hl 4 rfl) ?_
  refine x_lald X hW ar_227 dX12_seal_6 h (fun x1 h => ?_)
  refine lv_lstore (lv' := [(5, .long x1), (0, .ref (G.2.2 200 0)), (1, .int v1), (2, .int v2), (3, .int v3), (4, .int v4)]) X.1 X.2.1 dX12_seal_7 hl (by decide) rfl (fun ls hl => ?_)
  refine lv_aload_n X.1 X.2.1 dX12_seal_9 rfl (lv_at hl 1 rfl) ?_
  refine x_getR X hW fd_Model_pnNext (fun w h => List.mem_cons_of_mem _ (gin_X12 w h)) (List.mem_cons_of_mem _ gw178) z_1 dX12_seal_10 ?_
  refine lv_iload X.1 X.2.1 dX12_seal_13 (lv_at hl 5 rfl) ?_
  refine lv_dup2_11 X.1 X.2.1 dX12_seal_15 rfl rfl ?_
  refine x_lald X hW ar_227 dX12_seal_16 h (fun x2 h => ?_)
  refine lv_lconst (v := 1) X.1 X.2.1 dX12_seal_17 rfl ?_
  refine lv_ladd X.1 X.2.1 dX12_seal_18 ?_
  refine x_last X hW ar_227 dX12_seal_19 h (fun S3 H locs h hW => ?_)
  refine lv_iconst (v := 0) X.1 X.2.1 dX12_seal_20 rfl ?_
  refine lv_istore (lv' := [(7, .int 0), (5, .long x1), (0, .ref (G.2.2 200 0)), (1, .int v1), (2, .int v2), (3, .int v3), (4, .int v4)]) X.1 X.2.1 dX12_seal_21 hl (by decide) rfl (fun ls hl => ?_)
  exact w_X12_seal_23 X v1 v2 v3 v4 x1   fu 0 S3 _ _ _ h hW  (lv_sub hl [2, 3, 4, 5, 6, 1, 0] rfl)
theorem c_X12_seal (l : Launch) (G : xG) (hD : xD G true) (sz : Nat) (S : Mm) (v1 : Int32) (v2 : Int32) (v3 : Int32) (v4 : Int32) (o : Unit × Mm) (h : F_X12_seal v1 v2 v3 v4 S = some o) : Met l yX12_seal wsX12_seal rmX12_seal (xPre G true S sz [.ref (G.2.2 200 0), .int v1, .int v2, .int v3, .int v4]) (xQv G true sz o) 0 0 (XA G true sz) :=
  x_start hD (by decide) rfl (Nat.le_of_ble_eq_true rfl) (fun p e s m below meth c X hW ls hl => w_X12_seal_0 X v1 v2 v3 v4 hW hl h)
