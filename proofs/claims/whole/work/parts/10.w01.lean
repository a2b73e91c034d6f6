/-! WirelessCell$Frames.writeFcs([II)V -/
def rmX2_writeFcs : Room := { frames := 1, cells := 0, slots := 0, locals := 23 }
def L_X2_writeFcs_8  (cv0 : Nat) (v0 : Nat) (v1 : Int32) (v2 : Int32) : Nat → Int32 → Mm → Option (Unit × Mm)
  | 0, _, _ => none
  | n + 1, v3, S => 
    if 4 ≤ v3 then (
    some ((), S))
    else (
    stP false S cv0 v0 (v1 + v3) ((iu v2 (8 * v3)) &&& 255) fun S4 =>
    (L_X2_writeFcs_8 cv0 v0 v1 v2 n) (v3 + 1) S4)
def F_X2_writeFcs (cv0 : Nat) (v0 : Nat) (v1 : Int32) (S : Mm) : Option (Unit × Mm) :=
  cl (F_X2_crcOf cv0 v0 v1 S) fun r1 S2 =>
  L_X2_writeFcs_8  cv0 v0 v1 r1 fu 0 S2
set_option maxRecDepth 100000 in
set_option maxHeartbeats 4000000 in
theorem w_X2_writeFcs_8 {p : Program} {l : Launch} {e : Env} {s : State} {m : MethodId} {args : Array Value} {below : List Frame} {meth : Method} {c : Code} {G : xG} {sz : Nat} {o : Unit × Mm} (X : xC G false sz p s m args c cX2_writeFcs 4 wsX2_writeFcs RX2 meth none) (cv0 : Nat) (v0 : Nat) (v1 : Int32) (v2 : Int32)   : ∀ (n : Nat) (v3 : Int32) (S : Mm) (H : Heap) (locs : List Loc) (ls : Array Slot), L_X2_writeFcs_8 cv0 v0 v1 v2 n v3 S = some o → xW G false sz s H locs S → lv_has ls 4 [(0, .ref (G.2.2 cv0 v0)), (1, .int v1), (2, .int v2), (3, .int v3)] → wX p l e rmX2_writeFcs s m args below meth c H locs (xQv G false sz o) (XA G false sz) 8 ls [] := by
  intro n
  induction n with
  | zero =>
    intro v3 S H locs ls h
    cases h
  | succ n ih =>
    intro v3 S H locs ls h hW  hl
    rw [L_X2_writeFcs_8] at h
    refine lv_iload_n X.1 X.2.1 dX2_writeFcs_8 rfl (lv_at hl 3 rfl) ?_
    refine lv_iconst (v := 4) X.1 X.2.1 dX2_writeFcs_9 rfl ?_
    refine x_icmp_ge X (tgt := 34) dX2_writeFcs_10 (by decide) h (fun h => ?_) (fun h => ?_)
    · exact x_vret X hW h dX2_writeFcs_34
    · refine lv_aload_n X.1 X.2.1 dX2_writeFcs_13 rfl (lv_at hl 0 rfl) ?_
      refine lv_iload_n X.1 X.2.1 dX2_writeFcs_14 rfl (lv_at hl 1 rfl) ?_
      refine lv_iload_n X.1 X.2.1 dX2_writeFcs_15 rfl (lv_at hl 3 rfl) ?_
      refine lv_iadd X.1 X.2.1 dX2_writeFcs_16 ?_
      refine lv_iload_n X.1 X.2.1 dX2_writeFcs_17 rfl (lv_at hl 2 rfl) ?_
      refine lv_bipush (v := 8) X.1 X.2.1 dX2_writeFcs_18 rfl ?_
      refine lv_iload_n X.1 X.2.1 dX2_writeFcs_20 rfl (lv_at hl 3 rfl) ?_
      refine lv_imul X.1 X.2.1 dX2_writeFcs_21 ?_
      refine lv_iushr (v := (iu v2 (8 * v3))) X.1 X.2.1 dX2_writeFcs_22 rfl ?_
      refine lv_sipush (v := 255) X.1 X.2.1 dX2_writeFcs_23 rfl ?_
      refine lv_iand X.1 X.2.1 dX2_writeFcs_26 ?_
      refine x_iastP X hW dX2_writeFcs_27 h (fun S4 H locs h hW => ?_)
      refine lv_iinc (v := (v3 + 1)) (lv' := [(3, .int (v3 + 1)), (0, .ref (G.2.2 cv0 v0)), (1, .int v1), (2, .int v2)]) X.1 X.2.1 dX2_writeFcs_28 hl (k := 3) rfl rfl (by decide) rfl (fun ls hl => ?_)
      refine lv_goto (tgt := 8) X.1 X.2.1 dX2_writeFcs_31 (by decide) ?_
      exact ih (v3 + 1) S4 _ _ _ h hW  (lv_sub hl [1, 2, 3, 0] rfl)
set_option maxRecDepth 100000 in
set_option maxHeartbeats 4000000 in
theorem w_X2_writeFcs_0 {p : Program} {l : Launch} {e : Env} {s : State} {m : MethodId} {args : Array Value} {below : List Frame} {meth : Method} {c : Code} {G : xG} {sz : Nat} {o : Unit × Mm} (X : xC G false sz p s m args c cX2_writeFcs 4 wsX2_writeFcs RX2 meth none) (cv0 : Nat) (v0 : Nat) (v1 : Int32) {S : Mm} {H : Heap} {locs : List Loc} {ls : Array Slot} (hW : xW G false sz s H locs S) (hl : lv_has ls 4 [(0, .ref (G.2.2 cv0 v0)), (1, .int v1)]) (h : F_X2_writeFcs cv0 v0 v1 S = some o) : wX p l e rmX2_writeFcs s m args below meth c H locs (xQv G false sz o) (XA G false sz) 0 ls [] := by
  unfold F_X2_writeFcs at h
  refine lv_aload_n X.1 X.2.1 dX2_writeFcs_0 rfl (lv_at hl 0 rfl) ?_
  refine lv_iload_n X.1 X.2.1 dX2_writeFcs_1 rfl (lv_at hl 1 rfl) ?_
  obtain ⟨r1, S2, h3, h⟩ := cl_some h
  refine x_aftI X hW (x_runS (As := [.ref (G.2.2 cv0 v0), .int v1]) (rest := []) X hW (c_X2_crcOf l G X.2.2.2.2.2.2.2.2.2.1 _ S cv0 v0 v1 _ h3) (va_cwS 2 X.2.2.2.2.1 (gS gw306 gw307 gw267 gw308) rfl rfl rfl hd_X2_crcOf ⟨Nat.le_of_ble_eq_true rfl, Nat.le_of_ble_eq_true rfl⟩) rfl hl.1 rfl (Nat.le_of_ble_eq_true rfl) dX2_writeFcs_2 ⟨Nat.zero_le _, Nat.zero_le _⟩) (fun H locs hW => ?_)
  refine lv_istore_n (lv' := [(2, .int r1), (0, .ref (G.2.2 cv0 v0)), (1, .int v1)]) X.1 X.2.1 dX2_writeFcs_5 rfl hl (by decide) rfl (fun ls hl => ?_)
  refine lv_iconst (v := 0) X.1 X.2.1 dX2_writeFcs_6 rfl ?_
  refine lv_istore_n (lv' := [(3, .int 0), (2, .int r1), (0, .ref (G.2.2 cv0 v0)), (1, .int v1)]) X.1 X.2.1 dX2_writeFcs_7 rfl hl (by decide) rfl (fun ls hl => ?_)
  exact w_X2_writeFcs_8 X cv0 v0 v1 r1   fu 0 S2 _ _ _ h hW  (lv_sub hl [2, 3, 1, 0] rfl)
theorem c_X2_writeFcs (l : Launch) (G : xG) (hD : xD G false) (sz : Nat) (S : Mm) (cv0 : Nat) (v0 : Nat) (v1 : Int32) (o : Unit × Mm) (h : F_X2_writeFcs cv0 v0 v1 S = some o) : Met l yX2_writeFcs wsX2_writeFcs rmX2_writeFcs (xPre G false S sz [.ref (G.2.2 cv0 v0), .int v1]) (xQv G false sz o) 0 0 (XA G false sz) :=
  x_start hD (by decide) rfl (Nat.le_of_ble_eq_true rfl) (fun p e s m below meth c X hW ls hl => w_X2_writeFcs_0 X cv0 v0 v1 hW hl h)

/-! WirelessCell$Frames.hasRightFcs([II)Z -/
def rmX2_hasRightFcs : Room := { frames := 1, cells := 0, slots := 0, locals := 23 }
def L_X2_hasRightFcs_13  (cv0 : Nat) (v0 : Nat) (v2 : Int32) (v3 : Int32) : Nat → Int32 → Mm → Option (Int32 × Mm)
  | 0, _, _ => none
  | n + 1, v4, S => 
    if 4 ≤ v4 then (
    some (1, S))
    else (
    ldP false S cv0 v0 (v2 + v4) fun x5 =>
    if x5 = ((iu v3 (8 * v4)) &&& 255) then (
    (L_X2_hasRightFcs_13 cv0 v0 v2 v3 n) (v4 + 1) S)
    else (
    some (0, S)))
def F_X2_hasRightFcs (cv0 : Nat) (v0 : Nat) (v1 : Int32) (S : Mm) : Option (Int32 × Mm) :=
  tp (v1 - 4) fun x1 =>
  cl (F_X2_crcOf cv0 v0 x1 S) fun r2 S3 =>
  L_X2_hasRightFcs_13  cv0 v0 x1 r2 fu 0 S3
set_option maxRecDepth 100000 in
set_option maxHeartbeats 4000000 in
theorem w_X2_hasRightFcs_13 {p : Program} {l : Launch} {e : Env} {s : State} {m : MethodId} {args : Array Value} {below : List Frame} {meth : Method} {c : Code} {G : xG} {sz : Nat} {o : Int32 × Mm} (X : xC G false sz p s m args c cX2_hasRightFcs 5 wsX2_hasRightFcs RX2 meth (some .boolean)) (cv0 : Nat) (v0 : Nat) (v2 : Int32) (v3 : Int32)   : ∀ (n : Nat) (v4 : Int32) (S : Mm) (H : Heap) (locs : List Loc) (ls : Array Slot), L_X2_hasRightFcs_13 cv0 v0 v2 v3 n v4 S = some o → xW G false sz s H locs S → lv_has ls 5 [(0, .ref (G.2.2 cv0 v0)), (2, .int v2), (3, .int v3), (4, .int v4)] → wX p l e rmX2_hasRightFcs s m args below meth c H locs (xQi G false sz o) (XA G false sz) 13 ls [] := by
  intro n
  induction n with
  | zero =>
    intro v4 S H locs ls h
    cases h
  | succ n ih =>
    intro v4 S H locs ls h hW  hl
    rw [L_X2_hasRightFcs_13] at h
    refine lv_iload X.1 X.2.1 dX2_hasRightFcs_13 (lv_at hl 3 rfl) ?_
    refine lv_iconst (v := 4) X.1 X.2.1 dX2_hasRightFcs_15 rfl ?_
    refine x_icmp_ge X (tgt := 47) dX2_hasRightFcs_16 (by decide) h (fun h => ?_) (fun h => ?_)
    · refine lv_iconst (v := 1) X.1 X.2.1 dX2_hasRightFcs_47 rfl ?_
      exact x_zret X hW h rfl dX2_hasRightFcs_48
    · refine lv_aload_n X.1 X.2.1 dX2_hasRightFcs_19 rfl (lv_at hl 0 rfl) ?_
      refine lv_iload_n X.1 X.2.1 dX2_hasRightFcs_20 rfl (lv_at hl 1 rfl) ?_
      refine lv_iload X.1 X.2.1 dX2_hasRightFcs_21 (lv_at hl 3 rfl) ?_
      refine lv_iadd X.1 X.2.1 dX2_hasRightFcs_23 ?_
      refine x_ialdP X hW dX2_hasRightFcs_24 h (fun x5 h => ?_)
      refine lv_iload_n X.1 X.2.1 dX2_hasRightFcs_25 rfl (lv_at hl 2 rfl) ?_
      refine lv_bipush (v := 8) X.1 X.2.1 dX2_hasRightFcs_26 rfl ?_
      refine lv_iload X.1 X.2.1 dX2_hasRightFcs_28 (lv_at hl 3 rfl) ?_
      refine lv_imul X.1 X.2.1 dX2_hasRightFcs_30 ?_
      refine lv_iushr (v := (iu v3 (8 * v4))) X.1 X.2.1 dX2_hasRightFcs_31 rfl ?_
      refine lv_sipush (v := 255) X.1 X.2.1 dX2_hasRightFcs_32 rfl ?_
      refine lv_iand X.1 X.2.1 dX2_hasRightFcs_35 ?_
      refine x_icmp_eq X (tgt := 41) dX2_hasRightFcs_36 (by decide) h (fun h => ?_) (fun h => ?_)
      · refine lv_iinc (v := (v4 + 1)) (lv' := [(4, .int (v4 + 1)), (0, .ref (G.2.2 cv0 v0)), (2, .int v2), (3, .int v3)]) X.1 X.2.1 dX2_hasRightFcs_41 hl (k := 3) rfl rfl (by decide) rfl (fun ls hl => ?_)
        refine lv_goto (tgt := 13) X.1 X.2.1 dX2_hasRightFcs_44 (by decide) ?_
        exact ih (v4 + 1) S _ _ _ h hW  (lv_sub hl [1, 2, 3, 0] rfl)
      · refine lv_iconst (v := 0) X.1 X.2.1 dX2_hasRightFcs_39 rfl ?_
        exact x_zret X hW h rfl dX2_hasRightFcs_40
set_option maxRecDepth 100000 in
set_option maxHeartbeats 4000000 in
theorem w_X2_hasRightFcs_0 {p : Program} {l : Launch} {e : Env} {s : State} {m : MethodId} {args : Array Value} {below : List Frame} {meth : Method} {c : Code} {G : xG} {sz : Nat} {o : Int32 × Mm} (X : xC G false sz p s m args c cX2_hasRightFcs 5 wsX2_hasRightFcs RX2 meth (some .boolean)) (cv0 : Nat) (v0 : Nat) (v1 : Int32) {S : Mm} {H : Heap} {locs : List Loc} {ls : Array Slot} (hW : xW G false sz s H locs S) (hl : lv_has ls 5 [(0, .ref (G.2.2 cv0 v0)), (1, .int v1)]) (h : F_X2_hasRightFcs cv0 v0 v1 S = some o) : wX p l e rmX2_hasRightFcs s m args below meth c H locs (xQi G false sz o) (XA G false sz) 0 ls [] := by
  unfold F_X2_hasRightFcs at h
  refine lv_iload_n X.1 X.2.1 dX2_hasRightFcs_0 rfl (lv_at hl 1 rfl) ?_
  refine lv_iconst (v := 4) X.1 X.2.1 dX2_hasRightFcs_1 rfl ?_
  refine lv_isub X.1 X.2.1 dX2_hasRightFcs_2 ?_
  refine x_top h (fun x1 h => ?_)
  refine lv_istore_n (lv' := [(2, .int x1), (0, .ref (G.2.2 cv0 v0)), (1, .int v1)]) X.1 X.2.1 dX2_hasRightFcs_3 rfl hl (by decide) rfl (fun ls hl => ?_)
  refine lv_aload_n X.1 X.2.1 dX2_hasRightFcs_4 rfl (lv_at hl 1 rfl) ?_
  refine lv_iload_n X.1 X.2.1 dX2_hasRightFcs_5 rfl (lv_at hl 0 rfl) ?_
  obtain ⟨r2, S3, h4, h⟩ := cl_some h
  refine x_aftI X hW (x_runS (As := [.ref (G.2.2 cv0 v0), .int x1]) (rest := []) X hW (c_X2_crcOf l G X.2.2.2.2.2.2.2.2.2.1 _ S cv0 v0 x1 _ h4) (va_cwS 2 X.2.2.2.2.1 (gS gw306 gw307 gw267 gw308) rfl rfl rfl hd_X2_crcOf ⟨Nat.le_of_ble_eq_true rfl, Nat.le_of_ble_eq_true rfl⟩) rfl hl.1 rfl (Nat.le_of_ble_eq_true rfl) dX2_hasRightFcs_6 ⟨Nat.zero_le _, Nat.zero_le _⟩) (fun H locs hW => ?_)
  refine lv_istore_n (lv' := [(3, .int r2), (2, .int x1), (0, .ref (G.2.2 cv0 v0)), (1, .int v1)]) X.1 X.2.1 dX2_hasRightFcs_9 rfl hl (by decide) rfl (fun ls hl => ?_)
  refine lv_iconst (v := 0) X.1 X.2.1 dX2_hasRightFcs_10 rfl ?_
  refine lv_istore (lv' := [(4, .int 0), (3, .int r2), (2, .int x1), (0, .ref (G.2.2 cv0 v0)), (1, .int v1)]) X.1 X.2.1 dX2_hasRightFcs_11 hl (by decide) rfl (fun ls hl => ?_)
  exact w_X2_hasRightFcs_13 X cv0 v0 x1 r2   fu 0 S3 _ _ _ h hW  (lv_sub hl [3, 2, 1, 0] rfl)
theorem c_X2_hasRightFcs (l : Launch) (G : xG) (hD : xD G false) (sz : Nat) (S : Mm) (cv0 : Nat) (v0 : Nat) (v1 : Int32) (o : Int32 × Mm) (h : F_X2_hasRightFcs cv0 v0 v1 S = some o) : Met l yX2_hasRightFcs wsX2_hasRightFcs rmX2_hasRightFcs (xPre G false S sz [.ref (G.2.2 cv0 v0), .int v1]) (xQi G false sz o) 0 0 (XA G false sz) :=
  x_start hD (by decide) rfl (Nat.le_of_ble_eq_true rfl) (fun p e s m below meth c X hW ls hl => w_X2_hasRightFcs_0 X cv0 v0 v1 hW hl h)

/-! WirelessCell$Frames.hasToldControl([II)Z -/
def rmX2_hasToldControl : Room := { frames := 0, cells := 0, slots := 0, locals := 0 }
def L_X2_hasToldControl_76   (S : Mm) : Option (Int32 × Mm) :=
  some (0, S)
def L_X2_hasToldControl_97   (S : Mm) : Option (Int32 × Mm) :=
  some (0, S)
def L_X2_hasToldControl_118   (S : Mm) : Option (Int32 × Mm) :=
  some (0, S)
def L_X2_hasToldControl_78  (cv0 : Nat) (v0 : Nat) (v1 : Int32) (S : Mm) : Option (Int32 × Mm) :=
  if v1 < 28 then (
  L_X2_hasToldControl_97  S)
  else (
  ldP false S cv0 v0 1 fun x10 =>
  if (x10 &&& (-9)) = 0 then (
  some (1, S))
  else (
  L_X2_hasToldControl_97  S))
def F_X2_hasToldControl (cv0 : Nat) (v0 : Nat) (v1 : Int32) (S : Mm) : Option (Int32 × Mm) :=
  ldP false S cv0 v0 0 fun x1 =>
  if x1 = 0 then (
  L_X2_hasToldControl_78  cv0 v0 v1 S)
  else (
  if x1 = 8 then (
  if v1 < 28 then (
  L_X2_hasToldControl_118  S)
  else (
  ldP false S cv0 v0 1 fun x3 =>
  if (x3 &&& (-80)) = 0 then (
  some (1, S))
  else (
  L_X2_hasToldControl_118  S)))
  else (
  if x1 = 16 then (
  L_X2_hasToldControl_78  cv0 v0 v1 S)
  else (
  if x1 = 176 then (
  L_X2_hasToldControl_78  cv0 v0 v1 S)
  else (
  if x1 = 192 then (
  L_X2_hasToldControl_78  cv0 v0 v1 S)
  else (
  if x1 = 212 then (
  if v1 = 14 then (
  ldP false S cv0 v0 1 fun x8 =>
  if x8 = 0 then (
  some (1, S))
  else (
  L_X2_hasToldControl_76  S))
  else (
  L_X2_hasToldControl_76  S))
  else (
  some (0, S)))))))
set_option maxRecDepth 100000 in
set_option maxHeartbeats 4000000 in
theorem w_X2_hasToldControl_76 {p : Program} {l : Launch} {e : Env} {s : State} {m : MethodId} {args : Array Value} {below : List Frame} {meth : Method} {c : Code} {G : xG} {sz : Nat} {o : Int32 × Mm} (X : xC G false sz p s m args c cX2_hasToldControl 2 wsX2_hasToldControl RX2 meth (some .boolean))    {S : Mm} {H : Heap} {locs : List Loc} {ls : Array Slot} (hW : xW G false sz s H locs S) (hl : lv_has ls 2 []) (h : L_X2_hasToldControl_76   S = some o) : wX p l e rmX2_hasToldControl s m args below meth c H locs (xQi G false sz o) (XA G false sz) 76 ls [] := by
  unfold L_X2_hasToldControl_76 at h
  refine lv_iconst (v := 0) X.1 X.2.1 dX2_hasToldControl_76 rfl ?_
  exact x_zret X hW h rfl dX2_hasToldControl_77
set_option maxRecDepth 100000 in
set_option maxHeartbeats 4000000 in
theorem w_X2_hasToldControl_97 {p : Program} {l : Launch} {e : Env} {s : State} {m : MethodId} {args : Array Value} {below : List Frame} {meth : Method} {c : Code} {G : xG} {sz : Nat} {o : Int32 × Mm} (X : xC G false sz p s m args c cX2_hasToldControl 2 wsX2_hasToldControl RX2 meth (some .boolean))    {S : Mm} {H : Heap} {locs : List Loc} {ls : Array Slot} (hW : xW G false sz s H locs S) (hl : lv_has ls 2 []) (h : L_X2_hasToldControl_97   S = some o) : wX p l e rmX2_hasToldControl s m args below meth c H locs (xQi G false sz o) (XA G false sz) 97 ls [] := by
  unfold L_X2_hasToldControl_97 at h
  refine lv_iconst (v := 0) X.1 X.2.1 dX2_hasToldControl_97 rfl ?_
  exact x_zret X hW h rfl dX2_hasToldControl_98
set_option maxRecDepth 100000 in
set_option maxHeartbeats 4000000 in
theorem w_X2_hasToldControl_118 {p : Program} {l : Launch} {e : Env} {s : State} {m : MethodId} {args : Array Value} {below : List Frame} {meth : Method} {c : Code} {G : xG} {sz : Nat} {o : Int32 × Mm} (X : xC G false sz p s m args c cX2_hasToldControl 2 wsX2_hasToldControl RX2 meth (some .boolean))    {S : Mm} {H : Heap} {locs : List Loc} {ls : Array Slot} (hW : xW G false sz s H locs S) (hl : lv_has ls 2 []) (h : L_X2_hasToldControl_118   S = some o) : wX p l e rmX2_hasToldControl s m args below meth c H locs (xQi G false sz o) (XA G false sz) 118 ls [] := by
  unfold L_X2_hasToldControl_118 at h
  refine lv_iconst (v := 0) X.1 X.2.1 dX2_hasToldControl_118 rfl ?_
  exact x_zret X hW h rfl dX2_hasToldControl_119
set_option maxRecDepth 100000 in
set_option maxHeartbeats 4000000 in
theorem w_X2_hasToldControl_78 {p : Program} {l : Launch} {e : Env} {s : State} {m : MethodId} {args : Array Value} {below : List Frame} {meth : Method} {c : Code} {G : xG} {sz : Nat} {o : Int32 × Mm} (X : xC G false sz p s m args c cX2_hasToldControl 2 wsX2_hasToldControl RX2 meth (some .boolean)) (cv0 : Nat) (v0 : Nat) (v1 : Int32)   {S : Mm} {H : Heap} {locs : List Loc} {ls : Array Slot} (hW : xW G false sz s H locs S) (hl : lv_has ls 2 [(0, .ref (G.2.2 cv0 v0)), (1, .int v1)]) (h : L_X2_hasToldControl_78  cv0 v0 v1 S = some o) : wX p l e rmX2_hasToldControl s m args below meth c H locs (xQi G false sz o) (XA G false sz) 78 ls [] := by
  unfold L_X2_hasToldControl_78 at h
  refine lv_iload_n X.1 X.2.1 dX2_hasToldControl_78 rfl (lv_at hl 1 rfl) ?_
  refine lv_bipush (v := 28) X.1 X.2.1 dX2_hasToldControl_79 rfl ?_
  refine x_icmp_lt X (tgt := 97) dX2_hasToldControl_81 (by decide) h (fun h => ?_) (fun h => ?_)
  · exact w_X2_hasToldControl_97 X    hW (lv_sub hl [] rfl) h
  · refine lv_aload_n X.1 X.2.1 dX2_hasToldControl_84 rfl (lv_at hl 0 rfl) ?_
    refine lv_iconst (v := 1) X.1 X.2.1 dX2_hasToldControl_85 rfl ?_
    refine x_ialdP X hW dX2_hasToldControl_86 h (fun x10 h => ?_)
    refine lv_bipush (v := (-9)) X.1 X.2.1 dX2_hasToldControl_87 rfl ?_
    refine lv_iand X.1 X.2.1 dX2_hasToldControl_89 ?_
    refine x_if_ne X (tgt := 97) dX2_hasToldControl_90 (by decide) h (fun h => ?_) (fun h => ?_)
    · exact w_X2_hasToldControl_97 X    hW (lv_sub hl [] rfl) h
    · refine lv_iconst (v := 1) X.1 X.2.1 dX2_hasToldControl_93 rfl ?_
      refine lv_goto (tgt := 98) X.1 X.2.1 dX2_hasToldControl_94 (by decide) ?_
      exact x_zret X hW h rfl dX2_hasToldControl_98
set_option maxRecDepth 100000 in
set_option maxHeartbeats 4000000 in
theorem w_X2_hasToldControl_0 {p : Program} {l : Launch} {e : Env} {s : State} {m : MethodId} {args : Array Value} {below : List Frame} {meth : Method} {c : Code} {G : xG} {sz : Nat} {o : Int32 × Mm} (X : xC G false sz p s m args c cX2_hasToldControl 2 wsX2_hasToldControl RX2 meth (some .boolean)) (cv0 : Nat) (v0 : Nat) (v1 : Int32) {S : Mm} {H : Heap} {locs : List Loc} {ls : Array Slot} (hW : xW G false sz s H locs S) (hl : lv_has ls 2 [(0, .ref (G.2.2 cv0 v0)), (1, .int v1)]) (h : F_X2_hasToldControl cv0 v0 v1 S = some o) : wX p l e rmX2_hasToldControl s m args below meth c H locs (xQi G false sz o) (XA G false sz) 0 ls [] := by
  unfold F_X2_hasToldControl at h
  refine lv_aload_n X.1 X.2.1 dX2_hasToldControl_0 rfl (lv_at hl 0 rfl) ?_
  refine lv_iconst (v := 0) X.1 X.2.1 dX2_hasToldControl_1 rfl ?_
  refine x_ialdP X hW dX2_hasToldControl_2 h (fun x1 h => ?_)
  refine x_ite h (fun g2 h => ?_) (fun g2 h => ?_)
  · refine lv_lookup (off := 75) (tgt := 78) X.1 X.2.1 dX2_hasToldControl_3 (by decide) (by rw [g2]; try rfl) (by decide) ?_
    exact w_X2_hasToldControl_78 X cv0 v0 v1   hW (lv_sub hl [0, 1] rfl) h
  · refine x_ite h (fun g4 h => ?_) (fun g4 h => ?_)
    · refine lv_lookup (off := 96) (tgt := 99) X.1 X.2.1 dX2_hasToldControl_3 (by decide) (by rw [g4]; try rfl) (by decide) ?_
      refine lv_iload_n X.1 X.2.1 dX2_hasToldControl_99 rfl (lv_at hl 1 rfl) ?_
      refine lv_bipush (v := 28) X.1 X.2.1 dX2_hasToldControl_100 rfl ?_
      refine x_icmp_lt X (tgt := 118) dX2_hasToldControl_102 (by decide) h (fun h => ?_) (fun h => ?_)
      · exact w_X2_hasToldControl_118 X    hW (lv_sub hl [] rfl) h
      · refine lv_aload_n X.1 X.2.1 dX2_hasToldControl_105 rfl (lv_at hl 0 rfl) ?_
        refine lv_iconst (v := 1) X.1 X.2.1 dX2_hasToldControl_106 rfl ?_
        refine x_ialdP X hW dX2_hasToldControl_107 h (fun x3 h => ?_)
        refine lv_bipush (v := (-80)) X.1 X.2.1 dX2_hasToldControl_108 rfl ?_
        refine lv_iand X.1 X.2.1 dX2_hasToldControl_110 ?_
        refine x_if_ne X (tgt := 118) dX2_hasToldControl_111 (by decide) h (fun h => ?_) (fun h => ?_)
        · exact w_X2_hasToldControl_118 X    hW (lv_sub hl [] rfl) h
        · refine lv_iconst (v := 1) X.1 X.2.1 dX2_hasToldControl_114 rfl ?_
          refine lv_goto (tgt := 119) X.1 X.2.1 dX2_hasToldControl_115 (by decide) ?_
          exact x_zret X hW h rfl dX2_hasToldControl_119
    · refine x_ite h (fun g5 h => ?_) (fun g5 h => ?_)
      · refine lv_lookup (off := 75) (tgt := 78) X.1 X.2.1 dX2_hasToldControl_3 (by decide) (by rw [g5]; try rfl) (by decide) ?_
        exact w_X2_hasToldControl_78 X cv0 v0 v1   hW (lv_sub hl [0, 1] rfl) h
      · refine x_ite h (fun g6 h => ?_) (fun g6 h => ?_)
        · refine lv_lookup (off := 75) (tgt := 78) X.1 X.2.1 dX2_hasToldControl_3 (by decide) (by rw [g6]; try rfl) (by decide) ?_
          exact w_X2_hasToldControl_78 X cv0 v0 v1   hW (lv_sub hl [0, 1] rfl) h
        · refine x_ite h (fun g7 h => ?_) (fun g7 h => ?_)
          · refine lv_lookup (off := 75) (tgt := 78) X.1 X.2.1 dX2_hasToldControl_3 (by decide) (by rw [g7]; try rfl) (by decide) ?_
            exact w_X2_hasToldControl_78 X cv0 v0 v1   hW (lv_sub hl [0, 1] rfl) h
          · refine x_ite h (fun g9 h => ?_) (fun g9 h => ?_)
            · refine lv_lookup (off := 57) (tgt := 60) X.1 X.2.1 dX2_hasToldControl_3 (by decide) (by rw [g9]; try rfl) (by decide) ?_
              refine lv_iload_n X.1 X.2.1 dX2_hasToldControl_60 rfl (lv_at hl 1 rfl) ?_
              refine lv_bipush (v := 14) X.1 X.2.1 dX2_hasToldControl_61 rfl ?_
              refine x_icmp_ne X (tgt := 76) dX2_hasToldControl_63 (by decide) h (fun h => ?_) (fun h => ?_)
              · exact w_X2_hasToldControl_76 X    hW (lv_sub hl [] rfl) h
              · refine lv_aload_n X.1 X.2.1 dX2_hasToldControl_66 rfl (lv_at hl 0 rfl) ?_
                refine lv_iconst (v := 1) X.1 X.2.1 dX2_hasToldControl_67 rfl ?_
                refine x_ialdP X hW dX2_hasToldControl_68 h (fun x8 h => ?_)
                refine x_if_ne X (tgt := 76) dX2_hasToldControl_69 (by decide) h (fun h => ?_) (fun h => ?_)
                · exact w_X2_hasToldControl_76 X    hW (lv_sub hl [] rfl) h
                · refine lv_iconst (v := 1) X.1 X.2.1 dX2_hasToldControl_72 rfl ?_
                  refine lv_goto (tgt := 77) X.1 X.2.1 dX2_hasToldControl_73 (by decide) ?_
                  exact x_zret X hW h rfl dX2_hasToldControl_77
            · refine lv_lookup (off := 117) (tgt := 120) X.1 X.2.1 dX2_hasToldControl_3 (by decide) (by rw [lv_osw g2 (show Int32.toInt 0 = 0 from rfl), lv_osw g4 (show Int32.toInt 8 = 8 from rfl), lv_osw g5 (show Int32.toInt 16 = 16 from rfl), lv_osw g6 (show Int32.toInt 176 = 176 from rfl), lv_osw g7 (show Int32.toInt 192 = 192 from rfl), lv_osw g9 (show Int32.toInt 212 = 212 from rfl)]; try rfl) (by decide) ?_
              refine lv_iconst (v := 0) X.1 X.2.1 dX2_hasToldControl_120 rfl ?_
              exact x_zret X hW h rfl dX2_hasToldControl_121
theorem c_X2_hasToldControl (l : Launch) (G : xG) (hD : xD G false) (sz : Nat) (S : Mm) (cv0 : Nat) (v0 : Nat) (v1 : Int32) (o : Int32 × Mm) (h : F_X2_hasToldControl cv0 v0 v1 S = some o) : Met l yX2_hasToldControl wsX2_hasToldControl rmX2_hasToldControl (xPre G false S sz [.ref (G.2.2 cv0 v0), .int v1]) (xQi G false sz o) 0 0 (XA G false sz) :=
  x_start hD (by decide) rfl (Nat.le_of_ble_eq_true rfl) (fun p e s m below meth c X hW ls hl => w_X2_hasToldControl_0 X cv0 v0 v1 hW hl h)

/-! WirelessCell$Frames.isTakeable([II)Z -/
def rmX2_isTakeable : Room := { frames := 2, cells := 0, slots := 0, locals := 47 }
def L_X2_isTakeable_26   (S : Mm) : Option (Int32 × Mm) :=
  some (0, S)
def F_X2_isTakeable (cv0 : Nat) (v0 : Nat) (v1 : Int32) (S : Mm) : Option (Int32 × Mm) :=
  if v1 < 14 then (
  L_X2_isTakeable_26  S)
  else (
  cl (F_X2_hasToldControl cv0 v0 v1 S) fun r1 S2 =>
  if r1 = 0 then (
  L_X2_isTakeable_26  S2)
  else (
  cl (F_X2_hasRightFcs cv0 v0 v1 S2) fun r4 S5 =>
  if r4 = 0 then (
  L_X2_isTakeable_26  S5)
  else (
  some (1, S5))))
set_option maxRecDepth 100000 in
set_option maxHeartbeats 4000000 in
theorem w_X2_isTakeable_26 {p : Program} {l : Launch} {e : Env} {s : State} {m : MethodId} {args : Array Value} {below : List Frame} {meth : Method} {c : Code} {G : xG} {sz : Nat} {o : Int32 × Mm} (X : xC G false sz p s m args c cX2_isTakeable 2 wsX2_isTakeable RX2 meth (some .boolean))    {S : Mm} {H : Heap} {locs : List Loc} {ls : Array Slot} (hW : xW G false sz s H locs S) (hl : lv_has ls 2 []) (h : L_X2_isTakeable_26   S = some o) : wX p l e rmX2_isTakeable s m args below meth c H locs (xQi G false sz o) (XA G false sz) 26 ls [] := by
  unfold L_X2_isTakeable_26 at h
  refine lv_iconst (v := 0) X.1 X.2.1 dX2_isTakeable_26 rfl ?_
  exact x_zret X hW h rfl dX2_isTakeable_27
set_option maxRecDepth 100000 in
set_option maxHeartbeats 4000000 in
theorem w_X2_isTakeable_0 {p : Program} {l : Launch} {e : Env} {s : State} {m : MethodId} {args : Array Value} {below : List Frame} {meth : Method} {c : Code} {G : xG} {sz : Nat} {o : Int32 × Mm} (X : xC G false sz p s m args c cX2_isTakeable 2 wsX2_isTakeable RX2 meth (some .boolean)) (cv0 : Nat) (v0 : Nat) (v1 : Int32) {S : Mm} {H : Heap} {locs : List Loc} {ls : Array Slot} (hW : xW G false sz s H locs S) (hl : lv_has ls 2 [(0, .ref (G.2.2 cv0 v0)), (1, .int v1)]) (h : F_X2_isTakeable cv0 v0 v1 S = some o) : wX p l e rmX2_isTakeable s m args below meth c H locs (xQi G false sz o) (XA G false sz) 0 ls [] := by
  unfold F_X2_isTakeable at h
  refine lv_iload_n X.1 X.2.1 dX2_isTakeable_0 rfl (lv_at hl 1 rfl) ?_
  refine lv_bipush (v := 14) X.1 X.2.1 dX2_isTakeable_1 rfl ?_
  refine x_icmp_lt X (tgt := 26) dX2_isTakeable_3 (by decide) h (fun h => ?_) (fun h => ?_)
  · exact w_X2_isTakeable_26 X    hW (lv_sub hl [] rfl) h
  · refine lv_aload_n X.1 X.2.1 dX2_isTakeable_6 rfl (lv_at hl 0 rfl) ?_
    refine lv_iload_n X.1 X.2.1 dX2_isTakeable_7 rfl (lv_at hl 1 rfl) ?_
    obtain ⟨r1, S2, h3, h⟩ := cl_some h
    refine x_aftI X hW (x_runS (As := [.ref (G.2.2 cv0 v0), .int v1]) (rest := []) X hW (c_X2_hasToldControl l G X.2.2.2.2.2.2.2.2.2.1 _ S cv0 v0 v1 _ h3) (va_cwS 2 X.2.2.2.2.1 (gS gw770 gw771 gw267 gw772) rfl rfl rfl hd_X2_hasToldControl ⟨Nat.le_of_ble_eq_true rfl, Nat.le_of_ble_eq_true rfl⟩) rfl hl.1 rfl (Nat.le_of_ble_eq_true rfl) dX2_isTakeable_8 ⟨Nat.zero_le _, Nat.zero_le _⟩) (fun H locs hW => ?_)
    refine x_if_eq X (tgt := 26) dX2_isTakeable_11 (by decide) h (fun h => ?_) (fun h => ?_)
    · exact w_X2_isTakeable_26 X    hW (lv_sub hl [] rfl) h
    · refine lv_aload_n X.1 X.2.1 dX2_isTakeable_14 rfl (lv_at hl 0 rfl) ?_
      refine lv_iload_n X.1 X.2.1 dX2_isTakeable_15 rfl (lv_at hl 1 rfl) ?_
      obtain ⟨r4, S5, h6, h⟩ := cl_some h
      refine x_aftI X hW (x_runS (As := [.ref (G.2.2 cv0 v0), .int v1]) (rest := []) X hW (c_X2_hasRightFcs l G X.2.2.2.2.2.2.2.2.2.1 _ S2 cv0 v0 v1 _ h6) (va_cwS 2 X.2.2.2.2.1 (gS gw773 gw774 gw267 gw775) rfl rfl rfl hd_X2_hasRightFcs ⟨Nat.le_of_ble_eq_true rfl, Nat.le_of_ble_eq_true rfl⟩) rfl hl.1 rfl (Nat.le_of_ble_eq_true rfl) dX2_isTakeable_16 ⟨Nat.zero_le _, Nat.zero_le _⟩) (fun H locs hW => ?_)
      refine x_if_eq X (tgt := 26) dX2_isTakeable_19 (by decide) h (fun h => ?_) (fun h => ?_)
      · exact w_X2_isTakeable_26 X    hW (lv_sub hl [] rfl) h
      · refine lv_iconst (v := 1) X.1 X.2.1 dX2_isTakeable_22 rfl ?_
        refine lv_goto (tgt := 27) X.1 X.2.1 dX2_isTakeable_23 (by decide) ?_
        exact x_zret X hW h rfl dX2_isTakeable_27
theorem c_X2_isTakeable (l : Launch) (G : xG) (hD : xD G false) (sz : Nat) (S : Mm) (cv0 : Nat) (v0 : Nat) (v1 : Int32) (o : Int32 × Mm) (h : F_X2_isTakeable cv0 v0 v1 S = some o) : Met l yX2_isTakeable wsX2_isTakeable rmX2_isTakeable (xPre G false S sz [.ref (G.2.2 cv0 v0), .int v1]) (xQi G false sz o) 0 0 (XA G false sz) :=
  x_start hD (by decide) rfl (Nat.le_of_ble_eq_true rfl) (fun p e s m below meth c X hW ls hl => w_X2_isTakeable_0 X cv0 v0 v1 hW hl h)

/-! java/util/Arrays.rangeCheck(III)V -/
def rmJ7_rangeCheck_23922 : Room := { frames := 0, cells := 0, slots := 0, locals := 0 }
def F_J7_rangeCheck_23922 (v0 : Int32) (v1 : Int32) (v2 : Int32) (S : Mm) : Option (Unit × Mm) :=
  if v1 ≤ v2 then (
  if 0 ≤ v1 then (
  if v2 ≤ v0 then (
  some ((), S))
  else (
  none))
  else (
  none))
  else (
  none)
set_option maxRecDepth 100000 in
set_option maxHeartbeats 4000000 in
theorem w_J7_rangeCheck_23922_0 {p : Program} {l : Launch} {e : Env} {s : State} {m : MethodId} {args : Array Value} {below : List Frame} {meth : Method} {c : Code} {G : xG} {sz : Nat} {o : Unit × Mm} (X : xC G false sz p s m args c cJ7_rangeCheck_23922 3 wsJ7_rangeCheck_23922 RJ7 meth none) (v0 : Int32) (v1 : Int32) (v2 : Int32) {S : Mm} {H : Heap} {locs : List Loc} {ls : Array Slot} (hW : xW G false sz s H locs S) (hl : lv_has ls 3 [(0, .int v0), (1, .int v1), (2, .int v2)]) (h : F_J7_rangeCheck_23922 v0 v1 v2 S = some o) : wX p l e rmJ7_rangeCheck_23922 s m args below meth c H locs (xQv G false sz o) (XA G false sz) 0 ls [] := by
  unfold F_J7_rangeCheck_23922 at h
  refine lv_iload_n X.1 X.2.1 dJ7_rangeCheck_23922_0 rfl (lv_at hl 1 rfl) ?_
  refine lv_iload_n X.1 X.2.1 dJ7_rangeCheck_23922_1 rfl (lv_at hl 2 rfl) ?_
  refine x_icmp_le X (tgt := 46) dJ7_rangeCheck_23922_2 (by decide) h (fun h => ?_) (fun h => ?_)
  · refine lv_iload_n X.1 X.2.1 dJ7_rangeCheck_23922_46 rfl (lv_at hl 1 rfl) ?_
    refine x_if_ge X (tgt := 59) dJ7_rangeCheck_23922_47 (by decide) h (fun h => ?_) (fun h => ?_)
    · refine lv_iload_n X.1 X.2.1 dJ7_rangeCheck_23922_59 rfl (lv_at hl 2 rfl) ?_
      refine lv_iload_n X.1 X.2.1 dJ7_rangeCheck_23922_60 rfl (lv_at hl 0 rfl) ?_
      refine x_icmp_le X (tgt := 73) dJ7_rangeCheck_23922_61 (by decide) h (fun h => ?_) (fun h => ?_)
      · exact x_vret X hW h dJ7_rangeCheck_23922_73
      · cases h
    · cases h
  · cases h
theorem c_J7_rangeCheck_23922 (l : Launch) (G : xG) (hD : xD G false) (sz : Nat) (S : Mm) (v0 : Int32) (v1 : Int32) (v2 : Int32) (o : Unit × Mm) (h : F_J7_rangeCheck_23922 v0 v1 v2 S = some o) : Met l yJ7_rangeCheck_23922 wsJ7_rangeCheck_23922 rmJ7_rangeCheck_23922 (xPre G false S sz [.int v0, .int v1, .int v2]) (xQv G false sz o) 0 0 (XA G false sz) :=
  x_start hD (by decide) rfl (Nat.le_of_ble_eq_true rfl) (fun p e s m below meth c X hW ls hl => w_J7_rangeCheck_23922_0 X v0 v1 v2 hW hl h)

/-! java/util/Arrays.fill([IIII)V -/
def rmJ7_fill_fda19 : Room := { frames := 1, cells := 0, slots := 0, locals := 22 }
def L_J7_fill_fda19_10  (cv0 : Nat) (v0 : Nat) (v2 : Int32) (v3 : Int32) : Nat → Int32 → Mm → Option (Unit × Mm)
  | 0, _, _ => none
  | n + 1, v4, S => 
    if v2 ≤ v4 then (
    some ((), S))
    else (
    stP false S cv0 v0 v4 v3 fun S5 =>
    (L_J7_fill_fda19_10 cv0 v0 v2 v3 n) (v4 + 1) S5)
def F_J7_fill_fda19 (cv0 : Nat) (v0 : Nat) (v1 : Int32) (v2 : Int32) (v3 : Int32) (S : Mm) : Option (Unit × Mm) :=
  lnP false cv0 v0 fun x1 =>
  cl (F_J7_rangeCheck_23922 x1 v1 v2 S) fun r2 S3 =>
  L_J7_fill_fda19_10  cv0 v0 v2 v3 fu v1 S3
set_option maxRecDepth 100000 in
set_option maxHeartbeats 4000000 in
theorem w_J7_fill_fda19_10 {p : Program} {l : Launch} {e : Env} {s : State} {m : MethodId} {args : Array Value} {below : List Frame} {meth : Method} {c : Code} {G : xG} {sz : Nat} {o : Unit × Mm} (X : xC G false sz p s m args c cJ7_fill_fda19 5 wsJ7_fill_fda19 RJ7 meth none) (cv0 : Nat) (v0 : Nat) (v2 : Int32) (v3 : Int32)   : ∀ (n : Nat) (v4 : Int32) (S : Mm) (H : Heap) (locs : List Loc) (ls : Array Slot), L_J7_fill_fda19_10 cv0 v0 v2 v3 n v4 S = some o → xW G false sz s H locs S → lv_has ls 5 [(0, .ref (G.2.2 cv0 v0)), (2, .int v2), (3, .int v3), (4, .int v4)] → wX p l e rmJ7_fill_fda19 s m args below meth c H locs (xQv G false sz o) (XA G false sz) 10 ls [] := by
  intro n
  induction n with
  | zero =>
    intro v4 S H locs ls h
    cases h
  | succ n ih =>
    intro v4 S H locs ls h hW  hl
    rw [L_J7_fill_fda19_10] at h
    refine lv_iload X.1 X.2.1 dJ7_fill_fda19_10 (lv_at hl 3 rfl) ?_
    refine lv_iload_n X.1 X.2.1 dJ7_fill_fda19_12 rfl (lv_at hl 1 rfl) ?_
    refine x_icmp_ge X (tgt := 27) dJ7_fill_fda19_13 (by decide) h (fun h => ?_) (fun h => ?_)
    · exact x_vret X hW h dJ7_fill_fda19_27
    · refine lv_aload_n X.1 X.2.1 dJ7_fill_fda19_16 rfl (lv_at hl 0 rfl) ?_
      refine lv_iload X.1 X.2.1 dJ7_fill_fda19_17 (lv_at hl 3 rfl) ?_
      refine lv_iload_n X.1 X.2.1 dJ7_fill_fda19_19 rfl (lv_at hl 2 rfl) ?_
      refine x_iastP X hW dJ7_fill_fda19_20 h (fun S5 H locs h hW => ?_)
      refine lv_iinc (v := (v4 + 1)) (lv' := [(4, .int (v4 + 1)), (0, .ref (G.2.2 cv0 v0)), (2, .int v2), (3, .int v3)]) X.1 X.2.1 dJ7_fill_fda19_21 hl (k := 3) rfl rfl (by decide) rfl (fun ls hl => ?_)
      refine lv_goto (tgt := 10) X.1 X.2.1 dJ7_fill_fda19_24 (by decide) ?_
      exact ih (v4 + 1) S5 _ _ _ h hW  (lv_sub hl [1, 2, 3, 0] rfl)
set_option maxRecDepth 100000 in
set_option maxHeartbeats 4000000 in
theorem w_J7_fill_fda19_0 {p : Program} {l : Launch} {e : Env} {s : State} {m : MethodId} {args : Array Value} {below : List Frame} {meth : Method} {c : Code} {G : xG} {sz : Nat} {o : Unit × Mm} (X : xC G false sz p s m args c cJ7_fill_fda19 5 wsJ7_fill_fda19 RJ7 meth none) (cv0 : Nat) (v0 : Nat) (v1 : Int32) (v2 : Int32) (v3 : Int32) {S : Mm} {H : Heap} {locs : List Loc} {ls : Array Slot} (hW : xW G false sz s H locs S) (hl : lv_has ls 5 [(0, .ref (G.2.2 cv0 v0)), (1, .int v1), (2, .int v2), (3, .int v3)]) (h : F_J7_fill_fda19 cv0 v0 v1 v2 v3 S = some o) : wX p l e rmJ7_fill_fda19 s m args below meth c H locs (xQv G false sz o) (XA G false sz) 0 ls [] := by
  unfold F_J7_fill_fda19 at h
  refine lv_aload_n X.1 X.2.1 dJ7_fill_fda19_0 rfl (lv_at hl 0 rfl) ?_
  refine x_lenP X hW dJ7_fill_fda19_1 h (fun x1 h => ?_)
  refine lv_iload_n X.1 X.2.1 dJ7_fill_fda19_2 rfl (lv_at hl 1 rfl) ?_
  refine lv_iload_n X.1 X.2.1 dJ7_fill_fda19_3 rfl (lv_at hl 2 rfl) ?_
  obtain ⟨r2, S3, h4, h⟩ := cl_some h
  refine x_aftV X hW (x_runS (As := [.int x1, .int v1, .int v2]) (rest := []) X hW (c_J7_rangeCheck_23922 l G X.2.2.2.2.2.2.2.2.2.1 _ S x1 v1 v2 _ h4) (va_cwS 3 X.2.2.2.2.1 (gS gw518 gw519 gw135 gw520) rfl rfl rfl hd_J7_rangeCheck_23922 ⟨Nat.le_of_ble_eq_true rfl, Nat.le_of_ble_eq_true rfl⟩) rfl hl.1 rfl (Nat.le_of_ble_eq_true rfl) dJ7_fill_fda19_4 ⟨Nat.zero_le _, Nat.zero_le _⟩) (fun H locs hW => ?_)
  refine lv_iload_n X.1 X.2.1 dJ7_fill_fda19_7 rfl (lv_at hl 1 rfl) ?_
  refine lv_istore (lv' := [(4, .int v1), (0, .ref (G.2.2 cv0 v0)), (1, .int v1), (2, .int v2), (3, .int v3)]) X.1 X.2.1 dJ7_fill_fda19_8 hl (by decide) rfl (fun ls hl => ?_)
  exact w_J7_fill_fda19_10 X cv0 v0 v2 v3   fu v1 S3 _ _ _ h hW  (lv_sub hl [1, 3, 4, 0] rfl)
theorem c_J7_fill_fda19 (l : Launch) (G : xG) (hD : xD G false) (sz : Nat) (S : Mm) (cv0 : Nat) (v0 : Nat) (v1 : Int32) (v2 : Int32) (v3 : Int32) (o : Unit × Mm) (h : F_J7_fill_fda19 cv0 v0 v1 v2 v3 S = some o) : Met l yJ7_fill_fda19 wsJ7_fill_fda19 rmJ7_fill_fda19 (xPre G false S sz [.ref (G.2.2 cv0 v0), .int v1, .int v2, .int v3]) (xQv G false sz o) 0 0 (XA G false sz) :=
  x_start hD (by decide) rfl (Nat.le_of_ble_eq_true rfl) (fun p e s m below meth c X hW ls hl => w_J7_fill_fda19_0 X cv0 v0 v1 v2 v3 hW hl h)

/-! WirelessCell$Frames.writeAddress([III)V -/
def rmX2_writeAddress : Room := { frames := 2, cells := 0, slots := 0, locals := 46 }
def F_X2_writeAddress (cv0 : Nat) (v0 : Nat) (v1 : Int32) (v2 : Int32) (S : Mm) : Option (Unit × Mm) :=
  stP false S cv0 v0 v1 2 fun S1 =>
  cl (F_J7_fill_fda19 cv0 v0 (v1 + 1) (v1 + 5) 0 S1) fun r2 S3 =>
  stP false S3 cv0 v0 (v1 + 5) v2 fun S5 =>
  some ((), S5)
set_option maxRecDepth 100000 in
set_option maxHeartbeats 4000000 in
theorem w_X2_writeAddress_0 {p : Program} {l : Launch} {e : Env} {s : State} {m : MethodId} {args : Array Value} {below : List Frame} {meth : Method} {c : Code} {G : xG} {sz : Nat} {o : Unit × Mm} (X : xC G false sz p s m args c cX2_writeAddress 3 wsX2_writeAddress RX2 meth none) (cv0 : Nat) (v0 : Nat) (v1 : Int32) (v2 : Int32) {S : Mm} {H : Heap} {locs : List Loc} {ls : Array Slot} (hW : xW G false sz s H locs S) (hl : lv_has ls 3 [(0, .ref (G.2.2 cv0 v0)), (1, .int v1), (2, .int v2)]) (h : F_X2_writeAddress cv0 v0 v1 v2 S = some o) : wX p l e rmX2_writeAddress s m args below meth c H locs (xQv G false sz o) (XA G false sz) 0 ls [] := by
  unfold F_X2_writeAddress at h
  refine lv_aload_n X.1 X.2.1 dX2_writeAddress_0 rfl (lv_at hl 0 rfl) ?_
  refine lv_iload_n X.1 X.2.1 dX2_writeAddress_1 rfl (lv_at hl 1 rfl) ?_
  refine lv_iconst (v := 2) X.1 X.2.1 dX2_writeAddress_2 rfl ?_
  refine x_iastP X hW dX2_writeAddress_3 h (fun S1 H locs h hW => ?_)
  refine lv_aload_n X.1 X.2.1 dX2_writeAddress_4 rfl (lv_at hl 0 rfl) ?_
  refine lv_iload_n X.1 X.2.1 dX2_writeAddress_5 rfl (lv_at hl 1 rfl) ?_
  refine lv_iconst (v := 1) X.1 X.2.1 dX2_writeAddress_6 rfl ?_
  refine lv_iadd X.1 X.2.1 dX2_writeAddress_7 ?_
  refine lv_iload_n X.1 X.2.1 dX2_writeAddress_8 rfl (lv_at hl 1 rfl) ?_
  refine lv_iconst (v := 5) X.1 X.2.1 dX2_writeAddress_9 rfl ?_
  refine lv_iadd X.1 X.2.1 dX2_writeAddress_10 ?_
  refine lv_iconst (v := 0) X.1 X.2.1 dX2_writeAddress_11 rfl ?_
  obtain ⟨r2, S3, h4, h⟩ := cl_some h
  refine x_aftV X hW (x_runS (As := [.ref (G.2.2 cv0 v0), .int (v1 + 1), .int (v1 + 5), .int 0]) (rest := []) X hW (c_J7_fill_fda19 l G X.2.2.2.2.2.2.2.2.2.1 _ S1 cv0 v0 (v1 + 1) (v1 + 5) 0 _ h4) (va_cwS 4 X.2.2.2.2.1 (gS gw515 gw516 gw135 gw517) rfl rfl rfl hd_J7_fill_fda19 ⟨Nat.le_of_ble_eq_true rfl, Nat.le_of_ble_eq_true rfl⟩) rfl hl.1 rfl (Nat.le_of_ble_eq_true rfl) dX2_writeAddress_12 ⟨Nat.zero_le _, Nat.zero_le _⟩) (fun H locs hW => ?_)
  refine lv_aload_n X.1 X.2.1 dX2_writeAddress_15 rfl (lv_at hl 0 rfl) ?_
  refine lv_iload_n X.1 X.2.1 dX2_writeAddress_16 rfl (lv_at hl 1 rfl) ?_
  refine lv_iconst (v := 5) X.1 X.2.1 dX2_writeAddress_17 rfl ?_
  refine lv_iadd X.1 X.2.1 dX2_writeAddress_18 ?_
  refine lv_iload_n X.1 X.2.1 dX2_writeAddress_19 rfl (lv_at hl 2 rfl) ?_
  refine x_iastP X hW dX2_writeAddress_20 h (fun S5 H locs h hW => ?_)
  exact x_vret X hW h dX2_writeAddress_21
theorem c_X2_writeAddress (l : Launch) (G : xG) (hD : xD G false) (sz : Nat) (S : Mm) (cv0 : Nat) (v0 : Nat) (v1 : Int32) (v2 : Int32) (o : Unit × Mm) (h : F_X2_writeAddress cv0 v0 v1 v2 S = some o) : Met l yX2_writeAddress wsX2_writeAddress rmX2_writeAddress (xPre G false S sz [.ref (G.2.2 cv0 v0), .int v1, .int v2]) (xQv G false sz o) 0 0 (XA G false sz) :=
  x_start hD (by decide) rfl (Nat.le_of_ble_eq_true rfl) (fun p e s m below meth c X hW ls hl => w_X2_writeAddress_0 X cv0 v0 v1 v2 hW hl h)

/-! WirelessCell.isNode(I)Z -/
def rmX11_isNode : Room := { frames := 0, cells := 0, slots := 0, locals := 0 }
def L_X11_isNode_14   (S : Mm) : Option (Int32 × Mm) :=
  some (0, S)
def F_X11_isNode (v0 : Int32) (S : Mm) : Option (Int32 × Mm) :=
  if v0 < 0 then (
  L_X11_isNode_14  S)
  else (
  if 9 ≤ v0 then (
  L_X11_isNode_14  S)
  else (
  some (1, S)))
set_option maxRecDepth 100000 in
set_option maxHeartbeats 4000000 in
theorem w_X11_isNode_14 {p : Program} {l : Launch} {e : Env} {s : State} {m : MethodId} {args : Array Value} {below : List Frame} {meth : Method} {c : Code} {G : xG} {sz : Nat} {o : Int32 × Mm} (X : xC G false sz p s m args c cX11_isNode 1 wsX11_isNode RX11 meth (some .boolean))    {S : Mm} {H : Heap} {locs : List Loc} {ls : Array Slot} (hW : xW G false sz s H locs S) (hl : lv_has ls 1 []) (h : L_X11_isNode_14   S = some o) : wX p l e rmX11_isNode s m args below meth c H locs (xQi G false sz o) (XA G false sz) 14 ls [] := by
  unfold L_X11_isNode_14 at h
  refine lv_iconst (v := 0) X.1 X.2.1 dX11_isNode_14 rfl ?_
  exact x_zret X hW h rfl dX11_isNode_15
set_option maxRecDepth 100000 in
set_option maxHeartbeats 4000000 in
theorem w_X11_isNode_0 {p : Program} {l : Launch} {e : Env} {s : State} {m : MethodId} {args : Array Value} {below : List Frame} {meth : Method} {c : Code} {G : xG} {sz : Nat} {o : Int32 × Mm} (X : xC G false sz p s m args c cX11_isNode 1 wsX11_isNode RX11 meth (some .boolean)) (v0 : Int32) {S : Mm} {H : Heap} {locs : List Loc} {ls : Array Slot} (hW : xW G false sz s H locs S) (hl : lv_has ls 1 [(0, .int v0)]) (h : F_X11_isNode v0 S = some o) : wX p l e rmX11_isNode s m args below meth c H locs (xQi G false sz o) (XA G false sz) 0 ls [] := by
  unfold F_X11_isNode at h
  refine lv_iload_n X.1 X.2.1 dX11_isNode_0 rfl (lv_at hl 0 rfl) ?_
  refine x_if_lt X (tgt := 14) dX11_isNode_1 (by decide) h (fun h => ?_) (fun h => ?_)
  · exact w_X11_isNode_14 X    hW (lv_sub hl [] rfl) h
  · refine lv_iload_n X.1 X.2.1 dX11_isNode_4 rfl (lv_at hl 0 rfl) ?_
    refine lv_bipush (v := 9) X.1 X.2.1 dX11_isNode_5 rfl ?_
    refine x_icmp_ge X (tgt := 14) dX11_isNode_7 (by decide) h (fun h => ?_) (fun h => ?_)
    · exact w_X11_isNode_14 X    hW (lv_sub hl [] rfl) h
    · refine lv_iconst (v := 1) X.1 X.2.1 dX11_isNode_10 rfl ?_
      refine lv_goto (tgt := 15) X.1 X.2.1 dX11_isNode_11 (by decide) ?_
      exact x_zret X hW h rfl dX11_isNode_15
theorem c_X11_isNode (l : Launch) (G : xG) (hD : xD G false) (sz : Nat) (S : Mm) (v0 : Int32) (o : Int32 × Mm) (h : F_X11_isNode v0 S = some o) : Met l yX11_isNode wsX11_isNode rmX11_isNode (xPre G false S sz [.int v0]) (xQi G false sz o) 0 0 (XA G false sz) :=
  x_start hD (by decide) rfl (Nat.le_of_ble_eq_true rfl) (fun p e s m below meth c X hW ls hl => w_X11_isNode_0 X v0 hW hl h)

/-! WirelessCell$Frames.nodeAt([II)I -/
def rmX2_nodeAt : Room := { frames := 1, cells := 0, slots := 0, locals := 20 }
def L_X2_nodeAt_49   (S : Mm) : Option (Int32 × Mm) :=
  some ((-1), S)
def L_X2_nodeAt_2  (cv0 : Nat) (v0 : Nat) (v1 : Int32) : Nat → Int32 → Mm → Option (Int32 × Mm)
  | 0, _, _ => none
  | n + 1, v2, S => 
    if 5 ≤ v2 then (
    ldP false S cv0 v0 v1 fun x1 =>
    if x1 = 2 then (
    ldP false S cv0 v0 (v1 + 5) fun x2 =>
    cl (F_X11_isNode x2 S) fun r3 S4 =>
    if r3 = 0 then (
    L_X2_nodeAt_49  S4)
    else (
    ldP false S4 cv0 v0 (v1 + 5) fun x6 =>
    some (x6, S4)))
    else (
    L_X2_nodeAt_49  S))
    else (
    ldP false S cv0 v0 (v1 + v2) fun x7 =>
    if x7 = 0 then (
    (L_X2_nodeAt_2 cv0 v0 v1 n) (v2 + 1) S)
    else (
    some ((-1), S)))
def F_X2_nodeAt (cv0 : Nat) (v0 : Nat) (v1 : Int32) (S : Mm) : Option (Int32 × Mm) :=
  L_X2_nodeAt_2  cv0 v0 v1 fu 1 S
set_option maxRecDepth 100000 in
set_option maxHeartbeats 4000000 in
theorem w_X2_nodeAt_49 {p : Program} {l : Launch} {e : Env} {s : State} {m : MethodId} {args : Array Value} {below : List Frame} {meth : Method} {c : Code} {G : xG} {sz : Nat} {o : Int32 × Mm} (X : xC G false sz p s m args c cX2_nodeAt 3 wsX2_nodeAt RX2 meth (some .int))    {S : Mm} {H : Heap} {locs : List Loc} {ls : Array Slot} (hW : xW G false sz s H locs S) (hl : lv_has ls 3 []) (h : L_X2_nodeAt_49   S = some o) : wX p l e rmX2_nodeAt s m args below meth c H locs (xQi G false sz o) (XA G false sz) 49 ls [] := by
  unfold L_X2_nodeAt_49 at h
  refine lv_iconst (v := (-1)) X.1 X.2.1 dX2_nodeAt_49 rfl ?_
  exact x_iret X hW h dX2_nodeAt_50
set_option maxRecDepth 100000 in
set_option maxHeartbeats 4000000 in
theorem w_X2_nodeAt_2 {p : Program} {l : Launch} {e : Env} {s : State} {m : MethodId} {args : Array Value} {below : List Frame} {meth : Method} {c : Code} {G : xG} {sz : Nat} {o : Int32 × Mm} (X : xC G false sz p s m args c cX2_nodeAt 3 wsX2_nodeAt RX2 meth (some .int)) (cv0 : Nat) (v0 : Nat) (v1 : Int32)   : ∀ (n : Nat) (v2 : Int32) (S : Mm) (H : Heap) (locs : List Loc) (ls : Array Slot), L_X2_nodeAt_2 cv0 v0 v1 n v2 S = some o → xW G false sz s H locs S → lv_has ls 3 [(0, .ref (G.2.2 cv0 v0)), (1, .int v1), (2, .int v2)] → wX p l e rmX2_nodeAt s m args below meth c H locs (xQi G false sz o) (XA G false sz) 2 ls [] := by
  intro n
  induction n with
  | zero =>
    intro v2 S H locs ls h
    cases h
  | succ n ih =>
    intro v2 S H locs ls h hW  hl
    rw [L_X2_nodeAt_2] at h
    refine lv_iload_n X.1 X.2.1 dX2_nodeAt_2 rfl (lv_at hl 2 rfl) ?_
    refine lv_iconst (v := 5) X.1 X.2.1 dX2_nodeAt_3 rfl ?_
    refine x_icmp_ge X (tgt := 23) dX2_nodeAt_4 (by decide) h (fun h => ?_) (fun h => ?_)
    · refine lv_aload_n X.1 X.2.1 dX2_nodeAt_23 rfl (lv_at hl 0 rfl) ?_
      refine lv_iload_n X.1 X.2.1 dX2_nodeAt_24 rfl (lv_at hl 1 rfl) ?_
      refine x_ialdP X hW dX2_nodeAt_25 h (fun x1 h => ?_)
      refine lv_iconst (v := 2) X.1 X.2.1 dX2_nodeAt_26 rfl ?_
      refine x_icmp_ne X (tgt := 49) dX2_nodeAt_27 (by decide) h (fun h => ?_) (fun h => ?_)
      · exact w_X2_nodeAt_49 X    hW (lv_sub hl [] rfl) h
      · refine lv_aload_n X.1 X.2.1 dX2_nodeAt_30 rfl (lv_at hl 0 rfl) ?_
        refine lv_iload_n X.1 X.2.1 dX2_nodeAt_31 rfl (lv_at hl 1 rfl) ?_
        refine lv_iconst (v := 5) X.1 X.2.1 dX2_nodeAt_32 rfl ?_
        refine lv_iadd X.1 X.2.1 dX2_nodeAt_33 ?_
        refine x_ialdP X hW dX2_nodeAt_34 h (fun x2 h => ?_)
        obtain ⟨r3, S4, h5, h⟩ := cl_some h
        refine x_aftI X hW (x_runSN (As := [.int x2]) (rest := []) X hW (c_X11_isNode l G X.2.2.2.2.2.2.2.2.2.1 _ S x2 _ h5) ⟨va_cnB 1 X.2.2.2.2.1 (gN gw391) rfl rfl rfl X.2.2.2.2.2.2.2.2.2.2.2.2.1.1 (X.2.2.2.2.1 _ (List.mem_cons_of_mem _ gw2)) hd_X11_isNode ⟨Nat.le_of_ble_eq_true rfl, Nat.le_of_ble_eq_true rfl⟩, X.2.2.2.2.1 _ (List.mem_cons_of_mem _ gw390), trivial⟩ rfl hl.1 rfl (Nat.le_of_ble_eq_true rfl) dX2_nodeAt_35 ⟨Nat.zero_le _, Nat.zero_le _⟩) (fun H locs hW => ?_)
        refine x_if_eq X (tgt := 49) dX2_nodeAt_38 (by decide) h (fun h => ?_) (fun h => ?_)
        · exact w_X2_nodeAt_49 X    hW (lv_sub hl [] rfl) h
        · refine lv_aload_n X.1 X.2.1 dX2_nodeAt_41 rfl (lv_at hl 0 rfl) ?_
          refine lv_iload_n X.1 X.2.1 dX2_nodeAt_42 rfl (lv_at hl 1 rfl) ?_
          refine lv_iconst (v := 5) X.1 X.2.1 dX2_nodeAt_43 rfl ?_
          refine lv_iadd X.1 X.2.1 dX2_nodeAt_44 ?_
          refine x_ialdP X hW dX2_nodeAt_45 h (fun x6 h => ?_)
          refine lv_goto (tgt := 50) X.1 X.2.1 dX2_nodeAt_46 (by decide) ?_
          exact x_iret X hW h dX2_nodeAt_50
    · refine lv_aload_n X.1 X.2.1 dX2_nodeAt_7 rfl (lv_at hl 0 rfl) ?_
      refine lv_iload_n X.1 X.2.1 dX2_nodeAt_8 rfl (lv_at hl 1 rfl) ?_
      refine lv_iload_n X.1 X.2.1 dX2_nodeAt_9 rfl (lv_at hl 2 rfl) ?_
      refine lv_iadd X.1 X.2.1 dX2_nodeAt_10 ?_
      refine x_ialdP X hW dX2_nodeAt_11 h (fun x7 h => ?_)
      refine x_if_eq X (tgt := 17) dX2_nodeAt_12 (by decide) h (fun h => ?_) (fun h => ?_)
      · refine lv_iinc (v := (v2 + 1)) (lv' := [(2, .int (v2 + 1)), (0, .ref (G.2.2 cv0 v0)), (1, .int v1)]) X.1 X.2.1 dX2_nodeAt_17 hl (k := 2) rfl rfl (by decide) rfl (fun ls hl => ?_)
        refine lv_goto (tgt := 2) X.1 X.2.1 dX2_nodeAt_20 (by decide) ?_
        exact ih (v2 + 1) S _ _ _ h hW  (lv_sub hl [1, 2, 0] rfl)
      · refine lv_iconst (v := (-1)) X.1 X.2.1 dX2_nodeAt_15 rfl ?_
        exact x_iret X hW h dX2_nodeAt_16
set_option maxRecDepth 100000 in
set_option maxHeartbeats 4000000 in
theorem w_X2_nodeAt_0 {p : Program} {l : Launch} {e : Env} {s : State} {m : MethodId} {args : Array Value} {below : List Frame} {meth : Method} {c : Code} {G : xG} {sz : Nat} {o : Int32 × Mm} (X : xC G false sz p s m args c cX2_nodeAt 3 wsX2_nodeAt RX2 meth (some .int)) (cv0 : Nat) (v0 : Nat) (v1 : Int32) {S : Mm} {H : Heap} {locs : List Loc} {ls : Array Slot} (hW : xW G false sz s H locs S) (hl : lv_has ls 3 [(0, .ref (G.2.2 cv0 v0)), (1, .int v1)]) (h : F_X2_nodeAt cv0 v0 v1 S = some o) : wX p l e rmX2_nodeAt s m args below meth c H locs (xQi G false sz o) (XA G false sz) 0 ls [] := by
  unfold F_X2_nodeAt at h
  refine lv_iconst (v := 1) X.1 X.2.1 dX2_nodeAt_0 rfl ?_
  refine lv_istore_n (lv' := [(2, .int 1), (0, .ref (G.2.2 cv0 v0)), (1, .int v1)]) X.1 X.2.1 dX2_nodeAt_1 rfl hl (by decide) rfl (fun ls hl => ?_)
  exact w_X2_nodeAt_2 X cv0 v0 v1   fu 1 S _ _ _ h hW  (lv_sub hl [1, 2, 0] rfl)
theorem c_X2_nodeAt (l : Launch) (G : xG) (hD : xD G false) (sz : Nat) (S : Mm) (cv0 : Nat) (v0 : Nat) (v1 : Int32) (o : Int32 × Mm) (h : F_X2_nodeAt cv0 v0 v1 S = some o) : Met l yX2_nodeAt wsX2_nodeAt rmX2_nodeAt (xPre G false S sz [.ref (G.2.2 cv0 v0), .int v1]) (xQi G false sz o) 0 0 (XA G false sz) :=
  x_start hD (by decide) rfl (Nat.le_of_ble_eq_true rfl) (fun p e s m below meth c X hW ls hl => w_X2_nodeAt_0 X cv0 v0 v1 hW hl h)

/-! WirelessCell$Frames.dataFlags(LWirelessCell$Message;II)I -/
def rmX2_dataFlags : Room := { frames := 0, cells := 0, slots := 0, locals := 0 }
def L_X2_dataFlags_53  (s0 : Int32) (s1 : Int32) (S : Mm) : Option (Int32 × Mm) :=
  some ((s0 ||| s1), S)
def L_X2_dataFlags_39  (v0 : Nat) (s0 : Int32) (s1 : Int32) (S : Mm) : Option (Int32 × Mm) :=
  gf S 84 v0 fun x3 =>
  if x3 = 0 then (
  L_X2_dataFlags_53  (s0 ||| s1) 0 S)
  else (
  L_X2_dataFlags_53  (s0 ||| s1) 64 S)
def L_X2_dataFlags_30  (v0 : Nat) (v3 : Int32) (s0 : Int32) (S : Mm) : Option (Int32 × Mm) :=
  if v3 = 0 then (
  L_X2_dataFlags_39  v0 s0 0 S)
  else (
  L_X2_dataFlags_39  v0 s0 4 S)
def L_X2_dataFlags_20  (v0 : Nat) (v1 : Int32) (s0 : Int32) (S : Mm) : Option (Int32 × Mm) :=
  if v1 = 0 then (
  L_X2_dataFlags_30  v0 s0 2 S)
  else (
  L_X2_dataFlags_30  v0 s0 1 S)
def F_X2_dataFlags (v0 : Nat) (v1 : Int32) (v2 : Int32) (S : Mm) : Option (Int32 × Mm) :=
  gd (v0 < 108) (
  gf S 85 v0 fun x1 =>
  gf S 80 v0 fun x2 =>
  if x2 ≤ ((v2 + 1) * x1) then (
  L_X2_dataFlags_20  v0 v1 0 S)
  else (
  L_X2_dataFlags_20  v0 v1 1 S))
set_option maxRecDepth 100000 in
set_option maxHeartbeats 4000000 in
theorem w_X2_dataFlags_53 {p : Program} {l : Launch} {e : Env} {s : State} {m : MethodId} {args : Array Value} {below : List Frame} {meth : Method} {c : Code} {G : xG} {sz : Nat} {o : Int32 × Mm} (X : xC G false sz p s m args c cX2_dataFlags 4 wsX2_dataFlags RX2 meth (some .int)) (s0 : Int32) (s1 : Int32)   {S : Mm} {H : Heap} {locs : List Loc} {ls : Array Slot} (hW : xW G false sz s H locs S) (hl : lv_has ls 4 []) (h : L_X2_dataFlags_53  s0 s1 S = some o) : wX p l e rmX2_dataFlags s m args below meth c H locs (xQi G false sz o) (XA G false sz) 53 ls [.int s1, .int s0] := by
  unfold L_X2_dataFlags_53 at h
  refine lv_ior X.1 X.2.1 dX2_dataFlags_53 ?_
  exact x_iret X hW h dX2_dataFlags_54
set_option maxRecDepth 100000 in
set_option maxHeartbeats 4000000 in
theorem w_X2_dataFlags_39 {p : Program} {l : Launch} {e : Env} {s : State} {m : MethodId} {args : Array Value} {below : List Frame} {meth : Method} {c : Code} {G : xG} {sz : Nat} {o : Int32 × Mm} (X : xC G false sz p s m args c cX2_dataFlags 4 wsX2_dataFlags RX2 meth (some .int)) (v0 : Nat) (s0 : Int32) (s1 : Int32) (qv0 : v0 < 108)  {S : Mm} {H : Heap} {locs : List Loc} {ls : Array Slot} (hW : xW G false sz s H locs S) (hl : lv_has ls 4 [(0, .ref (G.2.2 5 v0))]) (h : L_X2_dataFlags_39  v0 s0 s1 S = some o) : wX p l e rmX2_dataFlags s m args below meth c H locs (xQi G false sz o) (XA G false sz) 39 ls [.int s1, .int s0] := by
  unfold L_X2_dataFlags_39 at h
  refine lv_ior X.1 X.2.1 dX2_dataFlags_39 ?_
  refine lv_aload_n X.1 X.2.1 dX2_dataFlags_40 rfl (lv_at hl 0 rfl) ?_
  refine x_getI X hW fd_Message_sealed (fun w h => List.mem_cons_of_mem _ (gin_X6 w h)) (List.mem_cons_of_mem _ gw683) qv0 dX2_dataFlags_41 h (fun x3 h => ?_)
  refine x_if_eq X (tgt := 52) dX2_dataFlags_44 (by decide) h (fun h => ?_) (fun h => ?_)
  · refine lv_iconst (v := 0) X.1 X.2.1 dX2_dataFlags_52 rfl ?_
    exact w_X2_dataFlags_53 X (s0 ||| s1) 0   hW (lv_sub hl [] rfl) h
  · refine lv_bipush (v := 64) X.1 X.2.1 dX2_dataFlags_47 rfl ?_
    refine lv_goto (tgt := 53) X.1 X.2.1 dX2_dataFlags_49 (by decide) ?_
    exact w_X2_dataFlags_53 X (s0 ||| s1) 64   hW (lv_sub hl [] rfl) h
set_option maxRecDepth 100000 in
set_option maxHeartbeats 4000000 in
theorem w_X2_dataFlags_30 {p : Program} {l : Launch} {e : Env} {s : State} {m : MethodId} {args : Array Value} {below : List Frame} {meth : Method} {c : Code} {G : xG} {sz : Nat} {o : Int32 × Mm} (X : xC G false sz p s m args c cX2_dataFlags 4 wsX2_dataFlags RX2 meth (some .int)) (v0 : Nat) (v3 : Int32) (s0 : Int32) (qv0 : v0 < 108)  {S : Mm} {H : Heap} {locs : List Loc} {ls : Array Slot} (hW : xW G false sz s H locs S) (hl : lv_has ls 4 [(0, .ref (G.2.2 5 v0)), (3, .int v3)]) (h : L_X2_dataFlags_30  v0 v3 s0 S = some o) : wX p l e rmX2_dataFlags s m args below meth c H locs (xQi G false sz o) (XA G false sz) 30 ls [.int s0] := by
  unfold L_X2_dataFlags_30 at h
  refine lv_iload_n X.1 X.2.1 dX2_dataFlags_30 rfl (lv_at hl 1 rfl) ?_
  refine x_if_eq X (tgt := 38) dX2_dataFlags_31 (by decide) h (fun h => ?_) (fun h => ?_)
  · refine lv_iconst (v := 0) X.1 X.2.1 dX2_dataFlags_38 rfl ?_
    exact w_X2_dataFlags_39 X v0 s0 0 qv0  hW (lv_sub hl [0] rfl) h
  · refine lv_iconst (v := 4) X.1 X.2.1 dX2_dataFlags_34 rfl ?_
    refine lv_goto (tgt := 39) X.1 X.2.1 dX2_dataFlags_35 (by decide) ?_
    exact w_X2_dataFlags_39 X v0 s0 4 qv0  hW (lv_sub hl [0] rfl) h
set_option maxRecDepth 100000 in
set_option maxHeartbeats 4000000 in
theorem w_X2_dataFlags_20 {p : Program} {l : Launch} {e : Env} {s : State} {m : MethodId} {args : Array Value} {below : List Frame} {meth : Method} {c : Code} {G : xG} {sz : Nat} {o : Int32 × Mm} (X : xC G false sz p s m args c cX2_dataFlags 4 wsX2_dataFlags RX2 meth (some .int)) (v0 : Nat) (v1 : Int32) (s0 : Int32) (qv0 : v0 < 108)  {S : Mm} {H : Heap} {locs : List Loc} {ls : Array Slot} (hW : xW G false sz s H locs S) (hl : lv_has ls 4 [(0, .ref (G.2.2 5 v0)), (1, .int v1)]) (h : L_X2_dataFlags_20  v0 v1 s0 S = some o) : wX p l e rmX2_dataFlags s m args below meth c H locs (xQi G false sz o) (XA G false sz) 20 ls [.int s0] := by
  unfold L_X2_dataFlags_20 at h
  refine lv_istore_n (lv' := [(3, .int s0), (0, .ref (G.2.2 5 v0)), (1, .int v1)]) X.1 X.2.1 dX2_dataFlags_20 rfl hl (by decide) rfl (fun ls hl => ?_)
  refine lv_iload_n X.1 X.2.1 dX2_dataFlags_21 rfl (lv_at hl 2 rfl) ?_
  refine x_if_ne X (tgt := 29) dX2_dataFlags_22 (by decide) h (fun h => ?_) (fun h => ?_)
  · refine lv_iconst (v := 1) X.1 X.2.1 dX2_dataFlags_29 rfl ?_
    exact w_X2_dataFlags_30 X v0 s0 1 qv0  hW (lv_sub hl [1, 0] rfl) h
  · refine lv_iconst (v := 2) X.1 X.2.1 dX2_dataFlags_25 rfl ?_
    refine lv_goto (tgt := 30) X.1 X.2.1 dX2_dataFlags_26 (by decide) ?_
    exact w_X2_dataFlags_30 X v0 s0 2 qv0  hW (lv_sub hl [1, 0] rfl) h
set_option maxRecDepth 100000 in
set_option maxHeartbeats 4000000 in
theorem w_X2_dataFlags_0 {p : Program} {l : Launch} {e : Env} {s : State} {m : MethodId} {args : Array Value} {below : List Frame} {meth : Method} {c : Code} {G : xG} {sz : Nat} {o : Int32 × Mm} (X : xC G false sz p s m args c cX2_dataFlags 4 wsX2_dataFlags RX2 meth (some .int)) (v0 : Nat) (v1 : Int32) (v2 : Int32) {S : Mm} {H : Heap} {locs : List Loc} {ls : Array Slot} (hW : xW G false sz s H locs S) (hl : lv_has ls 4 [(0, .ref (G.2.2 5 v0)), (1, .int v1), (2, .int v2)]) (h : F_X2_dataFlags v0 v1 v2 S = some o) : wX p l e rmX2_dataFlags s m args below meth c H locs (xQi G false sz o) (XA G false sz) 0 ls [] := by
  unfold F_X2_dataFlags at h
  obtain ⟨qv0, h⟩ := if_some h
  refine lv_iload_n X.1 X.2.1 dX2_dataFlags_0 rfl (lv_at hl 2 rfl) ?_
  refine lv_iconst (v := 1) X.1 X.2.1 dX2_dataFlags_1 rfl ?_
  refine lv_iadd X.1 X.2.1 dX2_dataFlags_2 ?_
  refine lv_aload_n X.1 X.2.1 dX2_dataFlags_3 rfl (lv_at hl 0 rfl) ?_
  refine x_getI X hW fd_Message_cut (fun w h => List.mem_cons_of_mem _ (gin_X6 w h)) (List.mem_cons_of_mem _ gw681) qv0 dX2_dataFlags_4 h (fun x1 h => ?_)
  refine lv_imul X.1 X.2.1 dX2_dataFlags_7 ?_
  refine lv_aload_n X.1 X.2.1 dX2_dataFlags_8 rfl (lv_at hl 0 rfl) ?_
  refine x_getI X hW fd_Message_length (fun w h => List.mem_cons_of_mem _ (gin_X6 w h)) (List.mem_cons_of_mem _ gw682) qv0 dX2_dataFlags_9 h (fun x2 h => ?_)
  refine x_icmp_ge X (tgt := 19) dX2_dataFlags_12 (by decide) h (fun h => ?_) (fun h => ?_)
  · refine lv_iconst (v := 0) X.1 X.2.1 dX2_dataFlags_19 rfl ?_
    exact w_X2_dataFlags_20 X v0 v1 0 qv0  hW (lv_sub hl [0, 1] rfl) h
  · refine lv_iconst (v := 1) X.1 X.2.1 dX2_dataFlags_15 rfl ?_
    refine lv_goto (tgt := 20) X.1 X.2.1 dX2_dataFlags_16 (by decide) ?_
    exact w_X2_dataFlags_20 X v0 v1 1 qv0  hW (lv_sub hl [0, 1] rfl) h
theorem c_X2_dataFlags (l : Launch) (G : xG) (hD : xD G false) (sz : Nat) (S : Mm) (v0 : Nat) (v1 : Int32) (v2 : Int32) (o : Int32 × Mm) (h : F_X2_dataFlags v0 v1 v2 S = some o) : Met l yX2_dataFlags wsX2_dataFlags rmX2_dataFlags (xPre G false S sz [.ref (G.2.2 5 v0), .int v1, .int v2]) (xQi G false sz o) 0 0 (XA G false sz) :=
  x_start hD (by decide) rfl (Nat.le_of_ble_eq_true rfl) (fun p e s m below meth c X hW ls hl => w_X2_dataFlags_0 X v0 v1 v2 hW hl h)

/-! WirelessCell$Frames.writeHeader([ILWirelessCell$Message;II)V -/
def rmX2_writeHeader : Room := { frames := 3, cells := 0, slots := 0, locals := 68 }
def L_X2_writeHeader_28  (cv0 : Nat) (v0 : Nat) (v1 : Nat) (v2 : Int32) (v3 : Int32) (cs0 : Nat) (s0 : Nat) (s1 : Int32) (s2 : Int32) (S : Mm) : Option (Unit × Mm) :=
  stP false S cs0 s0 s1 s2 fun S7 =>
  stP false S7 cv0 v0 2 0 fun S8 =>
  stP false S8 cv0 v0 3 0 fun S9 =>
  gf S9 82 v1 fun x10 =>
  cl (F_X2_writeAddress cv0 v0 4 x10 S9) fun r11 S12 =>
  cl (F_X2_writeAddress cv0 v0 10 v2 S12) fun r14 S15 =>
  gf S15 83 v1 fun x17 =>
  cl (F_X2_writeAddress cv0 v0 16 x17 S15) fun r18 S19 =>
  gf S19 86 v1 fun x21 =>
  tp (v3 + (16 * x21)) fun x22 =>
  stP false S19 cv0 v0 22 (x22 &&& 255) fun S23 =>
  stP false S23 cv0 v0 23 ((x22 >>> (8 &&& 31)) &&& 255) fun S24 =>
  some ((), S24)
def F_X2_writeHeader (cv0 : Nat) (v0 : Nat) (v1 : Nat) (v2 : Int32) (v3 : Int32) (S : Mm) : Option (Unit × Mm) :=
  gd (v1 < 108) (
  gf S 81 v1 fun x1 =>
  stP false S cv0 v0 0 x1 fun S2 =>
  gf S2 81 v1 fun x3 =>
  if x3 = 8 then (
  cl (F_X2_dataFlags v1 v2 v3 S2) fun r4 S5 =>
  L_X2_writeHeader_28  cv0 v0 v1 v2 v3 cv0 v0 1 r4 S5)
  else (
  L_X2_writeHeader_28  cv0 v0 v1 v2 v3 cv0 v0 1 0 S2))
set_option maxRecDepth 100000 in
set_option maxHeartbeats 4000000 in
theorem w_X2_writeHeader_28 {p : Program} {l : Launch} {e : Env} {s : State} {m : MethodId} {args : Array Value} {below : List Frame} {meth : Method} {c : Code} {G : xG} {sz : Nat} {o : Unit × Mm} (X : xC G false sz p s m args c cX2_writeHeader 5 wsX2_writeHeader RX2 meth none) (cv0 : Nat) (v0 : Nat) (v1 : Nat) (v2 : Int32) (v3 : Int32) (cs0 : Nat) (s0 : Nat) (s1 : Int32) (s2 : Int32) (qv1 : v1 < 108)  {S : Mm} {H : Heap} {locs : List Loc} {ls : Array Slot} (hW : xW G false sz s H locs S) (hl : lv_has ls 5 [(0, .ref (G.2.2 cv0 v0)), (1, .ref (G.2.2 5 v1)), (2, .int v2), (3, .int v3)]) (h : L_X2_writeHeader_28  cv0 v0 v1 v2 v3 cs0 s0 s1 s2 S = some o) : wX p l e rmX2_writeHeader s m args below meth c H locs (xQv G false sz o) (XA G false sz) 28 ls [.int s2, .int s1, .ref (G.2.2 cs0 s0)] := by
  unfold L_X2_writeHeader_28 at h
  refine x_iastP X hW dX2_writeHeader_28 h (fun S7 H locs h hW => ?_)
  refine lv_aload_n X.1 X.2.1 dX2_writeHeader_29 rfl (lv_at hl 0 rfl) ?_
  refine lv_iconst (v := 2) X.1 X.2.1 dX2_writeHeader_30 rfl ?_
  refine lv_iconst (v := 0) X.1 X.2.1 dX2_writeHeader_31 rfl ?_
  refine x_iastP X hW dX2_writeHeader_32 h (fun S8 H locs h hW => ?_)
  refine lv_aload_n X.1 X.2.1 dX2_writeHeader_33 rfl (lv_at hl 0 rfl) ?_
  refine lv_iconst (v := 3) X.1 X.2.1 dX2_writeHeader_34 rfl ?_
  refine lv_iconst (v := 0) X.1 X.2.1 dX2_writeHeader_35 rfl ?_
  refine x_iastP X hW dX2_writeHeader_36 h (fun S9 H locs h hW => ?_)
  refine lv_aload_n X.1 X.2.1 dX2_writeHeader_37 rfl (lv_at hl 0 rfl) ?_
  refine lv_iconst (v := 4) X.1 X.2.1 dX2_writeHeader_38 rfl ?_
  refine lv_aload_n X.1 X.2.1 dX2_writeHeader_39 rfl (lv_at hl 1 rfl) ?_
  refine x_getI X hW fd_Message_receiver (fun w h => List.mem_cons_of_mem _ (gin_X6 w h)) (List.mem_cons_of_mem _ gw675) qv1 dX2_writeHeader_40 h (fun x10 h => ?_)
  obtain ⟨r11, S12, h13, h⟩ := cl_some h
  refine x_aftV X hW (x_runS (As := [.ref (G.2.2 cv0 v0), .int 4, .int x10]) (rest := []) X hW (c_X2_writeAddress l G X.2.2.2.2.2.2.2.2.2.1 _ S9 cv0 v0 4 x10 _ h13) (va_cwS 3 X.2.2.2.2.1 (gS gw684 gw685 gw267 gw686) rfl rfl rfl hd_X2_writeAddress ⟨Nat.le_of_ble_eq_true rfl, Nat.le_of_ble_eq_true rfl⟩) rfl hl.1 rfl (Nat.le_of_ble_eq_true rfl) dX2_writeHeader_43 ⟨Nat.zero_le _, Nat.zero_le _⟩) (fun H locs hW => ?_)
  refine lv_aload_n X.1 X.2.1 dX2_writeHeader_46 rfl (lv_at hl 0 rfl) ?_
  refine lv_bipush (v := 10) X.1 X.2.1 dX2_writeHeader_47 rfl ?_
  refine lv_iload_n X.1 X.2.1 dX2_writeHeader_49 rfl (lv_at hl 2 rfl) ?_
  obtain ⟨r14, S15, h16, h⟩ := cl_some h
  refine x_aftV X hW (x_runS (As := [.ref (G.2.2 cv0 v0), .int 10, .int v2]) (rest := []) X hW (c_X2_writeAddress l G X.2.2.2.2.2.2.2.2.2.1 _ S12 cv0 v0 10 v2 _ h16) (va_cwS 3 X.2.2.2.2.1 (gS gw684 gw685 gw267 gw686) rfl rfl rfl hd_X2_writeAddress ⟨Nat.le_of_ble_eq_true rfl, Nat.le_of_ble_eq_true rfl⟩) rfl hl.1 rfl (Nat.le_of_ble_eq_true rfl) dX2_writeHeader_50 ⟨Nat.zero_le _, Nat.zero_le _⟩) (fun H locs hW => ?_)
  refine lv_aload_n X.1 X.2.1 dX2_writeHeader_53 rfl (lv_at hl 0 rfl) ?_
  refine lv_bipush (v := 16) X.1 X.2.1 dX2_writeHeader_54 rfl ?_
  refine lv_aload_n X.1 X.2.1 dX2_writeHeader_56 rfl (lv_at hl 1 rfl) ?_
  refine x_getI X hW fd_Message_third (fun w h => List.mem_cons_of_mem _ (gin_X6 w h)) (List.mem_cons_of_mem _ gw676) qv1 dX2_writeHeader_57 h (fun x17 h => ?_)
  obtain ⟨r18, S19, h20, h⟩ := cl_some h
  refine x_aftV X hW (x_runS (As := [.ref (G.2.2 cv0 v0), .int 16, .int x17]) (rest := []) X hW (c_X2_writeAddress l G X.2.2.2.2.2.2.2.2.2.1 _ S15 cv0 v0 16 x17 _ h20) (va_cwS 3 X.2.2.2.2.1 (gS gw684 gw685 gw267 gw686) rfl rfl rfl hd_X2_writeAddress ⟨Nat.le_of_ble_eq_true rfl, Nat.le_of_ble_eq_true rfl⟩) rfl hl.1 rfl (Nat.le_of_ble_eq_true rfl) dX2_writeHeader_60 ⟨Nat.zero_le _, Nat.zero_le _⟩) (fun H locs hW => ?_)
  refine lv_iload_n X.1 X.2.1 dX2_writeHeader_63 rfl (lv_at hl 3 rfl) ?_
  refine lv_bipush (v := 16) X.1 X.2.1 dX2_writeHeader_64 rfl ?_
  refine lv_aload_n X.1 X.2.1 dX2_writeHeader_66 rfl (lv_at hl 1 rfl) ?_
  refine x_getI X hW fd_Message_sequence (fun w h => List.mem_cons_of_mem _ (gin_X6 w h)) (List.mem_cons_of_mem _ gw677) qv1 dX2_writeHeader_67 h (fun x21 h => ?_)
  refine lv_imul X.1 X.2.1 dX2_writeHeader_70 ?_
  refine lv_iadd X.1 X.2.1 dX2_writeHeader_71 ?_
  refine x_top h (fun x22 h => ?_)
  refine lv_istore (lv' := [(4, .int x22), (0, .ref (G.2.2 cv0 v0)), (1, .ref (G.2.2 5 v1)), (2, .int v2), (3, .int v3)]) X.1 X.2.1 dX2_writeHeader_72 hl (by decide) rfl (fun ls hl => ?_)
  refine lv_aload_n X.1 X.2.1 dX2_writeHeader_74 rfl (lv_at hl 1 rfl) ?_
  refine lv_bipush (v := 22) X.1 X.2.1 dX2_writeHeader_75 rfl ?_
  refine lv_iload X.1 X.2.1 dX2_writeHeader_77 (lv_at hl 0 rfl) ?_
  refine lv_sipush (v := 255) X.1 X.2.1 dX2_writeHeader_79 rfl ?_
  refine lv_iand X.1 X.2.1 dX2_writeHeader_82 ?_
  refine x_iastP X hW dX2_writeHeader_83 h (fun S23 H locs h hW => ?_)
  refine lv_aload_n X.1 X.2.1 dX2_writeHeader_84 rfl (lv_at hl 1 rfl) ?_
  refine lv_bipush (v := 23) X.1 X.2.1 dX2_writeHeader_85 rfl ?_
  refine lv_iload X.1 X.2.1 dX2_writeHeader_87 (lv_at hl 0 rfl) ?_
  refine lv_bipush (v := 8) X.1 X.2.1 dX2_writeHeader_89 rfl ?_
  refine lv_ishr X.1 X.2.1 dX2_writeHeader_91 ?_
  refine lv_sipush (v := 255) X.1 X.2.1 dX2_writeHeader_92 rfl ?_
  refine lv_iand X.1 X.2.1 dX2_writeHeader_95 ?_
  refine x_iastP X hW dX2_writeHeader_96 h (fun S24 H locs h hW => ?_)
  exact x_vret X hW h dX2_writeHeader_97
set_option maxRecDepth 100000 in
set_option maxHeartbeats 4000000 in
theorem w_X2_writeHeader_0 {p : Program} {l : Launch} {e : Env} {s : State} {m : MethodId} {args : Array Value} {below : List Frame} {meth : Method} {c : Code} {G : xG} {sz : Nat} {o : Unit × Mm} (X : xC G false sz p s m args c cX2_writeHeader 5 wsX2_writeHeader RX2 meth none) (cv0 : Nat) (v0 : Nat) (v1 : Nat) (v2 : Int32) (v3 : Int32) {S : Mm} {H : Heap} {locs : List Loc} {ls : Array Slot} (hW : xW G false sz s H locs S) (hl : lv_has ls 5 [(0, .ref (G.2.2 cv0 v0)), (1, .ref (G.2.2 5 v1)), (2, .int v2), (3, .int v3)]) (h : F_X2_writeHeader cv0 v0 v1 v2 v3 S = some o) : wX p l e rmX2_writeHeader s m args below meth c H locs (xQv G false sz o) (XA G false sz) 0 ls [] := by
  unfold F_X2_writeHeader at h
  obtain ⟨qv1, h⟩ := if_some h
  refine lv_aload_n X.1 X.2.1 dX2_writeHeader_0 rfl (lv_at hl 0 rfl) ?_
  refine lv_iconst (v := 0) X.1 X.2.1 dX2_writeHeader_1 rfl ?_
  refine lv_aload_n X.1 X.2.1 dX2_writeHeader_2 rfl (lv_at hl 1 rfl) ?_
  refine x_getI X hW fd_Message_kind (fun w h => List.mem_cons_of_mem _ (gin_X6 w h)) (List.mem_cons_of_mem _ gw674) qv1 dX2_writeHeader_3 h (fun x1 h => ?_)
  refine x_iastP X hW dX2_writeHeader_6 h (fun S2 H locs h hW => ?_)
  refine lv_aload_n X.1 X.2.1 dX2_writeHeader_7 rfl (lv_at hl 0 rfl) ?_
  refine lv_iconst (v := 1) X.1 X.2.1 dX2_writeHeader_8 rfl ?_
  refine lv_aload_n X.1 X.2.1 dX2_writeHeader_9 rfl (lv_at hl 1 rfl) ?_
  refine x_getI X hW fd_Message_kind (fun w h => List.mem_cons_of_mem _ (gin_X6 w h)) (List.mem_cons_of_mem _ gw674) qv1 dX2_writeHeader_10 h (fun x3 h => ?_)
  refine lv_bipush (v := 8) X.1 X.2.1 dX2_writeHeader_13 rfl ?_
  refine x_icmp_ne X (tgt := 27) dX2_writeHeader_15 (by decide) h (fun h => ?_) (fun h => ?_)
  · refine lv_iconst (v := 0) X.1 X.2.1 dX2_writeHeader_27 rfl ?_
    exact w_X2_writeHeader_28 X cv0 v0 v1 v2 v3 cv0 v0 1 0 qv1  hW (lv_sub hl [0, 1, 2, 3] rfl) h
  · refine lv_aload_n X.1 X.2.1 dX2_writeHeader_18 rfl (lv_at hl 1 rfl) ?_
    refine lv_iload_n X.1 X.2.1 dX2_writeHeader_19 rfl (lv_at hl 2 rfl) ?_
    refine lv_iload_n X.1 X.2.1 dX2_writeHeader_20 rfl (lv_at hl 3 rfl) ?_
    obtain ⟨r4, S5, h6, h⟩ := cl_some h
    refine x_aftI X hW (x_runS (As := [.ref (G.2.2 5 v1), .int v2, .int v3]) (rest := [.int 1, .ref (G.2.2 cv0 v0)]) X hW (c_X2_dataFlags l G X.2.2.2.2.2.2.2.2.2.1 _ S2 v1 v2 v3 _ h6) (va_cwS 3 X.2.2.2.2.1 (gS gw678 gw679 gw267 gw680) rfl rfl rfl hd_X2_dataFlags ⟨Nat.le_of_ble_eq_true rfl, Nat.le_of_ble_eq_true rfl⟩) rfl hl.1 rfl (Nat.le_of_ble_eq_true rfl) dX2_writeHeader_21 ⟨Nat.zero_le _, Nat.zero_le _⟩) (fun H locs hW => ?_)
    refine lv_goto (tgt := 28) X.1 X.2.1 dX2_writeHeader_24 (by decide) ?_
    exact w_X2_writeHeader_28 X cv0 v0 v1 v2 v3 cv0 v0 1 r4 qv1  hW (lv_sub hl [0, 1, 2, 3] rfl) h
theorem c_X2_writeHeader (l : Launch) (G : xG) (hD : xD G false) (sz : Nat) (S : Mm) (cv0 : Nat) (v0 : Nat) (v1 : Nat) (v2 : Int32) (v3 : Int32) (o : Unit × Mm) (h : F_X2_writeHeader cv0 v0 v1 v2 v3 S = some o) : Met l yX2_writeHeader wsX2_writeHeader rmX2_writeHeader (xPre G false S sz [.ref (G.2.2 cv0 v0), .ref (G.2.2 5 v1), .int v2, .int v3]) (xQv G false sz o) 0 0 (XA G false sz) :=
  x_start hD (by decide) rfl (Nat.le_of_ble_eq_true rfl) (fun p e s m below meth c X hW ls hl => w_X2_writeHeader_0 X cv0 v0 v1 v2 v3 hW hl h)

/-! WirelessCell$Frames.writeSealHeader([IJ)V -/
def rmX2_writeSealHeader : Room := { frames := 0, cells := 0, slots := 0, locals := 0 }
def L_X2_writeSealHeader_36  (cv0 : Nat) (v0 : Nat) (v1 : Int64) : Nat → Int32 → Mm → Option (Unit × Mm)
  | 0, _, _ => none
  | n + 1, v3, S => 
    if 6 ≤ v3 then (
    some ((), S))
    else (
    stP false S cv0 v0 (26 + v3) ((Int64.toInt32 (v1 >>> (Int32.toInt64 (8 * v3) &&& 63))) &&& 255) fun S5 =>
    (L_X2_writeSealHeader_36 cv0 v0 v1 n) (v3 + 1) S5)
def F_X2_writeSealHeader (cv0 : Nat) (v0 : Nat) (v1 : Int64) (S : Mm) : Option (Unit × Mm) :=
  stP false S cv0 v0 24 ((Int64.toInt32 v1) &&& 255) fun S1 =>
  stP false S1 cv0 v0 25 ((Int64.toInt32 (v1 >>> (Int32.toInt64 8 &&& 63))) &&& 255) fun S2 =>
  stP false S2 cv0 v0 26 0 fun S3 =>
  stP false S3 cv0 v0 27 32 fun S4 =>
  L_X2_writeSealHeader_36  cv0 v0 v1 fu 2 S4
set_option maxRecDepth 100000 in
set_option maxHeartbeats 4000000 in
theorem w_X2_writeSealHeader_36 {p : Program} {l : Launch} {e : Env} {s : State} {m : MethodId} {args : Array Value} {below : List Frame} {meth : Method} {c : Code} {G : xG} {sz : Nat} {o : Unit × Mm} (X : xC G false sz p s m args c cX2_writeSealHeader 4 wsX2_writeSealHeader RX2 meth none) (cv0 : Nat) (v0 : Nat) (v1 : Int64)   : ∀ (n : Nat) (v3 : Int32) (S : Mm) (H : Heap) (locs : List Loc) (ls : Array Slot), L_X2_writeSealHeader_36 cv0 v0 v1 n v3 S = some o → xW G false sz s H locs S → lv_has ls 4 [(0, .ref (G.2.2 cv0 v0)), (1, .long v1), (3, .int v3)] → wX p l e rmX2_writeSealHeader s m args below meth c H locs (xQv G false sz o) (XA G false sz) 36 ls [] := by
  intro n
  induction n with
  | zero =>
    intro v3 S H locs ls h
    cases h
  | succ n ih =>
    intro v3 S H locs ls h hW  hl
    rw [L_X2_writeSealHeader_36] at h
    refine lv_iload_n X.1 X.2.1 dX2_writeSealHeader_36 rfl (lv_at hl 2 rfl) ?_
    refine lv_bipush (v := 6) X.1 X.2.1 dX2_writeSealHeader_37 rfl ?_
    refine x_icmp_ge X (tgt := 65) dX2_writeSealHeader_39 (by decide) h (fun h => ?_) (fun h => ?_)
    · exact x_vret X hW h dX2_writeSealHeader_65
    · refine lv_aload_n X.1 X.2.1 dX2_writeSealHeader_42 rfl (lv_at hl 0 rfl) ?_
      refine lv_bipush (v := 26) X.1 X.2.1 dX2_writeSealHeader_43 rfl ?_
      refine lv_iload_n X.1 X.2.1 dX2_writeSealHeader_45 rfl (lv_at hl 2 rfl) ?_
      refine lv_iadd X.1 X.2.1 dX2_writeSealHeader_46 ?_
      refine lv_lload_n X.1 X.2.1 dX2_writeSealHeader_47 rfl (lv_at hl 1 rfl) ?_
      refine lv_bipush (v := 8) X.1 X.2.1 dX2_writeSealHeader_48 rfl ?_
      refine lv_iload_n X.1 X.2.1 dX2_writeSealHeader_50 rfl (lv_at hl 2 rfl) ?_
      refine lv_imul X.1 X.2.1 dX2_writeSealHeader_51 ?_
      refine lv_lshr (v := (v1 >>> (Int32.toInt64 (8 * v3) &&& 63))) X.1 X.2.1 dX2_writeSealHeader_52 rfl ?_
      refine lv_l2i (v := (Int64.toInt32 (v1 >>> (Int32.toInt64 (8 * v3) &&& 63)))) X.1 X.2.1 dX2_writeSealHeader_53 rfl ?_
      refine lv_sipush (v := 255) X.1 X.2.1 dX2_writeSealHeader_54 rfl ?_
      refine lv_iand X.1 X.2.1 dX2_writeSealHeader_57 ?_
      refine x_iastP X hW dX2_writeSealHeader_58 h (fun S5 H locs h hW => ?_)
      refine lv_iinc (v := (v3 + 1)) (lv' := [(3, .int (v3 + 1)), (0, .ref (G.2.2 cv0 v0)), (1, .long v1)]) X.1 X.2.1 dX2_writeSealHeader_59 hl (k := 2) rfl rfl (by decide) rfl (fun ls hl => ?_)
      refine lv_goto (tgt := 36) X.1 X.2.1 dX2_writeSealHeader_62 (by decide) ?_
      exact ih (v3 + 1) S5 _ _ _ h hW  (lv_sub hl [1, 2, 0] rfl)
set_option maxRecDepth 100000 in
set_option maxHeartbeats 4000000 in
theorem w_X2_writeSealHeader_0 {p : Program} {l : Launch} {e : Env} {s : State} {m : MethodId} {args : Array Value} {below : List Frame} {meth : Method} {c : Code} {G : xG} {sz : Nat} {o : Unit × Mm} (X : xC G false sz p s m args c cX2_writeSealHeader 4 wsX2_writeSealHeader RX2 meth none) (cv0 : Nat) (v0 : Nat) (v1 : Int64) {S : Mm} {H : Heap} {locs : List Loc} {ls : Array Slot} (hW : xW G false sz s H locs S) (hl : lv_has ls 4 [(0, .ref (G.2.2 cv0 v0)), (1, .long v1)]) (h : F_X2_writeSealHeader cv0 v0 v1 S = some o) : wX p l e rmX2_writeSealHeader s m args below meth c H locs (xQv G false sz o) (XA G false sz) 0 ls [] := by
  unfold F_X2_writeSealHeader at h
  refine lv_aload_n X.1 X.2.1 dX2_writeSealHeader_0 rfl (lv_at hl 0 rfl) ?_
  refine lv_bipush (v := 24) X.1 X.2.1 dX2_writeSealHeader_1 rfl ?_
  refine lv_lload_n X.1 X.2.1 dX2_writeSealHeader_3 rfl (lv_at hl 1 rfl) ?_
  refine lv_l2i (v := (Int64.toInt32 v1)) X.1 X.2.1 dX2_writeSealHeader_4 rfl ?_
  refine lv_sipush (v := 255) X.1 X.2.1 dX2_writeSealHeader_5 rfl ?_
  refine lv_iand X.1 X.2.1 dX2_writeSealHeader_8 ?_
  refine x_iastP X hW dX2_writeSealHeader_9 h (fun S1 H locs h hW => ?_)
  refine lv_aload_n X.1 X.2.1 dX2_writeSealHeader_10 rfl (lv_at hl 0 rfl) ?_
  refine lv_bipush (v := 25) X.1 X.2.1 dX2_writeSealHeader_11 rfl ?_
  refine lv_lload_n X.1 X.2.1 dX2_writeSealHeader_13 rfl (lv_at hl 1 rfl) ?_
  refine lv_bipush (v := 8) X.1 X.2.1 dX2_writeSealHeader_14 rfl ?_
  refine lv_lshr (v := (v1 >>> (Int32.toInt64 8 &&& 63))) X.1 X.2.1 dX2_writeSealHeader_16 rfl ?_
  refine lv_l2i (v := (Int64.toInt32 (v1 >>> (Int32.toInt64 8 &&& 63)))) X.1 X.2.1 dX2_writeSealHeader_17 rfl ?_
  refine lv_sipush (v := 255) X.1 X.2.1 dX2_writeSealHeader_18 rfl ?_
  refine lv_iand X.1 X.2.1 dX2_writeSealHeader_21 ?_
  refine x_iastP X hW dX2_writeSealHeader_22 h (fun S2 H locs h hW => ?_)
  refine lv_aload_n X.1 X.2.1 dX2_writeSealHeader_23 rfl (lv_at hl 0 rfl) ?_
  refine lv_bipush (v := 26) X.1 X.2.1 dX2_writeSealHeader_24 rfl ?_
  refine lv_iconst (v := 0) X.1 X.2.1 dX2_writeSealHeader_26 rfl ?_
  refine x_iastP X hW dX2_writeSealHeader_27 h (fun S3 H locs h hW => ?_)
  refine lv_aload_n X.1 X.2.1 dX2_writeSealHeader_28 rfl (lv_at hl 0 rfl) ?_
  refine lv_bipush (v := 27) X.1 X.2.1 dX2_writeSealHeader_29 rfl ?_
  refine lv_bipush (v := 32) X.1 X.2.1 dX2_writeSealHeader_31 rfl ?_
  refine x_iastP X hW dX2_writeSealHeader_33 h (fun S4 H locs h hW => ?_)
  refine lv_iconst (v := 2) X.1 X.2.1 dX2_writeSealHeader_34 rfl ?_
  refine lv_istore_n (lv' := [(3, .int 2), (0, .ref (G.2.2 cv0 v0)), (1, .long v1)]) X.1 X.2.1 dX2_writeSealHeader_35 rfl hl (by decide) rfl (fun ls hl => ?_)
  exact w_X2_writeSealHeader_36 X cv0 v0 v1   fu 2 S4 _ _ _ h hW  (lv_sub hl [1, 2, 0] rfl)
theorem c_X2_writeSealHeader (l : Launch) (G : xG) (hD : xD G false) (sz : Nat) (S : Mm) (cv0 : Nat) (v0 : Nat) (v1 : Int64) (o : Unit × Mm) (h : F_X2_writeSealHeader cv0 v0 v1 S = some o) : Met l yX2_writeSealHeader wsX2_writeSealHeader rmX2_writeSealHeader (xPre G false S sz [.ref (G.2.2 cv0 v0), .long v1]) (xQv G false sz o) 0 0 (XA G false sz) :=
  x_start hD (by decide) rfl (Nat.le_of_ble_eq_true rfl) (fun p e s m below meth c X hW ls hl => w_X2_writeSealHeader_0 X cv0 v0 v1 hW hl h)

/-! WirelessCell$Frames.sealNumber([I)J -/
def rmX2_sealNumber : Room := { frames := 0, cells := 0, slots := 0, locals := 0 }
def L_X2_sealNumber_4  (cv0 : Nat) (v0 : Nat) : Nat → Int64 → Int32 → Mm → Option (Int64 × Mm)
  | 0, _, _, _ => none
  | n + 1, v1, v3, S => 
    if v3 < 2 then (
    ldP false S cv0 v0 25 fun x1 =>
    ldP false S cv0 v0 24 fun x2 =>
    some ((((65536 * v1) + (Int32.toInt64 (256 * x1))) + (Int32.toInt64 x2)), S))
    else (
    ldP false S cv0 v0 (26 + v3) fun x3 =>
    tp ((256 * v1) + (Int32.toInt64 x3)) fun x4 =>
    (L_X2_sealNumber_4 cv0 v0 n) x4 (v3 + (-1)) S)
def F_X2_sealNumber (cv0 : Nat) (v0 : Nat) (S : Mm) : Option (Int64 × Mm) :=
  L_X2_sealNumber_4  cv0 v0 fu 0 5 S
set_option maxRecDepth 100000 in
set_option maxHeartbeats 4000000 in
theorem w_X2_sealNumber_4 {p : Program} {l : Launch} {e : Env} {s : State} {m : MethodId} {args : Array Value} {below : List Frame} {meth : Method} {c : Code} {G : xG} {sz : Nat} {o : Int64 × Mm} (X : xC G false sz p s m args c cX2_sealNumber 4 wsX2_sealNumber RX2 meth (some .long)) (cv0 : Nat) (v0 : Nat)   : ∀ (n : Nat) (v1 : Int64) (v3 : Int32) (S : Mm) (H : Heap) (locs : List Loc) (ls : Array Slot), L_X2_sealNumber_4 cv0 v0 n v1 v3 S = some o → xW G false sz s H locs S → lv_has ls 4 [(0, .ref (G.2.2 cv0 v0)), (1, .long v1), (3, .int v3)] → wX p l e rmX2_sealNumber s m args below meth c H locs (xQl G false sz o) (XA G false sz) 4 ls [] := by
  intro n
  induction n with
  | zero =>
    intro v1 v3 S H locs ls h
    cases h
  | succ n ih =>
    intro v1 v3 S H locs ls h hW  hl
    rw [L_X2_sealNumber_4] at h
    refine lv_iload_n X.1 X.2.1 dX2_sealNumber_4 rfl (lv_at hl 2 rfl) ?_
    refine lv_iconst (v := 2) X.1 X.2.1 dX2_sealNumber_5 rfl ?_
    refine x_icmp_lt X (tgt := 29) dX2_sealNumber_6 (by decide) h (fun h => ?_) (fun h => ?_)
    · refine lv_ldc2 (v := 65536) X.1 X.2.1 X.2.2.2.1 (X.2.2.2.2.1 _ (List.mem_cons_of_mem _ gw810)) dX2_sealNumber_29 ?_
      refine lv_lload_n X.1 X.2.1 dX2_sealNumber_32 rfl (lv_at hl 1 rfl) ?_
      refine lv_lmul X.1 X.2.1 dX2_sealNumber_33 ?_
      refine lv_sipush (v := 256) X.1 X.2.1 dX2_sealNumber_34 rfl ?_
      refine lv_aload_n X.1 X.2.1 dX2_sealNumber_37 rfl (lv_at hl 0 rfl) ?_
      refine lv_bipush (v := 25) X.1 X.2.1 dX2_sealNumber_38 rfl ?_
      refine x_ialdP X hW dX2_sealNumber_40 h (fun x1 h => ?_)
      refine lv_imul X.1 X.2.1 dX2_sealNumber_41 ?_
      refine lv_i2l (v := (Int32.toInt64 (256 * x1))) X.1 X.2.1 dX2_sealNumber_42 rfl ?_
      refine lv_ladd X.1 X.2.1 dX2_sealNumber_43 ?_
      refine lv_aload_n X.1 X.2.1 dX2_sealNumber_44 rfl (lv_at hl 0 rfl) ?_
      refine lv_bipush (v := 24) X.1 X.2.1 dX2_sealNumber_45 rfl ?_
      refine x_ialdP X hW dX2_sealNumber_47 h (fun x2 h => ?_)
      refine lv_i2l (v := (Int32.toInt64 x2)) X.1 X.2.1 dX2_sealNumber_48 rfl ?_
      refine lv_ladd X.1 X.2.1 dX2_sealNumber_49 ?_
      exact x_lret X hW h dX2_sealNumber_50
    · refine lv_ldc2 (v := 256) X.1 X.2.1 X.2.2.2.1 (X.2.2.2.2.1 _ (List.mem_cons_of_mem _ gw809)) dX2_sealNumber_9 ?_
      refine lv_lload_n X.1 X.2.1 dX2_sealNumber_12 rfl (lv_at hl 1 rfl) ?_
      refine lv_lmul X.1 X.2.1 dX2_sealNumber_13 ?_
      refine lv_aload_n X.1 X.2.1 dX2_sealNumber_14 rfl (lv_at hl 0 rfl) ?_
      refine lv_bipush (v := 26) X.1 X.2.1 dX2_sealNumber_15 rfl ?_
      refine lv_iload_n X.1 X.2.1 dX2_sealNumber_17 rfl (lv_at hl 2 rfl) ?_
      refine lv_iadd X.1 X.2.1 dX2_sealNumber_18 ?_
      refine x_ialdP X hW dX2_sealNumber_19 h (fun x3 h => ?_)
      refine lv_i2l (v := (Int32.toInt64 x3)) X.1 X.2.1 dX2_sealNumber_20 rfl ?_
      refine lv_ladd X.1 X.2.1 dX2_sealNumber_21 ?_
      refine x_topL h (fun x4 h => ?_)
      refine lv_lstore_n (lv' := [(1, .long x4), (0, .ref (G.2.2 cv0 v0)), (3, .int v3)]) X.1 X.2.1 dX2_sealNumber_22 rfl hl (by decide) rfl (fun ls hl => ?_)
      refine lv_iinc (v := (v3 + (-1))) (lv' := [(3, .int (v3 + (-1))), (1, .long x4), (0, .ref (G.2.2 cv0 v0))]) X.1 X.2.1 dX2_sealNumber_23 hl (k := 2) rfl rfl (by decide) rfl (fun ls hl => ?_)
      refine lv_goto (tgt := 4) X.1 X.2.1 dX2_sealNumber_26 (by decide) ?_
      exact ih x4 (v3 + (-1)) S _ _ _ h hW  (lv_sub hl [2, 1, 0] rfl)
set_option maxRecDepth 100000 in
set_option maxHeartbeats 4000000 in
theorem w_X2_sealNumber_0 {p : Program} {l : Launch} {e : Env} {s : State} {m : MethodId} {args : Array Value} {below : List Frame} {meth : Method} {c : Code} {G : xG} {sz : Nat} {o : Int64 × Mm} (X : xC G false sz p s m args c cX2_sealNumber 4 wsX2_sealNumber RX2 meth (some .long)) (cv0 : Nat) (v0 : Nat) {S : Mm} {H : Heap} {locs : List Loc} {ls : Array Slot} (hW : xW G false sz s H locs S) (hl : lv_has ls 4 [(0, .ref (G.2.2 cv0 v0))]) (h : F_X2_sealNumber cv0 v0 S = some o) : wX p l e rmX2_sealNumber s m args below meth c H locs (xQl G false sz o) (XA G false sz) 0 ls [] := by
  unfold F_X2_sealNumber at h
  refine lv_lconst (v := 0) X.1 X.2.1 dX2_sealNumber_0 rfl ?_
  refine lv_lstore_n (lv' := [(1, .long 0), (0, .ref (G.2.2 cv0 v0))]) X.1 X.2.1 dX2_sealNumber_1 rfl hl (by decide) rfl (fun ls hl => ?_)
  refine lv_iconst (v := 5) X.1 X.2.1 dX2_sealNumber_2 rfl ?_
  refine lv_istore_n (lv' := [(3, .int 5), (1, .long 0), (0, .ref (G.2.2 cv0 v0))]) X.1 X.2.1 dX2_sealNumber_3 rfl hl (by decide) rfl (fun ls hl => ?_)
  exact w_X2_sealNumber_4 X cv0 v0   fu 0 5 S _ _ _ h hW  (lv_sub hl [2, 1, 0] rfl)
theorem c_X2_sealNumber (l : Launch) (G : xG) (hD : xD G false) (sz : Nat) (S : Mm) (cv0 : Nat) (v0 : Nat) (o : Int64 × Mm) (h : F_X2_sealNumber cv0 v0 S = some o) : Met l yX2_sealNumber wsX2_sealNumber rmX2_sealNumber (xPre G false S sz [.ref (G.2.2 cv0 v0)]) (xQl G false sz o) 0 0 (XA G false sz) :=
  x_start hD (by decide) rfl (Nat.le_of_ble_eq_true rfl) (fun p e s m below meth c X hW ls hl => w_X2_sealNumber_0 X cv0 v0 hW hl h)

/-! WirelessCell$Frames.writeBody([III)I -/
def rmX2_writeBody : Room := { frames := 2, cells := 0, slots := 0, locals := 46 }
def F_X2_writeBody (cv0 : Nat) (v0 : Nat) (v1 : Int32) (v2 : Int32) (S : Mm) : Option (Int32 × Mm) :=
  cl (F_J7_fill_fda19 cv0 v0 0 6 0 S) fun r1 S2 =>
  if v1 = 0 then (
  stP false S2 cv0 v0 0 1 fun S4 =>
  stP false S4 cv0 v0 2 10 fun S5 =>
  some (4, S5))
  else (
  if v1 = 16 then (
  stP false S2 cv0 v0 0 1 fun S7 =>
  stP false S7 cv0 v0 4 v2 fun S8 =>
  stP false S8 cv0 v0 5 192 fun S9 =>
  some (6, S9))
  else (
  if v1 = 176 then (
  stP false S2 cv0 v0 2 v2 fun S11 =>
  some (6, S11))
  else (
  stP false S2 cv0 v0 0 v2 fun S13 =>
  some (2, S13))))
set_option maxRecDepth 100000 in
set_option maxHeartbeats 4000000 in
theorem w_X2_writeBody_0 {p : Program} {l : Launch} {e : Env} {s : State} {m : MethodId} {args : Array Value} {below : List Frame} {meth : Method} {c : Code} {G : xG} {sz : Nat} {o : Int32 × Mm} (X : xC G false sz p s m args c cX2_writeBody 3 wsX2_writeBody RX2 meth (some .int)) (cv0 : Nat) (v0 : Nat) (v1 : Int32) (v2 : Int32) {S : Mm} {H : Heap} {locs : List Loc} {ls : Array Slot} (hW : xW G false sz s H locs S) (hl : lv_has ls 3 [(0, .ref (G.2.2 cv0 v0)), (1, .int v1), (2, .int v2)]) (h : F_X2_writeBody cv0 v0 v1 v2 S = some o) : wX p l e rmX2_writeBody s m args below meth c H locs (xQi G false sz o) (XA G false sz) 0 ls [] := by
  unfold F_X2_writeBody at h
  refine lv_aload_n X.1 X.2.1 dX2_writeBody_0 rfl (lv_at hl 0 rfl) ?_
  refine lv_iconst (v := 0) X.1 X.2.1 dX2_writeBody_1 rfl ?_
  refine lv_bipush (v := 6) X.1 X.2.1 dX2_writeBody_2 rfl ?_
  refine lv_iconst (v := 0) X.1 X.2.1 dX2_writeBody_4 rfl ?_
  obtain ⟨r1, S2, h3, h⟩ := cl_some h
  refine x_aftV X hW (x_runS (As := [.ref (G.2.2 cv0 v0), .int 0, .int 6, .int 0]) (rest := []) X hW (c_J7_fill_fda19 l G X.2.2.2.2.2.2.2.2.2.1 _ S cv0 v0 0 6 0 _ h3) (va_cwS 4 X.2.2.2.2.1 (gS gw515 gw516 gw135 gw517) rfl rfl rfl hd_J7_fill_fda19 ⟨Nat.le_of_ble_eq_true rfl, Nat.le_of_ble_eq_true rfl⟩) rfl hl.1 rfl (Nat.le_of_ble_eq_true rfl) dX2_writeBody_5 ⟨Nat.zero_le _, Nat.zero_le _⟩) (fun H locs hW => ?_)
  refine lv_iload_n X.1 X.2.1 dX2_writeBody_8 rfl (lv_at hl 1 rfl) ?_
  refine x_ite h (fun g6 h => ?_) (fun g6 h => ?_)
  · refine lv_lookup (off := 42) (tgt := 51) X.1 X.2.1 dX2_writeBody_9 (by decide) (by rw [g6]; try rfl) (by decide) ?_
    refine lv_aload_n X.1 X.2.1 dX2_writeBody_51 rfl (lv_at hl 0 rfl) ?_
    refine lv_iconst (v := 0) X.1 X.2.1 dX2_writeBody_52 rfl ?_
    refine lv_iconst (v := 1) X.1 X.2.1 dX2_writeBody_53 rfl ?_
    refine x_iastP X hW dX2_writeBody_54 h (fun S4 H locs h hW => ?_)
    refine lv_aload_n X.1 X.2.1 dX2_writeBody_55 rfl (lv_at hl 0 rfl) ?_
    refine lv_iconst (v := 2) X.1 X.2.1 dX2_writeBody_56 rfl ?_
    refine lv_bipush (v := 10) X.1 X.2.1 dX2_writeBody_57 rfl ?_
    refine x_iastP X hW dX2_writeBody_59 h (fun S5 H locs h hW => ?_)
    refine lv_iconst (v := 4) X.1 X.2.1 dX2_writeBody_60 rfl ?_
    exact x_iret X hW h dX2_writeBody_61
  · refine x_ite h (fun g10 h => ?_) (fun g10 h => ?_)
    · refine lv_lookup (off := 53) (tgt := 62) X.1 X.2.1 dX2_writeBody_9 (by decide) (by rw [g10]; try rfl) (by decide) ?_
      refine lv_aload_n X.1 X.2.1 dX2_writeBody_62 rfl (lv_at hl 0 rfl) ?_
      refine lv_iconst (v := 0) X.1 X.2.1 dX2_writeBody_63 rfl ?_
      refine lv_iconst (v := 1) X.1 X.2.1 dX2_writeBody_64 rfl ?_
      refine x_iastP X hW dX2_writeBody_65 h (fun S7 H locs h hW => ?_)
      refine lv_aload_n X.1 X.2.1 dX2_writeBody_66 rfl (lv_at hl 0 rfl) ?_
      refine lv_iconst (v := 4) X.1 X.2.1 dX2_writeBody_67 rfl ?_
      refine lv_iload_n X.1 X.2.1 dX2_writeBody_68 rfl (lv_at hl 2 rfl) ?_
      refine x_iastP X hW dX2_writeBody_69 h (fun S8 H locs h hW => ?_)
      refine lv_aload_n X.1 X.2.1 dX2_writeBody_70 rfl (lv_at hl 0 rfl) ?_
      refine lv_iconst (v := 5) X.1 X.2.1 dX2_writeBody_71 rfl ?_
      refine lv_sipush (v := 192) X.1 X.2.1 dX2_writeBody_72 rfl ?_
      refine x_iastP X hW dX2_writeBody_75 h (fun S9 H locs h hW => ?_)
      refine lv_bipush (v := 6) X.1 X.2.1 dX2_writeBody_76 rfl ?_
      exact x_iret X hW h dX2_writeBody_78
    · refine x_ite h (fun g12 h => ?_) (fun g12 h => ?_)
      · refine lv_lookup (off := 35) (tgt := 44) X.1 X.2.1 dX2_writeBody_9 (by decide) (by rw [g12]; try rfl) (by decide) ?_
        refine lv_aload_n X.1 X.2.1 dX2_writeBody_44 rfl (lv_at hl 0 rfl) ?_
        refine lv_iconst (v := 2) X.1 X.2.1 dX2_writeBody_45 rfl ?_
        refine lv_iload_n X.1 X.2.1 dX2_writeBody_46 rfl (lv_at hl 2 rfl) ?_
        refine x_iastP X hW dX2_writeBody_47 h (fun S11 H locs h hW => ?_)
        refine lv_bipush (v := 6) X.1 X.2.1 dX2_writeBody_48 rfl ?_
        exact x_iret X hW h dX2_writeBody_50
      · refine lv_lookup (off := 70) (tgt := 79) X.1 X.2.1 dX2_writeBody_9 (by decide) (by rw [lv_osw g6 (show Int32.toInt 0 = 0 from rfl), lv_osw g10 (show Int32.toInt 16 = 16 from rfl), lv_osw g12 (show Int32.toInt 176 = 176 from rfl)]; try rfl) (by decide) ?_
        refine lv_aload_n X.1 X.2.1 dX2_writeBody_79 rfl (lv_at hl 0 rfl) ?_
        refine lv_iconst (v := 0) X.1 X.2.1 dX2_writeBody_80 rfl ?_
        refine lv_iload_n X.1 X.2.1 dX2_writeBody_81 rfl (lv_at hl 2 rfl) ?_
        refine x_iastP X hW dX2_writeBody_82 h (fun S13 H locs h hW => ?_)
        refine lv_iconst (v := 2) X.1 X.2.1 dX2_writeBody_83 rfl ?_
        exact x_iret X hW h dX2_writeBody_84
theorem c_X2_writeBody (l : Launch) (G : xG) (hD : xD G false) (sz : Nat) (S : Mm) (cv0 : Nat) (v0 : Nat) (v1 : Int32) (v2 : Int32) (o : Int32 × Mm) (h : F_X2_writeBody cv0 v0 v1 v2 S = some o) : Met l yX2_writeBody wsX2_writeBody rmX2_writeBody (xPre G false S sz [.ref (G.2.2 cv0 v0), .int v1, .int v2]) (xQi G false sz o) 0 0 (XA G false sz) :=
  x_start hD (by decide) rfl (Nat.le_of_ble_eq_true rfl) (fun p e s m below meth c X hW ls hl => w_X2_writeBody_0 X cv0 v0 v1 v2 hW hl h)

/-! WirelessCell$Frames.writeHead([III)V -/
def rmX2_writeHead : Room := { frames := 1, cells := 0, slots := 0, locals := 18 }
def F_X2_writeHead (cv0 : Nat) (v0 : Nat) (v1 : Int32) (v2 : Int32) (S : Mm) : Option (Unit × Mm) :=
  lnP false 191 0 fun x1 =>
  cpP false S 191 0 0 cv0 v0 0 x1 fun S2 =>
  stP false S2 cv0 v0 6 v1 fun S3 =>
  stP false S3 cv0 v0 7 v2 fun S4 =>
  some ((), S4)
set_option maxRecDepth 100000 in
set_option maxHeartbeats 4000000 in
theorem w_X2_writeHead_0 {p : Program} {l : Launch} {e : Env} {s : State} {m : MethodId} {args : Array Value} {below : List Frame} {meth : Method} {c : Code} {G : xG} {sz : Nat} {o : Unit × Mm} (X : xC G false sz p s m args c cX2_writeHead 3 wsX2_writeHead RX2 meth none) (cv0 : Nat) (v0 : Nat) (v1 : Int32) (v2 : Int32) {S : Mm} {H : Heap} {locs : List Loc} {ls : Array Slot} (hW : xW G false sz s H locs S) (hl : lv_has ls 3 [(0, .ref (G.2.2 cv0 v0)), (1, .int v1), (2, .int v2)]) (h : F_X2_writeHead cv0 v0 v1 v2 S = some o) : wX p l e rmX2_writeHead s m args below meth c H locs (xQv G false sz o) (XA G false sz) 0 ls [] := by
  unfold F_X2_writeHead at h
  refine x_gets X hW X.2.2.2.2.2.2.2.2.2.2.2.1.2.1 (List.mem_cons_of_mem _ gw579) dX2_writeHead_0 ?_
  refine lv_iconst (v := 0) X.1 X.2.1 dX2_writeHead_3 rfl ?_
  refine lv_aload_n X.1 X.2.1 dX2_writeHead_4 rfl (lv_at hl 0 rfl) ?_
  refine lv_iconst (v := 0) X.1 X.2.1 dX2_writeHead_5 rfl ?_
  refine x_gets X hW X.2.2.2.2.2.2.2.2.2.2.2.1.2.1 (List.mem_cons_of_mem _ gw579) dX2_writeHead_6 ?_
  refine x_lenP X hW dX2_writeHead_9 h (fun x1 h => ?_)
  refine x_acopy X hW hl.1 (List.mem_cons_of_mem _ gw580) (List.mem_cons_of_mem _ gw325) (List.mem_cons_of_mem _ gw326) (List.mem_cons_of_mem _ gw327) (Nat.le_of_ble_eq_true rfl) (Nat.le_of_ble_eq_true rfl) dX2_writeHead_10 h (fun S2 H locs h hW => ?_)
  refine lv_aload_n X.1 X.2.1 dX2_writeHead_13 rfl (lv_at hl 0 rfl) ?_
  refine lv_bipush (v := 6) X.1 X.2.1 dX2_writeHead_14 rfl ?_
  refine lv_iload_n X.1 X.2.1 dX2_writeHead_16 rfl (lv_at hl 1 rfl) ?_
  refine x_iastP X hW dX2_writeHead_17 h (fun S3 H locs h hW => ?_)
  refine lv_aload_n X.1 X.2.1 dX2_writeHead_18 rfl (lv_at hl 0 rfl) ?_
  refine lv_bipush (v := 7) X.1 X.2.1 dX2_writeHead_19 rfl ?_
  refine lv_iload_n X.1 X.2.1 dX2_writeHead_21 rfl (lv_at hl 2 rfl) ?_
  refine x_iastP X hW dX2_writeHead_22 h (fun S4 H locs h hW => ?_)
  exact x_vret X hW h dX2_writeHead_23
theorem c_X2_writeHead (l : Launch) (G : xG) (hD : xD G false) (sz : Nat) (S : Mm) (cv0 : Nat) (v0 : Nat) (v1 : Int32) (v2 : Int32) (o : Unit × Mm) (h : F_X2_writeHead cv0 v0 v1 v2 S = some o) : Met l yX2_writeHead wsX2_writeHead rmX2_writeHead (xPre G false S sz [.ref (G.2.2 cv0 v0), .int v1, .int v2]) (xQv G false sz o) 0 0 (XA G false sz) :=
  x_start hD (by decide) rfl (Nat.le_of_ble_eq_true rfl) (fun p e s m below meth c X hW ls hl => w_X2_writeHead_0 X cv0 v0 v1 v2 hW hl h)

/-! WirelessCell$Frames.sameBytes([II[III)Z -/
def rmX2_sameBytes : Room := { frames := 0, cells := 0, slots := 0, locals := 0 }
def L_X2_sameBytes_3  (cv0 : Nat) (v0 : Nat) (v1 : Int32) (cv2 : Nat) (v2 : Nat) (v3 : Int32) (v4 : Int32) : Nat → Int32 → Mm → Option (Int32 × Mm)
  | 0, _, _ => none
  | n + 1, v5, S => 
    if v4 ≤ v5 then (
    some (1, S))
    else (
    ldP false S cv0 v0 (v1 + v5) fun x1 =>
    ldP false S cv2 v2 (v3 + v5) fun x2 =>
    if x1 = x2 then (
    (L_X2_sameBytes_3 cv0 v0 v1 cv2 v2 v3 v4 n) (v5 + 1) S)
    else (
    some (0, S)))
def F_X2_sameBytes (cv0 : Nat) (v0 : Nat) (v1 : Int32) (cv2 : Nat) (v2 : Nat) (v3 : Int32) (v4 : Int32) (S : Mm) : Option (Int32 × Mm) :=
  L_X2_sameBytes_3  cv0 v0 v1 cv2 v2 v3 v4 fu 0 S
set_option maxRecDepth 100000 in
set_option maxHeartbeats 4000000 in
theorem w_X2_sameBytes_3 {p : Program} {l : Launch} {e : Env} {s : State} {m : MethodId} {args : Array Value} {below : List Frame} {meth : Method} {c : Code} {G : xG} {sz : Nat} {o : Int32 × Mm} (X : xC G false sz p s m args c cX2_sameBytes 6 wsX2_sameBytes RX2 meth (some .boolean)) (cv0 : Nat) (v0 : Nat) (v1 : Int32) (cv2 : Nat) (v2 : Nat) (v3 : Int32) (v4 : Int32)   : ∀ (n : Nat) (v5 : Int32) (S : Mm) (H : Heap) (locs : List Loc) (ls : Array Slot), L_X2_sameBytes_3 cv0 v0 v1 cv2 v2 v3 v4 n v5 S = some o → xW G false sz s H locs S → lv_has ls 6 [(0, .ref (G.2.2 cv0 v0)), (1, .int v1), (2, .ref (G.2.2 cv2 v2)), (3, .int v3), (4, .int v4), (5, .int v5)] → wX p l e rmX2_sameBytes s m args below meth c H locs (xQi G false sz o) (XA G false sz) 3 ls [] := by
  intro n
  induction n with
  | zero =>
    intro v5 S H locs ls h
    cases h
  | succ n ih =>
    intro v5 S H locs ls h hW  hl
    rw [L_X2_sameBytes_3] at h
    refine lv_iload X.1 X.2.1 dX2_sameBytes_3 (lv_at hl 5 rfl) ?_
    refine lv_iload X.1 X.2.1 dX2_sameBytes_5 (lv_at hl 4 rfl) ?_
    refine x_icmp_ge X (tgt := 33) dX2_sameBytes_7 (by decide) h (fun h => ?_) (fun h => ?_)
    · refine lv_iconst (v := 1) X.1 X.2.1 dX2_sameBytes_33 rfl ?_
      exact x_zret X hW h rfl dX2_sameBytes_34
    · refine lv_aload_n X.1 X.2.1 dX2_sameBytes_10 rfl (lv_at hl 0 rfl) ?_
      refine lv_iload_n X.1 X.2.1 dX2_sameBytes_11 rfl (lv_at hl 1 rfl) ?_
      refine lv_iload X.1 X.2.1 dX2_sameBytes_12 (lv_at hl 5 rfl) ?_
      refine lv_iadd X.1 X.2.1 dX2_sameBytes_14 ?_
      refine x_ialdP X hW dX2_sameBytes_15 h (fun x1 h => ?_)
      refine lv_aload_n X.1 X.2.1 dX2_sameBytes_16 rfl (lv_at hl 2 rfl) ?_
      refine lv_iload_n X.1 X.2.1 dX2_sameBytes_17 rfl (lv_at hl 3 rfl) ?_
      refine lv_iload X.1 X.2.1 dX2_sameBytes_18 (lv_at hl 5 rfl) ?_
      refine lv_iadd X.1 X.2.1 dX2_sameBytes_20 ?_
      refine x_ialdP X hW dX2_sameBytes_21 h (fun x2 h => ?_)
      refine x_icmp_eq X (tgt := 27) dX2_sameBytes_22 (by decide) h (fun h => ?_) (fun h => ?_)
      · refine lv_iinc (v := (v5 + 1)) (lv' := [(5, .int (v5 + 1)), (0, .ref (G.2.2 cv0 v0)), (1, .int v1), (2, .ref (G.2.2 cv2 v2)), (3, .int v3), (4, .int v4)]) X.1 X.2.1 dX2_sameBytes_27 hl (k := 5) rfl rfl (by decide) rfl (fun ls hl => ?_)
        refine lv_goto (tgt := 3) X.1 X.2.1 dX2_sameBytes_30 (by decide) ?_
        exact ih (v5 + 1) S _ _ _ h hW  (lv_sub hl [1, 2, 3, 4, 5, 0] rfl)
      · refine lv_iconst (v := 0) X.1 X.2.1 dX2_sameBytes_25 rfl ?_
        exact x_zret X hW h rfl dX2_sameBytes_26
set_option maxRecDepth 100000 in
set_option maxHeartbeats 4000000 in
theorem w_X2_sameBytes_0 {p : Program} {l : Launch} {e : Env} {s : State} {m : MethodId} {args : Array Value} {below : List Frame} {meth : Method} {c : Code} {G : xG} {sz : Nat} {o : Int32 × Mm} (X : xC G false sz p s m args c cX2_sameBytes 6 wsX2_sameBytes RX2 meth (some .boolean)) (cv0 : Nat) (v0 : Nat) (v1 : Int32) (cv2 : Nat) (v2 : Nat) (v3 : Int32) (v4 : Int32) {S : Mm} {H : Heap} {locs : List Loc} {ls : Array Slot} (hW : xW G false sz s H locs S) (hl : lv_has ls 6 [(0, .ref (G.2.2 cv0 v0)), (1, .int v1), (2, .ref (G.2.2 cv2 v2)), (3, .int v3), (4, .int v4)]) (h : F_X2_sameBytes cv0 v0 v1 cv2 v2 v3 v4 S = some o) : wX p l e rmX2_sameBytes s m args below meth c H locs (xQi G false sz o) (XA G false sz) 0 ls [] := by
  unfold F_X2_sameBytes at h
  refine lv_iconst (v := 0) X.1 X.2.1 dX2_sameBytes_0 rfl ?_
  refine lv_istore (lv' := [(5, .int 0), (0, .ref (G.2.2 cv0 v0)), (1, .int v1), (2, .ref (G.2.2 cv2 v2)), (3, .int v3), (4, .int v4)]) X.1 X.2.1 dX2_sameBytes_1 hl (by decide) rfl (fun ls hl => ?_)
  exact w_X2_sameBytes_3 X cv0 v0 v1 cv2 v2 v3 v4   fu 0 S _ _ _ h hW  (lv_sub hl [1, 2, 3, 4, 5, 0] rfl)
theorem c_X2_sameBytes (l : Launch) (G : xG) (hD : xD G false) (sz : Nat) (S : Mm) (cv0 : Nat) (v0 : Nat) (v1 : Int32) (cv2 : Nat) (v2 : Nat) (v3 : Int32) (v4 : Int32) (o : Int32 × Mm) (h : F_X2_sameBytes cv0 v0 v1 cv2 v2 v3 v4 S = some o) : Met l yX2_sameBytes wsX2_sameBytes rmX2_sameBytes (xPre G false S sz [.ref (G.2.2 cv0 v0), .int v1, .ref (G.2.2 cv2 v2), .int v3, .int v4]) (xQi G false sz o) 0 0 (XA G false sz) :=
  x_start hD (by decide) rfl (Nat.le_of_ble_eq_true rfl) (fun p e s m below meth c X hW ls hl => w_X2_sameBytes_0 X cv0 v0 v1 cv2 v2 v3 v4 hW hl h)

/-! WirelessCell$Frames.hasHead([IIII)Z -/
def rmX2_hasHead : Room := { frames := 1, cells := 0, slots := 0, locals := 25 }
def L_X2_hasHead_40   (S : Mm) : Option (Int32 × Mm) :=
  some (0, S)
def F_X2_hasHead (cv0 : Nat) (v0 : Nat) (v1 : Int32) (v2 : Int32) (v3 : Int32) (S : Mm) : Option (Int32 × Mm) :=
  lnP false 191 0 fun x1 =>
  cl (F_X2_sameBytes cv0 v0 v1 191 0 0 x1 S) fun r2 S3 =>
  if r2 = 0 then (
  L_X2_hasHead_40  S3)
  else (
  ldP false S3 cv0 v0 (v1 + 6) fun x5 =>
  if x5 = v2 then (
  ldP false S3 cv0 v0 (v1 + 7) fun x6 =>
  if x6 = v3 then (
  some (1, S3))
  else (
  L_X2_hasHead_40  S3))
  else (
  L_X2_hasHead_40  S3))
set_option maxRecDepth 100000 in
set_option maxHeartbeats 4000000 in
theorem w_X2_hasHead_40 {p : Program} {l : Launch} {e : Env} {s : State} {m : MethodId} {args : Array Value} {below : List Frame} {meth : Method} {c : Code} {G : xG} {sz : Nat} {o : Int32 × Mm} (X : xC G false sz p s m args c cX2_hasHead 4 wsX2_hasHead RX2 meth (some .boolean))    {S : Mm} {H : Heap} {locs : List Loc} {ls : Array Slot} (hW : xW G false sz s H locs S) (hl : lv_has ls 4 []) (h : L_X2_hasHead_40   S = some o) : wX p l e rmX2_hasHead s m args below meth c H locs (xQi G false sz o) (XA G false sz) 40 ls [] := by
  unfold L_X2_hasHead_40 at h
  refine lv_iconst (v := 0) X.1 X.2.1 dX2_hasHead_40 rfl ?_
  exact x_zret X hW h rfl dX2_hasHead_41
set_option maxRecDepth 100000 in
set_option maxHeartbeats 4000000 in
theorem w_X2_hasHead_0 {p : Program} {l : Launch} {e : Env} {s : State} {m : MethodId} {args : Array Value} {below : List Frame} {meth : Method} {c : Code} {G : xG} {sz : Nat} {o : Int32 × Mm} (X : xC G false sz p s m args c cX2_hasHead 4 wsX2_hasHead RX2 meth (some .boolean)) (cv0 : Nat) (v0 : Nat) (v1 : Int32) (v2 : Int32) (v3 : Int32) {S : Mm} {H : Heap} {locs : List Loc} {ls : Array Slot} (hW : xW G false sz s H locs S) (hl : lv_has ls 4 [(0, .ref (G.2.2 cv0 v0)), (1, .int v1), (2, .int v2), (3, .int v3)]) (h : F_X2_hasHead cv0 v0 v1 v2 v3 S = some o) : wX p l e rmX2_hasHead s m args below meth c H locs (xQi G false sz o) (XA G false sz) 0 ls [] := by
  unfold F_X2_hasHead at h
  refine lv_aload_n X.1 X.2.1 dX2_hasHead_0 rfl (lv_at hl 0 rfl) ?_
  refine lv_iload_n X.1 X.2.1 dX2_hasHead_1 rfl (lv_at hl 1 rfl) ?_
  refine x_gets X hW X.2.2.2.2.2.2.2.2.2.2.2.1.2.1 (List.mem_cons_of_mem _ gw579) dX2_hasHead_2 ?_
  refine lv_iconst (v := 0) X.1 X.2.1 dX2_hasHead_5 rfl ?_
  refine x_gets X hW X.2.2.2.2.2.2.2.2.2.2.2.1.2.1 (List.mem_cons_of_mem _ gw579) dX2_hasHead_6 ?_
  refine x_lenP X hW dX2_hasHead_9 h (fun x1 h => ?_)
  obtain ⟨r2, S3, h4, h⟩ := cl_some h
  refine x_aftI X hW (x_runS (As := [.ref (G.2.2 cv0 v0), .int v1, .ref (G.2.2 191 0), .int 0, .int x1]) (rest := []) X hW (c_X2_sameBytes l G X.2.2.2.2.2.2.2.2.2.1 _ S cv0 v0 v1 191 0 0 x1 _ h4) (va_cwS 5 X.2.2.2.2.1 (gS gw826 gw827 gw267 gw828) rfl rfl rfl hd_X2_sameBytes ⟨Nat.le_of_ble_eq_true rfl, Nat.le_of_ble_eq_true rfl⟩) rfl hl.1 rfl (Nat.le_of_ble_eq_true rfl) dX2_hasHead_10 ⟨Nat.zero_le _, Nat.zero_le _⟩) (fun H locs hW => ?_)
  refine x_if_eq X (tgt := 40) dX2_hasHead_13 (by decide) h (fun h => ?_) (fun h => ?_)
  · exact w_X2_hasHead_40 X    hW (lv_sub hl [] rfl) h
  · refine lv_aload_n X.1 X.2.1 dX2_hasHead_16 rfl (lv_at hl 0 rfl) ?_
    refine lv_iload_n X.1 X.2.1 dX2_hasHead_17 rfl (lv_at hl 1 rfl) ?_
    refine lv_bipush (v := 6) X.1 X.2.1 dX2_hasHead_18 rfl ?_
    refine lv_iadd X.1 X.2.1 dX2_hasHead_20 ?_
    refine x_ialdP X hW dX2_hasHead_21 h (fun x5 h => ?_)
    refine lv_iload_n X.1 X.2.1 dX2_hasHead_22 rfl (lv_at hl 2 rfl) ?_
    refine x_icmp_ne X (tgt := 40) dX2_hasHead_23 (by decide) h (fun h => ?_) (fun h => ?_)
    · exact w_X2_hasHead_40 X    hW (lv_sub hl [] rfl) h
    · refine lv_aload_n X.1 X.2.1 dX2_hasHead_26 rfl (lv_at hl 0 rfl) ?_
      refine lv_iload_n X.1 X.2.1 dX2_hasHead_27 rfl (lv_at hl 1 rfl) ?_
      refine lv_bipush (v := 7) X.1 X.2.1 dX2_hasHead_28 rfl ?_
      refine lv_iadd X.1 X.2.1 dX2_hasHead_30 ?_
      refine x_ialdP X hW dX2_hasHead_31 h (fun x6 h => ?_)
      refine lv_iload_n X.1 X.2.1 dX2_hasHead_32 rfl (lv_at hl 3 rfl) ?_
      refine x_icmp_ne X (tgt := 40) dX2_hasHead_33 (by decide) h (fun h => ?_) (fun h => ?_)
      · exact w_X2_hasHead_40 X    hW (lv_sub hl [] rfl) h
      · refine lv_iconst (v := 1) X.1 X.2.1 dX2_hasHead_36 rfl ?_
        refine lv_goto (tgt := 41) X.1 X.2.1 dX2_hasHead_37 (by decide) ?_
        exact x_zret X hW h rfl dX2_hasHead_41
theorem c_X2_hasHead (l : Launch) (G : xG) (hD : xD G false) (sz : Nat) (S : Mm) (cv0 : Nat) (v0 : Nat) (v1 : Int32) (v2 : Int32) (v3 : Int32) (o : Int32 × Mm) (h : F_X2_hasHead cv0 v0 v1 v2 v3 S = some o) : Met l yX2_hasHead wsX2_hasHead rmX2_hasHead (xPre G false S sz [.ref (G.2.2 cv0 v0), .int v1, .int v2, .int v3]) (xQi G false sz o) 0 0 (XA G false sz) :=
  x_start hD (by decide) rfl (Nat.le_of_ble_eq_true rfl) (fun p e s m below meth c X hW ls hl => w_X2_hasHead_0 X cv0 v0 v1 v2 v3 hW hl h)

/-! WirelessCell$Frames.handIn([II)I -/
def rmX2_handIn : Room := { frames := 2, cells := 0, slots := 0, locals := 48 }
def L_X2_handIn_24   (S : Mm) : Option (Int32 × Mm) :=
  some ((-1), S)
def L_X2_handIn_55   (S : Mm) : Option (Int32 × Mm) :=
  some ((-1), S)
def F_X2_handIn (cv0 : Nat) (v0 : Nat) (v1 : Int32) (S : Mm) : Option (Int32 × Mm) :=
  ldP false S cv0 v0 1 fun x1 =>
  if (x1 &&& 4) = 0 then (
  ldP false S cv0 v0 22 fun x2 =>
  if (x2 &&& 15) = 0 then (
  if 36 < v1 then (
  ldP false S cv0 v0 32 fun x3 =>
  if x3 < 1 then (
  L_X2_handIn_55  S)
  else (
  if 4 < x3 then (
  L_X2_handIn_55  S)
  else (
  ldP false S 192 0 x3 fun x4 =>
  if v1 = ((32 + x4) + 4) then (
  cl (F_X2_hasHead cv0 v0 24 136 142 S) fun r5 S6 =>
  if r5 = 0 then (
  some ((-1), S6))
  else (
  some (x3, S6)))
  else (
  L_X2_handIn_55  S))))
  else (
  L_X2_handIn_24  S))
  else (
  L_X2_handIn_24  S))
  else (
  L_X2_handIn_24  S)
set_option maxRecDepth 100000 in
set_option maxHeartbeats 4000000 in
theorem w_X2_handIn_24 {p : Program} {l : Launch} {e : Env} {s : State} {m : MethodId} {args : Array Value} {below : List Frame} {meth : Method} {c : Code} {G : xG} {sz : Nat} {o : Int32 × Mm} (X : xC G false sz p s m args c cX2_handIn 3 wsX2_handIn RX2 meth (some .int))    {S : Mm} {H : Heap} {locs : List Loc} {ls : Array Slot} (hW : xW G false sz s H locs S) (hl : lv_has ls 3 []) (h : L_X2_handIn_24   S = some o) : wX p l e rmX2_handIn s m args below meth c H locs (xQi G false sz o) (XA G false sz) 24 ls [] := by
  unfold L_X2_handIn_24 at h
  refine lv_iconst (v := (-1)) X.1 X.2.1 dX2_handIn_24 rfl ?_
  exact x_iret X hW h dX2_handIn_25
set_option maxRecDepth 100000 in
set_option maxHeartbeats 4000000 in
theorem w_X2_handIn_55 {p : Program} {l : Launch} {e : Env} {s : State} {m : MethodId} {args : Array Value} {below : List Frame} {meth : Method} {c : Code} {G : xG} {sz : Nat} {o : Int32 × Mm} (X : xC G false sz p s m args c cX2_handIn 3 wsX2_handIn RX2 meth (some .int))    {S : Mm} {H : Heap} {locs : List Loc} {ls : Array Slot} (hW : xW G false sz s H locs S) (hl : lv_has ls 3 []) (h : L_X2_handIn_55   S = some o) : wX p l e rmX2_handIn s m args below meth c H locs (xQi G false sz o) (XA G false sz) 55 ls [] := by
  unfold L_X2_handIn_55 at h
  refine lv_iconst (v := (-1)) X.1 X.2.1 dX2_handIn_55 rfl ?_
  exact x_iret X hW h dX2_handIn_56
set_option maxRecDepth 100000 in
set_option maxHeartbeats 4000000 in
theorem w_X2_handIn_0 {p : Program} {l : Launch} {e : Env} {s : State} {m : MethodId} {args : Array Value} {below : List Frame} {meth : Method} {c : Code} {G : xG} {sz : Nat} {o : Int32 × Mm} (X : xC G false sz p s m args c cX2_handIn 3 wsX2_handIn RX2 meth (some .int)) (cv0 : Nat) (v0 : Nat) (v1 : Int32) {S : Mm} {H : Heap} {locs : List Loc} {ls : Array Slot} (hW : xW G false sz s H locs S) (hl : lv_has ls 3 [(0, .ref (G.2.2 cv0 v0)), (1, .int v1)]) (h : F_X2_handIn cv0 v0 v1 S = some o) : wX p l e rmX2_handIn s m args below meth c H locs (xQi G false sz o) (XA G false sz) 0 ls [] := by
  unfold F_X2_handIn at h
  refine lv_aload_n X.1 X.2.1 dX2_handIn_0 rfl (lv_at hl 0 rfl) ?_
  refine lv_iconst (v := 1) X.1 X.2.1 dX2_handIn_1 rfl ?_
  refine x_ialdP X hW dX2_handIn_2 h (fun x1 h => ?_)
  refine lv_iconst (v := 4) X.1 X.2.1 dX2_handIn_3 rfl ?_
  refine lv_iand X.1 X.2.1 dX2_handIn_4 ?_
  refine x_if_ne X (tgt := 24) dX2_handIn_5 (by decide) h (fun h => ?_) (fun h => ?_)
  · exact w_X2_handIn_24 X    hW (lv_sub hl [] rfl) h
  · refine lv_aload_n X.1 X.2.1 dX2_handIn_8 rfl (lv_at hl 0 rfl) ?_
    refine lv_bipush (v := 22) X.1 X.2.1 dX2_handIn_9 rfl ?_
    refine x_ialdP X hW dX2_handIn_11 h (fun x2 h => ?_)
    refine lv_bipush (v := 15) X.1 X.2.1 dX2_handIn_12 rfl ?_
    refine lv_iand X.1 X.2.1 dX2_handIn_14 ?_
    refine x_if_ne X (tgt := 24) dX2_handIn_15 (by decide) h (fun h => ?_) (fun h => ?_)
    · exact w_X2_handIn_24 X    hW (lv_sub hl [] rfl) h
    · refine lv_iload_n X.1 X.2.1 dX2_handIn_18 rfl (lv_at hl 1 rfl) ?_
      refine lv_bipush (v := 36) X.1 X.2.1 dX2_handIn_19 rfl ?_
      refine x_icmp_gt X (tgt := 26) dX2_handIn_21 (by decide) h (fun h => ?_) (fun h => ?_)
      · refine lv_aload_n X.1 X.2.1 dX2_handIn_26 rfl (lv_at hl 0 rfl) ?_
        refine lv_bipush (v := 32) X.1 X.2.1 dX2_handIn_27 rfl ?_
        refine x_ialdP X hW dX2_handIn_29 h (fun x3 h => ?_)
        refine lv_istore_n (lv' := [(2, .int x3), (0, .ref (G.2.2 cv0 v0)), (1, .int v1)]) X.1 X.2.1 dX2_handIn_30 rfl hl (by decide) rfl (fun ls hl => ?_)
        refine lv_iload_n X.1 X.2.1 dX2_handIn_31 rfl (lv_at hl 0 rfl) ?_
        refine lv_iconst (v := 1) X.1 X.2.1 dX2_handIn_32 rfl ?_
        refine x_icmp_lt X (tgt := 55) dX2_handIn_33 (by decide) h (fun h => ?_) (fun h => ?_)
        · exact w_X2_handIn_55 X    hW (lv_sub hl [] rfl) h
        · refine lv_iload_n X.1 X.2.1 dX2_handIn_36 rfl (lv_at hl 0 rfl) ?_
          refine lv_iconst (v := 4) X.1 X.2.1 dX2_handIn_37 rfl ?_
          refine x_icmp_gt X (tgt := 55) dX2_handIn_38 (by decide) h (fun h => ?_) (fun h => ?_)
          · exact w_X2_handIn_55 X    hW (lv_sub hl [] rfl) h
          · refine lv_iload_n X.1 X.2.1 dX2_handIn_41 rfl (lv_at hl 2 rfl) ?_
            refine lv_bipush (v := 32) X.1 X.2.1 dX2_handIn_42 rfl ?_
            refine x_gets X hW X.2.2.2.2.2.2.2.2.2.2.2.1.2.2.1 (List.mem_cons_of_mem _ gw854) dX2_handIn_44 ?_
            refine lv_iload_n X.1 X.2.1 dX2_handIn_47 rfl (lv_at hl 0 rfl) ?_
            refine x_ialdP X hW dX2_handIn_48 h (fun x4 h => ?_)
            refine lv_iadd X.1 X.2.1 dX2_handIn_49 ?_
            refine lv_iconst (v := 4) X.1 X.2.1 dX2_handIn_50 rfl ?_
            refine lv_iadd X.1 X.2.1 dX2_handIn_51 ?_
            refine x_icmp_eq X (tgt := 57) dX2_handIn_52 (by decide) h (fun h => ?_) (fun h => ?_)
            · refine lv_aload_n X.1 X.2.1 dX2_handIn_57 rfl (lv_at hl 1 rfl) ?_
              refine lv_bipush (v := 24) X.1 X.2.1 dX2_handIn_58 rfl ?_
              refine lv_sipush (v := 136) X.1 X.2.1 dX2_handIn_60 rfl ?_
              refine lv_sipush (v := 142) X.1 X.2.1 dX2_handIn_63 rfl ?_
              obtain ⟨r5, S6, h7, h⟩ := cl_some h
              refine x_aftI X hW (x_runS (As := [.ref (G.2.2 cv0 v0), .int 24, .int 136, .int 142]) (rest := []) X hW (c_X2_hasHead l G X.2.2.2.2.2.2.2.2.2.1 _ S cv0 v0 24 136 142 _ h7) (va_cwS 4 X.2.2.2.2.1 (gS gw855 gw824 gw267 gw825) rfl rfl rfl hd_X2_hasHead ⟨Nat.le_of_ble_eq_true rfl, Nat.le_of_ble_eq_true rfl⟩) rfl hl.1 rfl (Nat.le_of_ble_eq_true rfl) dX2_handIn_66 ⟨Nat.zero_le _, Nat.zero_le _⟩) (fun H locs hW => ?_)
              refine x_if_eq X (tgt := 76) dX2_handIn_69 (by decide) h (fun h => ?_) (fun h => ?_)
              · refine lv_iconst (v := (-1)) X.1 X.2.1 dX2_handIn_76 rfl ?_
                exact x_iret X hW h dX2_handIn_77
              · refine lv_iload_n X.1 X.2.1 dX2_handIn_72 rfl (lv_at hl 0 rfl) ?_
                refine lv_goto (tgt := 77) X.1 X.2.1 dX2_handIn_73 (by decide) ?_
                exact x_iret X hW h dX2_handIn_77
            · exact w_X2_handIn_55 X    hW (lv_sub hl [] rfl) h
      · exact w_X2_handIn_24 X    hW (lv_sub hl [] rfl) h
theorem c_X2_handIn (l : Launch) (G : xG) (hD : xD G false) (sz : Nat) (S : Mm) (cv0 : Nat) (v0 : Nat) (v1 : Int32) (o : Int32 × Mm) (h : F_X2_handIn cv0 v0 v1 S = some o) : Met l yX2_handIn wsX2_handIn rmX2_handIn (xPre G false S sz [.ref (G.2.2 cv0 v0), .int v1]) (xQi G false sz o) 0 0 (XA G false sz) :=
  x_start hD (by decide) rfl (Nat.le_of_ble_eq_true rfl) (fun p e s m below meth c X hW ls hl => w_X2_handIn_0 X cv0 v0 v1 hW hl h)

/-! WirelessCell$Inbox.addLast(I[II)V -/
def rmX3_addLast : Room := { frames := 1, cells := 0, slots := 0, locals := 18 }
def L_X3_addLast_52  (v0 : Nat) (S : Mm) : Option (Unit × Mm) :=
  gf S 61 v0 fun x9 =>
  pf S 61 v0 (x9 + 1) fun S10 =>
  some ((), S10)
def F_X3_addLast (v0 : Nat) (v1 : Int32) (cv2 : Nat) (v2 : Nat) (v3 : Int32) (S : Mm) : Option (Unit × Mm) :=
  gd (v0 < 9) (
  gf S 61 v0 fun x1 =>
  if 12 ≤ x1 then (
  L_X3_addLast_52  v0 S)
  else (
  gf S 61 v0 fun x2 =>
  stA S 20 v0 12 9 x2 v1 fun S3 =>
  gf S3 61 v0 fun x4 =>
  stA S3 19 v0 12 9 x4 (v3 - 8) fun S5 =>
  gf S5 61 v0 fun x6 =>
  ldR S5 17 v0 12 9 x6 108 fun i7 =>
  cpP false S5 cv2 v2 8 18 i7 0 (v3 - 8) fun S8 =>
  L_X3_addLast_52  v0 S8))
set_option maxRecDepth 100000 in
set_option maxHeartbeats 4000000 in
theorem w_X3_addLast_52 {p : Program} {l : Launch} {e : Env} {s : State} {m : MethodId} {args : Array Value} {below : List Frame} {meth : Method} {c : Code} {G : xG} {sz : Nat} {o : Unit × Mm} (X : xC G false sz p s m args c cX3_addLast 4 wsX3_addLast RX3 meth none) (v0 : Nat) (qv0 : v0 < 9)  {S : Mm} {H : Heap} {locs : List Loc} {ls : Array Slot} (hW : xW G false sz s H locs S) (hl : lv_has ls 4 [(0, .ref (G.2.2 2 v0))]) (h : L_X3_addLast_52  v0 S = some o) : wX p l e rmX3_addLast s m args below meth c H locs (xQv G false sz o) (XA G false sz) 52 ls [] := by
  unfold L_X3_addLast_52 at h
  refine lv_aload_n X.1 X.2.1 dX3_addLast_52 rfl (lv_at hl 0 rfl) ?_
  refine lv_dup X.1 X.2.1 dX3_addLast_53 rfl ?_
  refine x_getI X hW fd_Inbox_delivered (fun w h => List.mem_cons_of_mem _ (gin_X3 w h)) (List.mem_cons_of_mem _ gw838) qv0 dX3_addLast_54 h (fun x9 h => ?_)
  refine lv_iconst (v := 1) X.1 X.2.1 dX3_addLast_57 rfl ?_
  refine lv_iadd X.1 X.2.1 dX3_addLast_58 ?_
  refine x_putI X hW fd_Inbox_delivered (fun w h => List.mem_cons_of_mem _ (gin_X3 w h)) (List.mem_cons_of_mem _ gw838) qv0 dX3_addLast_59 tyX3 tyX3_ok nmX3 rfl rfl rfl h (fun S10 H locs h hW => ?_)
  exact x_vret X hW h dX3_addLast_62
set_option maxRecDepth 100000 in
set_option maxHeartbeats 4000000 in
theorem w_X3_addLast_0 {p : Program} {l : Launch} {e : Env} {s : State} {m : MethodId} {args : Array Value} {below : List Frame} {meth : Method} {c : Code} {G : xG} {sz : Nat} {o : Unit × Mm} (X : xC G false sz p s m args c cX3_addLast 4 wsX3_addLast RX3 meth none) (v0 : Nat) (v1 : Int32) (cv2 : Nat) (v2 : Nat) (v3 : Int32) {S : Mm} {H : Heap} {locs : List Loc} {ls : Array Slot} (hW : xW G false sz s H locs S) (hl : lv_has ls 4 [(0, .ref (G.2.2 2 v0)), (1, .int v1), (2, .ref (G.2.2 cv2 v2)), (3, .int v3)]) (h : F_X3_addLast v0 v1 cv2 v2 v3 S = some o) : wX p l e rmX3_addLast s m args below meth c H locs (xQv G false sz o) (XA G false sz) 0 ls [] := by
  unfold F_X3_addLast at h
  obtain ⟨qv0, h⟩ := if_some h
  refine lv_aload_n X.1 X.2.1 dX3_addLast_0 rfl (lv_at hl 0 rfl) ?_
  refine x_getI X hW fd_Inbox_delivered (fun w h => List.mem_cons_of_mem _ (gin_X3 w h)) (List.mem_cons_of_mem _ gw838) qv0 dX3_addLast_1 h (fun x1 h => ?_)
  refine lv_bipush (v := 12) X.1 X.2.1 dX3_addLast_4 rfl ?_
  refine x_icmp_ge X (tgt := 52) dX3_addLast_6 (by decide) h (fun h => ?_) (fun h => ?_)
  · exact w_X3_addLast_52 X v0 qv0  hW (lv_sub hl [0] rfl) h
  · refine lv_aload_n X.1 X.2.1 dX3_addLast_9 rfl (lv_at hl 0 rfl) ?_
    refine x_getR X hW fd_Inbox_speakers (fun w h => List.mem_cons_of_mem _ (gin_X3 w h)) (List.mem_cons_of_mem _ gw132) qv0 dX3_addLast_10 ?_
    refine lv_aload_n X.1 X.2.1 dX3_addLast_13 rfl (lv_at hl 0 rfl) ?_
    refine x_getI X hW fd_Inbox_delivered (fun w h => List.mem_cons_of_mem _ (gin_X3 w h)) (List.mem_cons_of_mem _ gw838) qv0 dX3_addLast_14 h (fun x2 h => ?_)
    refine lv_iload_n X.1 X.2.1 dX3_addLast_17 rfl (lv_at hl 1 rfl) ?_
    refine x_iast X hW ar_20 dX3_addLast_18 h (fun S3 H locs h hW => ?_)
    refine lv_aload_n X.1 X.2.1 dX3_addLast_19 rfl (lv_at hl 0 rfl) ?_
    refine x_getR X hW fd_Inbox_lengths (fun w h => List.mem_cons_of_mem _ (gin_X3 w h)) (List.mem_cons_of_mem _ gw131) qv0 dX3_addLast_20 ?_
    refine lv_aload_n X.1 X.2.1 dX3_addLast_23 rfl (lv_at hl 0 rfl) ?_
    refine x_getI X hW fd_Inbox_delivered (fun w h => List.mem_cons_of_mem _ (gin_X3 w h)) (List.mem_cons_of_mem _ gw838) qv0 dX3_addLast_24 h (fun x4 h => ?_)
    refine lv_iload_n X.1 X.2.1 dX3_addLast_27 rfl (lv_at hl 3 rfl) ?_
    refine lv_bipush (v := 8) X.1 X.2.1 dX3_addLast_28 rfl ?_
    refine lv_isub X.1 X.2.1 dX3_addLast_30 ?_
    refine x_iast X hW ar_19 dX3_addLast_31 h (fun S5 H locs h hW => ?_)
    refine lv_aload_n X.1 X.2.1 dX3_addLast_32 rfl (lv_at hl 2 rfl) ?_
    refine lv_bipush (v := 8) X.1 X.2.1 dX3_addLast_33 rfl ?_
    refine lv_aload_n X.1 X.2.1 dX3_addLast_35 rfl (lv_at hl 0 rfl) ?_
    refine x_getR X hW fd_Inbox_said (fun w h => List.mem_cons_of_mem _ (gin_X3 w h)) (List.mem_cons_of_mem _ gw130) qv0 dX3_addLast_36 ?_
    refine lv_aload_n X.1 X.2.1 dX3_addLast_39 rfl (lv_at hl 0 rfl) ?_
    refine x_getI X hW fd_Inbox_delivered (fun w h => List.mem_cons_of_mem _ (gin_X3 w h)) (List.mem_cons_of_mem _ gw838) qv0 dX3_addLast_40 h (fun x6 h => ?_)
    refine x_aald X hW ar_17 (ct := 18) rfl (at_17 G) rfl dX3_addLast_43 h (fun i7 qi7 h => ?_)
    refine lv_iconst (v := 0) X.1 X.2.1 dX3_addLast_44 rfl ?_
    refine lv_iload_n X.1 X.2.1 dX3_addLast_45 rfl (lv_at hl 3 rfl) ?_
    refine lv_bipush (v := 8) X.1 X.2.1 dX3_addLast_46 rfl ?_
    refine lv_isub X.1 X.2.1 dX3_addLast_48 ?_
    refine x_acopy X hW hl.1 (List.mem_cons_of_mem _ gw839) (List.mem_cons_of_mem _ gw325) (List.mem_cons_of_mem _ gw326) (List.mem_cons_of_mem _ gw327) (Nat.le_of_ble_eq_true rfl) (Nat.le_of_ble_eq_true rfl) dX3_addLast_49 h (fun S8 H locs h hW => ?_)
    exact w_X3_addLast_52 X v0 qv0  hW (lv_sub hl [0] rfl) h
theorem c_X3_addLast (l : Launch) (G : xG) (hD : xD G false) (sz : Nat) (S : Mm) (v0 : Nat) (v1 : Int32) (cv2 : Nat) (v2 : Nat) (v3 : Int32) (o : Unit × Mm) (h : F_X3_addLast v0 v1 cv2 v2 v3 S = some o) : Met l yX3_addLast wsX3_addLast rmX3_addLast (xPre G false S sz [.ref (G.2.2 2 v0), .int v1, .ref (G.2.2 cv2 v2), .int v3]) (xQv G false sz o) 0 0 (XA G false sz) :=
  x_start hD (by decide) rfl (Nat.le_of_ble_eq_true rfl) (fun p e s m below meth c X hW ls hl => w_X3_addLast_0 X v0 v1 cv2 v2 v3 hW hl h)
