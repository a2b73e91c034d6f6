/-! WirelessCellModel.product(II)I -/
def rmX12_product : Room := { frames := 1, cells := 0, slots := 0, locals := 21 }
def L_X12_product_31 (k7 : Int32 → Int32 → Int32 → Mm → Option (Int32 × Mm)) (v1 : Int32) (v3 : Int32) (v4 : Int32) (s0 : Int32) (S : Mm) : Option (Int32 × Mm) :=
  cl (F_X12_twice v3 S) fun r1 S2 =>
  k7 s0 r1 (v4 + 1) S2
def L_X12_product_7  (v1 : Int32) : Nat → Int32 → Int32 → Int32 → Mm → Option (Int32 × Mm)
  | 0, _, _, _, _ => none
  | n + 1, v2, v3, v4, S => 
    if 8 ≤ v4 then (
    some (v2, S))
    else (
    if ((v1 >>> (v4 &&& 31)) &&& 1) = 1 then (
    L_X12_product_31 (L_X12_product_7 v1 n) v1 v3 v4 (v2 ^^^ v3) S)
    else (
    L_X12_product_31 (L_X12_product_7 v1 n) v1 v3 v4 v2 S))
def F_X12_product (v0 : Int32) (v1 : Int32) (S : Mm) : Option (Int32 × Mm) :=
  L_X12_product_7  v1 fu 0 v0 0 S
set_option maxRecDepth 100000 in
set_option maxHeartbeats 4000000 in
theorem w_X12_product_31 {p : Program} {l : Launch} {e : Env} {s : State} {m : MethodId} {args : Array Value} {below : List Frame} {meth : Method} {c : Code} {G : xG} {sz : Nat} {o : Int32 × Mm} (X : xC G true sz p s m args c cX12_product 5 wsX12_product RX12 meth (some .int)) (v1 : Int32) (v3 : Int32) (v4 : Int32) (s0 : Int32)  (k7 : Int32 → Int32 → Int32 → Mm → Option (Int32 × Mm)) (hk7 : ∀ (v2 : Int32) (v3 : Int32) (v4 : Int32) (S : Mm) (H : Heap) (locs : List Loc) (ls : Array Slot), k7 v2 v3 v4 S = some o → xW G true sz s H locs S → lv_has ls 5 [(1, .int v1), (2, .int v2), (3, .int v3), (4, .int v4)] → wX p l e rmX12_product s m args below meth c H locs (xQi G true sz o) (XA G true sz) 7 ls []) {S : Mm} {H : Heap} {locs : List Loc} {ls : Array Slot} (hW : xW G true sz s H locs S) (hl : lv_has ls 5 [(1, .int v1), (3, .int v3), (4, .int v4)]) (h : L_X12_product_31 k7 v1 v3 v4 s0 S = some o) : wX p l e rmX12_product s m args below meth c H locs (xQi G true sz o) (XA G true sz) 31 ls [.int s0] := by
  unfold L_X12_product_31 at h
  refine lv_istore_n (lv' := [(2, .int s0), (1, .int v1), (3, .int v3), (4, .int v4)]) X.1 X.2.1 dX12_product_31 rfl hl (by decide) rfl (fun ls hl => ?_)
  refine lv_iload_n X.1 X.2.1 dX12_product_32 rfl (lv_at hl 2 rfl) ?_
  obtain ⟨r1, S2, h3, h⟩ := cl_some h
  refine x_aftI X hW (x_runS (As := [.int v3]) (rest := []) X hW (c_X12_twice l G X.2.2.2.2.2.2.2.2.2.1 _ S v3 _ h3) (va_cwS 1 X.2.2.2.2.1 (gS gw250 gw251 gw5 gw252) rfl rfl rfl hd_X12_twice ⟨Nat.le_of_ble_eq_true rfl, Nat.le_of_ble_eq_true rfl⟩) rfl hl.1 rfl (Nat.le_of_ble_eq_true rfl) dX12_product_33 ⟨Nat.zero_le _, Nat.zero_le _⟩) (fun H locs hW => ?_)
  refine lv_istore_n (lv' := [(3, .int r1), (2, .int s0), (1, .int v1), (4, .int v4)]) X.1 X.2.1 dX12_product_36 rfl hl (by decide) rfl (fun ls hl => ?_)
  refine lv_iinc (v := (v4 + 1)) (lv' := [(4, .int (v4 + 1)), (3, .int r1), (2, .int s0), (1, .int v1)]) X.1 X.2.1 dX12_product_37 hl (k := 3) rfl rfl (by decide) rfl (fun ls hl => ?_)
  refine lv_goto (tgt := 7) X.1 X.2.1 dX12_product_40 (by decide) ?_
  exact hk7 s0 r1 (v4 + 1) S2 _ _ _ h hW  (lv_sub hl [3, 2, 1, 0] rfl)
set_option maxRecDepth 100000 in
set_option maxHeartbeats 4000000 in
theorem w_X12_product_7 {p : Program} {l : Launch} {e : Env} {s : State} {m : MethodId} {args : Array Value} {below : List Frame} {meth : Method} {c : Code} {G : xG} {sz : Nat} {o : Int32 × Mm} (X : xC G true sz p s m args c cX12_product 5 wsX12_product RX12 meth (some .int)) (v1 : Int32)   : ∀ (n : Nat) (v2 : Int32) (v3 : Int32) (v4 : Int32) (S : Mm) (H : Heap) (locs : List Loc) (ls : Array Slot), L_X12_product_7 v1 n v2 v3 v4 S = some o → xW G true sz s H locs S → lv_has ls 5 [(1, .int v1), (2, .int v2), (3, .int v3), (4, .int v4)] → wX p l e rmX12_product s m args below meth c H locs (xQi G true sz o) (XA G true sz) 7 ls [] := by
  intro n
  induction n with
  | zero =>
    intro v2 v3 v4 S H locs ls h
    cases h
  | succ n ih =>
    intro v2 v3 v4 S H locs ls h hW  hl
    rw [L_X12_product_7] at h
    refine lv_iload X.1 X.2.1 dX12_product_7 (lv_at hl 3 rfl) ?_
    refine lv_bipush (v := 8) X.1 X.2.1 dX12_product_9 rfl ?_
    refine x_icmp_ge X (tgt := 43) dX12_product_11 (by decide) h (fun h => ?_) (fun h => ?_)
    · refine lv_iload_n X.1 X.2.1 dX12_product_43 rfl (lv_at hl 1 rfl) ?_
      exact x_iret X hW h dX12_product_44
    · refine lv_iload_n X.1 X.2.1 dX12_product_14 rfl (lv_at hl 0 rfl) ?_
      refine lv_iload X.1 X.2.1 dX12_product_15 (lv_at hl 3 rfl) ?_
      refine lv_ishr X.1 X.2.1 dX12_product_17 ?_
      refine lv_iconst (v := 1) X.1 X.2.1 dX12_product_18 rfl ?_
      refine lv_iand X.1 X.2.1 dX12_product_19 ?_
      refine lv_iconst (v := 1) X.1 X.2.1 dX12_product_20 rfl ?_
      refine x_icmp_ne X (tgt := 30) dX12_product_21 (by decide) h (fun h => ?_) (fun h => ?_)
      · refine lv_iload_n X.1 X.2.1 dX12_product_30 rfl (lv_at hl 1 rfl) ?_
        exact w_X12_product_31 X v1 v3 v4 v2  (L_X12_product_7 v1 n) ih hW (lv_sub hl [0, 2, 3] rfl) h
      · refine lv_iload_n X.1 X.2.1 dX12_product_24 rfl (lv_at hl 1 rfl) ?_
        refine lv_iload_n X.1 X.2.1 dX12_product_25 rfl (lv_at hl 2 rfl) ?_
        refine lv_ixor X.1 X.2.1 dX12_product_26 ?_
        refine lv_goto (tgt := 31) X.1 X.2.1 dX12_product_27 (by decide) ?_
        exact w_X12_product_31 X v1 v3 v4 (v2 ^^^ v3)  (L_X12_product_7 v1 n) ih hW (lv_sub hl [0, 2, 3] rfl) h
set_option maxRecDepth 100000 in
set_option maxHeartbeats 4000000 in
theorem w_X12_product_0 {p : Program} {l : Launch} {e : Env} {s : State} {m : MethodId} {args : Array Value} {below : List Frame} {meth : Method} {c : Code} {G : xG} {sz : Nat} {o : Int32 × Mm} (X : xC G true sz p s m args c cX12_product 5 wsX12_product RX12 meth (some .int)) (v0 : Int32) (v1 : Int32) {S : Mm} {H : Heap} {locs : List Loc} {ls : Array Slot} (hW : xW G true sz s H locs S) (hl : lv_has ls 5 [(0, .int v0), (1, .int v1)]) (h : F_X12_product v0 v1 S = some o) : wX p l e rmX12_product s m args below meth c H locs (xQi G true sz o) (XA G true sz) 0 ls [] := by
  unfold F_X12_product at h
  refine lv_iconst (v := 0) X.1 X.2.1 dX12_product_0 rfl ?_
  refine lv_istore_n (lv' := [(2, .int 0), (0, .int v0), (1, .int v1)]) X.1 X.2.1 dX12_product_1 rfl hl (by decide) rfl (fun ls hl => ?_)
  refine lv_iload_n X.1 X.2.1 dX12_product_2 rfl (lv_at hl 1 rfl) ?_
  refine lv_istore_n (lv' := [(3, .int v0), (2, .int 0), (0, .int v0), (1, .int v1)]) X.1 X.2.1 dX12_product_3 rfl hl (by decide) rfl (fun ls hl => ?_)
  refine lv_iconst (v := 0) X.1 X.2.1 dX12_product_4 rfl ?_
  refine lv_istore (lv' := [(4, .int 0), (3, .int v0), (2, .int 0), (0, .int v0), (1, .int v1)]) X.1 X.2.1 dX12_product_5 hl (by decide) rfl (fun ls hl => ?_)
  exact w_X12_product_7 X v1   fu 0 v0 0 S _ _ _ h hW  (lv_sub hl [4, 2, 1, 0] rfl)
theorem c_X12_product (l : Launch) (G : xG) (hD : xD G true) (sz : Nat) (S : Mm) (v0 : Int32) (v1 : Int32) (o : Int32 × Mm) (h : F_X12_product v0 v1 S = some o) : Met l yX12_product wsX12_product rmX12_product (xPre G true S sz [.int v0, .int v1]) (xQi G true sz o) 0 0 (XA G true sz) :=
  x_start hD (by decide) rfl (Nat.le_of_ble_eq_true rfl) (fun p e s m below meth c X hW ls hl => w_X12_product_0 X v0 v1 hW hl h)

/-! WirelessCellModel.turn(II)I -/
def rmX12_turn : Room := { frames := 0, cells := 0, slots := 0, locals := 0 }
def F_X12_turn (v0 : Int32) (v1 : Int32) (S : Mm) : Option (Int32 × Mm) :=
  some ((((v0 <<< (v1 &&& 31)) ||| (v0 >>> ((8 - v1) &&& 31))) &&& 255), S)
set_option maxRecDepth 100000 in
set_option maxHeartbeats 4000000 in
theorem w_X12_turn_0 {p : Program} {l : Launch} {e : Env} {s : State} {m : MethodId} {args : Array Value} {below : List Frame} {meth : Method} {c : Code} {G : xG} {sz : Nat} {o : Int32 × Mm} (X : xC G true sz p s m args c cX12_turn 2 wsX12_turn RX12 meth (some .int)) (v0 : Int32) (v1 : Int32) {S : Mm} {H : Heap} {locs : List Loc} {ls : Array Slot} (hW : xW G true sz s H locs S) (hl : lv_has ls 2 [(0, .int v0), (1, .int v1)]) (h : F_X12_turn v0 v1 S = some o) : wX p l e rmX12_turn s m args below meth c H locs (xQi G true sz o) (XA G true sz) 0 ls [] := by
  unfold F_X12_turn at h
  refine lv_iload_n X.1 X.2.1 dX12_turn_0 rfl (lv_at hl 0 rfl) ?_
  refine lv_iload_n X.1 X.2.1 dX12_turn_1 rfl (lv_at hl 1 rfl) ?_
  refine lv_ishl X.1 X.2.1 dX12_turn_2 ?_
  refine lv_iload_n X.1 X.2.1 dX12_turn_3 rfl (lv_at hl 0 rfl) ?_
  refine lv_bipush (v := 8) X.1 X.2.1 dX12_turn_4 rfl ?_
  refine lv_iload_n X.1 X.2.1 dX12_turn_6 rfl (lv_at hl 1 rfl) ?_
  refine lv_isub X.1 X.2.1 dX12_turn_7 ?_
  refine lv_ishr X.1 X.2.1 dX12_turn_8 ?_
  refine lv_ior X.1 X.2.1 dX12_turn_9 ?_
  refine lv_sipush (v := 255) X.1 X.2.1 dX12_turn_10 rfl ?_
  refine lv_iand X.1 X.2.1 dX12_turn_13 ?_
  exact x_iret X hW h dX12_turn_14
theorem c_X12_turn (l : Launch) (G : xG) (hD : xD G true) (sz : Nat) (S : Mm) (v0 : Int32) (v1 : Int32) (o : Int32 × Mm) (h : F_X12_turn v0 v1 S = some o) : Met l yX12_turn wsX12_turn rmX12_turn (xPre G true S sz [.int v0, .int v1]) (xQi G true sz o) 0 0 (XA G true sz) :=
  x_start hD (by decide) rfl (Nat.le_of_ble_eq_true rfl) (fun p e s m below meth c X hW ls hl => w_X12_turn_0 X v0 v1 hW hl h)

/-! WirelessCellModel.findBoxes()V -/
def rmX12_findBoxes : Room := { frames := 2, cells := 0, slots := 0, locals := 45 }
def L_X12_findBoxes_34 (k2 : Int32 → Mm → Option (Unit × Mm)) (k13 : Int32 → Int32 → Mm → Option (Unit × Mm)) (v1 : Int32) (v3 : Int32) (s0 : Int32) (S : Mm) : Option (Unit × Mm) :=
  k13 s0 (v3 + 1) S
def L_X12_findBoxes_13 (k2 : Int32 → Mm → Option (Unit × Mm)) (v1 : Int32) : Nat → Int32 → Int32 → Mm → Option (Unit × Mm)
  | 0, _, _, _ => none
  | n + 1, v2, v3, S => 
    if 256 ≤ v3 then (
    cl (F_X12_turn v2 1 S) fun r1 S2 =>
    cl (F_X12_turn v2 2 S2) fun r4 S5 =>
    cl (F_X12_turn v2 3 S5) fun r7 S8 =>
    cl (F_X12_turn v2 4 S8) fun r10 S11 =>
    stA S11 207 0 256 1 v1 (((((v2 ^^^ r1) ^^^ r4) ^^^ r7) ^^^ r10) ^^^ 99) fun S13 =>
    k2 (v1 + 1) S13)
    else (
    cl (F_X12_product v1 v3 S) fun r14 S15 =>
    if r14 = 1 then (
    L_X12_findBoxes_34 k2 (L_X12_findBoxes_13 k2 v1 n) v1 v3 v3 S15)
    else (
    L_X12_findBoxes_34 k2 (L_X12_findBoxes_13 k2 v1 n) v1 v3 v2 S15))
def L_X12_findBoxes_2   : Nat → Int32 → Mm → Option (Unit × Mm)
  | 0, _, _ => none
  | n + 1, v1, S => 
    if 256 ≤ v1 then (
    some ((), S))
    else (
    L_X12_findBoxes_13 (L_X12_findBoxes_2  n) v1 fu 0 1 S)
def F_X12_findBoxes  (S : Mm) : Option (Unit × Mm) :=
  L_X12_findBoxes_2   fu 0 S
set_option maxRecDepth 100000 in
set_option maxHeartbeats 4000000 in
theorem w_X12_findBoxes_34 {p : Program} {l : Launch} {e : Env} {s : State} {m : MethodId} {args : Array Value} {below : List Frame} {meth : Method} {c : Code} {G : xG} {sz : Nat} {o : Unit × Mm} (X : xC G true sz p s m args c cX12_findBoxes 4 wsX12_findBoxes RX12 meth none) (v1 : Int32) (v3 : Int32) (s0 : Int32)  (k2 : Int32 → Mm → Option (Unit × Mm)) (hk2 : ∀ (v1 : Int32) (S : Mm) (H : Heap) (locs : List Loc) (ls : Array Slot), k2 v1 S = some o → xW G true sz s H locs S → lv_has ls 4 [(0, .ref (G.2.2 200 0)), (1, .int v1)] → wX p l e rmX12_findBoxes s m args below meth c H locs (xQv G true sz o) (XA G true sz) 2 ls []) (k13 : Int32 → Int32 → Mm → Option (Unit × Mm)) (hk13 : ∀ (v2 : Int32) (v3 : Int32) (S : Mm) (H : Heap) (locs : List Loc) (ls : Array Slot), k13 v2 v3 S = some o → xW G true sz s H locs S → lv_has ls 4 [(0, .ref (G.2.2 200 0)), (1, .int v1), (2, .int v2), (3, .int v3)] → wX p l e rmX12_findBoxes s m args below meth c H locs (xQv G true sz o) (XA G true sz) 13 ls []) {S : Mm} {H : Heap} {locs : List Loc} {ls : Array Slot} (hW : xW G true sz s H locs S) (hl : lv_has ls 4 [(0, .ref (G.2.2 200 0)), (1, .int v1), (3, .int v3)]) (h : L_X12_findBoxes_34 k2 k13 v1 v3 s0 S = some o) : wX p l e rmX12_findBoxes s m args below meth c H locs (xQv G true sz o) (XA G true sz) 34 ls [.int s0] := by
  unfold L_X12_findBoxes_34 at h
  refine lv_istore_n (lv' := [(2, .int s0), (0, .ref (G.2.2 200 0)), (1, .int v1), (3, .int v3)]) X.1 X.2.1 dX12_findBoxes_34 rfl hl (by decide) rfl (fun ls hl => ?_)
  refine lv_iinc (v := (v3 + 1)) (lv' := [(3, .int (v3 + 1)), (2, .int s0), (0, .ref (G.2.2 200 0)), (1, .int v1)]) X.1 X.2.1 dX12_findBoxes_35 hl (k := 3) rfl rfl (by decide) rfl (fun ls hl => ?_)
  refine lv_goto (tgt := 13) X.1 X.2.1 dX12_findBoxes_38 (by decide) ?_
  exact hk13 s0 (v3 + 1) S _ _ _ h hW  (lv_sub hl [2, 3, 1, 0] rfl)
set_option maxRecDepth 100000 in
set_option maxHeartbeats 4000000 in
theorem w_X12_findBoxes_13 {p : Program} {l : Launch} {e : Env} {s : State} {m : MethodId} {args : Array Value} {below : List Frame} {meth : Method} {c : Code} {G : xG} {sz : Nat} {o : Unit × Mm} (X : xC G true sz p s m args c cX12_findBoxes 4 wsX12_findBoxes RX12 meth none) (v1 : Int32)  (k2 : Int32 → Mm → Option (Unit × Mm)) (hk2 : ∀ (v1 : Int32) (S : Mm) (H : Heap) (locs : List Loc) (ls : Array Slot), k2 v1 S = some o → xW G true sz s H locs S → lv_has ls 4 [(0, .ref (G.2.2 200 0)), (1, .int v1)] → wX p l e rmX12_findBoxes s m args below meth c H locs (xQv G true sz o) (XA G true sz) 2 ls []) : ∀ (n : Nat) (v2 : Int32) (v3 : Int32) (S : Mm) (H : Heap) (locs : List Loc) (ls : Array Slot), L_X12_findBoxes_13 k2 v1 n v2 v3 S = some o → xW G true sz s H locs S → lv_has ls 4 [(0, .ref (G.2.2 200 0)), (1, .int v1), (2, .int v2), (3, .int v3)] → wX p l e rmX12_findBoxes s m args below meth c H locs (xQv G true sz o) (XA G true sz) 13 ls [] := by
  intro n
  induction n with
  | zero =>
    intro v2 v3 S H locs ls h
    cases h
  | succ n ih =>
    intro v2 v3 S H locs ls h hW  hl
    rw [L_X12_findBoxes_13] at h
    refine lv_iload_n X.1 X.2.1 dX12_findBoxes_13 rfl (lv_at hl 3 rfl) ?_
    refine lv_sipush (v := 256) X.1 X.2.1 dX12_findBoxes_14 rfl ?_
    refine x_icmp_ge X (tgt := 41) dX12_findBoxes_17 (by decide) h (fun h => ?_) (fun h => ?_)
    · refine lv_aload_n X.1 X.2.1 dX12_findBoxes_41 rfl (lv_at hl 0 rfl) ?_
      refine x_getR X hW fd_Model_box (fun w h => List.mem_cons_of_mem _ (gin_X12 w h)) (List.mem_cons_of_mem _ gw157) z_1 dX12_findBoxes_42 ?_
      refine lv_iload_n X.1 X.2.1 dX12_findBoxes_45 rfl (lv_at hl 1 rfl) ?_
      refine lv_iload_n X.1 X.2.1 dX12_findBoxes_46 rfl (lv_at hl 2 rfl) ?_
      refine lv_iload_n X.1 X.2.1 dX12_findBoxes_47 rfl (lv_at hl 2 rfl) ?_
      refine lv_iconst (v := 1) X.1 X.2.1 dX12_findBoxes_48 rfl ?_
      obtain ⟨r1, S2, h3, h⟩ := cl_some h
      refine x_aftI X hW (x_runS (As := [.int v2, .int 1]) (rest := [.int v2, .int v1, .ref (G.2.2 207 0)]) X hW (c_X12_turn l G X.2.2.2.2.2.2.2.2.2.1 _ S v2 1 _ h3) (va_cwS 2 X.2.2.2.2.1 (gS gw253 gw254 gw5 gw255) rfl rfl rfl hd_X12_turn ⟨Nat.le_of_ble_eq_true rfl, Nat.le_of_ble_eq_true rfl⟩) rfl hl.1 rfl (Nat.le_of_ble_eq_true rfl) dX12_findBoxes_49 ⟨Nat.zero_le _, Nat.zero_le _⟩) (fun H locs hW => ?_)
      refine lv_ixor X.1 X.2.1 dX12_findBoxes_52 ?_
      refine lv_iload_n X.1 X.2.1 dX12_findBoxes_53 rfl (lv_at hl 2 rfl) ?_
      refine lv_iconst (v := 2) X.1 X.2.1 dX12_findBoxes_54 rfl ?_
      obtain ⟨r4, S5, h6, h⟩ := cl_some h
      refine x_aftI X hW (x_runS (As := [.int v2, .int 2]) (rest := [.int (v2 ^^^ r1), .int v1, .ref (G.2.2 207 0)]) X hW (c_X12_turn l G X.2.2.2.2.2.2.2.2.2.1 _ S2 v2 2 _ h6) (va_cwS 2 X.2.2.2.2.1 (gS gw253 gw254 gw5 gw255) rfl rfl rfl hd_X12_turn ⟨Nat.le_of_ble_eq_true rfl, Nat.le_of_ble_eq_true rfl⟩) rfl hl.1 rfl (Nat.le_of_ble_eq_true rfl) dX12_findBoxes_55 ⟨Nat.zero_le _, Nat.zero_le _⟩) (fun H locs hW => ?_)
      refine lv_ixor X.1 X.2.1 dX12_findBoxes_58 ?_
      refine lv_iload_n X.1 X.2.1 dX12_findBoxes_59 rfl (lv_at hl 2 rfl) ?_
      refine lv_iconst (v := 3) X.1 X.2.1 dX12_findBoxes_60 rfl ?_
      obtain ⟨r7, S8, h9, h⟩ := cl_some h
      refine x_aftI X hW (x_runS (As := [.int v2, .int 3]) (rest := [.int ((v2 ^^^ r1) ^^^ r4), .int v1, .ref (G.2.2 207 0)]) X hW (c_X12_turn l G X.2.2.2.2.2.2.2.2.2.1 _ S5 v2 3 _ h9) (va_cwS 2 X.2.2.2.2.1 (gS gw253 gw254 gw5 gw255) rfl rfl rfl hd_X12_turn ⟨Nat.le_of_ble_eq_true rfl, Nat.le_of_ble_eq_true rfl⟩) rfl hl.1 rfl (Nat.le_of_ble_eq_true rfl) dX12_findBoxes_61 ⟨Nat.zero_le _, Nat.zero_le _⟩) (fun H locs hW => ?_)
      refine lv_ixor X.1 X.2.1 dX12_findBoxes_64 ?_
      refine lv_iload_n X.1 X.2.1 dX12_findBoxes_65 rfl (lv_at hl 2 rfl) ?_
      refine lv_iconst (v := 4) X.1 X.2.1 dX12_findBoxes_66 rfl ?_
      obtain ⟨r10, S11, h12, h⟩ := cl_some h
      refine x_aftI X hW (x_runS (As := [.int v2, .int 4]) (rest := [.int (((v2 ^^^ r1) ^^^ r4) ^^^ r7), .int v1, .ref (G.2.2 207 0)]) X hW (c_X12_turn l G X.2.2.2.2.2.2.2.2.2.1 _ S8 v2 4 _ h12) (va_cwS 2 X.2.2.2.2.1 (gS gw253 gw254 gw5 gw255) rfl rfl rfl hd_X12_turn ⟨Nat.le_of_ble_eq_true rfl, Nat.le_of_ble_eq_true rfl⟩) rfl hl.1 rfl (Nat.le_of_ble_eq_true rfl) dX12_findBoxes_67 ⟨Nat.zero_le _, Nat.zero_le _⟩) (fun H locs hW => ?_)
      refine lv_ixor X.1 X.2.1 dX12_findBoxes_70 ?_
      refine lv_bipush (v := 99) X.1 X.2.1 dX12_findBoxes_71 rfl ?_
      refine lv_ixor X.1 X.2.1 dX12_findBoxes_73 ?_
      refine x_iast X hW ar_207 dX12_findBoxes_74 h (fun S13 H locs h hW => ?_)
      refine lv_iinc (v := (v1 + 1)) (lv' := [(1, .int (v1 + 1)), (0, .ref (G.2.2 200 0)), (2, .int v2), (3, .int v3)]) X.1 X.2.1 dX12_findBoxes_75 hl (k := 1) rfl rfl (by decide) rfl (fun ls hl => ?_)
      refine lv_goto (tgt := 2) X.1 X.2.1 dX12_findBoxes_78 (by decide) ?_
      exact hk2 (v1 + 1) S13 _ _ _ h hW  (lv_sub hl [1, 0] rfl)
    · refine lv_iload_n X.1 X.2.1 dX12_findBoxes_20 rfl (lv_at hl 1 rfl) ?_
      refine lv_iload_n X.1 X.2.1 dX12_findBoxes_21 rfl (lv_at hl 3 rfl) ?_
      obtain ⟨r14, S15, h16, h⟩ := cl_some h
      refine x_aftI X hW (x_runS (As := [.int v1, .int v3]) (rest := []) X hW (c_X12_product l G X.2.2.2.2.2.2.2.2.2.1 _ S v1 v3 _ h16) (va_cwS 2 X.2.2.2.2.1 (gS gw247 gw248 gw5 gw249) rfl rfl rfl hd_X12_product ⟨Nat.le_of_ble_eq_true rfl, Nat.le_of_ble_eq_true rfl⟩) rfl hl.1 rfl (Nat.le_of_ble_eq_true rfl) dX12_findBoxes_22 ⟨Nat.zero_le _, Nat.zero_le _⟩) (fun H locs hW => ?_)
      refine lv_iconst (v := 1) X.1 X.2.1 dX12_findBoxes_25 rfl ?_
      refine x_icmp_ne X (tgt := 33) dX12_findBoxes_26 (by decide) h (fun h => ?_) (fun h => ?_)
      · refine lv_iload_n X.1 X.2.1 dX12_findBoxes_33 rfl (lv_at hl 2 rfl) ?_
        exact w_X12_findBoxes_34 X v1 v3 v2  k2 hk2 (L_X12_findBoxes_13 k2 v1 n) ih hW (lv_sub hl [0, 1, 3] rfl) h
      · refine lv_iload_n X.1 X.2.1 dX12_findBoxes_29 rfl (lv_at hl 3 rfl) ?_
        refine lv_goto (tgt := 34) X.1 X.2.1 dX12_findBoxes_30 (by decide) ?_
        exact w_X12_findBoxes_34 X v1 v3 v3  k2 hk2 (L_X12_findBoxes_13 k2 v1 n) ih hW (lv_sub hl [0, 1, 3] rfl) h
set_option maxRecDepth 100000 in
set_option maxHeartbeats 4000000 in
theorem w_X12_findBoxes_2 {p : Program} {l : Launch} {e : Env} {s : State} {m : MethodId} {args : Array Value} {below : List Frame} {meth : Method} {c : Code} {G : xG} {sz : Nat} {o : Unit × Mm} (X : xC G true sz p s m args c cX12_findBoxes 4 wsX12_findBoxes RX12 meth none)    : ∀ (n : Nat) (v1 : Int32) (S : Mm) (H : Heap) (locs : List Loc) (ls : Array Slot), L_X12_findBoxes_2  n v1 S = some o → xW G true sz s H locs S → lv_has ls 4 [(0, .ref (G.2.2 200 0)), (1, .int v1)] → wX p l e rmX12_findBoxes s m args below meth c H locs (xQv G true sz o) (XA G true sz) 2 ls [] := by
  intro n
  induction n with
  | zero =>
    intro v1 S H locs ls h
    cases h
  | succ n ih =>
    intro v1 S H locs ls h hW  hl
    rw [L_X12_findBoxes_2] at h
    refine lv_iload_n X.1 X.2.1 dX12_findBoxes_2 rfl (lv_at hl 1 rfl) ?_
    refine lv_sipush (v := 256) X.1 X.2.1 dX12_findBoxes_3 rfl ?_
    refine x_icmp_ge X (tgt := 81) dX12_findBoxes_6 (by decide) h (fun h => ?_) (fun h => ?_)
    · exact x_vret X hW h dX12_findBoxes_81
    · refine lv_iconst (v := 0) X.1 X.2.1 dX12_findBoxes_9 rfl ?_
      refine lv_istore_n (lv' := [(2, .int 0), (0, .ref (G.2.2 200 0)), (1, .int v1)]) X.1 X.2.1 dX12_findBoxes_10 rfl hl (by decide) rfl (fun ls hl => ?_)
      refine lv_iconst (v := 1) X.1 X.2.1 dX12_findBoxes_11 rfl ?_
      refine lv_istore_n (lv' := [(3, .int 1), (2, .int 0), (0, .ref (G.2.2 200 0)), (1, .int v1)]) X.1 X.2.1 dX12_findBoxes_12 rfl hl (by decide) rfl (fun ls hl => ?_)
      exact w_X12_findBoxes_13 X v1  (L_X12_findBoxes_2  n) ih fu 0 1 S _ _ _ h hW  (lv_sub hl [2, 3, 1, 0] rfl)
set_option maxRecDepth 100000 in
set_option maxHeartbeats 4000000 in
theorem w_X12_findBoxes_0 {p : Program} {l : Launch} {e : Env} {s : State} {m : MethodId} {args : Array Value} {below : List Frame} {meth : Method} {c : Code} {G : xG} {sz : Nat} {o : Unit × Mm} (X : xC G true sz p s m args c cX12_findBoxes 4 wsX12_findBoxes RX12 meth none)  {S : Mm} {H : Heap} {locs : List Loc} {ls : Array Slot} (hW : xW G true sz s H locs S) (hl : lv_has ls 4 [(0, .ref (G.2.2 200 0))]) (h : F_X12_findBoxes  S = some o) : wX p l e rmX12_findBoxes s m args below meth c H locs (xQv G true sz o) (XA G true sz) 0 ls [] := by
  unfold F_X12_findBoxes at h
  refine lv_iconst (v := 0) X.1 X.2.1 dX12_findBoxes_0 rfl ?_
  refine lv_istore_n (lv' := [(1, .int 0), (0, .ref (G.2.2 200 0))]) X.1 X.2.1 dX12_findBoxes_1 rfl hl (by decide) rfl (fun ls hl => ?_)
  exact w_X12_findBoxes_2 X    fu 0 S _ _ _ h hW  (lv_sub hl [1, 0] rfl)
theorem c_X12_findBoxes (l : Launch) (G : xG) (hD : xD G true) (sz : Nat) (S : Mm)  (o : Unit × Mm) (h : F_X12_findBoxes  S = some o) : Met l yX12_findBoxes wsX12_findBoxes rmX12_findBoxes (xPre G true S sz [.ref (G.2.2 200 0)]) (xQv G true sz o) 0 0 (XA G true sz) :=
  x_start hD (by decide) rfl (Nat.le_of_ble_eq_true rfl) (fun p e s m below meth c X hW ls hl => w_X12_findBoxes_0 X  hW hl h)

/-! WirelessCellModel.expand([II)V -/
def rmX12_expand : Room := { frames := 1, cells := 0, slots := 0, locals := 21 }
def L_X12_expand_146 (k31 : Int32 → Int32 → Mm → Option (Unit × Mm)) (k57 : Int32 → Mm → Option (Unit × Mm)) (v3 : Int32) (v4 : Int32) (v5 : Int32) (v6 : Int32) (s1 : Int32) (s2 : Int32) (s3 : Int32) (S : Mm) : Option (Unit × Mm) :=
  stA S 208 0 176 1 s1 (s2 ^^^ s3) fun S10 =>
  k57 (v6 + 1) S10
def L_X12_expand_167 (k31 : Int32 → Int32 → Mm → Option (Unit × Mm)) (v4 : Int32) (s0 : Int32) (S : Mm) : Option (Unit × Mm) :=
  k31 s0 (v4 + 4) S
def L_X12_expand_145 (k31 : Int32 → Int32 → Mm → Option (Unit × Mm)) (k57 : Int32 → Mm → Option (Unit × Mm)) (v3 : Int32) (v4 : Int32) (v5 : Int32) (v6 : Int32) (s1 : Int32) (s2 : Int32) (S : Mm) : Option (Unit × Mm) :=
  L_X12_expand_146 k31 k57 v3 v4 v5 v6 s1 s2 0 S
def L_X12_expand_104 (k31 : Int32 → Int32 → Mm → Option (Unit × Mm)) (k57 : Int32 → Mm → Option (Unit × Mm)) (v3 : Int32) (v4 : Int32) (v5 : Int32) (v6 : Int32) (s0 : Int32) (S : Mm) : Option (Unit × Mm) :=
  ldA S 208 0 176 1 ((v4 - 16) + v6) fun x9 =>
  if v5 = 0 then (
  L_X12_expand_145 k31 k57 v3 v4 v5 v6 (v4 + v6) (x9 ^^^ s0) S)
  else (
  if v6 = 0 then (
  L_X12_expand_146 k31 k57 v3 v4 v5 v6 (v4 + v6) (x9 ^^^ s0) v3 S)
  else (
  L_X12_expand_145 k31 k57 v3 v4 v5 v6 (v4 + v6) (x9 ^^^ s0) S))
def L_X12_expand_57 (k31 : Int32 → Int32 → Mm → Option (Unit × Mm)) (v3 : Int32) (v4 : Int32) (v5 : Int32) : Nat → Int32 → Mm → Option (Unit × Mm)
  | 0, _, _ => none
  | n + 1, v6, S => 
    if 4 ≤ v6 then (
    if v5 = 0 then (
    L_X12_expand_167 k31 v4 v3 S)
    else (
    cl (F_X12_twice v3 S) fun r3 S4 =>
    L_X12_expand_167 k31 v4 r3 S4))
    else (
    if v5 = 0 then (
    ldA S 208 0 176 1 ((v4 - 4) + v6) fun x6 =>
    L_X12_expand_104 k31 (L_X12_expand_57 k31 v3 v4 v5 n) v3 v4 v5 v6 x6 S)
    else (
    ldA S 208 0 176 1 ((v4 - 4) + ((v6 + 1) - (v6 + 1) / 4 * 4)) fun x7 =>
    ldA S 207 0 256 1 x7 fun x8 =>
    L_X12_expand_104 k31 (L_X12_expand_57 k31 v3 v4 v5 n) v3 v4 v5 v6 x8 S))
def L_X12_expand_52 (k31 : Int32 → Int32 → Mm → Option (Unit × Mm)) (v3 : Int32) (v4 : Int32) (s0 : Int32) (S : Mm) : Option (Unit × Mm) :=
  L_X12_expand_57 k31 v3 v4 s0 fu 0 S
def L_X12_expand_31   : Nat → Int32 → Int32 → Mm → Option (Unit × Mm)
  | 0, _, _, _ => none
  | n + 1, v3, v4, S => 
    if 176 ≤ v4 then (
    some ((), S))
    else (
    if (v4 - v4 / 16 * 16) = 0 then (
    L_X12_expand_52 (L_X12_expand_31  n) v3 v4 1 S)
    else (
    L_X12_expand_52 (L_X12_expand_31  n) v3 v4 0 S))
def L_X12_expand_2  (cv1 : Nat) (v1 : Nat) (v2 : Int32) : Nat → Int32 → Mm → Option (Unit × Mm)
  | 0, _, _ => none
  | n + 1, v3, S => 
    if 16 ≤ v3 then (
    L_X12_expand_31   fu 1 16 S)
    else (
    ldP true S cv1 v1 (v2 + v3) fun x1 =>
    stA S 208 0 176 1 v3 x1 fun S2 =>
    (L_X12_expand_2 cv1 v1 v2 n) (v3 + 1) S2)
def F_X12_expand (cv1 : Nat) (v1 : Nat) (v2 : Int32) (S : Mm) : Option (Unit × Mm) :=
  L_X12_expand_2  cv1 v1 v2 fu 0 S
set_option maxRecDepth 100000 in
set_option maxHeartbeats 4000000 in
theorem w_X12_expand_146 {p : Program} {l : Launch} {e : Env} {s : State} {m : MethodId} {args : Array Value} {below : List Frame} {meth : Method} {c : Code} {G : xG} {sz : Nat} {o : Unit × Mm} (X : xC G true sz p s m args c cX12_expand 8 wsX12_expand RX12 meth none) (v3 : Int32) (v4 : Int32) (v5 : Int32) (v6 : Int32) (s1 : Int32) (s2 : Int32) (s3 : Int32)  (k31 : Int32 → Int32 → Mm → Option (Unit × Mm)) (hk31 : ∀ (v3 : Int32) (v4 : Int32) (S : Mm) (H : Heap) (locs : List Loc) (ls : Array Slot), k31 v3 v4 S = some o → xW G true sz s H locs S → lv_has ls 8 [(0, .ref (G.2.2 200 0)), (3, .int v3), (4, .int v4)] → wX p l e rmX12_expand s m args below meth c H locs (xQv G true sz o) (XA G true sz) 31 ls []) (k57 : Int32 → Mm → Option (Unit × Mm)) (hk57 : ∀ (v6 : Int32) (S : Mm) (H : Heap) (locs : List Loc) (ls : Array Slot), k57 v6 S = some o → xW G true sz s H locs S → lv_has ls 8 [(0, .ref (G.2.2 200 0)), (3, .int v3), (4, .int v4), (5, .int v5), (6, .int v6)] → wX p l e rmX12_expand s m args below meth c H locs (xQv G true sz o) (XA G true sz) 57 ls []) {S : Mm} {H : Heap} {locs : List Loc} {ls : Array Slot} (hW : xW G true sz s H locs S) (hl : lv_has ls 8 [(0, .ref (G.2.2 200 0)), (3, .int v3), (4, .int v4), (5, .int v5), (6, .int v6)]) (h : L_X12_expand_146 k31 k57 v3 v4 v5 v6 s1 s2 s3 S = some o) : wX p l e rmX12_expand s m args below meth c H locs (xQv G true sz o) (XA G true sz) 146 ls [.int s3, .int s2, .int s1, .ref (G.2.2 208 0)] := by
  unfold L_X12_expand_146 at h
  refine lv_ixor X.1 X.2.1 dX12_expand_146 ?_
  refine x_iast X hW ar_208 dX12_expand_147 h (fun S10 H locs h hW => ?_)
  refine lv_iinc (v := (v6 + 1)) (lv' := [(6, .int (v6 + 1)), (0, .ref (G.2.2 200 0)), (3, .int v3), (4, .int v4), (5, .int v5)]) X.1 X.2.1 dX12_expand_148 hl (k := 4) rfl rfl (by decide) rfl (fun ls hl => ?_)
  refine lv_goto (tgt := 57) X.1 X.2.1 dX12_expand_151 (by decide) ?_
  exact hk57 (v6 + 1) S10 _ _ _ h hW  (lv_sub hl [1, 2, 3, 4, 0] rfl)
set_option maxRecDepth 100000 in
set_option maxHeartbeats 4000000 in
theorem w_X12_expand_167 {p : Program} {l : Launch} {e : Env} {s : State} {m : MethodId} {args : Array Value} {below : List Frame} {meth : Method} {c : Code} {G : xG} {sz : Nat} {o : Unit × Mm} (X : xC G true sz p s m args c cX12_expand 8 wsX12_expand RX12 meth none) (v4 : Int32) (s0 : Int32)  (k31 : Int32 → Int32 → Mm → Option (Unit × Mm)) (hk31 : ∀ (v3 : Int32) (v4 : Int32) (S : Mm) (H : Heap) (locs : List Loc) (ls : Array Slot), k31 v3 v4 S = some o → xW G true sz s H locs S → lv_has ls 8 [(0, .ref (G.2.2 200 0)), (3, .int v3), (4, .int v4)] → wX p l e rmX12_expand s m args below meth c H locs (xQv G true sz o) (XA G true sz) 31 ls []) {S : Mm} {H : Heap} {locs : List Loc} {ls : Array Slot} (hW : xW G true sz s H locs S) (hl : lv_has ls 8 [(0, .ref (G.2.2 200 0)), (4, .int v4)]) (h : L_X12_expand_167 k31 v4 s0 S = some o) : wX p l e rmX12_expand s m args below meth c H locs (xQv G true sz o) (XA G true sz) 167 ls [.int s0] := by
  unfold L_X12_expand_167 at h
  refine lv_istore_n (lv' := [(3, .int s0), (0, .ref (G.2.2 200 0)), (4, .int v4)]) X.1 X.2.1 dX12_expand_167 rfl hl (by decide) rfl (fun ls hl => ?_)
  refine lv_iinc (v := (v4 + 4)) (lv' := [(4, .int (v4 + 4)), (3, .int s0), (0, .ref (G.2.2 200 0))]) X.1 X.2.1 dX12_expand_168 hl (k := 2) rfl rfl (by decide) rfl (fun ls hl => ?_)
  refine lv_goto (tgt := 31) X.1 X.2.1 dX12_expand_171 (by decide) ?_
  exact hk31 s0 (v4 + 4) S _ _ _ h hW  (lv_sub hl [2, 1, 0] rfl)
set_option maxRecDepth 100000 in
set_option maxHeartbeats 4000000 in
theorem w_X12_expand_145 {p : Program} {l : Launch} {e : Env} {s : State} {m : MethodId} {args : Array Value} {below : List Frame} {meth : Method} {c : Code} {G : xG} {sz : Nat} {o : Unit × Mm} (X : xC G true sz p s m args c cX12_expand 8 wsX12_expand RX12 meth none) (v3 : Int32) (v4 : Int32) (v5 : Int32) (v6 : Int32) (s1 : Int32) (s2 : Int32)  (k31 : Int32 → Int32 → Mm → Option (Unit × Mm)) (hk31 : ∀ (v3 : Int32) (v4 : Int32) (S : Mm) (H : Heap) (locs : List Loc) (ls : Array Slot), k31 v3 v4 S = some o → xW G true sz s H locs S → lv_has ls 8 [(0, .ref (G.2.2 200 0)), (3, .int v3), (4, .int v4)] → wX p l e rmX12_expand s m args below meth c H locs (xQv G true sz o) (XA G true sz) 31 ls []) (k57 : Int32 → Mm → Option (Unit × Mm)) (hk57 : ∀ (v6 : Int32) (S : Mm) (H : Heap) (locs : List Loc) (ls : Array Slot), k57 v6 S = some o → xW G true sz s H locs S → lv_has ls 8 [(0, .ref (G.2.2 200 0)), (3, .int v3), (4, .int v4), (5, .int v5), (6, .int v6)] → wX p l e rmX12_expand s m args below meth c H locs (xQv G true sz o) (XA G true sz) 57 ls []) {S : Mm} {H : Heap} {locs : List Loc} {ls : Array Slot} (hW : xW G true sz s H locs S) (hl : lv_has ls 8 [(0, .ref (G.2.2 200 0)), (3, .int v3), (4, .int v4), (5, .int v5), (6, .int v6)]) (h : L_X12_expand_145 k31 k57 v3 v4 v5 v6 s1 s2 S = some o) : wX p l e rmX12_expand s m args below meth c H locs (xQv G true sz o) (XA G true sz) 145 ls [.int s2, .int s1, .ref (G.2.2 208 0)] := by
  unfold L_X12_expand_145 at h
  refine lv_iconst (v := 0) X.1 X.2.1 dX12_expand_145 rfl ?_
  exact w_X12_expand_146 X v3 v4 v5 v6 s1 s2 0  k31 hk31 k57 hk57 hW (lv_sub hl [0, 1, 2, 3, 4] rfl) h
set_option maxRecDepth 100000 in
set_option maxHeartbeats 4000000 in
theorem w_X12_expand_104 {p : Program} {l : Launch} {e : Env} {s : State} {m : MethodId} {args : Array Value} {below : List Frame} {meth : Method} {c : Code} {G : xG} {sz : Nat} {o : Unit × Mm} (X : xC G true sz p s m args c cX12_expand 8 wsX12_expand RX12 meth none) (v3 : Int32) (v4 : Int32) (v5 : Int32) (v6 : Int32) (s0 : Int32)  (k31 : Int32 → Int32 → Mm → Option (Unit × Mm)) (hk31 : ∀ (v3 : Int32) (v4 : Int32) (S : Mm) (H : Heap) (locs : List Loc) (ls : Array Slot), k31 v3 v4 S = some o → xW G true sz s H locs S → lv_has ls 8 [(0, .ref (G.2.2 200 0)), (3, .int v3), (4, .int v4)] → wX p l e rmX12_expand s m args below meth c H locs (xQv G true sz o) (XA G true sz) 31 ls []) (k57 : Int32 → Mm → Option (Unit × Mm)) (hk57 : ∀ (v6 : Int32) (S : Mm) (H : Heap) (locs : List Loc) (ls : Array Slot), k57 v6 S = some o → xW G true sz s H locs S → lv_has ls 8 [(0, .ref (G.2.2 200 0)), (3, .int v3), (4, .int v4), (5, .int v5), (6, .int v6)] → wX p l e rmX12_expand s m args below meth c H locs (xQv G true sz o) (XA G true sz) 57 ls []) {S : Mm} {H : Heap} {locs : List Loc} {ls : Array Slot} (hW : xW G true sz s H locs S) (hl : lv_has ls 8 [(0, .ref (G.2.2 200 0)), (3, .int v3), (4, .int v4), (5, .int v5), (6, .int v6)]) (h : L_X12_expand_104 k31 k57 v3 v4 v5 v6 s0 S = some o) : wX p l e rmX12_expand s m args below meth c H locs (xQv G true sz o) (XA G true sz) 104 ls [.int s0] := by
  unfold L_X12_expand_104 at h
  refine lv_istore (lv' := [(7, .int s0), (0, .ref (G.2.2 200 0)), (3, .int v3), (4, .int v4), (5, .int v5), (6, .int v6)]) X.1 X.2.1 dX12_expand_104 hl (by decide) rfl (fun ls hl => ?_)
  refine lv_aload_n X.1 X.2.1 dX12_expand_106 rfl (lv_at hl 1 rfl) ?_
  refine x_getR X hW fd_Model_schedule (fun w h => List.mem_cons_of_mem _ (gin_X12 w h)) (List.mem_cons_of_mem _ gw158) z_1 dX12_expand_107 ?_
  refine lv_iload X.1 X.2.1 dX12_expand_110 (lv_at hl 3 rfl) ?_
  refine lv_iload X.1 X.2.1 dX12_expand_112 (lv_at hl 5 rfl) ?_
  refine lv_iadd X.1 X.2.1 dX12_expand_114 ?_
  refine lv_aload_n X.1 X.2.1 dX12_expand_115 rfl (lv_at hl 1 rfl) ?_
  refine x_getR X hW fd_Model_schedule (fun w h => List.mem_cons_of_mem _ (gin_X12 w h)) (List.mem_cons_of_mem _ gw158) z_1 dX12_expand_116 ?_
  refine lv_iload X.1 X.2.1 dX12_expand_119 (lv_at hl 3 rfl) ?_
  refine lv_bipush (v := 16) X.1 X.2.1 dX12_expand_121 rfl ?_
  refine lv_isub X.1 X.2.1 dX12_expand_123 ?_
  refine lv_iload X.1 X.2.1 dX12_expand_124 (lv_at hl 5 rfl) ?_
  refine lv_iadd X.1 X.2.1 dX12_expand_126 ?_
  refine x_iald X hW ar_208 dX12_expand_127 h (fun x9 h => ?_)
  refine lv_iload X.1 X.2.1 dX12_expand_128 (lv_at hl 0 rfl) ?_
  refine lv_ixor X.1 X.2.1 dX12_expand_130 ?_
  refine lv_iload X.1 X.2.1 dX12_expand_131 (lv_at hl 4 rfl) ?_
  refine x_if_eq X (tgt := 145) dX12_expand_133 (by decide) h (fun h => ?_) (fun h => ?_)
  · exact w_X12_expand_145 X v3 v4 v5 v6 (v4 + v6) (x9 ^^^ s0)  k31 hk31 k57 hk57 hW (lv_sub hl [1, 2, 3, 4, 5] rfl) h
  · refine lv_iload X.1 X.2.1 dX12_expand_136 (lv_at hl 5 rfl) ?_
    refine x_if_ne X (tgt := 145) dX12_expand_138 (by decide) h (fun h => ?_) (fun h => ?_)
    · exact w_X12_expand_145 X v3 v4 v5 v6 (v4 + v6) (x9 ^^^ s0)  k31 hk31 k57 hk57 hW (lv_sub hl [1, 2, 3, 4, 5] rfl) h
    · refine lv_iload_n X.1 X.2.1 dX12_expand_141 rfl (lv_at hl 2 rfl) ?_
      refine lv_goto (tgt := 146) X.1 X.2.1 dX12_expand_142 (by decide) ?_
      exact w_X12_expand_146 X v3 v4 v5 v6 (v4 + v6) (x9 ^^^ s0) v3  k31 hk31 k57 hk57 hW (lv_sub hl [1, 2, 3, 4, 5] rfl) h
set_option maxRecDepth 100000 in
set_option maxHeartbeats 4000000 in
theorem w_X12_expand_57 {p : Program} {l : Launch} {e : Env} {s : State} {m : MethodId} {args : Array Value} {below : List Frame} {meth : Method} {c : Code} {G : xG} {sz : Nat} {o : Unit × Mm} (X : xC G true sz p s m args c cX12_expand 8 wsX12_expand RX12 meth none) (v3 : Int32) (v4 : Int32) (v5 : Int32)  (k31 : Int32 → Int32 → Mm → Option (Unit × Mm)) (hk31 : ∀ (v3 : Int32) (v4 : Int32) (S : Mm) (H : Heap) (locs : List Loc) (ls : Array Slot), k31 v3 v4 S = some o → xW G true sz s H locs S → lv_has ls 8 [(0, .ref (G.2.2 200 0)), (3, .int v3), (4, .int v4)] → wX p l e rmX12_expand s m args below meth c H locs (xQv G true sz o) (XA G true sz) 31 ls []) : ∀ (n : Nat) (v6 : Int32) (S : Mm) (H : Heap) (locs : List Loc) (ls : Array Slot), L_X12_expand_57 k31 v3 v4 v5 n v6 S = some o → xW G true sz s H locs S → lv_has ls 8 [(0, .ref (G.2.2 200 0)), (3, .int v3), (4, .int v4), (5, .int v5), (6, .int v6)] → wX p l e rmX12_expand s m args below meth c H locs (xQv G true sz o) (XA G true sz) 57 ls [] := by
  intro n
  induction n with
  | zero =>
    intro v6 S H locs ls h
    cases h
  | succ n ih =>
    intro v6 S H locs ls h hW  hl
    rw [L_X12_expand_57] at h
    refine lv_iload X.1 X.2.1 dX12_expand_57 (lv_at hl 4 rfl) ?_
    refine lv_iconst (v := 4) X.1 X.2.1 dX12_expand_59 rfl ?_
    refine x_icmp_ge X (tgt := 154) dX12_expand_60 (by decide) h (fun h => ?_) (fun h => ?_)
    · refine lv_iload X.1 X.2.1 dX12_expand_154 (lv_at hl 3 rfl) ?_
      refine x_if_eq X (tgt := 166) dX12_expand_156 (by decide) h (fun h => ?_) (fun h => ?_)
      · refine lv_iload_n X.1 X.2.1 dX12_expand_166 rfl (lv_at hl 1 rfl) ?_
        exact w_X12_expand_167 X v4 v3  k31 hk31 hW (lv_sub hl [0, 2] rfl) h
      · refine lv_iload_n X.1 X.2.1 dX12_expand_159 rfl (lv_at hl 1 rfl) ?_
        obtain ⟨r3, S4, h5, h⟩ := cl_some h
        refine x_aftI X hW (x_runS (As := [.int v3]) (rest := []) X hW (c_X12_twice l G X.2.2.2.2.2.2.2.2.2.1 _ S v3 _ h5) (va_cwS 1 X.2.2.2.2.1 (gS gw250 gw251 gw5 gw252) rfl rfl rfl hd_X12_twice ⟨Nat.le_of_ble_eq_true rfl, Nat.le_of_ble_eq_true rfl⟩) rfl hl.1 rfl (Nat.le_of_ble_eq_true rfl) dX12_expand_160 ⟨Nat.zero_le _, Nat.zero_le _⟩) (fun H locs hW => ?_)
        refine lv_goto (tgt := 167) X.1 X.2.1 dX12_expand_163 (by decide) ?_
        exact w_X12_expand_167 X v4 r3  k31 hk31 hW (lv_sub hl [0, 2] rfl) h
    · refine lv_iload X.1 X.2.1 dX12_expand_63 (lv_at hl 3 rfl) ?_
      refine x_if_eq X (tgt := 92) dX12_expand_65 (by decide) h (fun h => ?_) (fun h => ?_)
      · refine lv_aload_n X.1 X.2.1 dX12_expand_92 rfl (lv_at hl 0 rfl) ?_
        refine x_getR X hW fd_Model_schedule (fun w h => List.mem_cons_of_mem _ (gin_X12 w h)) (List.mem_cons_of_mem _ gw158) z_1 dX12_expand_93 ?_
        refine lv_iload X.1 X.2.1 dX12_expand_96 (lv_at hl 2 rfl) ?_
        refine lv_iconst (v := 4) X.1 X.2.1 dX12_expand_98 rfl ?_
        refine lv_isub X.1 X.2.1 dX12_expand_99 ?_
        refine lv_iload X.1 X.2.1 dX12_expand_100 (lv_at hl 4 rfl) ?_
        refine lv_iadd X.1 X.2.1 dX12_expand_102 ?_
        refine x_iald X hW ar_208 dX12_expand_103 h (fun x6 h => ?_)
        exact w_X12_expand_104 X v3 v4 v5 v6 x6  k31 hk31 (L_X12_expand_57 k31 v3 v4 v5 n) ih hW (lv_sub hl [0, 1, 2, 3, 4] rfl) h
      · refine lv_aload_n X.1 X.2.1 dX12_expand_68 rfl (lv_at hl 0 rfl) ?_
        refine x_getR X hW fd_Model_box (fun w h => List.mem_cons_of_mem _ (gin_X12 w h)) (List.mem_cons_of_mem _ gw157) z_1 dX12_expand_69 ?_
        refine lv_aload_n X.1 X.2.1 dX12_expand_72 rfl (lv_at hl 0 rfl) ?_
        refine x_getR X hW fd_Model_schedule (fun w h => List.mem_cons_of_mem _ (gin_X12 w h)) (List.mem_cons_of_mem _ gw158) z_1 dX12_expand_73 ?_
        refine lv_iload X.1 X.2.1 dX12_expand_76 (lv_at hl 2 rfl) ?_
        refine lv_iconst (v := 4) X.1 X.2.1 dX12_expand_78 rfl ?_
        refine lv_isub X.1 X.2.1 dX12_expand_79 ?_
        refine lv_iload X.1 X.2.1 dX12_expand_80 (lv_at hl 4 rfl) ?_
        refine lv_iconst (v := 1) X.1 X.2.1 dX12_expand_82 rfl ?_
        refine lv_iadd X.1 X.2.1 dX12_expand_83 ?_
        refine lv_iconst (v := 4) X.1 X.2.1 dX12_expand_84 rfl ?_
        refine lv_irem X.1 X.2.1 dX12_expand_85 (by decide) ?_
        refine lv_iadd X.1 X.2.1 dX12_expand_86 ?_
        refine x_iald X hW ar_208 dX12_expand_87 h (fun x7 h => ?_)
        refine x_iald X hW ar_207 dX12_expand_88 h (fun x8 h => ?_)
        refine lv_goto (tgt := 104) X.1 X.2.1 dX12_expand_89 (by decide) ?_
        exact w_X12_expand_104 X v3 v4 v5 v6 x8  k31 hk31 (L_X12_expand_57 k31 v3 v4 v5 n) ih hW (lv_sub hl [0, 1, 2, 3, 4] rfl) h
set_option maxRecDepth 100000 in
set_option maxHeartbeats 4000000 in
theorem w_X12_expand_52 {p : Program} {l : Launch} {e : Env} {s : State} {m : MethodId} {args : Array Value} {below : List Frame} {meth : Method} {c : Code} {G : xG} {sz : Nat} {o : Unit × Mm} (X : xC G true sz p s m args c cX12_expand 8 wsX12_expand RX12 meth none) (v3 : Int32) (v4 : Int32) (s0 : Int32)  (k31 : Int32 → Int32 → Mm → Option (Unit × Mm)) (hk31 : ∀ (v3 : Int32) (v4 : Int32) (S : Mm) (H : Heap) (locs : List Loc) (ls : Array Slot), k31 v3 v4 S = some o → xW G true sz s H locs S → lv_has ls 8 [(0, .ref (G.2.2 200 0)), (3, .int v3), (4, .int v4)] → wX p l e rmX12_expand s m args below meth c H locs (xQv G true sz o) (XA G true sz) 31 ls []) {S : Mm} {H : Heap} {locs : List Loc} {ls : Array Slot} (hW : xW G true sz s H locs S) (hl : lv_has ls 8 [(0, .ref (G.2.2 200 0)), (3, .int v3), (4, .int v4)]) (h : L_X12_expand_52 k31 v3 v4 s0 S = some o) : wX p l e rmX12_expand s m args below meth c H locs (xQv G true sz o) (XA G true sz) 52 ls [.int s0] := by
  unfold L_X12_expand_52 at h
  refine lv_istore (lv' := [(5, .int s0), (0, .ref (G.2.2 200 0)), (3, .int v3), (4, .int v4)]) X.1 X.2.1 dX12_expand_52 hl (by decide) rfl (fun ls hl => ?_)
  refine lv_iconst (v := 0) X.1 X.2.1 dX12_expand_54 rfl ?_
  refine lv_istore (lv' := [(6, .int 0), (5, .int s0), (0, .ref (G.2.2 200 0)), (3, .int v3), (4, .int v4)]) X.1 X.2.1 dX12_expand_55 hl (by decide) rfl (fun ls hl => ?_)
  exact w_X12_expand_57 X v3 v4 s0  k31 hk31 fu 0 S _ _ _ h hW  (lv_sub hl [2, 3, 4, 1, 0] rfl)
set_option maxRecDepth 100000 in
set_option maxHeartbeats 4000000 in
theorem w_X12_expand_31 {p : Program} {l : Launch} {e : Env} {s : State} {m : MethodId} {args : Array Value} {below : List Frame} {meth : Method} {c : Code} {G : xG} {sz : Nat} {o : Unit × Mm} (X : xC G true sz p s m args c cX12_expand 8 wsX12_expand RX12 meth none)    : ∀ (n : Nat) (v3 : Int32) (v4 : Int32) (S : Mm) (H : Heap) (locs : List Loc) (ls : Array Slot), L_X12_expand_31  n v3 v4 S = some o → xW G true sz s H locs S → lv_has ls 8 [(0, .ref (G.2.2 200 0)), (3, .int v3), (4, .int v4)] → wX p l e rmX12_expand s m args below meth c H locs (xQv G true sz o) (XA G true sz) 31 ls [] := by
  intro n
  induction n with
  | zero =>
    intro v3 v4 S H locs ls h
    cases h
  | succ n ih =>
    intro v3 v4 S H locs ls h hW  hl
    rw [L_X12_expand_31] at h
    refine lv_iload X.1 X.2.1 dX12_expand_31 (lv_at hl 2 rfl) ?_
    refine lv_sipush (v := 176) X.1 X.2.1 dX12_expand_33 rfl ?_
    refine x_icmp_ge X (tgt := 174) dX12_expand_36 (by decide) h (fun h => ?_) (fun h => ?_)
    · exact x_vret X hW h dX12_expand_174
    · refine lv_iload X.1 X.2.1 dX12_expand_39 (lv_at hl 2 rfl) ?_
      refine lv_bipush (v := 16) X.1 X.2.1 dX12_expand_41 rfl ?_
      refine lv_irem X.1 X.2.1 dX12_expand_43 (by decide) ?_
      refine x_if_ne X (tgt := 51) dX12_expand_44 (by decide) h (fun h => ?_) (fun h => ?_)
      · refine lv_iconst (v := 0) X.1 X.2.1 dX12_expand_51 rfl ?_
        exact w_X12_expand_52 X v3 v4 0  (L_X12_expand_31  n) ih hW (lv_sub hl [0, 1, 2] rfl) h
      · refine lv_iconst (v := 1) X.1 X.2.1 dX12_expand_47 rfl ?_
        refine lv_goto (tgt := 52) X.1 X.2.1 dX12_expand_48 (by decide) ?_
        exact w_X12_expand_52 X v3 v4 1  (L_X12_expand_31  n) ih hW (lv_sub hl [0, 1, 2] rfl) h
set_option maxRecDepth 100000 in
set_option maxHeartbeats 4000000 in
theorem w_X12_expand_2 {p : Program} {l : Launch} {e : Env} {s : State} {m : MethodId} {args : Array Value} {below : List Frame} {meth : Method} {c : Code} {G : xG} {sz : Nat} {o : Unit × Mm} (X : xC G true sz p s m args c cX12_expand 8 wsX12_expand RX12 meth none) (cv1 : Nat) (v1 : Nat) (v2 : Int32)   : ∀ (n : Nat) (v3 : Int32) (S : Mm) (H : Heap) (locs : List Loc) (ls : Array Slot), L_X12_expand_2 cv1 v1 v2 n v3 S = some o → xW G true sz s H locs S → lv_has ls 8 [(0, .ref (G.2.2 200 0)), (1, .ref (G.2.2 cv1 v1)), (2, .int v2), (3, .int v3)] → wX p l e rmX12_expand s m args below meth c H locs (xQv G true sz o) (XA G true sz) 2 ls [] := by
  intro n
  induction n with
  | zero =>
    intro v3 S H locs ls h
    cases h
  | succ n ih =>
    intro v3 S H locs ls h hW  hl
    rw [L_X12_expand_2] at h
    refine lv_iload_n X.1 X.2.1 dX12_expand_2 rfl (lv_at hl 3 rfl) ?_
    refine lv_bipush (v := 16) X.1 X.2.1 dX12_expand_3 rfl ?_
    refine x_icmp_ge X (tgt := 25) dX12_expand_5 (by decide) h (fun h => ?_) (fun h => ?_)
    · refine lv_iconst (v := 1) X.1 X.2.1 dX12_expand_25 rfl ?_
      refine lv_istore_n (lv' := [(3, .int 1), (0, .ref (G.2.2 200 0)), (1, .ref (G.2.2 cv1 v1)), (2, .int v2)]) X.1 X.2.1 dX12_expand_26 rfl hl (by decide) rfl (fun ls hl => ?_)
      refine lv_bipush (v := 16) X.1 X.2.1 dX12_expand_27 rfl ?_
      refine lv_istore (lv' := [(4, .int 16), (3, .int 1), (0, .ref (G.2.2 200 0)), (1, .ref (G.2.2 cv1 v1)), (2, .int v2)]) X.1 X.2.1 dX12_expand_29 hl (by decide) rfl (fun ls hl => ?_)
      exact w_X12_expand_31 X    fu 1 16 S _ _ _ h hW  (lv_sub hl [2, 1, 0] rfl)
    · refine lv_aload_n X.1 X.2.1 dX12_expand_8 rfl (lv_at hl 0 rfl) ?_
      refine x_getR X hW fd_Model_schedule (fun w h => List.mem_cons_of_mem _ (gin_X12 w h)) (List.mem_cons_of_mem _ gw158) z_1 dX12_expand_9 ?_
      refine lv_iload_n X.1 X.2.1 dX12_expand_12 rfl (lv_at hl 3 rfl) ?_
      refine lv_aload_n X.1 X.2.1 dX12_expand_13 rfl (lv_at hl 1 rfl) ?_
      refine lv_iload_n X.1 X.2.1 dX12_expand_14 rfl (lv_at hl 2 rfl) ?_
      refine lv_iload_n X.1 X.2.1 dX12_expand_15 rfl (lv_at hl 3 rfl) ?_
      refine lv_iadd X.1 X.2.1 dX12_expand_16 ?_
      refine x_ialdP X hW dX12_expand_17 h (fun x1 h => ?_)
      refine x_iast X hW ar_208 dX12_expand_18 h (fun S2 H locs h hW => ?_)
      refine lv_iinc (v := (v3 + 1)) (lv' := [(3, .int (v3 + 1)), (0, .ref (G.2.2 200 0)), (1, .ref (G.2.2 cv1 v1)), (2, .int v2)]) X.1 X.2.1 dX12_expand_19 hl (k := 3) rfl rfl (by decide) rfl (fun ls hl => ?_)
      refine lv_goto (tgt := 2) X.1 X.2.1 dX12_expand_22 (by decide) ?_
      exact ih (v3 + 1) S2 _ _ _ h hW  (lv_sub hl [1, 2, 3, 0] rfl)
set_option maxRecDepth 100000 in
set_option maxHeartbeats 4000000 in
theorem w_X12_expand_0 {p : Program} {l : Launch} {e : Env} {s : State} {m : MethodId} {args : Array Value} {below : List Frame} {meth : Method} {c : Code} {G : xG} {sz : Nat} {o : Unit × Mm} (X : xC G true sz p s m args c cX12_expand 8 wsX12_expand RX12 meth none) (cv1 : Nat) (v1 : Nat) (v2 : Int32) {S : Mm} {H : Heap} {locs : List Loc} {ls : Array Slot} (hW : xW G true sz s H locs S) (hl : lv_has ls 8 [(0, .ref (G.2.2 200 0)), (1, .ref (G.2.2 cv1 v1)), (2, .int v2)]) (h : F_X12_expand cv1 v1 v2 S = some o) : wX p l e rmX12_expand s m args below meth c H locs (xQv G true sz o) (XA G true sz) 0 ls [] := by
  unfold F_X12_expand at h
  refine lv_iconst (v := 0) X.1 X.2.1 dX12_expand_0 rfl ?_
  refine lv_istore_n (lv' := [(3, .int 0), (0, .ref (G.2.2 200 0)), (1, .ref (G.2.2 cv1 v1)), (2, .int v2)]) X.1 X.2.1 dX12_expand_1 rfl hl (by decide) rfl (fun ls hl => ?_)
  exact w_X12_expand_2 X cv1 v1 v2   fu 0 S _ _ _ h hW  (lv_sub hl [1, 2, 3, 0] rfl)
theorem c_X12_expand (l : Launch) (G : xG) (hD : xD G true) (sz : Nat) (S : Mm) (cv1 : Nat) (v1 : Nat) (v2 : Int32) (o : Unit × Mm) (h : F_X12_expand cv1 v1 v2 S = some o) : Met l yX12_expand wsX12_expand rmX12_expand (xPre G true S sz [.ref (G.2.2 200 0), .ref (G.2.2 cv1 v1), .int v2]) (xQv G true sz o) 0 0 (XA G true sz) :=
  x_start hD (by decide) rfl (Nat.le_of_ble_eq_true rfl) (fun p e s m below meth c X hW ls hl => w_X12_expand_0 X cv1 v1 v2 hW hl h)

/-! WirelessCellModel.encipher()V -/
def rmX12_encipher : Room := { frames := 1, cells := 0, slots := 0, locals := 21 }
def L_X12_encipher_182 (k35 : Int32 → Mm → Option (Unit × Mm)) (k83 : Int32 → Mm → Option (Unit × Mm)) (k91 : Int32 → Mm → Option (Unit × Mm)) (v1 : Int32) (v2 : Int32) (v3 : Int32) (s1 : Int32) (s2 : Int32) (S : Mm) : Option (Unit × Mm) :=
  ldA S 208 0 176 1 (((16 * v1) + v2) + v3) fun x18 =>
  stA S 209 0 16 1 s1 (s2 ^^^ x18) fun S19 =>
  k91 (v3 + 1) S19
def L_X12_encipher_91 (k35 : Int32 → Mm → Option (Unit × Mm)) (k83 : Int32 → Mm → Option (Unit × Mm)) (v1 : Int32) (v2 : Int32) : Nat → Int32 → Mm → Option (Unit × Mm)
  | 0, _, _ => none
  | n + 1, v3, S => 
    if 4 ≤ v3 then (
    k83 (v2 + 4) S)
    else (
    ldA S 210 0 16 1 (v2 + v3) fun x7 =>
    ldA S 210 0 16 1 (v2 + ((v3 + 1) - (v3 + 1) / 4 * 4)) fun x8 =>
    ldA S 210 0 16 1 (v2 + ((v3 + 2) - (v3 + 2) / 4 * 4)) fun x9 =>
    ldA S 210 0 16 1 (v2 + ((v3 + 3) - (v3 + 3) / 4 * 4)) fun x10 =>
    tp (x9 ^^^ x10) fun x11 =>
    if v1 = 10 then (
    L_X12_encipher_182 k35 k83 (L_X12_encipher_91 k35 k83 v1 v2 n) v1 v2 v3 (v2 + v3) x7 S)
    else (
    cl (F_X12_twice x7 S) fun r12 S13 =>
    cl (F_X12_twice x8 S13) fun r15 S16 =>
    L_X12_encipher_182 k35 k83 (L_X12_encipher_91 k35 k83 v1 v2 n) v1 v2 v3 (v2 + v3) (((r12 ^^^ r15) ^^^ x8) ^^^ x11) S16))
def L_X12_encipher_83 (k35 : Int32 → Mm → Option (Unit × Mm)) (v1 : Int32) : Nat → Int32 → Mm → Option (Unit × Mm)
  | 0, _, _ => none
  | n + 1, v2, S => 
    if 16 ≤ v2 then (
    k35 (v1 + 1) S)
    else (
    L_X12_encipher_91 k35 (L_X12_encipher_83 k35 v1 n) v1 v2 fu 0 S)
def L_X12_encipher_43 (k35 : Int32 → Mm → Option (Unit × Mm)) (v1 : Int32) : Nat → Int32 → Mm → Option (Unit × Mm)
  | 0, _, _ => none
  | n + 1, v2, S => 
    if 16 ≤ v2 then (
    L_X12_encipher_83 k35 v1 fu 0 S)
    else (
    ldA S 209 0 16 1 ((v2 + (4 * (v2 - v2 / 4 * 4))) - (v2 + (4 * (v2 - v2 / 4 * 4))) / 16 * 16) fun x4 =>
    ldA S 207 0 256 1 x4 fun x5 =>
    stA S 210 0 16 1 v2 x5 fun S6 =>
    (L_X12_encipher_43 k35 v1 n) (v2 + 1) S6)
def L_X12_encipher_35   : Nat → Int32 → Mm → Option (Unit × Mm)
  | 0, _, _ => none
  | n + 1, v1, S => 
    if 10 < v1 then (
    some ((), S))
    else (
    L_X12_encipher_43 (L_X12_encipher_35  n) v1 fu 0 S)
def L_X12_encipher_2   : Nat → Int32 → Mm → Option (Unit × Mm)
  | 0, _, _ => none
  | n + 1, v1, S => 
    if 16 ≤ v1 then (
    L_X12_encipher_35   fu 1 S)
    else (
    ldA S 209 0 16 1 v1 fun x1 =>
    ldA S 208 0 176 1 v1 fun x2 =>
    stA S 209 0 16 1 v1 (x1 ^^^ x2) fun S3 =>
    (L_X12_encipher_2  n) (v1 + 1) S3)
def F_X12_encipher  (S : Mm) : Option (Unit × Mm) :=
  L_X12_encipher_2   fu 0 S
set_option maxRecDepth 100000 in
set_option maxHeartbeats 4000000 in
theorem w_X12_encipher_182 {p : Program} {l : Launch} {e : Env} {s : State} {m : MethodId} {args : Array Value} {below : List Frame} {meth : Method} {c : Code} {G : xG} {sz : Nat} {o : Unit × Mm} (X : xC G true sz p s m args c cX12_encipher 7 wsX12_encipher RX12 meth none) (v1 : Int32) (v2 : Int32) (v3 : Int32) (s1 : Int32) (s2 : Int32)  (k35 : Int32 → Mm → Option (Unit × Mm)) (hk35 : ∀ (v1 : Int32) (S : Mm) (H : Heap) (locs : List Loc) (ls : Array Slot), k35 v1 S = some o → xW G true sz s H locs S → lv_has ls 7 [(0, .ref (G.2.2 200 0)), (1, .int v1)] → wX p l e rmX12_encipher s m args below meth c H locs (xQv G true sz o) (XA G true sz) 35 ls []) (k83 : Int32 → Mm → Option (Unit × Mm)) (hk83 : ∀ (v2 : Int32) (S : Mm) (H : Heap) (locs : List Loc) (ls : Array Slot), k83 v2 S = some o → xW G true sz s H locs S → lv_has ls 7 [(0, .ref (G.2.2 200 0)), (1, .int v1), (2, .int v2)] → wX p l e rmX12_encipher s m args below meth c H locs (xQv G true sz o) (XA G true sz) 83 ls []) (k91 : Int32 → Mm → Option (Unit × Mm)) (hk91 : ∀ (v3 : Int32) (S : Mm) (H : Heap) (locs : List Loc) (ls : Array Slot), k91 v3 S = some o → xW G true sz s H locs S → lv_has ls 7 [(0, .ref (G.2.2 200 0)), (1, .int v1), (2, .int v2), (3, .int v3)] → wX p l e rmX12_encipher s m args below meth c H locs (xQv G true sz o) (XA G true sz) 91 ls []) {S : Mm} {H : Heap} {locs : List Loc} {ls : Array Slot} (hW : xW G true sz s H locs S) (hl : lv_has ls 7 [(0, .ref (G.2.2 200 0)), (1, .int v1), (2, .int v2), (3, .int v3)]) (h : L_X12_encipher_182 k35 k83 k91 v1 v2 v3 s1 s2 S = some o) : wX p l e rmX12_encipher s m args below meth c H locs (xQv G true sz o) (XA G true sz) 182 ls [.int s2, .int s1, .ref (G.2.2 209 0)] := by
  unfold L_X12_encipher_182 at h
  refine lv_aload_n X.1 X.2.1 dX12_encipher_182 rfl (lv_at hl 0 rfl) ?_
  refine x_getR X hW fd_Model_schedule (fun w h => List.mem_cons_of_mem _ (gin_X12 w h)) (List.mem_cons_of_mem _ gw158) z_1 dX12_encipher_183 ?_
  refine lv_bipush (v := 16) X.1 X.2.1 dX12_encipher_186 rfl ?_
  refine lv_iload_n X.1 X.2.1 dX12_encipher_188 rfl (lv_at hl 1 rfl) ?_
  refine lv_imul X.1 X.2.1 dX12_encipher_189 ?_
  refine lv_iload_n X.1 X.2.1 dX12_encipher_190 rfl (lv_at hl 2 rfl) ?_
  refine lv_iadd X.1 X.2.1 dX12_encipher_191 ?_
  refine lv_iload_n X.1 X.2.1 dX12_encipher_192 rfl (lv_at hl 3 rfl) ?_
  refine lv_iadd X.1 X.2.1 dX12_encipher_193 ?_
  refine x_iald X hW ar_208 dX12_encipher_194 h (fun x18 h => ?_)
  refine lv_ixor X.1 X.2.1 dX12_encipher_195 ?_
  refine x_iast X hW ar_209 dX12_encipher_196 h (fun S19 H locs h hW => ?_)
  refine lv_iinc (v := (v3 + 1)) (lv' := [(3, .int (v3 + 1)), (0, .ref (G.2.2 200 0)), (1, .int v1), (2, .int v2)]) X.1 X.2.1 dX12_encipher_197 hl (k := 3) rfl rfl (by decide) rfl (fun ls hl => ?_)
  refine lv_goto (tgt := 91) X.1 X.2.1 dX12_encipher_200 (by decide) ?_
  exact hk91 (v3 + 1) S19 _ _ _ h hW  (lv_sub hl [1, 2, 3, 0] rfl)
set_option maxRecDepth 100000 in
set_option maxHeartbeats 4000000 in
theorem w_X12_encipher_91 {p : Program} {l : Launch} {e : Env} {s : State} {m : MethodId} {args : Array Value} {below : List Frame} {meth : Method} {c : Code} {G : xG} {sz : Nat} {o : Unit × Mm} (X : xC G true sz p s m args c cX12_encipher 7 wsX12_encipher RX12 meth none) (v1 : Int32) (v2 : Int32)  (k35 : Int32 → Mm → Option (Unit × Mm)) (hk35 : ∀ (v1 : Int32) (S : Mm) (H : Heap) (locs : List Loc) (ls : Array Slot), k35 v1 S = some o → xW G true sz s H locs S → lv_has ls 7 [(0, .ref (G.2.2 200 0)), (1, .int v1)] → wX p l e rmX12_encipher s m args below meth c H locs (xQv G true sz o) (XA G true sz) 35 ls []) (k83 : Int32 → Mm → Option (Unit × Mm)) (hk83 : ∀ (v2 : Int32) (S : Mm) (H : Heap) (locs : List Loc) (ls : Array Slot), k83 v2 S = some o → xW G true sz s H locs S → lv_has ls 7 [(0, .ref (G.2.2 200 0)), (1, .int v1), (2, .int v2)] → wX p l e rmX12_encipher s m args below meth c H locs (xQv G true sz o) (XA G true sz) 83 ls []) : ∀ (n : Nat) (v3 : Int32) (S : Mm) (H : Heap) (locs : List Loc) (ls : Array Slot), L_X12_encipher_91 k35 k83 v1 v2 n v3 S = some o → xW G true sz s H locs S → lv_has ls 7 [(0, .ref (G.2.2 200 0)), (1, .int v1), (2, .int v2), (3, .int v3)] → wX p l e rmX12_encipher s m args below meth c H locs (xQv G true sz o) (XA G true sz) 91 ls [] := by
  intro n
  induction n with
  | zero =>
    intro v3 S H locs ls h
    cases h
  | succ n ih =>
    intro v3 S H locs ls h hW  hl
    rw [L_X12_encipher_91] at h
    refine lv_iload_n X.1 X.2.1 dX12_encipher_91 rfl (lv_at hl 3 rfl) ?_
    refine lv_iconst (v := 4) X.1 X.2.1 dX12_encipher_92 rfl ?_
    refine x_icmp_ge X (tgt := 203) dX12_encipher_93 (by decide) h (fun h => ?_) (fun h => ?_)
    · refine lv_iinc (v := (v2 + 4)) (lv' := [(2, .int (v2 + 4)), (0, .ref (G.2.2 200 0)), (1, .int v1), (3, .int v3)]) X.1 X.2.1 dX12_encipher_203 hl (k := 2) rfl rfl (by decide) rfl (fun ls hl => ?_)
      refine lv_goto (tgt := 83) X.1 X.2.1 dX12_encipher_206 (by decide) ?_
      exact hk83 (v2 + 4) S _ _ _ h hW  (lv_sub hl [1, 2, 0] rfl)
    · refine lv_aload_n X.1 X.2.1 dX12_encipher_96 rfl (lv_at hl 0 rfl) ?_
      refine x_getR X hW fd_Model_moved (fun w h => List.mem_cons_of_mem _ (gin_X12 w h)) (List.mem_cons_of_mem _ gw160) z_1 dX12_encipher_97 ?_
      refine lv_iload_n X.1 X.2.1 dX12_encipher_100 rfl (lv_at hl 2 rfl) ?_
      refine lv_iload_n X.1 X.2.1 dX12_encipher_101 rfl (lv_at hl 3 rfl) ?_
      refine lv_iadd X.1 X.2.1 dX12_encipher_102 ?_
      refine x_iald X hW ar_210 dX12_encipher_103 h (fun x7 h => ?_)
      refine lv_istore (lv' := [(4, .int x7), (0, .ref (G.2.2 200 0)), (1, .int v1), (2, .int v2), (3, .int v3)]) X.1 X.2.1 dX12_encipher_104 hl (by decide) rfl (fun ls hl => ?_)
      refine lv_aload_n X.1 X.2.1 dX12_encipher_106 rfl (lv_at hl 1 rfl) ?_
      refine x_getR X hW fd_Model_moved (fun w h => List.mem_cons_of_mem _ (gin_X12 w h)) (List.mem_cons_of_mem _ gw160) z_1 dX12_encipher_107 ?_
      refine lv_iload_n X.1 X.2.1 dX12_encipher_110 rfl (lv_at hl 3 rfl) ?_
      refine lv_iload_n X.1 X.2.1 dX12_encipher_111 rfl (lv_at hl 4 rfl) ?_
      refine lv_iconst (v := 1) X.1 X.2.1 dX12_encipher_112 rfl ?_
      refine lv_iadd X.1 X.2.1 dX12_encipher_113 ?_
      refine lv_iconst (v := 4) X.1 X.2.1 dX12_encipher_114 rfl ?_
      refine lv_irem X.1 X.2.1 dX12_encipher_115 (by decide) ?_
      refine lv_iadd X.1 X.2.1 dX12_encipher_116 ?_
      refine x_iald X hW ar_210 dX12_encipher_117 h (fun x8 h => ?_)
      refine lv_istore (lv' := [(5, .int x8), (4, .int x7), (0, .ref (G.2.2 200 0)), (1, .int v1), (2, .int v2), (3, .int v3)]) X.1 X.2.1 dX12_encipher_118 hl (by decide) rfl (fun ls hl => ?_)
      refine lv_aload_n X.1 X.2.1 dX12_encipher_120 rfl (lv_at hl 2 rfl) ?_
      refine x_getR X hW fd_Model_moved (fun w h => List.mem_cons_of_mem _ (gin_X12 w h)) (List.mem_cons_of_mem _ gw160) z_1 dX12_encipher_121 ?_
      refine lv_iload_n X.1 X.2.1 dX12_encipher_124 rfl (lv_at hl 4 rfl) ?_
      refine lv_iload_n X.1 X.2.1 dX12_encipher_125 rfl (lv_at hl 5 rfl) ?_
      refine lv_iconst (v := 2) X.1 X.2.1 dX12_encipher_126 rfl ?_
      refine lv_iadd X.1 X.2.1 dX12_encipher_127 ?_
      refine lv_iconst (v := 4) X.1 X.2.1 dX12_encipher_128 rfl ?_
      refine lv_irem X.1 X.2.1 dX12_encipher_129 (by decide) ?_
      refine lv_iadd X.1 X.2.1 dX12_encipher_130 ?_
      refine x_iald X hW ar_210 dX12_encipher_131 h (fun x9 h => ?_)
      refine lv_aload_n X.1 X.2.1 dX12_encipher_132 rfl (lv_at hl 2 rfl) ?_
      refine x_getR X hW fd_Model_moved (fun w h => List.mem_cons_of_mem _ (gin_X12 w h)) (List.mem_cons_of_mem _ gw160) z_1 dX12_encipher_133 ?_
      refine lv_iload_n X.1 X.2.1 dX12_encipher_136 rfl (lv_at hl 4 rfl) ?_
      refine lv_iload_n X.1 X.2.1 dX12_encipher_137 rfl (lv_at hl 5 rfl) ?_
      refine lv_iconst (v := 3) X.1 X.2.1 dX12_encipher_138 rfl ?_
      refine lv_iadd X.1 X.2.1 dX12_encipher_139 ?_
      refine lv_iconst (v := 4) X.1 X.2.1 dX12_encipher_140 rfl ?_
      refine lv_irem X.1 X.2.1 dX12_encipher_141 (by decide) ?_
      refine lv_iadd X.1 X.2.1 dX12_encipher_142 ?_
      refine x_iald X hW ar_210 dX12_encipher_143 h (fun x10 h => ?_)
      refine lv_ixor X.1 X.2.1 dX12_encipher_144 ?_
      refine x_top h (fun x11 h => ?_)
      refine lv_istore (lv' := [(6, .int x11), (5, .int x8), (4, .int x7), (0, .ref (G.2.2 200 0)), (1, .int v1), (2, .int v2), (3, .int v3)]) X.1 X.2.1 dX12_encipher_145 hl (by decide) rfl (fun ls hl => ?_)
      refine lv_aload_n X.1 X.2.1 dX12_encipher_147 rfl (lv_at hl 3 rfl) ?_
      refine x_getR X hW fd_Model_cells (fun w h => List.mem_cons_of_mem _ (gin_X12 w h)) (List.mem_cons_of_mem _ gw159) z_1 dX12_encipher_148 ?_
      refine lv_iload_n X.1 X.2.1 dX12_encipher_151 rfl (lv_at hl 5 rfl) ?_
      refine lv_iload_n X.1 X.2.1 dX12_encipher_152 rfl (lv_at hl 6 rfl) ?_
      refine lv_iadd X.1 X.2.1 dX12_encipher_153 ?_
      refine lv_iload_n X.1 X.2.1 dX12_encipher_154 rfl (lv_at hl 4 rfl) ?_
      refine lv_bipush (v := 10) X.1 X.2.1 dX12_encipher_155 rfl ?_
      refine x_icmp_ne X (tgt := 165) dX12_encipher_157 (by decide) h (fun h => ?_) (fun h => ?_)
      · refine lv_iload X.1 X.2.1 dX12_encipher_165 (lv_at hl 2 rfl) ?_
        obtain ⟨r12, S13, h14, h⟩ := cl_some h
        refine x_aftI X hW (x_runS (As := [.int x7]) (rest := [.int (v2 + v3), .ref (G.2.2 209 0)]) X hW (c_X12_twice l G X.2.2.2.2.2.2.2.2.2.1 _ S x7 _ h14) (va_cwS 1 X.2.2.2.2.1 (gS gw250 gw251 gw5 gw252) rfl rfl rfl hd_X12_twice ⟨Nat.le_of_ble_eq_true rfl, Nat.le_of_ble_eq_true rfl⟩) rfl hl.1 rfl (Nat.le_of_ble_eq_true rfl) dX12_encipher_167 ⟨Nat.zero_le _, Nat.zero_le _⟩) (fun H locs hW => ?_)
        refine lv_iload X.1 X.2.1 dX12_encipher_170 (lv_at hl 1 rfl) ?_
        obtain ⟨r15, S16, h17, h⟩ := cl_some h
        refine x_aftI X hW (x_runS (As := [.int x8]) (rest := [.int r12, .int (v2 + v3), .ref (G.2.2 209 0)]) X hW (c_X12_twice l G X.2.2.2.2.2.2.2.2.2.1 _ S13 x8 _ h17) (va_cwS 1 X.2.2.2.2.1 (gS gw250 gw251 gw5 gw252) rfl rfl rfl hd_X12_twice ⟨Nat.le_of_ble_eq_true rfl, Nat.le_of_ble_eq_true rfl⟩) rfl hl.1 rfl (Nat.le_of_ble_eq_true rfl) dX12_encipher_172 ⟨Nat.zero_le _, Nat.zero_le _⟩) (fun H locs hW => ?_)
        refine lv_ixor X.1 X.2.1 dX12_encipher_175 ?_
        refine lv_iload X.1 X.2.1 dX12_encipher_176 (lv_at hl 1 rfl) ?_
        refine lv_ixor X.1 X.2.1 dX12_encipher_178 ?_
        refine lv_iload X.1 X.2.1 dX12_encipher_179 (lv_at hl 0 rfl) ?_
        refine lv_ixor X.1 X.2.1 dX12_encipher_181 ?_
        exact w_X12_encipher_182 X v1 v2 v3 (v2 + v3) (((r12 ^^^ r15) ^^^ x8) ^^^ x11)  k35 hk35 k83 hk83 (L_X12_encipher_91 k35 k83 v1 v2 n) ih hW (lv_sub hl [3, 4, 5, 6] rfl) h
      · refine lv_iload X.1 X.2.1 dX12_encipher_160 (lv_at hl 2 rfl) ?_
        refine lv_goto (tgt := 182) X.1 X.2.1 dX12_encipher_162 (by decide) ?_
        exact w_X12_encipher_182 X v1 v2 v3 (v2 + v3) x7  k35 hk35 k83 hk83 (L_X12_encipher_91 k35 k83 v1 v2 n) ih hW (lv_sub hl [3, 4, 5, 6] rfl) h
set_option maxRecDepth 100000 in
set_option maxHeartbeats 4000000 in
theorem w_X12_encipher_83 {p : Program} {l : Launch} {e : Env} {s : State} {m : MethodId} {args : Array Value} {below : List Frame} {meth : Method} {c : Code} {G : xG} {sz : Nat} {o : Unit × Mm} (X : xC G true sz p s m args c cX12_encipher 7 wsX12_encipher RX12 meth none) (v1 : Int32)  (k35 : Int32 → Mm → Option (Unit × Mm)) (hk35 : ∀ (v1 : Int32) (S : Mm) (H : Heap) (locs : List Loc) (ls : Array Slot), k35 v1 S = some o → xW G true sz s H locs S → lv_has ls 7 [(0, .ref (G.2.2 200 0)), (1, .int v1)] → wX p l e rmX12_encipher s m args below meth c H locs (xQv G true sz o) (XA G true sz) 35 ls []) : ∀ (n : Nat) (v2 : Int32) (S : Mm) (H : Heap) (locs : List Loc) (ls : Array Slot), L_X12_encipher_83 k35 v1 n v2 S = some o → xW G true sz s H locs S → lv_has ls 7 [(0, .ref (G.2.2 200 0)), (1, .int v1), (2, .int v2)] → wX p l e rmX12_encipher s m args below meth c H locs (xQv G true sz o) (XA G true sz) 83 ls [] := by
  intro n
  induction n with
  | zero =>
    intro v2 S H locs ls h
    cases h
  | succ n ih =>
    intro v2 S H locs ls h hW  hl
    rw [L_X12_encipher_83] at h
    refine lv_iload_n X.1 X.2.1 dX12_encipher_83 rfl (lv_at hl 2 rfl) ?_
    refine lv_bipush (v := 16) X.1 X.2.1 dX12_encipher_84 rfl ?_
    refine x_icmp_ge X (tgt := 209) dX12_encipher_86 (by decide) h (fun h => ?_) (fun h => ?_)
    · refine lv_iinc (v := (v1 + 1)) (lv' := [(1, .int (v1 + 1)), (0, .ref (G.2.2 200 0)), (2, .int v2)]) X.1 X.2.1 dX12_encipher_209 hl (k := 1) rfl rfl (by decide) rfl (fun ls hl => ?_)
      refine lv_goto (tgt := 35) X.1 X.2.1 dX12_encipher_212 (by decide) ?_
      exact hk35 (v1 + 1) S _ _ _ h hW  (lv_sub hl [1, 0] rfl)
    · refine lv_iconst (v := 0) X.1 X.2.1 dX12_encipher_89 rfl ?_
      refine lv_istore_n (lv' := [(3, .int 0), (0, .ref (G.2.2 200 0)), (1, .int v1), (2, .int v2)]) X.1 X.2.1 dX12_encipher_90 rfl hl (by decide) rfl (fun ls hl => ?_)
      exact w_X12_encipher_91 X v1 v2  k35 hk35 (L_X12_encipher_83 k35 v1 n) ih fu 0 S _ _ _ h hW  (lv_sub hl [1, 2, 3, 0] rfl)
set_option maxRecDepth 100000 in
set_option maxHeartbeats 4000000 in
theorem w_X12_encipher_43 {p : Program} {l : Launch} {e : Env} {s : State} {m : MethodId} {args : Array Value} {below : List Frame} {meth : Method} {c : Code} {G : xG} {sz : Nat} {o : Unit × Mm} (X : xC G true sz p s m args c cX12_encipher 7 wsX12_encipher RX12 meth none) (v1 : Int32)  (k35 : Int32 → Mm → Option (Unit × Mm)) (hk35 : ∀ (v1 : Int32) (S : Mm) (H : Heap) (locs : List Loc) (ls : Array Slot), k35 v1 S = some o → xW G true sz s H locs S → lv_has ls 7 [(0, .ref (G.2.2 200 0)), (1, .int v1)] → wX p l e rmX12_encipher s m args below meth c H locs (xQv G true sz o) (XA G true sz) 35 ls []) : ∀ (n : Nat) (v2 : Int32) (S : Mm) (H : Heap) (locs : List Loc) (ls : Array Slot), L_X12_encipher_43 k35 v1 n v2 S = some o → xW G true sz s H locs S → lv_has ls 7 [(0, .ref (G.2.2 200 0)), (1, .int v1), (2, .int v2)] → wX p l e rmX12_encipher s m args below meth c H locs (xQv G true sz o) (XA G true sz) 43 ls [] := by
  intro n
  induction n with
  | zero =>
    intro v2 S H locs ls h
    cases h
  | succ n ih =>
    intro v2 S H locs ls h hW  hl
    rw [L_X12_encipher_43] at h
    refine lv_iload_n X.1 X.2.1 dX12_encipher_43 rfl (lv_at hl 2 rfl) ?_
    refine lv_bipush (v := 16) X.1 X.2.1 dX12_encipher_44 rfl ?_
    refine x_icmp_ge X (tgt := 81) dX12_encipher_46 (by decide) h (fun h => ?_) (fun h => ?_)
    · refine lv_iconst (v := 0) X.1 X.2.1 dX12_encipher_81 rfl ?_
      refine lv_istore_n (lv' := [(2, .int 0), (0, .ref (G.2.2 200 0)), (1, .int v1)]) X.1 X.2.1 dX12_encipher_82 rfl hl (by decide) rfl (fun ls hl => ?_)
      exact w_X12_encipher_83 X v1  k35 hk35 fu 0 S _ _ _ h hW  (lv_sub hl [1, 2, 0] rfl)
    · refine lv_aload_n X.1 X.2.1 dX12_encipher_49 rfl (lv_at hl 0 rfl) ?_
      refine x_getR X hW fd_Model_moved (fun w h => List.mem_cons_of_mem _ (gin_X12 w h)) (List.mem_cons_of_mem _ gw160) z_1 dX12_encipher_50 ?_
      refine lv_iload_n X.1 X.2.1 dX12_encipher_53 rfl (lv_at hl 2 rfl) ?_
      refine lv_aload_n X.1 X.2.1 dX12_encipher_54 rfl (lv_at hl 0 rfl) ?_
      refine x_getR X hW fd_Model_box (fun w h => List.mem_cons_of_mem _ (gin_X12 w h)) (List.mem_cons_of_mem _ gw157) z_1 dX12_encipher_55 ?_
      refine lv_aload_n X.1 X.2.1 dX12_encipher_58 rfl (lv_at hl 0 rfl) ?_
      refine x_getR X hW fd_Model_cells (fun w h => List.mem_cons_of_mem _ (gin_X12 w h)) (List.mem_cons_of_mem _ gw159) z_1 dX12_encipher_59 ?_
      refine lv_iload_n X.1 X.2.1 dX12_encipher_62 rfl (lv_at hl 2 rfl) ?_
      refine lv_iconst (v := 4) X.1 X.2.1 dX12_encipher_63 rfl ?_
      refine lv_iload_n X.1 X.2.1 dX12_encipher_64 rfl (lv_at hl 2 rfl) ?_
      refine lv_iconst (v := 4) X.1 X.2.1 dX12_encipher_65 rfl ?_
      refine lv_irem X.1 X.2.1 dX12_encipher_66 (by decide) ?_
      refine lv_imul X.1 X.2.1 dX12_encipher_67 ?_
      refine lv_iadd X.1 X.2.1 dX12_encipher_68 ?_
      refine lv_bipush (v := 16) X.1 X.2.1 dX12_encipher_69 rfl ?_
      refine lv_irem X.1 X.2.1 dX12_encipher_71 (by decide) ?_
      refine x_iald X hW ar_209 dX12_encipher_72 h (fun x4 h => ?_)
      refine x_iald X hW ar_207 dX12_encipher_73 h (fun x5 h => ?_)
      refine x_iast X hW ar_210 dX12_encipher_74 h (fun S6 H locs h hW => ?_)
      refine lv_iinc (v := (v2 + 1)) (lv' := [(2, .int (v2 + 1)), (0, .ref (G.2.2 200 0)), (1, .int v1)]) X.1 X.2.1 dX12_encipher_75 hl (k := 2) rfl rfl (by decide) rfl (fun ls hl => ?_)
      refine lv_goto (tgt := 43) X.1 X.2.1 dX12_encipher_78 (by decide) ?_
      exact ih (v2 + 1) S6 _ _ _ h hW  (lv_sub hl [1, 2, 0] rfl)
set_option maxRecDepth 100000 in
set_option maxHeartbeats 4000000 in
theorem w_X12_encipher_35 {p : Program} {l : Launch} {e : Env} {s : State} {m : MethodId} {args : Array Value} {below : List Frame} {meth : Method} {c : Code} {G : xG} {sz : Nat} {o : Unit × Mm} (X : xC G true sz p s m args c cX12_encipher 7 wsX12_encipher RX12 meth none)    : ∀ (n : Nat) (v1 : Int32) (S : Mm) (H : Heap) (locs : List Loc) (ls : Array Slot), L_X12_encipher_35  n v1 S = some o → xW G true sz s H locs S → lv_has ls 7 [(0, .ref (G.2.2 200 0)), (1, .int v1)] → wX p l e rmX12_encipher s m args below meth c H locs (xQv G true sz o) (XA G true sz) 35 ls [] := by
  intro n
  induction n with
  | zero =>
    intro v1 S H locs ls h
    cases h
  | succ n ih =>
    intro v1 S H locs ls h hW  hl
    rw [L_X12_encipher_35] at h
    refine lv_iload_n X.1 X.2.1 dX12_encipher_35 rfl (lv_at hl 1 rfl) ?_
    refine lv_bipush (v := 10) X.1 X.2.1 dX12_encipher_36 rfl ?_
    refine x_icmp_gt X (tgt := 215) dX12_encipher_38 (by decide) h (fun h => ?_) (fun h => ?_)
    · exact x_vret X hW h dX12_encipher_215
    · refine lv_iconst (v := 0) X.1 X.2.1 dX12_encipher_41 rfl ?_
      refine lv_istore_n (lv' := [(2, .int 0), (0, .ref (G.2.2 200 0)), (1, .int v1)]) X.1 X.2.1 dX12_encipher_42 rfl hl (by decide) rfl (fun ls hl => ?_)
      exact w_X12_encipher_43 X v1  (L_X12_encipher_35  n) ih fu 0 S _ _ _ h hW  (lv_sub hl [1, 2, 0] rfl)
set_option maxRecDepth 100000 in
set_option maxHeartbeats 4000000 in
theorem w_X12_encipher_2 {p : Program} {l : Launch} {e : Env} {s : State} {m : MethodId} {args : Array Value} {below : List Frame} {meth : Method} {c : Code} {G : xG} {sz : Nat} {o : Unit × Mm} (X : xC G true sz p s m args c cX12_encipher 7 wsX12_encipher RX12 meth none)    : ∀ (n : Nat) (v1 : Int32) (S : Mm) (H : Heap) (locs : List Loc) (ls : Array Slot), L_X12_encipher_2  n v1 S = some o → xW G true sz s H locs S → lv_has ls 7 [(0, .ref (G.2.2 200 0)), (1, .int v1)] → wX p l e rmX12_encipher s m args below meth c H locs (xQv G true sz o) (XA G true sz) 2 ls [] := by
  intro n
  induction n with
  | zero =>
    intro v1 S H locs ls h
    cases h
  | succ n ih =>
    intro v1 S H locs ls h hW  hl
    rw [L_X12_encipher_2] at h
    refine lv_iload_n X.1 X.2.1 dX12_encipher_2 rfl (lv_at hl 1 rfl) ?_
    refine lv_bipush (v := 16) X.1 X.2.1 dX12_encipher_3 rfl ?_
    refine x_icmp_ge X (tgt := 33) dX12_encipher_5 (by decide) h (fun h => ?_) (fun h => ?_)
    · refine lv_iconst (v := 1) X.1 X.2.1 dX12_encipher_33 rfl ?_
      refine lv_istore_n (lv' := [(1, .int 1), (0, .ref (G.2.2 200 0))]) X.1 X.2.1 dX12_encipher_34 rfl hl (by decide) rfl (fun ls hl => ?_)
      exact w_X12_encipher_35 X    fu 1 S _ _ _ h hW  (lv_sub hl [1, 0] rfl)
    · refine lv_aload_n X.1 X.2.1 dX12_encipher_8 rfl (lv_at hl 0 rfl) ?_
      refine x_getR X hW fd_Model_cells (fun w h => List.mem_cons_of_mem _ (gin_X12 w h)) (List.mem_cons_of_mem _ gw159) z_1 dX12_encipher_9 ?_
      refine lv_iload_n X.1 X.2.1 dX12_encipher_12 rfl (lv_at hl 1 rfl) ?_
      refine lv_aload_n X.1 X.2.1 dX12_encipher_13 rfl (lv_at hl 0 rfl) ?_
      refine x_getR X hW fd_Model_cells (fun w h => List.mem_cons_of_mem _ (gin_X12 w h)) (List.mem_cons_of_mem _ gw159) z_1 dX12_encipher_14 ?_
      refine lv_iload_n X.1 X.2.1 dX12_encipher_17 rfl (lv_at hl 1 rfl) ?_
      refine x_iald X hW ar_209 dX12_encipher_18 h (fun x1 h => ?_)
      refine lv_aload_n X.1 X.2.1 dX12_encipher_19 rfl (lv_at hl 0 rfl) ?_
      refine x_getR X hW fd_Model_schedule (fun w h => List.mem_cons_of_mem _ (gin_X12 w h)) (List.mem_cons_of_mem _ gw158) z_1 dX12_encipher_20 ?_
      refine lv_iload_n X.1 X.2.1 dX12_encipher_23 rfl (lv_at hl 1 rfl) ?_
      refine x_iald X hW ar_208 dX12_encipher_24 h (fun x2 h => ?_)
      refine lv_ixor X.1 X.2.1 dX12_encipher_25 ?_
      refine x_iast X hW ar_209 dX12_encipher_26 h (fun S3 H locs h hW => ?_)
      refine lv_iinc (v := (v1 + 1)) (lv' := [(1, .int (v1 + 1)), (0, .ref (G.2.2 200 0))]) X.1 X.2.1 dX12_encipher_27 hl (k := 1) rfl rfl (by decide) rfl (fun ls hl => ?_)
      refine lv_goto (tgt := 2) X.1 X.2.1 dX12_encipher_30 (by decide) ?_
      exact ih (v1 + 1) S3 _ _ _ h hW  (lv_sub hl [1, 0] rfl)
set_option maxRecDepth 100000 in
set_option maxHeartbeats 4000000 in
theorem w_X12_encipher_0 {p : Program} {l : Launch} {e : Env} {s : State} {m : MethodId} {args : Array Value} {below : List Frame} {meth : Method} {c : Code} {G : xG} {sz : Nat} {o : Unit × Mm} (X : xC G true sz p s m args c cX12_encipher 7 wsX12_encipher RX12 meth none)  {S : Mm} {H : Heap} {locs : List Loc} {ls : Array Slot} (hW : xW G true sz s H locs S) (hl : lv_has ls 7 [(0, .ref (G.2.2 200 0))]) (h : F_X12_encipher  S = some o) : wX p l e rmX12_encipher s m args below meth c H locs (xQv G true sz o) (XA G true sz) 0 ls [] := by
  unfold F_X12_encipher at h
  refine lv_iconst (v := 0) X.1 X.2.1 dX12_encipher_0 rfl ?_
  refine lv_istore_n (lv' := [(1, .int 0), (0, .ref (G.2.2 200 0))]) X.1 X.2.1 dX12_encipher_1 rfl hl (by decide) rfl (fun ls hl => ?_)
  exact w_X12_encipher_2 X    fu 0 S _ _ _ h hW  (lv_sub hl [1, 0] rfl)
theorem c_X12_encipher (l : Launch) (G : xG) (hD : xD G true) (sz : Nat) (S : Mm)  (o : Unit × Mm) (h : F_X12_encipher  S = some o) : Met l yX12_encipher wsX12_encipher rmX12_encipher (xPre G true S sz [.ref (G.2.2 200 0)]) (xQv G true sz o) 0 0 (XA G true sz) :=
  x_start hD (by decide) rfl (Nat.le_of_ble_eq_true rfl) (fun p e s m below meth c X hW ls hl => w_X12_encipher_0 X  hW hl h)

/-! WirelessCellModel.nonceOf([IIJ)V -/
def rmX12_nonceOf : Room := { frames := 0, cells := 0, slots := 0, locals := 0 }
def L_X12_nonceOf_10  (cv1 : Nat) (v1 : Nat) (v2 : Int32) (v3 : Int64) : Nat → Int32 → Mm → Option (Unit × Mm)
  | 0, _, _ => none
  | n + 1, v5, S => 
    if 6 ≤ v5 then (
    some ((), S))
    else (
    ldP true S cv1 v1 ((v2 + 10) + v5) fun x2 =>
    stA S 211 0 13 1 (1 + v5) x2 fun S3 =>
    stA S3 211 0 13 1 (7 + v5) ((Int64.toInt32 (v3 >>> (Int32.toInt64 (40 - (8 * v5)) &&& 63))) &&& 255) fun S4 =>
    (L_X12_nonceOf_10 cv1 v1 v2 v3 n) (v5 + 1) S4)
def F_X12_nonceOf (cv1 : Nat) (v1 : Nat) (v2 : Int32) (v3 : Int64) (S : Mm) : Option (Unit × Mm) :=
  stA S 211 0 13 1 0 0 fun S1 =>
  L_X12_nonceOf_10  cv1 v1 v2 v3 fu 0 S1
set_option maxRecDepth 100000 in
set_option maxHeartbeats 4000000 in
theorem w_X12_nonceOf_10 {p : Program} {l : Launch} {e : Env} {s : State} {m : MethodId} {args : Array Value} {below : List Frame} {meth : Method} {c : Code} {G : xG} {sz : Nat} {o : Unit × Mm} (X : xC G true sz p s m args c cX12_nonceOf 6 wsX12_nonceOf RX12 meth none) (cv1 : Nat) (v1 : Nat) (v2 : Int32) (v3 : Int64)   : ∀ (n : Nat) (v5 : Int32) (S : Mm) (H : Heap) (locs : List Loc) (ls : Array Slot), L_X12_nonceOf_10 cv1 v1 v2 v3 n v5 S = some o → xW G true sz s H locs S → lv_has ls 6 [(0, .ref (G.2.2 200 0)), (1, .ref (G.2.2 cv1 v1)), (2, .int v2), (3, .long v3), (5, .int v5)] → wX p l e rmX12_nonceOf s m args below meth c H locs (xQv G true sz o) (XA G true sz) 10 ls [] := by
  intro n
  induction n with
  | zero =>
    intro v5 S H locs ls h
    cases h
  | succ n ih =>
    intro v5 S H locs ls h hW  hl
    rw [L_X12_nonceOf_10] at h
    refine lv_iload X.1 X.2.1 dX12_nonceOf_10 (lv_at hl 4 rfl) ?_
    refine lv_bipush (v := 6) X.1 X.2.1 dX12_nonceOf_12 rfl ?_
    refine x_icmp_ge X (tgt := 66) dX12_nonceOf_14 (by decide) h (fun h => ?_) (fun h => ?_)
    · exact x_vret X hW h dX12_nonceOf_66
    · refine lv_aload_n X.1 X.2.1 dX12_nonceOf_17 rfl (lv_at hl 0 rfl) ?_
      refine x_getR X hW fd_Model_number (fun w h => List.mem_cons_of_mem _ (gin_X12 w h)) (List.mem_cons_of_mem _ gw161) z_1 dX12_nonceOf_18 ?_
      refine lv_iconst (v := 1) X.1 X.2.1 dX12_nonceOf_21 rfl ?_
      refine lv_iload X.1 X.2.1 dX12_nonceOf_22 (lv_at hl 4 rfl) ?_
      refine lv_iadd X.1 X.2.1 dX12_nonceOf_24 ?_
      refine lv_aload_n X.1 X.2.1 dX12_nonceOf_25 rfl (lv_at hl 1 rfl) ?_
      refine lv_iload_n X.1 X.2.1 dX12_nonceOf_26 rfl (lv_at hl 2 rfl) ?_
      refine lv_bipush (v := 10) X.1 X.2.1 dX12_nonceOf_27 rfl ?_
      refine lv_iadd X.1 X.2.1 dX12_nonceOf_29 ?_
      refine lv_iload X.1 X.2.1 dX12_nonceOf_30 (lv_at hl 4 rfl) ?_
      refine lv_iadd X.1 X.2.1 dX12_nonceOf_32 ?_
      refine x_ialdP X hW dX12_nonceOf_33 h (fun x2 h => ?_)
      refine x_iast X hW ar_211 dX12_nonceOf_34 h (fun S3 H locs h hW => ?_)
      refine lv_aload_n X.1 X.2.1 dX12_nonceOf_35 rfl (lv_at hl 0 rfl) ?_
      refine x_getR X hW fd_Model_number (fun w h => List.mem_cons_of_mem _ (gin_X12 w h)) (List.mem_cons_of_mem _ gw161) z_1 dX12_nonceOf_36 ?_
      refine lv_bipush (v := 7) X.1 X.2.1 dX12_nonceOf_39 rfl ?_
      refine lv_iload X.1 X.2.1 dX12_nonceOf_41 (lv_at hl 4 rfl) ?_
      refine lv_iadd X.1 X.2.1 dX12_nonceOf_43 ?_
      refine lv_lload_n X.1 X.2.1 dX12_nonceOf_44 rfl (lv_at hl 3 rfl) ?_
      refine lv_bipush (v := 40) X.1 X.2.1 dX12_nonceOf_45 rfl ?_
      refine lv_bipush (v := 8) X.1 X.2.1 dX12_nonceOf_47 rfl ?_
      refine lv_iload X.1 X.2.1 dX12_nonceOf_49 (lv_at hl 4 rfl) ?_
      refine lv_imul X.1 X.2.1 dX12_nonceOf_51 ?_
      refine lv_isub X.1 X.2.1 dX12_nonceOf_52 ?_
      refine lv_lshr (v := (v3 >>> (Int32.toInt64 (40 - (8 * v5)) &&& 63))) X.1 X.2.1 dX12_nonceOf_53 rfl ?_
      refine lv_l2i (v := (Int64.toInt32 (v3 >>> (Int32.toInt64 (40 - (8 * v5)) &&& 63)))) X.1 X.2.1 dX12_nonceOf_54 rfl ?_
      refine lv_sipush (v := 255) X.1 X.2.1 dX12_nonceOf_55 rfl ?_
      refine lv_iand X.1 X.2.1 dX12_nonceOf_58 ?_
      refine x_iast X hW ar_211 dX12_nonceOf_59 h (fun S4 H locs h hW => ?_)
      refine lv_iinc (v := (v5 + 1)) (lv' := [(5, .int (v5 + 1)), (0, .ref (G.2.2 200 0)), (1, .ref (G.2.2 cv1 v1)), (2, .int v2), (3, .long v3)]) X.1 X.2.1 dX12_nonceOf_60 hl (k := 4) rfl rfl (by decide) rfl (fun ls hl => ?_)
      refine lv_goto (tgt := 10) X.1 X.2.1 dX12_nonceOf_63 (by decide) ?_
      exact ih (v5 + 1) S4 _ _ _ h hW  (lv_sub hl [1, 2, 3, 4, 0] rfl)
set_option maxRecDepth 100000 in
set_option maxHeartbeats 4000000 in
theorem w_X12_nonceOf_0 {p : Program} {l : Launch} {e : Env} {s : State} {m : MethodId} {args : Array Value} {below : List Frame} {meth : Method} {c : Code} {G : xG} {sz : Nat} {o : Unit × Mm} (X : xC G true sz p s m args c cX12_nonceOf 6 wsX12_nonceOf RX12 meth none) (cv1 : Nat) (v1 : Nat) (v2 : Int32) (v3 : Int64) {S : Mm} {H : Heap} {locs : List Loc} {ls : Array Slot} (hW : xW G true sz s H locs S) (hl : lv_has ls 6 [(0, .ref (G.2.2 200 0)), (1, .ref (G.2.2 cv1 v1)), (2, .int v2), (3, .long v3)]) (h : F_X12_nonceOf cv1 v1 v2 v3 S = some o) : wX p l e rmX12_nonceOf s m args below meth c H locs (xQv G true sz o) (XA G true sz) 0 ls [] := by
  unfold F_X12_nonceOf at h
  refine lv_aload_n X.1 X.2.1 dX12_nonceOf_0 rfl (lv_at hl 0 rfl) ?_
  refine x_getR X hW fd_Model_number (fun w h => List.mem_cons_of_mem _ (gin_X12 w h)) (List.mem_cons_of_mem _ gw161) z_1 dX12_nonceOf_1 ?_
  refine lv_iconst (v := 0) X.1 X.2.1 dX12_nonceOf_4 rfl ?_
  refine lv_iconst (v := 0) X.1 X.2.1 dX12_nonceOf_5 rfl ?_
  refine x_iast X hW ar_211 dX12_nonceOf_6 h (fun S1 H locs h hW => ?_)
  refine lv_iconst (v := 0) X.1 X.2.1 dX12_nonceOf_7 rfl ?_
  refine lv_istore (lv' := [(5, .int 0), (0, .ref (G.2.2 200 0)), (1, .ref (G.2.2 cv1 v1)), (2, .int v2), (3, .long v3)]) X.1 X.2.1 dX12_nonceOf_8 hl (by decide) rfl (fun ls hl => ?_)
  exact w_X12_nonceOf_10 X cv1 v1 v2 v3   fu 0 S1 _ _ _ h hW  (lv_sub hl [1, 2, 3, 4, 0] rfl)
theorem c_X12_nonceOf (l : Launch) (G : xG) (hD : xD G true) (sz : Nat) (S : Mm) (cv1 : Nat) (v1 : Nat) (v2 : Int32) (v3 : Int64) (o : Unit × Mm) (h : F_X12_nonceOf cv1 v1 v2 v3 S = some o) : Met l yX12_nonceOf wsX12_nonceOf rmX12_nonceOf (xPre G true S sz [.ref (G.2.2 200 0), .ref (G.2.2 cv1 v1), .int v2, .long v3]) (xQv G true sz o) 0 0 (XA G true sz) :=
  x_start hD (by decide) rfl (Nat.le_of_ble_eq_true rfl) (fun p e s m below meth c X hW ls hl => w_X12_nonceOf_0 X cv1 v1 v2 v3 hW hl h)

/-! WirelessCellModel.chainStep()V -/
def rmX12_chainStep : Room := { frames := 2, cells := 0, slots := 0, locals := 47 }
def L_X12_chainStep_32   : Nat → Int32 → Mm → Option (Unit × Mm)
  | 0, _, _ => none
  | n + 1, v1, S => 
    if 16 ≤ v1 then (
    some ((), S))
    else (
    ldA S 209 0 16 1 v1 fun x6 =>
    stA S 212 0 16 1 v1 x6 fun S7 =>
    (L_X12_chainStep_32  n) (v1 + 1) S7)
def L_X12_chainStep_2   : Nat → Int32 → Mm → Option (Unit × Mm)
  | 0, _, _ => none
  | n + 1, v1, S => 
    if 16 ≤ v1 then (
    cl (F_X12_encipher S) fun r1 S2 =>
    L_X12_chainStep_32   fu 0 S2)
    else (
    ldA S 212 0 16 1 v1 fun x4 =>
    stA S 209 0 16 1 v1 x4 fun S5 =>
    (L_X12_chainStep_2  n) (v1 + 1) S5)
def F_X12_chainStep  (S : Mm) : Option (Unit × Mm) :=
  L_X12_chainStep_2   fu 0 S
set_option maxRecDepth 100000 in
set_option maxHeartbeats 4000000 in
theorem w_X12_chainStep_32 {p : Program} {l : Launch} {e : Env} {s : State} {m : MethodId} {args : Array Value} {below : List Frame} {meth : Method} {c : Code} {G : xG} {sz : Nat} {o : Unit × Mm} (X : xC G true sz p s m args c cX12_chainStep 2 wsX12_chainStep RX12 meth none)    : ∀ (n : Nat) (v1 : Int32) (S : Mm) (H : Heap) (locs : List Loc) (ls : Array Slot), L_X12_chainStep_32  n v1 S = some o → xW G true sz s H locs S → lv_has ls 2 [(0, .ref (G.2.2 200 0)), (1, .int v1)] → wX p l e rmX12_chainStep s m args below meth c H locs (xQv G true sz o) (XA G true sz) 32 ls [] := by
  intro n
  induction n with
  | zero =>
    intro v1 S H locs ls h
    cases h
  | succ n ih =>
    intro v1 S H locs ls h hW  hl
    rw [L_X12_chainStep_32] at h
    refine lv_iload_n X.1 X.2.1 dX12_chainStep_32 rfl (lv_at hl 1 rfl) ?_
    refine lv_bipush (v := 16) X.1 X.2.1 dX12_chainStep_33 rfl ?_
    refine x_icmp_ge X (tgt := 56) dX12_chainStep_35 (by decide) h (fun h => ?_) (fun h => ?_)
    · exact x_vret X hW h dX12_chainStep_56
    · refine lv_aload_n X.1 X.2.1 dX12_chainStep_38 rfl (lv_at hl 0 rfl) ?_
      refine x_getR X hW fd_Model_chain (fun w h => List.mem_cons_of_mem _ (gin_X12 w h)) (List.mem_cons_of_mem _ gw162) z_1 dX12_chainStep_39 ?_
      refine lv_iload_n X.1 X.2.1 dX12_chainStep_42 rfl (lv_at hl 1 rfl) ?_
      refine lv_aload_n X.1 X.2.1 dX12_chainStep_43 rfl (lv_at hl 0 rfl) ?_
      refine x_getR X hW fd_Model_cells (fun w h => List.mem_cons_of_mem _ (gin_X12 w h)) (List.mem_cons_of_mem _ gw159) z_1 dX12_chainStep_44 ?_
      refine lv_iload_n X.1 X.2.1 dX12_chainStep_47 rfl (lv_at hl 1 rfl) ?_
      refine x_iald X hW ar_209 dX12_chainStep_48 h (fun x6 h => ?_)
      refine x_iast X hW ar_212 dX12_chainStep_49 h (fun S7 H locs h hW => ?_)
      refine lv_iinc (v := (v1 + 1)) (lv' := [(1, .int (v1 + 1)), (0, .ref (G.2.2 200 0))]) X.1 X.2.1 dX12_chainStep_50 hl (k := 1) rfl rfl (by decide) rfl (fun ls hl => ?_)
      refine lv_goto (tgt := 32) X.1 X.2.1 dX12_chainStep_53 (by decide) ?_
      exact ih (v1 + 1) S7 _ _ _ h hW  (lv_sub hl [1, 0] rfl)
set_option maxRecDepth 100000 in
set_option maxHeartbeats 4000000 in
theorem w_X12_chainStep_2 {p : Program} {l : Launch} {e : Env} {s : State} {m : MethodId} {args : Array Value} {below : List Frame} {meth : Method} {c : Code} {G : xG} {sz : Nat} {o : Unit × Mm} (X : xC G true sz p s m args c cX12_chainStep 2 wsX12_chainStep RX12 meth none)    : ∀ (n : Nat) (v1 : Int32) (S : Mm) (H : Heap) (locs : List Loc) (ls : Array Slot), L_X12_chainStep_2  n v1 S = some o → xW G true sz s H locs S → lv_has ls 2 [(0, .ref (G.2.2 200 0)), (1, .int v1)] → wX p l e rmX12_chainStep s m args below meth c H locs (xQv G true sz o) (XA G true sz) 2 ls [] := by
  intro n
  induction n with
  | zero =>
    intro v1 S H locs ls h
    cases h
  | succ n ih =>
    intro v1 S H locs ls h hW  hl
    rw [L_X12_chainStep_2] at h
    refine lv_iload_n X.1 X.2.1 dX12_chainStep_2 rfl (lv_at hl 1 rfl) ?_
    refine lv_bipush (v := 16) X.1 X.2.1 dX12_chainStep_3 rfl ?_
    refine x_icmp_ge X (tgt := 26) dX12_chainStep_5 (by decide) h (fun h => ?_) (fun h => ?_)
    · refine lv_aload_n X.1 X.2.1 dX12_chainStep_26 rfl (lv_at hl 0 rfl) ?_
      obtain ⟨r1, S2, h3, h⟩ := cl_some h
      refine x_aftV X hW (x_runV (C := RX12) (a := G.2.2 200 0) (As := []) (rest := []) X hW (c_X12_encipher l G X.2.2.2.2.2.2.2.2.2.1 _ S _ h3) (cwV 0 X.2.2.2.2.1 (gV gw1066 gw1067 gw1068 gw5 gw1069) rfl rfl rfl ⟨rfl, hd_X12_encipher⟩ ⟨Nat.le_of_ble_eq_true rfl, Nat.le_of_ble_eq_true rfl⟩) (x_recv X hW ob_Model z_1) rfl hl.1 rfl (Nat.le_of_ble_eq_true rfl) dX12_chainStep_27 ⟨Nat.zero_le _, Nat.zero_le _⟩) (fun H locs hW => ?_)
      refine lv_iconst (v := 0) X.1 X.2.1 dX12_chainStep_30 rfl ?_
      refine lv_istore_n (lv' := [(1, .int 0), (0, .ref (G.2.2 200 0))]) X.1 X.2.1 dX12_chainStep_31 rfl hl (by decide) rfl (fun ls hl => ?_)
      exact w_X12_chainStep_32 X    fu 0 S2 _ _ _ h hW  (lv_sub hl [1, 0] rfl)
    · refine lv_aload_n X.1 X.2.1 dX12_chainStep_8 rfl (lv_at hl 0 rfl) ?_
      refine x_getR X hW fd_Model_cells (fun w h => List.mem_cons_of_mem _ (gin_X12 w h)) (List.mem_cons_of_mem _ gw159) z_1 dX12_chainStep_9 ?_
      refine lv_iload_n X.1 X.2.1 dX12_chainStep_12 rfl (lv_at hl 1 rfl) ?_
      refine lv_aload_n X.1 X.2.1 dX12_chainStep_13 rfl (lv_at hl 0 rfl) ?_
      refine x_getR X hW fd_Model_chain (fun w h => List.mem_cons_of_mem _ (gin_X12 w h)) (List.mem_cons_of_mem _ gw162) z_1 dX12_chainStep_14 ?_
      refine lv_iload_n X.1 X.2.1 dX12_chainStep_17 rfl (lv_at hl 1 rfl) ?_
      refine x_iald X hW ar_212 dX12_chainStep_18 h (fun x4 h => ?_)
      refine x_iast X hW ar_209 dX12_chainStep_19 h (fun S5 H locs h hW => ?_)
      refine lv_iinc (v := (v1 + 1)) (lv' := [(1, .int (v1 + 1)), (0, .ref (G.2.2 200 0))]) X.1 X.2.1 dX12_chainStep_20 hl (k := 1) rfl rfl (by decide) rfl (fun ls hl => ?_)
      refine lv_goto (tgt := 2) X.1 X.2.1 dX12_chainStep_23 (by decide) ?_
      exact ih (v1 + 1) S5 _ _ _ h hW  (lv_sub hl [1, 0] rfl)
set_option maxRecDepth 100000 in
set_option maxHeartbeats 4000000 in
theorem w_X12_chainStep_0 {p : Program} {l : Launch} {e : Env} {s : State} {m : MethodId} {args : Array Value} {below : List Frame} {meth : Method} {c : Code} {G : xG} {sz : Nat} {o : Unit × Mm} (X : xC G true sz p s m args c cX12_chainStep 2 wsX12_chainStep RX12 meth none)  {S : Mm} {H : Heap} {locs : List Loc} {ls : Array Slot} (hW : xW G true sz s H locs S) (hl : lv_has ls 2 [(0, .ref (G.2.2 200 0))]) (h : F_X12_chainStep  S = some o) : wX p l e rmX12_chainStep s m args below meth c H locs (xQv G true sz o) (XA G true sz) 0 ls [] := by
  unfold F_X12_chainStep at h
  refine lv_iconst (v := 0) X.1 X.2.1 dX12_chainStep_0 rfl ?_
  refine lv_istore_n (lv' := [(1, .int 0), (0, .ref (G.2.2 200 0))]) X.1 X.2.1 dX12_chainStep_1 rfl hl (by decide) rfl (fun ls hl => ?_)
  exact w_X12_chainStep_2 X    fu 0 S _ _ _ h hW  (lv_sub hl [1, 0] rfl)
theorem c_X12_chainStep (l : Launch) (G : xG) (hD : xD G true) (sz : Nat) (S : Mm)  (o : Unit × Mm) (h : F_X12_chainStep  S = some o) : Met l yX12_chainStep wsX12_chainStep rmX12_chainStep (xPre G true S sz [.ref (G.2.2 200 0)]) (xQv G true sz o) 0 0 (XA G true sz) :=
  x_start hD (by decide) rfl (Nat.le_of_ble_eq_true rfl) (fun p e s m below meth c X hW ls hl => w_X12_chainStep_0 X  hW hl h)

/-! WirelessCellModel.besideAt([III)I -/
def rmX12_besideAt : Room := { frames := 0, cells := 0, slots := 0, locals := 0 }
def F_X12_besideAt (cv0 : Nat) (v0 : Nat) (v1 : Int32) (v2 : Int32) (S : Mm) : Option (Int32 × Mm) :=
  if 2 ≤ v2 then (
  if 20 ≤ v2 then (
  if v2 = 20 then (
  ldP true S cv0 v0 (v1 + 22) fun x1 =>
  some ((x1 &&& 15), S))
  else (
  some (0, S)))
  else (
  ldP true S cv0 v0 ((v1 + 2) + v2) fun x2 =>
  some (x2, S)))
  else (
  if v2 = 0 then (
  ldP true S cv0 v0 v1 fun x4 =>
  some (x4, S))
  else (
  ldP true S cv0 v0 (v1 + 1) fun x3 =>
  some ((x3 &&& (-9)), S)))
set_option maxRecDepth 100000 in
set_option maxHeartbeats 4000000 in
theorem w_X12_besideAt_0 {p : Program} {l : Launch} {e : Env} {s : State} {m : MethodId} {args : Array Value} {below : List Frame} {meth : Method} {c : Code} {G : xG} {sz : Nat} {o : Int32 × Mm} (X : xC G true sz p s m args c cX12_besideAt 3 wsX12_besideAt RX12 meth (some .int)) (cv0 : Nat) (v0 : Nat) (v1 : Int32) (v2 : Int32) {S : Mm} {H : Heap} {locs : List Loc} {ls : Array Slot} (hW : xW G true sz s H locs S) (hl : lv_has ls 3 [(0, .ref (G.2.2 cv0 v0)), (1, .int v1), (2, .int v2)]) (h : F_X12_besideAt cv0 v0 v1 v2 S = some o) : wX p l e rmX12_besideAt s m args below meth c H locs (xQi G true sz o) (XA G true sz) 0 ls [] := by
  unfold F_X12_besideAt at h
  refine lv_iload_n X.1 X.2.1 dX12_besideAt_0 rfl (lv_at hl 2 rfl) ?_
  refine lv_iconst (v := 2) X.1 X.2.1 dX12_besideAt_1 rfl ?_
  refine x_icmp_ge X (tgt := 24) dX12_besideAt_2 (by decide) h (fun h => ?_) (fun h => ?_)
  · refine lv_iload_n X.1 X.2.1 dX12_besideAt_24 rfl (lv_at hl 2 rfl) ?_
    refine lv_bipush (v := 20) X.1 X.2.1 dX12_besideAt_25 rfl ?_
    refine x_icmp_ge X (tgt := 38) dX12_besideAt_27 (by decide) h (fun h => ?_) (fun h => ?_)
    · refine lv_iload_n X.1 X.2.1 dX12_besideAt_38 rfl (lv_at hl 2 rfl) ?_
      refine lv_bipush (v := 20) X.1 X.2.1 dX12_besideAt_39 rfl ?_
      refine x_icmp_ne X (tgt := 56) dX12_besideAt_41 (by decide) h (fun h => ?_) (fun h => ?_)
      · refine lv_iconst (v := 0) X.1 X.2.1 dX12_besideAt_56 rfl ?_
        exact x_iret X hW h dX12_besideAt_57
      · refine lv_aload_n X.1 X.2.1 dX12_besideAt_44 rfl (lv_at hl 0 rfl) ?_
        refine lv_iload_n X.1 X.2.1 dX12_besideAt_45 rfl (lv_at hl 1 rfl) ?_
        refine lv_bipush (v := 22) X.1 X.2.1 dX12_besideAt_46 rfl ?_
        refine lv_iadd X.1 X.2.1 dX12_besideAt_48 ?_
        refine x_ialdP X hW dX12_besideAt_49 h (fun x1 h => ?_)
        refine lv_bipush (v := 15) X.1 X.2.1 dX12_besideAt_50 rfl ?_
        refine lv_iand X.1 X.2.1 dX12_besideAt_52 ?_
        refine lv_goto (tgt := 57) X.1 X.2.1 dX12_besideAt_53 (by decide) ?_
        exact x_iret X hW h dX12_besideAt_57
    · refine lv_aload_n X.1 X.2.1 dX12_besideAt_30 rfl (lv_at hl 0 rfl) ?_
      refine lv_iload_n X.1 X.2.1 dX12_besideAt_31 rfl (lv_at hl 1 rfl) ?_
      refine lv_iconst (v := 2) X.1 X.2.1 dX12_besideAt_32 rfl ?_
      refine lv_iadd X.1 X.2.1 dX12_besideAt_33 ?_
      refine lv_iload_n X.1 X.2.1 dX12_besideAt_34 rfl (lv_at hl 2 rfl) ?_
      refine lv_iadd X.1 X.2.1 dX12_besideAt_35 ?_
      refine x_ialdP X hW dX12_besideAt_36 h (fun x2 h => ?_)
      exact x_iret X hW h dX12_besideAt_37
  · refine lv_iload_n X.1 X.2.1 dX12_besideAt_5 rfl (lv_at hl 2 rfl) ?_
    refine x_if_ne X (tgt := 15) dX12_besideAt_6 (by decide) h (fun h => ?_) (fun h => ?_)
    · refine lv_aload_n X.1 X.2.1 dX12_besideAt_15 rfl (lv_at hl 0 rfl) ?_
      refine lv_iload_n X.1 X.2.1 dX12_besideAt_16 rfl (lv_at hl 1 rfl) ?_
      refine lv_iconst (v := 1) X.1 X.2.1 dX12_besideAt_17 rfl ?_
      refine lv_iadd X.1 X.2.1 dX12_besideAt_18 ?_
      refine x_ialdP X hW dX12_besideAt_19 h (fun x3 h => ?_)
      refine lv_bipush (v := (-9)) X.1 X.2.1 dX12_besideAt_20 rfl ?_
      refine lv_iand X.1 X.2.1 dX12_besideAt_22 ?_
      exact x_iret X hW h dX12_besideAt_23
    · refine lv_aload_n X.1 X.2.1 dX12_besideAt_9 rfl (lv_at hl 0 rfl) ?_
      refine lv_iload_n X.1 X.2.1 dX12_besideAt_10 rfl (lv_at hl 1 rfl) ?_
      refine x_ialdP X hW dX12_besideAt_11 h (fun x4 h => ?_)
      refine lv_goto (tgt := 23) X.1 X.2.1 dX12_besideAt_12 (by decide) ?_
      exact x_iret X hW h dX12_besideAt_23
theorem c_X12_besideAt (l : Launch) (G : xG) (hD : xD G true) (sz : Nat) (S : Mm) (cv0 : Nat) (v0 : Nat) (v1 : Int32) (v2 : Int32) (o : Int32 × Mm) (h : F_X12_besideAt cv0 v0 v1 v2 S = some o) : Met l yX12_besideAt wsX12_besideAt rmX12_besideAt (xPre G true S sz [.ref (G.2.2 cv0 v0), .int v1, .int v2]) (xQi G true sz o) 0 0 (XA G true sz) :=
  x_start hD (by decide) rfl (Nat.le_of_ble_eq_true rfl) (fun p e s m below meth c X hW ls hl => w_X12_besideAt_0 X cv0 v0 v1 v2 hW hl h)

/-! WirelessCellModel.counter(I)V -/
def rmX12_counter : Room := { frames := 2, cells := 0, slots := 0, locals := 47 }
def L_X12_counter_64   : Nat → Int32 → Mm → Option (Unit × Mm)
  | 0, _, _ => none
  | n + 1, v2, S => 
    if 16 ≤ v2 then (
    some ((), S))
    else (
    ldA S 209 0 16 1 v2 fun x9 =>
    stA S 213 0 16 1 v2 x9 fun S10 =>
    (L_X12_counter_64  n) (v2 + 1) S10)
def L_X12_counter_9  (v1 : Int32) : Nat → Int32 → Mm → Option (Unit × Mm)
  | 0, _, _ => none
  | n + 1, v2, S => 
    if 13 ≤ v2 then (
    stA S 209 0 16 1 14 (v1 >>> (8 &&& 31)) fun S2 =>
    stA S2 209 0 16 1 15 (v1 &&& 255) fun S3 =>
    cl (F_X12_encipher S3) fun r4 S5 =>
    L_X12_counter_64   fu 0 S5)
    else (
    ldA S 211 0 13 1 v2 fun x7 =>
    stA S 209 0 16 1 (1 + v2) x7 fun S8 =>
    (L_X12_counter_9 v1 n) (v2 + 1) S8)
def F_X12_counter (v1 : Int32) (S : Mm) : Option (Unit × Mm) :=
  stA S 209 0 16 1 0 1 fun S1 =>
  L_X12_counter_9  v1 fu 0 S1
set_option maxRecDepth 100000 in
set_option maxHeartbeats 4000000 in
theorem w_X12_counter_64 {p : Program} {l : Launch} {e : Env} {s : State} {m : MethodId} {args : Array Value} {below : List Frame} {meth : Method} {c : Code} {G : xG} {sz : Nat} {o : Unit × Mm} (X : xC G true sz p s m args c cX12_counter 3 wsX12_counter RX12 meth none)    : ∀ (n : Nat) (v2 : Int32) (S : Mm) (H : Heap) (locs : List Loc) (ls : Array Slot), L_X12_counter_64  n v2 S = some o → xW G true sz s H locs S → lv_has ls 3 [(0, .ref (G.2.2 200 0)), (2, .int v2)] → wX p l e rmX12_counter s m args below meth c H locs (xQv G true sz o) (XA G true sz) 64 ls [] := by
  intro n
  induction n with
  | zero =>
    intro v2 S H locs ls h
    cases h
  | succ n ih =>
    intro v2 S H locs ls h hW  hl
    rw [L_X12_counter_64] at h
    refine lv_iload_n X.1 X.2.1 dX12_counter_64 rfl (lv_at hl 1 rfl) ?_
    refine lv_bipush (v := 16) X.1 X.2.1 dX12_counter_65 rfl ?_
    refine x_icmp_ge X (tgt := 88) dX12_counter_67 (by decide) h (fun h => ?_) (fun h => ?_)
    · exact x_vret X hW h dX12_counter_88
    · refine lv_aload_n X.1 X.2.1 dX12_counter_70 rfl (lv_at hl 0 rfl) ?_
      refine x_getR X hW fd_Model_stream (fun w h => List.mem_cons_of_mem _ (gin_X12 w h)) (List.mem_cons_of_mem _ gw163) z_1 dX12_counter_71 ?_
      refine lv_iload_n X.1 X.2.1 dX12_counter_74 rfl (lv_at hl 1 rfl) ?_
      refine lv_aload_n X.1 X.2.1 dX12_counter_75 rfl (lv_at hl 0 rfl) ?_
      refine x_getR X hW fd_Model_cells (fun w h => List.mem_cons_of_mem _ (gin_X12 w h)) (List.mem_cons_of_mem _ gw159) z_1 dX12_counter_76 ?_
      refine lv_iload_n X.1 X.2.1 dX12_counter_79 rfl (lv_at hl 1 rfl) ?_
      refine x_iald X hW ar_209 dX12_counter_80 h (fun x9 h => ?_)
      refine x_iast X hW ar_213 dX12_counter_81 h (fun S10 H locs h hW => ?_)
      refine lv_iinc (v := (v2 + 1)) (lv' := [(2, .int (v2 + 1)), (0, .ref (G.2.2 200 0))]) X.1 X.2.1 dX12_counter_82 hl (k := 1) rfl rfl (by decide) rfl (fun ls hl => ?_)
      refine lv_goto (tgt := 64) X.1 X.2.1 dX12_counter_85 (by decide) ?_
      exact ih (v2 + 1) S10 _ _ _ h hW  (lv_sub hl [1, 0] rfl)
set_option maxRecDepth 100000 in
set_option maxHeartbeats 4000000 in
theorem w_X12_counter_9 {p : Program} {l : Launch} {e : Env} {s : State} {m : MethodId} {args : Array Value} {below : List Frame} {meth : Method} {c : Code} {G : xG} {sz : Nat} {o : Unit × Mm} (X : xC G true sz p s m args c cX12_counter 3 wsX12_counter RX12 meth none) (v1 : Int32)   : ∀ (n : Nat) (v2 : Int32) (S : Mm) (H : Heap) (locs : List Loc) (ls : Array Slot), L_X12_counter_9 v1 n v2 S = some o → xW G true sz s H locs S → lv_has ls 3 [(0, .ref (G.2.2 200 0)), (1, .int v1), (2, .int v2)] → wX p l e rmX12_counter s m args below meth c H locs (xQv G true sz o) (XA G true sz) 9 ls [] := by
  intro n
  induction n with
  | zero =>
    intro v2 S H locs ls h
    cases h
  | succ n ih =>
    intro v2 S H locs ls h hW  hl
    rw [L_X12_counter_9] at h
    refine lv_iload_n X.1 X.2.1 dX12_counter_9 rfl (lv_at hl 2 rfl) ?_
    refine lv_bipush (v := 13) X.1 X.2.1 dX12_counter_10 rfl ?_
    refine x_icmp_ge X (tgt := 35) dX12_counter_12 (by decide) h (fun h => ?_) (fun h => ?_)
    · refine lv_aload_n X.1 X.2.1 dX12_counter_35 rfl (lv_at hl 0 rfl) ?_
      refine x_getR X hW fd_Model_cells (fun w h => List.mem_cons_of_mem _ (gin_X12 w h)) (List.mem_cons_of_mem _ gw159) z_1 dX12_counter_36 ?_
      refine lv_bipush (v := 14) X.1 X.2.1 dX12_counter_39 rfl ?_
      refine lv_iload_n X.1 X.2.1 dX12_counter_41 rfl (lv_at hl 1 rfl) ?_
      refine lv_bipush (v := 8) X.1 X.2.1 dX12_counter_42 rfl ?_
      refine lv_ishr X.1 X.2.1 dX12_counter_44 ?_
      refine x_iast X hW ar_209 dX12_counter_45 h (fun S2 H locs h hW => ?_)
      refine lv_aload_n X.1 X.2.1 dX12_counter_46 rfl (lv_at hl 0 rfl) ?_
      refine x_getR X hW fd_Model_cells (fun w h => List.mem_cons_of_mem _ (gin_X12 w h)) (List.mem_cons_of_mem _ gw159) z_1 dX12_counter_47 ?_
      refine lv_bipush (v := 15) X.1 X.2.1 dX12_counter_50 rfl ?_
      refine lv_iload_n X.1 X.2.1 dX12_counter_52 rfl (lv_at hl 1 rfl) ?_
      refine lv_sipush (v := 255) X.1 X.2.1 dX12_counter_53 rfl ?_
      refine lv_iand X.1 X.2.1 dX12_counter_56 ?_
      refine x_iast X hW ar_209 dX12_counter_57 h (fun S3 H locs h hW => ?_)
      refine lv_aload_n X.1 X.2.1 dX12_counter_58 rfl (lv_at hl 0 rfl) ?_
      obtain ⟨r4, S5, h6, h⟩ := cl_some h
      refine x_aftV X hW (x_runV (C := RX12) (a := G.2.2 200 0) (As := []) (rest := []) X hW (c_X12_encipher l G X.2.2.2.2.2.2.2.2.2.1 _ S3 _ h6) (cwV 0 X.2.2.2.2.1 (gV gw1066 gw1067 gw1068 gw5 gw1069) rfl rfl rfl ⟨rfl, hd_X12_encipher⟩ ⟨Nat.le_of_ble_eq_true rfl, Nat.le_of_ble_eq_true rfl⟩) (x_recv X hW ob_Model z_1) rfl hl.1 rfl (Nat.le_of_ble_eq_true rfl) dX12_counter_59 ⟨Nat.zero_le _, Nat.zero_le _⟩) (fun H locs hW => ?_)
      refine lv_iconst (v := 0) X.1 X.2.1 dX12_counter_62 rfl ?_
      refine lv_istore_n (lv' := [(2, .int 0), (0, .ref (G.2.2 200 0)), (1, .int v1)]) X.1 X.2.1 dX12_counter_63 rfl hl (by decide) rfl (fun ls hl => ?_)
      exact w_X12_counter_64 X    fu 0 S5 _ _ _ h hW  (lv_sub hl [1, 0] rfl)
    · refine lv_aload_n X.1 X.2.1 dX12_counter_15 rfl (lv_at hl 0 rfl) ?_
      refine x_getR X hW fd_Model_cells (fun w h => List.mem_cons_of_mem _ (gin_X12 w h)) (List.mem_cons_of_mem _ gw159) z_1 dX12_counter_16 ?_
      refine lv_iconst (v := 1) X.1 X.2.1 dX12_counter_19 rfl ?_
      refine lv_iload_n X.1 X.2.1 dX12_counter_20 rfl (lv_at hl 2 rfl) ?_
      refine lv_iadd X.1 X.2.1 dX12_counter_21 ?_
      refine lv_aload_n X.1 X.2.1 dX12_counter_22 rfl (lv_at hl 0 rfl) ?_
      refine x_getR X hW fd_Model_number (fun w h => List.mem_cons_of_mem _ (gin_X12 w h)) (List.mem_cons_of_mem _ gw161) z_1 dX12_counter_23 ?_
      refine lv_iload_n X.1 X.2.1 dX12_counter_26 rfl (lv_at hl 2 rfl) ?_
      refine x_iald X hW ar_211 dX12_counter_27 h (fun x7 h => ?_)
      refine x_iast X hW ar_209 dX12_counter_28 h (fun S8 H locs h hW => ?_)
      refine lv_iinc (v := (v2 + 1)) (lv' := [(2, .int (v2 + 1)), (0, .ref (G.2.2 200 0)), (1, .int v1)]) X.1 X.2.1 dX12_counter_29 hl (k := 2) rfl rfl (by decide) rfl (fun ls hl => ?_)
      refine lv_goto (tgt := 9) X.1 X.2.1 dX12_counter_32 (by decide) ?_
      exact ih (v2 + 1) S8 _ _ _ h hW  (lv_sub hl [1, 2, 0] rfl)
set_option maxRecDepth 100000 in
set_option maxHeartbeats 4000000 in
theorem w_X12_counter_0 {p : Program} {l : Launch} {e : Env} {s : State} {m : MethodId} {args : Array Value} {below : List Frame} {meth : Method} {c : Code} {G : xG} {sz : Nat} {o : Unit × Mm} (X : xC G true sz p s m args c cX12_counter 3 wsX12_counter RX12 meth none) (v1 : Int32) {S : Mm} {H : Heap} {locs : List Loc} {ls : Array Slot} (hW : xW G true sz s H locs S) (hl : lv_has ls 3 [(0, .ref (G.2.2 200 0)), (1, .int v1)]) (h : F_X12_counter v1 S = some o) : wX p l e rmX12_counter s m args below meth c H locs (xQv G true sz o) (XA G true sz) 0 ls [] := by
  unfold F_X12_counter at h
  refine lv_aload_n X.1 X.2.1 dX12_counter_0 rfl (lv_at hl 0 rfl) ?_
  refine x_getR X hW fd_Model_cells (fun w h => List.mem_cons_of_mem _ (gin_X12 w h)) (List.mem_cons_of_mem _ gw159) z_1 dX12_counter_1 ?_
  refine lv_iconst (v := 0) X.1 X.2.1 dX12_counter_4 rfl ?_
  refine lv_iconst (v := 1) X.1 X.2.1 dX12_counter_5 rfl ?_
  refine x_iast X hW ar_209 dX12_counter_6 h (fun S1 H locs h hW => ?_)
  refine lv_iconst (v := 0) X.1 X.2.1 dX12_counter_7 rfl ?_
  refine lv_istore_n (lv' := [(2, .int 0), (0, .ref (G.2.2 200 0)), (1, .int v1)]) X.1 X.2.1 dX12_counter_8 rfl hl (by decide) rfl (fun ls hl => ?_)
  exact w_X12_counter_9 X v1   fu 0 S1 _ _ _ h hW  (lv_sub hl [1, 2, 0] rfl)
theorem c_X12_counter (l : Launch) (G : xG) (hD : xD G true) (sz : Nat) (S : Mm) (v1 : Int32) (o : Unit × Mm) (h : F_X12_counter v1 S = some o) : Met l yX12_counter wsX12_counter rmX12_counter (xPre G true S sz [.ref (G.2.2 200 0), .int v1]) (xQv G true sz o) 0 0 (XA G true sz) :=
  x_start hD (by decide) rfl (Nat.le_of_ble_eq_true rfl) (fun p e s m below meth c X hW ls hl => w_X12_counter_0 X v1 hW hl h)

/-! WirelessCellModel.findTag([II[III)V -/
def rmX12_findTag : Room := { frames := 3, cells := 0, slots := 0, locals := 69 }
def L_X12_findTag_155 (k72 : Int32 → Mm → Option (Unit × Mm)) (cv1 : Nat) (v1 : Nat) (v2 : Int32) (cv3 : Nat) (v3 : Nat) (v4 : Int32) (v5 : Int32) (v6 : Int32) (S : Mm) : Option (Unit × Mm) :=
  k72 (v6 + 1) S
def L_X12_findTag_233 (k164 : Int32 → Mm → Option (Unit × Mm)) (cv3 : Nat) (v3 : Nat) (v4 : Int32) (v5 : Int32) (v6 : Int32) (S : Mm) : Option (Unit × Mm) :=
  k164 (v6 + 1) S
def L_X12_findTag_247   : Nat → Int32 → Mm → Option (Unit × Mm)
  | 0, _, _ => none
  | n + 1, v6, S => 
    if 8 ≤ v6 then (
    some ((), S))
    else (
    ldA S 212 0 16 1 v6 fun x26 =>
    ldA S 213 0 16 1 v6 fun x27 =>
    stA S 214 0 8 1 v6 (x26 ^^^ x27) fun S28 =>
    (L_X12_findTag_247  n) (v6 + 1) S28)
def L_X12_findTag_116 (k72 : Int32 → Mm → Option (Unit × Mm)) (cv1 : Nat) (v1 : Nat) (v2 : Int32) (cv3 : Nat) (v3 : Nat) (v4 : Int32) (v5 : Int32) (v6 : Int32) (s0 : Int32) (S : Mm) : Option (Unit × Mm) :=
  ldA S 212 0 16 1 (v6 - v6 / 16 * 16) fun x12 =>
  stA S 212 0 16 1 (v6 - v6 / 16 * 16) (x12 ^^^ s0) fun S13 =>
  if (v6 - v6 / 16 * 16) = 15 then (
  cl (F_X12_chainStep S13) fun r14 S15 =>
  L_X12_findTag_155 k72 cv1 v1 v2 cv3 v3 v4 v5 v6 S15)
  else (
  L_X12_findTag_155 k72 cv1 v1 v2 cv3 v3 v4 v5 v6 S13)
def L_X12_findTag_217 (k164 : Int32 → Mm → Option (Unit × Mm)) (cv3 : Nat) (v3 : Nat) (v4 : Int32) (v5 : Int32) (v6 : Int32) (s1 : Int32) (s2 : Int32) (s3 : Int32) (S : Mm) : Option (Unit × Mm) :=
  stA S 212 0 16 1 s1 (s2 ^^^ s3) fun S22 =>
  if (v6 - v6 / 16 * 16) = 15 then (
  cl (F_X12_chainStep S22) fun r23 S24 =>
  L_X12_findTag_233 k164 cv3 v3 v4 v5 v6 S24)
  else (
  L_X12_findTag_233 k164 cv3 v3 v4 v5 v6 S22)
def L_X12_findTag_115 (k72 : Int32 → Mm → Option (Unit × Mm)) (cv1 : Nat) (v1 : Nat) (v2 : Int32) (cv3 : Nat) (v3 : Nat) (v4 : Int32) (v5 : Int32) (v6 : Int32) (S : Mm) : Option (Unit × Mm) :=
  L_X12_findTag_116 k72 cv1 v1 v2 cv3 v3 v4 v5 v6 0 S
def L_X12_findTag_164  (cv3 : Nat) (v3 : Nat) (v4 : Int32) (v5 : Int32) : Nat → Int32 → Mm → Option (Unit × Mm)
  | 0, _, _ => none
  | n + 1, v6, S => 
    if (((v5 + 15) / 16) * 16) ≤ v6 then (
    cl (F_X12_counter 0 S) fun r17 S18 =>
    L_X12_findTag_247   fu 0 S18)
    else (
    ldA S 212 0 16 1 (v6 - v6 / 16 * 16) fun x20 =>
    if v5 ≤ v6 then (
    L_X12_findTag_217 (L_X12_findTag_164 cv3 v3 v4 v5 n) cv3 v3 v4 v5 v6 (v6 - v6 / 16 * 16) x20 0 S)
    else (
    ldP true S cv3 v3 (v4 + v6) fun x21 =>
    L_X12_findTag_217 (L_X12_findTag_164 cv3 v3 v4 v5 n) cv3 v3 v4 v5 v6 (v6 - v6 / 16 * 16) x20 x21 S))
def L_X12_findTag_72  (cv1 : Nat) (v1 : Nat) (v2 : Int32) (cv3 : Nat) (v3 : Nat) (v4 : Int32) (v5 : Int32) : Nat → Int32 → Mm → Option (Unit × Mm)
  | 0, _, _ => none
  | n + 1, v6, S => 
    if 32 ≤ v6 then (
    L_X12_findTag_164  cv3 v3 v4 v5 fu 0 S)
    else (
    if v6 = 1 then (
    L_X12_findTag_116 (L_X12_findTag_72 cv1 v1 v2 cv3 v3 v4 v5 n) cv1 v1 v2 cv3 v3 v4 v5 v6 22 S)
    else (
    if v6 < 2 then (
    L_X12_findTag_115 (L_X12_findTag_72 cv1 v1 v2 cv3 v3 v4 v5 n) cv1 v1 v2 cv3 v3 v4 v5 v6 S)
    else (
    if 24 ≤ v6 then (
    L_X12_findTag_115 (L_X12_findTag_72 cv1 v1 v2 cv3 v3 v4 v5 n) cv1 v1 v2 cv3 v3 v4 v5 v6 S)
    else (
    cl (F_X12_besideAt cv1 v1 v2 (v6 - 2) S) fun r9 S10 =>
    L_X12_findTag_116 (L_X12_findTag_72 cv1 v1 v2 cv3 v3 v4 v5 n) cv1 v1 v2 cv3 v3 v4 v5 v6 r9 S10))))
def L_X12_findTag_11  (cv1 : Nat) (v1 : Nat) (v2 : Int32) (cv3 : Nat) (v3 : Nat) (v4 : Int32) (v5 : Int32) : Nat → Int32 → Mm → Option (Unit × Mm)
  | 0, _, _ => none
  | n + 1, v6, S => 
    if 13 ≤ v6 then (
    stA S 212 0 16 1 14 (v5 >>> (8 &&& 31)) fun S2 =>
    stA S2 212 0 16 1 15 (v5 &&& 255) fun S3 =>
    cl (F_X12_chainStep S3) fun r4 S5 =>
    L_X12_findTag_72  cv1 v1 v2 cv3 v3 v4 v5 fu 0 S5)
    else (
    ldA S 211 0 13 1 v6 fun x7 =>
    stA S 212 0 16 1 (1 + v6) x7 fun S8 =>
    (L_X12_findTag_11 cv1 v1 v2 cv3 v3 v4 v5 n) (v6 + 1) S8)
def F_X12_findTag (cv1 : Nat) (v1 : Nat) (v2 : Int32) (cv3 : Nat) (v3 : Nat) (v4 : Int32) (v5 : Int32) (S : Mm) : Option (Unit × Mm) :=
  stA S 212 0 16 1 0 89 fun S1 =>
  L_X12_findTag_11  cv1 v1 v2 cv3 v3 v4 v5 fu 0 S1
set_option maxRecDepth 100000 in
set_option maxHeartbeats 4000000 in
theorem w_X12_findTag_155 {p : Program} {l : Launch} {e : Env} {s : State} {m : MethodId} {args : Array Value} {below : List Frame} {meth : Method} {c : Code} {G : xG} {sz : Nat} {o : Unit × Mm} (X : xC G true sz p s m args c cX12_findTag 8 wsX12_findTag RX12 meth none) (cv1 : Nat) (v1 : Nat) (v2 : Int32) (cv3 : Nat) (v3 : Nat) (v4 : Int32) (v5 : Int32) (v6 : Int32)  (k72 : Int32 → Mm → Option (Unit × Mm)) (hk72 : ∀ (v6 : Int32) (S : Mm) (H : Heap) (locs : List Loc) (ls : Array Slot), k72 v6 S = some o → xW G true sz s H locs S → lv_has ls 8 [(0, .ref (G.2.2 200 0)), (1, .ref (G.2.2 cv1 v1)), (2, .int v2), (3, .ref (G.2.2 cv3 v3)), (4, .int v4), (5, .int v5), (6, .int v6)] → wX p l e rmX12_findTag s m args below meth c H locs (xQv G true sz o) (XA G true sz) 72 ls []) {S : Mm} {H : Heap} {locs : List Loc} {ls : Array Slot} (hW : xW G true sz s H locs S) (hl : lv_has ls 8 [(0, .ref (G.2.2 200 0)), (1, .ref (G.2.2 cv1 v1)), (2, .int v2), (3, .ref (G.2.2 cv3 v3)), (4, .int v4), (5, .int v5), (6, .int v6)]) (h : L_X12_findTag_155 k72 cv1 v1 v2 cv3 v3 v4 v5 v6 S = some o) : wX p l e rmX12_findTag s m args below meth c H locs (xQv G true sz o) (XA G true sz) 155 ls [] := by
  unfold L_X12_findTag_155 at h
  refine lv_iinc (v := (v6 + 1)) (lv' := [(6, .int (v6 + 1)), (0, .ref (G.2.2 200 0)), (1, .ref (G.2.2 cv1 v1)), (2, .int v2), (3, .ref (G.2.2 cv3 v3)), (4, .int v4), (5, .int v5)]) X.1 X.2.1 dX12_findTag_155 hl (k := 6) rfl rfl (by decide) rfl (fun ls hl => ?_)
  refine lv_goto (tgt := 72) X.1 X.2.1 dX12_findTag_158 (by decide) ?_
  exact hk72 (v6 + 1) S _ _ _ h hW  (lv_sub hl [1, 2, 3, 4, 5, 6, 0] rfl)
set_option maxRecDepth 100000 in
set_option maxHeartbeats 4000000 in
theorem w_X12_findTag_233 {p : Program} {l : Launch} {e : Env} {s : State} {m : MethodId} {args : Array Value} {below : List Frame} {meth : Method} {c : Code} {G : xG} {sz : Nat} {o : Unit × Mm} (X : xC G true sz p s m args c cX12_findTag 8 wsX12_findTag RX12 meth none) (cv3 : Nat) (v3 : Nat) (v4 : Int32) (v5 : Int32) (v6 : Int32)  (k164 : Int32 → Mm → Option (Unit × Mm)) (hk164 : ∀ (v6 : Int32) (S : Mm) (H : Heap) (locs : List Loc) (ls : Array Slot), k164 v6 S = some o → xW G true sz s H locs S → lv_has ls 8 [(0, .ref (G.2.2 200 0)), (3, .ref (G.2.2 cv3 v3)), (4, .int v4), (5, .int v5), (6, .int v6)] → wX p l e rmX12_findTag s m args below meth c H locs (xQv G true sz o) (XA G true sz) 164 ls []) {S : Mm} {H : Heap} {locs : List Loc} {ls : Array Slot} (hW : xW G true sz s H locs S) (hl : lv_has ls 8 [(0, .ref (G.2.2 200 0)), (3, .ref (G.2.2 cv3 v3)), (4, .int v4), (5, .int v5), (6, .int v6)]) (h : L_X12_findTag_233 k164 cv3 v3 v4 v5 v6 S = some o) : wX p l e rmX12_findTag s m args below meth c H locs (xQv G true sz o) (XA G true sz) 233 ls [] := by
  unfold L_X12_findTag_233 at h
  refine lv_iinc (v := (v6 + 1)) (lv' := [(6, .int (v6 + 1)), (0, .ref (G.2.2 200 0)), (3, .ref (G.2.2 cv3 v3)), (4, .int v4), (5, .int v5)]) X.1 X.2.1 dX12_findTag_233 hl (k := 4) rfl rfl (by decide) rfl (fun ls hl => ?_)
  refine lv_goto (tgt := 164) X.1 X.2.1 dX12_findTag_236 (by decide) ?_
  exact hk164 (v6 + 1) S _ _ _ h hW  (lv_sub hl [1, 2, 3, 4, 0] rfl)
set_option maxRecDepth 100000 in
set_option maxHeartbeats 4000000 in
theorem w_X12_findTag_247 {p : Program} {l : Launch} {e : Env} {s : State} {m : MethodId} {args : Array Value} {below : List Frame} {meth : Method} {c : Code} {G : xG} {sz : Nat} {o : Unit × Mm} (X : xC G true sz p s m args c cX12_findTag 8 wsX12_findTag RX12 meth none)    : ∀ (n : Nat) (v6 : Int32) (S : Mm) (H : Heap) (locs : List Loc) (ls : Array Slot), L_X12_findTag_247  n v6 S = some o → xW G true sz s H locs S → lv_has ls 8 [(0, .ref (G.2.2 200 0)), (6, .int v6)] → wX p l e rmX12_findTag s m args below meth c H locs (xQv G true sz o) (XA G true sz) 247 ls [] := by
  intro n
  induction n with
  | zero =>
    intro v6 S H locs ls h
    cases h
  | succ n ih =>
    intro v6 S H locs ls h hW  hl
    rw [L_X12_findTag_247] at h
    refine lv_iload X.1 X.2.1 dX12_findTag_247 (lv_at hl 1 rfl) ?_
    refine lv_bipush (v := 8) X.1 X.2.1 dX12_findTag_249 rfl ?_
    refine x_icmp_ge X (tgt := 282) dX12_findTag_251 (by decide) h (fun h => ?_) (fun h => ?_)
    · exact x_vret X hW h dX12_findTag_282
    · refine lv_aload_n X.1 X.2.1 dX12_findTag_254 rfl (lv_at hl 0 rfl) ?_
      refine x_getR X hW fd_Model_tag (fun w h => List.mem_cons_of_mem _ (gin_X12 w h)) (List.mem_cons_of_mem _ gw164) z_1 dX12_findTag_255 ?_
      refine lv_iload X.1 X.2.1 dX12_findTag_258 (lv_at hl 1 rfl) ?_
      refine lv_aload_n X.1 X.2.1 dX12_findTag_260 rfl (lv_at hl 0 rfl) ?_
      refine x_getR X hW fd_Model_chain (fun w h => List.mem_cons_of_mem _ (gin_X12 w h)) (List.mem_cons_of_mem _ gw162) z_1 dX12_findTag_261 ?_
      refine lv_iload X.1 X.2.1 dX12_findTag_264 (lv_at hl 1 rfl) ?_
      refine x_iald X hW ar_212 dX12_findTag_266 h (fun x26 h => ?_)
      refine lv_aload_n X.1 X.2.1 dX12_findTag_267 rfl (lv_at hl 0 rfl) ?_
      refine x_getR X hW fd_Model_stream (fun w h => List.mem_cons_of_mem _ (gin_X12 w h)) (List.mem_cons_of_mem _ gw163) z_1 dX12_findTag_268 ?_
      refine lv_iload X.1 X.2.1 dX12_findTag_271 (lv_at hl 1 rfl) ?_
      refine x_iald X hW ar_213 dX12_findTag_273 h (fun x27 h => ?_)
      refine lv_ixor X.1 X.2.1 dX12_findTag_274 ?_
      refine x_iast X hW ar_214 dX12_findTag_275 h (fun S28 H locs h hW => ?_)
      refine lv_iinc (v := (v6 + 1)) (lv' := [(6, .int (v6 + 1)), (0, .ref (G.2.2 200 0))]) X.1 X.2.1 dX12_findTag_276 hl (k := 1) rfl rfl (by decide) rfl (fun ls hl => ?_)
      refine lv_goto (tgt := 247) X.1 X.2.1 dX12_findTag_279 (by decide) ?_
      exact ih (v6 + 1) S28 _ _ _ h hW  (lv_sub hl [1, 0] rfl)
set_option maxRecDepth 100000 in
set_option maxHeartbeats 4000000 in
theorem w_X12_findTag_116 {p : Program} {l : Launch} {e : Env} {s : State} {m : MethodId} {args : Array Value} {below : List Frame} {meth : Method} {c : Code} {G : xG} {sz : Nat} {o : Unit × Mm} (X : xC G true sz p s m args c cX12_findTag 8 wsX12_findTag RX12 meth none) (cv1 : Nat) (v1 : Nat) (v2 : Int32) (cv3 : Nat) (v3 : Nat) (v4 : Int32) (v5 : Int32) (v6 : Int32) (s0 : Int32)  (k72 : Int32 → Mm → Option (Unit × Mm)) (hk72 : ∀ (v6 : Int32) (S : Mm) (H : Heap) (locs : List Loc) (ls : Array Slot), k72 v6 S = some o → xW G true sz s H locs S → lv_has ls 8 [(0, .ref (G.2.2 200 0)), (1, .ref (G.2.2 cv1 v1)), (2, .int v2), (3, .ref (G.2.2 cv3 v3)), (4, .int v4), (5, .int v5), (6, .int v6)] → wX p l e rmX12_findTag s m args below meth c H locs (xQv G true sz o) (XA G true sz) 72 ls []) {S : Mm} {H : Heap} {locs : List Loc} {ls : Array Slot} (hW : xW G true sz s H locs S) (hl : lv_has ls 8 [(0, .ref (G.2.2 200 0)), (1, .ref (G.2.2 cv1 v1)), (2, .int v2), (3, .ref (G.2.2 cv3 v3)), (4, .int v4), (5, .int v5), (6, .int v6)]) (h : L_X12_findTag_116 k72 cv1 v1 v2 cv3 v3 v4 v5 v6 s0 S = some o) : wX p l e rmX12_findTag s m args below meth c H locs (xQv G true sz o) (XA G true sz) 116 ls [.int s0] := by
  unfold L_X12_findTag_116 at h
  refine lv_istore (lv' := [(7, .int s0), (0, .ref (G.2.2 200 0)), (1, .ref (G.2.2 cv1 v1)), (2, .int v2), (3, .ref (G.2.2 cv3 v3)), (4, .int v4), (5, .int v5), (6, .int v6)]) X.1 X.2.1 dX12_findTag_116 hl (by decide) rfl (fun ls hl => ?_)
  refine lv_aload_n X.1 X.2.1 dX12_findTag_118 rfl (lv_at hl 1 rfl) ?_
  refine x_getR X hW fd_Model_chain (fun w h => List.mem_cons_of_mem _ (gin_X12 w h)) (List.mem_cons_of_mem _ gw162) z_1 dX12_findTag_119 ?_
  refine lv_iload X.1 X.2.1 dX12_findTag_122 (lv_at hl 7 rfl) ?_
  refine lv_bipush (v := 16) X.1 X.2.1 dX12_findTag_124 rfl ?_
  refine lv_irem X.1 X.2.1 dX12_findTag_126 (by decide) ?_
  refine lv_aload_n X.1 X.2.1 dX12_findTag_127 rfl (lv_at hl 1 rfl) ?_
  refine x_getR X hW fd_Model_chain (fun w h => List.mem_cons_of_mem _ (gin_X12 w h)) (List.mem_cons_of_mem _ gw162) z_1 dX12_findTag_128 ?_
  refine lv_iload X.1 X.2.1 dX12_findTag_131 (lv_at hl 7 rfl) ?_
  refine lv_bipush (v := 16) X.1 X.2.1 dX12_findTag_133 rfl ?_
  refine lv_irem X.1 X.2.1 dX12_findTag_135 (by decide) ?_
  refine x_iald X hW ar_212 dX12_findTag_136 h (fun x12 h => ?_)
  refine lv_iload X.1 X.2.1 dX12_findTag_137 (lv_at hl 0 rfl) ?_
  refine lv_ixor X.1 X.2.1 dX12_findTag_139 ?_
  refine x_iast X hW ar_212 dX12_findTag_140 h (fun S13 H locs h hW => ?_)
  refine lv_iload X.1 X.2.1 dX12_findTag_141 (lv_at hl 7 rfl) ?_
  refine lv_bipush (v := 16) X.1 X.2.1 dX12_findTag_143 rfl ?_
  refine lv_irem X.1 X.2.1 dX12_findTag_145 (by decide) ?_
  refine lv_bipush (v := 15) X.1 X.2.1 dX12_findTag_146 rfl ?_
  refine x_icmp_ne X (tgt := 155) dX12_findTag_148 (by decide) h (fun h => ?_) (fun h => ?_)
  · exact w_X12_findTag_155 X cv1 v1 v2 cv3 v3 v4 v5 v6  k72 hk72 hW (lv_sub hl [1, 2, 3, 4, 5, 6, 7] rfl) h
  · refine lv_aload_n X.1 X.2.1 dX12_findTag_151 rfl (lv_at hl 1 rfl) ?_
    obtain ⟨r14, S15, h16, h⟩ := cl_some h
    refine x_aftV X hW (x_runV (C := RX12) (a := G.2.2 200 0) (As := []) (rest := []) X hW (c_X12_chainStep l G X.2.2.2.2.2.2.2.2.2.1 _ S13 _ h16) (cwV 0 X.2.2.2.2.1 (gV gw1062 gw1063 gw1064 gw5 gw1065) rfl rfl rfl ⟨rfl, hd_X12_chainStep⟩ ⟨Nat.le_of_ble_eq_true rfl, Nat.le_of_ble_eq_true rfl⟩) (x_recv X hW ob_Model z_1) rfl hl.1 rfl (Nat.le_of_ble_eq_true rfl) dX12_findTag_152 ⟨Nat.zero_le _, Nat.zero_le _⟩) (fun H locs hW => ?_)
    exact w_X12_findTag_155 X cv1 v1 v2 cv3 v3 v4 v5 v6  k72 hk72 hW (lv_sub hl [1, 2, 3, 4, 5, 6, 7] rfl) h
set_option maxRecDepth 100000 in
set_option maxHeartbeats 4000000 in
theorem w_X12_findTag_217 {p : Program} {l : Launch} {e : Env} {s : State} {m : MethodId} {args : Array Value} {below : List Frame} {meth : Method} {c : Code} {G : xG} {sz : Nat} {o : Unit × Mm} (X : xC G true sz p s m args c cX12_findTag 8 wsX12_findTag RX12 meth none) (cv3 : Nat) (v3 : Nat) (v4 : Int32) (v5 : Int32) (v6 : Int32) (s1 : Int32) (s2 : Int32) (s3 : Int32)  (k164 : Int32 → Mm → Option (Unit × Mm)) (hk164 : ∀ (v6 : Int32) (S : Mm) (H : Heap) (locs : List Loc) (ls : Array Slot), k164 v6 S = some o → xW G true sz s H locs S → lv_has ls 8 [(0, .ref (G.2.2 200 0)), (3, .ref (G.2.2 cv3 v3)), (4, .int v4), (5, .int v5), (6, .int v6)] → wX p l e rmX12_findTag s m args below meth c H locs (xQv G true sz o) (XA G true sz) 164 ls []) {S : Mm} {H : Heap} {locs : List Loc} {ls : Array Slot} (hW : xW G true sz s H locs S) (hl : lv_has ls 8 [(0, .ref (G.2.2 200 0)), (3, .ref (G.2.2 cv3 v3)), (4, .int v4), (5, .int v5), (6, .int v6)]) (h : L_X12_findTag_217 k164 cv3 v3 v4 v5 v6 s1 s2 s3 S = some o) : wX p l e rmX12_findTag s m args below meth c H locs (xQv G true sz o) (XA G true sz) 217 ls [.int s3, .int s2, .int s1, .ref (G.2.2 212 0)] := by
  unfold L_X12_findTag_217 at h
  refine lv_ixor X.1 X.2.1 dX12_findTag_217 ?_
  refine x_iast X hW ar_212 dX12_findTag_218 h (fun S22 H locs h hW => ?_)
  refine lv_iload X.1 X.2.1 dX12_findTag_219 (lv_at hl 4 rfl) ?_
  refine lv_bipush (v := 16) X.1 X.2.1 dX12_findTag_221 rfl ?_
  refine lv_irem X.1 X.2.1 dX12_findTag_223 (by decide) ?_
  refine lv_bipush (v := 15) X.1 X.2.1 dX12_findTag_224 rfl ?_
  refine x_icmp_ne X (tgt := 233) dX12_findTag_226 (by decide) h (fun h => ?_) (fun h => ?_)
  · exact w_X12_findTag_233 X cv3 v3 v4 v5 v6  k164 hk164 hW (lv_sub hl [0, 1, 2, 3, 4] rfl) h
  · refine lv_aload_n X.1 X.2.1 dX12_findTag_229 rfl (lv_at hl 0 rfl) ?_
    obtain ⟨r23, S24, h25, h⟩ := cl_some h
    refine x_aftV X hW (x_runV (C := RX12) (a := G.2.2 200 0) (As := []) (rest := []) X hW (c_X12_chainStep l G X.2.2.2.2.2.2.2.2.2.1 _ S22 _ h25) (cwV 0 X.2.2.2.2.1 (gV gw1062 gw1063 gw1064 gw5 gw1065) rfl rfl rfl ⟨rfl, hd_X12_chainStep⟩ ⟨Nat.le_of_ble_eq_true rfl, Nat.le_of_ble_eq_true rfl⟩) (x_recv X hW ob_Model z_1) rfl hl.1 rfl (Nat.le_of_ble_eq_true rfl) dX12_findTag_230 ⟨Nat.zero_le _, Nat.zero_le _⟩) (fun H locs hW => ?_)
    exact w_X12_findTag_233 X cv3 v3 v4 v5 v6  k164 hk164 hW (lv_sub hl [0, 1, 2, 3, 4] rfl) h
set_option maxRecDepth 100000 in
set_option maxHeartbeats 4000000 in
theorem w_X12_findTag_115 {p : Program} {l : Launch} {e : Env} {s : State} {m : MethodId} {args : Array Value} {below : List Frame} {meth : Method} {c : Code} {G : xG} {sz : Nat} {o : Unit × Mm} (X : xC G true sz p s m args c cX12_findTag 8 wsX12_findTag RX12 meth none) (cv1 : Nat) (v1 : Nat) (v2 : Int32) (cv3 : Nat) (v3 : Nat) (v4 : Int32) (v5 : Int32) (v6 : Int32)  (k72 : Int32 → Mm → Option (Unit × Mm)) (hk72 : ∀ (v6 : Int32) (S : Mm) (H : Heap) (locs : List Loc) (ls : Array Slot), k72 v6 S = some o → xW G true sz s H locs S → lv_has ls 8 [(0, .ref (G.2.2 200 0)), (1, .ref (G.2.2 cv1 v1)), (2, .int v2), (3, .ref (G.2.2 cv3 v3)), (4, .int v4), (5, .int v5), (6, .int v6)] → wX p l e rmX12_findTag s m args below meth c H locs (xQv G true sz o) (XA G true sz) 72 ls []) {S : Mm} {H : Heap} {locs : List Loc} {ls : Array Slot} (hW : xW G true sz s H locs S) (hl : lv_has ls 8 [(0, .ref (G.2.2 200 0)), (1, .ref (G.2.2 cv1 v1)), (2, .int v2), (3, .ref (G.2.2 cv3 v3)), (4, .int v4), (5, .int v5), (6, .int v6)]) (h : L_X12_findTag_115 k72 cv1 v1 v2 cv3 v3 v4 v5 v6 S = some o) : wX p l e rmX12_findTag s m args below meth c H locs (xQv G true sz o) (XA G true sz) 115 ls [] := by
  unfold L_X12_findTag_115 at h
  refine lv_iconst (v := 0) X.1 X.2.1 dX12_findTag_115 rfl ?_
  exact w_X12_findTag_116 X cv1 v1 v2 cv3 v3 v4 v5 v6 0  k72 hk72 hW (lv_sub hl [0, 1, 2, 3, 4, 5, 6] rfl) h
set_option maxRecDepth 100000 in
set_option maxHeartbeats 4000000 in
theorem w_X12_findTag_164 {p : Program} {l : Launch} {e : Env} {s : State} {m : MethodId} {args : Array Value} {below : List Frame} {meth : Method} {c : Code} {G : xG} {sz : Nat} {o : Unit × Mm} (X : xC G true sz p s m args c cX12_findTag 8 wsX12_findTag RX12 meth none) (cv3 : Nat) (v3 : Nat) (v4 : Int32) (v5 : Int32)   : ∀ (n : Nat) (v6 : Int32) (S : Mm) (H : Heap) (locs : List Loc) (ls : Array Slot), L_X12_findTag_164 cv3 v3 v4 v5 n v6 S = some o → xW G true sz s H locs S → lv_has ls 8 [(0, .ref (G.2.2 200 0)), (3, .ref (G.2.2 cv3 v3)), (4, .int v4), (5, .int v5), (6, .int v6)] → wX p l e rmX12_findTag s m args below meth c H locs (xQv G true sz o) (XA G true sz) 164 ls [] := by
  intro n
  induction n with
  | zero =>
    intro v6 S H locs ls h
    cases h
  | succ n ih =>
    intro v6 S H locs ls h hW  hl
    rw [L_X12_findTag_164] at h
    refine lv_iload X.1 X.2.1 dX12_findTag_164 (lv_at hl 4 rfl) ?_
    refine lv_iload X.1 X.2.1 dX12_findTag_166 (lv_at hl 3 rfl) ?_
    refine lv_bipush (v := 15) X.1 X.2.1 dX12_findTag_168 rfl ?_
    refine lv_iadd X.1 X.2.1 dX12_findTag_170 ?_
    refine lv_bipush (v := 16) X.1 X.2.1 dX12_findTag_171 rfl ?_
    refine lv_idiv X.1 X.2.1 dX12_findTag_173 (by decide) ?_
    refine lv_bipush (v := 16) X.1 X.2.1 dX12_findTag_174 rfl ?_
    refine lv_imul X.1 X.2.1 dX12_findTag_176 ?_
    refine x_icmp_ge X (tgt := 239) dX12_findTag_177 (by decide) h (fun h => ?_) (fun h => ?_)
    · refine lv_aload_n X.1 X.2.1 dX12_findTag_239 rfl (lv_at hl 0 rfl) ?_
      refine lv_iconst (v := 0) X.1 X.2.1 dX12_findTag_240 rfl ?_
      obtain ⟨r17, S18, h19, h⟩ := cl_some h
      refine x_aftV X hW (x_runV (C := RX12) (a := G.2.2 200 0) (As := [.int 0]) (rest := []) X hW (c_X12_counter l G X.2.2.2.2.2.2.2.2.2.1 _ S 0 _ h19) (cwV 1 X.2.2.2.2.1 (gV gw1073 gw1074 gw1075 gw5 gw1076) rfl rfl rfl ⟨rfl, hd_X12_counter⟩ ⟨Nat.le_of_ble_eq_true rfl, Nat.le_of_ble_eq_true rfl⟩) (x_recv X hW ob_Model z_1) rfl hl.1 rfl (Nat.le_of_ble_eq_true rfl) dX12_findTag_241 ⟨Nat.zero_le _, Nat.zero_le _⟩) (fun H locs hW => ?_)
      refine lv_iconst (v := 0) X.1 X.2.1 dX12_findTag_244 rfl ?_
      refine lv_istore (lv' := [(6, .int 0), (0, .ref (G.2.2 200 0)), (3, .ref (G.2.2 cv3 v3)), (4, .int v4), (5, .int v5)]) X.1 X.2.1 dX12_findTag_245 hl (by decide) rfl (fun ls hl => ?_)
      exact w_X12_findTag_247 X    fu 0 S18 _ _ _ h hW  (lv_sub hl [1, 0] rfl)
    · refine lv_aload_n X.1 X.2.1 dX12_findTag_180 rfl (lv_at hl 0 rfl) ?_
      refine x_getR X hW fd_Model_chain (fun w h => List.mem_cons_of_mem _ (gin_X12 w h)) (List.mem_cons_of_mem _ gw162) z_1 dX12_findTag_181 ?_
      refine lv_iload X.1 X.2.1 dX12_findTag_184 (lv_at hl 4 rfl) ?_
      refine lv_bipush (v := 16) X.1 X.2.1 dX12_findTag_186 rfl ?_
      refine lv_irem X.1 X.2.1 dX12_findTag_188 (by decide) ?_
      refine lv_aload_n X.1 X.2.1 dX12_findTag_189 rfl (lv_at hl 0 rfl) ?_
      refine x_getR X hW fd_Model_chain (fun w h => List.mem_cons_of_mem _ (gin_X12 w h)) (List.mem_cons_of_mem _ gw162) z_1 dX12_findTag_190 ?_
      refine lv_iload X.1 X.2.1 dX12_findTag_193 (lv_at hl 4 rfl) ?_
      refine lv_bipush (v := 16) X.1 X.2.1 dX12_findTag_195 rfl ?_
      refine lv_irem X.1 X.2.1 dX12_findTag_197 (by decide) ?_
      refine x_iald X hW ar_212 dX12_findTag_198 h (fun x20 h => ?_)
      refine lv_iload X.1 X.2.1 dX12_findTag_199 (lv_at hl 4 rfl) ?_
      refine lv_iload X.1 X.2.1 dX12_findTag_201 (lv_at hl 3 rfl) ?_
      refine x_icmp_ge X (tgt := 216) dX12_findTag_203 (by decide) h (fun h => ?_) (fun h => ?_)
      · refine lv_iconst (v := 0) X.1 X.2.1 dX12_findTag_216 rfl ?_
        exact w_X12_findTag_217 X cv3 v3 v4 v5 v6 (v6 - v6 / 16 * 16) x20 0  (L_X12_findTag_164 cv3 v3 v4 v5 n) ih hW (lv_sub hl [0, 1, 2, 3, 4] rfl) h
      · refine lv_aload_n X.1 X.2.1 dX12_findTag_206 rfl (lv_at hl 1 rfl) ?_
        refine lv_iload X.1 X.2.1 dX12_findTag_207 (lv_at hl 2 rfl) ?_
        refine lv_iload X.1 X.2.1 dX12_findTag_209 (lv_at hl 4 rfl) ?_
        refine lv_iadd X.1 X.2.1 dX12_findTag_211 ?_
        refine x_ialdP X hW dX12_findTag_212 h (fun x21 h => ?_)
        refine lv_goto (tgt := 217) X.1 X.2.1 dX12_findTag_213 (by decide) ?_
        exact w_X12_findTag_217 X cv3 v3 v4 v5 v6 (v6 - v6 / 16 * 16) x20 x21  (L_X12_findTag_164 cv3 v3 v4 v5 n) ih hW (lv_sub hl [0, 1, 2, 3, 4] rfl) h
set_option maxRecDepth 100000 in
set_option maxHeartbeats 4000000 in
theorem w_X12_findTag_72 {p : Program} {l : Launch} {e : Env} {s : State} {m : MethodId} {args : Array Value} {below : List Frame} {meth : Method} {c : Code} {G : xG} {sz : Nat} {o : Unit × Mm} (X : xC G true sz p s m args c cX12_findTag 8 wsX12_findTag RX12 meth none) (cv1 : Nat) (v1 : Nat) (v2 : Int32) (cv3 : Nat) (v3 : Nat) (v4 : Int32) (v5 : Int32)   : ∀ (n : Nat) (v6 : Int32) (S : Mm) (H : Heap) (locs : List Loc) (ls : Array Slot), L_X12_findTag_72 cv1 v1 v2 cv3 v3 v4 v5 n v6 S = some o → xW G true sz s H locs S → lv_has ls 8 [(0, .ref (G.2.2 200 0)), (1, .ref (G.2.2 cv1 v1)), (2, .int v2), (3, .ref (G.2.2 cv3 v3)), (4, .int v4), (5, .int v5), (6, .int v6)] → wX p l e rmX12_findTag s m args below meth c H locs (xQv G true sz o) (XA G true sz) 72 ls [] := by
  intro n
  induction n with
  | zero =>
    intro v6 S H locs ls h
    cases h
  | succ n ih =>
    intro v6 S H locs ls h hW  hl
    rw [L_X12_findTag_72] at h
    refine lv_iload X.1 X.2.1 dX12_findTag_72 (lv_at hl 6 rfl) ?_
    refine lv_bipush (v := 32) X.1 X.2.1 dX12_findTag_74 rfl ?_
    refine x_icmp_ge X (tgt := 161) dX12_findTag_76 (by decide) h (fun h => ?_) (fun h => ?_)
    · refine lv_iconst (v := 0) X.1 X.2.1 dX12_findTag_161 rfl ?_
      refine lv_istore (lv' := [(6, .int 0), (0, .ref (G.2.2 200 0)), (1, .ref (G.2.2 cv1 v1)), (2, .int v2), (3, .ref (G.2.2 cv3 v3)), (4, .int v4), (5, .int v5)]) X.1 X.2.1 dX12_findTag_162 hl (by decide) rfl (fun ls hl => ?_)
      exact w_X12_findTag_164 X cv3 v3 v4 v5   fu 0 S _ _ _ h hW  (lv_sub hl [1, 4, 5, 6, 0] rfl)
    · refine lv_iload X.1 X.2.1 dX12_findTag_79 (lv_at hl 6 rfl) ?_
      refine lv_iconst (v := 1) X.1 X.2.1 dX12_findTag_81 rfl ?_
      refine x_icmp_ne X (tgt := 90) dX12_findTag_82 (by decide) h (fun h => ?_) (fun h => ?_)
      · refine lv_iload X.1 X.2.1 dX12_findTag_90 (lv_at hl 6 rfl) ?_
        refine lv_iconst (v := 2) X.1 X.2.1 dX12_findTag_92 rfl ?_
        refine x_icmp_lt X (tgt := 115) dX12_findTag_93 (by decide) h (fun h => ?_) (fun h => ?_)
        · exact w_X12_findTag_115 X cv1 v1 v2 cv3 v3 v4 v5 v6  (L_X12_findTag_72 cv1 v1 v2 cv3 v3 v4 v5 n) ih hW (lv_sub hl [0, 1, 2, 3, 4, 5, 6] rfl) h
        · refine lv_iload X.1 X.2.1 dX12_findTag_96 (lv_at hl 6 rfl) ?_
          refine lv_bipush (v := 24) X.1 X.2.1 dX12_findTag_98 rfl ?_
          refine x_icmp_ge X (tgt := 115) dX12_findTag_100 (by decide) h (fun h => ?_) (fun h => ?_)
          · exact w_X12_findTag_115 X cv1 v1 v2 cv3 v3 v4 v5 v6  (L_X12_findTag_72 cv1 v1 v2 cv3 v3 v4 v5 n) ih hW (lv_sub hl [0, 1, 2, 3, 4, 5, 6] rfl) h
          · refine lv_aload_n X.1 X.2.1 dX12_findTag_103 rfl (lv_at hl 1 rfl) ?_
            refine lv_iload_n X.1 X.2.1 dX12_findTag_104 rfl (lv_at hl 2 rfl) ?_
            refine lv_iload X.1 X.2.1 dX12_findTag_105 (lv_at hl 6 rfl) ?_
            refine lv_iconst (v := 2) X.1 X.2.1 dX12_findTag_107 rfl ?_
            refine lv_isub X.1 X.2.1 dX12_findTag_108 ?_
            obtain ⟨r9, S10, h11, h⟩ := cl_some h
            refine x_aftI X hW (x_runS (As := [.ref (G.2.2 cv1 v1), .int v2, .int (v6 - 2)]) (rest := []) X hW (c_X12_besideAt l G X.2.2.2.2.2.2.2.2.2.1 _ S cv1 v1 v2 (v6 - 2) _ h11) (va_cwS 3 X.2.2.2.2.1 (gS gw1070 gw1071 gw5 gw1072) rfl rfl rfl hd_X12_besideAt ⟨Nat.le_of_ble_eq_true rfl, Nat.le_of_ble_eq_true rfl⟩) rfl hl.1 rfl (Nat.le_of_ble_eq_true rfl) dX12_findTag_109 ⟨Nat.zero_le _, Nat.zero_le _⟩) (fun H locs hW => ?_)
            refine lv_goto (tgt := 116) X.1 X.2.1 dX12_findTag_112 (by decide) ?_
            exact w_X12_findTag_116 X cv1 v1 v2 cv3 v3 v4 v5 v6 r9  (L_X12_findTag_72 cv1 v1 v2 cv3 v3 v4 v5 n) ih hW (lv_sub hl [0, 1, 2, 3, 4, 5, 6] rfl) h
      · refine lv_bipush (v := 22) X.1 X.2.1 dX12_findTag_85 rfl ?_
        refine lv_goto (tgt := 116) X.1 X.2.1 dX12_findTag_87 (by decide) ?_
        exact w_X12_findTag_116 X cv1 v1 v2 cv3 v3 v4 v5 v6 22  (L_X12_findTag_72 cv1 v1 v2 cv3 v3 v4 v5 n) ih hW (lv_sub hl [0, 1, 2, 3, 4, 5, 6] rfl) h
set_option maxRecDepth 100000 in
set_option maxHeartbeats 4000000 in
theorem w_X12_findTag_11 {p : Program} {l : Launch} {e : Env} {s : State} {m : MethodId} {args : Array Value} {below : List Frame} {meth : Method} {c : Code} {G : xG} {sz : Nat} {o : Unit × Mm} (X : xC G true sz p s m args c cX12_findTag 8 wsX12_findTag RX12 meth none) (cv1 : Nat) (v1 : Nat) (v2 : Int32) (cv3 : Nat) (v3 : Nat) (v4 : Int32) (v5 : Int32)   : ∀ (n : Nat) (v6 : Int32) (S : Mm) (H : Heap) (locs : List Loc) (ls : Array Slot), L_X12_findTag_11 cv1 v1 v2 cv3 v3 v4 v5 n v6 S = some o → xW G true sz s H locs S → lv_has ls 8 [(0, .ref (G.2.2 200 0)), (1, .ref (G.2.2 cv1 v1)), (2, .int v2), (3, .ref (G.2.2 cv3 v3)), (4, .int v4), (5, .int v5), (6, .int v6)] → wX p l e rmX12_findTag s m args below meth c H locs (xQv G true sz o) (XA G true sz) 11 ls [] := by
  intro n
  induction n with
  | zero =>
    intro v6 S H locs ls h
    cases h
  | succ n ih =>
    intro v6 S H locs ls h hW  hl
    rw [L_X12_findTag_11] at h
    refine lv_iload X.1 X.2.1 dX12_findTag_11 (lv_at hl 6 rfl) ?_
    refine lv_bipush (v := 13) X.1 X.2.1 dX12_findTag_13 rfl ?_
    refine x_icmp_ge X (tgt := 40) dX12_findTag_15 (by decide) h (fun h => ?_) (fun h => ?_)
    · refine lv_aload_n X.1 X.2.1 dX12_findTag_40 rfl (lv_at hl 0 rfl) ?_
      refine x_getR X hW fd_Model_chain (fun w h => List.mem_cons_of_mem _ (gin_X12 w h)) (List.mem_cons_of_mem _ gw162) z_1 dX12_findTag_41 ?_
      refine lv_bipush (v := 14) X.1 X.2.1 dX12_findTag_44 rfl ?_
      refine lv_iload X.1 X.2.1 dX12_findTag_46 (lv_at hl 5 rfl) ?_
      refine lv_bipush (v := 8) X.1 X.2.1 dX12_findTag_48 rfl ?_
      refine lv_ishr X.1 X.2.1 dX12_findTag_50 ?_
      refine x_iast X hW ar_212 dX12_findTag_51 h (fun S2 H locs h hW => ?_)
      refine lv_aload_n X.1 X.2.1 dX12_findTag_52 rfl (lv_at hl 0 rfl) ?_
      refine x_getR X hW fd_Model_chain (fun w h => List.mem_cons_of_mem _ (gin_X12 w h)) (List.mem_cons_of_mem _ gw162) z_1 dX12_findTag_53 ?_
      refine lv_bipush (v := 15) X.1 X.2.1 dX12_findTag_56 rfl ?_
      refine lv_iload X.1 X.2.1 dX12_findTag_58 (lv_at hl 5 rfl) ?_
      refine lv_sipush (v := 255) X.1 X.2.1 dX12_findTag_60 rfl ?_
      refine lv_iand X.1 X.2.1 dX12_findTag_63 ?_
      refine x_iast X hW ar_212 dX12_findTag_64 h (fun S3 H locs h hW => ?_)
      refine lv_aload_n X.1 X.2.1 dX12_findTag_65 rfl (lv_at hl 0 rfl) ?_
      obtain ⟨r4, S5, h6, h⟩ := cl_some h
      refine x_aftV X hW (x_runV (C := RX12) (a := G.2.2 200 0) (As := []) (rest := []) X hW (c_X12_chainStep l G X.2.2.2.2.2.2.2.2.2.1 _ S3 _ h6) (cwV 0 X.2.2.2.2.1 (gV gw1062 gw1063 gw1064 gw5 gw1065) rfl rfl rfl ⟨rfl, hd_X12_chainStep⟩ ⟨Nat.le_of_ble_eq_true rfl, Nat.le_of_ble_eq_true rfl⟩) (x_recv X hW ob_Model z_1) rfl hl.1 rfl (Nat.le_of_ble_eq_true rfl) dX12_findTag_66 ⟨Nat.zero_le _, Nat.zero_le _⟩) (fun H locs hW => ?_)
      refine lv_iconst (v := 0) X.1 X.2.1 dX12_findTag_69 rfl ?_
      refine lv_istore (lv' := [(6, .int 0), (0, .ref (G.2.2 200 0)), (1, .ref (G.2.2 cv1 v1)), (2, .int v2), (3, .ref (G.2.2 cv3 v3)), (4, .int v4), (5, .int v5)]) X.1 X.2.1 dX12_findTag_70 hl (by decide) rfl (fun ls hl => ?_)
      exact w_X12_findTag_72 X cv1 v1 v2 cv3 v3 v4 v5   fu 0 S5 _ _ _ h hW  (lv_sub hl [1, 2, 3, 4, 5, 6, 0] rfl)
    · refine lv_aload_n X.1 X.2.1 dX12_findTag_18 rfl (lv_at hl 0 rfl) ?_
      refine x_getR X hW fd_Model_chain (fun w h => List.mem_cons_of_mem _ (gin_X12 w h)) (List.mem_cons_of_mem _ gw162) z_1 dX12_findTag_19 ?_
      refine lv_iconst (v := 1) X.1 X.2.1 dX12_findTag_22 rfl ?_
      refine lv_iload X.1 X.2.1 dX12_findTag_23 (lv_at hl 6 rfl) ?_
      refine lv_iadd X.1 X.2.1 dX12_findTag_25 ?_
      refine lv_aload_n X.1 X.2.1 dX12_findTag_26 rfl (lv_at hl 0 rfl) ?_
      refine x_getR X hW fd_Model_number (fun w h => List.mem_cons_of_mem _ (gin_X12 w h)) (List.mem_cons_of_mem _ gw161) z_1 dX12_findTag_27 ?_
      refine lv_iload X.1 X.2.1 dX12_findTag_30 (lv_at hl 6 rfl) ?_
      refine x_iald X hW ar_211 dX12_findTag_32 h (fun x7 h => ?_)
      refine x_iast X hW ar_212 dX12_findTag_33 h (fun S8 H locs h hW => ?_)
      refine lv_iinc (v := (v6 + 1)) (lv' := [(6, .int (v6 + 1)), (0, .ref (G.2.2 200 0)), (1, .ref (G.2.2 cv1 v1)), (2, .int v2), (3, .ref (G.2.2 cv3 v3)), (4, .int v4), (5, .int v5)]) X.1 X.2.1 dX12_findTag_34 hl (k := 6) rfl rfl (by decide) rfl (fun ls hl => ?_)
      refine lv_goto (tgt := 11) X.1 X.2.1 dX12_findTag_37 (by decide) ?_
      exact ih (v6 + 1) S8 _ _ _ h hW  (lv_sub hl [1, 2, 3, 4, 5, 6, 0] rfl)
set_option maxRecDepth 100000 in
set_option maxHeartbeats 4000000 in
theorem w_X12_findTag_0 {p : Program} {l : Launch} {e : Env} {s : State} {m : MethodId} {args : Array Value} {below : List Frame} {meth : Method} {c : Code} {G : xG} {sz : Nat} {o : Unit × Mm} (X : xC G true sz p s m args c cX12_findTag 8 wsX12_findTag RX12 meth none) (cv1 : Nat) (v1 : Nat) (v2 : Int32) (cv3 : Nat) (v3 : Nat) (v4 : Int32) (v5 : Int32) {S : Mm} {H : Heap} {locs : List Loc} {ls : Array Slot} (hW : xW G true sz s H locs S) (hl : lv_has ls 8 [(0, .ref (G.2.2 200 0)), (1, .ref (G.2.2 cv1 v1)), (2, .int v2), (3, .ref (G.2.2 cv3 v3)), (4, .int v4), (5, .int v5)]) (h : F_X12_findTag cv1 v1 v2 cv3 v3 v4 v5 S = some o) : wX p l e rmX12_findTag s m args below meth c H locs (xQv G true sz o) (XA G true sz) 0 ls [] := by
  unfold F_X12_findTag at h
  refine lv_aload_n X.1 X.2.1 dX12_findTag_0 rfl (lv_at hl 0 rfl) ?_
  refine x_getR X hW fd_Model_chain (fun w h => List.mem_cons_of_mem _ (gin_X12 w h)) (List.mem_cons_of_mem _ gw162) z_1 dX12_findTag_1 ?_
  refine lv_iconst (v := 0) X.1 X.2.1 dX12_findTag_4 rfl ?_
  refine lv_bipush (v := 89) X.1 X.2.1 dX12_findTag_5 rfl ?_
  refine x_iast X hW ar_212 dX12_findTag_7 h (fun S1 H locs h hW => ?_)
  refine lv_iconst (v := 0) X.1 X.2.1 dX12_findTag_8 rfl ?_
  refine lv_istore (lv' := [(6, .int 0), (0, .ref (G.2.2 200 0)), (1, .ref (G.2.2 cv1 v1)), (2, .int v2), (3, .ref (G.2.2 cv3 v3)), (4, .int v4), (5, .int v5)]) X.1 X.2.1 dX12_findTag_9 hl (by decide) rfl (fun ls hl => ?_)
  exact w_X12_findTag_11 X cv1 v1 v2 cv3 v3 v4 v5   fu 0 S1 _ _ _ h hW  (lv_sub hl [1, 2, 3, 4, 5, 6, 0] rfl)
theorem c_X12_findTag (l : Launch) (G : xG) (hD : xD G true) (sz : Nat) (S : Mm) (cv1 : Nat) (v1 : Nat) (v2 : Int32) (cv3 : Nat) (v3 : Nat) (v4 : Int32) (v5 : Int32) (o : Unit × Mm) (h : F_X12_findTag cv1 v1 v2 cv3 v3 v4 v5 S = some o) : Met l yX12_findTag wsX12_findTag rmX12_findTag (xPre G true S sz [.ref (G.2.2 200 0), .ref (G.2.2 cv1 v1), .int v2, .ref (G.2.2 cv3 v3), .int v4, .int v5]) (xQv G true sz o) 0 0 (XA G true sz) :=
  x_start hD (by decide) rfl (Nat.le_of_ble_eq_true rfl) (fun p e s m below meth c X hW ls hl => w_X12_findTag_0 X cv1 v1 v2 cv3 v3 v4 v5 hW hl h)
