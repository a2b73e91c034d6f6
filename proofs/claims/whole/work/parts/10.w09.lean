/-! WirelessCellModel.cover([II[III)V -/
def rmX12_cover : Room := { frames := 3, cells := 0, slots := 0, locals := 69 }
def L_X12_cover_29 (k3 : Int32 → Mm → Option (Unit × Mm)) (cv1 : Nat) (v1 : Nat) (v2 : Int32) (cv3 : Nat) (v3 : Nat) (v4 : Int32) (v5 : Int32) (v6 : Int32) (S : Mm) : Option (Unit × Mm) :=
  ldP true S cv1 v1 (v2 + v6) fun x4 =>
  ldA S 213 0 16 1 (v6 - v6 / 16 * 16) fun x5 =>
  stP true S cv3 v3 (v4 + v6) (x4 ^^^ x5) fun S6 =>
  k3 (v6 + 1) S6
def L_X12_cover_3  (cv1 : Nat) (v1 : Nat) (v2 : Int32) (cv3 : Nat) (v3 : Nat) (v4 : Int32) (v5 : Int32) : Nat → Int32 → Mm → Option (Unit × Mm)
  | 0, _, _ => none
  | n + 1, v6, S => 
    if v5 ≤ v6 then (
    some ((), S))
    else (
    if (v6 - v6 / 16 * 16) = 0 then (
    cl (F_X12_counter (1 + (v6 / 16)) S) fun r1 S2 =>
    L_X12_cover_29 (L_X12_cover_3 cv1 v1 v2 cv3 v3 v4 v5 n) cv1 v1 v2 cv3 v3 v4 v5 v6 S2)
    else (
    L_X12_cover_29 (L_X12_cover_3 cv1 v1 v2 cv3 v3 v4 v5 n) cv1 v1 v2 cv3 v3 v4 v5 v6 S))
def F_X12_cover (cv1 : Nat) (v1 : Nat) (v2 : Int32) (cv3 : Nat) (v3 : Nat) (v4 : Int32) (v5 : Int32) (S : Mm) : Option (Unit × Mm) :=
  L_X12_cover_3  cv1 v1 v2 cv3 v3 v4 v5 fu 0 S
set_option maxRecDepth 100000 in
set_option maxHeartbeats 4000000 in
theorem w_X12_cover_29 {p : Program} {l : Launch} {e : Env} {s : State} {m : MethodId} {args : Array Value} {below : List Frame} {meth : Method} {c : Code} {G : xG} {sz : Nat} {o : Unit × Mm} (X : xC G true sz p s m args c cX12_cover 7 wsX12_cover RX12 meth none) (cv1 : Nat) (v1 : Nat) (v2 : Int32) (cv3 : Nat) (v3 : Nat) (v4 : Int32) (v5 : Int32) (v6 : Int32)  (k3 : Int32 → Mm → Option (Unit × Mm)) (hk3 : ∀ (v6 : Int32) (S : Mm) (H : Heap) (locs : List Loc) (ls : Array Slot), k3 v6 S = some o → xW G true sz s H locs S → lv_has ls 7 [(0, .ref (G.2.2 200 0)), (1, .ref (G.2.2 cv1 v1)), (2, .int v2), (3, .ref (G.2.2 cv3 v3)), (4, .int v4), (5, .int v5), (6, .int v6)] → wX p l e rmX12_cover s m args below meth c H locs (xQv G true sz o) (XA G true sz) 3 ls []) {S : Mm} {H : Heap} {locs : List Loc} {ls : Array Slot} (hW : xW G true sz s H locs S) (hl : lv_has ls 7 [(0, .ref (G.2.2 200 0)), (1, .ref (G.2.2 cv1 v1)), (2, .int v2), (3, .ref (G.2.2 cv3 v3)), (4, .int v4), (5, .int v5), (6, .int v6)]) (h : L_X12_cover_29 k3 cv1 v1 v2 cv3 v3 v4 v5 v6 S = some o) : wX p l e rmX12_cover s m args below meth c H locs (xQv G true sz o) (XA G true sz) 29 ls [] := by
  unfold L_X12_cover_29 at h
  refine lv_aload_n X.1 X.2.1 dX12_cover_29 rfl (lv_at hl 3 rfl) ?_
  refine lv_iload X.1 X.2.1 dX12_cover_30 (lv_at hl 4 rfl) ?_
  refine lv_iload X.1 X.2.1 dX12_cover_32 (lv_at hl 6 rfl) ?_
  refine lv_iadd X.1 X.2.1 dX12_cover_34 ?_
  refine lv_aload_n X.1 X.2.1 dX12_cover_35 rfl (lv_at hl 1 rfl) ?_
  refine lv_iload_n X.1 X.2.1 dX12_cover_36 rfl (lv_at hl 2 rfl) ?_
  refine lv_iload X.1 X.2.1 dX12_cover_37 (lv_at hl 6 rfl) ?_
  refine lv_iadd X.1 X.2.1 dX12_cover_39 ?_
  refine x_ialdP X hW dX12_cover_40 h (fun x4 h => ?_)
  refine lv_aload_n X.1 X.2.1 dX12_cover_41 rfl (lv_at hl 0 rfl) ?_
  refine x_getR X hW fd_Model_stream (fun w h => List.mem_cons_of_mem _ (gin_X12 w h)) (List.mem_cons_of_mem _ gw163) z_1 dX12_cover_42 ?_
  refine lv_iload X.1 X.2.1 dX12_cover_45 (lv_at hl 6 rfl) ?_
  refine lv_bipush (v := 16) X.1 X.2.1 dX12_cover_47 rfl ?_
  refine lv_irem X.1 X.2.1 dX12_cover_49 (by decide) ?_
  refine x_iald X hW ar_213 dX12_cover_50 h (fun x5 h => ?_)
  refine lv_ixor X.1 X.2.1 dX12_cover_51 ?_
  refine x_iastP X hW dX12_cover_52 h (fun S6 H locs h hW => ?_)
  refine lv_iinc (v := (v6 + 1)) (lv' := [(6, .int (v6 + 1)), (0, .ref (G.2.2 200 0)), (1, .ref (G.2.2 cv1 v1)), (2, .int v2), (3, .ref (G.2.2 cv3 v3)), (4, .int v4), (5, .int v5)]) X.1 X.2.1 dX12_cover_53 hl (k := 6) rfl rfl (by decide) rfl (fun ls hl => ?_)
  refine lv_goto (tgt := 3) X.1 X.2.1 dX12_cover_56 (by decide) ?_
  exact hk3 (v6 + 1) S6 _ _ _ h hW  (lv_sub hl [1, 2, 3, 4, 5, 6, 0] rfl)
set_option maxRecDepth 100000 in
set_option maxHeartbeats 4000000 in
theorem w_X12_cover_3 {p : Program} {l : Launch} {e : Env} {s : State} {m : MethodId} {args : Array Value} {below : List Frame} {meth : Method} {c : Code} {G : xG} {sz : Nat} {o : Unit × Mm} (X : xC G true sz p s m args c cX12_cover 7 wsX12_cover RX12 meth none) (cv1 : Nat) (v1 : Nat) (v2 : Int32) (cv3 : Nat) (v3 : Nat) (v4 : Int32) (v5 : Int32)   : ∀ (n : Nat) (v6 : Int32) (S : Mm) (H : Heap) (locs : List Loc) (ls : Array Slot), L_X12_cover_3 cv1 v1 v2 cv3 v3 v4 v5 n v6 S = some o → xW G true sz s H locs S → lv_has ls 7 [(0, .ref (G.2.2 200 0)), (1, .ref (G.2.2 cv1 v1)), (2, .int v2), (3, .ref (G.2.2 cv3 v3)), (4, .int v4), (5, .int v5), (6, .int v6)] → wX p l e rmX12_cover s m args below meth c H locs (xQv G true sz o) (XA G true sz) 3 ls [] := by
  intro n
  induction n with
  | zero =>
    intro v6 S H locs ls h
    cases h
  | succ n ih =>
    intro v6 S H locs ls h hW  hl
    rw [L_X12_cover_3] at h
    refine lv_iload X.1 X.2.1 dX12_cover_3 (lv_at hl 6 rfl) ?_
    refine lv_iload X.1 X.2.1 dX12_cover_5 (lv_at hl 5 rfl) ?_
    refine x_icmp_ge X (tgt := 59) dX12_cover_7 (by decide) h (fun h => ?_) (fun h => ?_)
    · exact x_vret X hW h dX12_cover_59
    · refine lv_iload X.1 X.2.1 dX12_cover_10 (lv_at hl 6 rfl) ?_
      refine lv_bipush (v := 16) X.1 X.2.1 dX12_cover_12 rfl ?_
      refine lv_irem X.1 X.2.1 dX12_cover_14 (by decide) ?_
      refine x_if_ne X (tgt := 29) dX12_cover_15 (by decide) h (fun h => ?_) (fun h => ?_)
      · exact w_X12_cover_29 X cv1 v1 v2 cv3 v3 v4 v5 v6  (L_X12_cover_3 cv1 v1 v2 cv3 v3 v4 v5 n) ih hW (lv_sub hl [0, 1, 2, 3, 4, 5, 6] rfl) h
      · refine lv_aload_n X.1 X.2.1 dX12_cover_18 rfl (lv_at hl 0 rfl) ?_
        refine lv_iconst (v := 1) X.1 X.2.1 dX12_cover_19 rfl ?_
        refine lv_iload X.1 X.2.1 dX12_cover_20 (lv_at hl 6 rfl) ?_
        refine lv_bipush (v := 16) X.1 X.2.1 dX12_cover_22 rfl ?_
        refine lv_idiv X.1 X.2.1 dX12_cover_24 (by decide) ?_
        refine lv_iadd X.1 X.2.1 dX12_cover_25 ?_
        obtain ⟨r1, S2, h3, h⟩ := cl_some h
        refine x_aftV X hW (x_runV (C := RX12) (a := G.2.2 200 0) (As := [.int (1 + (v6 / 16))]) (rest := []) X hW (c_X12_counter l G X.2.2.2.2.2.2.2.2.2.1 _ S (1 + (v6 / 16)) _ h3) (cwV 1 X.2.2.2.2.1 (gV gw1073 gw1074 gw1075 gw5 gw1076) rfl rfl rfl ⟨rfl, hd_X12_counter⟩ ⟨Nat.le_of_ble_eq_true rfl, Nat.le_of_ble_eq_true rfl⟩) (x_recv X hW ob_Model z_1) rfl hl.1 rfl (Nat.le_of_ble_eq_true rfl) dX12_cover_26 ⟨Nat.zero_le _, Nat.zero_le _⟩) (fun H locs hW => ?_)
        exact w_X12_cover_29 X cv1 v1 v2 cv3 v3 v4 v5 v6  (L_X12_cover_3 cv1 v1 v2 cv3 v3 v4 v5 n) ih hW (lv_sub hl [0, 1, 2, 3, 4, 5, 6] rfl) h
set_option maxRecDepth 100000 in
set_option maxHeartbeats 4000000 in
theorem w_X12_cover_0 {p : Program} {l : Launch} {e : Env} {s : State} {m : MethodId} {args : Array Value} {below : List Frame} {meth : Method} {c : Code} {G : xG} {sz : Nat} {o : Unit × Mm} (X : xC G true sz p s m args c cX12_cover 7 wsX12_cover RX12 meth none) (cv1 : Nat) (v1 : Nat) (v2 : Int32) (cv3 : Nat) (v3 : Nat) (v4 : Int32) (v5 : Int32) {S : Mm} {H : Heap} {locs : List Loc} {ls : Array Slot} (hW : xW G true sz s H locs S) (hl : lv_has ls 7 [(0, .ref (G.2.2 200 0)), (1, .ref (G.2.2 cv1 v1)), (2, .int v2), (3, .ref (G.2.2 cv3 v3)), (4, .int v4), (5, .int v5)]) (h : F_X12_cover cv1 v1 v2 cv3 v3 v4 v5 S = some o) : wX p l e rmX12_cover s m args below meth c H locs (xQv G true sz o) (XA G true sz) 0 ls [] := by
  unfold F_X12_cover at h
  refine lv_iconst (v := 0) X.1 X.2.1 dX12_cover_0 rfl ?_
  refine lv_istore (lv' := [(6, .int 0), (0, .ref (G.2.2 200 0)), (1, .ref (G.2.2 cv1 v1)), (2, .int v2), (3, .ref (G.2.2 cv3 v3)), (4, .int v4), (5, .int v5)]) X.1 X.2.1 dX12_cover_1 hl (by decide) rfl (fun ls hl => ?_)
  exact w_X12_cover_3 X cv1 v1 v2 cv3 v3 v4 v5   fu 0 S _ _ _ h hW  (lv_sub hl [1, 2, 3, 4, 5, 6, 0] rfl)
theorem c_X12_cover (l : Launch) (G : xG) (hD : xD G true) (sz : Nat) (S : Mm) (cv1 : Nat) (v1 : Nat) (v2 : Int32) (cv3 : Nat) (v3 : Nat) (v4 : Int32) (v5 : Int32) (o : Unit × Mm) (h : F_X12_cover cv1 v1 v2 cv3 v3 v4 v5 S = some o) : Met l yX12_cover wsX12_cover rmX12_cover (xPre G true S sz [.ref (G.2.2 200 0), .ref (G.2.2 cv1 v1), .int v2, .ref (G.2.2 cv3 v3), .int v4, .int v5]) (xQv G true sz o) 0 0 (XA G true sz) :=
  x_start hD (by decide) rfl (Nat.le_of_ble_eq_true rfl) (fun p e s m below meth c X hW ls hl => w_X12_cover_0 X cv1 v1 v2 cv3 v3 v4 v5 hW hl h)

/-! WirelessCellModel.crc([III)I -/
def rmX12_crc : Room := { frames := 0, cells := 0, slots := 0, locals := 0 }
def L_X12_crc_50 (k5 : Int32 → Int32 → Mm → Option (Int32 × Mm)) (k23 : Int32 → Int32 → Mm → Option (Int32 × Mm)) (cv0 : Nat) (v0 : Nat) (v1 : Int32) (v2 : Int32) (v4 : Int32) (v5 : Int32) (s0 : Int32) (S : Mm) : Option (Int32 × Mm) :=
  k23 s0 (v5 + 1) S
def L_X12_crc_23 (k5 : Int32 → Int32 → Mm → Option (Int32 × Mm)) (cv0 : Nat) (v0 : Nat) (v1 : Int32) (v2 : Int32) (v4 : Int32) : Nat → Int32 → Int32 → Mm → Option (Int32 × Mm)
  | 0, _, _, _ => none
  | n + 1, v3, v5, S => 
    if 8 ≤ v5 then (
    k5 v3 (v4 + 1) S)
    else (
    if (v3 &&& 1) = 1 then (
    L_X12_crc_50 k5 (L_X12_crc_23 k5 cv0 v0 v1 v2 v4 n) cv0 v0 v1 v2 v4 v5 ((iu v3 1) ^^^ (-306674912)) S)
    else (
    L_X12_crc_50 k5 (L_X12_crc_23 k5 cv0 v0 v1 v2 v4 n) cv0 v0 v1 v2 v4 v5 (iu v3 1) S))
def L_X12_crc_5  (cv0 : Nat) (v0 : Nat) (v1 : Int32) (v2 : Int32) : Nat → Int32 → Int32 → Mm → Option (Int32 × Mm)
  | 0, _, _, _ => none
  | n + 1, v3, v4, S => 
    if v2 ≤ v4 then (
    some ((v3 ^^^ (-1)), S))
    else (
    ldP true S cv0 v0 (v1 + v4) fun x1 =>
    tp (v3 ^^^ x1) fun x2 =>
    L_X12_crc_23 (L_X12_crc_5 cv0 v0 v1 v2 n) cv0 v0 v1 v2 v4 fu x2 0 S)
def F_X12_crc (cv0 : Nat) (v0 : Nat) (v1 : Int32) (v2 : Int32) (S : Mm) : Option (Int32 × Mm) :=
  L_X12_crc_5  cv0 v0 v1 v2 fu (-1) 0 S
set_option maxRecDepth 100000 in
set_option maxHeartbeats 4000000 in
theorem w_X12_crc_50 {p : Program} {l : Launch} {e : Env} {s : State} {m : MethodId} {args : Array Value} {below : List Frame} {meth : Method} {c : Code} {G : xG} {sz : Nat} {o : Int32 × Mm} (X : xC G true sz p s m args c cX12_crc 6 wsX12_crc RX12 meth (some .int)) (cv0 : Nat) (v0 : Nat) (v1 : Int32) (v2 : Int32) (v4 : Int32) (v5 : Int32) (s0 : Int32)  (k5 : Int32 → Int32 → Mm → Option (Int32 × Mm)) (hk5 : ∀ (v3 : Int32) (v4 : Int32) (S : Mm) (H : Heap) (locs : List Loc) (ls : Array Slot), k5 v3 v4 S = some o → xW G true sz s H locs S → lv_has ls 6 [(0, .ref (G.2.2 cv0 v0)), (1, .int v1), (2, .int v2), (3, .int v3), (4, .int v4)] → wX p l e rmX12_crc s m args below meth c H locs (xQi G true sz o) (XA G true sz) 5 ls []) (k23 : Int32 → Int32 → Mm → Option (Int32 × Mm)) (hk23 : ∀ (v3 : Int32) (v5 : Int32) (S : Mm) (H : Heap) (locs : List Loc) (ls : Array Slot), k23 v3 v5 S = some o → xW G true sz s H locs S → lv_has ls 6 [(0, .ref (G.2.2 cv0 v0)), (1, .int v1), (2, .int v2), (3, .int v3), (4, .int v4), (5, .int v5)] → wX p l e rmX12_crc s m args below meth c H locs (xQi G true sz o) (XA G true sz) 23 ls []) {S : Mm} {H : Heap} {locs : List Loc} {ls : Array Slot} (hW : xW G true sz s H locs S) (hl : lv_has ls 6 [(0, .ref (G.2.2 cv0 v0)), (1, .int v1), (2, .int v2), (4, .int v4), (5, .int v5)]) (h : L_X12_crc_50 k5 k23 cv0 v0 v1 v2 v4 v5 s0 S = some o) : wX p l e rmX12_crc s m args below meth c H locs (xQi G true sz o) (XA G true sz) 50 ls [.int s0] := by
  unfold L_X12_crc_50 at h
  refine lv_istore_n (lv' := [(3, .int s0), (0, .ref (G.2.2 cv0 v0)), (1, .int v1), (2, .int v2), (4, .int v4), (5, .int v5)]) X.1 X.2.1 dX12_crc_50 rfl hl (by decide) rfl (fun ls hl => ?_)
  refine lv_iinc (v := (v5 + 1)) (lv' := [(5, .int (v5 + 1)), (3, .int s0), (0, .ref (G.2.2 cv0 v0)), (1, .int v1), (2, .int v2), (4, .int v4)]) X.1 X.2.1 dX12_crc_51 hl (k := 5) rfl rfl (by decide) rfl (fun ls hl => ?_)
  refine lv_goto (tgt := 23) X.1 X.2.1 dX12_crc_54 (by decide) ?_
  exact hk23 s0 (v5 + 1) S _ _ _ h hW  (lv_sub hl [2, 3, 4, 1, 5, 0] rfl)
set_option maxRecDepth 100000 in
set_option maxHeartbeats 4000000 in
theorem w_X12_crc_23 {p : Program} {l : Launch} {e : Env} {s : State} {m : MethodId} {args : Array Value} {below : List Frame} {meth : Method} {c : Code} {G : xG} {sz : Nat} {o : Int32 × Mm} (X : xC G true sz p s m args c cX12_crc 6 wsX12_crc RX12 meth (some .int)) (cv0 : Nat) (v0 : Nat) (v1 : Int32) (v2 : Int32) (v4 : Int32)  (k5 : Int32 → Int32 → Mm → Option (Int32 × Mm)) (hk5 : ∀ (v3 : Int32) (v4 : Int32) (S : Mm) (H : Heap) (locs : List Loc) (ls : Array Slot), k5 v3 v4 S = some o → xW G true sz s H locs S → lv_has ls 6 [(0, .ref (G.2.2 cv0 v0)), (1, .int v1), (2, .int v2), (3, .int v3), (4, .int v4)] → wX p l e rmX12_crc s m args below meth c H locs (xQi G true sz o) (XA G true sz) 5 ls []) : ∀ (n : Nat) (v3 : Int32) (v5 : Int32) (S : Mm) (H : Heap) (locs : List Loc) (ls : Array Slot), L_X12_crc_23 k5 cv0 v0 v1 v2 v4 n v3 v5 S = some o → xW G true sz s H locs S → lv_has ls 6 [(0, .ref (G.2.2 cv0 v0)), (1, .int v1), (2, .int v2), (3, .int v3), (4, .int v4), (5, .int v5)] → wX p l e rmX12_crc s m args below meth c H locs (xQi G true sz o) (XA G true sz) 23 ls [] := by
  intro n
  induction n with
  | zero =>
    intro v3 v5 S H locs ls h
    cases h
  | succ n ih =>
    intro v3 v5 S H locs ls h hW  hl
    rw [L_X12_crc_23] at h
    refine lv_iload X.1 X.2.1 dX12_crc_23 (lv_at hl 5 rfl) ?_
    refine lv_bipush (v := 8) X.1 X.2.1 dX12_crc_25 rfl ?_
    refine x_icmp_ge X (tgt := 57) dX12_crc_27 (by decide) h (fun h => ?_) (fun h => ?_)
    · refine lv_iinc (v := (v4 + 1)) (lv' := [(4, .int (v4 + 1)), (0, .ref (G.2.2 cv0 v0)), (1, .int v1), (2, .int v2), (3, .int v3), (5, .int v5)]) X.1 X.2.1 dX12_crc_57 hl (k := 4) rfl rfl (by decide) rfl (fun ls hl => ?_)
      refine lv_goto (tgt := 5) X.1 X.2.1 dX12_crc_60 (by decide) ?_
      exact hk5 v3 (v4 + 1) S _ _ _ h hW  (lv_sub hl [1, 2, 3, 4, 0] rfl)
    · refine lv_iload_n X.1 X.2.1 dX12_crc_30 rfl (lv_at hl 3 rfl) ?_
      refine lv_iconst (v := 1) X.1 X.2.1 dX12_crc_31 rfl ?_
      refine lv_iand X.1 X.2.1 dX12_crc_32 ?_
      refine lv_iconst (v := 1) X.1 X.2.1 dX12_crc_33 rfl ?_
      refine x_icmp_ne X (tgt := 47) dX12_crc_34 (by decide) h (fun h => ?_) (fun h => ?_)
      · refine lv_iload_n X.1 X.2.1 dX12_crc_47 rfl (lv_at hl 3 rfl) ?_
        refine lv_iconst (v := 1) X.1 X.2.1 dX12_crc_48 rfl ?_
        refine lv_iushr (v := (iu v3 1)) X.1 X.2.1 dX12_crc_49 rfl ?_
        exact w_X12_crc_50 X cv0 v0 v1 v2 v4 v5 (iu v3 1)  k5 hk5 (L_X12_crc_23 k5 cv0 v0 v1 v2 v4 n) ih hW (lv_sub hl [0, 1, 2, 4, 5] rfl) h
      · refine lv_iload_n X.1 X.2.1 dX12_crc_37 rfl (lv_at hl 3 rfl) ?_
        refine lv_iconst (v := 1) X.1 X.2.1 dX12_crc_38 rfl ?_
        refine lv_iushr (v := (iu v3 1)) X.1 X.2.1 dX12_crc_39 rfl ?_
        refine lv_ldcw (v := (-306674912)) X.1 X.2.1 X.2.2.2.1 (X.2.2.2.2.1 _ (List.mem_cons_of_mem _ gw317)) dX12_crc_40 ?_
        refine lv_ixor X.1 X.2.1 dX12_crc_43 ?_
        refine lv_goto (tgt := 50) X.1 X.2.1 dX12_crc_44 (by decide) ?_
        exact w_X12_crc_50 X cv0 v0 v1 v2 v4 v5 ((iu v3 1) ^^^ (-306674912))  k5 hk5 (L_X12_crc_23 k5 cv0 v0 v1 v2 v4 n) ih hW (lv_sub hl [0, 1, 2, 4, 5] rfl) h
set_option maxRecDepth 100000 in
set_option maxHeartbeats 4000000 in
theorem w_X12_crc_5 {p : Program} {l : Launch} {e : Env} {s : State} {m : MethodId} {args : Array Value} {below : List Frame} {meth : Method} {c : Code} {G : xG} {sz : Nat} {o : Int32 × Mm} (X : xC G true sz p s m args c cX12_crc 6 wsX12_crc RX12 meth (some .int)) (cv0 : Nat) (v0 : Nat) (v1 : Int32) (v2 : Int32)   : ∀ (n : Nat) (v3 : Int32) (v4 : Int32) (S : Mm) (H : Heap) (locs : List Loc) (ls : Array Slot), L_X12_crc_5 cv0 v0 v1 v2 n v3 v4 S = some o → xW G true sz s H locs S → lv_has ls 6 [(0, .ref (G.2.2 cv0 v0)), (1, .int v1), (2, .int v2), (3, .int v3), (4, .int v4)] → wX p l e rmX12_crc s m args below meth c H locs (xQi G true sz o) (XA G true sz) 5 ls [] := by
  intro n
  induction n with
  | zero =>
    intro v3 v4 S H locs ls h
    cases h
  | succ n ih =>
    intro v3 v4 S H locs ls h hW  hl
    rw [L_X12_crc_5] at h
    refine lv_iload X.1 X.2.1 dX12_crc_5 (lv_at hl 4 rfl) ?_
    refine lv_iload_n X.1 X.2.1 dX12_crc_7 rfl (lv_at hl 2 rfl) ?_
    refine x_icmp_ge X (tgt := 63) dX12_crc_8 (by decide) h (fun h => ?_) (fun h => ?_)
    · refine lv_iload_n X.1 X.2.1 dX12_crc_63 rfl (lv_at hl 3 rfl) ?_
      refine lv_iconst (v := (-1)) X.1 X.2.1 dX12_crc_64 rfl ?_
      refine lv_ixor X.1 X.2.1 dX12_crc_65 ?_
      exact x_iret X hW h dX12_crc_66
    · refine lv_iload_n X.1 X.2.1 dX12_crc_11 rfl (lv_at hl 3 rfl) ?_
      refine lv_aload_n X.1 X.2.1 dX12_crc_12 rfl (lv_at hl 0 rfl) ?_
      refine lv_iload_n X.1 X.2.1 dX12_crc_13 rfl (lv_at hl 1 rfl) ?_
      refine lv_iload X.1 X.2.1 dX12_crc_14 (lv_at hl 4 rfl) ?_
      refine lv_iadd X.1 X.2.1 dX12_crc_16 ?_
      refine x_ialdP X hW dX12_crc_17 h (fun x1 h => ?_)
      refine lv_ixor X.1 X.2.1 dX12_crc_18 ?_
      refine x_top h (fun x2 h => ?_)
      refine lv_istore_n (lv' := [(3, .int x2), (0, .ref (G.2.2 cv0 v0)), (1, .int v1), (2, .int v2), (4, .int v4)]) X.1 X.2.1 dX12_crc_19 rfl hl (by decide) rfl (fun ls hl => ?_)
      refine lv_iconst (v := 0) X.1 X.2.1 dX12_crc_20 rfl ?_
      refine lv_istore (lv' := [(5, .int 0), (3, .int x2), (0, .ref (G.2.2 cv0 v0)), (1, .int v1), (2, .int v2), (4, .int v4)]) X.1 X.2.1 dX12_crc_21 hl (by decide) rfl (fun ls hl => ?_)
      exact w_X12_crc_23 X cv0 v0 v1 v2 v4  (L_X12_crc_5 cv0 v0 v1 v2 n) ih fu x2 0 S _ _ _ h hW  (lv_sub hl [2, 3, 4, 1, 5, 0] rfl)
set_option maxRecDepth 100000 in
set_option maxHeartbeats 4000000 in
theorem w_X12_crc_0 {p : Program} {l : Launch} {e : Env} {s : State} {m : MethodId} {args : Array Value} {below : List Frame} {meth : Method} {c : Code} {G : xG} {sz : Nat} {o : Int32 × Mm} (X : xC G true sz p s m args c cX12_crc 6 wsX12_crc RX12 meth (some .int)) (cv0 : Nat) (v0 : Nat) (v1 : Int32) (v2 : Int32) {S : Mm} {H : Heap} {locs : List Loc} {ls : Array Slot} (hW : xW G true sz s H locs S) (hl : lv_has ls 6 [(0, .ref (G.2.2 cv0 v0)), (1, .int v1), (2, .int v2)]) (h : F_X12_crc cv0 v0 v1 v2 S = some o) : wX p l e rmX12_crc s m args below meth c H locs (xQi G true sz o) (XA G true sz) 0 ls [] := by
  unfold F_X12_crc at h
  refine lv_iconst (v := (-1)) X.1 X.2.1 dX12_crc_0 rfl ?_
  refine lv_istore_n (lv' := [(3, .int (-1)), (0, .ref (G.2.2 cv0 v0)), (1, .int v1), (2, .int v2)]) X.1 X.2.1 dX12_crc_1 rfl hl (by decide) rfl (fun ls hl => ?_)
  refine lv_iconst (v := 0) X.1 X.2.1 dX12_crc_2 rfl ?_
  refine lv_istore (lv' := [(4, .int 0), (3, .int (-1)), (0, .ref (G.2.2 cv0 v0)), (1, .int v1), (2, .int v2)]) X.1 X.2.1 dX12_crc_3 hl (by decide) rfl (fun ls hl => ?_)
  exact w_X12_crc_5 X cv0 v0 v1 v2   fu (-1) 0 S _ _ _ h hW  (lv_sub hl [2, 3, 4, 1, 0] rfl)
theorem c_X12_crc (l : Launch) (G : xG) (hD : xD G true) (sz : Nat) (S : Mm) (cv0 : Nat) (v0 : Nat) (v1 : Int32) (v2 : Int32) (o : Int32 × Mm) (h : F_X12_crc cv0 v0 v1 v2 S = some o) : Met l yX12_crc wsX12_crc rmX12_crc (xPre G true S sz [.ref (G.2.2 cv0 v0), .int v1, .int v2]) (xQi G true sz o) 0 0 (XA G true sz) :=
  x_start hD (by decide) rfl (Nat.le_of_ble_eq_true rfl) (fun p e s m below meth c X hW ls hl => w_X12_crc_0 X cv0 v0 v1 v2 hW hl h)

/-! WirelessCellModel.four(I)V -/
def rmX12_four : Room := { frames := 0, cells := 0, slots := 0, locals := 0 }
def L_X12_four_3  (v1 : Int32) : Nat → Int32 → Mm → Option (Unit × Mm)
  | 0, _, _ => none
  | n + 1, v2, S => 
    if v2 < 0 then (
    some ((), S))
    else (
    gf S 291 0 fun x1 =>
    stA S 215 0 300 1 x1 ((v1 >>> (v2 &&& 31)) &&& 255) fun S2 =>
    gf S2 291 0 fun x3 =>
    pf S2 291 0 (x3 + 1) fun S4 =>
    (L_X12_four_3 v1 n) (v2 + (-8)) S4)
def F_X12_four (v1 : Int32) (S : Mm) : Option (Unit × Mm) :=
  L_X12_four_3  v1 fu 24 S
set_option maxRecDepth 100000 in
set_option maxHeartbeats 4000000 in
theorem w_X12_four_3 {p : Program} {l : Launch} {e : Env} {s : State} {m : MethodId} {args : Array Value} {below : List Frame} {meth : Method} {c : Code} {G : xG} {sz : Nat} {o : Unit × Mm} (X : xC G true sz p s m args c cX12_four 3 wsX12_four RX12 meth none) (v1 : Int32)   : ∀ (n : Nat) (v2 : Int32) (S : Mm) (H : Heap) (locs : List Loc) (ls : Array Slot), L_X12_four_3 v1 n v2 S = some o → xW G true sz s H locs S → lv_has ls 3 [(0, .ref (G.2.2 200 0)), (1, .int v1), (2, .int v2)] → wX p l e rmX12_four s m args below meth c H locs (xQv G true sz o) (XA G true sz) 3 ls [] := by
  intro n
  induction n with
  | zero =>
    intro v2 S H locs ls h
    cases h
  | succ n ih =>
    intro v2 S H locs ls h hW  hl
    rw [L_X12_four_3] at h
    refine lv_iload_n X.1 X.2.1 dX12_four_3 rfl (lv_at hl 2 rfl) ?_
    refine x_if_lt X (tgt := 39) dX12_four_4 (by decide) h (fun h => ?_) (fun h => ?_)
    · exact x_vret X hW h dX12_four_39
    · refine lv_aload_n X.1 X.2.1 dX12_four_7 rfl (lv_at hl 0 rfl) ?_
      refine x_getR X hW fd_Model_tape (fun w h => List.mem_cons_of_mem _ (gin_X12 w h)) (List.mem_cons_of_mem _ gw165) z_1 dX12_four_8 ?_
      refine lv_aload_n X.1 X.2.1 dX12_four_11 rfl (lv_at hl 0 rfl) ?_
      refine x_getI X hW fd_Model_taped (fun w h => List.mem_cons_of_mem _ (gin_X12 w h)) (List.mem_cons_of_mem _ gw274) z_1 dX12_four_12 h (fun x1 h => ?_)
      refine lv_iload_n X.1 X.2.1 dX12_four_15 rfl (lv_at hl 1 rfl) ?_
      refine lv_iload_n X.1 X.2.1 dX12_four_16 rfl (lv_at hl 2 rfl) ?_
      refine lv_ishr X.1 X.2.1 dX12_four_17 ?_
      refine lv_sipush (v := 255) X.1 X.2.1 dX12_four_18 rfl ?_
      refine lv_iand X.1 X.2.1 dX12_four_21 ?_
      refine x_iast X hW ar_215 dX12_four_22 h (fun S2 H locs h hW => ?_)
      refine lv_aload_n X.1 X.2.1 dX12_four_23 rfl (lv_at hl 0 rfl) ?_
      refine lv_dup X.1 X.2.1 dX12_four_24 rfl ?_
      refine x_getI X hW fd_Model_taped (fun w h => List.mem_cons_of_mem _ (gin_X12 w h)) (List.mem_cons_of_mem _ gw274) z_1 dX12_four_25 h (fun x3 h => ?_)
      refine lv_iconst (v := 1) X.1 X.2.1 dX12_four_28 rfl ?_
      refine lv_iadd X.1 X.2.1 dX12_four_29 ?_
      refine x_putI X hW fd_Model_taped (fun w h => List.mem_cons_of_mem _ (gin_X12 w h)) (List.mem_cons_of_mem _ gw274) z_1 dX12_four_30 tyX12 tyX12_ok nmX12 rfl rfl rfl h (fun S4 H locs h hW => ?_)
      refine lv_iinc (v := (v2 + (-8))) (lv' := [(2, .int (v2 + (-8))), (0, .ref (G.2.2 200 0)), (1, .int v1)]) X.1 X.2.1 dX12_four_33 hl (k := 2) rfl rfl (by decide) rfl (fun ls hl => ?_)
      refine lv_goto (tgt := 3) X.1 X.2.1 dX12_four_36 (by decide) ?_
      exact ih (v2 + (-8)) S4 _ _ _ h hW  (lv_sub hl [1, 2, 0] rfl)
set_option maxRecDepth 100000 in
set_option maxHeartbeats 4000000 in
theorem w_X12_four_0 {p : Program} {l : Launch} {e : Env} {s : State} {m : MethodId} {args : Array Value} {below : List Frame} {meth : Method} {c : Code} {G : xG} {sz : Nat} {o : Unit × Mm} (X : xC G true sz p s m args c cX12_four 3 wsX12_four RX12 meth none) (v1 : Int32) {S : Mm} {H : Heap} {locs : List Loc} {ls : Array Slot} (hW : xW G true sz s H locs S) (hl : lv_has ls 3 [(0, .ref (G.2.2 200 0)), (1, .int v1)]) (h : F_X12_four v1 S = some o) : wX p l e rmX12_four s m args below meth c H locs (xQv G true sz o) (XA G true sz) 0 ls [] := by
  unfold F_X12_four at h
  refine lv_bipush (v := 24) X.1 X.2.1 dX12_four_0 rfl ?_
  refine lv_istore_n (lv' := [(2, .int 24), (0, .ref (G.2.2 200 0)), (1, .int v1)]) X.1 X.2.1 dX12_four_2 rfl hl (by decide) rfl (fun ls hl => ?_)
  exact w_X12_four_3 X v1   fu 24 S _ _ _ h hW  (lv_sub hl [1, 2, 0] rfl)
theorem c_X12_four (l : Launch) (G : xG) (hD : xD G true) (sz : Nat) (S : Mm) (v1 : Int32) (o : Unit × Mm) (h : F_X12_four v1 S = some o) : Met l yX12_four wsX12_four rmX12_four (xPre G true S sz [.ref (G.2.2 200 0), .int v1]) (xQv G true sz o) 0 0 (XA G true sz) :=
  x_start hD (by decide) rfl (Nat.le_of_ble_eq_true rfl) (fun p e s m below meth c X hW ls hl => w_X12_four_0 X v1 hW hl h)

/-! WirelessCellModel.feed(IIIII)I -/
def rmX12_feed : Room := { frames := 1, cells := 0, slots := 0, locals := 22 }
def F_X12_feed (v1 : Int32) (v2 : Int32) (v3 : Int32) (v4 : Int32) (v5 : Int32) (S : Mm) : Option (Int32 × Mm) :=
  pf S 288 0 0 fun S1 =>
  gf S1 291 0 fun x2 =>
  if (x2 + 20) ≤ 300 then (
  cl (F_X12_four v1 S1) fun r3 S4 =>
  cl (F_X12_four v2 S4) fun r6 S7 =>
  cl (F_X12_four v3 S7) fun r9 S10 =>
  cl (F_X12_four v4 S10) fun r12 S13 =>
  cl (F_X12_four v5 S13) fun r15 S16 =>
  gf S16 291 0 fun x18 =>
  some (x18, S16))
  else (
  some ((-1), S1))
set_option maxRecDepth 100000 in
set_option maxHeartbeats 4000000 in
theorem w_X12_feed_0 {p : Program} {l : Launch} {e : Env} {s : State} {m : MethodId} {args : Array Value} {below : List Frame} {meth : Method} {c : Code} {G : xG} {sz : Nat} {o : Int32 × Mm} (X : xC G true sz p s m args c cX12_feed 6 wsX12_feed RX12 meth (some .int)) (v1 : Int32) (v2 : Int32) (v3 : Int32) (v4 : Int32) (v5 : Int32) {S : Mm} {H : Heap} {locs : List Loc} {ls : Array Slot} (hW : xW G true sz s H locs S) (hl : lv_has ls 6 [(0, .ref (G.2.2 200 0)), (1, .int v1), (2, .int v2), (3, .int v3), (4, .int v4), (5, .int v5)]) (h : F_X12_feed v1 v2 v3 v4 v5 S = some o) : wX p l e rmX12_feed s m args below meth c H locs (xQi G true sz o) (XA G true sz) 0 ls [] := by
  unfold F_X12_feed at h
  refine lv_aload_n X.1 X.2.1 dX12_feed_0 rfl (lv_at hl 0 rfl) ?_
  refine lv_iconst (v := 0) X.1 X.2.1 dX12_feed_1 rfl ?_
  refine x_putI X hW fd_Model_thrown (fun w h => List.mem_cons_of_mem _ (gin_X12 w h)) (List.mem_cons_of_mem _ gw273) z_1 dX12_feed_2 tyX12 tyX12_ok nmX12 rfl rfl rfl h (fun S1 H locs h hW => ?_)
  refine lv_aload_n X.1 X.2.1 dX12_feed_5 rfl (lv_at hl 0 rfl) ?_
  refine x_getI X hW fd_Model_taped (fun w h => List.mem_cons_of_mem _ (gin_X12 w h)) (List.mem_cons_of_mem _ gw274) z_1 dX12_feed_6 h (fun x2 h => ?_)
  refine lv_bipush (v := 20) X.1 X.2.1 dX12_feed_9 rfl ?_
  refine lv_iadd X.1 X.2.1 dX12_feed_11 ?_
  refine lv_sipush (v := 300) X.1 X.2.1 dX12_feed_12 rfl ?_
  refine x_icmp_le X (tgt := 20) dX12_feed_15 (by decide) h (fun h => ?_) (fun h => ?_)
  · refine lv_aload_n X.1 X.2.1 dX12_feed_20 rfl (lv_at hl 0 rfl) ?_
    refine lv_iload_n X.1 X.2.1 dX12_feed_21 rfl (lv_at hl 1 rfl) ?_
    obtain ⟨r3, S4, h5, h⟩ := cl_some h
    refine x_aftV X hW (x_runV (C := RX12) (a := G.2.2 200 0) (As := [.int v1]) (rest := []) X hW (c_X12_four l G X.2.2.2.2.2.2.2.2.2.1 _ S1 v1 _ h5) (cwV 1 X.2.2.2.2.1 (gV gw275 gw276 gw277 gw5 gw278) rfl rfl rfl ⟨rfl, hd_X12_four⟩ ⟨Nat.le_of_ble_eq_true rfl, Nat.le_of_ble_eq_true rfl⟩) (x_recv X hW ob_Model z_1) rfl hl.1 rfl (Nat.le_of_ble_eq_true rfl) dX12_feed_22 ⟨Nat.zero_le _, Nat.zero_le _⟩) (fun H locs hW => ?_)
    refine lv_aload_n X.1 X.2.1 dX12_feed_25 rfl (lv_at hl 0 rfl) ?_
    refine lv_iload_n X.1 X.2.1 dX12_feed_26 rfl (lv_at hl 2 rfl) ?_
    obtain ⟨r6, S7, h8, h⟩ := cl_some h
    refine x_aftV X hW (x_runV (C := RX12) (a := G.2.2 200 0) (As := [.int v2]) (rest := []) X hW (c_X12_four l G X.2.2.2.2.2.2.2.2.2.1 _ S4 v2 _ h8) (cwV 1 X.2.2.2.2.1 (gV gw275 gw276 gw277 gw5 gw278) rfl rfl rfl ⟨rfl, hd_X12_four⟩ ⟨Nat.le_of_ble_eq_true rfl, Nat.le_of_ble_eq_true rfl⟩) (x_recv X hW ob_Model z_1) rfl hl.1 rfl (Nat.le_of_ble_eq_true rfl) dX12_feed_27 ⟨Nat.zero_le _, Nat.zero_le _⟩) (fun H locs hW => ?_)
    refine lv_aload_n X.1 X.2.1 dX12_feed_30 rfl (lv_at hl 0 rfl) ?_
    refine lv_iload_n X.1 X.2.1 dX12_feed_31 rfl (lv_at hl 3 rfl) ?_
    obtain ⟨r9, S10, h11, h⟩ := cl_some h
    refine x_aftV X hW (x_runV (C := RX12) (a := G.2.2 200 0) (As := [.int v3]) (rest := []) X hW (c_X12_four l G X.2.2.2.2.2.2.2.2.2.1 _ S7 v3 _ h11) (cwV 1 X.2.2.2.2.1 (gV gw275 gw276 gw277 gw5 gw278) rfl rfl rfl ⟨rfl, hd_X12_four⟩ ⟨Nat.le_of_ble_eq_true rfl, Nat.le_of_ble_eq_true rfl⟩) (x_recv X hW ob_Model z_1) rfl hl.1 rfl (Nat.le_of_ble_eq_true rfl) dX12_feed_32 ⟨Nat.zero_le _, Nat.zero_le _⟩) (fun H locs hW => ?_)
    refine lv_aload_n X.1 X.2.1 dX12_feed_35 rfl (lv_at hl 0 rfl) ?_
    refine lv_iload X.1 X.2.1 dX12_feed_36 (lv_at hl 4 rfl) ?_
    obtain ⟨r12, S13, h14, h⟩ := cl_some h
    refine x_aftV X hW (x_runV (C := RX12) (a := G.2.2 200 0) (As := [.int v4]) (rest := []) X hW (c_X12_four l G X.2.2.2.2.2.2.2.2.2.1 _ S10 v4 _ h14) (cwV 1 X.2.2.2.2.1 (gV gw275 gw276 gw277 gw5 gw278) rfl rfl rfl ⟨rfl, hd_X12_four⟩ ⟨Nat.le_of_ble_eq_true rfl, Nat.le_of_ble_eq_true rfl⟩) (x_recv X hW ob_Model z_1) rfl hl.1 rfl (Nat.le_of_ble_eq_true rfl) dX12_feed_38 ⟨Nat.zero_le _, Nat.zero_le _⟩) (fun H locs hW => ?_)
    refine lv_aload_n X.1 X.2.1 dX12_feed_41 rfl (lv_at hl 0 rfl) ?_
    refine lv_iload X.1 X.2.1 dX12_feed_42 (lv_at hl 5 rfl) ?_
    obtain ⟨r15, S16, h17, h⟩ := cl_some h
    refine x_aftV X hW (x_runV (C := RX12) (a := G.2.2 200 0) (As := [.int v5]) (rest := []) X hW (c_X12_four l G X.2.2.2.2.2.2.2.2.2.1 _ S13 v5 _ h17) (cwV 1 X.2.2.2.2.1 (gV gw275 gw276 gw277 gw5 gw278) rfl rfl rfl ⟨rfl, hd_X12_four⟩ ⟨Nat.le_of_ble_eq_true rfl, Nat.le_of_ble_eq_true rfl⟩) (x_recv X hW ob_Model z_1) rfl hl.1 rfl (Nat.le_of_ble_eq_true rfl) dX12_feed_44 ⟨Nat.zero_le _, Nat.zero_le _⟩) (fun H locs hW => ?_)
    refine lv_aload_n X.1 X.2.1 dX12_feed_47 rfl (lv_at hl 0 rfl) ?_
    refine x_getI X hW fd_Model_taped (fun w h => List.mem_cons_of_mem _ (gin_X12 w h)) (List.mem_cons_of_mem _ gw274) z_1 dX12_feed_48 h (fun x18 h => ?_)
    exact x_iret X hW h dX12_feed_51
  · refine lv_iconst (v := (-1)) X.1 X.2.1 dX12_feed_18 rfl ?_
    exact x_iret X hW h dX12_feed_19
theorem c_X12_feed (l : Launch) (G : xG) (hD : xD G true) (sz : Nat) (S : Mm) (v1 : Int32) (v2 : Int32) (v3 : Int32) (v4 : Int32) (v5 : Int32) (o : Int32 × Mm) (h : F_X12_feed v1 v2 v3 v4 v5 S = some o) : Met l yX12_feed wsX12_feed rmX12_feed (xPre G true S sz [.ref (G.2.2 200 0), .int v1, .int v2, .int v3, .int v4, .int v5]) (xQi G true sz o) 0 0 (XA G true sz) :=
  x_start hD (by decide) rfl (Nat.le_of_ble_eq_true rfl) (fun p e s m below meth c X hW ls hl => w_X12_feed_0 X v1 v2 v3 v4 v5 hW hl h)

/-! WirelessCellModel.end(I)I -/
def rmX12_end : Room := { frames := 0, cells := 0, slots := 0, locals := 0 }
def L_X12_end_17   (S : Mm) : Option (Int32 × Mm) :=
  some ((-1), S)
def F_X12_end (v1 : Int32) (S : Mm) : Option (Int32 × Mm) :=
  pf S 288 0 0 fun S1 =>
  if v1 < 0 then (
  L_X12_end_17  S1)
  else (
  gf S1 291 0 fun x2 =>
  if v1 ≤ x2 then (
  pf S1 291 0 v1 fun S3 =>
  some (v1, S3))
  else (
  L_X12_end_17  S1))
set_option maxRecDepth 100000 in
set_option maxHeartbeats 4000000 in
theorem w_X12_end_17 {p : Program} {l : Launch} {e : Env} {s : State} {m : MethodId} {args : Array Value} {below : List Frame} {meth : Method} {c : Code} {G : xG} {sz : Nat} {o : Int32 × Mm} (X : xC G true sz p s m args c cX12_end 2 wsX12_end RX12 meth (some .int))    {S : Mm} {H : Heap} {locs : List Loc} {ls : Array Slot} (hW : xW G true sz s H locs S) (hl : lv_has ls 2 []) (h : L_X12_end_17   S = some o) : wX p l e rmX12_end s m args below meth c H locs (xQi G true sz o) (XA G true sz) 17 ls [] := by
  unfold L_X12_end_17 at h
  refine lv_iconst (v := (-1)) X.1 X.2.1 dX12_end_17 rfl ?_
  exact x_iret X hW h dX12_end_18
set_option maxRecDepth 100000 in
set_option maxHeartbeats 4000000 in
theorem w_X12_end_0 {p : Program} {l : Launch} {e : Env} {s : State} {m : MethodId} {args : Array Value} {below : List Frame} {meth : Method} {c : Code} {G : xG} {sz : Nat} {o : Int32 × Mm} (X : xC G true sz p s m args c cX12_end 2 wsX12_end RX12 meth (some .int)) (v1 : Int32) {S : Mm} {H : Heap} {locs : List Loc} {ls : Array Slot} (hW : xW G true sz s H locs S) (hl : lv_has ls 2 [(0, .ref (G.2.2 200 0)), (1, .int v1)]) (h : F_X12_end v1 S = some o) : wX p l e rmX12_end s m args below meth c H locs (xQi G true sz o) (XA G true sz) 0 ls [] := by
  unfold F_X12_end at h
  refine lv_aload_n X.1 X.2.1 dX12_end_0 rfl (lv_at hl 0 rfl) ?_
  refine lv_iconst (v := 0) X.1 X.2.1 dX12_end_1 rfl ?_
  refine x_putI X hW fd_Model_thrown (fun w h => List.mem_cons_of_mem _ (gin_X12 w h)) (List.mem_cons_of_mem _ gw273) z_1 dX12_end_2 tyX12 tyX12_ok nmX12 rfl rfl rfl h (fun S1 H locs h hW => ?_)
  refine lv_iload_n X.1 X.2.1 dX12_end_5 rfl (lv_at hl 1 rfl) ?_
  refine x_if_lt X (tgt := 17) dX12_end_6 (by decide) h (fun h => ?_) (fun h => ?_)
  · exact w_X12_end_17 X    hW (lv_sub hl [] rfl) h
  · refine lv_iload_n X.1 X.2.1 dX12_end_9 rfl (lv_at hl 1 rfl) ?_
    refine lv_aload_n X.1 X.2.1 dX12_end_10 rfl (lv_at hl 0 rfl) ?_
    refine x_getI X hW fd_Model_taped (fun w h => List.mem_cons_of_mem _ (gin_X12 w h)) (List.mem_cons_of_mem _ gw274) z_1 dX12_end_11 h (fun x2 h => ?_)
    refine x_icmp_le X (tgt := 19) dX12_end_14 (by decide) h (fun h => ?_) (fun h => ?_)
    · refine lv_aload_n X.1 X.2.1 dX12_end_19 rfl (lv_at hl 0 rfl) ?_
      refine lv_iload_n X.1 X.2.1 dX12_end_20 rfl (lv_at hl 1 rfl) ?_
      refine x_putI X hW fd_Model_taped (fun w h => List.mem_cons_of_mem _ (gin_X12 w h)) (List.mem_cons_of_mem _ gw274) z_1 dX12_end_21 tyX12 tyX12_ok nmX12 rfl rfl rfl h (fun S3 H locs h hW => ?_)
      refine lv_iload_n X.1 X.2.1 dX12_end_24 rfl (lv_at hl 1 rfl) ?_
      exact x_iret X hW h dX12_end_25
    · exact w_X12_end_17 X    hW (lv_sub hl [] rfl) h
theorem c_X12_end (l : Launch) (G : xG) (hD : xD G true) (sz : Nat) (S : Mm) (v1 : Int32) (o : Int32 × Mm) (h : F_X12_end v1 S = some o) : Met l yX12_end wsX12_end rmX12_end (xPre G true S sz [.ref (G.2.2 200 0), .int v1]) (xQi G true sz o) 0 0 (XA G true sz) :=
  x_start hD (by decide) rfl (Nat.le_of_ble_eq_true rfl) (fun p e s m below meth c X hW ls hl => w_X12_end_0 X v1 hW hl h)

/-! WirelessCellModel.alter(II)I -/
def rmX12_alter : Room := { frames := 1, cells := 0, slots := 0, locals := 25 }
def L_X12_alter_29   (S : Mm) : Option (Int32 × Mm) :=
  some ((-1), S)
def F_X12_alter (v1 : Int32) (v2 : Int32) (S : Mm) : Option (Int32 × Mm) :=
  pf S 288 0 0 fun S1 =>
  if v1 < 0 then (
  L_X12_alter_29  S1)
  else (
  gf S1 291 0 fun x2 =>
  if x2 ≤ v1 then (
  L_X12_alter_29  S1)
  else (
  cl (F_X12_in (Int32.toInt64 v2) 1 255 S1) fun r3 S4 =>
  if r3 = 0 then (
  L_X12_alter_29  S4)
  else (
  ldA S4 215 0 300 1 v1 fun x6 =>
  stA S4 215 0 300 1 v1 (x6 ^^^ v2) fun S7 =>
  ldA S7 215 0 300 1 v1 fun x8 =>
  some (x8, S7))))
set_option maxRecDepth 100000 in
set_option maxHeartbeats 4000000 in
theorem w_X12_alter_29 {p : Program} {l : Launch} {e : Env} {s : State} {m : MethodId} {args : Array Value} {below : List Frame} {meth : Method} {c : Code} {G : xG} {sz : Nat} {o : Int32 × Mm} (X : xC G true sz p s m args c cX12_alter 3 wsX12_alter RX12 meth (some .int))    {S : Mm} {H : Heap} {locs : List Loc} {ls : Array Slot} (hW : xW G true sz s H locs S) (hl : lv_has ls 3 []) (h : L_X12_alter_29   S = some o) : wX p l e rmX12_alter s m args below meth c H locs (xQi G true sz o) (XA G true sz) 29 ls [] := by
  unfold L_X12_alter_29 at h
  refine lv_iconst (v := (-1)) X.1 X.2.1 dX12_alter_29 rfl ?_
  exact x_iret X hW h dX12_alter_30
set_option maxRecDepth 100000 in
set_option maxHeartbeats 4000000 in
theorem w_X12_alter_0 {p : Program} {l : Launch} {e : Env} {s : State} {m : MethodId} {args : Array Value} {below : List Frame} {meth : Method} {c : Code} {G : xG} {sz : Nat} {o : Int32 × Mm} (X : xC G true sz p s m args c cX12_alter 3 wsX12_alter RX12 meth (some .int)) (v1 : Int32) (v2 : Int32) {S : Mm} {H : Heap} {locs : List Loc} {ls : Array Slot} (hW : xW G true sz s H locs S) (hl : lv_has ls 3 [(0, .ref (G.2.2 200 0)), (1, .int v1), (2, .int v2)]) (h : F_X12_alter v1 v2 S = some o) : wX p l e rmX12_alter s m args below meth c H locs (xQi G true sz o) (XA G true sz) 0 ls [] := by
  unfold F_X12_alter at h
  refine lv_aload_n X.1 X.2.1 dX12_alter_0 rfl (lv_at hl 0 rfl) ?_
  refine lv_iconst (v := 0) X.1 X.2.1 dX12_alter_1 rfl ?_
  refine x_putI X hW fd_Model_thrown (fun w h => List.mem_cons_of_mem _ (gin_X12 w h)) (List.mem_cons_of_mem _ gw273) z_1 dX12_alter_2 tyX12 tyX12_ok nmX12 rfl rfl rfl h (fun S1 H locs h hW => ?_)
  refine lv_iload_n X.1 X.2.1 dX12_alter_5 rfl (lv_at hl 1 rfl) ?_
  refine x_if_lt X (tgt := 29) dX12_alter_6 (by decide) h (fun h => ?_) (fun h => ?_)
  · exact w_X12_alter_29 X    hW (lv_sub hl [] rfl) h
  · refine lv_iload_n X.1 X.2.1 dX12_alter_9 rfl (lv_at hl 1 rfl) ?_
    refine lv_aload_n X.1 X.2.1 dX12_alter_10 rfl (lv_at hl 0 rfl) ?_
    refine x_getI X hW fd_Model_taped (fun w h => List.mem_cons_of_mem _ (gin_X12 w h)) (List.mem_cons_of_mem _ gw274) z_1 dX12_alter_11 h (fun x2 h => ?_)
    refine x_icmp_ge X (tgt := 29) dX12_alter_14 (by decide) h (fun h => ?_) (fun h => ?_)
    · exact w_X12_alter_29 X    hW (lv_sub hl [] rfl) h
    · refine lv_iload_n X.1 X.2.1 dX12_alter_17 rfl (lv_at hl 2 rfl) ?_
      refine lv_i2l (v := (Int32.toInt64 v2)) X.1 X.2.1 dX12_alter_18 rfl ?_
      refine lv_lconst (v := 1) X.1 X.2.1 dX12_alter_19 rfl ?_
      refine lv_ldc2 (v := 255) X.1 X.2.1 X.2.2.2.1 (X.2.2.2.2.1 _ (List.mem_cons_of_mem _ gw295)) dX12_alter_20 ?_
      obtain ⟨r3, S4, h5, h⟩ := cl_some h
      refine x_aftI X hW (x_runS (As := [.long (Int32.toInt64 v2), .long 1, .long 255]) (rest := []) X hW (c_X12_in l G X.2.2.2.2.2.2.2.2.2.1 _ S1 (Int32.toInt64 v2) 1 255 _ h5) (va_cwS 3 X.2.2.2.2.1 (gS gw296 gw297 gw5 gw298) rfl rfl rfl hd_X12_in ⟨Nat.le_of_ble_eq_true rfl, Nat.le_of_ble_eq_true rfl⟩) rfl hl.1 rfl (Nat.le_of_ble_eq_true rfl) dX12_alter_23 ⟨Nat.zero_le _, Nat.zero_le _⟩) (fun H locs hW => ?_)
      refine x_if_ne X (tgt := 31) dX12_alter_26 (by decide) h (fun h => ?_) (fun h => ?_)
      · refine lv_aload_n X.1 X.2.1 dX12_alter_31 rfl (lv_at hl 0 rfl) ?_
        refine x_getR X hW fd_Model_tape (fun w h => List.mem_cons_of_mem _ (gin_X12 w h)) (List.mem_cons_of_mem _ gw165) z_1 dX12_alter_32 ?_
        refine lv_iload_n X.1 X.2.1 dX12_alter_35 rfl (lv_at hl 1 rfl) ?_
        refine lv_aload_n X.1 X.2.1 dX12_alter_36 rfl (lv_at hl 0 rfl) ?_
        refine x_getR X hW fd_Model_tape (fun w h => List.mem_cons_of_mem _ (gin_X12 w h)) (List.mem_cons_of_mem _ gw165) z_1 dX12_alter_37 ?_
        refine lv_iload_n X.1 X.2.1 dX12_alter_40 rfl (lv_at hl 1 rfl) ?_
        refine x_iald X hW ar_215 dX12_alter_41 h (fun x6 h => ?_)
        refine lv_iload_n X.1 X.2.1 dX12_alter_42 rfl (lv_at hl 2 rfl) ?_
        refine lv_ixor X.1 X.2.1 dX12_alter_43 ?_
        refine x_iast X hW ar_215 dX12_alter_44 h (fun S7 H locs h hW => ?_)
        refine lv_aload_n X.1 X.2.1 dX12_alter_45 rfl (lv_at hl 0 rfl) ?_
        refine x_getR X hW fd_Model_tape (fun w h => List.mem_cons_of_mem _ (gin_X12 w h)) (List.mem_cons_of_mem _ gw165) z_1 dX12_alter_46 ?_
        refine lv_iload_n X.1 X.2.1 dX12_alter_49 rfl (lv_at hl 1 rfl) ?_
        refine x_iald X hW ar_215 dX12_alter_50 h (fun x8 h => ?_)
        exact x_iret X hW h dX12_alter_51
      · exact w_X12_alter_29 X    hW (lv_sub hl [] rfl) h
theorem c_X12_alter (l : Launch) (G : xG) (hD : xD G true) (sz : Nat) (S : Mm) (v1 : Int32) (v2 : Int32) (o : Int32 × Mm) (h : F_X12_alter v1 v2 S = some o) : Met l yX12_alter wsX12_alter rmX12_alter (xPre G true S sz [.ref (G.2.2 200 0), .int v1, .int v2]) (xQi G true sz o) 0 0 (XA G true sz) :=
  x_start hD (by decide) rfl (Nat.le_of_ble_eq_true rfl) (fun p e s m below meth c X hW ls hl => w_X12_alter_0 X v1 v2 hW hl h)

/-! WirelessCellModel.check()I -/
def rmX12_check : Room := { frames := 1, cells := 0, slots := 0, locals := 25 }
def L_X12_check_34  (v1 : Int32) : Nat → Int32 → Mm → Option (Int32 × Mm)
  | 0, _, _ => none
  | n + 1, v2, S => 
    if 4 ≤ v2 then (
    gf S 291 0 fun x7 =>
    some (x7, S))
    else (
    gf S 291 0 fun x8 =>
    stA S 215 0 300 1 x8 ((v1 >>> ((8 * v2) &&& 31)) &&& 255) fun S9 =>
    gf S9 291 0 fun x10 =>
    pf S9 291 0 (x10 + 1) fun S11 =>
    (L_X12_check_34 v1 n) (v2 + 1) S11)
def F_X12_check  (S : Mm) : Option (Int32 × Mm) :=
  pf S 288 0 0 fun S1 =>
  gf S1 291 0 fun x2 =>
  if (x2 + 4) ≤ 300 then (
  gf S1 291 0 fun x3 =>
  cl (F_X12_crc 215 0 0 x3 S1) fun r4 S5 =>
  L_X12_check_34  r4 fu 0 S5)
  else (
  some ((-1), S1))
set_option maxRecDepth 100000 in
set_option maxHeartbeats 4000000 in
theorem w_X12_check_34 {p : Program} {l : Launch} {e : Env} {s : State} {m : MethodId} {args : Array Value} {below : List Frame} {meth : Method} {c : Code} {G : xG} {sz : Nat} {o : Int32 × Mm} (X : xC G true sz p s m args c cX12_check 3 wsX12_check RX12 meth (some .int)) (v1 : Int32)   : ∀ (n : Nat) (v2 : Int32) (S : Mm) (H : Heap) (locs : List Loc) (ls : Array Slot), L_X12_check_34 v1 n v2 S = some o → xW G true sz s H locs S → lv_has ls 3 [(0, .ref (G.2.2 200 0)), (1, .int v1), (2, .int v2)] → wX p l e rmX12_check s m args below meth c H locs (xQi G true sz o) (XA G true sz) 34 ls [] := by
  intro n
  induction n with
  | zero =>
    intro v2 S H locs ls h
    cases h
  | succ n ih =>
    intro v2 S H locs ls h hW  hl
    rw [L_X12_check_34] at h
    refine lv_iload_n X.1 X.2.1 dX12_check_34 rfl (lv_at hl 2 rfl) ?_
    refine lv_iconst (v := 4) X.1 X.2.1 dX12_check_35 rfl ?_
    refine x_icmp_ge X (tgt := 74) dX12_check_36 (by decide) h (fun h => ?_) (fun h => ?_)
    · refine lv_aload_n X.1 X.2.1 dX12_check_74 rfl (lv_at hl 0 rfl) ?_
      refine x_getI X hW fd_Model_taped (fun w h => List.mem_cons_of_mem _ (gin_X12 w h)) (List.mem_cons_of_mem _ gw274) z_1 dX12_check_75 h (fun x7 h => ?_)
      exact x_iret X hW h dX12_check_78
    · refine lv_aload_n X.1 X.2.1 dX12_check_39 rfl (lv_at hl 0 rfl) ?_
      refine x_getR X hW fd_Model_tape (fun w h => List.mem_cons_of_mem _ (gin_X12 w h)) (List.mem_cons_of_mem _ gw165) z_1 dX12_check_40 ?_
      refine lv_aload_n X.1 X.2.1 dX12_check_43 rfl (lv_at hl 0 rfl) ?_
      refine x_getI X hW fd_Model_taped (fun w h => List.mem_cons_of_mem _ (gin_X12 w h)) (List.mem_cons_of_mem _ gw274) z_1 dX12_check_44 h (fun x8 h => ?_)
      refine lv_iload_n X.1 X.2.1 dX12_check_47 rfl (lv_at hl 1 rfl) ?_
      refine lv_bipush (v := 8) X.1 X.2.1 dX12_check_48 rfl ?_
      refine lv_iload_n X.1 X.2.1 dX12_check_50 rfl (lv_at hl 2 rfl) ?_
      refine lv_imul X.1 X.2.1 dX12_check_51 ?_
      refine lv_ishr X.1 X.2.1 dX12_check_52 ?_
      refine lv_sipush (v := 255) X.1 X.2.1 dX12_check_53 rfl ?_
      refine lv_iand X.1 X.2.1 dX12_check_56 ?_
      refine x_iast X hW ar_215 dX12_check_57 h (fun S9 H locs h hW => ?_)
      refine lv_aload_n X.1 X.2.1 dX12_check_58 rfl (lv_at hl 0 rfl) ?_
      refine lv_dup X.1 X.2.1 dX12_check_59 rfl ?_
      refine x_getI X hW fd_Model_taped (fun w h => List.mem_cons_of_mem _ (gin_X12 w h)) (List.mem_cons_of_mem _ gw274) z_1 dX12_check_60 h (fun x10 h => ?_)
      refine lv_iconst (v := 1) X.1 X.2.1 dX12_check_63 rfl ?_
      refine lv_iadd X.1 X.2.1 dX12_check_64 ?_
      refine x_putI X hW fd_Model_taped (fun w h => List.mem_cons_of_mem _ (gin_X12 w h)) (List.mem_cons_of_mem _ gw274) z_1 dX12_check_65 tyX12 tyX12_ok nmX12 rfl rfl rfl h (fun S11 H locs h hW => ?_)
      refine lv_iinc (v := (v2 + 1)) (lv' := [(2, .int (v2 + 1)), (0, .ref (G.2.2 200 0)), (1, .int v1)]) X.1 X.2.1 dX12_check_68 hl (k := 2) rfl rfl (by decide) rfl (fun ls hl => ?_)
      refine lv_goto (tgt := 34) X.1 X.2.1 dX12_check_71 (by decide) ?_
      exact ih (v2 + 1) S11 _ _ _ h hW  (lv_sub hl [1, 2, 0] rfl)
set_option maxRecDepth 100000 in
set_option maxHeartbeats 4000000 in
theorem w_X12_check_0 {p : Program} {l : Launch} {e : Env} {s : State} {m : MethodId} {args : Array Value} {below : List Frame} {meth : Method} {c : Code} {G : xG} {sz : Nat} {o : Int32 × Mm} (X : xC G true sz p s m args c cX12_check 3 wsX12_check RX12 meth (some .int))  {S : Mm} {H : Heap} {locs : List Loc} {ls : Array Slot} (hW : xW G true sz s H locs S) (hl : lv_has ls 3 [(0, .ref (G.2.2 200 0))]) (h : F_X12_check  S = some o) : wX p l e rmX12_check s m args below meth c H locs (xQi G true sz o) (XA G true sz) 0 ls [] := by
  unfold F_X12_check at h
  refine lv_aload_n X.1 X.2.1 dX12_check_0 rfl (lv_at hl 0 rfl) ?_
  refine lv_iconst (v := 0) X.1 X.2.1 dX12_check_1 rfl ?_
  refine x_putI X hW fd_Model_thrown (fun w h => List.mem_cons_of_mem _ (gin_X12 w h)) (List.mem_cons_of_mem _ gw273) z_1 dX12_check_2 tyX12 tyX12_ok nmX12 rfl rfl rfl h (fun S1 H locs h hW => ?_)
  refine lv_aload_n X.1 X.2.1 dX12_check_5 rfl (lv_at hl 0 rfl) ?_
  refine x_getI X hW fd_Model_taped (fun w h => List.mem_cons_of_mem _ (gin_X12 w h)) (List.mem_cons_of_mem _ gw274) z_1 dX12_check_6 h (fun x2 h => ?_)
  refine lv_iconst (v := 4) X.1 X.2.1 dX12_check_9 rfl ?_
  refine lv_iadd X.1 X.2.1 dX12_check_10 ?_
  refine lv_sipush (v := 300) X.1 X.2.1 dX12_check_11 rfl ?_
  refine x_icmp_le X (tgt := 19) dX12_check_14 (by decide) h (fun h => ?_) (fun h => ?_)
  · refine lv_aload_n X.1 X.2.1 dX12_check_19 rfl (lv_at hl 0 rfl) ?_
    refine x_getR X hW fd_Model_tape (fun w h => List.mem_cons_of_mem _ (gin_X12 w h)) (List.mem_cons_of_mem _ gw165) z_1 dX12_check_20 ?_
    refine lv_iconst (v := 0) X.1 X.2.1 dX12_check_23 rfl ?_
    refine lv_aload_n X.1 X.2.1 dX12_check_24 rfl (lv_at hl 0 rfl) ?_
    refine x_getI X hW fd_Model_taped (fun w h => List.mem_cons_of_mem _ (gin_X12 w h)) (List.mem_cons_of_mem _ gw274) z_1 dX12_check_25 h (fun x3 h => ?_)
    obtain ⟨r4, S5, h6, h⟩ := cl_some h
    refine x_aftI X hW (x_runS (As := [.ref (G.2.2 215 0), .int 0, .int x3]) (rest := []) X hW (c_X12_crc l G X.2.2.2.2.2.2.2.2.2.1 _ S1 215 0 0 x3 _ h6) (va_cwS 3 X.2.2.2.2.1 (gS gw314 gw315 gw5 gw316) rfl rfl rfl hd_X12_crc ⟨Nat.le_of_ble_eq_true rfl, Nat.le_of_ble_eq_true rfl⟩) rfl hl.1 rfl (Nat.le_of_ble_eq_true rfl) dX12_check_28 ⟨Nat.zero_le _, Nat.zero_le _⟩) (fun H locs hW => ?_)
    refine lv_istore_n (lv' := [(1, .int r4), (0, .ref (G.2.2 200 0))]) X.1 X.2.1 dX12_check_31 rfl hl (by decide) rfl (fun ls hl => ?_)
    refine lv_iconst (v := 0) X.1 X.2.1 dX12_check_32 rfl ?_
    refine lv_istore_n (lv' := [(2, .int 0), (1, .int r4), (0, .ref (G.2.2 200 0))]) X.1 X.2.1 dX12_check_33 rfl hl (by decide) rfl (fun ls hl => ?_)
    exact w_X12_check_34 X r4   fu 0 S5 _ _ _ h hW  (lv_sub hl [2, 1, 0] rfl)
  · refine lv_iconst (v := (-1)) X.1 X.2.1 dX12_check_17 rfl ?_
    exact x_iret X hW h dX12_check_18
theorem c_X12_check (l : Launch) (G : xG) (hD : xD G true) (sz : Nat) (S : Mm)  (o : Int32 × Mm) (h : F_X12_check  S = some o) : Met l yX12_check wsX12_check rmX12_check (xPre G true S sz [.ref (G.2.2 200 0)]) (xQi G true sz o) 0 0 (XA G true sz) :=
  x_start hD (by decide) rfl (Nat.le_of_ble_eq_true rfl) (fun p e s m below meth c X hW ls hl => w_X12_check_0 X  hW hl h)

/-! WirelessCellModel.tape(I)I -/
def rmX12_tape : Room := { frames := 0, cells := 0, slots := 0, locals := 0 }
def L_X12_tape_26   (S : Mm) : Option (Int32 × Mm) :=
  some ((-1), S)
def F_X12_tape (v1 : Int32) (S : Mm) : Option (Int32 × Mm) :=
  pf S 288 0 0 fun S1 =>
  if v1 < 0 then (
  L_X12_tape_26  S1)
  else (
  gf S1 291 0 fun x2 =>
  if x2 ≤ v1 then (
  L_X12_tape_26  S1)
  else (
  ldA S1 215 0 300 1 v1 fun x3 =>
  some (x3, S1)))
set_option maxRecDepth 100000 in
set_option maxHeartbeats 4000000 in
theorem w_X12_tape_26 {p : Program} {l : Launch} {e : Env} {s : State} {m : MethodId} {args : Array Value} {below : List Frame} {meth : Method} {c : Code} {G : xG} {sz : Nat} {o : Int32 × Mm} (X : xC G true sz p s m args c cX12_tape 2 wsX12_tape RX12 meth (some .int))    {S : Mm} {H : Heap} {locs : List Loc} {ls : Array Slot} (hW : xW G true sz s H locs S) (hl : lv_has ls 2 []) (h : L_X12_tape_26   S = some o) : wX p l e rmX12_tape s m args below meth c H locs (xQi G true sz o) (XA G true sz) 26 ls [] := by
  unfold L_X12_tape_26 at h
  refine lv_iconst (v := (-1)) X.1 X.2.1 dX12_tape_26 rfl ?_
  exact x_iret X hW h dX12_tape_27
set_option maxRecDepth 100000 in
set_option maxHeartbeats 4000000 in
theorem w_X12_tape_0 {p : Program} {l : Launch} {e : Env} {s : State} {m : MethodId} {args : Array Value} {below : List Frame} {meth : Method} {c : Code} {G : xG} {sz : Nat} {o : Int32 × Mm} (X : xC G true sz p s m args c cX12_tape 2 wsX12_tape RX12 meth (some .int)) (v1 : Int32) {S : Mm} {H : Heap} {locs : List Loc} {ls : Array Slot} (hW : xW G true sz s H locs S) (hl : lv_has ls 2 [(0, .ref (G.2.2 200 0)), (1, .int v1)]) (h : F_X12_tape v1 S = some o) : wX p l e rmX12_tape s m args below meth c H locs (xQi G true sz o) (XA G true sz) 0 ls [] := by
  unfold F_X12_tape at h
  refine lv_aload_n X.1 X.2.1 dX12_tape_0 rfl (lv_at hl 0 rfl) ?_
  refine lv_iconst (v := 0) X.1 X.2.1 dX12_tape_1 rfl ?_
  refine x_putI X hW fd_Model_thrown (fun w h => List.mem_cons_of_mem _ (gin_X12 w h)) (List.mem_cons_of_mem _ gw273) z_1 dX12_tape_2 tyX12 tyX12_ok nmX12 rfl rfl rfl h (fun S1 H locs h hW => ?_)
  refine lv_iload_n X.1 X.2.1 dX12_tape_5 rfl (lv_at hl 1 rfl) ?_
  refine x_if_lt X (tgt := 26) dX12_tape_6 (by decide) h (fun h => ?_) (fun h => ?_)
  · exact w_X12_tape_26 X    hW (lv_sub hl [] rfl) h
  · refine lv_iload_n X.1 X.2.1 dX12_tape_9 rfl (lv_at hl 1 rfl) ?_
    refine lv_aload_n X.1 X.2.1 dX12_tape_10 rfl (lv_at hl 0 rfl) ?_
    refine x_getI X hW fd_Model_taped (fun w h => List.mem_cons_of_mem _ (gin_X12 w h)) (List.mem_cons_of_mem _ gw274) z_1 dX12_tape_11 h (fun x2 h => ?_)
    refine x_icmp_ge X (tgt := 26) dX12_tape_14 (by decide) h (fun h => ?_) (fun h => ?_)
    · exact w_X12_tape_26 X    hW (lv_sub hl [] rfl) h
    · refine lv_aload_n X.1 X.2.1 dX12_tape_17 rfl (lv_at hl 0 rfl) ?_
      refine x_getR X hW fd_Model_tape (fun w h => List.mem_cons_of_mem _ (gin_X12 w h)) (List.mem_cons_of_mem _ gw165) z_1 dX12_tape_18 ?_
      refine lv_iload_n X.1 X.2.1 dX12_tape_21 rfl (lv_at hl 1 rfl) ?_
      refine x_iald X hW ar_215 dX12_tape_22 h (fun x3 h => ?_)
      refine lv_goto (tgt := 27) X.1 X.2.1 dX12_tape_23 (by decide) ?_
      exact x_iret X hW h dX12_tape_27
theorem c_X12_tape (l : Launch) (G : xG) (hD : xD G true) (sz : Nat) (S : Mm) (v1 : Int32) (o : Int32 × Mm) (h : F_X12_tape v1 S = some o) : Met l yX12_tape wsX12_tape rmX12_tape (xPre G true S sz [.ref (G.2.2 200 0), .int v1]) (xQi G true sz o) 0 0 (XA G true sz) :=
  x_start hD (by decide) rfl (Nat.le_of_ble_eq_true rfl) (fun p e s m below meth c X hW ls hl => w_X12_tape_0 X v1 hW hl h)

/-! WirelessCellModel.isStation(I)Z -/
def rmX12_isStation : Room := { frames := 1, cells := 0, slots := 0, locals := 25 }
def F_X12_isStation (v0 : Int32) (S : Mm) : Option (Int32 × Mm) :=
  cl (F_X12_in (Int32.toInt64 v0) 1 8 S) fun r1 S2 =>
  gd (r1 &&& 1 = r1) (some (r1, S2))
set_option maxRecDepth 100000 in
set_option maxHeartbeats 4000000 in
theorem w_X12_isStation_0 {p : Program} {l : Launch} {e : Env} {s : State} {m : MethodId} {args : Array Value} {below : List Frame} {meth : Method} {c : Code} {G : xG} {sz : Nat} {o : Int32 × Mm} (X : xC G true sz p s m args c cX12_isStation 1 wsX12_isStation RX12 meth (some .boolean)) (v0 : Int32) {S : Mm} {H : Heap} {locs : List Loc} {ls : Array Slot} (hW : xW G true sz s H locs S) (hl : lv_has ls 1 [(0, .int v0)]) (h : F_X12_isStation v0 S = some o) : wX p l e rmX12_isStation s m args below meth c H locs (xQi G true sz o) (XA G true sz) 0 ls [] := by
  unfold F_X12_isStation at h
  refine lv_iload_n X.1 X.2.1 dX12_isStation_0 rfl (lv_at hl 0 rfl) ?_
  refine lv_i2l (v := (Int32.toInt64 v0)) X.1 X.2.1 dX12_isStation_1 rfl ?_
  refine lv_lconst (v := 1) X.1 X.2.1 dX12_isStation_2 rfl ?_
  refine lv_ldc2 (v := 8) X.1 X.2.1 X.2.2.2.1 (X.2.2.2.2.1 _ (List.mem_cons_of_mem _ gw372)) dX12_isStation_3 ?_
  obtain ⟨r1, S2, h3, h⟩ := cl_some h
  refine x_aftI X hW (x_runS (As := [.long (Int32.toInt64 v0), .long 1, .long 8]) (rest := []) X hW (c_X12_in l G X.2.2.2.2.2.2.2.2.2.1 _ S (Int32.toInt64 v0) 1 8 _ h3) (va_cwS 3 X.2.2.2.2.1 (gS gw296 gw297 gw5 gw298) rfl rfl rfl hd_X12_in ⟨Nat.le_of_ble_eq_true rfl, Nat.le_of_ble_eq_true rfl⟩) rfl hl.1 rfl (Nat.le_of_ble_eq_true rfl) dX12_isStation_6 ⟨Nat.zero_le _, Nat.zero_le _⟩) (fun H locs hW => ?_)
  obtain ⟨g4, h⟩ := if_some h
  exact x_zret X hW h g4 dX12_isStation_9
theorem c_X12_isStation (l : Launch) (G : xG) (hD : xD G true) (sz : Nat) (S : Mm) (v0 : Int32) (o : Int32 × Mm) (h : F_X12_isStation v0 S = some o) : Met l yX12_isStation wsX12_isStation rmX12_isStation (xPre G true S sz [.int v0]) (xQi G true sz o) 0 0 (XA G true sz) :=
  x_start hD (by decide) rfl (Nat.le_of_ble_eq_true rfl) (fun p e s m below meth c X hW ls hl => w_X12_isStation_0 X v0 hW hl h)

/-! WirelessCellModel.isNode(I)Z -/
def rmX12_isNode : Room := { frames := 1, cells := 0, slots := 0, locals := 25 }
def F_X12_isNode (v0 : Int32) (S : Mm) : Option (Int32 × Mm) :=
  cl (F_X12_in (Int32.toInt64 v0) 0 8 S) fun r1 S2 =>
  gd (r1 &&& 1 = r1) (some (r1, S2))
set_option maxRecDepth 100000 in
set_option maxHeartbeats 4000000 in
theorem w_X12_isNode_0 {p : Program} {l : Launch} {e : Env} {s : State} {m : MethodId} {args : Array Value} {below : List Frame} {meth : Method} {c : Code} {G : xG} {sz : Nat} {o : Int32 × Mm} (X : xC G true sz p s m args c cX12_isNode 1 wsX12_isNode RX12 meth (some .boolean)) (v0 : Int32) {S : Mm} {H : Heap} {locs : List Loc} {ls : Array Slot} (hW : xW G true sz s H locs S) (hl : lv_has ls 1 [(0, .int v0)]) (h : F_X12_isNode v0 S = some o) : wX p l e rmX12_isNode s m args below meth c H locs (xQi G true sz o) (XA G true sz) 0 ls [] := by
  unfold F_X12_isNode at h
  refine lv_iload_n X.1 X.2.1 dX12_isNode_0 rfl (lv_at hl 0 rfl) ?_
  refine lv_i2l (v := (Int32.toInt64 v0)) X.1 X.2.1 dX12_isNode_1 rfl ?_
  refine lv_lconst (v := 0) X.1 X.2.1 dX12_isNode_2 rfl ?_
  refine lv_ldc2 (v := 8) X.1 X.2.1 X.2.2.2.1 (X.2.2.2.2.1 _ (List.mem_cons_of_mem _ gw372)) dX12_isNode_3 ?_
  obtain ⟨r1, S2, h3, h⟩ := cl_some h
  refine x_aftI X hW (x_runS (As := [.long (Int32.toInt64 v0), .long 0, .long 8]) (rest := []) X hW (c_X12_in l G X.2.2.2.2.2.2.2.2.2.1 _ S (Int32.toInt64 v0) 0 8 _ h3) (va_cwS 3 X.2.2.2.2.1 (gS gw296 gw297 gw5 gw298) rfl rfl rfl hd_X12_in ⟨Nat.le_of_ble_eq_true rfl, Nat.le_of_ble_eq_true rfl⟩) rfl hl.1 rfl (Nat.le_of_ble_eq_true rfl) dX12_isNode_6 ⟨Nat.zero_le _, Nat.zero_le _⟩) (fun H locs hW => ?_)
  obtain ⟨g4, h⟩ := if_some h
  exact x_zret X hW h g4 dX12_isNode_9
theorem c_X12_isNode (l : Launch) (G : xG) (hD : xD G true) (sz : Nat) (S : Mm) (v0 : Int32) (o : Int32 × Mm) (h : F_X12_isNode v0 S = some o) : Met l yX12_isNode wsX12_isNode rmX12_isNode (xPre G true S sz [.int v0]) (xQi G true sz o) 0 0 (XA G true sz) :=
  x_start hD (by decide) rfl (Nat.le_of_ble_eq_true rfl) (fun p e s m below meth c X hW ls hl => w_X12_isNode_0 X v0 hW hl h)

/-! WirelessCellModel.putLongs([IIJJJJ)V -/
def rmX12_putLongs : Room := { frames := 0, cells := 0, slots := 0, locals := 0 }
def L_X12_putLongs_47 (k3 : Int32 → Mm → Option (Unit × Mm)) (cv0 : Nat) (v0 : Nat) (v1 : Int32) (v2 : Int64) (v4 : Int64) (v6 : Int64) (v8 : Int64) (v10 : Int32) (s0 : Int64) (S : Mm) : Option (Unit × Mm) :=
  stP true S cv0 v0 (v1 + v10) ((Int64.toInt32 (s0 >>> (Int32.toInt64 (56 - (8 * (v10 - v10 / 8 * 8))) &&& 63))) &&& 255) fun S1 =>
  k3 (v10 + 1) S1
def L_X12_putLongs_3  (cv0 : Nat) (v0 : Nat) (v1 : Int32) (v2 : Int64) (v4 : Int64) (v6 : Int64) (v8 : Int64) : Nat → Int32 → Mm → Option (Unit × Mm)
  | 0, _, _ => none
  | n + 1, v10, S => 
    if 32 ≤ v10 then (
    some ((), S))
    else (
    if 8 ≤ v10 then (
    if 16 ≤ v10 then (
    if 24 ≤ v10 then (
    L_X12_putLongs_47 (L_X12_putLongs_3 cv0 v0 v1 v2 v4 v6 v8 n) cv0 v0 v1 v2 v4 v6 v8 v10 v8 S)
    else (
    L_X12_putLongs_47 (L_X12_putLongs_3 cv0 v0 v1 v2 v4 v6 v8 n) cv0 v0 v1 v2 v4 v6 v8 v10 v6 S))
    else (
    L_X12_putLongs_47 (L_X12_putLongs_3 cv0 v0 v1 v2 v4 v6 v8 n) cv0 v0 v1 v2 v4 v6 v8 v10 v4 S))
    else (
    L_X12_putLongs_47 (L_X12_putLongs_3 cv0 v0 v1 v2 v4 v6 v8 n) cv0 v0 v1 v2 v4 v6 v8 v10 v2 S))
def F_X12_putLongs (cv0 : Nat) (v0 : Nat) (v1 : Int32) (v2 : Int64) (v4 : Int64) (v6 : Int64) (v8 : Int64) (S : Mm) : Option (Unit × Mm) :=
  L_X12_putLongs_3  cv0 v0 v1 v2 v4 v6 v8 fu 0 S
set_option maxRecDepth 100000 in
set_option maxHeartbeats 4000000 in
theorem w_X12_putLongs_47 {p : Program} {l : Launch} {e : Env} {s : State} {m : MethodId} {args : Array Value} {below : List Frame} {meth : Method} {c : Code} {G : xG} {sz : Nat} {o : Unit × Mm} (X : xC G true sz p s m args c cX12_putLongs 13 wsX12_putLongs RX12 meth none) (cv0 : Nat) (v0 : Nat) (v1 : Int32) (v2 : Int64) (v4 : Int64) (v6 : Int64) (v8 : Int64) (v10 : Int32) (s0 : Int64)  (k3 : Int32 → Mm → Option (Unit × Mm)) (hk3 : ∀ (v10 : Int32) (S : Mm) (H : Heap) (locs : List Loc) (ls : Array Slot), k3 v10 S = some o → xW G true sz s H locs S → lv_has ls 13 [(0, .ref (G.2.2 cv0 v0)), (1, .int v1), (2, .long v2), (4, .long v4), (6, .long v6), (8, .long v8), (10, .int v10)] → wX p l e rmX12_putLongs s m args below meth c H locs (xQv G true sz o) (XA G true sz) 3 ls []) {S : Mm} {H : Heap} {locs : List Loc} {ls : Array Slot} (hW : xW G true sz s H locs S) (hl : lv_has ls 13 [(0, .ref (G.2.2 cv0 v0)), (1, .int v1), (2, .long v2), (4, .long v4), (6, .long v6), (8, .long v8), (10, .int v10)]) (h : L_X12_putLongs_47 k3 cv0 v0 v1 v2 v4 v6 v8 v10 s0 S = some o) : wX p l e rmX12_putLongs s m args below meth c H locs (xQv G true sz o) (XA G true sz) 47 ls [.long s0] := by
  unfold L_X12_putLongs_47 at h
  refine lv_lstore (lv' := [(11, .long s0), (0, .ref (G.2.2 cv0 v0)), (1, .int v1), (2, .long v2), (4, .long v4), (6, .long v6), (8, .long v8), (10, .int v10)]) X.1 X.2.1 dX12_putLongs_47 hl (by decide) rfl (fun ls hl => ?_)
  refine lv_aload_n X.1 X.2.1 dX12_putLongs_49 rfl (lv_at hl 1 rfl) ?_
  refine lv_iload_n X.1 X.2.1 dX12_putLongs_50 rfl (lv_at hl 2 rfl) ?_
  refine lv_iload X.1 X.2.1 dX12_putLongs_51 (lv_at hl 7 rfl) ?_
  refine lv_iadd X.1 X.2.1 dX12_putLongs_53 ?_
  refine lv_lload X.1 X.2.1 dX12_putLongs_54 (lv_at hl 0 rfl) ?_
  refine lv_bipush (v := 56) X.1 X.2.1 dX12_putLongs_56 rfl ?_
  refine lv_bipush (v := 8) X.1 X.2.1 dX12_putLongs_58 rfl ?_
  refine lv_iload X.1 X.2.1 dX12_putLongs_60 (lv_at hl 7 rfl) ?_
  refine lv_bipush (v := 8) X.1 X.2.1 dX12_putLongs_62 rfl ?_
  refine lv_irem X.1 X.2.1 dX12_putLongs_64 (by decide) ?_
  refine lv_imul X.1 X.2.1 dX12_putLongs_65 ?_
  refine lv_isub X.1 X.2.1 dX12_putLongs_66 ?_
  refine lv_lshr (v := (s0 >>> (Int32.toInt64 (56 - (8 * (v10 - v10 / 8 * 8))) &&& 63))) X.1 X.2.1 dX12_putLongs_67 rfl ?_
  refine lv_l2i (v := (Int64.toInt32 (s0 >>> (Int32.toInt64 (56 - (8 * (v10 - v10 / 8 * 8))) &&& 63)))) X.1 X.2.1 dX12_putLongs_68 rfl ?_
  refine lv_sipush (v := 255) X.1 X.2.1 dX12_putLongs_69 rfl ?_
  refine lv_iand X.1 X.2.1 dX12_putLongs_72 ?_
  refine x_iastP X hW dX12_putLongs_73 h (fun S1 H locs h hW => ?_)
  refine lv_iinc (v := (v10 + 1)) (lv' := [(10, .int (v10 + 1)), (11, .long s0), (0, .ref (G.2.2 cv0 v0)), (1, .int v1), (2, .long v2), (4, .long v4), (6, .long v6), (8, .long v8)]) X.1 X.2.1 dX12_putLongs_74 hl (k := 7) rfl rfl (by decide) rfl (fun ls hl => ?_)
  refine lv_goto (tgt := 3) X.1 X.2.1 dX12_putLongs_77 (by decide) ?_
  exact hk3 (v10 + 1) S1 _ _ _ h hW  (lv_sub hl [2, 3, 4, 5, 6, 7, 0] rfl)
set_option maxRecDepth 100000 in
set_option maxHeartbeats 4000000 in
theorem w_X12_putLongs_3 {p : Program} {l : Launch} {e : Env} {s : State} {m : MethodId} {args : Array Value} {below : List Frame} {meth : Method} {c : Code} {G : xG} {sz : Nat} {o : Unit × Mm} (X : xC G true sz p s m args c cX12_putLongs 13 wsX12_putLongs RX12 meth none) (cv0 : Nat) (v0 : Nat) (v1 : Int32) (v2 : Int64) (v4 : Int64) (v6 : Int64) (v8 : Int64)   : ∀ (n : Nat) (v10 : Int32) (S : Mm) (H : Heap) (locs : List Loc) (ls : Array Slot), L_X12_putLongs_3 cv0 v0 v1 v2 v4 v6 v8 n v10 S = some o → xW G true sz s H locs S → lv_has ls 13 [(0, .ref (G.2.2 cv0 v0)), (1, .int v1), (2, .long v2), (4, .long v4), (6, .long v6), (8, .long v8), (10, .int v10)] → wX p l e rmX12_putLongs s m args below meth c H locs (xQv G true sz o) (XA G true sz) 3 ls [] := by
  intro n
  induction n with
  | zero =>
    intro v10 S H locs ls h
    cases h
  | succ n ih =>
    intro v10 S H locs ls h hW  hl
    rw [L_X12_putLongs_3] at h
    refine lv_iload X.1 X.2.1 dX12_putLongs_3 (lv_at hl 6 rfl) ?_
    refine lv_bipush (v := 32) X.1 X.2.1 dX12_putLongs_5 rfl ?_
    refine x_icmp_ge X (tgt := 80) dX12_putLongs_7 (by decide) h (fun h => ?_) (fun h => ?_)
    · exact x_vret X hW h dX12_putLongs_80
    · refine lv_iload X.1 X.2.1 dX12_putLongs_10 (lv_at hl 6 rfl) ?_
      refine lv_bipush (v := 8) X.1 X.2.1 dX12_putLongs_12 rfl ?_
      refine x_icmp_ge X (tgt := 21) dX12_putLongs_14 (by decide) h (fun h => ?_) (fun h => ?_)
      · refine lv_iload X.1 X.2.1 dX12_putLongs_21 (lv_at hl 6 rfl) ?_
        refine lv_bipush (v := 16) X.1 X.2.1 dX12_putLongs_23 rfl ?_
        refine x_icmp_ge X (tgt := 33) dX12_putLongs_25 (by decide) h (fun h => ?_) (fun h => ?_)
        · refine lv_iload X.1 X.2.1 dX12_putLongs_33 (lv_at hl 6 rfl) ?_
          refine lv_bipush (v := 24) X.1 X.2.1 dX12_putLongs_35 rfl ?_
          refine x_icmp_ge X (tgt := 45) dX12_putLongs_37 (by decide) h (fun h => ?_) (fun h => ?_)
          · refine lv_lload X.1 X.2.1 dX12_putLongs_45 (lv_at hl 5 rfl) ?_
            exact w_X12_putLongs_47 X cv0 v0 v1 v2 v4 v6 v8 v10 v8  (L_X12_putLongs_3 cv0 v0 v1 v2 v4 v6 v8 n) ih hW (lv_sub hl [0, 1, 2, 3, 4, 5, 6] rfl) h
          · refine lv_lload X.1 X.2.1 dX12_putLongs_40 (lv_at hl 4 rfl) ?_
            refine lv_goto (tgt := 47) X.1 X.2.1 dX12_putLongs_42 (by decide) ?_
            exact w_X12_putLongs_47 X cv0 v0 v1 v2 v4 v6 v8 v10 v6  (L_X12_putLongs_3 cv0 v0 v1 v2 v4 v6 v8 n) ih hW (lv_sub hl [0, 1, 2, 3, 4, 5, 6] rfl) h
        · refine lv_lload X.1 X.2.1 dX12_putLongs_28 (lv_at hl 3 rfl) ?_
          refine lv_goto (tgt := 47) X.1 X.2.1 dX12_putLongs_30 (by decide) ?_
          exact w_X12_putLongs_47 X cv0 v0 v1 v2 v4 v6 v8 v10 v4  (L_X12_putLongs_3 cv0 v0 v1 v2 v4 v6 v8 n) ih hW (lv_sub hl [0, 1, 2, 3, 4, 5, 6] rfl) h
      · refine lv_lload_n X.1 X.2.1 dX12_putLongs_17 rfl (lv_at hl 2 rfl) ?_
        refine lv_goto (tgt := 47) X.1 X.2.1 dX12_putLongs_18 (by decide) ?_
        exact w_X12_putLongs_47 X cv0 v0 v1 v2 v4 v6 v8 v10 v2  (L_X12_putLongs_3 cv0 v0 v1 v2 v4 v6 v8 n) ih hW (lv_sub hl [0, 1, 2, 3, 4, 5, 6] rfl) h
set_option maxRecDepth 100000 in
set_option maxHeartbeats 4000000 in
theorem w_X12_putLongs_0 {p : Program} {l : Launch} {e : Env} {s : State} {m : MethodId} {args : Array Value} {below : List Frame} {meth : Method} {c : Code} {G : xG} {sz : Nat} {o : Unit × Mm} (X : xC G true sz p s m args c cX12_putLongs 13 wsX12_putLongs RX12 meth none) (cv0 : Nat) (v0 : Nat) (v1 : Int32) (v2 : Int64) (v4 : Int64) (v6 : Int64) (v8 : Int64) {S : Mm} {H : Heap} {locs : List Loc} {ls : Array Slot} (hW : xW G true sz s H locs S) (hl : lv_has ls 13 [(0, .ref (G.2.2 cv0 v0)), (1, .int v1), (2, .long v2), (4, .long v4), (6, .long v6), (8, .long v8)]) (h : F_X12_putLongs cv0 v0 v1 v2 v4 v6 v8 S = some o) : wX p l e rmX12_putLongs s m args below meth c H locs (xQv G true sz o) (XA G true sz) 0 ls [] := by
  unfold F_X12_putLongs at h
  refine lv_iconst (v := 0) X.1 X.2.1 dX12_putLongs_0 rfl ?_
  refine lv_istore (lv' := [(10, .int 0), (0, .ref (G.2.2 cv0 v0)), (1, .int v1), (2, .long v2), (4, .long v4), (6, .long v6), (8, .long v8)]) X.1 X.2.1 dX12_putLongs_1 hl (by decide) rfl (fun ls hl => ?_)
  exact w_X12_putLongs_3 X cv0 v0 v1 v2 v4 v6 v8   fu 0 S _ _ _ h hW  (lv_sub hl [1, 2, 3, 4, 5, 6, 0] rfl)
theorem c_X12_putLongs (l : Launch) (G : xG) (hD : xD G true) (sz : Nat) (S : Mm) (cv0 : Nat) (v0 : Nat) (v1 : Int32) (v2 : Int64) (v4 : Int64) (v6 : Int64) (v8 : Int64) (o : Unit × Mm) (h : F_X12_putLongs cv0 v0 v1 v2 v4 v6 v8 S = some o) : Met l yX12_putLongs wsX12_putLongs rmX12_putLongs (xPre G true S sz [.ref (G.2.2 cv0 v0), .int v1, .long v2, .long v4, .long v6, .long v8]) (xQv G true sz o) 0 0 (XA G true sz) :=
  x_start hD (by decide) rfl (Nat.le_of_ble_eq_true rfl) (fun p e s m below meth c X hW ls hl => w_X12_putLongs_0 X cv0 v0 v1 v2 v4 v6 v8 hW hl h)

/-! WirelessCellModel.secret(IJJJJ)I -/
def rmX12_secret : Room := { frames := 2, cells := 0, slots := 0, locals := 45 }
def F_X12_secret (v1 : Int32) (v2 : Int64) (v4 : Int64) (v6 : Int64) (v8 : Int64) (S : Mm) : Option (Int32 × Mm) :=
  pf S 288 0 0 fun S1 =>
  cl (F_X12_isStation v1 S1) fun r2 S3 =>
  if r2 = 0 then (
  some ((-1), S3))
  else (
  cl (F_X12_putLongs 216 0 (32 * v1) v2 v4 v6 v8 S3) fun r5 S6 =>
  some (0, S6))
set_option maxRecDepth 100000 in
set_option maxHeartbeats 4000000 in
theorem w_X12_secret_0 {p : Program} {l : Launch} {e : Env} {s : State} {m : MethodId} {args : Array Value} {below : List Frame} {meth : Method} {c : Code} {G : xG} {sz : Nat} {o : Int32 × Mm} (X : xC G true sz p s m args c cX12_secret 10 wsX12_secret RX12 meth (some .int)) (v1 : Int32) (v2 : Int64) (v4 : Int64) (v6 : Int64) (v8 : Int64) {S : Mm} {H : Heap} {locs : List Loc} {ls : Array Slot} (hW : xW G true sz s H locs S) (hl : lv_has ls 10 [(0, .ref (G.2.2 200 0)), (1, .int v1), (2, .long v2), (4, .long v4), (6, .long v6), (8, .long v8)]) (h : F_X12_secret v1 v2 v4 v6 v8 S = some o) : wX p l e rmX12_secret s m args below meth c H locs (xQi G true sz o) (XA G true sz) 0 ls [] := by
  unfold F_X12_secret at h
  refine lv_aload_n X.1 X.2.1 dX12_secret_0 rfl (lv_at hl 0 rfl) ?_
  refine lv_iconst (v := 0) X.1 X.2.1 dX12_secret_1 rfl ?_
  refine x_putI X hW fd_Model_thrown (fun w h => List.mem_cons_of_mem _ (gin_X12 w h)) (List.mem_cons_of_mem _ gw273) z_1 dX12_secret_2 tyX12 tyX12_ok nmX12 rfl rfl rfl h (fun S1 H locs h hW => ?_)
  refine lv_iload_n X.1 X.2.1 dX12_secret_5 rfl (lv_at hl 1 rfl) ?_
  obtain ⟨r2, S3, h4, h⟩ := cl_some h
  refine x_aftI X hW (x_runS (As := [.int v1]) (rest := []) X hW (c_X12_isStation l G X.2.2.2.2.2.2.2.2.2.1 _ S1 v1 _ h4) (va_cwS 1 X.2.2.2.2.1 (gS gw369 gw370 gw5 gw371) rfl rfl rfl hd_X12_isStation ⟨Nat.le_of_ble_eq_true rfl, Nat.le_of_ble_eq_true rfl⟩) rfl hl.1 rfl (Nat.le_of_ble_eq_true rfl) dX12_secret_6 ⟨Nat.zero_le _, Nat.zero_le _⟩) (fun H locs hW => ?_)
  refine x_if_ne X (tgt := 14) dX12_secret_9 (by decide) h (fun h => ?_) (fun h => ?_)
  · refine lv_aload_n X.1 X.2.1 dX12_secret_14 rfl (lv_at hl 0 rfl) ?_
    refine x_getR X hW fd_Model_secrets (fun w h => List.mem_cons_of_mem _ (gin_X12 w h)) (List.mem_cons_of_mem _ gw166) z_1 dX12_secret_15 ?_
    refine lv_bipush (v := 32) X.1 X.2.1 dX12_secret_18 rfl ?_
    refine lv_iload_n X.1 X.2.1 dX12_secret_20 rfl (lv_at hl 1 rfl) ?_
    refine lv_imul X.1 X.2.1 dX12_secret_21 ?_
    refine lv_lload_n X.1 X.2.1 dX12_secret_22 rfl (lv_at hl 2 rfl) ?_
    refine lv_lload X.1 X.2.1 dX12_secret_23 (lv_at hl 3 rfl) ?_
    refine lv_lload X.1 X.2.1 dX12_secret_25 (lv_at hl 4 rfl) ?_
    refine lv_lload X.1 X.2.1 dX12_secret_27 (lv_at hl 5 rfl) ?_
    obtain ⟨r5, S6, h7, h⟩ := cl_some h
    refine x_aftV X hW (x_runS (As := [.ref (G.2.2 216 0), .int (32 * v1), .long v2, .long v4, .long v6, .long v8]) (rest := []) X hW (c_X12_putLongs l G X.2.2.2.2.2.2.2.2.2.1 _ S3 216 0 (32 * v1) v2 v4 v6 v8 _ h7) (va_cwS 6 X.2.2.2.2.1 (gS gw373 gw374 gw5 gw375) rfl rfl rfl hd_X12_putLongs ⟨Nat.le_of_ble_eq_true rfl, Nat.le_of_ble_eq_true rfl⟩) rfl hl.1 rfl (Nat.le_of_ble_eq_true rfl) dX12_secret_29 ⟨Nat.zero_le _, Nat.zero_le _⟩) (fun H locs hW => ?_)
    refine lv_iconst (v := 0) X.1 X.2.1 dX12_secret_32 rfl ?_
    exact x_iret X hW h dX12_secret_33
  · refine lv_iconst (v := (-1)) X.1 X.2.1 dX12_secret_12 rfl ?_
    exact x_iret X hW h dX12_secret_13
theorem c_X12_secret (l : Launch) (G : xG) (hD : xD G true) (sz : Nat) (S : Mm) (v1 : Int32) (v2 : Int64) (v4 : Int64) (v6 : Int64) (v8 : Int64) (o : Int32 × Mm) (h : F_X12_secret v1 v2 v4 v6 v8 S = some o) : Met l yX12_secret wsX12_secret rmX12_secret (xPre G true S sz [.ref (G.2.2 200 0), .int v1, .long v2, .long v4, .long v6, .long v8]) (xQi G true sz o) 0 0 (XA G true sz) :=
  x_start hD (by decide) rfl (Nat.le_of_ble_eq_true rfl) (fun p e s m below meth c X hW ls hl => w_X12_secret_0 X v1 v2 v4 v6 v8 hW hl h)

/-! WirelessCellModel.known(IJJJJ)I -/
def rmX12_known : Room := { frames := 2, cells := 0, slots := 0, locals := 45 }
def F_X12_known (v1 : Int32) (v2 : Int64) (v4 : Int64) (v6 : Int64) (v8 : Int64) (S : Mm) : Option (Int32 × Mm) :=
  pf S 288 0 0 fun S1 =>
  cl (F_X12_isStation v1 S1) fun r2 S3 =>
  if r2 = 0 then (
  some ((-1), S3))
  else (
  cl (F_X12_putLongs 216 0 (288 + (32 * v1)) v2 v4 v6 v8 S3) fun r5 S6 =>
  some (0, S6))
set_option maxRecDepth 100000 in
set_option maxHeartbeats 4000000 in
theorem w_X12_known_0 {p : Program} {l : Launch} {e : Env} {s : State} {m : MethodId} {args : Array Value} {below : List Frame} {meth : Method} {c : Code} {G : xG} {sz : Nat} {o : Int32 × Mm} (X : xC G true sz p s m args c cX12_known 10 wsX12_known RX12 meth (some .int)) (v1 : Int32) (v2 : Int64) (v4 : Int64) (v6 : Int64) (v8 : Int64) {S : Mm} {H : Heap} {locs : List Loc} {ls : Array Slot} (hW : xW G true sz s H locs S) (hl : lv_has ls 10 [(0, .ref (G.2.2 200 0)), (1, .int v1), (2, .long v2), (4, .long v4), (6, .long v6), (8, .long v8)]) (h : F_X12_known v1 v2 v4 v6 v8 S = some o) : wX p l e rmX12_known s m args below meth c H locs (xQi G true sz o) (XA G true sz) 0 ls [] := by
  unfold F_X12_known at h
  refine lv_aload_n X.1 X.2.1 dX12_known_0 rfl (lv_at hl 0 rfl) ?_
  refine lv_iconst (v := 0) X.1 X.2.1 dX12_known_1 rfl ?_
  refine x_putI X hW fd_Model_thrown (fun w h => List.mem_cons_of_mem _ (gin_X12 w h)) (List.mem_cons_of_mem _ gw273) z_1 dX12_known_2 tyX12 tyX12_ok nmX12 rfl rfl rfl h (fun S1 H locs h hW => ?_)
  refine lv_iload_n X.1 X.2.1 dX12_known_5 rfl (lv_at hl 1 rfl) ?_
  obtain ⟨r2, S3, h4, h⟩ := cl_some h
  refine x_aftI X hW (x_runS (As := [.int v1]) (rest := []) X hW (c_X12_isStation l G X.2.2.2.2.2.2.2.2.2.1 _ S1 v1 _ h4) (va_cwS 1 X.2.2.2.2.1 (gS gw369 gw370 gw5 gw371) rfl rfl rfl hd_X12_isStation ⟨Nat.le_of_ble_eq_true rfl, Nat.le_of_ble_eq_true rfl⟩) rfl hl.1 rfl (Nat.le_of_ble_eq_true rfl) dX12_known_6 ⟨Nat.zero_le _, Nat.zero_le _⟩) (fun H locs hW => ?_)
  refine x_if_ne X (tgt := 14) dX12_known_9 (by decide) h (fun h => ?_) (fun h => ?_)
  · refine lv_aload_n X.1 X.2.1 dX12_known_14 rfl (lv_at hl 0 rfl) ?_
    refine x_getR X hW fd_Model_secrets (fun w h => List.mem_cons_of_mem _ (gin_X12 w h)) (List.mem_cons_of_mem _ gw166) z_1 dX12_known_15 ?_
    refine lv_sipush (v := 288) X.1 X.2.1 dX12_known_18 rfl ?_
    refine lv_bipush (v := 32) X.1 X.2.1 dX12_known_21 rfl ?_
    refine lv_iload_n X.1 X.2.1 dX12_known_23 rfl (lv_at hl 1 rfl) ?_
    refine lv_imul X.1 X.2.1 dX12_known_24 ?_
    refine lv_iadd X.1 X.2.1 dX12_known_25 ?_
    refine lv_lload_n X.1 X.2.1 dX12_known_26 rfl (lv_at hl 2 rfl) ?_
    refine lv_lload X.1 X.2.1 dX12_known_27 (lv_at hl 3 rfl) ?_
    refine lv_lload X.1 X.2.1 dX12_known_29 (lv_at hl 4 rfl) ?_
    refine lv_lload X.1 X.2.1 dX12_known_31 (lv_at hl 5 rfl) ?_
    obtain ⟨r5, S6, h7, h⟩ := cl_some h
    refine x_aftV X hW (x_runS (As := [.ref (G.2.2 216 0), .int (288 + (32 * v1)), .long v2, .long v4, .long v6, .long v8]) (rest := []) X hW (c_X12_putLongs l G X.2.2.2.2.2.2.2.2.2.1 _ S3 216 0 (288 + (32 * v1)) v2 v4 v6 v8 _ h7) (va_cwS 6 X.2.2.2.2.1 (gS gw373 gw374 gw5 gw375) rfl rfl rfl hd_X12_putLongs ⟨Nat.le_of_ble_eq_true rfl, Nat.le_of_ble_eq_true rfl⟩) rfl hl.1 rfl (Nat.le_of_ble_eq_true rfl) dX12_known_33 ⟨Nat.zero_le _, Nat.zero_le _⟩) (fun H locs hW => ?_)
    refine lv_iconst (v := 0) X.1 X.2.1 dX12_known_36 rfl ?_
    exact x_iret X hW h dX12_known_37
  · refine lv_iconst (v := (-1)) X.1 X.2.1 dX12_known_12 rfl ?_
    exact x_iret X hW h dX12_known_13
theorem c_X12_known (l : Launch) (G : xG) (hD : xD G true) (sz : Nat) (S : Mm) (v1 : Int32) (v2 : Int64) (v4 : Int64) (v6 : Int64) (v8 : Int64) (o : Int32 × Mm) (h : F_X12_known v1 v2 v4 v6 v8 S = some o) : Met l yX12_known wsX12_known rmX12_known (xPre G true S sz [.ref (G.2.2 200 0), .int v1, .long v2, .long v4, .long v6, .long v8]) (xQi G true sz o) 0 0 (XA G true sz) :=
  x_start hD (by decide) rfl (Nat.le_of_ble_eq_true rfl) (fun p e s m below meth c X hW ls hl => w_X12_known_0 X v1 v2 v4 v6 v8 hW hl h)

/-! WirelessCellModel.nonce(IJJJJ)I -/
def rmX12_nonce : Room := { frames := 2, cells := 0, slots := 0, locals := 45 }
def F_X12_nonce (v1 : Int32) (v2 : Int64) (v4 : Int64) (v6 : Int64) (v8 : Int64) (S : Mm) : Option (Int32 × Mm) :=
  pf S 288 0 0 fun S1 =>
  cl (F_X12_isNode v1 S1) fun r2 S3 =>
  if r2 = 0 then (
  some ((-1), S3))
  else (
  cl (F_X12_putLongs 217 0 (32 * v1) v2 v4 v6 v8 S3) fun r5 S6 =>
  some (0, S6))
set_option maxRecDepth 100000 in
set_option maxHeartbeats 4000000 in
theorem w_X12_nonce_0 {p : Program} {l : Launch} {e : Env} {s : State} {m : MethodId} {args : Array Value} {below : List Frame} {meth : Method} {c : Code} {G : xG} {sz : Nat} {o : Int32 × Mm} (X : xC G true sz p s m args c cX12_nonce 10 wsX12_nonce RX12 meth (some .int)) (v1 : Int32) (v2 : Int64) (v4 : Int64) (v6 : Int64) (v8 : Int64) {S : Mm} {H : Heap} {locs : List Loc} {ls : Array Slot} (hW : xW G true sz s H locs S) (hl : lv_has ls 10 [(0, .ref (G.2.2 200 0)), (1, .int v1), (2, .long v2), (4, .long v4), (6, .long v6), (8, .long v8)]) (h : F_X12_nonce v1 v2 v4 v6 v8 S = some o) : wX p l e rmX12_nonce s m args below meth c H locs (xQi G true sz o) (XA G true sz) 0 ls [] := by
  unfold F_X12_nonce at h
  refine lv_aload_n X.1 X.2.1 dX12_nonce_0 rfl (lv_at hl 0 rfl) ?_
  refine lv_iconst (v := 0) X.1 X.2.1 dX12_nonce_1 rfl ?_
  refine x_putI X hW fd_Model_thrown (fun w h => List.mem_cons_of_mem _ (gin_X12 w h)) (List.mem_cons_of_mem _ gw273) z_1 dX12_nonce_2 tyX12 tyX12_ok nmX12 rfl rfl rfl h (fun S1 H locs h hW => ?_)
  refine lv_iload_n X.1 X.2.1 dX12_nonce_5 rfl (lv_at hl 1 rfl) ?_
  obtain ⟨r2, S3, h4, h⟩ := cl_some h
  refine x_aftI X hW (x_runS (As := [.int v1]) (rest := []) X hW (c_X12_isNode l G X.2.2.2.2.2.2.2.2.2.1 _ S1 v1 _ h4) (va_cwS 1 X.2.2.2.2.1 (gS gw396 gw397 gw5 gw398) rfl rfl rfl hd_X12_isNode ⟨Nat.le_of_ble_eq_true rfl, Nat.le_of_ble_eq_true rfl⟩) rfl hl.1 rfl (Nat.le_of_ble_eq_true rfl) dX12_nonce_6 ⟨Nat.zero_le _, Nat.zero_le _⟩) (fun H locs hW => ?_)
  refine x_if_ne X (tgt := 14) dX12_nonce_9 (by decide) h (fun h => ?_) (fun h => ?_)
  · refine lv_aload_n X.1 X.2.1 dX12_nonce_14 rfl (lv_at hl 0 rfl) ?_
    refine x_getR X hW fd_Model_nonces (fun w h => List.mem_cons_of_mem _ (gin_X12 w h)) (List.mem_cons_of_mem _ gw167) z_1 dX12_nonce_15 ?_
    refine lv_bipush (v := 32) X.1 X.2.1 dX12_nonce_18 rfl ?_
    refine lv_iload_n X.1 X.2.1 dX12_nonce_20 rfl (lv_at hl 1 rfl) ?_
    refine lv_imul X.1 X.2.1 dX12_nonce_21 ?_
    refine lv_lload_n X.1 X.2.1 dX12_nonce_22 rfl (lv_at hl 2 rfl) ?_
    refine lv_lload X.1 X.2.1 dX12_nonce_23 (lv_at hl 3 rfl) ?_
    refine lv_lload X.1 X.2.1 dX12_nonce_25 (lv_at hl 4 rfl) ?_
    refine lv_lload X.1 X.2.1 dX12_nonce_27 (lv_at hl 5 rfl) ?_
    obtain ⟨r5, S6, h7, h⟩ := cl_some h
    refine x_aftV X hW (x_runS (As := [.ref (G.2.2 217 0), .int (32 * v1), .long v2, .long v4, .long v6, .long v8]) (rest := []) X hW (c_X12_putLongs l G X.2.2.2.2.2.2.2.2.2.1 _ S3 217 0 (32 * v1) v2 v4 v6 v8 _ h7) (va_cwS 6 X.2.2.2.2.1 (gS gw373 gw374 gw5 gw375) rfl rfl rfl hd_X12_putLongs ⟨Nat.le_of_ble_eq_true rfl, Nat.le_of_ble_eq_true rfl⟩) rfl hl.1 rfl (Nat.le_of_ble_eq_true rfl) dX12_nonce_29 ⟨Nat.zero_le _, Nat.zero_le _⟩) (fun H locs hW => ?_)
    refine lv_iconst (v := 0) X.1 X.2.1 dX12_nonce_32 rfl ?_
    exact x_iret X hW h dX12_nonce_33
  · refine lv_iconst (v := (-1)) X.1 X.2.1 dX12_nonce_12 rfl ?_
    exact x_iret X hW h dX12_nonce_13
theorem c_X12_nonce (l : Launch) (G : xG) (hD : xD G true) (sz : Nat) (S : Mm) (v1 : Int32) (v2 : Int64) (v4 : Int64) (v6 : Int64) (v8 : Int64) (o : Int32 × Mm) (h : F_X12_nonce v1 v2 v4 v6 v8 S = some o) : Met l yX12_nonce wsX12_nonce rmX12_nonce (xPre G true S sz [.ref (G.2.2 200 0), .int v1, .long v2, .long v4, .long v6, .long v8]) (xQi G true sz o) 0 0 (XA G true sz) :=
  x_start hD (by decide) rfl (Nat.le_of_ble_eq_true rfl) (fun p e s m below meth c X hW ls hl => w_X12_nonce_0 X v1 v2 v4 v6 v8 hW hl h)

/-! WirelessCellModel.unkey(I)V -/
def rmX12_unkey : Room := { frames := 0, cells := 0, slots := 0, locals := 0 }
def F_X12_unkey (v1 : Int32) (S : Mm) : Option (Unit × Mm) :=
  stA S 222 0 18 1 v1 (0 &&& 1) fun S1 =>
  stA S1 224 0 18 1 v1 (0 &&& 1) fun S2 =>
  stA S2 228 0 18 1 v1 (0 &&& 1) fun S3 =>
  stL S3 226 0 18 1 v1 0 fun S4 =>
  stL S4 227 0 18 1 v1 1 fun S5 =>
  some ((), S5)
set_option maxRecDepth 100000 in
set_option maxHeartbeats 4000000 in
theorem w_X12_unkey_0 {p : Program} {l : Launch} {e : Env} {s : State} {m : MethodId} {args : Array Value} {below : List Frame} {meth : Method} {c : Code} {G : xG} {sz : Nat} {o : Unit × Mm} (X : xC G true sz p s m args c cX12_unkey 2 wsX12_unkey RX12 meth none) (v1 : Int32) {S : Mm} {H : Heap} {locs : List Loc} {ls : Array Slot} (hW : xW G true sz s H locs S) (hl : lv_has ls 2 [(0, .ref (G.2.2 200 0)), (1, .int v1)]) (h : F_X12_unkey v1 S = some o) : wX p l e rmX12_unkey s m args below meth c H locs (xQv G true sz o) (XA G true sz) 0 ls [] := by
  unfold F_X12_unkey at h
  refine lv_aload_n X.1 X.2.1 dX12_unkey_0 rfl (lv_at hl 0 rfl) ?_
  refine x_getR X hW fd_Model_hasKey (fun w h => List.mem_cons_of_mem _ (gin_X12 w h)) (List.mem_cons_of_mem _ gw172) z_1 dX12_unkey_1 ?_
  refine lv_iload_n X.1 X.2.1 dX12_unkey_4 rfl (lv_at hl 1 rfl) ?_
  refine lv_iconst (v := 0) X.1 X.2.1 dX12_unkey_5 rfl ?_
  refine x_zast X hW ar_222 dX12_unkey_6 h (fun S1 H locs h hW => ?_)
  refine lv_aload_n X.1 X.2.1 dX12_unkey_7 rfl (lv_at hl 0 rfl) ?_
  refine x_getR X hW fd_Model_hasTried (fun w h => List.mem_cons_of_mem _ (gin_X12 w h)) (List.mem_cons_of_mem _ gw174) z_1 dX12_unkey_8 ?_
  refine lv_iload_n X.1 X.2.1 dX12_unkey_11 rfl (lv_at hl 1 rfl) ?_
  refine lv_iconst (v := 0) X.1 X.2.1 dX12_unkey_12 rfl ?_
  refine x_zast X hW ar_224 dX12_unkey_13 h (fun S2 H locs h hW => ?_)
  refine lv_aload_n X.1 X.2.1 dX12_unkey_14 rfl (lv_at hl 0 rfl) ?_
  refine x_getR X hW fd_Model_begun (fun w h => List.mem_cons_of_mem _ (gin_X12 w h)) (List.mem_cons_of_mem _ gw179) z_1 dX12_unkey_15 ?_
  refine lv_iload_n X.1 X.2.1 dX12_unkey_18 rfl (lv_at hl 1 rfl) ?_
  refine lv_iconst (v := 0) X.1 X.2.1 dX12_unkey_19 rfl ?_
  refine x_zast X hW ar_228 dX12_unkey_20 h (fun S3 H locs h hW => ?_)
  refine lv_aload_n X.1 X.2.1 dX12_unkey_21 rfl (lv_at hl 0 rfl) ?_
  refine x_getR X hW fd_Model_pnTaken (fun w h => List.mem_cons_of_mem _ (gin_X12 w h)) (List.mem_cons_of_mem _ gw177) z_1 dX12_unkey_22 ?_
  refine lv_iload_n X.1 X.2.1 dX12_unkey_25 rfl (lv_at hl 1 rfl) ?_
  refine lv_lconst (v := 0) X.1 X.2.1 dX12_unkey_26 rfl ?_
  refine x_last X hW ar_226 dX12_unkey_27 h (fun S4 H locs h hW => ?_)
  refine lv_aload_n X.1 X.2.1 dX12_unkey_28 rfl (lv_at hl 0 rfl) ?_
  refine x_getR X hW fd_Model_pnNext (fun w h => List.mem_cons_of_mem _ (gin_X12 w h)) (List.mem_cons_of_mem _ gw178) z_1 dX12_unkey_29 ?_
  refine lv_iload_n X.1 X.2.1 dX12_unkey_32 rfl (lv_at hl 1 rfl) ?_
  refine lv_lconst (v := 1) X.1 X.2.1 dX12_unkey_33 rfl ?_
  refine x_last X hW ar_227 dX12_unkey_34 h (fun S5 H locs h hW => ?_)
  exact x_vret X hW h dX12_unkey_35
theorem c_X12_unkey (l : Launch) (G : xG) (hD : xD G true) (sz : Nat) (S : Mm) (v1 : Int32) (o : Unit × Mm) (h : F_X12_unkey v1 S = some o) : Met l yX12_unkey wsX12_unkey rmX12_unkey (xPre G true S sz [.ref (G.2.2 200 0), .int v1]) (xQv G true sz o) 0 0 (XA G true sz) :=
  x_start hD (by decide) rfl (Nat.le_of_ble_eq_true rfl) (fun p e s m below meth c X hW ls hl => w_X12_unkey_0 X v1 hW hl h)

/-! WirelessCellModel.hashLetters(JI)V -/
def rmX12_hashLetters : Room := { frames := 2, cells := 0, slots := 0, locals := 51 }
def L_X12_hashLetters_5  (v1 : Int64) : Nat → Int32 → Mm → Option (Unit × Mm)
  | 0, _, _ => none
  | n + 1, v4, S => 
    if v4 < 0 then (
    some ((), S))
    else (
    cl (F_X12_hash (Int64.toInt32 (v1 >>> (Int32.toInt64 (8 * v4) &&& 63))) S) fun r2 S3 =>
    (L_X12_hashLetters_5 v1 n) (v4 + (-1)) S3)
def F_X12_hashLetters (v1 : Int64) (v3 : Int32) (S : Mm) : Option (Unit × Mm) :=
  tp (v3 - 1) fun x1 =>
  L_X12_hashLetters_5  v1 fu x1 S
set_option maxRecDepth 100000 in
set_option maxHeartbeats 4000000 in
theorem w_X12_hashLetters_5 {p : Program} {l : Launch} {e : Env} {s : State} {m : MethodId} {args : Array Value} {below : List Frame} {meth : Method} {c : Code} {G : xG} {sz : Nat} {o : Unit × Mm} (X : xC G true sz p s m args c cX12_hashLetters 5 wsX12_hashLetters RX12 meth none) (v1 : Int64)   : ∀ (n : Nat) (v4 : Int32) (S : Mm) (H : Heap) (locs : List Loc) (ls : Array Slot), L_X12_hashLetters_5 v1 n v4 S = some o → xW G true sz s H locs S → lv_has ls 5 [(0, .ref (G.2.2 200 0)), (1, .long v1), (4, .int v4)] → wX p l e rmX12_hashLetters s m args below meth c H locs (xQv G true sz o) (XA G true sz) 5 ls [] := by
  intro n
  induction n with
  | zero =>
    intro v4 S H locs ls h
    cases h
  | succ n ih =>
    intro v4 S H locs ls h hW  hl
    rw [L_X12_hashLetters_5] at h
    refine lv_iload X.1 X.2.1 dX12_hashLetters_5 (lv_at hl 2 rfl) ?_
    refine x_if_lt X (tgt := 28) dX12_hashLetters_7 (by decide) h (fun h => ?_) (fun h => ?_)
    · exact x_vret X hW h dX12_hashLetters_28
    · refine lv_aload_n X.1 X.2.1 dX12_hashLetters_10 rfl (lv_at hl 0 rfl) ?_
      refine lv_lload_n X.1 X.2.1 dX12_hashLetters_11 rfl (lv_at hl 1 rfl) ?_
      refine lv_bipush (v := 8) X.1 X.2.1 dX12_hashLetters_12 rfl ?_
      refine lv_iload X.1 X.2.1 dX12_hashLetters_14 (lv_at hl 2 rfl) ?_
      refine lv_imul X.1 X.2.1 dX12_hashLetters_16 ?_
      refine lv_lshr (v := (v1 >>> (Int32.toInt64 (8 * v4) &&& 63))) X.1 X.2.1 dX12_hashLetters_17 rfl ?_
      refine lv_l2i (v := (Int64.toInt32 (v1 >>> (Int32.toInt64 (8 * v4) &&& 63)))) X.1 X.2.1 dX12_hashLetters_18 rfl ?_
      obtain ⟨r2, S3, h4, h⟩ := cl_some h
      refine x_aftV X hW (x_runV (C := RX12) (a := G.2.2 200 0) (As := [.int (Int64.toInt32 (v1 >>> (Int32.toInt64 (8 * v4) &&& 63)))]) (rest := []) X hW (c_X12_hash l G X.2.2.2.2.2.2.2.2.2.1 _ S (Int64.toInt32 (v1 >>> (Int32.toInt64 (8 * v4) &&& 63))) _ h4) (cwV 1 X.2.2.2.2.1 (gV gw1154 gw1155 gw1156 gw5 gw1157) rfl rfl rfl ⟨rfl, hd_X12_hash⟩ ⟨Nat.le_of_ble_eq_true rfl, Nat.le_of_ble_eq_true rfl⟩) (x_recv X hW ob_Model z_1) rfl hl.1 rfl (Nat.le_of_ble_eq_true rfl) dX12_hashLetters_19 ⟨Nat.zero_le _, Nat.zero_le _⟩) (fun H locs hW => ?_)
      refine lv_iinc (v := (v4 + (-1))) (lv' := [(4, .int (v4 + (-1))), (0, .ref (G.2.2 200 0)), (1, .long v1)]) X.1 X.2.1 dX12_hashLetters_22 hl (k := 2) rfl rfl (by decide) rfl (fun ls hl => ?_)
      refine lv_goto (tgt := 5) X.1 X.2.1 dX12_hashLetters_25 (by decide) ?_
      exact ih (v4 + (-1)) S3 _ _ _ h hW  (lv_sub hl [1, 2, 0] rfl)
set_option maxRecDepth 100000 in
set_option maxHeartbeats 4000000 in
theorem w_X12_hashLetters_0 {p : Program} {l : Launch} {e : Env} {s : State} {m : MethodId} {args : Array Value} {below : List Frame} {meth : Method} {c : Code} {G : xG} {sz : Nat} {o : Unit × Mm} (X : xC G true sz p s m args c cX12_hashLetters 5 wsX12_hashLetters RX12 meth none) (v1 : Int64) (v3 : Int32) {S : Mm} {H : Heap} {locs : List Loc} {ls : Array Slot} (hW : xW G true sz s H locs S) (hl : lv_has ls 5 [(0, .ref (G.2.2 200 0)), (1, .long v1), (3, .int v3)]) (h : F_X12_hashLetters v1 v3 S = some o) : wX p l e rmX12_hashLetters s m args below meth c H locs (xQv G true sz o) (XA G true sz) 0 ls [] := by
  unfold F_X12_hashLetters at h
  refine lv_iload_n X.1 X.2.1 dX12_hashLetters_0 rfl (lv_at hl 2 rfl) ?_
  refine lv_iconst (v := 1) X.1 X.2.1 dX12_hashLetters_1 rfl ?_
  refine lv_isub X.1 X.2.1 dX12_hashLetters_2 ?_
  refine x_top h (fun x1 h => ?_)
  refine lv_istore (lv' := [(4, .int x1), (0, .ref (G.2.2 200 0)), (1, .long v1), (3, .int v3)]) X.1 X.2.1 dX12_hashLetters_3 hl (by decide) rfl (fun ls hl => ?_)
  exact w_X12_hashLetters_5 X v1   fu x1 S _ _ _ h hW  (lv_sub hl [1, 2, 0] rfl)
theorem c_X12_hashLetters (l : Launch) (G : xG) (hD : xD G true) (sz : Nat) (S : Mm) (v1 : Int64) (v3 : Int32) (o : Unit × Mm) (h : F_X12_hashLetters v1 v3 S = some o) : Met l yX12_hashLetters wsX12_hashLetters rmX12_hashLetters (xPre G true S sz [.ref (G.2.2 200 0), .long v1, .int v3]) (xQv G true sz o) 0 0 (XA G true sz) :=
  x_start hD (by decide) rfl (Nat.le_of_ble_eq_true rfl) (fun p e s m below meth c X hW ls hl => w_X12_hashLetters_0 X v1 v3 hW hl h)

/-! WirelessCellModel.hashAddress(I)V -/
def rmX12_hashAddress : Room := { frames := 3, cells := 0, slots := 0, locals := 75 }
def F_X12_hashAddress (v1 : Int32) (S : Mm) : Option (Unit × Mm) :=
  cl (F_X12_hashLetters (2199023255552 + (Int32.toInt64 v1)) 6 S) fun r1 S2 =>
  some ((), S2)
set_option maxRecDepth 100000 in
set_option maxHeartbeats 4000000 in
theorem w_X12_hashAddress_0 {p : Program} {l : Launch} {e : Env} {s : State} {m : MethodId} {args : Array Value} {below : List Frame} {meth : Method} {c : Code} {G : xG} {sz : Nat} {o : Unit × Mm} (X : xC G true sz p s m args c cX12_hashAddress 2 wsX12_hashAddress RX12 meth none) (v1 : Int32) {S : Mm} {H : Heap} {locs : List Loc} {ls : Array Slot} (hW : xW G true sz s H locs S) (hl : lv_has ls 2 [(0, .ref (G.2.2 200 0)), (1, .int v1)]) (h : F_X12_hashAddress v1 S = some o) : wX p l e rmX12_hashAddress s m args below meth c H locs (xQv G true sz o) (XA G true sz) 0 ls [] := by
  unfold F_X12_hashAddress at h
  refine lv_aload_n X.1 X.2.1 dX12_hashAddress_0 rfl (lv_at hl 0 rfl) ?_
  refine lv_ldc2 (v := 2199023255552) X.1 X.2.1 X.2.2.2.1 (X.2.2.2.2.1 _ (List.mem_cons_of_mem _ gw1212)) dX12_hashAddress_1 ?_
  refine lv_iload_n X.1 X.2.1 dX12_hashAddress_4 rfl (lv_at hl 1 rfl) ?_
  refine lv_i2l (v := (Int32.toInt64 v1)) X.1 X.2.1 dX12_hashAddress_5 rfl ?_
  refine lv_ladd X.1 X.2.1 dX12_hashAddress_6 ?_
  refine lv_bipush (v := 6) X.1 X.2.1 dX12_hashAddress_7 rfl ?_
  obtain ⟨r1, S2, h3, h⟩ := cl_some h
  refine x_aftV X hW (x_runV (C := RX12) (a := G.2.2 200 0) (As := [.long (2199023255552 + (Int32.toInt64 v1)), .int 6]) (rest := []) X hW (c_X12_hashLetters l G X.2.2.2.2.2.2.2.2.2.1 _ S (2199023255552 + (Int32.toInt64 v1)) 6 _ h3) (cwV 2 X.2.2.2.2.1 (gV gw1204 gw1205 gw1206 gw5 gw1207) rfl rfl rfl ⟨rfl, hd_X12_hashLetters⟩ ⟨Nat.le_of_ble_eq_true rfl, Nat.le_of_ble_eq_true rfl⟩) (x_recv X hW ob_Model z_1) rfl hl.1 rfl (Nat.le_of_ble_eq_true rfl) dX12_hashAddress_9 ⟨Nat.zero_le _, Nat.zero_le _⟩) (fun H locs hW => ?_)
  exact x_vret X hW h dX12_hashAddress_12
theorem c_X12_hashAddress (l : Launch) (G : xG) (hD : xD G true) (sz : Nat) (S : Mm) (v1 : Int32) (o : Unit × Mm) (h : F_X12_hashAddress v1 S = some o) : Met l yX12_hashAddress wsX12_hashAddress rmX12_hashAddress (xPre G true S sz [.ref (G.2.2 200 0), .int v1]) (xQv G true sz o) 0 0 (XA G true sz) :=
  x_start hD (by decide) rfl (Nat.le_of_ble_eq_true rfl) (fun p e s m below meth c X hW ls hl => w_X12_hashAddress_0 X v1 hW hl h)

/-! WirelessCellModel.findTried(I[II[II)V -/
def rmX12_findTried : Room := { frames := 4, cells := 0, slots := 0, locals := 96 }
def L_X12_findTried_181 (k3 : Int32 → Mm → Option (Unit × Mm)) (v1 : Int32) (cv2 : Nat) (v2 : Nat) (v3 : Int32) (cv4 : Nat) (v4 : Nat) (v5 : Int32) (v6 : Int32) (S : Mm) : Option (Unit × Mm) :=
  k3 (v6 + 1) S
def L_X12_findTried_135 (k3 : Int32 → Mm → Option (Unit × Mm)) (v1 : Int32) (cv2 : Nat) (v2 : Nat) (v3 : Int32) (cv4 : Nat) (v4 : Nat) (v5 : Int32) (v6 : Int32) : Nat → Int32 → Mm → Option (Unit × Mm)
  | 0, _, _ => none
  | n + 1, v7, S => 
    if 20 ≤ v7 then (
    L_X12_findTried_181 k3 v1 cv2 v2 v3 cv4 v4 v5 v6 S)
    else (
    if 48 ≤ ((20 * v6) + v7) then (
    L_X12_findTried_181 k3 v1 cv2 v2 v3 cv4 v4 v5 v6 S)
    else (
    ldA S 204 0 20 1 v7 fun x36 =>
    stA S 233 0 48 1 ((20 * v6) + v7) x36 fun S37 =>
    (L_X12_findTried_135 k3 v1 cv2 v2 v3 cv4 v4 v5 v6 n) (v7 + 1) S37))
def L_X12_findTried_97 (k3 : Int32 → Mm → Option (Unit × Mm)) (v1 : Int32) (cv2 : Nat) (v2 : Nat) (v3 : Int32) (cv4 : Nat) (v4 : Nat) (v5 : Int32) (v6 : Int32) : Nat → Int32 → Mm → Option (Unit × Mm)
  | 0, _, _ => none
  | n + 1, v7, S => 
    if 32 ≤ v7 then (
    cl (F_X12_hash v6 S) fun r26 S27 =>
    cl (F_X12_macEnd S27) fun r29 S30 =>
    L_X12_findTried_135 k3 v1 cv2 v2 v3 cv4 v4 v5 v6 fu 0 S30)
    else (
    ldP true S cv4 v4 (v5 + v7) fun x32 =>
    cl (F_X12_hash x32 S) fun r33 S34 =>
    (L_X12_findTried_97 k3 v1 cv2 v2 v3 cv4 v4 v5 v6 n) (v7 + 1) S34)
def L_X12_findTried_71 (k3 : Int32 → Mm → Option (Unit × Mm)) (v1 : Int32) (cv2 : Nat) (v2 : Nat) (v3 : Int32) (cv4 : Nat) (v4 : Nat) (v5 : Int32) (v6 : Int32) : Nat → Int32 → Mm → Option (Unit × Mm)
  | 0, _, _ => none
  | n + 1, v7, S => 
    if 32 ≤ v7 then (
    L_X12_findTried_97 k3 v1 cv2 v2 v3 cv4 v4 v5 v6 fu 0 S)
    else (
    ldP true S cv2 v2 (v3 + v7) fun x22 =>
    cl (F_X12_hash x22 S) fun r23 S24 =>
    (L_X12_findTried_71 k3 v1 cv2 v2 v3 cv4 v4 v5 v6 n) (v7 + 1) S24)
def L_X12_findTried_3  (v1 : Int32) (cv2 : Nat) (v2 : Nat) (v3 : Int32) (cv4 : Nat) (v4 : Nat) (v5 : Int32) : Nat → Int32 → Mm → Option (Unit × Mm)
  | 0, _, _ => none
  | n + 1, v6, S => 
    if 3 ≤ v6 then (
    some ((), S))
    else (
    cl (F_X12_macBegin 216 0 (32 * v1) 32 S) fun r1 S2 =>
    cl (F_X12_hashLetters 5792026536125756261 8 S2) fun r4 S5 =>
    cl (F_X12_hashLetters 2336072402630703216 8 S5) fun r7 S8 =>
    cl (F_X12_hashLetters 107127010586478 6 S8) fun r10 S11 =>
    cl (F_X12_hash 0 S11) fun r13 S14 =>
    cl (F_X12_hashAddress 0 S14) fun r16 S17 =>
    cl (F_X12_hashAddress (v1 - v1 / 9 * 9) S17) fun r19 S20 =>
    L_X12_findTried_71 (L_X12_findTried_3 v1 cv2 v2 v3 cv4 v4 v5 n) v1 cv2 v2 v3 cv4 v4 v5 v6 fu 0 S20)
def F_X12_findTried (v1 : Int32) (cv2 : Nat) (v2 : Nat) (v3 : Int32) (cv4 : Nat) (v4 : Nat) (v5 : Int32) (S : Mm) : Option (Unit × Mm) :=
  L_X12_findTried_3  v1 cv2 v2 v3 cv4 v4 v5 fu 0 S
set_option maxRecDepth 100000 in
set_option maxHeartbeats 4000000 in
theorem w_X12_findTried_181 {p : Program} {l : Launch} {e : Env} {s : State} {m : MethodId} {args : Array Value} {below : List Frame} {meth : Method} {c : Code} {G : xG} {sz : Nat} {o : Unit × Mm} (X : xC G true sz p s m args c cX12_findTried 8 wsX12_findTried RX12 meth none) (v1 : Int32) (cv2 : Nat) (v2 : Nat) (v3 : Int32) (cv4 : Nat) (v4 : Nat) (v5 : Int32) (v6 : Int32)  (k3 : Int32 → Mm → Option (Unit × Mm)) (hk3 : ∀ (v6 : Int32) (S : Mm) (H : Heap) (locs : List Loc) (ls : Array Slot), k3 v6 S = some o → xW G true sz s H locs S → lv_has ls 8 [(0, .ref (G.2.2 200 0)), (1, .int v1), (2, .ref (G.2.2 cv2 v2)), (3, .int v3), (4, .ref (G.2.2 cv4 v4)), (5, .int v5), (6, .int v6)] → wX p l e rmX12_findTried s m args below meth c H locs (xQv G true sz o) (XA G true sz) 3 ls []) {S : Mm} {H : Heap} {locs : List Loc} {ls : Array Slot} (hW : xW G true sz s H locs S) (hl : lv_has ls 8 [(0, .ref (G.2.2 200 0)), (1, .int v1), (2, .ref (G.2.2 cv2 v2)), (3, .int v3), (4, .ref (G.2.2 cv4 v4)), (5, .int v5), (6, .int v6)]) (h : L_X12_findTried_181 k3 v1 cv2 v2 v3 cv4 v4 v5 v6 S = some o) : wX p l e rmX12_findTried s m args below meth c H locs (xQv G true sz o) (XA G true sz) 181 ls [] := by
  unfold L_X12_findTried_181 at h
  refine lv_iinc (v := (v6 + 1)) (lv' := [(6, .int (v6 + 1)), (0, .ref (G.2.2 200 0)), (1, .int v1), (2, .ref (G.2.2 cv2 v2)), (3, .int v3), (4, .ref (G.2.2 cv4 v4)), (5, .int v5)]) X.1 X.2.1 dX12_findTried_181 hl (k := 6) rfl rfl (by decide) rfl (fun ls hl => ?_)
  refine lv_goto (tgt := 3) X.1 X.2.1 dX12_findTried_184 (by decide) ?_
  exact hk3 (v6 + 1) S _ _ _ h hW  (lv_sub hl [1, 2, 3, 4, 5, 6, 0] rfl)
set_option maxRecDepth 100000 in
set_option maxHeartbeats 4000000 in
theorem w_X12_findTried_135 {p : Program} {l : Launch} {e : Env} {s : State} {m : MethodId} {args : Array Value} {below : List Frame} {meth : Method} {c : Code} {G : xG} {sz : Nat} {o : Unit × Mm} (X : xC G true sz p s m args c cX12_findTried 8 wsX12_findTried RX12 meth none) (v1 : Int32) (cv2 : Nat) (v2 : Nat) (v3 : Int32) (cv4 : Nat) (v4 : Nat) (v5 : Int32) (v6 : Int32)  (k3 : Int32 → Mm → Option (Unit × Mm)) (hk3 : ∀ (v6 : Int32) (S : Mm) (H : Heap) (locs : List Loc) (ls : Array Slot), k3 v6 S = some o → xW G true sz s H locs S → lv_has ls 8 [(0, .ref (G.2.2 200 0)), (1, .int v1), (2, .ref (G.2.2 cv2 v2)), (3, .int v3), (4, .ref (G.2.2 cv4 v4)), (5, .int v5), (6, .int v6)] → wX p l e rmX12_findTried s m args below meth c H locs (xQv G true sz o) (XA G true sz) 3 ls []) : ∀ (n : Nat) (v7 : Int32) (S : Mm) (H : Heap) (locs : List Loc) (ls : Array Slot), L_X12_findTried_135 k3 v1 cv2 v2 v3 cv4 v4 v5 v6 n v7 S = some o → xW G true sz s H locs S → lv_has ls 8 [(0, .ref (G.2.2 200 0)), (1, .int v1), (2, .ref (G.2.2 cv2 v2)), (3, .int v3), (4, .ref (G.2.2 cv4 v4)), (5, .int v5), (6, .int v6), (7, .int v7)] → wX p l e rmX12_findTried s m args below meth c H locs (xQv G true sz o) (XA G true sz) 135 ls [] := by
  intro n
  induction n with
  | zero =>
    intro v7 S H locs ls h
    cases h
  | succ n ih =>
    intro v7 S H locs ls h hW  hl
    rw [L_X12_findTried_135] at h
    refine lv_iload X.1 X.2.1 dX12_findTried_135 (lv_at hl 7 rfl) ?_
    refine lv_bipush (v := 20) X.1 X.2.1 dX12_findTried_137 rfl ?_
    refine x_icmp_ge X (tgt := 181) dX12_findTried_139 (by decide) h (fun h => ?_) (fun h => ?_)
    · exact w_X12_findTried_181 X v1 cv2 v2 v3 cv4 v4 v5 v6  k3 hk3 hW (lv_sub hl [0, 1, 2, 3, 4, 5, 6] rfl) h
    · refine lv_bipush (v := 20) X.1 X.2.1 dX12_findTried_142 rfl ?_
      refine lv_iload X.1 X.2.1 dX12_findTried_144 (lv_at hl 6 rfl) ?_
      refine lv_imul X.1 X.2.1 dX12_findTried_146 ?_
      refine lv_iload X.1 X.2.1 dX12_findTried_147 (lv_at hl 7 rfl) ?_
      refine lv_iadd X.1 X.2.1 dX12_findTried_149 ?_
      refine lv_bipush (v := 48) X.1 X.2.1 dX12_findTried_150 rfl ?_
      refine x_icmp_ge X (tgt := 181) dX12_findTried_152 (by decide) h (fun h => ?_) (fun h => ?_)
      · exact w_X12_findTried_181 X v1 cv2 v2 v3 cv4 v4 v5 v6  k3 hk3 hW (lv_sub hl [0, 1, 2, 3, 4, 5, 6] rfl) h
      · refine lv_aload_n X.1 X.2.1 dX12_findTried_155 rfl (lv_at hl 0 rfl) ?_
        refine x_getR X hW fd_Model_fresh (fun w h => List.mem_cons_of_mem _ (gin_X12 w h)) (List.mem_cons_of_mem _ gw184) z_1 dX12_findTried_156 ?_
        refine lv_bipush (v := 20) X.1 X.2.1 dX12_findTried_159 rfl ?_
        refine lv_iload X.1 X.2.1 dX12_findTried_161 (lv_at hl 6 rfl) ?_
        refine lv_imul X.1 X.2.1 dX12_findTried_163 ?_
        refine lv_iload X.1 X.2.1 dX12_findTried_164 (lv_at hl 7 rfl) ?_
        refine lv_iadd X.1 X.2.1 dX12_findTried_166 ?_
        refine lv_aload_n X.1 X.2.1 dX12_findTried_167 rfl (lv_at hl 0 rfl) ?_
        refine x_getR X hW fd_Model_digest (fun w h => List.mem_cons_of_mem _ (gin_X12 w h)) (List.mem_cons_of_mem _ gw154) z_1 dX12_findTried_168 ?_
        refine lv_iload X.1 X.2.1 dX12_findTried_171 (lv_at hl 7 rfl) ?_
        refine x_iald X hW ar_204 dX12_findTried_173 h (fun x36 h => ?_)
        refine x_iast X hW ar_233 dX12_findTried_174 h (fun S37 H locs h hW => ?_)
        refine lv_iinc (v := (v7 + 1)) (lv' := [(7, .int (v7 + 1)), (0, .ref (G.2.2 200 0)), (1, .int v1), (2, .ref (G.2.2 cv2 v2)), (3, .int v3), (4, .ref (G.2.2 cv4 v4)), (5, .int v5), (6, .int v6)]) X.1 X.2.1 dX12_findTried_175 hl (k := 7) rfl rfl (by decide) rfl (fun ls hl => ?_)
        refine lv_goto (tgt := 135) X.1 X.2.1 dX12_findTried_178 (by decide) ?_
        exact ih (v7 + 1) S37 _ _ _ h hW  (lv_sub hl [1, 2, 3, 4, 5, 6, 7, 0] rfl)
set_option maxRecDepth 100000 in
set_option maxHeartbeats 4000000 in
theorem w_X12_findTried_97 {p : Program} {l : Launch} {e : Env} {s : State} {m : MethodId} {args : Array Value} {below : List Frame} {meth : Method} {c : Code} {G : xG} {sz : Nat} {o : Unit × Mm} (X : xC G true sz p s m args c cX12_findTried 8 wsX12_findTried RX12 meth none) (v1 : Int32) (cv2 : Nat) (v2 : Nat) (v3 : Int32) (cv4 : Nat) (v4 : Nat) (v5 : Int32) (v6 : Int32)  (k3 : Int32 → Mm → Option (Unit × Mm)) (hk3 : ∀ (v6 : Int32) (S : Mm) (H : Heap) (locs : List Loc) (ls : Array Slot), k3 v6 S = some o → xW G true sz s H locs S → lv_has ls 8 [(0, .ref (G.2.2 200 0)), (1, .int v1), (2, .ref (G.2.2 cv2 v2)), (3, .int v3), (4, .ref (G.2.2 cv4 v4)), (5, .int v5), (6, .int v6)] → wX p l e rmX12_findTried s m args below meth c H locs (xQv G true sz o) (XA G true sz) 3 ls []) : ∀ (n : Nat) (v7 : Int32) (S : Mm) (H : Heap) (locs : List Loc) (ls : Array Slot), L_X12_findTried_97 k3 v1 cv2 v2 v3 cv4 v4 v5 v6 n v7 S = some o → xW G true sz s H locs S → lv_has ls 8 [(0, .ref (G.2.2 200 0)), (1, .int v1), (2, .ref (G.2.2 cv2 v2)), (3, .int v3), (4, .ref (G.2.2 cv4 v4)), (5, .int v5), (6, .int v6), (7, .int v7)] → wX p l e rmX12_findTried s m args below meth c H locs (xQv G true sz o) (XA G true sz) 97 ls [] := by
  intro n
  induction n with
  | zero =>
    intro v7 S H locs ls h
    cases h
  | succ n ih =>
    intro v7 S H locs ls h hW  hl
    rw [L_X12_findTried_97] at h
    refine lv_iload X.1 X.2.1 dX12_findTried_97 (lv_at hl 7 rfl) ?_
    refine lv_bipush (v := 32) X.1 X.2.1 dX12_findTried_99 rfl ?_
    refine x_icmp_ge X (tgt := 122) dX12_findTried_101 (by decide) h (fun h => ?_) (fun h => ?_)
    · refine lv_aload_n X.1 X.2.1 dX12_findTried_122 rfl (lv_at hl 0 rfl) ?_
      refine lv_iload X.1 X.2.1 dX12_findTried_123 (lv_at hl 6 rfl) ?_
      obtain ⟨r26, S27, h28, h⟩ := cl_some h
      refine x_aftV X hW (x_runV (C := RX12) (a := G.2.2 200 0) (As := [.int v6]) (rest := []) X hW (c_X12_hash l G X.2.2.2.2.2.2.2.2.2.1 _ S v6 _ h28) (cwV 1 X.2.2.2.2.1 (gV gw1154 gw1155 gw1156 gw5 gw1157) rfl rfl rfl ⟨rfl, hd_X12_hash⟩ ⟨Nat.le_of_ble_eq_true rfl, Nat.le_of_ble_eq_true rfl⟩) (x_recv X hW ob_Model z_1) rfl hl.1 rfl (Nat.le_of_ble_eq_true rfl) dX12_findTried_125 ⟨Nat.zero_le _, Nat.zero_le _⟩) (fun H locs hW => ?_)
      refine lv_aload_n X.1 X.2.1 dX12_findTried_128 rfl (lv_at hl 0 rfl) ?_
      obtain ⟨r29, S30, h31, h⟩ := cl_some h
      refine x_aftV X hW (x_runV (C := RX12) (a := G.2.2 200 0) (As := []) (rest := []) X hW (c_X12_macEnd l G X.2.2.2.2.2.2.2.2.2.1 _ S27 _ h31) (cwV 0 X.2.2.2.2.1 (gV gw1165 gw1166 gw1167 gw5 gw1168) rfl rfl rfl ⟨rfl, hd_X12_macEnd⟩ ⟨Nat.le_of_ble_eq_true rfl, Nat.le_of_ble_eq_true rfl⟩) (x_recv X hW ob_Model z_1) rfl hl.1 rfl (Nat.le_of_ble_eq_true rfl) dX12_findTried_129 ⟨Nat.zero_le _, Nat.zero_le _⟩) (fun H locs hW => ?_)
      refine lv_iconst (v := 0) X.1 X.2.1 dX12_findTried_132 rfl ?_
      refine lv_istore (lv' := [(7, .int 0), (0, .ref (G.2.2 200 0)), (1, .int v1), (2, .ref (G.2.2 cv2 v2)), (3, .int v3), (4, .ref (G.2.2 cv4 v4)), (5, .int v5), (6, .int v6)]) X.1 X.2.1 dX12_findTried_133 hl (by decide) rfl (fun ls hl => ?_)
      exact w_X12_findTried_135 X v1 cv2 v2 v3 cv4 v4 v5 v6  k3 hk3 fu 0 S30 _ _ _ h hW  (lv_sub hl [1, 2, 3, 4, 5, 6, 7, 0] rfl)
    · refine lv_aload_n X.1 X.2.1 dX12_findTried_104 rfl (lv_at hl 0 rfl) ?_
      refine lv_aload X.1 X.2.1 dX12_findTried_105 (lv_at hl 4 rfl) ?_
      refine lv_iload X.1 X.2.1 dX12_findTried_107 (lv_at hl 5 rfl) ?_
      refine lv_iload X.1 X.2.1 dX12_findTried_109 (lv_at hl 7 rfl) ?_
      refine lv_iadd X.1 X.2.1 dX12_findTried_111 ?_
      refine x_ialdP X hW dX12_findTried_112 h (fun x32 h => ?_)
      obtain ⟨r33, S34, h35, h⟩ := cl_some h
      refine x_aftV X hW (x_runV (C := RX12) (a := G.2.2 200 0) (As := [.int x32]) (rest := []) X hW (c_X12_hash l G X.2.2.2.2.2.2.2.2.2.1 _ S x32 _ h35) (cwV 1 X.2.2.2.2.1 (gV gw1154 gw1155 gw1156 gw5 gw1157) rfl rfl rfl ⟨rfl, hd_X12_hash⟩ ⟨Nat.le_of_ble_eq_true rfl, Nat.le_of_ble_eq_true rfl⟩) (x_recv X hW ob_Model z_1) rfl hl.1 rfl (Nat.le_of_ble_eq_true rfl) dX12_findTried_113 ⟨Nat.zero_le _, Nat.zero_le _⟩) (fun H locs hW => ?_)
      refine lv_iinc (v := (v7 + 1)) (lv' := [(7, .int (v7 + 1)), (0, .ref (G.2.2 200 0)), (1, .int v1), (2, .ref (G.2.2 cv2 v2)), (3, .int v3), (4, .ref (G.2.2 cv4 v4)), (5, .int v5), (6, .int v6)]) X.1 X.2.1 dX12_findTried_116 hl (k := 7) rfl rfl (by decide) rfl (fun ls hl => ?_)
      refine lv_goto (tgt := 97) X.1 X.2.1 dX12_findTried_119 (by decide) ?_
      exact ih (v7 + 1) S34 _ _ _ h hW  (lv_sub hl [1, 2, 3, 4, 5, 6, 7, 0] rfl)
set_option maxRecDepth 100000 in
set_option maxHeartbeats 4000000 in
theorem w_X12_findTried_71 {p : Program} {l : Launch} {e : Env} {s : State} {m : MethodId} {args : Array Value} {below : List Frame} {meth : Method} {c : Code} {G : xG} {sz : Nat} {o : Unit × Mm} (X : xC G true sz p s m args c cX12_findTried 8 wsX12_findTried RX12 meth none) (v1 : Int32) (cv2 : Nat) (v2 : Nat) (v3 : Int32) (cv4 : Nat) (v4 : Nat) (v5 : Int32) (v6 : Int32)  (k3 : Int32 → Mm → Option (Unit × Mm)) (hk3 : ∀ (v6 : Int32) (S : Mm) (H : Heap) (locs : List Loc) (ls : Array Slot), k3 v6 S = some o → xW G true sz s H locs S → lv_has ls 8 [(0, .ref (G.2.2 200 0)), (1, .int v1), (2, .ref (G.2.2 cv2 v2)), (3, .int v3), (4, .ref (G.2.2 cv4 v4)), (5, .int v5), (6, .int v6)] → wX p l e rmX12_findTried s m args below meth c H locs (xQv G true sz o) (XA G true sz) 3 ls []) : ∀ (n : Nat) (v7 : Int32) (S : Mm) (H : Heap) (locs : List Loc) (ls : Array Slot), L_X12_findTried_71 k3 v1 cv2 v2 v3 cv4 v4 v5 v6 n v7 S = some o → xW G true sz s H locs S → lv_has ls 8 [(0, .ref (G.2.2 200 0)), (1, .int v1), (2, .ref (G.2.2 cv2 v2)), (3, .int v3), (4, .ref (G.2.2 cv4 v4)), (5, .int v5), (6, .int v6), (7, .int v7)] → wX p l e rmX12_findTried s m args below meth c H locs (xQv G true sz o) (XA G true sz) 71 ls [] := by
  intro n
  induction n with
  | zero =>
    intro v7 S H locs ls h
    cases h
  | succ n ih =>
    intro v7 S H locs ls h hW  hl
    rw [L_X12_findTried_71] at h
    refine lv_iload X.1 X.2.1 dX12_findTried_71 (lv_at hl 7 rfl) ?_
    refine lv_bipush (v := 32) X.1 X.2.1 dX12_findTried_73 rfl ?_
    refine x_icmp_ge X (tgt := 94) dX12_findTried_75 (by decide) h (fun h => ?_) (fun h => ?_)
    · refine lv_iconst (v := 0) X.1 X.2.1 dX12_findTried_94 rfl ?_
      refine lv_istore (lv' := [(7, .int 0), (0, .ref (G.2.2 200 0)), (1, .int v1), (2, .ref (G.2.2 cv2 v2)), (3, .int v3), (4, .ref (G.2.2 cv4 v4)), (5, .int v5), (6, .int v6)]) X.1 X.2.1 dX12_findTried_95 hl (by decide) rfl (fun ls hl => ?_)
      exact w_X12_findTried_97 X v1 cv2 v2 v3 cv4 v4 v5 v6  k3 hk3 fu 0 S _ _ _ h hW  (lv_sub hl [1, 2, 3, 4, 5, 6, 7, 0] rfl)
    · refine lv_aload_n X.1 X.2.1 dX12_findTried_78 rfl (lv_at hl 0 rfl) ?_
      refine lv_aload_n X.1 X.2.1 dX12_findTried_79 rfl (lv_at hl 2 rfl) ?_
      refine lv_iload_n X.1 X.2.1 dX12_findTried_80 rfl (lv_at hl 3 rfl) ?_
      refine lv_iload X.1 X.2.1 dX12_findTried_81 (lv_at hl 7 rfl) ?_
      refine lv_iadd X.1 X.2.1 dX12_findTried_83 ?_
      refine x_ialdP X hW dX12_findTried_84 h (fun x22 h => ?_)
      obtain ⟨r23, S24, h25, h⟩ := cl_some h
      refine x_aftV X hW (x_runV (C := RX12) (a := G.2.2 200 0) (As := [.int x22]) (rest := []) X hW (c_X12_hash l G X.2.2.2.2.2.2.2.2.2.1 _ S x22 _ h25) (cwV 1 X.2.2.2.2.1 (gV gw1154 gw1155 gw1156 gw5 gw1157) rfl rfl rfl ⟨rfl, hd_X12_hash⟩ ⟨Nat.le_of_ble_eq_true rfl, Nat.le_of_ble_eq_true rfl⟩) (x_recv X hW ob_Model z_1) rfl hl.1 rfl (Nat.le_of_ble_eq_true rfl) dX12_findTried_85 ⟨Nat.zero_le _, Nat.zero_le _⟩) (fun H locs hW => ?_)
      refine lv_iinc (v := (v7 + 1)) (lv' := [(7, .int (v7 + 1)), (0, .ref (G.2.2 200 0)), (1, .int v1), (2, .ref (G.2.2 cv2 v2)), (3, .int v3), (4, .ref (G.2.2 cv4 v4)), (5, .int v5), (6, .int v6)]) X.1 X.2.1 dX12_findTried_88 hl (k := 7) rfl rfl (by decide) rfl (fun ls hl => ?_)
      refine lv_goto (tgt := 71) X.1 X.2.1 dX12_findTried_91 (by decide) ?_
      exact ih (v7 + 1) S24 _ _ _ h hW  (lv_sub hl [1, 2, 3, 4, 5, 6, 7, 0] rfl)
set_option maxRecDepth 100000 in
set_option maxHeartbeats 4000000 in
theorem w_X12_findTried_3 {p : Program} {l : Launch} {e : Env} {s : State} {m : MethodId} {args : Array Value} {below : List Frame} {meth : Method} {c : Code} {G : xG} {sz : Nat} {o : Unit × Mm} (X : xC G true sz p s m args c cX12_findTried 8 wsX12_findTried RX12 meth none) (v1 : Int32) (cv2 : Nat) (v2 : Nat) (v3 : Int32) (cv4 : Nat) (v4 : Nat) (v5 : Int32)   : ∀ (n : Nat) (v6 : Int32) (S : Mm) (H : Heap) (locs : List Loc) (ls : Array Slot), L_X12_findTried_3 v1 cv2 v2 v3 cv4 v4 v5 n v6 S = some o → xW G true sz s H locs S → lv_has ls 8 [(0, .ref (G.2.2 200 0)), (1, .int v1), (2, .ref (G.2.2 cv2 v2)), (3, .int v3), (4, .ref (G.2.2 cv4 v4)), (5, .int v5), (6, .int v6)] → wX p l e rmX12_findTried s m args below meth c H locs (xQv G true sz o) (XA G true sz) 3 ls [] := by
  intro n
  induction n with
  | zero =>
    intro v6 S H locs ls h
    cases h
  | succ n ih =>
    intro v6 S H locs ls h hW  hl
    rw [L_X12_findTried_3] at h
    refine lv_iload X.1 X.2.1 dX12_findTried_3 (lv_at hl 6 rfl) ?_
    refine lv_iconst (v := 3) X.1 X.2.1 dX12_findTried_5 rfl ?_
    refine x_icmp_ge X (tgt := 187) dX12_findTried_6 (by decide) h (fun h => ?_) (fun h => ?_)
    · exact x_vret X hW h dX12_findTried_187
    · refine lv_aload_n X.1 X.2.1 dX12_findTried_9 rfl (lv_at hl 0 rfl) ?_
      refine lv_aload_n X.1 X.2.1 dX12_findTried_10 rfl (lv_at hl 0 rfl) ?_
      refine x_getR X hW fd_Model_secrets (fun w h => List.mem_cons_of_mem _ (gin_X12 w h)) (List.mem_cons_of_mem _ gw166) z_1 dX12_findTried_11 ?_
      refine lv_bipush (v := 32) X.1 X.2.1 dX12_findTried_14 rfl ?_
      refine lv_iload_n X.1 X.2.1 dX12_findTried_16 rfl (lv_at hl 1 rfl) ?_
      refine lv_imul X.1 X.2.1 dX12_findTried_17 ?_
      refine lv_bipush (v := 32) X.1 X.2.1 dX12_findTried_18 rfl ?_
      obtain ⟨r1, S2, h3, h⟩ := cl_some h
      refine x_aftV X hW (x_runV (C := RX12) (a := G.2.2 200 0) (As := [.ref (G.2.2 216 0), .int (32 * v1), .int 32]) (rest := []) X hW (c_X12_macBegin l G X.2.2.2.2.2.2.2.2.2.1 _ S 216 0 (32 * v1) 32 _ h3) (cwV 3 X.2.2.2.2.1 (gV gw1139 gw1140 gw1141 gw5 gw1142) rfl rfl rfl ⟨rfl, hd_X12_macBegin⟩ ⟨Nat.le_of_ble_eq_true rfl, Nat.le_of_ble_eq_true rfl⟩) (x_recv X hW ob_Model z_1) rfl hl.1 rfl (Nat.le_of_ble_eq_true rfl) dX12_findTried_20 ⟨Nat.zero_le _, Nat.zero_le _⟩) (fun H locs hW => ?_)
      refine lv_aload_n X.1 X.2.1 dX12_findTried_23 rfl (lv_at hl 0 rfl) ?_
      refine lv_ldc2 (v := 5792026536125756261) X.1 X.2.1 X.2.2.2.1 (X.2.2.2.2.1 _ (List.mem_cons_of_mem _ gw1201)) dX12_findTried_24 ?_
      refine lv_bipush (v := 8) X.1 X.2.1 dX12_findTried_27 rfl ?_
      obtain ⟨r4, S5, h6, h⟩ := cl_some h
      refine x_aftV X hW (x_runV (C := RX12) (a := G.2.2 200 0) (As := [.long 5792026536125756261, .int 8]) (rest := []) X hW (c_X12_hashLetters l G X.2.2.2.2.2.2.2.2.2.1 _ S2 5792026536125756261 8 _ h6) (cwV 2 X.2.2.2.2.1 (gV gw1204 gw1205 gw1206 gw5 gw1207) rfl rfl rfl ⟨rfl, hd_X12_hashLetters⟩ ⟨Nat.le_of_ble_eq_true rfl, Nat.le_of_ble_eq_true rfl⟩) (x_recv X hW ob_Model z_1) rfl hl.1 rfl (Nat.le_of_ble_eq_true rfl) dX12_findTried_29 ⟨Nat.zero_le _, Nat.zero_le _⟩) (fun H locs hW => ?_)
      refine lv_aload_n X.1 X.2.1 dX12_findTried_32 rfl (lv_at hl 0 rfl) ?_
      refine lv_ldc2 (v := 2336072402630703216) X.1 X.2.1 X.2.2.2.1 (X.2.2.2.2.1 _ (List.mem_cons_of_mem _ gw1202)) dX12_findTried_33 ?_
      refine lv_bipush (v := 8) X.1 X.2.1 dX12_findTried_36 rfl ?_
      obtain ⟨r7, S8, h9, h⟩ := cl_some h
      refine x_aftV X hW (x_runV (C := RX12) (a := G.2.2 200 0) (As := [.long 2336072402630703216, .int 8]) (rest := []) X hW (c_X12_hashLetters l G X.2.2.2.2.2.2.2.2.2.1 _ S5 2336072402630703216 8 _ h9) (cwV 2 X.2.2.2.2.1 (gV gw1204 gw1205 gw1206 gw5 gw1207) rfl rfl rfl ⟨rfl, hd_X12_hashLetters⟩ ⟨Nat.le_of_ble_eq_true rfl, Nat.le_of_ble_eq_true rfl⟩) (x_recv X hW ob_Model z_1) rfl hl.1 rfl (Nat.le_of_ble_eq_true rfl) dX12_findTried_38 ⟨Nat.zero_le _, Nat.zero_le _⟩) (fun H locs hW => ?_)
      refine lv_aload_n X.1 X.2.1 dX12_findTried_41 rfl (lv_at hl 0 rfl) ?_
      refine lv_ldc2 (v := 107127010586478) X.1 X.2.1 X.2.2.2.1 (X.2.2.2.2.1 _ (List.mem_cons_of_mem _ gw1203)) dX12_findTried_42 ?_
      refine lv_bipush (v := 6) X.1 X.2.1 dX12_findTried_45 rfl ?_
      obtain ⟨r10, S11, h12, h⟩ := cl_some h
      refine x_aftV X hW (x_runV (C := RX12) (a := G.2.2 200 0) (As := [.long 107127010586478, .int 6]) (rest := []) X hW (c_X12_hashLetters l G X.2.2.2.2.2.2.2.2.2.1 _ S8 107127010586478 6 _ h12) (cwV 2 X.2.2.2.2.1 (gV gw1204 gw1205 gw1206 gw5 gw1207) rfl rfl rfl ⟨rfl, hd_X12_hashLetters⟩ ⟨Nat.le_of_ble_eq_true rfl, Nat.le_of_ble_eq_true rfl⟩) (x_recv X hW ob_Model z_1) rfl hl.1 rfl (Nat.le_of_ble_eq_true rfl) dX12_findTried_47 ⟨Nat.zero_le _, Nat.zero_le _⟩) (fun H locs hW => ?_)
      refine lv_aload_n X.1 X.2.1 dX12_findTried_50 rfl (lv_at hl 0 rfl) ?_
      refine lv_iconst (v := 0) X.1 X.2.1 dX12_findTried_51 rfl ?_
      obtain ⟨r13, S14, h15, h⟩ := cl_some h
      refine x_aftV X hW (x_runV (C := RX12) (a := G.2.2 200 0) (As := [.int 0]) (rest := []) X hW (c_X12_hash l G X.2.2.2.2.2.2.2.2.2.1 _ S11 0 _ h15) (cwV 1 X.2.2.2.2.1 (gV gw1154 gw1155 gw1156 gw5 gw1157) rfl rfl rfl ⟨rfl, hd_X12_hash⟩ ⟨Nat.le_of_ble_eq_true rfl, Nat.le_of_ble_eq_true rfl⟩) (x_recv X hW ob_Model z_1) rfl hl.1 rfl (Nat.le_of_ble_eq_true rfl) dX12_findTried_52 ⟨Nat.zero_le _, Nat.zero_le _⟩) (fun H locs hW => ?_)
      refine lv_aload_n X.1 X.2.1 dX12_findTried_55 rfl (lv_at hl 0 rfl) ?_
      refine lv_iconst (v := 0) X.1 X.2.1 dX12_findTried_56 rfl ?_
      obtain ⟨r16, S17, h18, h⟩ := cl_some h
      refine x_aftV X hW (x_runV (C := RX12) (a := G.2.2 200 0) (As := [.int 0]) (rest := []) X hW (c_X12_hashAddress l G X.2.2.2.2.2.2.2.2.2.1 _ S14 0 _ h18) (cwV 1 X.2.2.2.2.1 (gV gw1208 gw1209 gw1210 gw5 gw1211) rfl rfl rfl ⟨rfl, hd_X12_hashAddress⟩ ⟨Nat.le_of_ble_eq_true rfl, Nat.le_of_ble_eq_true rfl⟩) (x_recv X hW ob_Model z_1) rfl hl.1 rfl (Nat.le_of_ble_eq_true rfl) dX12_findTried_57 ⟨Nat.zero_le _, Nat.zero_le _⟩) (fun H locs hW => ?_)
      refine lv_aload_n X.1 X.2.1 dX12_findTried_60 rfl (lv_at hl 0 rfl) ?_
      refine lv_iload_n X.1 X.2.1 dX12_findTried_61 rfl (lv_at hl 1 rfl) ?_
      refine lv_bipush (v := 9) X.1 X.2.1 dX12_findTried_62 rfl ?_
      refine lv_irem X.1 X.2.1 dX12_findTried_64 (by decide) ?_
      obtain ⟨r19, S20, h21, h⟩ := cl_some h
      refine x_aftV X hW (x_runV (C := RX12) (a := G.2.2 200 0) (As := [.int (v1 - v1 / 9 * 9)]) (rest := []) X hW (c_X12_hashAddress l G X.2.2.2.2.2.2.2.2.2.1 _ S17 (v1 - v1 / 9 * 9) _ h21) (cwV 1 X.2.2.2.2.1 (gV gw1208 gw1209 gw1210 gw5 gw1211) rfl rfl rfl ⟨rfl, hd_X12_hashAddress⟩ ⟨Nat.le_of_ble_eq_true rfl, Nat.le_of_ble_eq_true rfl⟩) (x_recv X hW ob_Model z_1) rfl hl.1 rfl (Nat.le_of_ble_eq_true rfl) dX12_findTried_65 ⟨Nat.zero_le _, Nat.zero_le _⟩) (fun H locs hW => ?_)
      refine lv_iconst (v := 0) X.1 X.2.1 dX12_findTried_68 rfl ?_
      refine lv_istore (lv' := [(7, .int 0), (0, .ref (G.2.2 200 0)), (1, .int v1), (2, .ref (G.2.2 cv2 v2)), (3, .int v3), (4, .ref (G.2.2 cv4 v4)), (5, .int v5), (6, .int v6)]) X.1 X.2.1 dX12_findTried_69 hl (by decide) rfl (fun ls hl => ?_)
      exact w_X12_findTried_71 X v1 cv2 v2 v3 cv4 v4 v5 v6  (L_X12_findTried_3 v1 cv2 v2 v3 cv4 v4 v5 n) ih fu 0 S20 _ _ _ h hW  (lv_sub hl [1, 2, 3, 4, 5, 6, 7, 0] rfl)
set_option maxRecDepth 100000 in
set_option maxHeartbeats 4000000 in
theorem w_X12_findTried_0 {p : Program} {l : Launch} {e : Env} {s : State} {m : MethodId} {args : Array Value} {below : List Frame} {meth : Method} {c : Code} {G : xG} {sz : Nat} {o : Unit × Mm} (X : xC G true sz p s m args c cX12_findTried 8 wsX12_findTried RX12 meth none) (v1 : Int32) (cv2 : Nat) (v2 : Nat) (v3 : Int32) (cv4 : Nat) (v4 : Nat) (v5 : Int32) {S : Mm} {H : Heap} {locs : List Loc} {ls : Array Slot} (hW : xW G true sz s H locs S) (hl : lv_has ls 8 [(0, .ref (G.2.2 200 0)), (1, .int v1), (2, .ref (G.2.2 cv2 v2)), (3, .int v3), (4, .ref (G.2.2 cv4 v4)), (5, .int v5)]) (h : F_X12_findTried v1 cv2 v2 v3 cv4 v4 v5 S = some o) : wX p l e rmX12_findTried s m args below meth c H locs (xQv G true sz o) (XA G true sz) 0 ls [] := by
  unfold F_X12_findTried at h
  refine lv_iconst (v := 0) X.1 X.2.1 dX12_findTried_0 rfl ?_
  refine lv_istore (lv' := [(6, .int 0), (0, .ref (G.2.2 200 0)), (1, .int v1), (2, .ref (G.2.2 cv2 v2)), (3, .int v3), (4, .ref (G.2.2 cv4 v4)), (5, .int v5)]) X.1 X.2.1 dX12_findTried_1 hl (by decide) rfl (fun ls hl => ?_)
  exact w_X12_findTried_3 X v1 cv2 v2 v3 cv4 v4 v5   fu 0 S _ _ _ h hW  (lv_sub hl [1, 2, 3, 4, 5, 6, 0] rfl)
theorem c_X12_findTried (l : Launch) (G : xG) (hD : xD G true) (sz : Nat) (S : Mm) (v1 : Int32) (cv2 : Nat) (v2 : Nat) (v3 : Int32) (cv4 : Nat) (v4 : Nat) (v5 : Int32) (o : Unit × Mm) (h : F_X12_findTried v1 cv2 v2 v3 cv4 v4 v5 S = some o) : Met l yX12_findTried wsX12_findTried rmX12_findTried (xPre G true S sz [.ref (G.2.2 200 0), .int v1, .ref (G.2.2 cv2 v2), .int v3, .ref (G.2.2 cv4 v4), .int v5]) (xQv G true sz o) 0 0 (XA G true sz) :=
  x_start hD (by decide) rfl (Nat.le_of_ble_eq_true rfl) (fun p e s m below meth c X hW ls hl => w_X12_findTried_0 X v1 cv2 v2 v3 cv4 v4 v5 hW hl h)

/-! WirelessCellModel.keepTried(I)V -/
def rmX12_keepTried : Room := { frames := 0, cells := 0, slots := 0, locals := 0 }
def L_X12_keepTried_2  (v1 : Int32) : Nat → Int32 → Mm → Option (Unit × Mm)
  | 0, _, _ => none
  | n + 1, v2, S => 
    if 48 ≤ v2 then (
    stA S 224 0 18 1 v1 (1 &&& 1) fun S1 =>
    some ((), S1))
    else (
    ldA S 233 0 48 1 v2 fun x2 =>
    stA S 223 0 864 1 ((48 * v1) + v2) x2 fun S3 =>
    (L_X12_keepTried_2 v1 n) (v2 + 1) S3)
def F_X12_keepTried (v1 : Int32) (S : Mm) : Option (Unit × Mm) :=
  L_X12_keepTried_2  v1 fu 0 S
set_option maxRecDepth 100000 in
set_option maxHeartbeats 4000000 in
theorem w_X12_keepTried_2 {p : Program} {l : Launch} {e : Env} {s : State} {m : MethodId} {args : Array Value} {below : List Frame} {meth : Method} {c : Code} {G : xG} {sz : Nat} {o : Unit × Mm} (X : xC G true sz p s m args c cX12_keepTried 3 wsX12_keepTried RX12 meth none) (v1 : Int32)   : ∀ (n : Nat) (v2 : Int32) (S : Mm) (H : Heap) (locs : List Loc) (ls : Array Slot), L_X12_keepTried_2 v1 n v2 S = some o → xW G true sz s H locs S → lv_has ls 3 [(0, .ref (G.2.2 200 0)), (1, .int v1), (2, .int v2)] → wX p l e rmX12_keepTried s m args below meth c H locs (xQv G true sz o) (XA G true sz) 2 ls [] := by
  intro n
  induction n with
  | zero =>
    intro v2 S H locs ls h
    cases h
  | succ n ih =>
    intro v2 S H locs ls h hW  hl
    rw [L_X12_keepTried_2] at h
    refine lv_iload_n X.1 X.2.1 dX12_keepTried_2 rfl (lv_at hl 2 rfl) ?_
    refine lv_bipush (v := 48) X.1 X.2.1 dX12_keepTried_3 rfl ?_
    refine x_icmp_ge X (tgt := 31) dX12_keepTried_5 (by decide) h (fun h => ?_) (fun h => ?_)
    · refine lv_aload_n X.1 X.2.1 dX12_keepTried_31 rfl (lv_at hl 0 rfl) ?_
      refine x_getR X hW fd_Model_hasTried (fun w h => List.mem_cons_of_mem _ (gin_X12 w h)) (List.mem_cons_of_mem _ gw174) z_1 dX12_keepTried_32 ?_
      refine lv_iload_n X.1 X.2.1 dX12_keepTried_35 rfl (lv_at hl 1 rfl) ?_
      refine lv_iconst (v := 1) X.1 X.2.1 dX12_keepTried_36 rfl ?_
      refine x_zast X hW ar_224 dX12_keepTried_37 h (fun S1 H locs h hW => ?_)
      exact x_vret X hW h dX12_keepTried_38
    · refine lv_aload_n X.1 X.2.1 dX12_keepTried_8 rfl (lv_at hl 0 rfl) ?_
      refine x_getR X hW fd_Model_tried (fun w h => List.mem_cons_of_mem _ (gin_X12 w h)) (List.mem_cons_of_mem _ gw173) z_1 dX12_keepTried_9 ?_
      refine lv_bipush (v := 48) X.1 X.2.1 dX12_keepTried_12 rfl ?_
      refine lv_iload_n X.1 X.2.1 dX12_keepTried_14 rfl (lv_at hl 1 rfl) ?_
      refine lv_imul X.1 X.2.1 dX12_keepTried_15 ?_
      refine lv_iload_n X.1 X.2.1 dX12_keepTried_16 rfl (lv_at hl 2 rfl) ?_
      refine lv_iadd X.1 X.2.1 dX12_keepTried_17 ?_
      refine lv_aload_n X.1 X.2.1 dX12_keepTried_18 rfl (lv_at hl 0 rfl) ?_
      refine x_getR X hW fd_Model_fresh (fun w h => List.mem_cons_of_mem _ (gin_X12 w h)) (List.mem_cons_of_mem _ gw184) z_1 dX12_keepTried_19 ?_
      refine lv_iload_n X.1 X.2.1 dX12_keepTried_22 rfl (lv_at hl 2 rfl) ?_
      refine x_iald X hW ar_233 dX12_keepTried_23 h (fun x2 h => ?_)
      refine x_iast X hW ar_223 dX12_keepTried_24 h (fun S3 H locs h hW => ?_)
      refine lv_iinc (v := (v2 + 1)) (lv' := [(2, .int (v2 + 1)), (0, .ref (G.2.2 200 0)), (1, .int v1)]) X.1 X.2.1 dX12_keepTried_25 hl (k := 2) rfl rfl (by decide) rfl (fun ls hl => ?_)
      refine lv_goto (tgt := 2) X.1 X.2.1 dX12_keepTried_28 (by decide) ?_
      exact ih (v2 + 1) S3 _ _ _ h hW  (lv_sub hl [1, 2, 0] rfl)
set_option maxRecDepth 100000 in
set_option maxHeartbeats 4000000 in
theorem w_X12_keepTried_0 {p : Program} {l : Launch} {e : Env} {s : State} {m : MethodId} {args : Array Value} {below : List Frame} {meth : Method} {c : Code} {G : xG} {sz : Nat} {o : Unit × Mm} (X : xC G true sz p s m args c cX12_keepTried 3 wsX12_keepTried RX12 meth none) (v1 : Int32) {S : Mm} {H : Heap} {locs : List Loc} {ls : Array Slot} (hW : xW G true sz s H locs S) (hl : lv_has ls 3 [(0, .ref (G.2.2 200 0)), (1, .int v1)]) (h : F_X12_keepTried v1 S = some o) : wX p l e rmX12_keepTried s m args below meth c H locs (xQv G true sz o) (XA G true sz) 0 ls [] := by
  unfold F_X12_keepTried at h
  refine lv_iconst (v := 0) X.1 X.2.1 dX12_keepTried_0 rfl ?_
  refine lv_istore_n (lv' := [(2, .int 0), (0, .ref (G.2.2 200 0)), (1, .int v1)]) X.1 X.2.1 dX12_keepTried_1 rfl hl (by decide) rfl (fun ls hl => ?_)
  exact w_X12_keepTried_2 X v1   fu 0 S _ _ _ h hW  (lv_sub hl [1, 2, 0] rfl)
theorem c_X12_keepTried (l : Launch) (G : xG) (hD : xD G true) (sz : Nat) (S : Mm) (v1 : Int32) (o : Unit × Mm) (h : F_X12_keepTried v1 S = some o) : Met l yX12_keepTried wsX12_keepTried rmX12_keepTried (xPre G true S sz [.ref (G.2.2 200 0), .int v1]) (xQv G true sz o) 0 0 (XA G true sz) :=
  x_start hD (by decide) rfl (Nat.le_of_ble_eq_true rfl) (fun p e s m below meth c X hW ls hl => w_X12_keepTried_0 X v1 hW hl h)

/-! WirelessCellModel.macOf([II[III)V -/
def rmX12_macOf : Room := { frames := 4, cells := 0, slots := 0, locals := 95 }
def L_X12_macOf_11  (cv3 : Nat) (v3 : Nat) (v4 : Int32) (v5 : Int32) : Nat → Int32 → Mm → Option (Unit × Mm)
  | 0, _, _ => none
  | n + 1, v6, S => 
    if v5 ≤ v6 then (
    cl (F_X12_macEnd S) fun r4 S5 =>
    some ((), S5))
    else (
    ldP true S cv3 v3 (v4 + v6) fun x7 =>
    cl (F_X12_hash x7 S) fun r8 S9 =>
    (L_X12_macOf_11 cv3 v3 v4 v5 n) (v6 + 1) S9)
def F_X12_macOf (cv1 : Nat) (v1 : Nat) (v2 : Int32) (cv3 : Nat) (v3 : Nat) (v4 : Int32) (v5 : Int32) (S : Mm) : Option (Unit × Mm) :=
  cl (F_X12_macBegin cv1 v1 v2 16 S) fun r1 S2 =>
  L_X12_macOf_11  cv3 v3 v4 v5 fu 0 S2
set_option maxRecDepth 100000 in
set_option maxHeartbeats 4000000 in
theorem w_X12_macOf_11 {p : Program} {l : Launch} {e : Env} {s : State} {m : MethodId} {args : Array Value} {below : List Frame} {meth : Method} {c : Code} {G : xG} {sz : Nat} {o : Unit × Mm} (X : xC G true sz p s m args c cX12_macOf 7 wsX12_macOf RX12 meth none) (cv3 : Nat) (v3 : Nat) (v4 : Int32) (v5 : Int32)   : ∀ (n : Nat) (v6 : Int32) (S : Mm) (H : Heap) (locs : List Loc) (ls : Array Slot), L_X12_macOf_11 cv3 v3 v4 v5 n v6 S = some o → xW G true sz s H locs S → lv_has ls 7 [(0, .ref (G.2.2 200 0)), (3, .ref (G.2.2 cv3 v3)), (4, .int v4), (5, .int v5), (6, .int v6)] → wX p l e rmX12_macOf s m args below meth c H locs (xQv G true sz o) (XA G true sz) 11 ls [] := by
  intro n
  induction n with
  | zero =>
    intro v6 S H locs ls h
    cases h
  | succ n ih =>
    intro v6 S H locs ls h hW  hl
    rw [L_X12_macOf_11] at h
    refine lv_iload X.1 X.2.1 dX12_macOf_11 (lv_at hl 4 rfl) ?_
    refine lv_iload X.1 X.2.1 dX12_macOf_13 (lv_at hl 3 rfl) ?_
    refine x_icmp_ge X (tgt := 35) dX12_macOf_15 (by decide) h (fun h => ?_) (fun h => ?_)
    · refine lv_aload_n X.1 X.2.1 dX12_macOf_35 rfl (lv_at hl 0 rfl) ?_
      obtain ⟨r4, S5, h6, h⟩ := cl_some h
      refine x_aftV X hW (x_runV (C := RX12) (a := G.2.2 200 0) (As := []) (rest := []) X hW (c_X12_macEnd l G X.2.2.2.2.2.2.2.2.2.1 _ S _ h6) (cwV 0 X.2.2.2.2.1 (gV gw1165 gw1166 gw1167 gw5 gw1168) rfl rfl rfl ⟨rfl, hd_X12_macEnd⟩ ⟨Nat.le_of_ble_eq_true rfl, Nat.le_of_ble_eq_true rfl⟩) (x_recv X hW ob_Model z_1) rfl hl.1 rfl (Nat.le_of_ble_eq_true rfl) dX12_macOf_36 ⟨Nat.zero_le _, Nat.zero_le _⟩) (fun H locs hW => ?_)
      exact x_vret X hW h dX12_macOf_39
    · refine lv_aload_n X.1 X.2.1 dX12_macOf_18 rfl (lv_at hl 0 rfl) ?_
      refine lv_aload_n X.1 X.2.1 dX12_macOf_19 rfl (lv_at hl 1 rfl) ?_
      refine lv_iload X.1 X.2.1 dX12_macOf_20 (lv_at hl 2 rfl) ?_
      refine lv_iload X.1 X.2.1 dX12_macOf_22 (lv_at hl 4 rfl) ?_
      refine lv_iadd X.1 X.2.1 dX12_macOf_24 ?_
      refine x_ialdP X hW dX12_macOf_25 h (fun x7 h => ?_)
      obtain ⟨r8, S9, h10, h⟩ := cl_some h
      refine x_aftV X hW (x_runV (C := RX12) (a := G.2.2 200 0) (As := [.int x7]) (rest := []) X hW (c_X12_hash l G X.2.2.2.2.2.2.2.2.2.1 _ S x7 _ h10) (cwV 1 X.2.2.2.2.1 (gV gw1154 gw1155 gw1156 gw5 gw1157) rfl rfl rfl ⟨rfl, hd_X12_hash⟩ ⟨Nat.le_of_ble_eq_true rfl, Nat.le_of_ble_eq_true rfl⟩) (x_recv X hW ob_Model z_1) rfl hl.1 rfl (Nat.le_of_ble_eq_true rfl) dX12_macOf_26 ⟨Nat.zero_le _, Nat.zero_le _⟩) (fun H locs hW => ?_)
      refine lv_iinc (v := (v6 + 1)) (lv' := [(6, .int (v6 + 1)), (0, .ref (G.2.2 200 0)), (3, .ref (G.2.2 cv3 v3)), (4, .int v4), (5, .int v5)]) X.1 X.2.1 dX12_macOf_29 hl (k := 4) rfl rfl (by decide) rfl (fun ls hl => ?_)
      refine lv_goto (tgt := 11) X.1 X.2.1 dX12_macOf_32 (by decide) ?_
      exact ih (v6 + 1) S9 _ _ _ h hW  (lv_sub hl [1, 2, 3, 4, 0] rfl)
set_option maxRecDepth 100000 in
set_option maxHeartbeats 4000000 in
theorem w_X12_macOf_0 {p : Program} {l : Launch} {e : Env} {s : State} {m : MethodId} {args : Array Value} {below : List Frame} {meth : Method} {c : Code} {G : xG} {sz : Nat} {o : Unit × Mm} (X : xC G true sz p s m args c cX12_macOf 7 wsX12_macOf RX12 meth none) (cv1 : Nat) (v1 : Nat) (v2 : Int32) (cv3 : Nat) (v3 : Nat) (v4 : Int32) (v5 : Int32) {S : Mm} {H : Heap} {locs : List Loc} {ls : Array Slot} (hW : xW G true sz s H locs S) (hl : lv_has ls 7 [(0, .ref (G.2.2 200 0)), (1, .ref (G.2.2 cv1 v1)), (2, .int v2), (3, .ref (G.2.2 cv3 v3)), (4, .int v4), (5, .int v5)]) (h : F_X12_macOf cv1 v1 v2 cv3 v3 v4 v5 S = some o) : wX p l e rmX12_macOf s m args below meth c H locs (xQv G true sz o) (XA G true sz) 0 ls [] := by
  unfold F_X12_macOf at h
  refine lv_aload_n X.1 X.2.1 dX12_macOf_0 rfl (lv_at hl 0 rfl) ?_
  refine lv_aload_n X.1 X.2.1 dX12_macOf_1 rfl (lv_at hl 1 rfl) ?_
  refine lv_iload_n X.1 X.2.1 dX12_macOf_2 rfl (lv_at hl 2 rfl) ?_
  refine lv_bipush (v := 16) X.1 X.2.1 dX12_macOf_3 rfl ?_
  obtain ⟨r1, S2, h3, h⟩ := cl_some h
  refine x_aftV X hW (x_runV (C := RX12) (a := G.2.2 200 0) (As := [.ref (G.2.2 cv1 v1), .int v2, .int 16]) (rest := []) X hW (c_X12_macBegin l G X.2.2.2.2.2.2.2.2.2.1 _ S cv1 v1 v2 16 _ h3) (cwV 3 X.2.2.2.2.1 (gV gw1139 gw1140 gw1141 gw5 gw1142) rfl rfl rfl ⟨rfl, hd_X12_macBegin⟩ ⟨Nat.le_of_ble_eq_true rfl, Nat.le_of_ble_eq_true rfl⟩) (x_recv X hW ob_Model z_1) rfl hl.1 rfl (Nat.le_of_ble_eq_true rfl) dX12_macOf_5 ⟨Nat.zero_le _, Nat.zero_le _⟩) (fun H locs hW => ?_)
  refine lv_iconst (v := 0) X.1 X.2.1 dX12_macOf_8 rfl ?_
  refine lv_istore (lv' := [(6, .int 0), (0, .ref (G.2.2 200 0)), (1, .ref (G.2.2 cv1 v1)), (2, .int v2), (3, .ref (G.2.2 cv3 v3)), (4, .int v4), (5, .int v5)]) X.1 X.2.1 dX12_macOf_9 hl (by decide) rfl (fun ls hl => ?_)
  exact w_X12_macOf_11 X cv3 v3 v4 v5   fu 0 S2 _ _ _ h hW  (lv_sub hl [1, 4, 5, 6, 0] rfl)
theorem c_X12_macOf (l : Launch) (G : xG) (hD : xD G true) (sz : Nat) (S : Mm) (cv1 : Nat) (v1 : Nat) (v2 : Int32) (cv3 : Nat) (v3 : Nat) (v4 : Int32) (v5 : Int32) (o : Unit × Mm) (h : F_X12_macOf cv1 v1 v2 cv3 v3 v4 v5 S = some o) : Met l yX12_macOf wsX12_macOf rmX12_macOf (xPre G true S sz [.ref (G.2.2 200 0), .ref (G.2.2 cv1 v1), .int v2, .ref (G.2.2 cv3 v3), .int v4, .int v5]) (xQv G true sz o) 0 0 (XA G true sz) :=
  x_start hD (by decide) rfl (Nat.le_of_ble_eq_true rfl) (fun p e s m below meth c X hW ls hl => w_X12_macOf_0 X cv1 v1 v2 cv3 v3 v4 v5 hW hl h)

/-! WirelessCellModel.isMac([II[III)Z -/
def rmX12_isMac : Room := { frames := 5, cells := 0, slots := 0, locals := 121 }
def L_X12_isMac_54 (k17 : Int32 → Int32 → Mm → Option (Int32 × Mm)) (cv3 : Nat) (v3 : Nat) (v4 : Int32) (v5 : Int32) (v7 : Int32) (s0 : Int32) (S : Mm) : Option (Int32 × Mm) :=
  k17 s0 (v7 + 1) S
def L_X12_isMac_53 (k17 : Int32 → Int32 → Mm → Option (Int32 × Mm)) (cv3 : Nat) (v3 : Nat) (v4 : Int32) (v5 : Int32) (v7 : Int32) (S : Mm) : Option (Int32 × Mm) :=
  L_X12_isMac_54 k17 cv3 v3 v4 v5 v7 0 S
def L_X12_isMac_17  (cv3 : Nat) (v3 : Nat) (v4 : Int32) (v5 : Int32) : Nat → Int32 → Int32 → Mm → Option (Int32 × Mm)
  | 0, _, _, _ => none
  | n + 1, v6, v7, S => 
    if 16 ≤ v7 then (
    gd (v6 &&& 1 = v6) (some (v6, S)))
    else (
    if v6 = 0 then (
    L_X12_isMac_53 (L_X12_isMac_17 cv3 v3 v4 v5 n) cv3 v3 v4 v5 v7 S)
    else (
    ldP true S cv3 v3 ((v4 + v5) + v7) fun x5 =>
    ldA S 204 0 20 1 v7 fun x6 =>
    if x5 = x6 then (
    L_X12_isMac_54 (L_X12_isMac_17 cv3 v3 v4 v5 n) cv3 v3 v4 v5 v7 1 S)
    else (
    L_X12_isMac_53 (L_X12_isMac_17 cv3 v3 v4 v5 n) cv3 v3 v4 v5 v7 S)))
def F_X12_isMac (cv1 : Nat) (v1 : Nat) (v2 : Int32) (cv3 : Nat) (v3 : Nat) (v4 : Int32) (v5 : Int32) (S : Mm) : Option (Int32 × Mm) :=
  cl (F_X12_macOf cv1 v1 v2 cv3 v3 v4 v5 S) fun r1 S2 =>
  L_X12_isMac_17  cv3 v3 v4 v5 fu 1 0 S2
set_option maxRecDepth 100000 in
set_option maxHeartbeats 4000000 in
theorem w_X12_isMac_54 {p : Program} {l : Launch} {e : Env} {s : State} {m : MethodId} {args : Array Value} {below : List Frame} {meth : Method} {c : Code} {G : xG} {sz : Nat} {o : Int32 × Mm} (X : xC G true sz p s m args c cX12_isMac 8 wsX12_isMac RX12 meth (some .boolean)) (cv3 : Nat) (v3 : Nat) (v4 : Int32) (v5 : Int32) (v7 : Int32) (s0 : Int32)  (k17 : Int32 → Int32 → Mm → Option (Int32 × Mm)) (hk17 : ∀ (v6 : Int32) (v7 : Int32) (S : Mm) (H : Heap) (locs : List Loc) (ls : Array Slot), k17 v6 v7 S = some o → xW G true sz s H locs S → lv_has ls 8 [(0, .ref (G.2.2 200 0)), (3, .ref (G.2.2 cv3 v3)), (4, .int v4), (5, .int v5), (6, .int v6), (7, .int v7)] → wX p l e rmX12_isMac s m args below meth c H locs (xQi G true sz o) (XA G true sz) 17 ls []) {S : Mm} {H : Heap} {locs : List Loc} {ls : Array Slot} (hW : xW G true sz s H locs S) (hl : lv_has ls 8 [(0, .ref (G.2.2 200 0)), (3, .ref (G.2.2 cv3 v3)), (4, .int v4), (5, .int v5), (7, .int v7)]) (h : L_X12_isMac_54 k17 cv3 v3 v4 v5 v7 s0 S = some o) : wX p l e rmX12_isMac s m args below meth c H locs (xQi G true sz o) (XA G true sz) 54 ls [.int s0] := by
  unfold L_X12_isMac_54 at h
  refine lv_istore (lv' := [(6, .int s0), (0, .ref (G.2.2 200 0)), (3, .ref (G.2.2 cv3 v3)), (4, .int v4), (5, .int v5), (7, .int v7)]) X.1 X.2.1 dX12_isMac_54 hl (by decide) rfl (fun ls hl => ?_)
  refine lv_iinc (v := (v7 + 1)) (lv' := [(7, .int (v7 + 1)), (6, .int s0), (0, .ref (G.2.2 200 0)), (3, .ref (G.2.2 cv3 v3)), (4, .int v4), (5, .int v5)]) X.1 X.2.1 dX12_isMac_56 hl (k := 5) rfl rfl (by decide) rfl (fun ls hl => ?_)
  refine lv_goto (tgt := 17) X.1 X.2.1 dX12_isMac_59 (by decide) ?_
  exact hk17 s0 (v7 + 1) S _ _ _ h hW  (lv_sub hl [2, 3, 4, 5, 1, 0] rfl)
set_option maxRecDepth 100000 in
set_option maxHeartbeats 4000000 in
theorem w_X12_isMac_53 {p : Program} {l : Launch} {e : Env} {s : State} {m : MethodId} {args : Array Value} {below : List Frame} {meth : Method} {c : Code} {G : xG} {sz : Nat} {o : Int32 × Mm} (X : xC G true sz p s m args c cX12_isMac 8 wsX12_isMac RX12 meth (some .boolean)) (cv3 : Nat) (v3 : Nat) (v4 : Int32) (v5 : Int32) (v7 : Int32)  (k17 : Int32 → Int32 → Mm → Option (Int32 × Mm)) (hk17 : ∀ (v6 : Int32) (v7 : Int32) (S : Mm) (H : Heap) (locs : List Loc) (ls : Array Slot), k17 v6 v7 S = some o → xW G true sz s H locs S → lv_has ls 8 [(0, .ref (G.2.2 200 0)), (3, .ref (G.2.2 cv3 v3)), (4, .int v4), (5, .int v5), (6, .int v6), (7, .int v7)] → wX p l e rmX12_isMac s m args below meth c H locs (xQi G true sz o) (XA G true sz) 17 ls []) {S : Mm} {H : Heap} {locs : List Loc} {ls : Array Slot} (hW : xW G true sz s H locs S) (hl : lv_has ls 8 [(0, .ref (G.2.2 200 0)), (3, .ref (G.2.2 cv3 v3)), (4, .int v4), (5, .int v5), (7, .int v7)]) (h : L_X12_isMac_53 k17 cv3 v3 v4 v5 v7 S = some o) : wX p l e rmX12_isMac s m args below meth c H locs (xQi G true sz o) (XA G true sz) 53 ls [] := by
  unfold L_X12_isMac_53 at h
  refine lv_iconst (v := 0) X.1 X.2.1 dX12_isMac_53 rfl ?_
  exact w_X12_isMac_54 X cv3 v3 v4 v5 v7 0  k17 hk17 hW (lv_sub hl [0, 1, 2, 3, 4] rfl) h
set_option maxRecDepth 100000 in
set_option maxHeartbeats 4000000 in
theorem w_X12_isMac_17 {p : Program} {l : Launch} {e : Env} {s : State} {m : MethodId} {args : Array Value} {below : List Frame} {meth : Method} {c : Code} {G : xG} {sz : Nat} {o : Int32 × Mm} (X : xC G true sz p s m args c cX12_isMac 8 wsX12_isMac RX12 meth (some .boolean)) (cv3 : Nat) (v3 : Nat) (v4 : Int32) (v5 : Int32)   : ∀ (n : Nat) (v6 : Int32) (v7 : Int32) (S : Mm) (H : Heap) (locs : List Loc) (ls : Array Slot), L_X12_isMac_17 cv3 v3 v4 v5 n v6 v7 S = some o → xW G true sz s H locs S → lv_has ls 8 [(0, .ref (G.2.2 200 0)), (3, .ref (G.2.2 cv3 v3)), (4, .int v4), (5, .int v5), (6, .int v6), (7, .int v7)] → wX p l e rmX12_isMac s m args below meth c H locs (xQi G true sz o) (XA G true sz) 17 ls [] := by
  intro n
  induction n with
  | zero =>
    intro v6 v7 S H locs ls h
    cases h
  | succ n ih =>
    intro v6 v7 S H locs ls h hW  hl
    rw [L_X12_isMac_17] at h
    refine lv_iload X.1 X.2.1 dX12_isMac_17 (lv_at hl 5 rfl) ?_
    refine lv_bipush (v := 16) X.1 X.2.1 dX12_isMac_19 rfl ?_
    refine x_icmp_ge X (tgt := 62) dX12_isMac_21 (by decide) h (fun h => ?_) (fun h => ?_)
    · refine lv_iload X.1 X.2.1 dX12_isMac_62 (lv_at hl 4 rfl) ?_
      obtain ⟨g4, h⟩ := if_some h
      exact x_zret X hW h g4 dX12_isMac_64
    · refine lv_iload X.1 X.2.1 dX12_isMac_24 (lv_at hl 4 rfl) ?_
      refine x_if_eq X (tgt := 53) dX12_isMac_26 (by decide) h (fun h => ?_) (fun h => ?_)
      · exact w_X12_isMac_53 X cv3 v3 v4 v5 v7  (L_X12_isMac_17 cv3 v3 v4 v5 n) ih hW (lv_sub hl [0, 1, 2, 3, 5] rfl) h
      · refine lv_aload_n X.1 X.2.1 dX12_isMac_29 rfl (lv_at hl 1 rfl) ?_
        refine lv_iload X.1 X.2.1 dX12_isMac_30 (lv_at hl 2 rfl) ?_
        refine lv_iload X.1 X.2.1 dX12_isMac_32 (lv_at hl 3 rfl) ?_
        refine lv_iadd X.1 X.2.1 dX12_isMac_34 ?_
        refine lv_iload X.1 X.2.1 dX12_isMac_35 (lv_at hl 5 rfl) ?_
        refine lv_iadd X.1 X.2.1 dX12_isMac_37 ?_
        refine x_ialdP X hW dX12_isMac_38 h (fun x5 h => ?_)
        refine lv_aload_n X.1 X.2.1 dX12_isMac_39 rfl (lv_at hl 0 rfl) ?_
        refine x_getR X hW fd_Model_digest (fun w h => List.mem_cons_of_mem _ (gin_X12 w h)) (List.mem_cons_of_mem _ gw154) z_1 dX12_isMac_40 ?_
        refine lv_iload X.1 X.2.1 dX12_isMac_43 (lv_at hl 5 rfl) ?_
        refine x_iald X hW ar_204 dX12_isMac_45 h (fun x6 h => ?_)
        refine x_icmp_ne X (tgt := 53) dX12_isMac_46 (by decide) h (fun h => ?_) (fun h => ?_)
        · exact w_X12_isMac_53 X cv3 v3 v4 v5 v7  (L_X12_isMac_17 cv3 v3 v4 v5 n) ih hW (lv_sub hl [0, 1, 2, 3, 5] rfl) h
        · refine lv_iconst (v := 1) X.1 X.2.1 dX12_isMac_49 rfl ?_
          refine lv_goto (tgt := 54) X.1 X.2.1 dX12_isMac_50 (by decide) ?_
          exact w_X12_isMac_54 X cv3 v3 v4 v5 v7 1  (L_X12_isMac_17 cv3 v3 v4 v5 n) ih hW (lv_sub hl [0, 1, 2, 3, 5] rfl) h
set_option maxRecDepth 100000 in
set_option maxHeartbeats 4000000 in
theorem w_X12_isMac_0 {p : Program} {l : Launch} {e : Env} {s : State} {m : MethodId} {args : Array Value} {below : List Frame} {meth : Method} {c : Code} {G : xG} {sz : Nat} {o : Int32 × Mm} (X : xC G true sz p s m args c cX12_isMac 8 wsX12_isMac RX12 meth (some .boolean)) (cv1 : Nat) (v1 : Nat) (v2 : Int32) (cv3 : Nat) (v3 : Nat) (v4 : Int32) (v5 : Int32) {S : Mm} {H : Heap} {locs : List Loc} {ls : Array Slot} (hW : xW G true sz s H locs S) (hl : lv_has ls 8 [(0, .ref (G.2.2 200 0)), (1, .ref (G.2.2 cv1 v1)), (2, .int v2), (3, .ref (G.2.2 cv3 v3)), (4, .int v4), (5, .int v5)]) (h : F_X12_isMac cv1 v1 v2 cv3 v3 v4 v5 S = some o) : wX p l e rmX12_isMac s m args below meth c H locs (xQi G true sz o) (XA G true sz) 0 ls [] := by
  unfold F_X12_isMac at h
  refine lv_aload_n X.1 X.2.1 dX12_isMac_0 rfl (lv_at hl 0 rfl) ?_
  refine lv_aload_n X.1 X.2.1 dX12_isMac_1 rfl (lv_at hl 1 rfl) ?_
  refine lv_iload_n X.1 X.2.1 dX12_isMac_2 rfl (lv_at hl 2 rfl) ?_
  refine lv_aload_n X.1 X.2.1 dX12_isMac_3 rfl (lv_at hl 3 rfl) ?_
  refine lv_iload X.1 X.2.1 dX12_isMac_4 (lv_at hl 4 rfl) ?_
  refine lv_iload X.1 X.2.1 dX12_isMac_6 (lv_at hl 5 rfl) ?_
  obtain ⟨r1, S2, h3, h⟩ := cl_some h
  refine x_aftV X hW (x_runV (C := RX12) (a := G.2.2 200 0) (As := [.ref (G.2.2 cv1 v1), .int v2, .ref (G.2.2 cv3 v3), .int v4, .int v5]) (rest := []) X hW (c_X12_macOf l G X.2.2.2.2.2.2.2.2.2.1 _ S cv1 v1 v2 cv3 v3 v4 v5 _ h3) (cwV 5 X.2.2.2.2.1 (gV gw1135 gw1136 gw1137 gw5 gw1138) rfl rfl rfl ⟨rfl, hd_X12_macOf⟩ ⟨Nat.le_of_ble_eq_true rfl, Nat.le_of_ble_eq_true rfl⟩) (x_recv X hW ob_Model z_1) rfl hl.1 rfl (Nat.le_of_ble_eq_true rfl) dX12_isMac_8 ⟨Nat.zero_le _, Nat.zero_le _⟩) (fun H locs hW => ?_)
  refine lv_iconst (v := 1) X.1 X.2.1 dX12_isMac_11 rfl ?_
  refine lv_istore (lv' := [(6, .int 1), (0, .ref (G.2.2 200 0)), (1, .ref (G.2.2 cv1 v1)), (2, .int v2), (3, .ref (G.2.2 cv3 v3)), (4, .int v4), (5, .int v5)]) X.1 X.2.1 dX12_isMac_12 hl (by decide) rfl (fun ls hl => ?_)
  refine lv_iconst (v := 0) X.1 X.2.1 dX12_isMac_14 rfl ?_
  refine lv_istore (lv' := [(7, .int 0), (6, .int 1), (0, .ref (G.2.2 200 0)), (1, .ref (G.2.2 cv1 v1)), (2, .int v2), (3, .ref (G.2.2 cv3 v3)), (4, .int v4), (5, .int v5)]) X.1 X.2.1 dX12_isMac_15 hl (by decide) rfl (fun ls hl => ?_)
  exact w_X12_isMac_17 X cv3 v3 v4 v5   fu 1 0 S2 _ _ _ h hW  (lv_sub hl [2, 5, 6, 7, 1, 0] rfl)
theorem c_X12_isMac (l : Launch) (G : xG) (hD : xD G true) (sz : Nat) (S : Mm) (cv1 : Nat) (v1 : Nat) (v2 : Int32) (cv3 : Nat) (v3 : Nat) (v4 : Int32) (v5 : Int32) (o : Int32 × Mm) (h : F_X12_isMac cv1 v1 v2 cv3 v3 v4 v5 S = some o) : Met l yX12_isMac wsX12_isMac rmX12_isMac (xPre G true S sz [.ref (G.2.2 200 0), .ref (G.2.2 cv1 v1), .int v2, .ref (G.2.2 cv3 v3), .int v4, .int v5]) (xQi G true sz o) 0 0 (XA G true sz) :=
  x_start hD (by decide) rfl (Nat.le_of_ble_eq_true rfl) (fun p e s m below meth c X hW ls hl => w_X12_isMac_0 X cv1 v1 v2 cv3 v3 v4 v5 hW hl h)
